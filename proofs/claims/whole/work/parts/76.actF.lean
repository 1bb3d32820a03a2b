/-! PURE LAYER: what was seen is dropped; unsee, slide, strike -/
def unS (σ : Sg) (k : Nat) : Sg := fun j => if j = 177 then σ 177 - 1 else if 178 + 4 * k ≤ j then (if j + 4 < 226 then σ (j + 4) else 0) else σ j
theorem un_lo {σ : Sg} {k j : Nat} (h : j < 177) : unS σ k j = σ j := by
  unfold unS
  rw [if_neg (by omega), if_neg (by omega)]
theorem un_177 {σ : Sg} {k : Nat} : unS σ k 177 = σ 177 - 1 := if_pos rfl
theorem un_b {σ : Sg} {k j : Nat} (h : j < 4 * k) : unS σ k (178 + j) = σ (178 + j) := by
  unfold unS
  rw [if_neg (by omega), if_neg (by omega)]
theorem un_a {σ : Sg} {k j : Nat} (h : 4 * k ≤ j) (h2 : j < 44) : unS σ k (178 + j) = σ (178 + (j + 4)) := by
  unfold unS
  rw [if_neg (by omega), if_pos (by omega), if_pos (by omega), Nat.add_assoc]
theorem g_unsees {M : Mem} {LM : MemL} {σ : Sg} (hM : StM M σ) {k : Nat} (hk : k < σ 177) (h6 : σ 177 ≤ 12) {F : Nat} (hF : 10000 ≤ F) : ∃ M', f_X10_unsees F M LM (nI k) = some M' ∧ StM M' (unS σ k) ∧ ∀ c, c ≠ 1 → M' c = M c := by
  unfold f_X10_unsees
  obtain ⟨M1, t1, t2⟩ := fill_up (f_X10_unsees_8 F LM (fun M_48 => ck 177 226 (ck 177 226 ((some (mr M_48 1 (upd (M_48 1) (177 : Int32).toNatClampNeg (((M_48 1) (177 : Int32).toNatClampNeg) - 1)))))))) (fun M_48 => ck 177 226 (ck 177 226 ((some (mr M_48 1 (upd (M_48 1) (177 : Int32).toNatClampNeg (((M_48 1) (177 : Int32).toNatClampNeg) - 1))))))) 1 0 0 (178 + 4 * k) 226 (fun j => if j + 4 < 226 then M 1 (j + 4) else nI 0) M (fun n i N hi0 hi hN => by
    rw [f_X10_unsees_8]
    simp only [Nat.zero_add]
    by_cases q : i + 4 < 226
    · have e1 : N 1 (i + 4) = M 1 (i + 4) := Fl_o hN (by omega)
      have e2 : (if i + 4 < 226 then M 1 (i + 4) else nI 0) = M 1 (i + 4) := if_pos q
      simp only [e2]
      simp (disch := omega) only [l_0, l_1, l_2, l_3, l_4, l_5, l_6, l_7, l_8, l_9, l_10, l_12, l_20, l_24, l_25, l_31, l_32, l_48, l_50, l_56, l_57, l_59, l_97, l_99, l_100, l_120, l_122, l_177, l_178, l_201, l_226, l_255, l_400, l_420, l_600, l_700, l_840, l_1000, l_1300, l_2000, l_1000000, nI_add, mr4, ml4, mr5, ml5, mr6, ml6, mr10, ml10, mr24, ml24, mr201, ml201, mr420, ml420, mr226, ml226, mr2, ml2, nI_clamp, lt_T, lt_F, le_T, le_F, eq_T, eq_F, ck_n, dv_n, cp_n, rem_n, pk_div, at1_same, at1_ne, cb_n, Option.bind_some, if_pos, if_neg, ↓reduceIte, and_self, and_true, true_and, and_false, false_and, not_true_eq_false, not_false_eq_true, nI_sub', e1]
    · have e2 : (if i + 4 < 226 then M 1 (i + 4) else nI 0) = nI 0 := if_neg q
      simp only [e2]
      simp (disch := omega) only [l_0, l_1, l_2, l_3, l_4, l_5, l_6, l_7, l_8, l_9, l_10, l_12, l_20, l_24, l_25, l_31, l_32, l_48, l_50, l_56, l_57, l_59, l_97, l_99, l_100, l_120, l_122, l_177, l_178, l_201, l_226, l_255, l_400, l_420, l_600, l_700, l_840, l_1000, l_1300, l_2000, l_1000000, nI_add, mr4, ml4, mr5, ml5, mr6, ml6, mr10, ml10, mr24, ml24, mr201, ml201, mr420, ml420, mr226, ml226, mr2, ml2, nI_clamp, lt_T, lt_F, le_T, le_F, eq_T, eq_F, ck_n, dv_n, cp_n, rem_n, pk_div, at1_same, at1_ne, cb_n, Option.bind_some, if_pos, if_neg, ↓reduceIte, and_self, and_true, true_and, and_false, false_and, not_true_eq_false, not_false_eq_true, nI_sub']) (fun n N hN => by
    rw [f_X10_unsees_8]
    simp only [Nat.zero_add]
    rw [l_226, if_pos (nI_le (by omega) (by omega))]) (226 - (178 + 4 * k)) (178 + 4 * k) F M (by omega) (by omega) (by omega) (Fl_0 M 1 _ _)
  have e : (178 : Int32) + 4 * nI k = nI (0 + (178 + 4 * k)) := by rw [Nat.zero_add, l_4, nI_mul', l_178, nI_add]
  have e177 : M1 1 177 = nI (σ 177) := by rw [Fl_o t2 (by omega)]; exact hM 177 (by omega)
  rw [e, t1]
  simp (disch := omega) only [l_0, l_1, l_2, l_3, l_4, l_5, l_6, l_7, l_8, l_9, l_10, l_12, l_20, l_24, l_25, l_31, l_32, l_48, l_50, l_56, l_57, l_59, l_97, l_99, l_100, l_120, l_122, l_177, l_178, l_201, l_226, l_255, l_400, l_420, l_600, l_700, l_840, l_1000, l_1300, l_2000, l_1000000, nI_add, mr4, ml4, mr5, ml5, mr6, ml6, mr10, ml10, mr24, ml24, mr201, ml201, mr420, ml420, mr226, ml226, mr2, ml2, nI_clamp, lt_T, lt_F, le_T, le_F, eq_T, eq_F, ck_n, dv_n, cp_n, rem_n, pk_div, at1_same, at1_ne, cb_n, Option.bind_some, if_pos, if_neg, ↓reduceIte, and_self, and_true, true_and, and_false, false_and, not_true_eq_false, not_false_eq_true, nI_sub', e177]
  refine ⟨_, rfl, fun j hj => ?_, fun c hc => by rw [mr_n _ _ hc, Fl_c t2 hc]⟩
  rw [mr_s, upd_at]
  by_cases q : j = 177
  · rw [if_pos q, q, un_177]
  · rw [if_neg q, t2.2 j]
    unfold unS
    rw [if_neg q]
    by_cases q1 : 178 + 4 * k ≤ j
    · rw [if_pos (by omega), if_pos q1]
      show (if j + 4 < 226 then M 1 (j + 4) else nI 0) = _
      by_cases q2 : j + 4 < 226
      · rw [if_pos q2, if_pos q2]; exact hM _ (by omega)
      · rw [if_neg q2, if_neg q2]
    · rw [if_neg (by omega), if_neg q1]; exact hM j hj
theorem h_dropSight {C : Mem} {σ : Sg} (hC : StC C σ) (h0 : σ 0 ≤ 6) (h5 : σ 56 ≤ 24) {k : Nat} (hk : k < σ 177) (h6 : σ 177 ≤ 12) (F : Nat) : ∃ C', f_X0_dropSight F C (nI k) = some C' ∧ StC C' (unS σ k) := by
  unfold f_X0_dropSight
  rw [cSe hC]
  have e1 : (nI k + 1) * 4 = nI (4 * k + 4) := by rw [l_1, nI_add, l_4, mr4]; congr 1
  have e2 : (nI (σ 177) - 1 - nI k) * 4 = nI (4 * (σ 177 - 1 - k)) := by rw [l_1, nI_sub' (by omega), nI_sub' (by omega), l_4, mr4]
  rw [e1, e2]
  simp (disch := omega) only [l_0, l_1, l_2, l_3, l_4, l_5, l_6, l_7, l_8, l_9, l_10, l_12, l_20, l_24, l_25, l_31, l_32, l_48, l_50, l_56, l_57, l_59, l_97, l_99, l_100, l_120, l_122, l_177, l_178, l_201, l_226, l_255, l_400, l_420, l_600, l_700, l_840, l_1000, l_1300, l_2000, l_1000000, nI_add, mr4, ml4, mr5, ml5, mr6, ml6, mr10, ml10, mr24, ml24, mr201, ml201, mr420, ml420, mr226, ml226, mr2, ml2, nI_clamp, lt_T, lt_F, le_T, le_F, eq_T, eq_F, ck_n, dv_n, cp_n, rem_n, pk_div, at1_same, at1_ne, cb_n, Option.bind_some, if_pos, if_neg, ↓reduceIte, and_self, and_true, true_and, and_false, false_and, not_true_eq_false, not_false_eq_true, nI_sub']
  refine ⟨_, rfl, StC_se hC h0 h5 (fun j hj => un_lo hj) (fun j hj => ?_) (fun q g0 g6 => ?_) ?_ (fun j hj => ?_)⟩
  · rw [mr_s, fu_n _ _ hj]
  · rw [mr_n _ _ g0, mr_n _ _ g6]
  · rw [mr_s, fu_s, un_177]
  · rw [un_177] at hj
    rw [mr_n _ _ (by decide), mr_s, cpy_at]
    by_cases q : 4 * k ≤ j
    · rw [if_pos (by omega), un_a q (by omega)]
      have e : 4 * k + 4 + (j - 4 * k) = j + 4 := by omega
      rw [e]
      exact cSi hC (by omega)
    · rw [if_neg (by omega), un_b (by omega)]
      exact cSi hC (by omega)
/-- from the last one on, what p says is dropped -/
noncomputable def dropR (p : Nat → Prop) : Nat → Sg → Sg
  | 0, τ => τ
  | k + 1, τ => dropR p k (@ite _ (p k) (Classical.propDecidable _) (unS τ k) τ)
theorem dropR_T {p : Nat → Prop} {k : Nat} {τ : Sg} (h : p k) : dropR p (k + 1) τ = dropR p k (unS τ k) := by
  show dropR p k (@ite _ (p k) (Classical.propDecidable _) (unS τ k) τ) = _
  rw [if_pos h]
theorem dropR_F {p : Nat → Prop} {k : Nat} {τ : Sg} (h : ¬ p k) : dropR p (k + 1) τ = dropR p k τ := by
  show dropR p k (@ite _ (p k) (Classical.propDecidable _) (unS τ k) τ) = _
  rw [if_neg h]
/-- what is seen in a state, but for the time -/
def okV (σ τ : Sg) (b k : Nat) : Prop := (∀ j, j < 177 → τ j = σ j) ∧ τ 177 ≤ 12 ∧ k ≤ τ 177 ∧ (∀ i, i < τ 177 → τ (178 + 4 * i + 1) < σ 1 ∧ τ (178 + 4 * i + 2) < σ 0 ∧ τ (178 + 4 * i + 3) ≤ 99) ∧ ∀ i, k ≤ i → i < τ 177 → τ (178 + 4 * i) ≤ b
theorem okV_u {σ τ : Sg} {b k : Nat} (h : okV σ τ b (k + 1)) : okV σ (unS τ k) b k := by
  obtain ⟨v1, v2, v3, v4, v5⟩ := h
  refine ⟨fun j hj => by rw [un_lo hj]; exact v1 j hj, by rw [un_177]; omega, by rw [un_177]; omega, fun i hi => ?_, fun i h1 hi => ?_⟩
  · rw [un_177] at hi
    rw [Nat.add_assoc, Nat.add_assoc, Nat.add_assoc]
    by_cases q : i < k
    · have z := v4 i (by omega)
      rw [Nat.add_assoc, Nat.add_assoc, Nat.add_assoc] at z
      simp (disch := omega) only [un_b]
      exact z
    · have z := v4 (i + 1) (by omega)
      have e1 : 178 + 4 * (i + 1) + 1 = 178 + (4 * i + 1 + 4) := by omega
      have e2 : 178 + 4 * (i + 1) + 2 = 178 + (4 * i + 2 + 4) := by omega
      have e3 : 178 + 4 * (i + 1) + 3 = 178 + (4 * i + 3 + 4) := by omega
      rw [e1, e2, e3] at z
      simp (disch := omega) only [un_a]
      exact z
  · rw [un_177] at hi
    have z := v5 (i + 1) (by omega) (by omega)
    have e1 : 178 + 4 * (i + 1) = 178 + (4 * i + 4) := by omega
    rw [e1] at z
    rw [un_a (by omega) (by omega)]
    exact z
theorem okV_k {σ τ : Sg} {b k : Nat} (h : okV σ τ b (k + 1)) (hb : τ (178 + 4 * k) ≤ b) : okV σ τ b k := by
  obtain ⟨v1, v2, v3, v4, v5⟩ := h
  refine ⟨v1, v2, by omega, v4, fun i h1 hi => ?_⟩
  by_cases q : i = k
  · rw [q]; exact hb
  · exact v5 i (by omega) hi
/-- the loop that drops, of class or reference: G with its state, R says which state is held -/
theorem drop_loop {α : Type} (G : Nat → Mem → Int32 → Option α) (K : Mem → Option α) (R : Mem → Sg → Prop) (p : Nat → Prop) (σ : Sg) (b K0 : Nat) (σ0 : Sg)
    (hp : ∀ k, k < K0 → ¬ p k → σ0 (178 + 4 * k) ≤ b)
    (ht : ∀ n k M τ, k < K0 → (∀ i, i < 4 * (k + 1) → τ (178 + i) = σ0 (178 + i)) → okV σ τ b (k + 1) → R M τ → p k → ∃ M', G (n + 1) M (dn (k + 1)) = G n M' (dn k) ∧ R M' (unS τ k))
    (hf : ∀ n k M τ, k < K0 → (∀ i, i < 4 * (k + 1) → τ (178 + i) = σ0 (178 + i)) → okV σ τ b (k + 1) → R M τ → ¬ p k → ∃ M', G (n + 1) M (dn (k + 1)) = G n M' (dn k) ∧ R M' τ)
    (he : ∀ n M, G (n + 1) M (dn 0) = K M) :
    ∀ (k n : Nat) (M : Mem) (τ : Sg), k ≤ K0 → k < n → (∀ i, i < 4 * k → τ (178 + i) = σ0 (178 + i)) → okV σ τ b k → R M τ → ∃ M', G n M (dn k) = K M' ∧ R M' (dropR p k τ) ∧ okV σ (dropR p k τ) b 0
  | k, 0, M, τ, _, h, _, _, _ => by omega
  | 0, n + 1, M, τ, _, _, _, hV, hR => ⟨M, he n M, hR, hV⟩
  | k + 1, n + 1, M, τ, hk, hn, hi, hV, hR => by
    by_cases q : p k
    · obtain ⟨M1, e1, e2⟩ := ht n k M τ (by omega) hi hV hR q
      rw [e1, dropR_T q]
      exact drop_loop G K R p σ b K0 σ0 hp ht hf he k n M1 (unS τ k) (by omega) (by omega) (fun i h => by rw [un_b h]; exact hi i (by omega)) (okV_u hV) e2
    · obtain ⟨M1, e1, e2⟩ := hf n k M τ (by omega) hi hV hR q
      rw [e1, dropR_F q]
      exact drop_loop G K R p σ b K0 σ0 hp ht hf he k n M1 τ (by omega) (by omega) (fun i h => hi i (by omega)) (okV_k hV (by rw [hi (4 * k) (by omega)]; exact hp k (by omega) q)) e2
theorem okS_V {σ τ : Sg} (hs : okS (sgU σ 177 0)) (h : okV σ τ (σ 56) 0) : okS τ := by
  obtain ⟨v1, v2, -, v4, v5⟩ := h
  refine okS_se hs (fun j hj => by rw [sgU_n _ _ (by omega)]; exact v1 j hj) v2 (fun k hk => ?_)
  rw [sgU_n _ _ (by omega), sgU_n _ _ (by omega), sgU_n _ _ (by omega)]
  exact ⟨v5 k (by omega) hk, v4 k hk⟩
theorem okS_V0 {σ : Sg} (hs : okS σ) : okV σ σ (σ 56) (σ 177) := ⟨fun _ _ => rfl, kSe hs, Nat.le_refl _, fun i hi => (hs.2.2.2.2.2.2.2.2.2 i hi).2, fun i h1 h2 => by omega⟩
theorem okS_0 {σ : Sg} (hs : okS σ) : okS (sgU σ 177 0) := okS_se hs (fun j hj => sgU_n _ _ (by omega)) (by rw [sgU_s]; omega) (fun k hk => by rw [sgU_s] at hk; omega)
theorem okS_un {σ : Sg} (hs : okS σ) {k : Nat} (hk : k < σ 177) : okS (unS σ k) := by
  obtain ⟨v1, v2, v3, v4, v5⟩ := okS_V0 hs
  refine okS_V (okS_0 hs) ?_
  have w : okV σ σ (σ 56) (k + 1) := ⟨v1, v2, by omega, v4, fun i h1 h2 => (hs.2.2.2.2.2.2.2.2.2 i h2).1⟩
  obtain ⟨u1, u2, u3, u4, u5⟩ := okV_u w
  refine ⟨u1, u2, by omega, u4, fun i h1 h2 => ?_⟩
  by_cases q : i < k
  · rw [un_b (by omega)]
    exact (hs.2.2.2.2.2.2.2.2.2 i (by omega)).1
  · exact u5 i (by omega) h2
theorem m_unsee {M T C H Y N S X0 : Mem} {LM : MemL} {Ks : Nat → Mem} {σ : Sg} {a : Nat} {h : Nat → Sg} (ra : Ra M T C H Ks σ a h) {F : Nat} (hF : 10000 ≤ F) (x1 : Int32) : ∃ v C' H' Y' N' S' Ks' M', f_X9_unsee F X0 C H Y N S Ks x1 = some (v, C', H', Y', N', S', Ks') ∧ f_X10_unsee F M LM x1 = some (v, M') ∧ Out M T C H Y N S Ks M' C' H' Y' N' S' Ks' := by
  obtain ⟨hC, hM, hs, -⟩ := id ra
  have h0 := kC hs
  have h5 := kMv hs
  have h6 := kSe hs
  obtain ⟨t, t1, t2, rfl⟩ := zI_of x1
  unfold f_X9_unsee f_X10_unsee
  rw [ck177, r177 hM, cSe hC]
  have e1 : nI (σ 177) - 1 = zI ((σ 177 : Int) - ((1 : Nat) : Int)) := nn_sub (σ 177) 1
  have i1 : f_X10_in F (zI t).toInt64 0 (nI (σ 177) - 1).toInt64 = some (if 0 ≤ t ∧ t < (σ 177 : Int) then nI 1 else nI 0) := by
    rw [e1, t64.1, ← zI_c, f_inz F t1 t2 (by omega) (by omega) (by omega) (by omega)]
    by_cases q : 0 ≤ t ∧ t < (σ 177 : Int)
    · rw [if_pos q, if_pos (by omega)]
    · rw [if_neg q, if_neg (by omega)]
      rfl
  rw [i1]
  by_cases hT : 0 ≤ t ∧ t < (σ 177 : Int)
  · obtain ⟨k, rfl⟩ := Int.eq_ofNat_of_zero_le hT.1
    have hk : k < σ 177 := by omega
    rw [if_pos hT]
    simp only [zI_c, Option.bind_some]
    rw [if_neg n10, if_neg (show ¬ nI k < 0 from nI_pos (by omega)), if_pos (nI_lt hk (by omega))]
    obtain ⟨H', Y', N', S', Ks', M2, b1, b2, b3, b4, -, -, b5, b6⟩ := m_begin (X0 := X0) (Y := Y) (N := N) (S := S) (LM := LM) ra hF
    obtain ⟨M3, u1, u2, u3⟩ := g_unsees (LM := LM) b3.2.1 hk h6 hF
    obtain ⟨C3, w1, w2⟩ := h_dropSight hC h0 h5 hk h6 F
    have q3 : Pq M2 M3 := ⟨u3 3 (by decide), u3 21 (by decide), u3 22 (by decide), by rw [u3 0 (by decide)], by rw [u3 0 (by decide)]⟩
    rw [b1, b2]
    simp only [Option.bind_some]
    rw [u1, w1]
    simp only [Option.bind_some]
    rw [ck177, r177 u2, cSe w2]
    exact ⟨_, _, _, _, _, _, _, _, rfl, rfl, .inr ⟨_, _, _, Ra_to b3 q3 w2 u2 (okS_un hs hk), b4⟩⟩
  · rw [if_neg hT]
    have cl : (if zI t < 0 then some ((-1 : Int32), C, H, Y, N, S, Ks) else if zI t < nI (σ 177) then (f_X9_beginAct F X0 C H Y N S Ks).bind (fun z18 => (f_X0_dropSight F C (zI t)).bind (fun z26 => (some ((z26 0 9), z26, z18.1, z18.2.1, z18.2.2.1, z18.2.2.2.1, z18.2.2.2.2)))) else some ((-1 : Int32), C, H, Y, N, S, Ks)) = some ((-1 : Int32), C, H, Y, N, S, Ks) := by
      by_cases q : t < 0
      · have e1 : zI t < 0 := by rw [l_0]; exact of_eq_true (by simp (disch := omega) only [l_0, l_1, l_2, l_3, l_4, l_5, l_6, l_7, l_8, l_9, l_10, l_12, l_20, l_24, l_25, l_31, l_32, l_48, l_50, l_56, l_57, l_59, l_97, l_99, l_100, l_120, l_122, l_177, l_178, l_201, l_226, l_255, l_400, l_420, l_600, l_700, l_840, l_1000, l_1300, l_2000, l_1000000, nI_add, mr4, ml4, mr5, ml5, mr6, ml6, mr10, ml10, mr24, ml24, mr201, ml201, mr420, ml420, mr226, ml226, mr2, ml2, nI_clamp, lt_T, lt_F, le_T, le_F, eq_T, eq_F, ck_n, dv_n, cp_n, rem_n, pk_div, at1_same, at1_ne, cb_n, Option.bind_some, if_pos, if_neg, ↓reduceIte, and_self, and_true, true_and, and_false, false_and, not_true_eq_false, not_false_eq_true, nI_sub', zz_add, zz_sub, zz_mul, zn_add, nz_add, zn_sub, nz_sub, zn_mul, nz_mul, z_neg, n_neg, zlt_T, zlt_F, zle_T, zle_F, zeq_T, zeq_F, zn_lt, nz_lt, zn_le, nz_le, zn_eq, nz_eq])
        rw [if_pos e1]
      · have e1 : ¬ zI t < 0 := by rw [l_0]; exact of_eq_false (by simp (disch := omega) only [l_0, l_1, l_2, l_3, l_4, l_5, l_6, l_7, l_8, l_9, l_10, l_12, l_20, l_24, l_25, l_31, l_32, l_48, l_50, l_56, l_57, l_59, l_97, l_99, l_100, l_120, l_122, l_177, l_178, l_201, l_226, l_255, l_400, l_420, l_600, l_700, l_840, l_1000, l_1300, l_2000, l_1000000, nI_add, mr4, ml4, mr5, ml5, mr6, ml6, mr10, ml10, mr24, ml24, mr201, ml201, mr420, ml420, mr226, ml226, mr2, ml2, nI_clamp, lt_T, lt_F, le_T, le_F, eq_T, eq_F, ck_n, dv_n, cp_n, rem_n, pk_div, at1_same, at1_ne, cb_n, Option.bind_some, if_pos, if_neg, ↓reduceIte, and_self, and_true, true_and, and_false, false_and, not_true_eq_false, not_false_eq_true, nI_sub', zz_add, zz_sub, zz_mul, zn_add, nz_add, zn_sub, nz_sub, zn_mul, nz_mul, z_neg, n_neg, zlt_T, zlt_F, zle_T, zle_F, zeq_T, zeq_F, zn_lt, nz_lt, zn_le, nz_le, zn_eq, nz_eq])
        have e2 : ¬ zI t < nI (σ 177) := of_eq_false (by simp (disch := omega) only [l_0, l_1, l_2, l_3, l_4, l_5, l_6, l_7, l_8, l_9, l_10, l_12, l_20, l_24, l_25, l_31, l_32, l_48, l_50, l_56, l_57, l_59, l_97, l_99, l_100, l_120, l_122, l_177, l_178, l_201, l_226, l_255, l_400, l_420, l_600, l_700, l_840, l_1000, l_1300, l_2000, l_1000000, nI_add, mr4, ml4, mr5, ml5, mr6, ml6, mr10, ml10, mr24, ml24, mr201, ml201, mr420, ml420, mr226, ml226, mr2, ml2, nI_clamp, lt_T, lt_F, le_T, le_F, eq_T, eq_F, ck_n, dv_n, cp_n, rem_n, pk_div, at1_same, at1_ne, cb_n, Option.bind_some, if_pos, if_neg, ↓reduceIte, and_self, and_true, true_and, and_false, false_and, not_true_eq_false, not_false_eq_true, nI_sub', zz_add, zz_sub, zz_mul, zn_add, nz_add, zn_sub, nz_sub, zn_mul, nz_mul, z_neg, n_neg, zlt_T, zlt_F, zle_T, zle_F, zeq_T, zeq_F, zn_lt, nz_lt, zn_le, nz_le, zn_eq, nz_eq])
        rw [if_neg e1, if_neg e2]
    rw [cl]
    exact ⟨_, _, _, _, _, _, _, _, rfl, rfl, .inl ⟨rfl, rfl, rfl, rfl, rfl, rfl, Pm_rfl M⟩⟩
