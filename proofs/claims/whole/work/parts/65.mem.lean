/-! PURE LAYER: loops that fill a stretch; what lasts; states made anew -/
theorem l_11 : (11 : Int32) = nI 11 := rfl
theorem zm1 : zI (-((1 : Nat) : Int)) = zI (-1) := rfl
theorem zm2 : zI (-((2 : Nat) : Int)) = zI (-2) := rfl
theorem zm1000 : zI (-((1000 : Nat) : Int)) = zI (-1000) := rfl
def Fl (M0 M : Mem) (q lo hi : Nat) (w : Nat → Int32) : Prop := (∀ c, c ≠ q → M c = M0 c) ∧ ∀ j, M q j = if lo ≤ j ∧ j < hi then w j else M0 q j
theorem Fl_0 (M : Mem) (q lo : Nat) (w : Nat → Int32) : Fl M M q lo lo w := ⟨fun _ _ => rfl, fun j => by rw [if_neg (by omega)]⟩
theorem Fl_s {M0 M : Mem} {q lo hi : Nat} {w : Nat → Int32} (h : Fl M0 M q lo hi w) (hl : lo ≤ hi) : Fl M0 (mr M q (upd (M q) hi (w hi))) q lo (hi + 1) w := by
  refine ⟨fun c hc => by rw [mr_n M _ hc]; exact h.1 c hc, fun j => ?_⟩
  rw [mr_s, upd_at]
  by_cases e : j = hi
  · subst e
    rw [if_pos rfl, if_pos (by omega)]
  · rw [if_neg e, h.2 j]
    by_cases g : lo ≤ j ∧ j < hi
    · rw [if_pos g, if_pos (by omega)]
    · rw [if_neg g, if_neg (by omega)]
theorem Fl_i {M0 M : Mem} {q lo hi : Nat} {w : Nat → Int32} (h : Fl M0 M q lo hi w) {j : Nat} (h1 : lo ≤ j) (h2 : j < hi) : M q j = w j := by rw [h.2 j, if_pos ⟨h1, h2⟩]
theorem Fl_o {M0 M : Mem} {q lo hi : Nat} {w : Nat → Int32} (h : Fl M0 M q lo hi w) {j : Nat} (h1 : j < lo ∨ hi ≤ j) : M q j = M0 q j := by rw [h.2 j, if_neg (by omega)]
theorem Fl_c {M0 M : Mem} {q lo hi : Nat} {w : Nat → Int32} (h : Fl M0 M q lo hi w) {c : Nat} (hc : c ≠ q) : M c = M0 c := h.1 c hc
theorem fill_up {α : Type} (G : Nat → Mem → Int32 → Option α) (k : Mem → Option α) (q c0 p0 i0 b : Nat) (w : Nat → Int32) (M0 : Mem)
    (hs : ∀ n i M, i0 ≤ i → i < b → Fl M0 M q (p0 + i0) (p0 + i) w → G (n + 1) M (nI (c0 + i)) = G n (mr M q (upd (M q) (p0 + i) (w (p0 + i)))) (nI (c0 + i + 1)))
    (he : ∀ n M, Fl M0 M q (p0 + i0) (p0 + b) w → G (n + 1) M (nI (c0 + b)) = k M) :
    ∀ (d i n : Nat) (M : Mem), i + d = b → i0 ≤ i → d < n → Fl M0 M q (p0 + i0) (p0 + i) w → ∃ M', G n M (nI (c0 + i)) = k M' ∧ Fl M0 M' q (p0 + i0) (p0 + b) w
  | d, i, 0, M, _, _, h, _ => by omega
  | 0, i, n + 1, M, hi, _, _, hI => by
    obtain rfl : i = b := by omega
    exact ⟨M, he n M hI, hI⟩
  | d + 1, i, n + 1, M, hi, h0, hn, hI => by
    rw [hs n i M h0 (by omega) hI]
    exact fill_up G k q c0 p0 i0 b w M0 hs he d (i + 1) n _ (by omega) (by omega) (by omega) (Fl_s hI (by omega))
/-- what lasts of the reference's state while s changes -/
def Pq (M M' : Mem) : Prop := M' 3 = M 3 ∧ M' 21 = M 21 ∧ M' 22 = M 22 ∧ M' 0 4 = M 0 4 ∧ M' 0 29 = M 0 29
theorem Pq_rfl (M : Mem) : Pq M M := ⟨rfl, rfl, rfl, rfl, rfl⟩
theorem Pq_tr {M M1 M2 : Mem} (h : Pq M M1) (g : Pq M1 M2) : Pq M M2 := ⟨g.1.trans h.1, g.2.1.trans h.2.1, g.2.2.1.trans h.2.2.1, g.2.2.2.1.trans h.2.2.2.1, g.2.2.2.2.trans h.2.2.2.2⟩
theorem Pm_q {M M' : Mem} (h : Pm M M') : Pq M M' := h.2
theorem Pq_k (M : Mem) {k : Nat} (r : Nat → Int32) (h0 : k ≠ 0) (h3 : k ≠ 3) (h21 : k ≠ 21) (h22 : k ≠ 22) : Pq M (mr M k r) := ⟨at1_ne _ _ h3.symm, at1_ne _ _ h21.symm, at1_ne _ _ h22.symm, by rw [mr_n M r h0.symm], by rw [mr_n M r h0.symm]⟩
theorem Pq_f {M0 M : Mem} {q lo hi : Nat} {w : Nat → Int32} (h : Fl M0 M q lo hi w) (h0 : q ≠ 0) (h3 : q ≠ 3) (h21 : q ≠ 21) (h22 : q ≠ 22) : Pq M0 M := ⟨h.1 _ h3.symm, h.1 _ h21.symm, h.1 _ h22.symm, by rw [h.1 _ h0.symm], by rw [h.1 _ h0.symm]⟩
theorem Pm_f {M0 M : Mem} {q lo hi : Nat} {w : Nat → Int32} (h : Fl M0 M q lo hi w) (h0 : q ≠ 0) (h1 : q ≠ 1) (h3 : q ≠ 3) (h21 : q ≠ 21) (h22 : q ≠ 22) : Pm M0 M := ⟨h.1 _ h1.symm, Pq_f h h0 h3 h21 h22⟩
/-- fields of the reference that are scratch -/
theorem Pm_0 (M : Mem) (r : Nat → Int32) (h4 : r 4 = M 0 4) (h29 : r 29 = M 0 29) : Pm M (mr M 0 r) := ⟨at1_ne _ _ (by decide), at1_ne _ _ (by decide), at1_ne _ _ (by decide), at1_ne _ _ (by decide), by rw [mr_s]; exact h4, by rw [mr_s]; exact h29⟩
def sgU (σ : Sg) (k v : Nat) : Sg := fun j => if j = k then v else σ j
theorem sgU_s (σ : Sg) (k v : Nat) : sgU σ k v k = v := if_pos rfl
theorem sgU_n (σ : Sg) {k j : Nat} (v : Nat) (h : j ≠ k) : sgU σ k v j = σ j := if_neg h
theorem StM_u {M : Mem} {σ : Sg} (h : StM M σ) (k v : Nat) : StM (mr M 1 (upd (M 1) k (nI v))) (sgU σ k v) := fun j hj => by
  rw [mr_s, upd_at]
  unfold sgU
  by_cases e : j = k
  · rw [if_pos e, if_pos e]
  · rw [if_neg e, if_neg e]; exact h j hj
/-- the part of a state that is there before its log is made anew -/
def StB (C : Mem) (σ : Sg) : Prop := C 0 6 = nI (σ 0) ∧ C 0 7 = nI (σ 1) ∧ (∀ j, j < σ 0 → C 1 j = nI (σ (2 + j)) ∧ C 2 j = nI (wo σ j)) ∧ ∀ j, j < 24 → C 3 j = nI (σ (8 + j))
theorem StC_B {C : Mem} {σ : Sg} (h : StC C σ) : StB C σ := ⟨cC h, cR h, fun j hj => ⟨cRt h hj, cWo h hj⟩, fun j hj => cCe h hj⟩
def okB (σ : Sg) : Prop := σ 0 ≤ 6 ∧ σ 1 ≤ 4 ∧ (σ 0 = 0 → σ 1 = 0) ∧ (0 < σ 0 → σ 2 = 1) ∧ (∀ j, 1 ≤ j → j < σ 0 → 2 ≤ σ (2 + j) ∧ σ (2 + j) ≤ 20) ∧ (∀ r c, r < 4 → c < 6 → σ (8 + (6 * r + c)) ≤ 99 ∧ (σ 1 ≤ r ∨ σ 0 ≤ c → σ (8 + (6 * r + c)) = 0))
theorem okS_B {σ : Sg} (h : okS σ) : okB σ := by
  refine ⟨h.1, h.2.1, h.2.2.1, h.2.2.2.1, h.2.2.2.2.1, fun r c hr hc => ?_⟩
  have e := h.2.2.2.2.2.1 r c hr hc
  rw [Nat.add_assoc] at e
  exact ⟨e.1, fun q => (e.2.2 q).1⟩
def anewS (σ : Sg) : Sg := fun j => if j < 32 then σ j else if j < 56 then σ (j - 24) else 0
theorem an_lo (σ : Sg) {j : Nat} (h : j < 32) : anewS σ j = σ j := if_pos h
theorem an_be (σ : Sg) {j : Nat} (h : j < 24) : anewS σ (32 + j) = σ (8 + j) := by
  unfold anewS
  rw [if_neg (by omega), if_pos (by omega)]
  congr 1
  omega
theorem an_hi (σ : Sg) {j : Nat} (h : 56 ≤ j) : anewS σ j = 0 := by
  unfold anewS
  rw [if_neg (by omega), if_neg (by omega)]
theorem wo_cg {σ τ : Sg} : ∀ c, (∀ j, 1 ≤ j → j ≤ c → σ (2 + j) = τ (2 + j)) → wo σ c = wo τ c
  | 0, _ => rfl
  | c + 1, h => by
    show wo σ c * σ (2 + (c + 1)) = wo τ c * τ (2 + (c + 1))
    rw [wo_cg c (fun j h1 h2 => h j h1 (by omega)), h (c + 1) (by omega) (by omega)]
theorem okS_an {σ : Sg} (h : okB σ) : okS (anewS σ) := by
  have e0 := an_lo σ (j := 0) (by omega)
  have e1 := an_lo σ (j := 1) (by omega)
  have e2 := an_lo σ (j := 2) (by omega)
  have e56 := an_hi σ (j := 56) (by omega)
  have e177 := an_hi σ (j := 177) (by omega)
  have h0 := h.1
  refine ⟨by omega, by have := h.2.1; omega, by have := h.2.2.1; omega, by have := h.2.2.2.1; omega, fun j h1 h2 => ?_, fun r c hr hc => ?_, by omega, fun i hi => by omega, by omega, fun k hk => by omega⟩
  · rw [an_lo σ (by omega)]
    exact h.2.2.2.2.1 j h1 (by omega)
  · have q := h.2.2.2.2.2 r c hr hc
    rw [e0, e1, Nat.add_assoc, Nat.add_assoc, an_lo σ (by omega), an_be σ (by omega)]
    exact ⟨q.1, q.1, fun z => ⟨q.2 z, q.2 z⟩⟩
theorem h_makeAnew {C : Mem} {σ : Sg} (h : StB C σ) (h0 : σ 0 ≤ 6) (F : Nat) : ∃ C', f_X0_makeAnew F C = some C' ∧ StC C' (anewS σ) := by
  have ew : ∀ j, j < σ 0 → wo (anewS σ) j = wo σ j := fun j hj => wo_cg j (fun i h1 h2 => an_lo σ (by omega))
  unfold f_X0_makeAnew
  simp (disch := omega) only [l_0, l_1, l_2, l_3, l_4, l_5, l_6, l_7, l_8, l_9, l_10, l_12, l_20, l_24, l_25, l_31, l_32, l_48, l_50, l_56, l_57, l_59, l_97, l_99, l_100, l_120, l_122, l_177, l_178, l_201, l_226, l_255, l_400, l_420, l_600, l_700, l_840, l_1000, l_1300, l_2000, l_1000000, nI_add, mr4, ml4, mr5, ml5, mr6, ml6, mr10, ml10, mr24, ml24, mr201, ml201, mr420, ml420, mr226, ml226, mr2, ml2, nI_clamp, lt_T, lt_F, le_T, le_F, eq_T, eq_F, ck_n, dv_n, cp_n, rem_n, pk_div, at1_same, at1_ne, cb_n, Option.bind_some, if_pos, if_neg, ↓reduceIte, and_self, and_true, true_and, and_false, false_and, not_true_eq_false, not_false_eq_true, nI_sub']
  refine ⟨_, rfl, ?_, ?_, ?_, ?_, fun j hj => ?_, fun j hj => ?_, fun j hj => ?_, fun j hj => ?_⟩
  · rw [mr_s, fu_n _ _ (by decide), fu_n _ _ (by decide), an_lo σ (by omega)]; exact h.1
  · rw [mr_s, fu_n _ _ (by decide), fu_n _ _ (by decide), an_lo σ (by omega)]; exact h.2.1
  · rw [mr_s, fu_n _ _ (by decide), fu_s, an_hi σ (by omega)]
  · rw [mr_s, fu_s, an_hi σ (by omega)]
  · rw [an_lo σ (by omega)] at hj
    rw [mr_n _ _ (by decide), mr_n _ _ (by decide), mr_n _ _ (by decide), mr_n _ _ (by decide), an_lo σ (by omega), ew j hj]
    exact h.2.2.1 j hj
  · rw [mr_n _ _ (by decide), mr_n _ _ (by decide), mr_n _ _ (by decide), mr_s, cpy_at, if_pos (by omega), Nat.sub_zero, Nat.zero_add, an_lo σ (by omega), an_be σ hj]
    exact ⟨h.2.2.2 j hj, h.2.2.2 j hj⟩
  · rw [an_hi σ (by omega)] at hj; omega
  · rw [an_hi σ (by omega)] at hj; omega
theorem g_anew {M : Mem} {LM : MemL} {σ : Sg} (hM : StM M σ) {F : Nat} (hF : 10000 ≤ F) : ∃ M', f_X10_anew F M LM = some M' ∧ StM M' (anewS σ) ∧ Pq M M' := by
  unfold f_X10_anew
  have A : ∀ k : Mem → Option Mem, ∃ M1, f_X10_anew_2 F LM k F M (nI 0) = k M1 ∧ Fl M M1 1 32 56 (fun j => M 1 (j - 24)) := fun k =>
    fill_up (f_X10_anew_2 F LM k) k 1 0 32 0 24 (fun j => M 1 (j - 24)) M (fun n i N _ hi hN => by
      rw [f_X10_anew_2]
      have e : N 1 (8 + i) = M 1 (8 + i) := Fl_o hN (by omega)
      have e2 : 32 + i - 24 = 8 + i := by omega
      simp only [Nat.zero_add]
      simp (disch := omega) only [l_0, l_1, l_2, l_3, l_4, l_5, l_6, l_7, l_8, l_9, l_10, l_12, l_20, l_24, l_25, l_31, l_32, l_48, l_50, l_56, l_57, l_59, l_97, l_99, l_100, l_120, l_122, l_177, l_178, l_201, l_226, l_255, l_400, l_420, l_600, l_700, l_840, l_1000, l_1300, l_2000, l_1000000, nI_add, mr4, ml4, mr5, ml5, mr6, ml6, mr10, ml10, mr24, ml24, mr201, ml201, mr420, ml420, mr226, ml226, mr2, ml2, nI_clamp, lt_T, lt_F, le_T, le_F, eq_T, eq_F, ck_n, dv_n, cp_n, rem_n, pk_div, at1_same, at1_ne, cb_n, Option.bind_some, if_pos, if_neg, ↓reduceIte, and_self, and_true, true_and, and_false, false_and, not_true_eq_false, not_false_eq_true, nI_sub', e, e2]) (fun n N hN => by
      rw [f_X10_anew_2]
      simp (disch := omega) only [l_0, l_1, l_2, l_3, l_4, l_5, l_6, l_7, l_8, l_9, l_10, l_12, l_20, l_24, l_25, l_31, l_32, l_48, l_50, l_56, l_57, l_59, l_97, l_99, l_100, l_120, l_122, l_177, l_178, l_201, l_226, l_255, l_400, l_420, l_600, l_700, l_840, l_1000, l_1300, l_2000, l_1000000, nI_add, mr4, ml4, mr5, ml5, mr6, ml6, mr10, ml10, mr24, ml24, mr201, ml201, mr420, ml420, mr226, ml226, mr2, ml2, nI_clamp, lt_T, lt_F, le_T, le_F, eq_T, eq_F, ck_n, dv_n, cp_n, rem_n, pk_div, at1_same, at1_ne, cb_n, Option.bind_some, if_pos, if_neg, ↓reduceIte, and_self, and_true, true_and, and_false, false_and, not_true_eq_false, not_false_eq_true, nI_sub']) 24 0 F M (by omega) (by omega) (by omega) (Fl_0 M 1 32 _)
  have B : ∀ (k : Mem → Option Mem) (N : Mem), ∃ M1, f_X10_anew_35 F LM k F N (nI 56) = k M1 ∧ Fl N M1 1 56 226 (fun _ => 0) := fun k N => by
    have := fill_up (f_X10_anew_35 F LM k) k 1 0 0 56 226 (fun _ => 0) N (fun n i N' _ hi hN => by
      rw [f_X10_anew_35]
      simp only [Nat.zero_add]
      simp (disch := omega) only [l_0, l_1, l_2, l_3, l_4, l_5, l_6, l_7, l_8, l_9, l_10, l_12, l_20, l_24, l_25, l_31, l_32, l_48, l_50, l_56, l_57, l_59, l_97, l_99, l_100, l_120, l_122, l_177, l_178, l_201, l_226, l_255, l_400, l_420, l_600, l_700, l_840, l_1000, l_1300, l_2000, l_1000000, nI_add, mr4, ml4, mr5, ml5, mr6, ml6, mr10, ml10, mr24, ml24, mr201, ml201, mr420, ml420, mr226, ml226, mr2, ml2, nI_clamp, lt_T, lt_F, le_T, le_F, eq_T, eq_F, ck_n, dv_n, cp_n, rem_n, pk_div, at1_same, at1_ne, cb_n, Option.bind_some, if_pos, if_neg, ↓reduceIte, and_self, and_true, true_and, and_false, false_and, not_true_eq_false, not_false_eq_true, nI_sub']) (fun n N hN => by
      rw [f_X10_anew_35]
      simp (disch := omega) only [l_0, l_1, l_2, l_3, l_4, l_5, l_6, l_7, l_8, l_9, l_10, l_12, l_20, l_24, l_25, l_31, l_32, l_48, l_50, l_56, l_57, l_59, l_97, l_99, l_100, l_120, l_122, l_177, l_178, l_201, l_226, l_255, l_400, l_420, l_600, l_700, l_840, l_1000, l_1300, l_2000, l_1000000, nI_add, mr4, ml4, mr5, ml5, mr6, ml6, mr10, ml10, mr24, ml24, mr201, ml201, mr420, ml420, mr226, ml226, mr2, ml2, nI_clamp, lt_T, lt_F, le_T, le_F, eq_T, eq_F, ck_n, dv_n, cp_n, rem_n, pk_div, at1_same, at1_ne, cb_n, Option.bind_some, if_pos, if_neg, ↓reduceIte, and_self, and_true, true_and, and_false, false_and, not_true_eq_false, not_false_eq_true, nI_sub']) 170 56 F N (by omega) (by omega) (by omega) (Fl_0 N 1 56 _)
    exact this
  obtain ⟨M1, a1, a2⟩ := A (fun M_32 => f_X10_anew_35 F LM (fun M_55 => (some M_55)) F M_32 56)
  obtain ⟨M2, b1, b2⟩ := B (fun M_55 => (some M_55)) M1
  refine ⟨M2, ?_, fun j hj => ?_, Pq_tr (Pq_f a2 (by decide) (by decide) (by decide) (by decide)) (Pq_f b2 (by decide) (by decide) (by decide) (by decide))⟩
  · rw [← l_0] at a1
    rw [a1]
    exact b1
  · by_cases h1 : j < 32
    · rw [Fl_o b2 (by omega), Fl_o a2 (by omega), an_lo σ h1]; exact hM j hj
    · by_cases h2 : j < 56
      · rw [Fl_o b2 (by omega), Fl_i a2 (by omega) (by omega)]
        obtain ⟨i, rfl⟩ : ∃ i, j = 32 + i := ⟨j - 32, by omega⟩
        rw [an_be σ (by omega)]
        have e : 32 + i - 24 = 8 + i := by omega
        rw [e]
        exact hM _ (by omega)
      · rw [Fl_i b2 (by omega) (by omega), an_hi σ (by omega)]
        rfl
