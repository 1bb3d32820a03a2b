/-! PURE LAYER: text: numbers and ends, both sides; columns -/
theorem m_num {F : Nat} (hF : 1000 ≤ F) {R T M : Mem} {LM : MemL} {β : Nat → Nat} {n p : Nat} (hT : Tb T 1 β n) (hM : TpM M β n) (hp : p ≤ n) (hR : R 0 5 = nI n) (hP : R 0 6 = nI p) (hL : LA M β n 1 p) (hW : M 0 35 = -1) {slot lo : Nat} (hsl : slot < 4) (hlo : lo ≤ 99) {hi : Int} (h1 : -1 ≤ hi) (h2 : hi ≤ 1000) :
    (∃ R' M' v p', v ≤ 99 ∧ lo ≤ v ∧ (v : Int) ≤ hi ∧ p < p' ∧ p' ≤ n ∧ f_X6_readNumber F R T (nI slot) (nI lo) (zI hi) = some (1, R') ∧ f_X10_needsNumber F M LM (nI lo) (zI hi) = some (nI v, M') ∧ R' 0 6 = nI p' ∧ FrR R R' ∧ R' 1 = upd (R 1) slot (nI v) ∧ LA M' β n 1 p' ∧ M' 0 35 = -1 ∧ FrT M M') ∨
    (∃ R' M' f, f ≤ 400 ∧ f_X6_readNumber F R T (nI slot) (nI lo) (zI hi) = some (0, R') ∧ f_X10_needsNumber F M LM (nI lo) (zI hi) = some (0, M') ∧ R' 0 8 = nI f ∧ M' 0 35 = nI f ∧ FrW M M') := by
  have hn := hM.1
  obtain ⟨b1, b2⟩ := bE_b (β := β) hp
  obtain ⟨d1, d2⟩ := dE_b (β := β) (n := n) b2
  rcases h_readNumber (R := R) hF hn hp hR hP hT hsl hlo h1 h2 with ⟨ok, R', a1, a2, a3, a4⟩ | ⟨ok, R', a1, a2⟩
  · rcases g_needsNumber (LM := LM) hF hM hp hL hW hlo h1 h2 with ⟨_, M', c1, c2, c3, c4⟩ | ⟨no, _⟩
    · have o2 := ok.2.1
      exact Or.inl ⟨R', M', numV β n p, numE β n p, numV_le β n p, ok.2.2.2.1, ok.2.2.2.2, by unfold numE; omega, d2, a1, c1, a2, a3, a4, c2, c3, c4⟩
    · exact absurd ok no
  · rcases g_needsNumber (LM := LM) hF hM hp hL hW hlo h1 h2 with ⟨no, _⟩ | ⟨_, M', c1, c2, c3⟩
    · exact absurd no ok
    · exact Or.inr ⟨R', M', bE β n p, by omega, a1, c1, a2, c2, c3⟩
theorem m_close {F : Nat} (hF : 1000 ≤ F) {R T M : Mem} {LM : MemL} {β : Nat → Nat} {n w p : Nat} (hT : Tb T 1 β n) (hM : TpM M β n) (hp : p ≤ n) (hR : R 0 5 = nI n) (hP : R 0 6 = nI p) (hL : LA M β n w p) (hW : M 0 35 = -1) :
    (∃ R' M' p', p < p' ∧ p' ≤ n ∧ f_X6_readEnd F R T = some (1, R') ∧ f_X10_needsClose F M LM = some M' ∧ R' 0 6 = nI p' ∧ FrR R R' ∧ R' 1 = R 1 ∧ LA M' β n 0 p' ∧ M' 0 35 = -1 ∧ FrT M M') ∨
    (∃ R' M' f, f ≤ 400 ∧ f_X6_readEnd F R T = some (0, R') ∧ f_X10_needsClose F M LM = some M' ∧ R' 0 8 = nI f ∧ M' 0 35 = nI f ∧ FrW M M') := by
  have hn := hM.1
  obtain ⟨b1, b2⟩ := bE_b (β := β) hp
  rcases h_readEnd (R := R) hF hn hp hR hP hT with ⟨ok, R', a1, a2, a3, a4⟩ | ⟨ok, R', a1, a2⟩
  · rcases g_needsClose (LM := LM) hF hM hp hL hW with ⟨_, M', c1, c2, c3, c4⟩ | ⟨no, _⟩
    · have o1 := ok.1
      exact Or.inl ⟨R', M', bE β n p + 1, by omega, by omega, a1, c1, a2, a3, a4, c2, c3, c4⟩
    · exact absurd ok no
  · rcases g_needsClose (LM := LM) hF hM hp hL hW with ⟨no, _⟩ | ⟨_, M', c1, c2, c3⟩
    · exact absurd no ok
    · exact Or.inr ⟨R', M', bE β n p, by omega, a1, c1, a2, c2, c3⟩
theorem nm1 {f : Nat} (h : f < 2147483648) : ¬ nI f = (-1 : Int32) := fun q => by
  have := congrArg Int32.toInt q
  rw [nI_toInt h, show (-1 : Int32).toInt = -1 by decide] at this
  omega
/-- the row that is read; b: its beginning stands too -/
def Rd (M : Mem) (τ : Sg) (b : Nat) : Prop := ∀ j, j < 226 → (b = 1 ∨ j < 32 ∨ 56 ≤ j) → M 2 j = nI (τ j)
/-- what reading leaves of the reference -/
def FrL (M M' : Mem) : Prop := (∀ j, j < 226 → M' 1 j = M 1 j) ∧ Pq M M'
theorem FrL_tr {M M1 M2 : Mem} (h : FrL M M1) (g : FrL M1 M2) : FrL M M2 := ⟨fun j hj => (g.1 j hj).trans (h.1 j hj), Pq_tr h.2 g.2⟩
theorem FrL_W {M M' : Mem} (h : FrW M M') : FrL M M' := ⟨fun j hj => by rw [h.1 1 (by decide)], h.1 3 (by decide), h.1 21 (by decide), h.1 22 (by decide), h.2 4 (by omega), h.2 29 (by omega)⟩
theorem FrL_T {M M' : Mem} (h : FrT M M') : FrL M M' := FrL_W (FrT_W h)
theorem FrL_2 (M : Mem) (r : Nat → Int32) : FrL M (mr M 2 r) := ⟨fun j hj => by rw [mr_n _ _ (by decide)], mr_n _ _ (by decide), mr_n _ _ (by decide), mr_n _ _ (by decide), by rw [mr_n _ _ (by decide)], by rw [mr_n _ _ (by decide)]⟩
theorem TpM_L {M M' : Mem} {β : Nat → Nat} {n : Nat} (h : TpM M β n) (g : FrL M M') : TpM M' β n := ⟨h.1, g.2.2.2.2.2.trans h.2.1, fun j hj => by rw [g.2.2.1]; exact h.2.2 j hj⟩
theorem LA_2 {M : Mem} {β : Nat → Nat} {n w p : Nat} (h : LA M β n w p) (r : Nat → Int32) : LA (mr M 2 r) β n w p := by
  obtain ⟨a, b, c, d⟩ := h
  exact ⟨by rw [mr_n _ _ (by decide)]; exact a, by rw [mr_n _ _ (by decide)]; exact b, by rw [mr_n _ _ (by decide)]; exact c, fun x y => by rw [mr_n _ _ (by decide)]; exact d x y⟩
/-- class and reference stand behind a line, alike -/
def Nxt (R' M' : Mem) (β : Nat → Nat) (n p : Nat) : Prop := ∃ p', p < p' ∧ p' ≤ n ∧ R' 0 6 = nI p' ∧ LA M' β n 0 p' ∧ M' 0 35 = -1
def colS (σ : Sg) (x : Nat) : Sg := sgU (sgU σ (2 + σ 0) x) 0 (σ 0 + 1)
theorem co_0 (σ : Sg) (x : Nat) : colS σ x 0 = σ 0 + 1 := sgU_s _ _ _
theorem co_n (σ : Sg) (x : Nat) {j : Nat} (h1 : j ≠ 0) (h2 : j ≠ 2 + σ 0) : colS σ x j = σ j := by
  unfold colS
  rw [sgU_n _ _ h1, sgU_n _ _ h2]
theorem co_x (σ : Sg) (x : Nat) : colS σ x (2 + σ 0) = x := by
  unfold colS
  rw [sgU_n _ _ (by omega), sgU_s]
theorem co_wo (σ : Sg) (x : Nat) {j : Nat} (h : j < σ 0) : wo (colS σ x) j = wo σ j := wo_cg j (fun i h1 h2 => co_n σ x (by omega) (by omega))
theorem co_wl (σ : Sg) (x : Nat) (ne : σ 0 ≠ 0) : wo (colS σ x) (σ 0) = x * wo σ (σ 0 - 1) := by
  obtain ⟨p, hp⟩ : ∃ p, σ 0 = p + 1 := ⟨σ 0 - 1, by omega⟩
  have e1 : wo (colS σ x) (p + 1) = wo (colS σ x) p * (colS σ x) (2 + (p + 1)) := rfl
  have e2 : σ 0 - 1 = p := by omega
  rw [← hp] at e1
  rw [e1, co_x, co_wo σ x (by omega), e2, Nat.mul_comm]
theorem an_col {σ : Sg} (h : anewS σ = σ) (h6 : σ 0 < 6) (x : Nat) : anewS (colS σ x) = colS σ x := by
  funext j
  by_cases h1 : j < 32
  · exact an_lo _ h1
  · by_cases h2 : j < 56
    · obtain ⟨i, rfl⟩ : ∃ i, j = 32 + i := ⟨j - 32, by omega⟩
      rw [an_be _ (by omega), co_n _ _ (by omega) (by omega), co_n _ _ (by omega) (by omega)]
      have := an_be σ (j := i) (by omega)
      rw [h] at this
      exact this.symm
    · rw [an_hi _ (by omega), co_n _ _ (by omega) (by omega)]
      have := an_hi σ (j := j) (by omega)
      rw [h] at this
      exact this.symm
theorem okS_col {σ : Sg} (hs : okS σ) (ha : anewS σ = σ) (h6 : σ 0 < 6) {x : Nat} (hx : (σ 0 = 0 ∧ x = 1) ∨ (σ 0 ≠ 0 ∧ 2 ≤ x ∧ x ≤ 20)) : okS (colS σ x) := by
  rw [← an_col ha h6 x]
  refine okS_an ?_
  obtain ⟨s0, s1, s2, s3, s4, s5⟩ := okS_B hs
  have t0 := co_0 σ x
  refine ⟨by omega, by rw [co_n _ _ (by omega) (by omega)]; exact s1, by omega, fun _ => ?_, fun j h1 h2 => ?_, fun r c hr hc => ?_⟩
  · by_cases e : σ 0 = 0
    · have e2 : 2 = 2 + σ 0 := by omega
      have := co_x σ x
      rw [← e2] at this
      rw [this]; omega
    · rw [co_n _ _ (by omega) (by omega)]; exact s3 (by omega)
  · by_cases e : j = σ 0
    · rw [e, co_x]; omega
    · rw [co_n _ _ (by omega) (by omega)]; exact s4 j h1 (by omega)
  · rw [t0, co_n σ x (j := 1) (by omega) (by omega), co_n _ _ (by omega) (by omega)]
    exact ⟨(s5 r c hr hc).1, fun z => (s5 r c hr hc).2 (by omega)⟩
theorem h_addColumn {C : Mem} {σ : Sg} (hC : StC C σ) (h6 : σ 0 < 6) (F x : Nat) : ∃ C', f_X0_addColumn F C (nI x) = some C' ∧ StC C' (colS σ x) := by
  have cw : ∀ W : Int32, W = nI (wo (colS σ x) (σ 0)) → StC (mr (mr (mr C 1 (upd (C 1) (σ 0) (nI x))) 2 (upd (C 2) (σ 0) W)) 0 (fu (C 0) 6 (nI (σ 0 + 1)))) (colS σ x) := fun W hW => by
    refine ⟨?_, ?_, ?_, ?_, fun j hj => ?_, fun j hj => ?_, fun j hj => ?_, fun j hj => ?_⟩
    · rw [mr_s, fu_s, co_0]
    · rw [mr_s, fu_n _ _ (by decide), co_n _ _ (by omega) (by omega)]; exact cR hC
    · rw [mr_s, fu_n _ _ (by decide), co_n _ _ (by omega) (by omega)]; exact cMv hC
    · rw [mr_s, fu_n _ _ (by decide), co_n _ _ (by omega) (by omega)]; exact cSe hC
    · simp (disch := omega) only [at1_same, at1_ne]
      rw [co_0] at hj
      by_cases e : j = σ 0
      · subst e
        rw [pk_us, pk_us, co_x]
        exact ⟨rfl, hW⟩
      · rw [pk_un e, pk_un e, co_n _ _ (by omega) (by omega), co_wo _ _ (by omega)]
        exact ⟨cRt hC (by omega), cWo hC (by omega)⟩
    · simp (disch := omega) only [at1_same, at1_ne]
      rw [co_n _ _ (by omega) (by omega), co_n _ _ (by omega) (by omega)]
      exact ⟨cCe hC hj, cBe hC hj⟩
    · rw [co_n _ _ (by omega) (by omega)] at hj
      simp (disch := omega) only [at1_same, at1_ne]
      rw [co_n _ _ (by omega) (by omega)]
      exact cLo hC hj
    · rw [co_n _ _ (by omega) (by omega)] at hj
      simp (disch := omega) only [at1_same, at1_ne]
      rw [co_n _ _ (by omega) (by omega)]
      exact cSi hC hj
  unfold f_X0_addColumn
  rw [cC hC, ck_n h6 (by decide)]
  by_cases z0 : σ 0 = 0
  · refine ⟨_, ?_, cw 1 (by rw [z0]; rfl)⟩
    rw [if_pos (show nI (σ 0) = 0 by rw [z0]; rfl), ck_n h6 (by decide), nI_clamp (by omega), nI_1]
  · refine ⟨_, ?_, cw (nI (x * wo σ (σ 0 - 1))) (by rw [co_wl σ x z0])⟩
    have e1 : nI (σ 0) - 1 = nI (σ 0 - 1) := nI_sub' (b := 1) (by omega)
    rw [if_neg (nI_ne0 (by omega) (by omega)), e1, ck_n (by omega) (by decide), ck_n h6 (by decide), nI_clamp (by omega), nI_clamp (by omega), cWo hC (by omega), nI_mul', nI_1]
theorem m_tcol {F : Nat} (hF : 10000 ≤ F) {R T DR M : Mem} {LM : MemL} {β : Nat → Nat} {n p : Nat} {τ : Sg} (hT : Tb T 1 β n) (hM : TpM M β n) (hp : p ≤ n) (hR : R 0 5 = nI n) (hP : R 0 6 = nI p) (h31 : M 0 31 = nI p) (h32 : M 0 32 = nI 1) (h35 : M 0 35 = -1) (hC : StC DR τ) (hs : okS τ) (ha : anewS τ = τ) (hd : Rd M τ 0) (h6 : τ 0 < 6) (x1 : Int32) :
    (∃ R' DR' M' τ', f_X6_readColumn F R DR T = some (1, R', DR') ∧ f_X10_readsColumn F M LM x1 = some M' ∧ FrR R R' ∧ Nxt R' M' β n p ∧ StC DR' τ' ∧ okS τ' ∧ anewS τ' = τ' ∧ Rd M' τ' 0 ∧ FrL M M') ∨
    (∃ R' DR' M' f, f_X6_readColumn F R DR T = some (0, R', DR') ∧ f_X10_readsColumn F M LM x1 = some M' ∧ f ≤ 400 ∧ R' 0 8 = nI f ∧ M' 0 35 = nI f ∧ FrL M M') := by
  have m20 : M 2 0 = nI (τ 0) := hd 0 (by omega) (by omega)
  obtain ⟨M1, g1, g2, g3⟩ := g_goesOn (F := F) (LM := LM) (by omega) hM hp h31 h32 (by omega)
  rw [if_pos (Or.inl rfl)] at g2
  have m21 : M1 2 0 = nI (τ 0) := by rw [g3.1 2 (by decide)]; exact m20
  have w1 : M1 0 35 = -1 := by rw [g3.2 35 (by omega)]; exact h35
  have ck2 : ck (2 + nI (τ 0)) 226 = fun E : Option Mem => E := by
    funext E
    have e : (2 : Int32) + nI (τ 0) = nI (2 + τ 0) := nI_add 2 _
    rw [e]
    exact ck_n (by omega) (by decide)
  -- for both bounds
  have main : ∀ lo hi : Nat, lo ≤ hi → hi ≤ 20 → (∀ v, lo ≤ v → v ≤ hi → (τ 0 = 0 ∧ v = 1) ∨ (τ 0 ≠ 0 ∧ 2 ≤ v ∧ v ≤ 20)) →
      (∃ R' DR' M' τ', f_X6_readColumn_32 F R DR T (nI hi) (nI lo) = some (1, R', DR') ∧ ((f_X10_needsNumber F M1 LM (nI lo) (nI hi)).bind (fun z => f_X10_readsColumn_58 F z.2 LM (2 + nI (τ 0)) z.1)) = some M' ∧ FrR R R' ∧ Nxt R' M' β n p ∧ StC DR' τ' ∧ okS τ' ∧ anewS τ' = τ' ∧ Rd M' τ' 0 ∧ FrL M M') ∨
      (∃ R' DR' M' f, f_X6_readColumn_32 F R DR T (nI hi) (nI lo) = some (0, R', DR') ∧ ((f_X10_needsNumber F M1 LM (nI lo) (nI hi)).bind (fun z => f_X10_readsColumn_58 F z.2 LM (2 + nI (τ 0)) z.1)) = some M' ∧ f ≤ 400 ∧ R' 0 8 = nI f ∧ M' 0 35 = nI f ∧ FrL M M') := fun lo hi b1 b2 hv => by
    have m1 := m_num (F := F) (R := R) (LM := LM) (by omega) hT (TpM_f hM g3) hp hR hP g2 w1 (slot := 0) (lo := lo) (hi := (hi : Int)) (by omega) (by omega) (by omega) (by omega)
    rw [zI_c] at m1
    have e2 : (2 : Int32) + nI (τ 0) = nI (2 + τ 0) := nI_add 2 _
    unfold f_X6_readColumn_32 f_X10_readsColumn_58
    rw [e2]
    rcases m1 with ⟨R1, M2, v, p1, v1, v2, v3, q1, q2, a1, a2, a3, a4, a5, a6, a7, a8⟩ | ⟨R1, M2, f, f1, a1, a2, a3, a4, a5⟩
    · have a1' : f_X6_readNumber F R T 0 (nI lo) (nI hi) = some (1, R1) := a1
      have m2 := m_close (F := F) (R := R1) (M := mr M2 2 (upd (M2 2) (2 + τ 0) (nI v))) (LM := LM) (by omega) hT (TpM_L (TpM_f (TpM_f hM g3) a8) (FrL_2 _ _)) q2 (a4.1.trans hR) a3 (LA_2 a6 _) (by rw [mr_n _ _ (by decide)]; exact a7)
      have r2 : ∀ j, M2 2 j = M 2 j := fun j => by rw [a8.1 2 (by decide), g3.1 2 (by decide)]
      rw [a1', a2, Option.bind_some, Option.bind_some, if_neg (show ¬ (1 : Int32) = 0 by decide), ck_n (by omega) (by decide), nI_clamp (by omega)]
      rcases m2 with ⟨R3, M3, p3, q3, q4, c1, c2, c3, c4, c5, c6, c7, c8⟩ | ⟨R3, M3, f, f1, c1, c2, c3, c4, c5⟩
      · have r3 : R3 1 0 = nI v := by rw [c5, a5, pk_us]
        obtain ⟨DR', d1, d2⟩ := h_addColumn hC h6 F v
        have z0 : M3 2 0 = nI (τ 0) := by rw [c8.1 2 (by decide), mr_s, pk_un (by omega), r2]; exact m20
        refine Or.inl ⟨R3, DR', mr M3 2 (upd (M3 2) 0 (nI (τ 0 + 1))), colS τ v, ?_, ?_, FrR_tr a4 c4, ⟨p3, by omega, q4, c3, LA_2 c6 _, by rw [mr_n _ _ (by decide)]; exact c7⟩, d2, okS_col hs ha h6 (hv v v2 (by omega)), an_col ha h6 v, fun j hj hb => ?_, ?_⟩
        · rw [c1, Option.bind_some, if_neg (show ¬ (1 : Int32) = 0 by decide)]
          show ck (nI 0) 4 ((f_X0_addColumn F DR (R3 1 0)).bind _) = _
          rw [ck_n (by decide) (by decide), r3, d1, Option.bind_some]
        · rw [c2, Option.bind_some, ck0, ck0, m0c, z0, nI_1]
        · rw [mr_s]
          by_cases e : j = 0
          · rw [e, pk_us, co_0]
          · rw [pk_un e, c8.1 2 (by decide), mr_s]
            by_cases e3 : j = 2 + τ 0
            · rw [e3, pk_us, co_x]
            · rw [pk_un e3, r2, co_n _ _ e e3]
              exact hd j hj hb
        · exact FrL_tr (FrL_T (FrT_tr g3 a8)) (FrL_tr (FrL_2 _ _) (FrL_tr (FrL_T c8) (FrL_2 _ _)))
      · refine Or.inr ⟨R3, DR, mr M3 2 (upd (M3 2) 0 (M3 2 0 + 1)), f, ?_, ?_, f1, c3, by rw [mr_n _ _ (by decide)]; exact c4, ?_⟩
        · rw [c1, Option.bind_some, if_pos (rfl : (0 : Int32) = 0)]
        · rw [c2, Option.bind_some, ck0, ck0, m0c]
        · exact FrL_tr (FrL_T (FrT_tr g3 a8)) (FrL_tr (FrL_2 _ _) (FrL_tr (FrL_W c5) (FrL_2 _ _)))
    · have a1' : f_X6_readNumber F R T 0 (nI lo) (nI hi) = some (0, R1) := a1
      have w2 : ¬ (mr M2 2 (upd (M2 2) (2 + τ 0) 0)) 0 35 = -1 := by rw [mr_n _ _ (by decide), a4]; exact nm1 (by omega)
      rw [a1', a2, Option.bind_some, Option.bind_some, if_pos (rfl : (0 : Int32) = 0), ck_n (by omega) (by decide), nI_clamp (by omega), g_nc_x w2, Option.bind_some, ck0, ck0, m0c]
      refine Or.inr ⟨R1, DR, _, f, rfl, rfl, f1, a3, ?_, ?_⟩
      · rw [mr_n _ _ (by decide), mr_n _ _ (by decide)]; exact a4
      · exact FrL_tr (FrL_T g3) (FrL_tr (FrL_W a5) (FrL_tr (FrL_2 _ _) (FrL_2 _ _)))
  have rf : f_X10_readsColumn F M LM x1 = if nI (τ 0) = 0 then (f_X10_needsNumber F M1 LM 1 1).bind (fun z45 => f_X10_readsColumn_58 F z45.2 LM (2 + nI (τ 0)) z45.1) else (f_X10_needsNumber F M1 LM 2 20).bind (fun z55 => f_X10_readsColumn_58 F z55.2 LM (2 + nI (τ 0)) z55.1) := by
    unfold f_X10_readsColumn
    rw [ck0, m0c, m20, if_neg (show ¬ nI (τ 0) = (6 : Int32) from fun z => by have := (nI_eq (b := 6) (by omega) (by omega)).mp z; omega), g1, Option.bind_some, ck0, ck0, m21]
  rw [rf]
  unfold f_X6_readColumn f_X6_readColumn_16
  rw [cC hC]
  by_cases z0 : τ 0 = 0
  · have ez : nI (τ 0) = 0 := by rw [z0]; rfl
    rw [if_pos ez, if_pos ez, if_pos ez]
    exact main 1 1 (by omega) (by omega) (fun v v1 v2 => Or.inl ⟨z0, by omega⟩)
  · have ez : ¬ nI (τ 0) = 0 := nI_ne0 (by omega) (by omega)
    rw [if_neg ez, if_neg ez, if_neg ez]
    exact main 2 20 (by omega) (by omega) (fun v v1 v2 => Or.inr ⟨z0, v1, v2⟩)
