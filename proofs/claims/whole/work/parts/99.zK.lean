/-! PURE LAYER: text: a move's numbers; what was seen -/
/-- both have read a line, or both have failed at one place -/
def LnO (X : Option (Int32 × Mem × Mem × Mem)) (Y : Option Mem) (R M : Mem) (β : Nat → Nat) (n p b : Nat) : Prop :=
  (∃ R' DR' RE' M' τ', X = some (1, R', DR', RE') ∧ Y = some M' ∧ FrR R R' ∧ Nxt R' M' β n p ∧ StC DR' τ' ∧ okS τ' ∧ Rd M' τ' b ∧ FrL M M' ∧ (b = 0 → anewS τ' = τ')) ∨
  (∃ R' DR' RE' M' f, X = some (0, R', DR', RE') ∧ Y = some M' ∧ f ≤ 400 ∧ R' 0 8 = nI f ∧ M' 0 35 = nI f ∧ FrL M M')
theorem LnO_tr {X : Option (Int32 × Mem × Mem × Mem)} {Y : Option Mem} {R M R1 M1 : Mem} {β : Nat → Nat} {n p p1 b : Nat} (h1 : FrR R R1) (h2 : FrL M M1) (h3 : p ≤ p1) (h : LnO X Y R1 M1 β n p1 b) : LnO X Y R M β n p b := by
  rcases h with ⟨R', DR', RE', M', τ', a1, a2, a3, ⟨p', b4, b5, b6⟩, a5, a6, a7, a8, a9⟩ | ⟨R', DR', RE', M', f, a1, a2, a3, a4, a5, a6⟩
  · exact Or.inl ⟨R', DR', RE', M', τ', a1, a2, FrR_tr h1 a3, ⟨p', by omega, b5, b6⟩, a5, a6, a7, FrL_tr h2 a8, a9⟩
  · exact Or.inr ⟨R', DR', RE', M', f, a1, a2, a3, a4, a5, FrL_tr h2 a6⟩
def Nums (R : Mem) (κ r o c k : Nat) : Prop := R 1 0 = nI r ∧ (κ = 4 → R 1 1 = nI o ∧ R 1 2 = nI c ∧ R 1 3 = nI k) ∧ (κ ≠ 4 → R 1 1 = nI c ∧ R 1 2 = nI k ∧ o = 0)
theorem g_rm60_x {F : Nat} {M : Mem} {LM : MemL} (h : ¬ M 0 35 = -1) (x1 x2 x3 x4 x5 s0 : Int32) : f_X10_readsMove_60 F M LM x1 x2 x3 x4 x5 s0 = some M := by
  unfold f_X10_readsMove_60
  rw [g_nc_x h, Option.bind_some, if_neg h]
theorem g_rm28_x {F : Nat} {M : Mem} {LM : MemL} (h : ¬ M 0 35 = -1) (x1 x2 x3 s0 : Int32) : f_X10_readsMove_28 F M LM x1 x2 x3 s0 = some M := by
  unfold f_X10_readsMove_28
  rw [g_nn_x h, Option.bind_some]
  by_cases e : x2 = 2
  · rw [if_pos e]; exact g_rm60_x h _ _ _ _ _ _
  · rw [if_neg e]
    by_cases e3 : x2 = 3
    · rw [if_pos e3]; exact g_rm60_x h _ _ _ _ _ _
    · rw [if_neg e3, g_nn_x h, Option.bind_some]; exact g_rm60_x h _ _ _ _ _ _
theorem m_mvEnd {F : Nat} (hF : 10000 ≤ F) {R T DR RE M : Mem} {LM : MemL} {β : Nat → Nat} {n w p : Nat} {τ : Sg} {at0 κ r o c k : Nat} (hT : Tb T 1 β n) (hM : TpM M β n) (hp : p ≤ n) (hR : R 0 5 = nI n) (hP : R 0 6 = nI p) (hL : LA M β n w p) (h35 : M 0 35 = -1) (hC : StC DR τ) (hs : okS τ) (hd : Rd M τ 1) (hat : at0 ≤ 400) (hκ : κ ≤ 4) (hr : r ≤ 99) (ho : o ≤ 99) (hc : c ≤ 99) (hk : k ≤ 99) (ho4 : κ ≠ 4 → o = 0) (hk2 : κ = 2 ∨ κ = 3 → k = 0) (hN : Nums R κ r o c k) :
    LnO ((f_X6_readEnd F R T).bind (fun z62 => (if z62.1 = 0 then (some (0, z62.2, DR, RE)) else (if nI κ = 4 then f_X6_readMove_80 F z62.2 DR RE T (nI at0) (nI κ) 1 else f_X6_readMove_80 F z62.2 DR RE T (nI at0) (nI κ) 0)))) (f_X10_readsMove_60 F M LM (nI at0) (nI κ) (nI r) (nI o) (nI c) (nI k)) R M β n p 1 := by
  have c4 : ∀ (i : Nat), i < 4 → ∀ E : Option (Int32 × Mem × Mem × Mem), ck (nI i) 4 E = E := fun i hi E => ck_n hi (by decide)
  rcases m_close (F := F) (R := R) (LM := LM) (by omega) hT hM hp hR hP hL h35 with ⟨R3, M3, p3, q3, q4, c1, c2, c3, c4', c5, c6, c7, c8⟩ | ⟨R3, M3, f, f1, c1, c2, c3, c4', c5⟩
  · have hd3 : Rd M3 τ 1 := fun j hj hb => by rw [c8.1 2 (by decide)]; exact hd j hj hb
    have hR1 : R3 1 0 = nI r := by rw [c5]; exact hN.1
    have key := m_mv141 (F := F) (R := R3) (T := T) (RE := RE) (LM := LM) (at0 := at0) hF hC hs hd3 c7 hκ hr ho hc hk ho4 hk2 hR1
    have cls : (f_X6_readEnd F R T).bind (fun z62 => (if z62.1 = 0 then (some (0, z62.2, DR, RE)) else (if nI κ = 4 then f_X6_readMove_80 F z62.2 DR RE T (nI at0) (nI κ) 1 else f_X6_readMove_80 F z62.2 DR RE T (nI at0) (nI κ) 0))) = f_X6_readMove_141 F R3 DR RE T (nI at0) (nI κ) (nI o) (nI c) (nI k) := by
      rw [c1, Option.bind_some, if_neg (show ¬ (1 : Int32) = 0 by decide)]
      by_cases e : κ = 4
      · obtain ⟨n1, n2, n3⟩ := hN.2.1 e
        rw [← c5] at n1 n2 n3
        rw [if_pos (show nI κ = (4 : Int32) by rw [e]; rfl)]
        unfold f_X6_readMove_80 f_X6_readMove_97 f_X6_readMove_119
        rw [if_neg (show ¬ (1 : Int32) = 0 by decide), if_neg (show ¬ (1 : Int32) = 0 by decide), if_neg (show ¬ (1 : Int32) = 0 by decide)]
        show ck (nI 1) 4 (ck (nI 2) 4 (ck (nI 3) 4 (f_X6_readMove_141 F R3 DR RE T (nI at0) (nI κ) (R3 1 1) (R3 1 2) (R3 1 3)))) = _
        rw [c4 1 (by omega), c4 2 (by omega), c4 3 (by omega), n1, n2, n3]
      · obtain ⟨n1, n2, n3⟩ := hN.2.2 e
        rw [← c5] at n1 n2
        rw [if_neg (show ¬ nI κ = (4 : Int32) from fun z => e ((nI_eq (b := 4) (by omega) (by omega)).mp z))]
        unfold f_X6_readMove_80 f_X6_readMove_97 f_X6_readMove_119
        rw [if_pos (rfl : (0 : Int32) = 0), if_pos (rfl : (0 : Int32) = 0), if_pos (rfl : (0 : Int32) = 0)]
        show ck (nI 1) 4 (ck (nI 2) 4 (f_X6_readMove_141 F R3 DR RE T (nI at0) (nI κ) (nI 0) (R3 1 1) (R3 1 2))) = _
        rw [c4 1 (by omega), c4 2 (by omega), n1, n2, n3]
    have rf : f_X10_readsMove_60 F M LM (nI at0) (nI κ) (nI r) (nI o) (nI c) (nI k) = (f_X10_trades F M3 LM).bind (fun z76 => ck 56 226 ((if 24 ≤ ((z76 1) (56 : Int32).toNatClampNeg) then f_X10_readsMove_111 F z76 LM (nI at0) (nI κ) (nI r) (nI o) (nI c) (nI k) 0 else (f_X10_canMove F z76 LM (nI κ) (nI r) (nI c) (nI k) (nI o)).bind (fun z100 => (if z100.1 = 0 then f_X10_readsMove_111 F z100.2 LM (nI at0) (nI κ) (nI r) (nI o) (nI c) (nI k) 0 else f_X10_readsMove_111 F z100.2 LM (nI at0) (nI κ) (nI r) (nI o) (nI c) (nI k) 1))))) := by
      unfold f_X10_readsMove_60
      rw [c2, Option.bind_some, if_pos c7]
    rw [cls, rf]
    rcases key with ⟨DR', RE', M', τ', a1, a2, a3, a4, a5, a6, a7⟩ | ⟨R', RE', M', a1, a2, a3, a4, a5⟩
    · exact Or.inl ⟨R3, DR', RE', M', τ', a1, a2, c4', ⟨p3, q3, q4, c3, LA_f c6 a7, by rw [a7 35 (by omega)]; exact c7⟩, a3, a4, a5, FrL_tr (FrL_T c8) a6, fun z => absurd z (by decide)⟩
    · exact Or.inr ⟨R', DR, RE', M', at0, a1, a3, hat, a2, a4, FrL_tr (FrL_T c8) a5⟩
  · have w : ¬ M3 0 35 = -1 := by rw [c4']; exact nm1 (by omega)
    refine Or.inr ⟨R3, DR, RE, M3, f, ?_, ?_, f1, c3, c4', FrL_W c5⟩
    · rw [c1, Option.bind_some, if_pos (rfl : (0 : Int32) = 0)]
    · unfold f_X10_readsMove_60
      rw [c2, Option.bind_some, if_neg w]
/-- one number of a move -/
theorem m_mvNum {F : Nat} (hF : 10000 ≤ F) {R T DR RE M : Mem} {LM : MemL} {β : Nat → Nat} {n p : Nat} (hT : Tb T 1 β n) (hM : TpM M β n) (hp : p ≤ n) (hR : R 0 5 = nI n) (hP : R 0 6 = nI p) (hL : LA M β n 1 p) (h35 : M 0 35 = -1) (x1 x2 : Int32) (k61 : Mem → Option (Int32 × Mem × Mem × Mem)) {i many m : Nat} (hi : i < many) (hm : many ≤ 4) :
    (∃ R' M' v p', v ≤ 99 ∧ p < p' ∧ p' ≤ n ∧ f_X6_readMove_35 F DR RE T x1 x2 (nI many) (fun R_53 => (some (0, R_53, DR, RE))) k61 (m + 1) R (nI i) = f_X6_readMove_35 F DR RE T x1 x2 (nI many) (fun R_53 => (some (0, R_53, DR, RE))) k61 m R' (nI (i + 1)) ∧ f_X10_needsNumber F M LM 0 99 = some (nI v, M') ∧ R' 0 6 = nI p' ∧ FrR R R' ∧ R' 1 = upd (R 1) i (nI v) ∧ LA M' β n 1 p' ∧ M' 0 35 = -1 ∧ FrT M M') ∨
    (∃ R' M' f, f ≤ 400 ∧ f_X6_readMove_35 F DR RE T x1 x2 (nI many) (fun R_53 => (some (0, R_53, DR, RE))) k61 (m + 1) R (nI i) = some (0, R', DR, RE) ∧ f_X10_needsNumber F M LM 0 99 = some (0, M') ∧ R' 0 8 = nI f ∧ M' 0 35 = nI f ∧ FrW M M') := by
  have e99 : zI (99 : Int) = (99 : Int32) := rfl
  have mn := m_num (F := F) (R := R) (LM := LM) (by omega) hT hM hp hR hP hL h35 (slot := i) (lo := 0) (hi := 99) (by omega) (by omega) (by omega) (by omega)
  rw [e99] at mn
  rw [f_X6_readMove_35, if_neg (nI_ge hi (by omega))]
  rcases mn with ⟨R1, M2, v, p1, v1, v2, v3, q1, q2, a1, a2, a3, a4, a5, a6, a7, a8⟩ | ⟨R1, M2, f, f1, a1, a2, a3, a4, a5⟩
  · have a1' : f_X6_readNumber F R T (nI i) 0 99 = some (1, R1) := a1
    refine Or.inl ⟨R1, M2, v, p1, v1, q1, q2, ?_, a2, a3, a4, a5, a6, a7, a8⟩
    rw [a1', Option.bind_some, if_neg (show ¬ (1 : Int32) = 0 by decide), nI_1]
  · have a1' : f_X6_readNumber F R T (nI i) 0 99 = some (0, R1) := a1
    refine Or.inr ⟨R1, M2, f, f1, ?_, a2, a3, a4, a5⟩
    rw [a1', Option.bind_some, if_pos (rfl : (0 : Int32) = 0)]
theorem h_rm35 {F : Nat} {R T DR RE : Mem} (x1 x2 : Int32) (k53 k61 : Mem → Option (Int32 × Mem × Mem × Mem)) {many : Nat} (hm : many ≤ 4) (m : Nat) : f_X6_readMove_35 F DR RE T x1 x2 (nI many) k53 k61 (m + 1) R (nI many) = k61 R := by
  rw [f_X6_readMove_35, if_pos (nI_le (Nat.le_refl _) (by omega))]
theorem m_tmove {F : Nat} (hF : 10000 ≤ F) {R T DR RE M : Mem} {LM : MemL} {β : Nat → Nat} {n p : Nat} {τ : Sg} {at0 κ : Nat} (hT : Tb T 1 β n) (hM : TpM M β n) (hp : p ≤ n) (hR : R 0 5 = nI n) (hP : R 0 6 = nI p) (h31 : M 0 31 = nI p) (h32 : M 0 32 = nI 1) (h35 : M 0 35 = -1) (hC : StC DR τ) (hs : okS τ) (hd : Rd M τ 1) (hat : at0 ≤ 400) (hκ : κ ≤ 4) : LnO (f_X6_readMove F R DR RE T (nI at0) (nI κ)) (f_X10_readsMove F M LM (nI at0) (nI κ)) R M β n p 1 := by
  obtain ⟨M1, g1, g2, g3⟩ := g_goesOn (F := F) (LM := LM) (by omega) hM hp h31 h32 (by omega)
  rw [if_pos (Or.inl rfl)] at g2
  have w1 : M1 0 35 = -1 := by rw [g3.2 35 (by omega)]; exact h35
  have hM1 := TpM_f hM g3
  obtain ⟨R0, hR0⟩ : ∃ R0, R0 = mr R 1 (upd (R 1) 2 (nI 0)) := ⟨_, rfl⟩
  have f0 : FrR R R0 := ⟨by rw [hR0, mr_n _ _ (by decide)], by rw [hR0, mr_n _ _ (by decide)]⟩
  have p0 : R0 0 6 = nI p := by rw [hR0, mr_n _ _ (by decide)]; exact hP
  have z0 : R0 1 2 = nI 0 := by rw [hR0, mr_s, pk_us]
  obtain ⟨F', hF'⟩ : ∃ F', F = F' + 5 := ⟨F - 5, by omega⟩
  -- how the class begins
  have cls : ∀ many, many ≤ 4 → f_X6_readMove_24 F R DR RE T (nI at0) (nI κ) (nI many) = f_X6_readMove_35 F DR RE T (nI at0) (nI κ) (nI many) (fun R_53 => (some (0, R_53, DR, RE))) (fun R_61 => (f_X6_readEnd F R_61 T).bind (fun z62 => (if z62.1 = 0 then (some (0, z62.2, DR, RE)) else (if nI κ = 4 then f_X6_readMove_80 F z62.2 DR RE T (nI at0) (nI κ) 1 else f_X6_readMove_80 F z62.2 DR RE T (nI at0) (nI κ) 0)))) (F' + 5) R0 (nI 0) := fun many _ => by
    unfold f_X6_readMove_24
    show ck (nI 2) 4 _ = _
    rw [ck_n (by decide) (by decide), hR0, ← hF']
    rfl
  have rf1 : f_X10_readsMove F M LM (nI at0) (nI κ) = (f_X10_needsNumber F M1 LM 0 99).bind (fun z8 => (if nI κ = 4 then (f_X10_needsNumber F z8.2 LM 0 99).bind (fun z21 => f_X10_readsMove_28 F z21.2 LM (nI at0) (nI κ) z8.1 z21.1) else f_X10_readsMove_28 F z8.2 LM (nI at0) (nI κ) z8.1 0)) := by
    unfold f_X10_readsMove
    rw [g1, Option.bind_some]
  have frd : ∀ M', FrT M1 M' → Rd M' τ 1 := fun M' h j hj hb => by rw [h.1 2 (by decide), g3.1 2 (by decide)]; exact hd j hj hb
  refine LnO_tr f0 (FrL_T g3) (Nat.le_refl p) ?_
  rw [rf1]
  unfold f_X6_readMove
  obtain ⟨K, hK⟩ : ∃ K : Mem → Option (Int32 × Mem × Mem × Mem), K = (fun R_61 => (f_X6_readEnd F R_61 T).bind (fun z62 => (if z62.1 = 0 then (some (0, z62.2, DR, RE)) else (if nI κ = 4 then f_X6_readMove_80 F z62.2 DR RE T (nI at0) (nI κ) 1 else f_X6_readMove_80 F z62.2 DR RE T (nI at0) (nI κ) 0)))) := ⟨_, rfl⟩
  rw [← hK] at cls
  have r50 := f0.1.trans hR
  have nx : ∀ {f : Nat} {M' : Mem}, f ≤ 400 → M' 0 35 = nI f → ¬ M' 0 35 = -1 := fun h1 h2 => by rw [h2]; exact nm1 (by omega)
  by_cases k4 : κ = 4
  · have e4 : nI κ = (4 : Int32) := by rw [k4]; rfl
    have e2 : ¬ nI κ = (2 : Int32) := by rw [e4]; decide
    have e3 : ¬ nI κ = (3 : Int32) := by rw [e4]; decide
    have c4 : (if nI κ = 4 then f_X6_readMove_24 F R DR RE T (nI at0) (nI κ) 4 else (if nI κ = 2 then f_X6_readMove_24 F R DR RE T (nI at0) (nI κ) 2 else (if nI κ = 3 then f_X6_readMove_24 F R DR RE T (nI at0) (nI κ) 2 else f_X6_readMove_24 F R DR RE T (nI at0) (nI κ) 3))) = f_X6_readMove_35 F DR RE T (nI at0) (nI κ) (nI 4) (fun R_53 => (some (0, R_53, DR, RE))) K (F' + 5) R0 (nI 0) := by
      rw [if_pos e4]
      exact cls 4 (by omega)
    rw [c4]
    rcases m_mvNum (F := F) (R := R0) (DR := DR) (RE := RE) (LM := LM) hF hT hM1 hp r50 p0 g2 w1 (nI at0) (nI κ) K (i := 0) (many := 4) (m := F' + 4) (by omega) (by omega) with ⟨R1, M2, v0, p1, v0l, q1, q2, a1, a2, a3, a4, a5, a6, a7, a8⟩ | ⟨R1, M2, f, f1, a1, a2, a3, a4, a5⟩
    · have hM2 := TpM_f hM1 a8
      rw [a1, a2, Option.bind_some, if_pos e4]
      refine LnO_tr a4 (FrL_T a8) (Nat.le_of_lt q1) ?_
      rcases m_mvNum (F := F) (R := R1) (DR := DR) (RE := RE) (LM := LM) hF hT hM2 q2 (a4.1.trans r50) a3 a6 a7 (nI at0) (nI κ) K (i := 1) (many := 4) (m := F' + 3) (by omega) (by omega) with ⟨R2, M3, v1, p2, v1l, q3, q4, b1, b2, b3, b4, b5, b6, b7, b8⟩ | ⟨R2, M3, f, f1, b1, b2, b3, b4, b5⟩
      · have hM3 := TpM_f hM2 b8
        rw [b1, b2, Option.bind_some]
        refine LnO_tr b4 (FrL_T b8) (Nat.le_of_lt q3) ?_
        unfold f_X10_readsMove_28
        rcases m_mvNum (F := F) (R := R2) (DR := DR) (RE := RE) (LM := LM) hF hT hM3 q4 (b4.1.trans (a4.1.trans r50)) b3 b6 b7 (nI at0) (nI κ) K (i := 2) (many := 4) (m := F' + 2) (by omega) (by omega) with ⟨R3, M4, v2, p3, v2l, q5, q6, c1, c2, c3, c4', c5, c6, c7, c8⟩ | ⟨R3, M4, f, f1, c1, c2, c3, c4', c5⟩
        · have hM4 := TpM_f hM3 c8
          rw [c1, c2, Option.bind_some, if_neg e2, if_neg e3]
          refine LnO_tr c4' (FrL_T c8) (Nat.le_of_lt q5) ?_
          rcases m_mvNum (F := F) (R := R3) (DR := DR) (RE := RE) (LM := LM) hF hT hM4 q6 (c4'.1.trans (b4.1.trans (a4.1.trans r50))) c3 c6 c7 (nI at0) (nI κ) K (i := 3) (many := 4) (m := F' + 1) (by omega) (by omega) with ⟨R4, M5, v3, p4, v3l, q7, q8, d1, d2, d3, d4, d5, d6, d7, d8⟩ | ⟨R4, M5, f, f1, d1, d2, d3, d4, d5⟩
          · rw [d1, d2, Option.bind_some, h_rm35 (nI at0) (nI κ) _ K (many := 4) (by omega) F', hK]
            refine LnO_tr d4 (FrL_T d8) (Nat.le_of_lt q7) ?_
            refine m_mvEnd hF hT (TpM_f hM4 d8) q8 (d4.1.trans (c4'.1.trans (b4.1.trans (a4.1.trans r50)))) d3 d6 d7 hC hs (frd M5 (FrT_tr a8 (FrT_tr b8 (FrT_tr c8 d8)))) hat hκ v0l v1l v2l v3l (fun z => absurd k4 z) (fun z => by omega) ⟨?_, fun _ => ⟨?_, ?_, ?_⟩, fun z => absurd k4 z⟩
            · rw [d5, c5, b5, a5]
              simp (disch := omega) only [pk_us, pk_un]
            · rw [d5, c5, b5, a5]
              simp (disch := omega) only [pk_us, pk_un]
            · rw [d5, c5, b5, a5]
              simp (disch := omega) only [pk_us, pk_un]
            · rw [d5, c5, b5, a5]
              simp (disch := omega) only [pk_us, pk_un]
          · exact Or.inr ⟨R4, DR, RE, M5, f, d1, by rw [d2, Option.bind_some]; exact g_rm60_x (nx f1 d4) _ _ _ _ _ _, f1, d3, d4, FrL_W d5⟩
        · exact Or.inr ⟨R3, DR, RE, M4, f, c1, by rw [c2, Option.bind_some, if_neg e2, if_neg e3, g_nn_x (nx f1 c4'), Option.bind_some]; exact g_rm60_x (nx f1 c4') _ _ _ _ _ _, f1, c3, c4', FrL_W c5⟩
      · exact Or.inr ⟨R2, DR, RE, M3, f, b1, by rw [b2, Option.bind_some]; exact g_rm28_x (nx f1 b4) _ _ _ _, f1, b3, b4, FrL_W b5⟩
    · exact Or.inr ⟨R1, DR, RE, M2, f, a1, by rw [a2, Option.bind_some, if_pos e4, g_nn_x (nx f1 a4), Option.bind_some]; exact g_rm28_x (nx f1 a4) _ _ _ _, f1, a3, a4, FrL_W a5⟩
  · have e4 : ¬ nI κ = (4 : Int32) := fun z => k4 ((nI_eq (b := 4) (by omega) (by omega)).mp z)
    -- how many numbers
    have many : ∃ many, (many = 2 ∨ many = 3) ∧ (many = 2 ↔ (κ = 2 ∨ κ = 3)) ∧ (if nI κ = 4 then f_X6_readMove_24 F R DR RE T (nI at0) (nI κ) 4 else (if nI κ = 2 then f_X6_readMove_24 F R DR RE T (nI at0) (nI κ) 2 else (if nI κ = 3 then f_X6_readMove_24 F R DR RE T (nI at0) (nI κ) 2 else f_X6_readMove_24 F R DR RE T (nI at0) (nI κ) 3))) = f_X6_readMove_35 F DR RE T (nI at0) (nI κ) (nI many) (fun R_53 => (some (0, R_53, DR, RE))) K (F' + 5) R0 (nI 0) := by
      rw [if_neg e4]
      by_cases k2 : κ = 2
      · refine ⟨2, Or.inl rfl, ⟨fun _ => Or.inl k2, fun _ => rfl⟩, ?_⟩
        rw [if_pos (show nI κ = (2 : Int32) by rw [k2]; rfl)]
        exact cls 2 (by omega)
      · rw [if_neg (show ¬ nI κ = (2 : Int32) from fun z => k2 ((nI_eq (b := 2) (by omega) (by omega)).mp z))]
        by_cases k3 : κ = 3
        · refine ⟨2, Or.inl rfl, ⟨fun _ => Or.inr k3, fun _ => rfl⟩, ?_⟩
          rw [if_pos (show nI κ = (3 : Int32) by rw [k3]; rfl)]
          exact cls 2 (by omega)
        · refine ⟨3, Or.inr rfl, ⟨fun z => by omega, fun z => by omega⟩, ?_⟩
          rw [if_neg (show ¬ nI κ = (3 : Int32) from fun z => k3 ((nI_eq (b := 3) (by omega) (by omega)).mp z))]
          exact cls 3 (by omega)
    obtain ⟨many, m23, mk, c4⟩ := many
    rw [c4]
    rcases m_mvNum (F := F) (R := R0) (DR := DR) (RE := RE) (LM := LM) hF hT hM1 hp r50 p0 g2 w1 (nI at0) (nI κ) K (i := 0) (many := many) (m := F' + 4) (by omega) (by omega) with ⟨R1, M2, v0, p1, v0l, q1, q2, a1, a2, a3, a4, a5, a6, a7, a8⟩ | ⟨R1, M2, f, f1, a1, a2, a3, a4, a5⟩
    · have hM2 := TpM_f hM1 a8
      rw [a1, a2, Option.bind_some, if_neg e4]
      refine LnO_tr a4 (FrL_T a8) (Nat.le_of_lt q1) ?_
      unfold f_X10_readsMove_28
      rcases m_mvNum (F := F) (R := R1) (DR := DR) (RE := RE) (LM := LM) hF hT hM2 q2 (a4.1.trans r50) a3 a6 a7 (nI at0) (nI κ) K (i := 1) (many := many) (m := F' + 3) (by omega) (by omega) with ⟨R2, M3, v1, p2, v1l, q3, q4, b1, b2, b3, b4, b5, b6, b7, b8⟩ | ⟨R2, M3, f, f1, b1, b2, b3, b4, b5⟩
      · have hM3 := TpM_f hM2 b8
        rw [b1, b2, Option.bind_some]
        refine LnO_tr b4 (FrL_T b8) (Nat.le_of_lt q3) ?_
        rcases m23 with rfl | rfl
        · -- carry, break
          have k23 := mk.mp rfl
          have ri : (if nI κ = (2 : Int32) then f_X10_readsMove_60 F M3 LM (nI at0) (nI κ) (nI v0) 0 (nI v1) 0 else (if nI κ = (3 : Int32) then f_X10_readsMove_60 F M3 LM (nI at0) (nI κ) (nI v0) 0 (nI v1) 0 else (f_X10_needsNumber F M3 LM 0 99).bind (fun z57 => f_X10_readsMove_60 F z57.2 LM (nI at0) (nI κ) (nI v0) 0 (nI v1) z57.1))) = f_X10_readsMove_60 F M3 LM (nI at0) (nI κ) (nI v0) (nI 0) (nI v1) (nI 0) := by
            rcases k23 with k2 | k3
            · rw [if_pos (show nI κ = (2 : Int32) by rw [k2]; rfl)]; rfl
            · rw [if_neg (show ¬ nI κ = (2 : Int32) by rw [k3]; decide), if_pos (show nI κ = (3 : Int32) by rw [k3]; rfl)]; rfl
          refine Eq.mpr (congrArg (fun Y => LnO _ Y R2 M3 β n p2 1) ri) ?_
          rw [h_rm35 (nI at0) (nI κ) _ K (many := 2) (by omega) (F' + 2), hK]
          refine m_mvEnd hF hT hM3 q4 (b4.1.trans (a4.1.trans r50)) b3 b6 b7 hC hs (frd M3 (FrT_tr a8 b8)) hat hκ v0l (by omega) v1l (by omega) (fun _ => rfl) (fun _ => rfl) ⟨?_, fun z => absurd z k4, fun _ => ⟨?_, ?_, rfl⟩⟩
          · rw [b5, a5]
            simp (disch := omega) only [pk_us, pk_un]
          · rw [b5, a5]
            simp (disch := omega) only [pk_us, pk_un]
          · rw [b5, a5]
            simp (disch := omega) only [pk_us, pk_un]
            exact z0
        · -- put, take
          have n23 : ¬ (κ = 2 ∨ κ = 3) := fun z => absurd (mk.mpr z) (by decide)
          have e2 : ¬ nI κ = (2 : Int32) := fun z => n23 (Or.inl ((nI_eq (b := 2) (by omega) (by omega)).mp z))
          have e3 : ¬ nI κ = (3 : Int32) := fun z => n23 (Or.inr ((nI_eq (b := 3) (by omega) (by omega)).mp z))
          rw [if_neg e2, if_neg e3]
          rcases m_mvNum (F := F) (R := R2) (DR := DR) (RE := RE) (LM := LM) hF hT hM3 q4 (b4.1.trans (a4.1.trans r50)) b3 b6 b7 (nI at0) (nI κ) K (i := 2) (many := 3) (m := F' + 2) (by omega) (by omega) with ⟨R3, M4, v2, p3, v2l, q5, q6, c1, c2, c3, c4', c5, c6, c7, c8⟩ | ⟨R3, M4, f, f1, c1, c2, c3, c4', c5⟩
          · rw [c1, c2, Option.bind_some, h_rm35 (nI at0) (nI κ) _ K (many := 3) (by omega) (F' + 1), hK]
            refine LnO_tr c4' (FrL_T c8) (Nat.le_of_lt q5) ?_
            refine m_mvEnd (o := 0) hF hT (TpM_f hM3 c8) q6 (c4'.1.trans (b4.1.trans (a4.1.trans r50))) c3 c6 c7 hC hs (frd M4 (FrT_tr a8 (FrT_tr b8 c8))) hat hκ v0l (by omega) v1l v2l (fun _ => rfl) (fun z => absurd z n23) ⟨?_, fun z => absurd z k4, fun _ => ⟨?_, ?_, rfl⟩⟩
            · rw [c5, b5, a5]
              simp (disch := omega) only [pk_us, pk_un]
            · rw [c5, b5, a5]
              simp (disch := omega) only [pk_us, pk_un]
            · rw [c5, b5, a5]
              simp (disch := omega) only [pk_us, pk_un]
          · exact Or.inr ⟨R3, DR, RE, M4, f, c1, by rw [c2, Option.bind_some]; exact g_rm60_x (nx f1 c4') _ _ _ _ _ _, f1, c3, c4', FrL_W c5⟩
      · refine Or.inr ⟨R2, DR, RE, M3, f, b1, ?_, f1, b3, b4, FrL_W b5⟩
        rw [b2, Option.bind_some, g_nn_x (nx f1 b4), Option.bind_some, g_rm60_x (nx f1 b4)]
        split
        · rfl
        · split <;> rfl
    · exact Or.inr ⟨R1, DR, RE, M2, f, a1, by rw [a2, Option.bind_some, if_neg e4]; exact g_rm28_x (nx f1 a4) _ _ _ _, f1, a3, a4, FrL_W a5⟩
