/-! PURE LAYER: text: rows -/
theorem tok2_num {β : Nat → Nat} {n p : Nat} : tokK β n (glN β n 1 p) (bE β n p) = 2 ↔ bE β n p ≠ p ∧ bE β n p < dE β n (bE β n p) ∧ dE β n (bE β n p) ≤ bE β n p + 2 := by
  rw [dE_pos]
  unfold tokK
  by_cases q : bE β n p < n
  · rw [if_pos q]
    by_cases hl : isLe (β (bE β n p)) = true
    · rw [if_pos hl]
      have a := le_TT.mp hl
      constructor
      · intro z; split at z <;> omega
      · intro z
        have := di_T.mp z.2.1.2
        omega
    · rw [if_neg hl]
      by_cases hd : isDi (β (bE β n p)) = true
      · rw [if_pos hd]
        by_cases e : bE β n p = p
        · rw [gl_1 e, if_neg (fun z => absurd z.1 (by decide))]
          constructor
          · intro z; omega
          · intro z; exact absurd e z.1
        · rw [gl_0 e]
          by_cases w : dE β n (bE β n p) ≤ bE β n p + 2
          · rw [if_pos ⟨rfl, w⟩]
            exact ⟨fun _ => ⟨e, ⟨q, hd⟩, w⟩, fun _ => rfl⟩
          · rw [if_neg (fun z => w z.2)]
            constructor
            · intro z; omega
            · intro z; exact absurd z.2.2 w
      · rw [if_neg hd]
        constructor
        · intro z; split at z <;> omega
        · intro z; exact absurd z.2.1.2 hd
  · rw [if_neg q]
    constructor
    · intro z; omega
    · intro z; exact absurd z.2.1.1 q
theorem an_idem (ρ : Sg) : anewS (anewS ρ) = anewS ρ := by
  funext j
  by_cases h1 : j < 32
  · rw [an_lo _ h1]
  · by_cases h2 : j < 56
    · obtain ⟨i, rfl⟩ : ∃ i, j = 32 + i := ⟨j - 32, by omega⟩
      rw [an_be _ (by omega), an_be _ (by omega), an_lo _ (by omega)]
    · rw [an_hi _ (by omega), an_hi _ (by omega)]
/-- a row is being read into row r, as though it were counted -/
def RwI (DR M : Mem) (ρ : Sg) (r : Nat) : Prop := DR 0 6 = nI (ρ 0) ∧ DR 0 7 = nI r ∧ (∀ j, j < ρ 0 → DR 1 j = nI (ρ (2 + j)) ∧ DR 2 j = nI (wo ρ j)) ∧ (∀ j, j < 24 → DR 3 j = nI (ρ (8 + j))) ∧ M 2 1 = nI r ∧ (∀ j, j < 226 → j ≠ 1 → (j < 32 ∨ 56 ≤ j) → M 2 j = nI (ρ j)) ∧ ρ 1 = r + 1 ∧ okB ρ ∧ ∀ j, 56 ≤ j → ρ j = 0
theorem RwI_m {DR M M' : Mem} {ρ : Sg} {r : Nat} (h : RwI DR M ρ r) (g : M' 2 = M 2) : RwI DR M' ρ r := by
  obtain ⟨a1, a2, a3, a4, a5, a6, a7, a8, a9⟩ := h
  exact ⟨a1, a2, a3, a4, by rw [g]; exact a5, fun j h1 h2 h3 => by rw [g]; exact a6 j h1 h2 h3, a7, a8, a9⟩
theorem RwI_s {DR M : Mem} {ρ : Sg} {r c v : Nat} (h : RwI DR M ρ r) (hr : r < 4) (hc : c < ρ 0) (hv : v ≤ 99) : RwI (mr DR 3 (upd (DR 3) (6 * r + c) (nI v))) (mr M 2 (upd (M 2) (8 + (6 * r + c)) (nI v))) (sgU ρ (8 + (6 * r + c)) v) r := by
  obtain ⟨a1, a2, a3, a4, a5, a6, a7, a8, a9⟩ := h
  have h0 := a8.1
  refine ⟨?_, ?_, fun j hj => ?_, fun j hj => ?_, ?_, fun j h1 h2 h3 => ?_, ?_, ?_, fun j hj => ?_⟩
  · rw [mr_n _ _ (by decide), sgU_n _ _ (by omega)]; exact a1
  · rw [mr_n _ _ (by decide)]; exact a2
  · rw [sgU_n _ _ (by omega)] at hj
    rw [mr_n _ _ (by decide), mr_n _ _ (by decide), sgU_n _ _ (by omega), wo_cg (τ := ρ) j (fun i g1 g2 => sgU_n _ _ (by omega))]
    exact a3 j hj
  · rw [mr_s]
    by_cases e : j = 6 * r + c
    · rw [e, pk_us, sgU_s]
    · rw [pk_un e, sgU_n _ _ (by omega)]; exact a4 j hj
  · rw [mr_s, pk_un (by omega)]; exact a5
  · rw [mr_s]
    by_cases e : j = 8 + (6 * r + c)
    · rw [e, pk_us, sgU_s]
    · rw [pk_un e, sgU_n _ _ e]; exact a6 j h1 h2 h3
  · rw [sgU_n _ _ (by omega)]; exact a7
  · obtain ⟨s0, s1, s2, s3, s4, s5⟩ := a8
    refine ⟨by rw [sgU_n _ _ (by omega)]; exact s0, by rw [sgU_n _ _ (by omega)]; exact s1, by rw [sgU_n _ _ (by omega), sgU_n _ _ (by omega)]; exact s2, by rw [sgU_n _ _ (by omega), sgU_n _ _ (by omega)]; exact s3, fun j h1 h2 => ?_, fun r' c' hr' hc' => ?_⟩
    · rw [sgU_n _ _ (by omega)] at h2
      rw [sgU_n _ _ (by omega)]; exact s4 j h1 h2
    · have z := s5 r' c' hr' hc'
      rw [sgU_n ρ (j := 0) _ (by omega), sgU_n ρ (j := 1) _ (by omega)]
      by_cases e : 8 + (6 * r' + c') = 8 + (6 * r + c)
      · rw [e, sgU_s]
        have e1 : r' = r := by omega
        have e2 : c' = c := by omega
        exact ⟨hv, fun q => by omega⟩
      · rw [sgU_n _ _ e]; exact z
  · rw [sgU_n _ _ (by omega)]; exact a9 j hj
theorem m_rowEnd {F : Nat} (hF : 10000 ≤ F) {R T DR M : Mem} {LM : MemL} {β : Nat → Nat} {n w p r : Nat} {ρ : Sg} (hT : Tb T 1 β n) (hM : TpM M β n) (hp : p ≤ n) (hR : R 0 5 = nI n) (hP : R 0 6 = nI p) (hL : LA M β n w p) (hW : M 0 35 = -1) (hI : RwI DR M ρ r) :
    (∃ R' DR' M' τ', f_X6_readRow_74 F R DR T = some (1, R', DR') ∧ ((f_X10_needsClose F M LM).bind (fun z101 => ck 1 226 (ck 1 226 ((some (mr z101 2 (upd (z101 2) (1 : Int32).toNatClampNeg (((z101 2) (1 : Int32).toNatClampNeg) + 1)))))))) = some M' ∧ FrR R R' ∧ Nxt R' M' β n p ∧ StC DR' τ' ∧ okS τ' ∧ anewS τ' = τ' ∧ Rd M' τ' 0 ∧ FrL M M') ∨
    (∃ R' DR' M' f, f_X6_readRow_74 F R DR T = some (0, R', DR') ∧ ((f_X10_needsClose F M LM).bind (fun z101 => ck 1 226 (ck 1 226 ((some (mr z101 2 (upd (z101 2) (1 : Int32).toNatClampNeg (((z101 2) (1 : Int32).toNatClampNeg) + 1)))))))) = some M' ∧ f ≤ 400 ∧ R' 0 8 = nI f ∧ M' 0 35 = nI f ∧ FrL M M') := by
  have ck1 : ∀ E : Option Mem, ck 1 226 E = E := fun E => ck_n (i := 1) (by decide) (by decide)
  have m1c : (1 : Int32).toNatClampNeg = 1 := rfl
  obtain ⟨a1, a2, a3, a4, a5, a6, a7, a8, a9⟩ := id hI
  unfold f_X6_readRow_74
  rcases m_close (F := F) (R := R) (LM := LM) (by omega) hT hM hp hR hP hL hW with ⟨R3, M3, p3, q3, q4, c1, c2, c3, c4, c5, c6, c7, c8⟩ | ⟨R3, M3, f, f1, c1, c2, c3, c4, c5⟩
  · have sb : StB (mr DR 0 (fu (DR 0) 7 (DR 0 7 + 1))) ρ := ⟨by rw [mr_s, fu_n _ _ (by decide)]; exact a1, by rw [mr_s, fu_s, a2, nI_1, a7], fun j hj => by rw [mr_n _ _ (by decide), mr_n _ _ (by decide)]; exact a3 j hj, fun j hj => by rw [mr_n _ _ (by decide)]; exact a4 j hj⟩
    obtain ⟨DR', d1, d2⟩ := h_makeAnew sb a8.1 F
    have z1 : M3 2 1 = nI r := by rw [c8.1 2 (by decide)]; exact a5
    refine Or.inl ⟨R3, DR', mr M3 2 (upd (M3 2) 1 (nI (r + 1))), anewS ρ, ?_, ?_, c4, ⟨p3, q3, q4, c3, LA_2 c6 _, by rw [mr_n _ _ (by decide)]; exact c7⟩, d2, okS_an a8, an_idem ρ, fun j hj hb => ?_, FrL_tr (FrL_T c8) (FrL_2 _ _)⟩
    · rw [c1, Option.bind_some, if_neg (show ¬ (1 : Int32) = 0 by decide), d1, Option.bind_some]
    · rw [c2, Option.bind_some, ck1, ck1, m1c, z1, nI_1]
    · rw [mr_s]
      by_cases e : j = 1
      · rw [e, pk_us, an_lo _ (by omega), a7]
      · rw [pk_un e, c8.1 2 (by decide)]
        by_cases g : j < 32
        · rw [an_lo _ g]; exact a6 j hj e (Or.inl g)
        · have g2 : 56 ≤ j := by omega
          rw [an_hi _ g2, a6 j hj e (Or.inr g2), a9 j g2]
  · refine Or.inr ⟨R3, DR, mr M3 2 (upd (M3 2) 1 (M3 2 1 + 1)), f, ?_, ?_, f1, c3, by rw [mr_n _ _ (by decide)]; exact c4, FrL_tr (FrL_W c5) (FrL_2 _ _)⟩
    · rw [c1, Option.bind_some, if_pos (rfl : (0 : Int32) = 0)]
    · rw [c2, Option.bind_some, ck1, ck1, m1c]
theorem m_row13 {F : Nat} (hF : 10000 ≤ F) {T : Mem} {LM : MemL} {β : Nat → Nat} {n r : Nat} (hT : Tb T 1 β n) (hr : r < 4) (k49 : Mem → Mem → Option (Int32 × Mem × Mem)) (h49 : ∀ R DR, k49 R DR = some (0, R, DR)) (kE : Mem → Mem → Option (Int32 × Mem × Mem)) (hE : ∀ R DR, kE R DR = f_X6_readRow_74 F R DR T) (kM : Mem → Option Mem) (hK : ∀ M, kM M = (f_X10_needsClose F M LM).bind (fun z101 => ck 1 226 (ck 1 226 ((some (mr z101 2 (upd (z101 2) (1 : Int32).toNatClampNeg (((z101 2) (1 : Int32).toNatClampNeg) + 1)))))))) : ∀ (d c m m' p : Nat) (R DR M : Mem) (ρ : Sg), c + (d + 1) = ρ 0 → d + 1 < m → d + 1 < m' → TpM M β n → p ≤ n → R 0 5 = nI n → R 0 6 = nI p → LA M β n 1 p → M 0 35 = -1 → RwI DR M ρ r → (c = 0 ∨ M 0 32 = nI 2) →
    (∃ R' DR' M' τ', f_X6_readRow_13 F T (nI (6 * r)) kE k49 kE m R DR (nI c) = some (1, R', DR') ∧ f_X10_readsRow_33 F LM kM m' M (nI c) 1 = some M' ∧ FrR R R' ∧ Nxt R' M' β n p ∧ StC DR' τ' ∧ okS τ' ∧ anewS τ' = τ' ∧ Rd M' τ' 0 ∧ FrL M M') ∨
    (∃ R' DR' M' f, f_X6_readRow_13 F T (nI (6 * r)) kE k49 kE m R DR (nI c) = some (0, R', DR') ∧ f_X10_readsRow_33 F LM kM m' M (nI c) 1 = some M' ∧ f ≤ 400 ∧ R' 0 8 = nI f ∧ M' 0 35 = nI f ∧ FrL M M')
  | d, c, 0, m', p, R, DR, M, ρ, _, h, _, _, _, _, _, _, _, _, _ => by omega
  | d, c, m + 1, 0, p, R, DR, M, ρ, _, _, h, _, _, _, _, _, _, _, _ => by omega
  | d, c, m + 1, m' + 1, p, R, DR, M, ρ, hc, hm, hm', hM, hp, hR, hP, hL, hW, hI, h2 => by
    have hn := hM.1
    obtain ⟨i1, i2, i3, i4, i5, i6, i7, i8, i9⟩ := id hI
    have h0 := i8.1
    have ck1 : ∀ E : Option Mem, ck 1 226 E = E := fun E => ck_n (i := 1) (by decide) (by decide)
    have m1c : (1 : Int32).toNatClampNeg = 1 := rfl
    have e99 : zI (99 : Int) = (99 : Int32) := rfl
    -- the class comes to the number
    have cls : f_X6_readRow_13 F T (nI (6 * r)) kE k49 kE (m + 1) R DR (nI c) = f_X6_readRow_38 F R DR T (nI (6 * r)) (nI c) (f_X6_readRow_13 F T (nI (6 * r)) kE k49 kE m) k49 := by
      rw [f_X6_readRow_13, i1, if_neg (nI_ge (by omega) (by omega))]
      by_cases g : c = 0
      · rw [if_pos (show nI c ≤ (0 : Int32) from nI_le (b := 0) (by omega) (by decide))]
      · rw [if_neg (show ¬ nI c ≤ (0 : Int32) from nI_ge (a := 0) (by omega) (by omega))]
        have t2 : tokK β n (glN β n 1 p) (bE β n p) = 2 := by
          have := hL.2.1
          rcases h2 with h2 | h2
          · exact absurd h2 g
          · have t4 := tok_4 β n (glN β n 1 p) (bE β n p)
            exact (nI_eq (by omega) (by omega)).mp (this.symm.trans h2)
        have nd := (dE_pos.mp (tok2_num.mp t2).2.1).2
        rcases h_endNext (F := F) (R := R) (by omega) hn hp hR hP hT with ⟨ok, _⟩ | ⟨_, e⟩
        · have := di_T.mp nd
          have := ok.2
          omega
        · rw [e, Option.bind_some, if_pos (rfl : (0 : Int32) = 0)]
    have ix : (nI (6 * r)) + nI c = nI (6 * r + c) := nI_add _ _
    have ce : f_X10_cell F (nI r) (nI c) = some (nI (6 * r + c)) := by
      unfold f_X10_cell
      have : (6 : Int32) * nI r = nI (6 * r) := nI_mul' 6 r
      rw [this, nI_add]
    have ix8 : (8 : Int32) + nI (6 * r + c) = nI (8 + (6 * r + c)) := nI_add 8 _
    rw [cls]
    unfold f_X6_readRow_38
    have mn := m_num (F := F) (R := R) (LM := LM) (by omega) hT hM hp hR hP hL hW (slot := 0) (lo := 0) (hi := 99) (by omega) (by omega) (by omega) (by omega)
    rw [e99] at mn
    rcases mn with ⟨R1, M2, v, p1, v1, v2, v3, q1, q2, a1, a2, a3, a4, a5, a6, a7, a8⟩ | ⟨R1, M2, f, f1, a1, a2, a3, a4, a5⟩
    · have a1' : f_X6_readNumber F R T 0 0 99 = some (1, R1) := a1
      have a2' : f_X10_needsNumber F M LM 0 99 = some (nI v, M2) := a2
      have r1 : R1 1 0 = nI v := by rw [a5, pk_us]
      have I2 := RwI_s (RwI_m hI (a8.1 2 (by decide))) hr (c := c) (by omega) v1
      have fr2 : FrL M (mr M2 2 (upd (M2 2) (8 + (6 * r + c)) (nI v))) := FrL_tr (FrL_T a8) (FrL_2 _ _)
      have hM2 : TpM (mr M2 2 (upd (M2 2) (8 + (6 * r + c)) (nI v))) β n := TpM_L hM fr2
      have L2 : LA (mr M2 2 (upd (M2 2) (8 + (6 * r + c)) (nI v))) β n 1 p1 := LA_2 a6 _
      have W2 : (mr M2 2 (upd (M2 2) (8 + (6 * r + c)) (nI v))) 0 35 = -1 := by rw [mr_n _ _ (by decide)]; exact a7
      have cl2 : (f_X6_readNumber F R T 0 0 99).bind (fun z43 => (if z43.1 = 0 then k49 z43.2 DR else ck 0 4 (ck ((nI (6 * r)) + nI c) 24 (f_X6_readRow_13 F T (nI (6 * r)) kE k49 kE m z43.2 (mr DR 3 (upd (DR 3) (((nI (6 * r)) + nI c)).toNatClampNeg ((z43.2 1) (0 : Int32).toNatClampNeg))) (nI c + 1))))) = f_X6_readRow_13 F T (nI (6 * r)) kE k49 kE m R1 (mr DR 3 (upd (DR 3) (6 * r + c) (nI v))) (nI (c + 1)) := by
        rw [a1', Option.bind_some, if_neg (show ¬ (1 : Int32) = 0 by decide)]
        show ck (nI 0) 4 (ck ((nI (6 * r)) + nI c) 24 (f_X6_readRow_13 F T (nI (6 * r)) kE k49 kE m R1 (mr DR 3 (upd (DR 3) (((nI (6 * r)) + nI c)).toNatClampNeg (R1 1 0))) (nI c + 1))) = _
        rw [ck_n (by decide) (by decide), ix, ck_n (by omega) (by decide), nI_clamp (by omega), r1, nI_1]
      have t2 := a6.2.1
      have t4 := tok_4 β n (glN β n 1 p1) (bE β n p1)
      have rf : f_X10_readsRow_33 F LM kM (m' + 1) M (nI c) 1 = if tokK β n (glN β n 1 p1) (bE β n p1) = 2 ∧ c + 1 < ρ 0 then f_X10_readsRow_33 F LM kM m' (mr M2 2 (upd (M2 2) (8 + (6 * r + c)) (nI v))) (nI (c + 1)) 1 else f_X10_readsRow_33 F LM kM m' (mr M2 2 (upd (M2 2) (8 + (6 * r + c)) (nI v))) (nI (c + 1)) 0 := by
        have u0 : upd (M2 2) (8 + (6 * r + c)) (nI v) 0 = nI (ρ 0) := by rw [pk_un (by omega), a8.1 2 (by decide)]; exact i6 0 (by omega) (by omega) (Or.inl (by omega))
        rw [f_X10_readsRow_33, if_neg (show ¬ (1 : Int32) = 0 by decide), ck1, m1c, i5, ce, Option.bind_some, a2', Option.bind_some, ix8, ck_n (by omega) (by decide), if_pos a7]
        dsimp only
        rw [nI_clamp (by omega), nI_1]
        by_cases g : tokK β n (glN β n 1 p1) (bE β n p1) = 2
        · rw [if_pos (show M2 0 32 = (2 : Int32) by rw [t2, g]; rfl), ck0, m0c, u0]
          by_cases g2 : c + 1 < ρ 0
          · rw [if_neg (nI_ge g2 (by omega)), if_pos ⟨g, g2⟩]
          · rw [if_pos (nI_le (by omega) (by omega)), if_neg (fun z => g2 z.2)]
        · rw [if_neg (show ¬ M2 0 32 = (2 : Int32) from fun z => g ((nI_eq (b := 2) (by omega) (by omega)).mp (t2.symm.trans z))), if_neg (fun z => g z.1)]
      have ex : f_X10_readsRow_33 F LM kM m' (mr M2 2 (upd (M2 2) (8 + (6 * r + c)) (nI v))) (nI (c + 1)) 0 = (f_X10_needsClose F (mr M2 2 (upd (M2 2) (8 + (6 * r + c)) (nI v))) LM).bind (fun z101 => ck 1 226 (ck 1 226 ((some (mr z101 2 (upd (z101 2) (1 : Int32).toNatClampNeg (((z101 2) (1 : Int32).toNatClampNeg) + 1))))))) := by
        obtain ⟨m2, rfl⟩ : ∃ k, m' = k + 1 := ⟨m' - 1, by omega⟩
        rw [f_X10_readsRow_33, if_pos (rfl : (0 : Int32) = 0), hK]
      have s0 : (sgU ρ (8 + (6 * r + c)) v) 0 = ρ 0 := sgU_n _ _ (by omega)
      have lift : ∀ (X : Option (Int32 × Mem × Mem)) (Y : Option Mem), ((∃ R' DR' M' τ', X = some (1, R', DR') ∧ Y = some M' ∧ FrR R1 R' ∧ Nxt R' M' β n p1 ∧ StC DR' τ' ∧ okS τ' ∧ anewS τ' = τ' ∧ Rd M' τ' 0 ∧ FrL (mr M2 2 (upd (M2 2) (8 + (6 * r + c)) (nI v))) M') ∨ (∃ R' DR' M' f, X = some (0, R', DR') ∧ Y = some M' ∧ f ≤ 400 ∧ R' 0 8 = nI f ∧ M' 0 35 = nI f ∧ FrL (mr M2 2 (upd (M2 2) (8 + (6 * r + c)) (nI v))) M')) → ((∃ R' DR' M' τ', X = some (1, R', DR') ∧ Y = some M' ∧ FrR R R' ∧ Nxt R' M' β n p ∧ StC DR' τ' ∧ okS τ' ∧ anewS τ' = τ' ∧ Rd M' τ' 0 ∧ FrL M M') ∨ (∃ R' DR' M' f, X = some (0, R', DR') ∧ Y = some M' ∧ f ≤ 400 ∧ R' 0 8 = nI f ∧ M' 0 35 = nI f ∧ FrL M M')) := fun X Y h => by
        rcases h with ⟨R', DR', M', τ', b1, b2, b3, ⟨p', b4, b5, b6⟩, b7, b8, b9, b10, b11⟩ | ⟨R', DR', M', f, b1, b2, b3, b4, b5, b6⟩
        · exact Or.inl ⟨R', DR', M', τ', b1, b2, FrR_tr a4 b3, ⟨p', by omega, b5, b6⟩, b7, b8, b9, b10, FrL_tr fr2 b11⟩
        · exact Or.inr ⟨R', DR', M', f, b1, b2, b3, b4, b5, FrL_tr fr2 b6⟩
      rw [cl2, rf]
      by_cases g2 : c + 1 < ρ 0
      · by_cases g : tokK β n (glN β n 1 p1) (bE β n p1) = 2
        · rw [if_pos ⟨g, g2⟩]
          obtain ⟨d, rfl⟩ : ∃ k, d = k + 1 := ⟨d - 1, by omega⟩
          exact lift _ _ (m_row13 hF hT hr k49 h49 kE hE kM hK d (c + 1) m m' p1 R1 _ _ _ (by rw [s0]; omega) (by omega) (by omega) hM2 q2 (a4.1.trans hR) a3 L2 W2 I2 (Or.inr (by rw [mr_n _ _ (by decide), t2, g])))
        · rw [if_neg (fun z => g z.1), ex]
          obtain ⟨m1, rfl⟩ : ∃ k, m = k + 1 := ⟨m - 1, by omega⟩
          have d6 : (mr DR 3 (upd (DR 3) (6 * r + c) (nI v))) 0 6 = nI (ρ 0) := by rw [mr_n _ _ (by decide)]; exact i1
          rw [f_X6_readRow_13, d6, if_neg (nI_ge g2 (by omega)), if_neg (show ¬ nI (c + 1) ≤ (0 : Int32) from nI_ge (a := 0) (by omega) (by omega))]
          rcases h_endNext (F := F) (R := R1) (by omega) hn q2 (a4.1.trans hR) a3 hT with ⟨ok, e⟩ | ⟨no, e⟩
          · rw [e, Option.bind_some, if_neg (show ¬ (1 : Int32) = 0 by decide), hE]
            exact lift _ _ (m_rowEnd hF hT hM2 q2 (a4.1.trans hR) a3 L2 W2 I2)
          · rw [e, Option.bind_some, if_pos (rfl : (0 : Int32) = 0)]
            unfold f_X6_readRow_38
            have hn2 := h_readNumber (F := F) (R := R1) (T := T) (by omega) hn q2 (a4.1.trans hR) a3 hT (slot := 0) (lo := 0) (by omega) (by omega) (hi := 99) (by omega) (by omega)
            rw [e99] at hn2
            rcases hn2 with ⟨ok, _⟩ | ⟨_, R3, b1, b2⟩
            · exact absurd (tok2_num.mpr ⟨ok.1, ok.2.1, ok.2.2.1⟩) g
            · have b1' : f_X6_readNumber F R1 T 0 0 99 = some (0, R3) := b1
              rcases g_needsClose (F := F) (LM := LM) (by omega) hM2 q2 L2 W2 with ⟨ok, _⟩ | ⟨_, M3, c1, c2, c3⟩
              · exact absurd ok no
              · rw [b1', Option.bind_some, if_pos (rfl : (0 : Int32) = 0), h49, c1, Option.bind_some, ck1, ck1, m1c]
                obtain ⟨bb1, bb2⟩ := bE_b (β := β) q2
                exact Or.inr ⟨R3, _, _, bE β n p1, rfl, rfl, by omega, b2, by rw [mr_n _ _ (by decide)]; exact c2, FrL_tr fr2 (FrL_tr (FrL_W c3) (FrL_2 _ _))⟩
      · rw [if_neg (fun z => g2 z.2), ex]
        obtain ⟨m1, rfl⟩ : ∃ k, m = k + 1 := ⟨m - 1, by omega⟩
        have d6 : (mr DR 3 (upd (DR 3) (6 * r + c) (nI v))) 0 6 = nI (ρ 0) := by rw [mr_n _ _ (by decide)]; exact i1
        rw [f_X6_readRow_13, d6, if_pos (nI_le (by omega) (by omega)), hE]
        exact lift _ _ (m_rowEnd hF hT hM2 q2 (a4.1.trans hR) a3 L2 W2 I2)
    · have a1' : f_X6_readNumber F R T 0 0 99 = some (0, R1) := a1
      have a2' : f_X10_needsNumber F M LM 0 99 = some (0, M2) := a2
      have nw : ¬ M2 0 35 = -1 := by rw [a4]; exact nm1 (by omega)
      have nw2 : ¬ (mr M2 2 (upd (M2 2) (8 + (6 * r + c)) 0)) 0 35 = -1 := by rw [mr_n _ _ (by decide)]; exact nw
      obtain ⟨m2, rfl⟩ : ∃ k, m' = k + 1 := ⟨m' - 1, by omega⟩
      refine Or.inr ⟨R1, DR, mr (mr M2 2 (upd (M2 2) (8 + (6 * r + c)) 0)) 2 (upd ((mr M2 2 (upd (M2 2) (8 + (6 * r + c)) 0)) 2) 1 ((mr M2 2 (upd (M2 2) (8 + (6 * r + c)) 0)) 2 1 + 1)), f, ?_, ?_, f1, a3, ?_, ?_⟩
      · rw [a1', Option.bind_some, if_pos (rfl : (0 : Int32) = 0), h49]
      · rw [f_X10_readsRow_33, if_neg (show ¬ (1 : Int32) = 0 by decide), ck1, m1c, i5, ce, Option.bind_some, a2', Option.bind_some, ix8, ck_n (by omega) (by decide), if_neg nw, nI_clamp (by omega), f_X10_readsRow_33, if_pos (rfl : (0 : Int32) = 0), hK, g_nc_x nw2, Option.bind_some, ck1, ck1, m1c]
      · rw [mr_n _ _ (by decide), mr_n _ _ (by decide)]; exact a4
      · exact FrL_tr (FrL_W a5) (FrL_tr (FrL_2 _ _) (FrL_2 _ _))
theorem m_trow {F : Nat} (hF : 10000 ≤ F) {R T DR M : Mem} {LM : MemL} {β : Nat → Nat} {n p : Nat} {τ : Sg} (hT : Tb T 1 β n) (hM : TpM M β n) (hp : p ≤ n) (hR : R 0 5 = nI n) (hP : R 0 6 = nI p) (h31 : M 0 31 = nI p) (h32 : M 0 32 = nI 1) (h35 : M 0 35 = -1) (hC : StC DR τ) (hs : okS τ) (ha : anewS τ = τ) (hd : Rd M τ 0) (h0 : 0 < τ 0) (h1 : τ 1 < 4) (x1 : Int32) :
    (∃ R' DR' M' τ', f_X6_readRow F R DR T = some (1, R', DR') ∧ f_X10_readsRow F M LM x1 = some M' ∧ FrR R R' ∧ Nxt R' M' β n p ∧ StC DR' τ' ∧ okS τ' ∧ anewS τ' = τ' ∧ Rd M' τ' 0 ∧ FrL M M') ∨
    (∃ R' DR' M' f, f_X6_readRow F R DR T = some (0, R', DR') ∧ f_X10_readsRow F M LM x1 = some M' ∧ f ≤ 400 ∧ R' 0 8 = nI f ∧ M' 0 35 = nI f ∧ FrL M M') := by
  have h6 := kC hs
  have ck1 : ∀ E : Option Mem, ck 1 226 E = E := fun E => ck_n (i := 1) (by decide) (by decide)
  have m1c : (1 : Int32).toNatClampNeg = 1 := rfl
  have m20 : M 2 0 = nI (τ 0) := hd 0 (by omega) (by omega)
  have m21 : M 2 1 = nI (τ 1) := hd 1 (by omega) (by omega)
  obtain ⟨M1, g1, g2, g3⟩ := g_goesOn (F := F) (LM := LM) (by omega) hM hp h31 h32 (by omega)
  rw [if_pos (Or.inl rfl)] at g2
  have w1 : M1 0 35 = -1 := by rw [g3.2 35 (by omega)]; exact h35
  have hI : RwI DR M1 (sgU τ 1 (τ 1 + 1)) (τ 1) := by
    refine ⟨?_, cR hC, fun j hj => ?_, fun j hj => ?_, ?_, fun j j1 j2 j3 => ?_, sgU_s _ _ _, ?_, fun j hj => ?_⟩
    · rw [sgU_n _ _ (by omega)]; exact cC hC
    · rw [sgU_n _ _ (by omega)] at hj
      rw [sgU_n _ _ (by omega), wo_cg (τ := τ) j (fun i g1 g2 => sgU_n _ _ (by omega))]
      exact ⟨cRt hC hj, cWo hC hj⟩
    · rw [sgU_n _ _ (by omega)]; exact cCe hC hj
    · rw [g3.1 2 (by decide)]; exact m21
    · rw [g3.1 2 (by decide), sgU_n _ _ j2]; exact hd j j1 (by omega)
    · obtain ⟨s0, s1, s2, s3, s4, s5⟩ := okS_B hs
      refine ⟨by rw [sgU_n _ _ (by omega)]; exact s0, by rw [sgU_s]; omega, by rw [sgU_n _ _ (by omega)]; omega, by rw [sgU_n _ _ (by omega), sgU_n _ _ (by omega)]; exact s3, fun j h1 h2 => ?_, fun r' c' hr' hc' => ?_⟩
      · rw [sgU_n _ _ (by omega)] at h2
        rw [sgU_n _ _ (by omega)]; exact s4 j h1 h2
      · rw [sgU_n τ (j := 0) _ (by omega), sgU_s, sgU_n _ _ (by omega)]
        exact ⟨(s5 r' c' hr' hc').1, fun q => (s5 r' c' hr' hc').2 (by omega)⟩
    · rw [sgU_n _ _ (by omega)]
      have := an_hi τ (j := j) hj
      rw [ha] at this
      exact this
  have s0 : (sgU τ 1 (τ 1 + 1)) 0 = τ 0 := sgU_n _ _ (by omega)
  have rf : f_X10_readsRow F M LM x1 = f_X10_readsRow_33 F LM (fun M_100 => (f_X10_needsClose F M_100 LM).bind (fun z101 => ck 1 226 (ck 1 226 ((some (mr z101 2 (upd (z101 2) (1 : Int32).toNatClampNeg (((z101 2) (1 : Int32).toNatClampNeg) + 1)))))))) F M1 0 1 := by
    unfold f_X10_readsRow
    rw [ck1, m1c, m21, if_neg (show ¬ nI (τ 1) = (4 : Int32) from fun z => by have := (nI_eq (b := 4) (by omega) (by omega)).mp z; omega), ck0, m0c, m20, if_neg (nI_ne0 h0 (by omega)), g1, Option.bind_some]
  have e6 : nI (τ 1) * 6 = nI (6 * τ 1) := by rw [l_6, mr6]
  rw [rf]
  unfold f_X6_readRow
  rw [cR hC, e6]
  rcases m_row13 (F := F) (T := T) (LM := LM) hF hT h1 (fun R_49 DR_49 => (some (0, R_49, DR_49))) (fun _ _ => rfl) (fun R_74 DR_74 => f_X6_readRow_74 F R_74 DR_74 T) (fun _ _ => rfl) (fun M_100 => (f_X10_needsClose F M_100 LM).bind (fun z101 => ck 1 226 (ck 1 226 ((some (mr z101 2 (upd (z101 2) (1 : Int32).toNatClampNeg (((z101 2) (1 : Int32).toNatClampNeg) + 1)))))))) (fun _ => rfl) (τ 0 - 1) 0 F F p R DR M1 _ (by rw [s0]; omega) (by omega) (by omega) (TpM_f hM g3) hp hR hP g2 w1 hI (Or.inl rfl) with ⟨R', DR', M', τ', b1, b2, b3, b4, b7, b8, b9, b10, b11⟩ | ⟨R', DR', M', f, b1, b2, b3, b4, b5, b6⟩
  · exact Or.inl ⟨R', DR', M', τ', b1, b2, b3, b4, b7, b8, b9, b10, FrL_tr (FrL_T g3) b11⟩
  · exact Or.inr ⟨R', DR', M', f, b1, b2, b3, b4, b5, FrL_tr (FrL_T g3) b6⟩
