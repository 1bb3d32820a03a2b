/-! PURE LAYER: text: the reference's tokens -/
def hv (β : Nat → Nat) (n p : Nat) : Int := if p < n then (β p : Int) else -1
theorem hv_in {β : Nat → Nat} {n p : Nat} (h : p < n) : hv β n p = (β p : Int) := if_pos h
theorem hv_out {β : Nat → Nat} {n p : Nat} (h : ¬ p < n) : hv β n p = -1 := if_neg h
/-- the reference's tape, and where it reads -/
def TpM (M : Mem) (β : Nat → Nat) (n : Nat) : Prop := n ≤ 400 ∧ M 0 29 = nI n ∧ Tb M 21 β n
/-- only these fields change: reading -/
def FrT (M M' : Mem) : Prop := (∀ q, q ≠ 0 → M' q = M q) ∧ ∀ j, j < 31 ∨ 34 < j → M' 0 j = M 0 j
theorem FrT_r (M : Mem) : FrT M M := ⟨fun _ _ => rfl, fun _ _ => rfl⟩
theorem FrT_tr {M M1 M2 : Mem} (h : FrT M M1) (g : FrT M1 M2) : FrT M M2 := ⟨fun q hq => (g.1 q hq).trans (h.1 q hq), fun j hj => (g.2 j hj).trans (h.2 j hj)⟩
theorem FrT_0 (M : Mem) (r : Nat → Int32) (h : ∀ j, j < 31 ∨ 34 < j → r j = M 0 j) : FrT M (mr M 0 r) := ⟨fun q hq => mr_n _ _ hq, fun j hj => by rw [mr_s]; exact h j hj⟩
theorem TpM_f {M M' : Mem} {β : Nat → Nat} {n : Nat} (h : TpM M β n) (g : FrT M M') : TpM M' β n := ⟨h.1, by rw [g.2 29 (by omega)]; exact h.2.1, fun j hj => by rw [g.1 21 (by decide)]; exact h.2.2 j hj⟩
theorem g_here {F : Nat} {M : Mem} {LM : MemL} {β : Nat → Nat} {n p : Nat} (h : TpM M β n) (hp : p ≤ n) (hP : M 0 31 = nI p) : f_X10_here F M LM = some (zI (hv β n p)) := by
  have hn := h.1
  unfold f_X10_here
  rw [h.2.1, hP]
  by_cases g : p < n
  · rw [if_neg (nI_ge g (by omega)), ck_n (by omega) (by decide), nI_clamp (by omega), (h.2.2 p g).1, hv_in g, zI_c]
  · rw [if_pos (nI_le (by omega) (by omega)), hv_out g]; rfl
theorem in_le (F : Nat) {v : Int} (h1 : -1 ≤ v) (h2 : v < 256) : f_X10_in F (zI v).toInt64 97 122 = some (if 97 ≤ v ∧ v ≤ 122 then nI 1 else nI 0) := by
  have e1 : (97 : Int64) = (zI 97).toInt64 := by decide
  have e2 : (122 : Int64) = (zI 122).toInt64 := by decide
  rw [e1, e2, f_inz F (by omega) (by omega) (by omega) (by omega) (by omega) (by omega)]
theorem in_di (F : Nat) {v : Int} (h1 : -1 ≤ v) (h2 : v < 256) : f_X10_in F (zI v).toInt64 48 57 = some (if 48 ≤ v ∧ v ≤ 57 then nI 1 else nI 0) := by
  have e1 : (48 : Int64) = (zI 48).toInt64 := by decide
  have e2 : (57 : Int64) = (zI 57).toInt64 := by decide
  rw [e1, e2, f_inz F (by omega) (by omega) (by omega) (by omega) (by omega) (by omega)]
theorem in_leT (F : Nat) {v : Int} (h : 97 ≤ v ∧ v ≤ 122) : f_X10_in F (zI v).toInt64 97 122 = some (nI 1) := by rw [in_le F (by omega) (by omega), if_pos h]
theorem in_leF (F : Nat) {v : Int} (h1 : -1 ≤ v) (h2 : v < 256) (h : ¬ (97 ≤ v ∧ v ≤ 122)) : f_X10_in F (zI v).toInt64 97 122 = some (nI 0) := by rw [in_le F h1 h2, if_neg h]
theorem in_diT (F : Nat) {v : Int} (h : 48 ≤ v ∧ v ≤ 57) : f_X10_in F (zI v).toInt64 48 57 = some (nI 1) := by rw [in_di F (by omega) (by omega), if_pos h]
theorem in_diF (F : Nat) {v : Int} (h1 : -1 ≤ v) (h2 : v < 256) (h : ¬ (48 ≤ v ∧ v ≤ 57)) : f_X10_in F (zI v).toInt64 48 57 = some (nI 0) := by rw [in_di F h1 h2, if_neg h]
theorem hv_b {M : Mem} {β : Nat → Nat} {n p : Nat} (h : TpM M β n) : -1 ≤ hv β n p ∧ hv β n p < 256 := by
  by_cases g : p < n
  · have := (h.2.2 p g).2
    rw [hv_in g]; omega
  · rw [hv_out g]; omega
theorem zm_1 : zI (-1) = (-1 : Int32) := rfl
theorem z_ne {a b : Int} (h : a ≠ b) (ha : -2147483648 ≤ a) (ha2 : a < 2147483648) (hb : -2147483648 ≤ b) (hb2 : b < 2147483648) : ¬ zI a = zI b := fun q => by
  have := zeq_F h ha ha2 hb hb2
  rw [this] at q
  exact q
theorem g_go10 {F : Nat} {LM : MemL} {β : Nat → Nat} {n : Nat} (x1 x2 : Int32) (k : Mem → Option Mem) : ∀ (d p m : Nat) (M : Mem), p + d = n → d < m → TpM M β n → M 0 31 = nI p → ∃ M', f_X10_goesOn_10 F LM x1 x2 k m M = k M' ∧ M' 0 31 = nI (enE isBl β d p) ∧ (∀ q, q ≠ 0 → M' q = M q) ∧ ∀ j, j ≠ 31 → M' 0 j = M 0 j
  | d, p, 0, M, _, h, _, _ => by omega
  | 0, p, m + 1, M, hp, _, hM, hP => by
    refine ⟨M, ?_, hP, fun _ _ => rfl, fun _ _ => rfl⟩
    rw [f_X10_goesOn_10, g_here hM (by omega) hP, hv_out (by omega), Option.bind_some, if_neg (by decide), Option.bind_some, if_neg (by decide)]
  | d + 1, p, m + 1, M, hp, hm, hM, hP => by
    have b := (hM.2.2 p (by omega)).2
    have hn := hM.1
    have go : isBl (β p) = true → ∃ M', f_X10_goesOn_10 F LM x1 x2 k m (mr M 0 (fu (M 0) 31 ((M 0 31) + 1))) = k M' ∧ M' 0 31 = nI (enE isBl β (d + 1) p) ∧ (∀ q, q ≠ 0 → M' q = M q) ∧ ∀ j, j ≠ 31 → M' 0 j = M 0 j := fun h => by
      obtain ⟨M', a1, a2, a3, a4⟩ := g_go10 (F := F) (LM := LM) x1 x2 k d (p + 1) m (mr M 0 (fu (M 0) 31 ((M 0 31) + 1))) (by omega) (by omega) (TpM_f hM (FrT_0 M _ (fun j hj => fu_n _ _ (by omega)))) (by rw [mr_s, fu_s, hP, nI_1])
      exact ⟨M', a1, by rw [en_T h]; exact a2, fun q hq => by rw [a3 q hq, mr_n _ _ hq], fun j hj => by rw [a4 j hj, mr_s, fu_n _ _ hj]⟩
    rw [f_X10_goesOn_10, g_here hM (by omega) hP, hv_in (by omega), zI_c, Option.bind_some, Option.bind_some, l_32, l_10]
    unfold f_X10_goesOn_28
    by_cases e : β p = 32
    · rw [if_pos (show nI (β p) = nI 32 by rw [e])]
      exact go (bl_T.mpr (Or.inl e))
    · rw [if_neg (fun q => e ((nI_eq (by omega) (by omega)).mp q))]
      by_cases e2 : β p = 10
      · rw [if_pos (show nI (β p) = nI 10 by rw [e2])]
        exact go (bl_T.mpr (Or.inr e2))
      · rw [if_neg (fun q => e2 ((nI_eq (by omega) (by omega)).mp q)), en_F (bl_F.mpr (by omega))]
        exact ⟨M, rfl, hP, fun _ _ => rfl, fun _ _ => rfl⟩
theorem g_go108 {F : Nat} {LM : MemL} {β : Nat → Nat} {n : Nat} (x3 : Int32) (k : Mem → Option Mem) : ∀ (d p m : Nat) (M : Mem), p + d = n → d < m → TpM M β n → M 0 31 = nI p → ∃ M', f_X10_goesOn_108 F LM x3 k m M = k M' ∧ M' 0 31 = nI (enE isLe β d p) ∧ (∀ q, q ≠ 0 → M' q = M q) ∧ ∀ j, j ≠ 31 → M' 0 j = M 0 j
  | d, p, 0, M, _, h, _, _ => by omega
  | 0, p, m + 1, M, hp, _, hM, hP => by
    refine ⟨M, ?_, hP, fun _ _ => rfl, fun _ _ => rfl⟩
    rw [f_X10_goesOn_108, g_here hM (by omega) hP, hv_out (by omega), Option.bind_some, in_leF F (by omega) (by omega) (by omega), Option.bind_some, if_pos n00]
  | d + 1, p, m + 1, M, hp, hm, hM, hP => by
    have b := (hM.2.2 p (by omega)).2
    have hn := hM.1
    rw [f_X10_goesOn_108, g_here hM (by omega) hP, hv_in (by omega), Option.bind_some]
    cases h : isLe (β p) with
    | true =>
      have h' := le_TT.mp h
      obtain ⟨M', a1, a2, a3, a4⟩ := g_go108 (F := F) (LM := LM) x3 k d (p + 1) m (mr M 0 (fu (M 0) 31 ((M 0 31) + 1))) (by omega) (by omega) (TpM_f hM (FrT_0 M _ (fun j hj => fu_n _ _ (by omega)))) (by rw [mr_s, fu_s, hP, nI_1])
      rw [in_leT F (by omega), Option.bind_some, if_neg n10]
      exact ⟨M', a1, by rw [en_T h]; exact a2, fun q hq => by rw [a3 q hq, mr_n _ _ hq], fun j hj => by rw [a4 j hj, mr_s, fu_n _ _ hj]⟩
    | false =>
      have h' := le_FF.mp h
      rw [in_leF F (by omega) (by omega) (by omega), Option.bind_some, if_pos n00, en_F h]
      exact ⟨M, rfl, hP, fun _ _ => rfl, fun _ _ => rfl⟩
theorem g_go174 {F : Nat} {LM : MemL} {β : Nat → Nat} {n s : Nat} (x3 : Int32) (k : Mem → Option Mem) : ∀ (d j m : Nat) (M : Mem), s + j + d = n → d < m → TpM M β n → M 0 31 = nI (s + j) → M 0 33 = nI s → M 0 34 = nI (vlN β s j) → (∀ i, i < j → isDi (β (s + i)) = true) → ∃ M', f_X10_goesOn_174 F LM x3 k m M = k M' ∧ M' 0 31 = nI (enE isDi β d (s + j)) ∧ M' 0 33 = nI s ∧ M' 0 34 = nI (vlN β s (enE isDi β d (s + j) - s)) ∧ FrT M M' ∧ M' 0 32 = M 0 32
  | d, j, 0, M, _, h, _, _, _, _, _ => by omega
  | 0, j, m + 1, M, hj, _, hM, hP, h33, h34, _ => by
    have e : enE isDi β 0 (s + j) - s = j := Nat.add_sub_cancel_left s j
    refine ⟨M, ?_, hP, h33, by rw [e]; exact h34, FrT_r M, rfl⟩
    rw [f_X10_goesOn_174, g_here hM (by omega) hP, hv_out (by omega), Option.bind_some, in_diF F (by omega) (by omega) (by omega), Option.bind_some, if_pos n00]
  | d + 1, j, m + 1, M, hj, hm, hM, hP, h33, h34, hD => by
    have b := (hM.2.2 (s + j) (by omega)).2
    have hn := hM.1
    rw [f_X10_goesOn_174, g_here hM (by omega) hP, hv_in (by omega), Option.bind_some]
    cases h : isDi (β (s + j)) with
    | true =>
      have h' := di_T.mp h
      have hD' : ∀ i, i < j + 1 → isDi (β (s + i)) = true := fun i hi => by
        by_cases e : i = j
        · rw [e]; exact h
        · exact hD i (by omega)
      rw [in_diT F (by omega), Option.bind_some, if_neg n10, h33, hP, nI_sub' (by omega), Nat.add_sub_cancel_left, l_2, Option.bind_some, en_T h, zI_c]
      have go : ∀ M1 : Mem, FrT M M1 → M1 0 31 = nI (s + j) → M1 0 32 = M 0 32 → M1 0 33 = nI s → M1 0 34 = nI (vlN β s (j + 1)) → ∃ M', f_X10_goesOn_174 F LM x3 k m (mr M1 0 (fu (M1 0) 31 ((M1 0 31) + 1))) = k M' ∧ M' 0 31 = nI (enE isDi β d (s + j + 1)) ∧ M' 0 33 = nI s ∧ M' 0 34 = nI (vlN β s (enE isDi β d (s + j + 1) - s)) ∧ FrT M M' ∧ M' 0 32 = M 0 32 := fun M1 fr i31 i32 i33 i34 => by
        have f2 : FrT M1 (mr M1 0 (fu (M1 0) 31 ((M1 0 31) + 1))) := FrT_0 M1 _ (fun j hj => fu_n _ _ (by omega))
        obtain ⟨M', a1, a2, a3, a4, a5, a6⟩ := g_go174 (F := F) (LM := LM) (s := s) x3 k d (j + 1) m (mr M1 0 (fu (M1 0) 31 ((M1 0 31) + 1))) (by omega) (by omega) (TpM_f hM (FrT_tr fr f2)) (by rw [mr_s, fu_s, i31, nI_1, Nat.add_assoc]) (by rw [mr_s, fu_n _ _ (by decide)]; exact i33) (by rw [mr_s, fu_n _ _ (by decide)]; exact i34) hD'
        exact ⟨M', a1, a2, a3, a4, FrT_tr (FrT_tr fr f2) a5, by rw [a6, mr_s, fu_n _ _ (by decide)]; exact i32⟩
      unfold f_X10_goesOn_223
      match j, hD, h34 with
      | 0, _, h34 =>
        rw [if_neg (nI_ge (by omega) (by omega))]
        refine go _ (FrT_0 M _ (fun j hj => fu_n _ _ (by omega))) (by rw [mr_s, fu_n _ _ (by decide)]; exact hP) (by rw [mr_s, fu_n _ _ (by decide)]) (by rw [mr_s, fu_n _ _ (by decide)]; exact h33) ?_
        rw [mr_s, fu_s, h34, l_10, l_48, nI_mul', nI_add, nI_sub' (by omega)]
        congr 1
        show 10 * 0 + β (s + 0) - 48 = β s - 48
        rw [Nat.add_zero]
        omega
      | 1, hD, h34 =>
        have b0 := di_T.mp (hD 0 (by omega))
        rw [Nat.add_zero] at b0
        rw [if_neg (nI_ge (by omega) (by omega))]
        refine go _ (FrT_0 M _ (fun j hj => fu_n _ _ (by omega))) (by rw [mr_s, fu_n _ _ (by decide)]; exact hP) (by rw [mr_s, fu_n _ _ (by decide)]) (by rw [mr_s, fu_n _ _ (by decide)]; exact h33) ?_
        rw [mr_s, fu_s, h34, l_10, l_48, nI_mul', nI_add, nI_sub' (by omega)]
        congr 1
        show 10 * (β s - 48) + β (s + 1) - 48 = 10 * (β s - 48) + (β (s + 1) - 48)
        omega
      | j + 2, _, h34 =>
        rw [if_pos (nI_le (by omega) (by omega))]
        exact go M (FrT_r M) hP rfl h33 h34
    | false =>
      have h' := di_F.mp h
      rw [in_diF F (by omega) (by omega) (by omega), Option.bind_some, if_pos n00, en_F h, Nat.add_sub_cancel_left]
      exact ⟨M, rfl, hP, h33, h34, FrT_r M, rfl⟩
/-- the token that begins at g, and where it ends; s: it hangs on the one before -/
def tokK (β : Nat → Nat) (n s g : Nat) : Nat := if g < n then (if isLe (β g) = true then (if s = 0 then 1 else 4) else if isDi (β g) = true then (if s = 0 ∧ dE β n g ≤ g + 2 then 2 else 4) else if β g = 59 then 3 else 4) else 0
theorem tok_4 (β : Nat → Nat) (n s g : Nat) : tokK β n s g ≤ 4 := by
  unfold tokK
  repeat' split
  all_goals omega
def tokS (β : Nat → Nat) (n g : Nat) : Nat := if g < n then (if isLe (β g) = true then wE β n g else if isDi (β g) = true then dE β n g else g + 1) else g
/-- the reference has read the token that begins at g -/
def LAg (M : Mem) (β : Nat → Nat) (n s g : Nat) : Prop := M 0 33 = nI g ∧ M 0 32 = nI (tokK β n s g) ∧ M 0 31 = nI (tokS β n g) ∧ (g < n → isDi (β g) = true → M 0 34 = nI (vlN β g (dE β n g - g)))
theorem g_go72 {F : Nat} (hF : 1000 ≤ F) {M : Mem} {LM : MemL} {β : Nat → Nat} {n g s : Nat} (hM : TpM M β n) (hg : g ≤ n) (hP : M 0 31 = nI g) (h33 : M 0 33 = nI g) (hs : s ≤ 1) : ∃ M', f_X10_goesOn_72 F M LM (nI s) = some M' ∧ LAg M' β n s g ∧ FrT M M' := by
  have hn := hM.1
  unfold f_X10_goesOn_72
  rw [g_here hM hg hP, Option.bind_some]
  by_cases q : g < n
  · have b := (hM.2.2 g q).2
    rw [hv_in q, if_neg (fun w => z_ne (a := (β g : Int)) (b := -1) (by omega) (by omega) (by omega) (by omega) (by omega) (w.trans zm_1.symm))]
    cases hl : isLe (β g) with
    | true =>
      have hl' := le_TT.mp hl
      obtain ⟨M1, a1, a2, a3, a4⟩ := g_go108 (F := F) (LM := LM) (nI s) (fun M_138 => (if nI s = 0 then (some (mr M_138 0 (fu (M_138 0) 32 1))) else (some (mr M_138 0 (fu (M_138 0) 32 4))))) (n - g) g F M (by omega) (by omega) hM hP
      rw [in_leT F (by omega), Option.bind_some, if_neg n10, a1]
      have fr : ∀ x, FrT M (mr M1 0 (fu (M1 0) 32 x)) := fun x => ⟨fun q hq => by rw [mr_n _ _ hq, a3 q hq], fun j hj => by rw [mr_s, fu_n _ _ (by omega), a4 j (by omega)]⟩
      have la : ∀ x, x = nI (tokK β n s g) → LAg (mr M1 0 (fu (M1 0) 32 x)) β n s g := fun x hx => by
        refine ⟨?_, ?_, ?_, fun _ hd => ?_⟩
        · rw [mr_s, fu_n _ _ (by decide), a4 33 (by decide)]; exact h33
        · rw [mr_s, fu_s]; exact hx
        · rw [mr_s, fu_n _ _ (by decide), a2]
          unfold tokS
          rw [if_pos q, if_pos hl]
          rfl
        · have := di_T.mp hd
          omega
      have kk : tokK β n s g = if s = 0 then 1 else 4 := by
        unfold tokK
        rw [if_pos q, if_pos hl]
      rcases (by omega : s = 0 ∨ s = 1) with rfl | rfl
      · rw [if_pos n00]
        exact ⟨_, rfl, la 1 (by rw [kk]; rfl), fr 1⟩
      · rw [if_neg n10]
        exact ⟨_, rfl, la 4 (by rw [kk]; rfl), fr 4⟩
    | false =>
      have hl' := le_FF.mp hl
      rw [in_leF F (by omega) (by omega) (by omega), Option.bind_some, if_pos n00]
      cases hd : isDi (β g) with
      | true =>
        have hd' := di_T.mp hd
        rw [in_diT F (by omega), Option.bind_some, if_neg n10]
        have fr0 : FrT M (mr M 0 (fu (M 0) 34 0)) := FrT_0 M _ (fun j hj => fu_n _ _ (by omega))
        obtain ⟨M1, a1, a2, a3, a4, a5, a6⟩ := g_go174 (F := F) (LM := LM) (s := g) (nI s) (fun M_236 => (if nI s = 0 then (if ((M_236 0 31) - (M_236 0 33)) ≤ 2 then (some (mr M_236 0 (fu (M_236 0) 32 2))) else (some (mr M_236 0 (fu (M_236 0) 32 4)))) else (some (mr M_236 0 (fu (M_236 0) 32 4))))) (n - g) 0 F (mr M 0 (fu (M 0) 34 0)) (by omega) (by omega) (TpM_f hM fr0) (by rw [mr_s, fu_n _ _ (by decide)]; exact hP) (by rw [mr_s, fu_n _ _ (by decide)]; exact h33) (by rw [mr_s, fu_s]; rfl) (fun i hi => by omega)
        rw [Nat.add_zero] at a2 a4
        have a2' : M1 0 31 = nI (dE β n g) := a2
        have fr : ∀ x, FrT M (mr M1 0 (fu (M1 0) 32 x)) := fun x => FrT_tr (FrT_tr fr0 a5) (FrT_0 M1 _ (fun j hj => fu_n _ _ (by omega)))
        have la : ∀ x, x = nI (tokK β n s g) → LAg (mr M1 0 (fu (M1 0) 32 x)) β n s g := fun x hx => by
          refine ⟨?_, ?_, ?_, fun _ _ => ?_⟩
          · rw [mr_s, fu_n _ _ (by decide)]; exact a3
          · rw [mr_s, fu_s]; exact hx
          · rw [mr_s, fu_n _ _ (by decide), a2']
            unfold tokS
            rw [if_pos q, if_neg (by rw [hl]; decide), if_pos hd]
          · rw [mr_s, fu_n _ _ (by decide)]; exact a4
        have kk : tokK β n s g = if s = 0 ∧ dE β n g ≤ g + 2 then 2 else 4 := by
          unfold tokK
          rw [if_pos q, if_neg (by rw [hl]; decide), if_pos hd]
        obtain ⟨e1, e2⟩ := dE_b (β := β) (n := n) (p := g) (by omega)
        rw [a1, a2', a3, nI_sub' e1, l_2]
        rcases (by omega : s = 0 ∨ s = 1) with rfl | rfl
        · rw [if_pos n00]
          by_cases w : dE β n g ≤ g + 2
          · rw [if_pos (nI_le (by omega) (by omega))]
            exact ⟨_, rfl, la _ (by rw [kk, if_pos ⟨rfl, w⟩]), fr _⟩
          · rw [if_neg (nI_ge (by omega) (by omega))]
            exact ⟨_, rfl, la _ (by rw [kk, if_neg (fun z => w z.2)]; rfl), fr _⟩
        · rw [if_neg n10]
          exact ⟨_, rfl, la _ (by rw [kk, if_neg (fun z => absurd z.1 (by decide))]; rfl), fr _⟩
      | false =>
        have hd' := di_F.mp hd
        rw [in_diF F (by omega) (by omega) (by omega), Option.bind_some, if_pos n00, zI_c, l_59]
        have fr : ∀ x, FrT M (mr M 0 (fu (fu (M 0) 31 ((M 0 31) + 1)) 32 x)) := fun x => FrT_0 M _ (fun j hj => by rw [fu_n _ _ (by omega), fu_n _ _ (by omega)])
        have la : ∀ x, x = nI (tokK β n s g) → LAg (mr M 0 (fu (fu (M 0) 31 ((M 0 31) + 1)) 32 x)) β n s g := fun x hx => by
          refine ⟨?_, ?_, ?_, fun _ z => ?_⟩
          · rw [mr_s, fu_n _ _ (by decide), fu_n _ _ (by decide)]; exact h33
          · rw [mr_s, fu_s]; exact hx
          · rw [mr_s, fu_n _ _ (by decide), fu_s, hP, nI_1]
            unfold tokS
            rw [if_pos q, if_neg (by rw [hl]; decide), if_neg (by rw [hd]; decide)]
          · rw [hd] at z; exact absurd z (by decide)
        have kk : tokK β n s g = if β g = 59 then 3 else 4 := by
          unfold tokK
          rw [if_pos q, if_neg (by rw [hl]; decide), if_neg (by rw [hd]; decide)]
        by_cases e : β g = 59
        · rw [if_pos (show nI (β g) = nI 59 by rw [e])]
          exact ⟨_, rfl, la _ (by rw [kk, if_pos e]; rfl), fr _⟩
        · rw [if_neg (fun z => e ((nI_eq (by omega) (by omega)).mp z))]
          exact ⟨_, rfl, la _ (by rw [kk, if_neg e]; rfl), fr _⟩
  · rw [hv_out q, if_pos (show zI (-1) = (-1 : Int32) by decide)]
    refine ⟨_, rfl, ⟨?_, ?_, ?_, fun z => absurd z q⟩, FrT_0 M _ (fun j hj => fu_n _ _ (by omega))⟩
    · rw [mr_s, fu_n _ _ (by decide)]; exact h33
    · rw [mr_s, fu_s]
      unfold tokK
      rw [if_neg q]
      rfl
    · rw [mr_s, fu_n _ _ (by decide), hP]
      unfold tokS
      rw [if_neg q]
/-- it hangs on what is before, where nothing lies between -/
def glN (β : Nat → Nat) (n w p : Nat) : Nat := if w = 1 ∧ bE β n p = p then 1 else 0
theorem gl_1 {β : Nat → Nat} {n p : Nat} (h : bE β n p = p) : glN β n 1 p = 1 := if_pos ⟨rfl, h⟩
theorem gl_0 {β : Nat → Nat} {n p : Nat} (h : ¬ bE β n p = p) : glN β n 1 p = 0 := if_neg (fun z => h z.2)
/-- the token behind p has been read; w: a word or a number ends at p -/
def LA (M : Mem) (β : Nat → Nat) (n w p : Nat) : Prop := LAg M β n (glN β n w p) (bE β n p)
theorem g_goesOn {F : Nat} (hF : 1000 ≤ F) {M : Mem} {LM : MemL} {β : Nat → Nat} {n p k : Nat} (hM : TpM M β n) (hp : p ≤ n) (hP : M 0 31 = nI p) (hk : M 0 32 = nI k) (hk4 : k ≤ 4) : ∃ M', f_X10_goesOn F M LM = some M' ∧ LA M' β n (if k = 1 ∨ k = 2 then 1 else 0) p ∧ FrT M M' := by
  have hn := hM.1
  obtain ⟨b1, b2⟩ := bE_b (β := β) hp
  obtain ⟨M1, a1, a2, a3, a4⟩ := g_go10 (F := F) (LM := LM) (M 0 32) (M 0 31) (fun M_41 => (if (M_41 0 31) = (M 0 31) then (if (M 0 32) = 1 then f_X10_goesOn_72 F (mr M_41 0 (fu (M_41 0) 33 (M_41 0 31))) LM 1 else (if (M 0 32) = 2 then f_X10_goesOn_72 F (mr M_41 0 (fu (M_41 0) 33 (M_41 0 31))) LM 1 else f_X10_goesOn_72 F (mr M_41 0 (fu (M_41 0) 33 (M_41 0 31))) LM 0)) else f_X10_goesOn_72 F (mr M_41 0 (fu (M_41 0) 33 (M_41 0 31))) LM 0)) (n - p) p F M (by omega) (by omega) hM hP
  have a2' : M1 0 31 = nI (bE β n p) := a2
  have f1 : FrT M M1 := ⟨a3, fun j hj => a4 j (by omega)⟩
  have f2 : FrT M1 (mr M1 0 (fu (M1 0) 33 (M1 0 31))) := FrT_0 M1 _ (fun j hj => fu_n _ _ (by omega))
  have go : ∀ s, s ≤ 1 → ∃ M', f_X10_goesOn_72 F (mr M1 0 (fu (M1 0) 33 (M1 0 31))) LM (nI s) = some M' ∧ LAg M' β n s (bE β n p) ∧ FrT M M' := fun s hs => by
    obtain ⟨M', c1, c2, c3⟩ := g_go72 (LM := LM) hF (M := mr M1 0 (fu (M1 0) 33 (M1 0 31))) (TpM_f hM (FrT_tr f1 f2)) b2 (by rw [mr_s, fu_n _ _ (by decide)]; exact a2') (by rw [mr_s, fu_s]; exact a2') hs
    exact ⟨M', c1, c2, FrT_tr (FrT_tr f1 f2) c3⟩
  have key : f_X10_goesOn F M LM = _ := a1
  rw [key, a2', hP, hk, l_1, l_2, l_0]
  unfold LA glN
  by_cases e : bE β n p = p
  · rw [if_pos (show nI (bE β n p) = nI p by rw [e])]
    by_cases k1 : k = 1
    · rw [if_pos (show nI k = nI 1 by rw [k1]), if_pos (Or.inl k1), if_pos ⟨rfl, e⟩]
      rw [← a2']
      exact go 1 (by omega)
    · rw [if_neg (fun q => k1 ((nI_eq (by omega) (by omega)).mp q))]
      by_cases k2 : k = 2
      · rw [if_pos (show nI k = nI 2 by rw [k2]), if_pos (Or.inr k2), if_pos ⟨rfl, e⟩]
        rw [← a2']
        exact go 1 (by omega)
      · rw [if_neg (fun q => k2 ((nI_eq (by omega) (by omega)).mp q)), if_neg (show ¬ (k = 1 ∨ k = 2) by omega), if_neg (fun z => absurd z.1 (by decide))]
        rw [← a2']
        exact go 0 (by omega)
  · rw [if_neg (fun q => e ((nI_eq (by omega) (by omega)).mp q)), if_neg (fun z => e z.2)]
    rw [← a2']
    exact go 0 (by omega)
/-- reading has failed at f; nothing else has changed -/
def FrW (M M' : Mem) : Prop := (∀ q, q ≠ 0 → M' q = M q) ∧ ∀ j, j < 31 ∨ 35 < j → M' 0 j = M 0 j
theorem FrT_W {M M' : Mem} (h : FrT M M') : FrW M M' := ⟨h.1, fun j hj => h.2 j (by omega)⟩
theorem FrW_tr {M M1 M2 : Mem} (h : FrW M M1) (g : FrW M1 M2) : FrW M M2 := ⟨fun q hq => (g.1 q hq).trans (h.1 q hq), fun j hj => (g.2 j hj).trans (h.2 j hj)⟩
theorem g_fails {F : Nat} {M : Mem} {LM : MemL} (h : M 0 35 = -1) (x : Int32) : f_X10_fails F M LM x = some (mr M 0 (fu (M 0) 35 x)) := by
  unfold f_X10_fails
  rw [if_pos h]
theorem FrW_35 (M : Mem) (x : Int32) : FrW M (mr M 0 (fu (M 0) 35 x)) := ⟨fun q hq => mr_n _ _ hq, fun j hj => by rw [mr_s, fu_n _ _ (by omega)]⟩
theorem g_needsNumber {F : Nat} (hF : 1000 ≤ F) {M : Mem} {LM : MemL} {β : Nat → Nat} {n p lo : Nat} {hi : Int} (hM : TpM M β n) (hp : p ≤ n) (hL : LA M β n 1 p) (hW : M 0 35 = -1) (hlo : lo ≤ 99) (h1 : -1 ≤ hi) (h2 : hi ≤ 1000) : (NumOk β n p lo hi ∧ ∃ M', f_X10_needsNumber F M LM (nI lo) (zI hi) = some (nI (numV β n p), M') ∧ LA M' β n 1 (numE β n p) ∧ M' 0 35 = -1 ∧ FrT M M') ∨ (¬ NumOk β n p lo hi ∧ ∃ M', f_X10_needsNumber F M LM (nI lo) (zI hi) = some (0, M') ∧ M' 0 35 = nI (bE β n p) ∧ FrW M M') := by
  have hn := hM.1
  obtain ⟨b1, b2⟩ := bE_b (β := β) hp
  obtain ⟨d1, d2⟩ := dE_b (β := β) (n := n) b2
  obtain ⟨l33, l32, l31, l34⟩ := hL
  have vle := numV_le β n p
  have bad : ∃ M', f_X10_needsNumber_33 F M LM = some (0, M') ∧ M' 0 35 = nI (bE β n p) ∧ FrW M M' := by
    unfold f_X10_needsNumber_33
    rw [g_fails hW, Option.bind_some, l33]
    exact ⟨_, rfl, by rw [mr_s, fu_s], FrW_35 M _⟩
  have gl : glN β n 1 p ≤ 1 := by unfold glN; split <;> omega
  have tk : tokK β n (glN β n 1 p) (bE β n p) = 2 ↔ bE β n p ≠ p ∧ bE β n p < dE β n (bE β n p) ∧ dE β n (bE β n p) ≤ bE β n p + 2 := by
    rw [dE_pos]
    unfold tokK
    by_cases q : bE β n p < n
    · rw [if_pos q]
      by_cases hl : isLe (β (bE β n p)) = true
      · rw [if_pos hl]
        have a := le_TT.mp hl
        constructor
        · intro z; split at z <;> omega
        · intro z
          have := di_T.mp z.2.1.2
          omega
      · rw [if_neg hl]
        by_cases hd : isDi (β (bE β n p)) = true
        · rw [if_pos hd]
          by_cases e : bE β n p = p
          · rw [gl_1 e, if_neg (fun z => absurd z.1 (by decide))]
            constructor
            · intro z; omega
            · intro z; exact absurd e z.1
          · rw [gl_0 e]
            by_cases w : dE β n (bE β n p) ≤ bE β n p + 2
            · rw [if_pos ⟨rfl, w⟩]
              exact ⟨fun _ => ⟨e, ⟨q, hd⟩, w⟩, fun _ => rfl⟩
            · rw [if_neg (fun z => w z.2)]
              constructor
              · intro z; omega
              · intro z; exact absurd z.2.2 w
        · rw [if_neg hd]
          constructor
          · intro z; split at z <;> omega
          · intro z; exact absurd z.2.1.2 hd
    · rw [if_neg q]
      constructor
      · intro z; omega
      · intro z; exact absurd z.2.1.1 q
  have tl : tokK β n (glN β n 1 p) (bE β n p) ≤ 4 := tok_4 _ _ _ _
  unfold f_X10_needsNumber
  rw [if_pos hW, l32, l_2]
  by_cases t2 : tokK β n (glN β n 1 p) (bE β n p) = 2
  · obtain ⟨u1, u2, u3⟩ := tk.mp t2
    obtain ⟨v1, v2⟩ := dE_pos.mp u2
    have e34 : M 0 34 = zI (numV β n p : Int) := by rw [zI_c]; exact l34 v1 v2
    rw [if_pos (show nI _ = nI 2 by rw [t2]), e34, ← zI_c lo, f_inz F (by omega) (by omega) (by omega) (by omega) (by omega) (by omega), Option.bind_some]
    by_cases g : (lo : Int) ≤ (numV β n p : Int) ∧ (numV β n p : Int) ≤ hi
    · have es : tokS β n (bE β n p) = numE β n p := by
        unfold tokS
        have nl : ¬ isLe (β (bE β n p)) = true := fun z => by
          have a := le_TT.mp z
          have b := di_T.mp v2
          omega
        rw [if_pos v1, if_neg nl, if_pos v2]
        rfl
      obtain ⟨M', c1, c2, c3⟩ := g_goesOn (LM := LM) hF hM (p := numE β n p) d2 (by rw [l31, es]) l32 tl
      rw [if_pos (Or.inr t2)] at c2
      rw [if_pos g, if_neg n10, c1, Option.bind_some, zI_c]
      have g1 : lo ≤ numV β n p := by omega
      exact Or.inl ⟨⟨u1, u2, u3, g1, g.2⟩, M', rfl, c2, by rw [c3.2 35 (by omega)]; exact hW, c3⟩
    · rw [if_neg g, if_pos n00]
      exact Or.inr ⟨fun z => g ⟨by have := z.2.2.2.1; unfold numV; omega, z.2.2.2.2⟩, bad⟩
  · rw [if_neg (fun q => t2 ((nI_eq (by omega) (by omega)).mp q))]
    exact Or.inr ⟨fun z => t2 (tk.mpr ⟨z.1, z.2.1, z.2.2.1⟩), bad⟩
theorem g_needsClose {F : Nat} (hF : 1000 ≤ F) {M : Mem} {LM : MemL} {β : Nat → Nat} {n w p : Nat} (hM : TpM M β n) (hp : p ≤ n) (hL : LA M β n w p) (hW : M 0 35 = -1) : (EndOk β n p ∧ ∃ M', f_X10_needsClose F M LM = some M' ∧ LA M' β n 0 (bE β n p + 1) ∧ M' 0 35 = -1 ∧ FrT M M') ∨ (¬ EndOk β n p ∧ ∃ M', f_X10_needsClose F M LM = some M' ∧ M' 0 35 = nI (bE β n p) ∧ FrW M M') := by
  have hn := hM.1
  obtain ⟨b1, b2⟩ := bE_b (β := β) hp
  obtain ⟨l33, l32, l31, l34⟩ := hL
  have tl : tokK β n (glN β n w p) (bE β n p) ≤ 4 := tok_4 _ _ _ _
  have nle : β (bE β n p) = 59 → ¬ isLe (β (bE β n p)) = true := fun e z => by have := le_TT.mp z; omega
  have ndi : β (bE β n p) = 59 → ¬ isDi (β (bE β n p)) = true := fun e z => by have := di_T.mp z; omega
  have tk : tokK β n (glN β n w p) (bE β n p) = 3 ↔ EndOk β n p := by
    unfold tokK EndOk
    by_cases q : bE β n p < n
    · rw [if_pos q]
      by_cases e : β (bE β n p) = 59
      · rw [if_neg (nle e), if_neg (ndi e), if_pos e]
        exact ⟨fun _ => ⟨q, e⟩, fun _ => rfl⟩
      · constructor
        · intro z
          rw [if_neg e] at z
          repeat' split at z
          all_goals omega
        · intro z; exact absurd z.2 e
    · rw [if_neg q]
      constructor
      · intro z; omega
      · intro z; exact absurd z.1 q
  unfold f_X10_needsClose
  rw [if_pos hW, l32, l_3]
  by_cases t3 : tokK β n (glN β n w p) (bE β n p) = 3
  · have ok := tk.mp t3
    have es : tokS β n (bE β n p) = bE β n p + 1 := by
      unfold tokS
      rw [if_pos ok.1, if_neg (nle ok.2), if_neg (ndi ok.2)]
    have k1 := ok.1
    obtain ⟨M', c1, c2, c3⟩ := g_goesOn (LM := LM) hF hM (p := bE β n p + 1) (by omega) (by rw [l31, es]) l32 tl
    rw [if_neg (by omega)] at c2
    rw [if_pos (show nI _ = nI 3 by rw [t3]), c1, Option.bind_some]
    exact Or.inl ⟨ok, M', rfl, c2, by rw [c3.2 35 (by omega)]; exact hW, c3⟩
  · rw [if_neg (fun q => t3 ((nI_eq (by omega) (by omega)).mp q)), g_fails hW, Option.bind_some, l33]
    exact Or.inr ⟨fun z => t3 (tk.mpr z), _, rfl, by rw [mr_s, fu_s], FrW_35 M _⟩
theorem g_nn_x {F : Nat} {M : Mem} {LM : MemL} (h : ¬ M 0 35 = -1) (a b : Int32) : f_X10_needsNumber F M LM a b = some (0, M) := by
  unfold f_X10_needsNumber
  rw [if_neg h]
theorem g_nc_x {F : Nat} {M : Mem} {LM : MemL} (h : ¬ M 0 35 = -1) : f_X10_needsClose F M LM = some M := by
  unfold f_X10_needsClose
  rw [if_neg h]
