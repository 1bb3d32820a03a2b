/-! PURE LAYER: text: stretches of a tape; the class's small readers -/
def isBl (b : Nat) : Bool := decide (b = 32 ∨ b = 10)
def isLe (b : Nat) : Bool := decide (97 ≤ b ∧ b ≤ 122)
def isDi (b : Nat) : Bool := decide (48 ≤ b ∧ b ≤ 57)
def enE (t : Nat → Bool) (β : Nat → Nat) : Nat → Nat → Nat
  | 0, p => p
  | d + 1, p => if t (β p) = true then enE t β d (p + 1) else p
theorem en_T {t : Nat → Bool} {β : Nat → Nat} {d p : Nat} (h : t (β p) = true) : enE t β (d + 1) p = enE t β d (p + 1) := if_pos h
theorem en_F {t : Nat → Bool} {β : Nat → Nat} {d p : Nat} (h : t (β p) = false) : enE t β (d + 1) p = p := if_neg (by rw [h]; decide)
theorem en_ge (t : Nat → Bool) (β : Nat → Nat) : ∀ d p, p ≤ enE t β d p
  | 0, p => Nat.le_refl _
  | d + 1, p => by
    cases h : t (β p) with
    | true =>
      rw [en_T h]
      have := en_ge t β d (p + 1)
      omega
    | false => rw [en_F h]; exact Nat.le_refl _
theorem en_le (t : Nat → Bool) (β : Nat → Nat) : ∀ d p, enE t β d p ≤ p + d
  | 0, p => Nat.le_refl _
  | d + 1, p => by
    cases h : t (β p) with
    | true =>
      rw [en_T h]
      have := en_le t β d (p + 1)
      omega
    | false => rw [en_F h]; omega
theorem en_in (t : Nat → Bool) (β : Nat → Nat) : ∀ d p j, p ≤ j → j < enE t β d p → t (β j) = true
  | 0, p, j, h1, h2 => by
    have h2' : j < p := h2
    omega
  | d + 1, p, j, h1, h2 => by
    cases h : t (β p) with
    | true =>
      rw [en_T h] at h2
      by_cases e : j = p
      · rw [e]; exact h
      · exact en_in t β d (p + 1) j (by omega) h2
    | false =>
      rw [en_F h] at h2
      omega
theorem en_out (t : Nat → Bool) (β : Nat → Nat) : ∀ d p, enE t β d p < p + d → t (β (enE t β d p)) = false
  | 0, p, h => by
    have h' : p < p + 0 := h
    omega
  | d + 1, p, h1 => by
    cases h : t (β p) with
    | true =>
      rw [en_T h] at h1 ⊢
      exact en_out t β d (p + 1) (by omega)
    | false =>
      rw [en_F h]
      exact h
def bE (β : Nat → Nat) (n p : Nat) : Nat := enE isBl β (n - p) p
def wE (β : Nat → Nat) (n p : Nat) : Nat := enE isLe β (n - p) p
def dE (β : Nat → Nat) (n p : Nat) : Nat := enE isDi β (n - p) p
theorem bE_b {β : Nat → Nat} {n p : Nat} (h : p ≤ n) : p ≤ bE β n p ∧ bE β n p ≤ n := by
  have a := en_ge isBl β (n - p) p
  have b := en_le isBl β (n - p) p
  unfold bE
  omega
theorem wE_b {β : Nat → Nat} {n p : Nat} (h : p ≤ n) : p ≤ wE β n p ∧ wE β n p ≤ n := by
  have a := en_ge isLe β (n - p) p
  have b := en_le isLe β (n - p) p
  unfold wE
  omega
theorem dE_b {β : Nat → Nat} {n p : Nat} (h : p ≤ n) : p ≤ dE β n p ∧ dE β n p ≤ n := by
  have a := en_ge isDi β (n - p) p
  have b := en_le isDi β (n - p) p
  unfold dE
  omega
theorem dE_pos {β : Nat → Nat} {n p : Nat} : p < dE β n p ↔ p < n ∧ isDi (β p) = true := by
  unfold dE
  constructor
  · intro h
    have b := en_le isDi β (n - p) p
    exact ⟨by omega, en_in isDi β (n - p) p p (Nat.le_refl _) h⟩
  · intro ⟨h1, h2⟩
    obtain ⟨d, e⟩ : ∃ d, n - p = d + 1 := ⟨n - p - 1, by omega⟩
    rw [e, en_T h2]
    exact en_ge isDi β d (p + 1)
theorem wE_pos {β : Nat → Nat} {n p : Nat} : p < wE β n p ↔ p < n ∧ isLe (β p) = true := by
  unfold wE
  constructor
  · intro h
    have b := en_le isLe β (n - p) p
    exact ⟨by omega, en_in isLe β (n - p) p p (Nat.le_refl _) h⟩
  · intro ⟨h1, h2⟩
    obtain ⟨d, e⟩ : ∃ d, n - p = d + 1 := ⟨n - p - 1, by omega⟩
    rw [e, en_T h2]
    exact en_ge isLe β d (p + 1)
/-- the number that the first two digits spell -/
def vlN (β : Nat → Nat) (s : Nat) : Nat → Nat
  | 0 => 0
  | 1 => β s - 48
  | _ + 2 => 10 * (β s - 48) + (β (s + 1) - 48)
/-- bytes on a tape -/
def Tb (X : Mem) (q : Nat) (β : Nat → Nat) (n : Nat) : Prop := ∀ j, j < n → X q j = nI (β j) ∧ β j < 256
theorem bl_T {b : Nat} : isBl b = true ↔ b = 32 ∨ b = 10 := decide_eq_true_iff
theorem bl_F {b : Nat} : isBl b = false ↔ ¬ (b = 32 ∨ b = 10) := decide_eq_false_iff_not
theorem le_TT {b : Nat} : isLe b = true ↔ 97 ≤ b ∧ b ≤ 122 := decide_eq_true_iff
theorem le_FF {b : Nat} : isLe b = false ↔ ¬ (97 ≤ b ∧ b ≤ 122) := decide_eq_false_iff_not
theorem di_T {b : Nat} : isDi b = true ↔ 48 ≤ b ∧ b ≤ 57 := decide_eq_true_iff
theorem di_F {b : Nat} : isDi b = false ↔ ¬ (48 ≤ b ∧ b ≤ 57) := decide_eq_false_iff_not
theorem h_bl5 {F : Nat} {R T : Mem} {β : Nat → Nat} {n : Nat} (hn : n ≤ 400) (hR : R 0 5 = nI n) (hT : Tb T 1 β n) (k : Int32 → Option Int32) : ∀ (d p m : Nat), p + d = n → d < m → f_X6_blanksEnd_5 F R T k m (nI p) = k (nI (enE isBl β d p))
  | d, p, 0, _, h => by omega
  | 0, p, m + 1, hp, _ => by
    rw [f_X6_blanksEnd_5, hR, if_pos (nI_le (by omega) (by omega))]; rfl
  | d + 1, p, m + 1, hp, hm => by
    obtain ⟨t1, t2⟩ := hT p (by omega)
    rw [f_X6_blanksEnd_5, hR, if_neg (nI_ge (by omega) (by omega)), ck_n (by omega) (by decide), ck_n (by omega) (by decide), nI_clamp (by omega), t1, l_32, l_10, nI_1]
    by_cases e : β p = 32
    · rw [if_pos (show nI (β p) = nI 32 by rw [e]), en_T (bl_T.mpr (Or.inl e))]
      exact h_bl5 hn hR hT k d (p + 1) m (by omega) (by omega)
    · rw [if_neg (fun q => e ((nI_eq (by omega) (by omega)).mp q))]
      by_cases e2 : β p = 10
      · rw [if_pos (show nI (β p) = nI 10 by rw [e2]), en_T (bl_T.mpr (Or.inr e2))]
        exact h_bl5 hn hR hT k d (p + 1) m (by omega) (by omega)
      · rw [if_neg (fun q => e2 ((nI_eq (by omega) (by omega)).mp q)), en_F (bl_F.mpr (by omega))]
theorem h_blanksEnd {F : Nat} (hF : 1000 ≤ F) {R T : Mem} {β : Nat → Nat} {n p : Nat} (hn : n ≤ 400) (hp : p ≤ n) (hR : R 0 5 = nI n) (hP : R 0 6 = nI p) (hT : Tb T 1 β n) : f_X6_blanksEnd F R T = some (nI (bE β n p)) := by
  unfold f_X6_blanksEnd
  rw [hP]
  exact h_bl5 hn hR hT _ (n - p) p F (by omega) (by omega)
theorem h_skipBlanks {F : Nat} (hF : 1000 ≤ F) {R T : Mem} {β : Nat → Nat} {n p : Nat} (hn : n ≤ 400) (hp : p ≤ n) (hR : R 0 5 = nI n) (hP : R 0 6 = nI p) (hT : Tb T 1 β n) : f_X6_skipBlanks F R T = some (mr R 0 (fu (R 0) 6 (nI (bE β n p)))) := by
  unfold f_X6_skipBlanks
  rw [h_blanksEnd hF hn hp hR hP hT, Option.bind_some]
/-- what stays of the reader: length, stage -/
def FrR (R R' : Mem) : Prop := R' 0 5 = R 0 5 ∧ R' 0 7 = R 0 7
theorem FrR_tr {R R1 R2 : Mem} (h : FrR R R1) (g : FrR R1 R2) : FrR R R2 := ⟨g.1.trans h.1, g.2.trans h.2⟩
theorem h_num19 {F : Nat} {T : Mem} {β : Nat → Nat} {n s : Nat} (hn : n ≤ 400) (hT : Tb T 1 β n) (x1 x2 x3 x4 : Int32) (k : Mem → Int32 → Option (Int32 × Mem)) : ∀ (d j m : Nat) (R : Mem), s + j + d = n → d < m → R 0 5 = nI n → R 0 6 = nI (s + j) → (∀ i, i < j → isDi (β (s + i)) = true) → ∃ R', f_X6_readNumber_19 F T x1 x2 x3 x4 (nI s) k m R (nI (vlN β s j)) = k R' (nI (vlN β s (enE isDi β d (s + j) - s))) ∧ R' 0 6 = nI (enE isDi β d (s + j)) ∧ (∀ i, i ≠ 6 → R' 0 i = R 0 i) ∧ R' 1 = R 1
  | d, j, 0, R, _, h, _, _, _ => by omega
  | 0, j, m + 1, R, hj, _, hR, hP, _ => by
    refine ⟨R, ?_, hP, fun _ _ => rfl, rfl⟩
    rw [f_X6_readNumber_19, hR, hP, if_pos (nI_le (by omega) (by omega))]
    show _ = k R (nI (vlN β s (s + j - s)))
    rw [Nat.add_sub_cancel_left]
  | d + 1, j, m + 1, R, hj, hm, hR, hP, hD => by
    obtain ⟨t1, t2⟩ := hT (s + j) (by omega)
    have stop : isDi (β (s + j)) = false → f_X6_readNumber_19 F T x1 x2 x3 x4 (nI s) k (m + 1) R (nI (vlN β s j)) = k R (nI (vlN β s j)) := fun h => by
      have h' := di_F.mp h
      rw [f_X6_readNumber_19, hR, hP, if_neg (nI_ge (by omega) (by omega)), ck_n (by omega) (by decide), ck_n (by omega) (by decide), nI_clamp (by omega), t1, l_48, l_57]
      by_cases q : β (s + j) < 48
      · rw [if_pos (nI_lt q (by omega))]
      · rw [if_neg (nI_nlt (by omega) (by omega)), if_pos (nI_lt (by omega) (by omega))]
    cases h : isDi (β (s + j)) with
    | false =>
      refine ⟨R, ?_, by rw [en_F h]; exact hP, fun _ _ => rfl, rfl⟩
      rw [stop h, en_F h, Nat.add_sub_cancel_left]
    | true =>
      have h' := di_T.mp h
      have hD' : ∀ i, i < j + 1 → isDi (β (s + i)) = true := fun i hi => by
        by_cases e : i = j
        · rw [e]; exact h
        · exact hD i (by omega)
      have e6 : (mr R 0 (fu (R 0) 6 (nI (s + j) + 1))) 0 6 = nI (s + (j + 1)) := by rw [mr_s, fu_s, nI_1, Nat.add_assoc]
      obtain ⟨R', a1, a2, a3, a4⟩ := h_num19 (F := F) hn hT x1 x2 x3 x4 k d (j + 1) m (mr R 0 (fu (R 0) 6 (nI (s + j) + 1))) (by omega) (by omega) (by rw [mr_s, fu_n _ _ (by decide)]; exact hR) e6 hD'
      have esj : s + (j + 1) = s + j + 1 := by omega
      rw [esj] at a1 a2
      refine ⟨R', ?_, by rw [en_T h]; exact a2, fun i hi => by rw [a3 i hi, mr_s, fu_n _ _ hi], by rw [a4, mr_n _ _ (by decide)]⟩
      rw [en_T h, ← a1, f_X6_readNumber_19, hR, hP, if_neg (nI_ge (by omega) (by omega)), ck_n (by omega) (by decide), ck_n (by omega) (by decide), ck_n (by omega) (by decide), nI_clamp (by omega), t1, l_48, l_57, if_neg (nI_nlt (by omega) (by omega)), if_neg (nI_nlt (by omega) (by omega)), nI_sub' (by omega), Nat.add_sub_cancel_left, l_2, l_10]
      unfold f_X6_readNumber_92
      rw [hP]
      match j, hD with
      | 0, _ =>
        rw [if_neg (nI_ge (by omega) (by omega)), nI_mul', nI_add, nI_sub' (by omega)]
        congr 2
        show 0 * 10 + β (s + 0) - 48 = β s - 48
        rw [Nat.add_zero]
        omega
      | 1, hD =>
        have b0 := di_T.mp (hD 0 (by omega))
        rw [Nat.add_zero] at b0
        rw [if_neg (nI_ge (by omega) (by omega)), nI_mul', nI_add, nI_sub' (by omega)]
        congr 2
        show (β s - 48) * 10 + β (s + 1) - 48 = 10 * (β s - 48) + (β (s + 1) - 48)
        omega
      | j + 2, _ =>
        rw [if_pos (nI_le (by omega) (by omega))]
        rfl
/-- a number stands at p, behind a blank, and lies within bounds -/
def NumOk (β : Nat → Nat) (n p lo : Nat) (hi : Int) : Prop := bE β n p ≠ p ∧ bE β n p < dE β n (bE β n p) ∧ dE β n (bE β n p) ≤ bE β n p + 2 ∧ lo ≤ vlN β (bE β n p) (dE β n (bE β n p) - bE β n p) ∧ (vlN β (bE β n p) (dE β n (bE β n p) - bE β n p) : Int) ≤ hi
/-- its value, and where it ends -/
def numV (β : Nat → Nat) (n p : Nat) : Nat := vlN β (bE β n p) (dE β n (bE β n p) - bE β n p)
def numE (β : Nat → Nat) (n p : Nat) : Nat := dE β n (bE β n p)
theorem vl_lt {β : Nat → Nat} {n s : Nat} (j : Nat) (h : ∀ i, i < j → isDi (β (s + i)) = true) : vlN β s j ≤ 99 := by
  match j, h with
  | 0, _ => exact Nat.zero_le _
  | 1, h =>
    have b0 := di_T.mp (h 0 (by omega))
    rw [Nat.add_zero] at b0
    show β s - 48 ≤ 99
    omega
  | j + 2, h =>
    have b0 := di_T.mp (h 0 (by omega))
    have b1 := di_T.mp (h 1 (by omega))
    rw [Nat.add_zero] at b0
    show 10 * (β s - 48) + (β (s + 1) - 48) ≤ 99
    omega
theorem numV_le (β : Nat → Nat) (n p : Nat) : numV β n p ≤ 99 := vl_lt (n := n) _ (fun i hi => by
  unfold dE at hi
  exact en_in isDi β (n - bE β n p) (bE β n p) _ (by omega) (by omega))
theorem h_readNumber {F : Nat} (hF : 1000 ≤ F) {R T : Mem} {β : Nat → Nat} {n p : Nat} (hn : n ≤ 400) (hp : p ≤ n) (hR : R 0 5 = nI n) (hP : R 0 6 = nI p) (hT : Tb T 1 β n) {slot lo : Nat} (hsl : slot < 4) (hlo : lo ≤ 99) {hi : Int} (h1 : -1 ≤ hi) (h2 : hi ≤ 1000) : (NumOk β n p lo hi ∧ ∃ R', f_X6_readNumber F R T (nI slot) (nI lo) (zI hi) = some (1, R') ∧ R' 0 6 = nI (numE β n p) ∧ FrR R R' ∧ R' 1 = upd (R 1) slot (nI (numV β n p))) ∨ (¬ NumOk β n p lo hi ∧ ∃ R', f_X6_readNumber F R T (nI slot) (nI lo) (zI hi) = some (0, R') ∧ R' 0 8 = nI (bE β n p)) := by
  obtain ⟨b1, b2⟩ := bE_b (β := β) hp
  obtain ⟨d1, d2⟩ := dE_b (β := β) b2
  have vle := numV_le β n p
  obtain ⟨R1, a1, a2, a3, a4⟩ := h_num19 (F := F) (s := bE β n p) hn hT (nI slot) (nI lo) (zI hi) (nI p) (fun R_107 x6_107 => f_X6_readNumber_107 F R_107 T (nI slot) (nI lo) (zI hi) (nI p) (nI (bE β n p)) x6_107) (n - bE β n p) 0 F (mr R 0 (fu (R 0) 6 (nI (bE β n p)))) (by omega) (by omega) (by rw [mr_s, fu_n _ _ (by decide)]; exact hR) (by rw [mr_s, fu_s]; rfl) (fun i hi => by omega)
  rw [Nat.add_zero] at a1 a2
  have key : f_X6_readNumber F R T (nI slot) (nI lo) (zI hi) = f_X6_readNumber_107 F R1 T (nI slot) (nI lo) (zI hi) (nI p) (nI (bE β n p)) (nI (numV β n p)) := by
    unfold f_X6_readNumber
    rw [h_skipBlanks hF hn hp hR hP hT, Option.bind_some, hP, mr_s, fu_s]
    exact a1
  have a2' : R1 0 6 = nI (numE β n p) := a2
  have ef : f_X6_readNumber_147 F R1 T (nI (bE β n p)) = some (0, mr R1 0 (fu (R1 0) 8 (nI (bE β n p)))) := by
    unfold f_X6_readNumber_147 f_X6_failAt
    rw [Option.bind_some]
    exact cb_0
  have e8 : (mr R1 0 (fu (R1 0) 8 (nI (bE β n p)))) 0 8 = nI (bE β n p) := by rw [mr_s, fu_s]
  have esub : R1 0 6 - nI (bE β n p) = nI (numE β n p - bE β n p) := by rw [a2']; exact nI_sub' d1
  have ne : numE β n p ≤ n := d2
  have nb : bE β n p ≤ numE β n p := d1
  rw [key]
  unfold f_X6_readNumber_107
  rw [esub, l_1, l_2]
  by_cases g1 : bE β n p = p
  · refine Or.inr ⟨fun q => q.1 g1, _, ?_, e8⟩
    rw [if_pos (show nI (bE β n p) = nI p by rw [g1]), ef]
  · rw [if_neg (fun q => g1 ((nI_eq (by omega) (by omega)).mp q))]
    by_cases g2 : numE β n p - bE β n p < 1
    · refine Or.inr ⟨fun q => ?_, _, ?_, e8⟩
      · have := q.2.1
        unfold numE at g2
        omega
      · rw [if_pos (nI_lt g2 (by omega)), ef]
    · rw [if_neg (nI_nlt (by omega) (by omega))]
      by_cases g3 : 2 < numE β n p - bE β n p
      · refine Or.inr ⟨fun q => ?_, _, ?_, e8⟩
        · have := q.2.2.1
          unfold numE at g3
          omega
        · rw [if_pos (nI_lt g3 (by omega)), ef]
      · rw [if_neg (nI_nlt (by omega) (by omega))]
        by_cases g4 : numV β n p < lo
        · refine Or.inr ⟨fun q => ?_, _, ?_, e8⟩
          · have := q.2.2.2.1
            unfold numV at g4
            omega
          · rw [if_pos (nI_lt g4 (by omega)), ef]
        · rw [if_neg (nI_nlt (by omega) (by omega))]
          by_cases g5 : (numV β n p : Int) ≤ hi
          · refine Or.inl ⟨⟨g1, ?_, ?_, ?_, g5⟩, mr R1 1 (upd (R1 1) slot (nI (numV β n p))), ?_, ?_, ⟨?_, ?_⟩, ?_⟩
            · unfold numE at g2; omega
            · unfold numE at g3; omega
            · unfold numV at g4; omega
            · rw [if_pos (show nI (numV β n p) ≤ zI hi by rw [nz_le]; exact of_eq_true (zle_T g5 (by omega) (by omega))), ck_n hsl (by decide), nI_clamp (by omega)]
            · rw [mr_n _ _ (by decide)]; exact a2'
            · rw [mr_n _ _ (by decide), a3 5 (by decide), mr_s, fu_n _ _ (by decide)]
            · rw [mr_n _ _ (by decide), a3 7 (by decide), mr_s, fu_n _ _ (by decide)]
            · rw [mr_s, a4, mr_n _ _ (by decide)]
          · refine Or.inr ⟨fun q => g5 q.2.2.2.2, _, ?_, e8⟩
            rw [if_neg (show ¬ nI (numV β n p) ≤ zI hi by rw [nz_le, zle_F (by omega) (by omega) (by omega)]; exact not_false), ef]
/-- the end of a line stands next -/
def EndOk (β : Nat → Nat) (n p : Nat) : Prop := bE β n p < n ∧ β (bE β n p) = 59
theorem h_readEnd {F : Nat} (hF : 1000 ≤ F) {R T : Mem} {β : Nat → Nat} {n p : Nat} (hn : n ≤ 400) (hp : p ≤ n) (hR : R 0 5 = nI n) (hP : R 0 6 = nI p) (hT : Tb T 1 β n) : (EndOk β n p ∧ ∃ R', f_X6_readEnd F R T = some (1, R') ∧ R' 0 6 = nI (bE β n p + 1) ∧ FrR R R' ∧ R' 1 = R 1) ∨ (¬ EndOk β n p ∧ ∃ R', f_X6_readEnd F R T = some (0, R') ∧ R' 0 8 = nI (bE β n p)) := by
  obtain ⟨b1, b2⟩ := bE_b (β := β) hp
  have e6 : (mr R 0 (fu (R 0) 6 (nI (bE β n p)))) 0 6 = nI (bE β n p) := by rw [mr_s, fu_s]
  have e5 : (mr R 0 (fu (R 0) 6 (nI (bE β n p)))) 0 5 = nI n := by rw [mr_s, fu_n _ _ (by decide)]; exact hR
  have ef : f_X6_readEnd_29 F (mr R 0 (fu (R 0) 6 (nI (bE β n p)))) T = some (0, mr (mr R 0 (fu (R 0) 6 (nI (bE β n p)))) 0 (fu ((mr R 0 (fu (R 0) 6 (nI (bE β n p)))) 0) 8 (nI (bE β n p)))) := by
    unfold f_X6_readEnd_29 f_X6_failAt
    rw [Option.bind_some, e6]
    exact cb_0
  unfold f_X6_readEnd
  rw [h_skipBlanks hF hn hp hR hP hT, Option.bind_some, e5, e6]
  by_cases g : bE β n p < n
  · obtain ⟨t1, t2⟩ := hT _ g
    rw [if_neg (nI_ge g (by omega)), ck_n (by omega) (by decide), nI_clamp (by omega), t1, l_59]
    by_cases e : β (bE β n p) = 59
    · refine Or.inl ⟨⟨g, e⟩, _, by rw [if_pos (show nI (β (bE β n p)) = nI 59 by rw [e]), nI_1], by rw [mr_s, fu_s], ⟨?_, ?_⟩, by rw [mr_n _ _ (by decide), mr_n _ _ (by decide)]⟩
      · rw [mr_s, fu_n _ _ (by decide), mr_s, fu_n _ _ (by decide)]
      · rw [mr_s, fu_n _ _ (by decide), mr_s, fu_n _ _ (by decide)]
    · refine Or.inr ⟨fun q => e q.2, _, by rw [if_neg (fun q => e ((nI_eq (by omega) (by omega)).mp q)), ef], by rw [mr_s, fu_s]⟩
  · refine Or.inr ⟨fun q => g q.1, _, by rw [if_pos (nI_le (by omega) (by omega)), ef], by rw [mr_s, fu_s]⟩
theorem h_endNext {F : Nat} (hF : 1000 ≤ F) {R T : Mem} {β : Nat → Nat} {n p : Nat} (hn : n ≤ 400) (hp : p ≤ n) (hR : R 0 5 = nI n) (hP : R 0 6 = nI p) (hT : Tb T 1 β n) : (EndOk β n p ∧ f_X6_endComesNext F R T = some 1) ∨ (¬ EndOk β n p ∧ f_X6_endComesNext F R T = some 0) := by
  obtain ⟨b1, b2⟩ := bE_b (β := β) hp
  unfold f_X6_endComesNext
  rw [h_blanksEnd hF hn hp hR hP hT, Option.bind_some, hR]
  by_cases g : bE β n p < n
  · obtain ⟨t1, t2⟩ := hT _ g
    rw [if_neg (nI_ge g (by omega)), ck_n (by omega) (by decide), nI_clamp (by omega), t1, l_59]
    by_cases e : β (bE β n p) = 59
    · exact Or.inl ⟨⟨g, e⟩, by rw [if_pos (show nI (β (bE β n p)) = nI 59 by rw [e])]⟩
    · exact Or.inr ⟨fun q => e q.2, by rw [if_neg (fun q => e ((nI_eq (by omega) (by omega)).mp q))]⟩
  · exact Or.inr ⟨fun q => g q.1, by rw [if_pos (nI_le (by omega) (by omega))]⟩
