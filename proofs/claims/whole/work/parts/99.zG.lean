/-! PURE LAYER: text: words -/
def MW (β : Nat → Nat) (g e w : Nat) : Prop := e = g + (wl w).length ∧ ∀ i, i < (wl w).length → β (g + i) = (wl w).getD i 0
theorem wl_5 : ∀ w, w < 8 → ∀ w', w' < 8 → (wl w).length = (wl w').length → (∀ i, i < 6 → i < (wl w).length → (wl w).getD i 0 = (wl w').getD i 0) → w = w' := by decide +kernel
theorem wl_6 : ∀ w, w < 10 → ∀ j, j < 6 → j < (wl w).length → s_ch w (nI j) = nI ((wl w).getD j 0) := by decide +kernel
theorem wl_7 : ∀ w, w < 8 → 0 < (wl w).length := by decide +kernel
theorem MW_u {β : Nat → Nat} {g e w w' : Nat} (hw : w < 8) (hw' : w' < 8) (h : MW β g e w) (h' : MW β g e w') : w = w' := by
  have l : (wl w).length = (wl w').length := by have := h.1; have := h'.1; omega
  exact wl_5 w hw w' hw' l (fun i _ hi => by rw [← h.2 i hi, h'.2 i (by omega)])
def wjL : List Nat := [5, 6, 0, 1, 2, 3, 4, 7]
theorem wj_1 : ∀ v, v < 8 → wjL.getD v 0 < 8 ∧ wiL.getD (wjL.getD v 0) 0 = v := by decide +kernel
theorem wj_2 : ∀ w, w < 8 → wiL.getD w 0 < 8 ∧ wjL.getD (wiL.getD w 0) 0 = w := by decide +kernel
theorem sk_n {α : Type} {w : Nat} (h : w < 10) (E : Option α) : sk w E = E := if_pos h
theorem h_st17 {F : Nat} {R T : Mem} {β : Nat → Nat} {n g w : Nat} (hn : n ≤ 400) (hT : Tb T 1 β n) (hw : w < 8) (hg : g + (wl w).length ≤ n) (k41 k49 : Option Int32) : ∀ (d j m : Nat), j + d = (wl w).length → d < m → (∀ i, i < j → β (g + i) = (wl w).getD i 0) → ((∀ i, i < (wl w).length → β (g + i) = (wl w).getD i 0) ∧ f_X6_stands_17 F R T (nI g) w k41 k49 m (nI j) = k49) ∨ (¬ (∀ i, i < (wl w).length → β (g + i) = (wl w).getD i 0) ∧ f_X6_stands_17 F R T (nI g) w k41 k49 m (nI j) = k41)
  | d, j, 0, _, h, _ => by omega
  | 0, j, m + 1, hj, _, hI => by
    obtain ⟨a1, a2, a3⟩ := wl_1 w (by omega)
    obtain rfl : j = (wl w).length := by omega
    exact Or.inl ⟨hI, by rw [f_X6_stands_17, sk_n (by omega), a1, if_pos (nI_le (Nat.le_refl _) (by omega))]⟩
  | d + 1, j, m + 1, hj, hm, hI => by
    obtain ⟨a1, a2, a3⟩ := wl_1 w (by omega)
    obtain ⟨t1, t2⟩ := hT (g + j) (by omega)
    obtain ⟨-, -, c3⟩ := wl_4 w (by omega) j (by omega) (by omega)
    have key : f_X6_stands_17 F R T (nI g) w k41 k49 (m + 1) (nI j) = if nI (β (g + j)) = nI ((wl w).getD j 0) then f_X6_stands_17 F R T (nI g) w k41 k49 m (nI (j + 1)) else k41 := by
      rw [f_X6_stands_17, sk_n (by omega), a1, if_neg (nI_ge (by omega) (by omega)), nI_add, ck_n (by omega) (by decide), sk_n (by omega), a2, ck_n (by omega) (by omega), nI_clamp (by omega), t1, wl_6 w (by omega) j (by omega) (by omega), nI_1]
    rw [key]
    by_cases e : β (g + j) = (wl w).getD j 0
    · rw [if_pos (by rw [e])]
      exact h_st17 hn hT hw hg k41 k49 d (j + 1) m (by omega) (by omega) (fun i hi => by
        by_cases q : i = j
        · rw [q]; exact e
        · exact hI i (by omega))
    · rw [if_neg (fun q => e ((nI_eq (by omega) (by omega)).mp q))]
      exact Or.inr ⟨fun q => e (q j (by omega)), rfl⟩
theorem h_stands {F : Nat} (hF : 1000 ≤ F) {R T : Mem} {β : Nat → Nat} {n g e w : Nat} (hn : n ≤ 400) (hT : Tb T 1 β n) (hw : w < 8) (hg : g ≤ e) (he : e ≤ n) (hP : R 0 6 = nI e) : (MW β g e w ∧ f_X6_stands F R T (nI g) w = some 1) ∨ (¬ MW β g e w ∧ f_X6_stands F R T (nI g) w = some 0) := by
  obtain ⟨a1, a2, a3⟩ := wl_1 w (by omega)
  unfold f_X6_stands
  rw [sk_n (by omega), hP, nI_sub' hg, a1]
  by_cases q : e - g = (wl w).length
  · rw [if_pos (by rw [q])]
    rcases h_st17 (F := F) (R := R) hn hT hw (g := g) (by omega) (some 0) (some 1) (wl w).length 0 F (by omega) (by omega) (fun i hi => by omega) with ⟨b1, b2⟩ | ⟨b1, b2⟩
    · exact Or.inl ⟨⟨by omega, b1⟩, b2⟩
    · exact Or.inr ⟨fun z => b1 z.2, b2⟩
  · rw [if_neg (fun z => q ((nI_eq (by omega) (by omega)).mp z))]
    exact Or.inr ⟨fun z => q (by have := z.1; omega), rfl⟩
theorem h_rw5 {F : Nat} {T : Mem} {β : Nat → Nat} {n : Nat} (hn : n ≤ 400) (hT : Tb T 1 β n) (x1 : Int32) (k : Mem → Option (Int32 × Mem)) : ∀ (d p m : Nat) (R : Mem), p + d = n → d < m → R 0 5 = nI n → R 0 6 = nI p → ∃ R', f_X6_readWord_5 F T x1 k m R = k R' ∧ R' 0 6 = nI (enE isLe β d p) ∧ (∀ i, i ≠ 6 → R' 0 i = R 0 i) ∧ R' 1 = R 1
  | d, p, 0, R, _, h, _, _ => by omega
  | 0, p, m + 1, R, hp, _, hR, hP => by
    exact ⟨R, by rw [f_X6_readWord_5, hR, hP, if_pos (nI_le (by omega) (by omega))], hP, fun _ _ => rfl, rfl⟩
  | d + 1, p, m + 1, R, hp, hm, hR, hP => by
    obtain ⟨t1, t2⟩ := hT p (by omega)
    rw [f_X6_readWord_5, hR, hP, if_neg (nI_ge (by omega) (by omega)), ck_n (by omega) (by decide), ck_n (by omega) (by decide), nI_clamp (by omega), t1, l_97, l_122]
    cases h : isLe (β p) with
    | true =>
      have h' := le_TT.mp h
      obtain ⟨R', a1, a2, a3, a4⟩ := h_rw5 (F := F) hn hT x1 k d (p + 1) m (mr R 0 (fu (R 0) 6 (nI p + 1))) (by omega) (by omega) (by rw [mr_s, fu_n _ _ (by decide)]; exact hR) (by rw [mr_s, fu_s, nI_1])
      rw [if_neg (nI_nlt (by omega) (by omega)), if_neg (nI_nlt (by omega) (by omega)), en_T h]
      exact ⟨R', a1, a2, fun i hi => by rw [a3 i hi, mr_s, fu_n _ _ hi], by rw [a4, mr_n _ _ (by decide)]⟩
    | false =>
      have h' := le_FF.mp h
      rw [en_F h]
      by_cases q : β p < 97
      · rw [if_pos (nI_lt q (by omega))]
        exact ⟨R, rfl, hP, fun _ _ => rfl, rfl⟩
      · rw [if_neg (nI_nlt (by omega) (by omega)), if_pos (nI_lt (by omega) (by omega))]
        exact ⟨R, rfl, hP, fun _ _ => rfl, rfl⟩
theorem sp_w (F : Nat) {w : Nat} (hw : w < 8) : f_X6_spelled F (nI w) = some w := by
  have H : ∀ w : Fin 8, f_X6_spelled 0 (nI w.val) = some w.val := by
    unfold f_X6_spelled f_X6_moveWord
    decide +kernel
  exact H ⟨w, hw⟩
theorem h_rw59 {F : Nat} (hF : 1000 ≤ F) {R T : Mem} {β : Nat → Nat} {n g e : Nat} (hn : n ≤ 400) (hT : Tb T 1 β n) (hg : g ≤ e) (he : e ≤ n) (hP : R 0 6 = nI e) (k77 : Int32 → Option (Int32 × Mem)) (k85 : Option (Int32 × Mem)) : ∀ (d i m : Nat), i + d = 8 → d < m → (∀ w, w < i → ¬ MW β g e w) → (∃ w, w < 8 ∧ MW β g e w ∧ f_X6_readWord_59 F R T (nI g) k77 k85 m (nI i) = k77 (nI w)) ∨ ((∀ w, w < 8 → ¬ MW β g e w) ∧ f_X6_readWord_59 F R T (nI g) k77 k85 m (nI i) = k85)
  | d, i, 0, _, h, _ => by omega
  | 0, i, m + 1, hi, _, hI => by
    obtain rfl : i = 8 := by omega
    exact Or.inr ⟨hI, by rw [f_X6_readWord_59, if_pos (by decide)]⟩
  | d + 1, i, m + 1, hi, hm, hI => by
    rw [f_X6_readWord_59, if_neg (show ¬ (7 : Int32) < nI i from nI_nlt (a := 7) (by omega) (by omega)), sp_w F (by omega), Option.bind_some]
    rcases h_stands (R := R) hF hn hT (w := i) (by omega) hg he hP with ⟨a1, a2⟩ | ⟨a1, a2⟩
    · rw [a2, Option.bind_some, if_neg (show ¬ (1 : Int32) = 0 by decide)]
      exact Or.inl ⟨i, by omega, a1, rfl⟩
    · rw [a2, Option.bind_some, if_pos (rfl : (0 : Int32) = 0), nI_1]
      exact h_rw59 hF hn hT hg he hP k77 k85 d (i + 1) m (by omega) (by omega) (fun w hw => by
        by_cases q : w = i
        · rw [q]; exact a1
        · exact hI w (by omega))
theorem h_readWord {F : Nat} (hF : 1000 ≤ F) {R T : Mem} {β : Nat → Nat} {n g : Nat} (hn : n ≤ 400) (hT : Tb T 1 β n) (hg : g ≤ n) (hR : R 0 5 = nI n) (hP : R 0 6 = nI g) : ∃ R', R' 0 6 = nI (wE β n g) ∧ (∀ i, i ≠ 6 → R' 0 i = R 0 i) ∧ R' 1 = R 1 ∧ ((∃ w, w < 8 ∧ MW β g (wE β n g) w ∧ f_X6_readWord F R T = some (nI w, R')) ∨ ((∀ w, w < 8 → ¬ MW β g (wE β n g) w) ∧ f_X6_readWord F R T = some (-1, R'))) := by
  obtain ⟨w1, w2⟩ := wE_b (β := β) hg
  obtain ⟨R', a1, a2, a3, a4⟩ := h_rw5 (F := F) hn hT (nI g) (fun R_57 => f_X6_readWord_59 F R_57 T (nI g) (fun x2_77 => (some (x2_77, R_57))) ((some ((-1), R_57))) F 0) (n - g) g F R (by omega) (by omega) hR hP
  have key : f_X6_readWord F R T = f_X6_readWord_59 F R' T (nI g) (fun x2_77 => (some (x2_77, R'))) ((some ((-1), R'))) F 0 := by
    unfold f_X6_readWord
    rw [hP]
    exact a1
  refine ⟨R', a2, a3, a4, ?_⟩
  rw [key]
  exact h_rw59 hF hn hT w1 w2 a2 _ _ 8 0 F (by omega) (by omega) (fun w hw => by omega)
/-! the reference's words -/
theorem g_iw18 {F : Nat} {M : Mem} {LM : MemL} {β : Nat → Nat} {n g e w : Nat} (hM : TpM M β n) (hW : Wd M) (hw : w < 8) (he : e ≤ n) (hP : M 0 31 = nI e) (h33 : M 0 33 = nI g) (hL : ∀ j, g ≤ j → j < e → isLe (β j) = true) (k : Int32 → Option Int32) : ∀ (d j m : Nat), g + j + d = e → d < m → j ≤ (wl w).length → (∀ i, i < j → β (g + i) = (wl w).getD i 0) → ∃ j', f_X10_isWord_18 F M LM (nI (wsL.getD w 0)) k m (nI j) = k (nI j') ∧ j' ≤ (wl w).length ∧ g + j' ≤ e ∧ (∀ i, i < j' → β (g + i) = (wl w).getD i 0) ∧ (g + j' = e ∨ j' = (wl w).length ∨ β (g + j') ≠ (wl w).getD j' 0)
  | d, j, 0, _, h, _, _ => by omega
  | 0, j, m + 1, hj, _, hl, hI => by
    have hn := hM.1
    exact ⟨j, by rw [f_X10_isWord_18, hP, h33, nI_add, if_pos (nI_le (by omega) (by omega))], hl, by omega, hI, Or.inl (by omega)⟩
  | d + 1, j, m + 1, hj, hm, hl, hI => by
    have hn := hM.1
    obtain ⟨t1, t2⟩ := hM.2.2 (g + j) (by omega)
    obtain ⟨z1, z2⟩ := wl_3 w (by omega)
    obtain ⟨a1, a2, a3⟩ := wl_1 w (by omega)
    have lt := le_TT.mp (hL (g + j) (by omega) (by omega))
    have key : f_X10_isWord_18 F M LM (nI (wsL.getD w 0)) k (m + 1) (nI j) = if nI (wdL.getD (wsL.getD w 0 + j) 0) = nI (β (g + j)) then f_X10_isWord_18 F M LM (nI (wsL.getD w 0)) k m (nI (j + 1)) else k (nI j) := by
      rw [f_X10_isWord_18, hP, h33, nI_add, nI_add, if_neg (nI_ge (by omega) (by omega)), ck_n (by omega) (by decide), ck_n (by omega) (by decide), nI_clamp (by omega), nI_clamp (by omega), t1, hW _ (by omega), nI_1]
    have bw := wd_b (wsL.getD w 0 + j) (by omega)
    rw [key]
    by_cases q : j = (wl w).length
    · have e0 : wdL.getD (wsL.getD w 0 + j) 0 = 0 := by rw [q]; exact z1
      rw [e0, if_neg (fun z => by have := (nI_eq (by omega) (by omega)).mp z; omega)]
      exact ⟨j, rfl, hl, by omega, hI, Or.inr (Or.inl q)⟩
    · obtain ⟨c1, c2, c3⟩ := wl_4 w (by omega) j (by omega) (by omega)
      rw [c1]
      by_cases e2 : β (g + j) = (wl w).getD j 0
      · rw [if_pos (by rw [e2])]
        exact g_iw18 hM hW hw he hP h33 hL k d (j + 1) m (by omega) (by omega) (by omega) (fun i hi => by
          by_cases q : i = j
          · rw [q]; exact e2
          · exact hI i (by omega))
      · rw [if_neg (fun z => e2 ((nI_eq (by omega) (by omega)).mp z).symm)]
        exact ⟨j, rfl, hl, by omega, hI, Or.inr (Or.inr e2)⟩
theorem g_isWord {F : Nat} (hF : 1000 ≤ F) {M : Mem} {LM : MemL} {β : Nat → Nat} {n g e w : Nat} (hM : TpM M β n) (hW : Wd M) (hw : w < 8) (hg : g ≤ e) (he : e ≤ n) (hP : M 0 31 = nI e) (h33 : M 0 33 = nI g) (h32 : M 0 32 = nI 1) (hL : ∀ j, g ≤ j → j < e → isLe (β j) = true) : (MW β g e w ∧ f_X10_isWord F M LM (nI (wiL.getD w 0)) = some 1) ∨ (¬ MW β g e w ∧ f_X10_isWord F M LM (nI (wiL.getD w 0)) = some 0) := by
  have hn := hM.1
  obtain ⟨o1, o2⟩ := wfO_ok w (by omega)
  obtain ⟨z1, z2⟩ := wl_3 w (by omega)
  obtain ⟨a1, a2, a3⟩ := wl_1 w (by omega)
  have wf : f_X10_wordFrom F M LM (nI (wiL.getD w 0)) = some (nI (wsL.getD w 0)) := by
    unfold f_X10_wordFrom
    exact g_wf4 hW (fun x2_26 => (some x2_26)) 60 0 (wiL.getD w 0) F _ o1 (by omega) (by omega) (by omega)
  obtain ⟨j, b1, b2, b3, b4, b5⟩ := g_iw18 (F := F) (LM := LM) hM hW hw he hP h33 hL (fun x3_59 => f_X10_isWord_59 F M LM (nI (wsL.getD w 0)) x3_59) (e - g) 0 F (by omega) (by omega) (by omega) (fun i hi => by omega)
  have key : f_X10_isWord F M LM (nI (wiL.getD w 0)) = f_X10_isWord_59 F M LM (nI (wsL.getD w 0)) (nI j) := by
    unfold f_X10_isWord
    rw [h32, if_pos (show nI 1 = (1 : Int32) by decide), wf, Option.bind_some]
    exact b1
  have bw := wd_b (wsL.getD w 0 + j) (by omega)
  rw [key]
  unfold f_X10_isWord_59
  rw [h33, hP, nI_add, nI_add]
  by_cases q : g + j = e
  · rw [if_pos (by rw [q]), ck_n (by omega) (by decide), nI_clamp (by omega), hW _ (by omega)]
    by_cases q2 : j = (wl w).length
    · have e0 : wdL.getD (wsL.getD w 0 + j) 0 = 0 := by rw [q2]; exact z1
      rw [e0, if_pos n00]
      exact Or.inl ⟨⟨by omega, fun i hi => b4 i (by omega)⟩, rfl⟩
    · obtain ⟨c1, c2, c3⟩ := wl_4 w (by omega) j (by omega) (by omega)
      rw [c1, if_neg (nI_ne0 (by omega) (by omega))]
      exact Or.inr ⟨fun z => q2 (by have := z.1; omega), rfl⟩
  · rw [if_neg (fun z => q ((nI_eq (by omega) (by omega)).mp z))]
    refine Or.inr ⟨fun z => ?_, rfl⟩
    have zl := z.1
    rcases b5 with b5 | b5 | b5
    · exact q b5
    · omega
    · exact b5 (z.2 j (by omega))
theorem g_lh2 {F : Nat} {M : Mem} {LM : MemL} {β : Nat → Nat} {g e : Nat} (H : ∀ w, w < 8 → (MW β g e w ∧ f_X10_isWord F M LM (nI (wiL.getD w 0)) = some 1) ∨ (¬ MW β g e w ∧ f_X10_isWord F M LM (nI (wiL.getD w 0)) = some 0)) (k16 : Int32 → Option Int32) (k24 : Option Int32) : ∀ (d i m : Nat), i + d = 8 → d < m → (∀ v, v < i → ¬ MW β g e (wjL.getD v 0)) → (∃ w, w < 8 ∧ MW β g e w ∧ f_X10_lineHere_2 F M LM k16 k24 m (nI i) = k16 (nI (wiL.getD w 0))) ∨ ((∀ w, w < 8 → ¬ MW β g e w) ∧ f_X10_lineHere_2 F M LM k16 k24 m (nI i) = k24)
  | d, i, 0, _, h, _ => by omega
  | 0, i, m + 1, hi, _, hI => by
    obtain rfl : i = 8 := by omega
    refine Or.inr ⟨fun w hw => ?_, by rw [f_X10_lineHere_2, if_pos (by decide)]⟩
    obtain ⟨c1, c2⟩ := wj_2 w hw
    have := hI _ c1
    rw [c2] at this
    exact this
  | d + 1, i, m + 1, hi, hm, hI => by
    obtain ⟨c1, c2⟩ := wj_1 i (by omega)
    have h := H _ c1
    rw [c2] at h
    rw [f_X10_lineHere_2, if_neg (show ¬ (8 : Int32) ≤ nI i from nI_ge (b := 8) (by omega) (by decide))]
    rcases h with ⟨a1, a2⟩ | ⟨a1, a2⟩
    · rw [a2, Option.bind_some, if_neg (show ¬ (1 : Int32) = 0 by decide)]
      exact Or.inl ⟨_, c1, a1, by rw [c2]⟩
    · rw [a2, Option.bind_some, if_pos (rfl : (0 : Int32) = 0), nI_1]
      exact g_lh2 H k16 k24 d (i + 1) m (by omega) (by omega) (fun v hv => by
        by_cases q : v = i
        · rw [q]; exact a1
        · exact hI v (by omega))
/-- class and reference read the same word at g, or none -/
theorem m_word {F : Nat} (hF : 1000 ≤ F) {R T M : Mem} {LM : MemL} {β : Nat → Nat} {n g : Nat} (hT : Tb T 1 β n) (hM : TpM M β n) (hW : Wd M) (hg : g < n) (hR : R 0 5 = nI n) (hP : R 0 6 = nI g) (hL : LAg M β n 0 g) : ∃ R', R' 0 6 = nI (wE β n g) ∧ (∀ i, i ≠ 6 → R' 0 i = R 0 i) ∧ R' 1 = R 1 ∧ ((∃ w, w < 8 ∧ f_X6_readWord F R T = some (nI w, R') ∧ f_X10_lineHere F M LM = some (nI (wiL.getD w 0)) ∧ M 0 32 = nI 1 ∧ M 0 31 = nI (wE β n g) ∧ g < wE β n g) ∨ (f_X6_readWord F R T = some (-1, R') ∧ f_X10_lineHere F M LM = some (-1))) := by
  have hn := hM.1
  obtain ⟨l33, l32, l31, l34⟩ := hL
  obtain ⟨w1, w2⟩ := wE_b (β := β) (n := n) (p := g) (by omega)
  obtain ⟨R', a1, a2, a3, a4⟩ := h_readWord hF hn hT (by omega) hR hP
  refine ⟨R', a1, a2, a3, ?_⟩
  cases hl : isLe (β g) with
  | true =>
    have k1 : tokK β n 0 g = 1 := by
      unfold tokK
      rw [if_pos hg, if_pos hl, if_pos rfl]
    have s1 : tokS β n g = wE β n g := by
      unfold tokS
      rw [if_pos hg, if_pos hl]
    rw [k1] at l32
    rw [s1] at l31
    have H := fun w (hw : w < 8) => g_isWord (F := F) (LM := LM) hF hM hW hw w1 w2 l31 l33 l32 (fun j j1 j2 => en_in isLe β (n - g) g j j1 j2)
    have key := g_lh2 H (fun x1_16 => (some x1_16)) ((some (-1))) 8 0 F (by omega) (by omega) (fun v hv => by omega)
    rcases a4 with ⟨w, hw, mw, b1⟩ | ⟨nm, b1⟩
    · rcases key with ⟨w', hw', mw', c1⟩ | ⟨nm, c1⟩
      · have e := MW_u hw hw' mw mw'
        subst e
        exact Or.inl ⟨w, hw, b1, c1, l32, l31, wE_pos.mpr ⟨hg, hl⟩⟩
      · exact absurd mw (nm w hw)
    · rcases key with ⟨w', hw', mw', c1⟩ | ⟨_, c1⟩
      · exact absurd mw' (nm w' hw')
      · exact Or.inr ⟨b1, c1⟩
  | false =>
    have we : wE β n g = g := by
      by_cases q : g < wE β n g
      · have := (wE_pos.mp q).2
        rw [hl] at this
        exact absurd this (by decide)
      · omega
    have k1 : tokK β n 0 g ≠ 1 := by
      unfold tokK
      rw [if_pos hg, if_neg (by rw [hl]; decide)]
      repeat' split
      all_goals omega
    have nw : ∀ w, w < 8 → ¬ MW β g (wE β n g) w := fun w hw z => by
      have := z.1
      have := wl_7 w hw
      omega
    have iw : ∀ x, f_X10_isWord F M LM x = some 0 := fun x => by
      unfold f_X10_isWord
      have t4 := tok_4 β n 0 g
      rw [l32, if_neg (show ¬ nI (tokK β n 0 g) = (1 : Int32) from fun z => k1 ((nI_eq (b := 1) (by omega) (by omega)).mp z))]
    have key := g_lh2 (F := F) (M := M) (LM := LM) (β := β) (g := g) (e := wE β n g) (fun w hw => Or.inr ⟨nw w hw, iw _⟩) (fun x1_16 => (some x1_16)) ((some (-1))) 8 0 F (by omega) (by omega) (fun v hv => by omega)
    rcases a4 with ⟨w, hw, mw, b1⟩ | ⟨_, b1⟩
    · exact absurd mw (nw w hw)
    · rcases key with ⟨w', hw', mw', c1⟩ | ⟨_, c1⟩
      · exact absurd mw' (nw w' hw')
      · exact Or.inr ⟨b1, c1⟩
def stC (w : Nat) : Nat := if w = 5 then 0 else if w = 6 then 1 else if w = 7 then 3 else 2
theorem stg_C (F : Nat) {w : Nat} (hw : w < 8) : f_X6_stageOf F (nI w) = some (nI (stC w)) := by
  have H : ∀ w : Fin 8, f_X6_stageOf 0 (nI w.val) = some (nI (stC w.val)) := by
    unfold f_X6_stageOf
    decide +kernel
  exact H ⟨w, hw⟩
theorem stg_M (F : Nat) {w : Nat} (hw : w < 8) : f_X10_stage F (nI (wiL.getD w 0)) = some (nI (stC w)) := by
  have H : ∀ w : Fin 8, f_X10_stage 0 (nI (wiL.getD w.val 0)) = some (nI (stC w.val)) := by
    unfold f_X10_stage
    decide +kernel
  exact H ⟨w, hw⟩
