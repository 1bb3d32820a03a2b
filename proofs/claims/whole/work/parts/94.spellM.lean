/-! PURE LAYER: the cloth spelled, the reference's side; spell, report -/
def ExM {α : Type} (σ : Sg) (k : Mem → Option α) (M : Mem) (L W : List Nat) (E : Option α) : Prop := TM M L → L.length + W.length ≤ 2000 → StM M σ → Wd M → ∃ M', E = k M' ∧ TM M' (L ++ W) ∧ Pw M M'
theorem exm_bind {α : Type} {σ : Sg} {k : Mem → Option α} {f : Mem → Option Mem} {g : Mem → Option α} {M : Mem} {L W1 W2 : List Nat} (hf : WrM σ f W1) (hg : ∀ M1, StM M1 σ → ExM σ k M1 (L ++ W1) W2 (g M1)) : ExM σ k M L (W1 ++ W2) ((f M).bind g) := fun hS hl hM hW => by
  rw [List.length_append] at hl
  obtain ⟨S1, a1, a2, a3⟩ := hf M L hS (by omega) hM hW
  have hM1 := StM_p hM (Pw_m a3)
  obtain ⟨S2, b1, b2, b3⟩ := hg S1 hM1 a2 (by rw [List.length_append]; omega) hM1 (Wd_q (Pm_q (Pw_m a3)) hW)
  refine ⟨S2, ?_, by rw [← List.append_assoc]; exact b2, Pw_tr a3 b3⟩
  rw [a1]
  exact b1
theorem exm_nil {α : Type} {σ : Sg} {k : Mem → Option α} {M : Mem} {L : List Nat} {E : Option α} (h : E = k M) : ExM σ k M L [] E := fun hS _ _ _ => ⟨M, h, by rw [List.append_nil]; exact hS, Pw_rfl M⟩
theorem exm_seq {α : Type} {σ : Sg} {k g : Mem → Option α} {M : Mem} {L W1 W2 : List Nat} {E : Option α} (h : ExM σ g M L W1 E) (hg : ∀ M1, StM M1 σ → ExM σ k M1 (L ++ W1) W2 (g M1)) : ExM σ k M L (W1 ++ W2) E := fun hS hl hM hW => by
  rw [List.length_append] at hl
  obtain ⟨S1, a1, a2, a3⟩ := h hS (by omega) hM hW
  have hM1 := StM_p hM (Pw_m a3)
  obtain ⟨S2, b1, b2, b3⟩ := hg S1 hM1 a2 (by rw [List.length_append]; omega) hM1 (Wd_q (Pm_q (Pw_m a3)) hW)
  exact ⟨S2, a1.trans b1, by rw [← List.append_assoc]; exact b2, Pw_tr a3 b3⟩
theorem exm_wr {σ : Sg} {f : Mem → Option Mem} {W : List Nat} (h : ∀ M L, StM M σ → ExM σ (fun S => some S) M L W (f M)) : WrM σ f W := fun M L hS hl hM hW => h M L hM hS hl hM hW
theorem exm_in {α : Type} {σ : Sg} {k : Mem → Option α} {M : Mem} {L W : List Nat} {E : Option α} (h : StM M σ → ExM σ k M L W E) : ExM σ k M L W E := fun hS hl hM hW => h hM hS hl hM hW
theorem wm_59 {σ : Sg} {LM : MemL} (F : Nat) : WrM σ (fun M => f_X10_writesSign F M LM 59) [59] := wm_b (LM := LM) F 59
theorem wm_32 {σ : Sg} {LM : MemL} (F : Nat) : WrM σ (fun M => f_X10_writesSign F M LM 32) [32] := wm_b (LM := LM) F 32
theorem wm_w0 {σ : Sg} {LM : MemL} {F : Nat} (hF : 10000 ≤ F) : WrM σ (fun M => f_X10_writesWord F M LM 0) (wl 5) := wm_word (LM := LM) (w := 5) hF (by decide)
theorem wm_w1 {σ : Sg} {LM : MemL} {F : Nat} (hF : 10000 ≤ F) : WrM σ (fun M => f_X10_writesWord F M LM 1) (wl 6) := wm_word (LM := LM) (w := 6) hF (by decide)
theorem wm_w7 {σ : Sg} {LM : MemL} {F : Nat} (hF : 10000 ≤ F) : WrM σ (fun M => f_X10_writesWord F M LM 7) (wl 7) := wm_word (LM := LM) (w := 7) hF (by decide)
theorem wm_w8 {σ : Sg} {LM : MemL} {F : Nat} (hF : 10000 ≤ F) : WrM σ (fun M => f_X10_writesWord F M LM 8) (wl 8) := wm_word (LM := LM) (w := 8) hF (by decide)
theorem wm_w9 {σ : Sg} {LM : MemL} {F : Nat} (hF : 10000 ≤ F) : WrM σ (fun M => f_X10_writesWord F M LM 9) (wl 9) := wm_word (LM := LM) (w := 9) hF (by decide)
theorem m0c : (0 : Int32).toNatClampNeg = 0 := rfl
theorem m1c : (1 : Int32).toNatClampNeg = 1 := rfl
theorem m56c : (56 : Int32).toNatClampNeg = 56 := rfl
theorem m177c : (177 : Int32).toNatClampNeg = 177 := rfl
theorem ck0 {α : Type} {E : Option α} : ck 0 226 E = E := ck_n (i := 0) (by decide) (by decide)
theorem ck1 {α : Type} {E : Option α} : ck 1 226 E = E := ck_n (i := 1) (by decide) (by decide)
theorem g_sp14 {LM : MemL} {σ : Sg} (hs : okS σ) {F : Nat} (hF : 10000 ≤ F) (x1 : Int32) (k : Mem → Option (Int32 × Mem)) : ∀ (d i n : Nat) (M : Mem) (L : List Nat), i + d = σ 0 → d < n → ExM σ k M L (cc (colT σ) i d) (f_X10_spell_14 F LM x1 k n M (nI i))
  | d, i, 0, M, L, _, h => by omega
  | 0, i, n + 1, M, L, hi, _ => exm_in (fun hM => by
    have h0 := kC hs
    exact exm_nil (by rw [f_X10_spell_14, ck0, m0c, hM 0 (by decide), if_pos (nI_le (by omega) (by omega))]))
  | d + 1, i, n + 1, M, L, hi, hn => exm_in (fun hM => by
    have h0 := kC hs
    have b := kRa hs (j := i) (by omega)
    have e : cc (colT σ) i (d + 1) = wl 5 ++ (([32] ++ dgt (σ (2 + i))) ++ ([59] ++ cc (colT σ) (i + 1) d)) := by
      rw [cc_s]; unfold colT; simp only [List.append_assoc]
    rw [e, f_X10_spell_14, ck0, m0c, hM 0 (by decide), if_neg (nI_ge (by omega) (by omega))]
    refine exm_bind (wm_w0 (LM := LM) hF) (fun M1 h1 => ?_)
    rw [g_ratio h1 F (by omega), Option.bind_some]
    refine exm_bind (wm_next (LM := LM) (by omega) (by omega)) (fun M2 h2 => ?_)
    refine exm_bind (wm_59 (LM := LM) F) (fun M3 h3 => ?_)
    rw [nI_1]
    exact g_sp14 hs hF x1 k d (i + 1) n M3 _ (by omega) (by omega))
theorem g_sp69 {LM : MemL} {σ : Sg} (hs : okS σ) {F r : Nat} (hF : 10000 ≤ F) (hr : r < 4) (x1 : Int32) (k : Mem → Option (Int32 × Mem)) : ∀ (d i n : Nat) (M : Mem) (L : List Nat), i + d = σ 0 → d < n → ExM σ k M L (cc (nx (fun c => σ (32 + (6 * r + c)))) i d) (f_X10_spell_69 F LM x1 (nI r) k n M (nI i))
  | d, i, 0, M, L, _, h => by omega
  | 0, i, n + 1, M, L, hi, _ => exm_in (fun hM => by
    have h0 := kC hs
    exact exm_nil (by rw [f_X10_spell_69, ck0, m0c, hM 0 (by decide), if_pos (nI_le (by omega) (by omega))]))
  | d + 1, i, n + 1, M, L, hi, hn => exm_in (fun hM => by
    have h0 := kC hs
    have b := (kCe hs (j := 6 * r + i) (by omega)).2
    have ce : f_X10_cell F (nI r) (nI i) = some (nI (6 * r + i)) := by
      unfold f_X10_cell
      rw [l_6, ml6, nI_add]
    have e32 : (32 : Int32) + nI (6 * r + i) = nI (32 + (6 * r + i)) := nI_add 32 _
    rw [cc_s, f_X10_spell_69, ck0, m0c, hM 0 (by decide), if_neg (nI_ge (by omega) (by omega)), ce, Option.bind_some, e32, ck_n (by omega) (by decide), nI_clamp (by omega), hM _ (by omega)]
    refine exm_bind (wm_next (LM := LM) (by omega) (show σ (32 + (6 * r + i)) < 2147483648 by omega)) (fun M1 h1 => ?_)
    rw [nI_1]
    exact g_sp69 hs hF hr x1 k d (i + 1) n M1 _ (by omega) (by omega))
theorem g_sp52 {LM : MemL} {σ : Sg} (hs : okS σ) {F : Nat} (hF : 10000 ≤ F) (x1 : Int32) (k : Mem → Option (Int32 × Mem)) : ∀ (d i n : Nat) (M : Mem) (L : List Nat), i + d = σ 1 → d < n → ExM σ k M L (cc (rowT σ) i d) (f_X10_spell_52 F LM x1 k n M (nI i))
  | d, i, 0, M, L, _, h => by omega
  | 0, i, n + 1, M, L, hi, _ => exm_in (fun hM => by
    have h0 := kR hs
    exact exm_nil (by rw [f_X10_spell_52, ck1, m1c, hM 1 (by decide), if_pos (nI_le (by omega) (by omega))]))
  | d + 1, i, n + 1, M, L, hi, hn => exm_in (fun hM => by
    have h0 := kR hs
    have h00 := kC hs
    have e : cc (rowT σ) i (d + 1) = wl 6 ++ (cc (nx (fun c => σ (32 + (6 * i + c)))) 0 (σ 0) ++ ([59] ++ cc (rowT σ) (i + 1) d)) := by
      rw [cc_s]; unfold rowT; simp only [List.append_assoc]
    rw [e, f_X10_spell_52, ck1, m1c, hM 1 (by decide), if_neg (nI_ge (by omega) (by omega))]
    refine exm_bind (wm_w1 (LM := LM) hF) (fun M1 h1 => ?_)
    refine exm_seq (g_sp69 hs hF (by omega) x1 _ (σ 0) 0 F M1 _ (by omega) (by omega)) (fun M2 h2 => ?_)
    refine exm_bind (wm_59 (LM := LM) F) (fun M3 h3 => ?_)
    rw [nI_1]
    exact g_sp52 hs hF x1 k d (i + 1) n M3 _ (by omega) (by omega))
theorem g_sp165 {LM : MemL} {σ : Sg} (hs : okS σ) {F q : Nat} (hF : 10000 ≤ F) (hq : q < σ 177) (x1 : Int32) (k : Mem → Option (Int32 × Mem)) : ∀ (d i n : Nat) (M : Mem) (L : List Nat), i + d = 4 → d < n → ExM σ k M L (cc (nx (fun j => σ (178 + 4 * q + j))) i d) (f_X10_spell_165 F LM x1 (nI q) k n M (nI i))
  | d, i, 0, M, L, _, h => by omega
  | 0, i, n + 1, M, L, hi, _ => by
    obtain rfl : i = 4 := by omega
    exact exm_nil (by rw [f_X10_spell_165, if_pos (by decide)])
  | d + 1, i, n + 1, M, L, hi, hn => exm_in (fun hM => by
    have h0 := kC hs
    have h1 := kR hs
    have h5 := kMv hs
    have h7 := kSe hs
    obtain ⟨b0, b1, b2, b3⟩ := kSi hs hq
    have bb : σ (178 + 4 * q + i) < 2147483648 := by
      obtain rfl | rfl | rfl | rfl : i = 0 ∨ i = 1 ∨ i = 2 ∨ i = 3 := by omega
      · show σ (178 + 4 * q) < _; omega
      · omega
      · omega
      · omega
    have ei : ((178 : Int32) + 4 * nI q) + nI i = nI (178 + 4 * q + i) := by rw [l_178, l_4, ml4, nI_add, nI_add]
    rw [cc_s, f_X10_spell_165, if_neg (show ¬ (4 : Int32) ≤ nI i from nI_ge (a := i) (b := 4) (by omega) (by decide)), ei, ck_n (by omega) (by decide), nI_clamp (by omega), hM _ (by omega)]
    refine exm_bind (wm_next (LM := LM) (by omega) bb) (fun M1 h1 => ?_)
    rw [nI_1]
    exact g_sp165 hs hF hq x1 k d (i + 1) n M1 _ (by omega) (by omega))
theorem g_sp145 {LM : MemL} {σ : Sg} (hs : okS σ) {F : Nat} (hF : 10000 ≤ F) (x1 : Int32) (k : Mem → Option (Int32 × Mem)) : ∀ (d i n : Nat) (M : Mem) (L : List Nat), i + d = σ 177 → d < n → ExM σ k M L (cc (sgT σ) i d) (f_X10_spell_145 F LM x1 k n M (nI i))
  | d, i, 0, M, L, _, h => by omega
  | 0, i, n + 1, M, L, hi, _ => exm_in (fun hM => by
    have h0 := kSe hs
    exact exm_nil (by rw [f_X10_spell_145, ck177, m177c, hM 177 (by decide), if_pos (nI_le (by omega) (by omega))]))
  | d + 1, i, n + 1, M, L, hi, hn => exm_in (fun hM => by
    have h0 := kSe hs
    have e : cc (sgT σ) i (d + 1) = wl 7 ++ (cc (nx (fun j => σ (178 + 4 * i + j))) 0 4 ++ ([59] ++ cc (sgT σ) (i + 1) d)) := by
      rw [cc_s]; unfold sgT; simp only [List.append_assoc]
    rw [e, f_X10_spell_145, ck177, m177c, hM 177 (by decide), if_neg (nI_ge (by omega) (by omega))]
    refine exm_bind (wm_w7 (LM := LM) hF) (fun M1 h1 => ?_)
    refine exm_seq (g_sp165 hs hF (by omega) x1 _ 4 0 F M1 _ (by omega) (by omega)) (fun M2 h2 => ?_)
    refine exm_bind (wm_59 (LM := LM) F) (fun M3 h3 => ?_)
    rw [nI_1]
    exact g_sp145 hs hF x1 k d (i + 1) n M3 _ (by omega) (by omega))
theorem wi_m : ∀ κ, κ ≤ 4 → wiL.getD κ 0 = 2 + κ := by decide
theorem wm_mv43 {LM : MemL} {σ : Sg} (hs : okS σ) {F i : Nat} (hF : 10000 ≤ F) (hi : i < σ 56) : WrM σ (fun M => f_X10_writesMove_43 F M LM (nI (57 + 5 * i)) (nI (σ (57 + 5 * i)))) ([32] ++ (dgt (σ (57 + 5 * i + 2)) ++ ((if σ (57 + 5 * i) = 2 ∨ σ (57 + 5 * i) = 3 then [] else [32] ++ dgt (σ (57 + 5 * i + 3))) ++ [59]))) := exm_wr (fun M L hM => by
  obtain ⟨b0, b1, b2, b3, b4⟩ := kMb hs hi
  have h5 := kMv hs
  have tl : ∀ M L, ExM σ (fun S => some S) M L [59] (f_X10_writesMove_77 F M LM) := fun M L => by
    unfold f_X10_writesMove_77
    rw [bind_id]
    exact wm_59 (LM := LM) F M L
  unfold f_X10_writesMove_43
  rw [← List.append_assoc, nI_2', ck_n (by omega) (by decide), nI_clamp (by omega), hM _ (by omega)]
  refine exm_bind (wm_next (LM := LM) (by omega) (by omega)) (fun M2 h2 => ?_)
  by_cases q2 : σ (57 + 5 * i) = 2
  · rw [if_pos (show nI (σ (57 + 5 * i)) = 2 by rw [q2]; rfl), if_pos (Or.inl q2)]
    exact tl _ _
  · rw [if_neg (show ¬ nI (σ (57 + 5 * i)) = 2 from fun q => q2 ((nI_eq (by omega) (by decide)).mp q))]
    by_cases q3 : σ (57 + 5 * i) = 3
    · rw [if_pos (show nI (σ (57 + 5 * i)) = 3 by rw [q3]; rfl), if_pos (Or.inr q3)]
      exact tl _ _
    · rw [if_neg (show ¬ nI (σ (57 + 5 * i)) = 3 from fun q => q3 ((nI_eq (by omega) (by decide)).mp q)), if_neg (show ¬ (σ (57 + 5 * i) = 2 ∨ σ (57 + 5 * i) = 3) by omega), nI_3', ck_n (by omega) (by decide), nI_clamp (by omega), h2 _ (by omega)]
      exact exm_bind (wm_next (LM := LM) (by omega) (by omega)) (fun M4 _ => tl _ _))
theorem wm_mv {LM : MemL} {σ : Sg} (hs : okS σ) {F i : Nat} (hF : 10000 ≤ F) (hi : i < σ 56) : WrM σ (fun M => f_X10_writesMove F M LM (nI (57 + 5 * i))) (mvT σ i) := exm_wr (fun M L hM => by
  obtain ⟨b0, b1, b2, b3, b4⟩ := kMb hs hi
  have h5 := kMv hs
  have e : mvT σ i = wl (σ (57 + 5 * i)) ++ (([32] ++ dgt (σ (57 + 5 * i + 1))) ++ ((if σ (57 + 5 * i) = 4 then [32] ++ dgt (σ (57 + 5 * i + 4)) else []) ++ ([32] ++ (dgt (σ (57 + 5 * i + 2)) ++ ((if σ (57 + 5 * i) = 2 ∨ σ (57 + 5 * i) = 3 then [] else [32] ++ dgt (σ (57 + 5 * i + 3))) ++ [59]))))) := by
    unfold mvT; simp only [List.append_assoc]
  have ew : (2 : Int32) + nI (σ (57 + 5 * i)) = nI (wiL.getD (σ (57 + 5 * i)) 0) := by
    rw [wi_m _ b0]; exact nI_add 2 _
  unfold f_X10_writesMove
  rw [e, ck_n (by omega) (by decide), nI_clamp (by omega), hM _ (by omega), ew]
  refine exm_bind (wm_word (LM := LM) hF (by omega)) (fun M1 h1 => ?_)
  rw [nI_1, ck_n (by omega) (by decide), nI_clamp (by omega), h1 _ (by omega)]
  refine exm_bind (wm_next (LM := LM) (by omega) (by omega)) (fun M2 h2 => ?_)
  by_cases q4 : σ (57 + 5 * i) = 4
  · rw [if_pos (show nI (σ (57 + 5 * i)) = 4 by rw [q4]; rfl), if_pos q4, nI_4', ck_n (by omega) (by decide), nI_clamp (by omega), h2 _ (by omega)]
    refine exm_bind (wm_next (LM := LM) (by omega) (by omega)) (fun M3 h3 => ?_)
    exact wm_mv43 hs hF hi M3 _
  · rw [if_neg (show ¬ nI (σ (57 + 5 * i)) = 4 from fun q => q4 ((nI_eq (by omega) (by decide)).mp q)), if_neg q4, List.nil_append]
    exact wm_mv43 hs hF hi M2 _)
theorem g_sp116 {LM : MemL} {σ : Sg} (hs : okS σ) {F : Nat} (hF : 10000 ≤ F) (x1 : Int32) (k : Mem → Option (Int32 × Mem)) : ∀ (d i n : Nat) (M : Mem) (L : List Nat), i + d = σ 56 → d < n → ExM σ k M L (cc (mvT σ) i d) (f_X10_spell_116 F LM x1 k n M (nI i))
  | d, i, 0, M, L, _, h => by omega
  | 0, i, n + 1, M, L, hi, _ => exm_in (fun hM => by
    have h0 := kMv hs
    exact exm_nil (by rw [f_X10_spell_116, ck56, m56c, hM 56 (by decide), if_pos (nI_le (by omega) (by omega))]))
  | d + 1, i, n + 1, M, L, hi, hn => exm_in (fun hM => by
    have h0 := kMv hs
    have m6 : (57 : Int32) + 5 * nI i = nI (57 + 5 * i) := by rw [l_57, l_5, ml5, nI_add]
    rw [cc_s, f_X10_spell_116, ck56, m56c, hM 56 (by decide), if_neg (nI_ge (by omega) (by omega)), m6]
    refine exm_bind (wm_mv hs hF (by omega)) (fun M1 _ => ?_)
    rw [nI_1]
    exact g_sp116 hs hF x1 k d (i + 1) n M1 _ (by omega) (by omega))
theorem Pw_0 (M : Mem) : Pw M (mr M 0 (fu (M 0) 27 0)) := ⟨fun x h0 _ => mr_n _ _ h0, fun j hj => by rw [mr_s, fu_n _ _ hj]⟩
theorem TM_0 (M : Mem) : TM (mr M 0 (fu (M 0) 27 0)) [] := ⟨by rw [mr_s, fu_s]; rfl, Nat.zero_le _, fun i hi => absurd hi (Nat.not_lt_zero _)⟩
theorem g_spell {M : Mem} {LM : MemL} {σ : Sg} (hs : okS σ) (hM : StM M σ) (hW : Wd M) {F : Nat} (hF : 10000 ≤ F) {x1 : Int32} (hx : -1 ≤ x1) : ∃ M', f_X10_spell F M LM x1 = (f_X10_toldText F M' LM x1).bind (fun z => some (z, M')) ∧ TM M' (txC σ) ∧ Pm M M' := by
  have h0 := kC hs
  have h1 := kR hs
  have h5 := kMv hs
  have h7 := kSe hs
  have tl := tx_len hs
  have p0 := Pw_0 M
  unfold f_X10_spell
  rw [if_pos hx]
  have key : ExM σ (fun M_206 => (f_X10_toldText F M_206 LM x1).bind (fun z208 => (some (z208, M_206)))) (mr M 0 (fu (M 0) 27 0)) [] (txC σ) (f_X10_spell_14 F LM x1 (fun M_50 => f_X10_spell_52 F LM x1 (fun M_114 => f_X10_spell_116 F LM x1 (fun M_143 => f_X10_spell_145 F LM x1 (fun M_206 => (f_X10_toldText F M_206 LM x1).bind (fun z208 => (some (z208, M_206)))) F M_143 0) F M_114 0) F M_50 0) F (mr M 0 (fu (M 0) 27 0)) 0) :=
    exm_seq (g_sp14 hs hF x1 _ (σ 0) 0 F _ _ (by omega) (by omega)) (fun _ _ => exm_seq (g_sp52 hs hF x1 _ (σ 1) 0 F _ _ (by omega) (by omega)) (fun _ _ => exm_seq (g_sp116 hs hF x1 _ (σ 56) 0 F _ _ (by omega) (by omega)) (fun _ _ => g_sp145 hs hF x1 _ (σ 177) 0 F _ _ (by omega) (by omega))))
  obtain ⟨M', e1, e2, e3⟩ := key (TM_0 M) (by show 0 + (txC σ).length ≤ 2000; omega) (StM_p hM (Pw_m p0)) (Wd_q (Pm_q (Pw_m p0)) hW)
  exact ⟨M', e1, e2, Pw_m (Pw_tr p0 e3)⟩
theorem m_tell {S M : Mem} {LM : MemL} {L : List Nat} (hS : TS S L) (hM : TM M L) {F : Nat} {x : Int32} (hx : -1 ≤ x) : ∃ v, f_X7_tell F S x = some v ∧ f_X10_toldText F M LM x = some v := by
  obtain ⟨s1, s2, s3⟩ := hS
  obtain ⟨t1, t2, t3⟩ := hM
  unfold f_X7_tell f_X10_toldText
  rw [s1, t1]
  by_cases h : 0 ≤ x
  · have e : ¬ x = -1 := fun q => by rw [q] at h; exact absurd h (by decide)
    rw [if_pos h, if_neg e]
    rcases ix_cases x (n := L.length) (by omega) with ⟨r, hr, rfl⟩ | hn
    · rw [if_neg (nI_ge hr (by omega)), if_neg (nI_ge hr (by omega)), ck_n (by omega) (by decide), ck_n (by omega) (by decide), nI_clamp (by omega), s3 r hr, t3 r hr]
      exact ⟨_, rfl, rfl⟩
    · have q : nI L.length ≤ x := Int32.not_lt.mp (fun g => hn ⟨h, g⟩)
      rw [if_pos q, if_pos q]
      exact ⟨_, rfl, rfl⟩
  · have e : x = -1 := by
      rw [Int32.le_iff_toInt_le] at h hx
      have a : (0 : Int32).toInt = 0 := by decide
      have b : (-1 : Int32).toInt = -1 := by decide
      rw [a] at h
      rw [b] at hx
      apply Int32.toInt_inj.mp
      rw [b]
      omega
    rw [if_neg h, if_pos e]
    exact ⟨_, rfl, rfl⟩
def CaS (S : Mem) (σ : Sg) : Prop := S 0 2 = -2 ∨ (S 0 2 = -1 ∧ TS S (txC σ)) ∨ ∃ r, r < σ 1 ∧ S 0 2 = nI r ∧ TS S (txR σ r)
theorem nI_nm {r : Nat} (hr : r < 4) : ¬ nI r = -1 := by
  obtain rfl | rfl | rfl | rfl : r = 0 ∨ r = 1 ∨ r = 2 ∨ r = 3 := by omega
  all_goals decide
theorem nI_nm2 {r : Nat} (hr : r < 4) : ¬ (-2 : Int32) = nI r := by
  obtain rfl | rfl | rfl | rfl : r = 0 ∨ r = 1 ∨ r = 2 ∨ r = 3 := by omega
  all_goals decide
theorem m_spell {C M S X0 : Mem} {LM : MemL} {σ : Sg} (hC : StC C σ) (hM : StM M σ) (hs : okS σ) (hW : Wd M) (hS : CaS S σ) {F : Nat} (hF : 10000 ≤ F) (x1 : Int32) : ∃ v S' M', f_X9_spell F X0 C S x1 = some (v, S') ∧ f_X10_spell F M LM x1 = some (v, M') ∧ Pm M M' ∧ CaS S' σ := by
  have h1 := kR hs
  by_cases hx : -1 ≤ x1
  · obtain ⟨M', a1, a2, a3⟩ := g_spell (LM := LM) hs hM hW hF hx
    have key : ∃ S', f_X7_writeCloth F S C = some S' ∧ TS S' (txC σ) ∧ S' 0 2 = -1 := by
      rcases hS with q | ⟨q, t⟩ | ⟨r, hr, q, t⟩
      · exact h_writeCloth hC hs (by omega) (fun g => by rw [q] at g; exact absurd g (by decide))
      · exact ⟨S, by unfold f_X7_writeCloth; rw [if_pos q], t, q⟩
      · exact h_writeCloth hC hs (by omega) (fun g => by rw [q] at g; exact nI_nm (by omega) g)
    obtain ⟨S', b1, b2, b3⟩ := key
    obtain ⟨v, c1, c2⟩ := m_tell (LM := LM) (F := F) b2 a2 hx
    refine ⟨v, S', M', ?_, ?_, a3, Or.inr (Or.inl ⟨b3, b2⟩)⟩
    · unfold f_X9_spell
      rw [if_pos hx, b1, Option.bind_some, c1]
      rfl
    · rw [a1, c2]
      rfl
  · refine ⟨-1, S, M, ?_, ?_, Pm_rfl M, hS⟩
    · unfold f_X9_spell
      rw [if_neg hx]
    · unfold f_X10_spell
      rw [if_neg hx]
theorem g_rp29 {LM : MemL} {σ : Sg} (hs : okS σ) {F r : Nat} (hF : 10000 ≤ F) (hr : r < 4) (x2 : Int32) (k : Mem → Option (Int32 × Mem)) : ∀ (i n : Nat) (M : Mem) (L : List Nat), i ≤ σ 0 → i < n → ExM σ k M L (rpT σ r i) (f_X10_report_29 F LM (nI r) x2 k n M (dn i))
  | i, 0, M, L, _, h => by omega
  | 0, n + 1, M, L, _, _ => exm_nil (by rw [f_X10_report_29, if_pos (by decide)])
  | i + 1, n + 1, M, L, hi, hn => exm_in (fun hM => by
    have h0 := kC hs
    have b := (kCe hs (j := 6 * r + i) (by omega)).1
    have w := wo_lt hs (c := i) (by omega)
    have dnn : nI i + (-1 : Int32) = dn i := (Int32.sub_eq_add_neg _ _).symm
    have ih := fun M L => g_rp29 (LM := LM) hs hF hr x2 k i n M L (by omega) (by omega)
    have gn : f_X10_now F M LM (nI r) (nI i) = some (nI (σ (8 + (6 * r + i)))) := by rw [g_now hM F hr (by omega), Nat.add_assoc]
    rw [f_X10_report_29, dn_s, if_neg (show ¬ nI i < (0 : Int32) from nI_nlt (b := 0) (by omega) (by omega)), dnn, gn, Option.bind_some, Option.bind_some]
    unfold rpT
    by_cases q : σ (8 + (6 * r + i)) = 0
    · rw [if_pos q, q, if_pos n00, List.nil_append]
      exact ih M L
    · rw [if_neg q, if_neg (nI_ne0 (by omega) (by omega))]
      have e : (dgt (σ (8 + (6 * r + i))) ++ ([32] ++ (wl 8 ++ ([32] ++ (dgt (wo σ i) ++ [59]))))) ++ rpT σ r i = dgt (σ (8 + (6 * r + i))) ++ ([32] ++ (wl 8 ++ (([32] ++ dgt (wo σ i)) ++ ([59] ++ rpT σ r i)))) := by simp only [List.append_assoc]
      rw [e]
      refine exm_bind (wm_num (LM := LM) (by omega) (by omega)) (fun M1 _ => ?_)
      refine exm_bind (wm_32 (LM := LM) F) (fun M2 _ => ?_)
      refine exm_bind (wm_w8 (LM := LM) hF) (fun M3 h3 => ?_)
      rw [g_worthOf h3 (by omega) (by omega), Option.bind_some]
      refine exm_bind (wm_next (LM := LM) (by omega) (by omega)) (fun M4 _ => ?_)
      refine exm_bind (wm_59 (LM := LM) F) (fun M5 _ => ?_)
      exact ih M5 _)
theorem g_report {M : Mem} {LM : MemL} {σ : Sg} (hs : okS σ) (hM : StM M σ) (hW : Wd M) {F r : Nat} (hF : 10000 ≤ F) (hr : r < σ 1) {x2 : Int32} (hx : -1 ≤ x2) : ∃ M', f_X10_report F M LM (nI r) x2 = (f_X10_toldText F M' LM x2).bind (fun z => some (z, M')) ∧ TM M' (txR σ r) ∧ Pm M M' := by
  have h0 := kC hs
  have h1 := kR hs
  have tl := tr_len hs (r := r) (by omega)
  have sl := sm_lt hs (r := r) (by omega)
  have p0 := Pw_0 M
  unfold f_X10_report
  rw [isRow_n hM h1 F hr, Option.bind_some, if_neg n10, if_pos hx, ck0, m0c, hM 0 (by decide)]
  have key : ExM σ (fun z106 => (f_X10_toldText F z106 LM x2).bind (fun z111 => (some (z111, z106)))) (mr M 0 (fu (M 0) 27 0)) [] (txR σ r) (f_X10_report_29 F LM (nI r) x2 (fun M_88 => (f_X10_writesWord F M_88 LM 9).bind (fun z91 => (f_X10_sumOf F z91 LM (nI r)).bind (fun z97 => (f_X10_writesNext F z91 LM z97).bind (fun z100 => (f_X10_writesSign F z100 LM 59).bind (fun z106 => (f_X10_toldText F z106 LM x2).bind (fun z111 => (some (z111, z106)))))))) F (mr M 0 (fu (M 0) 27 0)) (dn (σ 0))) := by
    refine exm_seq (g_rp29 hs hF (by omega) x2 _ (σ 0) F _ _ (Nat.le_refl _) (by omega)) (fun M1 _ => ?_)
    have e : wl 9 ++ ([32] ++ (dgt (smN σ r (σ 0)) ++ [59])) = wl 9 ++ (([32] ++ dgt (smN σ r (σ 0))) ++ ([59] ++ [])) := by simp only [List.append_assoc, List.append_nil]
    rw [e]
    refine exm_bind (wm_w9 (LM := LM) hF) (fun M2 h2 => ?_)
    rw [g_sumOf h2 h0 (by omega) (by omega), Option.bind_some]
    refine exm_bind (wm_next (LM := LM) (by omega) sl) (fun M3 _ => ?_)
    refine exm_bind (wm_59 (LM := LM) F) (fun M4 _ => ?_)
    exact exm_nil rfl
  obtain ⟨M', e1, e2, e3⟩ := key (TM_0 M) (by show 0 + (txR σ r).length ≤ 2000; omega) (StM_p hM (Pw_m p0)) (Wd_q (Pm_q (Pw_m p0)) hW)
  exact ⟨M', e1, e2, Pw_m (Pw_tr p0 e3)⟩
theorem m_report {C M S X0 : Mem} {LM : MemL} {σ : Sg} (hC : StC C σ) (hM : StM M σ) (hs : okS σ) (hW : Wd M) (hS : CaS S σ) {F : Nat} (hF : 10000 ≤ F) (x1 x2 : Int32) : ∃ v S' M', f_X9_report F X0 C S x1 x2 = some (v, S') ∧ f_X10_report F M LM x1 x2 = some (v, M') ∧ Pm M M' ∧ CaS S' σ := by
  have h1 := kR hs
  rcases ix_cases x1 (n := σ 1) (by omega) with ⟨r, hr, rfl⟩ | hn
  · by_cases hx : -1 ≤ x2
    · obtain ⟨M', a1, a2, a3⟩ := g_report (LM := LM) hs hM hW hF hr hx
      have key : ∃ S', f_X7_writeRow F S C (nI r) = some S' ∧ TS S' (txR σ r) ∧ S' 0 2 = nI r := by
        by_cases g : S 0 2 = nI r
        · refine ⟨S, by unfold f_X7_writeRow; rw [if_pos g], ?_, g⟩
          rcases hS with q | ⟨q, t⟩ | ⟨r', hr', q, t⟩
          · exact absurd (q.symm.trans g) (nI_nm2 (by omega))
          · exact absurd (g.symm.trans q) (nI_nm (by omega))
          · obtain rfl : r = r' := (nI_eq (by omega) (by omega)).mp (g.symm.trans q)
            exact t
        · exact h_writeRow hC hs (by omega) hr g
      obtain ⟨S', b1, b2, b3⟩ := key
      obtain ⟨v, c1, c2⟩ := m_tell (LM := LM) (F := F) b2 a2 hx
      refine ⟨v, S', M', ?_, ?_, a3, Or.inr (Or.inr ⟨r, hr, b3, b2⟩)⟩
      · unfold f_X9_report
        rw [hasRow_n hC h1 F hr, Option.bind_some, if_neg n10, if_pos hx, b1, Option.bind_some, c1]
        rfl
      · rw [a1, c2]
        rfl
    · refine ⟨-1, S, M, ?_, ?_, Pm_rfl M, hS⟩
      · unfold f_X9_report
        rw [hasRow_n hC h1 F hr, Option.bind_some, if_neg n10, if_neg hx]
      · unfold f_X10_report
        rw [isRow_n hM h1 F hr, Option.bind_some, if_neg n10, if_neg hx]
  · refine ⟨-1, S, M, ?_, ?_, Pm_rfl M, hS⟩
    · unfold f_X9_report
      rw [h_hasRow hC, if_neg hn, Option.bind_some, if_pos rfl]
    · unfold f_X10_report
      rw [g_isRow hM h1, if_neg hn, Option.bind_some, if_pos rfl]
theorem CaS_f {S : Mem} (σ : Sg) (h : S 0 2 = zI (-2)) : CaS S σ := Or.inl (h.trans (by decide))
