/-! PURE LAYER: writing signs, words, numbers -/
theorem tk_s : ∀ (l : List Nat) (j : Nat), j < l.length → l.take (j + 1) = l.take j ++ [l.getD j 0]
  | [], j, h => absurd h (Nat.not_lt_zero _)
  | a :: l, 0, _ => rfl
  | a :: l, j + 1, h => by
    show a :: l.take (j + 1) = a :: (l.take j ++ [l.getD j 0])
    rw [tk_s l j (Nat.lt_of_succ_lt_succ h)]
theorem gd_l : ∀ (l : List Nat) (c i : Nat), i < l.length → (l ++ [c]).getD i 0 = l.getD i 0
  | [], c, i, h => absurd h (Nat.not_lt_zero _)
  | a :: l, c, 0, _ => rfl
  | a :: l, c, i + 1, h => gd_l l c i (Nat.lt_of_succ_lt_succ h)
theorem gd_r : ∀ (l : List Nat) (c : Nat), (l ++ [c]).getD l.length 0 = c
  | [], c => rfl
  | a :: l, c => gd_r l c
def TS (S : Mem) (L : List Nat) : Prop := S 0 1 = nI L.length ∧ L.length ≤ 700 ∧ ∀ i, i < L.length → S 1 i = nI (L.getD i 0)
def TM (M : Mem) (L : List Nat) : Prop := M 0 27 = nI L.length ∧ L.length ≤ 2000 ∧ ∀ i, i < L.length → M 20 i = nI (L.getD i 0)
def WrC (f : Mem → Option Mem) (W : List Nat) : Prop := ∀ S L, TS S L → L.length + W.length ≤ 700 → ∃ S', f S = some S' ∧ TS S' (L ++ W) ∧ S' 0 2 = S 0 2
def Pw (M M' : Mem) : Prop := (∀ x, x ≠ 0 → x ≠ 20 → M' x = M x) ∧ ∀ j, j ≠ 27 → M' 0 j = M 0 j
theorem Pw_rfl (M : Mem) : Pw M M := ⟨fun _ _ _ => rfl, fun _ _ => rfl⟩
theorem Pw_tr {M M1 M2 : Mem} (h : Pw M M1) (g : Pw M1 M2) : Pw M M2 := ⟨fun c h0 h4 => (g.1 c h0 h4).trans (h.1 c h0 h4), fun j hj => (g.2 j hj).trans (h.2 j hj)⟩
theorem Pw_m {M M' : Mem} (h : Pw M M') : Pm M M' := ⟨h.1 _ (by decide) (by decide), h.1 _ (by decide) (by decide), h.1 _ (by decide) (by decide), h.1 _ (by decide) (by decide), h.2 _ (by decide), h.2 _ (by decide)⟩
def WrM (σ : Sg) (f : Mem → Option Mem) (W : List Nat) : Prop := ∀ M L, TM M L → L.length + W.length ≤ 2000 → StM M σ → Wd M → ∃ M', f M = some M' ∧ TM M' (L ++ W) ∧ Pw M M'
theorem wr_bind {f g : Mem → Option Mem} {W1 W2 : List Nat} (hf : WrC f W1) (hg : WrC g W2) : WrC (fun S => (f S).bind g) (W1 ++ W2) := fun S L hS hl => by
  rw [List.length_append] at hl
  obtain ⟨S1, a1, a2, a3⟩ := hf S L hS (by omega)
  obtain ⟨S2, b1, b2, b3⟩ := hg S1 (L ++ W1) a2 (by rw [List.length_append]; omega)
  refine ⟨S2, ?_, by rw [← List.append_assoc]; exact b2, b3.trans a3⟩
  show (f S).bind g = _
  rw [a1]
  exact b1
theorem wm_bind {σ : Sg} {f g : Mem → Option Mem} {W1 W2 : List Nat} (hf : WrM σ f W1) (hg : WrM σ g W2) : WrM σ (fun S => (f S).bind g) (W1 ++ W2) := fun S L hS hl hM hW => by
  rw [List.length_append] at hl
  obtain ⟨S1, a1, a2, a3⟩ := hf S L hS (by omega) hM hW
  obtain ⟨S2, b1, b2, b3⟩ := hg S1 (L ++ W1) a2 (by rw [List.length_append]; omega) (StM_p hM (Pw_m a3)) (Wd_q (Pm_q (Pw_m a3)) hW)
  refine ⟨S2, ?_, by rw [← List.append_assoc]; exact b2, Pw_tr a3 b3⟩
  show (f S).bind g = _
  rw [a1]
  exact b1
theorem wr_some : WrC (fun S => some S) [] := fun S L hS _ => ⟨S, rfl, by rw [List.append_nil]; exact hS, rfl⟩
theorem wm_some {σ : Sg} : WrM σ (fun S => some S) [] := fun S L hS _ _ _ => ⟨S, rfl, by rw [List.append_nil]; exact hS, Pw_rfl S⟩
theorem wr_cg {f g : Mem → Option Mem} {W W' : List Nat} (h : WrC f W) (e : ∀ S, f S = g S) (e2 : W = W') : WrC g W' := by
  have : f = g := funext e
  rw [← this, ← e2]; exact h
theorem wm_cg {σ : Sg} {f g : Mem → Option Mem} {W W' : List Nat} (h : WrM σ f W) (e : ∀ S, f S = g S) (e2 : W = W') : WrM σ g W' := by
  have : f = g := funext e
  rw [← this, ← e2]; exact h
/-- a bind whose tail gives back what it gets -/
theorem bind_id {α : Type} (o : Option α) : o.bind (fun z => some z) = o := by cases o <;> rfl
theorem wr_byte (F : Nat) {x : Int32} {c : Nat} (hx : vp_nar .byte (x).toInt8.toInt32 = nI c) : WrC (fun S => f_X7_addByte F S x) [c] := fun S L hS hl => by
  obtain ⟨s1, s2, s3⟩ := hS
  have hl' : L.length + 1 ≤ 700 := hl
  refine ⟨mr (mr S 1 (upd (S 1) L.length (nI c))) 0 (fu (S 0) 1 (nI (L.length + 1))), ?_, ⟨?_, ?_, fun i hi => ?_⟩, ?_⟩
  · show f_X7_addByte F S x = _
    unfold f_X7_addByte
    rw [s1, if_neg (show ¬ (700 : Int32) ≤ nI L.length from nI_ge (a := L.length) (b := 700) (by omega) (by decide)), ck_n (by omega) (by decide), nI_clamp (by omega), hx, nI_1]
  · rw [mr_s, fu_s, List.length_append]; rfl
  · rw [List.length_append]; exact hl
  · rw [List.length_append] at hi
    have hi' : i < L.length + 1 := hi
    rw [mr_n _ _ (by decide), mr_s]
    by_cases e : i = L.length
    · rw [e, pk_us, gd_r]
    · rw [pk_un e, gd_l L c i (by omega)]
      exact s3 i (by omega)
  · rw [mr_s, fu_n _ _ (by decide)]
theorem nar_n : ∀ c, c < 128 → vp_nar .byte (nI c).toInt8.toInt32 = nI c := by decide +kernel
theorem wr_b (F : Nat) {c : Nat} (hc : c < 128) : WrC (fun S => f_X7_addByte F S (nI c)) [c] := wr_byte F (nar_n c hc)
theorem wm_b {σ : Sg} {LM : MemL} (F c : Nat) : WrM σ (fun M => f_X10_writesSign F M LM (nI c)) [c] := fun S L hS hl _ _ => by
  obtain ⟨s1, s2, s3⟩ := hS
  have hl' : L.length + 1 ≤ 2000 := hl
  refine ⟨mr (mr S 20 (upd (S 20) L.length (nI c))) 0 (fu (S 0) 27 (nI (L.length + 1))), ?_, ⟨?_, ?_, fun i hi => ?_⟩, fun x h0 h20 => by rw [mr_n _ _ h0, mr_n _ _ h20], fun j hj => by rw [mr_s, fu_n _ _ hj]⟩
  · show f_X10_writesSign F S LM (nI c) = _
    unfold f_X10_writesSign
    rw [s1, ck_n (by omega) (by decide), nI_clamp (by omega), nI_1]
  · rw [mr_s, fu_s, List.length_append]; rfl
  · rw [List.length_append]; exact hl
  · rw [List.length_append] at hi
    have hi' : i < L.length + 1 := hi
    rw [mr_n _ _ (by decide), mr_s]
    by_cases e : i = L.length
    · rw [e, pk_us, gd_r]
    · rw [pk_un e, gd_l L c i (by omega)]
      exact s3 i (by omega)
/-! words -/
def wlL : List (List Nat) := [[112, 117, 116], [116, 97, 107, 101], [99, 97, 114, 114, 121], [98, 114, 101, 97, 107], [115, 104, 105, 102, 116], [99, 111, 108, 117, 109, 110], [114, 111, 119], [115, 101, 101, 110], [111, 102], [115, 117, 109]]
def wl (w : Nat) : List Nat := wlL.getD w []
def wiL : List Nat := [2, 3, 4, 5, 6, 0, 1, 7, 8, 9]
def wsL : List Nat := [11, 15, 20, 26, 32, 0, 7, 38, 43, 46]
theorem wl_1 : ∀ w, w < 10 → s_len w = nI (wl w).length ∧ im_len.getD w 0 = (wl w).length ∧ (wl w).length ≤ 6 := by decide +kernel
theorem wl_2 : ∀ w, w < 10 → ∀ j, j < 6 → j < (wl w).length → vp_nar .byte (s_ch w (nI j)).toInt8.toInt32 = nI ((wl w).getD j 0) := by decide +kernel
theorem wl_3 : ∀ w, w < 10 → wdL.getD (wsL.getD w 0 + (wl w).length) 0 = 0 ∧ wsL.getD w 0 + (wl w).length < 50 := by decide +kernel
theorem wl_4 : ∀ w, w < 10 → ∀ j, j < 6 → j < (wl w).length → wdL.getD (wsL.getD w 0 + j) 0 = (wl w).getD j 0 ∧ (wl w).getD j 0 ≠ 0 ∧ (wl w).getD j 0 < 128 := by decide +kernel
theorem h_aw2 {F w : Nat} (hw : w < 10) (k : Mem → Option Mem) : ∀ (d j n : Nat) (S : Mem) (L : List Nat), j + d = (wl w).length → d < n → TS S (L ++ (wl w).take j) → L.length + (wl w).length ≤ 700 → ∃ S', f_X7_addWord_2 F w k n S (nI j) = k S' ∧ TS S' (L ++ wl w) ∧ S' 0 2 = S 0 2
  | d, j, 0, S, L, _, h, _, _ => by omega
  | 0, j, n + 1, S, L, hj, _, hS, hl => by
    obtain rfl : j = (wl w).length := by omega
    obtain ⟨a1, a2, a3⟩ := wl_1 w hw
    rw [List.take_length] at hS
    refine ⟨S, ?_, hS, rfl⟩
    rw [f_X7_addWord_2]
    unfold sk
    rw [if_pos hw, a1, if_pos (nI_le (Nat.le_refl _) (by omega))]
  | d + 1, j, n + 1, S, L, hj, hn, hS, hl => by
    obtain ⟨a1, a2, a3⟩ := wl_1 w hw
    obtain ⟨S1, b1, b2, b3⟩ := wr_byte F (wl_2 w hw j (by omega) (by omega)) S (L ++ (wl w).take j) hS (by
      rw [List.length_append, List.length_take]
      show L.length + min j (wl w).length + 1 ≤ 700
      omega)
    rw [List.append_assoc, ← tk_s (wl w) j (by omega)] at b2
    obtain ⟨S', e1, e2, e3⟩ := h_aw2 (F := F) hw k d (j + 1) n S1 L (by omega) (by omega) b2 hl
    refine ⟨S', ?_, e2, e3.trans b3⟩
    rw [f_X7_addWord_2]
    unfold sk
    have b1' : f_X7_addByte F S (s_ch w (nI j)) = some S1 := b1
    rw [if_pos hw, a1, if_neg (nI_ge (by omega) (by omega)), if_pos hw, a2, ck_n (by omega) (by omega), b1', Option.bind_some, nI_1]
    exact e1
theorem wr_word {F w : Nat} (hF : 10 ≤ F) (hw : w < 10) : WrC (fun S => f_X7_addWord F S w) (wl w ++ [32]) := fun S L hS hl => by
  obtain ⟨a1, a2, a3⟩ := wl_1 w hw
  rw [List.length_append] at hl
  have hl' : L.length + ((wl w).length + 1) ≤ 700 := hl
  obtain ⟨S1, b1, b2, b3⟩ := h_aw2 (F := F) hw (fun S_25 => (f_X7_addByte F S_25 32).bind (fun z28 => (some z28))) (wl w).length 0 F S L (by omega) (by omega) (by rw [List.take_zero, List.append_nil]; exact hS) (by omega)
  obtain ⟨S2, c1, c2, c3⟩ := wr_b F (c := 32) (by decide) S1 (L ++ wl w) b2 (by rw [List.length_append]; show L.length + (wl w).length + 1 ≤ 700; omega)
  have c1' : f_X7_addByte F S1 32 = some S2 := c1
  refine ⟨S2, ?_, by rw [← List.append_assoc]; exact c2, c3.trans b3⟩
  show f_X7_addWord F S w = _
  unfold f_X7_addWord
  rw [show f_X7_addWord_2 F w (fun S_25 => (f_X7_addByte F S_25 32).bind (fun z28 => (some z28))) F S 0 = _ from b1, bind_id, c1']
def wfO : Nat → Nat → Nat → Option Nat
  | _, p, 0 => some p
  | 0, _, _ + 1 => none
  | m + 1, p, o + 1 => if p < 50 then (if wdL.getD p 0 = 0 then wfO m (p + 1) o else wfO m (p + 1) (o + 1)) else none
theorem wd_b : ∀ j, j < 50 → wdL.getD j 0 < 128 := by decide +kernel
theorem wfO_ok : ∀ w, w < 10 → wfO 60 0 (wiL.getD w 0) = some (wsL.getD w 0) ∧ wiL.getD w 0 < 10 := by decide +kernel
theorem g_wf4 {M : Mem} {LM : MemL} (hW : Wd M) {F : Nat} (k : Int32 → Option Int32) : ∀ (m p o n q : Nat), wfO m p o = some q → m < n → o < 20 → p < 1000 → f_X10_wordFrom_4 F M LM k n (nI p) (nI o) = k (nI q)
  | m, p, o, 0, q, _, h, _, _ => by omega
  | m, p, 0, n + 1, q, h, _, _, _ => by
    have e : wfO m p 0 = some p := by cases m <;> rfl
    rw [e] at h
    cases h
    rw [f_X10_wordFrom_4, if_pos (by decide)]
  | 0, p, o + 1, n + 1, q, h, _, _, _ => by
    have e : wfO 0 p (o + 1) = none := rfl
    rw [e] at h
    cases h
  | m + 1, p, o + 1, n + 1, q, h, hn, ho, hp => by
    have e : wfO (m + 1) p (o + 1) = if p < 50 then (if wdL.getD p 0 = 0 then wfO m (p + 1) o else wfO m (p + 1) (o + 1)) else none := rfl
    rw [e] at h
    by_cases g : p < 50
    · rw [if_pos g] at h
      have bw := wd_b p g
      rw [f_X10_wordFrom_4, if_neg (show ¬ nI (o + 1) ≤ (0 : Int32) from nI_ge (a := 0) (b := o + 1) (by omega) (by omega)), ck_n g (by decide), nI_clamp (by omega), hW p g]
      by_cases z : wdL.getD p 0 = 0
      · rw [if_pos z] at h
        have dz : nI (o + 1) + (-1 : Int32) = nI o := by
          have e1 : nI (o + 1) + (-1 : Int32) = nI (o + 1) - 1 := (Int32.sub_eq_add_neg _ _).symm
          rw [e1]; exact nI_pred o
        rw [if_pos (by rw [z]; rfl), nI_1, dz]
        exact g_wf4 hW k m (p + 1) o n q h (by omega) (by omega) (by omega)
      · rw [if_neg z] at h
        rw [if_neg (nI_ne0 (by omega) (by omega)), nI_1]
        exact g_wf4 hW k m (p + 1) (o + 1) n q h (by omega) ho (by omega)
    · rw [if_neg g] at h
      cases h
theorem g_ww6 {LM : MemL} {F w : Nat} {σ : Sg} (hw : w < 10) (k : Mem → Option Mem) : ∀ (d j n : Nat) (M : Mem) (L : List Nat), j + d = (wl w).length → d < n → TM M (L ++ (wl w).take j) → L.length + (wl w).length ≤ 2000 → StM M σ → Wd M → ∃ M', f_X10_writesWord_6 F LM k n M (nI (wsL.getD w 0 + j)) = k M' ∧ TM M' (L ++ wl w) ∧ Pw M M'
  | d, j, 0, M, L, _, h, _, _, _, _ => by omega
  | 0, j, n + 1, M, L, hj, _, hS, hl, hM, hW => by
    obtain rfl : j = (wl w).length := by omega
    obtain ⟨a1, a2⟩ := wl_3 w hw
    rw [List.take_length] at hS
    refine ⟨M, ?_, hS, Pw_rfl M⟩
    rw [f_X10_writesWord_6, ck_n a2 (by decide), nI_clamp (by omega), hW _ a2, a1, if_pos n00]
  | d + 1, j, n + 1, M, L, hj, hn, hS, hl, hM, hW => by
    obtain ⟨-, a2⟩ := wl_3 w hw
    obtain ⟨-, -, a3⟩ := wl_1 w hw
    obtain ⟨c1, c2, c3⟩ := wl_4 w hw j (by omega) (by omega)
    obtain ⟨M1, b1, b2, b3⟩ := wm_b (σ := σ) (LM := LM) F ((wl w).getD j 0) M (L ++ (wl w).take j) hS (by
      rw [List.length_append, List.length_take]
      show L.length + min j (wl w).length + 1 ≤ 2000
      omega) hM hW
    rw [List.append_assoc, ← tk_s (wl w) j (by omega)] at b2
    obtain ⟨M', e1, e2, e3⟩ := g_ww6 (LM := LM) (F := F) hw k d (j + 1) n M1 L (by omega) (by omega) b2 hl (StM_p hM (Pw_m b3)) (Wd_q (Pm_q (Pw_m b3)) hW)
    refine ⟨M', ?_, e2, Pw_tr b3 e3⟩
    have b1' : f_X10_writesSign F M LM (nI ((wl w).getD j 0)) = some M1 := b1
    rw [f_X10_writesWord_6, ck_n (by omega) (by decide), nI_clamp (by omega), hW _ (by omega), c1, if_neg (nI_ne0 (by omega) (by omega)), ck_n (by omega) (by decide), b1', Option.bind_some, nI_1]
    exact e1
theorem wm_word {σ : Sg} {LM : MemL} {F w : Nat} (hF : 10000 ≤ F) (hw : w < 10) : WrM σ (fun M => f_X10_writesWord F M LM (nI (wiL.getD w 0))) (wl w) := fun S L hS hl hM hW => by
  obtain ⟨o1, o2⟩ := wfO_ok w hw
  obtain ⟨-, -, a3⟩ := wl_1 w hw
  obtain ⟨M', e1, e2, e3⟩ := g_ww6 (LM := LM) (F := F) (σ := σ) hw (fun M_31 => (some M_31)) (wl w).length 0 F S L (by omega) (by omega) (by rw [List.take_zero, List.append_nil]; exact hS) hl hM hW
  refine ⟨M', ?_, e2, e3⟩
  show f_X10_writesWord F S LM (nI (wiL.getD w 0)) = _
  unfold f_X10_writesWord f_X10_wordFrom
  rw [show f_X10_wordFrom_4 F S LM (fun x2_26 => (some x2_26)) F 0 (nI (wiL.getD w 0)) = some (nI (wsL.getD w 0)) from g_wf4 hW (fun x2_26 => (some x2_26)) 60 0 (wiL.getD w 0) F _ o1 (by omega) (by omega) (by omega), Option.bind_some]
  exact e1
/-! numbers -/
def eD (v : Nat) : Nat := if v < 10 then 0 else if v < 100 then 1 else if v < 1000 then 2 else if v < 10000 then 3 else if v < 100000 then 4 else if v < 1000000 then 5 else if v < 10000000 then 6 else if v < 100000000 then 7 else if v < 1000000000 then 8 else 9
def em (v : Nat) : Nat → List Nat
  | 0 => [48 + v / 10 ^ 0 % 10]
  | e + 1 => (48 + v / 10 ^ (e + 1) % 10) :: em v e
def dgt (v : Nat) : List Nat := em v (eD v)
theorem em_len (v : Nat) : ∀ e, (em v e).length = e + 1
  | 0 => rfl
  | e + 1 => by
    show (em v e).length + 1 = _
    rw [em_len v e]
theorem eD_1 {v : Nat} (h : v < 10) : (dgt v).length = 1 := by
  unfold dgt
  rw [em_len]
  unfold eD
  rw [if_pos h]
theorem eD_2 {v : Nat} (h : v < 100) : (dgt v).length ≤ 2 := by
  unfold dgt
  rw [em_len]
  unfold eD
  by_cases q : v < 10
  · rw [if_pos q]; omega
  · rw [if_neg q, if_pos h]; omega
theorem eD_9 (v : Nat) : (dgt v).length ≤ 10 := by
  unfold dgt
  rw [em_len]
  unfold eD
  repeat' split
  all_goals omega
theorem p10 : ∀ e, e ≤ 9 → 0 < 10 ^ e ∧ 10 ^ e < 2147483648 := by decide +kernel
theorem eD_ok {v : Nat} (hv : v < 2147483648) : eD v ≤ 9 ∧ v / 10 ^ eD v < 10 ∧ ∀ e, e < eD v → 10 ≤ v / 10 ^ e := by
  have cs : ∀ k, k ≤ 9 → v < 10 ^ (k + 1) → (∀ e, e < k → 10 ^ (e + 1) ≤ v) → k ≤ 9 ∧ v / 10 ^ k < 10 ∧ ∀ e, e < k → 10 ≤ v / 10 ^ e := fun k hk h1 h2 => by
    refine ⟨hk, ?_, fun e he => ?_⟩
    · rw [Nat.div_lt_iff_lt_mul (p10 k hk).1, Nat.mul_comm, ← Nat.pow_succ]; exact h1
    · rw [Nat.le_div_iff_mul_le (p10 e (by omega)).1, Nat.mul_comm, ← Nat.pow_succ]; exact h2 e he
  have mono : ∀ k e, e < k → 10 ^ k ≤ v → 10 ^ (e + 1) ≤ v := fun k e h1 h2 => Nat.le_trans (Nat.pow_le_pow_right (by decide) (by omega)) h2
  unfold eD
  repeat' split
  · exact cs 0 (by omega) (by omega) (fun e he => by omega)
  · exact cs 1 (by omega) (by omega) (fun e he => mono 1 e he (by omega))
  · exact cs 2 (by omega) (by omega) (fun e he => mono 2 e he (by omega))
  · exact cs 3 (by omega) (by omega) (fun e he => mono 3 e he (by omega))
  · exact cs 4 (by omega) (by omega) (fun e he => mono 4 e he (by omega))
  · exact cs 5 (by omega) (by omega) (fun e he => mono 5 e he (by omega))
  · exact cs 6 (by omega) (by omega) (fun e he => mono 6 e he (by omega))
  · exact cs 7 (by omega) (by omega) (fun e he => mono 7 e he (by omega))
  · exact cs 8 (by omega) (by omega) (fun e he => mono 8 e he (by omega))
  · exact cs 9 (by omega) (by omega) (fun e he => mono 9 e he (by omega))
theorem dg_ch : ∀ d, d < 10 → vp_nar .byte (((48 + nI d).toUInt32 % 65536).toInt32).toInt8.toInt32 = nI (48 + d) := by decide +kernel
theorem v_div {v e : Nat} (hv : v < 2147483648) (he : e ≤ 9) : nI v / nI (10 ^ e) = nI (v / 10 ^ e) := pk_div (by omega) (p10 e he).1 (by have := (p10 e he).2; omega)
theorem v_mod {v e : Nat} (hv : v < 2147483648) : nI (v / 10 ^ e) - nI (v / 10 ^ e) / 10 * 10 = nI (v / 10 ^ e % 10) := by
  have h : v / 10 ^ e ≤ v := Nat.div_le_self _ _
  have e1 : nI (v / 10 ^ e) / 10 = nI (v / 10 ^ e / 10) := pk_div (d := 10) (by omega) (by decide) (by decide)
  rw [e1, l_10, nI_mul', rem_n]
theorem u_dn {e : Nat} (he : e + 1 ≤ 9) : nI (10 ^ (e + 1)) / 10 = nI (10 ^ e) := by
  have := (p10 (e + 1) he).2
  have e1 : nI (10 ^ (e + 1)) / 10 = nI (10 ^ (e + 1) / 10) := pk_div (d := 10) (by omega) (by decide) (by decide)
  rw [e1, Nat.pow_succ, Nat.mul_div_cancel _ (by decide)]
theorem wr_em {F v : Nat} (hv : v < 2147483648) : ∀ (e n : Nat), e ≤ 9 → e + 1 < n → WrC (fun S => f_X7_addNumber_31 F (nI v) (fun S_57 => (some S_57)) n S (nI (10 ^ e))) (em v e)
  | e, 0, _, h => by omega
  | 0, n + 1, he, hn => by
    obtain ⟨n, rfl⟩ : ∃ m, n = m + 1 := ⟨n - 1, by omega⟩
    refine wr_cg (wr_byte F (dg_ch (v / 10 ^ 0 % 10) (Nat.mod_lt _ (by decide)))) (fun S => ?_) rfl
    have z : nI (10 ^ 0) / 10 = 0 := by decide
    show f_X7_addByte F S _ = _
    rw [f_X7_addNumber_31, if_neg (by decide), dv_ne (by decide), dv_ne (by decide), v_div hv (by omega), v_mod hv]
    have tail : ∀ z46 : Mem, dv 10 (f_X7_addNumber_31 F (nI v) (fun S_57 => (some S_57)) (n + 1) z46 (nI (10 ^ 0) / 10)) = some z46 := fun z46 => by
      rw [dv_ne (by decide), z, f_X7_addNumber_31, if_pos (by decide)]
    simp only [tail]
    rw [bind_id]
  | e + 1, n + 1, he, hn => by
    have ih := wr_em (F := F) hv e n (by omega) (by omega)
    have p := p10 (e + 1) he
    refine wr_cg (wr_bind (wr_byte F (dg_ch (v / 10 ^ (e + 1) % 10) (Nat.mod_lt _ (by decide)))) ih) (fun S => ?_) rfl
    rw [f_X7_addNumber_31, if_neg (show ¬ nI (10 ^ (e + 1)) ≤ (0 : Int32) from nI_ge (a := 0) (b := 10 ^ (e + 1)) p.1 (by omega)), dv_n p.1 (by omega), dv_ne (by decide), v_div hv he, v_mod hv]
    have tail : ∀ z46 : Mem, dv 10 (f_X7_addNumber_31 F (nI v) (fun S_57 => (some S_57)) n z46 (nI (10 ^ (e + 1)) / 10)) = f_X7_addNumber_31 F (nI v) (fun S_57 => (some S_57)) n z46 (nI (10 ^ e)) := fun z46 => by
      rw [dv_ne (by decide), u_dn he]
    simp only [tail]
theorem wm_em {σ : Sg} {LM : MemL} {F v : Nat} (hv : v < 2147483648) : ∀ (e n : Nat), e ≤ 9 → e + 1 < n → WrM σ (fun S => f_X10_writesNumber_18 F LM (nI v) (fun S_57 => (some S_57)) n S (nI (10 ^ e))) (em v e)
  | e, 0, _, h => by omega
  | 0, n + 1, he, hn => by
    obtain ⟨n, rfl⟩ : ∃ m, n = m + 1 := ⟨n - 1, by omega⟩
    refine wm_cg (wm_b (LM := LM) F (48 + v / 10 ^ 0 % 10)) (fun S => ?_) rfl
    have z : nI (10 ^ 0) / 10 = 0 := by decide
    have e48 : (48 : Int32) + nI (v / 10 ^ 0 % 10) = nI (48 + v / 10 ^ 0 % 10) := nI_add 48 _
    show f_X10_writesSign F S LM _ = _
    rw [f_X10_writesNumber_18, if_neg (by decide), dv_ne (by decide), dv_ne (by decide), v_div hv (by omega), v_mod hv, e48]
    have tail : ∀ z46 : Mem, dv 10 (f_X10_writesNumber_18 F LM (nI v) (fun S_57 => (some S_57)) (n + 1) z46 (nI (10 ^ 0) / 10)) = some z46 := fun z46 => by
      rw [dv_ne (by decide), z, f_X10_writesNumber_18, if_pos (by decide)]
    simp only [tail]
    rw [bind_id]
  | e + 1, n + 1, he, hn => by
    have ih := wm_em (σ := σ) (LM := LM) (F := F) hv e n (by omega) (by omega)
    have p := p10 (e + 1) he
    have e48 : (48 : Int32) + nI (v / 10 ^ (e + 1) % 10) = nI (48 + v / 10 ^ (e + 1) % 10) := nI_add 48 _
    refine wm_cg (wm_bind (wm_b (LM := LM) F (48 + v / 10 ^ (e + 1) % 10)) ih) (fun S => ?_) rfl
    rw [f_X10_writesNumber_18, if_neg (show ¬ nI (10 ^ (e + 1)) ≤ (0 : Int32) from nI_ge (a := 0) (b := 10 ^ (e + 1)) p.1 (by omega)), dv_n p.1 (by omega), dv_ne (by decide), v_div hv he, v_mod hv, e48]
    have tail : ∀ z46 : Mem, dv 10 (f_X10_writesNumber_18 F LM (nI v) (fun S_57 => (some S_57)) n z46 (nI (10 ^ (e + 1)) / 10)) = f_X10_writesNumber_18 F LM (nI v) (fun S_57 => (some S_57)) n z46 (nI (10 ^ e)) := fun z46 => by
      rw [dv_ne (by decide), u_dn he]
    simp only [tail]
theorem h_unit {F v : Nat} (hv : v < 2147483648) (S : Mem) (k : Int32 → Option Mem) : ∀ (d e n : Nat), e + d = eD v → d < n → f_X7_addNumber_4 F S (nI v) k n (nI (10 ^ e)) (nI (e + 1)) = k (nI (10 ^ eD v))
  | d, e, 0, _, h => by omega
  | 0, e, n + 1, he, _ => by
    obtain rfl : e = eD v := by omega
    obtain ⟨a1, a2, a3⟩ := eD_ok hv
    have p := p10 (eD v) a1
    rw [f_X7_addNumber_4]
    by_cases q : eD v = 9
    · rw [if_pos (show (10 : Int32) ≤ nI (eD v + 1) from nI_le (a := 10) (b := eD v + 1) (by omega) (by omega))]
    · rw [if_neg (show ¬ (10 : Int32) ≤ nI (eD v + 1) from nI_ge (a := eD v + 1) (b := 10) (by omega) (by decide)), dv_n p.1 (by omega), v_div hv a1, if_pos (show nI (v / 10 ^ eD v) < (10 : Int32) from nI_lt (b := 10) a2 (by decide))]
  | d + 1, e, n + 1, he, hn => by
    obtain ⟨a1, a2, a3⟩ := eD_ok hv
    have p := p10 e (by omega)
    have g := a3 e (by omega)
    have gl : v / 10 ^ e ≤ v := Nat.div_le_self _ _
    have pe : nI (10 ^ e) * 10 = nI (10 ^ (e + 1)) := by rw [l_10, nI_mul', Nat.pow_succ]
    rw [f_X7_addNumber_4, if_neg (show ¬ (10 : Int32) ≤ nI (e + 1) from nI_ge (a := e + 1) (b := 10) (by omega) (by decide)), dv_n p.1 (by omega), v_div hv (by omega), if_neg (show ¬ nI (v / 10 ^ e) < (10 : Int32) from nI_nlt (b := 10) g (by omega)), pe, nI_1]
    exact h_unit hv S k d (e + 1) n (by omega) (by omega)
theorem g_unit {LM : MemL} {F v : Nat} (hv : v < 2147483648) (S : Mem) (k : Int32 → Option Mem) : ∀ (d e n : Nat), e + d = eD v → d < n → f_X10_writesNumber_2 F S LM (nI v) k n (nI (10 ^ e)) = k (nI (10 ^ eD v))
  | d, e, 0, _, h => by omega
  | 0, e, n + 1, he, _ => by
    obtain rfl : e = eD v := by omega
    obtain ⟨a1, a2, a3⟩ := eD_ok hv
    have p := p10 (eD v) a1
    rw [f_X10_writesNumber_2, dv_n p.1 (by omega), v_div hv a1, if_pos (show nI (v / 10 ^ eD v) ≤ (9 : Int32) from nI_le (b := 9) (by omega) (by decide))]
  | d + 1, e, n + 1, he, hn => by
    obtain ⟨a1, a2, a3⟩ := eD_ok hv
    have p := p10 e (by omega)
    have g := a3 e (by omega)
    have gl : v / 10 ^ e ≤ v := Nat.div_le_self _ _
    have pe : nI (10 ^ e) * 10 = nI (10 ^ (e + 1)) := by rw [l_10, nI_mul', Nat.pow_succ]
    rw [f_X10_writesNumber_2, dv_n p.1 (by omega), v_div hv (by omega), if_neg (show ¬ nI (v / 10 ^ e) ≤ (9 : Int32) from nI_ge (a := 9) (b := v / 10 ^ e) (by omega) (by omega)), pe]
    exact g_unit hv S k d (e + 1) n (by omega) (by omega)
theorem wr_num {F v : Nat} (hF : 100 ≤ F) (hv : v < 2147483648) : WrC (fun S => f_X7_addNumber F S (nI v)) (dgt v) := by
  obtain ⟨a1, a2, a3⟩ := eD_ok hv
  refine wr_cg (wr_em (F := F) hv (eD v) F a1 (by omega)) (fun S => ?_) rfl
  unfold f_X7_addNumber
  exact (h_unit hv S _ (eD v) 0 F (by omega) (by omega)).symm
theorem wm_num {σ : Sg} {LM : MemL} {F v : Nat} (hF : 100 ≤ F) (hv : v < 2147483648) : WrM σ (fun S => f_X10_writesNumber F S LM (nI v)) (dgt v) := by
  obtain ⟨a1, a2, a3⟩ := eD_ok hv
  refine wm_cg (wm_em (σ := σ) (LM := LM) (F := F) hv (eD v) F a1 (by omega)) (fun S => ?_) rfl
  unfold f_X10_writesNumber
  exact (g_unit hv S _ (eD v) 0 F (by omega) (by omega)).symm
theorem wm_next {σ : Sg} {LM : MemL} {F v : Nat} (hF : 100 ≤ F) (hv : v < 2147483648) : WrM σ (fun S => f_X10_writesNext F S LM (nI v)) ([32] ++ dgt v) := by
  refine wm_cg (wm_bind (wm_b (LM := LM) F 32) (wm_num (LM := LM) hF hv)) (fun S => ?_) rfl
  unfold f_X10_writesNext
  simp only [bind_id]
  rfl
