/-! PURE LAYER: the cloth spelled, the class's side -/
def ExC {α : Type} (k : Mem → Option α) (S : Mem) (L W : List Nat) (E : Option α) : Prop := TS S L → L.length + W.length ≤ 700 → ∃ S', E = k S' ∧ TS S' (L ++ W) ∧ S' 0 2 = S 0 2
theorem exc_bind {α : Type} {k : Mem → Option α} {f : Mem → Option Mem} {g : Mem → Option α} {S : Mem} {L W1 W2 : List Nat} (hf : WrC f W1) (hg : ∀ S1, ExC k S1 (L ++ W1) W2 (g S1)) : ExC k S L (W1 ++ W2) ((f S).bind g) := fun hS hl => by
  rw [List.length_append] at hl
  obtain ⟨S1, a1, a2, a3⟩ := hf S L hS (by omega)
  obtain ⟨S2, b1, b2, b3⟩ := hg S1 a2 (by rw [List.length_append]; omega)
  refine ⟨S2, ?_, by rw [← List.append_assoc]; exact b2, b3.trans a3⟩
  rw [a1]
  exact b1
theorem exc_nil {α : Type} {k : Mem → Option α} {S : Mem} {L : List Nat} {E : Option α} (h : E = k S) : ExC k S L [] E := fun hS _ => ⟨S, h, by rw [List.append_nil]; exact hS, rfl⟩
theorem exc_seq {α : Type} {k g : Mem → Option α} {S : Mem} {L W1 W2 : List Nat} {E : Option α} (h : ExC g S L W1 E) (hg : ∀ S1, ExC k S1 (L ++ W1) W2 (g S1)) : ExC k S L (W1 ++ W2) E := fun hS hl => by
  rw [List.length_append] at hl
  obtain ⟨S1, a1, a2, a3⟩ := h hS (by omega)
  obtain ⟨S2, b1, b2, b3⟩ := hg S1 a2 (by rw [List.length_append]; omega)
  exact ⟨S2, a1.trans b1, by rw [← List.append_assoc]; exact b2, b3.trans a3⟩
theorem exc_wr {f : Mem → Option Mem} {W : List Nat} (h : ∀ S L, ExC (fun S => some S) S L W (f S)) : WrC f W := fun S L hS hl => h S L hS hl
theorem wr_59 (F : Nat) : WrC (fun S => f_X7_addByte F S 59) [59] := wr_b F (c := 59) (by decide)
theorem wr_32 (F : Nat) : WrC (fun S => f_X7_addByte F S 32) [32] := wr_b F (c := 32) (by decide)
def cc (f : Nat → List Nat) : Nat → Nat → List Nat
  | _, 0 => []
  | i, d + 1 => f i ++ cc f (i + 1) d
theorem cc_s (f : Nat → List Nat) (i d : Nat) : cc f i (d + 1) = f i ++ cc f (i + 1) d := rfl
theorem cc_len {f : Nat → List Nat} {B : Nat} : ∀ (d i : Nat), (∀ j, i ≤ j → j < i + d → (f j).length ≤ B) → (cc f i d).length ≤ B * d
  | 0, i, _ => Nat.zero_le _
  | d + 1, i, h => by
    have a := h i (by omega) (by omega)
    have b := cc_len d (i + 1) (fun j h1 h2 => h j (by omega) (by omega))
    rw [cc_s, List.length_append, Nat.mul_succ]
    omega
def nx (f : Nat → Nat) (j : Nat) : List Nat := [32] ++ dgt (f j)
def colT (σ : Sg) (c : Nat) : List Nat := wl 5 ++ ([32] ++ (dgt (σ (2 + c)) ++ [59]))
def rowT (σ : Sg) (r : Nat) : List Nat := wl 6 ++ (cc (nx (fun c => σ (32 + (6 * r + c)))) 0 (σ 0) ++ [59])
def mvT (σ : Sg) (i : Nat) : List Nat := wl (σ (57 + 5 * i)) ++ ([32] ++ (dgt (σ (57 + 5 * i + 1)) ++ ((if σ (57 + 5 * i) = 4 then [32] ++ dgt (σ (57 + 5 * i + 4)) else []) ++ ([32] ++ (dgt (σ (57 + 5 * i + 2)) ++ ((if σ (57 + 5 * i) = 2 ∨ σ (57 + 5 * i) = 3 then [] else [32] ++ dgt (σ (57 + 5 * i + 3))) ++ [59]))))))
def sgT (σ : Sg) (k : Nat) : List Nat := wl 7 ++ (cc (nx (fun j => σ (178 + 4 * k + j))) 0 4 ++ [59])
def txC (σ : Sg) : List Nat := cc (colT σ) 0 (σ 0) ++ (cc (rowT σ) 0 (σ 1) ++ (cc (mvT σ) 0 (σ 56) ++ cc (sgT σ) 0 (σ 177)))
theorem kRa {σ : Sg} (hs : okS σ) {j : Nat} (h : j < σ 0) : σ (2 + j) ≤ 20 := by
  by_cases e : j = 0
  · have := hs.2.2.2.1 (by omega)
    rw [e]
    show σ 2 ≤ 20
    omega
  · exact (kRt hs (by omega) h).2
theorem kMo {σ : Sg} (hs : okS σ) {i : Nat} (h : i < σ 56) : okMv σ i := hs.2.2.2.2.2.2.2.1 i h
theorem kSi {σ : Sg} (hs : okS σ) {k : Nat} (h : k < σ 177) : σ (178 + 4 * k) ≤ σ 56 ∧ σ (178 + 4 * k + 1) < σ 1 ∧ σ (178 + 4 * k + 2) < σ 0 ∧ σ (178 + 4 * k + 3) ≤ 99 := hs.2.2.2.2.2.2.2.2.2 k h
theorem kMb {σ : Sg} (hs : okS σ) {i : Nat} (h : i < σ 56) : σ (57 + 5 * i) ≤ 4 ∧ σ (57 + 5 * i + 1) < 4 ∧ σ (57 + 5 * i + 2) < 6 ∧ σ (57 + 5 * i + 3) ≤ 99 ∧ σ (57 + 5 * i + 4) < 4 := by
  obtain ⟨a, b, c, d, e, f, g⟩ := kMo hs h
  have h0 := kC hs
  have h1 := kR hs
  refine ⟨a, by omega, by omega, ?_, ?_⟩
  · by_cases q : σ (57 + 5 * i) ≤ 1
    · exact (d q).2.1
    · by_cases q2 : σ (57 + 5 * i) = 2
      · have := (e q2).2.1; omega
      · by_cases q3 : σ (57 + 5 * i) = 3
        · have := (f q3).2.1; omega
        · exact (g (by omega)).2.1
  · by_cases q : σ (57 + 5 * i) ≤ 1
    · have := (d q).2.2; omega
    · by_cases q2 : σ (57 + 5 * i) = 2
      · have := (e q2).2.2; omega
      · by_cases q3 : σ (57 + 5 * i) = 3
        · have := (f q3).2.2; omega
        · have := (g (by omega)).2.2.1; omega
theorem nx_len {f : Nat → Nat} {j : Nat} (h : f j < 100) : (nx f j).length ≤ 3 := by
  have := eD_2 h
  show (dgt (f j)).length + 1 ≤ 3
  omega
theorem nx_len1 {f : Nat → Nat} {j : Nat} (h : f j < 10) : (nx f j).length ≤ 2 := by
  have := eD_1 h
  show (dgt (f j)).length + 1 ≤ 2
  omega
theorem wl5 : (wl 5).length = 6 ∧ (wl 6).length = 3 ∧ (wl 7).length = 4 := by decide
theorem wl_m : ∀ κ, κ ≤ 4 → (wl κ).length ≤ 5 := by decide
theorem tx_len {σ : Sg} (hs : okS σ) : (txC σ).length ≤ 688 := by
  have h0 := kC hs
  have h1 := kR hs
  have h5 := kMv hs
  have h7 := kSe hs
  have a : (cc (colT σ) 0 (σ 0)).length ≤ 10 * σ 0 := cc_len (σ 0) 0 (fun j _ hj => by
    have := kRa hs (j := j) (by omega)
    have b := eD_2 (v := σ (2 + j)) (by omega)
    unfold colT
    simp only [List.length_append, List.length_cons, List.length_nil, wl5.1]
    omega)
  have b : (cc (rowT σ) 0 (σ 1)).length ≤ 22 * σ 1 := cc_len (σ 1) 0 (fun r _ hr => by
    have b := cc_len (f := nx (fun c => σ (32 + (6 * r + c)))) (B := 3) (σ 0) 0 (fun j _ hj => nx_len (by have := (kCe hs (j := 6 * r + j) (by omega)).2; show σ (32 + (6 * r + j)) < 100; omega))
    unfold rowT
    simp only [List.length_append, List.length_cons, List.length_nil, wl5.2.1]
    omega)
  have c : (cc (mvT σ) 0 (σ 56)).length ≤ 15 * σ 56 := cc_len (σ 56) 0 (fun i _ hi => by
    obtain ⟨b0, b1, b2, b3, b4⟩ := kMb hs (i := i) (by omega)
    have e0 := wl_m _ b0
    have e1 := eD_1 (v := σ (57 + 5 * i + 1)) (by omega)
    have e2 := eD_1 (v := σ (57 + 5 * i + 2)) (by omega)
    have e3 := eD_2 (v := σ (57 + 5 * i + 3)) (by omega)
    have e4 := eD_1 (v := σ (57 + 5 * i + 4)) (by omega)
    unfold mvT
    by_cases q4 : σ (57 + 5 * i) = 4
    · rw [if_pos q4, if_neg (show ¬ (σ (57 + 5 * i) = 2 ∨ σ (57 + 5 * i) = 3) by omega)]
      simp only [List.length_append, List.length_cons, List.length_nil]
      omega
    · rw [if_neg q4]
      by_cases q : σ (57 + 5 * i) = 2 ∨ σ (57 + 5 * i) = 3
      · rw [if_pos q]
        simp only [List.length_append, List.length_cons, List.length_nil]
        omega
      · rw [if_neg q]
        simp only [List.length_append, List.length_cons, List.length_nil]
        omega)
  have d : (cc (sgT σ) 0 (σ 177)).length ≤ 15 * σ 177 := cc_len (σ 177) 0 (fun k _ hk => by
    obtain ⟨b0, b1, b2, b3⟩ := kSi hs (k := k) (by omega)
    have e0 := nx_len (f := fun j => σ (178 + 4 * k + j)) (j := 0) (show σ (178 + 4 * k) < 100 by omega)
    have e1 := nx_len1 (f := fun j => σ (178 + 4 * k + j)) (j := 1) (show σ (178 + 4 * k + 1) < 10 by omega)
    have e2 := nx_len1 (f := fun j => σ (178 + 4 * k + j)) (j := 2) (show σ (178 + 4 * k + 2) < 10 by omega)
    have e3 := nx_len (f := fun j => σ (178 + 4 * k + j)) (j := 3) (show σ (178 + 4 * k + 3) < 100 by omega)
    have e : (cc (nx (fun j => σ (178 + 4 * k + j))) 0 4).length ≤ 10 := by
      rw [cc_s, cc_s, cc_s, cc_s, List.length_append, List.length_append, List.length_append, List.length_append]
      show (nx (fun j => σ (178 + 4 * k + j)) 0).length + ((nx (fun j => σ (178 + 4 * k + j)) 1).length + ((nx (fun j => σ (178 + 4 * k + j)) 2).length + ((nx (fun j => σ (178 + 4 * k + j)) 3).length + 0))) ≤ 10
      omega
    unfold sgT
    simp only [List.length_append, List.length_cons, List.length_nil, wl5.2.2]
    omega)
  unfold txC
  rw [List.length_append, List.length_append, List.length_append]
  omega
theorem h_wc1 {C : Mem} {σ : Sg} (hC : StC C σ) (hs : okS σ) {F : Nat} (hF : 100 ≤ F) (k : Mem → Option Mem) : ∀ (d i n : Nat) (S : Mem) (L : List Nat), i + d = σ 0 → d < n → ExC k S L (cc (colT σ) i d) (f_X7_writeCloth_21 F C k n S (nI i))
  | d, i, 0, S, L, _, h => by omega
  | 0, i, n + 1, S, L, hi, _ => by
    have h0 := kC hs
    exact exc_nil (by rw [f_X7_writeCloth_21, cC hC, if_pos (nI_le (by omega) (by omega))])
  | d + 1, i, n + 1, S, L, hi, hn => by
    have h0 := kC hs
    have b := kRa hs (j := i) (by omega)
    have e : cc (colT σ) i (d + 1) = (wl 5 ++ [32]) ++ (dgt (σ (2 + i)) ++ ([59] ++ cc (colT σ) (i + 1) d)) := by
      rw [cc_s]; unfold colT; simp only [List.append_assoc]
    rw [e, f_X7_writeCloth_21, cC hC, if_neg (nI_ge (by omega) (by omega))]
    refine exc_bind (wr_word (F := F) (w := 5) (by omega) (by decide)) (fun S1 => ?_)
    rw [ck_n (by omega) (by decide), nI_clamp (by omega), cRt hC (by omega)]
    refine exc_bind (wr_num (F := F) (by omega) (by omega)) (fun S2 => ?_)
    refine exc_bind (wr_59 F) (fun S3 => ?_)
    rw [nI_1]
    exact h_wc1 hC hs hF k d (i + 1) n S3 _ (by omega) (by omega)
theorem h_an3 {F nIA : Nat} {IA : Mem} {b m : Nat} {f : Nat → Nat} (hF : 100 ≤ F) (hm : m < 100) (hb : b + m ≤ nIA) (hn : nIA < 2147483648) (hv : ∀ j, j < m → IA 0 (b + j) = nI (f j) ∧ f j < 2147483648) (k : Mem → Option Mem) : ∀ (d i n : Nat) (S : Mem) (L : List Nat), i + d = m → 1 ≤ i → d < n → ExC k S L (cc (nx f) i d) (f_X7_addNumbers_3 F nIA IA (nI b) (nI m) k n S (nI i))
  | d, i, 0, S, L, _, _, h => by omega
  | 0, i, n + 1, S, L, hi, _, _ => exc_nil (by rw [f_X7_addNumbers_3, if_pos (nI_le (by omega) (by omega))])
  | d + 1, i, n + 1, S, L, hi, h1, hn' => by
    obtain ⟨v1, v2⟩ := hv i (by omega)
    have e : cc (nx f) i (d + 1) = [32] ++ (dgt (f i) ++ cc (nx f) (i + 1) d) := rfl
    rw [e, f_X7_addNumbers_3, if_neg (nI_ge (by omega) (by omega)), if_neg (show ¬ nI i ≤ (0 : Int32) from nI_ge (a := 0) (b := i) (by omega) (by omega))]
    refine exc_bind (wr_32 F) (fun S1 => ?_)
    unfold f_X7_addNumbers_20
    rw [nI_add, ck_n (by omega) hn, nI_clamp (by omega), v1]
    refine exc_bind (wr_num (F := F) (by omega) v2) (fun S2 => ?_)
    rw [nI_1]
    exact h_an3 hF hm hb hn hv k d (i + 1) n S2 _ (by omega) (by omega) (by omega)
theorem wr_an {F nIA : Nat} {IA : Mem} {b m : Nat} {f : Nat → Nat} (hF : 1000 ≤ F) (hm : m < 100) (hm0 : 1 ≤ m) (hb : b + m ≤ nIA) (hn : nIA < 2147483648) (hv : ∀ j, j < m → IA 0 (b + j) = nI (f j) ∧ f j < 2147483648) : WrC (fun S => f_X7_addNumbers F nIA S IA (nI b) (nI m)) (dgt (f 0) ++ (cc (nx f) 1 (m - 1) ++ [59])) := exc_wr (fun S L => by
  obtain ⟨v1, v2⟩ := hv 0 (by omega)
  unfold f_X7_addNumbers
  obtain ⟨n, rfl⟩ : ∃ n, F = n + 1 := ⟨F - 1, by omega⟩
  have z : f_X7_addNumbers_3 (n + 1) nIA IA (nI b) (nI m) (fun S_36 => (f_X7_addByte (n + 1) S_36 59).bind (fun z39 => (some z39))) (n + 1) S 0 = (f_X7_addNumber (n + 1) S (nI (f 0))).bind (fun z27 => f_X7_addNumbers_3 (n + 1) nIA IA (nI b) (nI m) (fun S_36 => (f_X7_addByte (n + 1) S_36 59).bind (fun z39 => (some z39))) n z27 (nI 1)) := by
    have v1' : IA 0 b = nI (f 0) := v1
    have e : nI b + 0 = nI b := nI_add b 0
    rw [f_X7_addNumbers_3, if_neg (show ¬ nI m ≤ (0 : Int32) from nI_ge (a := 0) (b := m) (by omega) (by omega)), if_pos (by decide)]
    unfold f_X7_addNumbers_20
    rw [e, ck_n (by omega) hn, nI_clamp (by omega), v1']
    rfl
  rw [z]
  refine exc_bind (wr_num (by omega) v2) (fun S1 => ?_)
  refine exc_seq (h_an3 (f := f) (by omega) hm hb hn hv _ (m - 1) 1 n S1 _ (by omega) (by omega) (by omega)) (fun S2 => ?_)
  rw [bind_id]
  intro hS hl
  exact wr_59 (n + 1) S2 _ hS hl)
theorem h_wc2 {C : Mem} {σ : Sg} (hC : StC C σ) (hs : okS σ) {F : Nat} (hF : 1000 ≤ F) (k : Mem → Option Mem) : ∀ (d i n : Nat) (S : Mem) (L : List Nat), i + d = σ 1 → d < n → ExC k S L (cc (rowT σ) i d) (f_X7_writeCloth_59 F C k n S (nI i))
  | d, i, 0, S, L, _, h => by omega
  | 0, i, n + 1, S, L, hi, _ => by
    have h0 := kR hs
    exact exc_nil (by rw [f_X7_writeCloth_59, cR hC, if_pos (nI_le (by omega) (by omega))])
  | d + 1, i, n + 1, S, L, hi, hn => by
    have h0 := kC hs
    have h1 := kR hs
    have h2 := kCR hs (by omega)
    have e : cc (rowT σ) i (d + 1) = (wl 6 ++ [32]) ++ ((dgt (σ (32 + (6 * i + 0))) ++ (cc (nx (fun c => σ (32 + (6 * i + c)))) 1 (σ 0 - 1) ++ [59])) ++ cc (rowT σ) (i + 1) d) := by
      have e1 : cc (nx (fun c => σ (32 + (6 * i + c)))) 0 (σ 0) = [32] ++ (dgt (σ (32 + (6 * i + 0))) ++ cc (nx (fun c => σ (32 + (6 * i + c)))) 1 (σ 0 - 1)) := by
        obtain ⟨m, hm⟩ : ∃ m, σ 0 = m + 1 := ⟨σ 0 - 1, by omega⟩
        rw [hm]
        rfl
      rw [cc_s]; unfold rowT; rw [e1]; simp only [List.append_assoc]
    have m6 : nI i * 6 = nI (6 * i) := by rw [l_6, mr6]
    rw [e, f_X7_writeCloth_59, cR hC, if_neg (nI_ge (by omega) (by omega))]
    refine exc_bind (wr_word (F := F) (w := 6) (by omega) (by decide)) (fun S1 => ?_)
    rw [m6, cC hC]
    refine exc_bind (wr_an (f := fun c => σ (32 + (6 * i + c))) hF (by omega) (by omega) (by omega) (by decide) (fun j hj => ⟨cBe hC (by omega), by have := (kCe hs (j := 6 * i + j) (by omega)).2; show σ (32 + (6 * i + j)) < 2147483648; omega⟩)) (fun S2 => ?_)
    rw [nI_1]
    exact h_wc2 hC hs hF k d (i + 1) n S2 _ (by omega) (by omega)
theorem h_wc4 {C : Mem} {σ : Sg} (hC : StC C σ) (hs : okS σ) {F : Nat} (hF : 1000 ≤ F) (k : Mem → Option Mem) : ∀ (d i n : Nat) (S : Mem) (L : List Nat), i + d = σ 177 → d < n → ExC k S L (cc (sgT σ) i d) (f_X7_writeCloth_121 F C k n S (nI i))
  | d, i, 0, S, L, _, h => by omega
  | 0, i, n + 1, S, L, hi, _ => by
    have h0 := kSe hs
    exact exc_nil (by rw [f_X7_writeCloth_121, cSe hC, if_pos (nI_le (by omega) (by omega))])
  | d + 1, i, n + 1, S, L, hi, hn => by
    have h0 := kC hs
    have h1 := kR hs
    have h5 := kMv hs
    have h2 := kSe hs
    obtain ⟨b0, b1, b2, b3⟩ := kSi hs (k := i) (by omega)
    have e : cc (sgT σ) i (d + 1) = (wl 7 ++ [32]) ++ ((dgt (σ (178 + 4 * i + 0)) ++ (cc (nx (fun j => σ (178 + 4 * i + j))) 1 (4 - 1) ++ [59])) ++ cc (sgT σ) (i + 1) d) := by
      have e1 : cc (nx (fun j => σ (178 + 4 * i + j))) 0 4 = [32] ++ (dgt (σ (178 + 4 * i + 0)) ++ cc (nx (fun j => σ (178 + 4 * i + j))) 1 (4 - 1)) := rfl
      rw [cc_s]; unfold sgT; rw [e1]; simp only [List.append_assoc]
    have m6 : nI i * 4 = nI (4 * i) := by rw [l_4, mr4]
    rw [e, f_X7_writeCloth_121, cSe hC, if_neg (nI_ge (by omega) (by omega))]
    refine exc_bind (wr_word (F := F) (w := 7) (by omega) (by decide)) (fun S1 => ?_)
    rw [m6, l_4]
    refine exc_bind (wr_an (f := fun j => σ (178 + 4 * i + j)) (m := 4) hF (by omega) (by omega) (by omega) (by decide) (fun j hj => ⟨by
        show C 6 (4 * i + j) = nI (σ (178 + 4 * i + j))
        rw [cSi hC (by omega), Nat.add_assoc], by
        show σ (178 + 4 * i + j) < 2147483648
        obtain rfl | rfl | rfl | rfl : j = 0 ∨ j = 1 ∨ j = 2 ∨ j = 3 := by omega
        · show σ (178 + 4 * i) < _; omega
        · omega
        · omega
        · omega⟩)) (fun S2 => ?_)
    rw [nI_1]
    exact h_wc4 hC hs hF k d (i + 1) n S2 _ (by omega) (by omega)
theorem mvW : ∀ κ, κ ≤ 4 → ∀ F, f_X6_moveWord F (nI κ) = some κ := by
  intro κ hκ F
  unfold f_X6_moveWord
  obtain rfl | rfl | rfl | rfl | rfl : κ = 0 ∨ κ = 1 ∨ κ = 2 ∨ κ = 3 ∨ κ = 4 := by omega
  all_goals rfl
theorem nI_2' (a : Nat) : nI a + 2 = nI (a + 2) := nI_add a 2
theorem nI_3' (a : Nat) : nI a + 3 = nI (a + 3) := nI_add a 3
theorem nI_4' (a : Nat) : nI a + 4 = nI (a + 4) := nI_add a 4
theorem wr_mv50 {C : Mem} {σ : Sg} (hC : StC C σ) (hs : okS σ) {F i : Nat} (hF : 1000 ≤ F) (hi : i < σ 56) : WrC (fun S => f_X7_writeMove_50 F S C (nI (5 * i)) (nI (σ (57 + 5 * i)))) ([32] ++ (dgt (σ (57 + 5 * i + 2)) ++ ((if σ (57 + 5 * i) = 2 ∨ σ (57 + 5 * i) = 3 then [] else [32] ++ dgt (σ (57 + 5 * i + 3))) ++ [59]))) := exc_wr (fun S L => by
  obtain ⟨b0, b1, b2, b3, b4⟩ := kMb hs hi
  have h5 := kMv hs
  have c2 : C 5 (5 * i + 2) = nI (σ (57 + 5 * i + 2)) := by rw [cLo hC (by omega), Nat.add_assoc]
  have c3 : C 5 (5 * i + 3) = nI (σ (57 + 5 * i + 3)) := by rw [cLo hC (by omega), Nat.add_assoc]
  have tl : ∀ S L, ExC (fun S => some S) S L [59] (f_X7_writeMove_96 F S C) := fun S L => by
    unfold f_X7_writeMove_96
    rw [bind_id]
    intro hS hl
    exact wr_59 F S L hS hl
  unfold f_X7_writeMove_50
  refine exc_bind (wr_32 F) (fun S1 => ?_)
  rw [nI_2', ck_n (by omega) (by decide), nI_clamp (by omega), c2]
  refine exc_bind (wr_num (by omega) (by omega)) (fun S2 => ?_)
  by_cases q2 : σ (57 + 5 * i) = 2
  · rw [if_pos (show nI (σ (57 + 5 * i)) = 2 by rw [q2]; rfl), if_pos (Or.inl q2)]
    exact tl _ _
  · rw [if_neg (show ¬ nI (σ (57 + 5 * i)) = 2 from fun q => q2 ((nI_eq (by omega) (by decide)).mp q))]
    by_cases q3 : σ (57 + 5 * i) = 3
    · rw [if_pos (show nI (σ (57 + 5 * i)) = 3 by rw [q3]; rfl), if_pos (Or.inr q3)]
      exact tl _ _
    · rw [if_neg (show ¬ nI (σ (57 + 5 * i)) = 3 from fun q => q3 ((nI_eq (by omega) (by decide)).mp q)), if_neg (show ¬ (σ (57 + 5 * i) = 2 ∨ σ (57 + 5 * i) = 3) by omega), List.append_assoc]
      refine exc_bind (wr_32 F) (fun S3 => ?_)
      rw [nI_3', ck_n (by omega) (by decide), nI_clamp (by omega), c3]
      exact exc_bind (wr_num (by omega) (by omega)) (fun S4 => tl _ _))
theorem wr_mv {C : Mem} {σ : Sg} (hC : StC C σ) (hs : okS σ) {F i : Nat} (hF : 1000 ≤ F) (hi : i < σ 56) : WrC (fun S => f_X7_writeMove F S C (nI (5 * i))) (mvT σ i) := exc_wr (fun S L => by
  obtain ⟨b0, b1, b2, b3, b4⟩ := kMb hs hi
  have h5 := kMv hs
  have c0 : C 5 (5 * i) = nI (σ (57 + 5 * i)) := cLo hC (by omega)
  have c1 : C 5 (5 * i + 1) = nI (σ (57 + 5 * i + 1)) := by rw [cLo hC (by omega), Nat.add_assoc]
  have c4 : C 5 (5 * i + 4) = nI (σ (57 + 5 * i + 4)) := by rw [cLo hC (by omega), Nat.add_assoc]
  have e : mvT σ i = (wl (σ (57 + 5 * i)) ++ [32]) ++ (dgt (σ (57 + 5 * i + 1)) ++ ((if σ (57 + 5 * i) = 4 then [32] ++ dgt (σ (57 + 5 * i + 4)) else []) ++ ([32] ++ (dgt (σ (57 + 5 * i + 2)) ++ ((if σ (57 + 5 * i) = 2 ∨ σ (57 + 5 * i) = 3 then [] else [32] ++ dgt (σ (57 + 5 * i + 3))) ++ [59]))))) := by
    unfold mvT; simp only [List.append_assoc]
  unfold f_X7_writeMove
  rw [e, ck_n (by omega) (by decide), nI_clamp (by omega), c0, mvW _ b0, Option.bind_some]
  refine exc_bind (wr_word (by omega) (by omega)) (fun S1 => ?_)
  rw [nI_1, ck_n (by omega) (by decide), nI_clamp (by omega), c1]
  refine exc_bind (wr_num (by omega) (by omega)) (fun S2 => ?_)
  by_cases q4 : σ (57 + 5 * i) = 4
  · rw [if_pos (show nI (σ (57 + 5 * i)) = 4 by rw [q4]; rfl), if_pos q4, List.append_assoc]
    refine exc_bind (wr_32 F) (fun S3 => ?_)
    rw [nI_4', ck_n (by omega) (by decide), nI_clamp (by omega), c4]
    refine exc_bind (wr_num (by omega) (by omega)) (fun S4 => ?_)
    exact wr_mv50 hC hs hF hi S4 _
  · rw [if_neg (show ¬ nI (σ (57 + 5 * i)) = 4 from fun q => q4 ((nI_eq (by omega) (by decide)).mp q)), if_neg q4, List.nil_append]
    exact wr_mv50 hC hs hF hi S2 _)
theorem h_wc3 {C : Mem} {σ : Sg} (hC : StC C σ) (hs : okS σ) {F : Nat} (hF : 1000 ≤ F) (k : Mem → Option Mem) : ∀ (d i n : Nat) (S : Mem) (L : List Nat), i + d = σ 56 → d < n → ExC k S L (cc (mvT σ) i d) (f_X7_writeCloth_97 F C k n S (nI i))
  | d, i, 0, S, L, _, h => by omega
  | 0, i, n + 1, S, L, hi, _ => by
    have h0 := kMv hs
    exact exc_nil (by rw [f_X7_writeCloth_97, cMv hC, if_pos (nI_le (by omega) (by omega))])
  | d + 1, i, n + 1, S, L, hi, hn => by
    have h0 := kMv hs
    have m6 : nI i * 5 = nI (5 * i) := by rw [l_5, mr5]
    rw [cc_s, f_X7_writeCloth_97, cMv hC, if_neg (nI_ge (by omega) (by omega)), m6]
    refine exc_bind (wr_mv hC hs hF (by omega)) (fun S1 => ?_)
    rw [nI_1]
    exact h_wc3 hC hs hF k d (i + 1) n S1 _ (by omega) (by omega)
theorem h_writeCloth {C S : Mem} {σ : Sg} (hC : StC C σ) (hs : okS σ) {F : Nat} (hF : 1000 ≤ F) (hn : ¬ S 0 2 = -1) : ∃ S', f_X7_writeCloth F S C = some S' ∧ TS S' (txC σ) ∧ S' 0 2 = -1 := by
  have h0 := kC hs
  have h1 := kR hs
  have h5 := kMv hs
  have h7 := kSe hs
  have tl := tx_len hs
  unfold f_X7_writeCloth
  rw [if_neg hn]
  have key : ExC (fun S => some S) (mr S 0 (fu (fu (S 0) 2 (-1)) 1 0)) [] (txC σ) (f_X7_writeCloth_21 F C (fun S_57 => f_X7_writeCloth_59 F C (fun S_95 => f_X7_writeCloth_97 F C (fun S_119 => f_X7_writeCloth_121 F C (fun S_153 => (some S_153)) F S_119 0) F S_95 0) F S_57 0) F (mr S 0 (fu (fu (S 0) 2 (-1)) 1 0)) 0) :=
    exc_seq (h_wc1 hC hs (by omega) _ (σ 0) 0 F _ _ (by omega) (by omega)) (fun S1 => exc_seq (h_wc2 hC hs hF _ (σ 1) 0 F _ _ (by omega) (by omega)) (fun S2 => exc_seq (h_wc3 hC hs hF _ (σ 56) 0 F _ _ (by omega) (by omega)) (fun S3 => h_wc4 hC hs hF _ (σ 177) 0 F _ _ (by omega) (by omega))))
  obtain ⟨S', e1, e2, e3⟩ := key ⟨by rw [mr_s, fu_s]; rfl, Nat.zero_le _, fun i hi => absurd hi (Nat.not_lt_zero _)⟩ (by show 0 + (txC σ).length ≤ 700; omega)
  refine ⟨S', e1, e2, e3.trans ?_⟩
  rw [mr_s, fu_n _ _ (by decide), fu_s]
/-! one row reported -/
def rpT (σ : Sg) (r : Nat) : Nat → List Nat
  | 0 => []
  | c + 1 => (if σ (8 + (6 * r + c)) = 0 then [] else dgt (σ (8 + (6 * r + c))) ++ ([32] ++ (wl 8 ++ ([32] ++ (dgt (wo σ c) ++ [59]))))) ++ rpT σ r c
def txR (σ : Sg) (r : Nat) : List Nat := rpT σ r (σ 0) ++ (wl 9 ++ ([32] ++ (dgt (smN σ r (σ 0)) ++ [59])))
theorem wl8 : (wl 8).length = 2 ∧ (wl 9).length = 3 := by decide
theorem rp_len {σ : Sg} (hs : okS σ) {r : Nat} (hr : r < 4) : ∀ c, c ≤ 6 → (rpT σ r c).length ≤ 17 * c
  | 0, _ => Nat.zero_le _
  | c + 1, h => by
    have ih := rp_len hs hr c (by omega)
    have a := (kCe hs (j := 6 * r + c) (by omega)).1
    have b := eD_2 (v := σ (8 + (6 * r + c))) (by omega)
    have d := eD_9 (wo σ c)
    unfold rpT
    by_cases q : σ (8 + (6 * r + c)) = 0
    · rw [if_pos q, List.nil_append]; omega
    · rw [if_neg q]
      simp only [List.length_append, List.length_cons, List.length_nil, wl8.1]
      omega
theorem tr_len {σ : Sg} (hs : okS σ) {r : Nat} (hr : r < 4) : (txR σ r).length ≤ 117 := by
  have h0 := kC hs
  have a := rp_len hs hr (σ 0) h0
  have d := eD_9 (smN σ r (σ 0))
  unfold txR
  simp only [List.length_append, List.length_cons, List.length_nil, wl8.2]
  omega
theorem h_wr26 {C : Mem} {σ : Sg} (hC : StC C σ) (hs : okS σ) {F r : Nat} (hF : 1000 ≤ F) (hr : r < 4) (k : Mem → Option Mem) : ∀ (i n : Nat) (S : Mem) (L : List Nat), i ≤ σ 0 → i < n → ExC k S L (rpT σ r i) (f_X7_writeRow_26 F C (nI r) k n S (dn i))
  | i, 0, S, L, _, h => by omega
  | 0, n + 1, S, L, _, _ => exc_nil (by rw [f_X7_writeRow_26, if_pos (by decide)])
  | i + 1, n + 1, S, L, hi, hn => by
    have h0 := kC hs
    have b := (kCe hs (j := 6 * r + i) (by omega)).1
    have w := wo_lt hs (c := i) (by omega)
    have m6 : nI r * 6 = nI (6 * r) := by rw [l_6, mr6]
    have dnn : nI i + (-1 : Int32) = dn i := (Int32.sub_eq_add_neg _ _).symm
    have ih := fun S L => h_wr26 hC hs hF hr k i n S L (by omega) (by omega)
    rw [f_X7_writeRow_26, dn_s, if_neg (show ¬ nI i < (0 : Int32) from nI_nlt (b := 0) (by omega) (by omega)), m6, nI_add, ck_n (by omega) (by decide), nI_clamp (by omega), cCe hC (by omega), dnn]
    unfold rpT
    by_cases q : σ (8 + (6 * r + i)) = 0
    · rw [if_pos q, q, if_pos (by decide), List.nil_append]
      exact ih S L
    · rw [if_neg q, if_neg (show ¬ nI (σ (8 + (6 * r + i))) ≤ (0 : Int32) from nI_ge (a := 0) (by omega) (by omega))]
      have e : (dgt (σ (8 + (6 * r + i))) ++ ([32] ++ (wl 8 ++ ([32] ++ (dgt (wo σ i) ++ [59]))))) ++ rpT σ r i = dgt (σ (8 + (6 * r + i))) ++ ([32] ++ ((wl 8 ++ [32]) ++ (dgt (wo σ i) ++ ([59] ++ rpT σ r i)))) := by simp only [List.append_assoc]
      rw [e]
      refine exc_bind (wr_num (by omega) (by omega)) (fun S1 => ?_)
      refine exc_bind (wr_32 F) (fun S2 => ?_)
      refine exc_bind (wr_word (F := F) (w := 8) (by omega) (by decide)) (fun S3 => ?_)
      rw [ck_n (by omega) (by decide), nI_clamp (by omega), cWo hC (by omega)]
      refine exc_bind (wr_num (by omega) (by omega)) (fun S4 => ?_)
      refine exc_bind (wr_59 F) (fun S5 => ?_)
      exact ih S5 _
theorem h_writeRow {C S : Mem} {σ : Sg} (hC : StC C σ) (hs : okS σ) {F r : Nat} (hF : 1000 ≤ F) (hr : r < σ 1) (hn : ¬ S 0 2 = nI r) : ∃ S', f_X7_writeRow F S C (nI r) = some S' ∧ TS S' (txR σ r) ∧ S' 0 2 = nI r := by
  have h0 := kC hs
  have h1 := kR hs
  have tl := tr_len hs (r := r) (by omega)
  have sl := sm_lt hs (r := r) (by omega)
  unfold f_X7_writeRow
  rw [if_neg hn, cC hC]
  have key : ExC (fun S => some S) (mr S 0 (fu (fu (S 0) 2 (nI r)) 1 0)) [] (txR σ r) (f_X7_writeRow_26 F C (nI r) (fun S_88 => (f_X7_addWord F S_88 9).bind (fun z91 => (f_X0_sumOf F C (nI r)).bind (fun z97 => (f_X7_addNumber F z91 z97).bind (fun z100 => (f_X7_addByte F z100 59).bind (fun z106 => (some z106)))))) F (mr S 0 (fu (fu (S 0) 2 (nI r)) 1 0)) (dn (σ 0))) := by
    refine exc_seq (h_wr26 hC hs hF (by omega) _ (σ 0) F _ _ (Nat.le_refl _) (by omega)) (fun S1 => ?_)
    have e : wl 9 ++ ([32] ++ (dgt (smN σ r (σ 0)) ++ [59])) = (wl 9 ++ [32]) ++ (dgt (smN σ r (σ 0)) ++ [59]) := by simp only [List.append_assoc]
    rw [e]
    refine exc_bind (wr_word (F := F) (w := 9) (by omega) (by decide)) (fun S2 => ?_)
    rw [h_sumOf hC h0 (by omega) (by omega), Option.bind_some]
    refine exc_bind (wr_num (by omega) sl) (fun S3 => ?_)
    rw [bind_id]
    exact wr_59 F S3 _
  obtain ⟨S', e1, e2, e3⟩ := key ⟨by rw [mr_s, fu_s]; rfl, Nat.zero_le _, fun i hi => absurd hi (Nat.not_lt_zero _)⟩ (by show 0 + (txR σ r).length ≤ 700; omega)
  refine ⟨S', e1, e2, e3.trans ?_⟩
  rw [mr_s, fu_n _ _ (by decide), fu_s]
