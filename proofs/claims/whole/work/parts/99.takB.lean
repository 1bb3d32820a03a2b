/-! PURE LAYER: taken -/
def PtH (σ : Sg) (h : Nat → Nat) (P : Mem) : Prop := ∀ c, c < σ 0 → P 2 c = nI (h c)
theorem h_lift2 {F : Nat} {C : Mem} {LP : MemL} {wP vP : Bool} {σ : Sg} (hC : StC C σ) (hs : okS σ) {r : Nat} (hr : r < 4) (k : Mem → Option Mem) : ∀ (d i n : Nat) (P : Mem), i + d = σ 0 → d < n → (∀ c, c < i → P 2 c = nI (σ (8 + (6 * r + c)))) → ∃ P', f_X5_liftRow_2 F LP wP vP C (nI r) k n P (nI i) = k P' ∧ (∀ q, q ≠ 2 → P' q = P q) ∧ PtH σ (fun c => σ (8 + (6 * r + c))) P'
  | d, i, 0, P, _, h, _ => by omega
  | 0, i, n + 1, P, hi, _, hA => by
    have h0 := kC hs
    refine ⟨P, by rw [f_X5_liftRow_2, cC hC, if_pos (nI_le (by omega) (by omega))], fun _ _ => rfl, fun c hc => hA c (by omega)⟩
  | d + 1, i, n + 1, P, hi, hn, hA => by
    have h0 := kC hs
    obtain ⟨P', a1, a2, a3⟩ := h_lift2 (F := F) (LP := LP) (wP := wP) (vP := vP) hC hs hr k d (i + 1) n (mr P 2 (upd (P 2) i (nI (σ (8 + (6 * r + i)))))) (by omega) (by omega) (fun c hc => by
      rw [mr_s]
      by_cases e : c = i
      · rw [e, pk_us]
      · rw [pk_un e]; exact hA c (by omega))
    refine ⟨P', ?_, fun q hq => by rw [a2 q hq, mr_n _ _ hq], a3⟩
    have ix : (nI r * 6) + nI i = nI (6 * r + i) := by rw [l_6, mr6, nI_add]
    rw [f_X5_liftRow_2, cC hC, if_neg (nI_ge (by omega) (by omega)), ix, ck_n (by omega) (by decide), ck_n (by omega) (by decide), nI_clamp (by omega), nI_clamp (by omega), cCe hC (by omega), nI_1]
    exact a1
theorem h_lift {F : Nat} {C P : Mem} {LP : MemL} {wP vP : Bool} {σ : Sg} (hF : 10 ≤ F) (hC : StC C σ) (hs : okS σ) {r : Nat} (hr : r < 4) : ∃ P', f_X5_liftRow F P LP wP vP C (nI r) = some P' ∧ (∀ q, q ≠ 2 → P' q = P q) ∧ PtH σ (fun c => σ (8 + (6 * r + c))) P' := by
  have h0 := kC hs
  exact h_lift2 hC hs hr (fun P_33 => (some P_33)) (σ 0) 0 F P (by omega) (by omega) (fun c hc => by omega)
theorem min_n {a b : Nat} (ha : a < 2147483648) (hb : b < 2147483648) : (if nI a < nI b then nI a else nI b) = nI (min a b) := by
  by_cases q : a < b
  · rw [if_pos (nI_lt q hb), Nat.min_eq_left (by omega)]
  · rw [if_neg (nI_nlt (by omega) ha), Nat.min_eq_right (by omega)]
theorem h_tf10 {F : Nat} {C : Mem} {LP : MemL} {wP vP : Bool} {σ : Sg} (hC : StC C σ) (hs : okS σ) (h0' : 0 < σ 0) {h : Nat → Nat} (hh : ∀ c, c < σ 0 → h c ≤ 999) {s : Nat} (hS : s < 2147483648) (k : Mem → Int32 → Option (Int32 × Mem)) : ∀ (i n R : Nat) (P : Mem), i ≤ σ 0 → i < n → PtH σ h P → (i = σ 0 → R = s) → (i < σ 0 → R + wo σ i * tkT σ h (σ 0 - 1 - i) i (s / wo σ i) = s ∧ ∀ j, i ≤ j → j < σ 0 → P 1 j = nI (tkP σ h (σ 0 - 1 - i) i (s / wo σ i) j)) → ∃ P', f_X5_takeFewest_10 F LP wP vP C k n P (nI R) (dn i) = k P' (nI (s - tkT σ h (σ 0 - 1) 0 s)) ∧ (∀ j, j < σ 0 → P' 1 j = nI (tkP σ h (σ 0 - 1) 0 s j)) ∧ (∀ q, q ≠ 1 → P' q = P q)
  | i, 0, R, P, _, h, _, _, _ => by omega
  | 0, n + 1, R, P, _, _, hP, _, hR => by
    obtain ⟨r1, r2⟩ := hR h0'
    have e1 : wo σ 0 = 1 := rfl
    rw [e1, Nat.div_one, Nat.one_mul] at r1
    rw [e1, Nat.div_one] at r2
    refine ⟨P, ?_, fun j hj => r2 j (Nat.zero_le _) hj, fun _ _ => rfl⟩
    have e2 : σ 0 - 1 - 0 = σ 0 - 1 := rfl
    rw [e2] at r1
    rw [f_X5_takeFewest_10, if_pos (by decide), show s - tkT σ h (σ 0 - 1) 0 s = R by omega]
  | i + 1, n + 1, R, P, hi, hn, hP, hR0, hR => by
    have h0 := kC hs
    obtain ⟨w1, w2⟩ := wo_lt hs (c := i) (by omega)
    have dnn : nI i + (-1 : Int32) = dn i := (Int32.sub_eq_add_neg _ _).symm
    have hhi := hh i (by omega)
    -- what column i gives
    have key : ∃ T, R + wo σ i * T = s ∧ R / wo σ i = s / wo σ i - T ∧ tkT σ h (σ 0 - 1 - i) i (s / wo σ i) = T + min (R / wo σ i) (h i) ∧ ∀ j, i ≤ j → j < σ 0 → (mr P 1 (upd (P 1) i (nI (min (R / wo σ i) (h i))))) 1 j = nI (tkP σ h (σ 0 - 1 - i) i (s / wo σ i) j) := by
      by_cases q : i + 1 = σ 0
      · have e : R = s := hR0 q
        have ed : σ 0 - 1 - i = 0 := by omega
        refine ⟨0, by omega, by rw [e, Nat.sub_zero], ?_, fun j j1 j2 => ?_⟩
        · rw [ed, e, Nat.zero_add]; rfl
        · obtain rfl : j = i := by omega
          rw [mr_s, pk_us, ed, e]; rfl
      · obtain ⟨r1, r2⟩ := hR (by omega)
        have ed : σ 0 - 1 - i = (σ 0 - 1 - (i + 1)) + 1 := by omega
        have ew : wo σ (i + 1) = wo σ i * uR σ i := rfl
        have edd : s / wo σ (i + 1) = s / wo σ i / uR σ i := by rw [ew, Nat.div_div_eq_div_mul]
        rw [edd, ew, Nat.mul_assoc] at r1
        rw [edd] at r2
        have eq : R / wo σ i = s / wo σ i - uR σ i * tkT σ h (σ 0 - 1 - (i + 1)) (i + 1) (s / wo σ i / uR σ i) := by
          have er : R = s - wo σ i * (uR σ i * tkT σ h (σ 0 - 1 - (i + 1)) (i + 1) (s / wo σ i / uR σ i)) := by omega
          rw [er]
          exact Nat.sub_mul_div_of_le _ _ _ (by omega)
        refine ⟨uR σ i * tkT σ h (σ 0 - 1 - (i + 1)) (i + 1) (s / wo σ i / uR σ i), r1, eq, ?_, fun j j1 j2 => ?_⟩
        · rw [ed, eq]; rfl
        · rw [mr_s, ed]
          show _ = nI (if j = i then min (s / wo σ i - uR σ i * tkT σ h (σ 0 - 1 - (i + 1)) (i + 1) (s / wo σ i / uR σ i)) (h i) else tkP σ h (σ 0 - 1 - (i + 1)) (i + 1) (s / wo σ i / uR σ i) j)
          by_cases g : j = i
          · rw [if_pos g, g, pk_us, eq]
          · rw [if_neg g, pk_un g]; exact r2 j (by omega) j2
    obtain ⟨T, t1, t2, t3, t4⟩ := key
    have dl : R / wo σ i ≤ R := Nat.div_le_self _ _
    have dm := Nat.div_mul_le_self R (wo σ i)
    have pm : min (R / wo σ i) (h i) * wo σ i ≤ R := Nat.le_trans (Nat.mul_le_mul_right _ (Nat.min_le_left _ _)) dm
    obtain ⟨P', a1, a2, a3⟩ := h_tf10 (F := F) (LP := LP) (wP := wP) (vP := vP) hC hs h0' hh hS k i n (R - min (R / wo σ i) (h i) * wo σ i) (mr P 1 (upd (P 1) i (nI (min (R / wo σ i) (h i))))) (by omega) (by omega) (fun c hc => by rw [mr_n _ _ (by decide)]; exact hP c hc) (fun g => by omega) (fun g => ⟨by
      rw [t3, Nat.mul_add, Nat.mul_comm (wo σ i) (min (R / wo σ i) (h i))]
      omega, t4⟩)
    refine ⟨P', ?_, a2, fun q hq => by rw [a3 q hq, mr_n _ _ hq]⟩
    rw [f_X5_takeFewest_10, dn_s, if_neg (show ¬ nI i < (0 : Int32) from nI_nlt (b := 0) (by omega) (by omega)), ck_n (by omega) (by decide), nI_clamp (by omega), cWo hC (by omega), if_neg (show ¬ nI (wo σ i) ≤ (0 : Int32) from nI_ge (a := 0) (by omega) (by omega)), ck_n (by omega) (by decide), dv_n (by omega) (by omega), pk_div (by omega) (by omega) (by omega)]
    unfold f_X5_takeFewest_38
    rw [ck_n (by omega) (by decide), ck_n (by omega) (by decide), ck_n (by omega) (by decide), ck_n (by omega) (by decide), nI_clamp (by omega), hP i (by omega), min_n (by omega) (by omega), pk_us, cWo hC (by omega), nI_mul', nI_sub' pm, dnn]
    exact a1
theorem h_takeFewest {F : Nat} {C P : Mem} {LP : MemL} {wP vP : Bool} {σ : Sg} (hF : 10 ≤ F) (hC : StC C σ) (hs : okS σ) (h0' : 0 < σ 0) {h : Nat → Nat} (hh : ∀ c, c < σ 0 → h c ≤ 999) (hP : PtH σ h P) {s : Nat} (hS : s < 2147483648) : ∃ P', f_X5_takeFewest F P LP wP vP C (nI s) = some (if tkT σ h (σ 0 - 1) 0 s = s then 1 else 0, P') ∧ (∀ j, j < σ 0 → P' 1 j = nI (tkP σ h (σ 0 - 1) 0 s j)) ∧ (∀ q, q ≠ 1 → P' q = P q) := by
  have h0 := kC hs
  have le := tkT_le σ h (σ 0 - 1) 0 s
  obtain ⟨P', a1, a2, a3⟩ := h_tf10 (F := F) (LP := LP) (wP := wP) (vP := vP) hC hs h0' hh hS (fun P_83 x3_83 => (if x3_83 = 0 then (some (1, P_83)) else (some (0, P_83)))) (σ 0) F s P (Nat.le_refl _) (by omega) hP (fun _ => rfl) (fun g => by omega)
  refine ⟨P', ?_, a2, a3⟩
  unfold f_X5_takeFewest
  rw [cC hC]
  refine Eq.trans a1 ?_
  by_cases q : tkT σ h (σ 0 - 1) 0 s = s
  · rw [if_pos q, q, Nat.sub_self, if_pos n00]
  · rw [if_neg q, if_neg (nI_ne0 (by omega) (by omega))]
def rS (f : Nat → Nat) : Nat → Nat → Nat
  | _, 0 => 0
  | c, n + 1 => f c + rS f (c + 1) n
theorem rS_cg {f g : Nat → Nat} : ∀ n c, (∀ j, c ≤ j → f j = g j) → rS f c n = rS g c n
  | 0, _, _ => rfl
  | n + 1, c, h => by
    show f c + rS f (c + 1) n = g c + rS g (c + 1) n
    rw [h c (Nat.le_refl _), rS_cg n (c + 1) (fun j hj => h j (by omega))]
theorem rS_tk (σ : Sg) (h : Nat → Nat) : ∀ d c v, rS (tkP σ h d c v) c (d + 1) = tkN σ h d c v
  | 0, c, v => rfl
  | d + 1, c, v => by
    have e : rS (tkP σ h (d + 1) c v) c (d + 1 + 1) = tkP σ h (d + 1) c v c + rS (tkP σ h (d + 1) c v) (c + 1) (d + 1) := rfl
    have e1 : tkP σ h (d + 1) c v c = min (v - uR σ c * tkT σ h d (c + 1) (v / uR σ c)) (h c) := if_pos rfl
    have e2 : tkN σ h (d + 1) c v = tkN σ h d (c + 1) (v / uR σ c) + min (v - uR σ c * tkT σ h d (c + 1) (v / uR σ c)) (h c) := rfl
    rw [e, e1, e2, rS_cg (f := tkP σ h (d + 1) c v) (g := tkP σ h d (c + 1) (v / uR σ c)) (d + 1) (c + 1) (fun j hj => if_neg (by omega)), rS_tk σ h d (c + 1) (v / uR σ c), Nat.add_comm]
theorem h_cp4 {F : Nat} {C P : Mem} {LP : MemL} {wP vP : Bool} {σ : Sg} (hC : StC C σ) (hs : okS σ) {f : Nat → Nat} (hf : ∀ j, j < σ 0 → P 1 j = nI (f j)) (k : Int32 → Option Int32) : ∀ (d i n a : Nat), i + d = σ 0 → d < n → f_X5_countParts_4 F P LP wP vP C k n (nI a) (nI i) = k (nI (a + rS f i d))
  | d, i, 0, a, _, h => by omega
  | 0, i, n + 1, a, hi, _ => by
    have h0 := kC hs
    rw [f_X5_countParts_4, cC hC, if_pos (nI_le (by omega) (by omega))]; rfl
  | d + 1, i, n + 1, a, hi, hn => by
    have h0 := kC hs
    have e : rS f i (d + 1) = f i + rS f (i + 1) d := rfl
    rw [f_X5_countParts_4, cC hC, if_neg (nI_ge (by omega) (by omega)), ck_n (by omega) (by decide), nI_clamp (by omega), hf i (by omega), nI_add, nI_1, e, ← Nat.add_assoc]
    exact h_cp4 hC hs hf k d (i + 1) n (a + f i) (by omega) (by omega)
theorem g_tk31 {F : Nat} {LM : MemL} {σ : Sg} (hs : okS σ) {r : Nat} (hr : r < 4) (x2 x3 : Int32) (k : Mem → Option (Int32 × Mem × MemL)) : ∀ (d i n : Nat) (M : Mem), i + d = σ 0 → d < n → StM M σ → (∀ c, c < i → M 9 c = zI (-((0 : Nat) : Int)) ∧ M 10 c = nI (σ (8 + (6 * r + c)))) → ∃ M', f_X10_taken_31 F LM (nI r) x2 x3 k n M (nI i) = k M' ∧ (∀ q, q ≠ 9 → q ≠ 10 → M' q = M q) ∧ FwH σ (fun _ => 0) (fun c => σ (8 + (6 * r + c))) M'
  | d, i, 0, M, _, h, _, _ => by omega
  | 0, i, n + 1, M, hi, _, hM, hA => by
    have h0 := kC hs
    refine ⟨M, by rw [f_X10_taken_31, ck0, m0c, hM 0 (by decide), if_pos (nI_le (by omega) (by omega))], fun _ _ _ => rfl, hM, fun c hc => hA c (by omega)⟩
  | d + 1, i, n + 1, M, hi, hn, hM, hA => by
    have h0 := kC hs
    have hM1 : StM (mr M 9 (upd (M 9) i 0)) σ := fun j hj => by rw [mr_n _ _ (by decide)]; exact hM j hj
    obtain ⟨M', a1, a2, a3⟩ := g_tk31 (F := F) (LM := LM) hs hr x2 x3 k d (i + 1) n (mr (mr M 9 (upd (M 9) i 0)) 10 (upd (M 10) i (nI (σ (8 + (6 * r + i)))))) (by omega) (by omega) (fun j hj => by rw [mr_n _ _ (by decide)]; exact hM1 j hj) (fun c hc => by
      rw [mr_n _ _ (by decide), mr_s, mr_s]
      by_cases e : c = i
      · rw [e, pk_us, pk_us]; exact ⟨rfl, rfl⟩
      · rw [pk_un e, pk_un e]; exact hA c (by omega))
    refine ⟨M', ?_, fun q h9 h10 => by rw [a2 q h9 h10, mr_n _ _ h10, mr_n _ _ h9], a3⟩
    rw [f_X10_taken_31, ck0, m0c, hM 0 (by decide), if_neg (nI_ge (by omega) (by omega)), ck_n (by omega) (by decide), nI_clamp (by omega), g_now hM1 F hr (by omega), Option.bind_some, ck_n (by omega) (by decide), nI_1, Nat.add_assoc]
    exact a1
theorem m_taken {C M P X0 : Mem} {LM LP : MemL} {wP vP : Bool} {σ : Sg} (hC : StC C σ) (hM : StM M σ) (hs : okS σ) {F : Nat} (hF : 10000 ≤ F) (x1 x2 x3 : Int32) : ∃ v P' M' LM', f_X9_taken F X0 C P LP wP vP x1 x2 x3 = some (v, P') ∧ f_X10_taken F M LM x1 x2 x3 = some (v, M', LM') ∧ Pm M M' := by
  have h0 := kC hs
  have h1 := kR hs
  -- rows and sums that are right, and a column that is one, or all
  have main : ∀ r z, r < σ 1 → z < 2147483648 → (x3 = -1 ∨ ∃ c, c < σ 0 ∧ x3 = nI c) → ∃ v P' M' LM', f_X9_taken_21 F X0 C P LP wP vP (nI r) (nI z) x3 1 = some (v, P') ∧ f_X10_taken_31 F LM (nI r) (nI z) x3 (fun M_70 => (f_X10_fewest F M_70 LM ((nI z)).toInt64).bind (fun z73 => (if z73.1 = (-2) then (some (z73.1, z73.2.1, z73.2.2)) else (if x3 = (-1) then (some (z73.1, z73.2.1, z73.2.2)) else ck x3 6 ((some (((z73.2.1 11) x3.toNatClampNeg), z73.2.1, z73.2.2))))))) F M 0 = some (v, M', LM') ∧ Pm M M' := fun r z hr hz hx => by
    have h0' := kCR hs (by omega)
    have hh : ∀ c, c < σ 0 → σ (8 + (6 * r + c)) ≤ 99 := fun c hc => (kCe hs (j := 6 * r + c) (by omega)).1
    have okf : okF σ (fun _ => 0) (fun c => σ (8 + (6 * r + c))) := ⟨hs, h0', fun c hc => ⟨Nat.zero_le _, hh c hc⟩⟩
    obtain ⟨P1, a1, a2, a3⟩ := h_lift (F := F) (P := P) (LP := LP) (wP := wP) (vP := vP) (by omega) hC hs (r := r) (by omega)
    obtain ⟨P2, b1, b2, b3⟩ := h_takeFewest (F := F) (LP := LP) (wP := wP) (vP := vP) (by omega) hC hs h0' (fun c hc => Nat.le_trans (hh c hc) (by decide)) a3 hz
    obtain ⟨M1, c1, c2, c3⟩ := g_tk31 (F := F) (LM := LM) hs (r := r) (by omega) (nI z) x3 (fun M_70 => (f_X10_fewest F M_70 LM ((nI z)).toInt64).bind (fun z73 => (if z73.1 = (-2) then (some (z73.1, z73.2.1, z73.2.2)) else (if x3 = (-1) then (some (z73.1, z73.2.1, z73.2.2)) else ck x3 6 ((some (((z73.2.1 11) x3.toNatClampNeg), z73.2.1, z73.2.2))))))) (σ 0) 0 F M (by omega) (by omega) hM (fun c hc => by omega)
    obtain ⟨M2, LM2, d1, d2⟩ := g_fewest (F := F) (LM := LM) hF okf c3 hz
    have pm : Pm M M2 := ⟨(d1 1 (by decide) (by decide)).trans (c2 1 (by decide) (by decide)), (d1 3 (by decide) (by decide)).trans (c2 3 (by decide) (by decide)), (d1 21 (by decide) (by decide)).trans (c2 21 (by decide) (by decide)), (d1 22 (by decide) (by decide)).trans (c2 22 (by decide) (by decide)), by rw [d1 0 (by decide) (by decide), c2 0 (by decide) (by decide)], by rw [d1 0 (by decide) (by decide), c2 0 (by decide) (by decide)]⟩
    obtain ⟨t1, t2⟩ := bs_tk hs hh (σ 0 - 1) 0 z (by omega)
    have c1' : f_X10_taken_31 F LM (nI r) (nI z) x3 (fun M_70 => (f_X10_fewest F M_70 LM ((nI z)).toInt64).bind (fun z73 => (if z73.1 = (-2) then (some (z73.1, z73.2.1, z73.2.2)) else (if x3 = (-1) then (some (z73.1, z73.2.1, z73.2.2)) else ck x3 6 ((some (((z73.2.1 11) x3.toNatClampNeg), z73.2.1, z73.2.2))))))) F M 0 = (f_X10_fewest F M1 LM ((nI z)).toInt64).bind (fun z73 => (if z73.1 = (-2) then (some (z73.1, z73.2.1, z73.2.2)) else (if x3 = (-1) then (some (z73.1, z73.2.1, z73.2.2)) else ck x3 6 ((some (((z73.2.1 11) x3.toNatClampNeg), z73.2.1, z73.2.2)))))) := c1
    have zp : (0 : Int32) ≤ nI z := nI_le (a := 0) (by omega) hz
    have cl : f_X9_taken_21 F X0 C P LP wP vP (nI r) (nI z) x3 1 = (if (if tkT σ (fun c => σ (8 + (6 * r + c))) (σ 0 - 1) 0 z = z then (1 : Int32) else 0) = 0 then (some ((-2), P2)) else (if x3 = (-1) then (f_X5_countParts F P2 LP wP vP C).bind (fun z89 => (some (z89, P2))) else ck x3 6 ((some (((P2 1) x3.toNatClampNeg), P2))))) := by
      unfold f_X9_taken_21
      rw [hasRow_n hC h1 F hr, Option.bind_some, if_neg n10, if_neg (show ¬ (1 : Int32) = 0 by decide), if_pos zp, a1, Option.bind_some, b1, Option.bind_some]
    rcases d2 with ⟨e1, e2⟩ | ⟨e1, e2, f, e3, e4⟩
    · have nf : ¬ tkT σ (fun c => σ (8 + (6 * r + c))) (σ 0 - 1) 0 z = z := fun q => by
        have g := (t1 q).1
        have g2 := tkN_le hh (σ 0 - 1) 0 z (by omega)
        rw [e1] at g
        omega
      refine ⟨-2, P2, M2, LM2, ?_, ?_, pm⟩
      · rw [cl, if_neg nf, if_pos (rfl : (0 : Int32) = 0)]
      · rw [c1', e2, Option.bind_some, if_pos (rfl : (-2 : Int32) = -2)]
    · have fe : tkT σ (fun c => σ (8 + (6 * r + c))) (σ 0 - 1) 0 z = z := by
        by_cases q : tkT σ (fun c => σ (8 + (6 * r + c))) (σ 0 - 1) 0 z = z
        · exact q
        · rw [t2 q] at e1
          omega
      obtain ⟨g1, g2⟩ := t1 fe
      have gl := tkN_le hh (σ 0 - 1) 0 z (by omega)
      have ns : ¬ nI (bsN σ (fun _ => 0) (fun c => σ (8 + (6 * r + c))) (σ 0 - 1) 0 z) = -2 := fun q => by
        have := congrArg Int32.toInt q
        rw [nI_toInt (by omega), show (-2 : Int32).toInt = -2 by decide] at this
        omega
      rcases hx with hx | ⟨c, hc, hx⟩
      · refine ⟨nI (tkN σ (fun c => σ (8 + (6 * r + c))) (σ 0 - 1) 0 z), P2, M2, LM2, ?_, ?_, pm⟩
        · have cp := h_cp4 (F := F) (LP := LP) (wP := wP) (vP := vP) hC hs b2 (fun x2_27 => (some x2_27)) (σ 0) 0 F 0 (by omega) (by omega)
          have er := rS_tk σ (fun c => σ (8 + (6 * r + c))) (σ 0 - 1) 0 z
          rw [Nat.sub_add_cancel h0'] at er
          rw [Nat.zero_add, er] at cp
          have cp' : f_X5_countParts F P2 LP wP vP C = some (nI (tkN σ (fun c => σ (8 + (6 * r + c))) (σ 0 - 1) 0 z)) := cp
          rw [cl, if_pos fe, if_neg (show ¬ (1 : Int32) = 0 by decide), if_pos hx, cp', Option.bind_some]
        · rw [c1', e2, Option.bind_some, if_neg ns, if_pos hx, g1]
      · have nx3 : ¬ x3 = -1 := fun q => by
          have := congrArg Int32.toInt (hx.symm.trans q)
          rw [nI_toInt (by omega), show (-1 : Int32).toInt = -1 by decide] at this
          omega
        refine ⟨nI (tkP σ (fun c => σ (8 + (6 * r + c))) (σ 0 - 1) 0 z c), P2, M2, LM2, ?_, ?_, pm⟩
        · rw [cl, if_pos fe, if_neg (show ¬ (1 : Int32) = 0 by decide), if_neg nx3, hx, ck_n (by omega) (by decide), nI_clamp (by omega), b2 c hc]
        · rw [c1', e2, Option.bind_some, if_neg ns, if_neg nx3, hx, ck_n (by omega) (by decide), nI_clamp (by omega)]
          show some (M2 11 c, M2, LM2) = _
          rw [e4 c hc, g2 f e3 c (Nat.zero_le _) hc, zI_c]
  rcases ix_cases x1 (n := σ 1) (by omega) with ⟨r, hr, rfl⟩ | hn
  · by_cases q : x2 < 0
    · -- the sum is below 0
      have cls : ∀ s0, f_X9_taken_21 F X0 C P LP wP vP (nI r) x2 x3 s0 = some (-3, P) := fun s0 => by
        unfold f_X9_taken_21
        rw [hasRow_n hC h1 F hr, Option.bind_some, if_neg n10]
        by_cases g : s0 = 0
        · rw [if_pos g]
        · rw [if_neg g, if_neg (Int32.not_le.mpr q)]
      refine ⟨-3, P, M, LM, ?_, ?_, Pm_rfl M⟩
      · unfold f_X9_taken
        by_cases g : x3 = -1
        · rw [if_pos g, cls]
        · rw [if_neg g, h_hasColumn hC, Option.bind_some, cls, cls]
          split <;> rfl
      · unfold f_X10_taken
        rw [isRow_n hM h1 F hr, Option.bind_some, if_neg n10, if_pos q]
    · obtain ⟨z, z1, z2, rfl⟩ := zI_of x2
      have zp : 0 ≤ z := by
        have := Int32.not_lt.mp q
        rw [Int32.le_iff_toInt_le, zI_toInt z1 z2, show (0 : Int32).toInt = 0 by decide] at this
        exact this
      rw [nI_of0 zp] at q ⊢
      have za : z.toNat < 2147483648 := by omega
      unfold f_X9_taken f_X10_taken
      rw [isRow_n hM h1 F hr, Option.bind_some, if_neg n10, if_neg q]
      by_cases g : x3 = -1
      · rw [if_pos g, if_pos g]
        exact main r z.toNat hr za (Or.inl g)
      · rw [if_neg g, if_neg g]
        rcases ix_cases x3 (n := σ 0) (by omega) with ⟨c, hc, hx⟩ | hn
        · rw [hx, hasCol_n hC h0 F hc, isCol_n hM h0 F hc, Option.bind_some, Option.bind_some, if_neg n10, if_neg n10, ← hx]
          exact main r z.toNat hr za (Or.inr ⟨c, hc, hx⟩)
        · rw [h_hasColumn hC, g_isColumn hM h0, if_neg hn, Option.bind_some, Option.bind_some, if_pos (rfl : (0 : Int32) = 0), if_pos (rfl : (0 : Int32) = 0)]
          refine ⟨-3, P, M, LM, ?_, rfl, Pm_rfl M⟩
          unfold f_X9_taken_21
          rw [hasRow_n hC h1 F hr, Option.bind_some, if_neg n10, if_pos (rfl : (0 : Int32) = 0)]
  · have cls : ∀ s0, f_X9_taken_21 F X0 C P LP wP vP x1 x2 x3 s0 = some (-3, P) := fun s0 => by
      unfold f_X9_taken_21
      rw [h_hasRow hC, if_neg hn, Option.bind_some, if_pos (rfl : (0 : Int32) = 0)]
    refine ⟨-3, P, M, LM, ?_, ?_, Pm_rfl M⟩
    · unfold f_X9_taken
      by_cases g : x3 = -1
      · rw [if_pos g, cls]
      · rw [if_neg g, h_hasColumn hC, Option.bind_some, cls, cls]
        split <;> rfl
    · unfold f_X10_taken
      rw [g_isRow hM h1, if_neg hn, Option.bind_some, if_pos (rfl : (0 : Int32) = 0)]
