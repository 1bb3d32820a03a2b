/-! PURE LAYER: breaks, the reference -/
def AbM (M : Mem) (q : Nat) (A : Nat → Nat) : Prop := ∀ j, j < 840 → M q j = nI (A j) ∧ A j ≤ 1000000
/-- every finite entry is the cost of a way so far -/
def SdB (σ : Sg) (h : Nat → Nat) (s d c T : Nat) (A : Nat → Nat) : Prop := ∀ k b, k < 420 → b < 2 → A (2 * k + b) < 1000000 → k ≤ 101 ∧ k ≤ T ∧ A (2 * k + b) ≤ c ∧ ∀ v, Fe σ h d c (T - k) b v → Fe σ h (σ 0 - 1) 0 s 0 (A (2 * k + b) + v)
/-- some entry leads to v or less -/
def CvB (σ : Sg) (h : Nat → Nat) (d c T : Nat) (A : Nat → Nat) (v : Nat) : Prop := ∃ k b v', k ≤ 101 ∧ k ≤ T ∧ b < 2 ∧ A (2 * k + b) < 1000000 ∧ A (2 * k + b) + v' ≤ v ∧ Fe σ h d c (T - k) b v'
theorem CvB_m {σ : Sg} {h : Nat → Nat} {d c T : Nat} {A A' : Nat → Nat} {v v' : Nat} (H : CvB σ h d c T A v) (hA : ∀ j, A' j ≤ A j) (hv : v ≤ v') : CvB σ h d c T A' v' := by
  obtain ⟨k, b, w, a1, a2, a3, a4, a5, a6⟩ := H
  have := hA (2 * k + b)
  exact ⟨k, b, w, a1, a2, a3, by omega, by omega, a6⟩
def mnA (A : Nat → Nat) (p x : Nat) (j : Nat) : Nat := if j = p then min (A j) x else A j
theorem mnA_le (A : Nat → Nat) (p x j : Nat) : mnA A p x j ≤ A j := by
  unfold mnA
  by_cases e : j = p
  · rw [if_pos e]; exact Nat.min_le_left _ _
  · rw [if_neg e]; exact Nat.le_refl _
theorem mnA_p (A : Nat → Nat) (p x : Nat) : mnA A p x p ≤ x := by
  unfold mnA
  rw [if_pos rfl]; exact Nat.min_le_right _ _
theorem g_brings {F : Nat} {M : Mem} {LM : MemL} {A : Nat → Nat} (hA : AbM M 14 A) {k b x : Nat} (hk : k < 420) (hb : b < 2) (hx : x ≤ 1000000) : ∃ M', f_X10_brings F M LM (nI k) (nI b) (nI x) = some M' ∧ (∀ q, q ≠ 14 → M' q = M q) ∧ AbM M' 14 (mnA A (2 * k + b) x) := by
  have e1 : (2 : Int32) * nI k + nI b = nI (2 * k + b) := by
    have : (2 : Int32) * nI k = nI (2 * k) := nI_mul' 2 k
    rw [this, nI_add]
  obtain ⟨a1, a2⟩ := hA (2 * k + b) (by omega)
  unfold f_X10_brings
  rw [e1, ck_n (by omega) (by decide), nI_clamp (by omega), a1]
  by_cases q : A (2 * k + b) ≤ x
  · rw [if_pos (nI_le q (by omega))]
    refine ⟨M, rfl, fun _ _ => rfl, fun j hj => ?_⟩
    unfold mnA
    by_cases e : j = 2 * k + b
    · rw [if_pos e, e, Nat.min_eq_left q]
      exact ⟨a1, a2⟩
    · rw [if_neg e]; exact hA j hj
  · rw [if_neg (nI_ge (by omega) (by omega)), ck_n (by omega) (by decide)]
    refine ⟨_, rfl, fun q hq => mr_n _ _ hq, fun j hj => ?_⟩
    unfold mnA
    by_cases e : j = 2 * k + b
    · rw [if_pos e, e, Nat.min_eq_right (by omega), mr_s, pk_us]
      exact ⟨rfl, hx⟩
    · rw [if_neg e, mr_s, pk_un e]; exact hA j hj
theorem SdB_mn {σ : Sg} {h : Nat → Nat} {s d c T : Nat} {A : Nat → Nat} (H : SdB σ h s d c T A) {k b x : Nat} (h1 : k ≤ 101) (h2 : k ≤ T) (h3 : b < 2) (h4 : x ≤ c) (h5 : ∀ v, Fe σ h d c (T - k) b v → Fe σ h (σ 0 - 1) 0 s 0 (x + v)) : SdB σ h s d c T (mnA A (2 * k + b) x) := fun k' b' hk' hb' hf => by
  unfold mnA at hf ⊢
  by_cases e : 2 * k' + b' = 2 * k + b
  · obtain rfl : k' = k := by omega
    obtain rfl : b' = b := by omega
    rw [if_pos rfl] at hf ⊢
    by_cases q : A (2 * k' + b') ≤ x
    · rw [Nat.min_eq_left q] at hf ⊢
      exact H k' b' hk' hb' hf
    · rw [Nat.min_eq_right (by omega)]
      exact ⟨h1, h2, h4, h5⟩
  · rw [if_neg e] at hf ⊢
    exact H k' b' hk' hb' hf
theorem lgL {a b : Nat} (ha : a < 2147483648) (hb : b < 2147483648) : lg_cmp (nI a).toInt64 (nI b).toInt64 ≤ 0 ↔ a ≤ b := by
  rw [← Int32.not_lt, lgG ha hb]
  omega
theorem kb_le {T L k u w x : Nat} (hu : 2 ≤ u) (hT : T = L + k) (hL : L = u * w + x) (hk : k ≤ 101) (hx : x ≤ 99) : w ≤ T / u ∧ T / u - w ≤ 101 := by
  have e : T = u * w + (x + k) := by omega
  have e2 : T / u = w + (x + k) / u := by rw [e, Nat.mul_add_div (by omega)]
  have e3 : (x + k) / u ≤ (x + k) / 2 := Nat.div_le_div_left hu (by decide)
  refine ⟨?_, ?_⟩
  · rw [e2]; exact Nat.le_add_right _ _
  · rw [e2, Nat.add_sub_cancel_left]; exact Nat.le_trans e3 (by omega)
theorem g_bo96 {F : Nat} {LM : MemL} {σ : Sg} {h : Nat → Nat} {s d c T L k u had he b : Nat} (hu1 : uR σ c = u) (hu : 2 ≤ u) (hu2 : u ≤ 20) (hT : T = L + k) (hTs : T < 2147483648) (hk : k ≤ 101) (hh : he ≤ 99) (hhb : he + b ≤ h c) (hhad : had ≤ c) (hc : c < 6) (hS : ∀ v, Fe σ h (d + 1) c L b v → Fe σ h (σ 0 - 1) 0 s 0 (had + v)) (kk : Mem → Option Mem) : ∀ (e x0 n : Nat) (M : Mem) (N : Nat → Nat), he < x0 + e → e < n → x0 % u = L % u → x0 ≤ 200 → AbM M 14 N → SdB σ h s d (c + 1) (T / u) N → ∃ M' N', f_X10_breaksOn_96 F LM (nI (T / u)).toInt64 (nI had) (nI L).toInt64 (nI u) (nI he) kk n M (nI x0).toInt64 = kk M' ∧ (∀ q, q ≠ 14 → M' q = M q) ∧ AbM M' 14 N' ∧ SdB σ h s d (c + 1) (T / u) N' ∧ (∀ j, N' j ≤ N j) ∧ ∀ x w, x0 ≤ x → L = u * w + x → x ≤ he → N' (2 * (T / u - w) + 0) ≤ had
  | e, x0, 0, M, N, _, h, _, _, _, _ => by omega
  | e, x0, n + 1, M, N, h1, h2, h3, h4, hA, hSd => by
    have stop : ¬ (x0 ≤ he ∧ x0 ≤ L) → f_X10_breaksOn_96 F LM (nI (T / u)).toInt64 (nI had) (nI L).toInt64 (nI u) (nI he) kk (n + 1) M (nI x0).toInt64 = kk M := fun hs => by
      rw [f_X10_breaksOn_96]
      by_cases q : he < x0
      · rw [if_pos ((lgG (by omega) (by omega)).mpr q)]
      · rw [if_neg (fun h => q ((lgG (by omega) (by omega)).mp h)), if_pos ((lgG (by omega) (by omega)).mpr (by omega))]
    by_cases q : x0 ≤ he ∧ x0 ≤ L
    · obtain ⟨e, rfl⟩ : ∃ f, e = f + 1 := ⟨e - 1, by omega⟩
      -- the rest is a multiple
      have dv : L = u * ((L - x0) / u) + x0 := by
        have : (L - x0) % u = 0 := by
          have := Nat.sub_mod_eq_zero_of_mod_eq h3.symm
          exact this
        have e2 := Nat.div_add_mod (L - x0) u
        omega
      obtain ⟨k1, k2⟩ := kb_le hu hT dv hk (by omega)
      have tl : T / u ≤ T := Nat.div_le_self _ _
      have ll : (L - x0) / u ≤ L - x0 := Nat.div_le_self _ _
      have eix : ((nI (T / u)).toInt64 - ((nI L).toInt64 - (nI x0).toInt64) / (nI u).toInt64).toInt32 = nI (T / u - (L - x0) / u) := by
        rw [iL_sub q.2 (by omega), iL_div (by omega) (by omega) (by omega), iL_sub k1 (by omega), lg_l2i_i2l]
      have enx : (nI x0).toInt64 + (nI u).toInt64 = (nI (x0 + u)).toInt64 := iL_add (by omega)
      obtain ⟨M1, a1, a2, a3⟩ := g_brings (F := F) (LM := LM) hA (k := T / u - (L - x0) / u) (b := 0) (x := had) (by omega) (by omega) (by omega)
      have Sd1 := SdB_mn hSd (k := T / u - (L - x0) / u) (b := 0) (x := had) k2 (Nat.sub_le _ _) (by omega) (by omega) (fun v hv => by
        have e3 : T / u - (T / u - (L - x0) / u) = (L - x0) / u := Nat.sub_sub_self k1
        rw [e3] at hv
        exact hS v (Fe_mk0 (by rw [hu1]; exact dv) (by omega) hv))
      obtain ⟨M', N', b1, b2, b3, b4, b5, b6⟩ := g_bo96 (F := F) (LM := LM) (T := T) (k := k) (had := had) (he := he) hu1 hu hu2 hT hTs hk hh hhb hhad hc hS kk e (x0 + u) n M1 _ (by omega) (by omega) (by rw [Nat.add_mod_right]; exact h3) (by omega) a3 Sd1
      refine ⟨M', N', ?_, fun q hq => by rw [b2 q hq, a2 q hq], b3, b4, fun j => Nat.le_trans (b5 j) (mnA_le _ _ _ _), fun x w x1 x2 x3 => ?_⟩
      · rw [f_X10_breaksOn_96, if_neg (fun h => absurd ((lgG (by omega) (by omega)).mp h) (by omega)), if_neg (fun h => absurd ((lgG (by omega) (by omega)).mp h) (by omega)), dvL_ne (iL_ne (by omega) (by omega)), eix]
        have a1' : f_X10_brings F M LM (nI (T / u - (L - x0) / u)) 0 (nI had) = some M1 := a1
        rw [a1', Option.bind_some, enx]
        exact b1
      · by_cases g : x0 + u ≤ x
        · exact b6 x w g x2 x3
        · -- the same one
          have ew : w = (L - x0) / u := by
            by_cases w1 : w < (L - x0) / u
            · have := Nat.mul_le_mul_left u w1
              rw [Nat.mul_succ] at this
              omega
            · by_cases w2 : (L - x0) / u < w
              · have := Nat.mul_le_mul_left u w2
                rw [Nat.mul_succ] at this
                omega
              · omega
          rw [ew]
          exact Nat.le_trans (b5 _) (mnA_p _ _ _)
    · refine ⟨M, N, stop q, fun _ _ => rfl, hA, hSd, fun _ => Nat.le_refl _, fun x w x1 x2 x3 => ?_⟩
      exact absurd ⟨by omega, by omega⟩ q
theorem g_breaksOn {F : Nat} {M : Mem} {LM : MemL} {σ : Sg} (hF : 1000 ≤ F) (hM : StM M σ) (hs : okS σ) {r : Nat} (hr : r < 4) {s d c T : Nat} (hc : c + 1 < σ 0) (hT : T < 2147483648) {A N : Nat → Nat} (hA : AbM M 13 A) (hN : AbM M 14 N) (hSA : SdB σ (fun j => σ (8 + (6 * r + j))) s (d + 1) c T A) (hSN : SdB σ (fun j => σ (8 + (6 * r + j))) s d (c + 1) (T / uR σ c) N) {k b : Nat} (hk : k < 420) (hb : b < 2) : ∃ M' N', f_X10_breaksOn F M LM (nI r) (nI c) (nI T).toInt64 (nI (T / uR σ c)).toInt64 (nI k) (nI b) = some M' ∧ (∀ q, q ≠ 14 → M' q = M q) ∧ AbM M' 14 N' ∧ SdB σ (fun j => σ (8 + (6 * r + j))) s d (c + 1) (T / uR σ c) N' ∧ (∀ j, N' j ≤ N j) ∧ ∀ v, k ≤ T → A (2 * k + b) < 1000000 → Fe σ (fun j => σ (8 + (6 * r + j))) (d + 1) c (T - k) b v → CvB σ (fun j => σ (8 + (6 * r + j))) d (c + 1) (T / uR σ c) N' (A (2 * k + b) + v) := by
  have h0 := kC hs
  have ce := (kCe hs (j := 6 * r + c) (by omega)).1
  obtain ⟨u1, u2⟩ := uR_b hs (c := c) hc
  have e1 : (2 : Int32) * nI k + nI b = nI (2 * k + b) := by
    have : (2 : Int32) * nI k = nI (2 * k) := nI_mul' 2 k
    rw [this, nI_add]
  obtain ⟨a1, a2⟩ := hA (2 * k + b) (by omega)
  have rt : f_X10_ratio F M LM (nI c + 1) = some (nI (uR σ c)) := by
    rw [nI_1]
    exact g_ratio hM F (by omega)
  have nw : f_X10_now F M LM (nI r) (nI c) = some (nI (σ (8 + (6 * r + c)))) := by rw [g_now hM F hr (by omega), Nat.add_assoc]
  unfold f_X10_breaksOn
  rw [e1, ck_n (by omega) (by decide), nI_clamp (by omega), a1]
  by_cases q : A (2 * k + b) < 1000000
  · obtain ⟨s1, s2, s3, s4⟩ := hSA k b hk hb q
    obtain ⟨L, eL⟩ : ∃ L, L = T - k := ⟨_, rfl⟩
    have eT : T = L + k := by omega
    have esub : (nI T).toInt64 - (nI k).toInt64 = (nI L).toInt64 := by rw [iL_sub s2 hT, eL]
    have g0 : 0 ≤ lg_cmp (nI L).toInt64 0 := by
      rw [nI64 (by omega)]
      exact (zL_ge (by omega) (by omega)).mpr (by omega)
    have ml := Nat.mod_lt L (show 0 < uR σ c by omega)
    have dl : L / uR σ c ≤ L := Nat.div_le_self _ _
    have dm := Nat.div_add_mod L (uR σ c)
    have tl : T / uR σ c ≤ T := Nat.div_le_self _ _
    rw [if_neg (show ¬ (1000000 : Int32) ≤ nI (A (2 * k + b)) from nI_ge (b := 1000000) q (by decide)), esub, if_pos g0, rt, Option.bind_some, nw, Option.bind_some, dvL_ne (iL_ne (by omega) (by omega)), iL_rem (by omega) (by omega) (by omega)]
    by_cases g : L % uR σ c + b ≤ σ (8 + (6 * r + c))
    · -- some of those that lie there
      have ehe : nI (σ (8 + (6 * r + c))) - nI b = nI (σ (8 + (6 * r + c)) - b) := nI_sub' (by omega)
      rw [ehe, if_pos ((lgL (by omega) (by omega)).mpr (by omega))]
      obtain ⟨M', N', b1, b2, b3, b4, b5, b6⟩ := g_bo96 (F := F) (LM := LM) (σ := σ) (h := fun j => σ (8 + (6 * r + j))) (s := s) (d := d) (c := c) (T := T) (L := L) (k := k) (u := uR σ c) (had := A (2 * k + b)) (he := σ (8 + (6 * r + c)) - b) (b := b) rfl u1 u2 eT hT s1 (by omega) (by show σ (8 + (6 * r + c)) - b + b ≤ σ (8 + (6 * r + c)); omega) s3 (by omega) (fun v hv => s4 v (by rw [← eL]; exact hv)) (fun M_144 => (some M_144)) 100 (L % uR σ c) F M N (by omega) (by omega) (Nat.mod_mod _ _) (by omega) hN hSN
      refine ⟨M', N', b1, b2, b3, b4, b5, fun v _ _ hv => ?_⟩
      rw [← eL] at hv
      obtain ⟨x, w, v', c1, c2, c3, c4⟩ := Fe_sml g hv
      have c2' : x + b ≤ σ (8 + (6 * r + c)) := c2
      obtain ⟨k1, k2⟩ := kb_le u1 eT c1 s1 (by omega)
      have z := b6 x w (md_le c1) c1 (by omega)
      refine ⟨T / uR σ c - w, 0, v', k2, by omega, by omega, by omega, by omega, ?_⟩
      have e3 : T / uR σ c - (T / uR σ c - w) = w := by omega
      rw [e3]; exact c4
    · -- one more is broken
      have ehe : nI (σ (8 + (6 * r + c))) - nI b = zI ((σ (8 + (6 * r + c)) : Int) - b) := nn_sub _ _
      have gt : ¬ lg_cmp (nI (L % uR σ c)).toInt64 (zI ((σ (8 + (6 * r + c)) : Int) - b)).toInt64 ≤ 0 := by
        rw [← Int32.not_lt, Classical.not_not, nI64 (by omega), zI64 (by omega) (by omega), zL_gt (by omega) (by omega) (by omega) (by omega)]
        omega
      have eix : ((nI (T / uR σ c)).toInt64 - ((nI L).toInt64 - (nI (L % uR σ c)).toInt64) / (nI (uR σ c)).toInt64).toInt32 = nI (T / uR σ c - L / uR σ c) := by
        have em : L - L % uR σ c = uR σ c * (L / uR σ c) := by omega
        have ed : uR σ c * (L / uR σ c) / uR σ c = L / uR σ c := Nat.mul_div_cancel_left _ (by omega)
        have el : L / uR σ c ≤ T / uR σ c := Nat.div_le_div_right (by omega)
        rw [iL_sub (Nat.mod_le _ _) (by omega), em, iL_div (by omega) (by omega) (by omega), ed, iL_sub el (by omega), lg_l2i_i2l]
      obtain ⟨k1, k2⟩ := kb_le u1 eT dm.symm s1 (by omega)
      obtain ⟨M1, c1, c2, c3⟩ := g_brings (F := F) (LM := LM) hN (k := T / uR σ c - L / uR σ c) (b := 1) (x := A (2 * k + b) + 1) (by omega) (by omega) (by omega)
      have e3 : T / uR σ c - (T / uR σ c - L / uR σ c) = L / uR σ c := Nat.sub_sub_self k1
      have Sd1 := SdB_mn hSN (k := T / uR σ c - L / uR σ c) (b := 1) (x := A (2 * k + b) + 1) k2 (by omega) (by omega) (by omega) (fun v hv => by
        rw [e3] at hv
        have := s4 (1 + v) (by rw [← eL]; exact Fe_mk1 (by omega) (by omega) hv)
        rw [Nat.add_assoc]
        exact this)
      rw [ehe, if_neg gt, dvL_ne (iL_ne (by omega) (by omega)), eix, nI_1]
      have c1' : f_X10_brings F M LM (nI (T / uR σ c - L / uR σ c)) 1 (nI (A (2 * k + b) + 1)) = some M1 := c1
      rw [c1', Option.bind_some]
      refine ⟨M1, _, rfl, c2, c3, Sd1, fun j => mnA_le _ _ _ _, fun v _ _ hv => ?_⟩
      rw [← eL] at hv
      obtain ⟨v', d1, d2⟩ := Fe_big (by show σ (8 + (6 * r + c)) < L % uR σ c + b; omega) hv
      have z := mnA_p N (2 * (T / uR σ c - L / uR σ c) + 1) (A (2 * k + b) + 1)
      exact ⟨T / uR σ c - L / uR σ c, 1, v', k2, by omega, by omega, by omega, by omega, by rw [e3]; exact d2⟩
  · rw [if_pos (show (1000000 : Int32) ≤ nI (A (2 * k + b)) from nI_le (a := 1000000) (by omega) (by omega))]
    exact ⟨M, N, rfl, fun _ _ => rfl, hN, hSN, fun _ => Nat.le_refl _, fun v _ z _ => absurd z q⟩
