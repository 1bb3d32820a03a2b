/-! PURE LAYER: payments, the class's table -/
theorem xor_pos {x y : Int32} (hy : 0 ≤ y) : (0 ≤ x ^^^ y) ↔ 0 ≤ x := by
  have key : ∀ z : Int32, (0 ≤ z) ↔ z.toBitVec.msb = false := fun z => by
    rw [Int32.le_iff_toInt_le, show (0 : Int32).toInt = 0 by decide, BitVec.msb_eq_toInt]
    show 0 ≤ z.toBitVec.toInt ↔ _
    rw [decide_eq_false_iff_not]
    omega
  rw [key, key, Int32.toBitVec_xor, BitVec.msb_xor, (key y).mp hy, Bool.xor_false]
theorem zI_div {a : Int} {u : Nat} (h1 : -2147483648 < a) (h2 : a < 2147483648) (hu : 0 < u) (hu2 : u < 1000) : zI a / nI u = zI (a.tdiv u) := by
  apply Int32.toInt_inj.mp
  have t1 := Int.natAbs_tdiv a (u : Int)
  have t2 : (a.tdiv (u : Int)).natAbs ≤ a.natAbs := by rw [t1]; exact Nat.div_le_self _ _
  rw [Jvm.Kit.i32_div (by rw [zI_toInt (by omega) (by omega), nI_toInt (by omega)]; omega), zI_toInt (by omega) (by omega), nI_toInt (by omega), zI_toInt (by omega) (by omega)]
theorem td_e {a : Int} {u : Nat} (hu : 0 < u) : a / (u : Int) = if 0 ≤ a ∨ (u : Int) ∣ a then a.tdiv u else a.tdiv u - 1 := by
  have e := Int.tdiv_eq_ediv (a := a) (b := (u : Int))
  have sg : Int.sign (u : Int) = 1 := Int.sign_eq_one_of_pos (by omega)
  by_cases q : 0 ≤ a ∨ (u : Int) ∣ a
  · rw [if_pos q] at e ⊢; omega
  · rw [if_neg q, sg] at e
    rw [if_neg q]; omega
theorem fd_z (F : Nat) {a : Int} {u : Nat} (h1 : -1000000000 < a) (h2 : a < 2147483648) (hu : 0 < u) (hu2 : u < 1000) : f_JM_floorDiv F (zI a) (nI u) = some (zI (a / (u : Int))) := by
  have yp : (0 : Int32) ≤ nI u := nI_le (a := 0) (by omega) (by omega)
  have ap : (0 : Int32) ≤ zI a ↔ 0 ≤ a := by
    rw [Int32.le_iff_toInt_le, zI_toInt (by omega) (by omega), show (0 : Int32).toInt = 0 by decide]
  have tm : a - a.tdiv u * u = a.tmod u := by rw [Int.tmod_def, Int.mul_comm]
  have tb : (a.tmod (u : Int)).natAbs < u := by
    rw [Int.natAbs_tmod, Int.natAbs_natCast]; exact Nat.mod_lt _ hu
  have e := td_e (a := a) hu
  unfold f_JM_floorDiv
  rw [dv_n (by omega) (by omega), zI_div (by omega) h2 hu hu2, zn_mul]
  by_cases q : 0 ≤ a
  · rw [if_pos ((xor_pos yp).mpr (ap.mpr q)), e, if_pos (Or.inl q)]
  · rw [if_neg (fun z => q (ap.mp ((xor_pos yp).mp z)))]
    by_cases g : (u : Int) ∣ a
    · have z : a.tmod u = 0 := Int.tmod_eq_zero_of_dvd g
      have e2 : a.tdiv (u : Int) * (u : Int) = a := by omega
      rw [if_pos (by rw [e2]), e, if_pos (Or.inr g)]
    · have e3 : ¬ zI (a.tdiv (u : Int) * (u : Int)) = zI a := fun z => by
        have := congrArg Int32.toInt z
        rw [zI_toInt (by omega) (by omega), zI_toInt (by omega) (by omega)] at this
        exact g (Int.dvd_of_tmod_eq_zero (by omega))
      rw [if_neg e3, e, if_neg (fun z => z.elim q g), show (1 : Int32) = nI 1 from rfl, zn_sub]
      rfl
theorem fm_z (F : Nat) {a : Int} {u : Nat} (h1 : -1000000000 < a) (h2 : a < 2147483648) (hu : 0 < u) (hu2 : u < 1000) : f_JM_floorMod F (zI a) (nI u) = some (zI (a % (u : Int))) := by
  have yp : (0 : Int32) ≤ nI u := nI_le (a := 0) (by omega) (by omega)
  have ap : (0 : Int32) ≤ zI a ↔ 0 ≤ a := by
    rw [Int32.le_iff_toInt_le, zI_toInt (by omega) (by omega), show (0 : Int32).toInt = 0 by decide]
  have tm : a - a.tdiv u * u = a.tmod u := by rw [Int.tmod_def, Int.mul_comm]
  have tb : (a.tmod (u : Int)).natAbs < u := by
    rw [Int.natAbs_tmod, Int.natAbs_natCast]; exact Nat.mod_lt _ hu
  have e := td_e (a := a) hu
  have em : a % (u : Int) = a - a / (u : Int) * u := by rw [Int.emod_def, Int.mul_comm]
  unfold f_JM_floorMod
  rw [dv_n (by omega) (by omega), zI_div (by omega) h2 hu hu2, zn_mul, zz_sub, tm]
  by_cases q : 0 ≤ a
  · rw [if_pos ((xor_pos yp).mpr (ap.mpr q)), em, e, if_pos (Or.inl q), tm]
  · rw [if_neg (fun z => q (ap.mp ((xor_pos yp).mp z)))]
    by_cases g : (u : Int) ∣ a
    · have z : a.tmod u = 0 := Int.tmod_eq_zero_of_dvd g
      rw [if_pos (by rw [z]; rfl), em, e, if_pos (Or.inr g), tm]
    · have e3 : ¬ zI (a.tmod (u : Int)) = 0 := fun z => by
        have := congrArg Int32.toInt z
        rw [zI_toInt (by omega) (by omega), show (0 : Int32).toInt = 0 by decide] at this
        exact g (Int.dvd_of_tmod_eq_zero this)
      rw [if_neg e3, em, e, if_neg (fun z => z.elim q g), zn_add, Int.sub_mul, Int.one_mul]
      congr 2
      omega
def YsH (σ : Sg) (nl nh : Nat → Nat) (s : Nat) (Y : Mem) : Prop := Y 0 7 = nI (σ 0) ∧ ∀ c, c < σ 0 → Y 2 c = zI (-(nl c : Int)) ∧ Y 3 c = nI (nh c) ∧ Y 4 c = nI (wyA σ s c) ∧ Y 5 c = zI (loS σ nl nh s c) ∧ Y 6 c = zI (hiS σ nl s c)
def cz (b : Nat) : Int32 := if b < 1000000 then nI b else -2
def YtH (σ : Sg) (nl nh : Nat → Nat) (s : Nat) (Y : Mem) (c : Nat) : Prop := ∀ sh : Int, loS σ nl nh s c ≤ sh → sh ≤ hiS σ nl s c → Y 7 ((201 * c : Nat) + 100 + sh).toNat = cz (bsN σ nl nh (σ 0 - 1 - c) c ((wyA σ s c : Int) + sh))
theorem cz_2 {b : Nat} : cz b = -2 ↔ ¬ b < 1000000 := by
  unfold cz
  by_cases q : b < 1000000
  · rw [if_pos q]
    refine ⟨fun h => ?_, fun h => absurd q h⟩
    have := congrArg Int32.toInt h
    rw [nI_toInt (by omega), show (-2 : Int32).toInt = -2 by decide] at this
    omega
  · rw [if_neg q]; exact ⟨fun _ => q, fun _ => rfl⟩
theorem h_costOf {F : Nat} {Y : Mem} {σ : Sg} {nl nh : Nat → Nat} (h : okF σ nl nh) {s : Nat} (hs : s ≤ 2000000000) (hY : YsH σ nl nh s Y) {c : Nat} (hc : c < σ 0) (hT : YtH σ nl nh s Y c) {v : Int} (h1 : loS σ nl nh s c ≤ v - wyA σ s c) (h2 : v - wyA σ s c ≤ hiS σ nl s c) : f_X4_costOf F Y (nI c) (zI v) = some (cz (bsN σ nl nh (σ 0 - 1 - c) c v)) := by
  have h0 := kC h.1
  obtain ⟨y2, y3, y4, y5, y6⟩ := hY.2 c hc
  obtain ⟨b1, b2, b3, b4⟩ := sh_b h s c hc
  have al := wyA_le σ s c
  have t := hT (v - wyA σ s c) h1 h2
  have ev : (wyA σ s c : Int) + (v - wyA σ s c) = v := by omega
  rw [ev] at t
  have ei : nI c * 201 + 100 + zI (v - wyA σ s c) = zI (((201 * c : Nat) : Int) + 100 + (v - wyA σ s c)) := by
    rw [l_201, mr201, l_100, nI_add, nz_add]
    congr 1
  have n1 : ¬ zI (v - wyA σ s c) < zI (loS σ nl nh s c) := of_eq_false (zlt_F (by omega) (by omega) (by omega))
  have n2 : zI (v - wyA σ s c) ≤ zI (hiS σ nl s c) := of_eq_true (zle_T (by omega) (by omega) (by omega))
  unfold f_X4_costOf
  rw [ck_n (by omega) (by decide), ck_n (by omega) (by decide), nI_clamp (by omega), y4, y5, y6, zn_sub, if_neg n1, ck_n (by omega) (by decide), if_pos n2, ei, ck_z (by omega) (by omega) (by decide), z_clamp (by omega) (by omega), t]
theorem abs_z {x : Int} (h1 : -1000 ≤ x) (h2 : x ≤ 1000) : (if (0 : Int32) ≤ zI x then zI x else 0 - zI x) = nI x.natAbs := by
  by_cases g : 0 ≤ x
  · rw [if_pos (show (0 : Int32) ≤ zI x by rw [l_0, nz_le]; exact of_eq_true (zle_T (by omega) (by omega) (by omega))), ← zI_c]
    congr 1; omega
  · rw [if_neg (show ¬ (0 : Int32) ≤ zI x by rw [l_0, nz_le]; exact of_eq_false (zle_F (by omega) (by omega) (by omega))), show (0 : Int32) = nI 0 from rfl, nz_sub, ← zI_c]
    congr 1; omega
theorem h_costWith {F : Nat} {Y : Mem} {σ : Sg} {nl nh : Nat → Nat} (h : okF σ nl nh) {s : Nat} (hs : s ≤ 2000000000) (hY : YsH σ nl nh s Y) {c j : Nat} (hc : c + 1 < σ 0) (hT : YtH σ nl nh s Y (c + 1)) {v q : Int} (h1 : loS σ nl nh s c ≤ v - wyA σ s c) (h2 : v - wyA σ s c ≤ hiS σ nl s c) (hj : j ≤ nh c + nl c) (hq : v - ((j : Int) - nl c) = uR σ c * q) : f_X4_costWith F Y (nI c) (zI v) (zI ((j : Int) - nl c)) (nI (uR σ c)) = some (if bsN σ nl nh (σ 0 - 1 - (c + 1)) (c + 1) q < 1000000 then nI (((j : Int) - nl c).natAbs + bsN σ nl nh (σ 0 - 1 - (c + 1)) (c + 1) q) else -2) := by
  have h0 := kC h.1
  obtain ⟨u1, u2⟩ := uR_b h.1 hc
  obtain ⟨b1, b2⟩ := h.2.2 c (by omega)
  obtain ⟨w1, w2, w3, w4⟩ := sh_b h s c (by omega)
  have al := wyA_le σ s c
  obtain ⟨k1, k2⟩ := sh_n h s (c := c) (j := j) (sh := v - wyA σ s c) (q := q) hc h1 h2 hj (by omega)
  have co := h_costOf (F := F) h hs hY (c := c + 1) (by omega) hT k1 k2
  have ed : (v - ((j : Int) - nl c)).tdiv (uR σ c : Int) = q := by rw [hq]; exact Int.mul_tdiv_cancel_left _ (by omega)
  unfold f_X4_costWith
  rw [dv_n (by omega) (by omega), nI_1, zz_sub, zI_div (by omega) (by omega) (by omega) (by omega), ed, co, Option.bind_some, abs_z (by omega) (by omega)]
  by_cases g : bsN σ nl nh (σ 0 - 1 - (c + 1)) (c + 1) q < 1000000
  · rw [if_neg (fun z => (cz_2.mp z) g), if_pos g]
    unfold cz
    rw [if_pos g, nI_add, Nat.add_comm]
  · rw [if_pos (cz_2.mpr g), if_neg g]
