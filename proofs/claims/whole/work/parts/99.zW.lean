/-! THE START: what the tables and the law's own start give -/
theorem it_X0 : Cond.instantiable RX0 10 ∈ tb_good := tb_g1 34 (by decide +kernel) rfl
theorem it_X1 : Cond.instantiable RX1 4 ∈ tb_good := tb_g1 112 (by decide +kernel) rfl
theorem it_X2 : Cond.instantiable RX2 14 ∈ tb_good := tb_g2 36 (by decide +kernel) rfl
theorem it_X3 : Cond.instantiable RX3 3 ∈ tb_good := tb_g1 187 (by decide +kernel) rfl
theorem it_X4 : Cond.instantiable RX4 13 ∈ tb_good := tb_g1 228 (by decide +kernel) rfl
theorem it_X5 : Cond.instantiable RX5 4 ∈ tb_good := tb_g1 207 (by decide +kernel) rfl
theorem it_X6 : Cond.instantiable RX6 9 ∈ tb_good := tb_g1 28 (by decide +kernel) rfl
theorem it_X7 : Cond.instantiable RX7 3 ∈ tb_good := tb_g2 93 (by decide +kernel) rfl
theorem it_X8 : Cond.instantiable RX8 2 ∈ tb_good := tb_g1 139 (by decide +kernel) rfl
theorem it_X9 : Cond.instantiable RX9 9 ∈ tb_good := tb_g1 20 (by decide +kernel) rfl
theorem it_X10 : Cond.instantiable RX10 36 ∈ tb_good := tb_g5 219 (by decide +kernel) rfl
theorem cn_L_7 : Cond.classLink RL 7 RX9 ∈ tb_good := tb_g1 19 (by decide +kernel) rfl
theorem cn_L_10 : Cond.classLink RL 10 RX10 ∈ tb_good := tb_g5 218 (by decide +kernel) rfl
theorem nw_X9 : im_NW 9 RX9 9 [.null, .null, .null, .null, .null, .null, .null, .null, .null] := ⟨TX9, tyX9, inX_X9, tyX9_ok, tb_g1 20 (by decide +kernel) rfl, tb_g1 1 (by decide +kernel) rfl, rfl, by decide +kernel⟩
theorem nw_X10 : im_NW 10 RX10 36 [.int 0, .null, .null, .null, .int 0, .null, .int 0, .int 0, .int 0, .int 0, .null, .null, .null, .null, .null, .null, .null, .null, .null, .null, .null, .null, .null, .null, .int 0, .null, .null, .int 0, .null, .int 0, .null, .int 0, .int 0, .int 0, .int 0, .int 0] := ⟨TX10, tyX10, inX_X10, tyX10_ok, tb_g5 219 (by decide +kernel) rfl, tb_g1 11 (by decide +kernel) rfl, rfl, by decide +kernel⟩
theorem ci_L_9 : im_CI RL 9 yX9_init cX9_init 1 0 := ⟨Or.inl (tb_g1 21 (by decide +kernel) rfl), tb_g1 22 (by decide +kernel) rfl, tb_g1 1 (by decide +kernel) rfl, tb_g1 23 (by decide +kernel) rfl, by decide +kernel, by decide +kernel, by decide +kernel⟩
theorem ci_L_12 : im_CI RL 12 yX10_init cX10_init 1 0 := ⟨Or.inl (tb_g5 220 (by decide +kernel) rfl), tb_g5 221 (by decide +kernel) rfl, tb_g1 11 (by decide +kernel) rfl, tb_g5 222 (by decide +kernel) rfl, by decide +kernel, by decide +kernel, by decide +kernel⟩
theorem ti_ao : Cond.arrayOver (.object aoC) ∈ lw_tbl := tb_in1 193 (by decide +kernel)
theorem ti_cs : Cond.laysStatic "java/lang/String" "COMPACT_STRINGS" "Z" ∈ lw_tbl := tb_in2 214 (by decide +kernel)
theorem ti_sf : Cond.laysStatic "jdk/internal/util/Preconditions" "SIOOBE_FORMATTER" "Ljava/util/function/BiFunction;" ∈ lw_tbl := tb_in2 230 (by decide +kernel)
theorem ti_is : Cond.initialized "java/lang/String" ∈ lw_tbl := tb_in1 13 (by decide +kernel)
theorem ti_ip : Cond.initialized "jdk/internal/util/Preconditions" ∈ lw_tbl := tb_in1 15 (by decide +kernel)
theorem ti_sR159 : Cond.stringRef "ExchequerCloth$Reader" 159 "column" ∈ lw_tbl := tb_in2 190 (by decide +kernel)
theorem ti_sR161 : Cond.stringRef "ExchequerCloth$Reader" 161 "row" ∈ lw_tbl := tb_in2 191 (by decide +kernel)
theorem ti_sR163 : Cond.stringRef "ExchequerCloth$Reader" 163 "seen" ∈ lw_tbl := tb_in2 192 (by decide +kernel)
theorem ti_sR168 : Cond.stringRef "ExchequerCloth$Reader" 168 "put" ∈ lw_tbl := tb_in2 196 (by decide +kernel)
theorem ti_sR170 : Cond.stringRef "ExchequerCloth$Reader" 170 "take" ∈ lw_tbl := tb_in2 197 (by decide +kernel)
theorem ti_sR172 : Cond.stringRef "ExchequerCloth$Reader" 172 "carry" ∈ lw_tbl := tb_in2 198 (by decide +kernel)
theorem ti_sR174 : Cond.stringRef "ExchequerCloth$Reader" 174 "break" ∈ lw_tbl := tb_in2 199 (by decide +kernel)
theorem ti_sR176 : Cond.stringRef "ExchequerCloth$Reader" 176 "shift" ∈ lw_tbl := tb_in2 200 (by decide +kernel)
theorem ti_sS27 : Cond.stringRef "ExchequerCloth$Scribe" 27 "column" ∈ lw_tbl := tb_in5 164 (by decide +kernel)
theorem ti_sS48 : Cond.stringRef "ExchequerCloth$Scribe" 48 "row" ∈ lw_tbl := tb_in5 179 (by decide +kernel)
theorem ti_sS67 : Cond.stringRef "ExchequerCloth$Scribe" 67 "seen" ∈ lw_tbl := tb_in5 189 (by decide +kernel)
theorem ti_sS83 : Cond.stringRef "ExchequerCloth$Scribe" 83 "of" ∈ lw_tbl := tb_in5 202 (by decide +kernel)
theorem ti_sS88 : Cond.stringRef "ExchequerCloth$Scribe" 88 "sum" ∈ lw_tbl := tb_in5 203 (by decide +kernel)
def tmL : List Term := [.string "ExchequerCloth$Reader" 168, .string "ExchequerCloth$Reader" 170, .string "ExchequerCloth$Reader" 172, .string "ExchequerCloth$Reader" 174, .string "ExchequerCloth$Reader" 176, .string "ExchequerCloth$Reader" 159, .string "ExchequerCloth$Reader" 161, .string "ExchequerCloth$Reader" 163, .string "ExchequerCloth$Scribe" 83, .string "ExchequerCloth$Scribe" 88]
def tmI (i : Nat) : Term := tmL.getD i (.int 0)
abbrev stG : List Cond := flatC (Jvm.Cond.and given_1 narrow_1)
theorem st_ex : ∀ i : Fin 10, Cond.exactly (tmI i.1) "java/lang/String" ∈ stG := by decide +kernel
theorem st_co : ∀ i : Fin 10, Cond.eq (.field (tmI i.1) "java/lang/String" "coder" "B") (.int 0) ∈ stG := by decide +kernel
theorem st_ar : ∀ i : Fin 10, Cond.arrayOf (.field (tmI i.1) "java/lang/String" "value" "[B") .byte ∈ stG := by decide +kernel
theorem st_le : ∀ i : Fin 10, Cond.eq (.length (.field (tmI i.1) "java/lang/String" "value" "[B")) (.int (Int32.ofNat (im_len.getD i.1 0))) ∈ stG := by decide +kernel
theorem st_el : ∀ i : Fin 10, ∀ j : Fin 6, j.1 < im_len.getD i.1 0 → Cond.eq (.elem (.field (tmI i.1) "java/lang/String" "value" "[B") (.int (Int32.ofNat j.1))) (.int ((im_byt.getD i.1 []).getD j.1 0)) ∈ stG := by decide +kernel
theorem st_ne : ∀ i : Fin 10, ∀ j : Fin 10, i ≠ j → Cond.not (Cond.eq (tmI i.1) (tmI j.1)) ∈ stG ∨ Cond.not (Cond.eq (tmI j.1) (tmI i.1)) ∈ stG := by decide +kernel
theorem st_ln : ∀ i : Fin 10, im_len.getD i.1 0 ≤ 6 := by decide +kernel
theorem st_e5 : Cond.eq (.string "ExchequerCloth$Reader" 159) (.string "ExchequerCloth$Scribe" 27) ∈ stG := by decide +kernel
theorem st_e6 : Cond.eq (.string "ExchequerCloth$Reader" 161) (.string "ExchequerCloth$Scribe" 48) ∈ stG := by decide +kernel
theorem st_e7 : Cond.eq (.string "ExchequerCloth$Reader" 163) (.string "ExchequerCloth$Scribe" 67) ∈ stG := by decide +kernel
theorem st_cs : Cond.eq (.static "java/lang/String" "COMPACT_STRINGS" "Z") (.int 1) ∈ stG := by decide +kernel
theorem st_sf : Cond.isRef (.static "jdk/internal/util/Preconditions" "SIOOBE_FORMATTER" "Ljava/util/function/BiFunction;") ∈ stG := by decide +kernel
theorem st_eqR {args : Array Value} {s : State} {t u : Term} {a : Nat} (h : (Cond.eq t u).before args s = true) (ht : t.eval args s none [] s = some (.ref a)) : u.eval args s none [] s = some (.ref a) := by
  cases hv : u.eval args s none [] s with
  | none => simp [Cond.before, Cond.holds, Cond.value, ht, hv] at h
  | some w =>
    simp only [Cond.before, Cond.holds, Cond.value, ht, hv] at h
    cases w <;> simp_all
theorem im_S0 {s : State} {args : Array Value} (hts : ∀ w ∈ lw_tbl, w.before args s = true) (hg : (Jvm.Cond.and given_1 narrow_1).before args s = true) {A : Nat → Prop} (hA : ∀ a : Nat, a < s.heap.size → ¬ A a) : ∃ adK adV : Nat → Nat, ∀ ct : im_ct, (∀ i, i < 10 → ct (10 + i) = adK i) → (∀ i, i < 10 → ct (30 + i) = adV i) → im_S ct A s s.heap := by
  have hf : ∀ c ∈ stG, c.before args s = true := flat_of_before _ hg
  obtain ⟨adK, adV, hS, hev⟩ := vk_Sof (N := 10) (tm := tmI) (len := im_len) (byt := im_byt) (A := A) (s := s) (args := args) (fun i hi => Nat.lt_of_le_of_lt (st_ln ⟨i, hi⟩) (by decide)) (fun i hi => hf _ (st_ex ⟨i, hi⟩)) (fun i hi => hf _ (st_co ⟨i, hi⟩)) (fun i hi => hf _ (st_ar ⟨i, hi⟩)) (fun i hi => hf _ (st_le ⟨i, hi⟩)) (fun i hi j hj => hf _ (st_el ⟨i, hi⟩ ⟨j, Nat.lt_of_lt_of_le hj (st_ln ⟨i, hi⟩)⟩ hj)) (fun i j hi hj hij => (st_ne ⟨i, hi⟩ ⟨j, hj⟩ (fun e => hij (congrArg Fin.val e))).imp (hf _) (hf _)) hA
  refine ⟨adK, adV, fun ct h1 h2 => ⟨⟨fun i hi => ?_, fun i j hi hj e => hS.2 i j hi hj ?_⟩, va_Zof (hts _ ti_cs) (hts _ ti_is) (va_eqt (hf _ st_cs)) hA, va_Zqof (hts _ ti_sf) (hts _ ti_ip) (hf _ st_sf) hA, ?_⟩⟩
  · show va_O "java/lang/String" (ct (10 + i)) A s s.heap ∧ va_OF "java/lang/String" "coder" "B" (.int 0) (ct (10 + i)) A s s.heap ∧ va_OF "java/lang/String" "value" "[B" (.ref (ct (30 + i))) (ct (10 + i)) A s s.heap ∧ va_T .byte (ct (30 + i)) (im_len.getD i 0) (fun j => .int ((im_byt.getD i []).getD j 0)) A s s.heap
    rw [h1 i hi, h2 i hi]
    exact hS.1 i hi
  · rw [← h1 i hi, ← h1 j hj]
    exact e
  · have ev : ∀ i, i < 10 → (tmI i).eval args s none [] s = some (.ref (ct (10 + i))) := fun i hi => by
      rw [h1 i hi]
      exact hev i hi
    unfold im_strs
    refine List.forall_mem_cons.mpr ⟨vk_R.of (hts _ ti_sR159) (ev 5 (by decide)), ?_⟩
    refine List.forall_mem_cons.mpr ⟨vk_R.of (hts _ ti_sR161) (ev 6 (by decide)), ?_⟩
    refine List.forall_mem_cons.mpr ⟨vk_R.of (hts _ ti_sR163) (ev 7 (by decide)), ?_⟩
    refine List.forall_mem_cons.mpr ⟨vk_R.of (hts _ ti_sR168) (ev 0 (by decide)), ?_⟩
    refine List.forall_mem_cons.mpr ⟨vk_R.of (hts _ ti_sR170) (ev 1 (by decide)), ?_⟩
    refine List.forall_mem_cons.mpr ⟨vk_R.of (hts _ ti_sR172) (ev 2 (by decide)), ?_⟩
    refine List.forall_mem_cons.mpr ⟨vk_R.of (hts _ ti_sR174) (ev 3 (by decide)), ?_⟩
    refine List.forall_mem_cons.mpr ⟨vk_R.of (hts _ ti_sR176) (ev 4 (by decide)), ?_⟩
    refine List.forall_mem_cons.mpr ⟨vk_R.of (hts _ ti_sS27) (st_eqR (hf _ st_e5) (ev 5 (by decide))), ?_⟩
    refine List.forall_mem_cons.mpr ⟨vk_R.of (hts _ ti_sS48) (st_eqR (hf _ st_e6) (ev 6 (by decide))), ?_⟩
    refine List.forall_mem_cons.mpr ⟨vk_R.of (hts _ ti_sS67) (st_eqR (hf _ st_e7) (ev 7 (by decide))), ?_⟩
    refine List.forall_mem_cons.mpr ⟨vk_R.of (hts _ ti_sS83) (ev 8 (by decide)), ?_⟩
    refine List.forall_mem_cons.mpr ⟨vk_R.of (hts _ ti_sS88) (ev 9 (by decide)), ?_⟩
    exact fun q hq => by simp at hq
theorem im_K0 {s : State} {args : Array Value} (hts : ∀ w ∈ lw_tbl, w.before args s = true) : ∃ (D : va_G) (t0 t1 t2 t3 t4 : ClassId), ∀ ct : im_ct, ct 0 = t0 → ct 1 = t1 → ct 2 = t2 → ct 3 = t3 → ct 4 = t4 → va_K D vwCl (im_tys ct) s := by
  have hg : ∀ w ∈ tb_good, w.before args s = true := fun w h => hts w (List.mem_filter.mp h).1
  obtain ⟨c0, i0, k0⟩ := u_known hg inX_X0 (hg _ it_X0)
  obtain ⟨c1, i1, k1⟩ := u_known hg inX_X1 (hg _ it_X1)
  obtain ⟨c2, i2, k2⟩ := u_known hg inX_X2 (hg _ it_X2)
  obtain ⟨c3, i3, k3⟩ := u_known hg inX_X3 (hg _ it_X3)
  obtain ⟨c4, i4, k4⟩ := u_known hg inX_X4 (hg _ it_X4)
  obtain ⟨c5, i5, k5⟩ := u_known hg inX_X5 (hg _ it_X5)
  obtain ⟨c6, i6, k6⟩ := u_known hg inX_X6 (hg _ it_X6)
  obtain ⟨c7, i7, k7⟩ := u_known hg inX_X7 (hg _ it_X7)
  obtain ⟨c8, i8, k8⟩ := u_known hg inX_X8 (hg _ it_X8)
  obtain ⟨c9, i9, k9⟩ := u_known hg inX_X9 (hg _ it_X9)
  obtain ⟨c10, i10, k10⟩ := u_known hg inX_X10 (hg _ it_X10)
  obtain ⟨t0, a0, p0, f0, g0, h0⟩ := Cond.arrayClass_spec (hg _ aw_int)
  obtain ⟨t1, a1, p1, f1, g1, h1⟩ := Cond.arrayClass_spec (hg _ aw_long)
  obtain ⟨t2, a2, p2, f2, g2, h2⟩ := Cond.arrayClass_spec (hg _ aw_byte)
  obtain ⟨t3, a3, p3, f3, g3, h3⟩ := Cond.arrayClass_spec (hg _ aw_boolean)
  obtain ⟨p4, t4, a4, f4, -, g4, h4, n4⟩ := Cond.arrayOver_spec (hts _ ti_ao)
  refine ⟨(fun c => [c0, c1, c2, c3, c4, c5, c6, c7, c8, c9, c10].getD c 0, fun c => [i0, i1, i2, i3, i4, i5, i6, i7, i8, i9, i10].getD c (fun _ => 0)), t0, t1, t2, t3, t4, fun ct e0 e1 e2 e3 e4 => ⟨fun c q hq => ?_, fun k q hq => ?_⟩⟩
  · match c, hq with
    | 0, hq => cases hq; exact k0
    | 1, hq => cases hq; exact k1
    | 2, hq => cases hq; exact k2
    | 3, hq => cases hq; exact k3
    | 4, hq => cases hq; exact k4
    | 5, hq => cases hq; exact k5
    | 6, hq => cases hq; exact k6
    | 7, hq => cases hq; exact k7
    | 8, hq => cases hq; exact k8
    | 9, hq => cases hq; exact k9
    | 10, hq => cases hq; exact k10
    | c + 11, hq => exact absurd hq (by simp)
  · unfold im_tys at hq
    rw [e0, e1, e2, e3, e4] at hq
    match k, hq with
    | 0, hq => cases hq; exact ⟨fun N z => ⟨(fun k h => by cases h), a0, g0, p0, h0⟩, f0⟩
    | 1, hq => cases hq; exact ⟨fun N z => ⟨(fun k h => by cases h), a1, g1, p1, h1⟩, f1⟩
    | 2, hq => cases hq; exact ⟨fun N z => ⟨(fun k h => by cases h), a2, g2, p2, h2⟩, f2⟩
    | 3, hq => cases hq; exact ⟨fun N z => ⟨(fun k h => by cases h), a3, g3, p3, h3⟩, f3⟩
    | 4, hq => cases hq; exact ⟨fun N z => ⟨(fun k h => by cases h), a4, g4, p4, h4⟩, a4, p4, g4, h4, f4, n4⟩
    | k + 5, hq => exact absurd hq (by simp)
theorem wd_nar : ∀ k : Fin 50, vp_nar .byte (nI (wdL.getD k.1 0)) = nI (wdL.getD k.1 0) := by decide +kernel
theorem wdc_get : ∀ (n : Nat), n ≤ 50 → ∀ j, j < n → wdc n j = nI (wdL.getD j 0)
  | 0, _, j, hj => absurd hj (Nat.not_lt_zero _)
  | n + 1, hn, j, hj => by
    show upd (wdc n) n (vp_nar .byte (nI (wdL.getD n 0))) j = _
    by_cases e : j = n
    · subst e
      rw [wd_nar ⟨j, hn⟩]
      simp [upd]
    · have : upd (wdc n) n (vp_nar .byte (nI (wdL.getD n 0))) j = wdc n j := by simp [upd, e]
      rw [this]
      exact wdc_get n (by omega) j (by omega)
theorem Wd_0 : Wd MM0 := fun j hj => wdc_get 50 (Nat.le_refl _) j hj
theorem Rel_start : Rel MM0 M0 M0 M0 M0 M0 MS0 (fun _ => M0) false false := Rel_0 (fun _ _ => rfl) rfl rfl Wd_0 rfl ⟨rfl, rfl, rfl, rfl⟩ (fun _ _ => ⟨rfl, rfl⟩) ⟨rfl, rfl⟩ rfl ⟨rfl, rfl⟩ rfl
