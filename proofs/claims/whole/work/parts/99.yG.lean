/-! PURE LAYER: payments, worked out (class); the reference's bounds -/
theorem OvP_u {σ : Sg} {nl nh : Nat → Nat} {f f' : Nat → Int} : ∀ d c v, OvP σ nl nh d c v f → OvP σ nl nh d c v f' → ∀ j, c ≤ j → j < c + d + 1 → f j = f' j
  | 0, c, v, h, h', j, j1, j2 => by
    obtain rfl : j = c := by omega
    exact (show f j = v from h).trans (show f' j = v from h').symm
  | d + 1, c, v, ⟨i, a1, a2, a3, a4, a5, a6⟩, ⟨t, b1, b2, b3, b4, b5, b6⟩, j, j1, j2 => by
    have e : i = t := by
      by_cases q : i < t
      · have := b5 i q a3
        omega
      · by_cases q2 : t < i
        · have := a5 t q2 b3
          omega
        · omega
    subst e
    by_cases q : j = c
    · rw [q, a2, b2]
    · exact OvP_u d (c + 1) _ a6 b6 j (by omega) (by omega)
theorem h_workOut {F : Nat} {C Y : Mem} {σ : Sg} (hF : 1000 ≤ F) (hC : StC C σ) (hs : okS σ) {r q s : Nat} (hr : r < σ 1) (hq : q < σ 1) (h1s : 1 ≤ s) (h2s : s < 2147483648) : ∃ Y', (∀ j, j ≠ 7 → Y' 0 j = Y 0 j) ∧ ((bsN σ (nlP σ r q) (nhP σ r q) (σ 0 - 1) 0 s = 1000000 ∧ f_X4_workOut F Y C (nI r) (nI q) (nI s) = some (-2, Y')) ∨ (bsN σ (nlP σ r q) (nhP σ r q) (σ 0 - 1) 0 s < 1000000 ∧ f_X4_workOut F Y C (nI r) (nI q) (nI s) = some (nI (bsN σ (nlP σ r q) (nhP σ r q) (σ 0 - 1) 0 s), Y') ∧ ∃ f, OvP σ (nlP σ r q) (nhP σ r q) (σ 0 - 1) 0 s f ∧ ∀ j, j < σ 0 → Y' 1 j = zI (f j))) := by
  have h0 := kC hs
  have h1 := kR hs
  have h0' := kCR hs (by omega)
  have hf := okP hs h0' r q
  have sb := bsN_le hf (σ 0 - 1) 0 s (by omega)
  have sml := sm_le hs (r := r) (by omega) (σ 0) (Nat.le_refl _)
  have n0 : ¬ nI (σ 0) = 0 := nI_ne0 h0' (by omega)
  unfold f_X4_workOut
  rw [cC hC, if_neg n0, h_sumOf hC h0 (by omega) (by omega), Option.bind_some]
  by_cases g : s ≤ smN σ r (σ 0)
  · have s2 : s ≤ 2000000000 := by omega
    rw [if_pos (nI_le g (sm_lt hs (by omega)))]
    obtain ⟨Y1, a1, a2, a3⟩ := h_sb3 (F := F) hC hs (r := r) (q := q) (by omega) (by omega) (fun Y_81 => (some Y_81)) (σ 0) 0 F (mr Y 0 (fu (Y 0) 7 (nI (σ 0)))) (by omega) (by omega) (by rw [mr_s, fu_s]) (fun c hc => by omega)
    have a1' : f_X4_setBounds F (mr Y 0 (fu (Y 0) 7 (nI (σ 0)))) C (nI r) (nI q) = some Y1 := a1
    have y7 : Y1 0 7 = nI (σ 0) := by rw [a2 0 (by decide) (by decide), mr_s, fu_s]
    obtain ⟨Y2, b1, b2, b3⟩ := h_ss23 (F := F) hC hf s2 (fun Y_160 => (some Y_160)) (σ 0 - 1) 0 F (mr (mr (mr Y1 4 (upd (Y1 4) 0 (nI s))) 5 (upd (Y1 5) 0 0)) 6 (upd (Y1 6) 0 0)) (by omega) (by omega) (by rw [mr_n _ _ (by decide), mr_n _ _ (by decide), mr_n _ _ (by decide)]; exact y7) (fun j hj => by
      rw [mr_n _ _ (by decide), mr_n _ _ (by decide), mr_n _ _ (by decide), mr_n _ _ (by decide), mr_n _ _ (by decide), mr_n _ _ (by decide)]
      exact a3 j hj) (fun j hj => by
      obtain rfl : j = 0 := by omega
      rw [mr_n (k := 6) (j := 4) _ _ (by decide), mr_n (k := 5) (j := 4) _ _ (by decide), mr_s, mr_n (k := 6) (j := 5) _ _ (by decide), mr_s, mr_s, pk_us, pk_us, pk_us]
      exact ⟨rfl, rfl, rfl⟩)
    have c6 : ∀ E : Option Mem, ck 0 6 E = E := fun E => ck_n (i := 0) (by decide) (by decide)
    have b1' : f_X4_setShifts F Y1 C (nI s) = some Y2 := by
      unfold f_X4_setShifts
      rw [c6, c6, c6, m0c]
      exact b1
    obtain ⟨Y3, d1, d2, d3⟩ := h_wo50 (F := F) hF hC hf s2 (nI s) (fun Y_122 => (f_X4_costOf F Y_122 0 (nI s)).bind (fun z126 => (if z126 = (-2) then (some (z126, Y_122)) else (f_X4_follow F Y_122 C (nI s)).bind (fun z142 => (some (z126, z142)))))) (σ 0) F Y2 (Nat.le_refl _) (by omega) b3 (fun c' g1 g2 => by omega)
    have hY3 := YsH_p b3 (fun x _ hx => d3 x hx)
    have w0 : loS σ (nlP σ r q) (nhP σ r q) s 0 ≤ (s : Int) - wyA σ s 0 := by show (0 : Int) ≤ (s : Int) - (s : Nat); omega
    have w1 : (s : Int) - wyA σ s 0 ≤ hiS σ (nlP σ r q) s 0 := by show (s : Int) - (s : Nat) ≤ 0; omega
    have co := h_costOf (F := F) hf s2 hY3 h0' (d2 0 (Nat.le_refl _) h0') w0 w1
    rw [zI_c] at co
    have co' : f_X4_costOf F Y3 0 (nI s) = some (cz (bsN σ (nlP σ r q) (nhP σ r q) (σ 0 - 1) 0 s)) := co
    have fld : ∀ j, j ≠ 7 → Y3 0 j = Y 0 j := fun j hj => by rw [d3 0 (by decide), b2 0 (by decide) (by decide) (by decide), mr_n _ _ (by decide), mr_n _ _ (by decide), mr_n _ _ (by decide), a2 0 (by decide) (by decide), mr_s, fu_n _ _ hj]
    rw [a1', Option.bind_some, b1', Option.bind_some, b3.1, show nI (σ 0) - 1 = dn (σ 0) from rfl]
    by_cases p : bsN σ (nlP σ r q) (nhP σ r q) (σ 0 - 1) 0 s < 1000000
    · obtain ⟨f, hO⟩ := OvP_ex (σ 0 - 1) 0 (s : Int) p
      obtain ⟨Y4, e1, e2, e3⟩ := h_fl5 (F := F) hF hC hf s2 f (fun Y_128 x3_128 => ck ((Y_128 0 7) - 1) 6 ((some (mr Y_128 1 (upd (Y_128 1) (((Y_128 0 7) - 1)).toNatClampNeg x3_128))))) (σ 0 - 1) 0 F (s : Int) Y3 (by omega) (by omega) hY3 d2 w0 w1 p hO (fun j hj => by omega)
      rw [zI_c] at e1
      have y47 : Y4 0 7 - 1 = nI (σ 0 - 1) := by rw [e3 0 (by decide), hY3.1]; exact nI_sub' (b := 1) h0'
      have fo : f_X4_follow F Y3 C (nI s) = some (mr Y4 1 (upd (Y4 1) (σ 0 - 1) (zI (f (σ 0 - 1))))) := by
        unfold f_X4_follow
        refine Eq.trans e1 ?_
        rw [y47, ck_n (by omega) (by decide), nI_clamp (by omega)]
      refine ⟨mr Y4 1 (upd (Y4 1) (σ 0 - 1) (zI (f (σ 0 - 1)))), fun j hj => by rw [mr_n _ _ (by decide), e3 0 (by decide)]; exact fld j hj, Or.inr ⟨p, ?_, f, hO, fun j hj => ?_⟩⟩
      · refine Eq.trans d1 ?_
        rw [co', Option.bind_some, if_neg (fun z => (cz_2.mp z) p), fo, Option.bind_some]
        unfold cz
        rw [if_pos p]
      · rw [mr_s]
        by_cases e : j = σ 0 - 1
        · rw [e, pk_us]
        · rw [pk_un e]; exact e2 j (by omega)
    · refine ⟨Y3, fld, Or.inl ⟨by omega, ?_⟩⟩
      refine Eq.trans d1 ?_
      rw [co', Option.bind_some, if_pos (cz_2.mpr p), cz_2.mpr p]
  · rw [if_neg (nI_ge (by omega) (by omega))]
    refine ⟨mr Y 0 (fu (Y 0) 7 (nI (σ 0))), fun j hj => by rw [mr_s, fu_n _ _ hj], Or.inl ⟨?_, rfl⟩⟩
    by_cases p : bsN σ (nlP σ r q) (nhP σ r q) (σ 0 - 1) 0 s < 1000000
    · have := bs_sum hf (r := r) (fun c _ => Nat.min_le_left _ _) (σ 0 - 1) 0 (s : Int) (by omega) p
      have e1 : (wo σ 0 : Int) = 1 := rfl
      have e2 : (smN σ r 0 : Int) = 0 := rfl
      rw [e1, e2, Int.mul_one] at this
      omega
    · omega
