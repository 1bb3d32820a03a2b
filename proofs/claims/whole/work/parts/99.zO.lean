/-! PURE LAYER: class and reference stand alike, with all that the class keeps of answers -/
def Rel (M T C H Y N S : Mem) (Ks : Nat → Mem) (wP vP : Bool) : Prop := ∃ σ a h, Ra M T C H Ks σ a h ∧ CaN N σ ∧ CaY Y σ ∧ CaS S σ ∧ wP = vP
theorem Fg_N {Y N S : Mem} (σ : Sg) (h : Fg Y N S) : CaN N σ := Or.inl ⟨h.2.1, h.2.2.1⟩
theorem Fg_Y {Y N S : Mem} (σ : Sg) (h : Fg Y N S) : CaY Y σ := Or.inl h.1
theorem Fg_S {Y N S : Mem} (σ : Sg) (h : Fg Y N S) : CaS S σ := Or.inl h.2.2.2
section RelRows
variable {M M' T C C' H H' Y Y' N N' S S' : Mem} {Ks Ks' : Nat → Mem} {σ : Sg} {a : Nat} {h : Nat → Sg} {wP vP : Bool}
theorem Rel_pm (ra : Ra M T C H Ks σ a h) (hN : CaN N σ) (hY : CaY Y σ) (hS : CaS S σ) (hw : wP = vP) (p : Pm M M') : Rel M' T C H Y N S Ks wP vP := ⟨σ, a, h, Ra_m p ra, hN, hY, hS, hw⟩
theorem Rel_out (ra : Ra M T C H Ks σ a h) (hN : CaN N σ) (hY : CaY Y σ) (hS : CaS S σ) (hw : wP = vP) (o : Out M T C H Y N S Ks M' C' H' Y' N' S' Ks') : Rel M' T C' H' Y' N' S' Ks' wP vP := by
  rcases o with ⟨rfl, rfl, rfl, rfl, rfl, rfl, p⟩ | ⟨σ', a', h', ra', fg⟩
  · exact Rel_pm ra hN hY hS hw p
  · exact ⟨σ', a', h', ra', Fg_N _ fg, Fg_Y _ fg, Fg_S _ fg, hw⟩
theorem Rel_outN (ra : Ra M T C H Ks σ a h) (hY : CaY Y σ) (hS : CaS S σ) (hw : wP = vP) (o : OutN M T C H Y S Ks σ M' C' H' Y' N' S' Ks') : Rel M' T C' H' Y' N' S' Ks' wP vP := by
  rcases o with ⟨rfl, rfl, rfl, rfl, rfl, hN, p⟩ | ⟨σ', a', h', ra', fg⟩
  · exact Rel_pm ra hN hY hS hw p
  · exact ⟨σ', a', h', ra', Fg_N _ fg, Fg_Y _ fg, Fg_S _ fg, hw⟩
theorem Rel_outY (ra : Ra M T C H Ks σ a h) (hN : CaN N σ) (hS : CaS S σ) (hw : wP = vP) (o : OutY M T C H N S Ks σ M' C' H' Y' N' S' Ks') : Rel M' T C' H' Y' N' S' Ks' wP vP := by
  rcases o with ⟨rfl, rfl, rfl, rfl, rfl, hY, p⟩ | ⟨σ', a', h', ra', fg⟩
  · exact Rel_pm ra hN hY hS hw p
  · exact ⟨σ', a', h', ra', Fg_N _ fg, Fg_Y _ fg, Fg_S _ fg, hw⟩
end RelRows
/-- at the beginning -/
theorem Rel_0 {M T C H Y N S : Mem} {Ks : Nat → Mem} (hM : ∀ j, j < 226 → M 1 j = 0) (h4 : M 0 4 = 0) (h29 : M 0 29 = 0) (hW : Wd M) (hT : T 0 1 = 0) (hC : C 0 6 = 0 ∧ C 0 7 = 0 ∧ C 0 8 = 0 ∧ C 0 9 = 0) (hC3 : ∀ j, j < 24 → C 3 j = 0 ∧ C 4 j = 0) (hH : H 0 1 = 0 ∧ H 0 2 = 0) (hY : Y 0 12 = 0) (hN : N 0 12 = 0 ∧ N 0 13 = 0) (hS : S 0 2 = -2) : Rel M T C H Y N S Ks false false := by
  refine ⟨sg0, 0, fun _ => sg0, ⟨⟨hC.1, hC.2.1, hC.2.2.1, hC.2.2.2, fun j hj => absurd hj (Nat.not_lt_zero _), fun j hj => hC3 j hj, fun j hj => absurd hj (Nat.not_lt_zero _), fun j hj => absurd hj (Nat.not_lt_zero _)⟩, fun j hj => hM j hj, ok_sg0, ⟨Nat.zero_le _, h4, fun i hi => absurd hi (Nat.not_lt_zero _)⟩, ⟨hH.2, 0, by decide, hH.1, fun i hi => absurd hi (Nat.not_lt_zero _)⟩, fun i hi => absurd hi (Nat.not_lt_zero _), ⟨0, Nat.zero_le _, h29, hT, fun j hj => absurd hj (Nat.not_lt_zero _)⟩, hW⟩, Or.inl hN, Or.inl hY, Or.inl hS, rfl⟩
