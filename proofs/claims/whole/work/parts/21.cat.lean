/-! worlds of several components -/
def cat : List va_W → va_W
  | [] => []
  | [w] => w
  | w :: v :: r => w ++ cat (v :: r)
theorem cat_cons (w : va_W) (r : List va_W) : cat (w :: r) = w ++ cat r := by
  cases r with
  | nil => simp [cat]
  | cons v r => rfl
theorem mem_cat {q : Nat × va_E} : ∀ {wss : List va_W}, q ∈ cat wss ↔ ∃ w ∈ wss, q ∈ w
  | [] => by simp [cat]
  | w :: r => by
    rw [cat_cons, List.mem_append, mem_cat (wss := r)]
    simp
theorem vaP_mem {D : va_G} {ws : va_W} {H : Heap} : va_P D vwCl ws H ↔ ∀ q ∈ ws, va_at D vwCl q H :=
  ⟨fun h q hq => by
    obtain ⟨i, hi⟩ := List.getElem?_of_mem hq
    exact h i q hi, fun h k q hk => h q (List.mem_of_getElem? hk)⟩
theorem vaP_cat {D : va_G} {wss : List va_W} {H : Heap} : va_P D vwCl (cat wss) H ↔ ∀ w ∈ wss, va_P D vwCl w H := by
  rw [vaP_mem]
  refine ⟨fun h w hw => vaP_mem.mpr fun q hq => h q (mem_cat.mpr ⟨w, hw, hq⟩), fun h q hq => ?_⟩
  obtain ⟨w, hw, hq⟩ := mem_cat.mp hq
  exact vaP_mem.mp (h w hw) q hq
theorem vaD_split {A : Nat → Prop} {x y : va_W} (h : va_D A (x ++ y)) : va_D A x ∧ va_D A y ∧ ∀ p ∈ x, ∀ q ∈ y, p.1 ≠ q.1 := by
  have hl : ∀ {i : Nat} {p : Nat × va_E}, x[i]? = some p → (x ++ y)[i]? = some p := fun {i p} hi => by
    rw [List.getElem?_append_left (List.getElem?_eq_some_iff.mp hi).1]; exact hi
  have hr : ∀ {i : Nat} {p : Nat × va_E}, y[i]? = some p → (x ++ y)[x.length + i]? = some p := fun {i p} hi => by
    rw [List.getElem?_append_right (Nat.le_add_right _ _), Nat.add_sub_cancel_left]; exact hi
  refine ⟨⟨fun i j p q hp hq e => h.1 i j p q (hl hp) (hl hq) e, fun k q hq => h.2 k q (hl hq)⟩, ⟨fun i j p q hp hq e => ?_, fun k q hq => h.2 _ q (hr hq)⟩, fun p hp q hq e => ?_⟩
  · have := h.1 _ _ p q (hr hp) (hr hq) e
    omega
  · obtain ⟨i, hi⟩ := List.getElem?_of_mem hp
    obtain ⟨j, hj⟩ := List.getElem?_of_mem hq
    have h1 := h.1 _ _ p q (hl hi) (hr hj) e
    have h2 := (List.getElem?_eq_some_iff.mp hi).1
    omega
theorem vaD_app {A : Nat → Prop} {x y : va_W} (hx : va_D A x) (hy : va_D A y) (hd : ∀ p ∈ x, ∀ q ∈ y, p.1 ≠ q.1) : va_D A (x ++ y) := by
  have at' : ∀ (i : Nat) (p : Nat × va_E), (x ++ y)[i]? = some p → (x[i]? = some p ∧ i < x.length) ∨ (y[i - x.length]? = some p ∧ x.length ≤ i) := by
    intro i p hp
    by_cases hi : i < x.length
    · rw [List.getElem?_append_left hi] at hp; exact Or.inl ⟨hp, hi⟩
    · rw [List.getElem?_append_right (Nat.not_lt.mp hi)] at hp; exact Or.inr ⟨hp, Nat.not_lt.mp hi⟩
  refine ⟨fun i j p q hp hq e => ?_, fun k q hq => ?_⟩
  · rcases at' i p hp with ⟨h1, h2⟩ | ⟨h1, h2⟩ <;> rcases at' j q hq with ⟨h3, h4⟩ | ⟨h3, h4⟩
    · exact hx.1 i j p q h1 h3 e
    · exact absurd e (hd p (List.mem_of_getElem? h1) q (List.mem_of_getElem? h3))
    · exact absurd e.symm (hd q (List.mem_of_getElem? h3) p (List.mem_of_getElem? h1))
    · have := hy.1 _ _ p q h1 h3 e
      omega
  · rcases at' k q hq with ⟨h1, -⟩ | ⟨h1, -⟩
    · exact hx.2 k q h1
    · exact hy.2 _ q h1
/-- the components are apart -/
def vaDs (A : Nat → Prop) (wss : List va_W) : Prop := (∀ w ∈ wss, va_D A w) ∧ ∀ (i j : Nat) (w v : va_W), wss[i]? = some w → wss[j]? = some v → i ≠ j → ∀ p ∈ w, ∀ q ∈ v, p.1 ≠ q.1
theorem vaD_cat {A : Nat → Prop} : ∀ {wss : List va_W}, va_D A (cat wss) → vaDs A wss
  | [], _ => ⟨fun w h => by simp at h, fun i j w v h => by simp at h⟩
  | w :: r, h => by
    rw [cat_cons] at h
    obtain ⟨h1, h2, h3⟩ := vaD_split h
    obtain ⟨h4, h5⟩ := vaD_cat h2
    refine ⟨fun v hv => (List.mem_cons.mp hv).elim (fun e => e ▸ h1) (h4 v), fun i j x y hx hy hij p hp q hq => ?_⟩
    match i, j, hx, hy, hij with
    | 0, 0, _, _, hij => exact absurd rfl hij
    | 0, j + 1, hx, hy, _ =>
      cases hx
      exact h3 p hp q (mem_cat.mpr ⟨y, List.mem_of_getElem? hy, hq⟩)
    | i + 1, 0, hx, hy, _ =>
      cases hy
      exact fun e => h3 q hq p (mem_cat.mpr ⟨x, List.mem_of_getElem? hx, hp⟩) e.symm
    | i + 1, j + 1, hx, hy, hij => exact h5 i j x y hx hy (fun e => hij (by rw [e])) p hp q hq
theorem vaDs_cat {A : Nat → Prop} : ∀ {wss : List va_W}, vaDs A wss → va_D A (cat wss)
  | [], _ => ⟨fun i j p q h => by simp [cat] at h, fun k q h => by simp [cat] at h⟩
  | w :: r, h => by
    rw [cat_cons]
    refine vaD_app (h.1 w List.mem_cons_self) (vaDs_cat ⟨fun v hv => h.1 v (List.mem_cons_of_mem _ hv), fun i j x y hx hy hij => h.2 (i + 1) (j + 1) x y hx hy (fun e => hij (by omega))⟩) (fun p hp q hq => ?_)
    obtain ⟨v, hv, hq⟩ := mem_cat.mp hq
    obtain ⟨j, hj⟩ := List.getElem?_of_mem hv
    exact h.2 0 (j + 1) w v rfl hj (by omega) p hp q hq
/-- components at some places are put anew -/
def pickD (i : Nat) : List Nat → List va_W → va_W → va_W
  | [], _, w => w
  | _ :: _, [], w => w
  | q :: qs, x :: w1, w => bif Nat.beq q i then x else pickD i qs w1 w
def backD (qs : List Nat) (w1 : List va_W) : Nat → List va_W → List va_W
  | _, [] => []
  | i, w :: r => pickD i qs w1 w :: backD qs w1 (i + 1) r
def backC (qs : List Nat) (w1 ws : List va_W) : List va_W := backD qs w1 0 ws
theorem pickD_or (i : Nat) (w : va_W) : ∀ (qs : List Nat) (w1 : List va_W), qs.length = w1.length → (∃ j : Nat, qs[j]? = some i ∧ w1[j]? = some (pickD i qs w1 w)) ∨ (pickD i qs w1 w = w ∧ i ∉ qs)
  | [], _, _ => Or.inr ⟨rfl, List.not_mem_nil⟩
  | _ :: _, [], hl => by simp at hl
  | q :: qs, x :: w1, hl => by
    by_cases h : q = i
    · subst h
      refine Or.inl ⟨0, rfl, ?_⟩
      show some x = some (bif Nat.beq q q then x else pickD q qs w1 w)
      rw [Nat.beq_refl]
      rfl
    · have hb : Nat.beq q i = false := by
        cases hq : Nat.beq q i with
        | true => exact absurd (Nat.eq_of_beq_eq_true hq) h
        | false => rfl
      have e : pickD i (q :: qs) (x :: w1) w = pickD i qs w1 w := by
        show (bif Nat.beq q i then x else pickD i qs w1 w) = _
        rw [hb]
        rfl
      rw [e]
      rcases pickD_or i w qs w1 (by simpa using hl) with ⟨j, h1, h2⟩ | ⟨h1, h2⟩
      · exact Or.inl ⟨j + 1, h1, h2⟩
      · exact Or.inr ⟨h1, fun hm => (List.mem_cons.mp hm).elim (fun e => h e.symm) h2⟩
theorem backD_get (qs : List Nat) (w1 : List va_W) : ∀ (ws : List va_W) (i0 i : Nat), (backD qs w1 i0 ws)[i]? = (ws[i]?).map (fun w => pickD (i0 + i) qs w1 w)
  | [], _, _ => by simp [backD]
  | w :: r, i0, 0 => rfl
  | w :: r, i0, i + 1 => by
    show (backD qs w1 (i0 + 1) r)[i]? = (r[i]?).map _
    rw [backD_get qs w1 r (i0 + 1) i, show i0 + 1 + i = i0 + (i + 1) by omega]
theorem backC_at (ps : List Nat) (w1 ws : List va_W) (hl : ps.length = w1.length) (i : Nat) (y : va_W) (h : (backC ps w1 ws)[i]? = some y) : y ∈ w1 ∨ (ws[i]? = some y ∧ i ∉ ps) := by
  unfold backC at h
  rw [backD_get, Nat.zero_add] at h
  cases hw : ws[i]? with
  | none => rw [hw] at h; cases h
  | some w =>
    rw [hw] at h
    have hy : pickD i ps w1 w = y := Option.some.inj h
    rcases pickD_or i w ps w1 hl with ⟨j, h1, h2⟩ | ⟨h1, h2⟩
    · rw [hy] at h2
      exact Or.inl (List.mem_of_getElem? h2)
    · exact Or.inr ⟨by rw [← hy, h1], h2⟩
theorem backC_fst (ps : List Nat) (w1 ws : List va_W) (hl : ps.length = w1.length) (h : ∀ (j q : Nat) (x : va_W), ps[j]? = some q → w1[j]? = some x → (ws.map (List.map Prod.fst))[q]? = some (x.map Prod.fst)) : (backC ps w1 ws).map (List.map Prod.fst) = ws.map (List.map Prod.fst) := by
  apply List.ext_getElem?
  intro i
  unfold backC
  rw [List.getElem?_map, backD_get, Nat.zero_add, List.getElem?_map]
  cases hw : ws[i]? with
  | none => rfl
  | some w =>
    show some ((pickD i ps w1 w).map Prod.fst) = some (w.map Prod.fst)
    rcases pickD_or i w ps w1 hl with ⟨j, h1, h2⟩ | ⟨h1, h2⟩
    · have h3 := h j i _ h1 h2
      rw [List.getElem?_map, hw] at h3
      exact h3.symm
    · rw [h1]
theorem cat_fst : ∀ {x y : List va_W}, x.map (List.map Prod.fst) = y.map (List.map Prod.fst) → (cat x).map Prod.fst = (cat y).map Prod.fst
  | [], [], _ => rfl
  | [], _ :: _, h => by simp at h
  | _ :: _, [], h => by simp at h
  | a :: x, b :: y, h => by
    simp only [List.map_cons, List.cons.injEq] at h
    rw [cat_cons, cat_cons, List.map_append, List.map_append, h.1, cat_fst h.2]
theorem nd_inj : ∀ {l : List Nat}, va_nd l = true → ∀ (i j : Nat) (x : Nat), l[i]? = some x → l[j]? = some x → i = j := by
  intro l h i j x hi hj
  have hD : va_D (fun _ => True) (l.map fun a => (a, (.inr (0, []) : va_E))) := by
    refine va_D.sub (A := fun _ => True) (ws := (List.range (x + l.foldl max 0 + 1)).map fun a => (a, (.inr (0, []) : va_E))) ⟨fun i j p q hp hq e => ?_, fun _ _ _ => trivial⟩ l h ?_
    · rw [List.getElem?_map] at hp hq
      cases h1 : (List.range (x + l.foldl max 0 + 1))[i]? with
      | none => rw [h1] at hp; cases hp
      | some a =>
        cases h2 : (List.range (x + l.foldl max 0 + 1))[j]? with
        | none => rw [h2] at hq; cases hq
        | some b =>
          rw [h1] at hp; rw [h2] at hq
          cases hp; cases hq
          obtain ⟨g1, g2⟩ := List.getElem?_eq_some_iff.mp h1
          obtain ⟨g3, g4⟩ := List.getElem?_eq_some_iff.mp h2
          rw [List.getElem_range] at g2 g4
          have : a = b := e
          omega
    · rw [List.map_map]
      refine List.map_congr_left fun a ha => ?_
      have hmax : ∀ (l : List Nat) (m : Nat), m ≤ l.foldl max m ∧ ∀ a ∈ l, a ≤ l.foldl max m := by
        intro l
        induction l with
        | nil => exact fun m => ⟨Nat.le_refl _, fun a ha => by simp at ha⟩
        | cons b l ih =>
          intro m
          obtain ⟨g1, g2⟩ := ih (max m b)
          refine ⟨Nat.le_trans (Nat.le_max_left _ _) g1, fun a ha => ?_⟩
          rcases List.mem_cons.mp ha with rfl | ha
          · exact Nat.le_trans (Nat.le_max_right _ _) g1
          · exact g2 a ha
      have := (hmax l 0).2 a ha
      show ((List.range (x + l.foldl max 0 + 1)).map _)[a]? = some (a, _)
      rw [List.getElem?_map, List.getElem?_range (by omega)]
      rfl
  exact hD.1 i j (x, .inr (0, [])) (x, .inr (0, [])) (by rw [List.getElem?_map, hi]; rfl) (by rw [List.getElem?_map, hj]; rfl) rfl
theorem im_backC {A : Nat → Prop} {D : va_G} {wss wcs w1s : List va_W} {H H1 : Heap} (hP : va_P D vwCl (cat wss) H) (hD : va_D A (cat wss)) (qs : List Nat) (hC : qs.map (fun i => wss[i]?) = wcs.map some) (hf : w1s.map (List.map Prod.fst) = wcs.map (List.map Prod.fst))
    (hk : ∀ q : Nat, q < H.size → ¬ va_A (cat wcs) H.size q → H1[q]? = H[q]?) (hP1 : va_P D vwCl (cat w1s) H1) : va_P D vwCl (cat (backC qs w1s wss)) H1 ∧ va_D A (cat (backC qs w1s wss)) := by
  have hl1 : w1s.length = wcs.length := by simpa using congrArg List.length hf
  have hl2 : qs.length = wcs.length := by simpa using congrArg List.length hC
  have at' : ∀ (k : Nat) (q : va_W), wcs[k]? = some q → ∃ i, qs[k]? = some i ∧ wss[i]? = some q := by
    intro k q hq
    have h1 : (qs.map (fun i => wss[i]?))[k]? = some (some q) := by rw [hC, List.getElem?_map, hq]; rfl
    rw [List.getElem?_map] at h1
    cases hi : qs[k]? with
    | none => rw [hi] at h1; cases h1
    | some i => rw [hi] at h1; exact ⟨i, rfl, Option.some.inj h1⟩
  have hDs := vaD_cat hD
  refine ⟨vaP_cat.mpr fun y hy => ?_, im_fst_D (cat_fst (backC_fst qs w1s wss (hl2.trans hl1.symm) fun j q x h1 h2 => ?_)) hD⟩
  · obtain ⟨i, hi⟩ := List.getElem?_of_mem hy
    rcases backC_at qs w1s wss (hl2.trans hl1.symm) i y hi with h1 | ⟨h1, h2⟩
    · exact vaP_cat.mp hP1 y h1
    · refine vaP_mem.mpr fun q hq => ?_
      have hat := vaP_mem.mp (vaP_cat.mp hP y (List.mem_of_getElem? h1)) q hq
      refine hat.kept (hk q.1 hat.lt fun hA => ?_)
      rcases hA with ⟨k, e, hk2⟩ | hge
      · obtain ⟨w, hw, hqw⟩ := mem_cat.mp (List.mem_of_getElem? hk2)
        obtain ⟨k', hk'⟩ := List.getElem?_of_mem hw
        obtain ⟨i', h3, h4⟩ := at' k' w hk'
        exact hDs.2 i i' y w h1 h4 (fun e => h2 (e ▸ List.mem_of_getElem? h3)) q hq (q.1, e) hqw rfl
      · exact absurd hat.lt (Nat.not_lt.mpr hge)
  · have h3 : (w1s.map (List.map Prod.fst))[j]? = some (x.map Prod.fst) := by rw [List.getElem?_map, h2]; rfl
    rw [hf, List.getElem?_map] at h3
    cases hw : wcs[j]? with
    | none => rw [hw] at h3; cases h3
    | some q' =>
      rw [hw] at h3
      obtain ⟨i', h5, h6⟩ := at' j q' hw
      have hi : i' = q := Option.some.inj (h5.symm.trans h1)
      subst hi
      rw [List.getElem?_map, h6]
      exact h3
/-- the callee's components, out of the caller's -/
theorem im_pickC {A : Nat → Prop} {D : va_G} {wss wcs : List va_W} {H : Heap} (hP : va_P D vwCl (cat wss) H) (hD : va_D A (cat wss)) (qs : List Nat) (hnd : va_nd qs = true) (hC : qs.map (fun i => wss[i]?) = wcs.map some) : va_P D vwCl (cat wcs) H ∧ va_D A (cat wcs) := by
  have at' : ∀ (k : Nat) (q : va_W), wcs[k]? = some q → ∃ i, qs[k]? = some i ∧ wss[i]? = some q := by
    intro k q hq
    have h1 : (qs.map (fun i => wss[i]?))[k]? = some (some q) := by rw [hC, List.getElem?_map, hq]; rfl
    rw [List.getElem?_map] at h1
    cases hi : qs[k]? with
    | none => rw [hi] at h1; cases h1
    | some i => rw [hi] at h1; exact ⟨i, rfl, Option.some.inj h1⟩
  have hDs := vaD_cat hD
  refine ⟨vaP_cat.mpr fun w hw => ?_, vaDs_cat ⟨fun w hw => ?_, fun i j w v hw hv hij => ?_⟩⟩
  · obtain ⟨k, hk⟩ := List.getElem?_of_mem hw
    obtain ⟨i, -, hi⟩ := at' k w hk
    exact vaP_cat.mp hP w (List.mem_of_getElem? hi)
  · obtain ⟨k, hk⟩ := List.getElem?_of_mem hw
    obtain ⟨i, -, hi⟩ := at' k w hk
    exact hDs.1 w (List.mem_of_getElem? hi)
  · obtain ⟨i', h1, h2⟩ := at' i w hw
    obtain ⟨j', h3, h4⟩ := at' j v hv
    refine hDs.2 i' j' w v h2 h4 (fun e => ?_)
    subst e
    exact hij (nd_inj hnd i j i' h1 h3)
theorem im_freeC {A : Nat → Prop} {wcs : List va_W} {H0 H : Heap} {locs : List Loc} (hDc : va_D A (cat wcs)) (hS : va_S A H0 H locs) (hA : ∀ q, H0.size ≤ q → A q) : ∀ q, va_A (cat wcs) H.size q → A q := by
  intro q h
  rcases h with ⟨k, e, h⟩ | h
  · exact hDc.2 k _ h
  · exact hA q (Nat.le_trans hS.1 h)
def off : List va_W → Nat → Nat
  | _, 0 => 0
  | [], _ + 1 => 0
  | w :: r, i + 1 => w.length + off r i
theorem cat_get : ∀ {wss : List va_W} {i : Nat} {w : va_W} {q : Nat} {x : Nat × va_E}, wss[i]? = some w → w[q]? = some x → (cat wss)[off wss i + q]? = some x
  | [], i, w, q, x, h, _ => by simp at h
  | v :: r, 0, w, q, x, h, h2 => by
    cases h
    rw [cat_cons]
    show (v ++ cat r)[0 + q]? = some x
    rw [Nat.zero_add, List.getElem?_append_left (List.getElem?_eq_some_iff.mp h2).1]
    exact h2
  | v :: r, i + 1, w, q, x, h, h2 => by
    rw [cat_cons]
    show (v ++ cat r)[v.length + off r i + q]? = some x
    rw [List.getElem?_append_right (by omega), show v.length + off r i + q - v.length = off r i + q by omega]
    exact cat_get (wss := r) h h2
theorem cat_set : ∀ {wss : List va_W} {i : Nat} {w : va_W} {q : Nat} {x y : Nat × va_E}, wss[i]? = some w → w[q]? = some y → (cat wss).set (off wss i + q) x = cat (wss.set i (w.set q x))
  | [], i, w, q, x, y, h, _ => by simp at h
  | v :: r, 0, w, q, x, y, h, h2 => by
    cases h
    have hq := (List.getElem?_eq_some_iff.mp h2).1
    show (cat (v :: r)).set (0 + q) x = cat (v.set q x :: r)
    rw [cat_cons, cat_cons, Nat.zero_add, List.set_append_left _ _ hq]
  | v :: r, i + 1, w, q, x, y, h, h2 => by
    show (cat (v :: r)).set (v.length + off r i + q) x = cat (v :: r.set i (w.set q x))
    rw [cat_cons, cat_cons, List.set_append_right _ _ (by omega), show v.length + off r i + q - v.length = off r i + q by omega, cat_set (wss := r) h h2]
section ImCat
variable {p : Program} {l : Launch} {e : Env} {R : Room} {s : State} {m : MethodId} {args : Array Value} {below : List Frame} {meth : Method} {c : Code} {D : va_G} {ct : im_ct} {A : Nat → Prop} {own : String} {cc : ByteArray} {nL : Nat} {ret : Option FieldType} {α : Type} {Q : α → Array Value → State → Outcome → State → Prop} {pc : Nat} {lv : List (Nat × Value)} {st : List Value} {ws : va_W} {E : Option α}
variable {y : MethodName} {bytes : ByteArray} {maxL : Nat} {rt : Option FieldType} {dd n idx : Nat} {β : Type} {Ef : Option β} {b : Nat} {K : β → Option α}
theorem im_cciV (X : im_X p R s m args meth c D ct A own cc nL ret) (As rest : List Value) (wss wcs : List va_W) (qs : List Nat) (w1s : β → List va_W) (i0 q0 ci : Nat) {wr : va_W} {fs : List Value} (hi0 : wss[i0]? = some wr) (hq : wr[q0]? = some (b, .inr (ci, fs))) (hci : vwCl[ci]?.map Prod.fst = some y.cls) {rf : β → Int32} (cl : im_CL own idx y bytes maxL rt n) (cm : CMi l D ct y bytes maxL rt dd (.ref b :: As) (cat wcs) Ef rf (fun z => cat (w1s z))) (hC : qs.map (fun i => wss[i]?) = wcs.map some) (hnd : va_nd qs = true) (hf : ∀ z, (w1s z).map (List.map Prod.fst) = wcs.map (List.map Prod.fst)) (hn : As.length = n) (hR : dd + 1 ≤ R.frames ∧ 8 + (maxL + 11) + 40 * dd ≤ R.locals) (hrest : (rest.map fun v => v.category).sum ≤ 8) (hst : st = As.reverse ++ .ref b :: rest) (d : decode cc pc = .ok (.invokevirtual idx, 3)) (k : ∀ z, Im p l e R s m args below meth c D A nL Q (pc + 3) lv (.int (rf z) :: rest) (cat (backC qs (w1s z) wss)) (K z)) : Im p l e R s m args below meth c D A nL Q pc lv st (cat wss) (Ef.bind K) := fun a h H locs ls hP hD hS hl => by
  obtain ⟨z0, h1, h2⟩ := Option.bind_eq_some_iff.mp h
  have hPs := hP
  have hDs := hD
  obtain ⟨hPc, hDc⟩ := im_pickC hPs hDs qs hnd hC
  have hFc := im_freeC hDc hS X.2.2.2.2.2.2.2.2.2.1
  refine va_calli (im_runV X cl (cm z0 h1 H.size) hPs hPc hDc hS hFc (off wss i0 + q0) ci (cat_get hi0 hq) hci hn hl.1 hR hrest hst d) hS (fun q _ h => hFc q h) hFc (fun r u t H1 locs1 ht hvm hw hB hz1 hk1 hS1 => ?_)
  obtain ⟨hB1, hB2⟩ := hB
  rw [ht] at hB1
  subst hw
  obtain ⟨hP2, hD2⟩ := im_backC hPs hDs qs hC (hf z0) hk1 hB1
  exact k z0 a h2 H1 locs1 ls hP2 hD2 hS1 hl
theorem im_cciS (X : im_X p R s m args meth c D ct A own cc nL ret) (As rest : List Value) (wss wcs : List va_W) (qs : List Nat) (w1s : β → List va_W) {rf : β → Int32} (cl : im_CS own idx y bytes maxL rt n) (cm : CMi l D ct y bytes maxL rt dd As (cat wcs) Ef rf (fun z => cat (w1s z))) (hC : qs.map (fun i => wss[i]?) = wcs.map some) (hnd : va_nd qs = true) (hf : ∀ z, (w1s z).map (List.map Prod.fst) = wcs.map (List.map Prod.fst)) (hn : As.length = n) (hR : dd + 1 ≤ R.frames ∧ 8 + (maxL + 11) + 40 * dd ≤ R.locals) (hrest : (rest.map fun v => v.category).sum ≤ 8) (hst : st = As.reverse ++ rest) (d : decode cc pc = .ok (.invokestatic idx, 3)) (k : ∀ z, Im p l e R s m args below meth c D A nL Q (pc + 3) lv (.int (rf z) :: rest) (cat (backC qs (w1s z) wss)) (K z)) : Im p l e R s m args below meth c D A nL Q pc lv st (cat wss) (Ef.bind K) := fun a h H locs ls hP hD hS hl => by
  obtain ⟨z0, h1, h2⟩ := Option.bind_eq_some_iff.mp h
  have hPs := hP
  have hDs := hD
  obtain ⟨hPc, hDc⟩ := im_pickC hPs hDs qs hnd hC
  have hFc := im_freeC hDc hS X.2.2.2.2.2.2.2.2.2.1
  refine va_calli (im_runS X cl (cm z0 h1 H.size) hPc hDc hS hFc hn hl.1 hR hrest hst d) hS (fun q _ h => hFc q h) hFc (fun r u t H1 locs1 ht hvm hw hB hz1 hk1 hS1 => ?_)
  obtain ⟨hB1, hB2⟩ := hB
  rw [ht] at hB1
  subst hw
  obtain ⟨hP2, hD2⟩ := im_backC hPs hDs qs hC (hf z0) hk1 hB1
  exact k z0 a h2 H1 locs1 ls hP2 hD2 hS1 hl
theorem im_cclV (X : im_X p R s m args meth c D ct A own cc nL ret) (As rest : List Value) (wss wcs : List va_W) (qs : List Nat) (w1s : β → List va_W) (i0 q0 ci : Nat) {wr : va_W} {fs : List Value} (hi0 : wss[i0]? = some wr) (hq : wr[q0]? = some (b, .inr (ci, fs))) (hci : vwCl[ci]?.map Prod.fst = some y.cls) {rf : β → Int64} (cl : im_CL own idx y bytes maxL rt n) (cm : CMl l D ct y bytes maxL rt dd (.ref b :: As) (cat wcs) Ef rf (fun z => cat (w1s z))) (hC : qs.map (fun i => wss[i]?) = wcs.map some) (hnd : va_nd qs = true) (hf : ∀ z, (w1s z).map (List.map Prod.fst) = wcs.map (List.map Prod.fst)) (hn : As.length = n) (hR : dd + 1 ≤ R.frames ∧ 8 + (maxL + 11) + 40 * dd ≤ R.locals) (hrest : (rest.map fun v => v.category).sum ≤ 8) (hst : st = As.reverse ++ .ref b :: rest) (d : decode cc pc = .ok (.invokevirtual idx, 3)) (k : ∀ z, Im p l e R s m args below meth c D A nL Q (pc + 3) lv (.long (rf z) :: rest) (cat (backC qs (w1s z) wss)) (K z)) : Im p l e R s m args below meth c D A nL Q pc lv st (cat wss) (Ef.bind K) := fun a h H locs ls hP hD hS hl => by
  obtain ⟨z0, h1, h2⟩ := Option.bind_eq_some_iff.mp h
  have hPs := hP
  have hDs := hD
  obtain ⟨hPc, hDc⟩ := im_pickC hPs hDs qs hnd hC
  have hFc := im_freeC hDc hS X.2.2.2.2.2.2.2.2.2.1
  refine va_calll (im_runV X cl (cm z0 h1 H.size) hPs hPc hDc hS hFc (off wss i0 + q0) ci (cat_get hi0 hq) hci hn hl.1 hR hrest hst d) hS (fun q _ h => hFc q h) hFc (fun r u t H1 locs1 ht hvm hw hB hz1 hk1 hS1 => ?_)
  obtain ⟨hB1, hB2⟩ := hB
  rw [ht] at hB1
  subst hw
  obtain ⟨hP2, hD2⟩ := im_backC hPs hDs qs hC (hf z0) hk1 hB1
  exact k z0 a h2 H1 locs1 ls hP2 hD2 hS1 hl
theorem im_cclS (X : im_X p R s m args meth c D ct A own cc nL ret) (As rest : List Value) (wss wcs : List va_W) (qs : List Nat) (w1s : β → List va_W) {rf : β → Int64} (cl : im_CS own idx y bytes maxL rt n) (cm : CMl l D ct y bytes maxL rt dd As (cat wcs) Ef rf (fun z => cat (w1s z))) (hC : qs.map (fun i => wss[i]?) = wcs.map some) (hnd : va_nd qs = true) (hf : ∀ z, (w1s z).map (List.map Prod.fst) = wcs.map (List.map Prod.fst)) (hn : As.length = n) (hR : dd + 1 ≤ R.frames ∧ 8 + (maxL + 11) + 40 * dd ≤ R.locals) (hrest : (rest.map fun v => v.category).sum ≤ 8) (hst : st = As.reverse ++ rest) (d : decode cc pc = .ok (.invokestatic idx, 3)) (k : ∀ z, Im p l e R s m args below meth c D A nL Q (pc + 3) lv (.long (rf z) :: rest) (cat (backC qs (w1s z) wss)) (K z)) : Im p l e R s m args below meth c D A nL Q pc lv st (cat wss) (Ef.bind K) := fun a h H locs ls hP hD hS hl => by
  obtain ⟨z0, h1, h2⟩ := Option.bind_eq_some_iff.mp h
  have hPs := hP
  have hDs := hD
  obtain ⟨hPc, hDc⟩ := im_pickC hPs hDs qs hnd hC
  have hFc := im_freeC hDc hS X.2.2.2.2.2.2.2.2.2.1
  refine va_calll (im_runS X cl (cm z0 h1 H.size) hPc hDc hS hFc hn hl.1 hR hrest hst d) hS (fun q _ h => hFc q h) hFc (fun r u t H1 locs1 ht hvm hw hB hz1 hk1 hS1 => ?_)
  obtain ⟨hB1, hB2⟩ := hB
  rw [ht] at hB1
  subst hw
  obtain ⟨hP2, hD2⟩ := im_backC hPs hDs qs hC (hf z0) hk1 hB1
  exact k z0 a h2 H1 locs1 ls hP2 hD2 hS1 hl
theorem im_ccvV (X : im_X p R s m args meth c D ct A own cc nL ret) (As rest : List Value) (wss wcs : List va_W) (qs : List Nat) (w1s : β → List va_W) (i0 q0 ci : Nat) {wr : va_W} {fs : List Value} (hi0 : wss[i0]? = some wr) (hq : wr[q0]? = some (b, .inr (ci, fs))) (hci : vwCl[ci]?.map Prod.fst = some y.cls)  (cl : im_CL own idx y bytes maxL rt n) (cm : CMv l D ct y bytes maxL rt dd (.ref b :: As) (cat wcs) Ef  (fun z => cat (w1s z))) (hC : qs.map (fun i => wss[i]?) = wcs.map some) (hnd : va_nd qs = true) (hf : ∀ z, (w1s z).map (List.map Prod.fst) = wcs.map (List.map Prod.fst)) (hn : As.length = n) (hR : dd + 1 ≤ R.frames ∧ 8 + (maxL + 11) + 40 * dd ≤ R.locals) (hrest : (rest.map fun v => v.category).sum ≤ 8) (hst : st = As.reverse ++ .ref b :: rest) (d : decode cc pc = .ok (.invokevirtual idx, 3)) (k : ∀ z, Im p l e R s m args below meth c D A nL Q (pc + 3) lv rest (cat (backC qs (w1s z) wss)) (K z)) : Im p l e R s m args below meth c D A nL Q pc lv st (cat wss) (Ef.bind K) := fun a h H locs ls hP hD hS hl => by
  obtain ⟨z0, h1, h2⟩ := Option.bind_eq_some_iff.mp h
  have hPs := hP
  have hDs := hD
  obtain ⟨hPc, hDc⟩ := im_pickC hPs hDs qs hnd hC
  have hFc := im_freeC hDc hS X.2.2.2.2.2.2.2.2.2.1
  refine va_callv (im_runV X cl (cm z0 h1 H.size) hPs hPc hDc hS hFc (off wss i0 + q0) ci (cat_get hi0 hq) hci hn hl.1 hR hrest hst d) hS (fun q _ h => hFc q h) hFc (fun u t H1 locs1 ht hvm hw hB hz1 hk1 hS1 => ?_)
  obtain ⟨hB1, hB2⟩ := hB
  rw [ht] at hB1
  obtain ⟨hP2, hD2⟩ := im_backC hPs hDs qs hC (hf z0) hk1 hB1
  exact k z0 a h2 H1 locs1 ls hP2 hD2 hS1 hl
theorem im_ccvS (X : im_X p R s m args meth c D ct A own cc nL ret) (As rest : List Value) (wss wcs : List va_W) (qs : List Nat) (w1s : β → List va_W)  (cl : im_CS own idx y bytes maxL rt n) (cm : CMv l D ct y bytes maxL rt dd As (cat wcs) Ef  (fun z => cat (w1s z))) (hC : qs.map (fun i => wss[i]?) = wcs.map some) (hnd : va_nd qs = true) (hf : ∀ z, (w1s z).map (List.map Prod.fst) = wcs.map (List.map Prod.fst)) (hn : As.length = n) (hR : dd + 1 ≤ R.frames ∧ 8 + (maxL + 11) + 40 * dd ≤ R.locals) (hrest : (rest.map fun v => v.category).sum ≤ 8) (hst : st = As.reverse ++ rest) (d : decode cc pc = .ok (.invokestatic idx, 3)) (k : ∀ z, Im p l e R s m args below meth c D A nL Q (pc + 3) lv rest (cat (backC qs (w1s z) wss)) (K z)) : Im p l e R s m args below meth c D A nL Q pc lv st (cat wss) (Ef.bind K) := fun a h H locs ls hP hD hS hl => by
  obtain ⟨z0, h1, h2⟩ := Option.bind_eq_some_iff.mp h
  have hPs := hP
  have hDs := hD
  obtain ⟨hPc, hDc⟩ := im_pickC hPs hDs qs hnd hC
  have hFc := im_freeC hDc hS X.2.2.2.2.2.2.2.2.2.1
  refine va_callv (im_runS X cl (cm z0 h1 H.size) hPc hDc hS hFc hn hl.1 hR hrest hst d) hS (fun q _ h => hFc q h) hFc (fun u t H1 locs1 ht hvm hw hB hz1 hk1 hS1 => ?_)
  obtain ⟨hB1, hB2⟩ := hB
  rw [ht] at hB1
  obtain ⟨hP2, hD2⟩ := im_backC hPs hDs qs hC (hf z0) hk1 hB1
  exact k z0 a h2 H1 locs1 ls hP2 hD2 hS1 hl
theorem im_cget (X : im_X p R s m args meth c D ct A own cc nL ret) {wss : List va_W} {w : va_W} (i q : Nat) {ci k0 idx : Nat} {fin : Bool} {ty : FieldType} (fl : im_FL own idx ci k0 fin ty) {fs : List Value} {v : Value} (hi : wss[i]? = some w) (ha : w[q]? = some (b, .inr (ci, fs))) (hv : fs[k0]? = some v) (d : decode cc pc = .ok (.getfield idx, 3)) (k : Im p l e R s m args below meth c D A nL Q (pc + 3) lv (v :: st) (cat wss) E) : Im p l e R s m args below meth c D A nL Q pc lv (.ref b :: st) (cat wss) E := im_get X (off wss i + q) fl (cat_get hi ha) hv d k
theorem im_cput (X : im_X p R s m args meth c D ct A own cc nL ret) {wss : List va_W} {w : va_W} (i q : Nat) (w2 : va_W) (wss2 : List va_W) {ci k0 idx : Nat} {ty : FieldType} (fl : im_FL own idx ci k0 false ty) {fs : List Value} {v : Value} (hi : wss[i]? = some w) (ha : w[q]? = some (b, .inr (ci, fs))) (hn : narrow ty v = v) (hfit : fits ty v = true) (hlen : k0 < fs.length) (hw : w.set q (b, .inr (ci, fs.set k0 v)) = w2) (h2 : wss.set i w2 = wss2) (d : decode cc pc = .ok (.putfield idx, 3)) (k : Im p l e R s m args below meth c D A nL Q (pc + 3) lv st (cat wss2) E) : Im p l e R s m args below meth c D A nL Q pc lv (v :: .ref b :: st) (cat wss) E := im_put X (off wss i + q) (cat wss2) fl (cat_get hi ha) hn hfit hlen (by rw [cat_set hi ha, hw, h2]) d k
theorem im_cputb (X : im_X p R s m args meth c D ct A own cc nL ret) {wss : List va_W} {w : va_W} (i q : Nat) (w2 : va_W) (wss2 : List va_W) {ci k0 idx : Nat} (fl : im_FL own idx ci k0 false .boolean) {fs : List Value} {x : Int32} (hi : wss[i]? = some w) (ha : w[q]? = some (b, .inr (ci, fs))) (hlen : k0 < fs.length) (hw : w.set q (b, .inr (ci, fs.set k0 (.int x))) = w2) (h2 : wss.set i w2 = wss2) (d : decode cc pc = .ok (.putfield idx, 3)) (k : Im p l e R s m args below meth c D A nL Q (pc + 3) lv st (cat wss2) E) : Im p l e R s m args below meth c D A nL Q pc lv (.int x :: .ref b :: st) (cat wss) (cb x E) := im_putb X (off wss i + q) (cat wss2) fl (cat_get hi ha) hlen (by rw [cat_set hi ha, hw, h2]) d k
theorem im_ciald (X : im_X p R s m args meth c D ct A own cc nL ret) {wss : List va_W} {w : va_W} (i0 q t0 : Nat) {cA : ClassId} {n : Nat} {f : Nat → Int32} (hi : wss[i0]? = some w) (ha : w[q]? = some (b, .inl (cA, n, .inl f))) (ht : (im_tys ct)[t0]? = some (cA, .int)) {i : Int32} (d : decode cc pc = .ok (.iaload, 1)) (k : Im p l e R s m args below meth c D A nL Q (pc + 1) lv (.int (f i.toNatClampNeg) :: st) (cat wss) E) : Im p l e R s m args below meth c D A nL Q pc lv (.int i :: .ref b :: st) (cat wss) (ck i n E) := im_iald X (off wss i0 + q) t0 (cat_get hi ha) ht d k
theorem im_cbald (X : im_X p R s m args meth c D ct A own cc nL ret) {wss : List va_W} {w : va_W} (i0 q t0 : Nat) {cA : ClassId} {n : Nat} {f : Nat → Int32} (hi : wss[i0]? = some w) (ha : w[q]? = some (b, .inl (cA, n, .inl f))) (ht : (im_tys ct)[t0]? = some (cA, .byte)) {i : Int32} (d : decode cc pc = .ok (.baload, 1)) (k : Im p l e R s m args below meth c D A nL Q (pc + 1) lv (.int (f i.toNatClampNeg) :: st) (cat wss) E) : Im p l e R s m args below meth c D A nL Q pc lv (.int i :: .ref b :: st) (cat wss) (ck i n E) := im_bald X (off wss i0 + q) t0 (cat_get hi ha) ht d k
theorem im_czald (X : im_X p R s m args meth c D ct A own cc nL ret) {wss : List va_W} {w : va_W} (i0 q t0 : Nat) {cA : ClassId} {n : Nat} {f : Nat → Int32} (hi : wss[i0]? = some w) (ha : w[q]? = some (b, .inl (cA, n, .inl f))) (ht : (im_tys ct)[t0]? = some (cA, .boolean)) {i : Int32} (d : decode cc pc = .ok (.baload, 1)) (k : Im p l e R s m args below meth c D A nL Q (pc + 1) lv (.int (f i.toNatClampNeg) :: st) (cat wss) E) : Im p l e R s m args below meth c D A nL Q pc lv (.int i :: .ref b :: st) (cat wss) (ck i n E) := im_zald X (off wss i0 + q) t0 (cat_get hi ha) ht d k
theorem im_clald (X : im_X p R s m args meth c D ct A own cc nL ret) {wss : List va_W} {w : va_W} (i0 q t0 : Nat) {cA : ClassId} {n : Nat} {f : Nat → Int64} (hi : wss[i0]? = some w) (ha : w[q]? = some (b, .inl (cA, n, .inr (.inl f)))) (ht : (im_tys ct)[t0]? = some (cA, .long)) {i : Int32} (d : decode cc pc = .ok (.laload, 1)) (k : Im p l e R s m args below meth c D A nL Q (pc + 1) lv (.long (f i.toNatClampNeg) :: st) (cat wss) E) : Im p l e R s m args below meth c D A nL Q pc lv (.int i :: .ref b :: st) (cat wss) (ck i n E) := im_lald X (off wss i0 + q) t0 (cat_get hi ha) ht d k
theorem im_ciast (X : im_X p R s m args meth c D ct A own cc nL ret) {wss : List va_W} {w : va_W} (i0 q t0 : Nat) (w2 : va_W) (wss2 : List va_W) {cA : ClassId} {n : Nat} {f : Nat → Int32} {x : Int32} {i : Int32} (hi : wss[i0]? = some w) (ha : w[q]? = some (b, .inl (cA, n, .inl f))) (ht : (im_tys ct)[t0]? = some (cA, .int)) (hw : w.set q (b, .inl (cA, n, .inl (upd f i.toNatClampNeg x))) = w2) (h2 : wss.set i0 w2 = wss2) (d : decode cc pc = .ok (.iastore, 1)) (k : Im p l e R s m args below meth c D A nL Q (pc + 1) lv st (cat wss2) E) : Im p l e R s m args below meth c D A nL Q pc lv (.int x :: .int i :: .ref b :: st) (cat wss) (ck i n E) := im_iast X (off wss i0 + q) t0 (cat wss2) (cat_get hi ha) ht (by rw [cat_set hi ha, hw, h2]) d k
theorem im_cbast (X : im_X p R s m args meth c D ct A own cc nL ret) {wss : List va_W} {w : va_W} (i0 q t0 : Nat) (w2 : va_W) (wss2 : List va_W) {cA : ClassId} {n : Nat} {f : Nat → Int32} {x : Int32} {i : Int32} (hi : wss[i0]? = some w) (ha : w[q]? = some (b, .inl (cA, n, .inl f))) (ht : (im_tys ct)[t0]? = some (cA, .byte)) (hw : w.set q (b, .inl (cA, n, .inl (upd f i.toNatClampNeg (vp_nar .byte x)))) = w2) (h2 : wss.set i0 w2 = wss2) (d : decode cc pc = .ok (.bastore, 1)) (k : Im p l e R s m args below meth c D A nL Q (pc + 1) lv st (cat wss2) E) : Im p l e R s m args below meth c D A nL Q pc lv (.int x :: .int i :: .ref b :: st) (cat wss) (ck i n E) := im_bast X (off wss i0 + q) t0 (cat wss2) (cat_get hi ha) ht (by rw [cat_set hi ha, hw, h2]) d k
theorem im_czast (X : im_X p R s m args meth c D ct A own cc nL ret) {wss : List va_W} {w : va_W} (i0 q t0 : Nat) (w2 : va_W) (wss2 : List va_W) {cA : ClassId} {n : Nat} {f : Nat → Int32} {x : Int32} {i : Int32} (hi : wss[i0]? = some w) (ha : w[q]? = some (b, .inl (cA, n, .inl f))) (ht : (im_tys ct)[t0]? = some (cA, .boolean)) (hw : w.set q (b, .inl (cA, n, .inl (upd f i.toNatClampNeg (vp_nar .boolean x)))) = w2) (h2 : wss.set i0 w2 = wss2) (d : decode cc pc = .ok (.bastore, 1)) (k : Im p l e R s m args below meth c D A nL Q (pc + 1) lv st (cat wss2) E) : Im p l e R s m args below meth c D A nL Q pc lv (.int x :: .int i :: .ref b :: st) (cat wss) (ck i n E) := im_zast X (off wss i0 + q) t0 (cat wss2) (cat_get hi ha) ht (by rw [cat_set hi ha, hw, h2]) d k
theorem im_clast (X : im_X p R s m args meth c D ct A own cc nL ret) {wss : List va_W} {w : va_W} (i0 q t0 : Nat) (w2 : va_W) (wss2 : List va_W) {cA : ClassId} {n : Nat} {f : Nat → Int64} {x : Int64} {i : Int32} (hi : wss[i0]? = some w) (ha : w[q]? = some (b, .inl (cA, n, .inr (.inl f)))) (ht : (im_tys ct)[t0]? = some (cA, .long)) (hw : w.set q (b, .inl (cA, n, .inr (.inl (vp_updL f i.toNatClampNeg x)))) = w2) (h2 : wss.set i0 w2 = wss2) (d : decode cc pc = .ok (.lastore, 1)) (k : Im p l e R s m args below meth c D A nL Q (pc + 1) lv st (cat wss2) E) : Im p l e R s m args below meth c D A nL Q pc lv (.long x :: .int i :: .ref b :: st) (cat wss) (ck i n E) := im_last X (off wss i0 + q) t0 (cat wss2) (cat_get hi ha) ht (by rw [cat_set hi ha, hw, h2]) d k
theorem im_caald (X : im_X p R s m args meth c D ct A own cc nL ret) {wss : List va_W} {w : va_W} (i0 q t0 : Nat) {v : Nat} {cA : ClassId} {C : String} {n : Nat} {f : Nat → Option Nat} (hi : wss[i0]? = some w) (ha : w[q]? = some (b, .inl (cA, n, .inr (.inr (.inr (.inr f)))))) (ht : (im_tys ct)[t0]? = some (cA, .object C)) {i : Int32} (hv : f i.toNatClampNeg = some v) (d : decode cc pc = .ok (.aaload, 1)) (k : Im p l e R s m args below meth c D A nL Q (pc + 1) lv (.ref v :: st) (cat wss) E) : Im p l e R s m args below meth c D A nL Q pc lv (.int i :: .ref b :: st) (cat wss) (ck i n E) := im_aald X (off wss i0 + q) t0 (cat_get hi ha) ht hv d k
theorem im_ccopyi (X : im_X p R s m args meth c D ct A own cc nL ret) {wss : List va_W} {w w0 : va_W} (j0 q0 i0 q t0 : Nat) (w2 : va_W) (wss2 : List va_W) {idx : Nat} {b0 : Nat} {cA : ClassId} {n0 n1 : Nat} {f g : Nat → Int32} {sp dp n : Int32} (w1 : Cond.methodLink own idx arraycopyName ∈ tb_good) (w2_ : Cond.native arraycopyName ∈ tb_good) (w3 : Cond.static arraycopyName ∈ tb_good) (w4 : Cond.initialized "java/lang/System" ∈ tb_good) (hj : wss[j0]? = some w0) (ha0 : w0[q0]? = some (b0, .inl (cA, n0, .inl f))) (hi : wss[i0]? = some w) (ha1 : w[q]? = some (b, .inl (cA, n1, .inl g))) (ht : (im_tys ct)[t0]? = some (cA, .int)) (hR : 1 ≤ R.frames ∧ (st.map fun v => v.category).sum + (nativeFrameWords "java/lang/System" "arraycopy" 5 + 11) ≤ R.locals) (hw : w.set q (b, .inl (cA, n1, .inl (va_cpy f g sp.toNatClampNeg dp.toNatClampNeg n.toNatClampNeg))) = w2) (h2 : wss.set i0 w2 = wss2) (d : decode cc pc = .ok (.invokestatic idx, 3)) (k : Im p l e R s m args below meth c D A nL Q (pc + 3) lv st (cat wss2) E) : Im p l e R s m args below meth c D A nL Q pc lv (.int n :: .int dp :: .ref b :: .int sp :: .ref b0 :: st) (cat wss) (cp sp dp n n0 n1 E) := im_copyi X (off wss j0 + q0) (off wss i0 + q) t0 (cat wss2) w1 w2_ w3 w4 (cat_get hj ha0) (cat_get hi ha1) ht hR (by rw [cat_set hi ha1, hw, h2]) d k
end ImCat
