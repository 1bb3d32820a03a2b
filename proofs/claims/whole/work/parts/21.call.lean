/-! contracts over pure expressions, and calls -/
theorem im_fm {α β : Type} {f : α → Option β} : ∀ {ps : List α} {w : List β}, ps.map f = w.map some → ps.filterMap f = w
  | [], [], _ => rfl
  | [], _ :: _, h => by simp at h
  | _ :: _, [], h => by simp at h
  | q :: ps, x :: w, h => by
    simp only [List.map_cons, List.cons.injEq] at h
    rw [List.filterMap_cons, h.1, im_fm h.2]
theorem im_fst_D {A : Nat → Prop} {ws ws' : va_W} (h : ws'.map Prod.fst = ws.map Prod.fst) (hD : va_D A ws) : va_D A ws' := by
  have at' : ∀ (i : Nat) (q : Nat × va_E), ws'[i]? = some q → ∃ q', ws[i]? = some q' ∧ q'.1 = q.1 := by
    intro i q hq
    have h1 : (ws'.map Prod.fst)[i]? = some q.1 := by rw [List.getElem?_map, hq]; rfl
    rw [h, List.getElem?_map] at h1
    cases hw : ws[i]? with
    | none => rw [hw] at h1; cases h1
    | some q' => rw [hw] at h1; exact ⟨q', rfl, Option.some.inj h1⟩
  refine ⟨fun i j x y hx hy hxy => ?_, fun k q hk => ?_⟩
  · obtain ⟨x', hx', ex⟩ := at' i x hx
    obtain ⟨y', hy', ey⟩ := at' j y hy
    exact hD.1 i j x' y' hx' hy' (by rw [ex, ey, hxy])
  · obtain ⟨q', hq', eq⟩ := at' k q hk
    rw [← eq]
    exact hD.2 k q' hq'
theorem im_back_fst : ∀ (ps : List Nat) (w1 ws : va_W), (∀ (j q : Nat) (x : Nat × va_E), ps[j]? = some q → w1[j]? = some x → (ws.map Prod.fst)[q]? = some x.1) → (im_back ps w1 ws).map Prod.fst = ws.map Prod.fst
  | [], _, _, _ => rfl
  | _ :: _, [], _, _ => rfl
  | q :: ps, x :: w1, ws, h => by
    have e : (ws.set q x).map Prod.fst = ws.map Prod.fst := by
      rw [List.map_set]
      have h0 := h 0 q x rfl rfl
      apply List.ext_getElem?
      intro i
      rw [List.getElem?_set]
      by_cases hi : q = i
      · subst hi
        rw [if_pos rfl]
        have hlt : q < (ws.map Prod.fst).length := (List.getElem?_eq_some_iff.mp h0).1
        rw [if_pos hlt]
        exact h0.symm
      · rw [if_neg hi]
    show (im_back ps w1 (ws.set q x)).map Prod.fst = _
    rw [im_back_fst ps w1 (ws.set q x) (fun j q' x' h1 h2 => by rw [e]; exact h (j + 1) q' x' h1 h2), e]
theorem im_back_at : ∀ (ps : List Nat) (w1 ws : va_W), ps.length = w1.length → ∀ (i : Nat) (y : Nat × va_E), (im_back ps w1 ws)[i]? = some y → y ∈ w1 ∨ (ws[i]? = some y ∧ i ∉ ps)
  | [], _, _, _, _, _, h => Or.inr ⟨h, List.not_mem_nil⟩
  | _ :: _, [], _, hl, _, _, _ => by simp at hl
  | q :: ps, x :: w1, ws, hl, i, y, h => by
    rcases im_back_at ps w1 (ws.set q x) (by simpa using hl) i y h with h1 | ⟨h1, h2⟩
    · exact Or.inl (List.mem_cons_of_mem _ h1)
    · rw [List.getElem?_set] at h1
      by_cases hi : q = i
      · rw [if_pos hi] at h1
        by_cases hlt : q < ws.length
        · rw [if_pos hlt] at h1
          exact Or.inl (by rw [← Option.some.inj h1]; exact List.mem_cons_self)
        · rw [if_neg hlt] at h1; cases h1
      · rw [if_neg hi] at h1
        exact Or.inr ⟨h1, fun hm => (List.mem_cons.mp hm).elim (fun e => hi e.symm) h2⟩
theorem im_backOK {A : Nat → Prop} {D : va_G} {ws wc w1 : va_W} {H H1 : Heap} (hP : va_P D vwCl ws H) (hD : va_D A ws) (ps : List Nat) (hC : ps.map (fun i => ws[i]?) = wc.map some) (hf : w1.map Prod.fst = wc.map Prod.fst)
    (hk : ∀ q : Nat, q < H.size → ¬ va_A wc H.size q → H1[q]? = H[q]?) (hP1 : va_P D vwCl w1 H1) : va_P D vwCl (im_back ps w1 ws) H1 ∧ va_D A (im_back ps w1 ws) := by
  have hl1 : w1.length = wc.length := by simpa using congrArg List.length hf
  have hl2 : ps.length = wc.length := by simpa using congrArg List.length hC
  have at' : ∀ (k : Nat) (q : Nat × va_E), wc[k]? = some q → ∃ i, ps[k]? = some i ∧ ws[i]? = some q := by
    intro k q hq
    have h1 : (ps.map (fun i => ws[i]?))[k]? = some (some q) := by rw [hC, List.getElem?_map, hq]; rfl
    rw [List.getElem?_map] at h1
    cases hi : ps[k]? with
    | none => rw [hi] at h1; cases h1
    | some i => rw [hi] at h1; exact ⟨i, rfl, Option.some.inj h1⟩
  refine ⟨fun i y hy => ?_, im_fst_D (im_back_fst ps w1 ws fun j q x h1 h2 => ?_) hD⟩
  · rcases im_back_at ps w1 ws (hl2.trans hl1.symm) i y hy with h1 | ⟨h1, h2⟩
    · obtain ⟨j, hj⟩ := List.getElem?_of_mem h1
      exact hP1 j y hj
    · have hlt := (hP i y h1).lt
      refine (hP i y h1).kept (hk y.1 hlt fun hA => ?_)
      rcases hA with ⟨k, e, hk2⟩ | hge
      · obtain ⟨i', h3, h4⟩ := at' k (y.1, e) hk2
        have := hD.1 i i' y (y.1, e) h1 h4 rfl
        subst this
        exact h2 (List.mem_of_getElem? h3)
      · exact absurd hlt (Nat.not_lt.mpr hge)
  · have h3 : (w1.map Prod.fst)[j]? = some x.1 := by rw [List.getElem?_map, h2]; rfl
    rw [hf, List.getElem?_map] at h3
    cases hw : wc[j]? with
    | none => rw [hw] at h3; cases h3
    | some q' =>
      rw [hw] at h3
      obtain ⟨i', h5, h6⟩ := at' j q' hw
      have hi : i' = q := Option.some.inj (h5.symm.trans h1)
      subst hi
      rw [List.getElem?_map, h6]
      exact h3
def im_Pc (D : va_G) (ct : im_ct) (av : List Value) (wc : va_W) (sz : Nat) : Array Value → State → Prop := va_Pc av (fun U => U.heap.size = sz ∧ va_P D vwCl wc U.heap ∧ va_K D vwCl (im_tys ct) U ∧ im_Nst U ∧ va_D (fun _ => True) wc ∧ im_S ct (va_A wc sz) U U.heap)
theorem im_Pc.blind {D : va_G} {ct : im_ct} {av : List Value} {wc : va_W} {sz : Nat} : FrameBlind (im_Pc D ct av wc sz) := fun a U g mk q => by
  obtain ⟨q0, q1, qP, qK, qN, qD, qS⟩ := q
  exact ⟨q0, q1, qP, va_K.moved (u := U) (U := U.calling g mk a) (Vm.Alike.refl U.vm) qK, im_Nst.same (s := U) (U := U.calling g mk a) rfl qN, qD, im_S.same (s := U) (U := U.calling g mk a) qS rfl⟩
def CMi (l : Launch) (D : va_G) (ct : im_ct) (y : MethodName) (bytes : ByteArray) (maxL : Nat) (ret : Option FieldType) (dd : Nat) {α : Type} (av : List Value) (wc : va_W) (Ef : Option α) (rf : α → Int32) (wf : α → va_W) : Prop :=
  ∀ a, Ef = some a → ∀ sz : Nat, Met l y (Cond.code y bytes maxL ret :: tb_good) (im_rm dd) (im_Pc D ct av wc sz) (QI D (va_A wc sz) rf wf a) 0 0 (va_A wc sz)
def CMl (l : Launch) (D : va_G) (ct : im_ct) (y : MethodName) (bytes : ByteArray) (maxL : Nat) (ret : Option FieldType) (dd : Nat) {α : Type} (av : List Value) (wc : va_W) (Ef : Option α) (rf : α → Int64) (wf : α → va_W) : Prop :=
  ∀ a, Ef = some a → ∀ sz : Nat, Met l y (Cond.code y bytes maxL ret :: tb_good) (im_rm dd) (im_Pc D ct av wc sz) (QL D (va_A wc sz) rf wf a) 0 0 (va_A wc sz)
def CMv (l : Launch) (D : va_G) (ct : im_ct) (y : MethodName) (bytes : ByteArray) (maxL : Nat) (ret : Option FieldType) (dd : Nat) {α : Type} (av : List Value) (wc : va_W) (Ef : Option α) (wf : α → va_W) : Prop :=
  ∀ a, Ef = some a → ∀ sz : Nat, Met l y (Cond.code y bytes maxL ret :: tb_good) (im_rm dd) (im_Pc D ct av wc sz) (QV D (va_A wc sz) wf a) 0 0 (va_A wc sz)
section ImCalls
variable {p : Program} {l : Launch} {e : Env} {R : Room} {s : State} {m : MethodId} {args : Array Value} {below : List Frame} {meth : Method} {c : Code} {D : va_G} {ct : im_ct} {A : Nat → Prop} {own : String} {cc : ByteArray} {nL : Nat} {ret : Option FieldType} {α : Type} {Q : α → Array Value → State → Outcome → State → Prop} {pc : Nat} {lv : List (Nat × Value)} {st : List Value} {ws : va_W} {E : Option α}
variable {y : MethodName} {bytes : ByteArray} {maxL : Nat} {rt : Option FieldType} {dd n idx : Nat} {β : Type} {av : List Value} {wc : va_W} {Ef : Option β} {wf : β → va_W} {b : Nat} {As rest : List Value} {K : β → Option α}
theorem im_ofW {ws0 ws' : List Cond} {rm : Room} {Pc : Array Value → State → Prop} {Qc : Array Value → State → Outcome → State → Prop} {mc ms : Nat} {free : Addr → Prop} (hy : plainFor y = true) (hw : ws0 = Cond.code y bytes maxL rt :: ws')
    (body : ∀ p e s m args below meth c s₁, BodyLoose p l y (headSpec ws0 rm) bytes maxL rt e s m args below meth c s₁ → c.maxLocals = maxL → Pc args s →
      W p l e (headSpec ws0 rm).room s m args below meth c s.heap [] 0 0 (MQ below Qc args s mc ms free) (entryFrame m args maxL)) : Met l y ws0 rm Pc Qc mc ms free := by
  refine MetFree.of_bodySF (code := bytes) (maxLocals := maxL) (ret := rt) hy ?_ ?_
  · intro args s m h hn
    obtain ⟨meth, c, h1, h2, h3, h4, h5, h6, -, -⟩ := Cond.code_spec hn (atoms_spec (ws := ws0) h _ (by rw [hw]; exact List.mem_cons_self))
    exact ⟨meth, c, h1, h2, h3, h4, h5, h6⟩
  · intro p e s m args below meth c s₁ B hml hP _
    have hh0 : s₁.heap = s.heap := by rw [B.state]; rfl
    obtain ⟨t, a1, o, b1, b2, b3⟩ := body p e s m args below meth c s₁ B hml hP s₁ hh0 (Stand.of_body B)
    exact ⟨t, o, a1, b1, b2, ⟨b3.1, b3.2⟩⟩
/-- a body out of its expression -/
theorem im_met {Qb : (Nat → Prop) → β → Array Value → State → Outcome → State → Prop} (hy : plainFor y = true) (hlen : (lg_sl av).length ≤ maxL)
    (body : ∀ (p : Program) (e : Env) (s : State) (m : MethodId) (args : Array Value) (below : List Frame) (meth : Method) (c : Code) (A : Nat → Prop), im_X p (im_rm dd) s m args meth c D ct A y.cls bytes maxL rt → Im p l e (im_rm dd) s m args below meth c D A maxL (Qb A) 0 (lv_args 0 av) [] wc Ef) :
    ∀ a, Ef = some a → ∀ sz : Nat, Met l y (Cond.code y bytes maxL rt :: tb_good) (im_rm dd) (im_Pc D ct av wc sz) (Qb (va_A wc sz) a) 0 0 (va_A wc sz) := by
  intro a ha sz
  refine im_ofW (bytes := bytes) (maxL := maxL) (rt := rt) hy rfl ?_
  intro p e s m args below meth c s₁ B hml hv
  obtain ⟨rfl, hsz, hP, hK, hN, hD0, hSx⟩ := hv
  have hts := atoms_spec (ws := Cond.code y bytes maxL rt :: tb_good) B.pre
  have hown : s.vm.findClass y.cls = some m.cls := findClass_of_methodNamed B.named
  subst hsz
  have hD := hD0.self (sz := s.heap.size)
  have hl := lv_entry av (n := maxL) hlen
  rw [lg_entry_eq]
  exact body p e s m _ below meth c _ ⟨B.exec, B.bytes, hml, B.returns, hown, fun w h => hts w (List.mem_cons_of_mem _ h), hK, hN, B.notSynchronized, fun q h => Or.inr h, hSx⟩ a ha s.heap [] _ hP hD va_S.rf hl
def im_CL (own : String) (idx : Nat) (y : MethodName) (bytes : ByteArray) (maxL : Nat) (rt : Option FieldType) (n : Nat) : Prop := (Cond.methodLink own idx y ∈ tb_good ∨ ∃ host, Cond.methodLinkNest own idx y host ∈ tb_nest) ∧ Cond.instanceMethod y ∈ tb_good ∧ Cond.selects y.cls y y ∈ tb_good ∧ Cond.initialized y.cls ∈ tb_good ∧ Cond.code y bytes maxL rt ∈ tb_good ∧ (y.cls ≠ "java/lang/invoke/MethodHandle" ∧ y.cls ≠ "java/lang/invoke/VarHandle" ∧ (parseMethodDescriptor y.desc).map (fun d => d.parameters.length) = some n)
def im_CS (own : String) (idx : Nat) (y : MethodName) (bytes : ByteArray) (maxL : Nat) (rt : Option FieldType) (n : Nat) : Prop := (Cond.methodLink own idx y ∈ tb_good ∨ ∃ host, Cond.methodLinkNest own idx y host ∈ tb_nest) ∧ Cond.static y ∈ tb_good ∧ Cond.initialized y.cls ∈ tb_good ∧ Cond.code y bytes maxL rt ∈ tb_good ∧ (y.cls ≠ "java/lang/invoke/MethodHandle" ∧ y.cls ≠ "java/lang/invoke/VarHandle" ∧ (parseMethodDescriptor y.desc).map (fun d => d.parameters.length) = some n)
theorem im_runV (X : im_X p R s m args meth c D ct A own cc nL ret) {Qc : Array Value → State → Outcome → State → Prop} {free : Addr → Prop} {H : Heap} {locs : List Loc} {ls : Array Slot} (cl : im_CL own idx y bytes maxL rt n) (hM : Met l y (Cond.code y bytes maxL rt :: tb_good) (im_rm dd) (im_Pc D ct (.ref b :: As) wc H.size) Qc 0 0 free) (hPw : va_P D vwCl ws H) (hPc : va_P D vwCl wc H) (hDc : va_D A wc) (hSs : va_S A s.heap H locs) (hFc : ∀ q, va_A wc H.size q → A q) (q0 ci : Nat) {fs : List Value} (hq : ws[q0]? = some (b, .inr (ci, fs))) (hci : vwCl[ci]?.map Prod.fst = some y.cls) (hn : As.length = n) (hls : ls.size = nL)
    (hR : dd + 1 ≤ R.frames ∧ 8 + (maxL + 11) + 40 * dd ≤ R.locals) (hrest : (rest.map fun v => v.category).sum ≤ 8) (hst : st = As.reverse ++ .ref b :: rest) (d : decode cc pc = .ok (.invokevirtual idx, 3)) :
    va_Run p l e R s m args below meth c H locs 0 0 0 0 (F0 m pc ls st) rest (Qc (Value.ref b :: As).toArray) free := by
  obtain ⟨hl, hin, hsel, hini, hcode, hd⟩ := cl
  have hts := X.2.2.2.2.2.1
  obtain ⟨r, hr, hr1⟩ : ∃ r, vwCl[ci]? = some r ∧ r.1 = y.cls := by
    cases h : vwCl[ci]? with
    | none => rw [h] at hci; cases hci
    | some r => rw [h] at hci; exact ⟨r, rfl, Option.some.inj hci⟩
  have hrec := va_recv (s := s) X.2.2.2.2.2.2.1 hPw hr hq
  rw [hr1] at hrec
  have hp : PreV s H y.cls b (im_Pc D ct (.ref b :: As) wc H.size) As := ⟨im_Pc.blind, hrec, fun U hU hW => ⟨rfl, by rw [hU], by rw [hU]; exact hPc, va_K.moved hW.alike X.2.2.2.2.2.2.1, im_Nst.warm hW X.2.2.2.2.2.2.2.1, hDc.weaken (fun _ _ _ _ => trivial), im_S.call X.2.2.2.2.2.2.2.2.2.2 hSs hW hU hFc⟩⟩
  rcases hl with hl | ⟨host, hl⟩
  · exact va_runV (n := n) (maxL := maxL) (bytes := bytes) (ret := rt) ⟨X.1, X.2.1, X.2.2.1, X.2.2.2.2.1, hts⟩ hM ⟨callB_of n hts (tb_goodInC hcode) rfl rfl rfl (hts _ hini) (hts _ hl) hd hR, hts _ hin, hts _ hsel⟩ hp rfl hn hls hst (lv_room hrest) d ⟨Nat.zero_le _, Nat.zero_le _⟩
  · exact va_runVN (n := n) (maxL := maxL) (bytes := bytes) (ret := rt) ⟨X.1, X.2.1, X.2.2.1, X.2.2.2.2.1, hts⟩ hM ⟨va_cnB n hts (tb_goodInC hcode) rfl rfl rfl (X.2.2.2.2.2.2.2.1 _ hl) (hts _ hini) hd hR, hts _ hin, hts _ hsel⟩ hp rfl hn hls hst (lv_room hrest) d ⟨Nat.zero_le _, Nat.zero_le _⟩
theorem im_runS (X : im_X p R s m args meth c D ct A own cc nL ret) {Qc : Array Value → State → Outcome → State → Prop} {free : Addr → Prop} {H : Heap} {locs : List Loc} {ls : Array Slot} (cl : im_CS own idx y bytes maxL rt n) (hM : Met l y (Cond.code y bytes maxL rt :: tb_good) (im_rm dd) (im_Pc D ct As wc H.size) Qc 0 0 free) (hPc : va_P D vwCl wc H) (hDc : va_D A wc) (hSs : va_S A s.heap H locs) (hFc : ∀ q, va_A wc H.size q → A q) (hn : As.length = n) (hls : ls.size = nL)
    (hR : dd + 1 ≤ R.frames ∧ 8 + (maxL + 11) + 40 * dd ≤ R.locals) (hrest : (rest.map fun v => v.category).sum ≤ 8) (hst : st = As.reverse ++ rest) (d : decode cc pc = .ok (.invokestatic idx, 3)) :
    va_Run p l e R s m args below meth c H locs 0 0 0 0 (F0 m pc ls st) rest (Qc As.toArray) free := by
  obtain ⟨hl, hstat, hini, hcode, hd⟩ := cl
  have hts := X.2.2.2.2.2.1
  have hp : PreS s H (im_Pc D ct As wc H.size) As := ⟨im_Pc.blind, fun U hU hW => ⟨rfl, by rw [hU], by rw [hU]; exact hPc, va_K.moved hW.alike X.2.2.2.2.2.2.1, im_Nst.warm hW X.2.2.2.2.2.2.2.1, hDc.weaken (fun _ _ _ _ => trivial), im_S.call X.2.2.2.2.2.2.2.2.2.2 hSs hW hU hFc⟩⟩
  rcases hl with hl | ⟨host, hl⟩
  · exact va_runS (n := n) (maxL := maxL) (bytes := bytes) (ret := rt) ⟨X.1, X.2.1, X.2.2.1, X.2.2.2.2.1, hts⟩ hM ⟨callB_of n hts (tb_goodInC hcode) rfl rfl rfl (hts _ hini) (hts _ hl) hd hR, hts _ hstat⟩ hp rfl hn hls hst (lv_room hrest) d ⟨Nat.zero_le _, Nat.zero_le _⟩
  · exact va_runSN (n := n) (maxL := maxL) (bytes := bytes) (ret := rt) ⟨X.1, X.2.1, X.2.2.1, X.2.2.2.2.1, hts⟩ hM ⟨va_cnB n hts (tb_goodInC hcode) rfl rfl rfl (X.2.2.2.2.2.2.2.1 _ hl) (hts _ hini) hd hR, hts _ hstat, trivial⟩ hp rfl hn hls hst (lv_room hrest) d ⟨Nat.zero_le _, Nat.zero_le _⟩

theorem im_calliV (X : im_X p R s m args meth c D ct A own cc nL ret) (As rest : List Value) (ps : List Nat) (q0 ci : Nat) {fs : List Value} (hq : ws[q0]? = some (b, .inr (ci, fs))) (hci : vwCl[ci]?.map Prod.fst = some y.cls) {rf : β → Int32} (cl : im_CL own idx y bytes maxL rt n) (cm : CMi l D ct y bytes maxL rt dd (.ref b :: As) wc Ef rf wf) (hC : ps.map (fun i => ws[i]?) = wc.map some) (hnd : va_nd ps = true) (hf : ∀ z, (wf z).map Prod.fst = wc.map Prod.fst) (hn : As.length = n) (hR : dd + 1 ≤ R.frames ∧ 8 + (maxL + 11) + 40 * dd ≤ R.locals) (hrest : (rest.map fun v => v.category).sum ≤ 8) (hst : st = As.reverse ++ .ref b :: rest) (d : decode cc pc = .ok (.invokevirtual idx, 3)) (k : ∀ z, Im p l e R s m args below meth c D A nL Q (pc + 3) lv (.int (rf z) :: rest) (im_back ps (wf z) ws) (K z)) : Im p l e R s m args below meth c D A nL Q pc lv st ws (Ef.bind K) := fun a h H locs ls hP hD hS hl => by
  obtain ⟨z0, h1, h2⟩ := Option.bind_eq_some_iff.mp h
  have hPc := hP.sub ps (im_fm hC)
  have hDc := hD.sub ps hnd hC
  have hFc := va_free hD hS X.2.2.2.2.2.2.2.2.2.1 ps hC
  refine va_calli (im_runV X cl (cm z0 h1 H.size) hP hPc hDc hS hFc q0 ci hq hci hn hl.1 hR hrest hst d) hS (fun q _ h => hFc q h) hFc (fun r u t H1 locs1 ht hvm hw hB hz1 hk1 hS1 => ?_)
  obtain ⟨hB1, hB2⟩ := hB
  rw [ht] at hB1
  subst hw
  obtain ⟨hP2, hD2⟩ := im_backOK hP hD ps hC (hf z0) hk1 hB1
  exact k z0 a h2 H1 locs1 ls hP2 hD2 hS1 hl
theorem im_calliS (X : im_X p R s m args meth c D ct A own cc nL ret) (As rest : List Value) (ps : List Nat) {rf : β → Int32} (cl : im_CS own idx y bytes maxL rt n) (cm : CMi l D ct y bytes maxL rt dd As wc Ef rf wf) (hC : ps.map (fun i => ws[i]?) = wc.map some) (hnd : va_nd ps = true) (hf : ∀ z, (wf z).map Prod.fst = wc.map Prod.fst) (hn : As.length = n) (hR : dd + 1 ≤ R.frames ∧ 8 + (maxL + 11) + 40 * dd ≤ R.locals) (hrest : (rest.map fun v => v.category).sum ≤ 8) (hst : st = As.reverse ++ rest) (d : decode cc pc = .ok (.invokestatic idx, 3)) (k : ∀ z, Im p l e R s m args below meth c D A nL Q (pc + 3) lv (.int (rf z) :: rest) (im_back ps (wf z) ws) (K z)) : Im p l e R s m args below meth c D A nL Q pc lv st ws (Ef.bind K) := fun a h H locs ls hP hD hS hl => by
  obtain ⟨z0, h1, h2⟩ := Option.bind_eq_some_iff.mp h
  have hPc := hP.sub ps (im_fm hC)
  have hDc := hD.sub ps hnd hC
  have hFc := va_free hD hS X.2.2.2.2.2.2.2.2.2.1 ps hC
  refine va_calli (im_runS X cl (cm z0 h1 H.size) hPc hDc hS hFc hn hl.1 hR hrest hst d) hS (fun q _ h => hFc q h) hFc (fun r u t H1 locs1 ht hvm hw hB hz1 hk1 hS1 => ?_)
  obtain ⟨hB1, hB2⟩ := hB
  rw [ht] at hB1
  subst hw
  obtain ⟨hP2, hD2⟩ := im_backOK hP hD ps hC (hf z0) hk1 hB1
  exact k z0 a h2 H1 locs1 ls hP2 hD2 hS1 hl
theorem im_calllV (X : im_X p R s m args meth c D ct A own cc nL ret) (As rest : List Value) (ps : List Nat) (q0 ci : Nat) {fs : List Value} (hq : ws[q0]? = some (b, .inr (ci, fs))) (hci : vwCl[ci]?.map Prod.fst = some y.cls) {rf : β → Int64} (cl : im_CL own idx y bytes maxL rt n) (cm : CMl l D ct y bytes maxL rt dd (.ref b :: As) wc Ef rf wf) (hC : ps.map (fun i => ws[i]?) = wc.map some) (hnd : va_nd ps = true) (hf : ∀ z, (wf z).map Prod.fst = wc.map Prod.fst) (hn : As.length = n) (hR : dd + 1 ≤ R.frames ∧ 8 + (maxL + 11) + 40 * dd ≤ R.locals) (hrest : (rest.map fun v => v.category).sum ≤ 8) (hst : st = As.reverse ++ .ref b :: rest) (d : decode cc pc = .ok (.invokevirtual idx, 3)) (k : ∀ z, Im p l e R s m args below meth c D A nL Q (pc + 3) lv (.long (rf z) :: rest) (im_back ps (wf z) ws) (K z)) : Im p l e R s m args below meth c D A nL Q pc lv st ws (Ef.bind K) := fun a h H locs ls hP hD hS hl => by
  obtain ⟨z0, h1, h2⟩ := Option.bind_eq_some_iff.mp h
  have hPc := hP.sub ps (im_fm hC)
  have hDc := hD.sub ps hnd hC
  have hFc := va_free hD hS X.2.2.2.2.2.2.2.2.2.1 ps hC
  refine va_calll (im_runV X cl (cm z0 h1 H.size) hP hPc hDc hS hFc q0 ci hq hci hn hl.1 hR hrest hst d) hS (fun q _ h => hFc q h) hFc (fun r u t H1 locs1 ht hvm hw hB hz1 hk1 hS1 => ?_)
  obtain ⟨hB1, hB2⟩ := hB
  rw [ht] at hB1
  subst hw
  obtain ⟨hP2, hD2⟩ := im_backOK hP hD ps hC (hf z0) hk1 hB1
  exact k z0 a h2 H1 locs1 ls hP2 hD2 hS1 hl
theorem im_calllS (X : im_X p R s m args meth c D ct A own cc nL ret) (As rest : List Value) (ps : List Nat) {rf : β → Int64} (cl : im_CS own idx y bytes maxL rt n) (cm : CMl l D ct y bytes maxL rt dd As wc Ef rf wf) (hC : ps.map (fun i => ws[i]?) = wc.map some) (hnd : va_nd ps = true) (hf : ∀ z, (wf z).map Prod.fst = wc.map Prod.fst) (hn : As.length = n) (hR : dd + 1 ≤ R.frames ∧ 8 + (maxL + 11) + 40 * dd ≤ R.locals) (hrest : (rest.map fun v => v.category).sum ≤ 8) (hst : st = As.reverse ++ rest) (d : decode cc pc = .ok (.invokestatic idx, 3)) (k : ∀ z, Im p l e R s m args below meth c D A nL Q (pc + 3) lv (.long (rf z) :: rest) (im_back ps (wf z) ws) (K z)) : Im p l e R s m args below meth c D A nL Q pc lv st ws (Ef.bind K) := fun a h H locs ls hP hD hS hl => by
  obtain ⟨z0, h1, h2⟩ := Option.bind_eq_some_iff.mp h
  have hPc := hP.sub ps (im_fm hC)
  have hDc := hD.sub ps hnd hC
  have hFc := va_free hD hS X.2.2.2.2.2.2.2.2.2.1 ps hC
  refine va_calll (im_runS X cl (cm z0 h1 H.size) hPc hDc hS hFc hn hl.1 hR hrest hst d) hS (fun q _ h => hFc q h) hFc (fun r u t H1 locs1 ht hvm hw hB hz1 hk1 hS1 => ?_)
  obtain ⟨hB1, hB2⟩ := hB
  rw [ht] at hB1
  subst hw
  obtain ⟨hP2, hD2⟩ := im_backOK hP hD ps hC (hf z0) hk1 hB1
  exact k z0 a h2 H1 locs1 ls hP2 hD2 hS1 hl
theorem im_callvV (X : im_X p R s m args meth c D ct A own cc nL ret) (As rest : List Value) (ps : List Nat) (q0 ci : Nat) {fs : List Value} (hq : ws[q0]? = some (b, .inr (ci, fs))) (hci : vwCl[ci]?.map Prod.fst = some y.cls)  (cl : im_CL own idx y bytes maxL rt n) (cm : CMv l D ct y bytes maxL rt dd (.ref b :: As) wc Ef wf) (hC : ps.map (fun i => ws[i]?) = wc.map some) (hnd : va_nd ps = true) (hf : ∀ z, (wf z).map Prod.fst = wc.map Prod.fst) (hn : As.length = n) (hR : dd + 1 ≤ R.frames ∧ 8 + (maxL + 11) + 40 * dd ≤ R.locals) (hrest : (rest.map fun v => v.category).sum ≤ 8) (hst : st = As.reverse ++ .ref b :: rest) (d : decode cc pc = .ok (.invokevirtual idx, 3)) (k : ∀ z, Im p l e R s m args below meth c D A nL Q (pc + 3) lv rest (im_back ps (wf z) ws) (K z)) : Im p l e R s m args below meth c D A nL Q pc lv st ws (Ef.bind K) := fun a h H locs ls hP hD hS hl => by
  obtain ⟨z0, h1, h2⟩ := Option.bind_eq_some_iff.mp h
  have hPc := hP.sub ps (im_fm hC)
  have hDc := hD.sub ps hnd hC
  have hFc := va_free hD hS X.2.2.2.2.2.2.2.2.2.1 ps hC
  refine va_callv (im_runV X cl (cm z0 h1 H.size) hP hPc hDc hS hFc q0 ci hq hci hn hl.1 hR hrest hst d) hS (fun q _ h => hFc q h) hFc (fun u t H1 locs1 ht hvm hw hB hz1 hk1 hS1 => ?_)
  obtain ⟨hB1, hB2⟩ := hB
  rw [ht] at hB1
  obtain ⟨hP2, hD2⟩ := im_backOK hP hD ps hC (hf z0) hk1 hB1
  exact k z0 a h2 H1 locs1 ls hP2 hD2 hS1 hl
theorem im_callvS (X : im_X p R s m args meth c D ct A own cc nL ret) (As rest : List Value) (ps : List Nat)  (cl : im_CS own idx y bytes maxL rt n) (cm : CMv l D ct y bytes maxL rt dd As wc Ef wf) (hC : ps.map (fun i => ws[i]?) = wc.map some) (hnd : va_nd ps = true) (hf : ∀ z, (wf z).map Prod.fst = wc.map Prod.fst) (hn : As.length = n) (hR : dd + 1 ≤ R.frames ∧ 8 + (maxL + 11) + 40 * dd ≤ R.locals) (hrest : (rest.map fun v => v.category).sum ≤ 8) (hst : st = As.reverse ++ rest) (d : decode cc pc = .ok (.invokestatic idx, 3)) (k : ∀ z, Im p l e R s m args below meth c D A nL Q (pc + 3) lv rest (im_back ps (wf z) ws) (K z)) : Im p l e R s m args below meth c D A nL Q pc lv st ws (Ef.bind K) := fun a h H locs ls hP hD hS hl => by
  obtain ⟨z0, h1, h2⟩ := Option.bind_eq_some_iff.mp h
  have hPc := hP.sub ps (im_fm hC)
  have hDc := hD.sub ps hnd hC
  have hFc := va_free hD hS X.2.2.2.2.2.2.2.2.2.1 ps hC
  refine va_callv (im_runS X cl (cm z0 h1 H.size) hPc hDc hS hFc hn hl.1 hR hrest hst d) hS (fun q _ h => hFc q h) hFc (fun u t H1 locs1 ht hvm hw hB hz1 hk1 hS1 => ?_)
  obtain ⟨hB1, hB2⟩ := hB
  rw [ht] at hB1
  obtain ⟨hP2, hD2⟩ := im_backOK hP hD ps hC (hf z0) hk1 hB1
  exact k z0 a h2 H1 locs1 ls hP2 hD2 hS1 hl
theorem im_mmax (X : im_X p R s m args meth c D ct A own cc nL ret) {idx : Nat} {x y : Int32} (w1 : Cond.methodLink own idx Lib.Math.max.name ∈ tb_good) (w2 : Cond.static Lib.Math.max.name ∈ tb_good) (w3 : Cond.initialized "java/lang/Math" ∈ tb_good) (w4 : Cond.code Lib.Math.max.name Lib.Math.max.code 2 (some .int) ∈ tb_good) (hR : 1 ≤ R.frames ∧ (st.map fun v => v.category).sum + 13 ≤ R.locals) (d : decode cc pc = .ok (.invokestatic idx, 3)) (k : Im p l e R s m args below meth c D A nL Q (pc + 3) lv (.int (if x < y then y else x) :: st) ws E) : Im p l e R s m args below meth c D A nL Q pc lv (.int y :: .int x :: st) ws E := fun a h H locs ls hP hD hS hl => va_mmax X.1 X.2.1 (X.2.2.1.trans hl.1.symm) X.2.2.2.2.1 (X.2.2.2.2.2.1 _ w1) (X.2.2.2.2.2.1 _ w2) (X.2.2.2.2.2.1 _ w3) (X.2.2.2.2.2.1 _ w4) hR.1 hR.2 (Nat.zero_le _) (Nat.zero_le _) d (k a h H locs ls hP hD hS hl)
theorem im_mmin (X : im_X p R s m args meth c D ct A own cc nL ret) {idx : Nat} {x y : Int32} (w1 : Cond.methodLink own idx Lib.Math.min.name ∈ tb_good) (w2 : Cond.static Lib.Math.min.name ∈ tb_good) (w3 : Cond.initialized "java/lang/Math" ∈ tb_good) (w4 : Cond.code Lib.Math.min.name Lib.Math.min.code 2 (some .int) ∈ tb_good) (hR : 1 ≤ R.frames ∧ (st.map fun v => v.category).sum + 13 ≤ R.locals) (d : decode cc pc = .ok (.invokestatic idx, 3)) (k : Im p l e R s m args below meth c D A nL Q (pc + 3) lv (.int (if y < x then y else x) :: st) ws E) : Im p l e R s m args below meth c D A nL Q pc lv (.int y :: .int x :: st) ws E := fun a h H locs ls hP hD hS hl => va_mmin X.1 X.2.1 (X.2.2.1.trans hl.1.symm) X.2.2.2.2.1 (X.2.2.2.2.2.1 _ w1) (X.2.2.2.2.2.1 _ w2) (X.2.2.2.2.2.1 _ w3) (X.2.2.2.2.2.1 _ w4) hR.1 hR.2 (Nat.zero_le _) (Nat.zero_le _) d (k a h H locs ls hP hD hS hl)
theorem im_mabs (X : im_X p R s m args meth c D ct A own cc nL ret) {idx : Nat} {x : Int32} (w1 : Cond.methodLink own idx Lib.Math.abs.name ∈ tb_good) (w2 : Cond.static Lib.Math.abs.name ∈ tb_good) (w3 : Cond.initialized "java/lang/Math" ∈ tb_good) (w4 : Cond.code Lib.Math.abs.name Lib.Math.abs.code 1 (some .int) ∈ tb_good) (hR : 1 ≤ R.frames ∧ (st.map fun v => v.category).sum + 13 ≤ R.locals) (d : decode cc pc = .ok (.invokestatic idx, 3)) (k : Im p l e R s m args below meth c D A nL Q (pc + 3) lv (.int (if 0 ≤ x then x else 0 - x) :: st) ws E) : Im p l e R s m args below meth c D A nL Q pc lv (.int x :: st) ws E := fun a h H locs ls hP hD hS hl => va_mabs X.1 X.2.1 (X.2.2.1.trans hl.1.symm) X.2.2.2.2.1 (X.2.2.2.2.2.1 _ w1) (X.2.2.2.2.2.1 _ w2) (X.2.2.2.2.2.1 _ w3) (X.2.2.2.2.2.1 _ w4) hR.1 hR.2 (Nat.zero_le _) (Nat.zero_le _) d (k a h H locs ls hP hD hS hl)
theorem im_copyi (X : im_X p R s m args meth c D ct A own cc nL ret) (q0 q1 t0 : Nat) (ws2 : va_W) {idx : Nat} {b0 b : Nat} {cA : ClassId} {n0 n1 : Nat} {f g : Nat → Int32} {sp dp n : Int32} (w1 : Cond.methodLink own idx arraycopyName ∈ tb_good) (w2 : Cond.native arraycopyName ∈ tb_good) (w3 : Cond.static arraycopyName ∈ tb_good) (w4 : Cond.initialized "java/lang/System" ∈ tb_good) (ha0 : ws[q0]? = some (b0, .inl (cA, n0, .inl f))) (ha1 : ws[q1]? = some (b, .inl (cA, n1, .inl g))) (ht : (im_tys ct)[t0]? = some (cA, .int)) (hR : 1 ≤ R.frames ∧ (st.map fun v => v.category).sum + (nativeFrameWords "java/lang/System" "arraycopy" 5 + 11) ≤ R.locals) (hw : ws.set q1 (b, .inl (cA, n1, .inl (va_cpy f g sp.toNatClampNeg dp.toNatClampNeg n.toNatClampNeg))) = ws2) (d : decode cc pc = .ok (.invokestatic idx, 3)) (k : Im p l e R s m args below meth c D A nL Q (pc + 3) lv st ws2 E) : Im p l e R s m args below meth c D A nL Q pc lv (.int n :: .int dp :: .ref b :: .int sp :: .ref b0 :: st) ws (cp sp dp n n0 n1 E) := fun a h H locs ls hP hD hS hl => by
  obtain ⟨⟨h1, h2, h3, h4, h5⟩, h⟩ := cp_some h
  exact va_copyi X.1 X.2.1 (X.2.2.1.trans hl.1.symm) X.2.2.2.2.1 (X.2.2.2.2.2.1 _ w1) (X.2.2.2.2.2.1 _ w2) (X.2.2.2.2.2.1 _ w3) (X.2.2.2.2.2.1 _ w4) X.2.2.2.2.2.2.1 hP hD hS q0 q1 t0 t0 ha0 ha1 ht ht rfl h1 h2 h3 h4 h5 (fun _ _ => rfl) hR.1 hR.2 d (fun H1 locs1 hP1 hD1 hS1 => k a h H1 locs1 ls (hw ▸ hP1) (hw ▸ hD1) hS1 hl)
end ImCalls
