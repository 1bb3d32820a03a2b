/-! MACHINE: rows for the constructors -/
def aoC : String := "ExchequerCloth$Cloth"
theorem cat_snoc : ∀ (wss : List va_W) (x : va_W), cat wss ++ x = cat (wss ++ [x])
  | [], x => rfl
  | w :: r, x => by
    rw [List.cons_append, cat_cons, cat_cons, List.append_assoc, cat_snoc r x]
theorem cat_app : ∀ (a b : List va_W), cat (a ++ b) = cat a ++ cat b
  | [], b => rfl
  | w :: r, b => by
    rw [List.cons_append, cat_cons, cat_cons, List.append_assoc, cat_app r b]
theorem ra_inj {U : State} {a b : ClassId} {ty : FieldType} (h1 : va_RA U a ty) (h2 : va_RA U b ty) : a = b := by
  cases ty with
  | object C =>
    obtain ⟨_, _, _, _, _, e1⟩ := h1
    obtain ⟨_, _, _, _, _, e2⟩ := h2
    exact Option.some.inj (e1.symm.trans e2)
  | _ => exact Option.some.inj (Eq.trans (Eq.symm h1) h2)
theorem va_grow {A : Nat → Prop} {D : va_G} {wr wc w1 : va_W} {H H1 : Heap} (hP : va_P D vwCl (wr ++ wc) H) (hD : va_D A (wr ++ wc)) (hk : ∀ q : Nat, q < H.size → ¬ va_A wc H.size q → H1[q]? = H[q]?) (hP1 : va_P D vwCl w1 H1) (hD1 : va_D (va_A wc H.size) w1) (hF : ∀ q, va_A wc H.size q → A q) : va_P D vwCl (wr ++ w1) H1 ∧ va_D A (wr ++ w1) := by
  obtain ⟨d1, -, d3⟩ := vaD_split hD
  have hq : ∀ q ∈ wr, va_at D vwCl q H := fun q h => vaP_mem.mp hP q (List.mem_append_left _ h)
  have hn : ∀ q ∈ wr, ¬ va_A wc H.size q.1 := fun q h hA => by
    rcases hA with ⟨k, e, hk2⟩ | hge
    · exact d3 q h (q.1, e) (List.mem_of_getElem? hk2) rfl
    · exact absurd (hq q h).lt (Nat.not_lt.mpr hge)
  refine ⟨vaP_mem.mpr fun q h => ?_, vaD_app d1 ⟨hD1.1, fun k q h => hF _ (hD1.2 k q h)⟩ fun p hp q h e => ?_⟩
  · rcases List.mem_append.mp h with h | h
    · exact (hq q h).kept (hk q.1 (hq q h).lt (hn q h))
    · exact vaP_mem.mp hP1 q h
  · obtain ⟨k, hk2⟩ := List.getElem?_of_mem h
    exact hn p hp (e ▸ hD1.2 k q hk2)
def im_Pk (D : va_G) (ct : im_ct) (av : List Value) (wc : va_W) (sz : Nat) : Array Value → State → Prop := fun a U => im_Pc D ct av wc sz a U ∧ va_AO aoC U
theorem im_Pk.blind {D : va_G} {ct : im_ct} {av : List Value} {wc : va_W} {sz : Nat} : FrameBlind (im_Pk D ct av wc sz) := fun a U g mk q => ⟨im_Pc.blind a U g mk q.1, va_AO.moved (u := U) (U := U.calling g mk a) (Vm.Alike.refl U.vm) q.2⟩
abbrev Ku : Type := (Nat → Nat → Nat) × (Nat → Nat → Nat)
def QK (D : va_G) (A : Nat → Prop) (post : Ku → Prop) (w1s : Ku → List va_W) : Array Value → State → Outcome → State → Prop := va_Qv post (fun u t => va_P D vwCl (cat (w1s u)) t.heap ∧ va_D A (cat (w1s u))) A
def im_rk (dd mc ms : Nat) : Room := { frames := dd, cells := mc, slots := ms, locals := 40 * dd }
def CK (l : Launch) (D : va_G) (ct : im_ct) (y : MethodName) (bytes : ByteArray) (maxL dd mc ms : Nat) (av : List Value) (wcs : List va_W) (post : Ku → Prop) (w1s : Ku → List va_W) : Prop :=
  ∀ sz : Nat, Met l y (Cond.code y bytes maxL none :: tb_good) (im_rk dd mc ms) (im_Pk D ct av (cat wcs) sz) (QK D (va_A (cat wcs) sz) post w1s) mc ms (va_A (cat wcs) sz)
theorem ck_met {l : Launch} {D : va_G} {ct : im_ct} {y : MethodName} {bytes : ByteArray} {maxL dd mc ms : Nat} {av : List Value} {wcs : List va_W} {post : Ku → Prop} {w1s : Ku → List va_W} (hy : plainFor y = true) (hlen : (lg_sl av).length ≤ maxL) (hnm : y.name = "<init>")
    (body : ∀ (p : Program) (e : Env) (s : State) (m : MethodId) (args : Array Value) (below : List Frame) (meth : Method) (c : Code) (A : Nat → Prop), im_X p (im_rk dd mc ms) s m args meth c D ct A y.cls bytes maxL none → meth.name = "<init>" → va_AO aoC s → Jm p l e (im_rk dd mc ms) s m args below meth c D A maxL (MQ below (QK D A post w1s) args s mc ms A) 0 0 0 (lv_args 0 av) [] (cat wcs)) : CK l D ct y bytes maxL dd mc ms av wcs post w1s := by
  intro sz
  refine im_ofW (bytes := bytes) (maxL := maxL) (rt := none) hy rfl ?_
  intro p e s m args below meth c s₁ B hml hv
  obtain ⟨⟨rfl, hsz, hP, hK, hN, hD0, hSx⟩, hao⟩ := hv
  have hts := atoms_spec (ws := Cond.code y bytes maxL none :: tb_good) B.pre
  have hown : s.vm.findClass y.cls = some m.cls := findClass_of_methodNamed B.named
  subst hsz
  have hD := hD0.self (sz := s.heap.size)
  have hl := lv_entry av (n := maxL) hlen
  rw [lg_entry_eq]
  exact body p e s m _ below meth c _ ⟨B.exec, B.bytes, hml, B.returns, hown, fun w h => hts w (List.mem_cons_of_mem _ h), hK, hN, B.notSynchronized, fun q h => Or.inr h, hSx⟩ ((name_of_methodNamed B.named B.method).1.trans hnm) hao s.heap [] _ hP hD va_S.rf hl
def im_CI (own : String) (idx : Nat) (y : MethodName) (bytes : ByteArray) (maxL n : Nat) : Prop := (Cond.methodLink own idx y ∈ tb_good ∨ ∃ host, Cond.methodLinkNest own idx y host ∈ tb_nest) ∧ Cond.instanceMethod y ∈ tb_good ∧ Cond.initialized y.cls ∈ tb_good ∧ Cond.code y bytes maxL none ∈ tb_good ∧ (y.cls ≠ "java/lang/invoke/MethodHandle" ∧ y.cls ≠ "java/lang/invoke/VarHandle" ∧ (parseMethodDescriptor y.desc).map (fun d => d.parameters.length) = some n)
def im_NW (ci : Nat) (C : String) (N : Nat) (fs : List Value) : Prop := ∃ (T : u_T) (ty : Nat → FieldType), (∀ w ∈ u_ws C T N, w ∈ tb_good) ∧ (∀ k, k < N → parseFieldDescriptor (T k).2.2.1 = some (ty k)) ∧ Cond.instantiable C N ∈ tb_good ∧ Cond.initialized C ∈ tb_good ∧ vwCl[ci]? = some (C, T, N) ∧ ∀ j, j < N → defaultValue (ty j) = vp_V fs j
def im_FF (own : String) (idx ci k : Nat) (ty : FieldType) : Prop := ∃ (C : String) (T : u_T) (N : Nat) (ty0 : Nat → FieldType), (∀ w ∈ u_ws C T N, w ∈ tb_good) ∧ vwCl[ci]? = some (C, T, N) ∧ k < N ∧ (∀ j, j < N → parseFieldDescriptor (T j).2.2.1 = some (ty0 j)) ∧ (∀ x, x < N → ∀ y, y < N → x ≠ y → (T x).2.1 ≠ (T y).2.1) ∧ (T k).2.2.2 = true ∧ (T k).1 = own ∧ parseFieldDescriptor (T k).2.2.1 = some ty ∧ Cond.fieldLink own idx (T k).1 (T k).2.1 (T k).2.2.1 ∈ tb_good
section JmInit
variable {p : Program} {l : Launch} {e : Env} {R : Room} {s : State} {m : MethodId} {args : Array Value} {below : List Frame} {meth : Method} {c : Code} {D : va_G} {ct : im_ct} {A : Nat → Prop} {own : String} {cc : ByteArray} {nL : Nat} {ret : Option FieldType} {Z : State → Prop} {ce sl pc : Nat} {lv : List (Nat × Value)} {st : List Value} {ws : va_W}
theorem j_vret (X : im_X p R s m args meth c D ct A own cc nL none) {post : Ku → Prop} {w1s : Ku → List va_W} (u : Ku) (hp : post u) (hw : ws = cat (w1s u)) (d : decode cc pc = .ok (.return_, 1)) : Jm p l e R s m args below meth c D A nL (MQ below (QK D A post w1s) args s ce sl A) ce sl pc lv [] ws := fun H locs ls hP hD hS hl => by
  subst hw
  exact W.vret X.1 X.2.1 X.2.2.2.1 (fun t ht hW => ⟨⟨u, rfl, hp, by rw [ht]; exact hP, hD⟩, hS.F ht⟩) hS.2.2 d X.2.2.2.2.2.2.2.2.1
theorem j_obj (X : im_X p R s m args meth c D ct A own cc nL ret) {idx a : Nat} (w1 : Cond.methodLink own idx Lib.objectInit ∈ tb_good) (w2 : Cond.instanceMethod Lib.objectInit ∈ tb_good) (w3 : Cond.code Lib.objectInit ⟨#[0xb1]⟩ 1 none ∈ tb_good) (hR : 1 ≤ R.frames ∧ 12 ≤ R.locals) (d : decode cc pc = .ok (.invokespecial idx, 3)) (k : Jm p l e R s m args below meth c D A nL Z ce sl (pc + 3) lv [] ws) : Jm p l e R s m args below meth c D A nL Z ce sl pc lv [.ref a] ws := fun H locs ls hP hD hS hl =>
  W.objInit X.1 X.2.1 X.2.2.2.2.1 (X.2.2.2.2.2.1 _ w1) (X.2.2.2.2.2.1 _ w2) (X.2.2.2.2.2.1 _ w3) rfl (by rw [X.2.2.1]; exact hl.1) rfl d hR.1 hR.2 (W.eq (g2 := F0 m (pc + 3) ls []) rfl (k H locs ls hP hD hS hl))
theorem j_new (X : im_X p R s m args meth c D ct A own cc nL ret) {C : String} {ci N idx : Nat} {fs : List Value} (nw : im_NW ci C N fs) (w1 : Cond.classLink own idx C ∈ tb_good) (hroom : ce + 1 ≤ R.cells ∧ sl + N ≤ R.slots) (d : decode cc pc = .ok (.new idx, 3)) (k : ∀ q : Nat, Jm p l e R s m args below meth c D A nL Z (ce + 1) (sl + N) (pc + 3) lv (.ref q :: st) (ws ++ [(q, .inr (ci, fs))])) : Jm p l e R s m args below meth c D A nL Z ce sl pc lv st ws := fun H locs ls hP hD hS hl => by
  obtain ⟨T, ty, hin, hty, hi, hn, hc, hfs⟩ := nw
  exact va_new X.1 X.2.1 X.2.2.2.2.2.1 hin ty hty X.2.2.2.2.1 (X.2.2.2.2.2.1 _ w1) (X.2.2.2.2.2.1 _ hi) (X.2.2.2.2.2.1 _ hn) X.2.2.2.2.2.2.1 hP hD hS X.2.2.2.2.2.2.2.2.2.1 hc hfs hroom.1 hroom.2 d (fun q H1 hP1 hD1 hS1 => k q H1 locs ls hP1 hD1 hS1 hl)
theorem j_cnew (X : im_X p R s m args meth c D ct A own cc nL ret) {C : String} {ci N idx : Nat} {fs : List Value} {wss : List va_W} (nw : im_NW ci C N fs) (w1 : Cond.classLink own idx C ∈ tb_good) (hroom : ce + 1 ≤ R.cells ∧ sl + N ≤ R.slots) (d : decode cc pc = .ok (.new idx, 3)) (k : ∀ q : Nat, Jm p l e R s m args below meth c D A nL Z (ce + 1) (sl + N) (pc + 3) lv (.ref q :: st) (cat (wss ++ [[(q, .inr (ci, fs))]]))) : Jm p l e R s m args below meth c D A nL Z ce sl pc lv st (cat wss) := j_new X nw w1 hroom d (fun q => by rw [cat_snoc]; exact k q)
theorem j_newa (X : im_X p R s m args meth c D ct A own cc nL ret) (k0 : Nat) {cA0 : ClassId} {atype : ArrayType} {ty : FieldType} (hk0 : (im_tys ct)[k0]? = some (cA0, ty)) (hty : newarray.typeOf atype = ty) (w1 : Cond.arrayClass ty ∈ tb_good) {n : Int32} (N' : Nat) (a0 : vp_A) (ha : ∀ cA : ClassId, vp_cell cA a0 = arrV cA N' (fun _ => defaultValue ty)) (hn : ¬ n < 0) (hN : n.toNatClampNeg = N') (hbytes : N' * componentBytes ty ≤ 536870912) (hroom : ce + 1 ≤ R.cells ∧ sl + N' ≤ R.slots) (d : decode cc pc = .ok (.newarray atype, 2)) (k : ∀ q : Nat, Jm p l e R s m args below meth c D A nL Z (ce + 1) (sl + N') (pc + 2) lv (.ref q :: st) (ws ++ [(q, .inl (cA0, a0))])) : Jm p l e R s m args below meth c D A nL Z ce sl pc lv (.int n :: st) ws := fun H locs ls hP hD hS hl => by
  subst hty
  refine va_newa X.1 X.2.1 (X.2.2.2.2.2.1 _ w1) rfl X.2.2.2.2.2.2.1 hP hD hS X.2.2.2.2.2.2.2.2.2.1 ha hn hN hbytes hroom.1 hroom.2 d (fun q cA H1 hK1 hP1 hD1 hS1 => ?_)
  have e1 := (X.2.2.2.2.2.2.1.2 k0 _ hk0).2
  have e2 := (hK1.2 (im_tys ct).length (cA, newarray.typeOf atype) (by simp)).2
  obtain rfl : cA0 = cA := ra_inj e1 e2
  exact k q H1 locs ls hP1 hD1 hS1 hl
theorem j_newq (X : im_X p R s m args meth c D ct A own cc nL ret) (hao : va_AO aoC s) {idx : Nat} (w1 : Cond.classLink own idx aoC ∈ tb_good) {n : Int32} (N' : Nat) (hn : ¬ n < 0) (hN : n.toNatClampNeg = N') (hbytes : N' * 4 ≤ 536870912) (hroom : ce + 1 ≤ R.cells ∧ sl + N' ≤ R.slots) (d : decode cc pc = .ok (.anewarray idx, 3)) (k : ∀ q : Nat, Jm p l e R s m args below meth c D A nL Z (ce + 1) (sl + N') (pc + 3) lv (.ref q :: st) (ws ++ [(q, .inl (ct 4, N', .inr (.inr (.inr (.inr (fun _ => none))))))])) : Jm p l e R s m args below meth c D A nL Z ce sl pc lv (.int n :: st) ws := fun H locs ls hP hD hS hl => by
  refine va_newq X.1 X.2.1 X.2.2.2.2.1 (X.2.2.2.2.2.1 _ w1) hao X.2.2.2.2.2.2.1 hP hD hS X.2.2.2.2.2.2.2.2.2.1 hn hN hbytes hroom.1 hroom.2 d (fun q cA H1 hK1 hP1 hD1 hS1 => ?_)
  have e1 := (X.2.2.2.2.2.2.1.2 4 (ct 4, .object aoC) rfl).2
  have e2 := (hK1.2 (im_tys ct).length (cA, .object aoC) (by simp)).2
  obtain rfl : ct 4 = cA := ra_inj e1 e2
  exact k q H1 locs ls hP1 hD1 hS1 hl
theorem j_putF (X : im_X p R s m args meth c D ct A own cc nL ret) (hmn : meth.name = "<init>") (q0 : Nat) (ws2 : va_W) {ci k0 idx : Nat} {ty : FieldType} (fl : im_FF own idx ci k0 ty) {b : Nat} {fs : List Value} {v : Value} (ha : ws[q0]? = some (b, .inr (ci, fs))) (hn : narrow ty v = v) (hfit : fits ty v = true) (hlen : k0 < fs.length) (hw : ws.set q0 (b, .inr (ci, fs.set k0 v)) = ws2) (d : decode cc pc = .ok (.putfield idx, 3)) (k : Jm p l e R s m args below meth c D A nL Z ce sl (pc + 3) lv st ws2) : Jm p l e R s m args below meth c D A nL Z ce sl pc lv (v :: .ref b :: st) ws := fun H locs ls hP hD hS hl => by
  obtain ⟨C, T, N, ty0, hin, hc, hk, hty, hnm, hfin, hdecl, hd, hl0⟩ := fl
  exact va_putF X.1 X.2.1 X.2.2.2.2.2.1 hin ty0 hty hnm X.2.2.2.2.1 X.2.2.2.2.2.2.1 hP hD hS q0 ha hc k0 hk (X.2.2.2.2.2.1 _ hl0) (fun _ h9 => h9) hfin hmn hdecl hd hn hfit hlen d (fun H1 locs1 hP1 hD1 hS1 => k H1 locs1 ls (hw ▸ hP1) (hw ▸ hD1) hS1 hl)
theorem j_cputF (X : im_X p R s m args meth c D ct A own cc nL ret) (hmn : meth.name = "<init>") {wss : List va_W} {w : va_W} (i q : Nat) (w2 : va_W) (wss2 : List va_W) {ci k0 idx : Nat} {ty : FieldType} (fl : im_FF own idx ci k0 ty) {b : Nat} {fs : List Value} {v : Value} (hi : wss[i]? = some w) (ha : w[q]? = some (b, .inr (ci, fs))) (hn : narrow ty v = v) (hfit : fits ty v = true) (hlen : k0 < fs.length) (hw : w.set q (b, .inr (ci, fs.set k0 v)) = w2) (h2 : wss.set i w2 = wss2) (d : decode cc pc = .ok (.putfield idx, 3)) (k : Jm p l e R s m args below meth c D A nL Z ce sl (pc + 3) lv st (cat wss2)) : Jm p l e R s m args below meth c D A nL Z ce sl pc lv (v :: .ref b :: st) (cat wss) := j_putF X hmn (off wss i + q) (cat wss2) fl (cat_get hi ha) hn hfit hlen (by rw [cat_set hi ha, hw, h2]) d k
theorem j_put (X : im_X p R s m args meth c D ct A own cc nL ret) (q0 : Nat) (ws2 : va_W) {ci k0 idx : Nat} {ty : FieldType} (fl : im_FL own idx ci k0 false ty) {b : Nat} {fs : List Value} {v : Value} (ha : ws[q0]? = some (b, .inr (ci, fs))) (hn : narrow ty v = v) (hfit : fits ty v = true) (hlen : k0 < fs.length) (hw : ws.set q0 (b, .inr (ci, fs.set k0 v)) = ws2) (d : decode cc pc = .ok (.putfield idx, 3)) (k : Jm p l e R s m args below meth c D A nL Z ce sl (pc + 3) lv st ws2) : Jm p l e R s m args below meth c D A nL Z ce sl pc lv (v :: .ref b :: st) ws := fun H locs ls hP hD hS hl => by
  obtain ⟨C, T, N, ty0, hin, hc, hk, hty, hnm, hfin, hd, hl0⟩ := fl
  rcases hl0 with hl0 | ⟨host, hl0⟩
  · exact va_put X.1 X.2.1 X.2.2.2.2.2.1 hin ty0 hty hnm X.2.2.2.2.1 X.2.2.2.2.2.2.1 hP hD hS q0 ha hc k0 hk (X.2.2.2.2.2.1 _ hl0) (fun _ h9 => h9) hfin hd hn hfit hlen d (fun H1 locs1 hP1 hD1 hS1 => k H1 locs1 ls (hw ▸ hP1) (hw ▸ hD1) hS1 hl)
  · exact va_putN X.1 X.2.1 X.2.2.2.2.2.1 hin ty0 hty hnm X.2.2.2.2.1 X.2.2.2.2.2.2.1 hP hD hS q0 ha hc k0 hk (va_Nw.use rfl (X.2.2.2.2.2.2.2.1 _ hl0)) (fun _ h9 => h9) hfin hd hn hfit hlen d (fun H1 locs1 hP1 hD1 hS1 => k H1 locs1 ls (hw ▸ hP1) (hw ▸ hD1) hS1 hl)
theorem j_get (X : im_X p R s m args meth c D ct A own cc nL ret) (q0 : Nat) {ci k0 idx : Nat} {fin : Bool} {ty : FieldType} (fl : im_FL own idx ci k0 fin ty) {b : Nat} {fs : List Value} {v : Value} (ha : ws[q0]? = some (b, .inr (ci, fs))) (hv : fs[k0]? = some v) (d : decode cc pc = .ok (.getfield idx, 3)) (k : Jm p l e R s m args below meth c D A nL Z ce sl (pc + 3) lv (v :: st) ws) : Jm p l e R s m args below meth c D A nL Z ce sl pc lv (.ref b :: st) ws := by
  obtain ⟨C, T, N, ty0, hin, hc, hk, -, -, -, -, hl0⟩ := fl
  rcases hl0 with hl0 | ⟨host, hl0⟩
  · exact fun H locs ls hP hD hS hl => va_get X.1 X.2.1 X.2.2.2.2.2.1 hin X.2.2.2.2.1 X.2.2.2.2.2.2.1 hP q0 ha hc k0 hk (X.2.2.2.2.2.1 _ hl0) (fun _ h9 => h9) hv d (k H locs ls hP hD hS hl)
  · exact fun H locs ls hP hD hS hl => va_getN X.1 X.2.1 X.2.2.2.2.2.1 hin X.2.2.2.2.1 X.2.2.2.2.2.2.1 hP q0 ha hc k0 hk (va_Nw.use rfl (X.2.2.2.2.2.2.2.1 _ hl0)) (fun _ h9 => h9) hv d (k H locs ls hP hD hS hl)
theorem j_cget (X : im_X p R s m args meth c D ct A own cc nL ret) {wss : List va_W} {w : va_W} (i q : Nat) {ci k0 idx : Nat} {fin : Bool} {ty : FieldType} (fl : im_FL own idx ci k0 fin ty) {b : Nat} {fs : List Value} {v : Value} (hi : wss[i]? = some w) (ha : w[q]? = some (b, .inr (ci, fs))) (hv : fs[k0]? = some v) (d : decode cc pc = .ok (.getfield idx, 3)) (k : Jm p l e R s m args below meth c D A nL Z ce sl (pc + 3) lv (v :: st) (cat wss)) : Jm p l e R s m args below meth c D A nL Z ce sl pc lv (.ref b :: st) (cat wss) := j_get X (off wss i + q) fl (cat_get hi ha) hv d k
theorem j_bast (X : im_X p R s m args meth c D ct A own cc nL ret) (q0 t0 kn : Nat) (ws2 : va_W) {b : Nat} {cA : ClassId} {n : Nat} {f : Nat → Int32} {x : Int32} {i : Int32} (hin : vp_in i n) (hkn : i.toNatClampNeg = kn) (ha : ws[q0]? = some (b, .inl (cA, n, .inl f))) (ht : (im_tys ct)[t0]? = some (cA, .byte)) (hw : ws.set q0 (b, .inl (cA, n, .inl (upd f kn (vp_nar .byte x)))) = ws2) (d : decode cc pc = .ok (.bastore, 1)) (k : Jm p l e R s m args below meth c D A nL Z ce sl (pc + 1) lv st ws2) : Jm p l e R s m args below meth c D A nL Z ce sl pc lv (.int x :: .int i :: .ref b :: st) ws := fun H locs ls hP hD hS hl => by
  subst hkn
  exact va_bast X.1 X.2.1 X.2.2.2.2.2.2.1 hP hD hS q0 t0 ha ht hin d (fun H1 locs1 hP1 hD1 hS1 => k H1 locs1 ls (hw ▸ hP1) (hw ▸ hD1) hS1 hl)
theorem j_caast (X : im_X p R s m args meth c D ct A own cc nL ret) {wss : List va_W} {w wv : va_W} (i0 q t0 j0 ci kn : Nat) (w2 : va_W) (wss2 : List va_W) {b v : Nat} {cA : ClassId} {r : vw_C} {n : Nat} {vs : List Value} {f : Nat → Option Nat} {i : Int32} (hin : vp_in i n) (hkn : i.toNatClampNeg = kn) (hi : wss[i0]? = some w) (ha : w[q]? = some (b, .inl (cA, n, .inr (.inr (.inr (.inr f)))))) (ht : (im_tys ct)[t0]? = some (cA, .object r.1)) (hj : wss[j0]? = some wv) (hv : wv[0]? = some (v, .inr (ci, vs))) (hc : vwCl[ci]? = some r) (hw : w.set q (b, .inl (cA, n, .inr (.inr (.inr (.inr (va_up f kn (some v))))))) = w2) (h2 : wss.set i0 w2 = wss2) (d : decode cc pc = .ok (.aastore, 1)) (k : Jm p l e R s m args below meth c D A nL Z ce sl (pc + 1) lv st (cat wss2)) : Jm p l e R s m args below meth c D A nL Z ce sl pc lv (.ref v :: .int i :: .ref b :: st) (cat wss) := fun H locs ls hP hD hS hl => by
  subst hkn
  refine va_astq X.1 X.2.1 X.2.2.2.2.2.2.1 hP hD hS (off wss i0 + q) t0 (off wss j0 + 0) ci (cat_get hi ha) ht (cat_get hj hv) hc hin d (fun H1 locs1 hP1 hD1 hS1 => ?_)
  rw [cat_set hi ha, hw, h2] at hP1 hD1
  exact k H1 locs1 ls hP1 hD1 hS1 hl
theorem j_pick (wss wcs : List va_W) (qs : List Nat) (hnd : va_nd qs = true) (hC : qs.map (fun i => wss[i]?) = wcs.map some) (k : Jm p l e R s m args below meth c D A nL Z ce sl pc lv st (cat wcs)) : Jm p l e R s m args below meth c D A nL Z ce sl pc lv st (cat wss) := fun H locs ls hP hD hS hl => k H locs ls (im_pickC hP hD qs hnd hC).1 (im_pickC hP hD qs hnd hC).2 hS hl
theorem j_cell (q0 : Nat) (ws2 : va_W) {b : Nat} {cA : ClassId} {n : Nat} {f g : Nat → Option Nat} (ha : ws[q0]? = some (b, .inl (cA, n, .inr (.inr (.inr (.inr f)))))) (hfg : ∀ i, i < n → f i = g i) (hw : ws.set q0 (b, .inl (cA, n, .inr (.inr (.inr (.inr g))))) = ws2) (k : Jm p l e R s m args below meth c D A nL Z ce sl pc lv st ws2) : Jm p l e R s m args below meth c D A nL Z ce sl pc lv st ws := fun H locs ls hP hD hS hl => by
  have hcell : vp_cell cA (n, .inr (.inr (.inr (.inr f)))) = vp_cell cA (n, .inr (.inr (.inr (.inr g)))) := by
    show arrV cA n (fun j => va_rf (f j)) = arrV cA n (fun j => va_rf (g j))
    unfold arrV
    congr 2
    funext j
    exact congrArg va_rf (hfg j.1 j.2)
  have hlt := (List.getElem?_eq_some_iff.mp ha).1
  refine k H locs ls ?_ ?_ hS hl
  · rw [← hw]
    intro i x hx
    by_cases e : i = q0
    · subst e
      rw [List.getElem?_set_self hlt] at hx
      cases hx
      have := hP i _ ha
      exact (show H[b]? = some (vp_cell cA (n, .inr (.inr (.inr (.inr f))))) from this).trans (by rw [hcell])
    · rw [List.getElem?_set_ne (fun q => e q.symm)] at hx
      exact hP i x hx
  · rw [← hw]
    refine im_fst_D ?_ hD
    rw [List.map_set]
    apply List.ext_getElem?
    intro i
    by_cases e : i = q0
    · subst e
      rw [List.getElem?_set_self (by simpa using hlt), List.getElem?_map, ha]
      rfl
    · rw [List.getElem?_set_ne (fun q => e q.symm)]
theorem j_init (X : im_X p R s m args meth c D ct A own cc nL ret) (hao : va_AO aoC s) (As rest : List Value) (wr wcs wss : List va_W) {y : MethodName} {bytes : ByteArray} {maxL dd mc ms n idx b : Nat} {post : Ku → Prop} {w1s : Ku → List va_W} (cl : im_CI own idx y bytes maxL n) (ck : CK l D ct y bytes maxL dd mc ms (.ref b :: As) wcs post w1s) (hyn : y.name = "<init>") (hn : As.length = n) (hR : dd + 1 ≤ R.frames ∧ 8 + (maxL + 11) + 40 * dd ≤ R.locals) (hrest : (rest.map fun v => v.category).sum ≤ 8) (hst : st = As.reverse ++ .ref b :: rest) (hw : wss = wr ++ wcs) (hroom : ce + mc ≤ R.cells ∧ sl + ms ≤ R.slots) (d : decode cc pc = .ok (.invokespecial idx, 3)) (k : ∀ u : Ku, post u → Jm p l e R s m args below meth c D A nL Z (ce + mc) (sl + ms) (pc + 3) lv rest (cat (wr ++ w1s u))) : Jm p l e R s m args below meth c D A nL Z ce sl pc lv st (cat wss) := fun H locs ls hP hD hS hl => by
  subst hw
  rw [cat_app] at hP hD
  have hPc : va_P D vwCl (cat wcs) H := vaP_mem.mpr fun q h => vaP_mem.mp hP q (List.mem_append_right _ h)
  have hDc := (vaD_split hD).2.1
  have hFc := im_freeC hDc hS X.2.2.2.2.2.2.2.2.2.1
  obtain ⟨hlk, hin, hini, hcode, hd⟩ := cl
  have hts := X.2.2.2.2.2.1
  have hp : PreS s H (im_Pk D ct (.ref b :: As) (cat wcs) H.size) (.ref b :: As) := ⟨im_Pk.blind, fun U hU hW => ⟨⟨rfl, by rw [hU], by rw [hU]; exact hPc, va_K.moved hW.alike X.2.2.2.2.2.2.1, im_Nst.warm hW X.2.2.2.2.2.2.2.1, hDc.weaken (fun _ _ _ _ => trivial), im_S.call X.2.2.2.2.2.2.2.2.2.2 hS hW hU hFc⟩, va_AO.moved hW.alike hao⟩⟩
  have run : va_Run p l e R s m args below meth c H locs ce sl mc ms (F0 m pc ls st) rest (QK D (va_A (cat wcs) H.size) post w1s (Value.ref b :: As).toArray) (va_A (cat wcs) H.size) := by
    rcases hlk with hlk | ⟨host, hlk⟩
    · exact va_runI (n := n) (maxL := maxL) (bytes := bytes) ⟨X.1, X.2.1, X.2.2.1, X.2.2.2.2.1, hts⟩ (ck H.size) ⟨callB_of n hts (tb_goodInC hcode) rfl rfl rfl (hts _ hini) (hts _ hlk) hd hR, hyn, hts _ hin⟩ hp rfl hn hl.1 hst (lv_room hrest) d hroom
    · exact va_runIN (n := n) (maxL := maxL) (bytes := bytes) ⟨X.1, X.2.1, X.2.2.1, X.2.2.2.2.1, hts⟩ (ck H.size) ⟨va_cnB n hts (tb_goodInC hcode) rfl rfl rfl (X.2.2.2.2.2.2.2.1 _ hlk) (hts _ hini) hd hR, hyn, hts _ hin⟩ hp rfl hn hl.1 hst (lv_room hrest) d hroom
  refine va_callv run hS (fun q _ h => hFc q h) hFc (fun u t H1 locs1 ht hvm hpo hB hz1 hk1 hS1 => ?_)
  obtain ⟨hB1, hB2⟩ := hB
  rw [ht] at hB1
  obtain ⟨hP2, hD2⟩ := va_grow hP hD hk1 hB1 hB2 hFc
  rw [← cat_app] at hP2 hD2
  exact k u hpo H1 locs1 ls hP2 hD2 hS1 hl
end JmInit
