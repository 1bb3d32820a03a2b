/-! String constants: text i < 10 lies at ct (10 + i), its bytes at ct (30 + i) -/
def RJS : String := "java/lang/String"
def RJL : String := "java/lang/StringLatin1"
def RJP : String := "jdk/internal/util/Preconditions"
abbrev cJS_length : ByteArray := prog_15_method_54_code
def yJS_length : MethodName := ⟨RJS, "length", "()I"⟩
theorem dJS_length_0 : decode cJS_length 0 = .ok (.aload_n 0, 1) := by decide +kernel
theorem dJS_length_1 : decode cJS_length 1 = .ok (.getfield 9, 3) := by decide +kernel
theorem dJS_length_4 : decode cJS_length 4 = .ok (.arraylength, 1) := by decide +kernel
theorem dJS_length_5 : decode cJS_length 5 = .ok (.aload_n 0, 1) := by decide +kernel
theorem dJS_length_6 : decode cJS_length 6 = .ok (.invokevirtual 335, 3) := by decide +kernel
theorem dJS_length_9 : decode cJS_length 9 = .ok (.ishr, 1) := by decide +kernel
theorem dJS_length_10 : decode cJS_length 10 = .ok (.ireturn, 1) := by decide +kernel
abbrev cJS_coder : ByteArray := prog_15_method_152_code
def yJS_coder : MethodName := ⟨RJS, "coder", "()B"⟩
theorem dJS_coder_0 : decode cJS_coder 0 = .ok (.getstatic 38, 3) := by decide +kernel
theorem dJS_coder_3 : decode cJS_coder 3 = .ok (.ifCond .eq 10, 3) := by decide +kernel
theorem dJS_coder_6 : decode cJS_coder 6 = .ok (.aload_n 0, 1) := by decide +kernel
theorem dJS_coder_7 : decode cJS_coder 7 = .ok (.getfield 15, 3) := by decide +kernel
theorem dJS_coder_10 : decode cJS_coder 10 = .ok (.goto 4, 3) := by decide +kernel
theorem dJS_coder_14 : decode cJS_coder 14 = .ok (.ireturn, 1) := by decide +kernel
abbrev cJS_isLatin1 : ByteArray := prog_15_method_154_code
def yJS_isLatin1 : MethodName := ⟨RJS, "isLatin1", "()Z"⟩
theorem dJS_isLatin1_0 : decode cJS_isLatin1 0 = .ok (.getstatic 38, 3) := by decide +kernel
theorem dJS_isLatin1_3 : decode cJS_isLatin1 3 = .ok (.ifCond .eq 14, 3) := by decide +kernel
theorem dJS_isLatin1_6 : decode cJS_isLatin1 6 = .ok (.aload_n 0, 1) := by decide +kernel
theorem dJS_isLatin1_7 : decode cJS_isLatin1 7 = .ok (.getfield 15, 3) := by decide +kernel
theorem dJS_isLatin1_10 : decode cJS_isLatin1 10 = .ok (.ifCond .ne 7, 3) := by decide +kernel
theorem dJS_isLatin1_13 : decode cJS_isLatin1 13 = .ok (.iconst 1, 1) := by decide +kernel
theorem dJS_isLatin1_14 : decode cJS_isLatin1 14 = .ok (.goto 4, 3) := by decide +kernel
theorem dJS_isLatin1_18 : decode cJS_isLatin1 18 = .ok (.ireturn, 1) := by decide +kernel
abbrev cJS_charAt : ByteArray := prog_15_method_56_code
def yJS_charAt : MethodName := ⟨RJS, "charAt", "(I)C"⟩
theorem dJS_charAt_0 : decode cJS_charAt 0 = .ok (.aload_n 0, 1) := by decide +kernel
theorem dJS_charAt_1 : decode cJS_charAt 1 = .ok (.invokevirtual 492, 3) := by decide +kernel
theorem dJS_charAt_4 : decode cJS_charAt 4 = .ok (.ifCond .eq 12, 3) := by decide +kernel
theorem dJS_charAt_7 : decode cJS_charAt 7 = .ok (.aload_n 0, 1) := by decide +kernel
theorem dJS_charAt_8 : decode cJS_charAt 8 = .ok (.getfield 9, 3) := by decide +kernel
theorem dJS_charAt_11 : decode cJS_charAt 11 = .ok (.iload_n 1, 1) := by decide +kernel
theorem dJS_charAt_12 : decode cJS_charAt 12 = .ok (.invokestatic 495, 3) := by decide +kernel
theorem dJS_charAt_15 : decode cJS_charAt 15 = .ok (.ireturn, 1) := by decide +kernel
abbrev cJS_checkIndex : ByteArray := prog_15_method_155_code
def yJS_checkIndex : MethodName := ⟨RJS, "checkIndex", "(II)V"⟩
theorem dJS_checkIndex_0 : decode cJS_checkIndex 0 = .ok (.iload_n 0, 1) := by decide +kernel
theorem dJS_checkIndex_1 : decode cJS_checkIndex 1 = .ok (.iload_n 1, 1) := by decide +kernel
theorem dJS_checkIndex_2 : decode cJS_checkIndex 2 = .ok (.getstatic 1053, 3) := by decide +kernel
theorem dJS_checkIndex_5 : decode cJS_checkIndex 5 = .ok (.invokestatic 1059, 3) := by decide +kernel
theorem dJS_checkIndex_8 : decode cJS_checkIndex 8 = .ok (.pop, 1) := by decide +kernel
theorem dJS_checkIndex_9 : decode cJS_checkIndex 9 = .ok (.return_, 1) := by decide +kernel
abbrev cJL_charAt : ByteArray := prog_16_method_2_code
def yJL_charAt : MethodName := ⟨RJL, "charAt", "([BI)C"⟩
theorem dJL_charAt_0 : decode cJL_charAt 0 = .ok (.iload_n 1, 1) := by decide +kernel
theorem dJL_charAt_1 : decode cJL_charAt 1 = .ok (.aload_n 0, 1) := by decide +kernel
theorem dJL_charAt_2 : decode cJL_charAt 2 = .ok (.arraylength, 1) := by decide +kernel
theorem dJL_charAt_3 : decode cJL_charAt 3 = .ok (.invokestatic 9, 3) := by decide +kernel
theorem dJL_charAt_6 : decode cJL_charAt 6 = .ok (.aload_n 0, 1) := by decide +kernel
theorem dJL_charAt_7 : decode cJL_charAt 7 = .ok (.iload_n 1, 1) := by decide +kernel
theorem dJL_charAt_8 : decode cJL_charAt 8 = .ok (.baload, 1) := by decide +kernel
theorem dJL_charAt_9 : decode cJL_charAt 9 = .ok (.sipush 255, 3) := by decide +kernel
theorem dJL_charAt_12 : decode cJL_charAt 12 = .ok (.iand, 1) := by decide +kernel
theorem dJL_charAt_13 : decode cJL_charAt 13 = .ok (.i2c, 1) := by decide +kernel
theorem dJL_charAt_14 : decode cJL_charAt 14 = .ok (.ireturn, 1) := by decide +kernel
abbrev cJP_checkIndex : ByteArray := prog_19_method_11_code
def yJP_checkIndex : MethodName := ⟨RJP, "checkIndex", "(IILjava/util/function/BiFunction;)I"⟩
theorem dJP_checkIndex_0 : decode cJP_checkIndex 0 = .ok (.iload_n 0, 1) := by decide +kernel
theorem dJP_checkIndex_1 : decode cJP_checkIndex 1 = .ok (.ifCond .lt 8, 3) := by decide +kernel
theorem dJP_checkIndex_4 : decode cJP_checkIndex 4 = .ok (.iload_n 0, 1) := by decide +kernel
theorem dJP_checkIndex_5 : decode cJP_checkIndex 5 = .ok (.iload_n 1, 1) := by decide +kernel
theorem dJP_checkIndex_6 : decode cJP_checkIndex 6 = .ok (.if_icmp .lt 10, 3) := by decide +kernel
theorem dJP_checkIndex_16 : decode cJP_checkIndex 16 = .ok (.iload_n 0, 1) := by decide +kernel
theorem dJP_checkIndex_17 : decode cJP_checkIndex 17 = .ok (.ireturn, 1) := by decide +kernel
section ImStr
variable {p : Program} {l : Launch} {e : Env} {R : Room} {s : State} {m : MethodId} {args : Array Value} {below : List Frame} {meth : Method} {c : Code} {D : va_G} {ct : im_ct} {A : Nat → Prop} {own : String} {cc : ByteArray} {nL : Nat} {ret : Option FieldType} {α : Type} {Q : α → Array Value → State → Outcome → State → Prop} {pc : Nat} {lv : List (Nat × Value)} {st : List Value} {ws : va_W} {E : Option α}
/-- there is such a text -/
def sk {α : Type} (i : Nat) (E : Option α) : Option α := if i < 10 then E else none
theorem sk_some {α : Type} {i : Nat} {E : Option α} {a : α} (h : sk i E = some a) : i < 10 ∧ E = some a := by
  unfold sk at h
  by_cases q : i < 10
  · rw [if_pos q] at h; exact ⟨q, h⟩
  · rw [if_neg q] at h; cases h
theorem im_sgetv (X : im_X p R s m args meth c D ct A own cc nL ret) {i idx : Nat} (hi : i < 10) (w : Cond.fieldLink own idx "java/lang/String" "value" "[B" ∈ tb_good) (d : decode cc pc = .ok (.getfield idx, 3)) (k : Im p l e R s m args below meth c D A nL Q (pc + 3) lv (.ref (ct (30 + i)) :: st) ws E) : Im p l e R s m args below meth c D A nL Q pc lv (.ref (ct (10 + i)) :: st) ws E := fun a h H locs ls hP hD hS hl => vk_getf X.1 X.2.1 (X.2.2.2.2.2.2.2.2.2.2.1.1 i hi).2.2.1 hS X.2.2.2.2.1 (X.2.2.2.2.2.1 _ w) (fun _ h9 => h9) d (k a h H locs ls hP hD hS hl)
theorem im_sgetc (X : im_X p R s m args meth c D ct A own cc nL ret) {i idx : Nat} (hi : i < 10) (w : Cond.fieldLink own idx "java/lang/String" "coder" "B" ∈ tb_good) (d : decode cc pc = .ok (.getfield idx, 3)) (k : Im p l e R s m args below meth c D A nL Q (pc + 3) lv (.int 0 :: st) ws E) : Im p l e R s m args below meth c D A nL Q pc lv (.ref (ct (10 + i)) :: st) ws E := fun a h H locs ls hP hD hS hl => vk_getf X.1 X.2.1 (X.2.2.2.2.2.2.2.2.2.2.1.1 i hi).2.1 hS X.2.2.2.2.1 (X.2.2.2.2.2.1 _ w) (fun _ h9 => h9) d (k a h H locs ls hP hD hS hl)
theorem im_slen (X : im_X p R s m args meth c D ct A own cc nL ret) {i : Nat} (hi : i < 10) (d : decode cc pc = .ok (.arraylength, 1)) (k : Im p l e R s m args below meth c D A nL Q (pc + 1) lv (.int (nI (im_len.getD i 0)) :: st) ws E) : Im p l e R s m args below meth c D A nL Q pc lv (.ref (ct (30 + i)) :: st) ws E := fun a h H locs ls hP hD hS hl => va_tlen X.1 X.2.1 (X.2.2.2.2.2.2.2.2.2.2.1.1 i hi).2.2.2 hS rfl d (k a h H locs ls hP hD hS hl)
theorem im_sbald (X : im_X p R s m args meth c D ct A own cc nL ret) {i : Nat} {j : Int32} (hi : i < 10) (d : decode cc pc = .ok (.baload, 1)) (k : Im p l e R s m args below meth c D A nL Q (pc + 1) lv (.int ((im_byt.getD i []).getD j.toNatClampNeg 0) :: st) ws E) : Im p l e R s m args below meth c D A nL Q pc lv (.int j :: .ref (ct (30 + i)) :: st) ws (ck j (im_len.getD i 0) E) := fun a h H locs ls hP hD hS hl => va_tb X.1 X.2.1 (X.2.2.2.2.2.2.2.2.2.2.1.1 i hi).2.2.2 hS (ck_some h).1 rfl d (k a (ck_some h).2 H locs ls hP hD hS hl)
theorem im_sgets (X : im_X p R s m args meth c D ct A own cc nL ret) {idx : Nat} (w : Cond.fieldLink own idx "java/lang/String" "COMPACT_STRINGS" "Z" ∈ tb_good) (d : decode cc pc = .ok (.getstatic idx, 3)) (k : Im p l e R s m args below meth c D A nL Q (pc + 3) lv (.int 1 :: st) ws E) : Im p l e R s m args below meth c D A nL Q pc lv st ws E := fun a h H locs ls hP hD hS hl => va_gets X.1 X.2.1 X.2.2.2.2.2.2.2.2.2.2.2.1 hS X.2.2.2.2.1 (X.2.2.2.2.2.1 _ w) (fun _ h9 => h9) d (k a h H locs ls hP hD hS hl)
theorem im_sgetq (X : im_X p R s m args meth c D ct A own cc nL ret) {idx : Nat} (w : Cond.fieldLink own idx "jdk/internal/util/Preconditions" "SIOOBE_FORMATTER" "Ljava/util/function/BiFunction;" ∈ tb_good) (d : decode cc pc = .ok (.getstatic idx, 3)) (k : ∀ v : Value, (v = .null ∨ ∃ t, v = .ref t) → Im p l e R s m args below meth c D A nL Q (pc + 3) lv (v :: st) ws E) : Im p l e R s m args below meth c D A nL Q pc lv st ws E := fun a h H locs ls hP hD hS hl => by
  rcases X.2.2.2.2.2.2.2.2.2.2.2.2.1 with hz | ⟨t, hz⟩
  · exact va_gets X.1 X.2.1 hz hS X.2.2.2.2.1 (X.2.2.2.2.2.1 _ w) (fun _ h9 => h9) d (k _ (Or.inl rfl) a h H locs ls hP hD hS hl)
  · exact va_gets X.1 X.2.1 hz hS X.2.2.2.2.1 (X.2.2.2.2.2.1 _ w) (fun _ h9 => h9) d (k _ (Or.inr ⟨t, rfl⟩) a h H locs ls hP hD hS hl)
theorem im_ldcS (X : im_X p R s m args meth c D ct A own cc nL ret) (own2 : String) (tx : String) (i : Nat) {idx : Nat} (ho : own = own2) (w : (own2, idx, tx, i) ∈ im_strs) (d : decode cc pc = .ok (.ldc idx, 2)) (k : Im p l e R s m args below meth c D A nL Q (pc + 2) lv (.ref (ct (10 + i)) :: st) ws E) : Im p l e R s m args below meth c D A nL Q pc lv st ws E := fun a h H locs ls hP hD hS hl => by
  subst ho
  exact va_ldcS X.1 X.2.1 X.2.2.2.2.1 (X.2.2.2.2.2.2.2.2.2.2.2.2.2 _ w) d (k a h H locs ls hP hD hS hl)
theorem im_nreturn {ty : FieldType} (X : im_X p R s m args meth c D ct A own cc nL (some ty)) {rf : α → Int32} {wf : α → va_W} {v : Int32} (a : α) (hn : narrow ty (.int v) = .int v) (hr : rf a = v) (hw : wf a = ws) (d : decode cc pc = .ok (.ireturn, 1)) : Im p l e R s m args below meth c D A nL (QI D A rf wf) pc lv [.int v] ws (some a) := fun b h H locs ls hP hD hS hl => by
  cases h
  subst hr; subst hw
  exact W.zret (v := rf a) X.1 X.2.1 X.2.2.2.1 hn (fun t ht hW => ⟨⟨rf a, (), rfl, rfl, by rw [ht]; exact hP, hD⟩, hS.F ht⟩) hS.2.2 d X.2.2.2.2.2.2.2.2.1
theorem im_E {E2 : Option α} (hE : E = E2) (k : Im p l e R s m args below meth c D A nL Q pc lv st ws E2) : Im p l e R s m args below meth c D A nL Q pc lv st ws E := hE ▸ k
def QS (ct : im_ct) (D : va_G) (A : Nat → Prop) {α : Type} (rf : α → Nat) (wf : α → va_W) (a : α) : Array Value → State → Outcome → State → Prop := va_Qr (fun (_ : Unit) => True) (fun _ b t => b = ct (10 + rf a) ∧ va_P D vwCl (wf a) t.heap ∧ va_D A (wf a)) A
theorem im_sreturn (X : im_X p R s m args meth c D ct A own cc nL (some (.object "java/lang/String"))) {rf : α → Nat} {wf : α → va_W} {i : Nat} (a : α) (hr : rf a = i) (hw : wf a = ws) (d : decode cc pc = .ok (.areturn, 1)) : Im p l e R s m args below meth c D A nL (QS ct D A rf wf) pc lv [.ref (ct (10 + i))] ws (some a) := fun b h H locs ls hP hD hS hl => by
  cases h
  subst hr; subst hw
  exact W.aret (v := .ref (ct (10 + rf a))) X.1 X.2.1 X.2.2.2.1 (Or.inl ⟨_, rfl⟩) (Or.inr ⟨_, rfl⟩) (fun t ht hW => ⟨⟨(), _, rfl, trivial, rfl, by rw [ht]; exact hP, hD⟩, hS.F ht⟩) hS.2.2 d X.2.2.2.2.2.2.2.2.1
def CMs (l : Launch) (D : va_G) (ct : im_ct) (y : MethodName) (bytes : ByteArray) (maxL : Nat) (ret : Option FieldType) (dd : Nat) {α : Type} (av : List Value) (wc : va_W) (Ef : Option α) (rf : α → Nat) (wf : α → va_W) : Prop :=
  ∀ a, Ef = some a → ∀ sz : Nat, Met l y (Cond.code y bytes maxL ret :: tb_good) (im_rm dd) (im_Pc D ct av wc sz) (QS ct D (va_A wc sz) rf wf a) 0 0 (va_A wc sz)
variable {y : MethodName} {bytes : ByteArray} {maxL : Nat} {rt : Option FieldType} {dd n idx : Nat} {β : Type} {av : List Value} {wc : va_W} {Ef : Option β} {wf : β → va_W} {b : Nat} {As rest : List Value} {K : β → Option α}
theorem im_callsS (X : im_X p R s m args meth c D ct A own cc nL ret) (As rest : List Value) (ps : List Nat) {rf : β → Nat} (cl : im_CS own idx y bytes maxL rt n) (cm : CMs l D ct y bytes maxL rt dd As wc Ef rf wf) (hC : ps.map (fun i => ws[i]?) = wc.map some) (hnd : va_nd ps = true) (hf : ∀ z, (wf z).map Prod.fst = wc.map Prod.fst) (hn : As.length = n) (hR : dd + 1 ≤ R.frames ∧ 8 + (maxL + 11) + 40 * dd ≤ R.locals) (hrest : (rest.map fun v => v.category).sum ≤ 8) (hst : st = As.reverse ++ rest) (d : decode cc pc = .ok (.invokestatic idx, 3)) (k : ∀ z, Im p l e R s m args below meth c D A nL Q (pc + 3) lv (.ref (ct (10 + rf z)) :: rest) (im_back ps (wf z) ws) (K z)) : Im p l e R s m args below meth c D A nL Q pc lv st ws (Ef.bind K) := fun a h H locs ls hP hD hS hl => by
  obtain ⟨z0, h1, h2⟩ := Option.bind_eq_some_iff.mp h
  have hPc := hP.sub ps (im_fm hC)
  have hDc := hD.sub ps hnd hC
  have hFc := va_free hD hS X.2.2.2.2.2.2.2.2.2.1 ps hC
  refine va_callr (im_runS X cl (cm z0 h1 H.size) hPc hDc hS hFc hn hl.1 hR hrest hst d) hS (fun q _ h => hFc q h) hFc (fun u ra t H1 locs1 ht hvm hw hB hz1 hk1 hS1 => ?_)
  obtain ⟨hB0, hB1, hB2⟩ := hB
  rw [ht] at hB1
  subst hB0
  obtain ⟨hP2, hD2⟩ := im_backOK hP hD ps hC (hf z0) hk1 hB1
  exact k z0 a h2 H1 locs1 ls hP2 hD2 hS1 hl
/-- a call on a text -/
theorem im_calliT (X : im_X p R s m args meth c D ct A own cc nL ret) {i : Nat} (hi : i < 10) (As rest : List Value) {rf : β → Int32} (cl : im_CL own idx y bytes maxL rt n) (hy : y.cls = "java/lang/String") (cm : CMi l D ct y bytes maxL rt dd (.ref (ct (10 + i)) :: As) [] Ef rf (fun _ => [])) (hn : As.length = n) (hR : dd + 1 ≤ R.frames ∧ 8 + (maxL + 11) + 40 * dd ≤ R.locals) (hrest : (rest.map fun v => v.category).sum ≤ 8) (hst : st = As.reverse ++ .ref (ct (10 + i)) :: rest) (d : decode cc pc = .ok (.invokevirtual idx, 3)) (k : ∀ z, Ef = some z → Im p l e R s m args below meth c D A nL Q (pc + 3) lv (.int (rf z) :: rest) ws (K z)) : Im p l e R s m args below meth c D A nL Q pc lv st ws (Ef.bind K) := fun a h H locs ls hP hD hS hl => by
  obtain ⟨z0, h1, h2⟩ := Option.bind_eq_some_iff.mp h
  have hPc : va_P D vwCl [] H := hP.sub [] rfl
  have hDc : va_D A [] := hD.sub [] rfl rfl
  have hFc : ∀ q, va_A [] H.size q → A q := va_free hD hS X.2.2.2.2.2.2.2.2.2.1 [] rfl
  obtain ⟨hl0, hin, hsel, hini, hcode, hd⟩ := cl
  have hts := X.2.2.2.2.2.1
  have hrec := vk_recv X.2.2.2.2.2.2.2.2.2.2.1 hi hS
  rw [← hy] at hrec
  have hp : PreV s H y.cls (ct (10 + i)) (im_Pc D ct (.ref (ct (10 + i)) :: As) [] H.size) As := ⟨im_Pc.blind, hrec, fun U hU hW => ⟨rfl, by rw [hU], by rw [hU]; exact hPc, va_K.moved hW.alike X.2.2.2.2.2.2.1, im_Nst.warm hW X.2.2.2.2.2.2.2.1, hDc.weaken (fun _ _ _ _ => trivial), im_S.call X.2.2.2.2.2.2.2.2.2.2 hS hW hU hFc⟩⟩
  have hrun : va_Run p l e R s m args below meth c H locs 0 0 0 0 (F0 m pc ls st) rest (QI D (va_A [] H.size) rf (fun _ => []) z0 (Value.ref (ct (10 + i)) :: As).toArray) (va_A [] H.size) := by
    rcases hl0 with hl0 | ⟨host, hl0⟩
    · exact va_runV (n := n) (maxL := maxL) (bytes := bytes) (ret := rt) ⟨X.1, X.2.1, X.2.2.1, X.2.2.2.2.1, hts⟩ (cm z0 h1 H.size) ⟨callB_of n hts (tb_goodInC hcode) rfl rfl rfl (hts _ hini) (hts _ hl0) hd hR, hts _ hin, hts _ hsel⟩ hp rfl hn hl.1 hst (lv_room hrest) d ⟨Nat.zero_le _, Nat.zero_le _⟩
    · exact va_runVN (n := n) (maxL := maxL) (bytes := bytes) (ret := rt) ⟨X.1, X.2.1, X.2.2.1, X.2.2.2.2.1, hts⟩ (cm z0 h1 H.size) ⟨va_cnB n hts (tb_goodInC hcode) rfl rfl rfl (X.2.2.2.2.2.2.2.1 _ hl0) (hts _ hini) hd hR, hts _ hin, hts _ hsel⟩ hp rfl hn hl.1 hst (lv_room hrest) d ⟨Nat.zero_le _, Nat.zero_le _⟩
  refine va_calli hrun hS (fun q _ h => hFc q h) hFc (fun r u t H1 locs1 ht hvm hw hB hz1 hk1 hS1 => ?_)
  subst hw
  obtain ⟨hP2, hD2⟩ := im_backOK (wc := []) (w1 := []) hP hD [] rfl rfl hk1 (fun k q h => by simp at h)
  exact k z0 h1 a h2 H1 locs1 ls hP2 hD2 hS1 hl
theorem im_sk {i : Nat} (k : i < 10 → Im p l e R s m args below meth c D A nL Q pc lv st ws E) : Im p l e R s m args below meth c D A nL Q pc lv st ws (sk i E) := fun a h => k (sk_some h).1 a (sk_some h).2
end ImStr
theorem cl_JS_335 : im_CL RJS 335 yJS_coder cJS_coder 1 (some .byte) 0 := ⟨Or.inl (tb_g2 209 (by decide +kernel) rfl), tb_g2 210 (by decide +kernel) rfl, tb_g2 211 (by decide +kernel) rfl, tb_g1 13 (by decide +kernel) rfl, tb_g2 212 (by decide +kernel) rfl, by decide +kernel, by decide +kernel, by decide +kernel⟩
theorem cl_JS_492 : im_CL RJS 492 yJS_isLatin1 cJS_isLatin1 1 (some .boolean) 0 := ⟨Or.inl (tb_g2 219 (by decide +kernel) rfl), tb_g2 220 (by decide +kernel) rfl, tb_g2 221 (by decide +kernel) rfl, tb_g1 13 (by decide +kernel) rfl, tb_g2 222 (by decide +kernel) rfl, by decide +kernel, by decide +kernel, by decide +kernel⟩
theorem cl_JS_495 : im_CS RJS 495 yJL_charAt cJL_charAt 2 (some .char) 2 := ⟨Or.inl (tb_g2 223 (by decide +kernel) rfl), tb_g2 224 (by decide +kernel) rfl, tb_g1 14 (by decide +kernel) rfl, tb_g2 225 (by decide +kernel) rfl, by decide +kernel, by decide +kernel, by decide +kernel⟩
theorem cl_JL_9 : im_CS RJL 9 yJS_checkIndex cJS_checkIndex 2 none 2 := ⟨Or.inl (tb_g2 226 (by decide +kernel) rfl), tb_g2 227 (by decide +kernel) rfl, tb_g1 13 (by decide +kernel) rfl, tb_g2 228 (by decide +kernel) rfl, by decide +kernel, by decide +kernel, by decide +kernel⟩
theorem cl_JS_1059 : im_CS RJS 1059 yJP_checkIndex cJP_checkIndex 3 (some .int) 3 := ⟨Or.inl (tb_g2 231 (by decide +kernel) rfl), tb_g2 232 (by decide +kernel) rfl, tb_g1 15 (by decide +kernel) rfl, tb_g2 233 (by decide +kernel) rfl, by decide +kernel, by decide +kernel, by decide +kernel⟩
theorem cl_X6_151 : im_CL RX6 151 yJS_length cJS_length 1 (some .int) 0 := ⟨Or.inl (tb_g2 205 (by decide +kernel) rfl), tb_g2 206 (by decide +kernel) rfl, tb_g2 207 (by decide +kernel) rfl, tb_g1 13 (by decide +kernel) rfl, tb_g2 208 (by decide +kernel) rfl, by decide +kernel, by decide +kernel, by decide +kernel⟩
theorem cl_X6_155 : im_CL RX6 155 yJS_charAt cJS_charAt 2 (some .char) 1 := ⟨Or.inl (tb_g2 215 (by decide +kernel) rfl), tb_g2 216 (by decide +kernel) rfl, tb_g2 217 (by decide +kernel) rfl, tb_g1 13 (by decide +kernel) rfl, tb_g2 218 (by decide +kernel) rfl, by decide +kernel, by decide +kernel, by decide +kernel⟩
theorem cl_X7_94 : im_CL RX7 94 yJS_length cJS_length 1 (some .int) 0 := ⟨Or.inl (tb_g5 169 (by decide +kernel) rfl), tb_g2 206 (by decide +kernel) rfl, tb_g2 207 (by decide +kernel) rfl, tb_g1 13 (by decide +kernel) rfl, tb_g2 208 (by decide +kernel) rfl, by decide +kernel, by decide +kernel, by decide +kernel⟩
theorem cl_X7_99 : im_CL RX7 99 yJS_charAt cJS_charAt 2 (some .char) 1 := ⟨Or.inl (tb_g5 170 (by decide +kernel) rfl), tb_g2 216 (by decide +kernel) rfl, tb_g2 217 (by decide +kernel) rfl, tb_g1 13 (by decide +kernel) rfl, tb_g2 218 (by decide +kernel) rfl, by decide +kernel, by decide +kernel, by decide +kernel⟩
theorem sf_value : Cond.fieldLink RJS 9 "java/lang/String" "value" "[B" ∈ tb_good := tb_g8 124 (by decide +kernel) rfl
theorem sf_coder : Cond.fieldLink RJS 15 "java/lang/String" "coder" "B" ∈ tb_good := tb_g8 125 (by decide +kernel) rfl
theorem sf_comp : Cond.fieldLink RJS 38 "java/lang/String" "COMPACT_STRINGS" "Z" ∈ tb_good := tb_g2 213 (by decide +kernel) rfl
theorem sf_form : Cond.fieldLink RJS 1053 "jdk/internal/util/Preconditions" "SIOOBE_FORMATTER" "Ljava/util/function/BiFunction;" ∈ tb_good := tb_g2 229 (by decide +kernel) rfl
set_option maxRecDepth 100000 in
set_option maxHeartbeats 4000000 in
theorem c_JS_coder (l : Launch) (D : va_G) (ct : im_ct) (i : Nat) (hi : i < 10) : CMi l D ct yJS_coder cJS_coder 1 (some .byte) 0 [.ref (ct (10 + i))] [] (some (0 : Int32)) (fun z : Int32 => z) (fun _ => []) := by
  refine im_met (Qb := fun A => QI D A (fun z : Int32 => z) (fun _ => [])) (by decide +kernel) (Nat.le_of_ble_eq_true rfl) (fun p e s m args below meth c A X => ?_)
  refine im_lv [0] [(0, .ref (ct (10 + i)))] rfl ?_
  refine im_sgets X sf_comp dJS_coder_0 ?_
  refine im_E (E2 := if (1 : Int32) = 0 then none else some (0 : Int32)) (by decide) ?_
  refine im_if_eq (tgt := 13) X dJS_coder_3 rfl im_none ?_
  refine im_aload_n X 0 dJS_coder_6 rfl rfl ?_
  refine im_sgetc X hi sf_coder dJS_coder_7 ?_
  refine im_goto (tgt := 14) X dJS_coder_10 rfl ?_
  exact im_nreturn X (0 : Int32) rfl rfl rfl dJS_coder_14
set_option maxRecDepth 100000 in
set_option maxHeartbeats 4000000 in
theorem c_JS_isLatin1 (l : Launch) (D : va_G) (ct : im_ct) (i : Nat) (hi : i < 10) : CMi l D ct yJS_isLatin1 cJS_isLatin1 1 (some .boolean) 0 [.ref (ct (10 + i))] [] (some (1 : Int32)) (fun z : Int32 => z) (fun _ => []) := by
  refine im_met (Qb := fun A => QI D A (fun z : Int32 => z) (fun _ => [])) (by decide +kernel) (Nat.le_of_ble_eq_true rfl) (fun p e s m args below meth c A X => ?_)
  refine im_lv [0] [(0, .ref (ct (10 + i)))] rfl ?_
  refine im_sgets X sf_comp dJS_isLatin1_0 ?_
  refine im_E (E2 := if (1 : Int32) = 0 then none else some (1 : Int32)) (by decide) ?_
  refine im_if_eq (tgt := 17) X dJS_isLatin1_3 rfl im_none ?_
  refine im_aload_n X 0 dJS_isLatin1_6 rfl rfl ?_
  refine im_sgetc X hi sf_coder dJS_isLatin1_7 ?_
  refine im_E (E2 := if (0 : Int32) = 0 then some (1 : Int32) else none) (by decide) ?_
  refine im_if_ne (tgt := 17) X dJS_isLatin1_10 rfl im_none ?_
  refine im_iconst X 1 dJS_isLatin1_13 (by decide) ?_
  refine im_goto (tgt := 18) X dJS_isLatin1_14 rfl ?_
  exact im_nreturn X (1 : Int32) rfl rfl rfl dJS_isLatin1_18
/-- the length of a text -/
def s_len (i : Nat) : Int32 := nI (im_len.getD i 0) >>> ((0 : Int32) &&& 31)
set_option maxRecDepth 100000 in
set_option maxHeartbeats 4000000 in
theorem c_JS_length (l : Launch) (D : va_G) (ct : im_ct) (i : Nat) (hi : i < 10) : CMi l D ct yJS_length cJS_length 1 (some .int) 1 [.ref (ct (10 + i))] [] (some (s_len i)) (fun z : Int32 => z) (fun _ => []) := by
  refine im_met (Qb := fun A => QI D A (fun z : Int32 => z) (fun _ => [])) (by decide +kernel) (Nat.le_of_ble_eq_true rfl) (fun p e s m args below meth c A X => ?_)
  refine im_lv [0] [(0, .ref (ct (10 + i)))] rfl ?_
  refine im_aload_n X 0 dJS_length_0 rfl rfl ?_
  refine im_sgetv X hi sf_value dJS_length_1 ?_
  refine im_slen X hi dJS_length_4 ?_
  refine im_aload_n X 0 dJS_length_5 rfl rfl ?_
  refine im_E (E2 := (some (0 : Int32)).bind (fun z => if z = 0 then some (nI (im_len.getD i 0) >>> (z &&& 31)) else none)) rfl ?_
  refine im_calliT X hi [] [.int (nI (im_len.getD i 0))] cl_JS_335 rfl (c_JS_coder l D ct i hi) rfl ⟨by decide, by decide⟩ (Nat.le_of_ble_eq_true rfl) rfl dJS_length_6 (fun z _ => ?_)
  refine im_ite (fun q => ?_) (fun q => im_none)
  refine im_ishr X dJS_length_9 ?_
  exact im_ireturn X _ rfl rfl dJS_length_10
set_option maxRecDepth 100000 in
set_option maxHeartbeats 4000000 in
theorem c_JP_checkIndex (l : Launch) (D : va_G) (ct : im_ct) (x n : Int32) (v : Value) (hv : v = .null ∨ ∃ t, v = .ref t) : CMi l D ct yJP_checkIndex cJP_checkIndex 3 (some .int) 0 [.int x, .int n, v] [] (if x < 0 then none else if x < n then some x else none) (fun z : Int32 => z) (fun _ => []) := by
  rcases hv with rfl | ⟨t, rfl⟩
  · refine im_met (Qb := fun A => QI D A (fun z : Int32 => z) (fun _ => [])) (by decide +kernel) (Nat.le_of_ble_eq_true rfl) (fun p e s m args below meth c A X => ?_)
    refine im_lv [0, 1] [(0, .int x), (1, .int n)] rfl ?_
    refine im_iload_n X 0 dJP_checkIndex_0 rfl rfl ?_
    refine im_if_lt (tgt := 9) X dJP_checkIndex_1 rfl im_none ?_
    refine im_iload_n X 0 dJP_checkIndex_4 rfl rfl ?_
    refine im_iload_n X 1 dJP_checkIndex_5 rfl rfl ?_
    refine im_icmp_lt (tgt := 16) X dJP_checkIndex_6 rfl ?_ im_none
    refine im_iload_n X 0 dJP_checkIndex_16 rfl rfl ?_
    exact im_ireturn X x rfl rfl dJP_checkIndex_17
  · refine im_met (Qb := fun A => QI D A (fun z : Int32 => z) (fun _ => [])) (by decide +kernel) (Nat.le_of_ble_eq_true rfl) (fun p e s m args below meth c A X => ?_)
    refine im_lv [0, 1] [(0, .int x), (1, .int n)] rfl ?_
    refine im_iload_n X 0 dJP_checkIndex_0 rfl rfl ?_
    refine im_if_lt (tgt := 9) X dJP_checkIndex_1 rfl im_none ?_
    refine im_iload_n X 0 dJP_checkIndex_4 rfl rfl ?_
    refine im_iload_n X 1 dJP_checkIndex_5 rfl rfl ?_
    refine im_icmp_lt (tgt := 16) X dJP_checkIndex_6 rfl ?_ im_none
    refine im_iload_n X 0 dJP_checkIndex_16 rfl rfl ?_
    exact im_ireturn X x rfl rfl dJP_checkIndex_17
set_option maxRecDepth 100000 in
set_option maxHeartbeats 4000000 in
theorem c_JS_checkIndex (l : Launch) (D : va_G) (ct : im_ct) (x n : Int32) : CMv l D ct yJS_checkIndex cJS_checkIndex 2 none 1 [.int x, .int n] [] ((if x < 0 then none else if x < n then some x else none).bind (fun _ : Int32 => some ())) (fun _ : Unit => []) := by
  refine im_met (Qb := fun A => QV D A (fun _ : Unit => [])) (by decide +kernel) (Nat.le_of_ble_eq_true rfl) (fun p e s m args below meth c A X => ?_)
  refine im_lv [0, 1] [(0, .int x), (1, .int n)] rfl ?_
  refine im_iload_n X 0 dJS_checkIndex_0 rfl rfl ?_
  refine im_iload_n X 1 dJS_checkIndex_1 rfl rfl ?_
  refine im_sgetq X sf_form dJS_checkIndex_2 (fun v hv => ?_)
  refine im_calliS X [.int x, .int n, v] [] [] cl_JS_1059 (c_JP_checkIndex l D ct x n v hv) rfl rfl (fun _ => rfl) rfl ⟨by decide, by decide⟩ (Nat.le_of_ble_eq_true rfl) rfl dJS_checkIndex_5 (fun z => ?_)
  refine im_pop X rfl dJS_checkIndex_8 ?_
  exact im_return X () rfl dJS_checkIndex_9
/-- a sign of a text -/
def s_ch (i : Nat) (j : Int32) : Int32 := (((im_byt.getD i []).getD j.toNatClampNeg 0 &&& 255).toUInt32 % 65536).toInt32
theorem s_ch_nar {i : Nat} (hi : i < 10) {j : Int32} (hj : vp_in j (im_len.getD i 0)) : narrow .char (.int (s_ch i j)) = .int (s_ch i j) := by
  have h : ∀ i, i < 10 → ∀ k, k < im_len.getD i 0 → narrow .char (.int ((((im_byt.getD i []).getD k 0 &&& 255).toUInt32 % 65536).toInt32)) = .int ((((im_byt.getD i []).getD k 0 &&& 255).toUInt32 % 65536).toInt32) := by decide +kernel
  exact h i hi _ (Nat.not_le.mp fun q => hj (Or.inr q))
set_option maxRecDepth 100000 in
set_option maxHeartbeats 4000000 in
theorem c_JL_charAt (l : Launch) (D : va_G) (ct : im_ct) (i : Nat) (hi : i < 10) (j : Int32) : CMi l D ct yJL_charAt cJL_charAt 2 (some .char) 2 [.ref (ct (30 + i)), .int j] [] (((if j < 0 then none else if j < nI (im_len.getD i 0) then some j else none).bind (fun _ : Int32 => some ())).bind (fun _ => ck j (im_len.getD i 0) (some (s_ch i j)))) (fun z : Int32 => z) (fun _ => []) := by
  refine im_met (Qb := fun A => QI D A (fun z : Int32 => z) (fun _ => [])) (by decide +kernel) (Nat.le_of_ble_eq_true rfl) (fun p e s m args below meth c A X => ?_)
  refine im_lv [0, 1] [(0, .ref (ct (30 + i))), (1, .int j)] rfl ?_
  refine im_iload_n X 1 dJL_charAt_0 rfl rfl ?_
  refine im_aload_n X 0 dJL_charAt_1 rfl rfl ?_
  refine im_slen X hi dJL_charAt_2 ?_
  refine im_callvS X [.int j, .int (nI (im_len.getD i 0))] [] [] cl_JL_9 (c_JS_checkIndex l D ct j (nI (im_len.getD i 0))) rfl rfl (fun _ => rfl) rfl ⟨by decide, by decide⟩ (Nat.le_of_ble_eq_true rfl) rfl dJL_charAt_3 (fun z => ?_)
  refine im_aload_n X 0 dJL_charAt_6 rfl rfl ?_
  refine im_iload_n X 1 dJL_charAt_7 rfl rfl ?_
  intro a h
  have hv := (ck_some h).1
  revert a
  refine im_sbald X hi dJL_charAt_8 ?_
  refine im_sipush X 255 dJL_charAt_9 (by decide) ?_
  refine im_iand X dJL_charAt_12 ?_
  refine im_i2c X dJL_charAt_13 ?_
  exact im_nreturn X (s_ch i j) (s_ch_nar hi hv) rfl rfl dJL_charAt_14
theorem s_ok {i : Nat} (hi : i < 10) {j : Int32} (hj : vp_in j (im_len.getD i 0)) : ¬ j < 0 ∧ j < nI (im_len.getD i 0) := by
  have hl : ∀ i, i < 10 → im_len.getD i 0 < 2 ^ 31 := by decide
  have h0 : ¬ j < 0 := fun q => hj (Or.inl q)
  obtain ⟨k, hk, rfl⟩ := vp_in_of hj (hl i hi)
  exact ⟨h0, nI_lt hk (hl i hi)⟩
set_option maxRecDepth 100000 in
set_option maxHeartbeats 4000000 in
theorem c_JS_charAt (l : Launch) (D : va_G) (ct : im_ct) (i : Nat) (hi : i < 10) (j : Int32) : CMi l D ct yJS_charAt cJS_charAt 2 (some .char) 3 [.ref (ct (10 + i)), .int j] [] (ck j (im_len.getD i 0) (some (s_ch i j))) (fun z : Int32 => z) (fun _ => []) := by
  refine im_met (Qb := fun A => QI D A (fun z : Int32 => z) (fun _ => [])) (by decide +kernel) (Nat.le_of_ble_eq_true rfl) (fun p e s m args below meth c A X => ?_)
  refine im_lv [0, 1] [(0, .ref (ct (10 + i))), (1, .int j)] rfl ?_
  by_cases hv : vp_in j (im_len.getD i 0)
  · obtain ⟨h1, h2⟩ := s_ok hi hv
    have hck : ∀ E : Option Int32, ck j (im_len.getD i 0) E = E := fun E => if_neg hv
    refine im_E (E2 := (some (1 : Int32)).bind (fun z => if z = 0 then none else (((if j < 0 then none else if j < nI (im_len.getD i 0) then some j else none).bind (fun _ : Int32 => some ())).bind (fun _ => ck j (im_len.getD i 0) (some (s_ch i j)))).bind (fun r : Int32 => if r = s_ch i j then some r else none))) ?_ ?_
    · rw [hck, if_neg h1, if_pos h2]
      show some (s_ch i j) = if (1 : Int32) = 0 then none else if s_ch i j = s_ch i j then some (s_ch i j) else none
      rw [if_neg (by decide), if_pos rfl]
    refine im_aload_n X 0 dJS_charAt_0 rfl rfl ?_
    refine im_calliT X hi [] [] cl_JS_492 rfl (c_JS_isLatin1 l D ct i hi) rfl ⟨by decide, by decide⟩ (Nat.le_of_ble_eq_true rfl) rfl dJS_charAt_1 (fun z _ => ?_)
    refine im_if_eq (tgt := 16) X dJS_charAt_4 rfl im_none ?_
    refine im_aload_n X 0 dJS_charAt_7 rfl rfl ?_
    refine im_sgetv X hi sf_value dJS_charAt_8 ?_
    refine im_iload_n X 1 dJS_charAt_11 rfl rfl ?_
    refine im_calliS X [.ref (ct (30 + i)), .int j] [] [] cl_JS_495 (c_JL_charAt l D ct i hi j) rfl rfl (fun _ => rfl) rfl ⟨by decide, by decide⟩ (Nat.le_of_ble_eq_true rfl) rfl dJS_charAt_12 (fun r => ?_)
    refine im_ite (fun q => ?_) (fun q => im_none)
    exact im_nreturn X r (by rw [q]; exact s_ch_nar hi hv) rfl rfl dJS_charAt_15
  · exact fun a h => absurd (ck_some h).1 hv
section ImStr2
variable {p : Program} {l : Launch} {e : Env} {R : Room} {s : State} {m : MethodId} {args : Array Value} {below : List Frame} {meth : Method} {c : Code} {D : va_G} {ct : im_ct} {A : Nat → Prop} {own : String} {cc : ByteArray} {nL : Nat} {ret : Option FieldType} {α : Type} {Q : α → Array Value → State → Outcome → State → Prop} {pc : Nat} {lv : List (Nat × Value)} {st : List Value} {ws : va_W} {E : Option α}
theorem im_slength (X : im_X p R s m args meth c D ct A own cc nL ret) {idx i : Nat} (cl : im_CL own idx yJS_length cJS_length 1 (some .int) 0) (hi : i < 10) (hR : 1 + 1 ≤ R.frames ∧ 8 + (1 + 11) + 40 * 1 ≤ R.locals) (hrest : (st.map fun v => v.category).sum ≤ 8) (d : decode cc pc = .ok (.invokevirtual idx, 3)) (k : Im p l e R s m args below meth c D A nL Q (pc + 3) lv (.int (s_len i) :: st) ws E) : Im p l e R s m args below meth c D A nL Q pc lv (.ref (ct (10 + i)) :: st) ws E := fun a h => im_calliT X hi [] st cl rfl (c_JS_length l D ct i hi) rfl hR hrest rfl d (K := fun _ => E) (fun z hz => by cases hz; exact k) a h
theorem im_scharAt (X : im_X p R s m args meth c D ct A own cc nL ret) {idx i : Nat} {j : Int32} (cl : im_CL own idx yJS_charAt cJS_charAt 2 (some .char) 1) (hi : i < 10) (hR : 3 + 1 ≤ R.frames ∧ 8 + (2 + 11) + 40 * 3 ≤ R.locals) (hrest : (st.map fun v => v.category).sum ≤ 8) (d : decode cc pc = .ok (.invokevirtual idx, 3)) (k : Im p l e R s m args below meth c D A nL Q (pc + 3) lv (.int (s_ch i j) :: st) ws E) : Im p l e R s m args below meth c D A nL Q pc lv (.int j :: .ref (ct (10 + i)) :: st) ws (ck j (im_len.getD i 0) E) := fun a h => by
  have hv := (ck_some h).1
  have hck : ck j (im_len.getD i 0) (some (s_ch i j)) = some (s_ch i j) := if_neg hv
  exact im_calliT X hi [.int j] st cl rfl (c_JS_charAt l D ct i hi j) rfl hR hrest rfl d (K := fun _ => E) (fun z hz => by rw [hck] at hz; cases hz; exact k) a (by rw [hck]; exact (ck_some h).2)
end ImStr2
