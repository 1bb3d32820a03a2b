/-! worlds of the components: an object and its arrays -/
abbrev Mem : Type := Nat → Nat → Int32
abbrev MemL : Type := Nat → Nat → Int64
def hp0 (n : Nat) : Nat := n
def hp1 (n : Nat) : Nat := hp0 n
def hp2 (n : Nat) : Nat := hp1 n
def hp3 (n : Nat) : Nat := hp2 n
def hp4 (n : Nat) : Nat := hp3 n
def hp5 (n : Nat) : Nat := hp4 n
def hp6 (n : Nat) : Nat := hp5 n
def hp7 (n : Nat) : Nat := hp6 n
def hp8 (n : Nat) : Nat := hp7 n
def hp9 (n : Nat) : Nat := hp8 n
def hp10 (n : Nat) : Nat := hp9 n
def hp11 (n : Nat) : Nat := hp10 n
def hp12 (n : Nat) : Nat := hp11 n
def hp13 (n : Nat) : Nat := hp12 n
def hp14 (n : Nat) : Nat := hp13 n
def hp15 (n : Nat) : Nat := hp14 n
def hp16 (n : Nat) : Nat := hp15 n
def hp17 (n : Nat) : Nat := hp16 n
def hp18 (n : Nat) : Nat := hp17 n
def hp19 (n : Nat) : Nat := hp18 n
def hp20 (n : Nat) : Nat := hp19 n
def hp21 (n : Nat) : Nat := hp20 n
def hp22 (n : Nat) : Nat := hp21 n
def hp23 (n : Nat) : Nat := hp22 n
def hp24 (n : Nat) : Nat := hp23 n
def hp25 (n : Nat) : Nat := hp24 n
def hp26 (n : Nat) : Nat := hp25 n
def hp27 (n : Nat) : Nat := hp26 n
def hp28 (n : Nat) : Nat := hp27 n
def hp29 (n : Nat) : Nat := hp28 n
def hp30 (n : Nat) : Nat := hp29 n
def hp31 (n : Nat) : Nat := hp30 n
def hp32 (n : Nat) : Nat := hp31 n
def hp33 (n : Nat) : Nat := hp32 n
def hp34 (n : Nat) : Nat := hp33 n
def hp35 (n : Nat) : Nat := hp34 n
def hp36 (n : Nat) : Nat := hp35 n
def hp37 (n : Nat) : Nat := hp36 n
def hp38 (n : Nat) : Nat := hp37 n
def hp39 (n : Nat) : Nat := hp38 n
def hp40 (n : Nat) : Nat := hp39 n
/-- one place anew (made so that it is unfolded ahead of what it holds) -/
noncomputable def at1 {β : Type} (f : Nat → β) (k : Nat) (x : β) : Nat → β := fun j => (fun (_ : Nat) => @Bool.rec (fun _ => β) (f j) x (Nat.beq j k)) (hp40 0)
noncomputable abbrev mr {β : Type} (M : Nat → Nat → β) (k : Nat) (r : Nat → β) : Nat → Nat → β := at1 M k r
noncomputable abbrev fu (f : Nat → Int32) (k : Nat) (x : Int32) : Nat → Int32 := at1 f k x
noncomputable abbrev mk3 (Ms : Nat → Mem) (k : Nat) (m : Mem) : Nat → Mem := at1 Ms k m
theorem i32_ne {x k : Int32} {z : Int} (h : ¬ x = k) (hz : k.toInt = z) : x.toInt ≠ z := fun q => h (Int32.toInt_inj.mp (q.trans hz.symm))
def wx_Cloth (ct : im_ct) (a : Nat → Nat) (i6 i7 i8 i9 : Int32) (r1 r2 r3 r4 r5 r6 : Nat → Int32) : va_W := [(a 0, .inr (0, [.ref (a 1), .ref (a 2), .ref (a 3), .ref (a 4), .ref (a 5), .ref (a 6), .int i6, .int i7, .int i8, .int i9])), (a 1, .inl (ct 0, 6, .inl r1)), (a 2, .inl (ct 0, 6, .inl r2)), (a 3, .inl (ct 0, 24, .inl r3)), (a 4, .inl (ct 0, 24, .inl r4)), (a 5, .inl (ct 0, 120, .inl r5)), (a 6, .inl (ct 0, 48, .inl r6))]
def w_Cloth (ct : im_ct) (a : Nat → Nat) (M : Mem) : va_W := wx_Cloth ct a (M 0 6) (M 0 7) (M 0 8) (M 0 9) (M 1) (M 2) (M 3) (M 4) (M 5) (M 6)
def wx_Effect (ct : im_ct) (a : Nat → Nat) (i0 i1 i2 i3 : Int32) : va_W := [(a 0, .inr (1, [.int i0, .int i1, .int i2, .int i3]))]
def w_Effect (ct : im_ct) (a : Nat → Nat) (M : Mem) : va_W := wx_Effect ct a (M 0 0) (M 0 1) (M 0 2) (M 0 3)
def wx_Inquest (ct : im_ct) (a : Nat → Nat) (a_eff : Nat → Nat) (i10 i11 i12 i13 : Int32) (r1 r2 r3 r4 r5 r6 r7 r8 r9 : Nat → Int32) : va_W := [(a 0, .inr (2, [.ref (a 1), .ref (a 2), .ref (a 3), .ref (a 4), .ref (a 5), .ref (a 6), .ref (a 7), .ref (a 8), .ref (a 9), .ref (a_eff 0), .int i10, .int i11, .int i12, .int i13])), (a 1, .inl (ct 0, 600, .inl r1)), (a 2, .inl (ct 0, 600, .inl r2)), (a 3, .inl (ct 0, 600, .inl r3)), (a 4, .inl (ct 0, 25, .inl r4)), (a 5, .inl (ct 0, 12, .inl r5)), (a 6, .inl (ct 0, 1000, .inl r6)), (a 7, .inl (ct 0, 24, .inl r7)), (a 8, .inl (ct 0, 24, .inl r8)), (a 9, .inl (ct 0, 4, .inl r9))]
def w_Inquest (ct : im_ct) (a : Nat → Nat) (a_eff : Nat → Nat) (M : Mem) : va_W := wx_Inquest ct a a_eff (M 0 10) (M 0 11) (M 0 12) (M 0 13) (M 1) (M 2) (M 3) (M 4) (M 5) (M 6) (M 7) (M 8) (M 9)
def wx_Past (ct : im_ct) (a : Nat → Nat) (ak : Nat → Nat → Nat) (i1 i2 : Int32) : va_W := [(a 0, .inr (3, [.ref (a 1), .int i1, .int i2])), (a 1, .inl (ct 4, 12, .inr (.inr (.inr (.inr (fun i => some (ak i 0)))))))]
def w_Past (ct : im_ct) (a : Nat → Nat) (ak : Nat → Nat → Nat) (M : Mem) : va_W := wx_Past ct a ak (M 0 1) (M 0 2)
def wx_Payment (ct : im_ct) (a : Nat → Nat) (i7 i8 i9 i10 i11 i12 : Int32) (r1 r2 r3 r4 r5 r6 r7 : Nat → Int32) : va_W := [(a 0, .inr (4, [.ref (a 1), .ref (a 2), .ref (a 3), .ref (a 4), .ref (a 5), .ref (a 6), .ref (a 7), .int i7, .int i8, .int i9, .int i10, .int i11, .int i12])), (a 1, .inl (ct 0, 6, .inl r1)), (a 2, .inl (ct 0, 6, .inl r2)), (a 3, .inl (ct 0, 6, .inl r3)), (a 4, .inl (ct 0, 6, .inl r4)), (a 5, .inl (ct 0, 6, .inl r5)), (a 6, .inl (ct 0, 6, .inl r6)), (a 7, .inl (ct 0, 1206, .inl r7))]
def w_Payment (ct : im_ct) (a : Nat → Nat) (M : Mem) : va_W := wx_Payment ct a (M 0 7) (M 0 8) (M 0 9) (M 0 10) (M 0 11) (M 0 12) (M 1) (M 2) (M 3) (M 4) (M 5) (M 6) (M 7)
def wx_Purse (ct : im_ct) (a : Nat → Nat) (r1 r2 : Nat → Int32) (l3 l4 : Nat → Int64) (sw sv : Bool) : va_W := [(a 0, .inr (5, [.ref (a 1), .ref (a 2), .ref (cond sw (a 4) (a 3)), .ref (cond sv (a 3) (a 4))])), (a 1, .inl (ct 0, 6, .inl r1)), (a 2, .inl (ct 0, 6, .inl r2)), (a 3, .inl (ct 1, 100, .inr (.inl l3))), (a 4, .inl (ct 1, 100, .inr (.inl l4)))]
def w_Purse (ct : im_ct) (a : Nat → Nat) (M : Mem) (L : MemL) (sw sv : Bool) : va_W := wx_Purse ct a (M 1) (M 2) (L 3) (L 4) sw sv
def wx_Reader (ct : im_ct) (a : Nat → Nat) (a_dr : Nat → Nat) (a_ef : Nat → Nat) (a_tp : Nat → Nat) (i5 i6 i7 i8 : Int32) (r1 : Nat → Int32) : va_W := [(a 0, .inr (6, [.ref (a_dr 0), .ref (a_ef 0), .ref (a 1), .ref (a_tp 0), .ref (a_tp 1), .int i5, .int i6, .int i7, .int i8])), (a 1, .inl (ct 0, 4, .inl r1))]
def w_Reader (ct : im_ct) (a : Nat → Nat) (a_dr : Nat → Nat) (a_ef : Nat → Nat) (a_tp : Nat → Nat) (M : Mem) : va_W := wx_Reader ct a a_dr a_ef a_tp (M 0 5) (M 0 6) (M 0 7) (M 0 8) (M 1)
def wx_Scribe (ct : im_ct) (a : Nat → Nat) (i1 i2 : Int32) (r1 : Nat → Int32) : va_W := [(a 0, .inr (7, [.ref (a 1), .int i1, .int i2])), (a 1, .inl (ct 2, 700, .inl r1))]
def w_Scribe (ct : im_ct) (a : Nat → Nat) (M : Mem) : va_W := wx_Scribe ct a (M 0 1) (M 0 2) (M 1)
def wx_Tape (ct : im_ct) (a : Nat → Nat) (i1 : Int32) (r1 : Nat → Int32) : va_W := [(a 0, .inr (8, [.ref (a 1), .int i1])), (a 1, .inl (ct 0, 400, .inl r1))]
def w_Tape (ct : im_ct) (a : Nat → Nat) (M : Mem) : va_W := wx_Tape ct a (M 0 1) (M 1)
def wx_X (ct : im_ct) (a : Nat → Nat) (a_tp : Nat → Nat) (a_cl : Nat → Nat) (a_pa : Nat → Nat) (a_re : Nat → Nat) (a_pu : Nat → Nat) (a_py : Nat → Nat) (a_iq : Nat → Nat) (a_sc : Nat → Nat) (a_ef : Nat → Nat) : va_W := [(a 0, .inr (9, [.ref (a_re 0), .ref (a_tp 0), .ref (a_cl 0), .ref (a_pa 0), .ref (a_pu 0), .ref (a_py 0), .ref (a_iq 0), .ref (a_sc 0), .ref (a_ef 0)]))]
def w_X (ct : im_ct) (a : Nat → Nat) (a_tp : Nat → Nat) (a_cl : Nat → Nat) (a_pa : Nat → Nat) (a_re : Nat → Nat) (a_pu : Nat → Nat) (a_py : Nat → Nat) (a_iq : Nat → Nat) (a_sc : Nat → Nat) (a_ef : Nat → Nat) (M : Mem) : va_W := wx_X ct a a_tp a_cl a_pa a_re a_pu a_py a_iq a_sc a_ef 
def wx_Model (ct : im_ct) (a : Nat → Nat) (i0 i4 i6 i7 i8 i9 i24 i27 i29 i31 i32 i33 i34 i35 : Int32) (r1 r2 r3 r4 r5 r9 r10 r11 r12 r13 r14 r15 r16 r17 r18 r19 r20 r21 r22 : Nat → Int32) (l6 l7 l8 : Nat → Int64) : va_W := [(a 0, .inr (10, [.int i0, .ref (a 1), .ref (a 2), .ref (a 3), .int i4, .ref (a 4), .int i6, .int i7, .int i8, .int i9, .ref (a 5), .ref (a 6), .ref (a 7), .ref (a 8), .ref (a 9), .ref (a 10), .ref (a 11), .ref (a 12), .ref (a 13), .ref (a 14), .ref (a 15), .ref (a 16), .ref (a 17), .ref (a 18), .int i24, .ref (a 19), .ref (a 20), .int i27, .ref (a 21), .int i29, .ref (a 22), .int i31, .int i32, .int i33, .int i34, .int i35])), (a 1, .inl (ct 0, 226, .inl r1)), (a 2, .inl (ct 0, 226, .inl r2)), (a 3, .inl (ct 0, 2712, .inl r3)), (a 4, .inl (ct 0, 24, .inl r4)), (a 5, .inl (ct 0, 6, .inl r5)), (a 6, .inl (ct 1, 7, .inr (.inl l6))), (a 7, .inl (ct 1, 420, .inr (.inl l7))), (a 8, .inl (ct 1, 420, .inr (.inl l8))), (a 9, .inl (ct 0, 6, .inl r9)), (a 10, .inl (ct 0, 6, .inl r10)), (a 11, .inl (ct 0, 6, .inl r11)), (a 12, .inl (ct 0, 2520, .inl r12)), (a 13, .inl (ct 0, 840, .inl r13)), (a 14, .inl (ct 0, 840, .inl r14)), (a 15, .inl (ct 0, 1300, .inl r15)), (a 16, .inl (ct 0, 1300, .inl r16)), (a 17, .inl (ct 0, 1300, .inl r17)), (a 18, .inl (ct 3, 1300, .inl r18)), (a 19, .inl (ct 0, 3, .inl r19)), (a 20, .inl (ct 0, 2000, .inl r20)), (a 21, .inl (ct 0, 400, .inl r21)), (a 22, .inl (ct 2, 50, .inl r22))]
def w_Model (ct : im_ct) (a : Nat → Nat) (M : Mem) (L : MemL) : va_W := wx_Model ct a (M 0 0) (M 0 4) (M 0 6) (M 0 7) (M 0 8) (M 0 9) (M 0 24) (M 0 27) (M 0 29) (M 0 31) (M 0 32) (M 0 33) (M 0 34) (M 0 35) (M 1) (M 2) (M 3) (M 4) (M 5) (M 9) (M 10) (M 11) (M 12) (M 13) (M 14) (M 15) (M 16) (M 17) (M 18) (M 19) (M 20) (M 21) (M 22) (L 6) (L 7) (L 8)
theorem fa_Cloth {ct : im_ct} {a : Nat → Nat} {M M2 : Mem} : (w_Cloth ct a M).map Prod.fst = (w_Cloth ct a M2).map Prod.fst := rfl
theorem fa_Effect {ct : im_ct} {a : Nat → Nat} {M M2 : Mem} : (w_Effect ct a M).map Prod.fst = (w_Effect ct a M2).map Prod.fst := rfl
theorem fa_Inquest {ct : im_ct} {a : Nat → Nat} {a_eff : Nat → Nat} {M M2 : Mem} : (w_Inquest ct a a_eff M).map Prod.fst = (w_Inquest ct a a_eff M2).map Prod.fst := rfl
theorem fa_Past {ct : im_ct} {a : Nat → Nat} {ak : Nat → Nat → Nat} {M M2 : Mem} : (w_Past ct a ak M).map Prod.fst = (w_Past ct a ak M2).map Prod.fst := rfl
theorem fa_Payment {ct : im_ct} {a : Nat → Nat} {M M2 : Mem} : (w_Payment ct a M).map Prod.fst = (w_Payment ct a M2).map Prod.fst := rfl
theorem fa_Purse {ct : im_ct} {a : Nat → Nat} {M M2 : Mem} {L L2 : MemL} {sw sv sw2 sv2 : Bool} : (w_Purse ct a M L sw sv).map Prod.fst = (w_Purse ct a M2 L2 sw2 sv2).map Prod.fst := rfl
theorem fa_Reader {ct : im_ct} {a : Nat → Nat} {a_dr : Nat → Nat} {a_ef : Nat → Nat} {a_tp : Nat → Nat} {M M2 : Mem} : (w_Reader ct a a_dr a_ef a_tp M).map Prod.fst = (w_Reader ct a a_dr a_ef a_tp M2).map Prod.fst := rfl
theorem fa_Scribe {ct : im_ct} {a : Nat → Nat} {M M2 : Mem} : (w_Scribe ct a M).map Prod.fst = (w_Scribe ct a M2).map Prod.fst := rfl
theorem fa_Tape {ct : im_ct} {a : Nat → Nat} {M M2 : Mem} : (w_Tape ct a M).map Prod.fst = (w_Tape ct a M2).map Prod.fst := rfl
theorem fa_X {ct : im_ct} {a : Nat → Nat} {a_tp : Nat → Nat} {a_cl : Nat → Nat} {a_pa : Nat → Nat} {a_re : Nat → Nat} {a_pu : Nat → Nat} {a_py : Nat → Nat} {a_iq : Nat → Nat} {a_sc : Nat → Nat} {a_ef : Nat → Nat} {M M2 : Mem} : (w_X ct a a_tp a_cl a_pa a_re a_pu a_py a_iq a_sc a_ef M).map Prod.fst = (w_X ct a a_tp a_cl a_pa a_re a_pu a_py a_iq a_sc a_ef M2).map Prod.fst := rfl
theorem fa_Model {ct : im_ct} {a : Nat → Nat} {M M2 : Mem} {L L2 : MemL} : (w_Model ct a M L).map Prod.fst = (w_Model ct a M2 L2).map Prod.fst := rfl
theorem lc {α : Type} {x y : α} {xs ys : List α} (h : x = y) (hs : xs = ys) : x :: xs = y :: ys := by rw [h, hs]
def w_LArr (ct : im_ct) (a : Nat → Nat) (L : MemL) : va_W := [(a 0, .inl (ct 1, 100, .inr (.inl (L 0))))]
def w_IArr (ct : im_ct) (n : Nat) (a : Nat → Nat) (M : Mem) : va_W := [(a 0, .inl (ct 0, n, .inl (M 0)))]
