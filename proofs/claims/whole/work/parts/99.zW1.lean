/-! THE START: the two objects are made, and the loop begins -/
def lW9 (ct : im_ct) (u1 : Ku) : List va_W := [w_X ct (u1.1 0) (u1.1 1) (u1.1 2) (u1.1 3) (u1.1 4) (u1.1 7) (u1.1 8) (u1.1 9) (u1.1 11) (u1.1 12) M0, w_Tape ct (u1.1 1) M0, w_Cloth ct (u1.1 2) M0, w_Past ct (u1.1 3) u1.2 M0, w_Reader ct (u1.1 4) (u1.1 5) (u1.1 6) (u1.1 1) M0, w_Cloth ct (u1.1 5) M0, w_Effect ct (u1.1 6) M0, w_Purse ct (u1.1 7) M0 L0 false false, w_Payment ct (u1.1 8) M0, w_Inquest ct (u1.1 9) (u1.1 10) M0, w_Effect ct (u1.1 10) M0, w_Scribe ct (u1.1 11) MS0, w_Effect ct (u1.1 12) M0, w_Cloth ct (u1.2 0) M0, w_Cloth ct (u1.2 1) M0, w_Cloth ct (u1.2 2) M0, w_Cloth ct (u1.2 3) M0, w_Cloth ct (u1.2 4) M0, w_Cloth ct (u1.2 5) M0, w_Cloth ct (u1.2 6) M0, w_Cloth ct (u1.2 7) M0, w_Cloth ct (u1.2 8) M0, w_Cloth ct (u1.2 9) M0, w_Cloth ct (u1.2 10) M0, w_Cloth ct (u1.2 11) M0]
set_option maxHeartbeats 4000000 in
theorem lW_eq (ct : im_ct) (u1 : Ku) (a : Nat → Nat) : lW9 ct u1 ++ [w_Model ct a MM0 L0] = lW ct (u1.1 0) (u1.1 1) (u1.1 2) (u1.1 3) (u1.1 4) (u1.1 5) (u1.1 6) (u1.1 7) (u1.1 8) (u1.1 9) (u1.1 10) (u1.1 11) (u1.1 12) u1.2 a M0 M0 M0 M0 M0 M0 M0 M0 L0 false false M0 M0 M0 MS0 M0 (fun _ => M0) MM0 L0 := rfl
theorem k_X9' (l : Launch) (D : va_G) (ct : im_ct) (b : Nat) : CK l D ct yX9_init cX9_init 1 3 132 8851 [.ref b] [[(b, .inr (9, [.null, .null, .null, .null, .null, .null, .null, .null, .null]))]] (fun u => u.1 0 0 = b) (fun u => lW9 ct u) := k_X9 l D ct b
def o10 : List Value := [.int 0, .null, .null, .null, .int 0, .null, .int 0, .int 0, .int 0, .int 0, .null, .null, .null, .null, .null, .null, .null, .null, .null, .null, .null, .null, .null, .null, .int 0, .null, .null, .int 0, .null, .int 0, .null, .int 0, .int 0, .int 0, .int 0, .int 0]
theorem nw_X10' : im_NW 10 RX10 36 o10 := nw_X10
theorem k_X10' (l : Launch) (D : va_G) (ct : im_ct) (b : Nat) : CK l D ct yX10_init cX10_init 1 1 22 15912 [.ref b] [[(b, .inr (10, o10))]] (fun u => u.1 0 0 = b) (fun u => [w_Model ct (u.1 0) MM0 L0]) := k_X10 l D ct b
set_option maxHeartbeats 4000000 in
theorem lw_J2 {p : Program} {l : Launch} {e : Env} {s : State} {m : MethodId} {args : Array Value} {below : List Frame} {meth : Method} {c : Code} {D : va_G} {ct : im_ct} {A : Nat → Prop} {Z : State → Prop} {b L : Nat} {xs : Nat → Int32} (X : im_X p room_1 s m args meth c D ct A RL cL_law 4 (some .boolean)) (hX : va_X b L xs s s.heap) (hbl : b < s.heap.size) (hbA : ¬ A b) (hao : va_AO aoC s) (hL : L ≤ 3072) (E : ∀ (x y : Nat) (i : Int32) (ws : va_W), Jm p l e room_1 s m args below meth c D A 4 Z 156 24808 1854 (lvL b x y i) [] ws) (u1 : Ku) : Jm p l e room_1 s m args below meth c D A 4 Z 133 8860 8 [(0, .ref b), (1, .ref (u1.1 0 0))] [] (cat (lW9 ct u1)) := by
  refine j_cnew X nw_X10' cn_L_10 ⟨Nat.le_of_ble_eq_true rfl, Nat.le_of_ble_eq_true rfl⟩ dL_law_8 (fun q2 => ?_)
  refine j_dup X rfl dL_law_11 ?_
  refine j_init X hao [] [.ref q2] (lW9 ct u1) [[(q2, .inr (10, o10))]] _ ci_L_12 (k_X10' l D ct q2) rfl rfl ⟨by decide, by decide⟩ (Nat.le_of_ble_eq_true rfl) rfl rfl ⟨Nat.le_of_ble_eq_true rfl, Nat.le_of_ble_eq_true rfl⟩ dL_law_12 (fun u2 hu2 => ?_)
  subst hu2
  refine j_ws (cat (lW ct (u1.1 0) (u1.1 1) (u1.1 2) (u1.1 3) (u1.1 4) (u1.1 5) (u1.1 6) (u1.1 7) (u1.1 8) (u1.1 9) (u1.1 10) (u1.1 11) (u1.1 12) u1.2 (u2.1 0) M0 M0 M0 M0 M0 M0 M0 M0 L0 false false M0 M0 M0 MS0 M0 (fun _ => M0) MM0 L0)) (congrArg cat (lW_eq ct u1 (u2.1 0))) ?_
  refine j_astore_n X [1, 2, 0] [(0, .ref b), (1, .ref (u1.1 0 0)), (2, .ref (u2.1 0 0))] dL_law_15 rfl (by decide) rfl ?_
  refine j_iconst X 0 dL_law_16 rfl ?_
  refine j_istore_n X [1, 2, 3, 0] (lvL b (u1.1 0 0) (u2.1 0 0) (nI 0)) dL_law_17 rfl (by decide) rfl ?_
  exact lw_loop X ⟨Nat.le_of_ble_eq_true rfl, Nat.le_of_ble_eq_true rfl⟩ hX hbl hbA hL (u1.1 0) (u1.1 1) (u1.1 2) (u1.1 3) (u1.1 4) (u1.1 5) (u1.1 6) (u1.1 7) (u1.1 8) (u1.1 9) (u1.1 10) (u1.1 11) (u1.1 12) u1.2 (u2.1 0) (fun i X0 T C H R DR RE P LP wP vP Y N NE S E0 Ks M LM _ => E _ _ _ _) 513 0 M0 M0 M0 M0 M0 M0 M0 M0 L0 false false M0 M0 M0 MS0 M0 (fun _ => M0) MM0 L0 (by omega) (by decide) Rel_start
set_option maxHeartbeats 4000000 in
theorem lw_J1 {p : Program} {l : Launch} {e : Env} {s : State} {m : MethodId} {args : Array Value} {below : List Frame} {meth : Method} {c : Code} {D : va_G} {ct : im_ct} {A : Nat → Prop} {Z : State → Prop} {b L : Nat} {xs : Nat → Int32} (X : im_X p room_1 s m args meth c D ct A RL cL_law 4 (some .boolean)) (hX : va_X b L xs s s.heap) (hbl : b < s.heap.size) (hbA : ¬ A b) (hao : va_AO aoC s) (hL : L ≤ 3072) (E : ∀ (x y : Nat) (i : Int32) (ws : va_W), Jm p l e room_1 s m args below meth c D A 4 Z 156 24808 1854 (lvL b x y i) [] ws) : Jm p l e room_1 s m args below meth c D A 4 Z 0 0 0 [(0, .ref b)] [] (cat []) := by
  refine j_cnew X nw_X9 cn_L_7 ⟨Nat.le_of_ble_eq_true rfl, Nat.le_of_ble_eq_true rfl⟩ dL_law_0 (fun q1 => ?_)
  refine j_dup X rfl dL_law_3 ?_
  refine j_init X hao [] [.ref q1] [] [[(q1, .inr (9, [.null, .null, .null, .null, .null, .null, .null, .null, .null]))]] _ ci_L_9 (k_X9' l D ct q1) rfl rfl ⟨by decide, by decide⟩ (Nat.le_of_ble_eq_true rfl) rfl rfl ⟨Nat.le_of_ble_eq_true rfl, Nat.le_of_ble_eq_true rfl⟩ dL_law_4 (fun u1 hu1 => ?_)
  subst hu1
  refine j_ws (cat (lW9 ct u1)) rfl ?_
  refine j_astore_n X [1, 0] [(0, .ref b), (1, .ref (u1.1 0 0))] dL_law_7 rfl (by decide) rfl ?_
  exact lw_J2 X hX hbl hbA hao hL E u1
