/-! THE LAW: its loop -/
def lw_tgt : List Nat := [260, 323, 346, 359, 382, 395, 418, 487, 546, 599, 612, 671, 694, 727, 750, 773, 816, 839, 852, 905, 928, 941, 954, 987, 1010, 1033, 1066, 1099, 1122, 1185, 1218, 1251, 1264, 1298, 1341, 1374, 1397, 1440, 1493, 1526, 1569, 1592, 1605, 1638, 1651, 1664, 1697, 1710, 1733, 1746, 1769, 1792, 1825]
theorem lw_offs : ∀ n : Fin 53, (#[227, 290, 313, 326, 349, 362, 385, 454, 513, 566, 579, 638, 661, 694, 717, 740, 783, 806, 819, 872, 895, 908, 921, 954, 977, 1000, 1033, 1066, 1089, 1152, 1185, 1218, 1231, 1265, 1308, 1341, 1364, 1407, 1460, 1493, 1536, 1559, 1572, 1605, 1618, 1631, 1664, 1677, 1700, 1713, 1736, 1759, 1792] : Array Int)[n.1]? = some ((lw_tgt.getD n.1 0 : Int) - 33) := by decide +kernel
theorem lw_case {p : Program} {l : Launch} {e : Env} {s : State} {m : MethodId} {args : Array Value} {below : List Frame} {meth : Method} {c : Code} {D : va_G} {ct : im_ct} {A : Nat → Prop} {Z : State → Prop} {ce sl b L : Nat} {xs : Nat → Int32} {i : Int32} (X : im_X p room_1 s m args meth c D ct A RL cL_law 4 (some .boolean)) (hroom : ce ≤ room_1.cells ∧ sl ≤ room_1.slots) (hX : va_X b L xs s s.heap) (hbl : b < s.heap.size) (hbA : ¬ A b) (h1 : vp_in (i + 1) L) (h2 : vp_in (i + 2) L) (h3 : vp_in (i + 3) L) (h4 : vp_in (i + 4) L) (h5 : vp_in (i + 5) L) (aX0 aT aC aH aR aDR aRE aP aY aN aNE aS aE : Nat → Nat) (kk : Nat → Nat → Nat) (aM : Nat → Nat) (K : ∀ (X0 : Mem) (T : Mem) (C : Mem) (H : Mem) (R : Mem) (DR : Mem) (RE : Mem) (P : Mem) (LP : MemL) (wP : Bool) (vP : Bool) (Y : Mem) (N : Mem) (NE : Mem) (S : Mem) (E : Mem) (Ks : (Nat → Mem)) (M : Mem) (LM : MemL), Rel M T C H Y N S Ks wP vP → Jm p l e room_1 s m args below meth c D A 4 Z ce sl 1848 (lvL b (aX0 0) (aM 0) i) [] (cat (lW ct aX0 aT aC aH aR aDR aRE aP aY aN aNE aS aE kk aM X0 T C H R DR RE P LP wP vP Y N NE S E Ks M LM))) (n : Nat) (hn : n < 53) (X0 : Mem) (T : Mem) (C : Mem) (H : Mem) (R : Mem) (DR : Mem) (RE : Mem) (P : Mem) (LP : MemL) (wP : Bool) (vP : Bool) (Y : Mem) (N : Mem) (NE : Mem) (S : Mem) (E : Mem) (Ks : (Nat → Mem)) (M : Mem) (LM : MemL) (hRel : Rel M T C H Y N S Ks wP vP) : Jm p l e room_1 s m args below meth c D A 4 Z ce sl (lw_tgt.getD n 0) (lvL b (aX0 0) (aM 0) i) [] (cat (lW ct aX0 aT aC aH aR aDR aRE aP aY aN aNE aS aE kk aM X0 T C H R DR RE P LP wP vP Y N NE S E Ks M LM)) := by
  match n, hn with
  | 0, _ => exact lc_0 X hroom hX hbl hbA h1 h2 h3 h4 h5 aX0 aT aC aH aR aDR aRE aP aY aN aNE aS aE kk aM K X0 T C H R DR RE P LP wP vP Y N NE S E Ks M LM hRel
  | 1, _ => exact lc_1 X hroom hX hbl hbA h1 h2 h3 h4 h5 aX0 aT aC aH aR aDR aRE aP aY aN aNE aS aE kk aM K X0 T C H R DR RE P LP wP vP Y N NE S E Ks M LM hRel
  | 2, _ => exact lc_2 X hroom hX hbl hbA h1 h2 h3 h4 h5 aX0 aT aC aH aR aDR aRE aP aY aN aNE aS aE kk aM K X0 T C H R DR RE P LP wP vP Y N NE S E Ks M LM hRel
  | 3, _ => exact lc_3 X hroom hX hbl hbA h1 h2 h3 h4 h5 aX0 aT aC aH aR aDR aRE aP aY aN aNE aS aE kk aM K X0 T C H R DR RE P LP wP vP Y N NE S E Ks M LM hRel
  | 4, _ => exact lc_4 X hroom hX hbl hbA h1 h2 h3 h4 h5 aX0 aT aC aH aR aDR aRE aP aY aN aNE aS aE kk aM K X0 T C H R DR RE P LP wP vP Y N NE S E Ks M LM hRel
  | 5, _ => exact lc_5 X hroom hX hbl hbA h1 h2 h3 h4 h5 aX0 aT aC aH aR aDR aRE aP aY aN aNE aS aE kk aM K X0 T C H R DR RE P LP wP vP Y N NE S E Ks M LM hRel
  | 6, _ => exact lc_6 X hroom hX hbl hbA h1 h2 h3 h4 h5 aX0 aT aC aH aR aDR aRE aP aY aN aNE aS aE kk aM K X0 T C H R DR RE P LP wP vP Y N NE S E Ks M LM hRel
  | 7, _ => exact lc_7 X hroom hX hbl hbA h1 h2 h3 h4 h5 aX0 aT aC aH aR aDR aRE aP aY aN aNE aS aE kk aM K X0 T C H R DR RE P LP wP vP Y N NE S E Ks M LM hRel
  | 8, _ => exact lc_8 X hroom hX hbl hbA h1 h2 h3 h4 h5 aX0 aT aC aH aR aDR aRE aP aY aN aNE aS aE kk aM K X0 T C H R DR RE P LP wP vP Y N NE S E Ks M LM hRel
  | 9, _ => exact lc_9 X hroom hX hbl hbA h1 h2 h3 h4 h5 aX0 aT aC aH aR aDR aRE aP aY aN aNE aS aE kk aM K X0 T C H R DR RE P LP wP vP Y N NE S E Ks M LM hRel
  | 10, _ => exact lc_10 X hroom hX hbl hbA h1 h2 h3 h4 h5 aX0 aT aC aH aR aDR aRE aP aY aN aNE aS aE kk aM K X0 T C H R DR RE P LP wP vP Y N NE S E Ks M LM hRel
  | 11, _ => exact lc_11 X hroom hX hbl hbA h1 h2 h3 h4 h5 aX0 aT aC aH aR aDR aRE aP aY aN aNE aS aE kk aM K X0 T C H R DR RE P LP wP vP Y N NE S E Ks M LM hRel
  | 12, _ => exact lc_12 X hroom hX hbl hbA h1 h2 h3 h4 h5 aX0 aT aC aH aR aDR aRE aP aY aN aNE aS aE kk aM K X0 T C H R DR RE P LP wP vP Y N NE S E Ks M LM hRel
  | 13, _ => exact lc_13 X hroom hX hbl hbA h1 h2 h3 h4 h5 aX0 aT aC aH aR aDR aRE aP aY aN aNE aS aE kk aM K X0 T C H R DR RE P LP wP vP Y N NE S E Ks M LM hRel
  | 14, _ => exact lc_14 X hroom hX hbl hbA h1 h2 h3 h4 h5 aX0 aT aC aH aR aDR aRE aP aY aN aNE aS aE kk aM K X0 T C H R DR RE P LP wP vP Y N NE S E Ks M LM hRel
  | 15, _ => exact lc_15 X hroom hX hbl hbA h1 h2 h3 h4 h5 aX0 aT aC aH aR aDR aRE aP aY aN aNE aS aE kk aM K X0 T C H R DR RE P LP wP vP Y N NE S E Ks M LM hRel
  | 16, _ => exact lc_16 X hroom hX hbl hbA h1 h2 h3 h4 h5 aX0 aT aC aH aR aDR aRE aP aY aN aNE aS aE kk aM K X0 T C H R DR RE P LP wP vP Y N NE S E Ks M LM hRel
  | 17, _ => exact lc_17 X hroom hX hbl hbA h1 h2 h3 h4 h5 aX0 aT aC aH aR aDR aRE aP aY aN aNE aS aE kk aM K X0 T C H R DR RE P LP wP vP Y N NE S E Ks M LM hRel
  | 18, _ => exact lc_18 X hroom hX hbl hbA h1 h2 h3 h4 h5 aX0 aT aC aH aR aDR aRE aP aY aN aNE aS aE kk aM K X0 T C H R DR RE P LP wP vP Y N NE S E Ks M LM hRel
  | 19, _ => exact lc_19 X hroom hX hbl hbA h1 h2 h3 h4 h5 aX0 aT aC aH aR aDR aRE aP aY aN aNE aS aE kk aM K X0 T C H R DR RE P LP wP vP Y N NE S E Ks M LM hRel
  | 20, _ => exact lc_20 X hroom hX hbl hbA h1 h2 h3 h4 h5 aX0 aT aC aH aR aDR aRE aP aY aN aNE aS aE kk aM K X0 T C H R DR RE P LP wP vP Y N NE S E Ks M LM hRel
  | 21, _ => exact lc_21 X hroom hX hbl hbA h1 h2 h3 h4 h5 aX0 aT aC aH aR aDR aRE aP aY aN aNE aS aE kk aM K X0 T C H R DR RE P LP wP vP Y N NE S E Ks M LM hRel
  | 22, _ => exact lc_22 X hroom hX hbl hbA h1 h2 h3 h4 h5 aX0 aT aC aH aR aDR aRE aP aY aN aNE aS aE kk aM K X0 T C H R DR RE P LP wP vP Y N NE S E Ks M LM hRel
  | 23, _ => exact lc_23 X hroom hX hbl hbA h1 h2 h3 h4 h5 aX0 aT aC aH aR aDR aRE aP aY aN aNE aS aE kk aM K X0 T C H R DR RE P LP wP vP Y N NE S E Ks M LM hRel
  | 24, _ => exact lc_24 X hroom hX hbl hbA h1 h2 h3 h4 h5 aX0 aT aC aH aR aDR aRE aP aY aN aNE aS aE kk aM K X0 T C H R DR RE P LP wP vP Y N NE S E Ks M LM hRel
  | 25, _ => exact lc_25 X hroom hX hbl hbA h1 h2 h3 h4 h5 aX0 aT aC aH aR aDR aRE aP aY aN aNE aS aE kk aM K X0 T C H R DR RE P LP wP vP Y N NE S E Ks M LM hRel
  | 26, _ => exact lc_26 X hroom hX hbl hbA h1 h2 h3 h4 h5 aX0 aT aC aH aR aDR aRE aP aY aN aNE aS aE kk aM K X0 T C H R DR RE P LP wP vP Y N NE S E Ks M LM hRel
  | 27, _ => exact lc_27 X hroom hX hbl hbA h1 h2 h3 h4 h5 aX0 aT aC aH aR aDR aRE aP aY aN aNE aS aE kk aM K X0 T C H R DR RE P LP wP vP Y N NE S E Ks M LM hRel
  | 28, _ => exact lc_28 X hroom hX hbl hbA h1 h2 h3 h4 h5 aX0 aT aC aH aR aDR aRE aP aY aN aNE aS aE kk aM K X0 T C H R DR RE P LP wP vP Y N NE S E Ks M LM hRel
  | 29, _ => exact lc_29 X hroom hX hbl hbA h1 h2 h3 h4 h5 aX0 aT aC aH aR aDR aRE aP aY aN aNE aS aE kk aM K X0 T C H R DR RE P LP wP vP Y N NE S E Ks M LM hRel
  | 30, _ => exact lc_30 X hroom hX hbl hbA h1 h2 h3 h4 h5 aX0 aT aC aH aR aDR aRE aP aY aN aNE aS aE kk aM K X0 T C H R DR RE P LP wP vP Y N NE S E Ks M LM hRel
  | 31, _ => exact lc_31 X hroom hX hbl hbA h1 h2 h3 h4 h5 aX0 aT aC aH aR aDR aRE aP aY aN aNE aS aE kk aM K X0 T C H R DR RE P LP wP vP Y N NE S E Ks M LM hRel
  | 32, _ => exact lc_32 X hroom hX hbl hbA h1 h2 h3 h4 h5 aX0 aT aC aH aR aDR aRE aP aY aN aNE aS aE kk aM K X0 T C H R DR RE P LP wP vP Y N NE S E Ks M LM hRel
  | 33, _ => exact lc_33 X hroom hX hbl hbA h1 h2 h3 h4 h5 aX0 aT aC aH aR aDR aRE aP aY aN aNE aS aE kk aM K X0 T C H R DR RE P LP wP vP Y N NE S E Ks M LM hRel
  | 34, _ => exact lc_34 X hroom hX hbl hbA h1 h2 h3 h4 h5 aX0 aT aC aH aR aDR aRE aP aY aN aNE aS aE kk aM K X0 T C H R DR RE P LP wP vP Y N NE S E Ks M LM hRel
  | 35, _ => exact lc_35 X hroom hX hbl hbA h1 h2 h3 h4 h5 aX0 aT aC aH aR aDR aRE aP aY aN aNE aS aE kk aM K X0 T C H R DR RE P LP wP vP Y N NE S E Ks M LM hRel
  | 36, _ => exact lc_36 X hroom hX hbl hbA h1 h2 h3 h4 h5 aX0 aT aC aH aR aDR aRE aP aY aN aNE aS aE kk aM K X0 T C H R DR RE P LP wP vP Y N NE S E Ks M LM hRel
  | 37, _ => exact lc_37 X hroom hX hbl hbA h1 h2 h3 h4 h5 aX0 aT aC aH aR aDR aRE aP aY aN aNE aS aE kk aM K X0 T C H R DR RE P LP wP vP Y N NE S E Ks M LM hRel
  | 38, _ => exact lc_38 X hroom hX hbl hbA h1 h2 h3 h4 h5 aX0 aT aC aH aR aDR aRE aP aY aN aNE aS aE kk aM K X0 T C H R DR RE P LP wP vP Y N NE S E Ks M LM hRel
  | 39, _ => exact lc_39 X hroom hX hbl hbA h1 h2 h3 h4 h5 aX0 aT aC aH aR aDR aRE aP aY aN aNE aS aE kk aM K X0 T C H R DR RE P LP wP vP Y N NE S E Ks M LM hRel
  | 40, _ => exact lc_40 X hroom hX hbl hbA h1 h2 h3 h4 h5 aX0 aT aC aH aR aDR aRE aP aY aN aNE aS aE kk aM K X0 T C H R DR RE P LP wP vP Y N NE S E Ks M LM hRel
  | 41, _ => exact lc_41 X hroom hX hbl hbA h1 h2 h3 h4 h5 aX0 aT aC aH aR aDR aRE aP aY aN aNE aS aE kk aM K X0 T C H R DR RE P LP wP vP Y N NE S E Ks M LM hRel
  | 42, _ => exact lc_42 X hroom hX hbl hbA h1 h2 h3 h4 h5 aX0 aT aC aH aR aDR aRE aP aY aN aNE aS aE kk aM K X0 T C H R DR RE P LP wP vP Y N NE S E Ks M LM hRel
  | 43, _ => exact lc_43 X hroom hX hbl hbA h1 h2 h3 h4 h5 aX0 aT aC aH aR aDR aRE aP aY aN aNE aS aE kk aM K X0 T C H R DR RE P LP wP vP Y N NE S E Ks M LM hRel
  | 44, _ => exact lc_44 X hroom hX hbl hbA h1 h2 h3 h4 h5 aX0 aT aC aH aR aDR aRE aP aY aN aNE aS aE kk aM K X0 T C H R DR RE P LP wP vP Y N NE S E Ks M LM hRel
  | 45, _ => exact lc_45 X hroom hX hbl hbA h1 h2 h3 h4 h5 aX0 aT aC aH aR aDR aRE aP aY aN aNE aS aE kk aM K X0 T C H R DR RE P LP wP vP Y N NE S E Ks M LM hRel
  | 46, _ => exact lc_46 X hroom hX hbl hbA h1 h2 h3 h4 h5 aX0 aT aC aH aR aDR aRE aP aY aN aNE aS aE kk aM K X0 T C H R DR RE P LP wP vP Y N NE S E Ks M LM hRel
  | 47, _ => exact lc_47 X hroom hX hbl hbA h1 h2 h3 h4 h5 aX0 aT aC aH aR aDR aRE aP aY aN aNE aS aE kk aM K X0 T C H R DR RE P LP wP vP Y N NE S E Ks M LM hRel
  | 48, _ => exact lc_48 X hroom hX hbl hbA h1 h2 h3 h4 h5 aX0 aT aC aH aR aDR aRE aP aY aN aNE aS aE kk aM K X0 T C H R DR RE P LP wP vP Y N NE S E Ks M LM hRel
  | 49, _ => exact lc_49 X hroom hX hbl hbA h1 h2 h3 h4 h5 aX0 aT aC aH aR aDR aRE aP aY aN aNE aS aE kk aM K X0 T C H R DR RE P LP wP vP Y N NE S E Ks M LM hRel
  | 50, _ => exact lc_50 X hroom hX hbl hbA h1 h2 h3 h4 h5 aX0 aT aC aH aR aDR aRE aP aY aN aNE aS aE kk aM K X0 T C H R DR RE P LP wP vP Y N NE S E Ks M LM hRel
  | 51, _ => exact lc_51 X hroom hX hbl hbA h1 h2 h3 h4 h5 aX0 aT aC aH aR aDR aRE aP aY aN aNE aS aE kk aM K X0 T C H R DR RE P LP wP vP Y N NE S E Ks M LM hRel
  | 52, _ => exact lc_52 X hroom hX hbl hbA h1 h2 h3 h4 h5 aX0 aT aC aH aR aDR aRE aP aY aN aNE aS aE kk aM K X0 T C H R DR RE P LP wP vP Y N NE S E Ks M LM hRel
  | n + 53, h => exact absurd h (by omega)
theorem lw_in {L j : Nat} (hL : L ≤ 3072) (hj : j ≤ 3078) (h : ¬ nI L - 6 < nI j) : j + 6 ≤ L := by
  rcases Nat.lt_or_ge L (j + 6) with q | q
  · refine absurd ?_ h
    simp (disch := omega) only [l_0, l_1, l_2, l_3, l_4, l_5, l_6, l_7, l_8, l_9, l_10, l_12, l_20, l_24, l_25, l_31, l_32, l_48, l_50, l_56, l_57, l_59, l_97, l_99, l_100, l_120, l_122, l_177, l_178, l_201, l_226, l_255, l_400, l_420, l_600, l_700, l_840, l_1000, l_1300, l_2000, l_1000000, nI_add, mr4, ml4, mr5, ml5, mr6, ml6, mr10, ml10, mr24, ml24, mr201, ml201, mr420, ml420, mr226, ml226, mr2, ml2, nI_clamp, lt_T, lt_F, le_T, le_F, eq_T, eq_F, ck_n, dv_n, cp_n, rem_n, pk_div, at1_same, at1_ne, cb_n, Option.bind_some, if_pos, if_neg, ↓reduceIte, and_self, and_true, true_and, and_false, false_and, not_true_eq_false, not_false_eq_true, nn_sub, zz_add, zz_sub, zz_mul, zn_add, nz_add, zn_sub, nz_sub, zn_mul, nz_mul, z_neg, n_neg, zlt_T, zlt_F, zle_T, zle_F, zeq_T, zeq_F, zn_lt, nz_lt, zn_le, nz_le, zn_eq, nz_eq]
  · exact q
set_option maxHeartbeats 4000000 in
theorem lw_loop {p : Program} {l : Launch} {e : Env} {s : State} {m : MethodId} {args : Array Value} {below : List Frame} {meth : Method} {c : Code} {D : va_G} {ct : im_ct} {A : Nat → Prop} {Z : State → Prop} {ce sl b L : Nat} {xs : Nat → Int32} (X : im_X p room_1 s m args meth c D ct A RL cL_law 4 (some .boolean)) (hroom : ce ≤ room_1.cells ∧ sl ≤ room_1.slots) (hX : va_X b L xs s s.heap) (hbl : b < s.heap.size) (hbA : ¬ A b) (hL : L ≤ 3072) (aX0 aT aC aH aR aDR aRE aP aY aN aNE aS aE : Nat → Nat) (kk : Nat → Nat → Nat) (aM : Nat → Nat) (E : ∀ (i : Int32) (X0 : Mem) (T : Mem) (C : Mem) (H : Mem) (R : Mem) (DR : Mem) (RE : Mem) (P : Mem) (LP : MemL) (wP : Bool) (vP : Bool) (Y : Mem) (N : Mem) (NE : Mem) (S : Mem) (E0 : Mem) (Ks : (Nat → Mem)) (M : Mem) (LM : MemL), Rel M T C H Y N S Ks wP vP → Jm p l e room_1 s m args below meth c D A 4 Z ce sl 1854 (lvL b (aX0 0) (aM 0) i) [] (cat (lW ct aX0 aT aC aH aR aDR aRE aP aY aN aNE aS aE kk aM X0 T C H R DR RE P LP wP vP Y N NE S E0 Ks M LM))) : ∀ (d j : Nat) (X0 : Mem) (T : Mem) (C : Mem) (H : Mem) (R : Mem) (DR : Mem) (RE : Mem) (P : Mem) (LP : MemL) (wP : Bool) (vP : Bool) (Y : Mem) (N : Mem) (NE : Mem) (S : Mem) (E0 : Mem) (Ks : (Nat → Mem)) (M : Mem) (LM : MemL), L < j + 6 * d → j ≤ 3078 → Rel M T C H Y N S Ks wP vP → Jm p l e room_1 s m args below meth c D A 4 Z ce sl 18 (lvL b (aX0 0) (aM 0) (nI j)) [] (cat (lW ct aX0 aT aC aH aR aDR aRE aP aY aN aNE aS aE kk aM X0 T C H R DR RE P LP wP vP Y N NE S E0 Ks M LM)) := by
  intro d
  induction d with
  | zero =>
    intro j X0 T C H R DR RE P LP wP vP Y N NE S E0 Ks M LM hd hj hRel
    refine j_iload_n X 3 dL_law_18 rfl rfl (j_aload_n X 0 dL_law_19 rfl rfl (j_slen X hX hbl hbA dL_law_20 (j_bipush X 6 dL_law_21 rfl (j_isub X dL_law_23 (j_icmp_gt X dL_law_24 rfl (fun _ => E _ X0 T C H R DR RE P LP wP vP Y N NE S E0 Ks M LM hRel) (fun q => ?_))))))
    have := lw_in hL hj q
    omega
  | succ d ih =>
    intro j X0 T C H R DR RE P LP wP vP Y N NE S E0 Ks M LM hd hj hRel
    refine j_iload_n X 3 dL_law_18 rfl rfl (j_aload_n X 0 dL_law_19 rfl rfl (j_slen X hX hbl hbA dL_law_20 (j_bipush X 6 dL_law_21 rfl (j_isub X dL_law_23 (j_icmp_gt X dL_law_24 rfl (fun _ => E _ X0 T C H R DR RE P LP wP vP Y N NE S E0 Ks M LM hRel) (fun q => ?_))))))
    have hj6 := lw_in hL hj q
    have hin : ∀ k, k ≤ 5 → vp_in (nI j + nI k) L := fun k hk => by
      rw [nI_add]
      exact vp_in_nI (by omega) (by omega)
    have K : ∀ (X0 : Mem) (T : Mem) (C : Mem) (H : Mem) (R : Mem) (DR : Mem) (RE : Mem) (P : Mem) (LP : MemL) (wP : Bool) (vP : Bool) (Y : Mem) (N : Mem) (NE : Mem) (S : Mem) (E0 : Mem) (Ks : (Nat → Mem)) (M : Mem) (LM : MemL), Rel M T C H Y N S Ks wP vP → Jm p l e room_1 s m args below meth c D A 4 Z ce sl 1848 (lvL b (aX0 0) (aM 0) (nI j)) [] (cat (lW ct aX0 aT aC aH aR aDR aRE aP aY aN aNE aS aE kk aM X0 T C H R DR RE P LP wP vP Y N NE S E0 Ks M LM)) := fun X0 T C H R DR RE P LP wP vP Y N NE S E0 Ks M LM hR2 => by
      refine j_iinc X 3 6 [1, 2, 3, 0] (lvL b (aX0 0) (aM 0) (nI j + nI 6)) dL_law_1848 rfl rfl (by decide) rfl (j_goto X dL_law_1851 rfl ?_)
      rw [nI_add]
      exact ih (j + 6) X0 T C H R DR RE P LP wP vP Y N NE S E0 Ks M LM (by omega) (by omega) hR2
    refine j_aload_n X 0 dL_law_27 rfl rfl (j_iload_n X 3 dL_law_28 rfl rfl (j_sld X hX hbl hbA (vp_in_nI (by omega) (by omega)) dL_law_29 (j_bipush X 63 dL_law_30 rfl (j_iand X dL_law_32 ?_))))
    generalize xs (nI j).toNatClampNeg &&& 63 = w
    by_cases g1 : w.toInt < 0
    · exact j_tabOut X dL_law_33 (Or.inl g1) rfl (K X0 T C H R DR RE P LP wP vP Y N NE S E0 Ks M LM hRel)
    by_cases g2 : 52 < w.toInt
    · exact j_tabOut X dL_law_33 (Or.inr g2) rfl (K X0 T C H R DR RE P LP wP vP Y N NE S E0 Ks M LM hRel)
    obtain ⟨n, hn⟩ : ∃ n : Nat, w.toInt = (n : Int) := ⟨w.toInt.toNat, by omega⟩
    have hn53 : n < 53 := by omega
    refine j_tabIn (tgt := lw_tgt.getD n 0) X dL_law_33 g1 g2 (off := ((lw_tgt.getD n 0 : Nat) : Int) - 33) ?_ ?_ (lw_case X hroom hX hbl hbA (hin 1 (by decide)) (hin 2 (by decide)) (hin 3 (by decide)) (hin 4 (by decide)) (hin 5 (by decide)) aX0 aT aC aH aR aDR aRE aP aY aN aNE aS aE kk aM K n hn53 X0 T C H R DR RE P LP wP vP Y N NE S E0 Ks M LM hRel)
    · rw [hn, show ((n : Int) - 0).toNat = n by omega]
      exact lw_offs ⟨n, hn53⟩
    · omega
