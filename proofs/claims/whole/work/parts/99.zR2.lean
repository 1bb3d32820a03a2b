/-! THE LAW: what one row of the script does -/
set_option maxRecDepth 100000 in
set_option maxHeartbeats 4000000 in
theorem lc_28 {p : Program} {l : Launch} {e : Env} {s : State} {m : MethodId} {args : Array Value} {below : List Frame} {meth : Method} {c : Code} {D : va_G} {ct : im_ct} {A : Nat → Prop} {Z : State → Prop} {ce sl b L : Nat} {xs : Nat → Int32} {i : Int32} (X : im_X p room_1 s m args meth c D ct A RL cL_law 4 (some .boolean)) (hroom : ce ≤ room_1.cells ∧ sl ≤ room_1.slots) (hX : va_X b L xs s s.heap) (hbl : b < s.heap.size) (hbA : ¬ A b) (h1 : vp_in (i + 1) L) (h2 : vp_in (i + 2) L) (h3 : vp_in (i + 3) L) (h4 : vp_in (i + 4) L) (h5 : vp_in (i + 5) L) (aX0 aT aC aH aR aDR aRE aP aY aN aNE aS aE : Nat → Nat) (kk : Nat → Nat → Nat) (aM : Nat → Nat) (K : ∀ (X0 : Mem) (T : Mem) (C : Mem) (H : Mem) (R : Mem) (DR : Mem) (RE : Mem) (P : Mem) (LP : MemL) (wP : Bool) (vP : Bool) (Y : Mem) (N : Mem) (NE : Mem) (S : Mem) (E : Mem) (Ks : (Nat → Mem)) (M : Mem) (LM : MemL), Rel M T C H Y N S Ks wP vP → Jm p l e room_1 s m args below meth c D A 4 Z ce sl 1848 (lvL b (aX0 0) (aM 0) i) [] (cat (lW ct aX0 aT aC aH aR aDR aRE aP aY aN aNE aS aE kk aM X0 T C H R DR RE P LP wP vP Y N NE S E Ks M LM))) (X0 : Mem) (T : Mem) (C : Mem) (H : Mem) (R : Mem) (DR : Mem) (RE : Mem) (P : Mem) (LP : MemL) (wP : Bool) (vP : Bool) (Y : Mem) (N : Mem) (NE : Mem) (S : Mem) (E : Mem) (Ks : (Nat → Mem)) (M : Mem) (LM : MemL) (hRel : Rel M T C H Y N S Ks wP vP) : Jm p l e room_1 s m args below meth c D A 4 Z ce sl 1122 (lvL b (aX0 0) (aM 0) i) [] (cat (lW ct aX0 aT aC aH aR aDR aRE aP aY aN aNE aS aE kk aM X0 T C H R DR RE P LP wP vP Y N NE S E Ks M LM)) := by
  obtain ⟨σ, a, h, ra, hN, hY, hS, hw⟩ := hRel
  obtain ⟨v, E', M', e1, e2, hp⟩ := m_can (X0 := X0) (LM := LM) (E := E) ra.1 ra.2.1 ra.2.2.1 (F := 10000) (by decide) (xa xs i 1) (xa xs i 2) (xa xs i 3) (xa xs i 4) (xa xs i 5)
  refine j_aload_n X 1 dL_law_1122 rfl rfl ?_
  refine j_arg X hX hbl hbA 1 h1 dL_law_1123 dL_law_1124 dL_law_1125 dL_law_1126 dL_law_1127 rfl ?_
  refine j_arg X hX hbl hbA 2 h2 dL_law_1128 dL_law_1129 dL_law_1130 dL_law_1131 dL_law_1132 rfl ?_
  refine j_arg X hX hbl hbA 3 h3 dL_law_1133 dL_law_1134 dL_law_1135 dL_law_1136 dL_law_1137 rfl ?_
  refine j_arg X hX hbl hbA 4 h4 dL_law_1138 dL_law_1139 dL_law_1140 dL_law_1141 dL_law_1142 rfl ?_
  refine j_arg X hX hbl hbA 5 h5 dL_law_1143 dL_law_1144 dL_law_1145 dL_law_1146 dL_law_1147 rfl ?_
  refine j_cci X [.int (xa xs i 1), .int (xa xs i 2), .int (xa xs i 3), .int (xa xs i 4), .int (xa xs i 5)] [] (lW ct aX0 aT aC aH aR aDR aRE aP aY aN aNE aS aE kk aM X0 T C H R DR RE P LP wP vP Y N NE S E Ks M LM) [w_X ct aX0 aT aC aH aR aP aY aN aS aE X0, w_Cloth ct aC C, w_Effect ct aE E] [0, 2, 12] (fun z => [w_X ct aX0 aT aC aH aR aP aY aN aS aE X0, w_Cloth ct aC C, w_Effect ct aE z.2]) 0 0 9 (v, E') e1 rfl rfl rfl cl_L_134 (c_X9_can l D ct 10000 aX0 aT aC aH aR aDR aRE aP aY aN aNE aS aE kk X0 C E (xa xs i 1) (xa xs i 2) (xa xs i 3) (xa xs i 4) (xa xs i 5)) rfl (by decide) (lc rfl (lc rfl (lc fa_Effect (rfl)))) rfl ⟨by decide, by decide⟩ (Nat.le_of_ble_eq_true rfl) rfl dL_law_1148 hroom ?_
  refine j_ws (cat (lW ct aX0 aT aC aH aR aDR aRE aP aY aN aNE aS aE kk aM X0 T C H R DR RE P LP wP vP Y N NE S E' Ks M LM)) rfl ?_
  refine j_aload_n X 2 dL_law_1151 rfl rfl ?_
  refine j_arg X hX hbl hbA 1 h1 dL_law_1152 dL_law_1153 dL_law_1154 dL_law_1155 dL_law_1156 rfl ?_
  refine j_arg X hX hbl hbA 2 h2 dL_law_1157 dL_law_1158 dL_law_1159 dL_law_1160 dL_law_1161 rfl ?_
  refine j_arg X hX hbl hbA 3 h3 dL_law_1162 dL_law_1163 dL_law_1164 dL_law_1165 dL_law_1166 rfl ?_
  refine j_arg X hX hbl hbA 4 h4 dL_law_1167 dL_law_1168 dL_law_1169 dL_law_1170 dL_law_1171 rfl ?_
  refine j_arg X hX hbl hbA 5 h5 dL_law_1172 dL_law_1173 dL_law_1174 dL_law_1175 dL_law_1176 rfl ?_
  refine j_cci X [.int (xa xs i 1), .int (xa xs i 2), .int (xa xs i 3), .int (xa xs i 4), .int (xa xs i 5)] [.int v] (lW ct aX0 aT aC aH aR aDR aRE aP aY aN aNE aS aE kk aM X0 T C H R DR RE P LP wP vP Y N NE S E' Ks M LM) [w_Model ct aM M LM] [25] (fun z => [w_Model ct aM z.2 LM]) 25 0 10 (v, M') e2 rfl rfl rfl cl_L_137 (c_X10_can l D ct 10000 aM M LM (xa xs i 1) (xa xs i 2) (xa xs i 3) (xa xs i 4) (xa xs i 5)) rfl (by decide) (lc fa_Model (rfl)) rfl ⟨by decide, by decide⟩ (Nat.le_of_ble_eq_true rfl) rfl dL_law_1177 hroom ?_
  refine j_ws (cat (lW ct aX0 aT aC aH aR aDR aRE aP aY aN aNE aS aE kk aM X0 T C H R DR RE P LP wP vP Y N NE S E' Ks M' LM)) rfl ?_
  refine j_icmp_eq X (x := v) dL_law_1180 rfl ?_
  refine K X0 T C H R DR RE P LP wP vP Y N NE S E' Ks M' LM ?_
  exact Rel_pm ra hN hY hS hw hp

set_option maxRecDepth 100000 in
set_option maxHeartbeats 4000000 in
theorem lc_29 {p : Program} {l : Launch} {e : Env} {s : State} {m : MethodId} {args : Array Value} {below : List Frame} {meth : Method} {c : Code} {D : va_G} {ct : im_ct} {A : Nat → Prop} {Z : State → Prop} {ce sl b L : Nat} {xs : Nat → Int32} {i : Int32} (X : im_X p room_1 s m args meth c D ct A RL cL_law 4 (some .boolean)) (hroom : ce ≤ room_1.cells ∧ sl ≤ room_1.slots) (hX : va_X b L xs s s.heap) (hbl : b < s.heap.size) (hbA : ¬ A b) (h1 : vp_in (i + 1) L) (h2 : vp_in (i + 2) L) (h3 : vp_in (i + 3) L) (h4 : vp_in (i + 4) L) (h5 : vp_in (i + 5) L) (aX0 aT aC aH aR aDR aRE aP aY aN aNE aS aE : Nat → Nat) (kk : Nat → Nat → Nat) (aM : Nat → Nat) (K : ∀ (X0 : Mem) (T : Mem) (C : Mem) (H : Mem) (R : Mem) (DR : Mem) (RE : Mem) (P : Mem) (LP : MemL) (wP : Bool) (vP : Bool) (Y : Mem) (N : Mem) (NE : Mem) (S : Mem) (E : Mem) (Ks : (Nat → Mem)) (M : Mem) (LM : MemL), Rel M T C H Y N S Ks wP vP → Jm p l e room_1 s m args below meth c D A 4 Z ce sl 1848 (lvL b (aX0 0) (aM 0) i) [] (cat (lW ct aX0 aT aC aH aR aDR aRE aP aY aN aNE aS aE kk aM X0 T C H R DR RE P LP wP vP Y N NE S E Ks M LM))) (X0 : Mem) (T : Mem) (C : Mem) (H : Mem) (R : Mem) (DR : Mem) (RE : Mem) (P : Mem) (LP : MemL) (wP : Bool) (vP : Bool) (Y : Mem) (N : Mem) (NE : Mem) (S : Mem) (E : Mem) (Ks : (Nat → Mem)) (M : Mem) (LM : MemL) (hRel : Rel M T C H Y N S Ks wP vP) : Jm p l e room_1 s m args below meth c D A 4 Z ce sl 1185 (lvL b (aX0 0) (aM 0) i) [] (cat (lW ct aX0 aT aC aH aR aDR aRE aP aY aN aNE aS aE kk aM X0 T C H R DR RE P LP wP vP Y N NE S E Ks M LM)) := by
  obtain ⟨σ, a, h, ra, hN, hY, hS, hw⟩ := hRel
  obtain ⟨v, e1, e2⟩ := m_compare (X0 := X0) (LM := LM) ra.1 ra.2.1 ra.2.2.1 (F := 10000) (by decide) (xa xs i 1) (xa xs i 2)
  refine j_aload_n X 1 dL_law_1185 rfl rfl ?_
  refine j_arg X hX hbl hbA 1 h1 dL_law_1186 dL_law_1187 dL_law_1188 dL_law_1189 dL_law_1190 rfl ?_
  refine j_arg X hX hbl hbA 2 h2 dL_law_1191 dL_law_1192 dL_law_1193 dL_law_1194 dL_law_1195 rfl ?_
  refine j_cci X [.int (xa xs i 1), .int (xa xs i 2)] [] (lW ct aX0 aT aC aH aR aDR aRE aP aY aN aNE aS aE kk aM X0 T C H R DR RE P LP wP vP Y N NE S E Ks M LM) [w_X ct aX0 aT aC aH aR aP aY aN aS aE X0, w_Cloth ct aC C] [0, 2] (fun z => [w_X ct aX0 aT aC aH aR aP aY aN aS aE X0, w_Cloth ct aC C]) 0 0 9 v e1 rfl rfl rfl cl_L_138 (c_X9_compare l D ct 10000 aX0 aT aC aH aR aDR aRE aP aY aN aNE aS aE kk X0 C (xa xs i 1) (xa xs i 2)) rfl (by decide) (lc rfl (lc rfl (rfl))) rfl ⟨by decide, by decide⟩ (Nat.le_of_ble_eq_true rfl) rfl dL_law_1196 hroom ?_
  refine j_ws (cat (lW ct aX0 aT aC aH aR aDR aRE aP aY aN aNE aS aE kk aM X0 T C H R DR RE P LP wP vP Y N NE S E Ks M LM)) rfl ?_
  refine j_aload_n X 2 dL_law_1199 rfl rfl ?_
  refine j_arg X hX hbl hbA 1 h1 dL_law_1200 dL_law_1201 dL_law_1202 dL_law_1203 dL_law_1204 rfl ?_
  refine j_arg X hX hbl hbA 2 h2 dL_law_1205 dL_law_1206 dL_law_1207 dL_law_1208 dL_law_1209 rfl ?_
  refine j_cci X [.int (xa xs i 1), .int (xa xs i 2)] [.int v] (lW ct aX0 aT aC aH aR aDR aRE aP aY aN aNE aS aE kk aM X0 T C H R DR RE P LP wP vP Y N NE S E Ks M LM) [w_Model ct aM M LM] [25] (fun z => [w_Model ct aM M LM]) 25 0 10 v e2 rfl rfl rfl cl_L_141 (c_X10_compare l D ct 10000 aM M LM (xa xs i 1) (xa xs i 2)) rfl (by decide) (lc rfl (rfl)) rfl ⟨by decide, by decide⟩ (Nat.le_of_ble_eq_true rfl) rfl dL_law_1210 hroom ?_
  refine j_ws (cat (lW ct aX0 aT aC aH aR aDR aRE aP aY aN aNE aS aE kk aM X0 T C H R DR RE P LP wP vP Y N NE S E Ks M LM)) rfl ?_
  refine j_icmp_eq X (x := v) dL_law_1213 rfl ?_
  refine K X0 T C H R DR RE P LP wP vP Y N NE S E Ks M LM ?_
  exact ⟨σ, a, h, ra, hN, hY, hS, hw⟩

set_option maxRecDepth 100000 in
set_option maxHeartbeats 4000000 in
theorem lc_30 {p : Program} {l : Launch} {e : Env} {s : State} {m : MethodId} {args : Array Value} {below : List Frame} {meth : Method} {c : Code} {D : va_G} {ct : im_ct} {A : Nat → Prop} {Z : State → Prop} {ce sl b L : Nat} {xs : Nat → Int32} {i : Int32} (X : im_X p room_1 s m args meth c D ct A RL cL_law 4 (some .boolean)) (hroom : ce ≤ room_1.cells ∧ sl ≤ room_1.slots) (hX : va_X b L xs s s.heap) (hbl : b < s.heap.size) (hbA : ¬ A b) (h1 : vp_in (i + 1) L) (h2 : vp_in (i + 2) L) (h3 : vp_in (i + 3) L) (h4 : vp_in (i + 4) L) (h5 : vp_in (i + 5) L) (aX0 aT aC aH aR aDR aRE aP aY aN aNE aS aE : Nat → Nat) (kk : Nat → Nat → Nat) (aM : Nat → Nat) (K : ∀ (X0 : Mem) (T : Mem) (C : Mem) (H : Mem) (R : Mem) (DR : Mem) (RE : Mem) (P : Mem) (LP : MemL) (wP : Bool) (vP : Bool) (Y : Mem) (N : Mem) (NE : Mem) (S : Mem) (E : Mem) (Ks : (Nat → Mem)) (M : Mem) (LM : MemL), Rel M T C H Y N S Ks wP vP → Jm p l e room_1 s m args below meth c D A 4 Z ce sl 1848 (lvL b (aX0 0) (aM 0) i) [] (cat (lW ct aX0 aT aC aH aR aDR aRE aP aY aN aNE aS aE kk aM X0 T C H R DR RE P LP wP vP Y N NE S E Ks M LM))) (X0 : Mem) (T : Mem) (C : Mem) (H : Mem) (R : Mem) (DR : Mem) (RE : Mem) (P : Mem) (LP : MemL) (wP : Bool) (vP : Bool) (Y : Mem) (N : Mem) (NE : Mem) (S : Mem) (E : Mem) (Ks : (Nat → Mem)) (M : Mem) (LM : MemL) (hRel : Rel M T C H Y N S Ks wP vP) : Jm p l e room_1 s m args below meth c D A 4 Z ce sl 1218 (lvL b (aX0 0) (aM 0) i) [] (cat (lW ct aX0 aT aC aH aR aDR aRE aP aY aN aNE aS aE kk aM X0 T C H R DR RE P LP wP vP Y N NE S E Ks M LM)) := by
  obtain ⟨σ, a, h, ra, hN, hY, hS, hw⟩ := hRel
  obtain ⟨v, e1, e2⟩ := m_apart (X0 := X0) (LM := LM) (LP := LP) (wP := wP) (vP := vP) (P := P) ra.1 ra.2.1 ra.2.2.1 (F := 10000) (by decide) (xa xs i 1) (xa xs i 2)
  refine j_aload_n X 1 dL_law_1218 rfl rfl ?_
  refine j_arg X hX hbl hbA 1 h1 dL_law_1219 dL_law_1220 dL_law_1221 dL_law_1222 dL_law_1223 rfl ?_
  refine j_arg X hX hbl hbA 2 h2 dL_law_1224 dL_law_1225 dL_law_1226 dL_law_1227 dL_law_1228 rfl ?_
  refine j_cci X [.int (xa xs i 1), .int (xa xs i 2)] [] (lW ct aX0 aT aC aH aR aDR aRE aP aY aN aNE aS aE kk aM X0 T C H R DR RE P LP wP vP Y N NE S E Ks M LM) [w_X ct aX0 aT aC aH aR aP aY aN aS aE X0, w_Cloth ct aC C, w_Purse ct aP P LP wP vP] [0, 2, 7] (fun z => [w_X ct aX0 aT aC aH aR aP aY aN aS aE X0, w_Cloth ct aC C, w_Purse ct aP P LP wP vP]) 0 0 9 v e1 rfl rfl rfl cl_L_142 (c_X9_apart l D ct 10000 aX0 aT aC aH aR aDR aRE aP aY aN aNE aS aE kk X0 C P LP wP vP (xa xs i 1) (xa xs i 2)) rfl (by decide) (lc rfl (lc rfl (lc rfl (rfl)))) rfl ⟨by decide, by decide⟩ (Nat.le_of_ble_eq_true rfl) rfl dL_law_1229 hroom ?_
  refine j_ws (cat (lW ct aX0 aT aC aH aR aDR aRE aP aY aN aNE aS aE kk aM X0 T C H R DR RE P LP wP vP Y N NE S E Ks M LM)) rfl ?_
  refine j_aload_n X 2 dL_law_1232 rfl rfl ?_
  refine j_arg X hX hbl hbA 1 h1 dL_law_1233 dL_law_1234 dL_law_1235 dL_law_1236 dL_law_1237 rfl ?_
  refine j_arg X hX hbl hbA 2 h2 dL_law_1238 dL_law_1239 dL_law_1240 dL_law_1241 dL_law_1242 rfl ?_
  refine j_cci X [.int (xa xs i 1), .int (xa xs i 2)] [.int v] (lW ct aX0 aT aC aH aR aDR aRE aP aY aN aNE aS aE kk aM X0 T C H R DR RE P LP wP vP Y N NE S E Ks M LM) [w_Model ct aM M LM] [25] (fun z => [w_Model ct aM M LM]) 25 0 10 v e2 rfl rfl rfl cl_L_145 (c_X10_apart l D ct 10000 aM M LM (xa xs i 1) (xa xs i 2)) rfl (by decide) (lc rfl (rfl)) rfl ⟨by decide, by decide⟩ (Nat.le_of_ble_eq_true rfl) rfl dL_law_1243 hroom ?_
  refine j_ws (cat (lW ct aX0 aT aC aH aR aDR aRE aP aY aN aNE aS aE kk aM X0 T C H R DR RE P LP wP vP Y N NE S E Ks M LM)) rfl ?_
  refine j_icmp_eq X (x := v) dL_law_1246 rfl ?_
  refine K X0 T C H R DR RE P LP wP vP Y N NE S E Ks M LM ?_
  exact ⟨σ, a, h, ra, hN, hY, hS, hw⟩

set_option maxRecDepth 100000 in
set_option maxHeartbeats 4000000 in
theorem lc_31 {p : Program} {l : Launch} {e : Env} {s : State} {m : MethodId} {args : Array Value} {below : List Frame} {meth : Method} {c : Code} {D : va_G} {ct : im_ct} {A : Nat → Prop} {Z : State → Prop} {ce sl b L : Nat} {xs : Nat → Int32} {i : Int32} (X : im_X p room_1 s m args meth c D ct A RL cL_law 4 (some .boolean)) (hroom : ce ≤ room_1.cells ∧ sl ≤ room_1.slots) (hX : va_X b L xs s s.heap) (hbl : b < s.heap.size) (hbA : ¬ A b) (h1 : vp_in (i + 1) L) (h2 : vp_in (i + 2) L) (h3 : vp_in (i + 3) L) (h4 : vp_in (i + 4) L) (h5 : vp_in (i + 5) L) (aX0 aT aC aH aR aDR aRE aP aY aN aNE aS aE : Nat → Nat) (kk : Nat → Nat → Nat) (aM : Nat → Nat) (K : ∀ (X0 : Mem) (T : Mem) (C : Mem) (H : Mem) (R : Mem) (DR : Mem) (RE : Mem) (P : Mem) (LP : MemL) (wP : Bool) (vP : Bool) (Y : Mem) (N : Mem) (NE : Mem) (S : Mem) (E : Mem) (Ks : (Nat → Mem)) (M : Mem) (LM : MemL), Rel M T C H Y N S Ks wP vP → Jm p l e room_1 s m args below meth c D A 4 Z ce sl 1848 (lvL b (aX0 0) (aM 0) i) [] (cat (lW ct aX0 aT aC aH aR aDR aRE aP aY aN aNE aS aE kk aM X0 T C H R DR RE P LP wP vP Y N NE S E Ks M LM))) (X0 : Mem) (T : Mem) (C : Mem) (H : Mem) (R : Mem) (DR : Mem) (RE : Mem) (P : Mem) (LP : MemL) (wP : Bool) (vP : Bool) (Y : Mem) (N : Mem) (NE : Mem) (S : Mem) (E : Mem) (Ks : (Nat → Mem)) (M : Mem) (LM : MemL) (hRel : Rel M T C H Y N S Ks wP vP) : Jm p l e room_1 s m args below meth c D A 4 Z ce sl 1251 (lvL b (aX0 0) (aM 0) i) [] (cat (lW ct aX0 aT aC aH aR aDR aRE aP aY aN aNE aS aE kk aM X0 T C H R DR RE P LP wP vP Y N NE S E Ks M LM)) := by
  obtain ⟨σ, a, h, ra, hN, hY, hS, hw⟩ := hRel
  obtain ⟨v, e1, e2⟩ := m_fullest (X0 := X0) (LM := LM) ra.1 ra.2.1 ra.2.2.1 (F := 10000) (by decide) 
  refine j_aload_n X 1 dL_law_1251 rfl rfl ?_
  refine j_cci X [] [] (lW ct aX0 aT aC aH aR aDR aRE aP aY aN aNE aS aE kk aM X0 T C H R DR RE P LP wP vP Y N NE S E Ks M LM) [w_X ct aX0 aT aC aH aR aP aY aN aS aE X0, w_Cloth ct aC C] [0, 2] (fun z => [w_X ct aX0 aT aC aH aR aP aY aN aS aE X0, w_Cloth ct aC C]) 0 0 9 v e1 rfl rfl rfl cl_L_146 (c_X9_fullest l D ct 10000 aX0 aT aC aH aR aDR aRE aP aY aN aNE aS aE kk X0 C ) rfl (by decide) (lc rfl (lc rfl (rfl))) rfl ⟨by decide, by decide⟩ (Nat.le_of_ble_eq_true rfl) rfl dL_law_1252 hroom ?_
  refine j_ws (cat (lW ct aX0 aT aC aH aR aDR aRE aP aY aN aNE aS aE kk aM X0 T C H R DR RE P LP wP vP Y N NE S E Ks M LM)) rfl ?_
  refine j_aload_n X 2 dL_law_1255 rfl rfl ?_
  refine j_cci X [] [.int v] (lW ct aX0 aT aC aH aR aDR aRE aP aY aN aNE aS aE kk aM X0 T C H R DR RE P LP wP vP Y N NE S E Ks M LM) [w_Model ct aM M LM] [25] (fun z => [w_Model ct aM M LM]) 25 0 10 v e2 rfl rfl rfl cl_L_149 (c_X10_fullest l D ct 10000 aM M LM ) rfl (by decide) (lc rfl (rfl)) rfl ⟨by decide, by decide⟩ (Nat.le_of_ble_eq_true rfl) rfl dL_law_1256 hroom ?_
  refine j_ws (cat (lW ct aX0 aT aC aH aR aDR aRE aP aY aN aNE aS aE kk aM X0 T C H R DR RE P LP wP vP Y N NE S E Ks M LM)) rfl ?_
  refine j_icmp_eq X (x := v) dL_law_1259 rfl ?_
  refine K X0 T C H R DR RE P LP wP vP Y N NE S E Ks M LM ?_
  exact ⟨σ, a, h, ra, hN, hY, hS, hw⟩

set_option maxRecDepth 100000 in
set_option maxHeartbeats 4000000 in
theorem lc_32 {p : Program} {l : Launch} {e : Env} {s : State} {m : MethodId} {args : Array Value} {below : List Frame} {meth : Method} {c : Code} {D : va_G} {ct : im_ct} {A : Nat → Prop} {Z : State → Prop} {ce sl b L : Nat} {xs : Nat → Int32} {i : Int32} (X : im_X p room_1 s m args meth c D ct A RL cL_law 4 (some .boolean)) (hroom : ce ≤ room_1.cells ∧ sl ≤ room_1.slots) (hX : va_X b L xs s s.heap) (hbl : b < s.heap.size) (hbA : ¬ A b) (h1 : vp_in (i + 1) L) (h2 : vp_in (i + 2) L) (h3 : vp_in (i + 3) L) (h4 : vp_in (i + 4) L) (h5 : vp_in (i + 5) L) (aX0 aT aC aH aR aDR aRE aP aY aN aNE aS aE : Nat → Nat) (kk : Nat → Nat → Nat) (aM : Nat → Nat) (K : ∀ (X0 : Mem) (T : Mem) (C : Mem) (H : Mem) (R : Mem) (DR : Mem) (RE : Mem) (P : Mem) (LP : MemL) (wP : Bool) (vP : Bool) (Y : Mem) (N : Mem) (NE : Mem) (S : Mem) (E : Mem) (Ks : (Nat → Mem)) (M : Mem) (LM : MemL), Rel M T C H Y N S Ks wP vP → Jm p l e room_1 s m args below meth c D A 4 Z ce sl 1848 (lvL b (aX0 0) (aM 0) i) [] (cat (lW ct aX0 aT aC aH aR aDR aRE aP aY aN aNE aS aE kk aM X0 T C H R DR RE P LP wP vP Y N NE S E Ks M LM))) (X0 : Mem) (T : Mem) (C : Mem) (H : Mem) (R : Mem) (DR : Mem) (RE : Mem) (P : Mem) (LP : MemL) (wP : Bool) (vP : Bool) (Y : Mem) (N : Mem) (NE : Mem) (S : Mem) (E : Mem) (Ks : (Nat → Mem)) (M : Mem) (LM : MemL) (hRel : Rel M T C H Y N S Ks wP vP) : Jm p l e room_1 s m args below meth c D A 4 Z ce sl 1264 (lvL b (aX0 0) (aM 0) i) [] (cat (lW ct aX0 aT aC aH aR aDR aRE aP aY aN aNE aS aE kk aM X0 T C H R DR RE P LP wP vP Y N NE S E Ks M LM)) := by
  obtain ⟨σ, a, h, ra, hN, hY, hS, hw⟩ := hRel
  subst hw
  obtain ⟨v, LP', b', LM', e1, e2⟩ := m_ways (X0 := X0) (LM := LM) (LP := LP) (P := P) (b := wP) ra.1 ra.2.1 ra.2.2.1 (F := 10000) (by decide) (xa xs i 1) (xa xs i 2)
  refine j_aload_n X 1 dL_law_1264 rfl rfl ?_
  refine j_arg X hX hbl hbA 1 h1 dL_law_1265 dL_law_1266 dL_law_1267 dL_law_1268 dL_law_1269 rfl ?_
  refine j_arg X hX hbl hbA 2 h2 dL_law_1270 dL_law_1271 dL_law_1272 dL_law_1273 dL_law_1274 rfl ?_
  refine j_ccl X [.int (xa xs i 1), .int (xa xs i 2)] [] (lW ct aX0 aT aC aH aR aDR aRE aP aY aN aNE aS aE kk aM X0 T C H R DR RE P LP wP wP Y N NE S E Ks M LM) [w_X ct aX0 aT aC aH aR aP aY aN aS aE X0, w_Cloth ct aC C, w_Purse ct aP P LP wP wP] [0, 2, 7] (fun z => [w_X ct aX0 aT aC aH aR aP aY aN aS aE X0, w_Cloth ct aC C, w_Purse ct aP P z.2.1 z.2.2.1 z.2.2.2]) 0 0 9 (v, LP', b', b') e1 rfl rfl rfl cl_L_150 (c_X9_ways l D ct 10000 aX0 aT aC aH aR aDR aRE aP aY aN aNE aS aE kk X0 C P LP wP wP (xa xs i 1) (xa xs i 2)) rfl (by decide) (lc rfl (lc rfl (lc fa_Purse (rfl)))) rfl ⟨by decide, by decide⟩ (Nat.le_of_ble_eq_true rfl) rfl dL_law_1275 hroom ?_
  refine j_ws (cat (lW ct aX0 aT aC aH aR aDR aRE aP aY aN aNE aS aE kk aM X0 T C H R DR RE P LP' b' b' Y N NE S E Ks M LM)) rfl ?_
  refine j_aload_n X 2 dL_law_1278 rfl rfl ?_
  refine j_arg X hX hbl hbA 1 h1 dL_law_1279 dL_law_1280 dL_law_1281 dL_law_1282 dL_law_1283 rfl ?_
  refine j_arg X hX hbl hbA 2 h2 dL_law_1284 dL_law_1285 dL_law_1286 dL_law_1287 dL_law_1288 rfl ?_
  refine j_ccl X [.int (xa xs i 1), .int (xa xs i 2)] [.long v] (lW ct aX0 aT aC aH aR aDR aRE aP aY aN aNE aS aE kk aM X0 T C H R DR RE P LP' b' b' Y N NE S E Ks M LM) [w_Model ct aM M LM] [25] (fun z => [w_Model ct aM M z.2]) 25 0 10 (v, LM') e2 rfl rfl rfl cl_L_154 (c_X10_ways l D ct 10000 aM M LM (xa xs i 1) (xa xs i 2)) rfl (by decide) (lc fa_Model (rfl)) rfl ⟨by decide, by decide⟩ (Nat.le_of_ble_eq_true rfl) rfl dL_law_1289 hroom ?_
  refine j_ws (cat (lW ct aX0 aT aC aH aR aDR aRE aP aY aN aNE aS aE kk aM X0 T C H R DR RE P LP' b' b' Y N NE S E Ks M LM')) rfl ?_
  refine j_lcmp X dL_law_1292 ?_
  refine j_if_eq X dL_law_1293 rfl (fun _ => ?_) (fun q => absurd (lg_same _) q)
  refine K X0 T C H R DR RE P LP' b' b' Y N NE S E Ks M LM' ?_
  exact ⟨σ, a, h, ra, hN, hY, hS, rfl⟩

set_option maxRecDepth 100000 in
set_option maxHeartbeats 4000000 in
theorem lc_33 {p : Program} {l : Launch} {e : Env} {s : State} {m : MethodId} {args : Array Value} {below : List Frame} {meth : Method} {c : Code} {D : va_G} {ct : im_ct} {A : Nat → Prop} {Z : State → Prop} {ce sl b L : Nat} {xs : Nat → Int32} {i : Int32} (X : im_X p room_1 s m args meth c D ct A RL cL_law 4 (some .boolean)) (hroom : ce ≤ room_1.cells ∧ sl ≤ room_1.slots) (hX : va_X b L xs s s.heap) (hbl : b < s.heap.size) (hbA : ¬ A b) (h1 : vp_in (i + 1) L) (h2 : vp_in (i + 2) L) (h3 : vp_in (i + 3) L) (h4 : vp_in (i + 4) L) (h5 : vp_in (i + 5) L) (aX0 aT aC aH aR aDR aRE aP aY aN aNE aS aE : Nat → Nat) (kk : Nat → Nat → Nat) (aM : Nat → Nat) (K : ∀ (X0 : Mem) (T : Mem) (C : Mem) (H : Mem) (R : Mem) (DR : Mem) (RE : Mem) (P : Mem) (LP : MemL) (wP : Bool) (vP : Bool) (Y : Mem) (N : Mem) (NE : Mem) (S : Mem) (E : Mem) (Ks : (Nat → Mem)) (M : Mem) (LM : MemL), Rel M T C H Y N S Ks wP vP → Jm p l e room_1 s m args below meth c D A 4 Z ce sl 1848 (lvL b (aX0 0) (aM 0) i) [] (cat (lW ct aX0 aT aC aH aR aDR aRE aP aY aN aNE aS aE kk aM X0 T C H R DR RE P LP wP vP Y N NE S E Ks M LM))) (X0 : Mem) (T : Mem) (C : Mem) (H : Mem) (R : Mem) (DR : Mem) (RE : Mem) (P : Mem) (LP : MemL) (wP : Bool) (vP : Bool) (Y : Mem) (N : Mem) (NE : Mem) (S : Mem) (E : Mem) (Ks : (Nat → Mem)) (M : Mem) (LM : MemL) (hRel : Rel M T C H Y N S Ks wP vP) : Jm p l e room_1 s m args below meth c D A 4 Z ce sl 1298 (lvL b (aX0 0) (aM 0) i) [] (cat (lW ct aX0 aT aC aH aR aDR aRE aP aY aN aNE aS aE kk aM X0 T C H R DR RE P LP wP vP Y N NE S E Ks M LM)) := by
  obtain ⟨σ, a, h, ra, hN, hY, hS, hw⟩ := hRel
  obtain ⟨v, P', M', LM', e1, e2, hp⟩ := m_taken (X0 := X0) (LM := LM) (LP := LP) (wP := wP) (vP := vP) (P := P) ra.1 ra.2.1 ra.2.2.1 (F := 10000) (by decide) (xa xs i 1) (xa xs i 2) (xa xs i 3)
  refine j_aload_n X 1 dL_law_1298 rfl rfl ?_
  refine j_arg X hX hbl hbA 1 h1 dL_law_1299 dL_law_1300 dL_law_1301 dL_law_1302 dL_law_1303 rfl ?_
  refine j_arg X hX hbl hbA 2 h2 dL_law_1304 dL_law_1305 dL_law_1306 dL_law_1307 dL_law_1308 rfl ?_
  refine j_arg X hX hbl hbA 3 h3 dL_law_1309 dL_law_1310 dL_law_1311 dL_law_1312 dL_law_1313 rfl ?_
  refine j_cci X [.int (xa xs i 1), .int (xa xs i 2), .int (xa xs i 3)] [] (lW ct aX0 aT aC aH aR aDR aRE aP aY aN aNE aS aE kk aM X0 T C H R DR RE P LP wP vP Y N NE S E Ks M LM) [w_X ct aX0 aT aC aH aR aP aY aN aS aE X0, w_Cloth ct aC C, w_Purse ct aP P LP wP vP] [0, 2, 7] (fun z => [w_X ct aX0 aT aC aH aR aP aY aN aS aE X0, w_Cloth ct aC C, w_Purse ct aP z.2 LP wP vP]) 0 0 9 (v, P') e1 rfl rfl rfl cl_L_155 (c_X9_taken l D ct 10000 aX0 aT aC aH aR aDR aRE aP aY aN aNE aS aE kk X0 C P LP wP vP (xa xs i 1) (xa xs i 2) (xa xs i 3)) rfl (by decide) (lc rfl (lc rfl (lc fa_Purse (rfl)))) rfl ⟨by decide, by decide⟩ (Nat.le_of_ble_eq_true rfl) rfl dL_law_1314 hroom ?_
  refine j_ws (cat (lW ct aX0 aT aC aH aR aDR aRE aP aY aN aNE aS aE kk aM X0 T C H R DR RE P' LP wP vP Y N NE S E Ks M LM)) rfl ?_
  refine j_aload_n X 2 dL_law_1317 rfl rfl ?_
  refine j_arg X hX hbl hbA 1 h1 dL_law_1318 dL_law_1319 dL_law_1320 dL_law_1321 dL_law_1322 rfl ?_
  refine j_arg X hX hbl hbA 2 h2 dL_law_1323 dL_law_1324 dL_law_1325 dL_law_1326 dL_law_1327 rfl ?_
  refine j_arg X hX hbl hbA 3 h3 dL_law_1328 dL_law_1329 dL_law_1330 dL_law_1331 dL_law_1332 rfl ?_
  refine j_cci X [.int (xa xs i 1), .int (xa xs i 2), .int (xa xs i 3)] [.int v] (lW ct aX0 aT aC aH aR aDR aRE aP aY aN aNE aS aE kk aM X0 T C H R DR RE P' LP wP vP Y N NE S E Ks M LM) [w_Model ct aM M LM] [25] (fun z => [w_Model ct aM z.2.1 z.2.2]) 25 0 10 (v, M', LM') e2 rfl rfl rfl cl_L_158 (c_X10_taken l D ct 10000 aM M LM (xa xs i 1) (xa xs i 2) (xa xs i 3)) rfl (by decide) (lc fa_Model (rfl)) rfl ⟨by decide, by decide⟩ (Nat.le_of_ble_eq_true rfl) rfl dL_law_1333 hroom ?_
  refine j_ws (cat (lW ct aX0 aT aC aH aR aDR aRE aP aY aN aNE aS aE kk aM X0 T C H R DR RE P' LP wP vP Y N NE S E Ks M' LM')) rfl ?_
  refine j_icmp_eq X (x := v) dL_law_1336 rfl ?_
  refine K X0 T C H R DR RE P' LP wP vP Y N NE S E Ks M' LM' ?_
  exact Rel_pm ra hN hY hS hw hp

set_option maxRecDepth 100000 in
set_option maxHeartbeats 4000000 in
theorem lc_34 {p : Program} {l : Launch} {e : Env} {s : State} {m : MethodId} {args : Array Value} {below : List Frame} {meth : Method} {c : Code} {D : va_G} {ct : im_ct} {A : Nat → Prop} {Z : State → Prop} {ce sl b L : Nat} {xs : Nat → Int32} {i : Int32} (X : im_X p room_1 s m args meth c D ct A RL cL_law 4 (some .boolean)) (hroom : ce ≤ room_1.cells ∧ sl ≤ room_1.slots) (hX : va_X b L xs s s.heap) (hbl : b < s.heap.size) (hbA : ¬ A b) (h1 : vp_in (i + 1) L) (h2 : vp_in (i + 2) L) (h3 : vp_in (i + 3) L) (h4 : vp_in (i + 4) L) (h5 : vp_in (i + 5) L) (aX0 aT aC aH aR aDR aRE aP aY aN aNE aS aE : Nat → Nat) (kk : Nat → Nat → Nat) (aM : Nat → Nat) (K : ∀ (X0 : Mem) (T : Mem) (C : Mem) (H : Mem) (R : Mem) (DR : Mem) (RE : Mem) (P : Mem) (LP : MemL) (wP : Bool) (vP : Bool) (Y : Mem) (N : Mem) (NE : Mem) (S : Mem) (E : Mem) (Ks : (Nat → Mem)) (M : Mem) (LM : MemL), Rel M T C H Y N S Ks wP vP → Jm p l e room_1 s m args below meth c D A 4 Z ce sl 1848 (lvL b (aX0 0) (aM 0) i) [] (cat (lW ct aX0 aT aC aH aR aDR aRE aP aY aN aNE aS aE kk aM X0 T C H R DR RE P LP wP vP Y N NE S E Ks M LM))) (X0 : Mem) (T : Mem) (C : Mem) (H : Mem) (R : Mem) (DR : Mem) (RE : Mem) (P : Mem) (LP : MemL) (wP : Bool) (vP : Bool) (Y : Mem) (N : Mem) (NE : Mem) (S : Mem) (E : Mem) (Ks : (Nat → Mem)) (M : Mem) (LM : MemL) (hRel : Rel M T C H Y N S Ks wP vP) : Jm p l e room_1 s m args below meth c D A 4 Z ce sl 1341 (lvL b (aX0 0) (aM 0) i) [] (cat (lW ct aX0 aT aC aH aR aDR aRE aP aY aN aNE aS aE kk aM X0 T C H R DR RE P LP wP vP Y N NE S E Ks M LM)) := by
  obtain ⟨σ, a, h, ra, hN, hY, hS, hw⟩ := hRel
  obtain ⟨v, P', M', e1, e2, hp⟩ := m_breaks (X0 := X0) (LM := LM) (LP := LP) (wP := wP) (vP := vP) (P := P) ra.1 ra.2.1 ra.2.2.1 (F := 10000) (by decide) (xa xs i 1) (xa xs i 2)
  refine j_aload_n X 1 dL_law_1341 rfl rfl ?_
  refine j_arg X hX hbl hbA 1 h1 dL_law_1342 dL_law_1343 dL_law_1344 dL_law_1345 dL_law_1346 rfl ?_
  refine j_arg X hX hbl hbA 2 h2 dL_law_1347 dL_law_1348 dL_law_1349 dL_law_1350 dL_law_1351 rfl ?_
  refine j_cci X [.int (xa xs i 1), .int (xa xs i 2)] [] (lW ct aX0 aT aC aH aR aDR aRE aP aY aN aNE aS aE kk aM X0 T C H R DR RE P LP wP vP Y N NE S E Ks M LM) [w_X ct aX0 aT aC aH aR aP aY aN aS aE X0, w_Cloth ct aC C, w_Purse ct aP P LP wP vP] [0, 2, 7] (fun z => [w_X ct aX0 aT aC aH aR aP aY aN aS aE X0, w_Cloth ct aC C, w_Purse ct aP z.2 LP wP vP]) 0 0 9 (v, P') e1 rfl rfl rfl cl_L_159 (c_X9_breaks l D ct 10000 aX0 aT aC aH aR aDR aRE aP aY aN aNE aS aE kk X0 C P LP wP vP (xa xs i 1) (xa xs i 2)) rfl (by decide) (lc rfl (lc rfl (lc fa_Purse (rfl)))) rfl ⟨by decide, by decide⟩ (Nat.le_of_ble_eq_true rfl) rfl dL_law_1352 hroom ?_
  refine j_ws (cat (lW ct aX0 aT aC aH aR aDR aRE aP aY aN aNE aS aE kk aM X0 T C H R DR RE P' LP wP vP Y N NE S E Ks M LM)) rfl ?_
  refine j_aload_n X 2 dL_law_1355 rfl rfl ?_
  refine j_arg X hX hbl hbA 1 h1 dL_law_1356 dL_law_1357 dL_law_1358 dL_law_1359 dL_law_1360 rfl ?_
  refine j_arg X hX hbl hbA 2 h2 dL_law_1361 dL_law_1362 dL_law_1363 dL_law_1364 dL_law_1365 rfl ?_
  refine j_cci X [.int (xa xs i 1), .int (xa xs i 2)] [.int v] (lW ct aX0 aT aC aH aR aDR aRE aP aY aN aNE aS aE kk aM X0 T C H R DR RE P' LP wP vP Y N NE S E Ks M LM) [w_Model ct aM M LM] [25] (fun z => [w_Model ct aM z.2 LM]) 25 0 10 (v, M') e2 rfl rfl rfl cl_L_162 (c_X10_breaks l D ct 10000 aM M LM (xa xs i 1) (xa xs i 2)) rfl (by decide) (lc fa_Model (rfl)) rfl ⟨by decide, by decide⟩ (Nat.le_of_ble_eq_true rfl) rfl dL_law_1366 hroom ?_
  refine j_ws (cat (lW ct aX0 aT aC aH aR aDR aRE aP aY aN aNE aS aE kk aM X0 T C H R DR RE P' LP wP vP Y N NE S E Ks M' LM)) rfl ?_
  refine j_icmp_eq X (x := v) dL_law_1369 rfl ?_
  refine K X0 T C H R DR RE P' LP wP vP Y N NE S E Ks M' LM ?_
  exact Rel_pm ra hN hY hS hw hp

set_option maxRecDepth 100000 in
set_option maxHeartbeats 4000000 in
theorem lc_35 {p : Program} {l : Launch} {e : Env} {s : State} {m : MethodId} {args : Array Value} {below : List Frame} {meth : Method} {c : Code} {D : va_G} {ct : im_ct} {A : Nat → Prop} {Z : State → Prop} {ce sl b L : Nat} {xs : Nat → Int32} {i : Int32} (X : im_X p room_1 s m args meth c D ct A RL cL_law 4 (some .boolean)) (hroom : ce ≤ room_1.cells ∧ sl ≤ room_1.slots) (hX : va_X b L xs s s.heap) (hbl : b < s.heap.size) (hbA : ¬ A b) (h1 : vp_in (i + 1) L) (h2 : vp_in (i + 2) L) (h3 : vp_in (i + 3) L) (h4 : vp_in (i + 4) L) (h5 : vp_in (i + 5) L) (aX0 aT aC aH aR aDR aRE aP aY aN aNE aS aE : Nat → Nat) (kk : Nat → Nat → Nat) (aM : Nat → Nat) (K : ∀ (X0 : Mem) (T : Mem) (C : Mem) (H : Mem) (R : Mem) (DR : Mem) (RE : Mem) (P : Mem) (LP : MemL) (wP : Bool) (vP : Bool) (Y : Mem) (N : Mem) (NE : Mem) (S : Mem) (E : Mem) (Ks : (Nat → Mem)) (M : Mem) (LM : MemL), Rel M T C H Y N S Ks wP vP → Jm p l e room_1 s m args below meth c D A 4 Z ce sl 1848 (lvL b (aX0 0) (aM 0) i) [] (cat (lW ct aX0 aT aC aH aR aDR aRE aP aY aN aNE aS aE kk aM X0 T C H R DR RE P LP wP vP Y N NE S E Ks M LM))) (X0 : Mem) (T : Mem) (C : Mem) (H : Mem) (R : Mem) (DR : Mem) (RE : Mem) (P : Mem) (LP : MemL) (wP : Bool) (vP : Bool) (Y : Mem) (N : Mem) (NE : Mem) (S : Mem) (E : Mem) (Ks : (Nat → Mem)) (M : Mem) (LM : MemL) (hRel : Rel M T C H Y N S Ks wP vP) : Jm p l e room_1 s m args below meth c D A 4 Z ce sl 1374 (lvL b (aX0 0) (aM 0) i) [] (cat (lW ct aX0 aT aC aH aR aDR aRE aP aY aN aNE aS aE kk aM X0 T C H R DR RE P LP wP vP Y N NE S E Ks M LM)) := by
  obtain ⟨σ, a, h, ra, hN, hY, hS, hw⟩ := hRel
  obtain ⟨v, e1, e2⟩ := m_missing (X0 := X0) (LM := LM) (LP := LP) (wP := wP) (vP := vP) (P := P) ra.1 ra.2.1 ra.2.2.1 (F := 10000) (by decide) (xa xs i 1)
  refine j_aload_n X 1 dL_law_1374 rfl rfl ?_
  refine j_arg X hX hbl hbA 1 h1 dL_law_1375 dL_law_1376 dL_law_1377 dL_law_1378 dL_law_1379 rfl ?_
  refine j_cci X [.int (xa xs i 1)] [] (lW ct aX0 aT aC aH aR aDR aRE aP aY aN aNE aS aE kk aM X0 T C H R DR RE P LP wP vP Y N NE S E Ks M LM) [w_X ct aX0 aT aC aH aR aP aY aN aS aE X0, w_Cloth ct aC C, w_Purse ct aP P LP wP vP] [0, 2, 7] (fun z => [w_X ct aX0 aT aC aH aR aP aY aN aS aE X0, w_Cloth ct aC C, w_Purse ct aP P LP wP vP]) 0 0 9 v e1 rfl rfl rfl cl_L_163 (c_X9_missing l D ct 10000 aX0 aT aC aH aR aDR aRE aP aY aN aNE aS aE kk X0 C P LP wP vP (xa xs i 1)) rfl (by decide) (lc rfl (lc rfl (lc rfl (rfl)))) rfl ⟨by decide, by decide⟩ (Nat.le_of_ble_eq_true rfl) rfl dL_law_1380 hroom ?_
  refine j_ws (cat (lW ct aX0 aT aC aH aR aDR aRE aP aY aN aNE aS aE kk aM X0 T C H R DR RE P LP wP vP Y N NE S E Ks M LM)) rfl ?_
  refine j_aload_n X 2 dL_law_1383 rfl rfl ?_
  refine j_arg X hX hbl hbA 1 h1 dL_law_1384 dL_law_1385 dL_law_1386 dL_law_1387 dL_law_1388 rfl ?_
  refine j_cci X [.int (xa xs i 1)] [.int v] (lW ct aX0 aT aC aH aR aDR aRE aP aY aN aNE aS aE kk aM X0 T C H R DR RE P LP wP vP Y N NE S E Ks M LM) [w_Model ct aM M LM] [25] (fun z => [w_Model ct aM M LM]) 25 0 10 v e2 rfl rfl rfl cl_L_166 (c_X10_missing l D ct 10000 aM M LM (xa xs i 1)) rfl (by decide) (lc rfl (rfl)) rfl ⟨by decide, by decide⟩ (Nat.le_of_ble_eq_true rfl) rfl dL_law_1389 hroom ?_
  refine j_ws (cat (lW ct aX0 aT aC aH aR aDR aRE aP aY aN aNE aS aE kk aM X0 T C H R DR RE P LP wP vP Y N NE S E Ks M LM)) rfl ?_
  refine j_icmp_eq X (x := v) dL_law_1392 rfl ?_
  refine K X0 T C H R DR RE P LP wP vP Y N NE S E Ks M LM ?_
  exact ⟨σ, a, h, ra, hN, hY, hS, hw⟩

set_option maxRecDepth 100000 in
set_option maxHeartbeats 4000000 in
theorem lc_36 {p : Program} {l : Launch} {e : Env} {s : State} {m : MethodId} {args : Array Value} {below : List Frame} {meth : Method} {c : Code} {D : va_G} {ct : im_ct} {A : Nat → Prop} {Z : State → Prop} {ce sl b L : Nat} {xs : Nat → Int32} {i : Int32} (X : im_X p room_1 s m args meth c D ct A RL cL_law 4 (some .boolean)) (hroom : ce ≤ room_1.cells ∧ sl ≤ room_1.slots) (hX : va_X b L xs s s.heap) (hbl : b < s.heap.size) (hbA : ¬ A b) (h1 : vp_in (i + 1) L) (h2 : vp_in (i + 2) L) (h3 : vp_in (i + 3) L) (h4 : vp_in (i + 4) L) (h5 : vp_in (i + 5) L) (aX0 aT aC aH aR aDR aRE aP aY aN aNE aS aE : Nat → Nat) (kk : Nat → Nat → Nat) (aM : Nat → Nat) (K : ∀ (X0 : Mem) (T : Mem) (C : Mem) (H : Mem) (R : Mem) (DR : Mem) (RE : Mem) (P : Mem) (LP : MemL) (wP : Bool) (vP : Bool) (Y : Mem) (N : Mem) (NE : Mem) (S : Mem) (E : Mem) (Ks : (Nat → Mem)) (M : Mem) (LM : MemL), Rel M T C H Y N S Ks wP vP → Jm p l e room_1 s m args below meth c D A 4 Z ce sl 1848 (lvL b (aX0 0) (aM 0) i) [] (cat (lW ct aX0 aT aC aH aR aDR aRE aP aY aN aNE aS aE kk aM X0 T C H R DR RE P LP wP vP Y N NE S E Ks M LM))) (X0 : Mem) (T : Mem) (C : Mem) (H : Mem) (R : Mem) (DR : Mem) (RE : Mem) (P : Mem) (LP : MemL) (wP : Bool) (vP : Bool) (Y : Mem) (N : Mem) (NE : Mem) (S : Mem) (E : Mem) (Ks : (Nat → Mem)) (M : Mem) (LM : MemL) (hRel : Rel M T C H Y N S Ks wP vP) : Jm p l e room_1 s m args below meth c D A 4 Z ce sl 1397 (lvL b (aX0 0) (aM 0) i) [] (cat (lW ct aX0 aT aC aH aR aDR aRE aP aY aN aNE aS aE kk aM X0 T C H R DR RE P LP wP vP Y N NE S E Ks M LM)) := by
  obtain ⟨σ, a, h, ra, hN, hY, hS, hw⟩ := hRel
  obtain ⟨v, Y', M', LM', e1, e2, hp, hY'⟩ := m_pays (X0 := X0) (LM := LM) (Y := Y) ra.1 ra.2.1 ra.2.2.1 hY (F := 10000) (by decide) (xa xs i 1) (xa xs i 2) (xa xs i 3)
  refine j_aload_n X 1 dL_law_1397 rfl rfl ?_
  refine j_arg X hX hbl hbA 1 h1 dL_law_1398 dL_law_1399 dL_law_1400 dL_law_1401 dL_law_1402 rfl ?_
  refine j_arg X hX hbl hbA 2 h2 dL_law_1403 dL_law_1404 dL_law_1405 dL_law_1406 dL_law_1407 rfl ?_
  refine j_arg X hX hbl hbA 3 h3 dL_law_1408 dL_law_1409 dL_law_1410 dL_law_1411 dL_law_1412 rfl ?_
  refine j_cci X [.int (xa xs i 1), .int (xa xs i 2), .int (xa xs i 3)] [] (lW ct aX0 aT aC aH aR aDR aRE aP aY aN aNE aS aE kk aM X0 T C H R DR RE P LP wP vP Y N NE S E Ks M LM) [w_X ct aX0 aT aC aH aR aP aY aN aS aE X0, w_Cloth ct aC C, w_Payment ct aY Y] [0, 2, 8] (fun z => [w_X ct aX0 aT aC aH aR aP aY aN aS aE X0, w_Cloth ct aC C, w_Payment ct aY z.2]) 0 0 9 (v, Y') e1 rfl rfl rfl cl_L_167 (c_X9_pays l D ct 10000 aX0 aT aC aH aR aDR aRE aP aY aN aNE aS aE kk X0 C Y (xa xs i 1) (xa xs i 2) (xa xs i 3)) rfl (by decide) (lc rfl (lc rfl (lc fa_Payment (rfl)))) rfl ⟨by decide, by decide⟩ (Nat.le_of_ble_eq_true rfl) rfl dL_law_1413 hroom ?_
  refine j_ws (cat (lW ct aX0 aT aC aH aR aDR aRE aP aY aN aNE aS aE kk aM X0 T C H R DR RE P LP wP vP Y' N NE S E Ks M LM)) rfl ?_
  refine j_aload_n X 2 dL_law_1416 rfl rfl ?_
  refine j_arg X hX hbl hbA 1 h1 dL_law_1417 dL_law_1418 dL_law_1419 dL_law_1420 dL_law_1421 rfl ?_
  refine j_arg X hX hbl hbA 2 h2 dL_law_1422 dL_law_1423 dL_law_1424 dL_law_1425 dL_law_1426 rfl ?_
  refine j_arg X hX hbl hbA 3 h3 dL_law_1427 dL_law_1428 dL_law_1429 dL_law_1430 dL_law_1431 rfl ?_
  refine j_cci X [.int (xa xs i 1), .int (xa xs i 2), .int (xa xs i 3)] [.int v] (lW ct aX0 aT aC aH aR aDR aRE aP aY aN aNE aS aE kk aM X0 T C H R DR RE P LP wP vP Y' N NE S E Ks M LM) [w_Model ct aM M LM] [25] (fun z => [w_Model ct aM z.2.1 z.2.2]) 25 0 10 (v, M', LM') e2 rfl rfl rfl cl_L_170 (c_X10_pays l D ct 10000 aM M LM (xa xs i 1) (xa xs i 2) (xa xs i 3)) rfl (by decide) (lc fa_Model (rfl)) rfl ⟨by decide, by decide⟩ (Nat.le_of_ble_eq_true rfl) rfl dL_law_1432 hroom ?_
  refine j_ws (cat (lW ct aX0 aT aC aH aR aDR aRE aP aY aN aNE aS aE kk aM X0 T C H R DR RE P LP wP vP Y' N NE S E Ks M' LM')) rfl ?_
  refine j_icmp_eq X (x := v) dL_law_1435 rfl ?_
  refine K X0 T C H R DR RE P LP wP vP Y' N NE S E Ks M' LM' ?_
  exact ⟨σ, a, h, Ra_m hp ra, hN, hY', hS, hw⟩

set_option maxRecDepth 100000 in
set_option maxHeartbeats 4000000 in
theorem lc_37 {p : Program} {l : Launch} {e : Env} {s : State} {m : MethodId} {args : Array Value} {below : List Frame} {meth : Method} {c : Code} {D : va_G} {ct : im_ct} {A : Nat → Prop} {Z : State → Prop} {ce sl b L : Nat} {xs : Nat → Int32} {i : Int32} (X : im_X p room_1 s m args meth c D ct A RL cL_law 4 (some .boolean)) (hroom : ce ≤ room_1.cells ∧ sl ≤ room_1.slots) (hX : va_X b L xs s s.heap) (hbl : b < s.heap.size) (hbA : ¬ A b) (h1 : vp_in (i + 1) L) (h2 : vp_in (i + 2) L) (h3 : vp_in (i + 3) L) (h4 : vp_in (i + 4) L) (h5 : vp_in (i + 5) L) (aX0 aT aC aH aR aDR aRE aP aY aN aNE aS aE : Nat → Nat) (kk : Nat → Nat → Nat) (aM : Nat → Nat) (K : ∀ (X0 : Mem) (T : Mem) (C : Mem) (H : Mem) (R : Mem) (DR : Mem) (RE : Mem) (P : Mem) (LP : MemL) (wP : Bool) (vP : Bool) (Y : Mem) (N : Mem) (NE : Mem) (S : Mem) (E : Mem) (Ks : (Nat → Mem)) (M : Mem) (LM : MemL), Rel M T C H Y N S Ks wP vP → Jm p l e room_1 s m args below meth c D A 4 Z ce sl 1848 (lvL b (aX0 0) (aM 0) i) [] (cat (lW ct aX0 aT aC aH aR aDR aRE aP aY aN aNE aS aE kk aM X0 T C H R DR RE P LP wP vP Y N NE S E Ks M LM))) (X0 : Mem) (T : Mem) (C : Mem) (H : Mem) (R : Mem) (DR : Mem) (RE : Mem) (P : Mem) (LP : MemL) (wP : Bool) (vP : Bool) (Y : Mem) (N : Mem) (NE : Mem) (S : Mem) (E : Mem) (Ks : (Nat → Mem)) (M : Mem) (LM : MemL) (hRel : Rel M T C H Y N S Ks wP vP) : Jm p l e room_1 s m args below meth c D A 4 Z ce sl 1440 (lvL b (aX0 0) (aM 0) i) [] (cat (lW ct aX0 aT aC aH aR aDR aRE aP aY aN aNE aS aE kk aM X0 T C H R DR RE P LP wP vP Y N NE S E Ks M LM)) := by
  obtain ⟨σ, a, h, ra, hN, hY, hS, hw⟩ := hRel
  obtain ⟨v, Y', M', LM', e1, e2, hp, hY'⟩ := m_paysOf (X0 := X0) (LM := LM) (Y := Y) ra.1 ra.2.1 ra.2.2.1 hY (F := 10000) (by decide) (xa xs i 1) (xa xs i 2) (xa xs i 3) (xa xs i 4)
  refine j_aload_n X 1 dL_law_1440 rfl rfl ?_
  refine j_arg X hX hbl hbA 1 h1 dL_law_1441 dL_law_1442 dL_law_1443 dL_law_1444 dL_law_1445 rfl ?_
  refine j_arg X hX hbl hbA 2 h2 dL_law_1446 dL_law_1447 dL_law_1448 dL_law_1449 dL_law_1450 rfl ?_
  refine j_arg X hX hbl hbA 3 h3 dL_law_1451 dL_law_1452 dL_law_1453 dL_law_1454 dL_law_1455 rfl ?_
  refine j_arg X hX hbl hbA 4 h4 dL_law_1456 dL_law_1457 dL_law_1458 dL_law_1459 dL_law_1460 rfl ?_
  refine j_cci X [.int (xa xs i 1), .int (xa xs i 2), .int (xa xs i 3), .int (xa xs i 4)] [] (lW ct aX0 aT aC aH aR aDR aRE aP aY aN aNE aS aE kk aM X0 T C H R DR RE P LP wP vP Y N NE S E Ks M LM) [w_X ct aX0 aT aC aH aR aP aY aN aS aE X0, w_Cloth ct aC C, w_Payment ct aY Y] [0, 2, 8] (fun z => [w_X ct aX0 aT aC aH aR aP aY aN aS aE X0, w_Cloth ct aC C, w_Payment ct aY z.2]) 0 0 9 (v, Y') e1 rfl rfl rfl cl_L_171 (c_X9_paysOf l D ct 10000 aX0 aT aC aH aR aDR aRE aP aY aN aNE aS aE kk X0 C Y (xa xs i 1) (xa xs i 2) (xa xs i 3) (xa xs i 4)) rfl (by decide) (lc rfl (lc rfl (lc fa_Payment (rfl)))) rfl ⟨by decide, by decide⟩ (Nat.le_of_ble_eq_true rfl) rfl dL_law_1461 hroom ?_
  refine j_ws (cat (lW ct aX0 aT aC aH aR aDR aRE aP aY aN aNE aS aE kk aM X0 T C H R DR RE P LP wP vP Y' N NE S E Ks M LM)) rfl ?_
  refine j_aload_n X 2 dL_law_1464 rfl rfl ?_
  refine j_arg X hX hbl hbA 1 h1 dL_law_1465 dL_law_1466 dL_law_1467 dL_law_1468 dL_law_1469 rfl ?_
  refine j_arg X hX hbl hbA 2 h2 dL_law_1470 dL_law_1471 dL_law_1472 dL_law_1473 dL_law_1474 rfl ?_
  refine j_arg X hX hbl hbA 3 h3 dL_law_1475 dL_law_1476 dL_law_1477 dL_law_1478 dL_law_1479 rfl ?_
  refine j_arg X hX hbl hbA 4 h4 dL_law_1480 dL_law_1481 dL_law_1482 dL_law_1483 dL_law_1484 rfl ?_
  refine j_cci X [.int (xa xs i 1), .int (xa xs i 2), .int (xa xs i 3), .int (xa xs i 4)] [.int v] (lW ct aX0 aT aC aH aR aDR aRE aP aY aN aNE aS aE kk aM X0 T C H R DR RE P LP wP vP Y' N NE S E Ks M LM) [w_Model ct aM M LM] [25] (fun z => [w_Model ct aM z.2.1 z.2.2]) 25 0 10 (v, M', LM') e2 rfl rfl rfl cl_L_174 (c_X10_paysOf l D ct 10000 aM M LM (xa xs i 1) (xa xs i 2) (xa xs i 3) (xa xs i 4)) rfl (by decide) (lc fa_Model (rfl)) rfl ⟨by decide, by decide⟩ (Nat.le_of_ble_eq_true rfl) rfl dL_law_1485 hroom ?_
  refine j_ws (cat (lW ct aX0 aT aC aH aR aDR aRE aP aY aN aNE aS aE kk aM X0 T C H R DR RE P LP wP vP Y' N NE S E Ks M' LM')) rfl ?_
  refine j_icmp_eq X (x := v) dL_law_1488 rfl ?_
  refine K X0 T C H R DR RE P LP wP vP Y' N NE S E Ks M' LM' ?_
  exact ⟨σ, a, h, Ra_m hp ra, hN, hY', hS, hw⟩

set_option maxRecDepth 100000 in
set_option maxHeartbeats 4000000 in
theorem lc_38 {p : Program} {l : Launch} {e : Env} {s : State} {m : MethodId} {args : Array Value} {below : List Frame} {meth : Method} {c : Code} {D : va_G} {ct : im_ct} {A : Nat → Prop} {Z : State → Prop} {ce sl b L : Nat} {xs : Nat → Int32} {i : Int32} (X : im_X p room_1 s m args meth c D ct A RL cL_law 4 (some .boolean)) (hroom : ce ≤ room_1.cells ∧ sl ≤ room_1.slots) (hX : va_X b L xs s s.heap) (hbl : b < s.heap.size) (hbA : ¬ A b) (h1 : vp_in (i + 1) L) (h2 : vp_in (i + 2) L) (h3 : vp_in (i + 3) L) (h4 : vp_in (i + 4) L) (h5 : vp_in (i + 5) L) (aX0 aT aC aH aR aDR aRE aP aY aN aNE aS aE : Nat → Nat) (kk : Nat → Nat → Nat) (aM : Nat → Nat) (K : ∀ (X0 : Mem) (T : Mem) (C : Mem) (H : Mem) (R : Mem) (DR : Mem) (RE : Mem) (P : Mem) (LP : MemL) (wP : Bool) (vP : Bool) (Y : Mem) (N : Mem) (NE : Mem) (S : Mem) (E : Mem) (Ks : (Nat → Mem)) (M : Mem) (LM : MemL), Rel M T C H Y N S Ks wP vP → Jm p l e room_1 s m args below meth c D A 4 Z ce sl 1848 (lvL b (aX0 0) (aM 0) i) [] (cat (lW ct aX0 aT aC aH aR aDR aRE aP aY aN aNE aS aE kk aM X0 T C H R DR RE P LP wP vP Y N NE S E Ks M LM))) (X0 : Mem) (T : Mem) (C : Mem) (H : Mem) (R : Mem) (DR : Mem) (RE : Mem) (P : Mem) (LP : MemL) (wP : Bool) (vP : Bool) (Y : Mem) (N : Mem) (NE : Mem) (S : Mem) (E : Mem) (Ks : (Nat → Mem)) (M : Mem) (LM : MemL) (hRel : Rel M T C H Y N S Ks wP vP) : Jm p l e room_1 s m args below meth c D A 4 Z ce sl 1493 (lvL b (aX0 0) (aM 0) i) [] (cat (lW ct aX0 aT aC aH aR aDR aRE aP aY aN aNE aS aE kk aM X0 T C H R DR RE P LP wP vP Y N NE S E Ks M LM)) := by
  obtain ⟨σ, a, h, ra, hN, hY, hS, hw⟩ := hRel
  obtain ⟨v, e1, e2⟩ := m_move (X0 := X0) (LM := LM) ra.1 ra.2.1 ra.2.2.1 10000 (xa xs i 1) (xa xs i 2)
  refine j_aload_n X 1 dL_law_1493 rfl rfl ?_
  refine j_arg X hX hbl hbA 1 h1 dL_law_1494 dL_law_1495 dL_law_1496 dL_law_1497 dL_law_1498 rfl ?_
  refine j_arg X hX hbl hbA 2 h2 dL_law_1499 dL_law_1500 dL_law_1501 dL_law_1502 dL_law_1503 rfl ?_
  refine j_cci X [.int (xa xs i 1), .int (xa xs i 2)] [] (lW ct aX0 aT aC aH aR aDR aRE aP aY aN aNE aS aE kk aM X0 T C H R DR RE P LP wP vP Y N NE S E Ks M LM) [w_X ct aX0 aT aC aH aR aP aY aN aS aE X0, w_Cloth ct aC C] [0, 2] (fun z => [w_X ct aX0 aT aC aH aR aP aY aN aS aE X0, w_Cloth ct aC C]) 0 0 9 v e1 rfl rfl rfl cl_L_175 (c_X9_move l D ct 10000 aX0 aT aC aH aR aDR aRE aP aY aN aNE aS aE kk X0 C (xa xs i 1) (xa xs i 2)) rfl (by decide) (lc rfl (lc rfl (rfl))) rfl ⟨by decide, by decide⟩ (Nat.le_of_ble_eq_true rfl) rfl dL_law_1504 hroom ?_
  refine j_ws (cat (lW ct aX0 aT aC aH aR aDR aRE aP aY aN aNE aS aE kk aM X0 T C H R DR RE P LP wP vP Y N NE S E Ks M LM)) rfl ?_
  refine j_aload_n X 2 dL_law_1507 rfl rfl ?_
  refine j_arg X hX hbl hbA 1 h1 dL_law_1508 dL_law_1509 dL_law_1510 dL_law_1511 dL_law_1512 rfl ?_
  refine j_arg X hX hbl hbA 2 h2 dL_law_1513 dL_law_1514 dL_law_1515 dL_law_1516 dL_law_1517 rfl ?_
  refine j_cci X [.int (xa xs i 1), .int (xa xs i 2)] [.int v] (lW ct aX0 aT aC aH aR aDR aRE aP aY aN aNE aS aE kk aM X0 T C H R DR RE P LP wP vP Y N NE S E Ks M LM) [w_Model ct aM M LM] [25] (fun z => [w_Model ct aM M LM]) 25 0 10 v e2 rfl rfl rfl cl_L_178 (c_X10_move l D ct 10000 aM M LM (xa xs i 1) (xa xs i 2)) rfl (by decide) (lc rfl (rfl)) rfl ⟨by decide, by decide⟩ (Nat.le_of_ble_eq_true rfl) rfl dL_law_1518 hroom ?_
  refine j_ws (cat (lW ct aX0 aT aC aH aR aDR aRE aP aY aN aNE aS aE kk aM X0 T C H R DR RE P LP wP vP Y N NE S E Ks M LM)) rfl ?_
  refine j_icmp_eq X (x := v) dL_law_1521 rfl ?_
  refine K X0 T C H R DR RE P LP wP vP Y N NE S E Ks M LM ?_
  exact ⟨σ, a, h, ra, hN, hY, hS, hw⟩

set_option maxRecDepth 100000 in
set_option maxHeartbeats 4000000 in
theorem lc_39 {p : Program} {l : Launch} {e : Env} {s : State} {m : MethodId} {args : Array Value} {below : List Frame} {meth : Method} {c : Code} {D : va_G} {ct : im_ct} {A : Nat → Prop} {Z : State → Prop} {ce sl b L : Nat} {xs : Nat → Int32} {i : Int32} (X : im_X p room_1 s m args meth c D ct A RL cL_law 4 (some .boolean)) (hroom : ce ≤ room_1.cells ∧ sl ≤ room_1.slots) (hX : va_X b L xs s s.heap) (hbl : b < s.heap.size) (hbA : ¬ A b) (h1 : vp_in (i + 1) L) (h2 : vp_in (i + 2) L) (h3 : vp_in (i + 3) L) (h4 : vp_in (i + 4) L) (h5 : vp_in (i + 5) L) (aX0 aT aC aH aR aDR aRE aP aY aN aNE aS aE : Nat → Nat) (kk : Nat → Nat → Nat) (aM : Nat → Nat) (K : ∀ (X0 : Mem) (T : Mem) (C : Mem) (H : Mem) (R : Mem) (DR : Mem) (RE : Mem) (P : Mem) (LP : MemL) (wP : Bool) (vP : Bool) (Y : Mem) (N : Mem) (NE : Mem) (S : Mem) (E : Mem) (Ks : (Nat → Mem)) (M : Mem) (LM : MemL), Rel M T C H Y N S Ks wP vP → Jm p l e room_1 s m args below meth c D A 4 Z ce sl 1848 (lvL b (aX0 0) (aM 0) i) [] (cat (lW ct aX0 aT aC aH aR aDR aRE aP aY aN aNE aS aE kk aM X0 T C H R DR RE P LP wP vP Y N NE S E Ks M LM))) (X0 : Mem) (T : Mem) (C : Mem) (H : Mem) (R : Mem) (DR : Mem) (RE : Mem) (P : Mem) (LP : MemL) (wP : Bool) (vP : Bool) (Y : Mem) (N : Mem) (NE : Mem) (S : Mem) (E : Mem) (Ks : (Nat → Mem)) (M : Mem) (LM : MemL) (hRel : Rel M T C H Y N S Ks wP vP) : Jm p l e room_1 s m args below meth c D A 4 Z ce sl 1526 (lvL b (aX0 0) (aM 0) i) [] (cat (lW ct aX0 aT aC aH aR aDR aRE aP aY aN aNE aS aE kk aM X0 T C H R DR RE P LP wP vP Y N NE S E Ks M LM)) := by
  obtain ⟨σ, a, h, ra, hN, hY, hS, hw⟩ := hRel
  obtain ⟨v, N', NE', M', e1, e2, hp, hN'⟩ := m_at (X0 := X0) (LM := LM) (NE := NE) (N := N) ra.1 ra.2.1 ra.2.2.1 hN (F := 10000) (by decide) (xa xs i 1) (xa xs i 2) (xa xs i 3)
  refine j_aload_n X 1 dL_law_1526 rfl rfl ?_
  refine j_arg X hX hbl hbA 1 h1 dL_law_1527 dL_law_1528 dL_law_1529 dL_law_1530 dL_law_1531 rfl ?_
  refine j_arg X hX hbl hbA 2 h2 dL_law_1532 dL_law_1533 dL_law_1534 dL_law_1535 dL_law_1536 rfl ?_
  refine j_arg X hX hbl hbA 3 h3 dL_law_1537 dL_law_1538 dL_law_1539 dL_law_1540 dL_law_1541 rfl ?_
  refine j_cci X [.int (xa xs i 1), .int (xa xs i 2), .int (xa xs i 3)] [] (lW ct aX0 aT aC aH aR aDR aRE aP aY aN aNE aS aE kk aM X0 T C H R DR RE P LP wP vP Y N NE S E Ks M LM) [w_X ct aX0 aT aC aH aR aP aY aN aS aE X0, w_Cloth ct aC C, w_Inquest ct aN aNE N, w_Effect ct aNE NE] [0, 2, 9, 10] (fun z => [w_X ct aX0 aT aC aH aR aP aY aN aS aE X0, w_Cloth ct aC C, w_Inquest ct aN aNE z.2.1, w_Effect ct aNE z.2.2]) 0 0 9 (v, N', NE') e1 rfl rfl rfl cl_L_179 (c_X9_at l D ct 10000 aX0 aT aC aH aR aDR aRE aP aY aN aNE aS aE kk X0 C N NE (xa xs i 1) (xa xs i 2) (xa xs i 3)) rfl (by decide) (lc rfl (lc rfl (lc fa_Inquest (lc fa_Effect (rfl))))) rfl ⟨by decide, by decide⟩ (Nat.le_of_ble_eq_true rfl) rfl dL_law_1542 hroom ?_
  refine j_ws (cat (lW ct aX0 aT aC aH aR aDR aRE aP aY aN aNE aS aE kk aM X0 T C H R DR RE P LP wP vP Y N' NE' S E Ks M LM)) rfl ?_
  refine j_aload_n X 2 dL_law_1545 rfl rfl ?_
  refine j_arg X hX hbl hbA 1 h1 dL_law_1546 dL_law_1547 dL_law_1548 dL_law_1549 dL_law_1550 rfl ?_
  refine j_arg X hX hbl hbA 2 h2 dL_law_1551 dL_law_1552 dL_law_1553 dL_law_1554 dL_law_1555 rfl ?_
  refine j_arg X hX hbl hbA 3 h3 dL_law_1556 dL_law_1557 dL_law_1558 dL_law_1559 dL_law_1560 rfl ?_
  refine j_cci X [.int (xa xs i 1), .int (xa xs i 2), .int (xa xs i 3)] [.int v] (lW ct aX0 aT aC aH aR aDR aRE aP aY aN aNE aS aE kk aM X0 T C H R DR RE P LP wP vP Y N' NE' S E Ks M LM) [w_Model ct aM M LM] [25] (fun z => [w_Model ct aM z.2 LM]) 25 0 10 (v, M') e2 rfl rfl rfl cl_L_182 (c_X10_at l D ct 10000 aM M LM (xa xs i 1) (xa xs i 2) (xa xs i 3)) rfl (by decide) (lc fa_Model (rfl)) rfl ⟨by decide, by decide⟩ (Nat.le_of_ble_eq_true rfl) rfl dL_law_1561 hroom ?_
  refine j_ws (cat (lW ct aX0 aT aC aH aR aDR aRE aP aY aN aNE aS aE kk aM X0 T C H R DR RE P LP wP vP Y N' NE' S E Ks M' LM)) rfl ?_
  refine j_icmp_eq X (x := v) dL_law_1564 rfl ?_
  refine K X0 T C H R DR RE P LP wP vP Y N' NE' S E Ks M' LM ?_
  exact ⟨σ, a, h, Ra_m hp ra, hN', hY, hS, hw⟩

set_option maxRecDepth 100000 in
set_option maxHeartbeats 4000000 in
theorem lc_40 {p : Program} {l : Launch} {e : Env} {s : State} {m : MethodId} {args : Array Value} {below : List Frame} {meth : Method} {c : Code} {D : va_G} {ct : im_ct} {A : Nat → Prop} {Z : State → Prop} {ce sl b L : Nat} {xs : Nat → Int32} {i : Int32} (X : im_X p room_1 s m args meth c D ct A RL cL_law 4 (some .boolean)) (hroom : ce ≤ room_1.cells ∧ sl ≤ room_1.slots) (hX : va_X b L xs s s.heap) (hbl : b < s.heap.size) (hbA : ¬ A b) (h1 : vp_in (i + 1) L) (h2 : vp_in (i + 2) L) (h3 : vp_in (i + 3) L) (h4 : vp_in (i + 4) L) (h5 : vp_in (i + 5) L) (aX0 aT aC aH aR aDR aRE aP aY aN aNE aS aE : Nat → Nat) (kk : Nat → Nat → Nat) (aM : Nat → Nat) (K : ∀ (X0 : Mem) (T : Mem) (C : Mem) (H : Mem) (R : Mem) (DR : Mem) (RE : Mem) (P : Mem) (LP : MemL) (wP : Bool) (vP : Bool) (Y : Mem) (N : Mem) (NE : Mem) (S : Mem) (E : Mem) (Ks : (Nat → Mem)) (M : Mem) (LM : MemL), Rel M T C H Y N S Ks wP vP → Jm p l e room_1 s m args below meth c D A 4 Z ce sl 1848 (lvL b (aX0 0) (aM 0) i) [] (cat (lW ct aX0 aT aC aH aR aDR aRE aP aY aN aNE aS aE kk aM X0 T C H R DR RE P LP wP vP Y N NE S E Ks M LM))) (X0 : Mem) (T : Mem) (C : Mem) (H : Mem) (R : Mem) (DR : Mem) (RE : Mem) (P : Mem) (LP : MemL) (wP : Bool) (vP : Bool) (Y : Mem) (N : Mem) (NE : Mem) (S : Mem) (E : Mem) (Ks : (Nat → Mem)) (M : Mem) (LM : MemL) (hRel : Rel M T C H Y N S Ks wP vP) : Jm p l e room_1 s m args below meth c D A 4 Z ce sl 1569 (lvL b (aX0 0) (aM 0) i) [] (cat (lW ct aX0 aT aC aH aR aDR aRE aP aY aN aNE aS aE kk aM X0 T C H R DR RE P LP wP vP Y N NE S E Ks M LM)) := by
  obtain ⟨σ, a, h, ra, hN, hY, hS, hw⟩ := hRel
  obtain ⟨v, N', NE', M', e1, e2, hp, hN'⟩ := m_sumAt (X0 := X0) (LM := LM) (NE := NE) (N := N) ra.1 ra.2.1 ra.2.2.1 hN (F := 10000) (by decide) (xa xs i 1)
  refine j_aload_n X 1 dL_law_1569 rfl rfl ?_
  refine j_arg X hX hbl hbA 1 h1 dL_law_1570 dL_law_1571 dL_law_1572 dL_law_1573 dL_law_1574 rfl ?_
  refine j_cci X [.int (xa xs i 1)] [] (lW ct aX0 aT aC aH aR aDR aRE aP aY aN aNE aS aE kk aM X0 T C H R DR RE P LP wP vP Y N NE S E Ks M LM) [w_X ct aX0 aT aC aH aR aP aY aN aS aE X0, w_Cloth ct aC C, w_Inquest ct aN aNE N, w_Effect ct aNE NE] [0, 2, 9, 10] (fun z => [w_X ct aX0 aT aC aH aR aP aY aN aS aE X0, w_Cloth ct aC C, w_Inquest ct aN aNE z.2.1, w_Effect ct aNE z.2.2]) 0 0 9 (v, N', NE') e1 rfl rfl rfl cl_L_183 (c_X9_sumAt l D ct 10000 aX0 aT aC aH aR aDR aRE aP aY aN aNE aS aE kk X0 C N NE (xa xs i 1)) rfl (by decide) (lc rfl (lc rfl (lc fa_Inquest (lc fa_Effect (rfl))))) rfl ⟨by decide, by decide⟩ (Nat.le_of_ble_eq_true rfl) rfl dL_law_1575 hroom ?_
  refine j_ws (cat (lW ct aX0 aT aC aH aR aDR aRE aP aY aN aNE aS aE kk aM X0 T C H R DR RE P LP wP vP Y N' NE' S E Ks M LM)) rfl ?_
  refine j_aload_n X 2 dL_law_1578 rfl rfl ?_
  refine j_arg X hX hbl hbA 1 h1 dL_law_1579 dL_law_1580 dL_law_1581 dL_law_1582 dL_law_1583 rfl ?_
  refine j_cci X [.int (xa xs i 1)] [.int v] (lW ct aX0 aT aC aH aR aDR aRE aP aY aN aNE aS aE kk aM X0 T C H R DR RE P LP wP vP Y N' NE' S E Ks M LM) [w_Model ct aM M LM] [25] (fun z => [w_Model ct aM z.2 LM]) 25 0 10 (v, M') e2 rfl rfl rfl cl_L_186 (c_X10_sumAt l D ct 10000 aM M LM (xa xs i 1)) rfl (by decide) (lc fa_Model (rfl)) rfl ⟨by decide, by decide⟩ (Nat.le_of_ble_eq_true rfl) rfl dL_law_1584 hroom ?_
  refine j_ws (cat (lW ct aX0 aT aC aH aR aDR aRE aP aY aN aNE aS aE kk aM X0 T C H R DR RE P LP wP vP Y N' NE' S E Ks M' LM)) rfl ?_
  refine j_icmp_eq X (x := v) dL_law_1587 rfl ?_
  refine K X0 T C H R DR RE P LP wP vP Y N' NE' S E Ks M' LM ?_
  exact ⟨σ, a, h, Ra_m hp ra, hN', hY, hS, hw⟩

set_option maxRecDepth 100000 in
set_option maxHeartbeats 4000000 in
theorem lc_41 {p : Program} {l : Launch} {e : Env} {s : State} {m : MethodId} {args : Array Value} {below : List Frame} {meth : Method} {c : Code} {D : va_G} {ct : im_ct} {A : Nat → Prop} {Z : State → Prop} {ce sl b L : Nat} {xs : Nat → Int32} {i : Int32} (X : im_X p room_1 s m args meth c D ct A RL cL_law 4 (some .boolean)) (hroom : ce ≤ room_1.cells ∧ sl ≤ room_1.slots) (hX : va_X b L xs s s.heap) (hbl : b < s.heap.size) (hbA : ¬ A b) (h1 : vp_in (i + 1) L) (h2 : vp_in (i + 2) L) (h3 : vp_in (i + 3) L) (h4 : vp_in (i + 4) L) (h5 : vp_in (i + 5) L) (aX0 aT aC aH aR aDR aRE aP aY aN aNE aS aE : Nat → Nat) (kk : Nat → Nat → Nat) (aM : Nat → Nat) (K : ∀ (X0 : Mem) (T : Mem) (C : Mem) (H : Mem) (R : Mem) (DR : Mem) (RE : Mem) (P : Mem) (LP : MemL) (wP : Bool) (vP : Bool) (Y : Mem) (N : Mem) (NE : Mem) (S : Mem) (E : Mem) (Ks : (Nat → Mem)) (M : Mem) (LM : MemL), Rel M T C H Y N S Ks wP vP → Jm p l e room_1 s m args below meth c D A 4 Z ce sl 1848 (lvL b (aX0 0) (aM 0) i) [] (cat (lW ct aX0 aT aC aH aR aDR aRE aP aY aN aNE aS aE kk aM X0 T C H R DR RE P LP wP vP Y N NE S E Ks M LM))) (X0 : Mem) (T : Mem) (C : Mem) (H : Mem) (R : Mem) (DR : Mem) (RE : Mem) (P : Mem) (LP : MemL) (wP : Bool) (vP : Bool) (Y : Mem) (N : Mem) (NE : Mem) (S : Mem) (E : Mem) (Ks : (Nat → Mem)) (M : Mem) (LM : MemL) (hRel : Rel M T C H Y N S Ks wP vP) : Jm p l e room_1 s m args below meth c D A 4 Z ce sl 1592 (lvL b (aX0 0) (aM 0) i) [] (cat (lW ct aX0 aT aC aH aR aDR aRE aP aY aN aNE aS aE kk aM X0 T C H R DR RE P LP wP vP Y N NE S E Ks M LM)) := by
  obtain ⟨σ, a, h, ra, hN, hY, hS, hw⟩ := hRel
  obtain ⟨v, N', NE', M', e1, e2, hp, hN'⟩ := m_differs (X0 := X0) (LM := LM) (NE := NE) (N := N) ra.1 ra.2.1 ra.2.2.1 hN (F := 10000) (by decide) 
  refine j_aload_n X 1 dL_law_1592 rfl rfl ?_
  refine j_cci X [] [] (lW ct aX0 aT aC aH aR aDR aRE aP aY aN aNE aS aE kk aM X0 T C H R DR RE P LP wP vP Y N NE S E Ks M LM) [w_X ct aX0 aT aC aH aR aP aY aN aS aE X0, w_Cloth ct aC C, w_Inquest ct aN aNE N, w_Effect ct aNE NE] [0, 2, 9, 10] (fun z => [w_X ct aX0 aT aC aH aR aP aY aN aS aE X0, w_Cloth ct aC C, w_Inquest ct aN aNE z.2.1, w_Effect ct aNE z.2.2]) 0 0 9 (v, N', NE') e1 rfl rfl rfl cl_L_187 (c_X9_differs l D ct 10000 aX0 aT aC aH aR aDR aRE aP aY aN aNE aS aE kk X0 C N NE ) rfl (by decide) (lc rfl (lc rfl (lc fa_Inquest (lc fa_Effect (rfl))))) rfl ⟨by decide, by decide⟩ (Nat.le_of_ble_eq_true rfl) rfl dL_law_1593 hroom ?_
  refine j_ws (cat (lW ct aX0 aT aC aH aR aDR aRE aP aY aN aNE aS aE kk aM X0 T C H R DR RE P LP wP vP Y N' NE' S E Ks M LM)) rfl ?_
  refine j_aload_n X 2 dL_law_1596 rfl rfl ?_
  refine j_cci X [] [.int v] (lW ct aX0 aT aC aH aR aDR aRE aP aY aN aNE aS aE kk aM X0 T C H R DR RE P LP wP vP Y N' NE' S E Ks M LM) [w_Model ct aM M LM] [25] (fun z => [w_Model ct aM z.2 LM]) 25 0 10 (v, M') e2 rfl rfl rfl cl_L_190 (c_X10_differs l D ct 10000 aM M LM ) rfl (by decide) (lc fa_Model (rfl)) rfl ⟨by decide, by decide⟩ (Nat.le_of_ble_eq_true rfl) rfl dL_law_1597 hroom ?_
  refine j_ws (cat (lW ct aX0 aT aC aH aR aDR aRE aP aY aN aNE aS aE kk aM X0 T C H R DR RE P LP wP vP Y N' NE' S E Ks M' LM)) rfl ?_
  refine j_icmp_eq X (x := v) dL_law_1600 rfl ?_
  refine K X0 T C H R DR RE P LP wP vP Y N' NE' S E Ks M' LM ?_
  exact ⟨σ, a, h, Ra_m hp ra, hN', hY, hS, hw⟩
