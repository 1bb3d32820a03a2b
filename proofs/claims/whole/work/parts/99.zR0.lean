/-! THE LAW: what one row of the script does -/
set_option maxRecDepth 100000 in
set_option maxHeartbeats 4000000 in
theorem lc_0 {p : Program} {l : Launch} {e : Env} {s : State} {m : MethodId} {args : Array Value} {below : List Frame} {meth : Method} {c : Code} {D : va_G} {ct : im_ct} {A : Nat → Prop} {Z : State → Prop} {ce sl b L : Nat} {xs : Nat → Int32} {i : Int32} (X : im_X p room_1 s m args meth c D ct A RL cL_law 4 (some .boolean)) (hroom : ce ≤ room_1.cells ∧ sl ≤ room_1.slots) (hX : va_X b L xs s s.heap) (hbl : b < s.heap.size) (hbA : ¬ A b) (h1 : vp_in (i + 1) L) (h2 : vp_in (i + 2) L) (h3 : vp_in (i + 3) L) (h4 : vp_in (i + 4) L) (h5 : vp_in (i + 5) L) (aX0 aT aC aH aR aDR aRE aP aY aN aNE aS aE : Nat → Nat) (kk : Nat → Nat → Nat) (aM : Nat → Nat) (K : ∀ (X0 : Mem) (T : Mem) (C : Mem) (H : Mem) (R : Mem) (DR : Mem) (RE : Mem) (P : Mem) (LP : MemL) (wP : Bool) (vP : Bool) (Y : Mem) (N : Mem) (NE : Mem) (S : Mem) (E : Mem) (Ks : (Nat → Mem)) (M : Mem) (LM : MemL), Rel M T C H Y N S Ks wP vP → Jm p l e room_1 s m args below meth c D A 4 Z ce sl 1848 (lvL b (aX0 0) (aM 0) i) [] (cat (lW ct aX0 aT aC aH aR aDR aRE aP aY aN aNE aS aE kk aM X0 T C H R DR RE P LP wP vP Y N NE S E Ks M LM))) (X0 : Mem) (T : Mem) (C : Mem) (H : Mem) (R : Mem) (DR : Mem) (RE : Mem) (P : Mem) (LP : MemL) (wP : Bool) (vP : Bool) (Y : Mem) (N : Mem) (NE : Mem) (S : Mem) (E : Mem) (Ks : (Nat → Mem)) (M : Mem) (LM : MemL) (hRel : Rel M T C H Y N S Ks wP vP) : Jm p l e room_1 s m args below meth c D A 4 Z ce sl 260 (lvL b (aX0 0) (aM 0) i) [] (cat (lW ct aX0 aT aC aH aR aDR aRE aP aY aN aNE aS aE kk aM X0 T C H R DR RE P LP wP vP Y N NE S E Ks M LM)) := by
  obtain ⟨σ, a, h, ra, hN, hY, hS, hw⟩ := hRel
  obtain ⟨v, T', M', e1, e2, ra'⟩ := m_feed (X0 := X0) (LM := LM) (T := T) (H := H) ra (F := 10000) (by decide) (xa xs i 1) (xa xs i 2) (xa xs i 3) (xa xs i 4) (xa xs i 5)
  refine j_aload_n X 1 dL_law_260 rfl rfl ?_
  refine j_arg X hX hbl hbA 1 h1 dL_law_261 dL_law_262 dL_law_263 dL_law_264 dL_law_265 rfl ?_
  refine j_arg X hX hbl hbA 2 h2 dL_law_266 dL_law_267 dL_law_268 dL_law_269 dL_law_270 rfl ?_
  refine j_arg X hX hbl hbA 3 h3 dL_law_271 dL_law_272 dL_law_273 dL_law_274 dL_law_275 rfl ?_
  refine j_arg X hX hbl hbA 4 h4 dL_law_276 dL_law_277 dL_law_278 dL_law_279 dL_law_280 rfl ?_
  refine j_arg X hX hbl hbA 5 h5 dL_law_281 dL_law_282 dL_law_283 dL_law_284 dL_law_285 rfl ?_
  refine j_cci X [.int (xa xs i 1), .int (xa xs i 2), .int (xa xs i 3), .int (xa xs i 4), .int (xa xs i 5)] [] (lW ct aX0 aT aC aH aR aDR aRE aP aY aN aNE aS aE kk aM X0 T C H R DR RE P LP wP vP Y N NE S E Ks M LM) [w_X ct aX0 aT aC aH aR aP aY aN aS aE X0, w_Tape ct aT T] [0, 1] (fun z => [w_X ct aX0 aT aC aH aR aP aY aN aS aE X0, w_Tape ct aT z.2]) 0 0 9 (v, T') e1 rfl rfl rfl cl_L_13 (c_X9_feed l D ct 10000 aX0 aT aC aH aR aDR aRE aP aY aN aNE aS aE kk X0 T (xa xs i 1) (xa xs i 2) (xa xs i 3) (xa xs i 4) (xa xs i 5)) rfl (by decide) (lc rfl (lc fa_Tape (rfl))) rfl ⟨by decide, by decide⟩ (Nat.le_of_ble_eq_true rfl) rfl dL_law_286 hroom ?_
  refine j_ws (cat (lW ct aX0 aT aC aH aR aDR aRE aP aY aN aNE aS aE kk aM X0 T' C H R DR RE P LP wP vP Y N NE S E Ks M LM)) rfl ?_
  refine j_aload_n X 2 dL_law_289 rfl rfl ?_
  refine j_arg X hX hbl hbA 1 h1 dL_law_290 dL_law_291 dL_law_292 dL_law_293 dL_law_294 rfl ?_
  refine j_arg X hX hbl hbA 2 h2 dL_law_295 dL_law_296 dL_law_297 dL_law_298 dL_law_299 rfl ?_
  refine j_arg X hX hbl hbA 3 h3 dL_law_300 dL_law_301 dL_law_302 dL_law_303 dL_law_304 rfl ?_
  refine j_arg X hX hbl hbA 4 h4 dL_law_305 dL_law_306 dL_law_307 dL_law_308 dL_law_309 rfl ?_
  refine j_arg X hX hbl hbA 5 h5 dL_law_310 dL_law_311 dL_law_312 dL_law_313 dL_law_314 rfl ?_
  refine j_cci X [.int (xa xs i 1), .int (xa xs i 2), .int (xa xs i 3), .int (xa xs i 4), .int (xa xs i 5)] [.int v] (lW ct aX0 aT aC aH aR aDR aRE aP aY aN aNE aS aE kk aM X0 T' C H R DR RE P LP wP vP Y N NE S E Ks M LM) [w_Model ct aM M LM] [25] (fun z => [w_Model ct aM z.2 LM]) 25 0 10 (v, M') e2 rfl rfl rfl cl_L_17 (c_X10_feed l D ct 10000 aM M LM (xa xs i 1) (xa xs i 2) (xa xs i 3) (xa xs i 4) (xa xs i 5)) rfl (by decide) (lc fa_Model (rfl)) rfl ⟨by decide, by decide⟩ (Nat.le_of_ble_eq_true rfl) rfl dL_law_315 hroom ?_
  refine j_ws (cat (lW ct aX0 aT aC aH aR aDR aRE aP aY aN aNE aS aE kk aM X0 T' C H R DR RE P LP wP vP Y N NE S E Ks M' LM)) rfl ?_
  refine j_icmp_eq X (x := v) dL_law_318 rfl ?_
  refine K X0 T' C H R DR RE P LP wP vP Y N NE S E Ks M' LM ?_
  exact ⟨σ, a, h, ra', hN, hY, hS, hw⟩

set_option maxRecDepth 100000 in
set_option maxHeartbeats 4000000 in
theorem lc_1 {p : Program} {l : Launch} {e : Env} {s : State} {m : MethodId} {args : Array Value} {below : List Frame} {meth : Method} {c : Code} {D : va_G} {ct : im_ct} {A : Nat → Prop} {Z : State → Prop} {ce sl b L : Nat} {xs : Nat → Int32} {i : Int32} (X : im_X p room_1 s m args meth c D ct A RL cL_law 4 (some .boolean)) (hroom : ce ≤ room_1.cells ∧ sl ≤ room_1.slots) (hX : va_X b L xs s s.heap) (hbl : b < s.heap.size) (hbA : ¬ A b) (h1 : vp_in (i + 1) L) (h2 : vp_in (i + 2) L) (h3 : vp_in (i + 3) L) (h4 : vp_in (i + 4) L) (h5 : vp_in (i + 5) L) (aX0 aT aC aH aR aDR aRE aP aY aN aNE aS aE : Nat → Nat) (kk : Nat → Nat → Nat) (aM : Nat → Nat) (K : ∀ (X0 : Mem) (T : Mem) (C : Mem) (H : Mem) (R : Mem) (DR : Mem) (RE : Mem) (P : Mem) (LP : MemL) (wP : Bool) (vP : Bool) (Y : Mem) (N : Mem) (NE : Mem) (S : Mem) (E : Mem) (Ks : (Nat → Mem)) (M : Mem) (LM : MemL), Rel M T C H Y N S Ks wP vP → Jm p l e room_1 s m args below meth c D A 4 Z ce sl 1848 (lvL b (aX0 0) (aM 0) i) [] (cat (lW ct aX0 aT aC aH aR aDR aRE aP aY aN aNE aS aE kk aM X0 T C H R DR RE P LP wP vP Y N NE S E Ks M LM))) (X0 : Mem) (T : Mem) (C : Mem) (H : Mem) (R : Mem) (DR : Mem) (RE : Mem) (P : Mem) (LP : MemL) (wP : Bool) (vP : Bool) (Y : Mem) (N : Mem) (NE : Mem) (S : Mem) (E : Mem) (Ks : (Nat → Mem)) (M : Mem) (LM : MemL) (hRel : Rel M T C H Y N S Ks wP vP) : Jm p l e room_1 s m args below meth c D A 4 Z ce sl 323 (lvL b (aX0 0) (aM 0) i) [] (cat (lW ct aX0 aT aC aH aR aDR aRE aP aY aN aNE aS aE kk aM X0 T C H R DR RE P LP wP vP Y N NE S E Ks M LM)) := by
  obtain ⟨σ, a, h, ra, hN, hY, hS, hw⟩ := hRel
  obtain ⟨v, T', M', e1, e2, ra'⟩ := m_back (X0 := X0) (LM := LM) (T := T) (H := H) ra (F := 10000) (xa xs i 1)
  refine j_aload_n X 1 dL_law_323 rfl rfl ?_
  refine j_arg X hX hbl hbA 1 h1 dL_law_324 dL_law_325 dL_law_326 dL_law_327 dL_law_328 rfl ?_
  refine j_cci X [.int (xa xs i 1)] [] (lW ct aX0 aT aC aH aR aDR aRE aP aY aN aNE aS aE kk aM X0 T C H R DR RE P LP wP vP Y N NE S E Ks M LM) [w_X ct aX0 aT aC aH aR aP aY aN aS aE X0, w_Tape ct aT T] [0, 1] (fun z => [w_X ct aX0 aT aC aH aR aP aY aN aS aE X0, w_Tape ct aT z.2]) 0 0 9 (v, T') e1 rfl rfl rfl cl_L_18 (c_X9_back l D ct 10000 aX0 aT aC aH aR aDR aRE aP aY aN aNE aS aE kk X0 T (xa xs i 1)) rfl (by decide) (lc rfl (lc fa_Tape (rfl))) rfl ⟨by decide, by decide⟩ (Nat.le_of_ble_eq_true rfl) rfl dL_law_329 hroom ?_
  refine j_ws (cat (lW ct aX0 aT aC aH aR aDR aRE aP aY aN aNE aS aE kk aM X0 T' C H R DR RE P LP wP vP Y N NE S E Ks M LM)) rfl ?_
  refine j_aload_n X 2 dL_law_332 rfl rfl ?_
  refine j_arg X hX hbl hbA 1 h1 dL_law_333 dL_law_334 dL_law_335 dL_law_336 dL_law_337 rfl ?_
  refine j_cci X [.int (xa xs i 1)] [.int v] (lW ct aX0 aT aC aH aR aDR aRE aP aY aN aNE aS aE kk aM X0 T' C H R DR RE P LP wP vP Y N NE S E Ks M LM) [w_Model ct aM M LM] [25] (fun z => [w_Model ct aM z.2 LM]) 25 0 10 (v, M') e2 rfl rfl rfl cl_L_22 (c_X10_back l D ct 10000 aM M LM (xa xs i 1)) rfl (by decide) (lc fa_Model (rfl)) rfl ⟨by decide, by decide⟩ (Nat.le_of_ble_eq_true rfl) rfl dL_law_338 hroom ?_
  refine j_ws (cat (lW ct aX0 aT aC aH aR aDR aRE aP aY aN aNE aS aE kk aM X0 T' C H R DR RE P LP wP vP Y N NE S E Ks M' LM)) rfl ?_
  refine j_icmp_eq X (x := v) dL_law_341 rfl ?_
  refine K X0 T' C H R DR RE P LP wP vP Y N NE S E Ks M' LM ?_
  exact ⟨σ, a, h, ra', hN, hY, hS, hw⟩

set_option maxRecDepth 100000 in
set_option maxHeartbeats 4000000 in
theorem lc_2 {p : Program} {l : Launch} {e : Env} {s : State} {m : MethodId} {args : Array Value} {below : List Frame} {meth : Method} {c : Code} {D : va_G} {ct : im_ct} {A : Nat → Prop} {Z : State → Prop} {ce sl b L : Nat} {xs : Nat → Int32} {i : Int32} (X : im_X p room_1 s m args meth c D ct A RL cL_law 4 (some .boolean)) (hroom : ce ≤ room_1.cells ∧ sl ≤ room_1.slots) (hX : va_X b L xs s s.heap) (hbl : b < s.heap.size) (hbA : ¬ A b) (h1 : vp_in (i + 1) L) (h2 : vp_in (i + 2) L) (h3 : vp_in (i + 3) L) (h4 : vp_in (i + 4) L) (h5 : vp_in (i + 5) L) (aX0 aT aC aH aR aDR aRE aP aY aN aNE aS aE : Nat → Nat) (kk : Nat → Nat → Nat) (aM : Nat → Nat) (K : ∀ (X0 : Mem) (T : Mem) (C : Mem) (H : Mem) (R : Mem) (DR : Mem) (RE : Mem) (P : Mem) (LP : MemL) (wP : Bool) (vP : Bool) (Y : Mem) (N : Mem) (NE : Mem) (S : Mem) (E : Mem) (Ks : (Nat → Mem)) (M : Mem) (LM : MemL), Rel M T C H Y N S Ks wP vP → Jm p l e room_1 s m args below meth c D A 4 Z ce sl 1848 (lvL b (aX0 0) (aM 0) i) [] (cat (lW ct aX0 aT aC aH aR aDR aRE aP aY aN aNE aS aE kk aM X0 T C H R DR RE P LP wP vP Y N NE S E Ks M LM))) (X0 : Mem) (T : Mem) (C : Mem) (H : Mem) (R : Mem) (DR : Mem) (RE : Mem) (P : Mem) (LP : MemL) (wP : Bool) (vP : Bool) (Y : Mem) (N : Mem) (NE : Mem) (S : Mem) (E : Mem) (Ks : (Nat → Mem)) (M : Mem) (LM : MemL) (hRel : Rel M T C H Y N S Ks wP vP) : Jm p l e room_1 s m args below meth c D A 4 Z ce sl 346 (lvL b (aX0 0) (aM 0) i) [] (cat (lW ct aX0 aT aC aH aR aDR aRE aP aY aN aNE aS aE kk aM X0 T C H R DR RE P LP wP vP Y N NE S E Ks M LM)) := by
  obtain ⟨σ, a, h, ra, hN, hY, hS, hw⟩ := hRel
  obtain ⟨v, T', C', H', R', DR', RE', Y', N', S', M', e1, e2, hO⟩ := m_text (X0 := X0) (LM := LM) (R := R) (DR := DR) (RE := RE) (Y := Y) (N := N) (S := S) (T := T) (H := H) ra (F := 10000) (by decide) 
  refine j_aload_n X 1 dL_law_346 rfl rfl ?_
  refine j_cci X [] [] (lW ct aX0 aT aC aH aR aDR aRE aP aY aN aNE aS aE kk aM X0 T C H R DR RE P LP wP vP Y N NE S E Ks M LM) [w_X ct aX0 aT aC aH aR aP aY aN aS aE X0, w_Tape ct aT T, w_Cloth ct aC C, w_Past ct aH kk H, w_Reader ct aR aDR aRE aT R, w_Cloth ct aDR DR, w_Effect ct aRE RE, w_Payment ct aY Y, w_Inquest ct aN aNE N, w_Scribe ct aS S] [0, 1, 2, 3, 4, 5, 6, 8, 9, 11] (fun z => [w_X ct aX0 aT aC aH aR aP aY aN aS aE X0, w_Tape ct aT z.2.1, w_Cloth ct aC z.2.2.1, w_Past ct aH kk z.2.2.2.1, w_Reader ct aR aDR aRE aT z.2.2.2.2.1, w_Cloth ct aDR z.2.2.2.2.2.1, w_Effect ct aRE z.2.2.2.2.2.2.1, w_Payment ct aY z.2.2.2.2.2.2.2.1, w_Inquest ct aN aNE z.2.2.2.2.2.2.2.2.1, w_Scribe ct aS z.2.2.2.2.2.2.2.2.2]) 0 0 9 (v, T', C', H', R', DR', RE', Y', N', S') e1 rfl rfl rfl cl_L_23 (c_X9_text l D ct 10000 aX0 aT aC aH aR aDR aRE aP aY aN aNE aS aE kk X0 T C H R DR RE Y N S ) rfl (by decide) (lc rfl (lc fa_Tape (lc fa_Cloth (lc fa_Past (lc fa_Reader (lc fa_Cloth (lc fa_Effect (lc fa_Payment (lc fa_Inquest (lc fa_Scribe (rfl))))))))))) rfl ⟨by decide, by decide⟩ (Nat.le_of_ble_eq_true rfl) rfl dL_law_347 hroom ?_
  refine j_ws (cat (lW ct aX0 aT aC aH aR aDR aRE aP aY aN aNE aS aE kk aM X0 T' C' H' R' DR' RE' P LP wP vP Y' N' NE S' E Ks M LM)) rfl ?_
  refine j_aload_n X 2 dL_law_350 rfl rfl ?_
  refine j_cci X [] [.int v] (lW ct aX0 aT aC aH aR aDR aRE aP aY aN aNE aS aE kk aM X0 T' C' H' R' DR' RE' P LP wP vP Y' N' NE S' E Ks M LM) [w_Model ct aM M LM] [25] (fun z => [w_Model ct aM z.2 LM]) 25 0 10 (v, M') e2 rfl rfl rfl cl_L_27 (c_X10_text l D ct 10000 aM M LM ) rfl (by decide) (lc fa_Model (rfl)) rfl ⟨by decide, by decide⟩ (Nat.le_of_ble_eq_true rfl) rfl dL_law_351 hroom ?_
  refine j_ws (cat (lW ct aX0 aT aC aH aR aDR aRE aP aY aN aNE aS aE kk aM X0 T' C' H' R' DR' RE' P LP wP vP Y' N' NE S' E Ks M' LM)) rfl ?_
  refine j_icmp_eq X (x := v) dL_law_354 rfl ?_
  refine K X0 T' C' H' R' DR' RE' P LP wP vP Y' N' NE S' E Ks M' LM ?_
  rcases hO with ⟨rfl, rfl, rfl, rfl, rfl, ra'⟩ | ⟨σ', a', h', ra', fg⟩
  · exact ⟨σ, a, h, ra', hN, hY, hS, hw⟩
  · exact ⟨σ', a', h', ra', Fg_N _ fg, Fg_Y _ fg, Fg_S _ fg, hw⟩

