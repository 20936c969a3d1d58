/-! the law's switch, case by case -/
theorem lc_0 {p : Program} {l : Launch} {e : Env} {s : State} {m : MethodId} {args : Array Value} {below : List Frame} {meth : Method} {c : Code} {Q : State → Prop} {G : Gl} {L : List Nat} {ad ma : Nat → Nat} {o b9 b Ls i cells slots th : Nat} {xs : Nat → Int32} {F : Nat → va_E} {f : Nat → Int64} {A : AB} {H : Heap} {locs : List Loc} {ls : Array Slot} (hst : l.stackTraces = false) (I : LI p s m args c G L ad o b9 ma b Ls xs i A th F f H locs ls) (hcs : cells + 1 ≤ room_1.cells ∧ slots + 6 ≤ room_1.slots) (kk : LKK p l e s m args below meth c Q G L ad o b9 ma b i cells slots) : W p l e room_1 s m args below meth c H locs cells slots Q (F0 m 180 ls []) := by
  obtain ⟨C0, hXw, hS, hSc, hbl, hbA, hLs, hA, hC, hw, hX, hM, hO, hi, hl⟩ := I
  have hx := C0.x
  have hb := C0.b
  obtain ⟨kx, A1, v, hk4, hA1, hC1, hWr, hMo⟩ := sc_cut l hst G L ad o b9 ma hS A hA hC (xs (i + 1))
  refine lv_aload_n hx hb dL_law_180 rfl (lv_at hl 1 rfl) ?_
  refine q_arg C0 hw hSc hbl hbA (k := 1) (by omega) hLs (lv_at hl 0 rfl) (lv_at hl 4 rfl) dL_law_181 dL_law_182 dL_law_184 rfl dL_law_185 dL_law_186 ?_
  refine lv_aload_n hx hb dL_law_187 rfl (lv_at hl 3 rfl) ?_
  refine q_callw hw (q_runW (As := [.ref (ad 0), .int (xs (i + 1)), .ref o]) (rest := []) (hWr F f hX hO) C0 hXw hw tw_L_107 rfl hl.1 rfl (by decide) dL_law_188 ⟨by decide, by decide⟩ hcs) (fun r F1 H1 locs1 hw1 hp => ?_)
  obtain ⟨hr, hX1, ⟨f1, hO1, hv1⟩, fr1⟩ := hp
  subst hr
  refine lv_istore hx hb dL_law_191 hl (by decide) rfl (fun ls1 hl1 => ?_)
  have hM1 : MW G F1 b9 ma A th := lst_m hS fr1 hM
  obtain ⟨mi, hh, zf, hfb, -, -⟩ := hM1.ob
  refine lv_aload_n hx hb dL_law_193 rfl (lv_at hl1 3 rfl) ?_
  refine q_arg C0 hw1 hSc hbl hbA (k := 1) (by omega) hLs (lv_at hl1 1 rfl) (lv_at hl1 5 rfl) dL_law_194 dL_law_195 dL_law_197 rfl dL_law_198 dL_law_199 ?_
  refine q_calli hw1 (q_runV (As := [.int (xs (i + 1))]) (hMo F1 th hM1) C0 hw1 vw_L_112 hS.2.2.1 hfb rfl rfl rfl hl1.1 rfl (by decide) dL_law_200 ⟨by decide, by decide⟩ hcs) rfl rfl (fun r2 F2 H2 locs2 hw2 hp2 => ?_)
  obtain ⟨hr2, hM2, fr2⟩ := hp2
  refine lv_istore hx hb dL_law_203 hl1 (by decide) rfl (fun ls2 hl2 => ?_)
  refine q_tail (a := ad 0) (v := v) (tgt := 2177) C0 hw2 hS.2.2.1 hS.2.2.2.1 hS.2.2.2.2.1 hM2 hk4 (lst_o hS fr2 hO1) hv1 hr2 hl2 ⟨by decide, by decide⟩ hcs dL_law_205 dL_law_206 dL_law_209 dL_law_211 dL_law_216 dL_law_218 dL_law_221 dL_law_222 dL_law_223 dL_law_224 dL_law_226 dL_law_227 dL_law_228 dL_law_233 (by decide) (fun F3 H3 locs3 hw3 e3 => ?_)
  exact kk A1 kx F3 f1 H3 locs3 ls2 hA1 hC1 hw3 (lst_x hS fr2 e3 hX1) (hM2.keep (e3 _) (fun _ _ => e3 _)) ((e3 o).trans (lst_o hS fr2 hO1)) (lv_sub hl2 [2, 3, 4, 5, 6] rfl)
theorem lc_1 {p : Program} {l : Launch} {e : Env} {s : State} {m : MethodId} {args : Array Value} {below : List Frame} {meth : Method} {c : Code} {Q : State → Prop} {G : Gl} {L : List Nat} {ad ma : Nat → Nat} {o b9 b Ls i cells slots th : Nat} {xs : Nat → Int32} {F : Nat → va_E} {f : Nat → Int64} {A : AB} {H : Heap} {locs : List Loc} {ls : Array Slot} (hst : l.stackTraces = false) (I : LI p s m args c G L ad o b9 ma b Ls xs i A th F f H locs ls) (hcs : cells + 1 ≤ room_1.cells ∧ slots + 6 ≤ room_1.slots) (kk : LKK p l e s m args below meth c Q G L ad o b9 ma b i cells slots) : W p l e room_1 s m args below meth c H locs cells slots Q (F0 m 236 ls []) := by
  obtain ⟨C0, hXw, hS, hSc, hbl, hbA, hLs, hA, hC, hw, hX, hM, hO, hi, hl⟩ := I
  have hx := C0.x
  have hb := C0.b
  obtain ⟨kx, A1, v, hk4, hA1, hC1, hWr, hMo⟩ := sc_setField l hst G L ad o b9 ma hS A hA hC (xs (i + 1)) (xs (i + 2)) (xs (i + 3))
  refine lv_aload_n hx hb dL_law_236 rfl (lv_at hl 1 rfl) ?_
  refine q_arg C0 hw hSc hbl hbA (k := 1) (by omega) hLs (lv_at hl 0 rfl) (lv_at hl 4 rfl) dL_law_237 dL_law_238 dL_law_240 rfl dL_law_241 dL_law_242 ?_
  refine q_arg C0 hw hSc hbl hbA (k := 2) (by omega) hLs (lv_at hl 0 rfl) (lv_at hl 4 rfl) dL_law_243 dL_law_244 dL_law_246 rfl dL_law_247 dL_law_248 ?_
  refine q_arg C0 hw hSc hbl hbA (k := 3) (by omega) hLs (lv_at hl 0 rfl) (lv_at hl 4 rfl) dL_law_249 dL_law_250 dL_law_252 rfl dL_law_253 dL_law_254 ?_
  refine lv_aload_n hx hb dL_law_255 rfl (lv_at hl 3 rfl) ?_
  refine q_callw hw (q_runW (As := [.ref (ad 0), .int (xs (i + 1)), .int (xs (i + 2)), .int (xs (i + 3)), .ref o]) (rest := []) (hWr F f hX hO) C0 hXw hw tw_L_116 rfl hl.1 rfl (by decide) dL_law_256 ⟨by decide, by decide⟩ hcs) (fun r F1 H1 locs1 hw1 hp => ?_)
  obtain ⟨hr, hX1, ⟨f1, hO1, hv1⟩, fr1⟩ := hp
  subst hr
  refine lv_istore hx hb dL_law_259 hl (by decide) rfl (fun ls1 hl1 => ?_)
  have hM1 : MW G F1 b9 ma A th := lst_m hS fr1 hM
  obtain ⟨mi, hh, zf, hfb, -, -⟩ := hM1.ob
  refine lv_aload_n hx hb dL_law_261 rfl (lv_at hl1 3 rfl) ?_
  refine q_arg C0 hw1 hSc hbl hbA (k := 1) (by omega) hLs (lv_at hl1 1 rfl) (lv_at hl1 5 rfl) dL_law_262 dL_law_263 dL_law_265 rfl dL_law_266 dL_law_267 ?_
  refine q_arg C0 hw1 hSc hbl hbA (k := 2) (by omega) hLs (lv_at hl1 1 rfl) (lv_at hl1 5 rfl) dL_law_268 dL_law_269 dL_law_271 rfl dL_law_272 dL_law_273 ?_
  refine q_arg C0 hw1 hSc hbl hbA (k := 3) (by omega) hLs (lv_at hl1 1 rfl) (lv_at hl1 5 rfl) dL_law_274 dL_law_275 dL_law_277 rfl dL_law_278 dL_law_279 ?_
  refine q_calli hw1 (q_runV (As := [.int (xs (i + 1)), .int (xs (i + 2)), .int (xs (i + 3))]) (hMo F1 th hM1) C0 hw1 vw_L_119 hS.2.2.1 hfb rfl rfl rfl hl1.1 rfl (by decide) dL_law_280 ⟨by decide, by decide⟩ hcs) rfl rfl (fun r2 F2 H2 locs2 hw2 hp2 => ?_)
  obtain ⟨hr2, hM2, fr2⟩ := hp2
  refine lv_istore hx hb dL_law_283 hl1 (by decide) rfl (fun ls2 hl2 => ?_)
  refine q_tail (a := ad 0) (v := v) (tgt := 2177) C0 hw2 hS.2.2.1 hS.2.2.2.1 hS.2.2.2.2.1 hM2 hk4 (lst_o hS fr2 hO1) hv1 hr2 hl2 ⟨by decide, by decide⟩ hcs dL_law_285 dL_law_286 dL_law_289 dL_law_291 dL_law_296 dL_law_298 dL_law_301 dL_law_302 dL_law_303 dL_law_304 dL_law_306 dL_law_307 dL_law_308 dL_law_313 (by decide) (fun F3 H3 locs3 hw3 e3 => ?_)
  exact kk A1 kx F3 f1 H3 locs3 ls2 hA1 hC1 hw3 (lst_x hS fr2 e3 hX1) (hM2.keep (e3 _) (fun _ _ => e3 _)) ((e3 o).trans (lst_o hS fr2 hO1)) (lv_sub hl2 [2, 3, 4, 5, 6] rfl)
theorem lc_2 {p : Program} {l : Launch} {e : Env} {s : State} {m : MethodId} {args : Array Value} {below : List Frame} {meth : Method} {c : Code} {Q : State → Prop} {G : Gl} {L : List Nat} {ad ma : Nat → Nat} {o b9 b Ls i cells slots th : Nat} {xs : Nat → Int32} {F : Nat → va_E} {f : Nat → Int64} {A : AB} {H : Heap} {locs : List Loc} {ls : Array Slot} (hst : l.stackTraces = false) (I : LI p s m args c G L ad o b9 ma b Ls xs i A th F f H locs ls) (hcs : cells + 1 ≤ room_1.cells ∧ slots + 6 ≤ room_1.slots) (kk : LKK p l e s m args below meth c Q G L ad o b9 ma b i cells slots) : W p l e room_1 s m args below meth c H locs cells slots Q (F0 m 316 ls []) := by
  obtain ⟨C0, hXw, hS, hSc, hbl, hbA, hLs, hA, hC, hw, hX, hM, hO, hi, hl⟩ := I
  have hx := C0.x
  have hb := C0.b
  obtain ⟨kx, A1, v, hk4, hA1, hC1, hWr, hMo⟩ := sc_setFlow l hst G L ad o b9 ma hS A hA hC (xs (i + 1)) (xs (i + 2)) (xs (i + 3))
  refine lv_aload_n hx hb dL_law_316 rfl (lv_at hl 1 rfl) ?_
  refine q_arg C0 hw hSc hbl hbA (k := 1) (by omega) hLs (lv_at hl 0 rfl) (lv_at hl 4 rfl) dL_law_317 dL_law_318 dL_law_320 rfl dL_law_321 dL_law_322 ?_
  refine q_arg C0 hw hSc hbl hbA (k := 2) (by omega) hLs (lv_at hl 0 rfl) (lv_at hl 4 rfl) dL_law_323 dL_law_324 dL_law_326 rfl dL_law_327 dL_law_328 ?_
  refine q_arg C0 hw hSc hbl hbA (k := 3) (by omega) hLs (lv_at hl 0 rfl) (lv_at hl 4 rfl) dL_law_329 dL_law_330 dL_law_332 rfl dL_law_333 dL_law_334 ?_
  refine lv_aload_n hx hb dL_law_335 rfl (lv_at hl 3 rfl) ?_
  refine q_callw hw (q_runW (As := [.ref (ad 0), .int (xs (i + 1)), .int (xs (i + 2)), .int (xs (i + 3)), .ref o]) (rest := []) (hWr F f hX hO) C0 hXw hw tw_L_120 rfl hl.1 rfl (by decide) dL_law_336 ⟨by decide, by decide⟩ hcs) (fun r F1 H1 locs1 hw1 hp => ?_)
  obtain ⟨hr, hX1, ⟨f1, hO1, hv1⟩, fr1⟩ := hp
  subst hr
  refine lv_istore hx hb dL_law_339 hl (by decide) rfl (fun ls1 hl1 => ?_)
  have hM1 : MW G F1 b9 ma A th := lst_m hS fr1 hM
  obtain ⟨mi, hh, zf, hfb, -, -⟩ := hM1.ob
  refine lv_aload_n hx hb dL_law_341 rfl (lv_at hl1 3 rfl) ?_
  refine q_arg C0 hw1 hSc hbl hbA (k := 1) (by omega) hLs (lv_at hl1 1 rfl) (lv_at hl1 5 rfl) dL_law_342 dL_law_343 dL_law_345 rfl dL_law_346 dL_law_347 ?_
  refine q_arg C0 hw1 hSc hbl hbA (k := 2) (by omega) hLs (lv_at hl1 1 rfl) (lv_at hl1 5 rfl) dL_law_348 dL_law_349 dL_law_351 rfl dL_law_352 dL_law_353 ?_
  refine q_arg C0 hw1 hSc hbl hbA (k := 3) (by omega) hLs (lv_at hl1 1 rfl) (lv_at hl1 5 rfl) dL_law_354 dL_law_355 dL_law_357 rfl dL_law_358 dL_law_359 ?_
  refine q_calli hw1 (q_runV (As := [.int (xs (i + 1)), .int (xs (i + 2)), .int (xs (i + 3))]) (hMo F1 th hM1) C0 hw1 vw_L_122 hS.2.2.1 hfb rfl rfl rfl hl1.1 rfl (by decide) dL_law_360 ⟨by decide, by decide⟩ hcs) rfl rfl (fun r2 F2 H2 locs2 hw2 hp2 => ?_)
  obtain ⟨hr2, hM2, fr2⟩ := hp2
  refine lv_istore hx hb dL_law_363 hl1 (by decide) rfl (fun ls2 hl2 => ?_)
  refine q_tail (a := ad 0) (v := v) (tgt := 2177) C0 hw2 hS.2.2.1 hS.2.2.2.1 hS.2.2.2.2.1 hM2 hk4 (lst_o hS fr2 hO1) hv1 hr2 hl2 ⟨by decide, by decide⟩ hcs dL_law_365 dL_law_366 dL_law_369 dL_law_371 dL_law_376 dL_law_378 dL_law_381 dL_law_382 dL_law_383 dL_law_384 dL_law_386 dL_law_387 dL_law_388 dL_law_393 (by decide) (fun F3 H3 locs3 hw3 e3 => ?_)
  exact kk A1 kx F3 f1 H3 locs3 ls2 hA1 hC1 hw3 (lst_x hS fr2 e3 hX1) (hM2.keep (e3 _) (fun _ _ => e3 _)) ((e3 o).trans (lst_o hS fr2 hO1)) (lv_sub hl2 [2, 3, 4, 5, 6] rfl)
theorem lc_3 {p : Program} {l : Launch} {e : Env} {s : State} {m : MethodId} {args : Array Value} {below : List Frame} {meth : Method} {c : Code} {Q : State → Prop} {G : Gl} {L : List Nat} {ad ma : Nat → Nat} {o b9 b Ls i cells slots th : Nat} {xs : Nat → Int32} {F : Nat → va_E} {f : Nat → Int64} {A : AB} {H : Heap} {locs : List Loc} {ls : Array Slot} (hst : l.stackTraces = false) (I : LI p s m args c G L ad o b9 ma b Ls xs i A th F f H locs ls) (hcs : cells + 1 ≤ room_1.cells ∧ slots + 6 ≤ room_1.slots) (kk : LKK p l e s m args below meth c Q G L ad o b9 ma b i cells slots) : W p l e room_1 s m args below meth c H locs cells slots Q (F0 m 396 ls []) := by
  obtain ⟨C0, hXw, hS, hSc, hbl, hbA, hLs, hA, hC, hw, hX, hM, hO, hi, hl⟩ := I
  have hx := C0.x
  have hb := C0.b
  obtain ⟨kx, A1, v, hk4, hA1, hC1, hWr, hMo⟩ := sc_earn l hst G L ad o b9 ma hS A hA hC (xs (i + 1))
  refine lv_aload_n hx hb dL_law_396 rfl (lv_at hl 1 rfl) ?_
  refine q_arg C0 hw hSc hbl hbA (k := 1) (by omega) hLs (lv_at hl 0 rfl) (lv_at hl 4 rfl) dL_law_397 dL_law_398 dL_law_400 rfl dL_law_401 dL_law_402 ?_
  refine lv_aload_n hx hb dL_law_403 rfl (lv_at hl 3 rfl) ?_
  refine q_callw hw (q_runW (As := [.ref (ad 0), .int (xs (i + 1)), .ref o]) (rest := []) (hWr F f hX hO) C0 hXw hw tw_L_123 rfl hl.1 rfl (by decide) dL_law_404 ⟨by decide, by decide⟩ hcs) (fun r F1 H1 locs1 hw1 hp => ?_)
  obtain ⟨hr, hX1, ⟨f1, hO1, hv1⟩, fr1⟩ := hp
  subst hr
  refine lv_istore hx hb dL_law_407 hl (by decide) rfl (fun ls1 hl1 => ?_)
  have hM1 : MW G F1 b9 ma A th := lst_m hS fr1 hM
  obtain ⟨mi, hh, zf, hfb, -, -⟩ := hM1.ob
  refine lv_aload_n hx hb dL_law_409 rfl (lv_at hl1 3 rfl) ?_
  refine q_arg C0 hw1 hSc hbl hbA (k := 1) (by omega) hLs (lv_at hl1 1 rfl) (lv_at hl1 5 rfl) dL_law_410 dL_law_411 dL_law_413 rfl dL_law_414 dL_law_415 ?_
  refine q_calli hw1 (q_runV (As := [.int (xs (i + 1))]) (hMo F1 th hM1) C0 hw1 vw_L_125 hS.2.2.1 hfb rfl rfl rfl hl1.1 rfl (by decide) dL_law_416 ⟨by decide, by decide⟩ hcs) rfl rfl (fun r2 F2 H2 locs2 hw2 hp2 => ?_)
  obtain ⟨hr2, hM2, fr2⟩ := hp2
  refine lv_istore hx hb dL_law_419 hl1 (by decide) rfl (fun ls2 hl2 => ?_)
  refine q_tail (a := ad 0) (v := v) (tgt := 2177) C0 hw2 hS.2.2.1 hS.2.2.2.1 hS.2.2.2.2.1 hM2 hk4 (lst_o hS fr2 hO1) hv1 hr2 hl2 ⟨by decide, by decide⟩ hcs dL_law_421 dL_law_422 dL_law_425 dL_law_427 dL_law_432 dL_law_434 dL_law_437 dL_law_438 dL_law_439 dL_law_440 dL_law_442 dL_law_443 dL_law_444 dL_law_449 (by decide) (fun F3 H3 locs3 hw3 e3 => ?_)
  exact kk A1 kx F3 f1 H3 locs3 ls2 hA1 hC1 hw3 (lst_x hS fr2 e3 hX1) (hM2.keep (e3 _) (fun _ _ => e3 _)) ((e3 o).trans (lst_o hS fr2 hO1)) (lv_sub hl2 [2, 3, 4, 5, 6] rfl)
theorem lc_4 {p : Program} {l : Launch} {e : Env} {s : State} {m : MethodId} {args : Array Value} {below : List Frame} {meth : Method} {c : Code} {Q : State → Prop} {G : Gl} {L : List Nat} {ad ma : Nat → Nat} {o b9 b Ls i cells slots th : Nat} {xs : Nat → Int32} {F : Nat → va_E} {f : Nat → Int64} {A : AB} {H : Heap} {locs : List Loc} {ls : Array Slot} (hst : l.stackTraces = false) (I : LI p s m args c G L ad o b9 ma b Ls xs i A th F f H locs ls) (hcs : cells + 1 ≤ room_1.cells ∧ slots + 6 ≤ room_1.slots) (kk : LKK p l e s m args below meth c Q G L ad o b9 ma b i cells slots) : W p l e room_1 s m args below meth c H locs cells slots Q (F0 m 452 ls []) := by
  obtain ⟨C0, hXw, hS, hSc, hbl, hbA, hLs, hA, hC, hw, hX, hM, hO, hi, hl⟩ := I
  have hx := C0.x
  have hb := C0.b
  obtain ⟨kx, A1, v, hk4, hA1, hC1, hWr, hMo⟩ := sc_bracket l hst G L ad o b9 ma hS A hA hC (xs (i + 1)) (xs (i + 2)) (xs (i + 3))
  refine lv_aload_n hx hb dL_law_452 rfl (lv_at hl 1 rfl) ?_
  refine q_arg C0 hw hSc hbl hbA (k := 1) (by omega) hLs (lv_at hl 0 rfl) (lv_at hl 4 rfl) dL_law_453 dL_law_454 dL_law_456 rfl dL_law_457 dL_law_458 ?_
  refine q_arg C0 hw hSc hbl hbA (k := 2) (by omega) hLs (lv_at hl 0 rfl) (lv_at hl 4 rfl) dL_law_459 dL_law_460 dL_law_462 rfl dL_law_463 dL_law_464 ?_
  refine q_arg C0 hw hSc hbl hbA (k := 3) (by omega) hLs (lv_at hl 0 rfl) (lv_at hl 4 rfl) dL_law_465 dL_law_466 dL_law_468 rfl dL_law_469 dL_law_470 ?_
  refine lv_aload_n hx hb dL_law_471 rfl (lv_at hl 3 rfl) ?_
  refine q_callw hw (q_runW (As := [.ref (ad 0), .int (xs (i + 1)), .int (xs (i + 2)), .int (xs (i + 3)), .ref o]) (rest := []) (hWr F f hX hO) C0 hXw hw tw_L_126 rfl hl.1 rfl (by decide) dL_law_472 ⟨by decide, by decide⟩ hcs) (fun r F1 H1 locs1 hw1 hp => ?_)
  obtain ⟨hr, hX1, ⟨f1, hO1, hv1⟩, fr1⟩ := hp
  subst hr
  refine lv_istore hx hb dL_law_475 hl (by decide) rfl (fun ls1 hl1 => ?_)
  have hM1 : MW G F1 b9 ma A th := lst_m hS fr1 hM
  obtain ⟨mi, hh, zf, hfb, -, -⟩ := hM1.ob
  refine lv_aload_n hx hb dL_law_477 rfl (lv_at hl1 3 rfl) ?_
  refine q_arg C0 hw1 hSc hbl hbA (k := 1) (by omega) hLs (lv_at hl1 1 rfl) (lv_at hl1 5 rfl) dL_law_478 dL_law_479 dL_law_481 rfl dL_law_482 dL_law_483 ?_
  refine q_arg C0 hw1 hSc hbl hbA (k := 2) (by omega) hLs (lv_at hl1 1 rfl) (lv_at hl1 5 rfl) dL_law_484 dL_law_485 dL_law_487 rfl dL_law_488 dL_law_489 ?_
  refine q_arg C0 hw1 hSc hbl hbA (k := 3) (by omega) hLs (lv_at hl1 1 rfl) (lv_at hl1 5 rfl) dL_law_490 dL_law_491 dL_law_493 rfl dL_law_494 dL_law_495 ?_
  refine q_calli hw1 (q_runV (As := [.int (xs (i + 1)), .int (xs (i + 2)), .int (xs (i + 3))]) (hMo F1 th hM1) C0 hw1 vw_L_128 hS.2.2.1 hfb rfl rfl rfl hl1.1 rfl (by decide) dL_law_496 ⟨by decide, by decide⟩ hcs) rfl rfl (fun r2 F2 H2 locs2 hw2 hp2 => ?_)
  obtain ⟨hr2, hM2, fr2⟩ := hp2
  refine lv_istore hx hb dL_law_499 hl1 (by decide) rfl (fun ls2 hl2 => ?_)
  refine q_tail (a := ad 0) (v := v) (tgt := 2177) C0 hw2 hS.2.2.1 hS.2.2.2.1 hS.2.2.2.2.1 hM2 hk4 (lst_o hS fr2 hO1) hv1 hr2 hl2 ⟨by decide, by decide⟩ hcs dL_law_501 dL_law_502 dL_law_505 dL_law_507 dL_law_512 dL_law_514 dL_law_517 dL_law_518 dL_law_519 dL_law_520 dL_law_522 dL_law_523 dL_law_524 dL_law_529 (by decide) (fun F3 H3 locs3 hw3 e3 => ?_)
  exact kk A1 kx F3 f1 H3 locs3 ls2 hA1 hC1 hw3 (lst_x hS fr2 e3 hX1) (hM2.keep (e3 _) (fun _ _ => e3 _)) ((e3 o).trans (lst_o hS fr2 hO1)) (lv_sub hl2 [2, 3, 4, 5, 6] rfl)
theorem lc_5 {p : Program} {l : Launch} {e : Env} {s : State} {m : MethodId} {args : Array Value} {below : List Frame} {meth : Method} {c : Code} {Q : State → Prop} {G : Gl} {L : List Nat} {ad ma : Nat → Nat} {o b9 b Ls i cells slots th : Nat} {xs : Nat → Int32} {F : Nat → va_E} {f : Nat → Int64} {A : AB} {H : Heap} {locs : List Loc} {ls : Array Slot} (hst : l.stackTraces = false) (I : LI p s m args c G L ad o b9 ma b Ls xs i A th F f H locs ls) (hcs : cells + 1 ≤ room_1.cells ∧ slots + 6 ≤ room_1.slots) (kk : LKK p l e s m args below meth c Q G L ad o b9 ma b i cells slots) : W p l e room_1 s m args below meth c H locs cells slots Q (F0 m 532 ls []) := by
  obtain ⟨C0, hXw, hS, hSc, hbl, hbA, hLs, hA, hC, hw, hX, hM, hO, hi, hl⟩ := I
  have hx := C0.x
  have hb := C0.b
  obtain ⟨kx, A1, v, hk4, hA1, hC1, hWr, hMo⟩ := sc_sum l hst G L ad o b9 ma hS A hA hC (xs (i + 1)) (xs (i + 2)) (xs (i + 3))
  refine lv_aload_n hx hb dL_law_532 rfl (lv_at hl 1 rfl) ?_
  refine q_arg C0 hw hSc hbl hbA (k := 1) (by omega) hLs (lv_at hl 0 rfl) (lv_at hl 4 rfl) dL_law_533 dL_law_534 dL_law_536 rfl dL_law_537 dL_law_538 ?_
  refine q_arg C0 hw hSc hbl hbA (k := 2) (by omega) hLs (lv_at hl 0 rfl) (lv_at hl 4 rfl) dL_law_539 dL_law_540 dL_law_542 rfl dL_law_543 dL_law_544 ?_
  refine q_arg C0 hw hSc hbl hbA (k := 3) (by omega) hLs (lv_at hl 0 rfl) (lv_at hl 4 rfl) dL_law_545 dL_law_546 dL_law_548 rfl dL_law_549 dL_law_550 ?_
  refine lv_aload_n hx hb dL_law_551 rfl (lv_at hl 3 rfl) ?_
  refine q_callw hw (q_runW (As := [.ref (ad 0), .int (xs (i + 1)), .int (xs (i + 2)), .int (xs (i + 3)), .ref o]) (rest := []) (hWr F f hX hO) C0 hXw hw tw_L_129 rfl hl.1 rfl (by decide) dL_law_552 ⟨by decide, by decide⟩ hcs) (fun r F1 H1 locs1 hw1 hp => ?_)
  obtain ⟨hr, hX1, ⟨f1, hO1, hv1⟩, fr1⟩ := hp
  subst hr
  refine lv_istore hx hb dL_law_555 hl (by decide) rfl (fun ls1 hl1 => ?_)
  have hM1 : MW G F1 b9 ma A th := lst_m hS fr1 hM
  obtain ⟨mi, hh, zf, hfb, -, -⟩ := hM1.ob
  refine lv_aload_n hx hb dL_law_557 rfl (lv_at hl1 3 rfl) ?_
  refine q_arg C0 hw1 hSc hbl hbA (k := 1) (by omega) hLs (lv_at hl1 1 rfl) (lv_at hl1 5 rfl) dL_law_558 dL_law_559 dL_law_561 rfl dL_law_562 dL_law_563 ?_
  refine q_arg C0 hw1 hSc hbl hbA (k := 2) (by omega) hLs (lv_at hl1 1 rfl) (lv_at hl1 5 rfl) dL_law_564 dL_law_565 dL_law_567 rfl dL_law_568 dL_law_569 ?_
  refine q_arg C0 hw1 hSc hbl hbA (k := 3) (by omega) hLs (lv_at hl1 1 rfl) (lv_at hl1 5 rfl) dL_law_570 dL_law_571 dL_law_573 rfl dL_law_574 dL_law_575 ?_
  refine q_calli hw1 (q_runV (As := [.int (xs (i + 1)), .int (xs (i + 2)), .int (xs (i + 3))]) (hMo F1 th hM1) C0 hw1 vw_L_131 hS.2.2.1 hfb rfl rfl rfl hl1.1 rfl (by decide) dL_law_576 ⟨by decide, by decide⟩ hcs) rfl rfl (fun r2 F2 H2 locs2 hw2 hp2 => ?_)
  obtain ⟨hr2, hM2, fr2⟩ := hp2
  refine lv_istore hx hb dL_law_579 hl1 (by decide) rfl (fun ls2 hl2 => ?_)
  refine q_tail (a := ad 0) (v := v) (tgt := 2177) C0 hw2 hS.2.2.1 hS.2.2.2.1 hS.2.2.2.2.1 hM2 hk4 (lst_o hS fr2 hO1) hv1 hr2 hl2 ⟨by decide, by decide⟩ hcs dL_law_581 dL_law_582 dL_law_585 dL_law_587 dL_law_592 dL_law_594 dL_law_597 dL_law_598 dL_law_599 dL_law_600 dL_law_602 dL_law_603 dL_law_604 dL_law_609 (by decide) (fun F3 H3 locs3 hw3 e3 => ?_)
  exact kk A1 kx F3 f1 H3 locs3 ls2 hA1 hC1 hw3 (lst_x hS fr2 e3 hX1) (hM2.keep (e3 _) (fun _ _ => e3 _)) ((e3 o).trans (lst_o hS fr2 hO1)) (lv_sub hl2 [2, 3, 4, 5, 6] rfl)
theorem lc_6 {p : Program} {l : Launch} {e : Env} {s : State} {m : MethodId} {args : Array Value} {below : List Frame} {meth : Method} {c : Code} {Q : State → Prop} {G : Gl} {L : List Nat} {ad ma : Nat → Nat} {o b9 b Ls i cells slots th : Nat} {xs : Nat → Int32} {F : Nat → va_E} {f : Nat → Int64} {A : AB} {H : Heap} {locs : List Loc} {ls : Array Slot} (hst : l.stackTraces = false) (I : LI p s m args c G L ad o b9 ma b Ls xs i A th F f H locs ls) (hcs : cells + 1 ≤ room_1.cells ∧ slots + 6 ≤ room_1.slots) (kk : LKK p l e s m args below meth c Q G L ad o b9 ma b i cells slots) : W p l e room_1 s m args below meth c H locs cells slots Q (F0 m 612 ls []) := by
  obtain ⟨C0, hXw, hS, hSc, hbl, hbA, hLs, hA, hC, hw, hX, hM, hO, hi, hl⟩ := I
  have hx := C0.x
  have hb := C0.b
  obtain ⟨kx, A1, v, hk4, hA1, hC1, hWr, hMo⟩ := sc_scale l hst G L ad o b9 ma hS A hA hC (xs (i + 1)) (xs (i + 2)) (xs (i + 3))
  refine lv_aload_n hx hb dL_law_612 rfl (lv_at hl 1 rfl) ?_
  refine q_arg C0 hw hSc hbl hbA (k := 1) (by omega) hLs (lv_at hl 0 rfl) (lv_at hl 4 rfl) dL_law_613 dL_law_614 dL_law_616 rfl dL_law_617 dL_law_618 ?_
  refine q_arg C0 hw hSc hbl hbA (k := 2) (by omega) hLs (lv_at hl 0 rfl) (lv_at hl 4 rfl) dL_law_619 dL_law_620 dL_law_622 rfl dL_law_623 dL_law_624 ?_
  refine q_arg C0 hw hSc hbl hbA (k := 3) (by omega) hLs (lv_at hl 0 rfl) (lv_at hl 4 rfl) dL_law_625 dL_law_626 dL_law_628 rfl dL_law_629 dL_law_630 ?_
  refine lv_aload_n hx hb dL_law_631 rfl (lv_at hl 3 rfl) ?_
  refine q_callw hw (q_runW (As := [.ref (ad 0), .int (xs (i + 1)), .int (xs (i + 2)), .int (xs (i + 3)), .ref o]) (rest := []) (hWr F f hX hO) C0 hXw hw tw_L_132 rfl hl.1 rfl (by decide) dL_law_632 ⟨by decide, by decide⟩ hcs) (fun r F1 H1 locs1 hw1 hp => ?_)
  obtain ⟨hr, hX1, ⟨f1, hO1, hv1⟩, fr1⟩ := hp
  subst hr
  refine lv_istore hx hb dL_law_635 hl (by decide) rfl (fun ls1 hl1 => ?_)
  have hM1 : MW G F1 b9 ma A th := lst_m hS fr1 hM
  obtain ⟨mi, hh, zf, hfb, -, -⟩ := hM1.ob
  refine lv_aload_n hx hb dL_law_637 rfl (lv_at hl1 3 rfl) ?_
  refine q_arg C0 hw1 hSc hbl hbA (k := 1) (by omega) hLs (lv_at hl1 1 rfl) (lv_at hl1 5 rfl) dL_law_638 dL_law_639 dL_law_641 rfl dL_law_642 dL_law_643 ?_
  refine q_arg C0 hw1 hSc hbl hbA (k := 2) (by omega) hLs (lv_at hl1 1 rfl) (lv_at hl1 5 rfl) dL_law_644 dL_law_645 dL_law_647 rfl dL_law_648 dL_law_649 ?_
  refine q_arg C0 hw1 hSc hbl hbA (k := 3) (by omega) hLs (lv_at hl1 1 rfl) (lv_at hl1 5 rfl) dL_law_650 dL_law_651 dL_law_653 rfl dL_law_654 dL_law_655 ?_
  refine q_calli hw1 (q_runV (As := [.int (xs (i + 1)), .int (xs (i + 2)), .int (xs (i + 3))]) (hMo F1 th hM1) C0 hw1 vw_L_134 hS.2.2.1 hfb rfl rfl rfl hl1.1 rfl (by decide) dL_law_656 ⟨by decide, by decide⟩ hcs) rfl rfl (fun r2 F2 H2 locs2 hw2 hp2 => ?_)
  obtain ⟨hr2, hM2, fr2⟩ := hp2
  refine lv_istore hx hb dL_law_659 hl1 (by decide) rfl (fun ls2 hl2 => ?_)
  refine q_tail (a := ad 0) (v := v) (tgt := 2177) C0 hw2 hS.2.2.1 hS.2.2.2.1 hS.2.2.2.2.1 hM2 hk4 (lst_o hS fr2 hO1) hv1 hr2 hl2 ⟨by decide, by decide⟩ hcs dL_law_661 dL_law_662 dL_law_665 dL_law_667 dL_law_672 dL_law_674 dL_law_677 dL_law_678 dL_law_679 dL_law_680 dL_law_682 dL_law_683 dL_law_684 dL_law_689 (by decide) (fun F3 H3 locs3 hw3 e3 => ?_)
  exact kk A1 kx F3 f1 H3 locs3 ls2 hA1 hC1 hw3 (lst_x hS fr2 e3 hX1) (hM2.keep (e3 _) (fun _ _ => e3 _)) ((e3 o).trans (lst_o hS fr2 hO1)) (lv_sub hl2 [2, 3, 4, 5, 6] rfl)
theorem lc_7 {p : Program} {l : Launch} {e : Env} {s : State} {m : MethodId} {args : Array Value} {below : List Frame} {meth : Method} {c : Code} {Q : State → Prop} {G : Gl} {L : List Nat} {ad ma : Nat → Nat} {o b9 b Ls i cells slots th : Nat} {xs : Nat → Int32} {F : Nat → va_E} {f : Nat → Int64} {A : AB} {H : Heap} {locs : List Loc} {ls : Array Slot} (hst : l.stackTraces = false) (I : LI p s m args c G L ad o b9 ma b Ls xs i A th F f H locs ls) (hcs : cells + 1 ≤ room_1.cells ∧ slots + 6 ≤ room_1.slots) (kk : LKK p l e s m args below meth c Q G L ad o b9 ma b i cells slots) : W p l e room_1 s m args below meth c H locs cells slots Q (F0 m 692 ls []) := by
  obtain ⟨C0, hXw, hS, hSc, hbl, hbA, hLs, hA, hC, hw, hX, hM, hO, hi, hl⟩ := I
  have hx := C0.x
  have hb := C0.b
  obtain ⟨kx, A1, v, hk4, hA1, hC1, hWr, hMo⟩ := sc_byBrackets l hst G L ad o b9 ma hS A hA hC (xs (i + 1)) (xs (i + 2)) (xs (i + 3))
  refine lv_aload_n hx hb dL_law_692 rfl (lv_at hl 1 rfl) ?_
  refine q_arg C0 hw hSc hbl hbA (k := 1) (by omega) hLs (lv_at hl 0 rfl) (lv_at hl 4 rfl) dL_law_693 dL_law_694 dL_law_696 rfl dL_law_697 dL_law_698 ?_
  refine q_arg C0 hw hSc hbl hbA (k := 2) (by omega) hLs (lv_at hl 0 rfl) (lv_at hl 4 rfl) dL_law_699 dL_law_700 dL_law_702 rfl dL_law_703 dL_law_704 ?_
  refine q_arg C0 hw hSc hbl hbA (k := 3) (by omega) hLs (lv_at hl 0 rfl) (lv_at hl 4 rfl) dL_law_705 dL_law_706 dL_law_708 rfl dL_law_709 dL_law_710 ?_
  refine lv_aload_n hx hb dL_law_711 rfl (lv_at hl 3 rfl) ?_
  refine q_callw hw (q_runW (As := [.ref (ad 0), .int (xs (i + 1)), .int (xs (i + 2)), .int (xs (i + 3)), .ref o]) (rest := []) (hWr F f hX hO) C0 hXw hw tw_L_135 rfl hl.1 rfl (by decide) dL_law_712 ⟨by decide, by decide⟩ hcs) (fun r F1 H1 locs1 hw1 hp => ?_)
  obtain ⟨hr, hX1, ⟨f1, hO1, hv1⟩, fr1⟩ := hp
  subst hr
  refine lv_istore hx hb dL_law_715 hl (by decide) rfl (fun ls1 hl1 => ?_)
  have hM1 : MW G F1 b9 ma A th := lst_m hS fr1 hM
  obtain ⟨mi, hh, zf, hfb, -, -⟩ := hM1.ob
  refine lv_aload_n hx hb dL_law_717 rfl (lv_at hl1 3 rfl) ?_
  refine q_arg C0 hw1 hSc hbl hbA (k := 1) (by omega) hLs (lv_at hl1 1 rfl) (lv_at hl1 5 rfl) dL_law_718 dL_law_719 dL_law_721 rfl dL_law_722 dL_law_723 ?_
  refine q_arg C0 hw1 hSc hbl hbA (k := 2) (by omega) hLs (lv_at hl1 1 rfl) (lv_at hl1 5 rfl) dL_law_724 dL_law_725 dL_law_727 rfl dL_law_728 dL_law_729 ?_
  refine q_arg C0 hw1 hSc hbl hbA (k := 3) (by omega) hLs (lv_at hl1 1 rfl) (lv_at hl1 5 rfl) dL_law_730 dL_law_731 dL_law_733 rfl dL_law_734 dL_law_735 ?_
  refine q_calli hw1 (q_runV (As := [.int (xs (i + 1)), .int (xs (i + 2)), .int (xs (i + 3))]) (hMo F1 th hM1) C0 hw1 vw_L_137 hS.2.2.1 hfb rfl rfl rfl hl1.1 rfl (by decide) dL_law_736 ⟨by decide, by decide⟩ hcs) rfl rfl (fun r2 F2 H2 locs2 hw2 hp2 => ?_)
  obtain ⟨hr2, hM2, fr2⟩ := hp2
  refine lv_istore hx hb dL_law_739 hl1 (by decide) rfl (fun ls2 hl2 => ?_)
  refine q_tail (a := ad 0) (v := v) (tgt := 2177) C0 hw2 hS.2.2.1 hS.2.2.2.1 hS.2.2.2.2.1 hM2 hk4 (lst_o hS fr2 hO1) hv1 hr2 hl2 ⟨by decide, by decide⟩ hcs dL_law_741 dL_law_742 dL_law_745 dL_law_747 dL_law_752 dL_law_754 dL_law_757 dL_law_758 dL_law_759 dL_law_760 dL_law_762 dL_law_763 dL_law_764 dL_law_769 (by decide) (fun F3 H3 locs3 hw3 e3 => ?_)
  exact kk A1 kx F3 f1 H3 locs3 ls2 hA1 hC1 hw3 (lst_x hS fr2 e3 hX1) (hM2.keep (e3 _) (fun _ _ => e3 _)) ((e3 o).trans (lst_o hS fr2 hO1)) (lv_sub hl2 [2, 3, 4, 5, 6] rfl)
theorem lc_8 {p : Program} {l : Launch} {e : Env} {s : State} {m : MethodId} {args : Array Value} {below : List Frame} {meth : Method} {c : Code} {Q : State → Prop} {G : Gl} {L : List Nat} {ad ma : Nat → Nat} {o b9 b Ls i cells slots th : Nat} {xs : Nat → Int32} {F : Nat → va_E} {f : Nat → Int64} {A : AB} {H : Heap} {locs : List Loc} {ls : Array Slot} (hst : l.stackTraces = false) (I : LI p s m args c G L ad o b9 ma b Ls xs i A th F f H locs ls) (hcs : cells + 1 ≤ room_1.cells ∧ slots + 6 ≤ room_1.slots) (kk : LKK p l e s m args below meth c Q G L ad o b9 ma b i cells slots) : W p l e room_1 s m args below meth c H locs cells slots Q (F0 m 772 ls []) := by
  obtain ⟨C0, hXw, hS, hSc, hbl, hbA, hLs, hA, hC, hw, hX, hM, hO, hi, hl⟩ := I
  have hx := C0.x
  have hb := C0.b
  obtain ⟨kx, A1, v, hk4, hA1, hC1, hWr, hMo⟩ := sc_push l hst G L ad o b9 ma hS A hA hC (xs (i + 1)) (xs (i + 2)) (xs (i + 3))
  refine lv_aload_n hx hb dL_law_772 rfl (lv_at hl 1 rfl) ?_
  refine q_arg C0 hw hSc hbl hbA (k := 1) (by omega) hLs (lv_at hl 0 rfl) (lv_at hl 4 rfl) dL_law_773 dL_law_774 dL_law_776 rfl dL_law_777 dL_law_778 ?_
  refine q_arg C0 hw hSc hbl hbA (k := 2) (by omega) hLs (lv_at hl 0 rfl) (lv_at hl 4 rfl) dL_law_779 dL_law_780 dL_law_782 rfl dL_law_783 dL_law_784 ?_
  refine q_arg C0 hw hSc hbl hbA (k := 3) (by omega) hLs (lv_at hl 0 rfl) (lv_at hl 4 rfl) dL_law_785 dL_law_786 dL_law_788 rfl dL_law_789 dL_law_790 ?_
  refine lv_aload_n hx hb dL_law_791 rfl (lv_at hl 3 rfl) ?_
  refine q_callw hw (q_runW (As := [.ref (ad 0), .int (xs (i + 1)), .int (xs (i + 2)), .int (xs (i + 3)), .ref o]) (rest := []) (hWr F f hX hO) C0 hXw hw tw_L_138 rfl hl.1 rfl (by decide) dL_law_792 ⟨by decide, by decide⟩ hcs) (fun r F1 H1 locs1 hw1 hp => ?_)
  obtain ⟨hr, hX1, ⟨f1, hO1, hv1⟩, fr1⟩ := hp
  subst hr
  refine lv_istore hx hb dL_law_795 hl (by decide) rfl (fun ls1 hl1 => ?_)
  have hM1 : MW G F1 b9 ma A th := lst_m hS fr1 hM
  obtain ⟨mi, hh, zf, hfb, -, -⟩ := hM1.ob
  refine lv_aload_n hx hb dL_law_797 rfl (lv_at hl1 3 rfl) ?_
  refine q_arg C0 hw1 hSc hbl hbA (k := 1) (by omega) hLs (lv_at hl1 1 rfl) (lv_at hl1 5 rfl) dL_law_798 dL_law_799 dL_law_801 rfl dL_law_802 dL_law_803 ?_
  refine q_arg C0 hw1 hSc hbl hbA (k := 2) (by omega) hLs (lv_at hl1 1 rfl) (lv_at hl1 5 rfl) dL_law_804 dL_law_805 dL_law_807 rfl dL_law_808 dL_law_809 ?_
  refine q_arg C0 hw1 hSc hbl hbA (k := 3) (by omega) hLs (lv_at hl1 1 rfl) (lv_at hl1 5 rfl) dL_law_810 dL_law_811 dL_law_813 rfl dL_law_814 dL_law_815 ?_
  refine q_calli hw1 (q_runV (As := [.int (xs (i + 1)), .int (xs (i + 2)), .int (xs (i + 3))]) (hMo F1 th hM1) C0 hw1 vw_L_140 hS.2.2.1 hfb rfl rfl rfl hl1.1 rfl (by decide) dL_law_816 ⟨by decide, by decide⟩ hcs) rfl rfl (fun r2 F2 H2 locs2 hw2 hp2 => ?_)
  obtain ⟨hr2, hM2, fr2⟩ := hp2
  refine lv_istore hx hb dL_law_819 hl1 (by decide) rfl (fun ls2 hl2 => ?_)
  refine q_tail (a := ad 0) (v := v) (tgt := 2177) C0 hw2 hS.2.2.1 hS.2.2.2.1 hS.2.2.2.2.1 hM2 hk4 (lst_o hS fr2 hO1) hv1 hr2 hl2 ⟨by decide, by decide⟩ hcs dL_law_821 dL_law_822 dL_law_825 dL_law_827 dL_law_832 dL_law_834 dL_law_837 dL_law_838 dL_law_839 dL_law_840 dL_law_842 dL_law_843 dL_law_844 dL_law_849 (by decide) (fun F3 H3 locs3 hw3 e3 => ?_)
  exact kk A1 kx F3 f1 H3 locs3 ls2 hA1 hC1 hw3 (lst_x hS fr2 e3 hX1) (hM2.keep (e3 _) (fun _ _ => e3 _)) ((e3 o).trans (lst_o hS fr2 hO1)) (lv_sub hl2 [2, 3, 4, 5, 6] rfl)
theorem lc_9 {p : Program} {l : Launch} {e : Env} {s : State} {m : MethodId} {args : Array Value} {below : List Frame} {meth : Method} {c : Code} {Q : State → Prop} {G : Gl} {L : List Nat} {ad ma : Nat → Nat} {o b9 b Ls i cells slots th : Nat} {xs : Nat → Int32} {F : Nat → va_E} {f : Nat → Int64} {A : AB} {H : Heap} {locs : List Loc} {ls : Array Slot} (hst : l.stackTraces = false) (I : LI p s m args c G L ad o b9 ma b Ls xs i A th F f H locs ls) (hcs : cells + 1 ≤ room_1.cells ∧ slots + 6 ≤ room_1.slots) (kk : LKK p l e s m args below meth c Q G L ad o b9 ma b i cells slots) : W p l e room_1 s m args below meth c H locs cells slots Q (F0 m 852 ls []) := by
  obtain ⟨C0, hXw, hS, hSc, hbl, hbA, hLs, hA, hC, hw, hX, hM, hO, hi, hl⟩ := I
  have hx := C0.x
  have hb := C0.b
  obtain ⟨kx, A1, v, hk4, hA1, hC1, hWr, hMo⟩ := sc_log l hst G L ad o b9 ma hS A hA hC (xs (i + 1)) (xs (i + 2))
  refine lv_aload_n hx hb dL_law_852 rfl (lv_at hl 1 rfl) ?_
  refine q_arg C0 hw hSc hbl hbA (k := 1) (by omega) hLs (lv_at hl 0 rfl) (lv_at hl 4 rfl) dL_law_853 dL_law_854 dL_law_856 rfl dL_law_857 dL_law_858 ?_
  refine q_arg C0 hw hSc hbl hbA (k := 2) (by omega) hLs (lv_at hl 0 rfl) (lv_at hl 4 rfl) dL_law_859 dL_law_860 dL_law_862 rfl dL_law_863 dL_law_864 ?_
  refine lv_aload_n hx hb dL_law_865 rfl (lv_at hl 3 rfl) ?_
  refine q_callw hw (q_runW (As := [.ref (ad 0), .int (xs (i + 1)), .int (xs (i + 2)), .ref o]) (rest := []) (hWr F f hX hO) C0 hXw hw tw_L_141 rfl hl.1 rfl (by decide) dL_law_866 ⟨by decide, by decide⟩ hcs) (fun r F1 H1 locs1 hw1 hp => ?_)
  obtain ⟨hr, hX1, ⟨f1, hO1, hv1⟩, fr1⟩ := hp
  subst hr
  refine lv_istore hx hb dL_law_869 hl (by decide) rfl (fun ls1 hl1 => ?_)
  have hM1 : MW G F1 b9 ma A th := lst_m hS fr1 hM
  obtain ⟨mi, hh, zf, hfb, -, -⟩ := hM1.ob
  refine lv_aload_n hx hb dL_law_871 rfl (lv_at hl1 3 rfl) ?_
  refine q_arg C0 hw1 hSc hbl hbA (k := 1) (by omega) hLs (lv_at hl1 1 rfl) (lv_at hl1 5 rfl) dL_law_872 dL_law_873 dL_law_875 rfl dL_law_876 dL_law_877 ?_
  refine q_arg C0 hw1 hSc hbl hbA (k := 2) (by omega) hLs (lv_at hl1 1 rfl) (lv_at hl1 5 rfl) dL_law_878 dL_law_879 dL_law_881 rfl dL_law_882 dL_law_883 ?_
  refine q_calli hw1 (q_runV (As := [.int (xs (i + 1)), .int (xs (i + 2))]) (hMo F1 th hM1) C0 hw1 vw_L_144 hS.2.2.1 hfb rfl rfl rfl hl1.1 rfl (by decide) dL_law_884 ⟨by decide, by decide⟩ hcs) rfl rfl (fun r2 F2 H2 locs2 hw2 hp2 => ?_)
  obtain ⟨hr2, hM2, fr2⟩ := hp2
  refine lv_istore hx hb dL_law_887 hl1 (by decide) rfl (fun ls2 hl2 => ?_)
  refine q_tail (a := ad 0) (v := v) (tgt := 2177) C0 hw2 hS.2.2.1 hS.2.2.2.1 hS.2.2.2.2.1 hM2 hk4 (lst_o hS fr2 hO1) hv1 hr2 hl2 ⟨by decide, by decide⟩ hcs dL_law_889 dL_law_890 dL_law_893 dL_law_895 dL_law_900 dL_law_902 dL_law_905 dL_law_906 dL_law_907 dL_law_908 dL_law_910 dL_law_911 dL_law_912 dL_law_917 (by decide) (fun F3 H3 locs3 hw3 e3 => ?_)
  exact kk A1 kx F3 f1 H3 locs3 ls2 hA1 hC1 hw3 (lst_x hS fr2 e3 hX1) (hM2.keep (e3 _) (fun _ _ => e3 _)) ((e3 o).trans (lst_o hS fr2 hO1)) (lv_sub hl2 [2, 3, 4, 5, 6] rfl)
theorem lc_10 {p : Program} {l : Launch} {e : Env} {s : State} {m : MethodId} {args : Array Value} {below : List Frame} {meth : Method} {c : Code} {Q : State → Prop} {G : Gl} {L : List Nat} {ad ma : Nat → Nat} {o b9 b Ls i cells slots th : Nat} {xs : Nat → Int32} {F : Nat → va_E} {f : Nat → Int64} {A : AB} {H : Heap} {locs : List Loc} {ls : Array Slot} (hst : l.stackTraces = false) (I : LI p s m args c G L ad o b9 ma b Ls xs i A th F f H locs ls) (hcs : cells + 1 ≤ room_1.cells ∧ slots + 6 ≤ room_1.slots) (kk : LKK p l e s m args below meth c Q G L ad o b9 ma b i cells slots) : W p l e room_1 s m args below meth c H locs cells slots Q (F0 m 920 ls []) := by
  obtain ⟨C0, hXw, hS, hSc, hbl, hbA, hLs, hA, hC, hw, hX, hM, hO, hi, hl⟩ := I
  have hx := C0.x
  have hb := C0.b
  obtain ⟨kx, A1, v, hk4, hA1, hC1, hWr, hMo⟩ := sc_exp l hst G L ad o b9 ma hS A hA hC (xs (i + 1)) (xs (i + 2))
  refine lv_aload_n hx hb dL_law_920 rfl (lv_at hl 1 rfl) ?_
  refine q_arg C0 hw hSc hbl hbA (k := 1) (by omega) hLs (lv_at hl 0 rfl) (lv_at hl 4 rfl) dL_law_921 dL_law_922 dL_law_924 rfl dL_law_925 dL_law_926 ?_
  refine q_arg C0 hw hSc hbl hbA (k := 2) (by omega) hLs (lv_at hl 0 rfl) (lv_at hl 4 rfl) dL_law_927 dL_law_928 dL_law_930 rfl dL_law_931 dL_law_932 ?_
  refine lv_aload_n hx hb dL_law_933 rfl (lv_at hl 3 rfl) ?_
  refine q_callw hw (q_runW (As := [.ref (ad 0), .int (xs (i + 1)), .int (xs (i + 2)), .ref o]) (rest := []) (hWr F f hX hO) C0 hXw hw tw_L_145 rfl hl.1 rfl (by decide) dL_law_934 ⟨by decide, by decide⟩ hcs) (fun r F1 H1 locs1 hw1 hp => ?_)
  obtain ⟨hr, hX1, ⟨f1, hO1, hv1⟩, fr1⟩ := hp
  subst hr
  refine lv_istore hx hb dL_law_937 hl (by decide) rfl (fun ls1 hl1 => ?_)
  have hM1 : MW G F1 b9 ma A th := lst_m hS fr1 hM
  obtain ⟨mi, hh, zf, hfb, -, -⟩ := hM1.ob
  refine lv_aload_n hx hb dL_law_939 rfl (lv_at hl1 3 rfl) ?_
  refine q_arg C0 hw1 hSc hbl hbA (k := 1) (by omega) hLs (lv_at hl1 1 rfl) (lv_at hl1 5 rfl) dL_law_940 dL_law_941 dL_law_943 rfl dL_law_944 dL_law_945 ?_
  refine q_arg C0 hw1 hSc hbl hbA (k := 2) (by omega) hLs (lv_at hl1 1 rfl) (lv_at hl1 5 rfl) dL_law_946 dL_law_947 dL_law_949 rfl dL_law_950 dL_law_951 ?_
  refine q_calli hw1 (q_runV (As := [.int (xs (i + 1)), .int (xs (i + 2))]) (hMo F1 th hM1) C0 hw1 vw_L_147 hS.2.2.1 hfb rfl rfl rfl hl1.1 rfl (by decide) dL_law_952 ⟨by decide, by decide⟩ hcs) rfl rfl (fun r2 F2 H2 locs2 hw2 hp2 => ?_)
  obtain ⟨hr2, hM2, fr2⟩ := hp2
  refine lv_istore hx hb dL_law_955 hl1 (by decide) rfl (fun ls2 hl2 => ?_)
  refine q_tail (a := ad 0) (v := v) (tgt := 2177) C0 hw2 hS.2.2.1 hS.2.2.2.1 hS.2.2.2.2.1 hM2 hk4 (lst_o hS fr2 hO1) hv1 hr2 hl2 ⟨by decide, by decide⟩ hcs dL_law_957 dL_law_958 dL_law_961 dL_law_963 dL_law_968 dL_law_970 dL_law_973 dL_law_974 dL_law_975 dL_law_976 dL_law_978 dL_law_979 dL_law_980 dL_law_985 (by decide) (fun F3 H3 locs3 hw3 e3 => ?_)
  exact kk A1 kx F3 f1 H3 locs3 ls2 hA1 hC1 hw3 (lst_x hS fr2 e3 hX1) (hM2.keep (e3 _) (fun _ _ => e3 _)) ((e3 o).trans (lst_o hS fr2 hO1)) (lv_sub hl2 [2, 3, 4, 5, 6] rfl)
theorem lc_11 {p : Program} {l : Launch} {e : Env} {s : State} {m : MethodId} {args : Array Value} {below : List Frame} {meth : Method} {c : Code} {Q : State → Prop} {G : Gl} {L : List Nat} {ad ma : Nat → Nat} {o b9 b Ls i cells slots th : Nat} {xs : Nat → Int32} {F : Nat → va_E} {f : Nat → Int64} {A : AB} {H : Heap} {locs : List Loc} {ls : Array Slot} (hst : l.stackTraces = false) (I : LI p s m args c G L ad o b9 ma b Ls xs i A th F f H locs ls) (hcs : cells + 1 ≤ room_1.cells ∧ slots + 6 ≤ room_1.slots) (kk : LKK p l e s m args below meth c Q G L ad o b9 ma b i cells slots) : W p l e room_1 s m args below meth c H locs cells slots Q (F0 m 988 ls []) := by
  obtain ⟨C0, hXw, hS, hSc, hbl, hbA, hLs, hA, hC, hw, hX, hM, hO, hi, hl⟩ := I
  have hx := C0.x
  have hb := C0.b
  obtain ⟨kx, A1, v, hk4, hA1, hC1, hWr, hMo⟩ := sc_compose l hst G L ad o b9 ma hS A hA hC (xs (i + 1)) (xs (i + 2)) (xs (i + 3))
  refine lv_aload_n hx hb dL_law_988 rfl (lv_at hl 1 rfl) ?_
  refine q_arg C0 hw hSc hbl hbA (k := 1) (by omega) hLs (lv_at hl 0 rfl) (lv_at hl 4 rfl) dL_law_989 dL_law_990 dL_law_992 rfl dL_law_993 dL_law_994 ?_
  refine q_arg C0 hw hSc hbl hbA (k := 2) (by omega) hLs (lv_at hl 0 rfl) (lv_at hl 4 rfl) dL_law_995 dL_law_996 dL_law_998 rfl dL_law_999 dL_law_1000 ?_
  refine q_arg C0 hw hSc hbl hbA (k := 3) (by omega) hLs (lv_at hl 0 rfl) (lv_at hl 4 rfl) dL_law_1001 dL_law_1002 dL_law_1004 rfl dL_law_1005 dL_law_1006 ?_
  refine lv_aload_n hx hb dL_law_1007 rfl (lv_at hl 3 rfl) ?_
  refine q_callw hw (q_runW (As := [.ref (ad 0), .int (xs (i + 1)), .int (xs (i + 2)), .int (xs (i + 3)), .ref o]) (rest := []) (hWr F f hX hO) C0 hXw hw tw_L_148 rfl hl.1 rfl (by decide) dL_law_1008 ⟨by decide, by decide⟩ hcs) (fun r F1 H1 locs1 hw1 hp => ?_)
  obtain ⟨hr, hX1, ⟨f1, hO1, hv1⟩, fr1⟩ := hp
  subst hr
  refine lv_istore hx hb dL_law_1011 hl (by decide) rfl (fun ls1 hl1 => ?_)
  have hM1 : MW G F1 b9 ma A th := lst_m hS fr1 hM
  obtain ⟨mi, hh, zf, hfb, -, -⟩ := hM1.ob
  refine lv_aload_n hx hb dL_law_1013 rfl (lv_at hl1 3 rfl) ?_
  refine q_arg C0 hw1 hSc hbl hbA (k := 1) (by omega) hLs (lv_at hl1 1 rfl) (lv_at hl1 5 rfl) dL_law_1014 dL_law_1015 dL_law_1017 rfl dL_law_1018 dL_law_1019 ?_
  refine q_arg C0 hw1 hSc hbl hbA (k := 2) (by omega) hLs (lv_at hl1 1 rfl) (lv_at hl1 5 rfl) dL_law_1020 dL_law_1021 dL_law_1023 rfl dL_law_1024 dL_law_1025 ?_
  refine q_arg C0 hw1 hSc hbl hbA (k := 3) (by omega) hLs (lv_at hl1 1 rfl) (lv_at hl1 5 rfl) dL_law_1026 dL_law_1027 dL_law_1029 rfl dL_law_1030 dL_law_1031 ?_
  refine q_calli hw1 (q_runV (As := [.int (xs (i + 1)), .int (xs (i + 2)), .int (xs (i + 3))]) (hMo F1 th hM1) C0 hw1 vw_L_150 hS.2.2.1 hfb rfl rfl rfl hl1.1 rfl (by decide) dL_law_1032 ⟨by decide, by decide⟩ hcs) rfl rfl (fun r2 F2 H2 locs2 hw2 hp2 => ?_)
  obtain ⟨hr2, hM2, fr2⟩ := hp2
  refine lv_istore hx hb dL_law_1035 hl1 (by decide) rfl (fun ls2 hl2 => ?_)
  refine q_tail (a := ad 0) (v := v) (tgt := 2177) C0 hw2 hS.2.2.1 hS.2.2.2.1 hS.2.2.2.2.1 hM2 hk4 (lst_o hS fr2 hO1) hv1 hr2 hl2 ⟨by decide, by decide⟩ hcs dL_law_1037 dL_law_1038 dL_law_1041 dL_law_1043 dL_law_1048 dL_law_1050 dL_law_1053 dL_law_1054 dL_law_1055 dL_law_1056 dL_law_1058 dL_law_1059 dL_law_1060 dL_law_1065 (by decide) (fun F3 H3 locs3 hw3 e3 => ?_)
  exact kk A1 kx F3 f1 H3 locs3 ls2 hA1 hC1 hw3 (lst_x hS fr2 e3 hX1) (hM2.keep (e3 _) (fun _ _ => e3 _)) ((e3 o).trans (lst_o hS fr2 hO1)) (lv_sub hl2 [2, 3, 4, 5, 6] rfl)
theorem lc_12 {p : Program} {l : Launch} {e : Env} {s : State} {m : MethodId} {args : Array Value} {below : List Frame} {meth : Method} {c : Code} {Q : State → Prop} {G : Gl} {L : List Nat} {ad ma : Nat → Nat} {o b9 b Ls i cells slots th : Nat} {xs : Nat → Int32} {F : Nat → va_E} {f : Nat → Int64} {A : AB} {H : Heap} {locs : List Loc} {ls : Array Slot} (hst : l.stackTraces = false) (I : LI p s m args c G L ad o b9 ma b Ls xs i A th F f H locs ls) (hcs : cells + 1 ≤ room_1.cells ∧ slots + 6 ≤ room_1.slots) (kk : LKK p l e s m args below meth c Q G L ad o b9 ma b i cells slots) : W p l e room_1 s m args below meth c H locs cells slots Q (F0 m 1068 ls []) := by
  obtain ⟨C0, hXw, hS, hSc, hbl, hbA, hLs, hA, hC, hw, hX, hM, hO, hi, hl⟩ := I
  have hx := C0.x
  have hb := C0.b
  obtain ⟨kx, A1, v, hk4, hA1, hC1, hWr, hMo⟩ := sc_invert l hst G L ad o b9 ma hS A hA hC (xs (i + 1)) (xs (i + 2))
  refine lv_aload_n hx hb dL_law_1068 rfl (lv_at hl 1 rfl) ?_
  refine q_arg C0 hw hSc hbl hbA (k := 1) (by omega) hLs (lv_at hl 0 rfl) (lv_at hl 4 rfl) dL_law_1069 dL_law_1070 dL_law_1072 rfl dL_law_1073 dL_law_1074 ?_
  refine q_arg C0 hw hSc hbl hbA (k := 2) (by omega) hLs (lv_at hl 0 rfl) (lv_at hl 4 rfl) dL_law_1075 dL_law_1076 dL_law_1078 rfl dL_law_1079 dL_law_1080 ?_
  refine lv_aload_n hx hb dL_law_1081 rfl (lv_at hl 3 rfl) ?_
  refine q_callw hw (q_runW (As := [.ref (ad 0), .int (xs (i + 1)), .int (xs (i + 2)), .ref o]) (rest := []) (hWr F f hX hO) C0 hXw hw tw_L_151 rfl hl.1 rfl (by decide) dL_law_1082 ⟨by decide, by decide⟩ hcs) (fun r F1 H1 locs1 hw1 hp => ?_)
  obtain ⟨hr, hX1, ⟨f1, hO1, hv1⟩, fr1⟩ := hp
  subst hr
  refine lv_istore hx hb dL_law_1085 hl (by decide) rfl (fun ls1 hl1 => ?_)
  have hM1 : MW G F1 b9 ma A th := lst_m hS fr1 hM
  obtain ⟨mi, hh, zf, hfb, -, -⟩ := hM1.ob
  refine lv_aload_n hx hb dL_law_1087 rfl (lv_at hl1 3 rfl) ?_
  refine q_arg C0 hw1 hSc hbl hbA (k := 1) (by omega) hLs (lv_at hl1 1 rfl) (lv_at hl1 5 rfl) dL_law_1088 dL_law_1089 dL_law_1091 rfl dL_law_1092 dL_law_1093 ?_
  refine q_arg C0 hw1 hSc hbl hbA (k := 2) (by omega) hLs (lv_at hl1 1 rfl) (lv_at hl1 5 rfl) dL_law_1094 dL_law_1095 dL_law_1097 rfl dL_law_1098 dL_law_1099 ?_
  refine q_calli hw1 (q_runV (As := [.int (xs (i + 1)), .int (xs (i + 2))]) (hMo F1 th hM1) C0 hw1 vw_L_153 hS.2.2.1 hfb rfl rfl rfl hl1.1 rfl (by decide) dL_law_1100 ⟨by decide, by decide⟩ hcs) rfl rfl (fun r2 F2 H2 locs2 hw2 hp2 => ?_)
  obtain ⟨hr2, hM2, fr2⟩ := hp2
  refine lv_istore hx hb dL_law_1103 hl1 (by decide) rfl (fun ls2 hl2 => ?_)
  refine q_tail (a := ad 0) (v := v) (tgt := 2177) C0 hw2 hS.2.2.1 hS.2.2.2.1 hS.2.2.2.2.1 hM2 hk4 (lst_o hS fr2 hO1) hv1 hr2 hl2 ⟨by decide, by decide⟩ hcs dL_law_1105 dL_law_1106 dL_law_1109 dL_law_1111 dL_law_1116 dL_law_1118 dL_law_1121 dL_law_1122 dL_law_1123 dL_law_1124 dL_law_1126 dL_law_1127 dL_law_1128 dL_law_1133 (by decide) (fun F3 H3 locs3 hw3 e3 => ?_)
  exact kk A1 kx F3 f1 H3 locs3 ls2 hA1 hC1 hw3 (lst_x hS fr2 e3 hX1) (hM2.keep (e3 _) (fun _ _ => e3 _)) ((e3 o).trans (lst_o hS fr2 hO1)) (lv_sub hl2 [2, 3, 4, 5, 6] rfl)
theorem lc_13 {p : Program} {l : Launch} {e : Env} {s : State} {m : MethodId} {args : Array Value} {below : List Frame} {meth : Method} {c : Code} {Q : State → Prop} {G : Gl} {L : List Nat} {ad ma : Nat → Nat} {o b9 b Ls i cells slots th : Nat} {xs : Nat → Int32} {F : Nat → va_E} {f : Nat → Int64} {A : AB} {H : Heap} {locs : List Loc} {ls : Array Slot} (hst : l.stackTraces = false) (I : LI p s m args c G L ad o b9 ma b Ls xs i A th F f H locs ls) (hcs : cells + 1 ≤ room_1.cells ∧ slots + 6 ≤ room_1.slots) (kk : LKK p l e s m args below meth c Q G L ad o b9 ma b i cells slots) : W p l e room_1 s m args below meth c H locs cells slots Q (F0 m 1136 ls []) := by
  obtain ⟨C0, hXw, hS, hSc, hbl, hbA, hLs, hA, hC, hw, hX, hM, hO, hi, hl⟩ := I
  have hx := C0.x
  have hb := C0.b
  obtain ⟨kx, A1, v, hk4, hA1, hC1, hWr, hMo⟩ := sc_power l hst G L ad o b9 ma hS A hA hC (xs (i + 1)) (xs (i + 2)) (xs (i + 3))
  refine lv_aload_n hx hb dL_law_1136 rfl (lv_at hl 1 rfl) ?_
  refine q_arg C0 hw hSc hbl hbA (k := 1) (by omega) hLs (lv_at hl 0 rfl) (lv_at hl 4 rfl) dL_law_1137 dL_law_1138 dL_law_1140 rfl dL_law_1141 dL_law_1142 ?_
  refine q_arg C0 hw hSc hbl hbA (k := 2) (by omega) hLs (lv_at hl 0 rfl) (lv_at hl 4 rfl) dL_law_1143 dL_law_1144 dL_law_1146 rfl dL_law_1147 dL_law_1148 ?_
  refine q_arg C0 hw hSc hbl hbA (k := 3) (by omega) hLs (lv_at hl 0 rfl) (lv_at hl 4 rfl) dL_law_1149 dL_law_1150 dL_law_1152 rfl dL_law_1153 dL_law_1154 ?_
  refine lv_aload_n hx hb dL_law_1155 rfl (lv_at hl 3 rfl) ?_
  refine q_callw hw (q_runW (As := [.ref (ad 0), .int (xs (i + 1)), .int (xs (i + 2)), .int (xs (i + 3)), .ref o]) (rest := []) (hWr F f hX hO) C0 hXw hw tw_L_154 rfl hl.1 rfl (by decide) dL_law_1156 ⟨by decide, by decide⟩ hcs) (fun r F1 H1 locs1 hw1 hp => ?_)
  obtain ⟨hr, hX1, ⟨f1, hO1, hv1⟩, fr1⟩ := hp
  subst hr
  refine lv_istore hx hb dL_law_1159 hl (by decide) rfl (fun ls1 hl1 => ?_)
  have hM1 : MW G F1 b9 ma A th := lst_m hS fr1 hM
  obtain ⟨mi, hh, zf, hfb, -, -⟩ := hM1.ob
  refine lv_aload_n hx hb dL_law_1161 rfl (lv_at hl1 3 rfl) ?_
  refine q_arg C0 hw1 hSc hbl hbA (k := 1) (by omega) hLs (lv_at hl1 1 rfl) (lv_at hl1 5 rfl) dL_law_1162 dL_law_1163 dL_law_1165 rfl dL_law_1166 dL_law_1167 ?_
  refine q_arg C0 hw1 hSc hbl hbA (k := 2) (by omega) hLs (lv_at hl1 1 rfl) (lv_at hl1 5 rfl) dL_law_1168 dL_law_1169 dL_law_1171 rfl dL_law_1172 dL_law_1173 ?_
  refine q_arg C0 hw1 hSc hbl hbA (k := 3) (by omega) hLs (lv_at hl1 1 rfl) (lv_at hl1 5 rfl) dL_law_1174 dL_law_1175 dL_law_1177 rfl dL_law_1178 dL_law_1179 ?_
  refine q_calli hw1 (q_runV (As := [.int (xs (i + 1)), .int (xs (i + 2)), .int (xs (i + 3))]) (hMo F1 th hM1) C0 hw1 vw_L_156 hS.2.2.1 hfb rfl rfl rfl hl1.1 rfl (by decide) dL_law_1180 ⟨by decide, by decide⟩ hcs) rfl rfl (fun r2 F2 H2 locs2 hw2 hp2 => ?_)
  obtain ⟨hr2, hM2, fr2⟩ := hp2
  refine lv_istore hx hb dL_law_1183 hl1 (by decide) rfl (fun ls2 hl2 => ?_)
  refine q_tail (a := ad 0) (v := v) (tgt := 2177) C0 hw2 hS.2.2.1 hS.2.2.2.1 hS.2.2.2.2.1 hM2 hk4 (lst_o hS fr2 hO1) hv1 hr2 hl2 ⟨by decide, by decide⟩ hcs dL_law_1185 dL_law_1186 dL_law_1189 dL_law_1191 dL_law_1196 dL_law_1198 dL_law_1201 dL_law_1202 dL_law_1203 dL_law_1204 dL_law_1206 dL_law_1207 dL_law_1208 dL_law_1213 (by decide) (fun F3 H3 locs3 hw3 e3 => ?_)
  exact kk A1 kx F3 f1 H3 locs3 ls2 hA1 hC1 hw3 (lst_x hS fr2 e3 hX1) (hM2.keep (e3 _) (fun _ _ => e3 _)) ((e3 o).trans (lst_o hS fr2 hO1)) (lv_sub hl2 [2, 3, 4, 5, 6] rfl)
theorem lc_14 {p : Program} {l : Launch} {e : Env} {s : State} {m : MethodId} {args : Array Value} {below : List Frame} {meth : Method} {c : Code} {Q : State → Prop} {G : Gl} {L : List Nat} {ad ma : Nat → Nat} {o b9 b Ls i cells slots th : Nat} {xs : Nat → Int32} {F : Nat → va_E} {f : Nat → Int64} {A : AB} {H : Heap} {locs : List Loc} {ls : Array Slot} (hst : l.stackTraces = false) (I : LI p s m args c G L ad o b9 ma b Ls xs i A th F f H locs ls) (hcs : cells + 1 ≤ room_1.cells ∧ slots + 6 ≤ room_1.slots) (kk : LKK p l e s m args below meth c Q G L ad o b9 ma b i cells slots) : W p l e room_1 s m args below meth c H locs cells slots Q (F0 m 1216 ls []) := by
  obtain ⟨C0, hXw, hS, hSc, hbl, hbA, hLs, hA, hC, hw, hX, hM, hO, hi, hl⟩ := I
  have hx := C0.x
  have hb := C0.b
  obtain ⟨kx, A1, v, hk4, hA1, hC1, hWr, hMo⟩ := sc_root l hst G L ad o b9 ma hS A hA hC (xs (i + 1)) (xs (i + 2)) (xs (i + 3))
  refine lv_aload_n hx hb dL_law_1216 rfl (lv_at hl 1 rfl) ?_
  refine q_arg C0 hw hSc hbl hbA (k := 1) (by omega) hLs (lv_at hl 0 rfl) (lv_at hl 4 rfl) dL_law_1217 dL_law_1218 dL_law_1220 rfl dL_law_1221 dL_law_1222 ?_
  refine q_arg C0 hw hSc hbl hbA (k := 2) (by omega) hLs (lv_at hl 0 rfl) (lv_at hl 4 rfl) dL_law_1223 dL_law_1224 dL_law_1226 rfl dL_law_1227 dL_law_1228 ?_
  refine q_arg C0 hw hSc hbl hbA (k := 3) (by omega) hLs (lv_at hl 0 rfl) (lv_at hl 4 rfl) dL_law_1229 dL_law_1230 dL_law_1232 rfl dL_law_1233 dL_law_1234 ?_
  refine lv_aload_n hx hb dL_law_1235 rfl (lv_at hl 3 rfl) ?_
  refine q_callw hw (q_runW (As := [.ref (ad 0), .int (xs (i + 1)), .int (xs (i + 2)), .int (xs (i + 3)), .ref o]) (rest := []) (hWr F f hX hO) C0 hXw hw tw_L_157 rfl hl.1 rfl (by decide) dL_law_1236 ⟨by decide, by decide⟩ hcs) (fun r F1 H1 locs1 hw1 hp => ?_)
  obtain ⟨hr, hX1, ⟨f1, hO1, hv1⟩, fr1⟩ := hp
  subst hr
  refine lv_istore hx hb dL_law_1239 hl (by decide) rfl (fun ls1 hl1 => ?_)
  have hM1 : MW G F1 b9 ma A th := lst_m hS fr1 hM
  obtain ⟨mi, hh, zf, hfb, -, -⟩ := hM1.ob
  refine lv_aload_n hx hb dL_law_1241 rfl (lv_at hl1 3 rfl) ?_
  refine q_arg C0 hw1 hSc hbl hbA (k := 1) (by omega) hLs (lv_at hl1 1 rfl) (lv_at hl1 5 rfl) dL_law_1242 dL_law_1243 dL_law_1245 rfl dL_law_1246 dL_law_1247 ?_
  refine q_arg C0 hw1 hSc hbl hbA (k := 2) (by omega) hLs (lv_at hl1 1 rfl) (lv_at hl1 5 rfl) dL_law_1248 dL_law_1249 dL_law_1251 rfl dL_law_1252 dL_law_1253 ?_
  refine q_arg C0 hw1 hSc hbl hbA (k := 3) (by omega) hLs (lv_at hl1 1 rfl) (lv_at hl1 5 rfl) dL_law_1254 dL_law_1255 dL_law_1257 rfl dL_law_1258 dL_law_1259 ?_
  refine q_calli hw1 (q_runV (As := [.int (xs (i + 1)), .int (xs (i + 2)), .int (xs (i + 3))]) (hMo F1 th hM1) C0 hw1 vw_L_159 hS.2.2.1 hfb rfl rfl rfl hl1.1 rfl (by decide) dL_law_1260 ⟨by decide, by decide⟩ hcs) rfl rfl (fun r2 F2 H2 locs2 hw2 hp2 => ?_)
  obtain ⟨hr2, hM2, fr2⟩ := hp2
  refine lv_istore hx hb dL_law_1263 hl1 (by decide) rfl (fun ls2 hl2 => ?_)
  refine q_tail (a := ad 0) (v := v) (tgt := 2177) C0 hw2 hS.2.2.1 hS.2.2.2.1 hS.2.2.2.2.1 hM2 hk4 (lst_o hS fr2 hO1) hv1 hr2 hl2 ⟨by decide, by decide⟩ hcs dL_law_1265 dL_law_1266 dL_law_1269 dL_law_1271 dL_law_1276 dL_law_1278 dL_law_1281 dL_law_1282 dL_law_1283 dL_law_1284 dL_law_1286 dL_law_1287 dL_law_1288 dL_law_1293 (by decide) (fun F3 H3 locs3 hw3 e3 => ?_)
  exact kk A1 kx F3 f1 H3 locs3 ls2 hA1 hC1 hw3 (lst_x hS fr2 e3 hX1) (hM2.keep (e3 _) (fun _ _ => e3 _)) ((e3 o).trans (lst_o hS fr2 hO1)) (lv_sub hl2 [2, 3, 4, 5, 6] rfl)
theorem lc_15 {p : Program} {l : Launch} {e : Env} {s : State} {m : MethodId} {args : Array Value} {below : List Frame} {meth : Method} {c : Code} {Q : State → Prop} {G : Gl} {L : List Nat} {ad ma : Nat → Nat} {o b9 b Ls i cells slots th : Nat} {xs : Nat → Int32} {F : Nat → va_E} {f : Nat → Int64} {A : AB} {H : Heap} {locs : List Loc} {ls : Array Slot} (hst : l.stackTraces = false) (I : LI p s m args c G L ad o b9 ma b Ls xs i A th F f H locs ls) (hcs : cells + 1 ≤ room_1.cells ∧ slots + 6 ≤ room_1.slots) (kk : LKK p l e s m args below meth c Q G L ad o b9 ma b i cells slots) : W p l e room_1 s m args below meth c H locs cells slots Q (F0 m 1296 ls []) := by
  obtain ⟨C0, hXw, hS, hSc, hbl, hbA, hLs, hA, hC, hw, hX, hM, hO, hi, hl⟩ := I
  have hx := C0.x
  have hb := C0.b
  obtain ⟨kx, A1, v, hk4, hA1, hC1, hWr, hMo⟩ := sc_append l hst G L ad o b9 ma hS A hA hC (xs (i + 1))
  refine lv_aload_n hx hb dL_law_1296 rfl (lv_at hl 1 rfl) ?_
  refine q_arg C0 hw hSc hbl hbA (k := 1) (by omega) hLs (lv_at hl 0 rfl) (lv_at hl 4 rfl) dL_law_1297 dL_law_1298 dL_law_1300 rfl dL_law_1301 dL_law_1302 ?_
  refine lv_aload_n hx hb dL_law_1303 rfl (lv_at hl 3 rfl) ?_
  refine q_callw hw (q_runW (As := [.ref (ad 0), .int (xs (i + 1)), .ref o]) (rest := []) (hWr F f hX hO) C0 hXw hw tw_L_160 rfl hl.1 rfl (by decide) dL_law_1304 ⟨by decide, by decide⟩ hcs) (fun r F1 H1 locs1 hw1 hp => ?_)
  obtain ⟨hr, hX1, ⟨f1, hO1, hv1⟩, fr1⟩ := hp
  subst hr
  refine lv_istore hx hb dL_law_1307 hl (by decide) rfl (fun ls1 hl1 => ?_)
  have hM1 : MW G F1 b9 ma A th := lst_m hS fr1 hM
  obtain ⟨mi, hh, zf, hfb, -, -⟩ := hM1.ob
  refine lv_aload_n hx hb dL_law_1309 rfl (lv_at hl1 3 rfl) ?_
  refine q_arg C0 hw1 hSc hbl hbA (k := 1) (by omega) hLs (lv_at hl1 1 rfl) (lv_at hl1 5 rfl) dL_law_1310 dL_law_1311 dL_law_1313 rfl dL_law_1314 dL_law_1315 ?_
  refine q_calli hw1 (q_runV (As := [.int (xs (i + 1))]) (hMo F1 th hM1) C0 hw1 vw_L_162 hS.2.2.1 hfb rfl rfl rfl hl1.1 rfl (by decide) dL_law_1316 ⟨by decide, by decide⟩ hcs) rfl rfl (fun r2 F2 H2 locs2 hw2 hp2 => ?_)
  obtain ⟨hr2, hM2, fr2⟩ := hp2
  refine lv_istore hx hb dL_law_1319 hl1 (by decide) rfl (fun ls2 hl2 => ?_)
  refine q_tail (a := ad 0) (v := v) (tgt := 2177) C0 hw2 hS.2.2.1 hS.2.2.2.1 hS.2.2.2.2.1 hM2 hk4 (lst_o hS fr2 hO1) hv1 hr2 hl2 ⟨by decide, by decide⟩ hcs dL_law_1321 dL_law_1322 dL_law_1325 dL_law_1327 dL_law_1332 dL_law_1334 dL_law_1337 dL_law_1338 dL_law_1339 dL_law_1340 dL_law_1342 dL_law_1343 dL_law_1344 dL_law_1349 (by decide) (fun F3 H3 locs3 hw3 e3 => ?_)
  exact kk A1 kx F3 f1 H3 locs3 ls2 hA1 hC1 hw3 (lst_x hS fr2 e3 hX1) (hM2.keep (e3 _) (fun _ _ => e3 _)) ((e3 o).trans (lst_o hS fr2 hO1)) (lv_sub hl2 [2, 3, 4, 5, 6] rfl)
theorem lc_18 {p : Program} {l : Launch} {e : Env} {s : State} {m : MethodId} {args : Array Value} {below : List Frame} {meth : Method} {c : Code} {Q : State → Prop} {G : Gl} {L : List Nat} {ad ma : Nat → Nat} {o b9 b Ls i cells slots th : Nat} {xs : Nat → Int32} {F : Nat → va_E} {f : Nat → Int64} {A : AB} {H : Heap} {locs : List Loc} {ls : Array Slot} (hst : l.stackTraces = false) (I : LI p s m args c G L ad o b9 ma b Ls xs i A th F f H locs ls) (hcs : cells + 1 ≤ room_1.cells ∧ slots + 6 ≤ room_1.slots) (kk : LKK p l e s m args below meth c Q G L ad o b9 ma b i cells slots) : W p l e room_1 s m args below meth c H locs cells slots Q (F0 m 1378 ls []) := by
  obtain ⟨C0, hXw, hS, hSc, hbl, hbA, hLs, hA, hC, hw, hX, hM, hO, hi, hl⟩ := I
  have hx := C0.x
  have hb := C0.b
  obtain ⟨kx, A1, v, hk4, hA1, hC1, hWr, hMo⟩ := sc_run l hst G L ad o b9 ma hS A hA hC 
  refine lv_aload_n hx hb dL_law_1378 rfl (lv_at hl 1 rfl) ?_
  refine lv_aload_n hx hb dL_law_1379 rfl (lv_at hl 3 rfl) ?_
  refine q_callw hw (q_runW (As := [.ref (ad 0), .ref o]) (rest := []) (hWr F f hX hO) C0 hXw hw tw_L_171 rfl hl.1 rfl (by decide) dL_law_1380 ⟨by decide, by decide⟩ hcs) (fun r F1 H1 locs1 hw1 hp => ?_)
  obtain ⟨hr, hX1, ⟨f1, hO1, hv1⟩, fr1⟩ := hp
  subst hr
  refine lv_istore hx hb dL_law_1383 hl (by decide) rfl (fun ls1 hl1 => ?_)
  have hM1 : MW G F1 b9 ma A th := lst_m hS fr1 hM
  obtain ⟨mi, hh, zf, hfb, -, -⟩ := hM1.ob
  refine lv_aload_n hx hb dL_law_1385 rfl (lv_at hl1 3 rfl) ?_
  refine q_calli hw1 (q_runV (As := []) (hMo F1 th hM1) C0 hw1 vw_L_174 hS.2.2.1 hfb rfl rfl rfl hl1.1 rfl (by decide) dL_law_1386 ⟨by decide, by decide⟩ hcs) rfl rfl (fun r2 F2 H2 locs2 hw2 hp2 => ?_)
  obtain ⟨hr2, hM2, fr2⟩ := hp2
  refine lv_istore hx hb dL_law_1389 hl1 (by decide) rfl (fun ls2 hl2 => ?_)
  refine q_tail (a := ad 0) (v := v) (tgt := 2177) C0 hw2 hS.2.2.1 hS.2.2.2.1 hS.2.2.2.2.1 hM2 hk4 (lst_o hS fr2 hO1) hv1 hr2 hl2 ⟨by decide, by decide⟩ hcs dL_law_1391 dL_law_1392 dL_law_1395 dL_law_1397 dL_law_1402 dL_law_1404 dL_law_1407 dL_law_1408 dL_law_1409 dL_law_1410 dL_law_1412 dL_law_1413 dL_law_1414 dL_law_1419 (by decide) (fun F3 H3 locs3 hw3 e3 => ?_)
  exact kk A1 kx F3 f1 H3 locs3 ls2 hA1 hC1 hw3 (lst_x hS fr2 e3 hX1) (hM2.keep (e3 _) (fun _ _ => e3 _)) ((e3 o).trans (lst_o hS fr2 hO1)) (lv_sub hl2 [2, 3, 4, 5, 6] rfl)
theorem lc_19 {p : Program} {l : Launch} {e : Env} {s : State} {m : MethodId} {args : Array Value} {below : List Frame} {meth : Method} {c : Code} {Q : State → Prop} {G : Gl} {L : List Nat} {ad ma : Nat → Nat} {o b9 b Ls i cells slots th : Nat} {xs : Nat → Int32} {F : Nat → va_E} {f : Nat → Int64} {A : AB} {H : Heap} {locs : List Loc} {ls : Array Slot} (hst : l.stackTraces = false) (I : LI p s m args c G L ad o b9 ma b Ls xs i A th F f H locs ls) (hcs : cells + 1 ≤ room_1.cells ∧ slots + 6 ≤ room_1.slots) (kk : LKK p l e s m args below meth c Q G L ad o b9 ma b i cells slots) : W p l e room_1 s m args below meth c H locs cells slots Q (F0 m 1422 ls []) := by
  obtain ⟨C0, hXw, hS, hSc, hbl, hbA, hLs, hA, hC, hw, hX, hM, hO, hi, hl⟩ := I
  have hx := C0.x
  have hb := C0.b
  obtain ⟨kx, A1, v, hk4, hA1, hC1, hWr, hMo⟩ := sc_take l hst G L ad o b9 ma hS A hA hC (xs (i + 1))
  refine lv_aload_n hx hb dL_law_1422 rfl (lv_at hl 1 rfl) ?_
  refine q_arg C0 hw hSc hbl hbA (k := 1) (by omega) hLs (lv_at hl 0 rfl) (lv_at hl 4 rfl) dL_law_1423 dL_law_1424 dL_law_1426 rfl dL_law_1427 dL_law_1428 ?_
  refine lv_aload_n hx hb dL_law_1429 rfl (lv_at hl 3 rfl) ?_
  refine q_callw hw (q_runW (As := [.ref (ad 0), .int (xs (i + 1)), .ref o]) (rest := []) (hWr F f hX hO) C0 hXw hw tw_L_175 rfl hl.1 rfl (by decide) dL_law_1430 ⟨by decide, by decide⟩ hcs) (fun r F1 H1 locs1 hw1 hp => ?_)
  obtain ⟨hr, hX1, ⟨f1, hO1, hv1⟩, fr1⟩ := hp
  subst hr
  refine lv_istore hx hb dL_law_1433 hl (by decide) rfl (fun ls1 hl1 => ?_)
  have hM1 : MW G F1 b9 ma A th := lst_m hS fr1 hM
  obtain ⟨mi, hh, zf, hfb, -, -⟩ := hM1.ob
  refine lv_aload_n hx hb dL_law_1435 rfl (lv_at hl1 3 rfl) ?_
  refine q_arg C0 hw1 hSc hbl hbA (k := 1) (by omega) hLs (lv_at hl1 1 rfl) (lv_at hl1 5 rfl) dL_law_1436 dL_law_1437 dL_law_1439 rfl dL_law_1440 dL_law_1441 ?_
  refine q_calli hw1 (q_runV (As := [.int (xs (i + 1))]) (hMo F1 th hM1) C0 hw1 vw_L_177 hS.2.2.1 hfb rfl rfl rfl hl1.1 rfl (by decide) dL_law_1442 ⟨by decide, by decide⟩ hcs) rfl rfl (fun r2 F2 H2 locs2 hw2 hp2 => ?_)
  obtain ⟨hr2, hM2, fr2⟩ := hp2
  refine lv_istore hx hb dL_law_1445 hl1 (by decide) rfl (fun ls2 hl2 => ?_)
  refine q_tail (a := ad 0) (v := v) (tgt := 2177) C0 hw2 hS.2.2.1 hS.2.2.2.1 hS.2.2.2.2.1 hM2 hk4 (lst_o hS fr2 hO1) hv1 hr2 hl2 ⟨by decide, by decide⟩ hcs dL_law_1447 dL_law_1448 dL_law_1451 dL_law_1453 dL_law_1458 dL_law_1460 dL_law_1463 dL_law_1464 dL_law_1465 dL_law_1466 dL_law_1468 dL_law_1469 dL_law_1470 dL_law_1475 (by decide) (fun F3 H3 locs3 hw3 e3 => ?_)
  exact kk A1 kx F3 f1 H3 locs3 ls2 hA1 hC1 hw3 (lst_x hS fr2 e3 hX1) (hM2.keep (e3 _) (fun _ _ => e3 _)) ((e3 o).trans (lst_o hS fr2 hO1)) (lv_sub hl2 [2, 3, 4, 5, 6] rfl)
theorem lc_20 {p : Program} {l : Launch} {e : Env} {s : State} {m : MethodId} {args : Array Value} {below : List Frame} {meth : Method} {c : Code} {Q : State → Prop} {G : Gl} {L : List Nat} {ad ma : Nat → Nat} {o b9 b Ls i cells slots th : Nat} {xs : Nat → Int32} {F : Nat → va_E} {f : Nat → Int64} {A : AB} {H : Heap} {locs : List Loc} {ls : Array Slot} (hst : l.stackTraces = false) (I : LI p s m args c G L ad o b9 ma b Ls xs i A th F f H locs ls) (hcs : cells + 1 ≤ room_1.cells ∧ slots + 6 ≤ room_1.slots) (kk : LKK p l e s m args below meth c Q G L ad o b9 ma b i cells slots) : W p l e room_1 s m args below meth c H locs cells slots Q (F0 m 1478 ls []) := by
  obtain ⟨C0, hXw, hS, hSc, hbl, hbA, hLs, hA, hC, hw, hX, hM, hO, hi, hl⟩ := I
  have hx := C0.x
  have hb := C0.b
  obtain ⟨kx, A1, v, hk4, hA1, hC1, hWr, hMo⟩ := sc_restore l hst G L ad o b9 ma hS A hA hC (xs (i + 1))
  refine lv_aload_n hx hb dL_law_1478 rfl (lv_at hl 1 rfl) ?_
  refine q_arg C0 hw hSc hbl hbA (k := 1) (by omega) hLs (lv_at hl 0 rfl) (lv_at hl 4 rfl) dL_law_1479 dL_law_1480 dL_law_1482 rfl dL_law_1483 dL_law_1484 ?_
  refine lv_aload_n hx hb dL_law_1485 rfl (lv_at hl 3 rfl) ?_
  refine q_callw hw (q_runW (As := [.ref (ad 0), .int (xs (i + 1)), .ref o]) (rest := []) (hWr F f hX hO) C0 hXw hw tw_L_178 rfl hl.1 rfl (by decide) dL_law_1486 ⟨by decide, by decide⟩ hcs) (fun r F1 H1 locs1 hw1 hp => ?_)
  obtain ⟨hr, hX1, ⟨f1, hO1, hv1⟩, fr1⟩ := hp
  subst hr
  refine lv_istore hx hb dL_law_1489 hl (by decide) rfl (fun ls1 hl1 => ?_)
  have hM1 : MW G F1 b9 ma A th := lst_m hS fr1 hM
  obtain ⟨mi, hh, zf, hfb, -, -⟩ := hM1.ob
  refine lv_aload_n hx hb dL_law_1491 rfl (lv_at hl1 3 rfl) ?_
  refine q_arg C0 hw1 hSc hbl hbA (k := 1) (by omega) hLs (lv_at hl1 1 rfl) (lv_at hl1 5 rfl) dL_law_1492 dL_law_1493 dL_law_1495 rfl dL_law_1496 dL_law_1497 ?_
  refine q_calli hw1 (q_runV (As := [.int (xs (i + 1))]) (hMo F1 th hM1) C0 hw1 vw_L_180 hS.2.2.1 hfb rfl rfl rfl hl1.1 rfl (by decide) dL_law_1498 ⟨by decide, by decide⟩ hcs) rfl rfl (fun r2 F2 H2 locs2 hw2 hp2 => ?_)
  obtain ⟨hr2, hM2, fr2⟩ := hp2
  refine lv_istore hx hb dL_law_1501 hl1 (by decide) rfl (fun ls2 hl2 => ?_)
  refine q_tail (a := ad 0) (v := v) (tgt := 2177) C0 hw2 hS.2.2.1 hS.2.2.2.1 hS.2.2.2.2.1 hM2 hk4 (lst_o hS fr2 hO1) hv1 hr2 hl2 ⟨by decide, by decide⟩ hcs dL_law_1503 dL_law_1504 dL_law_1507 dL_law_1509 dL_law_1514 dL_law_1516 dL_law_1519 dL_law_1520 dL_law_1521 dL_law_1522 dL_law_1524 dL_law_1525 dL_law_1526 dL_law_1531 (by decide) (fun F3 H3 locs3 hw3 e3 => ?_)
  exact kk A1 kx F3 f1 H3 locs3 ls2 hA1 hC1 hw3 (lst_x hS fr2 e3 hX1) (hM2.keep (e3 _) (fun _ _ => e3 _)) ((e3 o).trans (lst_o hS fr2 hO1)) (lv_sub hl2 [2, 3, 4, 5, 6] rfl)
theorem lc_21 {p : Program} {l : Launch} {e : Env} {s : State} {m : MethodId} {args : Array Value} {below : List Frame} {meth : Method} {c : Code} {Q : State → Prop} {G : Gl} {L : List Nat} {ad ma : Nat → Nat} {o b9 b Ls i cells slots th : Nat} {xs : Nat → Int32} {F : Nat → va_E} {f : Nat → Int64} {A : AB} {H : Heap} {locs : List Loc} {ls : Array Slot} (hst : l.stackTraces = false) (I : LI p s m args c G L ad o b9 ma b Ls xs i A th F f H locs ls) (hcs : cells + 1 ≤ room_1.cells ∧ slots + 6 ≤ room_1.slots) (kk : LKK p l e s m args below meth c Q G L ad o b9 ma b i cells slots) : W p l e room_1 s m args below meth c H locs cells slots Q (F0 m 1534 ls []) := by
  obtain ⟨C0, hXw, hS, hSc, hbl, hbA, hLs, hA, hC, hw, hX, hM, hO, hi, hl⟩ := I
  have hx := C0.x
  have hb := C0.b
  obtain ⟨kx, A1, v, hk4, hA1, hC1, hWr, hMo⟩ := sc_undo l hst G L ad o b9 ma hS A hA hC 
  refine lv_aload_n hx hb dL_law_1534 rfl (lv_at hl 1 rfl) ?_
  refine lv_aload_n hx hb dL_law_1535 rfl (lv_at hl 3 rfl) ?_
  refine q_callw hw (q_runW (As := [.ref (ad 0), .ref o]) (rest := []) (hWr F f hX hO) C0 hXw hw tw_L_181 rfl hl.1 rfl (by decide) dL_law_1536 ⟨by decide, by decide⟩ hcs) (fun r F1 H1 locs1 hw1 hp => ?_)
  obtain ⟨hr, hX1, ⟨f1, hO1, hv1⟩, fr1⟩ := hp
  subst hr
  refine lv_istore hx hb dL_law_1539 hl (by decide) rfl (fun ls1 hl1 => ?_)
  have hM1 : MW G F1 b9 ma A th := lst_m hS fr1 hM
  obtain ⟨mi, hh, zf, hfb, -, -⟩ := hM1.ob
  refine lv_aload_n hx hb dL_law_1541 rfl (lv_at hl1 3 rfl) ?_
  refine q_calli hw1 (q_runV (As := []) (hMo F1 th hM1) C0 hw1 vw_L_183 hS.2.2.1 hfb rfl rfl rfl hl1.1 rfl (by decide) dL_law_1542 ⟨by decide, by decide⟩ hcs) rfl rfl (fun r2 F2 H2 locs2 hw2 hp2 => ?_)
  obtain ⟨hr2, hM2, fr2⟩ := hp2
  refine lv_istore hx hb dL_law_1545 hl1 (by decide) rfl (fun ls2 hl2 => ?_)
  refine q_tail (a := ad 0) (v := v) (tgt := 2177) C0 hw2 hS.2.2.1 hS.2.2.2.1 hS.2.2.2.2.1 hM2 hk4 (lst_o hS fr2 hO1) hv1 hr2 hl2 ⟨by decide, by decide⟩ hcs dL_law_1547 dL_law_1548 dL_law_1551 dL_law_1553 dL_law_1558 dL_law_1560 dL_law_1563 dL_law_1564 dL_law_1565 dL_law_1566 dL_law_1568 dL_law_1569 dL_law_1570 dL_law_1575 (by decide) (fun F3 H3 locs3 hw3 e3 => ?_)
  exact kk A1 kx F3 f1 H3 locs3 ls2 hA1 hC1 hw3 (lst_x hS fr2 e3 hX1) (hM2.keep (e3 _) (fun _ _ => e3 _)) ((e3 o).trans (lst_o hS fr2 hO1)) (lv_sub hl2 [2, 3, 4, 5, 6] rfl)
theorem lc_22 {p : Program} {l : Launch} {e : Env} {s : State} {m : MethodId} {args : Array Value} {below : List Frame} {meth : Method} {c : Code} {Q : State → Prop} {G : Gl} {L : List Nat} {ad ma : Nat → Nat} {o b9 b Ls i cells slots th : Nat} {xs : Nat → Int32} {F : Nat → va_E} {f : Nat → Int64} {A : AB} {H : Heap} {locs : List Loc} {ls : Array Slot} (hst : l.stackTraces = false) (I : LI p s m args c G L ad o b9 ma b Ls xs i A th F f H locs ls) (hcs : cells + 1 ≤ room_1.cells ∧ slots + 6 ≤ room_1.slots) (kk : LKK p l e s m args below meth c Q G L ad o b9 ma b i cells slots) : W p l e room_1 s m args below meth c H locs cells slots Q (F0 m 1578 ls []) := by
  obtain ⟨C0, hXw, hS, hSc, hbl, hbA, hLs, hA, hC, hw, hX, hM, hO, hi, hl⟩ := I
  have hx := C0.x
  have hb := C0.b
  obtain ⟨kx, A1, v, hk4, hA1, hC1, hWr, hMo⟩ := sc_field l hst G L ad o b9 ma hS A hA hC (xs (i + 1)) (xs (i + 2))
  refine lv_aload_n hx hb dL_law_1578 rfl (lv_at hl 1 rfl) ?_
  refine q_arg C0 hw hSc hbl hbA (k := 1) (by omega) hLs (lv_at hl 0 rfl) (lv_at hl 4 rfl) dL_law_1579 dL_law_1580 dL_law_1582 rfl dL_law_1583 dL_law_1584 ?_
  refine q_arg C0 hw hSc hbl hbA (k := 2) (by omega) hLs (lv_at hl 0 rfl) (lv_at hl 4 rfl) dL_law_1585 dL_law_1586 dL_law_1588 rfl dL_law_1589 dL_law_1590 ?_
  refine lv_aload_n hx hb dL_law_1591 rfl (lv_at hl 3 rfl) ?_
  refine q_callw hw (q_runW (As := [.ref (ad 0), .int (xs (i + 1)), .int (xs (i + 2)), .ref o]) (rest := []) (hWr F f hX hO) C0 hXw hw tw_L_184 rfl hl.1 rfl (by decide) dL_law_1592 ⟨by decide, by decide⟩ hcs) (fun r F1 H1 locs1 hw1 hp => ?_)
  obtain ⟨hr, hX1, ⟨f1, hO1, hv1⟩, fr1⟩ := hp
  subst hr
  refine lv_istore hx hb dL_law_1595 hl (by decide) rfl (fun ls1 hl1 => ?_)
  have hM1 : MW G F1 b9 ma A th := lst_m hS fr1 hM
  obtain ⟨mi, hh, zf, hfb, -, -⟩ := hM1.ob
  refine lv_aload_n hx hb dL_law_1597 rfl (lv_at hl1 3 rfl) ?_
  refine q_arg C0 hw1 hSc hbl hbA (k := 1) (by omega) hLs (lv_at hl1 1 rfl) (lv_at hl1 5 rfl) dL_law_1598 dL_law_1599 dL_law_1601 rfl dL_law_1602 dL_law_1603 ?_
  refine q_arg C0 hw1 hSc hbl hbA (k := 2) (by omega) hLs (lv_at hl1 1 rfl) (lv_at hl1 5 rfl) dL_law_1604 dL_law_1605 dL_law_1607 rfl dL_law_1608 dL_law_1609 ?_
  refine q_calli hw1 (q_runV (As := [.int (xs (i + 1)), .int (xs (i + 2))]) (hMo F1 th hM1) C0 hw1 vw_L_186 hS.2.2.1 hfb rfl rfl rfl hl1.1 rfl (by decide) dL_law_1610 ⟨by decide, by decide⟩ hcs) rfl rfl (fun r2 F2 H2 locs2 hw2 hp2 => ?_)
  obtain ⟨hr2, hM2, fr2⟩ := hp2
  refine lv_istore hx hb dL_law_1613 hl1 (by decide) rfl (fun ls2 hl2 => ?_)
  refine q_tail (a := ad 0) (v := v) (tgt := 2177) C0 hw2 hS.2.2.1 hS.2.2.2.1 hS.2.2.2.2.1 hM2 hk4 (lst_o hS fr2 hO1) hv1 hr2 hl2 ⟨by decide, by decide⟩ hcs dL_law_1615 dL_law_1616 dL_law_1619 dL_law_1621 dL_law_1626 dL_law_1628 dL_law_1631 dL_law_1632 dL_law_1633 dL_law_1634 dL_law_1636 dL_law_1637 dL_law_1638 dL_law_1643 (by decide) (fun F3 H3 locs3 hw3 e3 => ?_)
  exact kk A1 kx F3 f1 H3 locs3 ls2 hA1 hC1 hw3 (lst_x hS fr2 e3 hX1) (hM2.keep (e3 _) (fun _ _ => e3 _)) ((e3 o).trans (lst_o hS fr2 hO1)) (lv_sub hl2 [2, 3, 4, 5, 6] rfl)
theorem lc_23 {p : Program} {l : Launch} {e : Env} {s : State} {m : MethodId} {args : Array Value} {below : List Frame} {meth : Method} {c : Code} {Q : State → Prop} {G : Gl} {L : List Nat} {ad ma : Nat → Nat} {o b9 b Ls i cells slots th : Nat} {xs : Nat → Int32} {F : Nat → va_E} {f : Nat → Int64} {A : AB} {H : Heap} {locs : List Loc} {ls : Array Slot} (hst : l.stackTraces = false) (I : LI p s m args c G L ad o b9 ma b Ls xs i A th F f H locs ls) (hcs : cells + 1 ≤ room_1.cells ∧ slots + 6 ≤ room_1.slots) (kk : LKK p l e s m args below meth c Q G L ad o b9 ma b i cells slots) : W p l e room_1 s m args below meth c H locs cells slots Q (F0 m 1646 ls []) := by
  obtain ⟨C0, hXw, hS, hSc, hbl, hbA, hLs, hA, hC, hw, hX, hM, hO, hi, hl⟩ := I
  have hx := C0.x
  have hb := C0.b
  obtain ⟨kx, A1, v, hk4, hA1, hC1, hWr, hMo⟩ := sc_flow l hst G L ad o b9 ma hS A hA hC (xs (i + 1)) (xs (i + 2))
  refine lv_aload_n hx hb dL_law_1646 rfl (lv_at hl 1 rfl) ?_
  refine q_arg C0 hw hSc hbl hbA (k := 1) (by omega) hLs (lv_at hl 0 rfl) (lv_at hl 4 rfl) dL_law_1647 dL_law_1648 dL_law_1650 rfl dL_law_1651 dL_law_1652 ?_
  refine q_arg C0 hw hSc hbl hbA (k := 2) (by omega) hLs (lv_at hl 0 rfl) (lv_at hl 4 rfl) dL_law_1653 dL_law_1654 dL_law_1656 rfl dL_law_1657 dL_law_1658 ?_
  refine lv_aload_n hx hb dL_law_1659 rfl (lv_at hl 3 rfl) ?_
  refine q_callw hw (q_runW (As := [.ref (ad 0), .int (xs (i + 1)), .int (xs (i + 2)), .ref o]) (rest := []) (hWr F f hX hO) C0 hXw hw tw_L_187 rfl hl.1 rfl (by decide) dL_law_1660 ⟨by decide, by decide⟩ hcs) (fun r F1 H1 locs1 hw1 hp => ?_)
  obtain ⟨hr, hX1, ⟨f1, hO1, hv1⟩, fr1⟩ := hp
  subst hr
  refine lv_istore hx hb dL_law_1663 hl (by decide) rfl (fun ls1 hl1 => ?_)
  have hM1 : MW G F1 b9 ma A th := lst_m hS fr1 hM
  obtain ⟨mi, hh, zf, hfb, -, -⟩ := hM1.ob
  refine lv_aload_n hx hb dL_law_1665 rfl (lv_at hl1 3 rfl) ?_
  refine q_arg C0 hw1 hSc hbl hbA (k := 1) (by omega) hLs (lv_at hl1 1 rfl) (lv_at hl1 5 rfl) dL_law_1666 dL_law_1667 dL_law_1669 rfl dL_law_1670 dL_law_1671 ?_
  refine q_arg C0 hw1 hSc hbl hbA (k := 2) (by omega) hLs (lv_at hl1 1 rfl) (lv_at hl1 5 rfl) dL_law_1672 dL_law_1673 dL_law_1675 rfl dL_law_1676 dL_law_1677 ?_
  refine q_calli hw1 (q_runV (As := [.int (xs (i + 1)), .int (xs (i + 2))]) (hMo F1 th hM1) C0 hw1 vw_L_189 hS.2.2.1 hfb rfl rfl rfl hl1.1 rfl (by decide) dL_law_1678 ⟨by decide, by decide⟩ hcs) rfl rfl (fun r2 F2 H2 locs2 hw2 hp2 => ?_)
  obtain ⟨hr2, hM2, fr2⟩ := hp2
  refine lv_istore hx hb dL_law_1681 hl1 (by decide) rfl (fun ls2 hl2 => ?_)
  refine q_tail (a := ad 0) (v := v) (tgt := 2177) C0 hw2 hS.2.2.1 hS.2.2.2.1 hS.2.2.2.2.1 hM2 hk4 (lst_o hS fr2 hO1) hv1 hr2 hl2 ⟨by decide, by decide⟩ hcs dL_law_1683 dL_law_1684 dL_law_1687 dL_law_1689 dL_law_1694 dL_law_1696 dL_law_1699 dL_law_1700 dL_law_1701 dL_law_1702 dL_law_1704 dL_law_1705 dL_law_1706 dL_law_1711 (by decide) (fun F3 H3 locs3 hw3 e3 => ?_)
  exact kk A1 kx F3 f1 H3 locs3 ls2 hA1 hC1 hw3 (lst_x hS fr2 e3 hX1) (hM2.keep (e3 _) (fun _ _ => e3 _)) ((e3 o).trans (lst_o hS fr2 hO1)) (lv_sub hl2 [2, 3, 4, 5, 6] rfl)
theorem lc_24 {p : Program} {l : Launch} {e : Env} {s : State} {m : MethodId} {args : Array Value} {below : List Frame} {meth : Method} {c : Code} {Q : State → Prop} {G : Gl} {L : List Nat} {ad ma : Nat → Nat} {o b9 b Ls i cells slots th : Nat} {xs : Nat → Int32} {F : Nat → va_E} {f : Nat → Int64} {A : AB} {H : Heap} {locs : List Loc} {ls : Array Slot} (hst : l.stackTraces = false) (I : LI p s m args c G L ad o b9 ma b Ls xs i A th F f H locs ls) (hcs : cells + 1 ≤ room_1.cells ∧ slots + 6 ≤ room_1.slots) (kk : LKK p l e s m args below meth c Q G L ad o b9 ma b i cells slots) : W p l e room_1 s m args below meth c H locs cells slots Q (F0 m 1714 ls []) := by
  obtain ⟨C0, hXw, hS, hSc, hbl, hbA, hLs, hA, hC, hw, hX, hM, hO, hi, hl⟩ := I
  have hx := C0.x
  have hb := C0.b
  obtain ⟨kx, A1, v, hk4, hA1, hC1, hWr, hMo⟩ := sc_value l hst G L ad o b9 ma hS A hA hC (xs (i + 1)) (xs (i + 2)) (xs (i + 3))
  refine lv_aload_n hx hb dL_law_1714 rfl (lv_at hl 1 rfl) ?_
  refine q_arg C0 hw hSc hbl hbA (k := 1) (by omega) hLs (lv_at hl 0 rfl) (lv_at hl 4 rfl) dL_law_1715 dL_law_1716 dL_law_1718 rfl dL_law_1719 dL_law_1720 ?_
  refine q_arg C0 hw hSc hbl hbA (k := 2) (by omega) hLs (lv_at hl 0 rfl) (lv_at hl 4 rfl) dL_law_1721 dL_law_1722 dL_law_1724 rfl dL_law_1725 dL_law_1726 ?_
  refine q_arg C0 hw hSc hbl hbA (k := 3) (by omega) hLs (lv_at hl 0 rfl) (lv_at hl 4 rfl) dL_law_1727 dL_law_1728 dL_law_1730 rfl dL_law_1731 dL_law_1732 ?_
  refine lv_aload_n hx hb dL_law_1733 rfl (lv_at hl 3 rfl) ?_
  refine q_callw hw (q_runW (As := [.ref (ad 0), .int (xs (i + 1)), .int (xs (i + 2)), .int (xs (i + 3)), .ref o]) (rest := []) (hWr F f hX hO) C0 hXw hw tw_L_190 rfl hl.1 rfl (by decide) dL_law_1734 ⟨by decide, by decide⟩ hcs) (fun r F1 H1 locs1 hw1 hp => ?_)
  obtain ⟨hr, hX1, ⟨f1, hO1, hv1⟩, fr1⟩ := hp
  subst hr
  refine lv_istore hx hb dL_law_1737 hl (by decide) rfl (fun ls1 hl1 => ?_)
  have hM1 : MW G F1 b9 ma A th := lst_m hS fr1 hM
  obtain ⟨mi, hh, zf, hfb, -, -⟩ := hM1.ob
  refine lv_aload_n hx hb dL_law_1739 rfl (lv_at hl1 3 rfl) ?_
  refine q_arg C0 hw1 hSc hbl hbA (k := 1) (by omega) hLs (lv_at hl1 1 rfl) (lv_at hl1 5 rfl) dL_law_1740 dL_law_1741 dL_law_1743 rfl dL_law_1744 dL_law_1745 ?_
  refine q_arg C0 hw1 hSc hbl hbA (k := 2) (by omega) hLs (lv_at hl1 1 rfl) (lv_at hl1 5 rfl) dL_law_1746 dL_law_1747 dL_law_1749 rfl dL_law_1750 dL_law_1751 ?_
  refine q_arg C0 hw1 hSc hbl hbA (k := 3) (by omega) hLs (lv_at hl1 1 rfl) (lv_at hl1 5 rfl) dL_law_1752 dL_law_1753 dL_law_1755 rfl dL_law_1756 dL_law_1757 ?_
  refine q_calli hw1 (q_runV (As := [.int (xs (i + 1)), .int (xs (i + 2)), .int (xs (i + 3))]) (hMo F1 th hM1) C0 hw1 vw_L_192 hS.2.2.1 hfb rfl rfl rfl hl1.1 rfl (by decide) dL_law_1758 ⟨by decide, by decide⟩ hcs) rfl rfl (fun r2 F2 H2 locs2 hw2 hp2 => ?_)
  obtain ⟨hr2, hM2, fr2⟩ := hp2
  refine lv_istore hx hb dL_law_1761 hl1 (by decide) rfl (fun ls2 hl2 => ?_)
  refine q_tail (a := ad 0) (v := v) (tgt := 2177) C0 hw2 hS.2.2.1 hS.2.2.2.1 hS.2.2.2.2.1 hM2 hk4 (lst_o hS fr2 hO1) hv1 hr2 hl2 ⟨by decide, by decide⟩ hcs dL_law_1763 dL_law_1764 dL_law_1767 dL_law_1769 dL_law_1774 dL_law_1776 dL_law_1779 dL_law_1780 dL_law_1781 dL_law_1782 dL_law_1784 dL_law_1785 dL_law_1786 dL_law_1791 (by decide) (fun F3 H3 locs3 hw3 e3 => ?_)
  exact kk A1 kx F3 f1 H3 locs3 ls2 hA1 hC1 hw3 (lst_x hS fr2 e3 hX1) (hM2.keep (e3 _) (fun _ _ => e3 _)) ((e3 o).trans (lst_o hS fr2 hO1)) (lv_sub hl2 [2, 3, 4, 5, 6] rfl)
theorem lc_25 {p : Program} {l : Launch} {e : Env} {s : State} {m : MethodId} {args : Array Value} {below : List Frame} {meth : Method} {c : Code} {Q : State → Prop} {G : Gl} {L : List Nat} {ad ma : Nat → Nat} {o b9 b Ls i cells slots th : Nat} {xs : Nat → Int32} {F : Nat → va_E} {f : Nat → Int64} {A : AB} {H : Heap} {locs : List Loc} {ls : Array Slot} (hst : l.stackTraces = false) (I : LI p s m args c G L ad o b9 ma b Ls xs i A th F f H locs ls) (hcs : cells + 1 ≤ room_1.cells ∧ slots + 6 ≤ room_1.slots) (kk : LKK p l e s m args below meth c Q G L ad o b9 ma b i cells slots) : W p l e room_1 s m args below meth c H locs cells slots Q (F0 m 1794 ls []) := by
  obtain ⟨C0, hXw, hS, hSc, hbl, hbA, hLs, hA, hC, hw, hX, hM, hO, hi, hl⟩ := I
  have hx := C0.x
  have hb := C0.b
  obtain ⟨kx, A1, v, hk4, hA1, hC1, hWr, hMo⟩ := sc_clash l hst G L ad o b9 ma hS A hA hC (xs (i + 1)) (xs (i + 2))
  refine lv_aload_n hx hb dL_law_1794 rfl (lv_at hl 1 rfl) ?_
  refine q_arg C0 hw hSc hbl hbA (k := 1) (by omega) hLs (lv_at hl 0 rfl) (lv_at hl 4 rfl) dL_law_1795 dL_law_1796 dL_law_1798 rfl dL_law_1799 dL_law_1800 ?_
  refine q_arg C0 hw hSc hbl hbA (k := 2) (by omega) hLs (lv_at hl 0 rfl) (lv_at hl 4 rfl) dL_law_1801 dL_law_1802 dL_law_1804 rfl dL_law_1805 dL_law_1806 ?_
  refine lv_aload_n hx hb dL_law_1807 rfl (lv_at hl 3 rfl) ?_
  refine q_callw hw (q_runW (As := [.ref (ad 0), .int (xs (i + 1)), .int (xs (i + 2)), .ref o]) (rest := []) (hWr F f hX hO) C0 hXw hw tw_L_193 rfl hl.1 rfl (by decide) dL_law_1808 ⟨by decide, by decide⟩ hcs) (fun r F1 H1 locs1 hw1 hp => ?_)
  obtain ⟨hr, hX1, ⟨f1, hO1, hv1⟩, fr1⟩ := hp
  subst hr
  refine lv_istore hx hb dL_law_1811 hl (by decide) rfl (fun ls1 hl1 => ?_)
  have hM1 : MW G F1 b9 ma A th := lst_m hS fr1 hM
  obtain ⟨mi, hh, zf, hfb, -, -⟩ := hM1.ob
  refine lv_aload_n hx hb dL_law_1813 rfl (lv_at hl1 3 rfl) ?_
  refine q_arg C0 hw1 hSc hbl hbA (k := 1) (by omega) hLs (lv_at hl1 1 rfl) (lv_at hl1 5 rfl) dL_law_1814 dL_law_1815 dL_law_1817 rfl dL_law_1818 dL_law_1819 ?_
  refine q_arg C0 hw1 hSc hbl hbA (k := 2) (by omega) hLs (lv_at hl1 1 rfl) (lv_at hl1 5 rfl) dL_law_1820 dL_law_1821 dL_law_1823 rfl dL_law_1824 dL_law_1825 ?_
  refine q_calli hw1 (q_runV (As := [.int (xs (i + 1)), .int (xs (i + 2))]) (hMo F1 th hM1) C0 hw1 vw_L_195 hS.2.2.1 hfb rfl rfl rfl hl1.1 rfl (by decide) dL_law_1826 ⟨by decide, by decide⟩ hcs) rfl rfl (fun r2 F2 H2 locs2 hw2 hp2 => ?_)
  obtain ⟨hr2, hM2, fr2⟩ := hp2
  refine lv_istore hx hb dL_law_1829 hl1 (by decide) rfl (fun ls2 hl2 => ?_)
  refine q_tail (a := ad 0) (v := v) (tgt := 2177) C0 hw2 hS.2.2.1 hS.2.2.2.1 hS.2.2.2.2.1 hM2 hk4 (lst_o hS fr2 hO1) hv1 hr2 hl2 ⟨by decide, by decide⟩ hcs dL_law_1831 dL_law_1832 dL_law_1835 dL_law_1837 dL_law_1842 dL_law_1844 dL_law_1847 dL_law_1848 dL_law_1849 dL_law_1850 dL_law_1852 dL_law_1853 dL_law_1854 dL_law_1859 (by decide) (fun F3 H3 locs3 hw3 e3 => ?_)
  exact kk A1 kx F3 f1 H3 locs3 ls2 hA1 hC1 hw3 (lst_x hS fr2 e3 hX1) (hM2.keep (e3 _) (fun _ _ => e3 _)) ((e3 o).trans (lst_o hS fr2 hO1)) (lv_sub hl2 [2, 3, 4, 5, 6] rfl)
theorem lc_26 {p : Program} {l : Launch} {e : Env} {s : State} {m : MethodId} {args : Array Value} {below : List Frame} {meth : Method} {c : Code} {Q : State → Prop} {G : Gl} {L : List Nat} {ad ma : Nat → Nat} {o b9 b Ls i cells slots th : Nat} {xs : Nat → Int32} {F : Nat → va_E} {f : Nat → Int64} {A : AB} {H : Heap} {locs : List Loc} {ls : Array Slot} (hst : l.stackTraces = false) (I : LI p s m args c G L ad o b9 ma b Ls xs i A th F f H locs ls) (hcs : cells + 1 ≤ room_1.cells ∧ slots + 6 ≤ room_1.slots) (kk : LKK p l e s m args below meth c Q G L ad o b9 ma b i cells slots) : W p l e room_1 s m args below meth c H locs cells slots Q (F0 m 1862 ls []) := by
  obtain ⟨C0, hXw, hS, hSc, hbl, hbA, hLs, hA, hC, hw, hX, hM, hO, hi, hl⟩ := I
  have hx := C0.x
  have hb := C0.b
  obtain ⟨kx, A1, v, hk4, hA1, hC1, hWr, hMo⟩ := sc_apart l hst G L ad o b9 ma hS A hA hC (xs (i + 1)) (xs (i + 2))
  refine lv_aload_n hx hb dL_law_1862 rfl (lv_at hl 1 rfl) ?_
  refine q_arg C0 hw hSc hbl hbA (k := 1) (by omega) hLs (lv_at hl 0 rfl) (lv_at hl 4 rfl) dL_law_1863 dL_law_1864 dL_law_1866 rfl dL_law_1867 dL_law_1868 ?_
  refine q_arg C0 hw hSc hbl hbA (k := 2) (by omega) hLs (lv_at hl 0 rfl) (lv_at hl 4 rfl) dL_law_1869 dL_law_1870 dL_law_1872 rfl dL_law_1873 dL_law_1874 ?_
  refine lv_aload_n hx hb dL_law_1875 rfl (lv_at hl 3 rfl) ?_
  refine q_callw hw (q_runW (As := [.ref (ad 0), .int (xs (i + 1)), .int (xs (i + 2)), .ref o]) (rest := []) (hWr F f hX hO) C0 hXw hw tw_L_196 rfl hl.1 rfl (by decide) dL_law_1876 ⟨by decide, by decide⟩ hcs) (fun r F1 H1 locs1 hw1 hp => ?_)
  obtain ⟨hr, hX1, ⟨f1, hO1, hv1⟩, fr1⟩ := hp
  subst hr
  refine lv_istore hx hb dL_law_1879 hl (by decide) rfl (fun ls1 hl1 => ?_)
  have hM1 : MW G F1 b9 ma A th := lst_m hS fr1 hM
  obtain ⟨mi, hh, zf, hfb, -, -⟩ := hM1.ob
  refine lv_aload_n hx hb dL_law_1881 rfl (lv_at hl1 3 rfl) ?_
  refine q_arg C0 hw1 hSc hbl hbA (k := 1) (by omega) hLs (lv_at hl1 1 rfl) (lv_at hl1 5 rfl) dL_law_1882 dL_law_1883 dL_law_1885 rfl dL_law_1886 dL_law_1887 ?_
  refine q_arg C0 hw1 hSc hbl hbA (k := 2) (by omega) hLs (lv_at hl1 1 rfl) (lv_at hl1 5 rfl) dL_law_1888 dL_law_1889 dL_law_1891 rfl dL_law_1892 dL_law_1893 ?_
  refine q_calli hw1 (q_runV (As := [.int (xs (i + 1)), .int (xs (i + 2))]) (hMo F1 th hM1) C0 hw1 vw_L_198 hS.2.2.1 hfb rfl rfl rfl hl1.1 rfl (by decide) dL_law_1894 ⟨by decide, by decide⟩ hcs) rfl rfl (fun r2 F2 H2 locs2 hw2 hp2 => ?_)
  obtain ⟨hr2, hM2, fr2⟩ := hp2
  refine lv_istore hx hb dL_law_1897 hl1 (by decide) rfl (fun ls2 hl2 => ?_)
  refine q_tail (a := ad 0) (v := v) (tgt := 2177) C0 hw2 hS.2.2.1 hS.2.2.2.1 hS.2.2.2.2.1 hM2 hk4 (lst_o hS fr2 hO1) hv1 hr2 hl2 ⟨by decide, by decide⟩ hcs dL_law_1899 dL_law_1900 dL_law_1903 dL_law_1905 dL_law_1910 dL_law_1912 dL_law_1915 dL_law_1916 dL_law_1917 dL_law_1918 dL_law_1920 dL_law_1921 dL_law_1922 dL_law_1927 (by decide) (fun F3 H3 locs3 hw3 e3 => ?_)
  exact kk A1 kx F3 f1 H3 locs3 ls2 hA1 hC1 hw3 (lst_x hS fr2 e3 hX1) (hM2.keep (e3 _) (fun _ _ => e3 _)) ((e3 o).trans (lst_o hS fr2 hO1)) (lv_sub hl2 [2, 3, 4, 5, 6] rfl)
theorem lc_27 {p : Program} {l : Launch} {e : Env} {s : State} {m : MethodId} {args : Array Value} {below : List Frame} {meth : Method} {c : Code} {Q : State → Prop} {G : Gl} {L : List Nat} {ad ma : Nat → Nat} {o b9 b Ls i cells slots th : Nat} {xs : Nat → Int32} {F : Nat → va_E} {f : Nat → Int64} {A : AB} {H : Heap} {locs : List Loc} {ls : Array Slot} (hst : l.stackTraces = false) (I : LI p s m args c G L ad o b9 ma b Ls xs i A th F f H locs ls) (hcs : cells + 1 ≤ room_1.cells ∧ slots + 6 ≤ room_1.slots) (kk : LKK p l e s m args below meth c Q G L ad o b9 ma b i cells slots) : W p l e room_1 s m args below meth c H locs cells slots Q (F0 m 1930 ls []) := by
  obtain ⟨C0, hXw, hS, hSc, hbl, hbA, hLs, hA, hC, hw, hX, hM, hO, hi, hl⟩ := I
  have hx := C0.x
  have hb := C0.b
  obtain ⟨kx, A1, v, hk4, hA1, hC1, hWr, hMo⟩ := sc_differs l hst G L ad o b9 ma hS A hA hC (xs (i + 1)) (xs (i + 2)) (xs (i + 3))
  refine lv_aload_n hx hb dL_law_1930 rfl (lv_at hl 1 rfl) ?_
  refine q_arg C0 hw hSc hbl hbA (k := 1) (by omega) hLs (lv_at hl 0 rfl) (lv_at hl 4 rfl) dL_law_1931 dL_law_1932 dL_law_1934 rfl dL_law_1935 dL_law_1936 ?_
  refine q_arg C0 hw hSc hbl hbA (k := 2) (by omega) hLs (lv_at hl 0 rfl) (lv_at hl 4 rfl) dL_law_1937 dL_law_1938 dL_law_1940 rfl dL_law_1941 dL_law_1942 ?_
  refine q_arg C0 hw hSc hbl hbA (k := 3) (by omega) hLs (lv_at hl 0 rfl) (lv_at hl 4 rfl) dL_law_1943 dL_law_1944 dL_law_1946 rfl dL_law_1947 dL_law_1948 ?_
  refine lv_aload_n hx hb dL_law_1949 rfl (lv_at hl 3 rfl) ?_
  refine q_callw hw (q_runW (As := [.ref (ad 0), .int (xs (i + 1)), .int (xs (i + 2)), .int (xs (i + 3)), .ref o]) (rest := []) (hWr F f hX hO) C0 hXw hw tw_L_199 rfl hl.1 rfl (by decide) dL_law_1950 ⟨by decide, by decide⟩ hcs) (fun r F1 H1 locs1 hw1 hp => ?_)
  obtain ⟨hr, hX1, ⟨f1, hO1, hv1⟩, fr1⟩ := hp
  subst hr
  refine lv_istore hx hb dL_law_1953 hl (by decide) rfl (fun ls1 hl1 => ?_)
  have hM1 : MW G F1 b9 ma A th := lst_m hS fr1 hM
  obtain ⟨mi, hh, zf, hfb, -, -⟩ := hM1.ob
  refine lv_aload_n hx hb dL_law_1955 rfl (lv_at hl1 3 rfl) ?_
  refine q_arg C0 hw1 hSc hbl hbA (k := 1) (by omega) hLs (lv_at hl1 1 rfl) (lv_at hl1 5 rfl) dL_law_1956 dL_law_1957 dL_law_1959 rfl dL_law_1960 dL_law_1961 ?_
  refine q_arg C0 hw1 hSc hbl hbA (k := 2) (by omega) hLs (lv_at hl1 1 rfl) (lv_at hl1 5 rfl) dL_law_1962 dL_law_1963 dL_law_1965 rfl dL_law_1966 dL_law_1967 ?_
  refine q_arg C0 hw1 hSc hbl hbA (k := 3) (by omega) hLs (lv_at hl1 1 rfl) (lv_at hl1 5 rfl) dL_law_1968 dL_law_1969 dL_law_1971 rfl dL_law_1972 dL_law_1973 ?_
  refine q_calli hw1 (q_runV (As := [.int (xs (i + 1)), .int (xs (i + 2)), .int (xs (i + 3))]) (hMo F1 th hM1) C0 hw1 vw_L_201 hS.2.2.1 hfb rfl rfl rfl hl1.1 rfl (by decide) dL_law_1974 ⟨by decide, by decide⟩ hcs) rfl rfl (fun r2 F2 H2 locs2 hw2 hp2 => ?_)
  obtain ⟨hr2, hM2, fr2⟩ := hp2
  refine lv_istore hx hb dL_law_1977 hl1 (by decide) rfl (fun ls2 hl2 => ?_)
  refine q_tail (a := ad 0) (v := v) (tgt := 2177) C0 hw2 hS.2.2.1 hS.2.2.2.1 hS.2.2.2.2.1 hM2 hk4 (lst_o hS fr2 hO1) hv1 hr2 hl2 ⟨by decide, by decide⟩ hcs dL_law_1979 dL_law_1980 dL_law_1983 dL_law_1985 dL_law_1990 dL_law_1992 dL_law_1995 dL_law_1996 dL_law_1997 dL_law_1998 dL_law_2000 dL_law_2001 dL_law_2002 dL_law_2007 (by decide) (fun F3 H3 locs3 hw3 e3 => ?_)
  exact kk A1 kx F3 f1 H3 locs3 ls2 hA1 hC1 hw3 (lst_x hS fr2 e3 hX1) (hM2.keep (e3 _) (fun _ _ => e3 _)) ((e3 o).trans (lst_o hS fr2 hO1)) (lv_sub hl2 [2, 3, 4, 5, 6] rfl)
theorem lc_28 {p : Program} {l : Launch} {e : Env} {s : State} {m : MethodId} {args : Array Value} {below : List Frame} {meth : Method} {c : Code} {Q : State → Prop} {G : Gl} {L : List Nat} {ad ma : Nat → Nat} {o b9 b Ls i cells slots th : Nat} {xs : Nat → Int32} {F : Nat → va_E} {f : Nat → Int64} {A : AB} {H : Heap} {locs : List Loc} {ls : Array Slot} (hst : l.stackTraces = false) (I : LI p s m args c G L ad o b9 ma b Ls xs i A th F f H locs ls) (hcs : cells + 1 ≤ room_1.cells ∧ slots + 6 ≤ room_1.slots) (kk : LKK p l e s m args below meth c Q G L ad o b9 ma b i cells slots) : W p l e room_1 s m args below meth c H locs cells slots Q (F0 m 2010 ls []) := by
  obtain ⟨C0, hXw, hS, hSc, hbl, hbA, hLs, hA, hC, hw, hX, hM, hO, hi, hl⟩ := I
  have hx := C0.x
  have hb := C0.b
  obtain ⟨kx, A1, v, hk4, hA1, hC1, hWr, hMo⟩ := sc_lacks l hst G L ad o b9 ma hS A hA hC (xs (i + 1))
  refine lv_aload_n hx hb dL_law_2010 rfl (lv_at hl 1 rfl) ?_
  refine q_arg C0 hw hSc hbl hbA (k := 1) (by omega) hLs (lv_at hl 0 rfl) (lv_at hl 4 rfl) dL_law_2011 dL_law_2012 dL_law_2014 rfl dL_law_2015 dL_law_2016 ?_
  refine lv_aload_n hx hb dL_law_2017 rfl (lv_at hl 3 rfl) ?_
  refine q_callw hw (q_runW (As := [.ref (ad 0), .int (xs (i + 1)), .ref o]) (rest := []) (hWr F f hX hO) C0 hXw hw tw_L_202 rfl hl.1 rfl (by decide) dL_law_2018 ⟨by decide, by decide⟩ hcs) (fun r F1 H1 locs1 hw1 hp => ?_)
  obtain ⟨hr, hX1, ⟨f1, hO1, hv1⟩, fr1⟩ := hp
  subst hr
  refine lv_istore hx hb dL_law_2021 hl (by decide) rfl (fun ls1 hl1 => ?_)
  have hM1 : MW G F1 b9 ma A th := lst_m hS fr1 hM
  obtain ⟨mi, hh, zf, hfb, -, -⟩ := hM1.ob
  refine lv_aload_n hx hb dL_law_2023 rfl (lv_at hl1 3 rfl) ?_
  refine q_arg C0 hw1 hSc hbl hbA (k := 1) (by omega) hLs (lv_at hl1 1 rfl) (lv_at hl1 5 rfl) dL_law_2024 dL_law_2025 dL_law_2027 rfl dL_law_2028 dL_law_2029 ?_
  refine q_calli hw1 (q_runV (As := [.int (xs (i + 1))]) (hMo F1 th hM1) C0 hw1 vw_L_204 hS.2.2.1 hfb rfl rfl rfl hl1.1 rfl (by decide) dL_law_2030 ⟨by decide, by decide⟩ hcs) rfl rfl (fun r2 F2 H2 locs2 hw2 hp2 => ?_)
  obtain ⟨hr2, hM2, fr2⟩ := hp2
  refine lv_istore hx hb dL_law_2033 hl1 (by decide) rfl (fun ls2 hl2 => ?_)
  refine q_tail (a := ad 0) (v := v) (tgt := 2177) C0 hw2 hS.2.2.1 hS.2.2.2.1 hS.2.2.2.2.1 hM2 hk4 (lst_o hS fr2 hO1) hv1 hr2 hl2 ⟨by decide, by decide⟩ hcs dL_law_2035 dL_law_2036 dL_law_2039 dL_law_2041 dL_law_2046 dL_law_2048 dL_law_2051 dL_law_2052 dL_law_2053 dL_law_2054 dL_law_2056 dL_law_2057 dL_law_2058 dL_law_2063 (by decide) (fun F3 H3 locs3 hw3 e3 => ?_)
  exact kk A1 kx F3 f1 H3 locs3 ls2 hA1 hC1 hw3 (lst_x hS fr2 e3 hX1) (hM2.keep (e3 _) (fun _ _ => e3 _)) ((e3 o).trans (lst_o hS fr2 hO1)) (lv_sub hl2 [2, 3, 4, 5, 6] rfl)
theorem lc_29 {p : Program} {l : Launch} {e : Env} {s : State} {m : MethodId} {args : Array Value} {below : List Frame} {meth : Method} {c : Code} {Q : State → Prop} {G : Gl} {L : List Nat} {ad ma : Nat → Nat} {o b9 b Ls i cells slots th : Nat} {xs : Nat → Int32} {F : Nat → va_E} {f : Nat → Int64} {A : AB} {H : Heap} {locs : List Loc} {ls : Array Slot} (hst : l.stackTraces = false) (I : LI p s m args c G L ad o b9 ma b Ls xs i A th F f H locs ls) (hcs : cells + 1 ≤ room_1.cells ∧ slots + 6 ≤ room_1.slots) (kk : LKK p l e s m args below meth c Q G L ad o b9 ma b i cells slots) : W p l e room_1 s m args below meth c H locs cells slots Q (F0 m 2066 ls []) := by
  obtain ⟨C0, hXw, hS, hSc, hbl, hbA, hLs, hA, hC, hw, hX, hM, hO, hi, hl⟩ := I
  have hx := C0.x
  have hb := C0.b
  obtain ⟨kx, A1, v, hk4, hA1, hC1, hWr, hMo⟩ := sc_count l hst G L ad o b9 ma hS A hA hC (xs (i + 1))
  refine lv_aload_n hx hb dL_law_2066 rfl (lv_at hl 1 rfl) ?_
  refine q_arg C0 hw hSc hbl hbA (k := 1) (by omega) hLs (lv_at hl 0 rfl) (lv_at hl 4 rfl) dL_law_2067 dL_law_2068 dL_law_2070 rfl dL_law_2071 dL_law_2072 ?_
  refine lv_aload_n hx hb dL_law_2073 rfl (lv_at hl 3 rfl) ?_
  refine q_callw hw (q_runW (As := [.ref (ad 0), .int (xs (i + 1)), .ref o]) (rest := []) (hWr F f hX hO) C0 hXw hw tw_L_205 rfl hl.1 rfl (by decide) dL_law_2074 ⟨by decide, by decide⟩ hcs) (fun r F1 H1 locs1 hw1 hp => ?_)
  obtain ⟨hr, hX1, ⟨f1, hO1, hv1⟩, fr1⟩ := hp
  subst hr
  refine lv_istore hx hb dL_law_2077 hl (by decide) rfl (fun ls1 hl1 => ?_)
  have hM1 : MW G F1 b9 ma A th := lst_m hS fr1 hM
  obtain ⟨mi, hh, zf, hfb, -, -⟩ := hM1.ob
  refine lv_aload_n hx hb dL_law_2079 rfl (lv_at hl1 3 rfl) ?_
  refine q_arg C0 hw1 hSc hbl hbA (k := 1) (by omega) hLs (lv_at hl1 1 rfl) (lv_at hl1 5 rfl) dL_law_2080 dL_law_2081 dL_law_2083 rfl dL_law_2084 dL_law_2085 ?_
  refine q_calli hw1 (q_runV (As := [.int (xs (i + 1))]) (hMo F1 th hM1) C0 hw1 vw_L_207 hS.2.2.1 hfb rfl rfl rfl hl1.1 rfl (by decide) dL_law_2086 ⟨by decide, by decide⟩ hcs) rfl rfl (fun r2 F2 H2 locs2 hw2 hp2 => ?_)
  obtain ⟨hr2, hM2, fr2⟩ := hp2
  refine lv_istore hx hb dL_law_2089 hl1 (by decide) rfl (fun ls2 hl2 => ?_)
  refine q_tail (a := ad 0) (v := v) (tgt := 2177) C0 hw2 hS.2.2.1 hS.2.2.2.1 hS.2.2.2.2.1 hM2 hk4 (lst_o hS fr2 hO1) hv1 hr2 hl2 ⟨by decide, by decide⟩ hcs dL_law_2091 dL_law_2092 dL_law_2095 dL_law_2097 dL_law_2102 dL_law_2104 dL_law_2107 dL_law_2108 dL_law_2109 dL_law_2110 dL_law_2112 dL_law_2113 dL_law_2114 dL_law_2119 (by decide) (fun F3 H3 locs3 hw3 e3 => ?_)
  exact kk A1 kx F3 f1 H3 locs3 ls2 hA1 hC1 hw3 (lst_x hS fr2 e3 hX1) (hM2.keep (e3 _) (fun _ _ => e3 _)) ((e3 o).trans (lst_o hS fr2 hO1)) (lv_sub hl2 [2, 3, 4, 5, 6] rfl)
