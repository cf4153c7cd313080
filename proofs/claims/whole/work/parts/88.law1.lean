theorem dL_law_243 : decode cL_law 243 = .ok (.aload_n 1, 1) := by decide +kernel
theorem dL_law_244 : decode cL_law 244 = .ok (.aload_n 0, 1) := by decide +kernel
theorem dL_law_245 : decode cL_law 245 = .ok (.iload_n 3, 1) := by decide +kernel
theorem dL_law_246 : decode cL_law 246 = .ok (.iconst 1, 1) := by decide +kernel
theorem dL_law_247 : decode cL_law 247 = .ok (.iadd, 1) := by decide +kernel
theorem dL_law_248 : decode cL_law 248 = .ok (.iaload, 1) := by decide +kernel
theorem dL_law_249 : decode cL_law 249 = .ok (.aload_n 0, 1) := by decide +kernel
theorem dL_law_250 : decode cL_law 250 = .ok (.iload_n 3, 1) := by decide +kernel
theorem dL_law_251 : decode cL_law 251 = .ok (.iconst 2, 1) := by decide +kernel
theorem dL_law_252 : decode cL_law 252 = .ok (.iadd, 1) := by decide +kernel
theorem dL_law_253 : decode cL_law 253 = .ok (.iaload, 1) := by decide +kernel
theorem dL_law_254 : decode cL_law 254 = .ok (.invokevirtual 27, 3) := by decide +kernel
theorem dL_law_257 : decode cL_law 257 = .ok (.aload_n 2, 1) := by decide +kernel
theorem dL_law_258 : decode cL_law 258 = .ok (.aload_n 0, 1) := by decide +kernel
theorem dL_law_259 : decode cL_law 259 = .ok (.iload_n 3, 1) := by decide +kernel
theorem dL_law_260 : decode cL_law 260 = .ok (.iconst 1, 1) := by decide +kernel
theorem dL_law_261 : decode cL_law 261 = .ok (.iadd, 1) := by decide +kernel
theorem dL_law_262 : decode cL_law 262 = .ok (.iaload, 1) := by decide +kernel
theorem dL_law_263 : decode cL_law 263 = .ok (.aload_n 0, 1) := by decide +kernel
theorem dL_law_264 : decode cL_law 264 = .ok (.iload_n 3, 1) := by decide +kernel
theorem dL_law_265 : decode cL_law 265 = .ok (.iconst 2, 1) := by decide +kernel
theorem dL_law_266 : decode cL_law 266 = .ok (.iadd, 1) := by decide +kernel
theorem dL_law_267 : decode cL_law 267 = .ok (.iaload, 1) := by decide +kernel
theorem dL_law_268 : decode cL_law 268 = .ok (.invokevirtual 31, 3) := by decide +kernel
theorem dL_law_271 : decode cL_law 271 = .ok (.if_icmp .eq 590, 3) := by decide +kernel
set_option maxHeartbeats 2000000 in
theorem lw_c3 {p : Program} {l : Launch} {e : Env} {s : State} {m : MethodId} {args : Array Value} {below : List Frame} {meth : Method} {c : Code} {D : va_G} {A : Nat → Prop} {cells slots : Nat} {Qf : State → Prop} {cI cZ cH : ClassId} {a a' : Nat → Nat} {n : Nat} {σ μ : St} {b L i : Nat} {xs : Nat → Int32} (X : cx p s m args c cL_law 4 RL D (wL cI cZ cH a a' n) A (tyW cI cZ cH)) (hX : va_X b L xs s s.heap) (hbl : b < s.heap.size) (hbA : ¬ A b) (hL : L ≤ 4096) (hi : i + 8 ≤ L) (hcl : cells ≤ room_1.cells) (hsl : slots ≤ room_1.slots) (h : RI n σ μ) (kk : ∀ σ' μ' : St, RI n σ' μ' → go p l e room_1 s m args below meth c D (wL cI cZ cH a a' n) A cells slots Qf 4 861 [(0, .ref b), (1, .ref (a 0)), (2, .ref (a' 0)), (3, .int (nI i))] [] (mix σ' μ')) : go p l e room_1 s m args below meth c D (wL cI cZ cH a a' n) A cells slots Qf 4 243 [(0, .ref b), (1, .ref (a 0)), (2, .ref (a' 0)), (3, .int (nI i))] [] (mix σ μ) := by
  refine r_aload_n X 1 244 dL_law_243 rfl rfl rfl ?_
  refine r_arg X hX hbl hbA hL 1 249 (by omega) rfl rfl (by decide) dL_law_244 dL_law_245 dL_law_246 dL_law_247 dL_law_248 rfl ?_
  refine r_arg X hX hbl hbA hL 2 254 (by omega) rfl rfl (by decide) dL_law_249 dL_law_250 dL_law_251 dL_law_252 dL_law_253 rfl ?_
  refine r_callLC (As := [.int (xs (i + 1)), .int (xs (i + 2))]) (rest := []) (q0 := 0) (ci := 5) X 257 (c_X5_thing (J_thing h (xs (i + 1)) (xs (i + 2)))) ml_L_27 lk_X5_thing wC_at_0 rfl rfl rfl (Nat.le_of_ble_eq_true rfl) ⟨rfl, rfl, ⟨(Nat.le_of_ble_eq_true rfl), (Nat.le_of_ble_eq_true rfl)⟩, hcl, hsl⟩ dL_law_254 rfl (fun r σ' hq => ?_)
  refine r_aload_n X 2 258 dL_law_257 rfl rfl rfl ?_
  refine r_arg X hX hbl hbA hL 1 263 (by omega) rfl rfl (by decide) dL_law_258 dL_law_259 dL_law_260 dL_law_261 dL_law_262 rfl ?_
  refine r_arg X hX hbl hbA hL 2 268 (by omega) rfl rfl (by decide) dL_law_263 dL_law_264 dL_law_265 dL_law_266 dL_law_267 rfl ?_
  refine r_callLM (As := [.int (xs (i + 1)), .int (xs (i + 2))]) (rest := [.int r]) (q0 := 0) (ci := 6) X 271 (c_X6_thing hq) ml_L_31 lk_X6_thing rfl rfl rfl rfl (Nat.le_of_ble_eq_true rfl) ⟨rfl, rfl, ⟨(Nat.le_of_ble_eq_true rfl), (Nat.le_of_ble_eq_true rfl)⟩, hcl, hsl⟩ dL_law_268 rfl (fun r' μ' hq' => ?_)
  obtain ⟨e9, hR⟩ := hq'
  subst e9
  refine r_icmp_eq (P1 := True) (P2 := False) X 861 274 (by rw [if_pos rfl]; trivial) dL_law_271 (by decide) rfl (fun _ => ?_) (fun h9 => h9.elim)
  exact kk σ' μ' hR
theorem dL_law_276 : decode cL_law 276 = .ok (.aload_n 1, 1) := by decide +kernel
theorem dL_law_277 : decode cL_law 277 = .ok (.aload_n 0, 1) := by decide +kernel
theorem dL_law_278 : decode cL_law 278 = .ok (.iload_n 3, 1) := by decide +kernel
theorem dL_law_279 : decode cL_law 279 = .ok (.iconst 1, 1) := by decide +kernel
theorem dL_law_280 : decode cL_law 280 = .ok (.iadd, 1) := by decide +kernel
theorem dL_law_281 : decode cL_law 281 = .ok (.iaload, 1) := by decide +kernel
theorem dL_law_282 : decode cL_law 282 = .ok (.invokevirtual 32, 3) := by decide +kernel
theorem dL_law_285 : decode cL_law 285 = .ok (.aload_n 2, 1) := by decide +kernel
theorem dL_law_286 : decode cL_law 286 = .ok (.aload_n 0, 1) := by decide +kernel
theorem dL_law_287 : decode cL_law 287 = .ok (.iload_n 3, 1) := by decide +kernel
theorem dL_law_288 : decode cL_law 288 = .ok (.iconst 1, 1) := by decide +kernel
theorem dL_law_289 : decode cL_law 289 = .ok (.iadd, 1) := by decide +kernel
theorem dL_law_290 : decode cL_law 290 = .ok (.iaload, 1) := by decide +kernel
theorem dL_law_291 : decode cL_law 291 = .ok (.invokevirtual 36, 3) := by decide +kernel
theorem dL_law_294 : decode cL_law 294 = .ok (.if_icmp .eq 567, 3) := by decide +kernel
set_option maxHeartbeats 2000000 in
theorem lw_c4 {p : Program} {l : Launch} {e : Env} {s : State} {m : MethodId} {args : Array Value} {below : List Frame} {meth : Method} {c : Code} {D : va_G} {A : Nat → Prop} {cells slots : Nat} {Qf : State → Prop} {cI cZ cH : ClassId} {a a' : Nat → Nat} {n : Nat} {σ μ : St} {b L i : Nat} {xs : Nat → Int32} (X : cx p s m args c cL_law 4 RL D (wL cI cZ cH a a' n) A (tyW cI cZ cH)) (hX : va_X b L xs s s.heap) (hbl : b < s.heap.size) (hbA : ¬ A b) (hL : L ≤ 4096) (hi : i + 8 ≤ L) (hcl : cells ≤ room_1.cells) (hsl : slots ≤ room_1.slots) (h : RI n σ μ) (kk : ∀ σ' μ' : St, RI n σ' μ' → go p l e room_1 s m args below meth c D (wL cI cZ cH a a' n) A cells slots Qf 4 861 [(0, .ref b), (1, .ref (a 0)), (2, .ref (a' 0)), (3, .int (nI i))] [] (mix σ' μ')) : go p l e room_1 s m args below meth c D (wL cI cZ cH a a' n) A cells slots Qf 4 276 [(0, .ref b), (1, .ref (a 0)), (2, .ref (a' 0)), (3, .int (nI i))] [] (mix σ μ) := by
  refine r_aload_n X 1 277 dL_law_276 rfl rfl rfl ?_
  refine r_arg X hX hbl hbA hL 1 282 (by omega) rfl rfl (by decide) dL_law_277 dL_law_278 dL_law_279 dL_law_280 dL_law_281 rfl ?_
  refine r_callLC (As := [.int (xs (i + 1))]) (rest := []) (q0 := 0) (ci := 5) X 285 (c_X5_pass (J_pass h (xs (i + 1)))) ml_L_32 lk_X5_pass wC_at_0 rfl rfl rfl (Nat.le_of_ble_eq_true rfl) ⟨rfl, rfl, ⟨(Nat.le_of_ble_eq_true rfl), (Nat.le_of_ble_eq_true rfl)⟩, hcl, hsl⟩ dL_law_282 rfl (fun r σ' hq => ?_)
  refine r_aload_n X 2 286 dL_law_285 rfl rfl rfl ?_
  refine r_arg X hX hbl hbA hL 1 291 (by omega) rfl rfl (by decide) dL_law_286 dL_law_287 dL_law_288 dL_law_289 dL_law_290 rfl ?_
  refine r_callLM (As := [.int (xs (i + 1))]) (rest := [.int r]) (q0 := 0) (ci := 6) X 294 (c_X6_pass hq) ml_L_36 lk_X6_pass rfl rfl rfl rfl (Nat.le_of_ble_eq_true rfl) ⟨rfl, rfl, ⟨(Nat.le_of_ble_eq_true rfl), (Nat.le_of_ble_eq_true rfl)⟩, hcl, hsl⟩ dL_law_291 rfl (fun r' μ' hq' => ?_)
  obtain ⟨e9, hR⟩ := hq'
  subst e9
  refine r_icmp_eq (P1 := True) (P2 := False) X 861 297 (by rw [if_pos rfl]; trivial) dL_law_294 (by decide) rfl (fun _ => ?_) (fun h9 => h9.elim)
  exact kk σ' μ' hR
theorem dL_law_299 : decode cL_law 299 = .ok (.aload_n 1, 1) := by decide +kernel
theorem dL_law_300 : decode cL_law 300 = .ok (.aload_n 0, 1) := by decide +kernel
theorem dL_law_301 : decode cL_law 301 = .ok (.iload_n 3, 1) := by decide +kernel
theorem dL_law_302 : decode cL_law 302 = .ok (.iconst 1, 1) := by decide +kernel
theorem dL_law_303 : decode cL_law 303 = .ok (.iadd, 1) := by decide +kernel
theorem dL_law_304 : decode cL_law 304 = .ok (.iaload, 1) := by decide +kernel
theorem dL_law_305 : decode cL_law 305 = .ok (.aload_n 0, 1) := by decide +kernel
theorem dL_law_306 : decode cL_law 306 = .ok (.iload_n 3, 1) := by decide +kernel
theorem dL_law_307 : decode cL_law 307 = .ok (.iconst 2, 1) := by decide +kernel
theorem dL_law_308 : decode cL_law 308 = .ok (.iadd, 1) := by decide +kernel
theorem dL_law_309 : decode cL_law 309 = .ok (.iaload, 1) := by decide +kernel
theorem dL_law_310 : decode cL_law 310 = .ok (.aload_n 0, 1) := by decide +kernel
theorem dL_law_311 : decode cL_law 311 = .ok (.iload_n 3, 1) := by decide +kernel
theorem dL_law_312 : decode cL_law 312 = .ok (.iconst 3, 1) := by decide +kernel
theorem dL_law_313 : decode cL_law 313 = .ok (.iadd, 1) := by decide +kernel
theorem dL_law_314 : decode cL_law 314 = .ok (.iaload, 1) := by decide +kernel
theorem dL_law_315 : decode cL_law 315 = .ok (.aload_n 0, 1) := by decide +kernel
theorem dL_law_316 : decode cL_law 316 = .ok (.iload_n 3, 1) := by decide +kernel
theorem dL_law_317 : decode cL_law 317 = .ok (.iconst 4, 1) := by decide +kernel
theorem dL_law_318 : decode cL_law 318 = .ok (.iadd, 1) := by decide +kernel
theorem dL_law_319 : decode cL_law 319 = .ok (.iaload, 1) := by decide +kernel
theorem dL_law_320 : decode cL_law 320 = .ok (.aload_n 0, 1) := by decide +kernel
theorem dL_law_321 : decode cL_law 321 = .ok (.iload_n 3, 1) := by decide +kernel
theorem dL_law_322 : decode cL_law 322 = .ok (.iconst 5, 1) := by decide +kernel
theorem dL_law_323 : decode cL_law 323 = .ok (.iadd, 1) := by decide +kernel
theorem dL_law_324 : decode cL_law 324 = .ok (.iaload, 1) := by decide +kernel
theorem dL_law_325 : decode cL_law 325 = .ok (.aload_n 0, 1) := by decide +kernel
theorem dL_law_326 : decode cL_law 326 = .ok (.iload_n 3, 1) := by decide +kernel
theorem dL_law_327 : decode cL_law 327 = .ok (.bipush 6, 2) := by decide +kernel
theorem dL_law_329 : decode cL_law 329 = .ok (.iadd, 1) := by decide +kernel
theorem dL_law_330 : decode cL_law 330 = .ok (.iaload, 1) := by decide +kernel
theorem dL_law_331 : decode cL_law 331 = .ok (.aload_n 0, 1) := by decide +kernel
theorem dL_law_332 : decode cL_law 332 = .ok (.iload_n 3, 1) := by decide +kernel
theorem dL_law_333 : decode cL_law 333 = .ok (.bipush 7, 2) := by decide +kernel
theorem dL_law_335 : decode cL_law 335 = .ok (.iadd, 1) := by decide +kernel
theorem dL_law_336 : decode cL_law 336 = .ok (.iaload, 1) := by decide +kernel
theorem dL_law_337 : decode cL_law 337 = .ok (.invokevirtual 37, 3) := by decide +kernel
theorem dL_law_340 : decode cL_law 340 = .ok (.aload_n 2, 1) := by decide +kernel
theorem dL_law_341 : decode cL_law 341 = .ok (.aload_n 0, 1) := by decide +kernel
theorem dL_law_342 : decode cL_law 342 = .ok (.iload_n 3, 1) := by decide +kernel
theorem dL_law_343 : decode cL_law 343 = .ok (.iconst 1, 1) := by decide +kernel
theorem dL_law_344 : decode cL_law 344 = .ok (.iadd, 1) := by decide +kernel
theorem dL_law_345 : decode cL_law 345 = .ok (.iaload, 1) := by decide +kernel
theorem dL_law_346 : decode cL_law 346 = .ok (.aload_n 0, 1) := by decide +kernel
theorem dL_law_347 : decode cL_law 347 = .ok (.iload_n 3, 1) := by decide +kernel
theorem dL_law_348 : decode cL_law 348 = .ok (.iconst 2, 1) := by decide +kernel
theorem dL_law_349 : decode cL_law 349 = .ok (.iadd, 1) := by decide +kernel
theorem dL_law_350 : decode cL_law 350 = .ok (.iaload, 1) := by decide +kernel
theorem dL_law_351 : decode cL_law 351 = .ok (.aload_n 0, 1) := by decide +kernel
theorem dL_law_352 : decode cL_law 352 = .ok (.iload_n 3, 1) := by decide +kernel
theorem dL_law_353 : decode cL_law 353 = .ok (.iconst 3, 1) := by decide +kernel
theorem dL_law_354 : decode cL_law 354 = .ok (.iadd, 1) := by decide +kernel
theorem dL_law_355 : decode cL_law 355 = .ok (.iaload, 1) := by decide +kernel
theorem dL_law_356 : decode cL_law 356 = .ok (.aload_n 0, 1) := by decide +kernel
theorem dL_law_357 : decode cL_law 357 = .ok (.iload_n 3, 1) := by decide +kernel
theorem dL_law_358 : decode cL_law 358 = .ok (.iconst 4, 1) := by decide +kernel
theorem dL_law_359 : decode cL_law 359 = .ok (.iadd, 1) := by decide +kernel
theorem dL_law_360 : decode cL_law 360 = .ok (.iaload, 1) := by decide +kernel
theorem dL_law_361 : decode cL_law 361 = .ok (.aload_n 0, 1) := by decide +kernel
theorem dL_law_362 : decode cL_law 362 = .ok (.iload_n 3, 1) := by decide +kernel
theorem dL_law_363 : decode cL_law 363 = .ok (.iconst 5, 1) := by decide +kernel
theorem dL_law_364 : decode cL_law 364 = .ok (.iadd, 1) := by decide +kernel
theorem dL_law_365 : decode cL_law 365 = .ok (.iaload, 1) := by decide +kernel
theorem dL_law_366 : decode cL_law 366 = .ok (.aload_n 0, 1) := by decide +kernel
theorem dL_law_367 : decode cL_law 367 = .ok (.iload_n 3, 1) := by decide +kernel
theorem dL_law_368 : decode cL_law 368 = .ok (.bipush 6, 2) := by decide +kernel
theorem dL_law_370 : decode cL_law 370 = .ok (.iadd, 1) := by decide +kernel
theorem dL_law_371 : decode cL_law 371 = .ok (.iaload, 1) := by decide +kernel
theorem dL_law_372 : decode cL_law 372 = .ok (.aload_n 0, 1) := by decide +kernel
theorem dL_law_373 : decode cL_law 373 = .ok (.iload_n 3, 1) := by decide +kernel
theorem dL_law_374 : decode cL_law 374 = .ok (.bipush 7, 2) := by decide +kernel
theorem dL_law_376 : decode cL_law 376 = .ok (.iadd, 1) := by decide +kernel
theorem dL_law_377 : decode cL_law 377 = .ok (.iaload, 1) := by decide +kernel
theorem dL_law_378 : decode cL_law 378 = .ok (.invokevirtual 41, 3) := by decide +kernel
theorem dL_law_381 : decode cL_law 381 = .ok (.if_icmp .eq 480, 3) := by decide +kernel
set_option maxHeartbeats 2000000 in
theorem lw_c5 {p : Program} {l : Launch} {e : Env} {s : State} {m : MethodId} {args : Array Value} {below : List Frame} {meth : Method} {c : Code} {D : va_G} {A : Nat → Prop} {cells slots : Nat} {Qf : State → Prop} {cI cZ cH : ClassId} {a a' : Nat → Nat} {n : Nat} {σ μ : St} {b L i : Nat} {xs : Nat → Int32} (X : cx p s m args c cL_law 4 RL D (wL cI cZ cH a a' n) A (tyW cI cZ cH)) (hX : va_X b L xs s s.heap) (hbl : b < s.heap.size) (hbA : ¬ A b) (hL : L ≤ 4096) (hi : i + 8 ≤ L) (hcl : cells ≤ room_1.cells) (hsl : slots ≤ room_1.slots) (h : RI n σ μ) (kk : ∀ σ' μ' : St, RI n σ' μ' → go p l e room_1 s m args below meth c D (wL cI cZ cH a a' n) A cells slots Qf 4 861 [(0, .ref b), (1, .ref (a 0)), (2, .ref (a' 0)), (3, .int (nI i))] [] (mix σ' μ')) : go p l e room_1 s m args below meth c D (wL cI cZ cH a a' n) A cells slots Qf 4 299 [(0, .ref b), (1, .ref (a 0)), (2, .ref (a' 0)), (3, .int (nI i))] [] (mix σ μ) := by
  refine r_aload_n X 1 300 dL_law_299 rfl rfl rfl ?_
  refine r_arg X hX hbl hbA hL 1 305 (by omega) rfl rfl (by decide) dL_law_300 dL_law_301 dL_law_302 dL_law_303 dL_law_304 rfl ?_
  refine r_arg X hX hbl hbA hL 2 310 (by omega) rfl rfl (by decide) dL_law_305 dL_law_306 dL_law_307 dL_law_308 dL_law_309 rfl ?_
  refine r_arg X hX hbl hbA hL 3 315 (by omega) rfl rfl (by decide) dL_law_310 dL_law_311 dL_law_312 dL_law_313 dL_law_314 rfl ?_
  refine r_arg X hX hbl hbA hL 4 320 (by omega) rfl rfl (by decide) dL_law_315 dL_law_316 dL_law_317 dL_law_318 dL_law_319 rfl ?_
  refine r_arg X hX hbl hbA hL 5 325 (by omega) rfl rfl (by decide) dL_law_320 dL_law_321 dL_law_322 dL_law_323 dL_law_324 rfl ?_
  refine r_argB X hX hbl hbA hL 6 331 (by omega) rfl rfl (by decide) dL_law_325 dL_law_326 dL_law_327 dL_law_329 dL_law_330 rfl ?_
  refine r_argB X hX hbl hbA hL 7 337 (by omega) rfl rfl (by decide) dL_law_331 dL_law_332 dL_law_333 dL_law_335 dL_law_336 rfl ?_
  refine r_callLC (As := [.int (xs (i + 1)), .int (xs (i + 2)), .int (xs (i + 3)), .int (xs (i + 4)), .int (xs (i + 5)), .int (xs (i + 6)), .int (xs (i + 7))]) (rest := []) (q0 := 0) (ci := 5) X 340 (c_X5_slip (J_slip h (xs (i + 1)) (xs (i + 2)) (xs (i + 3)) (xs (i + 4)) (xs (i + 5)) (xs (i + 6)) (xs (i + 7)))) ml_L_37 lk_X5_slip wC_at_0 rfl rfl rfl (Nat.le_of_ble_eq_true rfl) ⟨rfl, rfl, ⟨(Nat.le_of_ble_eq_true rfl), (Nat.le_of_ble_eq_true rfl)⟩, hcl, hsl⟩ dL_law_337 rfl (fun r σ' hq => ?_)
  refine r_aload_n X 2 341 dL_law_340 rfl rfl rfl ?_
  refine r_arg X hX hbl hbA hL 1 346 (by omega) rfl rfl (by decide) dL_law_341 dL_law_342 dL_law_343 dL_law_344 dL_law_345 rfl ?_
  refine r_arg X hX hbl hbA hL 2 351 (by omega) rfl rfl (by decide) dL_law_346 dL_law_347 dL_law_348 dL_law_349 dL_law_350 rfl ?_
  refine r_arg X hX hbl hbA hL 3 356 (by omega) rfl rfl (by decide) dL_law_351 dL_law_352 dL_law_353 dL_law_354 dL_law_355 rfl ?_
  refine r_arg X hX hbl hbA hL 4 361 (by omega) rfl rfl (by decide) dL_law_356 dL_law_357 dL_law_358 dL_law_359 dL_law_360 rfl ?_
  refine r_arg X hX hbl hbA hL 5 366 (by omega) rfl rfl (by decide) dL_law_361 dL_law_362 dL_law_363 dL_law_364 dL_law_365 rfl ?_
  refine r_argB X hX hbl hbA hL 6 372 (by omega) rfl rfl (by decide) dL_law_366 dL_law_367 dL_law_368 dL_law_370 dL_law_371 rfl ?_
  refine r_argB X hX hbl hbA hL 7 378 (by omega) rfl rfl (by decide) dL_law_372 dL_law_373 dL_law_374 dL_law_376 dL_law_377 rfl ?_
  refine r_callLM (As := [.int (xs (i + 1)), .int (xs (i + 2)), .int (xs (i + 3)), .int (xs (i + 4)), .int (xs (i + 5)), .int (xs (i + 6)), .int (xs (i + 7))]) (rest := [.int r]) (q0 := 0) (ci := 6) X 381 (c_X6_slip hq) ml_L_41 lk_X6_slip rfl rfl rfl rfl (Nat.le_of_ble_eq_true rfl) ⟨rfl, rfl, ⟨(Nat.le_of_ble_eq_true rfl), (Nat.le_of_ble_eq_true rfl)⟩, hcl, hsl⟩ dL_law_378 rfl (fun r' μ' hq' => ?_)
  obtain ⟨e9, hR⟩ := hq'
  subst e9
  refine r_icmp_eq (P1 := True) (P2 := False) X 861 384 (by rw [if_pos rfl]; trivial) dL_law_381 (by decide) rfl (fun _ => ?_) (fun h9 => h9.elim)
  exact kk σ' μ' hR
