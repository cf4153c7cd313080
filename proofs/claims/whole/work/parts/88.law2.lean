theorem dL_law_386 : decode cL_law 386 = .ok (.aload_n 1, 1) := by decide +kernel
theorem dL_law_387 : decode cL_law 387 = .ok (.aload_n 0, 1) := by decide +kernel
theorem dL_law_388 : decode cL_law 388 = .ok (.iload_n 3, 1) := by decide +kernel
theorem dL_law_389 : decode cL_law 389 = .ok (.iconst 1, 1) := by decide +kernel
theorem dL_law_390 : decode cL_law 390 = .ok (.iadd, 1) := by decide +kernel
theorem dL_law_391 : decode cL_law 391 = .ok (.iaload, 1) := by decide +kernel
theorem dL_law_392 : decode cL_law 392 = .ok (.invokevirtual 42, 3) := by decide +kernel
theorem dL_law_395 : decode cL_law 395 = .ok (.aload_n 2, 1) := by decide +kernel
theorem dL_law_396 : decode cL_law 396 = .ok (.aload_n 0, 1) := by decide +kernel
theorem dL_law_397 : decode cL_law 397 = .ok (.iload_n 3, 1) := by decide +kernel
theorem dL_law_398 : decode cL_law 398 = .ok (.iconst 1, 1) := by decide +kernel
theorem dL_law_399 : decode cL_law 399 = .ok (.iadd, 1) := by decide +kernel
theorem dL_law_400 : decode cL_law 400 = .ok (.iaload, 1) := by decide +kernel
theorem dL_law_401 : decode cL_law 401 = .ok (.invokevirtual 45, 3) := by decide +kernel
theorem dL_law_404 : decode cL_law 404 = .ok (.if_icmp .eq 457, 3) := by decide +kernel
set_option maxHeartbeats 2000000 in
theorem lw_c6 {p : Program} {l : Launch} {e : Env} {s : State} {m : MethodId} {args : Array Value} {below : List Frame} {meth : Method} {c : Code} {D : va_G} {A : Nat → Prop} {cells slots : Nat} {Qf : State → Prop} {cI cZ cH : ClassId} {a a' : Nat → Nat} {n : Nat} {σ μ : St} {b L i : Nat} {xs : Nat → Int32} (X : cx p s m args c cL_law 4 RL D (wL cI cZ cH a a' n) A (tyW cI cZ cH)) (hX : va_X b L xs s s.heap) (hbl : b < s.heap.size) (hbA : ¬ A b) (hL : L ≤ 4096) (hi : i + 8 ≤ L) (hcl : cells ≤ room_1.cells) (hsl : slots ≤ room_1.slots) (h : RI n σ μ) (kk : ∀ σ' μ' : St, RI n σ' μ' → go p l e room_1 s m args below meth c D (wL cI cZ cH a a' n) A cells slots Qf 4 861 [(0, .ref b), (1, .ref (a 0)), (2, .ref (a' 0)), (3, .int (nI i))] [] (mix σ' μ')) : go p l e room_1 s m args below meth c D (wL cI cZ cH a a' n) A cells slots Qf 4 386 [(0, .ref b), (1, .ref (a 0)), (2, .ref (a' 0)), (3, .int (nI i))] [] (mix σ μ) := by
  refine r_aload_n X 1 387 dL_law_386 rfl rfl rfl ?_
  refine r_arg X hX hbl hbA hL 1 392 (by omega) rfl rfl (by decide) dL_law_387 dL_law_388 dL_law_389 dL_law_390 dL_law_391 rfl ?_
  refine r_callLC (As := [.int (xs (i + 1))]) (rest := []) (q0 := 0) (ci := 5) X 395 (c_X5_fault (J_fault h (xs (i + 1)))) ml_L_42 lk_X5_fault wC_at_0 rfl rfl rfl (Nat.le_of_ble_eq_true rfl) ⟨rfl, rfl, ⟨(Nat.le_of_ble_eq_true rfl), (Nat.le_of_ble_eq_true rfl)⟩, hcl, hsl⟩ dL_law_392 rfl (fun r σ' hq => ?_)
  refine r_aload_n X 2 396 dL_law_395 rfl rfl rfl ?_
  refine r_arg X hX hbl hbA hL 1 401 (by omega) rfl rfl (by decide) dL_law_396 dL_law_397 dL_law_398 dL_law_399 dL_law_400 rfl ?_
  refine r_callLM (As := [.int (xs (i + 1))]) (rest := [.int r]) (q0 := 0) (ci := 6) X 404 (c_X6_fault hq) ml_L_45 lk_X6_fault rfl rfl rfl rfl (Nat.le_of_ble_eq_true rfl) ⟨rfl, rfl, ⟨(Nat.le_of_ble_eq_true rfl), (Nat.le_of_ble_eq_true rfl)⟩, hcl, hsl⟩ dL_law_401 rfl (fun r' μ' hq' => ?_)
  obtain ⟨e9, hR⟩ := hq'
  subst e9
  refine r_icmp_eq (P1 := True) (P2 := False) X 861 407 (by rw [if_pos rfl]; trivial) dL_law_404 (by decide) rfl (fun _ => ?_) (fun h9 => h9.elim)
  exact kk σ' μ' hR
theorem dL_law_409 : decode cL_law 409 = .ok (.aload_n 1, 1) := by decide +kernel
theorem dL_law_410 : decode cL_law 410 = .ok (.aload_n 0, 1) := by decide +kernel
theorem dL_law_411 : decode cL_law 411 = .ok (.iload_n 3, 1) := by decide +kernel
theorem dL_law_412 : decode cL_law 412 = .ok (.iconst 1, 1) := by decide +kernel
theorem dL_law_413 : decode cL_law 413 = .ok (.iadd, 1) := by decide +kernel
theorem dL_law_414 : decode cL_law 414 = .ok (.iaload, 1) := by decide +kernel
theorem dL_law_415 : decode cL_law 415 = .ok (.aload_n 0, 1) := by decide +kernel
theorem dL_law_416 : decode cL_law 416 = .ok (.iload_n 3, 1) := by decide +kernel
theorem dL_law_417 : decode cL_law 417 = .ok (.iconst 2, 1) := by decide +kernel
theorem dL_law_418 : decode cL_law 418 = .ok (.iadd, 1) := by decide +kernel
theorem dL_law_419 : decode cL_law 419 = .ok (.iaload, 1) := by decide +kernel
theorem dL_law_420 : decode cL_law 420 = .ok (.aload_n 0, 1) := by decide +kernel
theorem dL_law_421 : decode cL_law 421 = .ok (.iload_n 3, 1) := by decide +kernel
theorem dL_law_422 : decode cL_law 422 = .ok (.iconst 3, 1) := by decide +kernel
theorem dL_law_423 : decode cL_law 423 = .ok (.iadd, 1) := by decide +kernel
theorem dL_law_424 : decode cL_law 424 = .ok (.iaload, 1) := by decide +kernel
theorem dL_law_425 : decode cL_law 425 = .ok (.aload_n 0, 1) := by decide +kernel
theorem dL_law_426 : decode cL_law 426 = .ok (.iload_n 3, 1) := by decide +kernel
theorem dL_law_427 : decode cL_law 427 = .ok (.iconst 4, 1) := by decide +kernel
theorem dL_law_428 : decode cL_law 428 = .ok (.iadd, 1) := by decide +kernel
theorem dL_law_429 : decode cL_law 429 = .ok (.iaload, 1) := by decide +kernel
theorem dL_law_430 : decode cL_law 430 = .ok (.invokevirtual 46, 3) := by decide +kernel
theorem dL_law_433 : decode cL_law 433 = .ok (.aload_n 2, 1) := by decide +kernel
theorem dL_law_434 : decode cL_law 434 = .ok (.aload_n 0, 1) := by decide +kernel
theorem dL_law_435 : decode cL_law 435 = .ok (.iload_n 3, 1) := by decide +kernel
theorem dL_law_436 : decode cL_law 436 = .ok (.iconst 1, 1) := by decide +kernel
theorem dL_law_437 : decode cL_law 437 = .ok (.iadd, 1) := by decide +kernel
theorem dL_law_438 : decode cL_law 438 = .ok (.iaload, 1) := by decide +kernel
theorem dL_law_439 : decode cL_law 439 = .ok (.aload_n 0, 1) := by decide +kernel
theorem dL_law_440 : decode cL_law 440 = .ok (.iload_n 3, 1) := by decide +kernel
theorem dL_law_441 : decode cL_law 441 = .ok (.iconst 2, 1) := by decide +kernel
theorem dL_law_442 : decode cL_law 442 = .ok (.iadd, 1) := by decide +kernel
theorem dL_law_443 : decode cL_law 443 = .ok (.iaload, 1) := by decide +kernel
theorem dL_law_444 : decode cL_law 444 = .ok (.aload_n 0, 1) := by decide +kernel
theorem dL_law_445 : decode cL_law 445 = .ok (.iload_n 3, 1) := by decide +kernel
theorem dL_law_446 : decode cL_law 446 = .ok (.iconst 3, 1) := by decide +kernel
theorem dL_law_447 : decode cL_law 447 = .ok (.iadd, 1) := by decide +kernel
theorem dL_law_448 : decode cL_law 448 = .ok (.iaload, 1) := by decide +kernel
theorem dL_law_449 : decode cL_law 449 = .ok (.aload_n 0, 1) := by decide +kernel
theorem dL_law_450 : decode cL_law 450 = .ok (.iload_n 3, 1) := by decide +kernel
theorem dL_law_451 : decode cL_law 451 = .ok (.iconst 4, 1) := by decide +kernel
theorem dL_law_452 : decode cL_law 452 = .ok (.iadd, 1) := by decide +kernel
theorem dL_law_453 : decode cL_law 453 = .ok (.iaload, 1) := by decide +kernel
theorem dL_law_454 : decode cL_law 454 = .ok (.invokevirtual 50, 3) := by decide +kernel
theorem dL_law_457 : decode cL_law 457 = .ok (.if_icmp .eq 404, 3) := by decide +kernel
set_option maxHeartbeats 2000000 in
theorem lw_c7 {p : Program} {l : Launch} {e : Env} {s : State} {m : MethodId} {args : Array Value} {below : List Frame} {meth : Method} {c : Code} {D : va_G} {A : Nat → Prop} {cells slots : Nat} {Qf : State → Prop} {cI cZ cH : ClassId} {a a' : Nat → Nat} {n : Nat} {σ μ : St} {b L i : Nat} {xs : Nat → Int32} (X : cx p s m args c cL_law 4 RL D (wL cI cZ cH a a' n) A (tyW cI cZ cH)) (hX : va_X b L xs s s.heap) (hbl : b < s.heap.size) (hbA : ¬ A b) (hL : L ≤ 4096) (hi : i + 8 ≤ L) (hcl : cells ≤ room_1.cells) (hsl : slots ≤ room_1.slots) (h : RI n σ μ) (kk : ∀ σ' μ' : St, RI n σ' μ' → go p l e room_1 s m args below meth c D (wL cI cZ cH a a' n) A cells slots Qf 4 861 [(0, .ref b), (1, .ref (a 0)), (2, .ref (a' 0)), (3, .int (nI i))] [] (mix σ' μ')) (hcl1 : cells + 1 ≤ room_1.cells) (hsl1 : slots + 7 ≤ room_1.slots) (k2 : ∀ (b' : Nat) (σ' μ' : St), cx p s m args c cL_law 4 RL D (wL cI cZ cH (aN a n b') a' (n + 1)) A (tyW cI cZ cH) → RI (n + 1) σ' μ' → go p l e room_1 s m args below meth c D (wL cI cZ cH (aN a n b') a' (n + 1)) A (cells + 1) (slots + 7) Qf 4 861 [(0, .ref b), (1, .ref (a 0)), (2, .ref (a' 0)), (3, .int (nI i))] [] (mix σ' μ')) : go p l e room_1 s m args below meth c D (wL cI cZ cH a a' n) A cells slots Qf 4 409 [(0, .ref b), (1, .ref (a 0)), (2, .ref (a' 0)), (3, .int (nI i))] [] (mix σ μ) := by
  refine r_aload_n X 1 410 dL_law_409 rfl rfl rfl ?_
  refine r_arg X hX hbl hbA hL 1 415 (by omega) rfl rfl (by decide) dL_law_410 dL_law_411 dL_law_412 dL_law_413 dL_law_414 rfl ?_
  refine r_arg X hX hbl hbA hL 2 420 (by omega) rfl rfl (by decide) dL_law_415 dL_law_416 dL_law_417 dL_law_418 dL_law_419 rfl ?_
  refine r_arg X hX hbl hbA hL 3 425 (by omega) rfl rfl (by decide) dL_law_420 dL_law_421 dL_law_422 dL_law_423 dL_law_424 rfl ?_
  refine r_arg X hX hbl hbA hL 4 430 (by omega) rfl rfl (by decide) dL_law_425 dL_law_426 dL_law_427 dL_law_428 dL_law_429 rfl ?_
  rcases J_handing h (xs (i + 1)) (xs (i + 2)) (xs (i + 3)) (xs (i + 4)) with hj | ⟨⟨hn9, h7⟩, hj, hm⟩
  · refine r_callLC (As := [.int (xs (i + 1)), .int (xs (i + 2)), .int (xs (i + 3)), .int (xs (i + 4))]) (rest := []) (q0 := 0) (ci := 5) X 433 (c_X5_handing_no hj) ml_L_46 lk_X5_handing wC_at_0 rfl rfl rfl (Nat.le_of_ble_eq_true rfl) ⟨rfl, rfl, ⟨(Nat.le_of_ble_eq_true rfl), (Nat.le_of_ble_eq_true rfl)⟩, hcl, hsl⟩ dL_law_430 rfl (fun r σ' hq => ?_)
    refine r_aload_n X 2 434 dL_law_433 rfl rfl rfl ?_
    refine r_arg X hX hbl hbA hL 1 439 (by omega) rfl rfl (by decide) dL_law_434 dL_law_435 dL_law_436 dL_law_437 dL_law_438 rfl ?_
    refine r_arg X hX hbl hbA hL 2 444 (by omega) rfl rfl (by decide) dL_law_439 dL_law_440 dL_law_441 dL_law_442 dL_law_443 rfl ?_
    refine r_arg X hX hbl hbA hL 3 449 (by omega) rfl rfl (by decide) dL_law_444 dL_law_445 dL_law_446 dL_law_447 dL_law_448 rfl ?_
    refine r_arg X hX hbl hbA hL 4 454 (by omega) rfl rfl (by decide) dL_law_449 dL_law_450 dL_law_451 dL_law_452 dL_law_453 rfl ?_
    refine r_callLM (As := [.int (xs (i + 1)), .int (xs (i + 2)), .int (xs (i + 3)), .int (xs (i + 4))]) (rest := [.int r]) (q0 := 0) (ci := 6) X 457 (c_X6_handing hq) ml_L_50 lk_X6_handing rfl rfl rfl rfl (Nat.le_of_ble_eq_true rfl) ⟨rfl, rfl, ⟨(Nat.le_of_ble_eq_true rfl), (Nat.le_of_ble_eq_true rfl)⟩, hcl, hsl⟩ dL_law_454 rfl (fun r' μ' hq' => ?_)
    obtain ⟨e9, hR⟩ := hq'
    subst e9
    refine r_icmp_eq (P1 := True) (P2 := False) X 861 460 (by rw [if_pos rfl]; trivial) dL_law_457 (by decide) rfl (fun _ => ?_) (fun h9 => h9.elim)
    exact kk σ' μ' hR
  · refine r_callLH (rest := []) X 433 hn9 h7 hj ml_L_46 rfl (Nat.le_of_ble_eq_true rfl) ⟨(Nat.le_of_ble_eq_true rfl), (Nat.le_of_ble_eq_true rfl)⟩ hcl1 hsl1 dL_law_430 rfl (fun b' Y => ?_)
    refine r_aload_n Y 2 434 dL_law_433 rfl rfl rfl ?_
    refine r_arg Y hX hbl hbA hL 1 439 (by omega) rfl rfl (by decide) dL_law_434 dL_law_435 dL_law_436 dL_law_437 dL_law_438 rfl ?_
    refine r_arg Y hX hbl hbA hL 2 444 (by omega) rfl rfl (by decide) dL_law_439 dL_law_440 dL_law_441 dL_law_442 dL_law_443 rfl ?_
    refine r_arg Y hX hbl hbA hL 3 449 (by omega) rfl rfl (by decide) dL_law_444 dL_law_445 dL_law_446 dL_law_447 dL_law_448 rfl ?_
    refine r_arg Y hX hbl hbA hL 4 454 (by omega) rfl rfl (by decide) dL_law_449 dL_law_450 dL_law_451 dL_law_452 dL_law_453 rfl ?_
    refine r_callLM (As := [.int (xs (i + 1)), .int (xs (i + 2)), .int (xs (i + 3)), .int (xs (i + 4))]) (rest := [.int (nI n)]) (q0 := 0) (ci := 6) Y 457 (c_X6_handing hm) ml_L_50 lk_X6_handing rfl rfl rfl rfl (Nat.le_of_ble_eq_true rfl) ⟨rfl, rfl, ⟨(Nat.le_of_ble_eq_true rfl), (Nat.le_of_ble_eq_true rfl)⟩, hcl1, hsl1⟩ dL_law_454 rfl (fun r' μ' hq' => ?_)
    obtain ⟨e9, hR⟩ := hq'
    subst e9
    refine r_icmp_eq (P1 := True) (P2 := False) Y 861 460 (by rw [if_pos rfl]; trivial) dL_law_457 (by decide) rfl (fun _ => ?_) (fun h9 => h9.elim)
    exact k2 b' _ μ' Y hR
