theorem dL_law_561 : decode cL_law 561 = .ok (.aload_n 1, 1) := by decide +kernel
theorem dL_law_562 : decode cL_law 562 = .ok (.aload_n 0, 1) := by decide +kernel
theorem dL_law_563 : decode cL_law 563 = .ok (.iload_n 3, 1) := by decide +kernel
theorem dL_law_564 : decode cL_law 564 = .ok (.iconst 1, 1) := by decide +kernel
theorem dL_law_565 : decode cL_law 565 = .ok (.iadd, 1) := by decide +kernel
theorem dL_law_566 : decode cL_law 566 = .ok (.iaload, 1) := by decide +kernel
theorem dL_law_567 : decode cL_law 567 = .ok (.aload_n 0, 1) := by decide +kernel
theorem dL_law_568 : decode cL_law 568 = .ok (.iload_n 3, 1) := by decide +kernel
theorem dL_law_569 : decode cL_law 569 = .ok (.iconst 2, 1) := by decide +kernel
theorem dL_law_570 : decode cL_law 570 = .ok (.iadd, 1) := by decide +kernel
theorem dL_law_571 : decode cL_law 571 = .ok (.iaload, 1) := by decide +kernel
theorem dL_law_572 : decode cL_law 572 = .ok (.invokevirtual 64, 3) := by decide +kernel
theorem dL_law_575 : decode cL_law 575 = .ok (.aload_n 2, 1) := by decide +kernel
theorem dL_law_576 : decode cL_law 576 = .ok (.aload_n 0, 1) := by decide +kernel
theorem dL_law_577 : decode cL_law 577 = .ok (.iload_n 3, 1) := by decide +kernel
theorem dL_law_578 : decode cL_law 578 = .ok (.iconst 1, 1) := by decide +kernel
theorem dL_law_579 : decode cL_law 579 = .ok (.iadd, 1) := by decide +kernel
theorem dL_law_580 : decode cL_law 580 = .ok (.iaload, 1) := by decide +kernel
theorem dL_law_581 : decode cL_law 581 = .ok (.aload_n 0, 1) := by decide +kernel
theorem dL_law_582 : decode cL_law 582 = .ok (.iload_n 3, 1) := by decide +kernel
theorem dL_law_583 : decode cL_law 583 = .ok (.iconst 2, 1) := by decide +kernel
theorem dL_law_584 : decode cL_law 584 = .ok (.iadd, 1) := by decide +kernel
theorem dL_law_585 : decode cL_law 585 = .ok (.iaload, 1) := by decide +kernel
theorem dL_law_586 : decode cL_law 586 = .ok (.invokevirtual 67, 3) := by decide +kernel
theorem dL_law_589 : decode cL_law 589 = .ok (.if_icmp .eq 272, 3) := by decide +kernel
set_option maxHeartbeats 2000000 in
theorem lw_c11 {p : Program} {l : Launch} {e : Env} {s : State} {m : MethodId} {args : Array Value} {below : List Frame} {meth : Method} {c : Code} {D : va_G} {A : Nat → Prop} {cells slots : Nat} {Qf : State → Prop} {cI cZ cH : ClassId} {a a' : Nat → Nat} {n : Nat} {σ μ : St} {b L i : Nat} {xs : Nat → Int32} (X : cx p s m args c cL_law 4 RL D (wL cI cZ cH a a' n) A (tyW cI cZ cH)) (hX : va_X b L xs s s.heap) (hbl : b < s.heap.size) (hbA : ¬ A b) (hL : L ≤ 4096) (hi : i + 8 ≤ L) (hcl : cells ≤ room_1.cells) (hsl : slots ≤ room_1.slots) (h : RI n σ μ) (kk : ∀ σ' μ' : St, RI n σ' μ' → go p l e room_1 s m args below meth c D (wL cI cZ cH a a' n) A cells slots Qf 4 861 [(0, .ref b), (1, .ref (a 0)), (2, .ref (a' 0)), (3, .int (nI i))] [] (mix σ' μ')) : go p l e room_1 s m args below meth c D (wL cI cZ cH a a' n) A cells slots Qf 4 561 [(0, .ref b), (1, .ref (a 0)), (2, .ref (a' 0)), (3, .int (nI i))] [] (mix σ μ) := by
  refine r_aload_n X 1 562 dL_law_561 rfl rfl rfl ?_
  refine r_arg X hX hbl hbA hL 1 567 (by omega) rfl rfl (by decide) dL_law_562 dL_law_563 dL_law_564 dL_law_565 dL_law_566 rfl ?_
  refine r_arg X hX hbl hbA hL 2 572 (by omega) rfl rfl (by decide) dL_law_567 dL_law_568 dL_law_569 dL_law_570 dL_law_571 rfl ?_
  refine r_callLC (As := [.int (xs (i + 1)), .int (xs (i + 2))]) (rest := []) (q0 := 0) (ci := 5) X 575 (c_X5_slipOf (J_slipOf h (xs (i + 1)) (xs (i + 2)))) ml_L_64 lk_X5_slipOf wC_at_0 rfl rfl rfl (Nat.le_of_ble_eq_true rfl) ⟨rfl, rfl, ⟨(Nat.le_of_ble_eq_true rfl), (Nat.le_of_ble_eq_true rfl)⟩, hcl, hsl⟩ dL_law_572 rfl (fun r σ' hq => ?_)
  refine r_aload_n X 2 576 dL_law_575 rfl rfl rfl ?_
  refine r_arg X hX hbl hbA hL 1 581 (by omega) rfl rfl (by decide) dL_law_576 dL_law_577 dL_law_578 dL_law_579 dL_law_580 rfl ?_
  refine r_arg X hX hbl hbA hL 2 586 (by omega) rfl rfl (by decide) dL_law_581 dL_law_582 dL_law_583 dL_law_584 dL_law_585 rfl ?_
  refine r_callLM (As := [.int (xs (i + 1)), .int (xs (i + 2))]) (rest := [.int r]) (q0 := 0) (ci := 6) X 589 (c_X6_slipOf hq) ml_L_67 lk_X6_slipOf rfl rfl rfl rfl (Nat.le_of_ble_eq_true rfl) ⟨rfl, rfl, ⟨(Nat.le_of_ble_eq_true rfl), (Nat.le_of_ble_eq_true rfl)⟩, hcl, hsl⟩ dL_law_586 rfl (fun r' μ' hq' => ?_)
  obtain ⟨e9, hR⟩ := hq'
  subst e9
  refine r_icmp_eq (P1 := True) (P2 := False) X 861 592 (by rw [if_pos rfl]; trivial) dL_law_589 (by decide) rfl (fun _ => ?_) (fun h9 => h9.elim)
  exact kk σ' μ' hR
theorem dL_law_594 : decode cL_law 594 = .ok (.aload_n 1, 1) := by decide +kernel
theorem dL_law_595 : decode cL_law 595 = .ok (.aload_n 0, 1) := by decide +kernel
theorem dL_law_596 : decode cL_law 596 = .ok (.iload_n 3, 1) := by decide +kernel
theorem dL_law_597 : decode cL_law 597 = .ok (.iconst 1, 1) := by decide +kernel
theorem dL_law_598 : decode cL_law 598 = .ok (.iadd, 1) := by decide +kernel
theorem dL_law_599 : decode cL_law 599 = .ok (.iaload, 1) := by decide +kernel
theorem dL_law_600 : decode cL_law 600 = .ok (.aload_n 0, 1) := by decide +kernel
theorem dL_law_601 : decode cL_law 601 = .ok (.iload_n 3, 1) := by decide +kernel
theorem dL_law_602 : decode cL_law 602 = .ok (.iconst 2, 1) := by decide +kernel
theorem dL_law_603 : decode cL_law 603 = .ok (.iadd, 1) := by decide +kernel
theorem dL_law_604 : decode cL_law 604 = .ok (.iaload, 1) := by decide +kernel
theorem dL_law_605 : decode cL_law 605 = .ok (.aload_n 0, 1) := by decide +kernel
theorem dL_law_606 : decode cL_law 606 = .ok (.iload_n 3, 1) := by decide +kernel
theorem dL_law_607 : decode cL_law 607 = .ok (.iconst 3, 1) := by decide +kernel
theorem dL_law_608 : decode cL_law 608 = .ok (.iadd, 1) := by decide +kernel
theorem dL_law_609 : decode cL_law 609 = .ok (.iaload, 1) := by decide +kernel
theorem dL_law_610 : decode cL_law 610 = .ok (.aload_n 0, 1) := by decide +kernel
theorem dL_law_611 : decode cL_law 611 = .ok (.iload_n 3, 1) := by decide +kernel
theorem dL_law_612 : decode cL_law 612 = .ok (.iconst 4, 1) := by decide +kernel
theorem dL_law_613 : decode cL_law 613 = .ok (.iadd, 1) := by decide +kernel
theorem dL_law_614 : decode cL_law 614 = .ok (.iaload, 1) := by decide +kernel
theorem dL_law_615 : decode cL_law 615 = .ok (.invokevirtual 68, 3) := by decide +kernel
theorem dL_law_618 : decode cL_law 618 = .ok (.aload_n 2, 1) := by decide +kernel
theorem dL_law_619 : decode cL_law 619 = .ok (.aload_n 0, 1) := by decide +kernel
theorem dL_law_620 : decode cL_law 620 = .ok (.iload_n 3, 1) := by decide +kernel
theorem dL_law_621 : decode cL_law 621 = .ok (.iconst 1, 1) := by decide +kernel
theorem dL_law_622 : decode cL_law 622 = .ok (.iadd, 1) := by decide +kernel
theorem dL_law_623 : decode cL_law 623 = .ok (.iaload, 1) := by decide +kernel
theorem dL_law_624 : decode cL_law 624 = .ok (.aload_n 0, 1) := by decide +kernel
theorem dL_law_625 : decode cL_law 625 = .ok (.iload_n 3, 1) := by decide +kernel
theorem dL_law_626 : decode cL_law 626 = .ok (.iconst 2, 1) := by decide +kernel
theorem dL_law_627 : decode cL_law 627 = .ok (.iadd, 1) := by decide +kernel
theorem dL_law_628 : decode cL_law 628 = .ok (.iaload, 1) := by decide +kernel
theorem dL_law_629 : decode cL_law 629 = .ok (.aload_n 0, 1) := by decide +kernel
theorem dL_law_630 : decode cL_law 630 = .ok (.iload_n 3, 1) := by decide +kernel
theorem dL_law_631 : decode cL_law 631 = .ok (.iconst 3, 1) := by decide +kernel
theorem dL_law_632 : decode cL_law 632 = .ok (.iadd, 1) := by decide +kernel
theorem dL_law_633 : decode cL_law 633 = .ok (.iaload, 1) := by decide +kernel
theorem dL_law_634 : decode cL_law 634 = .ok (.aload_n 0, 1) := by decide +kernel
theorem dL_law_635 : decode cL_law 635 = .ok (.iload_n 3, 1) := by decide +kernel
theorem dL_law_636 : decode cL_law 636 = .ok (.iconst 4, 1) := by decide +kernel
theorem dL_law_637 : decode cL_law 637 = .ok (.iadd, 1) := by decide +kernel
theorem dL_law_638 : decode cL_law 638 = .ok (.iaload, 1) := by decide +kernel
theorem dL_law_639 : decode cL_law 639 = .ok (.invokevirtual 71, 3) := by decide +kernel
theorem dL_law_642 : decode cL_law 642 = .ok (.if_icmp .eq 219, 3) := by decide +kernel
set_option maxHeartbeats 2000000 in
theorem lw_c12 {p : Program} {l : Launch} {e : Env} {s : State} {m : MethodId} {args : Array Value} {below : List Frame} {meth : Method} {c : Code} {D : va_G} {A : Nat → Prop} {cells slots : Nat} {Qf : State → Prop} {cI cZ cH : ClassId} {a a' : Nat → Nat} {n : Nat} {σ μ : St} {b L i : Nat} {xs : Nat → Int32} (X : cx p s m args c cL_law 4 RL D (wL cI cZ cH a a' n) A (tyW cI cZ cH)) (hX : va_X b L xs s s.heap) (hbl : b < s.heap.size) (hbA : ¬ A b) (hL : L ≤ 4096) (hi : i + 8 ≤ L) (hcl : cells ≤ room_1.cells) (hsl : slots ≤ room_1.slots) (h : RI n σ μ) (kk : ∀ σ' μ' : St, RI n σ' μ' → go p l e room_1 s m args below meth c D (wL cI cZ cH a a' n) A cells slots Qf 4 861 [(0, .ref b), (1, .ref (a 0)), (2, .ref (a' 0)), (3, .int (nI i))] [] (mix σ' μ')) : go p l e room_1 s m args below meth c D (wL cI cZ cH a a' n) A cells slots Qf 4 594 [(0, .ref b), (1, .ref (a 0)), (2, .ref (a' 0)), (3, .int (nI i))] [] (mix σ μ) := by
  refine r_aload_n X 1 595 dL_law_594 rfl rfl rfl ?_
  refine r_arg X hX hbl hbA hL 1 600 (by omega) rfl rfl (by decide) dL_law_595 dL_law_596 dL_law_597 dL_law_598 dL_law_599 rfl ?_
  refine r_arg X hX hbl hbA hL 2 605 (by omega) rfl rfl (by decide) dL_law_600 dL_law_601 dL_law_602 dL_law_603 dL_law_604 rfl ?_
  refine r_arg X hX hbl hbA hL 3 610 (by omega) rfl rfl (by decide) dL_law_605 dL_law_606 dL_law_607 dL_law_608 dL_law_609 rfl ?_
  refine r_arg X hX hbl hbA hL 4 615 (by omega) rfl rfl (by decide) dL_law_610 dL_law_611 dL_law_612 dL_law_613 dL_law_614 rfl ?_
  refine r_callLC (As := [.int (xs (i + 1)), .int (xs (i + 2)), .int (xs (i + 3)), .int (xs (i + 4))]) (rest := []) (q0 := 0) (ci := 5) X 618 (c_X5_where (J_where h (xs (i + 1)) (xs (i + 2)) (xs (i + 3)) (xs (i + 4)))) ml_L_68 lk_X5_where wC_at_0 rfl rfl rfl (Nat.le_of_ble_eq_true rfl) ⟨rfl, rfl, ⟨(Nat.le_of_ble_eq_true rfl), (Nat.le_of_ble_eq_true rfl)⟩, hcl, hsl⟩ dL_law_615 rfl (fun r σ' hq => ?_)
  refine r_aload_n X 2 619 dL_law_618 rfl rfl rfl ?_
  refine r_arg X hX hbl hbA hL 1 624 (by omega) rfl rfl (by decide) dL_law_619 dL_law_620 dL_law_621 dL_law_622 dL_law_623 rfl ?_
  refine r_arg X hX hbl hbA hL 2 629 (by omega) rfl rfl (by decide) dL_law_624 dL_law_625 dL_law_626 dL_law_627 dL_law_628 rfl ?_
  refine r_arg X hX hbl hbA hL 3 634 (by omega) rfl rfl (by decide) dL_law_629 dL_law_630 dL_law_631 dL_law_632 dL_law_633 rfl ?_
  refine r_arg X hX hbl hbA hL 4 639 (by omega) rfl rfl (by decide) dL_law_634 dL_law_635 dL_law_636 dL_law_637 dL_law_638 rfl ?_
  refine r_callLM (As := [.int (xs (i + 1)), .int (xs (i + 2)), .int (xs (i + 3)), .int (xs (i + 4))]) (rest := [.int r]) (q0 := 0) (ci := 6) X 642 (c_X6_where hq) ml_L_71 lk_X6_where rfl rfl rfl rfl (Nat.le_of_ble_eq_true rfl) ⟨rfl, rfl, ⟨(Nat.le_of_ble_eq_true rfl), (Nat.le_of_ble_eq_true rfl)⟩, hcl, hsl⟩ dL_law_639 rfl (fun r' μ' hq' => ?_)
  obtain ⟨e9, hR⟩ := hq'
  subst e9
  refine r_icmp_eq (P1 := True) (P2 := False) X 861 645 (by rw [if_pos rfl]; trivial) dL_law_642 (by decide) rfl (fun _ => ?_) (fun h9 => h9.elim)
  exact kk σ' μ' hR
theorem dL_law_647 : decode cL_law 647 = .ok (.aload_n 1, 1) := by decide +kernel
theorem dL_law_648 : decode cL_law 648 = .ok (.aload_n 0, 1) := by decide +kernel
theorem dL_law_649 : decode cL_law 649 = .ok (.iload_n 3, 1) := by decide +kernel
theorem dL_law_650 : decode cL_law 650 = .ok (.iconst 1, 1) := by decide +kernel
theorem dL_law_651 : decode cL_law 651 = .ok (.iadd, 1) := by decide +kernel
theorem dL_law_652 : decode cL_law 652 = .ok (.iaload, 1) := by decide +kernel
theorem dL_law_653 : decode cL_law 653 = .ok (.aload_n 0, 1) := by decide +kernel
theorem dL_law_654 : decode cL_law 654 = .ok (.iload_n 3, 1) := by decide +kernel
theorem dL_law_655 : decode cL_law 655 = .ok (.iconst 2, 1) := by decide +kernel
theorem dL_law_656 : decode cL_law 656 = .ok (.iadd, 1) := by decide +kernel
theorem dL_law_657 : decode cL_law 657 = .ok (.iaload, 1) := by decide +kernel
theorem dL_law_658 : decode cL_law 658 = .ok (.invokevirtual 72, 3) := by decide +kernel
theorem dL_law_661 : decode cL_law 661 = .ok (.aload_n 2, 1) := by decide +kernel
theorem dL_law_662 : decode cL_law 662 = .ok (.aload_n 0, 1) := by decide +kernel
theorem dL_law_663 : decode cL_law 663 = .ok (.iload_n 3, 1) := by decide +kernel
theorem dL_law_664 : decode cL_law 664 = .ok (.iconst 1, 1) := by decide +kernel
theorem dL_law_665 : decode cL_law 665 = .ok (.iadd, 1) := by decide +kernel
theorem dL_law_666 : decode cL_law 666 = .ok (.iaload, 1) := by decide +kernel
theorem dL_law_667 : decode cL_law 667 = .ok (.aload_n 0, 1) := by decide +kernel
theorem dL_law_668 : decode cL_law 668 = .ok (.iload_n 3, 1) := by decide +kernel
theorem dL_law_669 : decode cL_law 669 = .ok (.iconst 2, 1) := by decide +kernel
theorem dL_law_670 : decode cL_law 670 = .ok (.iadd, 1) := by decide +kernel
theorem dL_law_671 : decode cL_law 671 = .ok (.iaload, 1) := by decide +kernel
theorem dL_law_672 : decode cL_law 672 = .ok (.invokevirtual 75, 3) := by decide +kernel
theorem dL_law_675 : decode cL_law 675 = .ok (.if_icmp .eq 186, 3) := by decide +kernel
set_option maxHeartbeats 2000000 in
theorem lw_c13 {p : Program} {l : Launch} {e : Env} {s : State} {m : MethodId} {args : Array Value} {below : List Frame} {meth : Method} {c : Code} {D : va_G} {A : Nat → Prop} {cells slots : Nat} {Qf : State → Prop} {cI cZ cH : ClassId} {a a' : Nat → Nat} {n : Nat} {σ μ : St} {b L i : Nat} {xs : Nat → Int32} (X : cx p s m args c cL_law 4 RL D (wL cI cZ cH a a' n) A (tyW cI cZ cH)) (hX : va_X b L xs s s.heap) (hbl : b < s.heap.size) (hbA : ¬ A b) (hL : L ≤ 4096) (hi : i + 8 ≤ L) (hcl : cells ≤ room_1.cells) (hsl : slots ≤ room_1.slots) (h : RI n σ μ) (kk : ∀ σ' μ' : St, RI n σ' μ' → go p l e room_1 s m args below meth c D (wL cI cZ cH a a' n) A cells slots Qf 4 861 [(0, .ref b), (1, .ref (a 0)), (2, .ref (a' 0)), (3, .int (nI i))] [] (mix σ' μ')) : go p l e room_1 s m args below meth c D (wL cI cZ cH a a' n) A cells slots Qf 4 647 [(0, .ref b), (1, .ref (a 0)), (2, .ref (a' 0)), (3, .int (nI i))] [] (mix σ μ) := by
  refine r_aload_n X 1 648 dL_law_647 rfl rfl rfl ?_
  refine r_arg X hX hbl hbA hL 1 653 (by omega) rfl rfl (by decide) dL_law_648 dL_law_649 dL_law_650 dL_law_651 dL_law_652 rfl ?_
  refine r_arg X hX hbl hbA hL 2 658 (by omega) rfl rfl (by decide) dL_law_653 dL_law_654 dL_law_655 dL_law_656 dL_law_657 rfl ?_
  refine r_callLC (As := [.int (xs (i + 1)), .int (xs (i + 2))]) (rest := []) (q0 := 0) (ci := 5) X 661 (c_X5_chain (J_chain h (xs (i + 1)) (xs (i + 2)))) ml_L_72 lk_X5_chain wC_at_0 rfl rfl rfl (Nat.le_of_ble_eq_true rfl) ⟨rfl, rfl, ⟨(Nat.le_of_ble_eq_true rfl), (Nat.le_of_ble_eq_true rfl)⟩, hcl, hsl⟩ dL_law_658 rfl (fun r σ' hq => ?_)
  refine r_aload_n X 2 662 dL_law_661 rfl rfl rfl ?_
  refine r_arg X hX hbl hbA hL 1 667 (by omega) rfl rfl (by decide) dL_law_662 dL_law_663 dL_law_664 dL_law_665 dL_law_666 rfl ?_
  refine r_arg X hX hbl hbA hL 2 672 (by omega) rfl rfl (by decide) dL_law_667 dL_law_668 dL_law_669 dL_law_670 dL_law_671 rfl ?_
  refine r_callLM (As := [.int (xs (i + 1)), .int (xs (i + 2))]) (rest := [.int r]) (q0 := 0) (ci := 6) X 675 (c_X6_chain hq) ml_L_75 lk_X6_chain rfl rfl rfl rfl (Nat.le_of_ble_eq_true rfl) ⟨rfl, rfl, ⟨(Nat.le_of_ble_eq_true rfl), (Nat.le_of_ble_eq_true rfl)⟩, hcl, hsl⟩ dL_law_672 rfl (fun r' μ' hq' => ?_)
  obtain ⟨e9, hR⟩ := hq'
  subst e9
  refine r_icmp_eq (P1 := True) (P2 := False) X 861 678 (by rw [if_pos rfl]; trivial) dL_law_675 (by decide) rfl (fun _ => ?_) (fun h9 => h9.elim)
  exact kk σ' μ' hR
theorem dL_law_680 : decode cL_law 680 = .ok (.aload_n 1, 1) := by decide +kernel
theorem dL_law_681 : decode cL_law 681 = .ok (.aload_n 0, 1) := by decide +kernel
theorem dL_law_682 : decode cL_law 682 = .ok (.iload_n 3, 1) := by decide +kernel
theorem dL_law_683 : decode cL_law 683 = .ok (.iconst 1, 1) := by decide +kernel
theorem dL_law_684 : decode cL_law 684 = .ok (.iadd, 1) := by decide +kernel
theorem dL_law_685 : decode cL_law 685 = .ok (.iaload, 1) := by decide +kernel
theorem dL_law_686 : decode cL_law 686 = .ok (.aload_n 0, 1) := by decide +kernel
theorem dL_law_687 : decode cL_law 687 = .ok (.iload_n 3, 1) := by decide +kernel
theorem dL_law_688 : decode cL_law 688 = .ok (.iconst 2, 1) := by decide +kernel
theorem dL_law_689 : decode cL_law 689 = .ok (.iadd, 1) := by decide +kernel
theorem dL_law_690 : decode cL_law 690 = .ok (.iaload, 1) := by decide +kernel
theorem dL_law_691 : decode cL_law 691 = .ok (.aload_n 0, 1) := by decide +kernel
theorem dL_law_692 : decode cL_law 692 = .ok (.iload_n 3, 1) := by decide +kernel
theorem dL_law_693 : decode cL_law 693 = .ok (.iconst 3, 1) := by decide +kernel
theorem dL_law_694 : decode cL_law 694 = .ok (.iadd, 1) := by decide +kernel
theorem dL_law_695 : decode cL_law 695 = .ok (.iaload, 1) := by decide +kernel
theorem dL_law_696 : decode cL_law 696 = .ok (.invokevirtual 76, 3) := by decide +kernel
theorem dL_law_699 : decode cL_law 699 = .ok (.aload_n 2, 1) := by decide +kernel
theorem dL_law_700 : decode cL_law 700 = .ok (.aload_n 0, 1) := by decide +kernel
theorem dL_law_701 : decode cL_law 701 = .ok (.iload_n 3, 1) := by decide +kernel
theorem dL_law_702 : decode cL_law 702 = .ok (.iconst 1, 1) := by decide +kernel
theorem dL_law_703 : decode cL_law 703 = .ok (.iadd, 1) := by decide +kernel
theorem dL_law_704 : decode cL_law 704 = .ok (.iaload, 1) := by decide +kernel
theorem dL_law_705 : decode cL_law 705 = .ok (.aload_n 0, 1) := by decide +kernel
theorem dL_law_706 : decode cL_law 706 = .ok (.iload_n 3, 1) := by decide +kernel
theorem dL_law_707 : decode cL_law 707 = .ok (.iconst 2, 1) := by decide +kernel
theorem dL_law_708 : decode cL_law 708 = .ok (.iadd, 1) := by decide +kernel
theorem dL_law_709 : decode cL_law 709 = .ok (.iaload, 1) := by decide +kernel
theorem dL_law_710 : decode cL_law 710 = .ok (.aload_n 0, 1) := by decide +kernel
theorem dL_law_711 : decode cL_law 711 = .ok (.iload_n 3, 1) := by decide +kernel
theorem dL_law_712 : decode cL_law 712 = .ok (.iconst 3, 1) := by decide +kernel
theorem dL_law_713 : decode cL_law 713 = .ok (.iadd, 1) := by decide +kernel
theorem dL_law_714 : decode cL_law 714 = .ok (.iaload, 1) := by decide +kernel
theorem dL_law_715 : decode cL_law 715 = .ok (.invokevirtual 79, 3) := by decide +kernel
theorem dL_law_718 : decode cL_law 718 = .ok (.if_icmp .eq 143, 3) := by decide +kernel
set_option maxHeartbeats 2000000 in
theorem lw_c14 {p : Program} {l : Launch} {e : Env} {s : State} {m : MethodId} {args : Array Value} {below : List Frame} {meth : Method} {c : Code} {D : va_G} {A : Nat → Prop} {cells slots : Nat} {Qf : State → Prop} {cI cZ cH : ClassId} {a a' : Nat → Nat} {n : Nat} {σ μ : St} {b L i : Nat} {xs : Nat → Int32} (X : cx p s m args c cL_law 4 RL D (wL cI cZ cH a a' n) A (tyW cI cZ cH)) (hX : va_X b L xs s s.heap) (hbl : b < s.heap.size) (hbA : ¬ A b) (hL : L ≤ 4096) (hi : i + 8 ≤ L) (hcl : cells ≤ room_1.cells) (hsl : slots ≤ room_1.slots) (h : RI n σ μ) (kk : ∀ σ' μ' : St, RI n σ' μ' → go p l e room_1 s m args below meth c D (wL cI cZ cH a a' n) A cells slots Qf 4 861 [(0, .ref b), (1, .ref (a 0)), (2, .ref (a' 0)), (3, .int (nI i))] [] (mix σ' μ')) : go p l e room_1 s m args below meth c D (wL cI cZ cH a a' n) A cells slots Qf 4 680 [(0, .ref b), (1, .ref (a 0)), (2, .ref (a' 0)), (3, .int (nI i))] [] (mix σ μ) := by
  refine r_aload_n X 1 681 dL_law_680 rfl rfl rfl ?_
  refine r_arg X hX hbl hbA hL 1 686 (by omega) rfl rfl (by decide) dL_law_681 dL_law_682 dL_law_683 dL_law_684 dL_law_685 rfl ?_
  refine r_arg X hX hbl hbA hL 2 691 (by omega) rfl rfl (by decide) dL_law_686 dL_law_687 dL_law_688 dL_law_689 dL_law_690 rfl ?_
  refine r_arg X hX hbl hbA hL 3 696 (by omega) rfl rfl (by decide) dL_law_691 dL_law_692 dL_law_693 dL_law_694 dL_law_695 rfl ?_
  refine r_callLC (As := [.int (xs (i + 1)), .int (xs (i + 2)), .int (xs (i + 3))]) (rest := []) (q0 := 0) (ci := 5) X 699 (c_X5_gap (J_gap h (xs (i + 1)) (xs (i + 2)) (xs (i + 3)))) ml_L_76 lk_X5_gap wC_at_0 rfl rfl rfl (Nat.le_of_ble_eq_true rfl) ⟨rfl, rfl, ⟨(Nat.le_of_ble_eq_true rfl), (Nat.le_of_ble_eq_true rfl)⟩, hcl, hsl⟩ dL_law_696 rfl (fun r σ' hq => ?_)
  refine r_aload_n X 2 700 dL_law_699 rfl rfl rfl ?_
  refine r_arg X hX hbl hbA hL 1 705 (by omega) rfl rfl (by decide) dL_law_700 dL_law_701 dL_law_702 dL_law_703 dL_law_704 rfl ?_
  refine r_arg X hX hbl hbA hL 2 710 (by omega) rfl rfl (by decide) dL_law_705 dL_law_706 dL_law_707 dL_law_708 dL_law_709 rfl ?_
  refine r_arg X hX hbl hbA hL 3 715 (by omega) rfl rfl (by decide) dL_law_710 dL_law_711 dL_law_712 dL_law_713 dL_law_714 rfl ?_
  refine r_callLM (As := [.int (xs (i + 1)), .int (xs (i + 2)), .int (xs (i + 3))]) (rest := [.int r]) (q0 := 0) (ci := 6) X 718 (c_X6_gap hq) ml_L_79 lk_X6_gap rfl rfl rfl rfl (Nat.le_of_ble_eq_true rfl) ⟨rfl, rfl, ⟨(Nat.le_of_ble_eq_true rfl), (Nat.le_of_ble_eq_true rfl)⟩, hcl, hsl⟩ dL_law_715 rfl (fun r' μ' hq' => ?_)
  obtain ⟨e9, hR⟩ := hq'
  subst e9
  refine r_icmp_eq (P1 := True) (P2 := False) X 861 721 (by rw [if_pos rfl]; trivial) dL_law_718 (by decide) rfl (fun _ => ?_) (fun h9 => h9.elim)
  exact kk σ' μ' hR
