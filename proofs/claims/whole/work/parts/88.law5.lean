theorem dL_law_723 : decode cL_law 723 = .ok (.aload_n 1, 1) := by decide +kernel
theorem dL_law_724 : decode cL_law 724 = .ok (.aload_n 0, 1) := by decide +kernel
theorem dL_law_725 : decode cL_law 725 = .ok (.iload_n 3, 1) := by decide +kernel
theorem dL_law_726 : decode cL_law 726 = .ok (.iconst 1, 1) := by decide +kernel
theorem dL_law_727 : decode cL_law 727 = .ok (.iadd, 1) := by decide +kernel
theorem dL_law_728 : decode cL_law 728 = .ok (.iaload, 1) := by decide +kernel
theorem dL_law_729 : decode cL_law 729 = .ok (.invokevirtual 80, 3) := by decide +kernel
theorem dL_law_732 : decode cL_law 732 = .ok (.aload_n 2, 1) := by decide +kernel
theorem dL_law_733 : decode cL_law 733 = .ok (.aload_n 0, 1) := by decide +kernel
theorem dL_law_734 : decode cL_law 734 = .ok (.iload_n 3, 1) := by decide +kernel
theorem dL_law_735 : decode cL_law 735 = .ok (.iconst 1, 1) := by decide +kernel
theorem dL_law_736 : decode cL_law 736 = .ok (.iadd, 1) := by decide +kernel
theorem dL_law_737 : decode cL_law 737 = .ok (.iaload, 1) := by decide +kernel
theorem dL_law_738 : decode cL_law 738 = .ok (.invokevirtual 83, 3) := by decide +kernel
theorem dL_law_741 : decode cL_law 741 = .ok (.if_icmp .eq 120, 3) := by decide +kernel
set_option maxHeartbeats 2000000 in
theorem lw_c15 {p : Program} {l : Launch} {e : Env} {s : State} {m : MethodId} {args : Array Value} {below : List Frame} {meth : Method} {c : Code} {D : va_G} {A : Nat → Prop} {cells slots : Nat} {Qf : State → Prop} {cI cZ cH : ClassId} {a a' : Nat → Nat} {n : Nat} {σ μ : St} {b L i : Nat} {xs : Nat → Int32} (X : cx p s m args c cL_law 4 RL D (wL cI cZ cH a a' n) A (tyW cI cZ cH)) (hX : va_X b L xs s s.heap) (hbl : b < s.heap.size) (hbA : ¬ A b) (hL : L ≤ 4096) (hi : i + 8 ≤ L) (hcl : cells ≤ room_1.cells) (hsl : slots ≤ room_1.slots) (h : RI n σ μ) (kk : ∀ σ' μ' : St, RI n σ' μ' → go p l e room_1 s m args below meth c D (wL cI cZ cH a a' n) A cells slots Qf 4 861 [(0, .ref b), (1, .ref (a 0)), (2, .ref (a' 0)), (3, .int (nI i))] [] (mix σ' μ')) : go p l e room_1 s m args below meth c D (wL cI cZ cH a a' n) A cells slots Qf 4 723 [(0, .ref b), (1, .ref (a 0)), (2, .ref (a' 0)), (3, .int (nI i))] [] (mix σ μ) := by
  refine r_aload_n X 1 724 dL_law_723 rfl rfl rfl ?_
  refine r_arg X hX hbl hbA hL 1 729 (by omega) rfl rfl (by decide) dL_law_724 dL_law_725 dL_law_726 dL_law_727 dL_law_728 rfl ?_
  refine r_callLC (As := [.int (xs (i + 1))]) (rest := []) (q0 := 0) (ci := 5) X 732 (c_X5_breaks (J_breaks h (xs (i + 1)))) ml_L_80 lk_X5_breaks wC_at_0 rfl rfl rfl (Nat.le_of_ble_eq_true rfl) ⟨rfl, rfl, ⟨(Nat.le_of_ble_eq_true rfl), (Nat.le_of_ble_eq_true rfl)⟩, hcl, hsl⟩ dL_law_729 rfl (fun r σ' hq => ?_)
  refine r_aload_n X 2 733 dL_law_732 rfl rfl rfl ?_
  refine r_arg X hX hbl hbA hL 1 738 (by omega) rfl rfl (by decide) dL_law_733 dL_law_734 dL_law_735 dL_law_736 dL_law_737 rfl ?_
  refine r_callLM (As := [.int (xs (i + 1))]) (rest := [.int r]) (q0 := 0) (ci := 6) X 741 (c_X6_breaks hq) ml_L_83 lk_X6_breaks rfl rfl rfl rfl (Nat.le_of_ble_eq_true rfl) ⟨rfl, rfl, ⟨(Nat.le_of_ble_eq_true rfl), (Nat.le_of_ble_eq_true rfl)⟩, hcl, hsl⟩ dL_law_738 rfl (fun r' μ' hq' => ?_)
  obtain ⟨e9, hR⟩ := hq'
  subst e9
  refine r_icmp_eq (P1 := True) (P2 := False) X 861 744 (by rw [if_pos rfl]; trivial) dL_law_741 (by decide) rfl (fun _ => ?_) (fun h9 => h9.elim)
  exact kk σ' μ' hR
theorem dL_law_746 : decode cL_law 746 = .ok (.aload_n 1, 1) := by decide +kernel
theorem dL_law_747 : decode cL_law 747 = .ok (.aload_n 0, 1) := by decide +kernel
theorem dL_law_748 : decode cL_law 748 = .ok (.iload_n 3, 1) := by decide +kernel
theorem dL_law_749 : decode cL_law 749 = .ok (.iconst 1, 1) := by decide +kernel
theorem dL_law_750 : decode cL_law 750 = .ok (.iadd, 1) := by decide +kernel
theorem dL_law_751 : decode cL_law 751 = .ok (.iaload, 1) := by decide +kernel
theorem dL_law_752 : decode cL_law 752 = .ok (.aload_n 0, 1) := by decide +kernel
theorem dL_law_753 : decode cL_law 753 = .ok (.iload_n 3, 1) := by decide +kernel
theorem dL_law_754 : decode cL_law 754 = .ok (.iconst 2, 1) := by decide +kernel
theorem dL_law_755 : decode cL_law 755 = .ok (.iadd, 1) := by decide +kernel
theorem dL_law_756 : decode cL_law 756 = .ok (.iaload, 1) := by decide +kernel
theorem dL_law_757 : decode cL_law 757 = .ok (.invokevirtual 84, 3) := by decide +kernel
theorem dL_law_760 : decode cL_law 760 = .ok (.aload_n 2, 1) := by decide +kernel
theorem dL_law_761 : decode cL_law 761 = .ok (.aload_n 0, 1) := by decide +kernel
theorem dL_law_762 : decode cL_law 762 = .ok (.iload_n 3, 1) := by decide +kernel
theorem dL_law_763 : decode cL_law 763 = .ok (.iconst 1, 1) := by decide +kernel
theorem dL_law_764 : decode cL_law 764 = .ok (.iadd, 1) := by decide +kernel
theorem dL_law_765 : decode cL_law 765 = .ok (.iaload, 1) := by decide +kernel
theorem dL_law_766 : decode cL_law 766 = .ok (.aload_n 0, 1) := by decide +kernel
theorem dL_law_767 : decode cL_law 767 = .ok (.iload_n 3, 1) := by decide +kernel
theorem dL_law_768 : decode cL_law 768 = .ok (.iconst 2, 1) := by decide +kernel
theorem dL_law_769 : decode cL_law 769 = .ok (.iadd, 1) := by decide +kernel
theorem dL_law_770 : decode cL_law 770 = .ok (.iaload, 1) := by decide +kernel
theorem dL_law_771 : decode cL_law 771 = .ok (.invokevirtual 87, 3) := by decide +kernel
theorem dL_law_774 : decode cL_law 774 = .ok (.if_icmp .eq 87, 3) := by decide +kernel
set_option maxHeartbeats 2000000 in
theorem lw_c16 {p : Program} {l : Launch} {e : Env} {s : State} {m : MethodId} {args : Array Value} {below : List Frame} {meth : Method} {c : Code} {D : va_G} {A : Nat → Prop} {cells slots : Nat} {Qf : State → Prop} {cI cZ cH : ClassId} {a a' : Nat → Nat} {n : Nat} {σ μ : St} {b L i : Nat} {xs : Nat → Int32} (X : cx p s m args c cL_law 4 RL D (wL cI cZ cH a a' n) A (tyW cI cZ cH)) (hX : va_X b L xs s s.heap) (hbl : b < s.heap.size) (hbA : ¬ A b) (hL : L ≤ 4096) (hi : i + 8 ≤ L) (hcl : cells ≤ room_1.cells) (hsl : slots ≤ room_1.slots) (h : RI n σ μ) (kk : ∀ σ' μ' : St, RI n σ' μ' → go p l e room_1 s m args below meth c D (wL cI cZ cH a a' n) A cells slots Qf 4 861 [(0, .ref b), (1, .ref (a 0)), (2, .ref (a' 0)), (3, .int (nI i))] [] (mix σ' μ')) : go p l e room_1 s m args below meth c D (wL cI cZ cH a a' n) A cells slots Qf 4 746 [(0, .ref b), (1, .ref (a 0)), (2, .ref (a' 0)), (3, .int (nI i))] [] (mix σ μ) := by
  refine r_aload_n X 1 747 dL_law_746 rfl rfl rfl ?_
  refine r_arg X hX hbl hbA hL 1 752 (by omega) rfl rfl (by decide) dL_law_747 dL_law_748 dL_law_749 dL_law_750 dL_law_751 rfl ?_
  refine r_arg X hX hbl hbA hL 2 757 (by omega) rfl rfl (by decide) dL_law_752 dL_law_753 dL_law_754 dL_law_755 dL_law_756 rfl ?_
  refine r_callLC (As := [.int (xs (i + 1)), .int (xs (i + 2))]) (rest := []) (q0 := 0) (ci := 5) X 760 (c_X5_due (J_due h (xs (i + 1)) (xs (i + 2)))) ml_L_84 lk_X5_due wC_at_0 rfl rfl rfl (Nat.le_of_ble_eq_true rfl) ⟨rfl, rfl, ⟨(Nat.le_of_ble_eq_true rfl), (Nat.le_of_ble_eq_true rfl)⟩, hcl, hsl⟩ dL_law_757 rfl (fun r σ' hq => ?_)
  refine r_aload_n X 2 761 dL_law_760 rfl rfl rfl ?_
  refine r_arg X hX hbl hbA hL 1 766 (by omega) rfl rfl (by decide) dL_law_761 dL_law_762 dL_law_763 dL_law_764 dL_law_765 rfl ?_
  refine r_arg X hX hbl hbA hL 2 771 (by omega) rfl rfl (by decide) dL_law_766 dL_law_767 dL_law_768 dL_law_769 dL_law_770 rfl ?_
  refine r_callLM (As := [.int (xs (i + 1)), .int (xs (i + 2))]) (rest := [.int r]) (q0 := 0) (ci := 6) X 774 (c_X6_due hq) ml_L_87 lk_X6_due rfl rfl rfl rfl (Nat.le_of_ble_eq_true rfl) ⟨rfl, rfl, ⟨(Nat.le_of_ble_eq_true rfl), (Nat.le_of_ble_eq_true rfl)⟩, hcl, hsl⟩ dL_law_771 rfl (fun r' μ' hq' => ?_)
  obtain ⟨e9, hR⟩ := hq'
  subst e9
  refine r_icmp_eq (P1 := True) (P2 := False) X 861 777 (by rw [if_pos rfl]; trivial) dL_law_774 (by decide) rfl (fun _ => ?_) (fun h9 => h9.elim)
  exact kk σ' μ' hR
theorem dL_law_779 : decode cL_law 779 = .ok (.aload_n 1, 1) := by decide +kernel
theorem dL_law_780 : decode cL_law 780 = .ok (.invokevirtual 88, 3) := by decide +kernel
theorem dL_law_783 : decode cL_law 783 = .ok (.aload_n 2, 1) := by decide +kernel
theorem dL_law_784 : decode cL_law 784 = .ok (.invokevirtual 92, 3) := by decide +kernel
theorem dL_law_787 : decode cL_law 787 = .ok (.if_icmp .eq 74, 3) := by decide +kernel
set_option maxHeartbeats 2000000 in
theorem lw_c17 {p : Program} {l : Launch} {e : Env} {s : State} {m : MethodId} {args : Array Value} {below : List Frame} {meth : Method} {c : Code} {D : va_G} {A : Nat → Prop} {cells slots : Nat} {Qf : State → Prop} {cI cZ cH : ClassId} {a a' : Nat → Nat} {n : Nat} {σ μ : St} {b L i : Nat} {xs : Nat → Int32} (X : cx p s m args c cL_law 4 RL D (wL cI cZ cH a a' n) A (tyW cI cZ cH)) (hX : va_X b L xs s s.heap) (hbl : b < s.heap.size) (hbA : ¬ A b) (hL : L ≤ 4096) (hi : i + 8 ≤ L) (hcl : cells ≤ room_1.cells) (hsl : slots ≤ room_1.slots) (h : RI n σ μ) (kk : ∀ σ' μ' : St, RI n σ' μ' → go p l e room_1 s m args below meth c D (wL cI cZ cH a a' n) A cells slots Qf 4 861 [(0, .ref b), (1, .ref (a 0)), (2, .ref (a' 0)), (3, .int (nI i))] [] (mix σ' μ')) : go p l e room_1 s m args below meth c D (wL cI cZ cH a a' n) A cells slots Qf 4 779 [(0, .ref b), (1, .ref (a 0)), (2, .ref (a' 0)), (3, .int (nI i))] [] (mix σ μ) := by
  refine r_aload_n X 1 780 dL_law_779 rfl rfl rfl ?_
  refine r_callLC (As := []) (rest := []) (q0 := 0) (ci := 5) X 783 (c_X5_freeze (J_freeze h)) ml_L_88 lk_X5_freeze wC_at_0 rfl rfl rfl (Nat.le_of_ble_eq_true rfl) ⟨rfl, rfl, ⟨(Nat.le_of_ble_eq_true rfl), (Nat.le_of_ble_eq_true rfl)⟩, hcl, hsl⟩ dL_law_780 rfl (fun r σ' hq => ?_)
  refine r_aload_n X 2 784 dL_law_783 rfl rfl rfl ?_
  refine r_callLM (As := []) (rest := [.int r]) (q0 := 0) (ci := 6) X 787 (c_X6_freeze hq) ml_L_92 lk_X6_freeze rfl rfl rfl rfl (Nat.le_of_ble_eq_true rfl) ⟨rfl, rfl, ⟨(Nat.le_of_ble_eq_true rfl), (Nat.le_of_ble_eq_true rfl)⟩, hcl, hsl⟩ dL_law_784 rfl (fun r' μ' hq' => ?_)
  obtain ⟨e9, hR⟩ := hq'
  subst e9
  refine r_icmp_eq (P1 := True) (P2 := False) X 861 790 (by rw [if_pos rfl]; trivial) dL_law_787 (by decide) rfl (fun _ => ?_) (fun h9 => h9.elim)
  exact kk σ' μ' hR
theorem dL_law_792 : decode cL_law 792 = .ok (.aload_n 1, 1) := by decide +kernel
theorem dL_law_793 : decode cL_law 793 = .ok (.aload_n 0, 1) := by decide +kernel
theorem dL_law_794 : decode cL_law 794 = .ok (.iload_n 3, 1) := by decide +kernel
theorem dL_law_795 : decode cL_law 795 = .ok (.iconst 1, 1) := by decide +kernel
theorem dL_law_796 : decode cL_law 796 = .ok (.iadd, 1) := by decide +kernel
theorem dL_law_797 : decode cL_law 797 = .ok (.iaload, 1) := by decide +kernel
theorem dL_law_798 : decode cL_law 798 = .ok (.aload_n 0, 1) := by decide +kernel
theorem dL_law_799 : decode cL_law 799 = .ok (.iload_n 3, 1) := by decide +kernel
theorem dL_law_800 : decode cL_law 800 = .ok (.iconst 2, 1) := by decide +kernel
theorem dL_law_801 : decode cL_law 801 = .ok (.iadd, 1) := by decide +kernel
theorem dL_law_802 : decode cL_law 802 = .ok (.iaload, 1) := by decide +kernel
theorem dL_law_803 : decode cL_law 803 = .ok (.aload_n 0, 1) := by decide +kernel
theorem dL_law_804 : decode cL_law 804 = .ok (.iload_n 3, 1) := by decide +kernel
theorem dL_law_805 : decode cL_law 805 = .ok (.iconst 3, 1) := by decide +kernel
theorem dL_law_806 : decode cL_law 806 = .ok (.iadd, 1) := by decide +kernel
theorem dL_law_807 : decode cL_law 807 = .ok (.iaload, 1) := by decide +kernel
theorem dL_law_808 : decode cL_law 808 = .ok (.invokevirtual 93, 3) := by decide +kernel
theorem dL_law_811 : decode cL_law 811 = .ok (.aload_n 2, 1) := by decide +kernel
theorem dL_law_812 : decode cL_law 812 = .ok (.aload_n 0, 1) := by decide +kernel
theorem dL_law_813 : decode cL_law 813 = .ok (.iload_n 3, 1) := by decide +kernel
theorem dL_law_814 : decode cL_law 814 = .ok (.iconst 1, 1) := by decide +kernel
theorem dL_law_815 : decode cL_law 815 = .ok (.iadd, 1) := by decide +kernel
theorem dL_law_816 : decode cL_law 816 = .ok (.iaload, 1) := by decide +kernel
theorem dL_law_817 : decode cL_law 817 = .ok (.aload_n 0, 1) := by decide +kernel
theorem dL_law_818 : decode cL_law 818 = .ok (.iload_n 3, 1) := by decide +kernel
theorem dL_law_819 : decode cL_law 819 = .ok (.iconst 2, 1) := by decide +kernel
theorem dL_law_820 : decode cL_law 820 = .ok (.iadd, 1) := by decide +kernel
theorem dL_law_821 : decode cL_law 821 = .ok (.iaload, 1) := by decide +kernel
theorem dL_law_822 : decode cL_law 822 = .ok (.aload_n 0, 1) := by decide +kernel
theorem dL_law_823 : decode cL_law 823 = .ok (.iload_n 3, 1) := by decide +kernel
theorem dL_law_824 : decode cL_law 824 = .ok (.iconst 3, 1) := by decide +kernel
theorem dL_law_825 : decode cL_law 825 = .ok (.iadd, 1) := by decide +kernel
theorem dL_law_826 : decode cL_law 826 = .ok (.iaload, 1) := by decide +kernel
theorem dL_law_827 : decode cL_law 827 = .ok (.invokevirtual 97, 3) := by decide +kernel
theorem dL_law_830 : decode cL_law 830 = .ok (.if_icmp .eq 31, 3) := by decide +kernel
set_option maxHeartbeats 2000000 in
theorem lw_c18 {p : Program} {l : Launch} {e : Env} {s : State} {m : MethodId} {args : Array Value} {below : List Frame} {meth : Method} {c : Code} {D : va_G} {A : Nat → Prop} {cells slots : Nat} {Qf : State → Prop} {cI cZ cH : ClassId} {a a' : Nat → Nat} {n : Nat} {σ μ : St} {b L i : Nat} {xs : Nat → Int32} (X : cx p s m args c cL_law 4 RL D (wL cI cZ cH a a' n) A (tyW cI cZ cH)) (hX : va_X b L xs s s.heap) (hbl : b < s.heap.size) (hbA : ¬ A b) (hL : L ≤ 4096) (hi : i + 8 ≤ L) (hcl : cells ≤ room_1.cells) (hsl : slots ≤ room_1.slots) (h : RI n σ μ) (kk : ∀ σ' μ' : St, RI n σ' μ' → go p l e room_1 s m args below meth c D (wL cI cZ cH a a' n) A cells slots Qf 4 861 [(0, .ref b), (1, .ref (a 0)), (2, .ref (a' 0)), (3, .int (nI i))] [] (mix σ' μ')) : go p l e room_1 s m args below meth c D (wL cI cZ cH a a' n) A cells slots Qf 4 792 [(0, .ref b), (1, .ref (a 0)), (2, .ref (a' 0)), (3, .int (nI i))] [] (mix σ μ) := by
  refine r_aload_n X 1 793 dL_law_792 rfl rfl rfl ?_
  refine r_arg X hX hbl hbA hL 1 798 (by omega) rfl rfl (by decide) dL_law_793 dL_law_794 dL_law_795 dL_law_796 dL_law_797 rfl ?_
  refine r_arg X hX hbl hbA hL 2 803 (by omega) rfl rfl (by decide) dL_law_798 dL_law_799 dL_law_800 dL_law_801 dL_law_802 rfl ?_
  refine r_arg X hX hbl hbA hL 3 808 (by omega) rfl rfl (by decide) dL_law_803 dL_law_804 dL_law_805 dL_law_806 dL_law_807 rfl ?_
  refine r_callLC (As := [.int (xs (i + 1)), .int (xs (i + 2)), .int (xs (i + 3))]) (rest := []) (q0 := 0) (ci := 5) X 811 (c_X5_alter (J_alter h (xs (i + 1)) (xs (i + 2)) (xs (i + 3)))) ml_L_93 lk_X5_alter wC_at_0 rfl rfl rfl (Nat.le_of_ble_eq_true rfl) ⟨rfl, rfl, ⟨(Nat.le_of_ble_eq_true rfl), (Nat.le_of_ble_eq_true rfl)⟩, hcl, hsl⟩ dL_law_808 rfl (fun r σ' hq => ?_)
  replace hq := hq.2
  refine r_aload_n X 2 812 dL_law_811 rfl rfl rfl ?_
  refine r_arg X hX hbl hbA hL 1 817 (by omega) rfl rfl (by decide) dL_law_812 dL_law_813 dL_law_814 dL_law_815 dL_law_816 rfl ?_
  refine r_arg X hX hbl hbA hL 2 822 (by omega) rfl rfl (by decide) dL_law_817 dL_law_818 dL_law_819 dL_law_820 dL_law_821 rfl ?_
  refine r_arg X hX hbl hbA hL 3 827 (by omega) rfl rfl (by decide) dL_law_822 dL_law_823 dL_law_824 dL_law_825 dL_law_826 rfl ?_
  refine r_callLM (As := [.int (xs (i + 1)), .int (xs (i + 2)), .int (xs (i + 3))]) (rest := [.int r]) (q0 := 0) (ci := 6) X 830 (c_X6_alter hq) ml_L_97 lk_X6_alter rfl rfl rfl rfl (Nat.le_of_ble_eq_true rfl) ⟨rfl, rfl, ⟨(Nat.le_of_ble_eq_true rfl), (Nat.le_of_ble_eq_true rfl)⟩, hcl, hsl⟩ dL_law_827 rfl (fun r' μ' hq' => ?_)
  replace hq' := hq'.2
  obtain ⟨e9, hR⟩ := hq'
  subst e9
  refine r_icmp_eq (P1 := True) (P2 := False) X 861 833 (by rw [if_pos rfl]; trivial) dL_law_830 (by decide) rfl (fun _ => ?_) (fun h9 => h9.elim)
  exact kk σ' μ' hR
theorem dL_law_835 : decode cL_law 835 = .ok (.aload_n 1, 1) := by decide +kernel
theorem dL_law_836 : decode cL_law 836 = .ok (.invokevirtual 98, 3) := by decide +kernel
theorem dL_law_839 : decode cL_law 839 = .ok (.aload_n 2, 1) := by decide +kernel
theorem dL_law_840 : decode cL_law 840 = .ok (.invokevirtual 101, 3) := by decide +kernel
theorem dL_law_843 : decode cL_law 843 = .ok (.if_icmp .eq 18, 3) := by decide +kernel
set_option maxHeartbeats 2000000 in
theorem lw_c19 {p : Program} {l : Launch} {e : Env} {s : State} {m : MethodId} {args : Array Value} {below : List Frame} {meth : Method} {c : Code} {D : va_G} {A : Nat → Prop} {cells slots : Nat} {Qf : State → Prop} {cI cZ cH : ClassId} {a a' : Nat → Nat} {n : Nat} {σ μ : St} {b L i : Nat} {xs : Nat → Int32} (X : cx p s m args c cL_law 4 RL D (wL cI cZ cH a a' n) A (tyW cI cZ cH)) (hX : va_X b L xs s s.heap) (hbl : b < s.heap.size) (hbA : ¬ A b) (hL : L ≤ 4096) (hi : i + 8 ≤ L) (hcl : cells ≤ room_1.cells) (hsl : slots ≤ room_1.slots) (h : RI n σ μ) (kk : ∀ σ' μ' : St, RI n σ' μ' → go p l e room_1 s m args below meth c D (wL cI cZ cH a a' n) A cells slots Qf 4 861 [(0, .ref b), (1, .ref (a 0)), (2, .ref (a' 0)), (3, .int (nI i))] [] (mix σ' μ')) : go p l e room_1 s m args below meth c D (wL cI cZ cH a a' n) A cells slots Qf 4 835 [(0, .ref b), (1, .ref (a 0)), (2, .ref (a' 0)), (3, .int (nI i))] [] (mix σ μ) := by
  refine r_aload_n X 1 836 dL_law_835 rfl rfl rfl ?_
  refine r_callLC (As := []) (rest := []) (q0 := 0) (ci := 5) X 839 (c_X5_check (J_check h)) ml_L_98 lk_X5_check wC_at_0 rfl rfl rfl (Nat.le_of_ble_eq_true rfl) ⟨rfl, rfl, ⟨(Nat.le_of_ble_eq_true rfl), (Nat.le_of_ble_eq_true rfl)⟩, hcl, hsl⟩ dL_law_836 rfl (fun r σ' hq => ?_)
  refine r_aload_n X 2 840 dL_law_839 rfl rfl rfl ?_
  refine r_callLM (As := []) (rest := [.int r]) (q0 := 0) (ci := 6) X 843 (c_X6_check hq) ml_L_101 lk_X6_check rfl rfl rfl rfl (Nat.le_of_ble_eq_true rfl) ⟨rfl, rfl, ⟨(Nat.le_of_ble_eq_true rfl), (Nat.le_of_ble_eq_true rfl)⟩, hcl, hsl⟩ dL_law_840 rfl (fun r' μ' hq' => ?_)
  obtain ⟨e9, hR⟩ := hq'
  subst e9
  refine r_icmp_eq (P1 := True) (P2 := False) X 861 846 (by rw [if_pos rfl]; trivial) dL_law_843 (by decide) rfl (fun _ => ?_) (fun h9 => h9.elim)
  exact kk σ' μ' hR
theorem dL_law_848 : decode cL_law 848 = .ok (.aload_n 1, 1) := by decide +kernel
theorem dL_law_849 : decode cL_law 849 = .ok (.invokevirtual 102, 3) := by decide +kernel
theorem dL_law_852 : decode cL_law 852 = .ok (.aload_n 2, 1) := by decide +kernel
theorem dL_law_853 : decode cL_law 853 = .ok (.invokevirtual 106, 3) := by decide +kernel
theorem dL_law_856 : decode cL_law 856 = .ok (.if_icmp .eq 5, 3) := by decide +kernel
set_option maxHeartbeats 2000000 in
theorem lw_c20 {p : Program} {l : Launch} {e : Env} {s : State} {m : MethodId} {args : Array Value} {below : List Frame} {meth : Method} {c : Code} {D : va_G} {A : Nat → Prop} {cells slots : Nat} {Qf : State → Prop} {cI cZ cH : ClassId} {a a' : Nat → Nat} {n : Nat} {σ μ : St} {b L i : Nat} {xs : Nat → Int32} (X : cx p s m args c cL_law 4 RL D (wL cI cZ cH a a' n) A (tyW cI cZ cH)) (hX : va_X b L xs s s.heap) (hbl : b < s.heap.size) (hbA : ¬ A b) (hL : L ≤ 4096) (hi : i + 8 ≤ L) (hcl : cells ≤ room_1.cells) (hsl : slots ≤ room_1.slots) (h : RI n σ μ) (kk : ∀ σ' μ' : St, RI n σ' μ' → go p l e room_1 s m args below meth c D (wL cI cZ cH a a' n) A cells slots Qf 4 861 [(0, .ref b), (1, .ref (a 0)), (2, .ref (a' 0)), (3, .int (nI i))] [] (mix σ' μ')) : go p l e room_1 s m args below meth c D (wL cI cZ cH a a' n) A cells slots Qf 4 848 [(0, .ref b), (1, .ref (a 0)), (2, .ref (a' 0)), (3, .int (nI i))] [] (mix σ μ) := by
  refine r_aload_n X 1 849 dL_law_848 rfl rfl rfl ?_
  refine r_callLC (As := []) (rest := []) (q0 := 0) (ci := 5) X 852 (c_X5_thaw (J_thaw h)) ml_L_102 lk_X5_thaw wC_at_0 rfl rfl rfl (Nat.le_of_ble_eq_true rfl) ⟨rfl, rfl, ⟨(Nat.le_of_ble_eq_true rfl), (Nat.le_of_ble_eq_true rfl)⟩, hcl, hsl⟩ dL_law_849 rfl (fun r σ' hq => ?_)
  replace hq := hq.2
  refine r_aload_n X 2 853 dL_law_852 rfl rfl rfl ?_
  refine r_callLM (As := []) (rest := [.int r]) (q0 := 0) (ci := 6) X 856 (c_X6_thaw hq) ml_L_106 lk_X6_thaw rfl rfl rfl rfl (Nat.le_of_ble_eq_true rfl) ⟨rfl, rfl, ⟨(Nat.le_of_ble_eq_true rfl), (Nat.le_of_ble_eq_true rfl)⟩, hcl, hsl⟩ dL_law_853 rfl (fun r' μ' hq' => ?_)
  replace hq' := hq'.2
  obtain ⟨e9, hR⟩ := hq'
  subst e9
  refine r_icmp_eq (P1 := True) (P2 := False) X 861 859 (by rw [if_pos rfl]; trivial) dL_law_856 (by decide) rfl (fun _ => ?_) (fun h9 => h9.elim)
  exact kk σ' μ' hR
