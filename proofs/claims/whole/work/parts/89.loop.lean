theorem dL_law_18 : decode cL_law 18 = .ok (.iload_n 3, 1) := by decide +kernel
theorem dL_law_19 : decode cL_law 19 = .ok (.aload_n 0, 1) := by decide +kernel
theorem dL_law_20 : decode cL_law 20 = .ok (.arraylength, 1) := by decide +kernel
theorem dL_law_21 : decode cL_law 21 = .ok (.bipush 8, 2) := by decide +kernel
theorem dL_law_23 : decode cL_law 23 = .ok (.isub, 1) := by decide +kernel
theorem dL_law_24 : decode cL_law 24 = .ok (.if_icmp .gt 843, 3) := by decide +kernel
theorem dL_law_27 : decode cL_law 27 = .ok (.aload_n 0, 1) := by decide +kernel
theorem dL_law_28 : decode cL_law 28 = .ok (.iload_n 3, 1) := by decide +kernel
theorem dL_law_29 : decode cL_law 29 = .ok (.iaload, 1) := by decide +kernel
theorem dL_law_30 : decode cL_law 30 = .ok (.bipush 31, 2) := by decide +kernel
theorem dL_law_32 : decode cL_law 32 = .ok (.iand, 1) := by decide +kernel
theorem dL_law_33 : decode cL_law 33 = .ok (.tableswitch 828 0 20 #[99, 138, 177, 210, 243, 266, 353, 376, 429, 472, 505, 528, 561, 614, 647, 690, 713, 746, 759, 802, 815], 99) := by decide +kernel
theorem dL_law_861 : decode cL_law 861 = .ok (.iinc 3 8, 3) := by decide +kernel
theorem dL_law_864 : decode cL_law 864 = .ok (.goto (-846), 3) := by decide +kernel
theorem dL_law_867 : decode cL_law 867 = .ok (.iconst 1, 1) := by decide +kernel
theorem dL_law_868 : decode cL_law 868 = .ok (.ireturn, 1) := by decide +kernel
set_option maxHeartbeats 2000000 in
theorem lw_loop {p : Program} {l : Launch} {e : Env} {s : State} {m : MethodId} {args : Array Value} {below : List Frame} {meth : Method} {c : Code} {D : va_G} {A : Nat → Prop} {Qf : State → Prop} {cI cZ cH : ClassId} {a' : Nat → Nat} {b L : Nat} {xs : Nat → Int32} (hX : va_X b L xs s s.heap) (hbl : b < s.heap.size) (hbA : ¬ A b) (hL : L ≤ 4096) (fin : ∀ (H : Heap) (locs : List Loc) (ls : Array Slot) (cells slots : Nat), cells ≤ 600000 → slots ≤ 7302250 → va_S A s.heap H locs → W p l e room_1 s m args below meth c H locs cells slots Qf (F0 m 868 ls [.int 1])) :
    ∀ (g i n : Nat) (a : Nat → Nat) (σ μ : St), L ≤ i + g → i ≤ 4096 → cx p s m args c cL_law 4 RL D (wL cI cZ cH a a' n) A (tyW cI cZ cH) → RI n σ μ → go p l e room_1 s m args below meth c D (wL cI cZ cH a a' n) A (54 + n) (18710 + 7 * n) Qf 4 18 [(0, .ref b), (1, .ref (a 0)), (2, .ref (a' 0)), (3, .int (nI i))] [] (mix σ μ) := by
  have out : ∀ (i n : Nat) (a : Nat → Nat) (σ μ : St), L < i + 8 → i ≤ 4096 → cx p s m args c cL_law 4 RL D (wL cI cZ cH a a' n) A (tyW cI cZ cH) → RI n σ μ → go p l e room_1 s m args below meth c D (wL cI cZ cH a a' n) A (54 + n) (18710 + 7 * n) Qf 4 18 [(0, .ref b), (1, .ref (a 0)), (2, .ref (a' 0)), (3, .int (nI i))] [] (mix σ μ) := by
    intro i n a σ μ hlt hi X h
    have h60 := RI_n h
    refine r_iload_n X 3 19 dL_law_18 rfl rfl rfl ?_
    refine r_aload_n X 0 20 dL_law_19 rfl rfl rfl ?_
    refine r_slen X hX hbl hbA 21 dL_law_20 rfl ?_
    refine r_bipush (v := 8) X 23 dL_law_21 (by decide) rfl ?_
    refine r_isub X 24 dL_law_23 rfl ?_
    refine r_icmp_gt (P1 := True) (P2 := False) X 867 27 (by rw [if_pos ((len_gt hL hi).mpr hlt)]; trivial) dL_law_24 (by decide) rfl (fun _ => ?_) (fun h9 => h9.elim)
    refine r_iconst (v := 1) X 868 dL_law_867 (by decide) rfl ?_
    exact fun H locs ls hP hS hl => fin H locs ls _ _ (by omega) (by omega) hS
  intro g
  induction g with
  | zero => exact fun i n a σ μ hg hi X h => out i n a σ μ (by omega) hi X h
  | succ g ih =>
    intro i n a σ μ hg hi X h
    by_cases hlt : L < i + 8
    · exact out i n a σ μ hlt hi X h
    have h60 := RI_n h
    have hi8 : i + 8 ≤ L := Nat.le_of_not_lt hlt
    have hcl : 54 + n ≤ room_1.cells := by show 54 + n ≤ 600000; omega
    have hsl : 18710 + 7 * n ≤ room_1.slots := by show 18710 + 7 * n ≤ 7302250; omega
    have hcl1 : 54 + n + 1 ≤ room_1.cells := by show 54 + n + 1 ≤ 600000; omega
    have hsl1 : 18710 + 7 * n + 7 ≤ room_1.slots := by show 18710 + 7 * n + 7 ≤ 7302250; omega
    have kk : ∀ σ' μ' : St, RI n σ' μ' → go p l e room_1 s m args below meth c D (wL cI cZ cH a a' n) A (54 + n) (18710 + 7 * n) Qf 4 861 [(0, .ref b), (1, .ref (a 0)), (2, .ref (a' 0)), (3, .int (nI i))] [] (mix σ' μ') := by
      intro σ' μ' h'
      refine r_iinc X 3 864 [(3, .int (nI i + 8)), (0, .ref b), (1, .ref (a 0)), (2, .ref (a' 0))] dL_law_861 rfl (by decide) (by decide) rfl rfl ?_
      refine r_goto X 18 dL_law_864 (by decide) ?_
      rw [show nI i + 8 = nI (i + 8) from nI_add i 8]
      refine r_pick (lv' := [(0, .ref b), (1, .ref (a 0)), (2, .ref (a' 0)), (3, .int (nI (i + 8)))]) [1, 2, 3, 0] rfl ?_
      exact ih (i + 8) n a σ' μ' (by omega) (by omega) X h'
    have k2 : ∀ (b' : Nat) (σ' μ' : St), cx p s m args c cL_law 4 RL D (wL cI cZ cH (aN a n b') a' (n + 1)) A (tyW cI cZ cH) → RI (n + 1) σ' μ' → go p l e room_1 s m args below meth c D (wL cI cZ cH (aN a n b') a' (n + 1)) A (54 + n + 1) (18710 + 7 * n + 7) Qf 4 861 [(0, .ref b), (1, .ref (a 0)), (2, .ref (a' 0)), (3, .int (nI i))] [] (mix σ' μ') := by
      intro b' σ' μ' Y h'
      rw [show 54 + n + 1 = 54 + (n + 1) by omega, show 18710 + 7 * n + 7 = 18710 + 7 * (n + 1) by omega]
      refine r_iinc Y 3 864 [(3, .int (nI i + 8)), (0, .ref b), (1, .ref (a 0)), (2, .ref (a' 0))] dL_law_861 rfl (by decide) (by decide) rfl rfl ?_
      refine r_goto Y 18 dL_law_864 (by decide) ?_
      rw [show nI i + 8 = nI (i + 8) from nI_add i 8]
      refine r_pick (lv' := [(0, .ref b), (1, .ref (a 0)), (2, .ref (a' 0)), (3, .int (nI (i + 8)))]) [1, 2, 3, 0] rfl ?_
      have K := ih (i + 8) (n + 1) (aN a n b') σ' μ' (by omega) (by omega) Y h'
      rw [show aN a n b' 0 = a 0 from if_neg (by omega)] at K
      exact K
    refine r_iload_n X 3 19 dL_law_18 rfl rfl rfl ?_
    refine r_aload_n X 0 20 dL_law_19 rfl rfl rfl ?_
    refine r_slen X hX hbl hbA 21 dL_law_20 rfl ?_
    refine r_bipush (v := 8) X 23 dL_law_21 (by decide) rfl ?_
    refine r_isub X 24 dL_law_23 rfl ?_
    refine r_icmp_gt (P1 := False) (P2 := True) X 867 27 (by rw [if_neg (fun z => hlt ((len_gt hL hi).mp z))]; trivial) dL_law_24 (by decide) rfl (fun h9 => h9.elim) (fun _ => ?_)
    refine r_aload_n X 0 28 dL_law_27 rfl rfl rfl ?_
    refine r_iload_n X 3 29 dL_law_28 rfl rfl rfl ?_
    refine r_sld X hX hbl hbA 30 (vp_in_nI (by omega) (by omega)) dL_law_29 rfl ?_
    rw [show ix (nI i) = i from nI_clamp (by omega)]
    refine r_bipush (v := 31) X 32 dL_law_30 (by decide) rfl ?_
    refine r_iand X 33 dL_law_32 rfl ?_
    obtain ⟨k, hk, e9⟩ := and31 (xs i)
    rw [e9]
    clear e9
    by_cases hk2 : k ≤ 20
    · rcases (show k = 0 ∨ k = 1 ∨ k = 2 ∨ k = 3 ∨ k = 4 ∨ k = 5 ∨ k = 6 ∨ k = 7 ∨ k = 8 ∨ k = 9 ∨ k = 10 ∨ k = 11 ∨ k = 12 ∨ k = 13 ∨ k = 14 ∨ k = 15 ∨ k = 16 ∨ k = 17 ∨ k = 18 ∨ k = 19 ∨ k = 20 by omega) with rfl | rfl | rfl | rfl | rfl | rfl | rfl | rfl | rfl | rfl | rfl | rfl | rfl | rfl | rfl | rfl | rfl | rfl | rfl | rfl | rfl
      · exact r_tabIn (v := 0) X 132 dL_law_33 rfl (by decide) (by decide) rfl (by decide) (lw_c0 X hX hbl hbA hL hi8 hcl hsl h kk)
      · exact r_tabIn (v := 1) X 171 dL_law_33 rfl (by decide) (by decide) rfl (by decide) (lw_c1 X hX hbl hbA hL hi8 hcl hsl h kk)
      · exact r_tabIn (v := 2) X 210 dL_law_33 rfl (by decide) (by decide) rfl (by decide) (lw_c2 X hX hbl hbA hL hi8 hcl hsl h kk)
      · exact r_tabIn (v := 3) X 243 dL_law_33 rfl (by decide) (by decide) rfl (by decide) (lw_c3 X hX hbl hbA hL hi8 hcl hsl h kk)
      · exact r_tabIn (v := 4) X 276 dL_law_33 rfl (by decide) (by decide) rfl (by decide) (lw_c4 X hX hbl hbA hL hi8 hcl hsl h kk)
      · exact r_tabIn (v := 5) X 299 dL_law_33 rfl (by decide) (by decide) rfl (by decide) (lw_c5 X hX hbl hbA hL hi8 hcl hsl h kk)
      · exact r_tabIn (v := 6) X 386 dL_law_33 rfl (by decide) (by decide) rfl (by decide) (lw_c6 X hX hbl hbA hL hi8 hcl hsl h kk)
      · exact r_tabIn (v := 7) X 409 dL_law_33 rfl (by decide) (by decide) rfl (by decide) (lw_c7 X hX hbl hbA hL hi8 hcl hsl h kk hcl1 hsl1 k2)
      · exact r_tabIn (v := 8) X 462 dL_law_33 rfl (by decide) (by decide) rfl (by decide) (lw_c8 X hX hbl hbA hL hi8 hcl hsl h kk)
      · exact r_tabIn (v := 9) X 505 dL_law_33 rfl (by decide) (by decide) rfl (by decide) (lw_c9 X hX hbl hbA hL hi8 hcl hsl h kk)
      · exact r_tabIn (v := 10) X 538 dL_law_33 rfl (by decide) (by decide) rfl (by decide) (lw_c10 X hX hbl hbA hL hi8 hcl hsl h kk)
      · exact r_tabIn (v := 11) X 561 dL_law_33 rfl (by decide) (by decide) rfl (by decide) (lw_c11 X hX hbl hbA hL hi8 hcl hsl h kk)
      · exact r_tabIn (v := 12) X 594 dL_law_33 rfl (by decide) (by decide) rfl (by decide) (lw_c12 X hX hbl hbA hL hi8 hcl hsl h kk)
      · exact r_tabIn (v := 13) X 647 dL_law_33 rfl (by decide) (by decide) rfl (by decide) (lw_c13 X hX hbl hbA hL hi8 hcl hsl h kk)
      · exact r_tabIn (v := 14) X 680 dL_law_33 rfl (by decide) (by decide) rfl (by decide) (lw_c14 X hX hbl hbA hL hi8 hcl hsl h kk)
      · exact r_tabIn (v := 15) X 723 dL_law_33 rfl (by decide) (by decide) rfl (by decide) (lw_c15 X hX hbl hbA hL hi8 hcl hsl h kk)
      · exact r_tabIn (v := 16) X 746 dL_law_33 rfl (by decide) (by decide) rfl (by decide) (lw_c16 X hX hbl hbA hL hi8 hcl hsl h kk)
      · exact r_tabIn (v := 17) X 779 dL_law_33 rfl (by decide) (by decide) rfl (by decide) (lw_c17 X hX hbl hbA hL hi8 hcl hsl h kk)
      · exact r_tabIn (v := 18) X 792 dL_law_33 rfl (by decide) (by decide) rfl (by decide) (lw_c18 X hX hbl hbA hL hi8 hcl hsl h kk)
      · exact r_tabIn (v := 19) X 835 dL_law_33 rfl (by decide) (by decide) rfl (by decide) (lw_c19 X hX hbl hbA hL hi8 hcl hsl h kk)
      · exact r_tabIn (v := 20) X 848 dL_law_33 rfl (by decide) (by decide) rfl (by decide) (lw_c20 X hX hbl hbA hL hi8 hcl hsl h kk)
    · refine r_tabOut X 861 dL_law_33 (Or.inr (by rw [nI_toInt (by omega)]; omega)) (by decide) ?_
      exact kk σ μ h
