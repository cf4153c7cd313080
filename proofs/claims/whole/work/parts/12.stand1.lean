section WALK
variable {p : Program} {l : Launch} {e : Env} {s : State} {m : MethodId} {args : Array Value} {below : List Frame} {meth : Method} {c : Code} {D : va_G} {A : Nat → Prop} {cI cZ cH : ClassId} {a : Nat → Nat} {n : Nat}
def rm_X3_clear : Room := { frames := 1, cells := 0, slots := 0, locals := 44 }
theorem dX3_clear_0 : decode cX3_clear 0 = .ok (.aload_n 0, 1) := by decide +kernel
theorem dX3_clear_1 : decode cX3_clear 1 = .ok (.getfield 9, 3) := by decide +kernel
theorem dX3_clear_4 : decode cX3_clear 4 = .ok (.iconst 0, 1) := by decide +kernel
theorem dX3_clear_5 : decode cX3_clear 5 = .ok (.invokestatic 93, 3) := by decide +kernel
theorem dX3_clear_8 : decode cX3_clear 8 = .ok (.aload_n 0, 1) := by decide +kernel
theorem dX3_clear_9 : decode cX3_clear 9 = .ok (.getfield 15, 3) := by decide +kernel
theorem dX3_clear_12 : decode cX3_clear 12 = .ok (.iconst (-1), 1) := by decide +kernel
theorem dX3_clear_13 : decode cX3_clear 13 = .ok (.invokestatic 93, 3) := by decide +kernel
theorem dX3_clear_16 : decode cX3_clear 16 = .ok (.aload_n 0, 1) := by decide +kernel
theorem dX3_clear_17 : decode cX3_clear 17 = .ok (.getfield 48, 3) := by decide +kernel
theorem dX3_clear_20 : decode cX3_clear 20 = .ok (.getfield 99, 3) := by decide +kernel
theorem dX3_clear_23 : decode cX3_clear 23 = .ok (.iconst 0, 1) := by decide +kernel
theorem dX3_clear_24 : decode cX3_clear 24 = .ok (.aload_n 0, 1) := by decide +kernel
theorem dX3_clear_25 : decode cX3_clear 25 = .ok (.getfield 18, 3) := by decide +kernel
theorem dX3_clear_28 : decode cX3_clear 28 = .ok (.iconst 0, 1) := by decide +kernel
theorem dX3_clear_29 : decode cX3_clear 29 = .ok (.bipush 60, 2) := by decide +kernel
theorem dX3_clear_31 : decode cX3_clear 31 = .ok (.invokestatic 102, 3) := by decide +kernel
theorem dX3_clear_34 : decode cX3_clear 34 = .ok (.aload_n 0, 1) := by decide +kernel
theorem dX3_clear_35 : decode cX3_clear 35 = .ok (.getfield 21, 3) := by decide +kernel
theorem dX3_clear_38 : decode cX3_clear 38 = .ok (.iconst (-1), 1) := by decide +kernel
theorem dX3_clear_39 : decode cX3_clear 39 = .ok (.invokestatic 93, 3) := by decide +kernel
theorem dX3_clear_42 : decode cX3_clear 42 = .ok (.aload_n 0, 1) := by decide +kernel
theorem dX3_clear_43 : decode cX3_clear 43 = .ok (.getfield 24, 3) := by decide +kernel
theorem dX3_clear_46 : decode cX3_clear 46 = .ok (.iconst (-1), 1) := by decide +kernel
theorem dX3_clear_47 : decode cX3_clear 47 = .ok (.invokestatic 93, 3) := by decide +kernel
theorem dX3_clear_50 : decode cX3_clear 50 = .ok (.aload_n 0, 1) := by decide +kernel
theorem dX3_clear_51 : decode cX3_clear 51 = .ok (.getfield 27, 3) := by decide +kernel
theorem dX3_clear_54 : decode cX3_clear 54 = .ok (.iconst (-1), 1) := by decide +kernel
theorem dX3_clear_55 : decode cX3_clear 55 = .ok (.invokestatic 93, 3) := by decide +kernel
theorem dX3_clear_58 : decode cX3_clear 58 = .ok (.aload_n 0, 1) := by decide +kernel
theorem dX3_clear_59 : decode cX3_clear 59 = .ok (.getfield 30, 3) := by decide +kernel
theorem dX3_clear_62 : decode cX3_clear 62 = .ok (.iconst 0, 1) := by decide +kernel
theorem dX3_clear_63 : decode cX3_clear 63 = .ok (.invokestatic 93, 3) := by decide +kernel
theorem dX3_clear_66 : decode cX3_clear 66 = .ok (.aload_n 0, 1) := by decide +kernel
theorem dX3_clear_67 : decode cX3_clear 67 = .ok (.getfield 33, 3) := by decide +kernel
theorem dX3_clear_70 : decode cX3_clear 70 = .ok (.iconst 0, 1) := by decide +kernel
theorem dX3_clear_71 : decode cX3_clear 71 = .ok (.invokestatic 93, 3) := by decide +kernel
theorem dX3_clear_74 : decode cX3_clear 74 = .ok (.aload_n 0, 1) := by decide +kernel
theorem dX3_clear_75 : decode cX3_clear 75 = .ok (.getfield 36, 3) := by decide +kernel
theorem dX3_clear_78 : decode cX3_clear 78 = .ok (.iconst 0, 1) := by decide +kernel
theorem dX3_clear_79 : decode cX3_clear 79 = .ok (.invokestatic 93, 3) := by decide +kernel
theorem dX3_clear_82 : decode cX3_clear 82 = .ok (.aload_n 0, 1) := by decide +kernel
theorem dX3_clear_83 : decode cX3_clear 83 = .ok (.getfield 39, 3) := by decide +kernel
theorem dX3_clear_86 : decode cX3_clear 86 = .ok (.iconst (-1), 1) := by decide +kernel
theorem dX3_clear_87 : decode cX3_clear 87 = .ok (.invokestatic 93, 3) := by decide +kernel
theorem dX3_clear_90 : decode cX3_clear 90 = .ok (.aload_n 0, 1) := by decide +kernel
theorem dX3_clear_91 : decode cX3_clear 91 = .ok (.getfield 42, 3) := by decide +kernel
theorem dX3_clear_94 : decode cX3_clear 94 = .ok (.iconst (-1), 1) := by decide +kernel
theorem dX3_clear_95 : decode cX3_clear 95 = .ok (.invokestatic 93, 3) := by decide +kernel
theorem dX3_clear_98 : decode cX3_clear 98 = .ok (.aload_n 0, 1) := by decide +kernel
theorem dX3_clear_99 : decode cX3_clear 99 = .ok (.getfield 45, 3) := by decide +kernel
theorem dX3_clear_102 : decode cX3_clear 102 = .ok (.iconst 0, 1) := by decide +kernel
theorem dX3_clear_103 : decode cX3_clear 103 = .ok (.invokestatic 93, 3) := by decide +kernel
theorem dX3_clear_106 : decode cX3_clear 106 = .ok (.return_, 1) := by decide +kernel
def wp_X3_clear  (σ : St) (Q : St → Prop) : Prop :=
  nmS (upr σ 14 (fillA 60 0 (σ 14))) (fun σ1 =>
  nmS (upr σ1 15 (fillA 60 (-1) (σ1 15))) (fun σ2 =>
  (¬ ((0 : Int32)) < 0 ∧ ¬ ((0 : Int32)) < 0 ∧ ¬ ((60 : Int32)) < 0 ∧ ix 0 + ix 60 ≤ 60 ∧ ix 0 + ix 60 ≤ 60) ∧ nmS (upr σ2 16 (va_cpy (σ2 6) (σ2 16) (ix 0) (ix 0) (ix 60))) (fun σ3 =>
  nmS (upr σ3 17 (fillA 60 (-1) (σ3 17))) (fun σ4 =>
  nmS (upr σ4 18 (fillA 60 (-1) (σ4 18))) (fun σ5 =>
  nmS (upr σ5 19 (fillA 60 (-1) (σ5 19))) (fun σ6 =>
  nmS (upr σ6 20 (fillA 60 0 (σ6 20))) (fun σ7 =>
  nmS (upr σ7 21 (fillA 60 0 (σ7 21))) (fun σ8 =>
  nmS (upr σ8 22 (fillA 60 0 (σ8 22))) (fun σ9 =>
  nmS (upr σ9 23 (fillA 60 (-1) (σ9 23))) (fun σ10 =>
  nmS (upr σ10 24 (fillA 96 (-1) (σ10 24))) (fun σ11 =>
  nmS (upr σ11 25 (fillA 600 0 (σ11 25))) (fun σ12 =>
  Q σ12))))))))))))
theorem c_X3_clear  {σ : St} {Q : St → Prop} (h : wp_X3_clear σ Q) : ctV l yX3_clear cX3_clear 1 none rm_X3_clear D (wC cI cZ cH a n) (tyW cI cZ cH) [.ref (a 13)] σ Q := by
  refine mk_V (wC_ok cI cZ cH a n) (by decide +kernel) (Nat.le_of_ble_eq_true rfl) (fun p e s m args below meth c A X hr9 hlk9 => ?_)
  refine r_pick (lv' := [(0, .ref (a 13))]) [0] rfl ?_
  delta wp_X3_clear at h
  refine r_aload_n X 0 1 dX3_clear_0 rfl rfl rfl ?_
  refine g_X3_9 X 4 dX3_clear_1 rfl ?_
  refine r_iconst (v := 0) X 5 dX3_clear_4 (by decide) rfl ?_
  refine r_callSV (As := [.ref (a 14), .int 0]) (rest := []) X 8 (c_fill (q0 := 14) (k := 14) (N := 60) (t0 := 0) (wC_ok cI cZ cH a n) (fun _ => wC_at_14) (fun _ _ => wC_set_14) rfl (by decide) h) ml_X3_93 lk_J7_fill_53178 sy_J7_fill_53178 rfl rfl (Nat.le_of_ble_eq_true rfl) ⟨rfl, rfl, ⟨Nat.le_of_ble_eq_true rfl, Nat.le_of_ble_eq_true rfl⟩, Nat.le_of_ble_eq_true rfl, Nat.le_of_ble_eq_true rfl⟩ dX3_clear_5 rfl (fun σ1 h => ?_)
  refine r_aload_n X 0 9 dX3_clear_8 rfl rfl rfl ?_
  refine g_X3_15 X 12 dX3_clear_9 rfl ?_
  refine r_iconst (v := (-1)) X 13 dX3_clear_12 (by decide) rfl ?_
  refine r_callSV (As := [.ref (a 15), .int (-1)]) (rest := []) X 16 (c_fill (q0 := 15) (k := 15) (N := 60) (t0 := 0) (wC_ok cI cZ cH a n) (fun _ => wC_at_15) (fun _ _ => wC_set_15) rfl (by decide) h) ml_X3_93 lk_J7_fill_53178 sy_J7_fill_53178 rfl rfl (Nat.le_of_ble_eq_true rfl) ⟨rfl, rfl, ⟨Nat.le_of_ble_eq_true rfl, Nat.le_of_ble_eq_true rfl⟩, Nat.le_of_ble_eq_true rfl, Nat.le_of_ble_eq_true rfl⟩ dX3_clear_13 rfl (fun σ2 h => ?_)
  refine r_aload_n X 0 17 dX3_clear_16 rfl rfl rfl ?_
  refine g_X3_48 X 20 dX3_clear_17 rfl ?_
  refine g_X3_99 X 23 dX3_clear_20 rfl ?_
  refine r_iconst (v := 0) X 24 dX3_clear_23 (by decide) rfl ?_
  refine r_aload_n X 0 25 dX3_clear_24 rfl rfl rfl ?_
  refine g_X3_18 X 28 dX3_clear_25 rfl ?_
  refine r_iconst (v := 0) X 29 dX3_clear_28 (by decide) rfl ?_
  refine r_bipush (v := 60) X 31 dX3_clear_29 (by decide) rfl ?_
  obtain ⟨⟨ha1, ha2, ha3, ha4, ha5⟩, h⟩ := h
  refine r_copyi (q0 := 6) (q1 := 16) (t0 := 0) X 34 wC_at_6 wC_at_16 rfl ha1 ha2 ha3 ha4 ha5 ml_X3_102 ac_nat ac_st ini_J10 (Nat.le_of_ble_eq_true rfl) (Nat.le_of_ble_eq_true rfl) wC_set_16 dX3_clear_31 rfl ?_
  refine r_nmS h (fun σ3 h => ?_)
  refine r_aload_n X 0 35 dX3_clear_34 rfl rfl rfl ?_
  refine g_X3_21 X 38 dX3_clear_35 rfl ?_
  refine r_iconst (v := (-1)) X 39 dX3_clear_38 (by decide) rfl ?_
  refine r_callSV (As := [.ref (a 17), .int (-1)]) (rest := []) X 42 (c_fill (q0 := 17) (k := 17) (N := 60) (t0 := 0) (wC_ok cI cZ cH a n) (fun _ => wC_at_17) (fun _ _ => wC_set_17) rfl (by decide) h) ml_X3_93 lk_J7_fill_53178 sy_J7_fill_53178 rfl rfl (Nat.le_of_ble_eq_true rfl) ⟨rfl, rfl, ⟨Nat.le_of_ble_eq_true rfl, Nat.le_of_ble_eq_true rfl⟩, Nat.le_of_ble_eq_true rfl, Nat.le_of_ble_eq_true rfl⟩ dX3_clear_39 rfl (fun σ4 h => ?_)
  refine r_aload_n X 0 43 dX3_clear_42 rfl rfl rfl ?_
  refine g_X3_24 X 46 dX3_clear_43 rfl ?_
  refine r_iconst (v := (-1)) X 47 dX3_clear_46 (by decide) rfl ?_
  refine r_callSV (As := [.ref (a 18), .int (-1)]) (rest := []) X 50 (c_fill (q0 := 18) (k := 18) (N := 60) (t0 := 0) (wC_ok cI cZ cH a n) (fun _ => wC_at_18) (fun _ _ => wC_set_18) rfl (by decide) h) ml_X3_93 lk_J7_fill_53178 sy_J7_fill_53178 rfl rfl (Nat.le_of_ble_eq_true rfl) ⟨rfl, rfl, ⟨Nat.le_of_ble_eq_true rfl, Nat.le_of_ble_eq_true rfl⟩, Nat.le_of_ble_eq_true rfl, Nat.le_of_ble_eq_true rfl⟩ dX3_clear_47 rfl (fun σ5 h => ?_)
  refine r_aload_n X 0 51 dX3_clear_50 rfl rfl rfl ?_
  refine g_X3_27 X 54 dX3_clear_51 rfl ?_
  refine r_iconst (v := (-1)) X 55 dX3_clear_54 (by decide) rfl ?_
  refine r_callSV (As := [.ref (a 19), .int (-1)]) (rest := []) X 58 (c_fill (q0 := 19) (k := 19) (N := 60) (t0 := 0) (wC_ok cI cZ cH a n) (fun _ => wC_at_19) (fun _ _ => wC_set_19) rfl (by decide) h) ml_X3_93 lk_J7_fill_53178 sy_J7_fill_53178 rfl rfl (Nat.le_of_ble_eq_true rfl) ⟨rfl, rfl, ⟨Nat.le_of_ble_eq_true rfl, Nat.le_of_ble_eq_true rfl⟩, Nat.le_of_ble_eq_true rfl, Nat.le_of_ble_eq_true rfl⟩ dX3_clear_55 rfl (fun σ6 h => ?_)
  refine r_aload_n X 0 59 dX3_clear_58 rfl rfl rfl ?_
  refine g_X3_30 X 62 dX3_clear_59 rfl ?_
  refine r_iconst (v := 0) X 63 dX3_clear_62 (by decide) rfl ?_
  refine r_callSV (As := [.ref (a 20), .int 0]) (rest := []) X 66 (c_fill (q0 := 20) (k := 20) (N := 60) (t0 := 0) (wC_ok cI cZ cH a n) (fun _ => wC_at_20) (fun _ _ => wC_set_20) rfl (by decide) h) ml_X3_93 lk_J7_fill_53178 sy_J7_fill_53178 rfl rfl (Nat.le_of_ble_eq_true rfl) ⟨rfl, rfl, ⟨Nat.le_of_ble_eq_true rfl, Nat.le_of_ble_eq_true rfl⟩, Nat.le_of_ble_eq_true rfl, Nat.le_of_ble_eq_true rfl⟩ dX3_clear_63 rfl (fun σ7 h => ?_)
  refine r_aload_n X 0 67 dX3_clear_66 rfl rfl rfl ?_
  refine g_X3_33 X 70 dX3_clear_67 rfl ?_
  refine r_iconst (v := 0) X 71 dX3_clear_70 (by decide) rfl ?_
  refine r_callSV (As := [.ref (a 21), .int 0]) (rest := []) X 74 (c_fill (q0 := 21) (k := 21) (N := 60) (t0 := 0) (wC_ok cI cZ cH a n) (fun _ => wC_at_21) (fun _ _ => wC_set_21) rfl (by decide) h) ml_X3_93 lk_J7_fill_53178 sy_J7_fill_53178 rfl rfl (Nat.le_of_ble_eq_true rfl) ⟨rfl, rfl, ⟨Nat.le_of_ble_eq_true rfl, Nat.le_of_ble_eq_true rfl⟩, Nat.le_of_ble_eq_true rfl, Nat.le_of_ble_eq_true rfl⟩ dX3_clear_71 rfl (fun σ8 h => ?_)
  refine r_aload_n X 0 75 dX3_clear_74 rfl rfl rfl ?_
  refine g_X3_36 X 78 dX3_clear_75 rfl ?_
  refine r_iconst (v := 0) X 79 dX3_clear_78 (by decide) rfl ?_
  refine r_callSV (As := [.ref (a 22), .int 0]) (rest := []) X 82 (c_fill (q0 := 22) (k := 22) (N := 60) (t0 := 0) (wC_ok cI cZ cH a n) (fun _ => wC_at_22) (fun _ _ => wC_set_22) rfl (by decide) h) ml_X3_93 lk_J7_fill_53178 sy_J7_fill_53178 rfl rfl (Nat.le_of_ble_eq_true rfl) ⟨rfl, rfl, ⟨Nat.le_of_ble_eq_true rfl, Nat.le_of_ble_eq_true rfl⟩, Nat.le_of_ble_eq_true rfl, Nat.le_of_ble_eq_true rfl⟩ dX3_clear_79 rfl (fun σ9 h => ?_)
  refine r_aload_n X 0 83 dX3_clear_82 rfl rfl rfl ?_
  refine g_X3_39 X 86 dX3_clear_83 rfl ?_
  refine r_iconst (v := (-1)) X 87 dX3_clear_86 (by decide) rfl ?_
  refine r_callSV (As := [.ref (a 23), .int (-1)]) (rest := []) X 90 (c_fill (q0 := 23) (k := 23) (N := 60) (t0 := 0) (wC_ok cI cZ cH a n) (fun _ => wC_at_23) (fun _ _ => wC_set_23) rfl (by decide) h) ml_X3_93 lk_J7_fill_53178 sy_J7_fill_53178 rfl rfl (Nat.le_of_ble_eq_true rfl) ⟨rfl, rfl, ⟨Nat.le_of_ble_eq_true rfl, Nat.le_of_ble_eq_true rfl⟩, Nat.le_of_ble_eq_true rfl, Nat.le_of_ble_eq_true rfl⟩ dX3_clear_87 rfl (fun σ10 h => ?_)
  refine r_aload_n X 0 91 dX3_clear_90 rfl rfl rfl ?_
  refine g_X3_42 X 94 dX3_clear_91 rfl ?_
  refine r_iconst (v := (-1)) X 95 dX3_clear_94 (by decide) rfl ?_
  refine r_callSV (As := [.ref (a 24), .int (-1)]) (rest := []) X 98 (c_fill (q0 := 24) (k := 24) (N := 96) (t0 := 0) (wC_ok cI cZ cH a n) (fun _ => wC_at_24) (fun _ _ => wC_set_24) rfl (by decide) h) ml_X3_93 lk_J7_fill_53178 sy_J7_fill_53178 rfl rfl (Nat.le_of_ble_eq_true rfl) ⟨rfl, rfl, ⟨Nat.le_of_ble_eq_true rfl, Nat.le_of_ble_eq_true rfl⟩, Nat.le_of_ble_eq_true rfl, Nat.le_of_ble_eq_true rfl⟩ dX3_clear_95 rfl (fun σ11 h => ?_)
  refine r_aload_n X 0 99 dX3_clear_98 rfl rfl rfl ?_
  refine g_X3_45 X 102 dX3_clear_99 rfl ?_
  refine r_iconst (v := 0) X 103 dX3_clear_102 (by decide) rfl ?_
  refine r_callSV (As := [.ref (a 25), .int 0]) (rest := []) X 106 (c_fill (q0 := 25) (k := 25) (N := 600) (t0 := 0) (wC_ok cI cZ cH a n) (fun _ => wC_at_25) (fun _ _ => wC_set_25) rfl (by decide) h) ml_X3_93 lk_J7_fill_53178 sy_J7_fill_53178 rfl rfl (Nat.le_of_ble_eq_true rfl) ⟨rfl, rfl, ⟨Nat.le_of_ble_eq_true rfl, Nat.le_of_ble_eq_true rfl⟩, Nat.le_of_ble_eq_true rfl, Nat.le_of_ble_eq_true rfl⟩ dX3_clear_103 rfl (fun σ12 h => ?_)
  exact r_vret X hr9 hlk9 h dX3_clear_106
def rm_X3_isKept : Room := { frames := 0, cells := 0, slots := 0, locals := 0 }
theorem dX3_isKept_0 : decode cX3_isKept 0 = .ok (.aload_n 0, 1) := by decide +kernel
theorem dX3_isKept_1 : decode cX3_isKept 1 = .ok (.getfield 9, 3) := by decide +kernel
theorem dX3_isKept_4 : decode cX3_isKept 4 = .ok (.iload_n 1, 1) := by decide +kernel
theorem dX3_isKept_5 : decode cX3_isKept 5 = .ok (.iaload, 1) := by decide +kernel
theorem dX3_isKept_6 : decode cX3_isKept 6 = .ok (.iconst 1, 1) := by decide +kernel
theorem dX3_isKept_7 : decode cX3_isKept 7 = .ok (.if_icmp .eq 23, 3) := by decide +kernel
theorem dX3_isKept_10 : decode cX3_isKept 10 = .ok (.aload_n 0, 1) := by decide +kernel
theorem dX3_isKept_11 : decode cX3_isKept 11 = .ok (.getfield 9, 3) := by decide +kernel
theorem dX3_isKept_14 : decode cX3_isKept 14 = .ok (.iload_n 1, 1) := by decide +kernel
theorem dX3_isKept_15 : decode cX3_isKept 15 = .ok (.iaload, 1) := by decide +kernel
theorem dX3_isKept_16 : decode cX3_isKept 16 = .ok (.iconst 2, 1) := by decide +kernel
theorem dX3_isKept_17 : decode cX3_isKept 17 = .ok (.if_icmp .eq 13, 3) := by decide +kernel
theorem dX3_isKept_20 : decode cX3_isKept 20 = .ok (.aload_n 0, 1) := by decide +kernel
theorem dX3_isKept_21 : decode cX3_isKept 21 = .ok (.getfield 9, 3) := by decide +kernel
theorem dX3_isKept_24 : decode cX3_isKept 24 = .ok (.iload_n 1, 1) := by decide +kernel
theorem dX3_isKept_25 : decode cX3_isKept 25 = .ok (.iaload, 1) := by decide +kernel
theorem dX3_isKept_26 : decode cX3_isKept 26 = .ok (.iconst 3, 1) := by decide +kernel
theorem dX3_isKept_27 : decode cX3_isKept 27 = .ok (.if_icmp .ne 7, 3) := by decide +kernel
theorem dX3_isKept_30 : decode cX3_isKept 30 = .ok (.iconst 1, 1) := by decide +kernel
theorem dX3_isKept_31 : decode cX3_isKept 31 = .ok (.goto 4, 3) := by decide +kernel
theorem dX3_isKept_34 : decode cX3_isKept 34 = .ok (.iconst 0, 1) := by decide +kernel
theorem dX3_isKept_35 : decode cX3_isKept 35 = .ok (.ireturn, 1) := by decide +kernel
def wp_X3_isKept  (σ : St) (x1 : Int32) (Q : Int32 → St → Prop) : Prop :=
  vp_in x1 60 ∧
  (if (σ 14 (ix x1)) = 1 then
  (Q 1 σ)
  else (vp_in x1 60 ∧
  (if (σ 14 (ix x1)) = 2 then
  (Q 1 σ)
  else (vp_in x1 60 ∧
  (if (σ 14 (ix x1)) = 3 then
  (Q 1 σ)
  else (Q 0 σ))))))
theorem c_X3_isKept  {σ : St} {x1 : Int32} {Q : Int32 → St → Prop} (h : wp_X3_isKept σ x1 Q) : ctI l yX3_isKept cX3_isKept 2 (some .boolean) rm_X3_isKept D (wC cI cZ cH a n) (tyW cI cZ cH) [.ref (a 13), .int x1] σ (fun r9 u9 => isB r9 ∧ Q r9 u9) := by
  refine mk_I (wC_ok cI cZ cH a n) (by decide +kernel) (Nat.le_of_ble_eq_true rfl) (fun p e s m args below meth c A X hr9 hlk9 => ?_)
  refine r_pick (lv' := [(0, .ref (a 13)), (1, .int x1)]) [0, 1] rfl ?_
  delta wp_X3_isKept at h
  refine r_aload_n X 0 1 dX3_isKept_0 rfl rfl rfl ?_
  refine g_X3_9 X 4 dX3_isKept_1 rfl ?_
  refine r_iload_n X 1 5 dX3_isKept_4 rfl rfl rfl ?_
  obtain ⟨hin, h⟩ := h
  refine l_C14 X 6 hin dX3_isKept_5 rfl ?_
  refine r_iconst (v := 1) X 7 dX3_isKept_6 (by decide) rfl ?_
  refine r_icmp_eq X 30 10 h dX3_isKept_7 rfl rfl (fun h => ?_) (fun h => ?_)
  · refine r_iconst (v := 1) X 31 dX3_isKept_30 (by decide) rfl ?_
    refine r_goto X 35 dX3_isKept_31 rfl ?_
    exact r_zret X hr9 hlk9 isB_1 h dX3_isKept_35
  · refine r_aload_n X 0 11 dX3_isKept_10 rfl rfl rfl ?_
    refine g_X3_9 X 14 dX3_isKept_11 rfl ?_
    refine r_iload_n X 1 15 dX3_isKept_14 rfl rfl rfl ?_
    obtain ⟨hin, h⟩ := h
    refine l_C14 X 16 hin dX3_isKept_15 rfl ?_
    refine r_iconst (v := 2) X 17 dX3_isKept_16 (by decide) rfl ?_
    refine r_icmp_eq X 30 20 h dX3_isKept_17 rfl rfl (fun h => ?_) (fun h => ?_)
    · refine r_iconst (v := 1) X 31 dX3_isKept_30 (by decide) rfl ?_
      refine r_goto X 35 dX3_isKept_31 rfl ?_
      exact r_zret X hr9 hlk9 isB_1 h dX3_isKept_35
    · refine r_aload_n X 0 21 dX3_isKept_20 rfl rfl rfl ?_
      refine g_X3_9 X 24 dX3_isKept_21 rfl ?_
      refine r_iload_n X 1 25 dX3_isKept_24 rfl rfl rfl ?_
      obtain ⟨hin, h⟩ := h
      refine l_C14 X 26 hin dX3_isKept_25 rfl ?_
      refine r_iconst (v := 3) X 27 dX3_isKept_26 (by decide) rfl ?_
      refine r_icmp_ne X 34 30 h dX3_isKept_27 rfl rfl (fun h => ?_) (fun h => ?_)
      · refine r_iconst (v := 0) X 35 dX3_isKept_34 (by decide) rfl ?_
        exact r_zret X hr9 hlk9 isB_0 h dX3_isKept_35
      · refine r_iconst (v := 1) X 31 dX3_isKept_30 (by decide) rfl ?_
        refine r_goto X 35 dX3_isKept_31 rfl ?_
        exact r_zret X hr9 hlk9 isB_1 h dX3_isKept_35
def rm_X3_isMoneyBag : Room := { frames := 1, cells := 0, slots := 0, locals := 22 }
theorem dX3_isMoneyBag_0 : decode cX3_isMoneyBag 0 = .ok (.aload_n 0, 1) := by decide +kernel
theorem dX3_isMoneyBag_1 : decode cX3_isMoneyBag 1 = .ok (.getfield 48, 3) := by decide +kernel
theorem dX3_isMoneyBag_4 : decode cX3_isMoneyBag 4 = .ok (.iload_n 1, 1) := by decide +kernel
theorem dX3_isMoneyBag_5 : decode cX3_isMoneyBag 5 = .ok (.iconst 5, 1) := by decide +kernel
theorem dX3_isMoneyBag_6 : decode cX3_isMoneyBag 6 = .ok (.invokevirtual 184, 3) := by decide +kernel
theorem dX3_isMoneyBag_9 : decode cX3_isMoneyBag 9 = .ok (.ireturn, 1) := by decide +kernel
def wp_X3_isMoneyBag  (σ : St) (x1 : Int32) (Q : Int32 → St → Prop) : Prop :=
  wp_X4_isOfKind σ x1 5 (fun y2 σ1 =>
  Q y2 σ1)
theorem c_X3_isMoneyBag  {σ : St} {x1 : Int32} {Q : Int32 → St → Prop} (h : wp_X3_isMoneyBag σ x1 Q) : ctI l yX3_isMoneyBag cX3_isMoneyBag 2 (some .boolean) rm_X3_isMoneyBag D (wC cI cZ cH a n) (tyW cI cZ cH) [.ref (a 13), .int x1] σ (fun r9 u9 => isB r9 ∧ Q r9 u9) := by
  refine mk_I (wC_ok cI cZ cH a n) (by decide +kernel) (Nat.le_of_ble_eq_true rfl) (fun p e s m args below meth c A X hr9 hlk9 => ?_)
  refine r_pick (lv' := [(0, .ref (a 13)), (1, .int x1)]) [0, 1] rfl ?_
  delta wp_X3_isMoneyBag at h
  refine r_aload_n X 0 1 dX3_isMoneyBag_0 rfl rfl rfl ?_
  refine g_X3_48 X 4 dX3_isMoneyBag_1 rfl ?_
  refine r_iload_n X 1 5 dX3_isMoneyBag_4 rfl rfl rfl ?_
  refine r_iconst (v := 5) X 6 dX3_isMoneyBag_5 (by decide) rfl ?_
  refine r_callNI (As := [.int x1, .int 5]) (rest := []) X 9 (c_X4_isOfKind h) ml_X3_184 lk_X4_isOfKind wC_at_1 rfl rfl rfl (Nat.le_of_ble_eq_true rfl) ⟨rfl, rfl, ⟨Nat.le_of_ble_eq_true rfl, Nat.le_of_ble_eq_true rfl⟩, Nat.le_of_ble_eq_true rfl, Nat.le_of_ble_eq_true rfl⟩ dX3_isMoneyBag_6 rfl (fun y2 σ1 h => ?_)
  obtain ⟨hb_y2, h⟩ := h
  exact r_zret X hr9 hlk9 hb_y2 h dX3_isMoneyBag_9
def rm_X3_keepersServe : Room := { frames := 1, cells := 0, slots := 0, locals := 21 }
theorem dX3_keepersServe_0 : decode cX3_keepersServe 0 = .ok (.aload_n 0, 1) := by decide +kernel
theorem dX3_keepersServe_1 : decode cX3_keepersServe 1 = .ok (.getfield 48, 3) := by decide +kernel
theorem dX3_keepersServe_4 : decode cX3_keepersServe 4 = .ok (.aload_n 0, 1) := by decide +kernel
theorem dX3_keepersServe_5 : decode cX3_keepersServe 5 = .ok (.getfield 111, 3) := by decide +kernel
theorem dX3_keepersServe_8 : decode cX3_keepersServe 8 = .ok (.invokevirtual 239, 3) := by decide +kernel
theorem dX3_keepersServe_11 : decode cX3_keepersServe 11 = .ok (.ifCond .eq 36, 3) := by decide +kernel
theorem dX3_keepersServe_14 : decode cX3_keepersServe 14 = .ok (.iload_n 1, 1) := by decide +kernel
theorem dX3_keepersServe_15 : decode cX3_keepersServe 15 = .ok (.ifCond .eq 28, 3) := by decide +kernel
theorem dX3_keepersServe_18 : decode cX3_keepersServe 18 = .ok (.aload_n 0, 1) := by decide +kernel
theorem dX3_keepersServe_19 : decode cX3_keepersServe 19 = .ok (.getfield 114, 3) := by decide +kernel
theorem dX3_keepersServe_22 : decode cX3_keepersServe 22 = .ok (.aload_n 0, 1) := by decide +kernel
theorem dX3_keepersServe_23 : decode cX3_keepersServe 23 = .ok (.getfield 111, 3) := by decide +kernel
theorem dX3_keepersServe_26 : decode cX3_keepersServe 26 = .ok (.if_icmp .eq 21, 3) := by decide +kernel
theorem dX3_keepersServe_29 : decode cX3_keepersServe 29 = .ok (.aload_n 0, 1) := by decide +kernel
theorem dX3_keepersServe_30 : decode cX3_keepersServe 30 = .ok (.getfield 48, 3) := by decide +kernel
theorem dX3_keepersServe_33 : decode cX3_keepersServe 33 = .ok (.aload_n 0, 1) := by decide +kernel
theorem dX3_keepersServe_34 : decode cX3_keepersServe 34 = .ok (.getfield 114, 3) := by decide +kernel
theorem dX3_keepersServe_37 : decode cX3_keepersServe 37 = .ok (.invokevirtual 239, 3) := by decide +kernel
theorem dX3_keepersServe_40 : decode cX3_keepersServe 40 = .ok (.ifCond .eq 7, 3) := by decide +kernel
theorem dX3_keepersServe_43 : decode cX3_keepersServe 43 = .ok (.iconst 1, 1) := by decide +kernel
theorem dX3_keepersServe_44 : decode cX3_keepersServe 44 = .ok (.goto 4, 3) := by decide +kernel
theorem dX3_keepersServe_47 : decode cX3_keepersServe 47 = .ok (.iconst 0, 1) := by decide +kernel
theorem dX3_keepersServe_48 : decode cX3_keepersServe 48 = .ok (.ireturn, 1) := by decide +kernel
def wp_X3_keepersServe  (σ : St) (x1 : Int32) (Q : Int32 → St → Prop) : Prop :=
  wp_X4_isKeeper σ (σ 13 14) (fun y2 σ1 =>
  if y2 = 0 then
  (Q 0 σ1)
  else (if x1 = 0 then
  (Q 1 σ1)
  else (if (σ1 13 15) = (σ1 13 14) then
  (Q 0 σ1)
  else (wp_X4_isKeeper σ1 (σ1 13 15) (fun y4 σ3 =>
  if y4 = 0 then
  (Q 0 σ3)
  else (Q 1 σ3))))))
theorem c_X3_keepersServe  {σ : St} {x1 : Int32} {Q : Int32 → St → Prop} (h : wp_X3_keepersServe σ x1 Q) : ctI l yX3_keepersServe cX3_keepersServe 2 (some .boolean) rm_X3_keepersServe D (wC cI cZ cH a n) (tyW cI cZ cH) [.ref (a 13), .int x1] σ (fun r9 u9 => isB r9 ∧ Q r9 u9) := by
  refine mk_I (wC_ok cI cZ cH a n) (by decide +kernel) (Nat.le_of_ble_eq_true rfl) (fun p e s m args below meth c A X hr9 hlk9 => ?_)
  refine r_pick (lv' := [(0, .ref (a 13)), (1, .int x1)]) [0, 1] rfl ?_
  delta wp_X3_keepersServe at h
  refine r_aload_n X 0 1 dX3_keepersServe_0 rfl rfl rfl ?_
  refine g_X3_48 X 4 dX3_keepersServe_1 rfl ?_
  refine r_aload_n X 0 5 dX3_keepersServe_4 rfl rfl rfl ?_
  refine g_X3_111 X 8 dX3_keepersServe_5 rfl ?_
  refine r_callNI (As := [.int (σ 13 14)]) (rest := []) X 11 (c_X4_isKeeper h) ml_X3_239 lk_X4_isKeeper wC_at_1 rfl rfl rfl (Nat.le_of_ble_eq_true rfl) ⟨rfl, rfl, ⟨Nat.le_of_ble_eq_true rfl, Nat.le_of_ble_eq_true rfl⟩, Nat.le_of_ble_eq_true rfl, Nat.le_of_ble_eq_true rfl⟩ dX3_keepersServe_8 rfl (fun y2 σ1 h => ?_)
  obtain ⟨hb_y2, h⟩ := h
  refine r_if_eq X 47 14 h dX3_keepersServe_11 rfl rfl (fun h => ?_) (fun h => ?_)
  · refine r_iconst (v := 0) X 48 dX3_keepersServe_47 (by decide) rfl ?_
    exact r_zret X hr9 hlk9 isB_0 h dX3_keepersServe_48
  · refine r_iload_n X 1 15 dX3_keepersServe_14 rfl rfl rfl ?_
    refine r_if_eq X 43 18 h dX3_keepersServe_15 rfl rfl (fun h => ?_) (fun h => ?_)
    · refine r_iconst (v := 1) X 44 dX3_keepersServe_43 (by decide) rfl ?_
      refine r_goto X 48 dX3_keepersServe_44 rfl ?_
      exact r_zret X hr9 hlk9 isB_1 h dX3_keepersServe_48
    · refine r_aload_n X 0 19 dX3_keepersServe_18 rfl rfl rfl ?_
      refine g_X3_114 X 22 dX3_keepersServe_19 rfl ?_
      refine r_aload_n X 0 23 dX3_keepersServe_22 rfl rfl rfl ?_
      refine g_X3_111 X 26 dX3_keepersServe_23 rfl ?_
      refine r_icmp_eq X 47 29 h dX3_keepersServe_26 rfl rfl (fun h => ?_) (fun h => ?_)
      · refine r_iconst (v := 0) X 48 dX3_keepersServe_47 (by decide) rfl ?_
        exact r_zret X hr9 hlk9 isB_0 h dX3_keepersServe_48
      · refine r_aload_n X 0 30 dX3_keepersServe_29 rfl rfl rfl ?_
        refine g_X3_48 X 33 dX3_keepersServe_30 rfl ?_
        refine r_aload_n X 0 34 dX3_keepersServe_33 rfl rfl rfl ?_
        refine g_X3_114 X 37 dX3_keepersServe_34 rfl ?_
        refine r_callNI (As := [.int (σ1 13 15)]) (rest := []) X 40 (c_X4_isKeeper h) ml_X3_239 lk_X4_isKeeper wC_at_1 rfl rfl rfl (Nat.le_of_ble_eq_true rfl) ⟨rfl, rfl, ⟨Nat.le_of_ble_eq_true rfl, Nat.le_of_ble_eq_true rfl⟩, Nat.le_of_ble_eq_true rfl, Nat.le_of_ble_eq_true rfl⟩ dX3_keepersServe_37 rfl (fun y4 σ3 h => ?_)
        obtain ⟨hb_y4, h⟩ := h
        refine r_if_eq X 47 43 h dX3_keepersServe_40 rfl rfl (fun h => ?_) (fun h => ?_)
        · refine r_iconst (v := 0) X 48 dX3_keepersServe_47 (by decide) rfl ?_
          exact r_zret X hr9 hlk9 isB_0 h dX3_keepersServe_48
        · refine r_iconst (v := 1) X 44 dX3_keepersServe_43 (by decide) rfl ?_
          refine r_goto X 48 dX3_keepersServe_44 rfl ?_
          exact r_zret X hr9 hlk9 isB_1 h dX3_keepersServe_48
def rm_X3_mayLieAt : Room := { frames := 1, cells := 0, slots := 0, locals := 22 }
theorem dX3_mayLieAt_0 : decode cX3_mayLieAt 0 = .ok (.aload_n 0, 1) := by decide +kernel
theorem dX3_mayLieAt_1 : decode cX3_mayLieAt 1 = .ok (.getfield 48, 3) := by decide +kernel
theorem dX3_mayLieAt_4 : decode cX3_mayLieAt 4 = .ok (.iload_n 1, 1) := by decide +kernel
theorem dX3_mayLieAt_5 : decode cX3_mayLieAt 5 = .ok (.invokevirtual 243, 3) := by decide +kernel
theorem dX3_mayLieAt_8 : decode cX3_mayLieAt 8 = .ok (.ifCond .eq 43, 3) := by decide +kernel
theorem dX3_mayLieAt_11 : decode cX3_mayLieAt 11 = .ok (.aload_n 0, 1) := by decide +kernel
theorem dX3_mayLieAt_12 : decode cX3_mayLieAt 12 = .ok (.getfield 42, 3) := by decide +kernel
theorem dX3_mayLieAt_15 : decode cX3_mayLieAt 15 = .ok (.iload_n 1, 1) := by decide +kernel
theorem dX3_mayLieAt_16 : decode cX3_mayLieAt 16 = .ok (.iaload, 1) := by decide +kernel
theorem dX3_mayLieAt_17 : decode cX3_mayLieAt 17 = .ok (.iconst (-1), 1) := by decide +kernel
theorem dX3_mayLieAt_18 : decode cX3_mayLieAt 18 = .ok (.if_icmp .ne 33, 3) := by decide +kernel
theorem dX3_mayLieAt_21 : decode cX3_mayLieAt 21 = .ok (.aload_n 0, 1) := by decide +kernel
theorem dX3_mayLieAt_22 : decode cX3_mayLieAt 22 = .ok (.getfield 48, 3) := by decide +kernel
theorem dX3_mayLieAt_25 : decode cX3_mayLieAt 25 = .ok (.aload_n 0, 1) := by decide +kernel
theorem dX3_mayLieAt_26 : decode cX3_mayLieAt 26 = .ok (.getfield 108, 3) := by decide +kernel
theorem dX3_mayLieAt_29 : decode cX3_mayLieAt 29 = .ok (.iconst 4, 1) := by decide +kernel
theorem dX3_mayLieAt_30 : decode cX3_mayLieAt 30 = .ok (.invokevirtual 184, 3) := by decide +kernel
theorem dX3_mayLieAt_33 : decode cX3_mayLieAt 33 = .ok (.ifCond .eq 14, 3) := by decide +kernel
theorem dX3_mayLieAt_36 : decode cX3_mayLieAt 36 = .ok (.aload_n 0, 1) := by decide +kernel
theorem dX3_mayLieAt_37 : decode cX3_mayLieAt 37 = .ok (.getfield 48, 3) := by decide +kernel
theorem dX3_mayLieAt_40 : decode cX3_mayLieAt 40 = .ok (.iload_n 1, 1) := by decide +kernel
theorem dX3_mayLieAt_41 : decode cX3_mayLieAt 41 = .ok (.invokevirtual 246, 3) := by decide +kernel
theorem dX3_mayLieAt_44 : decode cX3_mayLieAt 44 = .ok (.ifCond .eq 7, 3) := by decide +kernel
theorem dX3_mayLieAt_47 : decode cX3_mayLieAt 47 = .ok (.iconst 1, 1) := by decide +kernel
theorem dX3_mayLieAt_48 : decode cX3_mayLieAt 48 = .ok (.goto 4, 3) := by decide +kernel
theorem dX3_mayLieAt_51 : decode cX3_mayLieAt 51 = .ok (.iconst 0, 1) := by decide +kernel
theorem dX3_mayLieAt_52 : decode cX3_mayLieAt 52 = .ok (.ireturn, 1) := by decide +kernel
def wp_X3_mayLieAt  (σ : St) (x1 : Int32) (Q : Int32 → St → Prop) : Prop :=
  wp_X4_isPlace σ x1 (fun y2 σ1 =>
  if y2 = 0 then
  (Q 0 σ1)
  else (vp_in x1 96 ∧
  (if (σ1 24 (ix x1)) = (-1) then
  (wp_X4_isOfKind σ1 (σ1 13 13) 4 (fun y4 σ3 =>
  if y4 = 0 then
  (Q 1 σ3)
  else (wp_X4_isColdPlace σ3 x1 (fun y6 σ5 =>
  if y6 = 0 then
  (Q 0 σ5)
  else (Q 1 σ5)))))
  else (Q 0 σ1))))
theorem c_X3_mayLieAt  {σ : St} {x1 : Int32} {Q : Int32 → St → Prop} (h : wp_X3_mayLieAt σ x1 Q) : ctI l yX3_mayLieAt cX3_mayLieAt 2 (some .boolean) rm_X3_mayLieAt D (wC cI cZ cH a n) (tyW cI cZ cH) [.ref (a 13), .int x1] σ (fun r9 u9 => isB r9 ∧ Q r9 u9) := by
  refine mk_I (wC_ok cI cZ cH a n) (by decide +kernel) (Nat.le_of_ble_eq_true rfl) (fun p e s m args below meth c A X hr9 hlk9 => ?_)
  refine r_pick (lv' := [(0, .ref (a 13)), (1, .int x1)]) [0, 1] rfl ?_
  delta wp_X3_mayLieAt at h
  refine r_aload_n X 0 1 dX3_mayLieAt_0 rfl rfl rfl ?_
  refine g_X3_48 X 4 dX3_mayLieAt_1 rfl ?_
  refine r_iload_n X 1 5 dX3_mayLieAt_4 rfl rfl rfl ?_
  refine r_callNI (As := [.int x1]) (rest := []) X 8 (c_X4_isPlace h) ml_X3_243 lk_X4_isPlace wC_at_1 rfl rfl rfl (Nat.le_of_ble_eq_true rfl) ⟨rfl, rfl, ⟨Nat.le_of_ble_eq_true rfl, Nat.le_of_ble_eq_true rfl⟩, Nat.le_of_ble_eq_true rfl, Nat.le_of_ble_eq_true rfl⟩ dX3_mayLieAt_5 rfl (fun y2 σ1 h => ?_)
  obtain ⟨hb_y2, h⟩ := h
  refine r_if_eq X 51 11 h dX3_mayLieAt_8 rfl rfl (fun h => ?_) (fun h => ?_)
  · refine r_iconst (v := 0) X 52 dX3_mayLieAt_51 (by decide) rfl ?_
    exact r_zret X hr9 hlk9 isB_0 h dX3_mayLieAt_52
  · refine r_aload_n X 0 12 dX3_mayLieAt_11 rfl rfl rfl ?_
    refine g_X3_42 X 15 dX3_mayLieAt_12 rfl ?_
    refine r_iload_n X 1 16 dX3_mayLieAt_15 rfl rfl rfl ?_
    obtain ⟨hin, h⟩ := h
    refine l_C24 X 17 hin dX3_mayLieAt_16 rfl ?_
    refine r_iconst (v := (-1)) X 18 dX3_mayLieAt_17 (by decide) rfl ?_
    refine r_icmp_ne X 51 21 h dX3_mayLieAt_18 rfl rfl (fun h => ?_) (fun h => ?_)
    · refine r_iconst (v := 0) X 52 dX3_mayLieAt_51 (by decide) rfl ?_
      exact r_zret X hr9 hlk9 isB_0 h dX3_mayLieAt_52
    · refine r_aload_n X 0 22 dX3_mayLieAt_21 rfl rfl rfl ?_
      refine g_X3_48 X 25 dX3_mayLieAt_22 rfl ?_
      refine r_aload_n X 0 26 dX3_mayLieAt_25 rfl rfl rfl ?_
      refine g_X3_108 X 29 dX3_mayLieAt_26 rfl ?_
      refine r_iconst (v := 4) X 30 dX3_mayLieAt_29 (by decide) rfl ?_
      refine r_callNI (As := [.int (σ1 13 13), .int 4]) (rest := []) X 33 (c_X4_isOfKind h) ml_X3_184 lk_X4_isOfKind wC_at_1 rfl rfl rfl (Nat.le_of_ble_eq_true rfl) ⟨rfl, rfl, ⟨Nat.le_of_ble_eq_true rfl, Nat.le_of_ble_eq_true rfl⟩, Nat.le_of_ble_eq_true rfl, Nat.le_of_ble_eq_true rfl⟩ dX3_mayLieAt_30 rfl (fun y4 σ3 h => ?_)
      obtain ⟨hb_y4, h⟩ := h
      refine r_if_eq X 47 36 h dX3_mayLieAt_33 rfl rfl (fun h => ?_) (fun h => ?_)
      · refine r_iconst (v := 1) X 48 dX3_mayLieAt_47 (by decide) rfl ?_
        refine r_goto X 52 dX3_mayLieAt_48 rfl ?_
        exact r_zret X hr9 hlk9 isB_1 h dX3_mayLieAt_52
      · refine r_aload_n X 0 37 dX3_mayLieAt_36 rfl rfl rfl ?_
        refine g_X3_48 X 40 dX3_mayLieAt_37 rfl ?_
        refine r_iload_n X 1 41 dX3_mayLieAt_40 rfl rfl rfl ?_
        refine r_callNI (As := [.int x1]) (rest := []) X 44 (c_X4_isColdPlace h) ml_X3_246 lk_X4_isColdPlace wC_at_1 rfl rfl rfl (Nat.le_of_ble_eq_true rfl) ⟨rfl, rfl, ⟨Nat.le_of_ble_eq_true rfl, Nat.le_of_ble_eq_true rfl⟩, Nat.le_of_ble_eq_true rfl, Nat.le_of_ble_eq_true rfl⟩ dX3_mayLieAt_41 rfl (fun y6 σ5 h => ?_)
        obtain ⟨hb_y6, h⟩ := h
        refine r_if_eq X 51 47 h dX3_mayLieAt_44 rfl rfl (fun h => ?_) (fun h => ?_)
        · refine r_iconst (v := 0) X 52 dX3_mayLieAt_51 (by decide) rfl ?_
          exact r_zret X hr9 hlk9 isB_0 h dX3_mayLieAt_52
        · refine r_iconst (v := 1) X 48 dX3_mayLieAt_47 (by decide) rfl ?_
          refine r_goto X 52 dX3_mayLieAt_48 rfl ?_
          exact r_zret X hr9 hlk9 isB_1 h dX3_mayLieAt_52
def rm_X3_register : Room := { frames := 0, cells := 0, slots := 0, locals := 0 }
theorem dX3_register_0 : decode cX3_register 0 = .ok (.iload_n 1, 1) := by decide +kernel
theorem dX3_register_1 : decode cX3_register 1 = .ok (.iconst 1, 1) := by decide +kernel
theorem dX3_register_2 : decode cX3_register 2 = .ok (.if_icmp .ne 26, 3) := by decide +kernel
theorem dX3_register_5 : decode cX3_register 5 = .ok (.iload_n 2, 1) := by decide +kernel
theorem dX3_register_6 : decode cX3_register 6 = .ok (.ifCond .lt 22, 3) := by decide +kernel
theorem dX3_register_9 : decode cX3_register 9 = .ok (.iload_n 2, 1) := by decide +kernel
theorem dX3_register_10 : decode cX3_register 10 = .ok (.aload_n 0, 1) := by decide +kernel
theorem dX3_register_11 : decode cX3_register 11 = .ok (.getfield 42, 3) := by decide +kernel
theorem dX3_register_14 : decode cX3_register 14 = .ok (.arraylength, 1) := by decide +kernel
theorem dX3_register_15 : decode cX3_register 15 = .ok (.if_icmp .ge 13, 3) := by decide +kernel
theorem dX3_register_18 : decode cX3_register 18 = .ok (.aload_n 0, 1) := by decide +kernel
theorem dX3_register_19 : decode cX3_register 19 = .ok (.getfield 42, 3) := by decide +kernel
theorem dX3_register_22 : decode cX3_register 22 = .ok (.iload_n 2, 1) := by decide +kernel
theorem dX3_register_23 : decode cX3_register 23 = .ok (.iload_n 3, 1) := by decide +kernel
theorem dX3_register_24 : decode cX3_register 24 = .ok (.iastore, 1) := by decide +kernel
theorem dX3_register_25 : decode cX3_register 25 = .ok (.goto 40, 3) := by decide +kernel
theorem dX3_register_28 : decode cX3_register 28 = .ok (.iload_n 1, 1) := by decide +kernel
theorem dX3_register_29 : decode cX3_register 29 = .ok (.iconst 3, 1) := by decide +kernel
theorem dX3_register_30 : decode cX3_register 30 = .ok (.if_icmp .ne 35, 3) := by decide +kernel
theorem dX3_register_33 : decode cX3_register 33 = .ok (.iload_n 2, 1) := by decide +kernel
theorem dX3_register_34 : decode cX3_register 34 = .ok (.ifCond .lt 31, 3) := by decide +kernel
theorem dX3_register_37 : decode cX3_register 37 = .ok (.iload_n 2, 1) := by decide +kernel
theorem dX3_register_38 : decode cX3_register 38 = .ok (.aload_n 0, 1) := by decide +kernel
theorem dX3_register_39 : decode cX3_register 39 = .ok (.getfield 36, 3) := by decide +kernel
theorem dX3_register_42 : decode cX3_register 42 = .ok (.arraylength, 1) := by decide +kernel
theorem dX3_register_43 : decode cX3_register 43 = .ok (.if_icmp .ge 22, 3) := by decide +kernel
theorem dX3_register_46 : decode cX3_register 46 = .ok (.aload_n 0, 1) := by decide +kernel
theorem dX3_register_47 : decode cX3_register 47 = .ok (.getfield 36, 3) := by decide +kernel
theorem dX3_register_50 : decode cX3_register 50 = .ok (.iload_n 2, 1) := by decide +kernel
theorem dX3_register_51 : decode cX3_register 51 = .ok (.dup2, 1) := by decide +kernel
theorem dX3_register_52 : decode cX3_register 52 = .ok (.iaload, 1) := by decide +kernel
theorem dX3_register_53 : decode cX3_register 53 = .ok (.iload_n 3, 1) := by decide +kernel
theorem dX3_register_54 : decode cX3_register 54 = .ok (.iconst (-1), 1) := by decide +kernel
theorem dX3_register_55 : decode cX3_register 55 = .ok (.if_icmp .ne 7, 3) := by decide +kernel
theorem dX3_register_58 : decode cX3_register 58 = .ok (.iconst (-1), 1) := by decide +kernel
theorem dX3_register_59 : decode cX3_register 59 = .ok (.goto 4, 3) := by decide +kernel
theorem dX3_register_62 : decode cX3_register 62 = .ok (.iconst 1, 1) := by decide +kernel
theorem dX3_register_63 : decode cX3_register 63 = .ok (.iadd, 1) := by decide +kernel
theorem dX3_register_64 : decode cX3_register 64 = .ok (.iastore, 1) := by decide +kernel
theorem dX3_register_65 : decode cX3_register 65 = .ok (.return_, 1) := by decide +kernel
def j_X3_register_63  (Q : St → Prop) (s0 : Int32) (s1 : Int32) (s2 : Int32) (σ : St) : Prop :=
  vp_in s2 60 ∧
  nmS (up2 σ 22 (ix s2) (s1 + s0)) (fun σ1 =>
  Q σ1)
theorem wk_X3_register_63 (X : cx p s m args c cX3_register 4 RX3 D (wC cI cZ cH a n) A (tyW cI cZ cH)) (hr9 : meth.sig.returnType = none) (hlk9 : meth.locks = false)  {Q : St → Prop} {s0 : Int32} {s1 : Int32} {s2 : Int32} {σ : St} (h : j_X3_register_63 Q s0 s1 s2 σ) : go p l e rm_X3_register s m args below meth c D (wC cI cZ cH a n) A 0 0 (MQ below (va_Qv Q (atw D (wC cI cZ cH a n) (tyW cI cZ cH) A) A) args s 0 0 A) 4 63 [] [.int s0, .int s1, .int s2, .ref (a 22)] σ := by
  delta j_X3_register_63 at h
  refine r_iadd X 64 dX3_register_63 rfl ?_
  obtain ⟨hin, h⟩ := h
  refine s_C22 X 65 hin dX3_register_64 rfl ?_
  refine r_nmS h (fun σ1 h => ?_)
  exact r_vret X hr9 hlk9 h dX3_register_65
def j_X3_register_28  (Q : St → Prop) (v1 : Int32) (v2 : Int32) (v3 : Int32) (σ : St) : Prop :=
  if v1 = 3 then
  (if v2 < 0 then
  (Q σ)
  else (if v2 < 60 then
  (vp_in v2 60 ∧
  (if v3 = (-1) then
  (j_X3_register_63 Q (-1) (σ 22 (ix v2)) v2 σ)
  else (j_X3_register_63 Q 1 (σ 22 (ix v2)) v2 σ)))
  else (Q σ)))
  else (Q σ)
theorem wk_X3_register_28 (X : cx p s m args c cX3_register 4 RX3 D (wC cI cZ cH a n) A (tyW cI cZ cH)) (hr9 : meth.sig.returnType = none) (hlk9 : meth.locks = false)  {Q : St → Prop} {v1 : Int32} {v2 : Int32} {v3 : Int32} {σ : St} (h : j_X3_register_28 Q v1 v2 v3 σ) : go p l e rm_X3_register s m args below meth c D (wC cI cZ cH a n) A 0 0 (MQ below (va_Qv Q (atw D (wC cI cZ cH a n) (tyW cI cZ cH) A) A) args s 0 0 A) 4 28 [(0, .ref (a 13)), (1, .int v1), (2, .int v2), (3, .int v3)] [] σ := by
  delta j_X3_register_28 at h
  refine r_iload_n X 1 29 dX3_register_28 rfl rfl rfl ?_
  refine r_iconst (v := 3) X 30 dX3_register_29 (by decide) rfl ?_
  refine r_icmp_ne X 65 33 h dX3_register_30 rfl rfl (fun h => ?_) (fun h => ?_)
  · exact r_vret X hr9 hlk9 h dX3_register_65
  · refine r_iload_n X 2 34 dX3_register_33 rfl rfl rfl ?_
    refine r_if_lt X 65 37 h dX3_register_34 rfl rfl (fun h => ?_) (fun h => ?_)
    · exact r_vret X hr9 hlk9 h dX3_register_65
    · refine r_iload_n X 2 38 dX3_register_37 rfl rfl rfl ?_
      refine r_aload_n X 0 39 dX3_register_38 rfl rfl rfl ?_
      refine g_X3_36 X 42 dX3_register_39 rfl ?_
      refine n_C22 X 43 dX3_register_42 rfl ?_
      refine r_icmp_ge X 65 46 h dX3_register_43 rfl rfl (fun h => ?_) (fun h => ?_)
      · exact r_vret X hr9 hlk9 h dX3_register_65
      · refine r_aload_n X 0 47 dX3_register_46 rfl rfl rfl ?_
        refine g_X3_36 X 50 dX3_register_47 rfl ?_
        refine r_iload_n X 2 51 dX3_register_50 rfl rfl rfl ?_
        refine r_dup2 X 52 dX3_register_51 rfl rfl rfl ?_
        obtain ⟨hin, h⟩ := h
        refine l_C22 X 53 hin dX3_register_52 rfl ?_
        refine r_iload_n X 3 54 dX3_register_53 rfl rfl rfl ?_
        refine r_iconst (v := (-1)) X 55 dX3_register_54 (by decide) rfl ?_
        refine r_icmp_ne X 62 58 h dX3_register_55 rfl rfl (fun h => ?_) (fun h => ?_)
        · refine r_iconst (v := 1) X 63 dX3_register_62 (by decide) rfl ?_
          refine r_pick (lv' := []) [] rfl ?_
          exact wk_X3_register_63 X hr9 hlk9 h
        · refine r_iconst (v := (-1)) X 59 dX3_register_58 (by decide) rfl ?_
          refine r_goto X 63 dX3_register_59 rfl ?_
          refine r_pick (lv' := []) [] rfl ?_
          exact wk_X3_register_63 X hr9 hlk9 h
def wp_X3_register  (σ : St) (x1 : Int32) (x2 : Int32) (x3 : Int32) (Q : St → Prop) : Prop :=
  if x1 = 1 then
  (if x2 < 0 then
  (j_X3_register_28 Q x1 x2 x3 σ)
  else (if x2 < 96 then
  (vp_in x2 96 ∧
  nmS (up2 σ 24 (ix x2) x3) (fun σ2 =>
  Q σ2))
  else (j_X3_register_28 Q x1 x2 x3 σ)))
  else (j_X3_register_28 Q x1 x2 x3 σ)
theorem c_X3_register  {σ : St} {x1 : Int32} {x2 : Int32} {x3 : Int32} {Q : St → Prop} (h : wp_X3_register σ x1 x2 x3 Q) : ctV l yX3_register cX3_register 4 none rm_X3_register D (wC cI cZ cH a n) (tyW cI cZ cH) [.ref (a 13), .int x1, .int x2, .int x3] σ Q := by
  refine mk_V (wC_ok cI cZ cH a n) (by decide +kernel) (Nat.le_of_ble_eq_true rfl) (fun p e s m args below meth c A X hr9 hlk9 => ?_)
  refine r_pick (lv' := [(0, .ref (a 13)), (1, .int x1), (2, .int x2), (3, .int x3)]) [0, 1, 2, 3] rfl ?_
  delta wp_X3_register at h
  refine r_iload_n X 1 1 dX3_register_0 rfl rfl rfl ?_
  refine r_iconst (v := 1) X 2 dX3_register_1 (by decide) rfl ?_
  refine r_icmp_ne X 28 5 h dX3_register_2 rfl rfl (fun h => ?_) (fun h => ?_)
  · refine r_pick (lv' := [(0, .ref (a 13)), (1, .int x1), (2, .int x2), (3, .int x3)]) [0, 1, 2, 3] rfl ?_
    exact wk_X3_register_28 X hr9 hlk9 h
  · refine r_iload_n X 2 6 dX3_register_5 rfl rfl rfl ?_
    refine r_if_lt X 28 9 h dX3_register_6 rfl rfl (fun h => ?_) (fun h => ?_)
    · refine r_pick (lv' := [(0, .ref (a 13)), (1, .int x1), (2, .int x2), (3, .int x3)]) [0, 1, 2, 3] rfl ?_
      exact wk_X3_register_28 X hr9 hlk9 h
    · refine r_iload_n X 2 10 dX3_register_9 rfl rfl rfl ?_
      refine r_aload_n X 0 11 dX3_register_10 rfl rfl rfl ?_
      refine g_X3_42 X 14 dX3_register_11 rfl ?_
      refine n_C24 X 15 dX3_register_14 rfl ?_
      refine r_icmp_ge X 28 18 h dX3_register_15 rfl rfl (fun h => ?_) (fun h => ?_)
      · refine r_pick (lv' := [(0, .ref (a 13)), (1, .int x1), (2, .int x2), (3, .int x3)]) [0, 1, 2, 3] rfl ?_
        exact wk_X3_register_28 X hr9 hlk9 h
      · refine r_aload_n X 0 19 dX3_register_18 rfl rfl rfl ?_
        refine g_X3_42 X 22 dX3_register_19 rfl ?_
        refine r_iload_n X 2 23 dX3_register_22 rfl rfl rfl ?_
        refine r_iload_n X 3 24 dX3_register_23 rfl rfl rfl ?_
        obtain ⟨hin, h⟩ := h
        refine s_C24 X 25 hin dX3_register_24 rfl ?_
        refine r_nmS h (fun σ2 h => ?_)
        refine r_goto X 65 dX3_register_25 rfl ?_
        exact r_vret X hr9 hlk9 h dX3_register_65
def rm_X3_move : Room := { frames := 1, cells := 0, slots := 0, locals := 23 }
theorem dX3_move_0 : decode cX3_move 0 = .ok (.aload_n 0, 1) := by decide +kernel
theorem dX3_move_1 : decode cX3_move 1 = .ok (.aload_n 0, 1) := by decide +kernel
theorem dX3_move_2 : decode cX3_move 2 = .ok (.getfield 9, 3) := by decide +kernel
theorem dX3_move_5 : decode cX3_move 5 = .ok (.iload_n 1, 1) := by decide +kernel
theorem dX3_move_6 : decode cX3_move 6 = .ok (.iaload, 1) := by decide +kernel
theorem dX3_move_7 : decode cX3_move 7 = .ok (.aload_n 0, 1) := by decide +kernel
theorem dX3_move_8 : decode cX3_move 8 = .ok (.getfield 15, 3) := by decide +kernel
theorem dX3_move_11 : decode cX3_move 11 = .ok (.iload_n 1, 1) := by decide +kernel
theorem dX3_move_12 : decode cX3_move 12 = .ok (.iaload, 1) := by decide +kernel
theorem dX3_move_13 : decode cX3_move 13 = .ok (.iconst (-1), 1) := by decide +kernel
theorem dX3_move_14 : decode cX3_move 14 = .ok (.invokevirtual 249, 3) := by decide +kernel
theorem dX3_move_17 : decode cX3_move 17 = .ok (.aload_n 0, 1) := by decide +kernel
theorem dX3_move_18 : decode cX3_move 18 = .ok (.getfield 9, 3) := by decide +kernel
theorem dX3_move_21 : decode cX3_move 21 = .ok (.iload_n 1, 1) := by decide +kernel
theorem dX3_move_22 : decode cX3_move 22 = .ok (.iload_n 2, 1) := by decide +kernel
theorem dX3_move_23 : decode cX3_move 23 = .ok (.iastore, 1) := by decide +kernel
theorem dX3_move_24 : decode cX3_move 24 = .ok (.aload_n 0, 1) := by decide +kernel
theorem dX3_move_25 : decode cX3_move 25 = .ok (.getfield 15, 3) := by decide +kernel
theorem dX3_move_28 : decode cX3_move 28 = .ok (.iload_n 1, 1) := by decide +kernel
theorem dX3_move_29 : decode cX3_move 29 = .ok (.iload_n 3, 1) := by decide +kernel
theorem dX3_move_30 : decode cX3_move 30 = .ok (.iastore, 1) := by decide +kernel
theorem dX3_move_31 : decode cX3_move 31 = .ok (.aload_n 0, 1) := by decide +kernel
theorem dX3_move_32 : decode cX3_move 32 = .ok (.iload_n 2, 1) := by decide +kernel
theorem dX3_move_33 : decode cX3_move 33 = .ok (.iload_n 3, 1) := by decide +kernel
theorem dX3_move_34 : decode cX3_move 34 = .ok (.iload_n 1, 1) := by decide +kernel
theorem dX3_move_35 : decode cX3_move 35 = .ok (.invokevirtual 249, 3) := by decide +kernel
theorem dX3_move_38 : decode cX3_move 38 = .ok (.return_, 1) := by decide +kernel
def wp_X3_move  (σ : St) (x1 : Int32) (x2 : Int32) (x3 : Int32) (Q : St → Prop) : Prop :=
  vp_in x1 60 ∧
  (vp_in x1 60 ∧
  (wp_X3_register σ (σ 14 (ix x1)) (σ 15 (ix x1)) (-1) (fun σ1 =>
  vp_in x1 60 ∧
  nmS (up2 σ1 14 (ix x1) x2) (fun σ2 =>
  vp_in x1 60 ∧
  nmS (up2 σ2 15 (ix x1) x3) (fun σ3 =>
  wp_X3_register σ3 x2 x3 x1 (fun σ4 =>
  Q σ4))))))
theorem c_X3_move  {σ : St} {x1 : Int32} {x2 : Int32} {x3 : Int32} {Q : St → Prop} (h : wp_X3_move σ x1 x2 x3 Q) : ctV l yX3_move cX3_move 4 none rm_X3_move D (wC cI cZ cH a n) (tyW cI cZ cH) [.ref (a 13), .int x1, .int x2, .int x3] σ Q := by
  refine mk_V (wC_ok cI cZ cH a n) (by decide +kernel) (Nat.le_of_ble_eq_true rfl) (fun p e s m args below meth c A X hr9 hlk9 => ?_)
  refine r_pick (lv' := [(0, .ref (a 13)), (1, .int x1), (2, .int x2), (3, .int x3)]) [0, 1, 2, 3] rfl ?_
  delta wp_X3_move at h
  refine r_aload_n X 0 1 dX3_move_0 rfl rfl rfl ?_
  refine r_aload_n X 0 2 dX3_move_1 rfl rfl rfl ?_
  refine g_X3_9 X 5 dX3_move_2 rfl ?_
  refine r_iload_n X 1 6 dX3_move_5 rfl rfl rfl ?_
  obtain ⟨hin, h⟩ := h
  refine l_C14 X 7 hin dX3_move_6 rfl ?_
  refine r_aload_n X 0 8 dX3_move_7 rfl rfl rfl ?_
  refine g_X3_15 X 11 dX3_move_8 rfl ?_
  refine r_iload_n X 1 12 dX3_move_11 rfl rfl rfl ?_
  obtain ⟨hin, h⟩ := h
  refine l_C15 X 13 hin dX3_move_12 rfl ?_
  refine r_iconst (v := (-1)) X 14 dX3_move_13 (by decide) rfl ?_
  refine r_callV (As := [.int (σ 14 (ix x1)), .int (σ 15 (ix x1)), .int (-1)]) (rest := []) X 17 (c_X3_register h) ml_X3_249 lk_X3_register wC_at_13 rfl rfl rfl (Nat.le_of_ble_eq_true rfl) ⟨rfl, rfl, ⟨Nat.le_of_ble_eq_true rfl, Nat.le_of_ble_eq_true rfl⟩, Nat.le_of_ble_eq_true rfl, Nat.le_of_ble_eq_true rfl⟩ dX3_move_14 rfl (fun σ1 h => ?_)
  refine r_aload_n X 0 18 dX3_move_17 rfl rfl rfl ?_
  refine g_X3_9 X 21 dX3_move_18 rfl ?_
  refine r_iload_n X 1 22 dX3_move_21 rfl rfl rfl ?_
  refine r_iload_n X 2 23 dX3_move_22 rfl rfl rfl ?_
  obtain ⟨hin, h⟩ := h
  refine s_C14 X 24 hin dX3_move_23 rfl ?_
  refine r_nmS h (fun σ2 h => ?_)
  refine r_aload_n X 0 25 dX3_move_24 rfl rfl rfl ?_
  refine g_X3_15 X 28 dX3_move_25 rfl ?_
  refine r_iload_n X 1 29 dX3_move_28 rfl rfl rfl ?_
  refine r_iload_n X 3 30 dX3_move_29 rfl rfl rfl ?_
  obtain ⟨hin, h⟩ := h
  refine s_C15 X 31 hin dX3_move_30 rfl ?_
  refine r_nmS h (fun σ3 h => ?_)
  refine r_aload_n X 0 32 dX3_move_31 rfl rfl rfl ?_
  refine r_iload_n X 2 33 dX3_move_32 rfl rfl rfl ?_
  refine r_iload_n X 3 34 dX3_move_33 rfl rfl rfl ?_
  refine r_iload_n X 1 35 dX3_move_34 rfl rfl rfl ?_
  refine r_callV (As := [.int x2, .int x3, .int x1]) (rest := []) X 38 (c_X3_register h) ml_X3_249 lk_X3_register wC_at_13 rfl rfl rfl (Nat.le_of_ble_eq_true rfl) ⟨rfl, rfl, ⟨Nat.le_of_ble_eq_true rfl, Nat.le_of_ble_eq_true rfl⟩, Nat.le_of_ble_eq_true rfl, Nat.le_of_ble_eq_true rfl⟩ dX3_move_35 rfl (fun σ4 h => ?_)
  exact r_vret X hr9 hlk9 h dX3_move_38
def rm_X3_comeIn : Room := { frames := 2, cells := 0, slots := 0, locals := 46 }
theorem dX3_comeIn_0 : decode cX3_comeIn 0 = .ok (.aload_n 0, 1) := by decide +kernel
theorem dX3_comeIn_1 : decode cX3_comeIn 1 = .ok (.getfield 9, 3) := by decide +kernel
theorem dX3_comeIn_4 : decode cX3_comeIn 4 = .ok (.aload_n 0, 1) := by decide +kernel
theorem dX3_comeIn_5 : decode cX3_comeIn 5 = .ok (.getfield 108, 3) := by decide +kernel
theorem dX3_comeIn_8 : decode cX3_comeIn 8 = .ok (.iaload, 1) := by decide +kernel
theorem dX3_comeIn_9 : decode cX3_comeIn 9 = .ok (.ifCond .ne 33, 3) := by decide +kernel
theorem dX3_comeIn_12 : decode cX3_comeIn 12 = .ok (.aload_n 0, 1) := by decide +kernel
theorem dX3_comeIn_13 : decode cX3_comeIn 13 = .ok (.getfield 48, 3) := by decide +kernel
theorem dX3_comeIn_16 : decode cX3_comeIn 16 = .ok (.aload_n 0, 1) := by decide +kernel
theorem dX3_comeIn_17 : decode cX3_comeIn 17 = .ok (.getfield 108, 3) := by decide +kernel
theorem dX3_comeIn_20 : decode cX3_comeIn 20 = .ok (.iconst 2, 1) := by decide +kernel
theorem dX3_comeIn_21 : decode cX3_comeIn 21 = .ok (.invokevirtual 184, 3) := by decide +kernel
theorem dX3_comeIn_24 : decode cX3_comeIn 24 = .ok (.ifCond .ne 18, 3) := by decide +kernel
theorem dX3_comeIn_27 : decode cX3_comeIn 27 = .ok (.aload_n 0, 1) := by decide +kernel
theorem dX3_comeIn_28 : decode cX3_comeIn 28 = .ok (.getfield 48, 3) := by decide +kernel
theorem dX3_comeIn_31 : decode cX3_comeIn 31 = .ok (.aload_n 0, 1) := by decide +kernel
theorem dX3_comeIn_32 : decode cX3_comeIn 32 = .ok (.getfield 108, 3) := by decide +kernel
theorem dX3_comeIn_35 : decode cX3_comeIn 35 = .ok (.iconst 3, 1) := by decide +kernel
theorem dX3_comeIn_36 : decode cX3_comeIn 36 = .ok (.invokevirtual 184, 3) := by decide +kernel
theorem dX3_comeIn_39 : decode cX3_comeIn 39 = .ok (.ifCond .eq 5, 3) := by decide +kernel
theorem dX3_comeIn_42 : decode cX3_comeIn 42 = .ok (.iconst 0, 1) := by decide +kernel
theorem dX3_comeIn_43 : decode cX3_comeIn 43 = .ok (.ireturn, 1) := by decide +kernel
theorem dX3_comeIn_44 : decode cX3_comeIn 44 = .ok (.aload_n 0, 1) := by decide +kernel
theorem dX3_comeIn_45 : decode cX3_comeIn 45 = .ok (.aload_n 0, 1) := by decide +kernel
theorem dX3_comeIn_46 : decode cX3_comeIn 46 = .ok (.aload_n 0, 1) := by decide +kernel
theorem dX3_comeIn_47 : decode cX3_comeIn 47 = .ok (.getfield 108, 3) := by decide +kernel
theorem dX3_comeIn_50 : decode cX3_comeIn 50 = .ok (.invokevirtual 188, 3) := by decide +kernel
theorem dX3_comeIn_53 : decode cX3_comeIn 53 = .ok (.invokevirtual 191, 3) := by decide +kernel
theorem dX3_comeIn_56 : decode cX3_comeIn 56 = .ok (.ifCond .eq 28, 3) := by decide +kernel
theorem dX3_comeIn_59 : decode cX3_comeIn 59 = .ok (.aload_n 0, 1) := by decide +kernel
theorem dX3_comeIn_60 : decode cX3_comeIn 60 = .ok (.getfield 48, 3) := by decide +kernel
theorem dX3_comeIn_63 : decode cX3_comeIn 63 = .ok (.aload_n 0, 1) := by decide +kernel
theorem dX3_comeIn_64 : decode cX3_comeIn 64 = .ok (.getfield 120, 3) := by decide +kernel
theorem dX3_comeIn_67 : decode cX3_comeIn 67 = .ok (.invokevirtual 195, 3) := by decide +kernel
theorem dX3_comeIn_70 : decode cX3_comeIn 70 = .ok (.ifCond .eq 14, 3) := by decide +kernel
theorem dX3_comeIn_73 : decode cX3_comeIn 73 = .ok (.aload_n 0, 1) := by decide +kernel
theorem dX3_comeIn_74 : decode cX3_comeIn 74 = .ok (.aload_n 0, 1) := by decide +kernel
theorem dX3_comeIn_75 : decode cX3_comeIn 75 = .ok (.getfield 117, 3) := by decide +kernel
theorem dX3_comeIn_78 : decode cX3_comeIn 78 = .ok (.invokevirtual 198, 3) := by decide +kernel
theorem dX3_comeIn_81 : decode cX3_comeIn 81 = .ok (.ifCond .ne 5, 3) := by decide +kernel
theorem dX3_comeIn_84 : decode cX3_comeIn 84 = .ok (.iconst 0, 1) := by decide +kernel
theorem dX3_comeIn_85 : decode cX3_comeIn 85 = .ok (.ireturn, 1) := by decide +kernel
theorem dX3_comeIn_86 : decode cX3_comeIn 86 = .ok (.aload_n 0, 1) := by decide +kernel
theorem dX3_comeIn_87 : decode cX3_comeIn 87 = .ok (.aload_n 0, 1) := by decide +kernel
theorem dX3_comeIn_88 : decode cX3_comeIn 88 = .ok (.getfield 108, 3) := by decide +kernel
theorem dX3_comeIn_91 : decode cX3_comeIn 91 = .ok (.iconst 1, 1) := by decide +kernel
theorem dX3_comeIn_92 : decode cX3_comeIn 92 = .ok (.aload_n 0, 1) := by decide +kernel
theorem dX3_comeIn_93 : decode cX3_comeIn 93 = .ok (.getfield 117, 3) := by decide +kernel
theorem dX3_comeIn_96 : decode cX3_comeIn 96 = .ok (.invokevirtual 201, 3) := by decide +kernel
theorem dX3_comeIn_99 : decode cX3_comeIn 99 = .ok (.iconst 1, 1) := by decide +kernel
theorem dX3_comeIn_100 : decode cX3_comeIn 100 = .ok (.ireturn, 1) := by decide +kernel
def wp_X3_comeIn  (σ : St) (Q : Int32 → St → Prop) : Prop :=
  vp_in (σ 13 13) 60 ∧
  (if (σ 14 (ix (σ 13 13))) = 0 then
  (wp_X4_isOfKind σ (σ 13 13) 2 (fun y2 σ1 =>
  if y2 = 0 then
  (wp_X4_isOfKind σ1 (σ1 13 13) 3 (fun y4 σ3 =>
  if y4 = 0 then
  (wp_X3_isMoneyBag σ3 (σ3 13 13) (fun y6 σ5 =>
  wp_X3_keepersServe σ5 y6 (fun y8 σ7 =>
  if y8 = 0 then
  (Q 0 σ7)
  else (wp_X4_isHand σ7 (σ7 13 17) (fun y10 σ9 =>
  if y10 = 0 then
  (Q 0 σ9)
  else (wp_X3_mayLieAt σ9 (σ9 13 16) (fun y12 σ11 =>
  if y12 = 0 then
  (Q 0 σ11)
  else (wp_X3_move σ11 (σ11 13 13) 1 (σ11 13 16) (fun σ13 =>
  Q 1 σ13)))))))))
  else (Q 0 σ3)))
  else (Q 0 σ1)))
  else (Q 0 σ))
theorem c_X3_comeIn  {σ : St} {Q : Int32 → St → Prop} (h : wp_X3_comeIn σ Q) : ctI l yX3_comeIn cX3_comeIn 1 (some .boolean) rm_X3_comeIn D (wC cI cZ cH a n) (tyW cI cZ cH) [.ref (a 13)] σ (fun r9 u9 => isB r9 ∧ Q r9 u9) := by
  refine mk_I (wC_ok cI cZ cH a n) (by decide +kernel) (Nat.le_of_ble_eq_true rfl) (fun p e s m args below meth c A X hr9 hlk9 => ?_)
  refine r_pick (lv' := [(0, .ref (a 13))]) [0] rfl ?_
  delta wp_X3_comeIn at h
  refine r_aload_n X 0 1 dX3_comeIn_0 rfl rfl rfl ?_
  refine g_X3_9 X 4 dX3_comeIn_1 rfl ?_
  refine r_aload_n X 0 5 dX3_comeIn_4 rfl rfl rfl ?_
  refine g_X3_108 X 8 dX3_comeIn_5 rfl ?_
  obtain ⟨hin, h⟩ := h
  refine l_C14 X 9 hin dX3_comeIn_8 rfl ?_
  refine r_if_ne X 42 12 h dX3_comeIn_9 rfl rfl (fun h => ?_) (fun h => ?_)
  · refine r_iconst (v := 0) X 43 dX3_comeIn_42 (by decide) rfl ?_
    exact r_zret X hr9 hlk9 isB_0 h dX3_comeIn_43
  · refine r_aload_n X 0 13 dX3_comeIn_12 rfl rfl rfl ?_
    refine g_X3_48 X 16 dX3_comeIn_13 rfl ?_
    refine r_aload_n X 0 17 dX3_comeIn_16 rfl rfl rfl ?_
    refine g_X3_108 X 20 dX3_comeIn_17 rfl ?_
    refine r_iconst (v := 2) X 21 dX3_comeIn_20 (by decide) rfl ?_
    refine r_callNI (As := [.int (σ 13 13), .int 2]) (rest := []) X 24 (c_X4_isOfKind h) ml_X3_184 lk_X4_isOfKind wC_at_1 rfl rfl rfl (Nat.le_of_ble_eq_true rfl) ⟨rfl, rfl, ⟨Nat.le_of_ble_eq_true rfl, Nat.le_of_ble_eq_true rfl⟩, Nat.le_of_ble_eq_true rfl, Nat.le_of_ble_eq_true rfl⟩ dX3_comeIn_21 rfl (fun y2 σ1 h => ?_)
    obtain ⟨hb_y2, h⟩ := h
    refine r_if_ne X 42 27 h dX3_comeIn_24 rfl rfl (fun h => ?_) (fun h => ?_)
    · refine r_iconst (v := 0) X 43 dX3_comeIn_42 (by decide) rfl ?_
      exact r_zret X hr9 hlk9 isB_0 h dX3_comeIn_43
    · refine r_aload_n X 0 28 dX3_comeIn_27 rfl rfl rfl ?_
      refine g_X3_48 X 31 dX3_comeIn_28 rfl ?_
      refine r_aload_n X 0 32 dX3_comeIn_31 rfl rfl rfl ?_
      refine g_X3_108 X 35 dX3_comeIn_32 rfl ?_
      refine r_iconst (v := 3) X 36 dX3_comeIn_35 (by decide) rfl ?_
      refine r_callNI (As := [.int (σ1 13 13), .int 3]) (rest := []) X 39 (c_X4_isOfKind h) ml_X3_184 lk_X4_isOfKind wC_at_1 rfl rfl rfl (Nat.le_of_ble_eq_true rfl) ⟨rfl, rfl, ⟨Nat.le_of_ble_eq_true rfl, Nat.le_of_ble_eq_true rfl⟩, Nat.le_of_ble_eq_true rfl, Nat.le_of_ble_eq_true rfl⟩ dX3_comeIn_36 rfl (fun y4 σ3 h => ?_)
      obtain ⟨hb_y4, h⟩ := h
      refine r_if_eq X 44 42 h dX3_comeIn_39 rfl rfl (fun h => ?_) (fun h => ?_)
      · refine r_aload_n X 0 45 dX3_comeIn_44 rfl rfl rfl ?_
        refine r_aload_n X 0 46 dX3_comeIn_45 rfl rfl rfl ?_
        refine r_aload_n X 0 47 dX3_comeIn_46 rfl rfl rfl ?_
        refine g_X3_108 X 50 dX3_comeIn_47 rfl ?_
        refine r_callI (As := [.int (σ3 13 13)]) (rest := [.ref (a 13)]) X 53 (c_X3_isMoneyBag h) ml_X3_188 lk_X3_isMoneyBag wC_at_13 rfl rfl rfl (Nat.le_of_ble_eq_true rfl) ⟨rfl, rfl, ⟨Nat.le_of_ble_eq_true rfl, Nat.le_of_ble_eq_true rfl⟩, Nat.le_of_ble_eq_true rfl, Nat.le_of_ble_eq_true rfl⟩ dX3_comeIn_50 rfl (fun y6 σ5 h => ?_)
        obtain ⟨hb_y6, h⟩ := h
        refine r_callI (As := [.int y6]) (rest := []) X 56 (c_X3_keepersServe h) ml_X3_191 lk_X3_keepersServe wC_at_13 rfl rfl rfl (Nat.le_of_ble_eq_true rfl) ⟨rfl, rfl, ⟨Nat.le_of_ble_eq_true rfl, Nat.le_of_ble_eq_true rfl⟩, Nat.le_of_ble_eq_true rfl, Nat.le_of_ble_eq_true rfl⟩ dX3_comeIn_53 rfl (fun y8 σ7 h => ?_)
        obtain ⟨hb_y8, h⟩ := h
        refine r_if_eq X 84 59 h dX3_comeIn_56 rfl rfl (fun h => ?_) (fun h => ?_)
        · refine r_iconst (v := 0) X 85 dX3_comeIn_84 (by decide) rfl ?_
          exact r_zret X hr9 hlk9 isB_0 h dX3_comeIn_85
        · refine r_aload_n X 0 60 dX3_comeIn_59 rfl rfl rfl ?_
          refine g_X3_48 X 63 dX3_comeIn_60 rfl ?_
          refine r_aload_n X 0 64 dX3_comeIn_63 rfl rfl rfl ?_
          refine g_X3_120 X 67 dX3_comeIn_64 rfl ?_
          refine r_callNI (As := [.int (σ7 13 17)]) (rest := []) X 70 (c_X4_isHand h) ml_X3_195 lk_X4_isHand wC_at_1 rfl rfl rfl (Nat.le_of_ble_eq_true rfl) ⟨rfl, rfl, ⟨Nat.le_of_ble_eq_true rfl, Nat.le_of_ble_eq_true rfl⟩, Nat.le_of_ble_eq_true rfl, Nat.le_of_ble_eq_true rfl⟩ dX3_comeIn_67 rfl (fun y10 σ9 h => ?_)
          obtain ⟨hb_y10, h⟩ := h
          refine r_if_eq X 84 73 h dX3_comeIn_70 rfl rfl (fun h => ?_) (fun h => ?_)
          · refine r_iconst (v := 0) X 85 dX3_comeIn_84 (by decide) rfl ?_
            exact r_zret X hr9 hlk9 isB_0 h dX3_comeIn_85
          · refine r_aload_n X 0 74 dX3_comeIn_73 rfl rfl rfl ?_
            refine r_aload_n X 0 75 dX3_comeIn_74 rfl rfl rfl ?_
            refine g_X3_117 X 78 dX3_comeIn_75 rfl ?_
            refine r_callI (As := [.int (σ9 13 16)]) (rest := []) X 81 (c_X3_mayLieAt h) ml_X3_198 lk_X3_mayLieAt wC_at_13 rfl rfl rfl (Nat.le_of_ble_eq_true rfl) ⟨rfl, rfl, ⟨Nat.le_of_ble_eq_true rfl, Nat.le_of_ble_eq_true rfl⟩, Nat.le_of_ble_eq_true rfl, Nat.le_of_ble_eq_true rfl⟩ dX3_comeIn_78 rfl (fun y12 σ11 h => ?_)
            obtain ⟨hb_y12, h⟩ := h
            refine r_if_ne X 86 84 h dX3_comeIn_81 rfl rfl (fun h => ?_) (fun h => ?_)
            · refine r_aload_n X 0 87 dX3_comeIn_86 rfl rfl rfl ?_
              refine r_aload_n X 0 88 dX3_comeIn_87 rfl rfl rfl ?_
              refine g_X3_108 X 91 dX3_comeIn_88 rfl ?_
              refine r_iconst (v := 1) X 92 dX3_comeIn_91 (by decide) rfl ?_
              refine r_aload_n X 0 93 dX3_comeIn_92 rfl rfl rfl ?_
              refine g_X3_117 X 96 dX3_comeIn_93 rfl ?_
              refine r_callV (As := [.int (σ11 13 13), .int 1, .int (σ11 13 16)]) (rest := []) X 99 (c_X3_move h) ml_X3_201 lk_X3_move wC_at_13 rfl rfl rfl (Nat.le_of_ble_eq_true rfl) ⟨rfl, rfl, ⟨Nat.le_of_ble_eq_true rfl, Nat.le_of_ble_eq_true rfl⟩, Nat.le_of_ble_eq_true rfl, Nat.le_of_ble_eq_true rfl⟩ dX3_comeIn_96 rfl (fun σ13 h => ?_)
              refine r_iconst (v := 1) X 100 dX3_comeIn_99 (by decide) rfl ?_
              exact r_zret X hr9 hlk9 isB_1 h dX3_comeIn_100
            · refine r_iconst (v := 0) X 85 dX3_comeIn_84 (by decide) rfl ?_
              exact r_zret X hr9 hlk9 isB_0 h dX3_comeIn_85
      · refine r_iconst (v := 0) X 43 dX3_comeIn_42 (by decide) rfl ?_
        exact r_zret X hr9 hlk9 isB_0 h dX3_comeIn_43
def rm_X3_isDay : Room := { frames := 0, cells := 0, slots := 0, locals := 0 }
theorem dX3_isDay_0 : decode cX3_isDay 0 = .ok (.iload_n 1, 1) := by decide +kernel
theorem dX3_isDay_1 : decode cX3_isDay 1 = .ok (.ifCond .lt 13, 3) := by decide +kernel
theorem dX3_isDay_4 : decode cX3_isDay 4 = .ok (.iload_n 1, 1) := by decide +kernel
theorem dX3_isDay_5 : decode cX3_isDay 5 = .ok (.ldc 242, 2) := by decide +kernel
theorem dX3_isDay_7 : decode cX3_isDay 7 = .ok (.if_icmp .gt 7, 3) := by decide +kernel
theorem dX3_isDay_10 : decode cX3_isDay 10 = .ok (.iconst 1, 1) := by decide +kernel
theorem dX3_isDay_11 : decode cX3_isDay 11 = .ok (.goto 4, 3) := by decide +kernel
theorem dX3_isDay_14 : decode cX3_isDay 14 = .ok (.iconst 0, 1) := by decide +kernel
theorem dX3_isDay_15 : decode cX3_isDay 15 = .ok (.ireturn, 1) := by decide +kernel
def wp_X3_isDay  (σ : St) (x1 : Int32) (Q : Int32 → St → Prop) : Prop :=
  if x1 < 0 then
  (Q 0 σ)
  else (if 100000 < x1 then
  (Q 0 σ)
  else (Q 1 σ))
theorem c_X3_isDay  {σ : St} {x1 : Int32} {Q : Int32 → St → Prop} (h : wp_X3_isDay σ x1 Q) : ctI l yX3_isDay cX3_isDay 2 (some .boolean) rm_X3_isDay D (wC cI cZ cH a n) (tyW cI cZ cH) [.ref (a 13), .int x1] σ (fun r9 u9 => isB r9 ∧ Q r9 u9) := by
  refine mk_I (wC_ok cI cZ cH a n) (by decide +kernel) (Nat.le_of_ble_eq_true rfl) (fun p e s m args below meth c A X hr9 hlk9 => ?_)
  refine r_pick (lv' := [(0, .ref (a 13)), (1, .int x1)]) [0, 1] rfl ?_
  delta wp_X3_isDay at h
  refine r_iload_n X 1 1 dX3_isDay_0 rfl rfl rfl ?_
  refine r_if_lt X 14 4 h dX3_isDay_1 rfl rfl (fun h => ?_) (fun h => ?_)
  · refine r_iconst (v := 0) X 15 dX3_isDay_14 (by decide) rfl ?_
    exact r_zret X hr9 hlk9 isB_0 h dX3_isDay_15
  · refine r_iload_n X 1 5 dX3_isDay_4 rfl rfl rfl ?_
    refine r_ldc (v := 100000) X 7 dX3_isDay_5 cn_X3_242 rfl ?_
    refine r_icmp_gt X 14 10 h dX3_isDay_7 rfl rfl (fun h => ?_) (fun h => ?_)
    · refine r_iconst (v := 0) X 15 dX3_isDay_14 (by decide) rfl ?_
      exact r_zret X hr9 hlk9 isB_0 h dX3_isDay_15
    · refine r_iconst (v := 1) X 11 dX3_isDay_10 (by decide) rfl ?_
      refine r_goto X 15 dX3_isDay_11 rfl ?_
      exact r_zret X hr9 hlk9 isB_1 h dX3_isDay_15
def rm_X3_goOut : Room := { frames := 2, cells := 0, slots := 0, locals := 46 }
theorem dX3_goOut_0 : decode cX3_goOut 0 = .ok (.aload_n 0, 1) := by decide +kernel
theorem dX3_goOut_1 : decode cX3_goOut 1 = .ok (.getfield 9, 3) := by decide +kernel
theorem dX3_goOut_4 : decode cX3_goOut 4 = .ok (.aload_n 0, 1) := by decide +kernel
theorem dX3_goOut_5 : decode cX3_goOut 5 = .ok (.getfield 108, 3) := by decide +kernel
theorem dX3_goOut_8 : decode cX3_goOut 8 = .ok (.iaload, 1) := by decide +kernel
theorem dX3_goOut_9 : decode cX3_goOut 9 = .ok (.iconst 1, 1) := by decide +kernel
theorem dX3_goOut_10 : decode cX3_goOut 10 = .ok (.if_icmp .ne 43, 3) := by decide +kernel
theorem dX3_goOut_13 : decode cX3_goOut 13 = .ok (.aload_n 0, 1) := by decide +kernel
theorem dX3_goOut_14 : decode cX3_goOut 14 = .ok (.aload_n 0, 1) := by decide +kernel
theorem dX3_goOut_15 : decode cX3_goOut 15 = .ok (.aload_n 0, 1) := by decide +kernel
theorem dX3_goOut_16 : decode cX3_goOut 16 = .ok (.getfield 108, 3) := by decide +kernel
theorem dX3_goOut_19 : decode cX3_goOut 19 = .ok (.invokevirtual 188, 3) := by decide +kernel
theorem dX3_goOut_22 : decode cX3_goOut 22 = .ok (.invokevirtual 191, 3) := by decide +kernel
theorem dX3_goOut_25 : decode cX3_goOut 25 = .ok (.ifCond .eq 28, 3) := by decide +kernel
theorem dX3_goOut_28 : decode cX3_goOut 28 = .ok (.aload_n 0, 1) := by decide +kernel
theorem dX3_goOut_29 : decode cX3_goOut 29 = .ok (.getfield 48, 3) := by decide +kernel
theorem dX3_goOut_32 : decode cX3_goOut 32 = .ok (.aload_n 0, 1) := by decide +kernel
theorem dX3_goOut_33 : decode cX3_goOut 33 = .ok (.getfield 117, 3) := by decide +kernel
theorem dX3_goOut_36 : decode cX3_goOut 36 = .ok (.invokevirtual 195, 3) := by decide +kernel
theorem dX3_goOut_39 : decode cX3_goOut 39 = .ok (.ifCond .eq 14, 3) := by decide +kernel
theorem dX3_goOut_42 : decode cX3_goOut 42 = .ok (.aload_n 0, 1) := by decide +kernel
theorem dX3_goOut_43 : decode cX3_goOut 43 = .ok (.aload_n 0, 1) := by decide +kernel
theorem dX3_goOut_44 : decode cX3_goOut 44 = .ok (.getfield 120, 3) := by decide +kernel
theorem dX3_goOut_47 : decode cX3_goOut 47 = .ok (.invokevirtual 205, 3) := by decide +kernel
theorem dX3_goOut_50 : decode cX3_goOut 50 = .ok (.ifCond .ne 5, 3) := by decide +kernel
theorem dX3_goOut_53 : decode cX3_goOut 53 = .ok (.iconst 0, 1) := by decide +kernel
theorem dX3_goOut_54 : decode cX3_goOut 54 = .ok (.ireturn, 1) := by decide +kernel
theorem dX3_goOut_55 : decode cX3_goOut 55 = .ok (.aload_n 0, 1) := by decide +kernel
theorem dX3_goOut_56 : decode cX3_goOut 56 = .ok (.aload_n 0, 1) := by decide +kernel
theorem dX3_goOut_57 : decode cX3_goOut 57 = .ok (.getfield 108, 3) := by decide +kernel
theorem dX3_goOut_60 : decode cX3_goOut 60 = .ok (.iconst 2, 1) := by decide +kernel
theorem dX3_goOut_61 : decode cX3_goOut 61 = .ok (.aload_n 0, 1) := by decide +kernel
theorem dX3_goOut_62 : decode cX3_goOut 62 = .ok (.getfield 117, 3) := by decide +kernel
theorem dX3_goOut_65 : decode cX3_goOut 65 = .ok (.invokevirtual 201, 3) := by decide +kernel
theorem dX3_goOut_68 : decode cX3_goOut 68 = .ok (.aload_n 0, 1) := by decide +kernel
theorem dX3_goOut_69 : decode cX3_goOut 69 = .ok (.getfield 24, 3) := by decide +kernel
theorem dX3_goOut_72 : decode cX3_goOut 72 = .ok (.aload_n 0, 1) := by decide +kernel
theorem dX3_goOut_73 : decode cX3_goOut 73 = .ok (.getfield 108, 3) := by decide +kernel
theorem dX3_goOut_76 : decode cX3_goOut 76 = .ok (.aload_n 0, 1) := by decide +kernel
theorem dX3_goOut_77 : decode cX3_goOut 77 = .ok (.getfield 120, 3) := by decide +kernel
theorem dX3_goOut_80 : decode cX3_goOut 80 = .ok (.iastore, 1) := by decide +kernel
theorem dX3_goOut_81 : decode cX3_goOut 81 = .ok (.iconst 1, 1) := by decide +kernel
theorem dX3_goOut_82 : decode cX3_goOut 82 = .ok (.ireturn, 1) := by decide +kernel
def wp_X3_goOut  (σ : St) (Q : Int32 → St → Prop) : Prop :=
  vp_in (σ 13 13) 60 ∧
  (if (σ 14 (ix (σ 13 13))) = 1 then
  (wp_X3_isMoneyBag σ (σ 13 13) (fun y2 σ1 =>
  wp_X3_keepersServe σ1 y2 (fun y4 σ3 =>
  if y4 = 0 then
  (Q 0 σ3)
  else (wp_X4_isHand σ3 (σ3 13 16) (fun y6 σ5 =>
  if y6 = 0 then
  (Q 0 σ5)
  else (wp_X3_isDay σ5 (σ5 13 17) (fun y8 σ7 =>
  if y8 = 0 then
  (Q 0 σ7)
  else (wp_X3_move σ7 (σ7 13 13) 2 (σ7 13 16) (fun σ9 =>
  vp_in (σ9 13 13) 60 ∧
  nmS (up2 σ9 18 (ix (σ9 13 13)) (σ9 13 17)) (fun σ10 =>
  Q 1 σ10))))))))))
  else (Q 0 σ))
theorem c_X3_goOut  {σ : St} {Q : Int32 → St → Prop} (h : wp_X3_goOut σ Q) : ctI l yX3_goOut cX3_goOut 1 (some .boolean) rm_X3_goOut D (wC cI cZ cH a n) (tyW cI cZ cH) [.ref (a 13)] σ (fun r9 u9 => isB r9 ∧ Q r9 u9) := by
  refine mk_I (wC_ok cI cZ cH a n) (by decide +kernel) (Nat.le_of_ble_eq_true rfl) (fun p e s m args below meth c A X hr9 hlk9 => ?_)
  refine r_pick (lv' := [(0, .ref (a 13))]) [0] rfl ?_
  delta wp_X3_goOut at h
  refine r_aload_n X 0 1 dX3_goOut_0 rfl rfl rfl ?_
  refine g_X3_9 X 4 dX3_goOut_1 rfl ?_
  refine r_aload_n X 0 5 dX3_goOut_4 rfl rfl rfl ?_
  refine g_X3_108 X 8 dX3_goOut_5 rfl ?_
  obtain ⟨hin, h⟩ := h
  refine l_C14 X 9 hin dX3_goOut_8 rfl ?_
  refine r_iconst (v := 1) X 10 dX3_goOut_9 (by decide) rfl ?_
  refine r_icmp_ne X 53 13 h dX3_goOut_10 rfl rfl (fun h => ?_) (fun h => ?_)
  · refine r_iconst (v := 0) X 54 dX3_goOut_53 (by decide) rfl ?_
    exact r_zret X hr9 hlk9 isB_0 h dX3_goOut_54
  · refine r_aload_n X 0 14 dX3_goOut_13 rfl rfl rfl ?_
    refine r_aload_n X 0 15 dX3_goOut_14 rfl rfl rfl ?_
    refine r_aload_n X 0 16 dX3_goOut_15 rfl rfl rfl ?_
    refine g_X3_108 X 19 dX3_goOut_16 rfl ?_
    refine r_callI (As := [.int (σ 13 13)]) (rest := [.ref (a 13)]) X 22 (c_X3_isMoneyBag h) ml_X3_188 lk_X3_isMoneyBag wC_at_13 rfl rfl rfl (Nat.le_of_ble_eq_true rfl) ⟨rfl, rfl, ⟨Nat.le_of_ble_eq_true rfl, Nat.le_of_ble_eq_true rfl⟩, Nat.le_of_ble_eq_true rfl, Nat.le_of_ble_eq_true rfl⟩ dX3_goOut_19 rfl (fun y2 σ1 h => ?_)
    obtain ⟨hb_y2, h⟩ := h
    refine r_callI (As := [.int y2]) (rest := []) X 25 (c_X3_keepersServe h) ml_X3_191 lk_X3_keepersServe wC_at_13 rfl rfl rfl (Nat.le_of_ble_eq_true rfl) ⟨rfl, rfl, ⟨Nat.le_of_ble_eq_true rfl, Nat.le_of_ble_eq_true rfl⟩, Nat.le_of_ble_eq_true rfl, Nat.le_of_ble_eq_true rfl⟩ dX3_goOut_22 rfl (fun y4 σ3 h => ?_)
    obtain ⟨hb_y4, h⟩ := h
    refine r_if_eq X 53 28 h dX3_goOut_25 rfl rfl (fun h => ?_) (fun h => ?_)
    · refine r_iconst (v := 0) X 54 dX3_goOut_53 (by decide) rfl ?_
      exact r_zret X hr9 hlk9 isB_0 h dX3_goOut_54
    · refine r_aload_n X 0 29 dX3_goOut_28 rfl rfl rfl ?_
      refine g_X3_48 X 32 dX3_goOut_29 rfl ?_
      refine r_aload_n X 0 33 dX3_goOut_32 rfl rfl rfl ?_
      refine g_X3_117 X 36 dX3_goOut_33 rfl ?_
      refine r_callNI (As := [.int (σ3 13 16)]) (rest := []) X 39 (c_X4_isHand h) ml_X3_195 lk_X4_isHand wC_at_1 rfl rfl rfl (Nat.le_of_ble_eq_true rfl) ⟨rfl, rfl, ⟨Nat.le_of_ble_eq_true rfl, Nat.le_of_ble_eq_true rfl⟩, Nat.le_of_ble_eq_true rfl, Nat.le_of_ble_eq_true rfl⟩ dX3_goOut_36 rfl (fun y6 σ5 h => ?_)
      obtain ⟨hb_y6, h⟩ := h
      refine r_if_eq X 53 42 h dX3_goOut_39 rfl rfl (fun h => ?_) (fun h => ?_)
      · refine r_iconst (v := 0) X 54 dX3_goOut_53 (by decide) rfl ?_
        exact r_zret X hr9 hlk9 isB_0 h dX3_goOut_54
      · refine r_aload_n X 0 43 dX3_goOut_42 rfl rfl rfl ?_
        refine r_aload_n X 0 44 dX3_goOut_43 rfl rfl rfl ?_
        refine g_X3_120 X 47 dX3_goOut_44 rfl ?_
        refine r_callI (As := [.int (σ5 13 17)]) (rest := []) X 50 (c_X3_isDay h) ml_X3_205 lk_X3_isDay wC_at_13 rfl rfl rfl (Nat.le_of_ble_eq_true rfl) ⟨rfl, rfl, ⟨Nat.le_of_ble_eq_true rfl, Nat.le_of_ble_eq_true rfl⟩, Nat.le_of_ble_eq_true rfl, Nat.le_of_ble_eq_true rfl⟩ dX3_goOut_47 rfl (fun y8 σ7 h => ?_)
        obtain ⟨hb_y8, h⟩ := h
        refine r_if_ne X 55 53 h dX3_goOut_50 rfl rfl (fun h => ?_) (fun h => ?_)
        · refine r_aload_n X 0 56 dX3_goOut_55 rfl rfl rfl ?_
          refine r_aload_n X 0 57 dX3_goOut_56 rfl rfl rfl ?_
          refine g_X3_108 X 60 dX3_goOut_57 rfl ?_
          refine r_iconst (v := 2) X 61 dX3_goOut_60 (by decide) rfl ?_
          refine r_aload_n X 0 62 dX3_goOut_61 rfl rfl rfl ?_
          refine g_X3_117 X 65 dX3_goOut_62 rfl ?_
          refine r_callV (As := [.int (σ7 13 13), .int 2, .int (σ7 13 16)]) (rest := []) X 68 (c_X3_move h) ml_X3_201 lk_X3_move wC_at_13 rfl rfl rfl (Nat.le_of_ble_eq_true rfl) ⟨rfl, rfl, ⟨Nat.le_of_ble_eq_true rfl, Nat.le_of_ble_eq_true rfl⟩, Nat.le_of_ble_eq_true rfl, Nat.le_of_ble_eq_true rfl⟩ dX3_goOut_65 rfl (fun σ9 h => ?_)
          refine r_aload_n X 0 69 dX3_goOut_68 rfl rfl rfl ?_
          refine g_X3_24 X 72 dX3_goOut_69 rfl ?_
          refine r_aload_n X 0 73 dX3_goOut_72 rfl rfl rfl ?_
          refine g_X3_108 X 76 dX3_goOut_73 rfl ?_
          refine r_aload_n X 0 77 dX3_goOut_76 rfl rfl rfl ?_
          refine g_X3_120 X 80 dX3_goOut_77 rfl ?_
          obtain ⟨hin, h⟩ := h
          refine s_C18 X 81 hin dX3_goOut_80 rfl ?_
          refine r_nmS h (fun σ10 h => ?_)
          refine r_iconst (v := 1) X 82 dX3_goOut_81 (by decide) rfl ?_
          exact r_zret X hr9 hlk9 isB_1 h dX3_goOut_82
        · refine r_iconst (v := 0) X 54 dX3_goOut_53 (by decide) rfl ?_
          exact r_zret X hr9 hlk9 isB_0 h dX3_goOut_54
def rm_X3_isAt : Room := { frames := 0, cells := 0, slots := 0, locals := 0 }
theorem dX3_isAt_0 : decode cX3_isAt 0 = .ok (.aload_n 0, 1) := by decide +kernel
theorem dX3_isAt_1 : decode cX3_isAt 1 = .ok (.getfield 9, 3) := by decide +kernel
theorem dX3_isAt_4 : decode cX3_isAt 4 = .ok (.iload_n 1, 1) := by decide +kernel
theorem dX3_isAt_5 : decode cX3_isAt 5 = .ok (.iaload, 1) := by decide +kernel
theorem dX3_isAt_6 : decode cX3_isAt 6 = .ok (.iload_n 2, 1) := by decide +kernel
theorem dX3_isAt_7 : decode cX3_isAt 7 = .ok (.if_icmp .ne 17, 3) := by decide +kernel
theorem dX3_isAt_10 : decode cX3_isAt 10 = .ok (.aload_n 0, 1) := by decide +kernel
theorem dX3_isAt_11 : decode cX3_isAt 11 = .ok (.getfield 15, 3) := by decide +kernel
theorem dX3_isAt_14 : decode cX3_isAt 14 = .ok (.iload_n 1, 1) := by decide +kernel
theorem dX3_isAt_15 : decode cX3_isAt 15 = .ok (.iaload, 1) := by decide +kernel
theorem dX3_isAt_16 : decode cX3_isAt 16 = .ok (.iload_n 3, 1) := by decide +kernel
theorem dX3_isAt_17 : decode cX3_isAt 17 = .ok (.if_icmp .ne 7, 3) := by decide +kernel
theorem dX3_isAt_20 : decode cX3_isAt 20 = .ok (.iconst 1, 1) := by decide +kernel
theorem dX3_isAt_21 : decode cX3_isAt 21 = .ok (.goto 4, 3) := by decide +kernel
theorem dX3_isAt_24 : decode cX3_isAt 24 = .ok (.iconst 0, 1) := by decide +kernel
theorem dX3_isAt_25 : decode cX3_isAt 25 = .ok (.ireturn, 1) := by decide +kernel
def wp_X3_isAt  (σ : St) (x1 : Int32) (x2 : Int32) (x3 : Int32) (Q : Int32 → St → Prop) : Prop :=
  vp_in x1 60 ∧
  (if (σ 14 (ix x1)) = x2 then
  (vp_in x1 60 ∧
  (if (σ 15 (ix x1)) = x3 then
  (Q 1 σ)
  else (Q 0 σ)))
  else (Q 0 σ))
theorem c_X3_isAt  {σ : St} {x1 : Int32} {x2 : Int32} {x3 : Int32} {Q : Int32 → St → Prop} (h : wp_X3_isAt σ x1 x2 x3 Q) : ctI l yX3_isAt cX3_isAt 4 (some .boolean) rm_X3_isAt D (wC cI cZ cH a n) (tyW cI cZ cH) [.ref (a 13), .int x1, .int x2, .int x3] σ (fun r9 u9 => isB r9 ∧ Q r9 u9) := by
  refine mk_I (wC_ok cI cZ cH a n) (by decide +kernel) (Nat.le_of_ble_eq_true rfl) (fun p e s m args below meth c A X hr9 hlk9 => ?_)
  refine r_pick (lv' := [(0, .ref (a 13)), (1, .int x1), (2, .int x2), (3, .int x3)]) [0, 1, 2, 3] rfl ?_
  delta wp_X3_isAt at h
  refine r_aload_n X 0 1 dX3_isAt_0 rfl rfl rfl ?_
  refine g_X3_9 X 4 dX3_isAt_1 rfl ?_
  refine r_iload_n X 1 5 dX3_isAt_4 rfl rfl rfl ?_
  obtain ⟨hin, h⟩ := h
  refine l_C14 X 6 hin dX3_isAt_5 rfl ?_
  refine r_iload_n X 2 7 dX3_isAt_6 rfl rfl rfl ?_
  refine r_icmp_ne X 24 10 h dX3_isAt_7 rfl rfl (fun h => ?_) (fun h => ?_)
  · refine r_iconst (v := 0) X 25 dX3_isAt_24 (by decide) rfl ?_
    exact r_zret X hr9 hlk9 isB_0 h dX3_isAt_25
  · refine r_aload_n X 0 11 dX3_isAt_10 rfl rfl rfl ?_
    refine g_X3_15 X 14 dX3_isAt_11 rfl ?_
    refine r_iload_n X 1 15 dX3_isAt_14 rfl rfl rfl ?_
    obtain ⟨hin, h⟩ := h
    refine l_C15 X 16 hin dX3_isAt_15 rfl ?_
    refine r_iload_n X 3 17 dX3_isAt_16 rfl rfl rfl ?_
    refine r_icmp_ne X 24 20 h dX3_isAt_17 rfl rfl (fun h => ?_) (fun h => ?_)
    · refine r_iconst (v := 0) X 25 dX3_isAt_24 (by decide) rfl ?_
      exact r_zret X hr9 hlk9 isB_0 h dX3_isAt_25
    · refine r_iconst (v := 1) X 21 dX3_isAt_20 (by decide) rfl ?_
      refine r_goto X 25 dX3_isAt_21 rfl ?_
      exact r_zret X hr9 hlk9 isB_1 h dX3_isAt_25
def rm_X3_goOn : Room := { frames := 2, cells := 0, slots := 0, locals := 46 }
theorem dX3_goOn_0 : decode cX3_goOn 0 = .ok (.aload_n 0, 1) := by decide +kernel
theorem dX3_goOn_1 : decode cX3_goOn 1 = .ok (.aload_n 0, 1) := by decide +kernel
theorem dX3_goOn_2 : decode cX3_goOn 2 = .ok (.getfield 108, 3) := by decide +kernel
theorem dX3_goOn_5 : decode cX3_goOn 5 = .ok (.iconst 2, 1) := by decide +kernel
theorem dX3_goOn_6 : decode cX3_goOn 6 = .ok (.aload_n 0, 1) := by decide +kernel
theorem dX3_goOn_7 : decode cX3_goOn 7 = .ok (.getfield 117, 3) := by decide +kernel
theorem dX3_goOn_10 : decode cX3_goOn 10 = .ok (.invokevirtual 208, 3) := by decide +kernel
theorem dX3_goOn_13 : decode cX3_goOn 13 = .ok (.ifCond .eq 28, 3) := by decide +kernel
theorem dX3_goOn_16 : decode cX3_goOn 16 = .ok (.aload_n 0, 1) := by decide +kernel
theorem dX3_goOn_17 : decode cX3_goOn 17 = .ok (.getfield 48, 3) := by decide +kernel
theorem dX3_goOn_20 : decode cX3_goOn 20 = .ok (.aload_n 0, 1) := by decide +kernel
theorem dX3_goOn_21 : decode cX3_goOn 21 = .ok (.getfield 120, 3) := by decide +kernel
theorem dX3_goOn_24 : decode cX3_goOn 24 = .ok (.invokevirtual 195, 3) := by decide +kernel
theorem dX3_goOn_27 : decode cX3_goOn 27 = .ok (.ifCond .eq 14, 3) := by decide +kernel
theorem dX3_goOn_30 : decode cX3_goOn 30 = .ok (.aload_n 0, 1) := by decide +kernel
theorem dX3_goOn_31 : decode cX3_goOn 31 = .ok (.getfield 117, 3) := by decide +kernel
theorem dX3_goOn_34 : decode cX3_goOn 34 = .ok (.aload_n 0, 1) := by decide +kernel
theorem dX3_goOn_35 : decode cX3_goOn 35 = .ok (.getfield 120, 3) := by decide +kernel
theorem dX3_goOn_38 : decode cX3_goOn 38 = .ok (.if_icmp .ne 5, 3) := by decide +kernel
theorem dX3_goOn_41 : decode cX3_goOn 41 = .ok (.iconst 0, 1) := by decide +kernel
theorem dX3_goOn_42 : decode cX3_goOn 42 = .ok (.ireturn, 1) := by decide +kernel
theorem dX3_goOn_43 : decode cX3_goOn 43 = .ok (.aload_n 0, 1) := by decide +kernel
theorem dX3_goOn_44 : decode cX3_goOn 44 = .ok (.aload_n 0, 1) := by decide +kernel
theorem dX3_goOn_45 : decode cX3_goOn 45 = .ok (.getfield 108, 3) := by decide +kernel
theorem dX3_goOn_48 : decode cX3_goOn 48 = .ok (.iconst 2, 1) := by decide +kernel
theorem dX3_goOn_49 : decode cX3_goOn 49 = .ok (.aload_n 0, 1) := by decide +kernel
theorem dX3_goOn_50 : decode cX3_goOn 50 = .ok (.getfield 120, 3) := by decide +kernel
theorem dX3_goOn_53 : decode cX3_goOn 53 = .ok (.invokevirtual 201, 3) := by decide +kernel
theorem dX3_goOn_56 : decode cX3_goOn 56 = .ok (.iconst 1, 1) := by decide +kernel
theorem dX3_goOn_57 : decode cX3_goOn 57 = .ok (.ireturn, 1) := by decide +kernel
def wp_X3_goOn  (σ : St) (Q : Int32 → St → Prop) : Prop :=
  wp_X3_isAt σ (σ 13 13) 2 (σ 13 16) (fun y2 σ1 =>
  if y2 = 0 then
  (Q 0 σ1)
  else (wp_X4_isHand σ1 (σ1 13 17) (fun y4 σ3 =>
  if y4 = 0 then
  (Q 0 σ3)
  else (if (σ3 13 16) = (σ3 13 17) then
  (Q 0 σ3)
  else (wp_X3_move σ3 (σ3 13 13) 2 (σ3 13 17) (fun σ5 =>
  Q 1 σ5))))))
theorem c_X3_goOn  {σ : St} {Q : Int32 → St → Prop} (h : wp_X3_goOn σ Q) : ctI l yX3_goOn cX3_goOn 1 (some .boolean) rm_X3_goOn D (wC cI cZ cH a n) (tyW cI cZ cH) [.ref (a 13)] σ (fun r9 u9 => isB r9 ∧ Q r9 u9) := by
  refine mk_I (wC_ok cI cZ cH a n) (by decide +kernel) (Nat.le_of_ble_eq_true rfl) (fun p e s m args below meth c A X hr9 hlk9 => ?_)
  refine r_pick (lv' := [(0, .ref (a 13))]) [0] rfl ?_
  delta wp_X3_goOn at h
  refine r_aload_n X 0 1 dX3_goOn_0 rfl rfl rfl ?_
  refine r_aload_n X 0 2 dX3_goOn_1 rfl rfl rfl ?_
  refine g_X3_108 X 5 dX3_goOn_2 rfl ?_
  refine r_iconst (v := 2) X 6 dX3_goOn_5 (by decide) rfl ?_
  refine r_aload_n X 0 7 dX3_goOn_6 rfl rfl rfl ?_
  refine g_X3_117 X 10 dX3_goOn_7 rfl ?_
  refine r_callI (As := [.int (σ 13 13), .int 2, .int (σ 13 16)]) (rest := []) X 13 (c_X3_isAt h) ml_X3_208 lk_X3_isAt wC_at_13 rfl rfl rfl (Nat.le_of_ble_eq_true rfl) ⟨rfl, rfl, ⟨Nat.le_of_ble_eq_true rfl, Nat.le_of_ble_eq_true rfl⟩, Nat.le_of_ble_eq_true rfl, Nat.le_of_ble_eq_true rfl⟩ dX3_goOn_10 rfl (fun y2 σ1 h => ?_)
  obtain ⟨hb_y2, h⟩ := h
  refine r_if_eq X 41 16 h dX3_goOn_13 rfl rfl (fun h => ?_) (fun h => ?_)
  · refine r_iconst (v := 0) X 42 dX3_goOn_41 (by decide) rfl ?_
    exact r_zret X hr9 hlk9 isB_0 h dX3_goOn_42
  · refine r_aload_n X 0 17 dX3_goOn_16 rfl rfl rfl ?_
    refine g_X3_48 X 20 dX3_goOn_17 rfl ?_
    refine r_aload_n X 0 21 dX3_goOn_20 rfl rfl rfl ?_
    refine g_X3_120 X 24 dX3_goOn_21 rfl ?_
    refine r_callNI (As := [.int (σ1 13 17)]) (rest := []) X 27 (c_X4_isHand h) ml_X3_195 lk_X4_isHand wC_at_1 rfl rfl rfl (Nat.le_of_ble_eq_true rfl) ⟨rfl, rfl, ⟨Nat.le_of_ble_eq_true rfl, Nat.le_of_ble_eq_true rfl⟩, Nat.le_of_ble_eq_true rfl, Nat.le_of_ble_eq_true rfl⟩ dX3_goOn_24 rfl (fun y4 σ3 h => ?_)
    obtain ⟨hb_y4, h⟩ := h
    refine r_if_eq X 41 30 h dX3_goOn_27 rfl rfl (fun h => ?_) (fun h => ?_)
    · refine r_iconst (v := 0) X 42 dX3_goOn_41 (by decide) rfl ?_
      exact r_zret X hr9 hlk9 isB_0 h dX3_goOn_42
    · refine r_aload_n X 0 31 dX3_goOn_30 rfl rfl rfl ?_
      refine g_X3_117 X 34 dX3_goOn_31 rfl ?_
      refine r_aload_n X 0 35 dX3_goOn_34 rfl rfl rfl ?_
      refine g_X3_120 X 38 dX3_goOn_35 rfl ?_
      refine r_icmp_ne X 43 41 h dX3_goOn_38 rfl rfl (fun h => ?_) (fun h => ?_)
      · refine r_aload_n X 0 44 dX3_goOn_43 rfl rfl rfl ?_
        refine r_aload_n X 0 45 dX3_goOn_44 rfl rfl rfl ?_
        refine g_X3_108 X 48 dX3_goOn_45 rfl ?_
        refine r_iconst (v := 2) X 49 dX3_goOn_48 (by decide) rfl ?_
        refine r_aload_n X 0 50 dX3_goOn_49 rfl rfl rfl ?_
        refine g_X3_120 X 53 dX3_goOn_50 rfl ?_
        refine r_callV (As := [.int (σ3 13 13), .int 2, .int (σ3 13 17)]) (rest := []) X 56 (c_X3_move h) ml_X3_201 lk_X3_move wC_at_13 rfl rfl rfl (Nat.le_of_ble_eq_true rfl) ⟨rfl, rfl, ⟨Nat.le_of_ble_eq_true rfl, Nat.le_of_ble_eq_true rfl⟩, Nat.le_of_ble_eq_true rfl, Nat.le_of_ble_eq_true rfl⟩ dX3_goOn_53 rfl (fun σ5 h => ?_)
        refine r_iconst (v := 1) X 57 dX3_goOn_56 (by decide) rfl ?_
        exact r_zret X hr9 hlk9 isB_1 h dX3_goOn_57
      · refine r_iconst (v := 0) X 42 dX3_goOn_41 (by decide) rfl ?_
        exact r_zret X hr9 hlk9 isB_0 h dX3_goOn_42
def rm_X3_comeBack : Room := { frames := 2, cells := 0, slots := 0, locals := 46 }
theorem dX3_comeBack_0 : decode cX3_comeBack 0 = .ok (.aload_n 0, 1) := by decide +kernel
theorem dX3_comeBack_1 : decode cX3_comeBack 1 = .ok (.aload_n 0, 1) := by decide +kernel
theorem dX3_comeBack_2 : decode cX3_comeBack 2 = .ok (.getfield 108, 3) := by decide +kernel
theorem dX3_comeBack_5 : decode cX3_comeBack 5 = .ok (.iconst 2, 1) := by decide +kernel
theorem dX3_comeBack_6 : decode cX3_comeBack 6 = .ok (.aload_n 0, 1) := by decide +kernel
theorem dX3_comeBack_7 : decode cX3_comeBack 7 = .ok (.getfield 120, 3) := by decide +kernel
theorem dX3_comeBack_10 : decode cX3_comeBack 10 = .ok (.invokevirtual 208, 3) := by decide +kernel
theorem dX3_comeBack_13 : decode cX3_comeBack 13 = .ok (.ifCond .eq 29, 3) := by decide +kernel
theorem dX3_comeBack_16 : decode cX3_comeBack 16 = .ok (.aload_n 0, 1) := by decide +kernel
theorem dX3_comeBack_17 : decode cX3_comeBack 17 = .ok (.aload_n 0, 1) := by decide +kernel
theorem dX3_comeBack_18 : decode cX3_comeBack 18 = .ok (.aload_n 0, 1) := by decide +kernel
theorem dX3_comeBack_19 : decode cX3_comeBack 19 = .ok (.getfield 108, 3) := by decide +kernel
theorem dX3_comeBack_22 : decode cX3_comeBack 22 = .ok (.invokevirtual 188, 3) := by decide +kernel
theorem dX3_comeBack_25 : decode cX3_comeBack 25 = .ok (.invokevirtual 191, 3) := by decide +kernel
theorem dX3_comeBack_28 : decode cX3_comeBack 28 = .ok (.ifCond .eq 14, 3) := by decide +kernel
theorem dX3_comeBack_31 : decode cX3_comeBack 31 = .ok (.aload_n 0, 1) := by decide +kernel
theorem dX3_comeBack_32 : decode cX3_comeBack 32 = .ok (.aload_n 0, 1) := by decide +kernel
theorem dX3_comeBack_33 : decode cX3_comeBack 33 = .ok (.getfield 117, 3) := by decide +kernel
theorem dX3_comeBack_36 : decode cX3_comeBack 36 = .ok (.invokevirtual 198, 3) := by decide +kernel
theorem dX3_comeBack_39 : decode cX3_comeBack 39 = .ok (.ifCond .ne 5, 3) := by decide +kernel
theorem dX3_comeBack_42 : decode cX3_comeBack 42 = .ok (.iconst 0, 1) := by decide +kernel
theorem dX3_comeBack_43 : decode cX3_comeBack 43 = .ok (.ireturn, 1) := by decide +kernel
theorem dX3_comeBack_44 : decode cX3_comeBack 44 = .ok (.aload_n 0, 1) := by decide +kernel
theorem dX3_comeBack_45 : decode cX3_comeBack 45 = .ok (.aload_n 0, 1) := by decide +kernel
theorem dX3_comeBack_46 : decode cX3_comeBack 46 = .ok (.getfield 108, 3) := by decide +kernel
theorem dX3_comeBack_49 : decode cX3_comeBack 49 = .ok (.iconst 1, 1) := by decide +kernel
theorem dX3_comeBack_50 : decode cX3_comeBack 50 = .ok (.aload_n 0, 1) := by decide +kernel
theorem dX3_comeBack_51 : decode cX3_comeBack 51 = .ok (.getfield 117, 3) := by decide +kernel
theorem dX3_comeBack_54 : decode cX3_comeBack 54 = .ok (.invokevirtual 201, 3) := by decide +kernel
theorem dX3_comeBack_57 : decode cX3_comeBack 57 = .ok (.aload_n 0, 1) := by decide +kernel
theorem dX3_comeBack_58 : decode cX3_comeBack 58 = .ok (.getfield 24, 3) := by decide +kernel
theorem dX3_comeBack_61 : decode cX3_comeBack 61 = .ok (.aload_n 0, 1) := by decide +kernel
theorem dX3_comeBack_62 : decode cX3_comeBack 62 = .ok (.getfield 108, 3) := by decide +kernel
theorem dX3_comeBack_65 : decode cX3_comeBack 65 = .ok (.iconst (-1), 1) := by decide +kernel
theorem dX3_comeBack_66 : decode cX3_comeBack 66 = .ok (.iastore, 1) := by decide +kernel
theorem dX3_comeBack_67 : decode cX3_comeBack 67 = .ok (.iconst 1, 1) := by decide +kernel
theorem dX3_comeBack_68 : decode cX3_comeBack 68 = .ok (.ireturn, 1) := by decide +kernel
def wp_X3_comeBack  (σ : St) (Q : Int32 → St → Prop) : Prop :=
  wp_X3_isAt σ (σ 13 13) 2 (σ 13 17) (fun y2 σ1 =>
  if y2 = 0 then
  (Q 0 σ1)
  else (wp_X3_isMoneyBag σ1 (σ1 13 13) (fun y4 σ3 =>
  wp_X3_keepersServe σ3 y4 (fun y6 σ5 =>
  if y6 = 0 then
  (Q 0 σ5)
  else (wp_X3_mayLieAt σ5 (σ5 13 16) (fun y8 σ7 =>
  if y8 = 0 then
  (Q 0 σ7)
  else (wp_X3_move σ7 (σ7 13 13) 1 (σ7 13 16) (fun σ9 =>
  vp_in (σ9 13 13) 60 ∧
  nmS (up2 σ9 18 (ix (σ9 13 13)) (-1)) (fun σ10 =>
  Q 1 σ10)))))))))
theorem c_X3_comeBack  {σ : St} {Q : Int32 → St → Prop} (h : wp_X3_comeBack σ Q) : ctI l yX3_comeBack cX3_comeBack 1 (some .boolean) rm_X3_comeBack D (wC cI cZ cH a n) (tyW cI cZ cH) [.ref (a 13)] σ (fun r9 u9 => isB r9 ∧ Q r9 u9) := by
  refine mk_I (wC_ok cI cZ cH a n) (by decide +kernel) (Nat.le_of_ble_eq_true rfl) (fun p e s m args below meth c A X hr9 hlk9 => ?_)
  refine r_pick (lv' := [(0, .ref (a 13))]) [0] rfl ?_
  delta wp_X3_comeBack at h
  refine r_aload_n X 0 1 dX3_comeBack_0 rfl rfl rfl ?_
  refine r_aload_n X 0 2 dX3_comeBack_1 rfl rfl rfl ?_
  refine g_X3_108 X 5 dX3_comeBack_2 rfl ?_
  refine r_iconst (v := 2) X 6 dX3_comeBack_5 (by decide) rfl ?_
  refine r_aload_n X 0 7 dX3_comeBack_6 rfl rfl rfl ?_
  refine g_X3_120 X 10 dX3_comeBack_7 rfl ?_
  refine r_callI (As := [.int (σ 13 13), .int 2, .int (σ 13 17)]) (rest := []) X 13 (c_X3_isAt h) ml_X3_208 lk_X3_isAt wC_at_13 rfl rfl rfl (Nat.le_of_ble_eq_true rfl) ⟨rfl, rfl, ⟨Nat.le_of_ble_eq_true rfl, Nat.le_of_ble_eq_true rfl⟩, Nat.le_of_ble_eq_true rfl, Nat.le_of_ble_eq_true rfl⟩ dX3_comeBack_10 rfl (fun y2 σ1 h => ?_)
  obtain ⟨hb_y2, h⟩ := h
  refine r_if_eq X 42 16 h dX3_comeBack_13 rfl rfl (fun h => ?_) (fun h => ?_)
  · refine r_iconst (v := 0) X 43 dX3_comeBack_42 (by decide) rfl ?_
    exact r_zret X hr9 hlk9 isB_0 h dX3_comeBack_43
  · refine r_aload_n X 0 17 dX3_comeBack_16 rfl rfl rfl ?_
    refine r_aload_n X 0 18 dX3_comeBack_17 rfl rfl rfl ?_
    refine r_aload_n X 0 19 dX3_comeBack_18 rfl rfl rfl ?_
    refine g_X3_108 X 22 dX3_comeBack_19 rfl ?_
    refine r_callI (As := [.int (σ1 13 13)]) (rest := [.ref (a 13)]) X 25 (c_X3_isMoneyBag h) ml_X3_188 lk_X3_isMoneyBag wC_at_13 rfl rfl rfl (Nat.le_of_ble_eq_true rfl) ⟨rfl, rfl, ⟨Nat.le_of_ble_eq_true rfl, Nat.le_of_ble_eq_true rfl⟩, Nat.le_of_ble_eq_true rfl, Nat.le_of_ble_eq_true rfl⟩ dX3_comeBack_22 rfl (fun y4 σ3 h => ?_)
    obtain ⟨hb_y4, h⟩ := h
    refine r_callI (As := [.int y4]) (rest := []) X 28 (c_X3_keepersServe h) ml_X3_191 lk_X3_keepersServe wC_at_13 rfl rfl rfl (Nat.le_of_ble_eq_true rfl) ⟨rfl, rfl, ⟨Nat.le_of_ble_eq_true rfl, Nat.le_of_ble_eq_true rfl⟩, Nat.le_of_ble_eq_true rfl, Nat.le_of_ble_eq_true rfl⟩ dX3_comeBack_25 rfl (fun y6 σ5 h => ?_)
    obtain ⟨hb_y6, h⟩ := h
    refine r_if_eq X 42 31 h dX3_comeBack_28 rfl rfl (fun h => ?_) (fun h => ?_)
    · refine r_iconst (v := 0) X 43 dX3_comeBack_42 (by decide) rfl ?_
      exact r_zret X hr9 hlk9 isB_0 h dX3_comeBack_43
    · refine r_aload_n X 0 32 dX3_comeBack_31 rfl rfl rfl ?_
      refine r_aload_n X 0 33 dX3_comeBack_32 rfl rfl rfl ?_
      refine g_X3_117 X 36 dX3_comeBack_33 rfl ?_
      refine r_callI (As := [.int (σ5 13 16)]) (rest := []) X 39 (c_X3_mayLieAt h) ml_X3_198 lk_X3_mayLieAt wC_at_13 rfl rfl rfl (Nat.le_of_ble_eq_true rfl) ⟨rfl, rfl, ⟨Nat.le_of_ble_eq_true rfl, Nat.le_of_ble_eq_true rfl⟩, Nat.le_of_ble_eq_true rfl, Nat.le_of_ble_eq_true rfl⟩ dX3_comeBack_36 rfl (fun y8 σ7 h => ?_)
      obtain ⟨hb_y8, h⟩ := h
      refine r_if_ne X 44 42 h dX3_comeBack_39 rfl rfl (fun h => ?_) (fun h => ?_)
      · refine r_aload_n X 0 45 dX3_comeBack_44 rfl rfl rfl ?_
        refine r_aload_n X 0 46 dX3_comeBack_45 rfl rfl rfl ?_
        refine g_X3_108 X 49 dX3_comeBack_46 rfl ?_
        refine r_iconst (v := 1) X 50 dX3_comeBack_49 (by decide) rfl ?_
        refine r_aload_n X 0 51 dX3_comeBack_50 rfl rfl rfl ?_
        refine g_X3_117 X 54 dX3_comeBack_51 rfl ?_
        refine r_callV (As := [.int (σ7 13 13), .int 1, .int (σ7 13 16)]) (rest := []) X 57 (c_X3_move h) ml_X3_201 lk_X3_move wC_at_13 rfl rfl rfl (Nat.le_of_ble_eq_true rfl) ⟨rfl, rfl, ⟨Nat.le_of_ble_eq_true rfl, Nat.le_of_ble_eq_true rfl⟩, Nat.le_of_ble_eq_true rfl, Nat.le_of_ble_eq_true rfl⟩ dX3_comeBack_54 rfl (fun σ9 h => ?_)
        refine r_aload_n X 0 58 dX3_comeBack_57 rfl rfl rfl ?_
        refine g_X3_24 X 61 dX3_comeBack_58 rfl ?_
        refine r_aload_n X 0 62 dX3_comeBack_61 rfl rfl rfl ?_
        refine g_X3_108 X 65 dX3_comeBack_62 rfl ?_
        refine r_iconst (v := (-1)) X 66 dX3_comeBack_65 (by decide) rfl ?_
        obtain ⟨hin, h⟩ := h
        refine s_C18 X 67 hin dX3_comeBack_66 rfl ?_
        refine r_nmS h (fun σ10 h => ?_)
        refine r_iconst (v := 1) X 68 dX3_comeBack_67 (by decide) rfl ?_
        exact r_zret X hr9 hlk9 isB_1 h dX3_comeBack_68
      · refine r_iconst (v := 0) X 43 dX3_comeBack_42 (by decide) rfl ?_
        exact r_zret X hr9 hlk9 isB_0 h dX3_comeBack_43
def rm_X3_putElsewhere : Room := { frames := 2, cells := 0, slots := 0, locals := 46 }
theorem dX3_putElsewhere_0 : decode cX3_putElsewhere 0 = .ok (.aload_n 0, 1) := by decide +kernel
theorem dX3_putElsewhere_1 : decode cX3_putElsewhere 1 = .ok (.getfield 9, 3) := by decide +kernel
theorem dX3_putElsewhere_4 : decode cX3_putElsewhere 4 = .ok (.aload_n 0, 1) := by decide +kernel
theorem dX3_putElsewhere_5 : decode cX3_putElsewhere 5 = .ok (.getfield 108, 3) := by decide +kernel
theorem dX3_putElsewhere_8 : decode cX3_putElsewhere 8 = .ok (.iaload, 1) := by decide +kernel
theorem dX3_putElsewhere_9 : decode cX3_putElsewhere 9 = .ok (.iconst 1, 1) := by decide +kernel
theorem dX3_putElsewhere_10 : decode cX3_putElsewhere 10 = .ok (.if_icmp .ne 29, 3) := by decide +kernel
theorem dX3_putElsewhere_13 : decode cX3_putElsewhere 13 = .ok (.aload_n 0, 1) := by decide +kernel
theorem dX3_putElsewhere_14 : decode cX3_putElsewhere 14 = .ok (.aload_n 0, 1) := by decide +kernel
theorem dX3_putElsewhere_15 : decode cX3_putElsewhere 15 = .ok (.aload_n 0, 1) := by decide +kernel
theorem dX3_putElsewhere_16 : decode cX3_putElsewhere 16 = .ok (.getfield 108, 3) := by decide +kernel
theorem dX3_putElsewhere_19 : decode cX3_putElsewhere 19 = .ok (.invokevirtual 188, 3) := by decide +kernel
theorem dX3_putElsewhere_22 : decode cX3_putElsewhere 22 = .ok (.invokevirtual 191, 3) := by decide +kernel
theorem dX3_putElsewhere_25 : decode cX3_putElsewhere 25 = .ok (.ifCond .eq 14, 3) := by decide +kernel
theorem dX3_putElsewhere_28 : decode cX3_putElsewhere 28 = .ok (.aload_n 0, 1) := by decide +kernel
theorem dX3_putElsewhere_29 : decode cX3_putElsewhere 29 = .ok (.aload_n 0, 1) := by decide +kernel
theorem dX3_putElsewhere_30 : decode cX3_putElsewhere 30 = .ok (.getfield 117, 3) := by decide +kernel
theorem dX3_putElsewhere_33 : decode cX3_putElsewhere 33 = .ok (.invokevirtual 198, 3) := by decide +kernel
theorem dX3_putElsewhere_36 : decode cX3_putElsewhere 36 = .ok (.ifCond .ne 5, 3) := by decide +kernel
theorem dX3_putElsewhere_39 : decode cX3_putElsewhere 39 = .ok (.iconst 0, 1) := by decide +kernel
theorem dX3_putElsewhere_40 : decode cX3_putElsewhere 40 = .ok (.ireturn, 1) := by decide +kernel
theorem dX3_putElsewhere_41 : decode cX3_putElsewhere 41 = .ok (.aload_n 0, 1) := by decide +kernel
theorem dX3_putElsewhere_42 : decode cX3_putElsewhere 42 = .ok (.aload_n 0, 1) := by decide +kernel
theorem dX3_putElsewhere_43 : decode cX3_putElsewhere 43 = .ok (.getfield 108, 3) := by decide +kernel
theorem dX3_putElsewhere_46 : decode cX3_putElsewhere 46 = .ok (.iconst 1, 1) := by decide +kernel
theorem dX3_putElsewhere_47 : decode cX3_putElsewhere 47 = .ok (.aload_n 0, 1) := by decide +kernel
theorem dX3_putElsewhere_48 : decode cX3_putElsewhere 48 = .ok (.getfield 117, 3) := by decide +kernel
theorem dX3_putElsewhere_51 : decode cX3_putElsewhere 51 = .ok (.invokevirtual 201, 3) := by decide +kernel
theorem dX3_putElsewhere_54 : decode cX3_putElsewhere 54 = .ok (.iconst 1, 1) := by decide +kernel
theorem dX3_putElsewhere_55 : decode cX3_putElsewhere 55 = .ok (.ireturn, 1) := by decide +kernel
def wp_X3_putElsewhere  (σ : St) (Q : Int32 → St → Prop) : Prop :=
  vp_in (σ 13 13) 60 ∧
  (if (σ 14 (ix (σ 13 13))) = 1 then
  (wp_X3_isMoneyBag σ (σ 13 13) (fun y2 σ1 =>
  wp_X3_keepersServe σ1 y2 (fun y4 σ3 =>
  if y4 = 0 then
  (Q 0 σ3)
  else (wp_X3_mayLieAt σ3 (σ3 13 16) (fun y6 σ5 =>
  if y6 = 0 then
  (Q 0 σ5)
  else (wp_X3_move σ5 (σ5 13 13) 1 (σ5 13 16) (fun σ7 =>
  Q 1 σ7)))))))
  else (Q 0 σ))
theorem c_X3_putElsewhere  {σ : St} {Q : Int32 → St → Prop} (h : wp_X3_putElsewhere σ Q) : ctI l yX3_putElsewhere cX3_putElsewhere 1 (some .boolean) rm_X3_putElsewhere D (wC cI cZ cH a n) (tyW cI cZ cH) [.ref (a 13)] σ (fun r9 u9 => isB r9 ∧ Q r9 u9) := by
  refine mk_I (wC_ok cI cZ cH a n) (by decide +kernel) (Nat.le_of_ble_eq_true rfl) (fun p e s m args below meth c A X hr9 hlk9 => ?_)
  refine r_pick (lv' := [(0, .ref (a 13))]) [0] rfl ?_
  delta wp_X3_putElsewhere at h
  refine r_aload_n X 0 1 dX3_putElsewhere_0 rfl rfl rfl ?_
  refine g_X3_9 X 4 dX3_putElsewhere_1 rfl ?_
  refine r_aload_n X 0 5 dX3_putElsewhere_4 rfl rfl rfl ?_
  refine g_X3_108 X 8 dX3_putElsewhere_5 rfl ?_
  obtain ⟨hin, h⟩ := h
  refine l_C14 X 9 hin dX3_putElsewhere_8 rfl ?_
  refine r_iconst (v := 1) X 10 dX3_putElsewhere_9 (by decide) rfl ?_
  refine r_icmp_ne X 39 13 h dX3_putElsewhere_10 rfl rfl (fun h => ?_) (fun h => ?_)
  · refine r_iconst (v := 0) X 40 dX3_putElsewhere_39 (by decide) rfl ?_
    exact r_zret X hr9 hlk9 isB_0 h dX3_putElsewhere_40
  · refine r_aload_n X 0 14 dX3_putElsewhere_13 rfl rfl rfl ?_
    refine r_aload_n X 0 15 dX3_putElsewhere_14 rfl rfl rfl ?_
    refine r_aload_n X 0 16 dX3_putElsewhere_15 rfl rfl rfl ?_
    refine g_X3_108 X 19 dX3_putElsewhere_16 rfl ?_
    refine r_callI (As := [.int (σ 13 13)]) (rest := [.ref (a 13)]) X 22 (c_X3_isMoneyBag h) ml_X3_188 lk_X3_isMoneyBag wC_at_13 rfl rfl rfl (Nat.le_of_ble_eq_true rfl) ⟨rfl, rfl, ⟨Nat.le_of_ble_eq_true rfl, Nat.le_of_ble_eq_true rfl⟩, Nat.le_of_ble_eq_true rfl, Nat.le_of_ble_eq_true rfl⟩ dX3_putElsewhere_19 rfl (fun y2 σ1 h => ?_)
    obtain ⟨hb_y2, h⟩ := h
    refine r_callI (As := [.int y2]) (rest := []) X 25 (c_X3_keepersServe h) ml_X3_191 lk_X3_keepersServe wC_at_13 rfl rfl rfl (Nat.le_of_ble_eq_true rfl) ⟨rfl, rfl, ⟨Nat.le_of_ble_eq_true rfl, Nat.le_of_ble_eq_true rfl⟩, Nat.le_of_ble_eq_true rfl, Nat.le_of_ble_eq_true rfl⟩ dX3_putElsewhere_22 rfl (fun y4 σ3 h => ?_)
    obtain ⟨hb_y4, h⟩ := h
    refine r_if_eq X 39 28 h dX3_putElsewhere_25 rfl rfl (fun h => ?_) (fun h => ?_)
    · refine r_iconst (v := 0) X 40 dX3_putElsewhere_39 (by decide) rfl ?_
      exact r_zret X hr9 hlk9 isB_0 h dX3_putElsewhere_40
    · refine r_aload_n X 0 29 dX3_putElsewhere_28 rfl rfl rfl ?_
      refine r_aload_n X 0 30 dX3_putElsewhere_29 rfl rfl rfl ?_
      refine g_X3_117 X 33 dX3_putElsewhere_30 rfl ?_
      refine r_callI (As := [.int (σ3 13 16)]) (rest := []) X 36 (c_X3_mayLieAt h) ml_X3_198 lk_X3_mayLieAt wC_at_13 rfl rfl rfl (Nat.le_of_ble_eq_true rfl) ⟨rfl, rfl, ⟨Nat.le_of_ble_eq_true rfl, Nat.le_of_ble_eq_true rfl⟩, Nat.le_of_ble_eq_true rfl, Nat.le_of_ble_eq_true rfl⟩ dX3_putElsewhere_33 rfl (fun y6 σ5 h => ?_)
      obtain ⟨hb_y6, h⟩ := h
      refine r_if_ne X 41 39 h dX3_putElsewhere_36 rfl rfl (fun h => ?_) (fun h => ?_)
      · refine r_aload_n X 0 42 dX3_putElsewhere_41 rfl rfl rfl ?_
        refine r_aload_n X 0 43 dX3_putElsewhere_42 rfl rfl rfl ?_
        refine g_X3_108 X 46 dX3_putElsewhere_43 rfl ?_
        refine r_iconst (v := 1) X 47 dX3_putElsewhere_46 (by decide) rfl ?_
        refine r_aload_n X 0 48 dX3_putElsewhere_47 rfl rfl rfl ?_
        refine g_X3_117 X 51 dX3_putElsewhere_48 rfl ?_
        refine r_callV (As := [.int (σ5 13 13), .int 1, .int (σ5 13 16)]) (rest := []) X 54 (c_X3_move h) ml_X3_201 lk_X3_move wC_at_13 rfl rfl rfl (Nat.le_of_ble_eq_true rfl) ⟨rfl, rfl, ⟨Nat.le_of_ble_eq_true rfl, Nat.le_of_ble_eq_true rfl⟩, Nat.le_of_ble_eq_true rfl, Nat.le_of_ble_eq_true rfl⟩ dX3_putElsewhere_51 rfl (fun σ7 h => ?_)
        refine r_iconst (v := 1) X 55 dX3_putElsewhere_54 (by decide) rfl ?_
        exact r_zret X hr9 hlk9 isB_1 h dX3_putElsewhere_55
      · refine r_iconst (v := 0) X 40 dX3_putElsewhere_39 (by decide) rfl ?_
        exact r_zret X hr9 hlk9 isB_0 h dX3_putElsewhere_40
def rm_X3_bagAround : Room := { frames := 0, cells := 0, slots := 0, locals := 0 }
theorem dX3_bagAround_0 : decode cX3_bagAround 0 = .ok (.aload_n 0, 1) := by decide +kernel
theorem dX3_bagAround_1 : decode cX3_bagAround 1 = .ok (.getfield 9, 3) := by decide +kernel
theorem dX3_bagAround_4 : decode cX3_bagAround 4 = .ok (.iload_n 1, 1) := by decide +kernel
theorem dX3_bagAround_5 : decode cX3_bagAround 5 = .ok (.iaload, 1) := by decide +kernel
theorem dX3_bagAround_6 : decode cX3_bagAround 6 = .ok (.iconst 3, 1) := by decide +kernel
theorem dX3_bagAround_7 : decode cX3_bagAround 7 = .ok (.if_icmp .ne 12, 3) := by decide +kernel
theorem dX3_bagAround_10 : decode cX3_bagAround 10 = .ok (.aload_n 0, 1) := by decide +kernel
theorem dX3_bagAround_11 : decode cX3_bagAround 11 = .ok (.getfield 15, 3) := by decide +kernel
theorem dX3_bagAround_14 : decode cX3_bagAround 14 = .ok (.iload_n 1, 1) := by decide +kernel
theorem dX3_bagAround_15 : decode cX3_bagAround 15 = .ok (.iaload, 1) := by decide +kernel
theorem dX3_bagAround_16 : decode cX3_bagAround 16 = .ok (.goto 4, 3) := by decide +kernel
theorem dX3_bagAround_19 : decode cX3_bagAround 19 = .ok (.iconst (-1), 1) := by decide +kernel
theorem dX3_bagAround_20 : decode cX3_bagAround 20 = .ok (.ireturn, 1) := by decide +kernel
def wp_X3_bagAround  (σ : St) (x1 : Int32) (Q : Int32 → St → Prop) : Prop :=
  vp_in x1 60 ∧
  (if (σ 14 (ix x1)) = 3 then
  (vp_in x1 60 ∧
  (Q (σ 15 (ix x1)) σ))
  else (Q (-1) σ))
theorem c_X3_bagAround  {σ : St} {x1 : Int32} {Q : Int32 → St → Prop} (h : wp_X3_bagAround σ x1 Q) : ctI l yX3_bagAround cX3_bagAround 2 (some .int) rm_X3_bagAround D (wC cI cZ cH a n) (tyW cI cZ cH) [.ref (a 13), .int x1] σ Q := by
  refine mk_I (wC_ok cI cZ cH a n) (by decide +kernel) (Nat.le_of_ble_eq_true rfl) (fun p e s m args below meth c A X hr9 hlk9 => ?_)
  refine r_pick (lv' := [(0, .ref (a 13)), (1, .int x1)]) [0, 1] rfl ?_
  delta wp_X3_bagAround at h
  refine r_aload_n X 0 1 dX3_bagAround_0 rfl rfl rfl ?_
  refine g_X3_9 X 4 dX3_bagAround_1 rfl ?_
  refine r_iload_n X 1 5 dX3_bagAround_4 rfl rfl rfl ?_
  obtain ⟨hin, h⟩ := h
  refine l_C14 X 6 hin dX3_bagAround_5 rfl ?_
  refine r_iconst (v := 3) X 7 dX3_bagAround_6 (by decide) rfl ?_
  refine r_icmp_ne X 19 10 h dX3_bagAround_7 rfl rfl (fun h => ?_) (fun h => ?_)
  · refine r_iconst (v := (-1)) X 20 dX3_bagAround_19 (by decide) rfl ?_
    exact r_iret X hr9 hlk9 h dX3_bagAround_20
  · refine r_aload_n X 0 11 dX3_bagAround_10 rfl rfl rfl ?_
    refine g_X3_15 X 14 dX3_bagAround_11 rfl ?_
    refine r_iload_n X 1 15 dX3_bagAround_14 rfl rfl rfl ?_
    obtain ⟨hin, h⟩ := h
    refine l_C15 X 16 hin dX3_bagAround_15 rfl ?_
    refine r_goto X 20 dX3_bagAround_16 rfl ?_
    exact r_iret X hr9 hlk9 h dX3_bagAround_20
def rm_X3_stepsUpTo : Room := { frames := 1, cells := 0, slots := 0, locals := 21 }
theorem dX3_stepsUpTo_0 : decode cX3_stepsUpTo 0 = .ok (.aload_n 0, 1) := by decide +kernel
theorem dX3_stepsUpTo_1 : decode cX3_stepsUpTo 1 = .ok (.iload_n 1, 1) := by decide +kernel
theorem dX3_stepsUpTo_2 : decode cX3_stepsUpTo 2 = .ok (.invokevirtual 218, 3) := by decide +kernel
theorem dX3_stepsUpTo_5 : decode cX3_stepsUpTo 5 = .ok (.istore_n 3, 1) := by decide +kernel
theorem dX3_stepsUpTo_6 : decode cX3_stepsUpTo 6 = .ok (.iconst 1, 1) := by decide +kernel
theorem dX3_stepsUpTo_7 : decode cX3_stepsUpTo 7 = .ok (.istore 4, 2) := by decide +kernel
theorem dX3_stepsUpTo_9 : decode cX3_stepsUpTo 9 = .ok (.iload 4, 2) := by decide +kernel
theorem dX3_stepsUpTo_11 : decode cX3_stepsUpTo 11 = .ok (.iconst 4, 1) := by decide +kernel
theorem dX3_stepsUpTo_12 : decode cX3_stepsUpTo 12 = .ok (.if_icmp .gt 34, 3) := by decide +kernel
theorem dX3_stepsUpTo_15 : decode cX3_stepsUpTo 15 = .ok (.aload_n 0, 1) := by decide +kernel
theorem dX3_stepsUpTo_16 : decode cX3_stepsUpTo 16 = .ok (.getfield 48, 3) := by decide +kernel
theorem dX3_stepsUpTo_19 : decode cX3_stepsUpTo 19 = .ok (.iload_n 3, 1) := by decide +kernel
theorem dX3_stepsUpTo_20 : decode cX3_stepsUpTo 20 = .ok (.invokevirtual 73, 3) := by decide +kernel
theorem dX3_stepsUpTo_23 : decode cX3_stepsUpTo 23 = .ok (.ifCond .eq 23, 3) := by decide +kernel
theorem dX3_stepsUpTo_26 : decode cX3_stepsUpTo 26 = .ok (.iload_n 3, 1) := by decide +kernel
theorem dX3_stepsUpTo_27 : decode cX3_stepsUpTo 27 = .ok (.iload_n 2, 1) := by decide +kernel
theorem dX3_stepsUpTo_28 : decode cX3_stepsUpTo 28 = .ok (.if_icmp .ne 6, 3) := by decide +kernel
theorem dX3_stepsUpTo_31 : decode cX3_stepsUpTo 31 = .ok (.iload 4, 2) := by decide +kernel
theorem dX3_stepsUpTo_33 : decode cX3_stepsUpTo 33 = .ok (.ireturn, 1) := by decide +kernel
theorem dX3_stepsUpTo_34 : decode cX3_stepsUpTo 34 = .ok (.aload_n 0, 1) := by decide +kernel
theorem dX3_stepsUpTo_35 : decode cX3_stepsUpTo 35 = .ok (.iload_n 3, 1) := by decide +kernel
theorem dX3_stepsUpTo_36 : decode cX3_stepsUpTo 36 = .ok (.invokevirtual 218, 3) := by decide +kernel
theorem dX3_stepsUpTo_39 : decode cX3_stepsUpTo 39 = .ok (.istore_n 3, 1) := by decide +kernel
theorem dX3_stepsUpTo_40 : decode cX3_stepsUpTo 40 = .ok (.iinc 4 1, 3) := by decide +kernel
theorem dX3_stepsUpTo_43 : decode cX3_stepsUpTo 43 = .ok (.goto (-34), 3) := by decide +kernel
theorem dX3_stepsUpTo_46 : decode cX3_stepsUpTo 46 = .ok (.iconst 0, 1) := by decide +kernel
theorem dX3_stepsUpTo_47 : decode cX3_stepsUpTo 47 = .ok (.ireturn, 1) := by decide +kernel
def b_X3_stepsUpTo_9  (Q : Int32 → St → Prop) (rec9 : Int32 → Int32 → Int32 → St → Prop) (v2 : Int32) (v3 : Int32) (v4 : Int32) (σ : St) : Prop :=
  if 4 < v4 then
  (Q 0 σ)
  else (wp_X4_isThing σ v3 (fun y4 σ3 =>
  if y4 = 0 then
  (Q 0 σ3)
  else (if v3 = v2 then
  (Q v4 σ3)
  else (wp_X3_bagAround σ3 v3 (fun y6 σ5 =>
  rec9 v2 y6 (v4 + 1) σ5)))))
def lp_X3_stepsUpTo_9  (Q : Int32 → St → Prop) (n9 : Nat) : Int32 → Int32 → Int32 → St → Prop :=
  Nat.rec (fun _ _ _ _ => False) (fun _ rec9 => b_X3_stepsUpTo_9  Q  rec9) n9
theorem wk_X3_stepsUpTo_9 (X : cx p s m args c cX3_stepsUpTo 5 RX3 D (wC cI cZ cH a n) A (tyW cI cZ cH)) (hr9 : meth.sig.returnType = (some .int)) (hlk9 : meth.locks = false)  {Q : Int32 → St → Prop} : ∀ (n9 : Nat) {v2 : Int32} {v3 : Int32} {v4 : Int32} {σ : St}, lp_X3_stepsUpTo_9 Q n9 v2 v3 v4 σ → go p l e rm_X3_stepsUpTo s m args below meth c D (wC cI cZ cH a n) A 0 0 (MQ below (va_Qi Q (atw D (wC cI cZ cH a n) (tyW cI cZ cH) A) A) args s 0 0 A) 5 9 [(0, .ref (a 13)), (2, .int v2), (3, .int v3), (4, .int v4)] [] σ := by
  intro n9
  induction n9 with
  | zero => intro v2 v3 v4 σ h; exact h.elim
  | succ n9 ih =>
    intro v2 v3 v4 σ h
    have hrec9 := fun v2 v3 v4 σ h => ih (σ := σ) (v2 := v2) (v3 := v3) (v4 := v4) h
    replace h : b_X3_stepsUpTo_9 Q (lp_X3_stepsUpTo_9 Q n9) v2 v3 v4 σ := h
    delta b_X3_stepsUpTo_9 at h
    refine r_iload X 3 11 dX3_stepsUpTo_9 rfl rfl ?_
    refine r_iconst (v := 4) X 12 dX3_stepsUpTo_11 (by decide) rfl ?_
    refine r_icmp_gt X 46 15 h dX3_stepsUpTo_12 rfl rfl (fun h => ?_) (fun h => ?_)
    · refine r_iconst (v := 0) X 47 dX3_stepsUpTo_46 (by decide) rfl ?_
      exact r_iret X hr9 hlk9 h dX3_stepsUpTo_47
    · refine r_aload_n X 0 16 dX3_stepsUpTo_15 rfl rfl rfl ?_
      refine g_X3_48 X 19 dX3_stepsUpTo_16 rfl ?_
      refine r_iload_n X 2 20 dX3_stepsUpTo_19 rfl rfl rfl ?_
      refine r_callNI (As := [.int v3]) (rest := []) X 23 (c_X4_isThing h) ml_X3_73 lk_X4_isThing wC_at_1 rfl rfl rfl (Nat.le_of_ble_eq_true rfl) ⟨rfl, rfl, ⟨Nat.le_of_ble_eq_true rfl, Nat.le_of_ble_eq_true rfl⟩, Nat.le_of_ble_eq_true rfl, Nat.le_of_ble_eq_true rfl⟩ dX3_stepsUpTo_20 rfl (fun y4 σ3 h => ?_)
      obtain ⟨hb_y4, h⟩ := h
      refine r_if_eq X 46 26 h dX3_stepsUpTo_23 rfl rfl (fun h => ?_) (fun h => ?_)
      · refine r_iconst (v := 0) X 47 dX3_stepsUpTo_46 (by decide) rfl ?_
        exact r_iret X hr9 hlk9 h dX3_stepsUpTo_47
      · refine r_iload_n X 2 27 dX3_stepsUpTo_26 rfl rfl rfl ?_
        refine r_iload_n X 1 28 dX3_stepsUpTo_27 rfl rfl rfl ?_
        refine r_icmp_ne X 34 31 h dX3_stepsUpTo_28 rfl rfl (fun h => ?_) (fun h => ?_)
        · refine r_aload_n X 0 35 dX3_stepsUpTo_34 rfl rfl rfl ?_
          refine r_iload_n X 2 36 dX3_stepsUpTo_35 rfl rfl rfl ?_
          refine r_callI (As := [.int v3]) (rest := []) X 39 (c_X3_bagAround h) ml_X3_218 lk_X3_bagAround wC_at_13 rfl rfl rfl (Nat.le_of_ble_eq_true rfl) ⟨rfl, rfl, ⟨Nat.le_of_ble_eq_true rfl, Nat.le_of_ble_eq_true rfl⟩, Nat.le_of_ble_eq_true rfl, Nat.le_of_ble_eq_true rfl⟩ dX3_stepsUpTo_36 rfl (fun y6 σ5 h => ?_)
          refine r_istore_n X 40 [(3, .int y6), (0, .ref (a 13)), (2, .int v2), (4, .int v4)] dX3_stepsUpTo_39 rfl (by decide) rfl rfl ?_
          refine r_iinc (d := 1) X 3 43 [(4, .int (v4 + 1)), (3, .int y6), (0, .ref (a 13)), (2, .int v2)] dX3_stepsUpTo_40 rfl (by decide) (by decide) rfl rfl ?_
          refine r_goto X 9 dX3_stepsUpTo_43 rfl ?_
          refine r_pick (lv' := [(0, .ref (a 13)), (2, .int v2), (3, .int y6), (4, .int (v4 + 1))]) [2, 3, 1, 0] rfl ?_
          exact hrec9 _ _ _ _ h
        · refine r_iload X 3 33 dX3_stepsUpTo_31 rfl rfl ?_
          exact r_iret X hr9 hlk9 h dX3_stepsUpTo_33
def wp_X3_stepsUpTo  (σ : St) (x1 : Int32) (x2 : Int32) (Q : Int32 → St → Prop) : Prop :=
  wp_X3_bagAround σ x1 (fun y2 σ1 =>
  ∃ n9 : Nat, lp_X3_stepsUpTo_9 Q n9 x2 y2 1 σ1)
theorem c_X3_stepsUpTo  {σ : St} {x1 : Int32} {x2 : Int32} {Q : Int32 → St → Prop} (h : wp_X3_stepsUpTo σ x1 x2 Q) : ctI l yX3_stepsUpTo cX3_stepsUpTo 5 (some .int) rm_X3_stepsUpTo D (wC cI cZ cH a n) (tyW cI cZ cH) [.ref (a 13), .int x1, .int x2] σ Q := by
  refine mk_I (wC_ok cI cZ cH a n) (by decide +kernel) (Nat.le_of_ble_eq_true rfl) (fun p e s m args below meth c A X hr9 hlk9 => ?_)
  refine r_pick (lv' := [(0, .ref (a 13)), (1, .int x1), (2, .int x2)]) [0, 1, 2] rfl ?_
  delta wp_X3_stepsUpTo at h
  refine r_aload_n X 0 1 dX3_stepsUpTo_0 rfl rfl rfl ?_
  refine r_iload_n X 1 2 dX3_stepsUpTo_1 rfl rfl rfl ?_
  refine r_callI (As := [.int x1]) (rest := []) X 5 (c_X3_bagAround h) ml_X3_218 lk_X3_bagAround wC_at_13 rfl rfl rfl (Nat.le_of_ble_eq_true rfl) ⟨rfl, rfl, ⟨Nat.le_of_ble_eq_true rfl, Nat.le_of_ble_eq_true rfl⟩, Nat.le_of_ble_eq_true rfl, Nat.le_of_ble_eq_true rfl⟩ dX3_stepsUpTo_2 rfl (fun y2 σ1 h => ?_)
  refine r_istore_n X 6 [(3, .int y2), (0, .ref (a 13)), (1, .int x1), (2, .int x2)] dX3_stepsUpTo_5 rfl (by decide) rfl rfl ?_
  refine r_iconst (v := 1) X 7 dX3_stepsUpTo_6 (by decide) rfl ?_
  refine r_istore X 9 [(4, .int 1), (3, .int y2), (0, .ref (a 13)), (1, .int x1), (2, .int x2)] dX3_stepsUpTo_7 (by decide) rfl rfl ?_
  refine r_pick (lv' := [(0, .ref (a 13)), (2, .int x2), (3, .int y2), (4, .int 1)]) [2, 4, 1, 0] rfl ?_
  obtain ⟨n9, h⟩ := h
  exact wk_X3_stepsUpTo_9 X hr9 hlk9 n9 h
def rm_X3_deepestIn : Room := { frames := 2, cells := 0, slots := 0, locals := 45 }
theorem dX3_deepestIn_0 : decode cX3_deepestIn 0 = .ok (.iconst 0, 1) := by decide +kernel
theorem dX3_deepestIn_1 : decode cX3_deepestIn 1 = .ok (.istore_n 2, 1) := by decide +kernel
theorem dX3_deepestIn_2 : decode cX3_deepestIn 2 = .ok (.iconst 0, 1) := by decide +kernel
theorem dX3_deepestIn_3 : decode cX3_deepestIn 3 = .ok (.istore_n 3, 1) := by decide +kernel
theorem dX3_deepestIn_4 : decode cX3_deepestIn 4 = .ok (.iload_n 3, 1) := by decide +kernel
theorem dX3_deepestIn_5 : decode cX3_deepestIn 5 = .ok (.aload_n 0, 1) := by decide +kernel
theorem dX3_deepestIn_6 : decode cX3_deepestIn 6 = .ok (.getfield 48, 3) := by decide +kernel
theorem dX3_deepestIn_9 : decode cX3_deepestIn 9 = .ok (.getfield 87, 3) := by decide +kernel
theorem dX3_deepestIn_12 : decode cX3_deepestIn 12 = .ok (.if_icmp .ge 20, 3) := by decide +kernel
theorem dX3_deepestIn_15 : decode cX3_deepestIn 15 = .ok (.iload_n 2, 1) := by decide +kernel
theorem dX3_deepestIn_16 : decode cX3_deepestIn 16 = .ok (.aload_n 0, 1) := by decide +kernel
theorem dX3_deepestIn_17 : decode cX3_deepestIn 17 = .ok (.iload_n 3, 1) := by decide +kernel
theorem dX3_deepestIn_18 : decode cX3_deepestIn 18 = .ok (.iload_n 1, 1) := by decide +kernel
theorem dX3_deepestIn_19 : decode cX3_deepestIn 19 = .ok (.invokevirtual 252, 3) := by decide +kernel
theorem dX3_deepestIn_22 : decode cX3_deepestIn 22 = .ok (.invokestatic 255, 3) := by decide +kernel
theorem dX3_deepestIn_25 : decode cX3_deepestIn 25 = .ok (.istore_n 2, 1) := by decide +kernel
theorem dX3_deepestIn_26 : decode cX3_deepestIn 26 = .ok (.iinc 3 1, 3) := by decide +kernel
theorem dX3_deepestIn_29 : decode cX3_deepestIn 29 = .ok (.goto (-25), 3) := by decide +kernel
theorem dX3_deepestIn_32 : decode cX3_deepestIn 32 = .ok (.iload_n 2, 1) := by decide +kernel
theorem dX3_deepestIn_33 : decode cX3_deepestIn 33 = .ok (.ireturn, 1) := by decide +kernel
def b_X3_deepestIn_4  (Q : Int32 → St → Prop) (rec4 : Int32 → Int32 → Int32 → St → Prop) (v1 : Int32) (v2 : Int32) (v3 : Int32) (σ : St) : Prop :=
  if v3 < (σ 1 7) then
  (wp_X3_stepsUpTo σ v3 v1 (fun y2 σ1 =>
  nm ((if v2 < y2 then y2 else v2)) (fun z3 =>
  rec4 v1 z3 (v3 + 1) σ1)))
  else (Q v2 σ)
def lp_X3_deepestIn_4  (Q : Int32 → St → Prop) (n9 : Nat) : Int32 → Int32 → Int32 → St → Prop :=
  Nat.rec (fun _ _ _ _ => False) (fun _ rec9 => b_X3_deepestIn_4  Q  rec9) n9
theorem wk_X3_deepestIn_4 (X : cx p s m args c cX3_deepestIn 4 RX3 D (wC cI cZ cH a n) A (tyW cI cZ cH)) (hr9 : meth.sig.returnType = (some .int)) (hlk9 : meth.locks = false)  {Q : Int32 → St → Prop} : ∀ (n9 : Nat) {v1 : Int32} {v2 : Int32} {v3 : Int32} {σ : St}, lp_X3_deepestIn_4 Q n9 v1 v2 v3 σ → go p l e rm_X3_deepestIn s m args below meth c D (wC cI cZ cH a n) A 0 0 (MQ below (va_Qi Q (atw D (wC cI cZ cH a n) (tyW cI cZ cH) A) A) args s 0 0 A) 4 4 [(0, .ref (a 13)), (1, .int v1), (2, .int v2), (3, .int v3)] [] σ := by
  intro n9
  induction n9 with
  | zero => intro v1 v2 v3 σ h; exact h.elim
  | succ n9 ih =>
    intro v1 v2 v3 σ h
    have hrec4 := fun v1 v2 v3 σ h => ih (σ := σ) (v1 := v1) (v2 := v2) (v3 := v3) h
    replace h : b_X3_deepestIn_4 Q (lp_X3_deepestIn_4 Q n9) v1 v2 v3 σ := h
    delta b_X3_deepestIn_4 at h
    refine r_iload_n X 3 5 dX3_deepestIn_4 rfl rfl rfl ?_
    refine r_aload_n X 0 6 dX3_deepestIn_5 rfl rfl rfl ?_
    refine g_X3_48 X 9 dX3_deepestIn_6 rfl ?_
    refine g_X3_87 X 12 dX3_deepestIn_9 rfl ?_
    refine r_icmp_ge X 32 15 h dX3_deepestIn_12 rfl rfl (fun h => ?_) (fun h => ?_)
    · refine r_iload_n X 2 33 dX3_deepestIn_32 rfl rfl rfl ?_
      exact r_iret X hr9 hlk9 h dX3_deepestIn_33
    · refine r_iload_n X 2 16 dX3_deepestIn_15 rfl rfl rfl ?_
      refine r_aload_n X 0 17 dX3_deepestIn_16 rfl rfl rfl ?_
      refine r_iload_n X 3 18 dX3_deepestIn_17 rfl rfl rfl ?_
      refine r_iload_n X 1 19 dX3_deepestIn_18 rfl rfl rfl ?_
      refine r_callI (As := [.int v3, .int v1]) (rest := [.int v2]) X 22 (c_X3_stepsUpTo h) ml_X3_252 lk_X3_stepsUpTo wC_at_13 rfl rfl rfl (Nat.le_of_ble_eq_true rfl) ⟨rfl, rfl, ⟨Nat.le_of_ble_eq_true rfl, Nat.le_of_ble_eq_true rfl⟩, Nat.le_of_ble_eq_true rfl, Nat.le_of_ble_eq_true rfl⟩ dX3_deepestIn_19 rfl (fun y2 σ1 h => ?_)
      refine r_mmax X 25 ml_X3_255 sy_J9_max_7cf53 ini_J9 lk_J9_max_7cf53.1 (Nat.le_of_ble_eq_true rfl) (Nat.le_of_ble_eq_true rfl) (Nat.le_of_ble_eq_true rfl) (Nat.le_of_ble_eq_true rfl) dX3_deepestIn_22 rfl ?_
      refine r_istore_nN X 26 (fun z3 => [(2, .int z3), (0, .ref (a 13)), (1, .int v1), (3, .int v3)]) h dX3_deepestIn_25 rfl (by decide) (fun _ => rfl) rfl (fun z3 h => ?_)
      refine r_iinc (d := 1) X 3 29 [(3, .int (v3 + 1)), (2, .int z3), (0, .ref (a 13)), (1, .int v1)] dX3_deepestIn_26 rfl (by decide) (by decide) rfl rfl ?_
      refine r_goto X 4 dX3_deepestIn_29 rfl ?_
      refine r_pick (lv' := [(0, .ref (a 13)), (1, .int v1), (2, .int z3), (3, .int (v3 + 1))]) [2, 3, 1, 0] rfl ?_
      exact hrec4 _ _ _ _ h
def wp_X3_deepestIn  (σ : St) (x1 : Int32) (Q : Int32 → St → Prop) : Prop :=
  ∃ n9 : Nat, lp_X3_deepestIn_4 Q n9 x1 0 0 σ
theorem c_X3_deepestIn  {σ : St} {x1 : Int32} {Q : Int32 → St → Prop} (h : wp_X3_deepestIn σ x1 Q) : ctI l yX3_deepestIn cX3_deepestIn 4 (some .int) rm_X3_deepestIn D (wC cI cZ cH a n) (tyW cI cZ cH) [.ref (a 13), .int x1] σ Q := by
  refine mk_I (wC_ok cI cZ cH a n) (by decide +kernel) (Nat.le_of_ble_eq_true rfl) (fun p e s m args below meth c A X hr9 hlk9 => ?_)
  refine r_pick (lv' := [(0, .ref (a 13)), (1, .int x1)]) [0, 1] rfl ?_
  delta wp_X3_deepestIn at h
  refine r_iconst (v := 0) X 1 dX3_deepestIn_0 (by decide) rfl ?_
  refine r_istore_n X 2 [(2, .int 0), (0, .ref (a 13)), (1, .int x1)] dX3_deepestIn_1 rfl (by decide) rfl rfl ?_
  refine r_iconst (v := 0) X 3 dX3_deepestIn_2 (by decide) rfl ?_
  refine r_istore_n X 4 [(3, .int 0), (2, .int 0), (0, .ref (a 13)), (1, .int x1)] dX3_deepestIn_3 rfl (by decide) rfl rfl ?_
  refine r_pick (lv' := [(0, .ref (a 13)), (1, .int x1), (2, .int 0), (3, .int 0)]) [2, 3, 1, 0] rfl ?_
  obtain ⟨n9, h⟩ := h
  exact wk_X3_deepestIn_4 X hr9 hlk9 n9 h
def rm_X3_goInto : Room := { frames := 3, cells := 0, slots := 0, locals := 68 }
theorem dX3_goInto_0 : decode cX3_goInto 0 = .ok (.aload_n 0, 1) := by decide +kernel
theorem dX3_goInto_1 : decode cX3_goInto 1 = .ok (.getfield 48, 3) := by decide +kernel
theorem dX3_goInto_4 : decode cX3_goInto 4 = .ok (.aload_n 0, 1) := by decide +kernel
theorem dX3_goInto_5 : decode cX3_goInto 5 = .ok (.getfield 117, 3) := by decide +kernel
theorem dX3_goInto_8 : decode cX3_goInto 8 = .ok (.invokevirtual 212, 3) := by decide +kernel
theorem dX3_goInto_11 : decode cX3_goInto 11 = .ok (.ifCond .eq 38, 3) := by decide +kernel
theorem dX3_goInto_14 : decode cX3_goInto 14 = .ok (.aload_n 0, 1) := by decide +kernel
theorem dX3_goInto_15 : decode cX3_goInto 15 = .ok (.aload_n 0, 1) := by decide +kernel
theorem dX3_goInto_16 : decode cX3_goInto 16 = .ok (.getfield 117, 3) := by decide +kernel
theorem dX3_goInto_19 : decode cX3_goInto 19 = .ok (.invokevirtual 90, 3) := by decide +kernel
theorem dX3_goInto_22 : decode cX3_goInto 22 = .ok (.ifCond .eq 27, 3) := by decide +kernel
theorem dX3_goInto_25 : decode cX3_goInto 25 = .ok (.aload_n 0, 1) := by decide +kernel
theorem dX3_goInto_26 : decode cX3_goInto 26 = .ok (.getfield 117, 3) := by decide +kernel
theorem dX3_goInto_29 : decode cX3_goInto 29 = .ok (.aload_n 0, 1) := by decide +kernel
theorem dX3_goInto_30 : decode cX3_goInto 30 = .ok (.getfield 108, 3) := by decide +kernel
theorem dX3_goInto_33 : decode cX3_goInto 33 = .ok (.if_icmp .eq 16, 3) := by decide +kernel
theorem dX3_goInto_36 : decode cX3_goInto 36 = .ok (.aload_n 0, 1) := by decide +kernel
theorem dX3_goInto_37 : decode cX3_goInto 37 = .ok (.getfield 21, 3) := by decide +kernel
theorem dX3_goInto_40 : decode cX3_goInto 40 = .ok (.aload_n 0, 1) := by decide +kernel
theorem dX3_goInto_41 : decode cX3_goInto 41 = .ok (.getfield 117, 3) := by decide +kernel
theorem dX3_goInto_44 : decode cX3_goInto 44 = .ok (.iaload, 1) := by decide +kernel
theorem dX3_goInto_45 : decode cX3_goInto 45 = .ok (.iconst (-1), 1) := by decide +kernel
theorem dX3_goInto_46 : decode cX3_goInto 46 = .ok (.if_icmp .eq 5, 3) := by decide +kernel
theorem dX3_goInto_49 : decode cX3_goInto 49 = .ok (.iconst 0, 1) := by decide +kernel
theorem dX3_goInto_50 : decode cX3_goInto 50 = .ok (.ireturn, 1) := by decide +kernel
theorem dX3_goInto_51 : decode cX3_goInto 51 = .ok (.aload_n 0, 1) := by decide +kernel
theorem dX3_goInto_52 : decode cX3_goInto 52 = .ok (.getfield 9, 3) := by decide +kernel
theorem dX3_goInto_55 : decode cX3_goInto 55 = .ok (.aload_n 0, 1) := by decide +kernel
theorem dX3_goInto_56 : decode cX3_goInto 56 = .ok (.getfield 108, 3) := by decide +kernel
theorem dX3_goInto_59 : decode cX3_goInto 59 = .ok (.iaload, 1) := by decide +kernel
theorem dX3_goInto_60 : decode cX3_goInto 60 = .ok (.iconst 1, 1) := by decide +kernel
theorem dX3_goInto_61 : decode cX3_goInto 61 = .ok (.if_icmp .ne 16, 3) := by decide +kernel
theorem dX3_goInto_64 : decode cX3_goInto 64 = .ok (.aload_n 0, 1) := by decide +kernel
theorem dX3_goInto_65 : decode cX3_goInto 65 = .ok (.getfield 9, 3) := by decide +kernel
theorem dX3_goInto_68 : decode cX3_goInto 68 = .ok (.aload_n 0, 1) := by decide +kernel
theorem dX3_goInto_69 : decode cX3_goInto 69 = .ok (.getfield 117, 3) := by decide +kernel
theorem dX3_goInto_72 : decode cX3_goInto 72 = .ok (.iaload, 1) := by decide +kernel
theorem dX3_goInto_73 : decode cX3_goInto 73 = .ok (.iconst 1, 1) := by decide +kernel
theorem dX3_goInto_74 : decode cX3_goInto 74 = .ok (.if_icmp .eq 37, 3) := by decide +kernel
theorem dX3_goInto_77 : decode cX3_goInto 77 = .ok (.aload_n 0, 1) := by decide +kernel
theorem dX3_goInto_78 : decode cX3_goInto 78 = .ok (.getfield 9, 3) := by decide +kernel
theorem dX3_goInto_81 : decode cX3_goInto 81 = .ok (.aload_n 0, 1) := by decide +kernel
theorem dX3_goInto_82 : decode cX3_goInto 82 = .ok (.getfield 117, 3) := by decide +kernel
theorem dX3_goInto_85 : decode cX3_goInto 85 = .ok (.iaload, 1) := by decide +kernel
theorem dX3_goInto_86 : decode cX3_goInto 86 = .ok (.iconst 2, 1) := by decide +kernel
theorem dX3_goInto_87 : decode cX3_goInto 87 = .ok (.if_icmp .ne 28, 3) := by decide +kernel
theorem dX3_goInto_90 : decode cX3_goInto 90 = .ok (.aload_n 0, 1) := by decide +kernel
theorem dX3_goInto_91 : decode cX3_goInto 91 = .ok (.aload_n 0, 1) := by decide +kernel
theorem dX3_goInto_92 : decode cX3_goInto 92 = .ok (.getfield 108, 3) := by decide +kernel
theorem dX3_goInto_95 : decode cX3_goInto 95 = .ok (.iconst 2, 1) := by decide +kernel
theorem dX3_goInto_96 : decode cX3_goInto 96 = .ok (.aload_n 0, 1) := by decide +kernel
theorem dX3_goInto_97 : decode cX3_goInto 97 = .ok (.getfield 15, 3) := by decide +kernel
theorem dX3_goInto_100 : decode cX3_goInto 100 = .ok (.aload_n 0, 1) := by decide +kernel
theorem dX3_goInto_101 : decode cX3_goInto 101 = .ok (.getfield 117, 3) := by decide +kernel
theorem dX3_goInto_104 : decode cX3_goInto 104 = .ok (.iaload, 1) := by decide +kernel
theorem dX3_goInto_105 : decode cX3_goInto 105 = .ok (.invokevirtual 208, 3) := by decide +kernel
theorem dX3_goInto_108 : decode cX3_goInto 108 = .ok (.ifCond .eq 7, 3) := by decide +kernel
theorem dX3_goInto_111 : decode cX3_goInto 111 = .ok (.iconst 1, 1) := by decide +kernel
theorem dX3_goInto_112 : decode cX3_goInto 112 = .ok (.goto 4, 3) := by decide +kernel
theorem dX3_goInto_115 : decode cX3_goInto 115 = .ok (.iconst 0, 1) := by decide +kernel
theorem dX3_goInto_116 : decode cX3_goInto 116 = .ok (.istore_n 1, 1) := by decide +kernel
theorem dX3_goInto_117 : decode cX3_goInto 117 = .ok (.iload_n 1, 1) := by decide +kernel
theorem dX3_goInto_118 : decode cX3_goInto 118 = .ok (.ifCond .eq 37, 3) := by decide +kernel
theorem dX3_goInto_121 : decode cX3_goInto 121 = .ok (.aload_n 0, 1) := by decide +kernel
theorem dX3_goInto_122 : decode cX3_goInto 122 = .ok (.aload_n 0, 1) := by decide +kernel
theorem dX3_goInto_123 : decode cX3_goInto 123 = .ok (.aload_n 0, 1) := by decide +kernel
theorem dX3_goInto_124 : decode cX3_goInto 124 = .ok (.getfield 108, 3) := by decide +kernel
theorem dX3_goInto_127 : decode cX3_goInto 127 = .ok (.invokevirtual 188, 3) := by decide +kernel
theorem dX3_goInto_130 : decode cX3_goInto 130 = .ok (.ifCond .ne 14, 3) := by decide +kernel
theorem dX3_goInto_133 : decode cX3_goInto 133 = .ok (.aload_n 0, 1) := by decide +kernel
theorem dX3_goInto_134 : decode cX3_goInto 134 = .ok (.aload_n 0, 1) := by decide +kernel
theorem dX3_goInto_135 : decode cX3_goInto 135 = .ok (.getfield 117, 3) := by decide +kernel
theorem dX3_goInto_138 : decode cX3_goInto 138 = .ok (.invokevirtual 188, 3) := by decide +kernel
theorem dX3_goInto_141 : decode cX3_goInto 141 = .ok (.ifCond .eq 7, 3) := by decide +kernel
theorem dX3_goInto_144 : decode cX3_goInto 144 = .ok (.iconst 1, 1) := by decide +kernel
theorem dX3_goInto_145 : decode cX3_goInto 145 = .ok (.goto 4, 3) := by decide +kernel
theorem dX3_goInto_148 : decode cX3_goInto 148 = .ok (.iconst 0, 1) := by decide +kernel
theorem dX3_goInto_149 : decode cX3_goInto 149 = .ok (.invokevirtual 191, 3) := by decide +kernel
theorem dX3_goInto_152 : decode cX3_goInto 152 = .ok (.ifCond .ne 5, 3) := by decide +kernel
theorem dX3_goInto_155 : decode cX3_goInto 155 = .ok (.iconst 0, 1) := by decide +kernel
theorem dX3_goInto_156 : decode cX3_goInto 156 = .ok (.ireturn, 1) := by decide +kernel
theorem dX3_goInto_157 : decode cX3_goInto 157 = .ok (.aload_n 0, 1) := by decide +kernel
theorem dX3_goInto_158 : decode cX3_goInto 158 = .ok (.getfield 36, 3) := by decide +kernel
theorem dX3_goInto_161 : decode cX3_goInto 161 = .ok (.aload_n 0, 1) := by decide +kernel
theorem dX3_goInto_162 : decode cX3_goInto 162 = .ok (.getfield 117, 3) := by decide +kernel
theorem dX3_goInto_165 : decode cX3_goInto 165 = .ok (.iaload, 1) := by decide +kernel
theorem dX3_goInto_166 : decode cX3_goInto 166 = .ok (.bipush 8, 2) := by decide +kernel
theorem dX3_goInto_168 : decode cX3_goInto 168 = .ok (.if_icmp .ge 17, 3) := by decide +kernel
theorem dX3_goInto_171 : decode cX3_goInto 171 = .ok (.aload_n 0, 1) := by decide +kernel
theorem dX3_goInto_172 : decode cX3_goInto 172 = .ok (.aload_n 0, 1) := by decide +kernel
theorem dX3_goInto_173 : decode cX3_goInto 173 = .ok (.getfield 108, 3) := by decide +kernel
theorem dX3_goInto_176 : decode cX3_goInto 176 = .ok (.invokevirtual 215, 3) := by decide +kernel
theorem dX3_goInto_179 : decode cX3_goInto 179 = .ok (.iconst 1, 1) := by decide +kernel
theorem dX3_goInto_180 : decode cX3_goInto 180 = .ok (.iadd, 1) := by decide +kernel
theorem dX3_goInto_181 : decode cX3_goInto 181 = .ok (.iconst 4, 1) := by decide +kernel
theorem dX3_goInto_182 : decode cX3_goInto 182 = .ok (.if_icmp .le 5, 3) := by decide +kernel
theorem dX3_goInto_185 : decode cX3_goInto 185 = .ok (.iconst 0, 1) := by decide +kernel
theorem dX3_goInto_186 : decode cX3_goInto 186 = .ok (.ireturn, 1) := by decide +kernel
theorem dX3_goInto_187 : decode cX3_goInto 187 = .ok (.aload_n 0, 1) := by decide +kernel
theorem dX3_goInto_188 : decode cX3_goInto 188 = .ok (.aload_n 0, 1) := by decide +kernel
theorem dX3_goInto_189 : decode cX3_goInto 189 = .ok (.getfield 108, 3) := by decide +kernel
theorem dX3_goInto_192 : decode cX3_goInto 192 = .ok (.iconst 3, 1) := by decide +kernel
theorem dX3_goInto_193 : decode cX3_goInto 193 = .ok (.aload_n 0, 1) := by decide +kernel
theorem dX3_goInto_194 : decode cX3_goInto 194 = .ok (.getfield 117, 3) := by decide +kernel
theorem dX3_goInto_197 : decode cX3_goInto 197 = .ok (.invokevirtual 201, 3) := by decide +kernel
theorem dX3_goInto_200 : decode cX3_goInto 200 = .ok (.iconst 1, 1) := by decide +kernel
theorem dX3_goInto_201 : decode cX3_goInto 201 = .ok (.ireturn, 1) := by decide +kernel
def j_X3_goInto_149  (Q : Int32 → St → Prop) (s0 : Int32) (σ : St) : Prop :=
  wp_X3_keepersServe σ s0 (fun y8 σ7 =>
  if y8 = 0 then
  (Q 0 σ7)
  else (vp_in (σ7 13 16) 60 ∧
  (if (σ7 22 (ix (σ7 13 16))) < 8 then
  (wp_X3_deepestIn σ7 (σ7 13 13) (fun y10 σ9 =>
  if 4 < (y10 + 1) then
  (Q 0 σ9)
  else (wp_X3_move σ9 (σ9 13 13) 3 (σ9 13 16) (fun σ11 =>
  Q 1 σ11))))
  else (Q 0 σ7))))
theorem wk_X3_goInto_149 (X : cx p s m args c cX3_goInto 2 RX3 D (wC cI cZ cH a n) A (tyW cI cZ cH)) (hr9 : meth.sig.returnType = (some .boolean)) (hlk9 : meth.locks = false)  {Q : Int32 → St → Prop} {s0 : Int32} {σ : St} (h : j_X3_goInto_149 Q s0 σ) : go p l e rm_X3_goInto s m args below meth c D (wC cI cZ cH a n) A 0 0 (MQ below (va_Qi (fun r9 u9 => isB r9 ∧ Q r9 u9) (atw D (wC cI cZ cH a n) (tyW cI cZ cH) A) A) args s 0 0 A) 2 149 [(0, .ref (a 13))] [.int s0, .ref (a 13)] σ := by
  delta j_X3_goInto_149 at h
  refine r_callI (As := [.int s0]) (rest := []) X 152 (c_X3_keepersServe h) ml_X3_191 lk_X3_keepersServe wC_at_13 rfl rfl rfl (Nat.le_of_ble_eq_true rfl) ⟨rfl, rfl, ⟨Nat.le_of_ble_eq_true rfl, Nat.le_of_ble_eq_true rfl⟩, Nat.le_of_ble_eq_true rfl, Nat.le_of_ble_eq_true rfl⟩ dX3_goInto_149 rfl (fun y8 σ7 h => ?_)
  obtain ⟨hb_y8, h⟩ := h
  refine r_if_ne X 157 155 h dX3_goInto_152 rfl rfl (fun h => ?_) (fun h => ?_)
  · refine r_aload_n X 0 158 dX3_goInto_157 rfl rfl rfl ?_
    refine g_X3_36 X 161 dX3_goInto_158 rfl ?_
    refine r_aload_n X 0 162 dX3_goInto_161 rfl rfl rfl ?_
    refine g_X3_117 X 165 dX3_goInto_162 rfl ?_
    obtain ⟨hin, h⟩ := h
    refine l_C22 X 166 hin dX3_goInto_165 rfl ?_
    refine r_bipush (v := 8) X 168 dX3_goInto_166 (by decide) rfl ?_
    refine r_icmp_ge X 185 171 h dX3_goInto_168 rfl rfl (fun h => ?_) (fun h => ?_)
    · refine r_iconst (v := 0) X 186 dX3_goInto_185 (by decide) rfl ?_
      exact r_zret X hr9 hlk9 isB_0 h dX3_goInto_186
    · refine r_aload_n X 0 172 dX3_goInto_171 rfl rfl rfl ?_
      refine r_aload_n X 0 173 dX3_goInto_172 rfl rfl rfl ?_
      refine g_X3_108 X 176 dX3_goInto_173 rfl ?_
      refine r_callI (As := [.int (σ7 13 13)]) (rest := []) X 179 (c_X3_deepestIn h) ml_X3_215 lk_X3_deepestIn wC_at_13 rfl rfl rfl (Nat.le_of_ble_eq_true rfl) ⟨rfl, rfl, ⟨Nat.le_of_ble_eq_true rfl, Nat.le_of_ble_eq_true rfl⟩, Nat.le_of_ble_eq_true rfl, Nat.le_of_ble_eq_true rfl⟩ dX3_goInto_176 rfl (fun y10 σ9 h => ?_)
      refine r_iconst (v := 1) X 180 dX3_goInto_179 (by decide) rfl ?_
      refine r_iadd X 181 dX3_goInto_180 rfl ?_
      refine r_iconst (v := 4) X 182 dX3_goInto_181 (by decide) rfl ?_
      refine r_icmp_le X 187 185 h dX3_goInto_182 rfl rfl (fun h => ?_) (fun h => ?_)
      · refine r_aload_n X 0 188 dX3_goInto_187 rfl rfl rfl ?_
        refine r_aload_n X 0 189 dX3_goInto_188 rfl rfl rfl ?_
        refine g_X3_108 X 192 dX3_goInto_189 rfl ?_
        refine r_iconst (v := 3) X 193 dX3_goInto_192 (by decide) rfl ?_
        refine r_aload_n X 0 194 dX3_goInto_193 rfl rfl rfl ?_
        refine g_X3_117 X 197 dX3_goInto_194 rfl ?_
        refine r_callV (As := [.int (σ9 13 13), .int 3, .int (σ9 13 16)]) (rest := []) X 200 (c_X3_move h) ml_X3_201 lk_X3_move wC_at_13 rfl rfl rfl (Nat.le_of_ble_eq_true rfl) ⟨rfl, rfl, ⟨Nat.le_of_ble_eq_true rfl, Nat.le_of_ble_eq_true rfl⟩, Nat.le_of_ble_eq_true rfl, Nat.le_of_ble_eq_true rfl⟩ dX3_goInto_197 rfl (fun σ11 h => ?_)
        refine r_iconst (v := 1) X 201 dX3_goInto_200 (by decide) rfl ?_
        exact r_zret X hr9 hlk9 isB_1 h dX3_goInto_201
      · refine r_iconst (v := 0) X 186 dX3_goInto_185 (by decide) rfl ?_
        exact r_zret X hr9 hlk9 isB_0 h dX3_goInto_186
  · refine r_iconst (v := 0) X 156 dX3_goInto_155 (by decide) rfl ?_
    exact r_zret X hr9 hlk9 isB_0 h dX3_goInto_156
def j_X3_goInto_144  (Q : Int32 → St → Prop) (σ : St) : Prop :=
  j_X3_goInto_149 Q 1 σ
theorem wk_X3_goInto_144 (X : cx p s m args c cX3_goInto 2 RX3 D (wC cI cZ cH a n) A (tyW cI cZ cH)) (hr9 : meth.sig.returnType = (some .boolean)) (hlk9 : meth.locks = false)  {Q : Int32 → St → Prop} {σ : St} (h : j_X3_goInto_144 Q σ) : go p l e rm_X3_goInto s m args below meth c D (wC cI cZ cH a n) A 0 0 (MQ below (va_Qi (fun r9 u9 => isB r9 ∧ Q r9 u9) (atw D (wC cI cZ cH a n) (tyW cI cZ cH) A) A) args s 0 0 A) 2 144 [(0, .ref (a 13))] [.ref (a 13)] σ := by
  delta j_X3_goInto_144 at h
  refine r_iconst (v := 1) X 145 dX3_goInto_144 (by decide) rfl ?_
  refine r_goto X 149 dX3_goInto_145 rfl ?_
  refine r_pick (lv' := [(0, .ref (a 13))]) [0] rfl ?_
  exact wk_X3_goInto_149 X hr9 hlk9 h
def j_X3_goInto_116  (Q : Int32 → St → Prop) (s0 : Int32) (σ : St) : Prop :=
  if s0 = 0 then
  (Q 0 σ)
  else (wp_X3_isMoneyBag σ (σ 13 13) (fun y6 σ5 =>
  if y6 = 0 then
  (wp_X3_isMoneyBag σ5 (σ5 13 16) (fun y13 σ12 =>
  if y13 = 0 then
  (j_X3_goInto_149 Q 0 σ12)
  else (j_X3_goInto_144 Q σ12)))
  else (j_X3_goInto_144 Q σ5)))
theorem wk_X3_goInto_116 (X : cx p s m args c cX3_goInto 2 RX3 D (wC cI cZ cH a n) A (tyW cI cZ cH)) (hr9 : meth.sig.returnType = (some .boolean)) (hlk9 : meth.locks = false)  {Q : Int32 → St → Prop} {s0 : Int32} {σ : St} (h : j_X3_goInto_116 Q s0 σ) : go p l e rm_X3_goInto s m args below meth c D (wC cI cZ cH a n) A 0 0 (MQ below (va_Qi (fun r9 u9 => isB r9 ∧ Q r9 u9) (atw D (wC cI cZ cH a n) (tyW cI cZ cH) A) A) args s 0 0 A) 2 116 [(0, .ref (a 13))] [.int s0] σ := by
  delta j_X3_goInto_116 at h
  refine r_istore_n X 117 [(1, .int s0), (0, .ref (a 13))] dX3_goInto_116 rfl (by decide) rfl rfl ?_
  refine r_iload_n X 0 118 dX3_goInto_117 rfl rfl rfl ?_
  refine r_if_eq X 155 121 h dX3_goInto_118 rfl rfl (fun h => ?_) (fun h => ?_)
  · refine r_iconst (v := 0) X 156 dX3_goInto_155 (by decide) rfl ?_
    exact r_zret X hr9 hlk9 isB_0 h dX3_goInto_156
  · refine r_aload_n X 1 122 dX3_goInto_121 rfl rfl rfl ?_
    refine r_aload_n X 1 123 dX3_goInto_122 rfl rfl rfl ?_
    refine r_aload_n X 1 124 dX3_goInto_123 rfl rfl rfl ?_
    refine g_X3_108 X 127 dX3_goInto_124 rfl ?_
    refine r_callI (As := [.int (σ 13 13)]) (rest := [.ref (a 13)]) X 130 (c_X3_isMoneyBag h) ml_X3_188 lk_X3_isMoneyBag wC_at_13 rfl rfl rfl (Nat.le_of_ble_eq_true rfl) ⟨rfl, rfl, ⟨Nat.le_of_ble_eq_true rfl, Nat.le_of_ble_eq_true rfl⟩, Nat.le_of_ble_eq_true rfl, Nat.le_of_ble_eq_true rfl⟩ dX3_goInto_127 rfl (fun y6 σ5 h => ?_)
    obtain ⟨hb_y6, h⟩ := h
    refine r_if_ne X 144 133 h dX3_goInto_130 rfl rfl (fun h => ?_) (fun h => ?_)
    · refine r_pick (lv' := [(0, .ref (a 13))]) [1] rfl ?_
      exact wk_X3_goInto_144 X hr9 hlk9 h
    · refine r_aload_n X 1 134 dX3_goInto_133 rfl rfl rfl ?_
      refine r_aload_n X 1 135 dX3_goInto_134 rfl rfl rfl ?_
      refine g_X3_117 X 138 dX3_goInto_135 rfl ?_
      refine r_callI (As := [.int (σ5 13 16)]) (rest := [.ref (a 13)]) X 141 (c_X3_isMoneyBag h) ml_X3_188 lk_X3_isMoneyBag wC_at_13 rfl rfl rfl (Nat.le_of_ble_eq_true rfl) ⟨rfl, rfl, ⟨Nat.le_of_ble_eq_true rfl, Nat.le_of_ble_eq_true rfl⟩, Nat.le_of_ble_eq_true rfl, Nat.le_of_ble_eq_true rfl⟩ dX3_goInto_138 rfl (fun y13 σ12 h => ?_)
      obtain ⟨hb_y13, h⟩ := h
      refine r_if_eq X 148 144 h dX3_goInto_141 rfl rfl (fun h => ?_) (fun h => ?_)
      · refine r_iconst (v := 0) X 149 dX3_goInto_148 (by decide) rfl ?_
        refine r_pick (lv' := [(0, .ref (a 13))]) [1] rfl ?_
        exact wk_X3_goInto_149 X hr9 hlk9 h
      · refine r_pick (lv' := [(0, .ref (a 13))]) [1] rfl ?_
        exact wk_X3_goInto_144 X hr9 hlk9 h
def j_X3_goInto_115  (Q : Int32 → St → Prop) (σ : St) : Prop :=
  j_X3_goInto_116 Q 0 σ
theorem wk_X3_goInto_115 (X : cx p s m args c cX3_goInto 2 RX3 D (wC cI cZ cH a n) A (tyW cI cZ cH)) (hr9 : meth.sig.returnType = (some .boolean)) (hlk9 : meth.locks = false)  {Q : Int32 → St → Prop} {σ : St} (h : j_X3_goInto_115 Q σ) : go p l e rm_X3_goInto s m args below meth c D (wC cI cZ cH a n) A 0 0 (MQ below (va_Qi (fun r9 u9 => isB r9 ∧ Q r9 u9) (atw D (wC cI cZ cH a n) (tyW cI cZ cH) A) A) args s 0 0 A) 2 115 [(0, .ref (a 13))] [] σ := by
  delta j_X3_goInto_115 at h
  refine r_iconst (v := 0) X 116 dX3_goInto_115 (by decide) rfl ?_
  refine r_pick (lv' := [(0, .ref (a 13))]) [0] rfl ?_
  exact wk_X3_goInto_116 X hr9 hlk9 h
def j_X3_goInto_111  (Q : Int32 → St → Prop) (σ : St) : Prop :=
  j_X3_goInto_116 Q 1 σ
theorem wk_X3_goInto_111 (X : cx p s m args c cX3_goInto 2 RX3 D (wC cI cZ cH a n) A (tyW cI cZ cH)) (hr9 : meth.sig.returnType = (some .boolean)) (hlk9 : meth.locks = false)  {Q : Int32 → St → Prop} {σ : St} (h : j_X3_goInto_111 Q σ) : go p l e rm_X3_goInto s m args below meth c D (wC cI cZ cH a n) A 0 0 (MQ below (va_Qi (fun r9 u9 => isB r9 ∧ Q r9 u9) (atw D (wC cI cZ cH a n) (tyW cI cZ cH) A) A) args s 0 0 A) 2 111 [(0, .ref (a 13))] [] σ := by
  delta j_X3_goInto_111 at h
  refine r_iconst (v := 1) X 112 dX3_goInto_111 (by decide) rfl ?_
  refine r_goto X 116 dX3_goInto_112 rfl ?_
  refine r_pick (lv' := [(0, .ref (a 13))]) [0] rfl ?_
  exact wk_X3_goInto_116 X hr9 hlk9 h
def j_X3_goInto_77  (Q : Int32 → St → Prop) (σ : St) : Prop :=
  vp_in (σ 13 16) 60 ∧
  (if (σ 14 (ix (σ 13 16))) = 2 then
  (vp_in (σ 13 16) 60 ∧
  (wp_X3_isAt σ (σ 13 13) 2 (σ 15 (ix (σ 13 16))) (fun y15 σ14 =>
  if y15 = 0 then
  (j_X3_goInto_115 Q σ14)
  else (j_X3_goInto_111 Q σ14))))
  else (j_X3_goInto_115 Q σ))
theorem wk_X3_goInto_77 (X : cx p s m args c cX3_goInto 2 RX3 D (wC cI cZ cH a n) A (tyW cI cZ cH)) (hr9 : meth.sig.returnType = (some .boolean)) (hlk9 : meth.locks = false)  {Q : Int32 → St → Prop} {σ : St} (h : j_X3_goInto_77 Q σ) : go p l e rm_X3_goInto s m args below meth c D (wC cI cZ cH a n) A 0 0 (MQ below (va_Qi (fun r9 u9 => isB r9 ∧ Q r9 u9) (atw D (wC cI cZ cH a n) (tyW cI cZ cH) A) A) args s 0 0 A) 2 77 [(0, .ref (a 13))] [] σ := by
  delta j_X3_goInto_77 at h
  refine r_aload_n X 0 78 dX3_goInto_77 rfl rfl rfl ?_
  refine g_X3_9 X 81 dX3_goInto_78 rfl ?_
  refine r_aload_n X 0 82 dX3_goInto_81 rfl rfl rfl ?_
  refine g_X3_117 X 85 dX3_goInto_82 rfl ?_
  obtain ⟨hin, h⟩ := h
  refine l_C14 X 86 hin dX3_goInto_85 rfl ?_
  refine r_iconst (v := 2) X 87 dX3_goInto_86 (by decide) rfl ?_
  refine r_icmp_ne X 115 90 h dX3_goInto_87 rfl rfl (fun h => ?_) (fun h => ?_)
  · refine r_pick (lv' := [(0, .ref (a 13))]) [0] rfl ?_
    exact wk_X3_goInto_115 X hr9 hlk9 h
  · refine r_aload_n X 0 91 dX3_goInto_90 rfl rfl rfl ?_
    refine r_aload_n X 0 92 dX3_goInto_91 rfl rfl rfl ?_
    refine g_X3_108 X 95 dX3_goInto_92 rfl ?_
    refine r_iconst (v := 2) X 96 dX3_goInto_95 (by decide) rfl ?_
    refine r_aload_n X 0 97 dX3_goInto_96 rfl rfl rfl ?_
    refine g_X3_15 X 100 dX3_goInto_97 rfl ?_
    refine r_aload_n X 0 101 dX3_goInto_100 rfl rfl rfl ?_
    refine g_X3_117 X 104 dX3_goInto_101 rfl ?_
    obtain ⟨hin, h⟩ := h
    refine l_C15 X 105 hin dX3_goInto_104 rfl ?_
    refine r_callI (As := [.int (σ 13 13), .int 2, .int (σ 15 (ix (σ 13 16)))]) (rest := []) X 108 (c_X3_isAt h) ml_X3_208 lk_X3_isAt wC_at_13 rfl rfl rfl (Nat.le_of_ble_eq_true rfl) ⟨rfl, rfl, ⟨Nat.le_of_ble_eq_true rfl, Nat.le_of_ble_eq_true rfl⟩, Nat.le_of_ble_eq_true rfl, Nat.le_of_ble_eq_true rfl⟩ dX3_goInto_105 rfl (fun y15 σ14 h => ?_)
    obtain ⟨hb_y15, h⟩ := h
    refine r_if_eq X 115 111 h dX3_goInto_108 rfl rfl (fun h => ?_) (fun h => ?_)
    · refine r_pick (lv' := [(0, .ref (a 13))]) [0] rfl ?_
      exact wk_X3_goInto_115 X hr9 hlk9 h
    · refine r_pick (lv' := [(0, .ref (a 13))]) [0] rfl ?_
      exact wk_X3_goInto_111 X hr9 hlk9 h
def wp_X3_goInto  (σ : St) (Q : Int32 → St → Prop) : Prop :=
  wp_X4_isBag σ (σ 13 16) (fun y2 σ1 =>
  if y2 = 0 then
  (Q 0 σ1)
  else (wp_X3_isKept σ1 (σ1 13 16) (fun y4 σ3 =>
  if y4 = 0 then
  (Q 0 σ3)
  else (if (σ3 13 16) = (σ3 13 13) then
  (Q 0 σ3)
  else (vp_in (σ3 13 16) 60 ∧
  (if (σ3 17 (ix (σ3 13 16))) = (-1) then
  (vp_in (σ3 13 13) 60 ∧
  (if (σ3 14 (ix (σ3 13 13))) = 1 then
  (vp_in (σ3 13 16) 60 ∧
  (if (σ3 14 (ix (σ3 13 16))) = 1 then
  (j_X3_goInto_111 Q σ3)
  else (j_X3_goInto_77 Q σ3)))
  else (j_X3_goInto_77 Q σ3)))
  else (Q 0 σ3)))))))
theorem c_X3_goInto  {σ : St} {Q : Int32 → St → Prop} (h : wp_X3_goInto σ Q) : ctI l yX3_goInto cX3_goInto 2 (some .boolean) rm_X3_goInto D (wC cI cZ cH a n) (tyW cI cZ cH) [.ref (a 13)] σ (fun r9 u9 => isB r9 ∧ Q r9 u9) := by
  refine mk_I (wC_ok cI cZ cH a n) (by decide +kernel) (Nat.le_of_ble_eq_true rfl) (fun p e s m args below meth c A X hr9 hlk9 => ?_)
  refine r_pick (lv' := [(0, .ref (a 13))]) [0] rfl ?_
  delta wp_X3_goInto at h
  refine r_aload_n X 0 1 dX3_goInto_0 rfl rfl rfl ?_
  refine g_X3_48 X 4 dX3_goInto_1 rfl ?_
  refine r_aload_n X 0 5 dX3_goInto_4 rfl rfl rfl ?_
  refine g_X3_117 X 8 dX3_goInto_5 rfl ?_
  refine r_callNI (As := [.int (σ 13 16)]) (rest := []) X 11 (c_X4_isBag h) ml_X3_212 lk_X4_isBag wC_at_1 rfl rfl rfl (Nat.le_of_ble_eq_true rfl) ⟨rfl, rfl, ⟨Nat.le_of_ble_eq_true rfl, Nat.le_of_ble_eq_true rfl⟩, Nat.le_of_ble_eq_true rfl, Nat.le_of_ble_eq_true rfl⟩ dX3_goInto_8 rfl (fun y2 σ1 h => ?_)
  obtain ⟨hb_y2, h⟩ := h
  refine r_if_eq X 49 14 h dX3_goInto_11 rfl rfl (fun h => ?_) (fun h => ?_)
  · refine r_iconst (v := 0) X 50 dX3_goInto_49 (by decide) rfl ?_
    exact r_zret X hr9 hlk9 isB_0 h dX3_goInto_50
  · refine r_aload_n X 0 15 dX3_goInto_14 rfl rfl rfl ?_
    refine r_aload_n X 0 16 dX3_goInto_15 rfl rfl rfl ?_
    refine g_X3_117 X 19 dX3_goInto_16 rfl ?_
    refine r_callI (As := [.int (σ1 13 16)]) (rest := []) X 22 (c_X3_isKept h) ml_X3_90 lk_X3_isKept wC_at_13 rfl rfl rfl (Nat.le_of_ble_eq_true rfl) ⟨rfl, rfl, ⟨Nat.le_of_ble_eq_true rfl, Nat.le_of_ble_eq_true rfl⟩, Nat.le_of_ble_eq_true rfl, Nat.le_of_ble_eq_true rfl⟩ dX3_goInto_19 rfl (fun y4 σ3 h => ?_)
    obtain ⟨hb_y4, h⟩ := h
    refine r_if_eq X 49 25 h dX3_goInto_22 rfl rfl (fun h => ?_) (fun h => ?_)
    · refine r_iconst (v := 0) X 50 dX3_goInto_49 (by decide) rfl ?_
      exact r_zret X hr9 hlk9 isB_0 h dX3_goInto_50
    · refine r_aload_n X 0 26 dX3_goInto_25 rfl rfl rfl ?_
      refine g_X3_117 X 29 dX3_goInto_26 rfl ?_
      refine r_aload_n X 0 30 dX3_goInto_29 rfl rfl rfl ?_
      refine g_X3_108 X 33 dX3_goInto_30 rfl ?_
      refine r_icmp_eq X 49 36 h dX3_goInto_33 rfl rfl (fun h => ?_) (fun h => ?_)
      · refine r_iconst (v := 0) X 50 dX3_goInto_49 (by decide) rfl ?_
        exact r_zret X hr9 hlk9 isB_0 h dX3_goInto_50
      · refine r_aload_n X 0 37 dX3_goInto_36 rfl rfl rfl ?_
        refine g_X3_21 X 40 dX3_goInto_37 rfl ?_
        refine r_aload_n X 0 41 dX3_goInto_40 rfl rfl rfl ?_
        refine g_X3_117 X 44 dX3_goInto_41 rfl ?_
        obtain ⟨hin, h⟩ := h
        refine l_C17 X 45 hin dX3_goInto_44 rfl ?_
        refine r_iconst (v := (-1)) X 46 dX3_goInto_45 (by decide) rfl ?_
        refine r_icmp_eq X 51 49 h dX3_goInto_46 rfl rfl (fun h => ?_) (fun h => ?_)
        · refine r_aload_n X 0 52 dX3_goInto_51 rfl rfl rfl ?_
          refine g_X3_9 X 55 dX3_goInto_52 rfl ?_
          refine r_aload_n X 0 56 dX3_goInto_55 rfl rfl rfl ?_
          refine g_X3_108 X 59 dX3_goInto_56 rfl ?_
          obtain ⟨hin, h⟩ := h
          refine l_C14 X 60 hin dX3_goInto_59 rfl ?_
          refine r_iconst (v := 1) X 61 dX3_goInto_60 (by decide) rfl ?_
          refine r_icmp_ne X 77 64 h dX3_goInto_61 rfl rfl (fun h => ?_) (fun h => ?_)
          · refine r_pick (lv' := [(0, .ref (a 13))]) [0] rfl ?_
            exact wk_X3_goInto_77 X hr9 hlk9 h
          · refine r_aload_n X 0 65 dX3_goInto_64 rfl rfl rfl ?_
            refine g_X3_9 X 68 dX3_goInto_65 rfl ?_
            refine r_aload_n X 0 69 dX3_goInto_68 rfl rfl rfl ?_
            refine g_X3_117 X 72 dX3_goInto_69 rfl ?_
            obtain ⟨hin, h⟩ := h
            refine l_C14 X 73 hin dX3_goInto_72 rfl ?_
            refine r_iconst (v := 1) X 74 dX3_goInto_73 (by decide) rfl ?_
            refine r_icmp_eq X 111 77 h dX3_goInto_74 rfl rfl (fun h => ?_) (fun h => ?_)
            · refine r_pick (lv' := [(0, .ref (a 13))]) [0] rfl ?_
              exact wk_X3_goInto_111 X hr9 hlk9 h
            · refine r_pick (lv' := [(0, .ref (a 13))]) [0] rfl ?_
              exact wk_X3_goInto_77 X hr9 hlk9 h
        · refine r_iconst (v := 0) X 50 dX3_goInto_49 (by decide) rfl ?_
          exact r_zret X hr9 hlk9 isB_0 h dX3_goInto_50
def rm_X3_comeFrom : Room := { frames := 2, cells := 0, slots := 0, locals := 46 }
theorem dX3_comeFrom_0 : decode cX3_comeFrom 0 = .ok (.aload_n 0, 1) := by decide +kernel
theorem dX3_comeFrom_1 : decode cX3_comeFrom 1 = .ok (.aload_n 0, 1) := by decide +kernel
theorem dX3_comeFrom_2 : decode cX3_comeFrom 2 = .ok (.getfield 108, 3) := by decide +kernel
theorem dX3_comeFrom_5 : decode cX3_comeFrom 5 = .ok (.invokevirtual 218, 3) := by decide +kernel
theorem dX3_comeFrom_8 : decode cX3_comeFrom 8 = .ok (.istore_n 1, 1) := by decide +kernel
theorem dX3_comeFrom_9 : decode cX3_comeFrom 9 = .ok (.aload_n 0, 1) := by decide +kernel
theorem dX3_comeFrom_10 : decode cX3_comeFrom 10 = .ok (.getfield 48, 3) := by decide +kernel
theorem dX3_comeFrom_13 : decode cX3_comeFrom 13 = .ok (.iload_n 1, 1) := by decide +kernel
theorem dX3_comeFrom_14 : decode cX3_comeFrom 14 = .ok (.invokevirtual 73, 3) := by decide +kernel
theorem dX3_comeFrom_17 : decode cX3_comeFrom 17 = .ok (.ifCond .eq 44, 3) := by decide +kernel
theorem dX3_comeFrom_20 : decode cX3_comeFrom 20 = .ok (.aload_n 0, 1) := by decide +kernel
theorem dX3_comeFrom_21 : decode cX3_comeFrom 21 = .ok (.getfield 21, 3) := by decide +kernel
theorem dX3_comeFrom_24 : decode cX3_comeFrom 24 = .ok (.iload_n 1, 1) := by decide +kernel
theorem dX3_comeFrom_25 : decode cX3_comeFrom 25 = .ok (.iaload, 1) := by decide +kernel
theorem dX3_comeFrom_26 : decode cX3_comeFrom 26 = .ok (.iconst (-1), 1) := by decide +kernel
theorem dX3_comeFrom_27 : decode cX3_comeFrom 27 = .ok (.if_icmp .ne 34, 3) := by decide +kernel
theorem dX3_comeFrom_30 : decode cX3_comeFrom 30 = .ok (.aload_n 0, 1) := by decide +kernel
theorem dX3_comeFrom_31 : decode cX3_comeFrom 31 = .ok (.aload_n 0, 1) := by decide +kernel
theorem dX3_comeFrom_32 : decode cX3_comeFrom 32 = .ok (.aload_n 0, 1) := by decide +kernel
theorem dX3_comeFrom_33 : decode cX3_comeFrom 33 = .ok (.getfield 108, 3) := by decide +kernel
theorem dX3_comeFrom_36 : decode cX3_comeFrom 36 = .ok (.invokevirtual 188, 3) := by decide +kernel
theorem dX3_comeFrom_39 : decode cX3_comeFrom 39 = .ok (.ifCond .ne 11, 3) := by decide +kernel
theorem dX3_comeFrom_42 : decode cX3_comeFrom 42 = .ok (.aload_n 0, 1) := by decide +kernel
theorem dX3_comeFrom_43 : decode cX3_comeFrom 43 = .ok (.iload_n 1, 1) := by decide +kernel
theorem dX3_comeFrom_44 : decode cX3_comeFrom 44 = .ok (.invokevirtual 188, 3) := by decide +kernel
theorem dX3_comeFrom_47 : decode cX3_comeFrom 47 = .ok (.ifCond .eq 7, 3) := by decide +kernel
theorem dX3_comeFrom_50 : decode cX3_comeFrom 50 = .ok (.iconst 1, 1) := by decide +kernel
theorem dX3_comeFrom_51 : decode cX3_comeFrom 51 = .ok (.goto 4, 3) := by decide +kernel
theorem dX3_comeFrom_54 : decode cX3_comeFrom 54 = .ok (.iconst 0, 1) := by decide +kernel
theorem dX3_comeFrom_55 : decode cX3_comeFrom 55 = .ok (.invokevirtual 191, 3) := by decide +kernel
theorem dX3_comeFrom_58 : decode cX3_comeFrom 58 = .ok (.ifCond .ne 5, 3) := by decide +kernel
theorem dX3_comeFrom_61 : decode cX3_comeFrom 61 = .ok (.iconst 0, 1) := by decide +kernel
theorem dX3_comeFrom_62 : decode cX3_comeFrom 62 = .ok (.ireturn, 1) := by decide +kernel
theorem dX3_comeFrom_63 : decode cX3_comeFrom 63 = .ok (.aload_n 0, 1) := by decide +kernel
theorem dX3_comeFrom_64 : decode cX3_comeFrom 64 = .ok (.getfield 9, 3) := by decide +kernel
theorem dX3_comeFrom_67 : decode cX3_comeFrom 67 = .ok (.iload_n 1, 1) := by decide +kernel
theorem dX3_comeFrom_68 : decode cX3_comeFrom 68 = .ok (.iaload, 1) := by decide +kernel
theorem dX3_comeFrom_69 : decode cX3_comeFrom 69 = .ok (.iconst 2, 1) := by decide +kernel
theorem dX3_comeFrom_70 : decode cX3_comeFrom 70 = .ok (.if_icmp .ne 20, 3) := by decide +kernel
theorem dX3_comeFrom_73 : decode cX3_comeFrom 73 = .ok (.aload_n 0, 1) := by decide +kernel
theorem dX3_comeFrom_74 : decode cX3_comeFrom 74 = .ok (.aload_n 0, 1) := by decide +kernel
theorem dX3_comeFrom_75 : decode cX3_comeFrom 75 = .ok (.getfield 108, 3) := by decide +kernel
theorem dX3_comeFrom_78 : decode cX3_comeFrom 78 = .ok (.iconst 2, 1) := by decide +kernel
theorem dX3_comeFrom_79 : decode cX3_comeFrom 79 = .ok (.aload_n 0, 1) := by decide +kernel
theorem dX3_comeFrom_80 : decode cX3_comeFrom 80 = .ok (.getfield 15, 3) := by decide +kernel
theorem dX3_comeFrom_83 : decode cX3_comeFrom 83 = .ok (.iload_n 1, 1) := by decide +kernel
theorem dX3_comeFrom_84 : decode cX3_comeFrom 84 = .ok (.iaload, 1) := by decide +kernel
theorem dX3_comeFrom_85 : decode cX3_comeFrom 85 = .ok (.invokevirtual 201, 3) := by decide +kernel
theorem dX3_comeFrom_88 : decode cX3_comeFrom 88 = .ok (.iconst 1, 1) := by decide +kernel
theorem dX3_comeFrom_89 : decode cX3_comeFrom 89 = .ok (.ireturn, 1) := by decide +kernel
theorem dX3_comeFrom_90 : decode cX3_comeFrom 90 = .ok (.aload_n 0, 1) := by decide +kernel
theorem dX3_comeFrom_91 : decode cX3_comeFrom 91 = .ok (.getfield 9, 3) := by decide +kernel
theorem dX3_comeFrom_94 : decode cX3_comeFrom 94 = .ok (.iload_n 1, 1) := by decide +kernel
theorem dX3_comeFrom_95 : decode cX3_comeFrom 95 = .ok (.iaload, 1) := by decide +kernel
theorem dX3_comeFrom_96 : decode cX3_comeFrom 96 = .ok (.iconst 1, 1) := by decide +kernel
theorem dX3_comeFrom_97 : decode cX3_comeFrom 97 = .ok (.if_icmp .ne 14, 3) := by decide +kernel
theorem dX3_comeFrom_100 : decode cX3_comeFrom 100 = .ok (.aload_n 0, 1) := by decide +kernel
theorem dX3_comeFrom_101 : decode cX3_comeFrom 101 = .ok (.aload_n 0, 1) := by decide +kernel
theorem dX3_comeFrom_102 : decode cX3_comeFrom 102 = .ok (.getfield 117, 3) := by decide +kernel
theorem dX3_comeFrom_105 : decode cX3_comeFrom 105 = .ok (.invokevirtual 198, 3) := by decide +kernel
theorem dX3_comeFrom_108 : decode cX3_comeFrom 108 = .ok (.ifCond .ne 5, 3) := by decide +kernel
theorem dX3_comeFrom_111 : decode cX3_comeFrom 111 = .ok (.iconst 0, 1) := by decide +kernel
theorem dX3_comeFrom_112 : decode cX3_comeFrom 112 = .ok (.ireturn, 1) := by decide +kernel
theorem dX3_comeFrom_113 : decode cX3_comeFrom 113 = .ok (.aload_n 0, 1) := by decide +kernel
theorem dX3_comeFrom_114 : decode cX3_comeFrom 114 = .ok (.aload_n 0, 1) := by decide +kernel
theorem dX3_comeFrom_115 : decode cX3_comeFrom 115 = .ok (.getfield 108, 3) := by decide +kernel
theorem dX3_comeFrom_118 : decode cX3_comeFrom 118 = .ok (.iconst 1, 1) := by decide +kernel
theorem dX3_comeFrom_119 : decode cX3_comeFrom 119 = .ok (.aload_n 0, 1) := by decide +kernel
theorem dX3_comeFrom_120 : decode cX3_comeFrom 120 = .ok (.getfield 117, 3) := by decide +kernel
theorem dX3_comeFrom_123 : decode cX3_comeFrom 123 = .ok (.invokevirtual 201, 3) := by decide +kernel
theorem dX3_comeFrom_126 : decode cX3_comeFrom 126 = .ok (.iconst 1, 1) := by decide +kernel
theorem dX3_comeFrom_127 : decode cX3_comeFrom 127 = .ok (.ireturn, 1) := by decide +kernel
def j_X3_comeFrom_55  (Q : Int32 → St → Prop) (v1 : Int32) (s0 : Int32) (σ : St) : Prop :=
  wp_X3_keepersServe σ s0 (fun y8 σ7 =>
  if y8 = 0 then
  (Q 0 σ7)
  else (vp_in v1 60 ∧
  (if (σ7 14 (ix v1)) = 2 then
  (vp_in v1 60 ∧
  (wp_X3_move σ7 (σ7 13 13) 2 (σ7 15 (ix v1)) (fun σ12 =>
  Q 1 σ12)))
  else (vp_in v1 60 ∧
  (if (σ7 14 (ix v1)) = 1 then
  (wp_X3_mayLieAt σ7 (σ7 13 16) (fun y10 σ9 =>
  if y10 = 0 then
  (Q 0 σ9)
  else (wp_X3_move σ9 (σ9 13 13) 1 (σ9 13 16) (fun σ11 =>
  Q 1 σ11))))
  else (Q 0 σ7))))))
theorem wk_X3_comeFrom_55 (X : cx p s m args c cX3_comeFrom 2 RX3 D (wC cI cZ cH a n) A (tyW cI cZ cH)) (hr9 : meth.sig.returnType = (some .boolean)) (hlk9 : meth.locks = false)  {Q : Int32 → St → Prop} {v1 : Int32} {s0 : Int32} {σ : St} (h : j_X3_comeFrom_55 Q v1 s0 σ) : go p l e rm_X3_comeFrom s m args below meth c D (wC cI cZ cH a n) A 0 0 (MQ below (va_Qi (fun r9 u9 => isB r9 ∧ Q r9 u9) (atw D (wC cI cZ cH a n) (tyW cI cZ cH) A) A) args s 0 0 A) 2 55 [(0, .ref (a 13)), (1, .int v1)] [.int s0, .ref (a 13)] σ := by
  delta j_X3_comeFrom_55 at h
  refine r_callI (As := [.int s0]) (rest := []) X 58 (c_X3_keepersServe h) ml_X3_191 lk_X3_keepersServe wC_at_13 rfl rfl rfl (Nat.le_of_ble_eq_true rfl) ⟨rfl, rfl, ⟨Nat.le_of_ble_eq_true rfl, Nat.le_of_ble_eq_true rfl⟩, Nat.le_of_ble_eq_true rfl, Nat.le_of_ble_eq_true rfl⟩ dX3_comeFrom_55 rfl (fun y8 σ7 h => ?_)
  obtain ⟨hb_y8, h⟩ := h
  refine r_if_ne X 63 61 h dX3_comeFrom_58 rfl rfl (fun h => ?_) (fun h => ?_)
  · refine r_aload_n X 0 64 dX3_comeFrom_63 rfl rfl rfl ?_
    refine g_X3_9 X 67 dX3_comeFrom_64 rfl ?_
    refine r_iload_n X 1 68 dX3_comeFrom_67 rfl rfl rfl ?_
    obtain ⟨hin, h⟩ := h
    refine l_C14 X 69 hin dX3_comeFrom_68 rfl ?_
    refine r_iconst (v := 2) X 70 dX3_comeFrom_69 (by decide) rfl ?_
    refine r_icmp_ne X 90 73 h dX3_comeFrom_70 rfl rfl (fun h => ?_) (fun h => ?_)
    · refine r_aload_n X 0 91 dX3_comeFrom_90 rfl rfl rfl ?_
      refine g_X3_9 X 94 dX3_comeFrom_91 rfl ?_
      refine r_iload_n X 1 95 dX3_comeFrom_94 rfl rfl rfl ?_
      obtain ⟨hin, h⟩ := h
      refine l_C14 X 96 hin dX3_comeFrom_95 rfl ?_
      refine r_iconst (v := 1) X 97 dX3_comeFrom_96 (by decide) rfl ?_
      refine r_icmp_ne X 111 100 h dX3_comeFrom_97 rfl rfl (fun h => ?_) (fun h => ?_)
      · refine r_iconst (v := 0) X 112 dX3_comeFrom_111 (by decide) rfl ?_
        exact r_zret X hr9 hlk9 isB_0 h dX3_comeFrom_112
      · refine r_aload_n X 0 101 dX3_comeFrom_100 rfl rfl rfl ?_
        refine r_aload_n X 0 102 dX3_comeFrom_101 rfl rfl rfl ?_
        refine g_X3_117 X 105 dX3_comeFrom_102 rfl ?_
        refine r_callI (As := [.int (σ7 13 16)]) (rest := []) X 108 (c_X3_mayLieAt h) ml_X3_198 lk_X3_mayLieAt wC_at_13 rfl rfl rfl (Nat.le_of_ble_eq_true rfl) ⟨rfl, rfl, ⟨Nat.le_of_ble_eq_true rfl, Nat.le_of_ble_eq_true rfl⟩, Nat.le_of_ble_eq_true rfl, Nat.le_of_ble_eq_true rfl⟩ dX3_comeFrom_105 rfl (fun y10 σ9 h => ?_)
        obtain ⟨hb_y10, h⟩ := h
        refine r_if_ne X 113 111 h dX3_comeFrom_108 rfl rfl (fun h => ?_) (fun h => ?_)
        · refine r_aload_n X 0 114 dX3_comeFrom_113 rfl rfl rfl ?_
          refine r_aload_n X 0 115 dX3_comeFrom_114 rfl rfl rfl ?_
          refine g_X3_108 X 118 dX3_comeFrom_115 rfl ?_
          refine r_iconst (v := 1) X 119 dX3_comeFrom_118 (by decide) rfl ?_
          refine r_aload_n X 0 120 dX3_comeFrom_119 rfl rfl rfl ?_
          refine g_X3_117 X 123 dX3_comeFrom_120 rfl ?_
          refine r_callV (As := [.int (σ9 13 13), .int 1, .int (σ9 13 16)]) (rest := []) X 126 (c_X3_move h) ml_X3_201 lk_X3_move wC_at_13 rfl rfl rfl (Nat.le_of_ble_eq_true rfl) ⟨rfl, rfl, ⟨Nat.le_of_ble_eq_true rfl, Nat.le_of_ble_eq_true rfl⟩, Nat.le_of_ble_eq_true rfl, Nat.le_of_ble_eq_true rfl⟩ dX3_comeFrom_123 rfl (fun σ11 h => ?_)
          refine r_iconst (v := 1) X 127 dX3_comeFrom_126 (by decide) rfl ?_
          exact r_zret X hr9 hlk9 isB_1 h dX3_comeFrom_127
        · refine r_iconst (v := 0) X 112 dX3_comeFrom_111 (by decide) rfl ?_
          exact r_zret X hr9 hlk9 isB_0 h dX3_comeFrom_112
    · refine r_aload_n X 0 74 dX3_comeFrom_73 rfl rfl rfl ?_
      refine r_aload_n X 0 75 dX3_comeFrom_74 rfl rfl rfl ?_
      refine g_X3_108 X 78 dX3_comeFrom_75 rfl ?_
      refine r_iconst (v := 2) X 79 dX3_comeFrom_78 (by decide) rfl ?_
      refine r_aload_n X 0 80 dX3_comeFrom_79 rfl rfl rfl ?_
      refine g_X3_15 X 83 dX3_comeFrom_80 rfl ?_
      refine r_iload_n X 1 84 dX3_comeFrom_83 rfl rfl rfl ?_
      obtain ⟨hin, h⟩ := h
      refine l_C15 X 85 hin dX3_comeFrom_84 rfl ?_
      refine r_callV (As := [.int (σ7 13 13), .int 2, .int (σ7 15 (ix v1))]) (rest := []) X 88 (c_X3_move h) ml_X3_201 lk_X3_move wC_at_13 rfl rfl rfl (Nat.le_of_ble_eq_true rfl) ⟨rfl, rfl, ⟨Nat.le_of_ble_eq_true rfl, Nat.le_of_ble_eq_true rfl⟩, Nat.le_of_ble_eq_true rfl, Nat.le_of_ble_eq_true rfl⟩ dX3_comeFrom_85 rfl (fun σ12 h => ?_)
      refine r_iconst (v := 1) X 89 dX3_comeFrom_88 (by decide) rfl ?_
      exact r_zret X hr9 hlk9 isB_1 h dX3_comeFrom_89
  · refine r_iconst (v := 0) X 62 dX3_comeFrom_61 (by decide) rfl ?_
    exact r_zret X hr9 hlk9 isB_0 h dX3_comeFrom_62
def j_X3_comeFrom_50  (Q : Int32 → St → Prop) (v1 : Int32) (σ : St) : Prop :=
  j_X3_comeFrom_55 Q v1 1 σ
theorem wk_X3_comeFrom_50 (X : cx p s m args c cX3_comeFrom 2 RX3 D (wC cI cZ cH a n) A (tyW cI cZ cH)) (hr9 : meth.sig.returnType = (some .boolean)) (hlk9 : meth.locks = false)  {Q : Int32 → St → Prop} {v1 : Int32} {σ : St} (h : j_X3_comeFrom_50 Q v1 σ) : go p l e rm_X3_comeFrom s m args below meth c D (wC cI cZ cH a n) A 0 0 (MQ below (va_Qi (fun r9 u9 => isB r9 ∧ Q r9 u9) (atw D (wC cI cZ cH a n) (tyW cI cZ cH) A) A) args s 0 0 A) 2 50 [(0, .ref (a 13)), (1, .int v1)] [.ref (a 13)] σ := by
  delta j_X3_comeFrom_50 at h
  refine r_iconst (v := 1) X 51 dX3_comeFrom_50 (by decide) rfl ?_
  refine r_goto X 55 dX3_comeFrom_51 rfl ?_
  refine r_pick (lv' := [(0, .ref (a 13)), (1, .int v1)]) [0, 1] rfl ?_
  exact wk_X3_comeFrom_55 X hr9 hlk9 h
def wp_X3_comeFrom  (σ : St) (Q : Int32 → St → Prop) : Prop :=
  wp_X3_bagAround σ (σ 13 13) (fun y2 σ1 =>
  wp_X4_isThing σ1 y2 (fun y4 σ3 =>
  if y4 = 0 then
  (Q 0 σ3)
  else (vp_in y2 60 ∧
  (if (σ3 17 (ix y2)) = (-1) then
  (wp_X3_isMoneyBag σ3 (σ3 13 13) (fun y6 σ5 =>
  if y6 = 0 then
  (wp_X3_isMoneyBag σ5 y2 (fun y14 σ13 =>
  if y14 = 0 then
  (j_X3_comeFrom_55 Q y2 0 σ13)
  else (j_X3_comeFrom_50 Q y2 σ13)))
  else (j_X3_comeFrom_50 Q y2 σ5)))
  else (Q 0 σ3)))))
theorem c_X3_comeFrom  {σ : St} {Q : Int32 → St → Prop} (h : wp_X3_comeFrom σ Q) : ctI l yX3_comeFrom cX3_comeFrom 2 (some .boolean) rm_X3_comeFrom D (wC cI cZ cH a n) (tyW cI cZ cH) [.ref (a 13)] σ (fun r9 u9 => isB r9 ∧ Q r9 u9) := by
  refine mk_I (wC_ok cI cZ cH a n) (by decide +kernel) (Nat.le_of_ble_eq_true rfl) (fun p e s m args below meth c A X hr9 hlk9 => ?_)
  refine r_pick (lv' := [(0, .ref (a 13))]) [0] rfl ?_
  delta wp_X3_comeFrom at h
  refine r_aload_n X 0 1 dX3_comeFrom_0 rfl rfl rfl ?_
  refine r_aload_n X 0 2 dX3_comeFrom_1 rfl rfl rfl ?_
  refine g_X3_108 X 5 dX3_comeFrom_2 rfl ?_
  refine r_callI (As := [.int (σ 13 13)]) (rest := []) X 8 (c_X3_bagAround h) ml_X3_218 lk_X3_bagAround wC_at_13 rfl rfl rfl (Nat.le_of_ble_eq_true rfl) ⟨rfl, rfl, ⟨Nat.le_of_ble_eq_true rfl, Nat.le_of_ble_eq_true rfl⟩, Nat.le_of_ble_eq_true rfl, Nat.le_of_ble_eq_true rfl⟩ dX3_comeFrom_5 rfl (fun y2 σ1 h => ?_)
  refine r_istore_n X 9 [(1, .int y2), (0, .ref (a 13))] dX3_comeFrom_8 rfl (by decide) rfl rfl ?_
  refine r_aload_n X 1 10 dX3_comeFrom_9 rfl rfl rfl ?_
  refine g_X3_48 X 13 dX3_comeFrom_10 rfl ?_
  refine r_iload_n X 0 14 dX3_comeFrom_13 rfl rfl rfl ?_
  refine r_callNI (As := [.int y2]) (rest := []) X 17 (c_X4_isThing h) ml_X3_73 lk_X4_isThing wC_at_1 rfl rfl rfl (Nat.le_of_ble_eq_true rfl) ⟨rfl, rfl, ⟨Nat.le_of_ble_eq_true rfl, Nat.le_of_ble_eq_true rfl⟩, Nat.le_of_ble_eq_true rfl, Nat.le_of_ble_eq_true rfl⟩ dX3_comeFrom_14 rfl (fun y4 σ3 h => ?_)
  obtain ⟨hb_y4, h⟩ := h
  refine r_if_eq X 61 20 h dX3_comeFrom_17 rfl rfl (fun h => ?_) (fun h => ?_)
  · refine r_iconst (v := 0) X 62 dX3_comeFrom_61 (by decide) rfl ?_
    exact r_zret X hr9 hlk9 isB_0 h dX3_comeFrom_62
  · refine r_aload_n X 1 21 dX3_comeFrom_20 rfl rfl rfl ?_
    refine g_X3_21 X 24 dX3_comeFrom_21 rfl ?_
    refine r_iload_n X 0 25 dX3_comeFrom_24 rfl rfl rfl ?_
    obtain ⟨hin, h⟩ := h
    refine l_C17 X 26 hin dX3_comeFrom_25 rfl ?_
    refine r_iconst (v := (-1)) X 27 dX3_comeFrom_26 (by decide) rfl ?_
    refine r_icmp_ne X 61 30 h dX3_comeFrom_27 rfl rfl (fun h => ?_) (fun h => ?_)
    · refine r_iconst (v := 0) X 62 dX3_comeFrom_61 (by decide) rfl ?_
      exact r_zret X hr9 hlk9 isB_0 h dX3_comeFrom_62
    · refine r_aload_n X 1 31 dX3_comeFrom_30 rfl rfl rfl ?_
      refine r_aload_n X 1 32 dX3_comeFrom_31 rfl rfl rfl ?_
      refine r_aload_n X 1 33 dX3_comeFrom_32 rfl rfl rfl ?_
      refine g_X3_108 X 36 dX3_comeFrom_33 rfl ?_
      refine r_callI (As := [.int (σ3 13 13)]) (rest := [.ref (a 13)]) X 39 (c_X3_isMoneyBag h) ml_X3_188 lk_X3_isMoneyBag wC_at_13 rfl rfl rfl (Nat.le_of_ble_eq_true rfl) ⟨rfl, rfl, ⟨Nat.le_of_ble_eq_true rfl, Nat.le_of_ble_eq_true rfl⟩, Nat.le_of_ble_eq_true rfl, Nat.le_of_ble_eq_true rfl⟩ dX3_comeFrom_36 rfl (fun y6 σ5 h => ?_)
      obtain ⟨hb_y6, h⟩ := h
      refine r_if_ne X 50 42 h dX3_comeFrom_39 rfl rfl (fun h => ?_) (fun h => ?_)
      · refine r_pick (lv' := [(0, .ref (a 13)), (1, .int y2)]) [1, 0] rfl ?_
        exact wk_X3_comeFrom_50 X hr9 hlk9 h
      · refine r_aload_n X 1 43 dX3_comeFrom_42 rfl rfl rfl ?_
        refine r_iload_n X 0 44 dX3_comeFrom_43 rfl rfl rfl ?_
        refine r_callI (As := [.int y2]) (rest := [.ref (a 13)]) X 47 (c_X3_isMoneyBag h) ml_X3_188 lk_X3_isMoneyBag wC_at_13 rfl rfl rfl (Nat.le_of_ble_eq_true rfl) ⟨rfl, rfl, ⟨Nat.le_of_ble_eq_true rfl, Nat.le_of_ble_eq_true rfl⟩, Nat.le_of_ble_eq_true rfl, Nat.le_of_ble_eq_true rfl⟩ dX3_comeFrom_44 rfl (fun y14 σ13 h => ?_)
        obtain ⟨hb_y14, h⟩ := h
        refine r_if_eq X 54 50 h dX3_comeFrom_47 rfl rfl (fun h => ?_) (fun h => ?_)
        · refine r_iconst (v := 0) X 55 dX3_comeFrom_54 (by decide) rfl ?_
          refine r_pick (lv' := [(0, .ref (a 13)), (1, .int y2)]) [1, 0] rfl ?_
          exact wk_X3_comeFrom_55 X hr9 hlk9 h
        · refine r_pick (lv' := [(0, .ref (a 13)), (1, .int y2)]) [1, 0] rfl ?_
          exact wk_X3_comeFrom_50 X hr9 hlk9 h
end WALK
