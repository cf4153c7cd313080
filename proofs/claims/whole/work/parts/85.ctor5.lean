/-- the addresses with this one first -/
def hd (b : Nat) (u : Nat → Nat) : Nat → Nat := fun k => if k = 0 then b else u k
theorem wC_0 (cI cZ cH : ClassId) (a : Nat → Nat) : wC cI cZ cH a 0 cz = [(a 0, .inr (5, [.ref (a 1), .ref (a 7), .ref (a 10), .ref (a 13), .ref (a 26), .ref (a 28), .ref (a 29), .int 0, .int 0, .int 0, .int (-1), .int (-1)])), (a 1, .inr (4, [.ref (a 2), .ref (a 3), .ref (a 4), .ref (a 5), .ref (a 6), .int 0, .int 0, .int 0])), (a 2, .inl (cZ, 20, .inl (fun _ => 0))), (a 3, .inl (cZ, 8, .inl (fun _ => 0))), (a 4, .inl (cI, 6, .inl (fillA 6 (-1) (fun _ => 0)))), (a 5, .inl (cI, 60, .inl (fun _ => 0))), (a 6, .inl (cI, 60, .inl (fun _ => 0))), (a 7, .inr (2, [.ref (a 8), .ref (a 9), .int 0])), (a 8, .inl (cI, 3200, .inl (fun _ => 0))), (a 9, .inl (cI, 400, .inl (fun _ => 0))), (a 10, .inr (2, [.ref (a 11), .ref (a 12), .int 0])), (a 11, .inl (cI, 3200, .inl (fun _ => 0))), (a 12, .inl (cI, 400, .inl (fun _ => 0))), (a 13, .inr (3, [.ref (a 1), .ref (a 14), .ref (a 15), .ref (a 16), .ref (a 17), .ref (a 18), .ref (a 19), .ref (a 20), .ref (a 21), .ref (a 22), .ref (a 23), .ref (a 24), .ref (a 25), .int 0, .int 0, .int 0, .int 0, .int 0, .int 0])), (a 14, .inl (cI, 60, .inl (fun _ => 0))), (a 15, .inl (cI, 60, .inl (fun _ => 0))), (a 16, .inl (cI, 60, .inl (fun _ => 0))), (a 17, .inl (cI, 60, .inl (fun _ => 0))), (a 18, .inl (cI, 60, .inl (fun _ => 0))), (a 19, .inl (cI, 60, .inl (fun _ => 0))), (a 20, .inl (cI, 60, .inl (fun _ => 0))), (a 21, .inl (cI, 60, .inl (fun _ => 0))), (a 22, .inl (cI, 60, .inl (fun _ => 0))), (a 23, .inl (cI, 60, .inl (fun _ => 0))), (a 24, .inl (cI, 96, .inl (fun _ => 0))), (a 25, .inl (cI, 600, .inl (fun _ => 0))), (a 26, .inr (1, [.ref (a 7), .ref (a 27), .int 0])), (a 27, .inl (cI, 400, .inl (fun _ => 0))), (a 28, .inl (cH, 60, .inr (.inr (.inr (.inr (fun _ => none)))))), (a 29, .inl (cI, 8, .inl (fun _ => 0)))] := by
  have e : (fun i => if i < 0 then some (a (30 + i)) else none) = (fun _ => none : Nat → Option Nat) := by
    funext i
    exact if_neg (Nat.not_lt_zero i)
  unfold wC
  rw [e]
  rfl
section WALK
variable {p : Program} {l : Launch} {e : Env} {s : State} {m : MethodId} {args : Array Value} {below : List Frame} {meth : Method} {c : Code} {D : va_G} {A : Nat → Prop} {cI cZ cH : ClassId}
theorem dX5_init_0 : decode cX5_init 0 = .ok (.aload_n 0, 1) := by decide +kernel
theorem dX5_init_1 : decode cX5_init 1 = .ok (.invokespecial 1, 3) := by decide +kernel
theorem dX5_init_4 : decode cX5_init 4 = .ok (.aload_n 0, 1) := by decide +kernel
theorem dX5_init_5 : decode cX5_init 5 = .ok (.new 7, 3) := by decide +kernel
theorem dX5_init_8 : decode cX5_init 8 = .ok (.dup, 1) := by decide +kernel
theorem dX5_init_9 : decode cX5_init 9 = .ok (.invokespecial 9, 3) := by decide +kernel
theorem dX5_init_12 : decode cX5_init 12 = .ok (.putfield 10, 3) := by decide +kernel
theorem dX5_init_15 : decode cX5_init 15 = .ok (.aload_n 0, 1) := by decide +kernel
theorem dX5_init_16 : decode cX5_init 16 = .ok (.new 16, 3) := by decide +kernel
theorem dX5_init_19 : decode cX5_init 19 = .ok (.dup, 1) := by decide +kernel
theorem dX5_init_20 : decode cX5_init 20 = .ok (.invokespecial 18, 3) := by decide +kernel
theorem dX5_init_23 : decode cX5_init 23 = .ok (.putfield 19, 3) := by decide +kernel
theorem dX5_init_26 : decode cX5_init 26 = .ok (.aload_n 0, 1) := by decide +kernel
theorem dX5_init_27 : decode cX5_init 27 = .ok (.new 16, 3) := by decide +kernel
theorem dX5_init_30 : decode cX5_init 30 = .ok (.dup, 1) := by decide +kernel
theorem dX5_init_31 : decode cX5_init 31 = .ok (.invokespecial 18, 3) := by decide +kernel
theorem dX5_init_34 : decode cX5_init 34 = .ok (.putfield 23, 3) := by decide +kernel
theorem dX5_init_37 : decode cX5_init 37 = .ok (.aload_n 0, 1) := by decide +kernel
theorem dX5_init_38 : decode cX5_init 38 = .ok (.new 26, 3) := by decide +kernel
theorem dX5_init_41 : decode cX5_init 41 = .ok (.dup, 1) := by decide +kernel
theorem dX5_init_42 : decode cX5_init 42 = .ok (.aload_n 0, 1) := by decide +kernel
theorem dX5_init_43 : decode cX5_init 43 = .ok (.getfield 10, 3) := by decide +kernel
theorem dX5_init_46 : decode cX5_init 46 = .ok (.invokespecial 28, 3) := by decide +kernel
theorem dX5_init_49 : decode cX5_init 49 = .ok (.putfield 31, 3) := by decide +kernel
theorem dX5_init_52 : decode cX5_init 52 = .ok (.aload_n 0, 1) := by decide +kernel
theorem dX5_init_53 : decode cX5_init 53 = .ok (.new 35, 3) := by decide +kernel
theorem dX5_init_56 : decode cX5_init 56 = .ok (.dup, 1) := by decide +kernel
theorem dX5_init_57 : decode cX5_init 57 = .ok (.aload_n 0, 1) := by decide +kernel
theorem dX5_init_58 : decode cX5_init 58 = .ok (.getfield 19, 3) := by decide +kernel
theorem dX5_init_61 : decode cX5_init 61 = .ok (.invokespecial 37, 3) := by decide +kernel
theorem dX5_init_64 : decode cX5_init 64 = .ok (.putfield 40, 3) := by decide +kernel
theorem dX5_init_67 : decode cX5_init 67 = .ok (.aload_n 0, 1) := by decide +kernel
theorem dX5_init_68 : decode cX5_init 68 = .ok (.bipush 60, 2) := by decide +kernel
theorem dX5_init_70 : decode cX5_init 70 = .ok (.anewarray 44, 3) := by decide +kernel
theorem dX5_init_73 : decode cX5_init 73 = .ok (.putfield 46, 3) := by decide +kernel
theorem dX5_init_76 : decode cX5_init 76 = .ok (.aload_n 0, 1) := by decide +kernel
theorem dX5_init_77 : decode cX5_init 77 = .ok (.bipush 8, 2) := by decide +kernel
theorem dX5_init_79 : decode cX5_init 79 = .ok (.newarray .int, 2) := by decide +kernel
theorem dX5_init_81 : decode cX5_init 81 = .ok (.putfield 50, 3) := by decide +kernel
theorem dX5_init_84 : decode cX5_init 84 = .ok (.aload_n 0, 1) := by decide +kernel
theorem dX5_init_85 : decode cX5_init 85 = .ok (.iconst (-1), 1) := by decide +kernel
theorem dX5_init_86 : decode cX5_init 86 = .ok (.putfield 54, 3) := by decide +kernel
theorem dX5_init_89 : decode cX5_init 89 = .ok (.aload_n 0, 1) := by decide +kernel
theorem dX5_init_90 : decode cX5_init 90 = .ok (.iconst (-1), 1) := by decide +kernel
theorem dX5_init_91 : decode cX5_init 91 = .ok (.putfield 58, 3) := by decide +kernel
theorem dX5_init_94 : decode cX5_init 94 = .ok (.return_, 1) := by decide +kernel
def rm_X5_init : Room := { frames := 2, cells := 29, slots := 9154, locals := 43 }
set_option maxHeartbeats 4000000 in
theorem c_X5_init {h0 : Nat} : ctN l yX5_init cX5_init 1 rm_X5_init D (tyW cI cZ cH) 29 9154 [(h0, .inr (5, [.null, .null, .null, .null, .null, .null, .null, .int 0, .int 0, .int 0, .int 0, .int 0]))] (fun u => wC cI cZ cH (hd h0 u) 0 cz) [.ref h0] := by
  refine mk_N (by decide +kernel) (Nat.le_of_ble_eq_true rfl) (fun p e s m args below meth c A X hr9 hlk9 hnm9 hao => ?_)
  refine r_pick (lv' := [(0, .ref h0)]) [0] rfl ?_
  refine r_aload_n X 0 1 dX5_init_0 rfl rfl rfl ?_
  refine r_objInit X 4 ml_X5_1 dX5_init_1 (Nat.le_of_ble_eq_true rfl) (Nat.le_of_ble_eq_true rfl) (Nat.le_of_ble_eq_true rfl) rfl ?_
  refine r_aload_n X 0 5 dX5_init_4 rfl rfl rfl ?_
  refine r_newOc X (ci := 4) (ty0 := tyX4) [.null, .null, .null, .null, .null, .int 0, .int 0, .int 0] 8 rfl inX4 tyX4_ok (cl_X5_7) in_X4 ini_X4 (fun j hj => by rcases (show j = 0 ∨ j = 1 ∨ j = 2 ∨ j = 3 ∨ j = 4 ∨ j = 5 ∨ j = 6 ∨ j = 7 by omega) with rfl | rfl | rfl | rfl | rfl | rfl | rfl | rfl <;> rfl) (Nat.le_of_ble_eq_true rfl) (Nat.le_of_ble_eq_true rfl) (cells' := 1) (slots' := 8) rfl rfl dX5_init_5 rfl (fun b1 X1 => ?_)
  refine r_dup X1 9 dX5_init_8 rfl rfl ?_
  refine r_callNc (As := []) (rest := [.ref b1, .ref h0]) X1 hao 12 (c_X4_init (h0 := b1)) ml_X5_9 lk_X4_init im_X4_init rfl rfl rfl (Nat.le_of_ble_eq_true rfl) rfl rfl ⟨(Nat.le_of_ble_eq_true rfl), (Nat.le_of_ble_eq_true rfl)⟩ (Nat.le_of_ble_eq_true rfl) (Nat.le_of_ble_eq_true rfl) (cells' := 6) (slots' := 162) rfl rfl dX5_init_9 rfl (fun u2 X2 => ?_)
  refine r_putFK X2 hnm9 0 (.object "CustodyRoom$Stock") [.ref b1, .null, .null, .null, .null, .null, .null, .int 0, .int 0, .int 0, .int 0, .int 0] 15 rfl inX5 tyX5_ok nmX5 (by decide) fl_X5_10 rfl rfl (by decide +kernel) rfl rfl (Nat.le_of_ble_eq_true rfl) rfl dX5_init_12 rfl (fun X3 => ?_)
  refine r_aload_n X3 0 16 dX5_init_15 rfl rfl rfl ?_
  refine r_newOc X3 (ci := 2) (ty0 := tyX2) [.null, .null, .int 0] 19 rfl inX2 tyX2_ok (cl_X5_16) in_X2 ini_X2 (fun j hj => by rcases (show j = 0 ∨ j = 1 ∨ j = 2 by omega) with rfl | rfl | rfl <;> rfl) (Nat.le_of_ble_eq_true rfl) (Nat.le_of_ble_eq_true rfl) (cells' := 7) (slots' := 165) rfl rfl dX5_init_16 rfl (fun b2 X4 => ?_)
  refine r_dup X4 20 dX5_init_19 rfl rfl ?_
  refine r_callNc (As := []) (rest := [.ref b2, .ref h0]) X4 hao 23 (c_X2_init (h0 := b2)) ml_X5_18 lk_X2_init im_X2_init rfl rfl rfl (Nat.le_of_ble_eq_true rfl) rfl rfl ⟨(Nat.le_of_ble_eq_true rfl), (Nat.le_of_ble_eq_true rfl)⟩ (Nat.le_of_ble_eq_true rfl) (Nat.le_of_ble_eq_true rfl) (cells' := 9) (slots' := 3765) rfl rfl dX5_init_20 rfl (fun u5 X5 => ?_)
  refine r_putFK X5 hnm9 1 (.object "CustodyRoom$Slips") [.ref b1, .ref b2, .null, .null, .null, .null, .null, .int 0, .int 0, .int 0, .int 0, .int 0] 26 rfl inX5 tyX5_ok nmX5 (by decide) fl_X5_19 rfl rfl (by decide +kernel) rfl rfl (Nat.le_of_ble_eq_true rfl) rfl dX5_init_23 rfl (fun X6 => ?_)
  refine r_aload_n X6 0 27 dX5_init_26 rfl rfl rfl ?_
  refine r_newOc X6 (ci := 2) (ty0 := tyX2) [.null, .null, .int 0] 30 rfl inX2 tyX2_ok (cl_X5_16) in_X2 ini_X2 (fun j hj => by rcases (show j = 0 ∨ j = 1 ∨ j = 2 by omega) with rfl | rfl | rfl <;> rfl) (Nat.le_of_ble_eq_true rfl) (Nat.le_of_ble_eq_true rfl) (cells' := 10) (slots' := 3768) rfl rfl dX5_init_27 rfl (fun b3 X7 => ?_)
  refine r_dup X7 31 dX5_init_30 rfl rfl ?_
  refine r_callNc (As := []) (rest := [.ref b3, .ref h0]) X7 hao 34 (c_X2_init (h0 := b3)) ml_X5_18 lk_X2_init im_X2_init rfl rfl rfl (Nat.le_of_ble_eq_true rfl) rfl rfl ⟨(Nat.le_of_ble_eq_true rfl), (Nat.le_of_ble_eq_true rfl)⟩ (Nat.le_of_ble_eq_true rfl) (Nat.le_of_ble_eq_true rfl) (cells' := 12) (slots' := 7368) rfl rfl dX5_init_31 rfl (fun u8 X8 => ?_)
  refine r_putFK X8 hnm9 2 (.object "CustodyRoom$Slips") [.ref b1, .ref b2, .ref b3, .null, .null, .null, .null, .int 0, .int 0, .int 0, .int 0, .int 0] 37 rfl inX5 tyX5_ok nmX5 (by decide) fl_X5_23 rfl rfl (by decide +kernel) rfl rfl (Nat.le_of_ble_eq_true rfl) rfl dX5_init_34 rfl (fun X9 => ?_)
  refine r_aload_n X9 0 38 dX5_init_37 rfl rfl rfl ?_
  refine r_newOc X9 (ci := 3) (ty0 := tyX3) [.null, .null, .null, .null, .null, .null, .null, .null, .null, .null, .null, .null, .null, .int 0, .int 0, .int 0, .int 0, .int 0, .int 0] 41 rfl inX3 tyX3_ok (cl_X5_26) in_X3 ini_X3 (fun j hj => by rcases (show j = 0 ∨ j = 1 ∨ j = 2 ∨ j = 3 ∨ j = 4 ∨ j = 5 ∨ j = 6 ∨ j = 7 ∨ j = 8 ∨ j = 9 ∨ j = 10 ∨ j = 11 ∨ j = 12 ∨ j = 13 ∨ j = 14 ∨ j = 15 ∨ j = 16 ∨ j = 17 ∨ j = 18 by omega) with rfl | rfl | rfl | rfl | rfl | rfl | rfl | rfl | rfl | rfl | rfl | rfl | rfl | rfl | rfl | rfl | rfl | rfl | rfl <;> rfl) (Nat.le_of_ble_eq_true rfl) (Nat.le_of_ble_eq_true rfl) (cells' := 13) (slots' := 7387) rfl rfl dX5_init_38 rfl (fun b4 X10 => ?_)
  refine r_dup X10 42 dX5_init_41 rfl rfl ?_
  refine r_aload_n X10 0 43 dX5_init_42 rfl rfl rfl ?_
  refine r_get X10 (q0 := 0) (ci := 5) (k := 0) 46 rfl rfl inX5 (by decide) rfl fl_X5_10 dX5_init_43 rfl ?_
  refine r_callNc (As := [.ref b1]) (rest := [.ref b4, .ref h0]) X10 hao 49 (c_X3_init (h0 := b4)) ml_X5_28 lk_X3_init im_X3_init rfl rfl rfl (Nat.le_of_ble_eq_true rfl) rfl rfl ⟨(Nat.le_of_ble_eq_true rfl), (Nat.le_of_ble_eq_true rfl)⟩ (Nat.le_of_ble_eq_true rfl) (Nat.le_of_ble_eq_true rfl) (cells' := 25) (slots' := 8683) rfl rfl dX5_init_46 rfl (fun u11 X11 => ?_)
  refine r_putFK X11 hnm9 3 (.object "CustodyRoom$Standing") [.ref b1, .ref b2, .ref b3, .ref b4, .null, .null, .null, .int 0, .int 0, .int 0, .int 0, .int 0] 52 rfl inX5 tyX5_ok nmX5 (by decide) fl_X5_31 rfl rfl (by decide +kernel) rfl rfl (Nat.le_of_ble_eq_true rfl) rfl dX5_init_49 rfl (fun X12 => ?_)
  refine r_aload_n X12 0 53 dX5_init_52 rfl rfl rfl ?_
  refine r_newOc X12 (ci := 1) (ty0 := tyX1) [.null, .null, .int 0] 56 rfl inX1 tyX1_ok (cl_X5_35) in_X1 ini_X1 (fun j hj => by rcases (show j = 0 ∨ j = 1 ∨ j = 2 by omega) with rfl | rfl | rfl <;> rfl) (Nat.le_of_ble_eq_true rfl) (Nat.le_of_ble_eq_true rfl) (cells' := 26) (slots' := 8686) rfl rfl dX5_init_53 rfl (fun b5 X13 => ?_)
  refine r_dup X13 57 dX5_init_56 rfl rfl ?_
  refine r_aload_n X13 0 58 dX5_init_57 rfl rfl rfl ?_
  refine r_get X13 (q0 := 0) (ci := 5) (k := 1) 61 rfl rfl inX5 (by decide) rfl fl_X5_19 dX5_init_58 rfl ?_
  refine r_callNc (As := [.ref b2]) (rest := [.ref b5, .ref h0]) X13 hao 64 (c_X1_init (h0 := b5)) ml_X5_37 lk_X1_init im_X1_init rfl rfl rfl (Nat.le_of_ble_eq_true rfl) rfl rfl ⟨(Nat.le_of_ble_eq_true rfl), (Nat.le_of_ble_eq_true rfl)⟩ (Nat.le_of_ble_eq_true rfl) (Nat.le_of_ble_eq_true rfl) (cells' := 27) (slots' := 9086) rfl rfl dX5_init_61 rfl (fun u14 X14 => ?_)
  refine r_putFK X14 hnm9 4 (.object "CustodyRoom$Links") [.ref b1, .ref b2, .ref b3, .ref b4, .ref b5, .null, .null, .int 0, .int 0, .int 0, .int 0, .int 0] 67 rfl inX5 tyX5_ok nmX5 (by decide) fl_X5_40 rfl rfl (by decide +kernel) rfl rfl (Nat.le_of_ble_eq_true rfl) rfl dX5_init_64 rfl (fun X15 => ?_)
  refine r_aload_n X15 0 68 dX5_init_67 rfl rfl rfl ?_
  refine r_bipush (v := (60)) X15 70 dX5_init_68 (by decide) rfl ?_
  refine r_newQc (N' := 60) X15 hao 73 cl_X5_44 (by decide) (by decide) (Nat.le_of_ble_eq_true rfl) (Nat.le_of_ble_eq_true rfl) (Nat.le_of_ble_eq_true rfl) (cells' := 28) (slots' := 9146) rfl rfl dX5_init_70 rfl (fun b6 X16 => ?_)
  refine r_putFK X16 hnm9 5 (.array (.object "CustodyRoom$Handing")) [.ref b1, .ref b2, .ref b3, .ref b4, .ref b5, .ref b6, .null, .int 0, .int 0, .int 0, .int 0, .int 0] 76 rfl inX5 tyX5_ok nmX5 (by decide) fl_X5_46 rfl rfl (by decide +kernel) rfl rfl (Nat.le_of_ble_eq_true rfl) rfl dX5_init_73 rfl (fun X17 => ?_)
  refine r_aload_n X17 0 77 dX5_init_76 rfl rfl rfl ?_
  refine r_bipush (v := (8)) X17 79 dX5_init_77 (by decide) rfl ?_
  refine r_newIc (N' := 8) X17 81 (by decide) (by decide) (Nat.le_of_ble_eq_true rfl) (Nat.le_of_ble_eq_true rfl) (Nat.le_of_ble_eq_true rfl) (cells' := 29) (slots' := 9154) rfl rfl dX5_init_79 rfl (fun b7 X18 => ?_)
  refine r_putFK X18 hnm9 6 (.array .int) [.ref b1, .ref b2, .ref b3, .ref b4, .ref b5, .ref b6, .ref b7, .int 0, .int 0, .int 0, .int 0, .int 0] 84 rfl inX5 tyX5_ok nmX5 (by decide) fl_X5_50 rfl rfl (by decide +kernel) rfl rfl (Nat.le_of_ble_eq_true rfl) rfl dX5_init_81 rfl (fun X19 => ?_)
  refine r_aload_n X19 0 85 dX5_init_84 rfl rfl rfl ?_
  refine r_iconst (v := (-1)) X19 86 dX5_init_85 (by decide) rfl ?_
  refine r_putK X19 10 .int [.ref b1, .ref b2, .ref b3, .ref b4, .ref b5, .ref b6, .ref b7, .int 0, .int 0, .int 0, .int (-1), .int 0] 89 rfl inX5 tyX5_ok nmX5 (by decide) fl_X5_54 rfl (by decide +kernel) (vp_nar_int _) rfl (Nat.le_of_ble_eq_true rfl) rfl dX5_init_86 rfl (fun X20 => ?_)
  refine r_aload_n X20 0 90 dX5_init_89 rfl rfl rfl ?_
  refine r_iconst (v := (-1)) X20 91 dX5_init_90 (by decide) rfl ?_
  refine r_putK X20 11 .int [.ref b1, .ref b2, .ref b3, .ref b4, .ref b5, .ref b6, .ref b7, .int 0, .int 0, .int 0, .int (-1), .int (-1)] 94 rfl inX5 tyX5_ok nmX5 (by decide) fl_X5_58 rfl (by decide +kernel) (vp_nar_int _) rfl (Nat.le_of_ble_eq_true rfl) rfl dX5_init_91 rfl (fun X21 => ?_)
  exact r_vretN X21 hr9 hlk9 (fun k => [h0, b1, u2 1, u2 2, u2 3, u2 4, u2 5, b2, u5 1, u5 2, b3, u8 1, u8 2, b4, u11 1, u11 2, u11 3, u11 4, u11 5, u11 6, u11 7, u11 8, u11 9, u11 10, u11 11, u11 12, b5, u14 1, b6, b7].getD k 0) (by
    show _ = wC cI cZ cH (hd h0 _) 0 cz
    rw [wC_0]
    rfl) dX5_init_94
end WALK
