section WALK
variable {p : Program} {l : Launch} {e : Env} {s : State} {m : MethodId} {args : Array Value} {below : List Frame} {meth : Method} {c : Code} {D : va_G} {A : Nat → Prop} {cI cZ cH : ClassId} {a : Nat → Nat} {n : Nat}
def rm_X5_hand : Room := { frames := 1, cells := 0, slots := 0, locals := 21 }
theorem dX5_hand_0 : decode cX5_hand 0 = .ok (.aload_n 0, 1) := by decide +kernel
theorem dX5_hand_1 : decode cX5_hand 1 = .ok (.getfield 10, 3) := by decide +kernel
theorem dX5_hand_4 : decode cX5_hand 4 = .ok (.iload_n 1, 1) := by decide +kernel
theorem dX5_hand_5 : decode cX5_hand 5 = .ok (.invokevirtual 61, 3) := by decide +kernel
theorem dX5_hand_8 : decode cX5_hand 8 = .ok (.ireturn, 1) := by decide +kernel
def wp_X5_hand  (σ : St) (x1 : Int32) (Q : Int32 → St → Prop) : Prop :=
  wp_X4_addHand σ x1 (fun y2 σ1 =>
  Q y2 σ1)
theorem c_X5_hand  {σ : St} {x1 : Int32} {Q : Int32 → St → Prop} (h : wp_X5_hand σ x1 Q) : ctI l yX5_hand cX5_hand 2 (some .int) rm_X5_hand D (wC cI cZ cH a n) (tyW cI cZ cH) [.ref (a 0), .int x1] σ Q := by
  refine mk_I (wC_ok cI cZ cH a n) (by decide +kernel) (Nat.le_of_ble_eq_true rfl) (fun p e s m args below meth c A X hr9 hlk9 => ?_)
  refine r_pick (lv' := [(0, .ref (a 0)), (1, .int x1)]) [0, 1] rfl ?_
  delta wp_X5_hand at h
  refine r_aload_n X 0 1 dX5_hand_0 rfl rfl rfl ?_
  refine g_X5_10 X 4 dX5_hand_1 rfl ?_
  refine r_iload_n X 1 5 dX5_hand_4 rfl rfl rfl ?_
  refine r_callNI (As := [.int x1]) (rest := []) X 8 (c_X4_addHand h) ml_X5_61 lk_X4_addHand wC_at_1 rfl rfl rfl (Nat.le_of_ble_eq_true rfl) ⟨rfl, rfl, ⟨Nat.le_of_ble_eq_true rfl, Nat.le_of_ble_eq_true rfl⟩, Nat.le_of_ble_eq_true rfl, Nat.le_of_ble_eq_true rfl⟩ dX5_hand_5 rfl (fun y2 σ1 h => ?_)
  exact r_iret X hr9 hlk9 h dX5_hand_8
def rm_X5_shelf : Room := { frames := 1, cells := 0, slots := 0, locals := 21 }
theorem dX5_shelf_0 : decode cX5_shelf 0 = .ok (.aload_n 0, 1) := by decide +kernel
theorem dX5_shelf_1 : decode cX5_shelf 1 = .ok (.getfield 10, 3) := by decide +kernel
theorem dX5_shelf_4 : decode cX5_shelf 4 = .ok (.iload_n 1, 1) := by decide +kernel
theorem dX5_shelf_5 : decode cX5_shelf 5 = .ok (.invokevirtual 65, 3) := by decide +kernel
theorem dX5_shelf_8 : decode cX5_shelf 8 = .ok (.ireturn, 1) := by decide +kernel
def wp_X5_shelf  (σ : St) (x1 : Int32) (Q : Int32 → St → Prop) : Prop :=
  wp_X4_addShelf σ x1 (fun y2 σ1 =>
  Q y2 σ1)
theorem c_X5_shelf  {σ : St} {x1 : Int32} {Q : Int32 → St → Prop} (h : wp_X5_shelf σ x1 Q) : ctI l yX5_shelf cX5_shelf 2 (some .int) rm_X5_shelf D (wC cI cZ cH a n) (tyW cI cZ cH) [.ref (a 0), .int x1] σ Q := by
  refine mk_I (wC_ok cI cZ cH a n) (by decide +kernel) (Nat.le_of_ble_eq_true rfl) (fun p e s m args below meth c A X hr9 hlk9 => ?_)
  refine r_pick (lv' := [(0, .ref (a 0)), (1, .int x1)]) [0, 1] rfl ?_
  delta wp_X5_shelf at h
  refine r_aload_n X 0 1 dX5_shelf_0 rfl rfl rfl ?_
  refine g_X5_10 X 4 dX5_shelf_1 rfl ?_
  refine r_iload_n X 1 5 dX5_shelf_4 rfl rfl rfl ?_
  refine r_callNI (As := [.int x1]) (rest := []) X 8 (c_X4_addShelf h) ml_X5_65 lk_X4_addShelf wC_at_1 rfl rfl rfl (Nat.le_of_ble_eq_true rfl) ⟨rfl, rfl, ⟨Nat.le_of_ble_eq_true rfl, Nat.le_of_ble_eq_true rfl⟩, Nat.le_of_ble_eq_true rfl, Nat.le_of_ble_eq_true rfl⟩ dX5_shelf_5 rfl (fun y2 σ1 h => ?_)
  exact r_iret X hr9 hlk9 h dX5_shelf_8
def rm_X5_seals : Room := { frames := 3, cells := 0, slots := 0, locals := 68 }
theorem dX5_seals_0 : decode cX5_seals 0 = .ok (.iload_n 1, 1) := by decide +kernel
theorem dX5_seals_1 : decode cX5_seals 1 = .ok (.ifCond .lt 20, 3) := by decide +kernel
theorem dX5_seals_4 : decode cX5_seals 4 = .ok (.iload_n 1, 1) := by decide +kernel
theorem dX5_seals_5 : decode cX5_seals 5 = .ok (.bipush 6, 2) := by decide +kernel
theorem dX5_seals_7 : decode cX5_seals 7 = .ok (.if_icmp .ge 14, 3) := by decide +kernel
theorem dX5_seals_10 : decode cX5_seals 10 = .ok (.iload_n 2, 1) := by decide +kernel
theorem dX5_seals_11 : decode cX5_seals 11 = .ok (.iconst (-1), 1) := by decide +kernel
theorem dX5_seals_12 : decode cX5_seals 12 = .ok (.if_icmp .lt 9, 3) := by decide +kernel
theorem dX5_seals_15 : decode cX5_seals 15 = .ok (.iload_n 2, 1) := by decide +kernel
theorem dX5_seals_16 : decode cX5_seals 16 = .ok (.bipush 50, 2) := by decide +kernel
theorem dX5_seals_18 : decode cX5_seals 18 = .ok (.if_icmp .le 5, 3) := by decide +kernel
theorem dX5_seals_21 : decode cX5_seals 21 = .ok (.iconst 0, 1) := by decide +kernel
theorem dX5_seals_22 : decode cX5_seals 22 = .ok (.ireturn, 1) := by decide +kernel
theorem dX5_seals_23 : decode cX5_seals 23 = .ok (.aload_n 0, 1) := by decide +kernel
theorem dX5_seals_24 : decode cX5_seals 24 = .ok (.getfield 19, 3) := by decide +kernel
theorem dX5_seals_27 : decode cX5_seals 27 = .ok (.iload_n 1, 1) := by decide +kernel
theorem dX5_seals_28 : decode cX5_seals 28 = .ok (.iload_n 2, 1) := by decide +kernel
theorem dX5_seals_29 : decode cX5_seals 29 = .ok (.invokevirtual 68, 3) := by decide +kernel
theorem dX5_seals_32 : decode cX5_seals 32 = .ok (.ifCond .eq 5, 3) := by decide +kernel
theorem dX5_seals_35 : decode cX5_seals 35 = .ok (.iconst 0, 1) := by decide +kernel
theorem dX5_seals_36 : decode cX5_seals 36 = .ok (.ireturn, 1) := by decide +kernel
theorem dX5_seals_37 : decode cX5_seals 37 = .ok (.aload_n 0, 1) := by decide +kernel
theorem dX5_seals_38 : decode cX5_seals 38 = .ok (.getfield 10, 3) := by decide +kernel
theorem dX5_seals_41 : decode cX5_seals 41 = .ok (.iload_n 1, 1) := by decide +kernel
theorem dX5_seals_42 : decode cX5_seals 42 = .ok (.iload_n 2, 1) := by decide +kernel
theorem dX5_seals_43 : decode cX5_seals 43 = .ok (.invokevirtual 72, 3) := by decide +kernel
theorem dX5_seals_46 : decode cX5_seals 46 = .ok (.iconst 1, 1) := by decide +kernel
theorem dX5_seals_47 : decode cX5_seals 47 = .ok (.ireturn, 1) := by decide +kernel
def wp_X5_seals  (σ : St) (x1 : Int32) (x2 : Int32) (Q : Int32 → St → Prop) : Prop :=
  if x1 < 0 then
  (Q 0 σ)
  else (if x1 < 6 then
  (if x2 < (-1) then
  (Q 0 σ)
  else (if 50 < x2 then
  (Q 0 σ)
  else (wp_X2_useSealBeyond 7 σ x1 x2 (fun y2 σ1 =>
  if y2 = 0 then
  (wp_X4_giveOut σ1 x1 x2 (fun σ3 =>
  Q 1 σ3))
  else (Q 0 σ1)))))
  else (Q 0 σ))
theorem c_X5_seals  {σ : St} {x1 : Int32} {x2 : Int32} {Q : Int32 → St → Prop} (h : wp_X5_seals σ x1 x2 Q) : ctI l yX5_seals cX5_seals 3 (some .boolean) rm_X5_seals D (wC cI cZ cH a n) (tyW cI cZ cH) [.ref (a 0), .int x1, .int x2] σ (fun r9 u9 => isB r9 ∧ Q r9 u9) := by
  refine mk_I (wC_ok cI cZ cH a n) (by decide +kernel) (Nat.le_of_ble_eq_true rfl) (fun p e s m args below meth c A X hr9 hlk9 => ?_)
  refine r_pick (lv' := [(0, .ref (a 0)), (1, .int x1), (2, .int x2)]) [0, 1, 2] rfl ?_
  delta wp_X5_seals at h
  refine r_iload_n X 1 1 dX5_seals_0 rfl rfl rfl ?_
  refine r_if_lt X 21 4 h dX5_seals_1 rfl rfl (fun h => ?_) (fun h => ?_)
  · refine r_iconst (v := 0) X 22 dX5_seals_21 (by decide) rfl ?_
    exact r_zret X hr9 hlk9 isB_0 h dX5_seals_22
  · refine r_iload_n X 1 5 dX5_seals_4 rfl rfl rfl ?_
    refine r_bipush (v := 6) X 7 dX5_seals_5 (by decide) rfl ?_
    refine r_icmp_ge X 21 10 h dX5_seals_7 rfl rfl (fun h => ?_) (fun h => ?_)
    · refine r_iconst (v := 0) X 22 dX5_seals_21 (by decide) rfl ?_
      exact r_zret X hr9 hlk9 isB_0 h dX5_seals_22
    · refine r_iload_n X 2 11 dX5_seals_10 rfl rfl rfl ?_
      refine r_iconst (v := (-1)) X 12 dX5_seals_11 (by decide) rfl ?_
      refine r_icmp_lt X 21 15 h dX5_seals_12 rfl rfl (fun h => ?_) (fun h => ?_)
      · refine r_iconst (v := 0) X 22 dX5_seals_21 (by decide) rfl ?_
        exact r_zret X hr9 hlk9 isB_0 h dX5_seals_22
      · refine r_iload_n X 2 16 dX5_seals_15 rfl rfl rfl ?_
        refine r_bipush (v := 50) X 18 dX5_seals_16 (by decide) rfl ?_
        refine r_icmp_le X 23 21 h dX5_seals_18 rfl rfl (fun h => ?_) (fun h => ?_)
        · refine r_aload_n X 0 24 dX5_seals_23 rfl rfl rfl ?_
          refine g_X5_19 X 27 dX5_seals_24 rfl ?_
          refine r_iload_n X 1 28 dX5_seals_27 rfl rfl rfl ?_
          refine r_iload_n X 2 29 dX5_seals_28 rfl rfl rfl ?_
          refine r_callNI (As := [.int x1, .int x2]) (rest := []) X 32 (c_X2_useSealBeyond (Or.inl rfl) h) ml_X5_68 lk_X2_useSealBeyond (wC_at_r (Or.inl rfl)) rfl rfl rfl (Nat.le_of_ble_eq_true rfl) ⟨rfl, rfl, ⟨Nat.le_of_ble_eq_true rfl, Nat.le_of_ble_eq_true rfl⟩, Nat.le_of_ble_eq_true rfl, Nat.le_of_ble_eq_true rfl⟩ dX5_seals_29 rfl (fun y2 σ1 h => ?_)
          obtain ⟨hb_y2, h⟩ := h
          refine r_if_eq X 37 35 h dX5_seals_32 rfl rfl (fun h => ?_) (fun h => ?_)
          · refine r_aload_n X 0 38 dX5_seals_37 rfl rfl rfl ?_
            refine g_X5_10 X 41 dX5_seals_38 rfl ?_
            refine r_iload_n X 1 42 dX5_seals_41 rfl rfl rfl ?_
            refine r_iload_n X 2 43 dX5_seals_42 rfl rfl rfl ?_
            refine r_callNV (As := [.int x1, .int x2]) (rest := []) X 46 (c_X4_giveOut h) ml_X5_72 lk_X4_giveOut wC_at_1 rfl rfl rfl (Nat.le_of_ble_eq_true rfl) ⟨rfl, rfl, ⟨Nat.le_of_ble_eq_true rfl, Nat.le_of_ble_eq_true rfl⟩, Nat.le_of_ble_eq_true rfl, Nat.le_of_ble_eq_true rfl⟩ dX5_seals_43 rfl (fun σ3 h => ?_)
            refine r_iconst (v := 1) X 47 dX5_seals_46 (by decide) rfl ?_
            exact r_zret X hr9 hlk9 isB_1 h dX5_seals_47
          · refine r_iconst (v := 0) X 36 dX5_seals_35 (by decide) rfl ?_
            exact r_zret X hr9 hlk9 isB_0 h dX5_seals_36
        · refine r_iconst (v := 0) X 22 dX5_seals_21 (by decide) rfl ?_
          exact r_zret X hr9 hlk9 isB_0 h dX5_seals_22
def rm_X5_thing : Room := { frames := 1, cells := 0, slots := 0, locals := 22 }
theorem dX5_thing_0 : decode cX5_thing 0 = .ok (.iload_n 1, 1) := by decide +kernel
theorem dX5_thing_1 : decode cX5_thing 1 = .ok (.ifCond .lt 18, 3) := by decide +kernel
theorem dX5_thing_4 : decode cX5_thing 4 = .ok (.iload_n 1, 1) := by decide +kernel
theorem dX5_thing_5 : decode cX5_thing 5 = .ok (.iconst 5, 1) := by decide +kernel
theorem dX5_thing_6 : decode cX5_thing 6 = .ok (.if_icmp .gt 13, 3) := by decide +kernel
theorem dX5_thing_9 : decode cX5_thing 9 = .ok (.iload_n 2, 1) := by decide +kernel
theorem dX5_thing_10 : decode cX5_thing 10 = .ok (.ifCond .lt 9, 3) := by decide +kernel
theorem dX5_thing_13 : decode cX5_thing 13 = .ok (.iload_n 2, 1) := by decide +kernel
theorem dX5_thing_14 : decode cX5_thing 14 = .ok (.ldc 76, 2) := by decide +kernel
theorem dX5_thing_16 : decode cX5_thing 16 = .ok (.if_icmp .le 5, 3) := by decide +kernel
theorem dX5_thing_19 : decode cX5_thing 19 = .ok (.iconst (-1), 1) := by decide +kernel
theorem dX5_thing_20 : decode cX5_thing 20 = .ok (.ireturn, 1) := by decide +kernel
theorem dX5_thing_21 : decode cX5_thing 21 = .ok (.iload_n 1, 1) := by decide +kernel
theorem dX5_thing_22 : decode cX5_thing 22 = .ok (.iconst 2, 1) := by decide +kernel
theorem dX5_thing_23 : decode cX5_thing 23 = .ok (.if_icmp .eq 8, 3) := by decide +kernel
theorem dX5_thing_26 : decode cX5_thing 26 = .ok (.iload_n 1, 1) := by decide +kernel
theorem dX5_thing_27 : decode cX5_thing 27 = .ok (.iconst 3, 1) := by decide +kernel
theorem dX5_thing_28 : decode cX5_thing 28 = .ok (.if_icmp .ne 7, 3) := by decide +kernel
theorem dX5_thing_31 : decode cX5_thing 31 = .ok (.iconst 1, 1) := by decide +kernel
theorem dX5_thing_32 : decode cX5_thing 32 = .ok (.goto 4, 3) := by decide +kernel
theorem dX5_thing_35 : decode cX5_thing 35 = .ok (.iconst 0, 1) := by decide +kernel
theorem dX5_thing_36 : decode cX5_thing 36 = .ok (.istore_n 3, 1) := by decide +kernel
theorem dX5_thing_37 : decode cX5_thing 37 = .ok (.iload_n 3, 1) := by decide +kernel
theorem dX5_thing_38 : decode cX5_thing 38 = .ok (.ifCond .eq 9, 3) := by decide +kernel
theorem dX5_thing_41 : decode cX5_thing 41 = .ok (.iload_n 2, 1) := by decide +kernel
theorem dX5_thing_42 : decode cX5_thing 42 = .ok (.ifCond .eq 5, 3) := by decide +kernel
theorem dX5_thing_45 : decode cX5_thing 45 = .ok (.iconst (-1), 1) := by decide +kernel
theorem dX5_thing_46 : decode cX5_thing 46 = .ok (.ireturn, 1) := by decide +kernel
theorem dX5_thing_47 : decode cX5_thing 47 = .ok (.aload_n 0, 1) := by decide +kernel
theorem dX5_thing_48 : decode cX5_thing 48 = .ok (.getfield 10, 3) := by decide +kernel
theorem dX5_thing_51 : decode cX5_thing 51 = .ok (.iload_n 1, 1) := by decide +kernel
theorem dX5_thing_52 : decode cX5_thing 52 = .ok (.iload_n 2, 1) := by decide +kernel
theorem dX5_thing_53 : decode cX5_thing 53 = .ok (.invokevirtual 77, 3) := by decide +kernel
theorem dX5_thing_56 : decode cX5_thing 56 = .ok (.ireturn, 1) := by decide +kernel
def j_X5_thing_47  (Q : Int32 → St → Prop) (v1 : Int32) (v2 : Int32) (σ : St) : Prop :=
  wp_X4_addThing σ v1 v2 (fun y2 σ1 =>
  Q y2 σ1)
theorem wk_X5_thing_47 (X : cx p s m args c cX5_thing 4 RX5 D (wC cI cZ cH a n) A (tyW cI cZ cH)) (hr9 : meth.sig.returnType = (some .int)) (hlk9 : meth.locks = false)  {Q : Int32 → St → Prop} {v1 : Int32} {v2 : Int32} {σ : St} (h : j_X5_thing_47 Q v1 v2 σ) : go p l e rm_X5_thing s m args below meth c D (wC cI cZ cH a n) A 0 0 (MQ below (va_Qi Q (atw D (wC cI cZ cH a n) (tyW cI cZ cH) A) A) args s 0 0 A) 4 47 [(0, .ref (a 0)), (1, .int v1), (2, .int v2)] [] σ := by
  delta j_X5_thing_47 at h
  refine r_aload_n X 0 48 dX5_thing_47 rfl rfl rfl ?_
  refine g_X5_10 X 51 dX5_thing_48 rfl ?_
  refine r_iload_n X 1 52 dX5_thing_51 rfl rfl rfl ?_
  refine r_iload_n X 2 53 dX5_thing_52 rfl rfl rfl ?_
  refine r_callNI (As := [.int v1, .int v2]) (rest := []) X 56 (c_X4_addThing h) ml_X5_77 lk_X4_addThing wC_at_1 rfl rfl rfl (Nat.le_of_ble_eq_true rfl) ⟨rfl, rfl, ⟨Nat.le_of_ble_eq_true rfl, Nat.le_of_ble_eq_true rfl⟩, Nat.le_of_ble_eq_true rfl, Nat.le_of_ble_eq_true rfl⟩ dX5_thing_53 rfl (fun y2 σ1 h => ?_)
  exact r_iret X hr9 hlk9 h dX5_thing_56
def j_X5_thing_36  (Q : Int32 → St → Prop) (v1 : Int32) (v2 : Int32) (s0 : Int32) (σ : St) : Prop :=
  if s0 = 0 then
  (j_X5_thing_47 Q v1 v2 σ)
  else (if v2 = 0 then
  (j_X5_thing_47 Q v1 v2 σ)
  else (Q (-1) σ))
theorem wk_X5_thing_36 (X : cx p s m args c cX5_thing 4 RX5 D (wC cI cZ cH a n) A (tyW cI cZ cH)) (hr9 : meth.sig.returnType = (some .int)) (hlk9 : meth.locks = false)  {Q : Int32 → St → Prop} {v1 : Int32} {v2 : Int32} {s0 : Int32} {σ : St} (h : j_X5_thing_36 Q v1 v2 s0 σ) : go p l e rm_X5_thing s m args below meth c D (wC cI cZ cH a n) A 0 0 (MQ below (va_Qi Q (atw D (wC cI cZ cH a n) (tyW cI cZ cH) A) A) args s 0 0 A) 4 36 [(0, .ref (a 0)), (1, .int v1), (2, .int v2)] [.int s0] σ := by
  delta j_X5_thing_36 at h
  refine r_istore_n X 37 [(3, .int s0), (0, .ref (a 0)), (1, .int v1), (2, .int v2)] dX5_thing_36 rfl (by decide) rfl rfl ?_
  refine r_iload_n X 0 38 dX5_thing_37 rfl rfl rfl ?_
  refine r_if_eq X 47 41 h dX5_thing_38 rfl rfl (fun h => ?_) (fun h => ?_)
  · refine r_pick (lv' := [(0, .ref (a 0)), (1, .int v1), (2, .int v2)]) [1, 2, 3] rfl ?_
    exact wk_X5_thing_47 X hr9 hlk9 h
  · refine r_iload_n X 3 42 dX5_thing_41 rfl rfl rfl ?_
    refine r_if_eq X 47 45 h dX5_thing_42 rfl rfl (fun h => ?_) (fun h => ?_)
    · refine r_pick (lv' := [(0, .ref (a 0)), (1, .int v1), (2, .int v2)]) [1, 2, 3] rfl ?_
      exact wk_X5_thing_47 X hr9 hlk9 h
    · refine r_iconst (v := (-1)) X 46 dX5_thing_45 (by decide) rfl ?_
      exact r_iret X hr9 hlk9 h dX5_thing_46
def j_X5_thing_31  (Q : Int32 → St → Prop) (v1 : Int32) (v2 : Int32) (σ : St) : Prop :=
  j_X5_thing_36 Q v1 v2 1 σ
theorem wk_X5_thing_31 (X : cx p s m args c cX5_thing 4 RX5 D (wC cI cZ cH a n) A (tyW cI cZ cH)) (hr9 : meth.sig.returnType = (some .int)) (hlk9 : meth.locks = false)  {Q : Int32 → St → Prop} {v1 : Int32} {v2 : Int32} {σ : St} (h : j_X5_thing_31 Q v1 v2 σ) : go p l e rm_X5_thing s m args below meth c D (wC cI cZ cH a n) A 0 0 (MQ below (va_Qi Q (atw D (wC cI cZ cH a n) (tyW cI cZ cH) A) A) args s 0 0 A) 4 31 [(0, .ref (a 0)), (1, .int v1), (2, .int v2)] [] σ := by
  delta j_X5_thing_31 at h
  refine r_iconst (v := 1) X 32 dX5_thing_31 (by decide) rfl ?_
  refine r_goto X 36 dX5_thing_32 rfl ?_
  refine r_pick (lv' := [(0, .ref (a 0)), (1, .int v1), (2, .int v2)]) [0, 1, 2] rfl ?_
  exact wk_X5_thing_36 X hr9 hlk9 h
def wp_X5_thing  (σ : St) (x1 : Int32) (x2 : Int32) (Q : Int32 → St → Prop) : Prop :=
  if x1 < 0 then
  (Q (-1) σ)
  else (if 5 < x1 then
  (Q (-1) σ)
  else (if x2 < 0 then
  (Q (-1) σ)
  else (if 1000000 < x2 then
  (Q (-1) σ)
  else (if x1 = 2 then
  (j_X5_thing_31 Q x1 x2 σ)
  else (if x1 = 3 then
  (j_X5_thing_31 Q x1 x2 σ)
  else (j_X5_thing_36 Q x1 x2 0 σ))))))
theorem c_X5_thing  {σ : St} {x1 : Int32} {x2 : Int32} {Q : Int32 → St → Prop} (h : wp_X5_thing σ x1 x2 Q) : ctI l yX5_thing cX5_thing 4 (some .int) rm_X5_thing D (wC cI cZ cH a n) (tyW cI cZ cH) [.ref (a 0), .int x1, .int x2] σ Q := by
  refine mk_I (wC_ok cI cZ cH a n) (by decide +kernel) (Nat.le_of_ble_eq_true rfl) (fun p e s m args below meth c A X hr9 hlk9 => ?_)
  refine r_pick (lv' := [(0, .ref (a 0)), (1, .int x1), (2, .int x2)]) [0, 1, 2] rfl ?_
  delta wp_X5_thing at h
  refine r_iload_n X 1 1 dX5_thing_0 rfl rfl rfl ?_
  refine r_if_lt X 19 4 h dX5_thing_1 rfl rfl (fun h => ?_) (fun h => ?_)
  · refine r_iconst (v := (-1)) X 20 dX5_thing_19 (by decide) rfl ?_
    exact r_iret X hr9 hlk9 h dX5_thing_20
  · refine r_iload_n X 1 5 dX5_thing_4 rfl rfl rfl ?_
    refine r_iconst (v := 5) X 6 dX5_thing_5 (by decide) rfl ?_
    refine r_icmp_gt X 19 9 h dX5_thing_6 rfl rfl (fun h => ?_) (fun h => ?_)
    · refine r_iconst (v := (-1)) X 20 dX5_thing_19 (by decide) rfl ?_
      exact r_iret X hr9 hlk9 h dX5_thing_20
    · refine r_iload_n X 2 10 dX5_thing_9 rfl rfl rfl ?_
      refine r_if_lt X 19 13 h dX5_thing_10 rfl rfl (fun h => ?_) (fun h => ?_)
      · refine r_iconst (v := (-1)) X 20 dX5_thing_19 (by decide) rfl ?_
        exact r_iret X hr9 hlk9 h dX5_thing_20
      · refine r_iload_n X 2 14 dX5_thing_13 rfl rfl rfl ?_
        refine r_ldc (v := 1000000) X 16 dX5_thing_14 cn_X5_76 rfl ?_
        refine r_icmp_le X 21 19 h dX5_thing_16 rfl rfl (fun h => ?_) (fun h => ?_)
        · refine r_iload_n X 1 22 dX5_thing_21 rfl rfl rfl ?_
          refine r_iconst (v := 2) X 23 dX5_thing_22 (by decide) rfl ?_
          refine r_icmp_eq X 31 26 h dX5_thing_23 rfl rfl (fun h => ?_) (fun h => ?_)
          · refine r_pick (lv' := [(0, .ref (a 0)), (1, .int x1), (2, .int x2)]) [0, 1, 2] rfl ?_
            exact wk_X5_thing_31 X hr9 hlk9 h
          · refine r_iload_n X 1 27 dX5_thing_26 rfl rfl rfl ?_
            refine r_iconst (v := 3) X 28 dX5_thing_27 (by decide) rfl ?_
            refine r_icmp_ne X 35 31 h dX5_thing_28 rfl rfl (fun h => ?_) (fun h => ?_)
            · refine r_iconst (v := 0) X 36 dX5_thing_35 (by decide) rfl ?_
              refine r_pick (lv' := [(0, .ref (a 0)), (1, .int x1), (2, .int x2)]) [0, 1, 2] rfl ?_
              exact wk_X5_thing_36 X hr9 hlk9 h
            · refine r_pick (lv' := [(0, .ref (a 0)), (1, .int x1), (2, .int x2)]) [0, 1, 2] rfl ?_
              exact wk_X5_thing_31 X hr9 hlk9 h
        · refine r_iconst (v := (-1)) X 20 dX5_thing_19 (by decide) rfl ?_
          exact r_iret X hr9 hlk9 h dX5_thing_20
def rm_X5_pass : Room := { frames := 0, cells := 0, slots := 0, locals := 0 }
theorem dX5_pass_0 : decode cX5_pass 0 = .ok (.iload_n 1, 1) := by decide +kernel
theorem dX5_pass_1 : decode cX5_pass 1 = .ok (.ifCond .lt 20, 3) := by decide +kernel
theorem dX5_pass_4 : decode cX5_pass 4 = .ok (.iload_n 1, 1) := by decide +kernel
theorem dX5_pass_5 : decode cX5_pass 5 = .ok (.ldc 81, 2) := by decide +kernel
theorem dX5_pass_7 : decode cX5_pass 7 = .ok (.if_icmp .gt 14, 3) := by decide +kernel
theorem dX5_pass_10 : decode cX5_pass 10 = .ok (.iload_n 1, 1) := by decide +kernel
theorem dX5_pass_11 : decode cX5_pass 11 = .ok (.ldc 82, 2) := by decide +kernel
theorem dX5_pass_13 : decode cX5_pass 13 = .ok (.aload_n 0, 1) := by decide +kernel
theorem dX5_pass_14 : decode cX5_pass 14 = .ok (.getfield 83, 3) := by decide +kernel
theorem dX5_pass_17 : decode cX5_pass 17 = .ok (.isub, 1) := by decide +kernel
theorem dX5_pass_18 : decode cX5_pass 18 = .ok (.if_icmp .le 5, 3) := by decide +kernel
theorem dX5_pass_21 : decode cX5_pass 21 = .ok (.iconst (-1), 1) := by decide +kernel
theorem dX5_pass_22 : decode cX5_pass 22 = .ok (.ireturn, 1) := by decide +kernel
theorem dX5_pass_23 : decode cX5_pass 23 = .ok (.aload_n 0, 1) := by decide +kernel
theorem dX5_pass_24 : decode cX5_pass 24 = .ok (.dup, 1) := by decide +kernel
theorem dX5_pass_25 : decode cX5_pass 25 = .ok (.getfield 83, 3) := by decide +kernel
theorem dX5_pass_28 : decode cX5_pass 28 = .ok (.iload_n 1, 1) := by decide +kernel
theorem dX5_pass_29 : decode cX5_pass 29 = .ok (.iadd, 1) := by decide +kernel
theorem dX5_pass_30 : decode cX5_pass 30 = .ok (.putfield 83, 3) := by decide +kernel
theorem dX5_pass_33 : decode cX5_pass 33 = .ok (.aload_n 0, 1) := by decide +kernel
theorem dX5_pass_34 : decode cX5_pass 34 = .ok (.getfield 83, 3) := by decide +kernel
theorem dX5_pass_37 : decode cX5_pass 37 = .ok (.ireturn, 1) := by decide +kernel
def wp_X5_pass  (σ : St) (x1 : Int32) (Q : Int32 → St → Prop) : Prop :=
  if x1 < 0 then
  (Q (-1) σ)
  else (if 100000 < x1 then
  (Q (-1) σ)
  else (if ((100000000 : Int32) - (σ 0 9)) < x1 then
  (Q (-1) σ)
  else (nmS (up2 σ 0 9 ((σ 0 9) + x1)) (fun σ1 =>
  Q (σ1 0 9) σ1))))
theorem c_X5_pass  {σ : St} {x1 : Int32} {Q : Int32 → St → Prop} (h : wp_X5_pass σ x1 Q) : ctI l yX5_pass cX5_pass 2 (some .int) rm_X5_pass D (wC cI cZ cH a n) (tyW cI cZ cH) [.ref (a 0), .int x1] σ Q := by
  refine mk_I (wC_ok cI cZ cH a n) (by decide +kernel) (Nat.le_of_ble_eq_true rfl) (fun p e s m args below meth c A X hr9 hlk9 => ?_)
  refine r_pick (lv' := [(0, .ref (a 0)), (1, .int x1)]) [0, 1] rfl ?_
  delta wp_X5_pass at h
  refine r_iload_n X 1 1 dX5_pass_0 rfl rfl rfl ?_
  refine r_if_lt X 21 4 h dX5_pass_1 rfl rfl (fun h => ?_) (fun h => ?_)
  · refine r_iconst (v := (-1)) X 22 dX5_pass_21 (by decide) rfl ?_
    exact r_iret X hr9 hlk9 h dX5_pass_22
  · refine r_iload_n X 1 5 dX5_pass_4 rfl rfl rfl ?_
    refine r_ldc (v := 100000) X 7 dX5_pass_5 cn_X5_81 rfl ?_
    refine r_icmp_gt X 21 10 h dX5_pass_7 rfl rfl (fun h => ?_) (fun h => ?_)
    · refine r_iconst (v := (-1)) X 22 dX5_pass_21 (by decide) rfl ?_
      exact r_iret X hr9 hlk9 h dX5_pass_22
    · refine r_iload_n X 1 11 dX5_pass_10 rfl rfl rfl ?_
      refine r_ldc (v := 100000000) X 13 dX5_pass_11 cn_X5_82 rfl ?_
      refine r_aload_n X 0 14 dX5_pass_13 rfl rfl rfl ?_
      refine g_X5_83 X 17 dX5_pass_14 rfl ?_
      refine r_isub X 18 dX5_pass_17 rfl ?_
      refine r_icmp_le X 23 21 h dX5_pass_18 rfl rfl (fun h => ?_) (fun h => ?_)
      · refine r_aload_n X 0 24 dX5_pass_23 rfl rfl rfl ?_
        refine r_dup X 25 dX5_pass_24 rfl rfl ?_
        refine g_X5_83 X 28 dX5_pass_25 rfl ?_
        refine r_iload_n X 1 29 dX5_pass_28 rfl rfl rfl ?_
        refine r_iadd X 30 dX5_pass_29 rfl ?_
        refine u_X5_83 X 33 dX5_pass_30 rfl ?_
        refine r_nmS h (fun σ1 h => ?_)
        refine r_aload_n X 0 34 dX5_pass_33 rfl rfl rfl ?_
        refine g_X5_83 X 37 dX5_pass_34 rfl ?_
        exact r_iret X hr9 hlk9 h dX5_pass_37
      · refine r_iconst (v := (-1)) X 22 dX5_pass_21 (by decide) rfl ?_
        exact r_iret X hr9 hlk9 h dX5_pass_22
def rm_X5_faultAhead : Room := { frames := 1, cells := 0, slots := 0, locals := 21 }
theorem dX5_faultAhead_0 : decode cX5_faultAhead 0 = .ok (.aload_n 0, 1) := by decide +kernel
theorem dX5_faultAhead_1 : decode cX5_faultAhead 1 = .ok (.getfield 19, 3) := by decide +kernel
theorem dX5_faultAhead_4 : decode cX5_faultAhead 4 = .ok (.getfield 152, 3) := by decide +kernel
theorem dX5_faultAhead_7 : decode cX5_faultAhead 7 = .ok (.sipush 400, 3) := by decide +kernel
theorem dX5_faultAhead_10 : decode cX5_faultAhead 10 = .ok (.if_icmp .lt 5, 3) := by decide +kernel
theorem dX5_faultAhead_13 : decode cX5_faultAhead 13 = .ok (.iconst 1, 1) := by decide +kernel
theorem dX5_faultAhead_14 : decode cX5_faultAhead 14 = .ok (.ireturn, 1) := by decide +kernel
theorem dX5_faultAhead_15 : decode cX5_faultAhead 15 = .ok (.iload_n 1, 1) := by decide +kernel
theorem dX5_faultAhead_16 : decode cX5_faultAhead 16 = .ok (.iconst 1, 1) := by decide +kernel
theorem dX5_faultAhead_17 : decode cX5_faultAhead 17 = .ok (.if_icmp .lt 9, 3) := by decide +kernel
theorem dX5_faultAhead_20 : decode cX5_faultAhead 20 = .ok (.iload_n 1, 1) := by decide +kernel
theorem dX5_faultAhead_21 : decode cX5_faultAhead 21 = .ok (.bipush 19, 2) := by decide +kernel
theorem dX5_faultAhead_23 : decode cX5_faultAhead 23 = .ok (.if_icmp .le 5, 3) := by decide +kernel
theorem dX5_faultAhead_26 : decode cX5_faultAhead 26 = .ok (.iconst 2, 1) := by decide +kernel
theorem dX5_faultAhead_27 : decode cX5_faultAhead 27 = .ok (.ireturn, 1) := by decide +kernel
theorem dX5_faultAhead_28 : decode cX5_faultAhead 28 = .ok (.aload_n 0, 1) := by decide +kernel
theorem dX5_faultAhead_29 : decode cX5_faultAhead 29 = .ok (.getfield 10, 3) := by decide +kernel
theorem dX5_faultAhead_32 : decode cX5_faultAhead 32 = .ok (.iload_n 2, 1) := by decide +kernel
theorem dX5_faultAhead_33 : decode cX5_faultAhead 33 = .ok (.invokevirtual 90, 3) := by decide +kernel
theorem dX5_faultAhead_36 : decode cX5_faultAhead 36 = .ok (.ifCond .ne 5, 3) := by decide +kernel
theorem dX5_faultAhead_39 : decode cX5_faultAhead 39 = .ok (.iconst 3, 1) := by decide +kernel
theorem dX5_faultAhead_40 : decode cX5_faultAhead 40 = .ok (.ireturn, 1) := by decide +kernel
theorem dX5_faultAhead_41 : decode cX5_faultAhead 41 = .ok (.iload_n 3, 1) := by decide +kernel
theorem dX5_faultAhead_42 : decode cX5_faultAhead 42 = .ok (.ifCond .lt 11, 3) := by decide +kernel
theorem dX5_faultAhead_45 : decode cX5_faultAhead 45 = .ok (.iload_n 3, 1) := by decide +kernel
theorem dX5_faultAhead_46 : decode cX5_faultAhead 46 = .ok (.aload_n 0, 1) := by decide +kernel
theorem dX5_faultAhead_47 : decode cX5_faultAhead 47 = .ok (.getfield 83, 3) := by decide +kernel
theorem dX5_faultAhead_50 : decode cX5_faultAhead 50 = .ok (.if_icmp .le 7, 3) := by decide +kernel
theorem dX5_faultAhead_53 : decode cX5_faultAhead 53 = .ok (.iconst 4, 1) := by decide +kernel
theorem dX5_faultAhead_54 : decode cX5_faultAhead 54 = .ok (.goto 4, 3) := by decide +kernel
theorem dX5_faultAhead_57 : decode cX5_faultAhead 57 = .ok (.iconst 0, 1) := by decide +kernel
theorem dX5_faultAhead_58 : decode cX5_faultAhead 58 = .ok (.ireturn, 1) := by decide +kernel
def wp_X5_faultAhead  (σ : St) (x1 : Int32) (x2 : Int32) (x3 : Int32) (Q : Int32 → St → Prop) : Prop :=
  if (σ 7 2) < 400 then
  (if x1 < 1 then
  (Q 2 σ)
  else (if 19 < x1 then
  (Q 2 σ)
  else (wp_X4_isThing σ x2 (fun y2 σ1 =>
  if y2 = 0 then
  (Q 3 σ1)
  else (if x3 < 0 then
  (Q 4 σ1)
  else (if (σ1 0 9) < x3 then
  (Q 4 σ1)
  else (Q 0 σ1)))))))
  else (Q 1 σ)
theorem c_X5_faultAhead  {σ : St} {x1 : Int32} {x2 : Int32} {x3 : Int32} {Q : Int32 → St → Prop} (h : wp_X5_faultAhead σ x1 x2 x3 Q) : ctI l yX5_faultAhead cX5_faultAhead 4 (some .int) rm_X5_faultAhead D (wC cI cZ cH a n) (tyW cI cZ cH) [.ref (a 0), .int x1, .int x2, .int x3] σ Q := by
  refine mk_I (wC_ok cI cZ cH a n) (by decide +kernel) (Nat.le_of_ble_eq_true rfl) (fun p e s m args below meth c A X hr9 hlk9 => ?_)
  refine r_pick (lv' := [(0, .ref (a 0)), (1, .int x1), (2, .int x2), (3, .int x3)]) [0, 1, 2, 3] rfl ?_
  delta wp_X5_faultAhead at h
  refine r_aload_n X 0 1 dX5_faultAhead_0 rfl rfl rfl ?_
  refine g_X5_19 X 4 dX5_faultAhead_1 rfl ?_
  refine g_X5_152 X (Or.inl rfl) 7 dX5_faultAhead_4 rfl ?_
  refine r_sipush (v := 400) X 10 dX5_faultAhead_7 (by decide) rfl ?_
  refine r_icmp_lt X 15 13 h dX5_faultAhead_10 rfl rfl (fun h => ?_) (fun h => ?_)
  · refine r_iload_n X 1 16 dX5_faultAhead_15 rfl rfl rfl ?_
    refine r_iconst (v := 1) X 17 dX5_faultAhead_16 (by decide) rfl ?_
    refine r_icmp_lt X 26 20 h dX5_faultAhead_17 rfl rfl (fun h => ?_) (fun h => ?_)
    · refine r_iconst (v := 2) X 27 dX5_faultAhead_26 (by decide) rfl ?_
      exact r_iret X hr9 hlk9 h dX5_faultAhead_27
    · refine r_iload_n X 1 21 dX5_faultAhead_20 rfl rfl rfl ?_
      refine r_bipush (v := 19) X 23 dX5_faultAhead_21 (by decide) rfl ?_
      refine r_icmp_le X 28 26 h dX5_faultAhead_23 rfl rfl (fun h => ?_) (fun h => ?_)
      · refine r_aload_n X 0 29 dX5_faultAhead_28 rfl rfl rfl ?_
        refine g_X5_10 X 32 dX5_faultAhead_29 rfl ?_
        refine r_iload_n X 2 33 dX5_faultAhead_32 rfl rfl rfl ?_
        refine r_callNI (As := [.int x2]) (rest := []) X 36 (c_X4_isThing h) ml_X5_90 lk_X4_isThing wC_at_1 rfl rfl rfl (Nat.le_of_ble_eq_true rfl) ⟨rfl, rfl, ⟨Nat.le_of_ble_eq_true rfl, Nat.le_of_ble_eq_true rfl⟩, Nat.le_of_ble_eq_true rfl, Nat.le_of_ble_eq_true rfl⟩ dX5_faultAhead_33 rfl (fun y2 σ1 h => ?_)
        obtain ⟨hb_y2, h⟩ := h
        refine r_if_ne X 41 39 h dX5_faultAhead_36 rfl rfl (fun h => ?_) (fun h => ?_)
        · refine r_iload_n X 3 42 dX5_faultAhead_41 rfl rfl rfl ?_
          refine r_if_lt X 53 45 h dX5_faultAhead_42 rfl rfl (fun h => ?_) (fun h => ?_)
          · refine r_iconst (v := 4) X 54 dX5_faultAhead_53 (by decide) rfl ?_
            refine r_goto X 58 dX5_faultAhead_54 rfl ?_
            exact r_iret X hr9 hlk9 h dX5_faultAhead_58
          · refine r_iload_n X 3 46 dX5_faultAhead_45 rfl rfl rfl ?_
            refine r_aload_n X 0 47 dX5_faultAhead_46 rfl rfl rfl ?_
            refine g_X5_83 X 50 dX5_faultAhead_47 rfl ?_
            refine r_icmp_le X 57 53 h dX5_faultAhead_50 rfl rfl (fun h => ?_) (fun h => ?_)
            · refine r_iconst (v := 0) X 58 dX5_faultAhead_57 (by decide) rfl ?_
              exact r_iret X hr9 hlk9 h dX5_faultAhead_58
            · refine r_iconst (v := 4) X 54 dX5_faultAhead_53 (by decide) rfl ?_
              refine r_goto X 58 dX5_faultAhead_54 rfl ?_
              exact r_iret X hr9 hlk9 h dX5_faultAhead_58
        · refine r_iconst (v := 3) X 40 dX5_faultAhead_39 (by decide) rfl ?_
          exact r_iret X hr9 hlk9 h dX5_faultAhead_40
      · refine r_iconst (v := 2) X 27 dX5_faultAhead_26 (by decide) rfl ?_
        exact r_iret X hr9 hlk9 h dX5_faultAhead_27
  · refine r_iconst (v := 1) X 14 dX5_faultAhead_13 (by decide) rfl ?_
    exact r_iret X hr9 hlk9 h dX5_faultAhead_14
def rm_X5_write : Room := { frames := 6, cells := 0, slots := 0, locals := 136 }
theorem dX5_write_0 : decode cX5_write 0 = .ok (.aload_n 0, 1) := by decide +kernel
theorem dX5_write_1 : decode cX5_write 1 = .ok (.iconst (-1), 1) := by decide +kernel
theorem dX5_write_2 : decode cX5_write 2 = .ok (.putfield 58, 3) := by decide +kernel
theorem dX5_write_5 : decode cX5_write 5 = .ok (.aload_n 0, 1) := by decide +kernel
theorem dX5_write_6 : decode cX5_write 6 = .ok (.aload_n 0, 1) := by decide +kernel
theorem dX5_write_7 : decode cX5_write 7 = .ok (.iload_n 1, 1) := by decide +kernel
theorem dX5_write_8 : decode cX5_write 8 = .ok (.iload_n 2, 1) := by decide +kernel
theorem dX5_write_9 : decode cX5_write 9 = .ok (.iload 7, 2) := by decide +kernel
theorem dX5_write_11 : decode cX5_write 11 = .ok (.invokevirtual 204, 3) := by decide +kernel
theorem dX5_write_14 : decode cX5_write 14 = .ok (.putfield 54, 3) := by decide +kernel
theorem dX5_write_17 : decode cX5_write 17 = .ok (.aload_n 0, 1) := by decide +kernel
theorem dX5_write_18 : decode cX5_write 18 = .ok (.getfield 54, 3) := by decide +kernel
theorem dX5_write_21 : decode cX5_write 21 = .ok (.ifCond .eq 5, 3) := by decide +kernel
theorem dX5_write_24 : decode cX5_write 24 = .ok (.iconst (-1), 1) := by decide +kernel
theorem dX5_write_25 : decode cX5_write 25 = .ok (.ireturn, 1) := by decide +kernel
theorem dX5_write_26 : decode cX5_write 26 = .ok (.aload_n 0, 1) := by decide +kernel
theorem dX5_write_27 : decode cX5_write 27 = .ok (.getfield 50, 3) := by decide +kernel
theorem dX5_write_30 : decode cX5_write 30 = .ok (.iconst 0, 1) := by decide +kernel
theorem dX5_write_31 : decode cX5_write 31 = .ok (.iload_n 1, 1) := by decide +kernel
theorem dX5_write_32 : decode cX5_write 32 = .ok (.iastore, 1) := by decide +kernel
theorem dX5_write_33 : decode cX5_write 33 = .ok (.aload_n 0, 1) := by decide +kernel
theorem dX5_write_34 : decode cX5_write 34 = .ok (.getfield 50, 3) := by decide +kernel
theorem dX5_write_37 : decode cX5_write 37 = .ok (.iconst 1, 1) := by decide +kernel
theorem dX5_write_38 : decode cX5_write 38 = .ok (.iload_n 2, 1) := by decide +kernel
theorem dX5_write_39 : decode cX5_write 39 = .ok (.iastore, 1) := by decide +kernel
theorem dX5_write_40 : decode cX5_write 40 = .ok (.aload_n 0, 1) := by decide +kernel
theorem dX5_write_41 : decode cX5_write 41 = .ok (.getfield 50, 3) := by decide +kernel
theorem dX5_write_44 : decode cX5_write 44 = .ok (.iconst 2, 1) := by decide +kernel
theorem dX5_write_45 : decode cX5_write 45 = .ok (.iload_n 3, 1) := by decide +kernel
theorem dX5_write_46 : decode cX5_write 46 = .ok (.iastore, 1) := by decide +kernel
theorem dX5_write_47 : decode cX5_write 47 = .ok (.aload_n 0, 1) := by decide +kernel
theorem dX5_write_48 : decode cX5_write 48 = .ok (.getfield 50, 3) := by decide +kernel
theorem dX5_write_51 : decode cX5_write 51 = .ok (.iconst 3, 1) := by decide +kernel
theorem dX5_write_52 : decode cX5_write 52 = .ok (.iload 4, 2) := by decide +kernel
theorem dX5_write_54 : decode cX5_write 54 = .ok (.iastore, 1) := by decide +kernel
theorem dX5_write_55 : decode cX5_write 55 = .ok (.aload_n 0, 1) := by decide +kernel
theorem dX5_write_56 : decode cX5_write 56 = .ok (.getfield 50, 3) := by decide +kernel
theorem dX5_write_59 : decode cX5_write 59 = .ok (.iconst 4, 1) := by decide +kernel
theorem dX5_write_60 : decode cX5_write 60 = .ok (.iload 5, 2) := by decide +kernel
theorem dX5_write_62 : decode cX5_write 62 = .ok (.iastore, 1) := by decide +kernel
theorem dX5_write_63 : decode cX5_write 63 = .ok (.aload_n 0, 1) := by decide +kernel
theorem dX5_write_64 : decode cX5_write 64 = .ok (.getfield 50, 3) := by decide +kernel
theorem dX5_write_67 : decode cX5_write 67 = .ok (.iconst 5, 1) := by decide +kernel
theorem dX5_write_68 : decode cX5_write 68 = .ok (.iload 6, 2) := by decide +kernel
theorem dX5_write_70 : decode cX5_write 70 = .ok (.iastore, 1) := by decide +kernel
theorem dX5_write_71 : decode cX5_write 71 = .ok (.aload_n 0, 1) := by decide +kernel
theorem dX5_write_72 : decode cX5_write 72 = .ok (.getfield 50, 3) := by decide +kernel
theorem dX5_write_75 : decode cX5_write 75 = .ok (.bipush 6, 2) := by decide +kernel
theorem dX5_write_77 : decode cX5_write 77 = .ok (.iload 7, 2) := by decide +kernel
theorem dX5_write_79 : decode cX5_write 79 = .ok (.iastore, 1) := by decide +kernel
theorem dX5_write_80 : decode cX5_write 80 = .ok (.aload_n 0, 1) := by decide +kernel
theorem dX5_write_81 : decode cX5_write 81 = .ok (.getfield 50, 3) := by decide +kernel
theorem dX5_write_84 : decode cX5_write 84 = .ok (.bipush 7, 2) := by decide +kernel
theorem dX5_write_86 : decode cX5_write 86 = .ok (.aload_n 0, 1) := by decide +kernel
theorem dX5_write_87 : decode cX5_write 87 = .ok (.getfield 83, 3) := by decide +kernel
theorem dX5_write_90 : decode cX5_write 90 = .ok (.iastore, 1) := by decide +kernel
theorem dX5_write_91 : decode cX5_write 91 = .ok (.aload_n 0, 1) := by decide +kernel
theorem dX5_write_92 : decode cX5_write 92 = .ok (.getfield 19, 3) := by decide +kernel
theorem dX5_write_95 : decode cX5_write 95 = .ok (.aload_n 0, 1) := by decide +kernel
theorem dX5_write_96 : decode cX5_write 96 = .ok (.getfield 50, 3) := by decide +kernel
theorem dX5_write_99 : decode cX5_write 99 = .ok (.invokevirtual 208, 3) := by decide +kernel
theorem dX5_write_102 : decode cX5_write 102 = .ok (.aload_n 0, 1) := by decide +kernel
theorem dX5_write_103 : decode cX5_write 103 = .ok (.getfield 31, 3) := by decide +kernel
theorem dX5_write_106 : decode cX5_write 106 = .ok (.aload_n 0, 1) := by decide +kernel
theorem dX5_write_107 : decode cX5_write 107 = .ok (.getfield 19, 3) := by decide +kernel
theorem dX5_write_110 : decode cX5_write 110 = .ok (.invokevirtual 190, 3) := by decide +kernel
theorem dX5_write_113 : decode cX5_write 113 = .ok (.istore 8, 2) := by decide +kernel
theorem dX5_write_115 : decode cX5_write 115 = .ok (.iload 8, 2) := by decide +kernel
theorem dX5_write_117 : decode cX5_write 117 = .ok (.iconst (-1), 1) := by decide +kernel
theorem dX5_write_118 : decode cX5_write 118 = .ok (.if_icmp .eq 23, 3) := by decide +kernel
theorem dX5_write_121 : decode cX5_write 121 = .ok (.aload_n 0, 1) := by decide +kernel
theorem dX5_write_122 : decode cX5_write 122 = .ok (.getfield 19, 3) := by decide +kernel
theorem dX5_write_125 : decode cX5_write 125 = .ok (.invokevirtual 212, 3) := by decide +kernel
theorem dX5_write_128 : decode cX5_write 128 = .ok (.aload_n 0, 1) := by decide +kernel
theorem dX5_write_129 : decode cX5_write 129 = .ok (.iconst 5, 1) := by decide +kernel
theorem dX5_write_130 : decode cX5_write 130 = .ok (.putfield 54, 3) := by decide +kernel
theorem dX5_write_133 : decode cX5_write 133 = .ok (.aload_n 0, 1) := by decide +kernel
theorem dX5_write_134 : decode cX5_write 134 = .ok (.iload 8, 2) := by decide +kernel
theorem dX5_write_136 : decode cX5_write 136 = .ok (.putfield 58, 3) := by decide +kernel
theorem dX5_write_139 : decode cX5_write 139 = .ok (.iconst (-1), 1) := by decide +kernel
theorem dX5_write_140 : decode cX5_write 140 = .ok (.ireturn, 1) := by decide +kernel
theorem dX5_write_141 : decode cX5_write 141 = .ok (.aload_n 0, 1) := by decide +kernel
theorem dX5_write_142 : decode cX5_write 142 = .ok (.getfield 19, 3) := by decide +kernel
theorem dX5_write_145 : decode cX5_write 145 = .ok (.getfield 152, 3) := by decide +kernel
theorem dX5_write_148 : decode cX5_write 148 = .ok (.iconst 1, 1) := by decide +kernel
theorem dX5_write_149 : decode cX5_write 149 = .ok (.isub, 1) := by decide +kernel
theorem dX5_write_150 : decode cX5_write 150 = .ok (.ireturn, 1) := by decide +kernel
def wp_X5_write  (σ : St) (x1 : Int32) (x2 : Int32) (x3 : Int32) (x4 : Int32) (x5 : Int32) (x6 : Int32) (x7 : Int32) (Q : Int32 → St → Prop) : Prop :=
  nmS (up2 σ 0 11 (-1)) (fun σ1 =>
  wp_X5_faultAhead σ1 x1 x2 x7 (fun y3 σ2 =>
  nmS (up2 σ2 0 10 y3) (fun σ4 =>
  if (σ4 0 10) = 0 then
  (vp_in 0 8 ∧
  nmS (up2 σ4 29 (ix 0) x1) (fun σ5 =>
  vp_in 1 8 ∧
  nmS (up2 σ5 29 (ix 1) x2) (fun σ6 =>
  vp_in 2 8 ∧
  nmS (up2 σ6 29 (ix 2) x3) (fun σ7 =>
  vp_in 3 8 ∧
  nmS (up2 σ7 29 (ix 3) x4) (fun σ8 =>
  vp_in 4 8 ∧
  nmS (up2 σ8 29 (ix 4) x5) (fun σ9 =>
  vp_in 5 8 ∧
  nmS (up2 σ9 29 (ix 5) x6) (fun σ10 =>
  vp_in 6 8 ∧
  nmS (up2 σ10 29 (ix 6) x7) (fun σ11 =>
  vp_in 7 8 ∧
  nmS (up2 σ11 29 (ix 7) (σ11 0 9)) (fun σ12 =>
  wp_X2_add 7 σ12 (fun σ13 =>
  wp_X3_firstUndone 7 σ13 (fun y15 σ14 =>
  if y15 = (-1) then
  (Q ((σ14 7 2) - 1) σ14)
  else (wp_X2_dropLast 7 σ14 (fun σ16 =>
  nmS (up2 σ16 0 10 5) (fun σ17 =>
  nmS (up2 σ17 0 11 y15) (fun σ18 =>
  Q (-1) σ18)))))))))))))))
  else (Q (-1) σ4))))
theorem c_X5_write  {σ : St} {x1 : Int32} {x2 : Int32} {x3 : Int32} {x4 : Int32} {x5 : Int32} {x6 : Int32} {x7 : Int32} {Q : Int32 → St → Prop} (h : wp_X5_write σ x1 x2 x3 x4 x5 x6 x7 Q) : ctI l yX5_write cX5_write 9 (some .int) rm_X5_write D (wC cI cZ cH a n) (tyW cI cZ cH) [.ref (a 0), .int x1, .int x2, .int x3, .int x4, .int x5, .int x6, .int x7] σ Q := by
  refine mk_I (wC_ok cI cZ cH a n) (by decide +kernel) (Nat.le_of_ble_eq_true rfl) (fun p e s m args below meth c A X hr9 hlk9 => ?_)
  refine r_pick (lv' := [(0, .ref (a 0)), (1, .int x1), (2, .int x2), (3, .int x3), (4, .int x4), (5, .int x5), (6, .int x6), (7, .int x7)]) [0, 1, 2, 3, 4, 5, 6, 7] rfl ?_
  delta wp_X5_write at h
  refine r_aload_n X 0 1 dX5_write_0 rfl rfl rfl ?_
  refine r_iconst (v := (-1)) X 2 dX5_write_1 (by decide) rfl ?_
  refine u_X5_58 X 5 dX5_write_2 rfl ?_
  refine r_nmS h (fun σ1 h => ?_)
  refine r_aload_n X 0 6 dX5_write_5 rfl rfl rfl ?_
  refine r_aload_n X 0 7 dX5_write_6 rfl rfl rfl ?_
  refine r_iload_n X 1 8 dX5_write_7 rfl rfl rfl ?_
  refine r_iload_n X 2 9 dX5_write_8 rfl rfl rfl ?_
  refine r_iload X 7 11 dX5_write_9 rfl rfl ?_
  refine r_callI (As := [.int x1, .int x2, .int x7]) (rest := [.ref (a 0)]) X 14 (c_X5_faultAhead h) ml_X5_204 lk_X5_faultAhead wC_at_0 rfl rfl rfl (Nat.le_of_ble_eq_true rfl) ⟨rfl, rfl, ⟨Nat.le_of_ble_eq_true rfl, Nat.le_of_ble_eq_true rfl⟩, Nat.le_of_ble_eq_true rfl, Nat.le_of_ble_eq_true rfl⟩ dX5_write_11 rfl (fun y3 σ2 h => ?_)
  refine u_X5_54 X 17 dX5_write_14 rfl ?_
  refine r_nmS h (fun σ4 h => ?_)
  refine r_aload_n X 0 18 dX5_write_17 rfl rfl rfl ?_
  refine g_X5_54 X 21 dX5_write_18 rfl ?_
  refine r_if_eq X 26 24 h dX5_write_21 rfl rfl (fun h => ?_) (fun h => ?_)
  · refine r_aload_n X 0 27 dX5_write_26 rfl rfl rfl ?_
    refine g_X5_50 X 30 dX5_write_27 rfl ?_
    refine r_iconst (v := 0) X 31 dX5_write_30 (by decide) rfl ?_
    refine r_iload_n X 1 32 dX5_write_31 rfl rfl rfl ?_
    obtain ⟨hin, h⟩ := h
    refine s_C29 X 33 hin dX5_write_32 rfl ?_
    refine r_nmS h (fun σ5 h => ?_)
    refine r_aload_n X 0 34 dX5_write_33 rfl rfl rfl ?_
    refine g_X5_50 X 37 dX5_write_34 rfl ?_
    refine r_iconst (v := 1) X 38 dX5_write_37 (by decide) rfl ?_
    refine r_iload_n X 2 39 dX5_write_38 rfl rfl rfl ?_
    obtain ⟨hin, h⟩ := h
    refine s_C29 X 40 hin dX5_write_39 rfl ?_
    refine r_nmS h (fun σ6 h => ?_)
    refine r_aload_n X 0 41 dX5_write_40 rfl rfl rfl ?_
    refine g_X5_50 X 44 dX5_write_41 rfl ?_
    refine r_iconst (v := 2) X 45 dX5_write_44 (by decide) rfl ?_
    refine r_iload_n X 3 46 dX5_write_45 rfl rfl rfl ?_
    obtain ⟨hin, h⟩ := h
    refine s_C29 X 47 hin dX5_write_46 rfl ?_
    refine r_nmS h (fun σ7 h => ?_)
    refine r_aload_n X 0 48 dX5_write_47 rfl rfl rfl ?_
    refine g_X5_50 X 51 dX5_write_48 rfl ?_
    refine r_iconst (v := 3) X 52 dX5_write_51 (by decide) rfl ?_
    refine r_iload X 4 54 dX5_write_52 rfl rfl ?_
    obtain ⟨hin, h⟩ := h
    refine s_C29 X 55 hin dX5_write_54 rfl ?_
    refine r_nmS h (fun σ8 h => ?_)
    refine r_aload_n X 0 56 dX5_write_55 rfl rfl rfl ?_
    refine g_X5_50 X 59 dX5_write_56 rfl ?_
    refine r_iconst (v := 4) X 60 dX5_write_59 (by decide) rfl ?_
    refine r_iload X 5 62 dX5_write_60 rfl rfl ?_
    obtain ⟨hin, h⟩ := h
    refine s_C29 X 63 hin dX5_write_62 rfl ?_
    refine r_nmS h (fun σ9 h => ?_)
    refine r_aload_n X 0 64 dX5_write_63 rfl rfl rfl ?_
    refine g_X5_50 X 67 dX5_write_64 rfl ?_
    refine r_iconst (v := 5) X 68 dX5_write_67 (by decide) rfl ?_
    refine r_iload X 6 70 dX5_write_68 rfl rfl ?_
    obtain ⟨hin, h⟩ := h
    refine s_C29 X 71 hin dX5_write_70 rfl ?_
    refine r_nmS h (fun σ10 h => ?_)
    refine r_aload_n X 0 72 dX5_write_71 rfl rfl rfl ?_
    refine g_X5_50 X 75 dX5_write_72 rfl ?_
    refine r_bipush (v := 6) X 77 dX5_write_75 (by decide) rfl ?_
    refine r_iload X 7 79 dX5_write_77 rfl rfl ?_
    obtain ⟨hin, h⟩ := h
    refine s_C29 X 80 hin dX5_write_79 rfl ?_
    refine r_nmS h (fun σ11 h => ?_)
    refine r_aload_n X 0 81 dX5_write_80 rfl rfl rfl ?_
    refine g_X5_50 X 84 dX5_write_81 rfl ?_
    refine r_bipush (v := 7) X 86 dX5_write_84 (by decide) rfl ?_
    refine r_aload_n X 0 87 dX5_write_86 rfl rfl rfl ?_
    refine g_X5_83 X 90 dX5_write_87 rfl ?_
    obtain ⟨hin, h⟩ := h
    refine s_C29 X 91 hin dX5_write_90 rfl ?_
    refine r_nmS h (fun σ12 h => ?_)
    refine r_aload_n X 0 92 dX5_write_91 rfl rfl rfl ?_
    refine g_X5_19 X 95 dX5_write_92 rfl ?_
    refine r_aload_n X 0 96 dX5_write_95 rfl rfl rfl ?_
    refine g_X5_50 X 99 dX5_write_96 rfl ?_
    refine r_callNV (As := [.ref (a 29)]) (rest := []) X 102 (c_X2_add (Or.inl rfl) h) ml_X5_208 lk_X2_add (wC_at_r (Or.inl rfl)) rfl rfl rfl (Nat.le_of_ble_eq_true rfl) ⟨rfl, rfl, ⟨Nat.le_of_ble_eq_true rfl, Nat.le_of_ble_eq_true rfl⟩, Nat.le_of_ble_eq_true rfl, Nat.le_of_ble_eq_true rfl⟩ dX5_write_99 rfl (fun σ13 h => ?_)
    refine r_aload_n X 0 103 dX5_write_102 rfl rfl rfl ?_
    refine g_X5_31 X 106 dX5_write_103 rfl ?_
    refine r_aload_n X 0 107 dX5_write_106 rfl rfl rfl ?_
    refine g_X5_19 X 110 dX5_write_107 rfl ?_
    refine r_callNI (As := [.ref (a 7)]) (rest := []) X 113 (c_X3_firstUndone (Or.inl rfl) h) ml_X5_190 lk_X3_firstUndone wC_at_13 rfl rfl rfl (Nat.le_of_ble_eq_true rfl) ⟨rfl, rfl, ⟨Nat.le_of_ble_eq_true rfl, Nat.le_of_ble_eq_true rfl⟩, Nat.le_of_ble_eq_true rfl, Nat.le_of_ble_eq_true rfl⟩ dX5_write_110 rfl (fun y15 σ14 h => ?_)
    refine r_istore X 115 [(8, .int y15), (0, .ref (a 0)), (1, .int x1), (2, .int x2), (3, .int x3), (4, .int x4), (5, .int x5), (6, .int x6), (7, .int x7)] dX5_write_113 (by decide) rfl rfl ?_
    refine r_iload X 0 117 dX5_write_115 rfl rfl ?_
    refine r_iconst (v := (-1)) X 118 dX5_write_117 (by decide) rfl ?_
    refine r_icmp_eq X 141 121 h dX5_write_118 rfl rfl (fun h => ?_) (fun h => ?_)
    · refine r_aload_n X 1 142 dX5_write_141 rfl rfl rfl ?_
      refine g_X5_19 X 145 dX5_write_142 rfl ?_
      refine g_X5_152 X (Or.inl rfl) 148 dX5_write_145 rfl ?_
      refine r_iconst (v := 1) X 149 dX5_write_148 (by decide) rfl ?_
      refine r_isub X 150 dX5_write_149 rfl ?_
      exact r_iret X hr9 hlk9 h dX5_write_150
    · refine r_aload_n X 1 122 dX5_write_121 rfl rfl rfl ?_
      refine g_X5_19 X 125 dX5_write_122 rfl ?_
      refine r_callNV (As := []) (rest := []) X 128 (c_X2_dropLast (Or.inl rfl) h) ml_X5_212 lk_X2_dropLast (wC_at_r (Or.inl rfl)) rfl rfl rfl (Nat.le_of_ble_eq_true rfl) ⟨rfl, rfl, ⟨Nat.le_of_ble_eq_true rfl, Nat.le_of_ble_eq_true rfl⟩, Nat.le_of_ble_eq_true rfl, Nat.le_of_ble_eq_true rfl⟩ dX5_write_125 rfl (fun σ16 h => ?_)
      refine r_aload_n X 1 129 dX5_write_128 rfl rfl rfl ?_
      refine r_iconst (v := 5) X 130 dX5_write_129 (by decide) rfl ?_
      refine u_X5_54 X 133 dX5_write_130 rfl ?_
      refine r_nmS h (fun σ17 h => ?_)
      refine r_aload_n X 1 134 dX5_write_133 rfl rfl rfl ?_
      refine r_iload X 0 136 dX5_write_134 rfl rfl ?_
      refine u_X5_58 X 139 dX5_write_136 rfl ?_
      refine r_nmS h (fun σ18 h => ?_)
      refine r_iconst (v := (-1)) X 140 dX5_write_139 (by decide) rfl ?_
      exact r_iret X hr9 hlk9 h dX5_write_140
  · refine r_iconst (v := (-1)) X 25 dX5_write_24 (by decide) rfl ?_
    exact r_iret X hr9 hlk9 h dX5_write_25
def rm_X5_slip : Room := { frames := 7, cells := 0, slots := 0, locals := 164 }
theorem dX5_slip_0 : decode cX5_slip 0 = .ok (.aload_n 0, 1) := by decide +kernel
theorem dX5_slip_1 : decode cX5_slip 1 = .ok (.iload_n 1, 1) := by decide +kernel
theorem dX5_slip_2 : decode cX5_slip 2 = .ok (.iload_n 2, 1) := by decide +kernel
theorem dX5_slip_3 : decode cX5_slip 3 = .ok (.iload_n 3, 1) := by decide +kernel
theorem dX5_slip_4 : decode cX5_slip 4 = .ok (.iload 4, 2) := by decide +kernel
theorem dX5_slip_6 : decode cX5_slip 6 = .ok (.iload 5, 2) := by decide +kernel
theorem dX5_slip_8 : decode cX5_slip 8 = .ok (.iload 6, 2) := by decide +kernel
theorem dX5_slip_10 : decode cX5_slip 10 = .ok (.iload 7, 2) := by decide +kernel
theorem dX5_slip_12 : decode cX5_slip 12 = .ok (.invokevirtual 86, 3) := by decide +kernel
theorem dX5_slip_15 : decode cX5_slip 15 = .ok (.ireturn, 1) := by decide +kernel
def wp_X5_slip  (σ : St) (x1 : Int32) (x2 : Int32) (x3 : Int32) (x4 : Int32) (x5 : Int32) (x6 : Int32) (x7 : Int32) (Q : Int32 → St → Prop) : Prop :=
  wp_X5_write σ x1 x2 x3 x4 x5 x6 x7 (fun y2 σ1 =>
  Q y2 σ1)
theorem c_X5_slip  {σ : St} {x1 : Int32} {x2 : Int32} {x3 : Int32} {x4 : Int32} {x5 : Int32} {x6 : Int32} {x7 : Int32} {Q : Int32 → St → Prop} (h : wp_X5_slip σ x1 x2 x3 x4 x5 x6 x7 Q) : ctI l yX5_slip cX5_slip 8 (some .int) rm_X5_slip D (wC cI cZ cH a n) (tyW cI cZ cH) [.ref (a 0), .int x1, .int x2, .int x3, .int x4, .int x5, .int x6, .int x7] σ Q := by
  refine mk_I (wC_ok cI cZ cH a n) (by decide +kernel) (Nat.le_of_ble_eq_true rfl) (fun p e s m args below meth c A X hr9 hlk9 => ?_)
  refine r_pick (lv' := [(0, .ref (a 0)), (1, .int x1), (2, .int x2), (3, .int x3), (4, .int x4), (5, .int x5), (6, .int x6), (7, .int x7)]) [0, 1, 2, 3, 4, 5, 6, 7] rfl ?_
  delta wp_X5_slip at h
  refine r_aload_n X 0 1 dX5_slip_0 rfl rfl rfl ?_
  refine r_iload_n X 1 2 dX5_slip_1 rfl rfl rfl ?_
  refine r_iload_n X 2 3 dX5_slip_2 rfl rfl rfl ?_
  refine r_iload_n X 3 4 dX5_slip_3 rfl rfl rfl ?_
  refine r_iload X 4 6 dX5_slip_4 rfl rfl ?_
  refine r_iload X 5 8 dX5_slip_6 rfl rfl ?_
  refine r_iload X 6 10 dX5_slip_8 rfl rfl ?_
  refine r_iload X 7 12 dX5_slip_10 rfl rfl ?_
  refine r_callI (As := [.int x1, .int x2, .int x3, .int x4, .int x5, .int x6, .int x7]) (rest := []) X 15 (c_X5_write h) ml_X5_86 lk_X5_write wC_at_0 rfl rfl rfl (Nat.le_of_ble_eq_true rfl) ⟨rfl, rfl, ⟨Nat.le_of_ble_eq_true rfl, Nat.le_of_ble_eq_true rfl⟩, Nat.le_of_ble_eq_true rfl, Nat.le_of_ble_eq_true rfl⟩ dX5_slip_12 rfl (fun y2 σ1 h => ?_)
  exact r_iret X hr9 hlk9 h dX5_slip_15
def rm_X5_fault : Room := { frames := 0, cells := 0, slots := 0, locals := 0 }
theorem dX5_fault_0 : decode cX5_fault 0 = .ok (.iload_n 1, 1) := by decide +kernel
theorem dX5_fault_1 : decode cX5_fault 1 = .ok (.lookupswitch 37 #[(0, 27), (1, 32)], 27) := by decide +kernel
theorem dX5_fault_28 : decode cX5_fault 28 = .ok (.aload_n 0, 1) := by decide +kernel
theorem dX5_fault_29 : decode cX5_fault 29 = .ok (.getfield 54, 3) := by decide +kernel
theorem dX5_fault_32 : decode cX5_fault 32 = .ok (.ireturn, 1) := by decide +kernel
theorem dX5_fault_33 : decode cX5_fault 33 = .ok (.aload_n 0, 1) := by decide +kernel
theorem dX5_fault_34 : decode cX5_fault 34 = .ok (.getfield 58, 3) := by decide +kernel
theorem dX5_fault_37 : decode cX5_fault 37 = .ok (.ireturn, 1) := by decide +kernel
theorem dX5_fault_38 : decode cX5_fault 38 = .ok (.iconst (-1), 1) := by decide +kernel
theorem dX5_fault_39 : decode cX5_fault 39 = .ok (.ireturn, 1) := by decide +kernel
def wp_X5_fault  (σ : St) (x1 : Int32) (Q : Int32 → St → Prop) : Prop :=
  if x1 = 0 then
  (Q (σ 0 10) σ)
  else (if x1 = 1 then
  (Q (σ 0 11) σ)
  else (Q (-1) σ))
theorem c_X5_fault  {σ : St} {x1 : Int32} {Q : Int32 → St → Prop} (h : wp_X5_fault σ x1 Q) : ctI l yX5_fault cX5_fault 2 (some .int) rm_X5_fault D (wC cI cZ cH a n) (tyW cI cZ cH) [.ref (a 0), .int x1] σ Q := by
  refine mk_I (wC_ok cI cZ cH a n) (by decide +kernel) (Nat.le_of_ble_eq_true rfl) (fun p e s m args below meth c A X hr9 hlk9 => ?_)
  refine r_pick (lv' := [(0, .ref (a 0)), (1, .int x1)]) [0, 1] rfl ?_
  delta wp_X5_fault at h
  refine r_iload_n X 1 1 dX5_fault_0 rfl rfl rfl ?_
  refine r_ifs h (fun hc0 h => ?_) (fun hc0 h => ?_)
  · refine r_lookup X 28 dX5_fault_1 (by decide) (by rw [hc0]) rfl ?_
    refine r_aload_n X 0 29 dX5_fault_28 rfl rfl rfl ?_
    refine g_X5_54 X 32 dX5_fault_29 rfl ?_
    exact r_iret X hr9 hlk9 h dX5_fault_32
  · refine r_ifs h (fun hc1 h => ?_) (fun hc1 h => ?_)
    · refine r_lookup X 33 dX5_fault_1 (by decide) (by rw [hc1]) rfl ?_
      refine r_aload_n X 0 34 dX5_fault_33 rfl rfl rfl ?_
      refine g_X5_58 X 37 dX5_fault_34 rfl ?_
      exact r_iret X hr9 hlk9 h dX5_fault_37
    · refine r_lookup (off := 37) X 38 dX5_fault_1 (by decide) (by have e0 := tn_ (k := 0) hc0 rfl; have e1 := tn_ (k := 1) hc1 rfl; simp [Op.lookupswitch.offset, e0, Ne.symm e0, e1, Ne.symm e1]) rfl ?_
      refine r_iconst (v := (-1)) X 39 dX5_fault_38 (by decide) rfl ?_
      exact r_iret X hr9 hlk9 h dX5_fault_39
def rm_X5_about : Room := { frames := 0, cells := 0, slots := 0, locals := 0 }
theorem dX5_about_0 : decode cX5_about 0 = .ok (.iload_n 1, 1) := by decide +kernel
theorem dX5_about_1 : decode cX5_about 1 = .ok (.tableswitch 104 0 6 #[43, 51, 59, 67, 75, 80, 85], 43) := by decide +kernel
theorem dX5_about_44 : decode cX5_about 44 = .ok (.aload_n 0, 1) := by decide +kernel
theorem dX5_about_45 : decode cX5_about 45 = .ok (.getfield 10, 3) := by decide +kernel
theorem dX5_about_48 : decode cX5_about 48 = .ok (.getfield 143, 3) := by decide +kernel
theorem dX5_about_51 : decode cX5_about 51 = .ok (.ireturn, 1) := by decide +kernel
theorem dX5_about_52 : decode cX5_about 52 = .ok (.aload_n 0, 1) := by decide +kernel
theorem dX5_about_53 : decode cX5_about 53 = .ok (.getfield 10, 3) := by decide +kernel
theorem dX5_about_56 : decode cX5_about 56 = .ok (.getfield 146, 3) := by decide +kernel
theorem dX5_about_59 : decode cX5_about 59 = .ok (.ireturn, 1) := by decide +kernel
theorem dX5_about_60 : decode cX5_about 60 = .ok (.aload_n 0, 1) := by decide +kernel
theorem dX5_about_61 : decode cX5_about 61 = .ok (.getfield 10, 3) := by decide +kernel
theorem dX5_about_64 : decode cX5_about 64 = .ok (.getfield 149, 3) := by decide +kernel
theorem dX5_about_67 : decode cX5_about 67 = .ok (.ireturn, 1) := by decide +kernel
theorem dX5_about_68 : decode cX5_about 68 = .ok (.aload_n 0, 1) := by decide +kernel
theorem dX5_about_69 : decode cX5_about 69 = .ok (.getfield 19, 3) := by decide +kernel
theorem dX5_about_72 : decode cX5_about 72 = .ok (.getfield 152, 3) := by decide +kernel
theorem dX5_about_75 : decode cX5_about 75 = .ok (.ireturn, 1) := by decide +kernel
theorem dX5_about_76 : decode cX5_about 76 = .ok (.aload_n 0, 1) := by decide +kernel
theorem dX5_about_77 : decode cX5_about 77 = .ok (.getfield 83, 3) := by decide +kernel
theorem dX5_about_80 : decode cX5_about 80 = .ok (.ireturn, 1) := by decide +kernel
theorem dX5_about_81 : decode cX5_about 81 = .ok (.aload_n 0, 1) := by decide +kernel
theorem dX5_about_82 : decode cX5_about 82 = .ok (.getfield 97, 3) := by decide +kernel
theorem dX5_about_85 : decode cX5_about 85 = .ok (.ireturn, 1) := by decide +kernel
theorem dX5_about_86 : decode cX5_about 86 = .ok (.aload_n 0, 1) := by decide +kernel
theorem dX5_about_87 : decode cX5_about 87 = .ok (.getfield 155, 3) := by decide +kernel
theorem dX5_about_90 : decode cX5_about 90 = .ok (.ifCond .eq 13, 3) := by decide +kernel
theorem dX5_about_93 : decode cX5_about 93 = .ok (.aload_n 0, 1) := by decide +kernel
theorem dX5_about_94 : decode cX5_about 94 = .ok (.getfield 23, 3) := by decide +kernel
theorem dX5_about_97 : decode cX5_about 97 = .ok (.getfield 152, 3) := by decide +kernel
theorem dX5_about_100 : decode cX5_about 100 = .ok (.goto 4, 3) := by decide +kernel
theorem dX5_about_103 : decode cX5_about 103 = .ok (.iconst (-1), 1) := by decide +kernel
theorem dX5_about_104 : decode cX5_about 104 = .ok (.ireturn, 1) := by decide +kernel
theorem dX5_about_105 : decode cX5_about 105 = .ok (.iconst (-1), 1) := by decide +kernel
theorem dX5_about_106 : decode cX5_about 106 = .ok (.ireturn, 1) := by decide +kernel
def wp_X5_about  (σ : St) (x1 : Int32) (Q : Int32 → St → Prop) : Prop :=
  if x1 = 0 then
  (Q (σ 1 5) σ)
  else (if x1 = 1 then
  (Q (σ 1 6) σ)
  else (if x1 = 2 then
  (Q (σ 1 7) σ)
  else (if x1 = 3 then
  (Q (σ 7 2) σ)
  else (if x1 = 4 then
  (Q (σ 0 9) σ)
  else (if x1 = 5 then
  (Q (σ 0 7) σ)
  else (if x1 = 6 then
  (if (σ 0 8) = 0 then
  (Q (-1) σ)
  else (Q (σ 10 2) σ))
  else (Q (-1) σ)))))))
theorem c_X5_about  {σ : St} {x1 : Int32} {Q : Int32 → St → Prop} (h : wp_X5_about σ x1 Q) : ctI l yX5_about cX5_about 2 (some .int) rm_X5_about D (wC cI cZ cH a n) (tyW cI cZ cH) [.ref (a 0), .int x1] σ Q := by
  refine mk_I (wC_ok cI cZ cH a n) (by decide +kernel) (Nat.le_of_ble_eq_true rfl) (fun p e s m args below meth c A X hr9 hlk9 => ?_)
  refine r_pick (lv' := [(0, .ref (a 0)), (1, .int x1)]) [0, 1] rfl ?_
  delta wp_X5_about at h
  refine r_iload_n X 1 1 dX5_about_0 rfl rfl rfl ?_
  refine r_ifs h (fun hc0 h => ?_) (fun hc0 h => ?_)
  · refine r_tabIn X 44 dX5_about_1 hc0 (by decide) (by decide) rfl rfl ?_
    refine r_aload_n X 0 45 dX5_about_44 rfl rfl rfl ?_
    refine g_X5_10 X 48 dX5_about_45 rfl ?_
    refine g_X5_143 X 51 dX5_about_48 rfl ?_
    exact r_iret X hr9 hlk9 h dX5_about_51
  · refine r_ifs h (fun hc1 h => ?_) (fun hc1 h => ?_)
    · refine r_tabIn X 52 dX5_about_1 hc1 (by decide) (by decide) rfl rfl ?_
      refine r_aload_n X 0 53 dX5_about_52 rfl rfl rfl ?_
      refine g_X5_10 X 56 dX5_about_53 rfl ?_
      refine g_X5_146 X 59 dX5_about_56 rfl ?_
      exact r_iret X hr9 hlk9 h dX5_about_59
    · refine r_ifs h (fun hc2 h => ?_) (fun hc2 h => ?_)
      · refine r_tabIn X 60 dX5_about_1 hc2 (by decide) (by decide) rfl rfl ?_
        refine r_aload_n X 0 61 dX5_about_60 rfl rfl rfl ?_
        refine g_X5_10 X 64 dX5_about_61 rfl ?_
        refine g_X5_149 X 67 dX5_about_64 rfl ?_
        exact r_iret X hr9 hlk9 h dX5_about_67
      · refine r_ifs h (fun hc3 h => ?_) (fun hc3 h => ?_)
        · refine r_tabIn X 68 dX5_about_1 hc3 (by decide) (by decide) rfl rfl ?_
          refine r_aload_n X 0 69 dX5_about_68 rfl rfl rfl ?_
          refine g_X5_19 X 72 dX5_about_69 rfl ?_
          refine g_X5_152 X (Or.inl rfl) 75 dX5_about_72 rfl ?_
          exact r_iret X hr9 hlk9 h dX5_about_75
        · refine r_ifs h (fun hc4 h => ?_) (fun hc4 h => ?_)
          · refine r_tabIn X 76 dX5_about_1 hc4 (by decide) (by decide) rfl rfl ?_
            refine r_aload_n X 0 77 dX5_about_76 rfl rfl rfl ?_
            refine g_X5_83 X 80 dX5_about_77 rfl ?_
            exact r_iret X hr9 hlk9 h dX5_about_80
          · refine r_ifs h (fun hc5 h => ?_) (fun hc5 h => ?_)
            · refine r_tabIn X 81 dX5_about_1 hc5 (by decide) (by decide) rfl rfl ?_
              refine r_aload_n X 0 82 dX5_about_81 rfl rfl rfl ?_
              refine g_X5_97 X 85 dX5_about_82 rfl ?_
              exact r_iret X hr9 hlk9 h dX5_about_85
            · refine r_ifs h (fun hc6 h => ?_) (fun hc6 h => ?_)
              · refine r_tabIn X 86 dX5_about_1 hc6 (by decide) (by decide) rfl rfl ?_
                refine r_aload_n X 0 87 dX5_about_86 rfl rfl rfl ?_
                refine g_X5_155 X 90 dX5_about_87 rfl ?_
                refine r_if_eq X 103 93 h dX5_about_90 rfl rfl (fun h => ?_) (fun h => ?_)
                · refine r_iconst (v := (-1)) X 104 dX5_about_103 (by decide) rfl ?_
                  exact r_iret X hr9 hlk9 h dX5_about_104
                · refine r_aload_n X 0 94 dX5_about_93 rfl rfl rfl ?_
                  refine g_X5_23 X 97 dX5_about_94 rfl ?_
                  refine g_X5_152 X (Or.inr rfl) 100 dX5_about_97 rfl ?_
                  refine r_goto X 104 dX5_about_100 rfl ?_
                  exact r_iret X hr9 hlk9 h dX5_about_104
              · refine r_tabOut X 105 dX5_about_1 (by have e0 := tn_ (k := 0) hc0 rfl; have e1 := tn_ (k := 1) hc1 rfl; have e2 := tn_ (k := 2) hc2 rfl; have e3 := tn_ (k := 3) hc3 rfl; have e4 := tn_ (k := 4) hc4 rfl; have e5 := tn_ (k := 5) hc5 rfl; have e6 := tn_ (k := 6) hc6 rfl; omega) rfl ?_
                refine r_iconst (v := (-1)) X 106 dX5_about_105 (by decide) rfl ?_
                exact r_iret X hr9 hlk9 h dX5_about_106
def rm_X5_slipOf : Room := { frames := 3, cells := 0, slots := 0, locals := 65 }
theorem dX5_slipOf_0 : decode cX5_slipOf 0 = .ok (.aload_n 0, 1) := by decide +kernel
theorem dX5_slipOf_1 : decode cX5_slipOf 1 = .ok (.getfield 19, 3) := by decide +kernel
theorem dX5_slipOf_4 : decode cX5_slipOf 4 = .ok (.iload_n 1, 1) := by decide +kernel
theorem dX5_slipOf_5 : decode cX5_slipOf 5 = .ok (.invokevirtual 158, 3) := by decide +kernel
theorem dX5_slipOf_8 : decode cX5_slipOf 8 = .ok (.ifCond .ne 5, 3) := by decide +kernel
theorem dX5_slipOf_11 : decode cX5_slipOf 11 = .ok (.iconst (-1), 1) := by decide +kernel
theorem dX5_slipOf_12 : decode cX5_slipOf 12 = .ok (.ireturn, 1) := by decide +kernel
theorem dX5_slipOf_13 : decode cX5_slipOf 13 = .ok (.iload_n 2, 1) := by decide +kernel
theorem dX5_slipOf_14 : decode cX5_slipOf 14 = .ok (.bipush 8, 2) := by decide +kernel
theorem dX5_slipOf_16 : decode cX5_slipOf 16 = .ok (.if_icmp .ne 20, 3) := by decide +kernel
theorem dX5_slipOf_19 : decode cX5_slipOf 19 = .ok (.aload_n 0, 1) := by decide +kernel
theorem dX5_slipOf_20 : decode cX5_slipOf 20 = .ok (.getfield 19, 3) := by decide +kernel
theorem dX5_slipOf_23 : decode cX5_slipOf 23 = .ok (.iload_n 1, 1) := by decide +kernel
theorem dX5_slipOf_24 : decode cX5_slipOf 24 = .ok (.invokevirtual 161, 3) := by decide +kernel
theorem dX5_slipOf_27 : decode cX5_slipOf 27 = .ok (.ifCond .eq 7, 3) := by decide +kernel
theorem dX5_slipOf_30 : decode cX5_slipOf 30 = .ok (.iconst 1, 1) := by decide +kernel
theorem dX5_slipOf_31 : decode cX5_slipOf 31 = .ok (.goto 4, 3) := by decide +kernel
theorem dX5_slipOf_34 : decode cX5_slipOf 34 = .ok (.iconst 0, 1) := by decide +kernel
theorem dX5_slipOf_35 : decode cX5_slipOf 35 = .ok (.ireturn, 1) := by decide +kernel
theorem dX5_slipOf_36 : decode cX5_slipOf 36 = .ok (.aload_n 0, 1) := by decide +kernel
theorem dX5_slipOf_37 : decode cX5_slipOf 37 = .ok (.getfield 19, 3) := by decide +kernel
theorem dX5_slipOf_40 : decode cX5_slipOf 40 = .ok (.iload_n 1, 1) := by decide +kernel
theorem dX5_slipOf_41 : decode cX5_slipOf 41 = .ok (.iload_n 2, 1) := by decide +kernel
theorem dX5_slipOf_42 : decode cX5_slipOf 42 = .ok (.invokevirtual 163, 3) := by decide +kernel
theorem dX5_slipOf_45 : decode cX5_slipOf 45 = .ok (.ireturn, 1) := by decide +kernel
def wp_X5_slipOf  (σ : St) (x1 : Int32) (x2 : Int32) (Q : Int32 → St → Prop) : Prop :=
  wp_X2_has 7 σ x1 (fun y2 σ1 =>
  if y2 = 0 then
  (Q (-1) σ1)
  else (if x2 = 8 then
  (wp_X2_isLate 7 σ1 x1 (fun y6 σ5 =>
  if y6 = 0 then
  (Q 0 σ5)
  else (Q 1 σ5)))
  else (wp_X2_cell 7 σ1 x1 x2 (fun y4 σ3 =>
  Q y4 σ3))))
theorem c_X5_slipOf  {σ : St} {x1 : Int32} {x2 : Int32} {Q : Int32 → St → Prop} (h : wp_X5_slipOf σ x1 x2 Q) : ctI l yX5_slipOf cX5_slipOf 3 (some .int) rm_X5_slipOf D (wC cI cZ cH a n) (tyW cI cZ cH) [.ref (a 0), .int x1, .int x2] σ Q := by
  refine mk_I (wC_ok cI cZ cH a n) (by decide +kernel) (Nat.le_of_ble_eq_true rfl) (fun p e s m args below meth c A X hr9 hlk9 => ?_)
  refine r_pick (lv' := [(0, .ref (a 0)), (1, .int x1), (2, .int x2)]) [0, 1, 2] rfl ?_
  delta wp_X5_slipOf at h
  refine r_aload_n X 0 1 dX5_slipOf_0 rfl rfl rfl ?_
  refine g_X5_19 X 4 dX5_slipOf_1 rfl ?_
  refine r_iload_n X 1 5 dX5_slipOf_4 rfl rfl rfl ?_
  refine r_callNI (As := [.int x1]) (rest := []) X 8 (c_X2_has (Or.inl rfl) h) ml_X5_158 lk_X2_has (wC_at_r (Or.inl rfl)) rfl rfl rfl (Nat.le_of_ble_eq_true rfl) ⟨rfl, rfl, ⟨Nat.le_of_ble_eq_true rfl, Nat.le_of_ble_eq_true rfl⟩, Nat.le_of_ble_eq_true rfl, Nat.le_of_ble_eq_true rfl⟩ dX5_slipOf_5 rfl (fun y2 σ1 h => ?_)
  obtain ⟨hb_y2, h⟩ := h
  refine r_if_ne X 13 11 h dX5_slipOf_8 rfl rfl (fun h => ?_) (fun h => ?_)
  · refine r_iload_n X 2 14 dX5_slipOf_13 rfl rfl rfl ?_
    refine r_bipush (v := 8) X 16 dX5_slipOf_14 (by decide) rfl ?_
    refine r_icmp_ne X 36 19 h dX5_slipOf_16 rfl rfl (fun h => ?_) (fun h => ?_)
    · refine r_aload_n X 0 37 dX5_slipOf_36 rfl rfl rfl ?_
      refine g_X5_19 X 40 dX5_slipOf_37 rfl ?_
      refine r_iload_n X 1 41 dX5_slipOf_40 rfl rfl rfl ?_
      refine r_iload_n X 2 42 dX5_slipOf_41 rfl rfl rfl ?_
      refine r_callNI (As := [.int x1, .int x2]) (rest := []) X 45 (c_X2_cell (Or.inl rfl) h) ml_X5_163 lk_X2_cell (wC_at_r (Or.inl rfl)) rfl rfl rfl (Nat.le_of_ble_eq_true rfl) ⟨rfl, rfl, ⟨Nat.le_of_ble_eq_true rfl, Nat.le_of_ble_eq_true rfl⟩, Nat.le_of_ble_eq_true rfl, Nat.le_of_ble_eq_true rfl⟩ dX5_slipOf_42 rfl (fun y4 σ3 h => ?_)
      exact r_iret X hr9 hlk9 h dX5_slipOf_45
    · refine r_aload_n X 0 20 dX5_slipOf_19 rfl rfl rfl ?_
      refine g_X5_19 X 23 dX5_slipOf_20 rfl ?_
      refine r_iload_n X 1 24 dX5_slipOf_23 rfl rfl rfl ?_
      refine r_callNI (As := [.int x1]) (rest := []) X 27 (c_X2_isLate (Or.inl rfl) h) ml_X5_161 lk_X2_isLate (wC_at_r (Or.inl rfl)) rfl rfl rfl (Nat.le_of_ble_eq_true rfl) ⟨rfl, rfl, ⟨Nat.le_of_ble_eq_true rfl, Nat.le_of_ble_eq_true rfl⟩, Nat.le_of_ble_eq_true rfl, Nat.le_of_ble_eq_true rfl⟩ dX5_slipOf_24 rfl (fun y6 σ5 h => ?_)
      obtain ⟨hb_y6, h⟩ := h
      refine r_if_eq X 34 30 h dX5_slipOf_27 rfl rfl (fun h => ?_) (fun h => ?_)
      · refine r_iconst (v := 0) X 35 dX5_slipOf_34 (by decide) rfl ?_
        exact r_iret X hr9 hlk9 h dX5_slipOf_35
      · refine r_iconst (v := 1) X 31 dX5_slipOf_30 (by decide) rfl ?_
        refine r_goto X 35 dX5_slipOf_31 rfl ?_
        exact r_iret X hr9 hlk9 h dX5_slipOf_35
  · refine r_iconst (v := (-1)) X 12 dX5_slipOf_11 (by decide) rfl ?_
    exact r_iret X hr9 hlk9 h dX5_slipOf_12
def rm_X5_where : Room := { frames := 6, cells := 0, slots := 0, locals := 138 }
theorem dX5_where_0 : decode cX5_where 0 = .ok (.aload_n 0, 1) := by decide +kernel
theorem dX5_where_1 : decode cX5_where 1 = .ok (.getfield 10, 3) := by decide +kernel
theorem dX5_where_4 : decode cX5_where 4 = .ok (.iload_n 1, 1) := by decide +kernel
theorem dX5_where_5 : decode cX5_where 5 = .ok (.invokevirtual 90, 3) := by decide +kernel
theorem dX5_where_8 : decode cX5_where 8 = .ok (.ifCond .ne 5, 3) := by decide +kernel
theorem dX5_where_11 : decode cX5_where 11 = .ok (.iconst (-1), 1) := by decide +kernel
theorem dX5_where_12 : decode cX5_where 12 = .ok (.ireturn, 1) := by decide +kernel
theorem dX5_where_13 : decode cX5_where 13 = .ok (.aload_n 0, 1) := by decide +kernel
theorem dX5_where_14 : decode cX5_where 14 = .ok (.getfield 31, 3) := by decide +kernel
theorem dX5_where_17 : decode cX5_where 17 = .ok (.aload_n 0, 1) := by decide +kernel
theorem dX5_where_18 : decode cX5_where 18 = .ok (.getfield 19, 3) := by decide +kernel
theorem dX5_where_21 : decode cX5_where 21 = .ok (.iload_n 2, 1) := by decide +kernel
theorem dX5_where_22 : decode cX5_where 22 = .ok (.iload_n 3, 1) := by decide +kernel
theorem dX5_where_23 : decode cX5_where 23 = .ok (.invokevirtual 166, 3) := by decide +kernel
theorem dX5_where_26 : decode cX5_where 26 = .ok (.aload_n 0, 1) := by decide +kernel
theorem dX5_where_27 : decode cX5_where 27 = .ok (.getfield 31, 3) := by decide +kernel
theorem dX5_where_30 : decode cX5_where 30 = .ok (.iload_n 1, 1) := by decide +kernel
theorem dX5_where_31 : decode cX5_where 31 = .ok (.iload 4, 2) := by decide +kernel
theorem dX5_where_33 : decode cX5_where 33 = .ok (.invokevirtual 170, 3) := by decide +kernel
theorem dX5_where_36 : decode cX5_where 36 = .ok (.ireturn, 1) := by decide +kernel
def wp_X5_where  (σ : St) (x1 : Int32) (x2 : Int32) (x3 : Int32) (x4 : Int32) (Q : Int32 → St → Prop) : Prop :=
  wp_X4_isThing σ x1 (fun y2 σ1 =>
  if y2 = 0 then
  (Q (-1) σ1)
  else (wp_X3_tellKnown 7 σ1 x2 x3 (fun σ3 =>
  wp_X3_answer σ3 x1 x4 (fun y5 σ4 =>
  Q y5 σ4))))
theorem c_X5_where  {σ : St} {x1 : Int32} {x2 : Int32} {x3 : Int32} {x4 : Int32} {Q : Int32 → St → Prop} (h : wp_X5_where σ x1 x2 x3 x4 Q) : ctI l yX5_where cX5_where 5 (some .int) rm_X5_where D (wC cI cZ cH a n) (tyW cI cZ cH) [.ref (a 0), .int x1, .int x2, .int x3, .int x4] σ Q := by
  refine mk_I (wC_ok cI cZ cH a n) (by decide +kernel) (Nat.le_of_ble_eq_true rfl) (fun p e s m args below meth c A X hr9 hlk9 => ?_)
  refine r_pick (lv' := [(0, .ref (a 0)), (1, .int x1), (2, .int x2), (3, .int x3), (4, .int x4)]) [0, 1, 2, 3, 4] rfl ?_
  delta wp_X5_where at h
  refine r_aload_n X 0 1 dX5_where_0 rfl rfl rfl ?_
  refine g_X5_10 X 4 dX5_where_1 rfl ?_
  refine r_iload_n X 1 5 dX5_where_4 rfl rfl rfl ?_
  refine r_callNI (As := [.int x1]) (rest := []) X 8 (c_X4_isThing h) ml_X5_90 lk_X4_isThing wC_at_1 rfl rfl rfl (Nat.le_of_ble_eq_true rfl) ⟨rfl, rfl, ⟨Nat.le_of_ble_eq_true rfl, Nat.le_of_ble_eq_true rfl⟩, Nat.le_of_ble_eq_true rfl, Nat.le_of_ble_eq_true rfl⟩ dX5_where_5 rfl (fun y2 σ1 h => ?_)
  obtain ⟨hb_y2, h⟩ := h
  refine r_if_ne X 13 11 h dX5_where_8 rfl rfl (fun h => ?_) (fun h => ?_)
  · refine r_aload_n X 0 14 dX5_where_13 rfl rfl rfl ?_
    refine g_X5_31 X 17 dX5_where_14 rfl ?_
    refine r_aload_n X 0 18 dX5_where_17 rfl rfl rfl ?_
    refine g_X5_19 X 21 dX5_where_18 rfl ?_
    refine r_iload_n X 2 22 dX5_where_21 rfl rfl rfl ?_
    refine r_iload_n X 3 23 dX5_where_22 rfl rfl rfl ?_
    refine r_callNV (As := [.ref (a 7), .int x2, .int x3]) (rest := []) X 26 (c_X3_tellKnown (Or.inl rfl) h) ml_X5_166 lk_X3_tellKnown wC_at_13 rfl rfl rfl (Nat.le_of_ble_eq_true rfl) ⟨rfl, rfl, ⟨Nat.le_of_ble_eq_true rfl, Nat.le_of_ble_eq_true rfl⟩, Nat.le_of_ble_eq_true rfl, Nat.le_of_ble_eq_true rfl⟩ dX5_where_23 rfl (fun σ3 h => ?_)
    refine r_aload_n X 0 27 dX5_where_26 rfl rfl rfl ?_
    refine g_X5_31 X 30 dX5_where_27 rfl ?_
    refine r_iload_n X 1 31 dX5_where_30 rfl rfl rfl ?_
    refine r_iload X 4 33 dX5_where_31 rfl rfl ?_
    refine r_callNI (As := [.int x1, .int x4]) (rest := []) X 36 (c_X3_answer h) ml_X5_170 lk_X3_answer wC_at_13 rfl rfl rfl (Nat.le_of_ble_eq_true rfl) ⟨rfl, rfl, ⟨Nat.le_of_ble_eq_true rfl, Nat.le_of_ble_eq_true rfl⟩, Nat.le_of_ble_eq_true rfl, Nat.le_of_ble_eq_true rfl⟩ dX5_where_33 rfl (fun y5 σ4 h => ?_)
    exact r_iret X hr9 hlk9 h dX5_where_36
  · refine r_iconst (v := (-1)) X 12 dX5_where_11 (by decide) rfl ?_
    exact r_iret X hr9 hlk9 h dX5_where_12
def rm_X5_chain : Room := { frames := 4, cells := 0, slots := 0, locals := 91 }
theorem dX5_chain_0 : decode cX5_chain 0 = .ok (.aload_n 0, 1) := by decide +kernel
theorem dX5_chain_1 : decode cX5_chain 1 = .ok (.getfield 10, 3) := by decide +kernel
theorem dX5_chain_4 : decode cX5_chain 4 = .ok (.iload_n 1, 1) := by decide +kernel
theorem dX5_chain_5 : decode cX5_chain 5 = .ok (.invokevirtual 90, 3) := by decide +kernel
theorem dX5_chain_8 : decode cX5_chain 8 = .ok (.ifCond .ne 5, 3) := by decide +kernel
theorem dX5_chain_11 : decode cX5_chain 11 = .ok (.iconst (-1), 1) := by decide +kernel
theorem dX5_chain_12 : decode cX5_chain 12 = .ok (.ireturn, 1) := by decide +kernel
theorem dX5_chain_13 : decode cX5_chain 13 = .ok (.aload_n 0, 1) := by decide +kernel
theorem dX5_chain_14 : decode cX5_chain 14 = .ok (.getfield 40, 3) := by decide +kernel
theorem dX5_chain_17 : decode cX5_chain 17 = .ok (.iload_n 1, 1) := by decide +kernel
theorem dX5_chain_18 : decode cX5_chain 18 = .ok (.invokevirtual 173, 3) := by decide +kernel
theorem dX5_chain_21 : decode cX5_chain 21 = .ok (.aload_n 0, 1) := by decide +kernel
theorem dX5_chain_22 : decode cX5_chain 22 = .ok (.getfield 40, 3) := by decide +kernel
theorem dX5_chain_25 : decode cX5_chain 25 = .ok (.iload_n 2, 1) := by decide +kernel
theorem dX5_chain_26 : decode cX5_chain 26 = .ok (.invokevirtual 177, 3) := by decide +kernel
theorem dX5_chain_29 : decode cX5_chain 29 = .ok (.ireturn, 1) := by decide +kernel
def wp_X5_chain  (σ : St) (x1 : Int32) (x2 : Int32) (Q : Int32 → St → Prop) : Prop :=
  wp_X4_isThing σ x1 (fun y2 σ1 =>
  if y2 = 0 then
  (Q (-1) σ1)
  else (wp_X1_follow σ1 x1 (fun σ3 =>
  wp_X1_link σ3 x2 (fun y5 σ4 =>
  Q y5 σ4))))
theorem c_X5_chain  {σ : St} {x1 : Int32} {x2 : Int32} {Q : Int32 → St → Prop} (h : wp_X5_chain σ x1 x2 Q) : ctI l yX5_chain cX5_chain 3 (some .int) rm_X5_chain D (wC cI cZ cH a n) (tyW cI cZ cH) [.ref (a 0), .int x1, .int x2] σ Q := by
  refine mk_I (wC_ok cI cZ cH a n) (by decide +kernel) (Nat.le_of_ble_eq_true rfl) (fun p e s m args below meth c A X hr9 hlk9 => ?_)
  refine r_pick (lv' := [(0, .ref (a 0)), (1, .int x1), (2, .int x2)]) [0, 1, 2] rfl ?_
  delta wp_X5_chain at h
  refine r_aload_n X 0 1 dX5_chain_0 rfl rfl rfl ?_
  refine g_X5_10 X 4 dX5_chain_1 rfl ?_
  refine r_iload_n X 1 5 dX5_chain_4 rfl rfl rfl ?_
  refine r_callNI (As := [.int x1]) (rest := []) X 8 (c_X4_isThing h) ml_X5_90 lk_X4_isThing wC_at_1 rfl rfl rfl (Nat.le_of_ble_eq_true rfl) ⟨rfl, rfl, ⟨Nat.le_of_ble_eq_true rfl, Nat.le_of_ble_eq_true rfl⟩, Nat.le_of_ble_eq_true rfl, Nat.le_of_ble_eq_true rfl⟩ dX5_chain_5 rfl (fun y2 σ1 h => ?_)
  obtain ⟨hb_y2, h⟩ := h
  refine r_if_ne X 13 11 h dX5_chain_8 rfl rfl (fun h => ?_) (fun h => ?_)
  · refine r_aload_n X 0 14 dX5_chain_13 rfl rfl rfl ?_
    refine g_X5_40 X 17 dX5_chain_14 rfl ?_
    refine r_iload_n X 1 18 dX5_chain_17 rfl rfl rfl ?_
    refine r_callNV (As := [.int x1]) (rest := []) X 21 (c_X1_follow h) ml_X5_173 lk_X1_follow wC_at_26 rfl rfl rfl (Nat.le_of_ble_eq_true rfl) ⟨rfl, rfl, ⟨Nat.le_of_ble_eq_true rfl, Nat.le_of_ble_eq_true rfl⟩, Nat.le_of_ble_eq_true rfl, Nat.le_of_ble_eq_true rfl⟩ dX5_chain_18 rfl (fun σ3 h => ?_)
    refine r_aload_n X 0 22 dX5_chain_21 rfl rfl rfl ?_
    refine g_X5_40 X 25 dX5_chain_22 rfl ?_
    refine r_iload_n X 2 26 dX5_chain_25 rfl rfl rfl ?_
    refine r_callNI (As := [.int x2]) (rest := []) X 29 (c_X1_link h) ml_X5_177 lk_X1_link wC_at_26 rfl rfl rfl (Nat.le_of_ble_eq_true rfl) ⟨rfl, rfl, ⟨Nat.le_of_ble_eq_true rfl, Nat.le_of_ble_eq_true rfl⟩, Nat.le_of_ble_eq_true rfl, Nat.le_of_ble_eq_true rfl⟩ dX5_chain_26 rfl (fun y5 σ4 h => ?_)
    exact r_iret X hr9 hlk9 h dX5_chain_29
  · refine r_iconst (v := (-1)) X 12 dX5_chain_11 (by decide) rfl ?_
    exact r_iret X hr9 hlk9 h dX5_chain_12
def rm_X5_gap : Room := { frames := 4, cells := 0, slots := 0, locals := 91 }
theorem dX5_gap_0 : decode cX5_gap 0 = .ok (.aload_n 0, 1) := by decide +kernel
theorem dX5_gap_1 : decode cX5_gap 1 = .ok (.getfield 10, 3) := by decide +kernel
theorem dX5_gap_4 : decode cX5_gap 4 = .ok (.iload_n 1, 1) := by decide +kernel
theorem dX5_gap_5 : decode cX5_gap 5 = .ok (.invokevirtual 90, 3) := by decide +kernel
theorem dX5_gap_8 : decode cX5_gap 8 = .ok (.ifCond .ne 5, 3) := by decide +kernel
theorem dX5_gap_11 : decode cX5_gap 11 = .ok (.iconst (-1), 1) := by decide +kernel
theorem dX5_gap_12 : decode cX5_gap 12 = .ok (.ireturn, 1) := by decide +kernel
theorem dX5_gap_13 : decode cX5_gap 13 = .ok (.aload_n 0, 1) := by decide +kernel
theorem dX5_gap_14 : decode cX5_gap 14 = .ok (.getfield 40, 3) := by decide +kernel
theorem dX5_gap_17 : decode cX5_gap 17 = .ok (.iload_n 1, 1) := by decide +kernel
theorem dX5_gap_18 : decode cX5_gap 18 = .ok (.invokevirtual 173, 3) := by decide +kernel
theorem dX5_gap_21 : decode cX5_gap 21 = .ok (.aload_n 0, 1) := by decide +kernel
theorem dX5_gap_22 : decode cX5_gap 22 = .ok (.getfield 40, 3) := by decide +kernel
theorem dX5_gap_25 : decode cX5_gap 25 = .ok (.iload_n 2, 1) := by decide +kernel
theorem dX5_gap_26 : decode cX5_gap 26 = .ok (.invokevirtual 181, 3) := by decide +kernel
theorem dX5_gap_29 : decode cX5_gap 29 = .ok (.istore 4, 2) := by decide +kernel
theorem dX5_gap_31 : decode cX5_gap 31 = .ok (.iload 4, 2) := by decide +kernel
theorem dX5_gap_33 : decode cX5_gap 33 = .ok (.iconst (-1), 1) := by decide +kernel
theorem dX5_gap_34 : decode cX5_gap 34 = .ok (.if_icmp .ne 5, 3) := by decide +kernel
theorem dX5_gap_37 : decode cX5_gap 37 = .ok (.iconst (-1), 1) := by decide +kernel
theorem dX5_gap_38 : decode cX5_gap 38 = .ok (.ireturn, 1) := by decide +kernel
theorem dX5_gap_39 : decode cX5_gap 39 = .ok (.aload_n 0, 1) := by decide +kernel
theorem dX5_gap_40 : decode cX5_gap 40 = .ok (.getfield 40, 3) := by decide +kernel
theorem dX5_gap_43 : decode cX5_gap 43 = .ok (.iload 4, 2) := by decide +kernel
theorem dX5_gap_45 : decode cX5_gap 45 = .ok (.iconst 1, 1) := by decide +kernel
theorem dX5_gap_46 : decode cX5_gap 46 = .ok (.isub, 1) := by decide +kernel
theorem dX5_gap_47 : decode cX5_gap 47 = .ok (.invokevirtual 177, 3) := by decide +kernel
theorem dX5_gap_50 : decode cX5_gap 50 = .ok (.istore 5, 2) := by decide +kernel
theorem dX5_gap_52 : decode cX5_gap 52 = .ok (.aload_n 0, 1) := by decide +kernel
theorem dX5_gap_53 : decode cX5_gap 53 = .ok (.getfield 40, 3) := by decide +kernel
theorem dX5_gap_56 : decode cX5_gap 56 = .ok (.iload 4, 2) := by decide +kernel
theorem dX5_gap_58 : decode cX5_gap 58 = .ok (.invokevirtual 177, 3) := by decide +kernel
theorem dX5_gap_61 : decode cX5_gap 61 = .ok (.istore 6, 2) := by decide +kernel
theorem dX5_gap_63 : decode cX5_gap 63 = .ok (.iload_n 3, 1) := by decide +kernel
theorem dX5_gap_64 : decode cX5_gap 64 = .ok (.tableswitch 62 0 3 #[32, 44, 56, 59], 32) := by decide +kernel
theorem dX5_gap_96 : decode cX5_gap 96 = .ok (.aload_n 0, 1) := by decide +kernel
theorem dX5_gap_97 : decode cX5_gap 97 = .ok (.getfield 19, 3) := by decide +kernel
theorem dX5_gap_100 : decode cX5_gap 100 = .ok (.iload 5, 2) := by decide +kernel
theorem dX5_gap_102 : decode cX5_gap 102 = .ok (.bipush 6, 2) := by decide +kernel
theorem dX5_gap_104 : decode cX5_gap 104 = .ok (.invokevirtual 163, 3) := by decide +kernel
theorem dX5_gap_107 : decode cX5_gap 107 = .ok (.ireturn, 1) := by decide +kernel
theorem dX5_gap_108 : decode cX5_gap 108 = .ok (.aload_n 0, 1) := by decide +kernel
theorem dX5_gap_109 : decode cX5_gap 109 = .ok (.getfield 19, 3) := by decide +kernel
theorem dX5_gap_112 : decode cX5_gap 112 = .ok (.iload 6, 2) := by decide +kernel
theorem dX5_gap_114 : decode cX5_gap 114 = .ok (.bipush 6, 2) := by decide +kernel
theorem dX5_gap_116 : decode cX5_gap 116 = .ok (.invokevirtual 163, 3) := by decide +kernel
theorem dX5_gap_119 : decode cX5_gap 119 = .ok (.ireturn, 1) := by decide +kernel
theorem dX5_gap_120 : decode cX5_gap 120 = .ok (.iload 5, 2) := by decide +kernel
theorem dX5_gap_122 : decode cX5_gap 122 = .ok (.ireturn, 1) := by decide +kernel
theorem dX5_gap_123 : decode cX5_gap 123 = .ok (.iload 6, 2) := by decide +kernel
theorem dX5_gap_125 : decode cX5_gap 125 = .ok (.ireturn, 1) := by decide +kernel
theorem dX5_gap_126 : decode cX5_gap 126 = .ok (.iconst (-1), 1) := by decide +kernel
theorem dX5_gap_127 : decode cX5_gap 127 = .ok (.ireturn, 1) := by decide +kernel
def wp_X5_gap  (σ : St) (x1 : Int32) (x2 : Int32) (x3 : Int32) (Q : Int32 → St → Prop) : Prop :=
  wp_X4_isThing σ x1 (fun y2 σ1 =>
  if y2 = 0 then
  (Q (-1) σ1)
  else (wp_X1_follow σ1 x1 (fun σ3 =>
  wp_X1_endOfGap σ3 x2 (fun y5 σ4 =>
  if y5 = (-1) then
  (Q (-1) σ4)
  else (wp_X1_link σ4 (y5 - 1) (fun y7 σ6 =>
  wp_X1_link σ6 y5 (fun y9 σ8 =>
  if x3 = 0 then
  (wp_X2_cell 7 σ8 y7 6 (fun y11 σ10 =>
  Q y11 σ10))
  else (if x3 = 1 then
  (wp_X2_cell 7 σ8 y9 6 (fun y13 σ12 =>
  Q y13 σ12))
  else (if x3 = 2 then
  (Q y7 σ8)
  else (if x3 = 3 then
  (Q y9 σ8)
  else (Q (-1) σ8)))))))))))
theorem c_X5_gap  {σ : St} {x1 : Int32} {x2 : Int32} {x3 : Int32} {Q : Int32 → St → Prop} (h : wp_X5_gap σ x1 x2 x3 Q) : ctI l yX5_gap cX5_gap 7 (some .int) rm_X5_gap D (wC cI cZ cH a n) (tyW cI cZ cH) [.ref (a 0), .int x1, .int x2, .int x3] σ Q := by
  refine mk_I (wC_ok cI cZ cH a n) (by decide +kernel) (Nat.le_of_ble_eq_true rfl) (fun p e s m args below meth c A X hr9 hlk9 => ?_)
  refine r_pick (lv' := [(0, .ref (a 0)), (1, .int x1), (2, .int x2), (3, .int x3)]) [0, 1, 2, 3] rfl ?_
  delta wp_X5_gap at h
  refine r_aload_n X 0 1 dX5_gap_0 rfl rfl rfl ?_
  refine g_X5_10 X 4 dX5_gap_1 rfl ?_
  refine r_iload_n X 1 5 dX5_gap_4 rfl rfl rfl ?_
  refine r_callNI (As := [.int x1]) (rest := []) X 8 (c_X4_isThing h) ml_X5_90 lk_X4_isThing wC_at_1 rfl rfl rfl (Nat.le_of_ble_eq_true rfl) ⟨rfl, rfl, ⟨Nat.le_of_ble_eq_true rfl, Nat.le_of_ble_eq_true rfl⟩, Nat.le_of_ble_eq_true rfl, Nat.le_of_ble_eq_true rfl⟩ dX5_gap_5 rfl (fun y2 σ1 h => ?_)
  obtain ⟨hb_y2, h⟩ := h
  refine r_if_ne X 13 11 h dX5_gap_8 rfl rfl (fun h => ?_) (fun h => ?_)
  · refine r_aload_n X 0 14 dX5_gap_13 rfl rfl rfl ?_
    refine g_X5_40 X 17 dX5_gap_14 rfl ?_
    refine r_iload_n X 1 18 dX5_gap_17 rfl rfl rfl ?_
    refine r_callNV (As := [.int x1]) (rest := []) X 21 (c_X1_follow h) ml_X5_173 lk_X1_follow wC_at_26 rfl rfl rfl (Nat.le_of_ble_eq_true rfl) ⟨rfl, rfl, ⟨Nat.le_of_ble_eq_true rfl, Nat.le_of_ble_eq_true rfl⟩, Nat.le_of_ble_eq_true rfl, Nat.le_of_ble_eq_true rfl⟩ dX5_gap_18 rfl (fun σ3 h => ?_)
    refine r_aload_n X 0 22 dX5_gap_21 rfl rfl rfl ?_
    refine g_X5_40 X 25 dX5_gap_22 rfl ?_
    refine r_iload_n X 2 26 dX5_gap_25 rfl rfl rfl ?_
    refine r_callNI (As := [.int x2]) (rest := []) X 29 (c_X1_endOfGap h) ml_X5_181 lk_X1_endOfGap wC_at_26 rfl rfl rfl (Nat.le_of_ble_eq_true rfl) ⟨rfl, rfl, ⟨Nat.le_of_ble_eq_true rfl, Nat.le_of_ble_eq_true rfl⟩, Nat.le_of_ble_eq_true rfl, Nat.le_of_ble_eq_true rfl⟩ dX5_gap_26 rfl (fun y5 σ4 h => ?_)
    refine r_istore X 31 [(4, .int y5), (0, .ref (a 0)), (1, .int x1), (2, .int x2), (3, .int x3)] dX5_gap_29 (by decide) rfl rfl ?_
    refine r_iload X 0 33 dX5_gap_31 rfl rfl ?_
    refine r_iconst (v := (-1)) X 34 dX5_gap_33 (by decide) rfl ?_
    refine r_icmp_ne X 39 37 h dX5_gap_34 rfl rfl (fun h => ?_) (fun h => ?_)
    · refine r_aload_n X 1 40 dX5_gap_39 rfl rfl rfl ?_
      refine g_X5_40 X 43 dX5_gap_40 rfl ?_
      refine r_iload X 0 45 dX5_gap_43 rfl rfl ?_
      refine r_iconst (v := 1) X 46 dX5_gap_45 (by decide) rfl ?_
      refine r_isub X 47 dX5_gap_46 rfl ?_
      refine r_callNI (As := [.int (y5 - 1)]) (rest := []) X 50 (c_X1_link h) ml_X5_177 lk_X1_link wC_at_26 rfl rfl rfl (Nat.le_of_ble_eq_true rfl) ⟨rfl, rfl, ⟨Nat.le_of_ble_eq_true rfl, Nat.le_of_ble_eq_true rfl⟩, Nat.le_of_ble_eq_true rfl, Nat.le_of_ble_eq_true rfl⟩ dX5_gap_47 rfl (fun y7 σ6 h => ?_)
      refine r_istore X 52 [(5, .int y7), (4, .int y5), (0, .ref (a 0)), (1, .int x1), (2, .int x2), (3, .int x3)] dX5_gap_50 (by decide) rfl rfl ?_
      refine r_aload_n X 2 53 dX5_gap_52 rfl rfl rfl ?_
      refine g_X5_40 X 56 dX5_gap_53 rfl ?_
      refine r_iload X 1 58 dX5_gap_56 rfl rfl ?_
      refine r_callNI (As := [.int y5]) (rest := []) X 61 (c_X1_link h) ml_X5_177 lk_X1_link wC_at_26 rfl rfl rfl (Nat.le_of_ble_eq_true rfl) ⟨rfl, rfl, ⟨Nat.le_of_ble_eq_true rfl, Nat.le_of_ble_eq_true rfl⟩, Nat.le_of_ble_eq_true rfl, Nat.le_of_ble_eq_true rfl⟩ dX5_gap_58 rfl (fun y9 σ8 h => ?_)
      refine r_istore X 63 [(6, .int y9), (5, .int y7), (4, .int y5), (0, .ref (a 0)), (1, .int x1), (2, .int x2), (3, .int x3)] dX5_gap_61 (by decide) rfl rfl ?_
      refine r_iload_n X 6 64 dX5_gap_63 rfl rfl rfl ?_
      refine r_ifs h (fun hc0 h => ?_) (fun hc0 h => ?_)
      · refine r_tabIn X 96 dX5_gap_64 hc0 (by decide) (by decide) rfl rfl ?_
        refine r_aload_n X 3 97 dX5_gap_96 rfl rfl rfl ?_
        refine g_X5_19 X 100 dX5_gap_97 rfl ?_
        refine r_iload X 1 102 dX5_gap_100 rfl rfl ?_
        refine r_bipush (v := 6) X 104 dX5_gap_102 (by decide) rfl ?_
        refine r_callNI (As := [.int y7, .int 6]) (rest := []) X 107 (c_X2_cell (Or.inl rfl) h) ml_X5_163 lk_X2_cell (wC_at_r (Or.inl rfl)) rfl rfl rfl (Nat.le_of_ble_eq_true rfl) ⟨rfl, rfl, ⟨Nat.le_of_ble_eq_true rfl, Nat.le_of_ble_eq_true rfl⟩, Nat.le_of_ble_eq_true rfl, Nat.le_of_ble_eq_true rfl⟩ dX5_gap_104 rfl (fun y11 σ10 h => ?_)
        exact r_iret X hr9 hlk9 h dX5_gap_107
      · refine r_ifs h (fun hc1 h => ?_) (fun hc1 h => ?_)
        · refine r_tabIn X 108 dX5_gap_64 hc1 (by decide) (by decide) rfl rfl ?_
          refine r_aload_n X 3 109 dX5_gap_108 rfl rfl rfl ?_
          refine g_X5_19 X 112 dX5_gap_109 rfl ?_
          refine r_iload X 0 114 dX5_gap_112 rfl rfl ?_
          refine r_bipush (v := 6) X 116 dX5_gap_114 (by decide) rfl ?_
          refine r_callNI (As := [.int y9, .int 6]) (rest := []) X 119 (c_X2_cell (Or.inl rfl) h) ml_X5_163 lk_X2_cell (wC_at_r (Or.inl rfl)) rfl rfl rfl (Nat.le_of_ble_eq_true rfl) ⟨rfl, rfl, ⟨Nat.le_of_ble_eq_true rfl, Nat.le_of_ble_eq_true rfl⟩, Nat.le_of_ble_eq_true rfl, Nat.le_of_ble_eq_true rfl⟩ dX5_gap_116 rfl (fun y13 σ12 h => ?_)
          exact r_iret X hr9 hlk9 h dX5_gap_119
        · refine r_ifs h (fun hc2 h => ?_) (fun hc2 h => ?_)
          · refine r_tabIn X 120 dX5_gap_64 hc2 (by decide) (by decide) rfl rfl ?_
            refine r_iload X 1 122 dX5_gap_120 rfl rfl ?_
            exact r_iret X hr9 hlk9 h dX5_gap_122
          · refine r_ifs h (fun hc3 h => ?_) (fun hc3 h => ?_)
            · refine r_tabIn X 123 dX5_gap_64 hc3 (by decide) (by decide) rfl rfl ?_
              refine r_iload X 0 125 dX5_gap_123 rfl rfl ?_
              exact r_iret X hr9 hlk9 h dX5_gap_125
            · refine r_tabOut X 126 dX5_gap_64 (by have e0 := tn_ (k := 0) hc0 rfl; have e1 := tn_ (k := 1) hc1 rfl; have e2 := tn_ (k := 2) hc2 rfl; have e3 := tn_ (k := 3) hc3 rfl; omega) rfl ?_
              refine r_iconst (v := (-1)) X 127 dX5_gap_126 (by decide) rfl ?_
              exact r_iret X hr9 hlk9 h dX5_gap_127
    · refine r_iconst (v := (-1)) X 38 dX5_gap_37 (by decide) rfl ?_
      exact r_iret X hr9 hlk9 h dX5_gap_38
  · refine r_iconst (v := (-1)) X 12 dX5_gap_11 (by decide) rfl ?_
    exact r_iret X hr9 hlk9 h dX5_gap_12
def rm_X5_breaks : Room := { frames := 3, cells := 0, slots := 0, locals := 69 }
theorem dX5_breaks_0 : decode cX5_breaks 0 = .ok (.aload_n 0, 1) := by decide +kernel
theorem dX5_breaks_1 : decode cX5_breaks 1 = .ok (.getfield 10, 3) := by decide +kernel
theorem dX5_breaks_4 : decode cX5_breaks 4 = .ok (.iload_n 1, 1) := by decide +kernel
theorem dX5_breaks_5 : decode cX5_breaks 5 = .ok (.invokevirtual 184, 3) := by decide +kernel
theorem dX5_breaks_8 : decode cX5_breaks 8 = .ok (.ifCond .eq 14, 3) := by decide +kernel
theorem dX5_breaks_11 : decode cX5_breaks 11 = .ok (.aload_n 0, 1) := by decide +kernel
theorem dX5_breaks_12 : decode cX5_breaks 12 = .ok (.getfield 19, 3) := by decide +kernel
theorem dX5_breaks_15 : decode cX5_breaks 15 = .ok (.iload_n 1, 1) := by decide +kernel
theorem dX5_breaks_16 : decode cX5_breaks 16 = .ok (.invokevirtual 187, 3) := by decide +kernel
theorem dX5_breaks_19 : decode cX5_breaks 19 = .ok (.goto 4, 3) := by decide +kernel
theorem dX5_breaks_22 : decode cX5_breaks 22 = .ok (.iconst (-1), 1) := by decide +kernel
theorem dX5_breaks_23 : decode cX5_breaks 23 = .ok (.ireturn, 1) := by decide +kernel
def wp_X5_breaks  (σ : St) (x1 : Int32) (Q : Int32 → St → Prop) : Prop :=
  wp_X4_isBag σ x1 (fun y2 σ1 =>
  if y2 = 0 then
  (Q (-1) σ1)
  else (wp_X2_firstBreak 7 σ1 x1 (fun y4 σ3 =>
  Q y4 σ3)))
theorem c_X5_breaks  {σ : St} {x1 : Int32} {Q : Int32 → St → Prop} (h : wp_X5_breaks σ x1 Q) : ctI l yX5_breaks cX5_breaks 2 (some .int) rm_X5_breaks D (wC cI cZ cH a n) (tyW cI cZ cH) [.ref (a 0), .int x1] σ Q := by
  refine mk_I (wC_ok cI cZ cH a n) (by decide +kernel) (Nat.le_of_ble_eq_true rfl) (fun p e s m args below meth c A X hr9 hlk9 => ?_)
  refine r_pick (lv' := [(0, .ref (a 0)), (1, .int x1)]) [0, 1] rfl ?_
  delta wp_X5_breaks at h
  refine r_aload_n X 0 1 dX5_breaks_0 rfl rfl rfl ?_
  refine g_X5_10 X 4 dX5_breaks_1 rfl ?_
  refine r_iload_n X 1 5 dX5_breaks_4 rfl rfl rfl ?_
  refine r_callNI (As := [.int x1]) (rest := []) X 8 (c_X4_isBag h) ml_X5_184 lk_X4_isBag wC_at_1 rfl rfl rfl (Nat.le_of_ble_eq_true rfl) ⟨rfl, rfl, ⟨Nat.le_of_ble_eq_true rfl, Nat.le_of_ble_eq_true rfl⟩, Nat.le_of_ble_eq_true rfl, Nat.le_of_ble_eq_true rfl⟩ dX5_breaks_5 rfl (fun y2 σ1 h => ?_)
  obtain ⟨hb_y2, h⟩ := h
  refine r_if_eq X 22 11 h dX5_breaks_8 rfl rfl (fun h => ?_) (fun h => ?_)
  · refine r_iconst (v := (-1)) X 23 dX5_breaks_22 (by decide) rfl ?_
    exact r_iret X hr9 hlk9 h dX5_breaks_23
  · refine r_aload_n X 0 12 dX5_breaks_11 rfl rfl rfl ?_
    refine g_X5_19 X 15 dX5_breaks_12 rfl ?_
    refine r_iload_n X 1 16 dX5_breaks_15 rfl rfl rfl ?_
    refine r_callNI (As := [.int x1]) (rest := []) X 19 (c_X2_firstBreak (Or.inl rfl) h) ml_X5_187 lk_X2_firstBreak (wC_at_r (Or.inl rfl)) rfl rfl rfl (Nat.le_of_ble_eq_true rfl) ⟨rfl, rfl, ⟨Nat.le_of_ble_eq_true rfl, Nat.le_of_ble_eq_true rfl⟩, Nat.le_of_ble_eq_true rfl, Nat.le_of_ble_eq_true rfl⟩ dX5_breaks_16 rfl (fun y4 σ3 h => ?_)
    refine r_goto X 23 dX5_breaks_19 rfl ?_
    exact r_iret X hr9 hlk9 h dX5_breaks_23
def rm_X5_due : Room := { frames := 6, cells := 0, slots := 0, locals := 136 }
theorem dX5_due_0 : decode cX5_due 0 = .ok (.iload_n 1, 1) := by decide +kernel
theorem dX5_due_1 : decode cX5_due 1 = .ok (.ifCond .lt 7, 3) := by decide +kernel
theorem dX5_due_4 : decode cX5_due 4 = .ok (.iload_n 2, 1) := by decide +kernel
theorem dX5_due_5 : decode cX5_due 5 = .ok (.ifCond .ge 5, 3) := by decide +kernel
theorem dX5_due_8 : decode cX5_due 8 = .ok (.iconst (-1), 1) := by decide +kernel
theorem dX5_due_9 : decode cX5_due 9 = .ok (.ireturn, 1) := by decide +kernel
theorem dX5_due_10 : decode cX5_due 10 = .ok (.aload_n 0, 1) := by decide +kernel
theorem dX5_due_11 : decode cX5_due 11 = .ok (.getfield 31, 3) := by decide +kernel
theorem dX5_due_14 : decode cX5_due 14 = .ok (.aload_n 0, 1) := by decide +kernel
theorem dX5_due_15 : decode cX5_due 15 = .ok (.getfield 19, 3) := by decide +kernel
theorem dX5_due_18 : decode cX5_due 18 = .ok (.invokevirtual 190, 3) := by decide +kernel
theorem dX5_due_21 : decode cX5_due 21 = .ok (.pop, 1) := by decide +kernel
theorem dX5_due_22 : decode cX5_due 22 = .ok (.aload_n 0, 1) := by decide +kernel
theorem dX5_due_23 : decode cX5_due 23 = .ok (.getfield 31, 3) := by decide +kernel
theorem dX5_due_26 : decode cX5_due 26 = .ok (.iload_n 1, 1) := by decide +kernel
theorem dX5_due_27 : decode cX5_due 27 = .ok (.iload_n 2, 1) := by decide +kernel
theorem dX5_due_28 : decode cX5_due 28 = .ok (.invokevirtual 194, 3) := by decide +kernel
theorem dX5_due_31 : decode cX5_due 31 = .ok (.ireturn, 1) := by decide +kernel
def wp_X5_due  (σ : St) (x1 : Int32) (x2 : Int32) (Q : Int32 → St → Prop) : Prop :=
  if x1 < 0 then
  (Q (-1) σ)
  else (if x2 < 0 then
  (Q (-1) σ)
  else (wp_X3_firstUndone 7 σ (fun y2 σ1 =>
  wp_X3_thingOfDay σ1 x1 x2 (fun y4 σ3 =>
  Q y4 σ3))))
theorem c_X5_due  {σ : St} {x1 : Int32} {x2 : Int32} {Q : Int32 → St → Prop} (h : wp_X5_due σ x1 x2 Q) : ctI l yX5_due cX5_due 3 (some .int) rm_X5_due D (wC cI cZ cH a n) (tyW cI cZ cH) [.ref (a 0), .int x1, .int x2] σ Q := by
  refine mk_I (wC_ok cI cZ cH a n) (by decide +kernel) (Nat.le_of_ble_eq_true rfl) (fun p e s m args below meth c A X hr9 hlk9 => ?_)
  refine r_pick (lv' := [(0, .ref (a 0)), (1, .int x1), (2, .int x2)]) [0, 1, 2] rfl ?_
  delta wp_X5_due at h
  refine r_iload_n X 1 1 dX5_due_0 rfl rfl rfl ?_
  refine r_if_lt X 8 4 h dX5_due_1 rfl rfl (fun h => ?_) (fun h => ?_)
  · refine r_iconst (v := (-1)) X 9 dX5_due_8 (by decide) rfl ?_
    exact r_iret X hr9 hlk9 h dX5_due_9
  · refine r_iload_n X 2 5 dX5_due_4 rfl rfl rfl ?_
    refine r_if_ge X 10 8 h dX5_due_5 rfl rfl (fun h => ?_) (fun h => ?_)
    · refine r_aload_n X 0 11 dX5_due_10 rfl rfl rfl ?_
      refine g_X5_31 X 14 dX5_due_11 rfl ?_
      refine r_aload_n X 0 15 dX5_due_14 rfl rfl rfl ?_
      refine g_X5_19 X 18 dX5_due_15 rfl ?_
      refine r_callNI (As := [.ref (a 7)]) (rest := []) X 21 (c_X3_firstUndone (Or.inl rfl) h) ml_X5_190 lk_X3_firstUndone wC_at_13 rfl rfl rfl (Nat.le_of_ble_eq_true rfl) ⟨rfl, rfl, ⟨Nat.le_of_ble_eq_true rfl, Nat.le_of_ble_eq_true rfl⟩, Nat.le_of_ble_eq_true rfl, Nat.le_of_ble_eq_true rfl⟩ dX5_due_18 rfl (fun y2 σ1 h => ?_)
      refine r_pop X 22 dX5_due_21 rfl rfl ?_
      refine r_aload_n X 0 23 dX5_due_22 rfl rfl rfl ?_
      refine g_X5_31 X 26 dX5_due_23 rfl ?_
      refine r_iload_n X 1 27 dX5_due_26 rfl rfl rfl ?_
      refine r_iload_n X 2 28 dX5_due_27 rfl rfl rfl ?_
      refine r_callNI (As := [.int x1, .int x2]) (rest := []) X 31 (c_X3_thingOfDay h) ml_X5_194 lk_X3_thingOfDay wC_at_13 rfl rfl rfl (Nat.le_of_ble_eq_true rfl) ⟨rfl, rfl, ⟨Nat.le_of_ble_eq_true rfl, Nat.le_of_ble_eq_true rfl⟩, Nat.le_of_ble_eq_true rfl, Nat.le_of_ble_eq_true rfl⟩ dX5_due_28 rfl (fun y4 σ3 h => ?_)
      exact r_iret X hr9 hlk9 h dX5_due_31
    · refine r_iconst (v := (-1)) X 9 dX5_due_8 (by decide) rfl ?_
      exact r_iret X hr9 hlk9 h dX5_due_9
def rm_X5_freeze : Room := { frames := 2, cells := 0, slots := 0, locals := 65 }
theorem dX5_freeze_0 : decode cX5_freeze 0 = .ok (.aload_n 0, 1) := by decide +kernel
theorem dX5_freeze_1 : decode cX5_freeze 1 = .ok (.getfield 23, 3) := by decide +kernel
theorem dX5_freeze_4 : decode cX5_freeze 4 = .ok (.aload_n 0, 1) := by decide +kernel
theorem dX5_freeze_5 : decode cX5_freeze 5 = .ok (.getfield 19, 3) := by decide +kernel
theorem dX5_freeze_8 : decode cX5_freeze 8 = .ok (.invokevirtual 197, 3) := by decide +kernel
theorem dX5_freeze_11 : decode cX5_freeze 11 = .ok (.aload_n 0, 1) := by decide +kernel
theorem dX5_freeze_12 : decode cX5_freeze 12 = .ok (.iconst 1, 1) := by decide +kernel
theorem dX5_freeze_13 : decode cX5_freeze 13 = .ok (.putfield 155, 3) := by decide +kernel
theorem dX5_freeze_16 : decode cX5_freeze 16 = .ok (.aload_n 0, 1) := by decide +kernel
theorem dX5_freeze_17 : decode cX5_freeze 17 = .ok (.getfield 23, 3) := by decide +kernel
theorem dX5_freeze_20 : decode cX5_freeze 20 = .ok (.getfield 152, 3) := by decide +kernel
theorem dX5_freeze_23 : decode cX5_freeze 23 = .ok (.ireturn, 1) := by decide +kernel
def wp_X5_freeze  (σ : St) (Q : Int32 → St → Prop) : Prop :=
  wp_X2_copyFrom 10 7 σ (fun σ1 =>
  nmS (up2 σ1 0 8 1) (fun σ2 =>
  Q (σ2 10 2) σ2))
theorem c_X5_freeze  {σ : St} {Q : Int32 → St → Prop} (h : wp_X5_freeze σ Q) : ctI l yX5_freeze cX5_freeze 1 (some .int) rm_X5_freeze D (wC cI cZ cH a n) (tyW cI cZ cH) [.ref (a 0)] σ Q := by
  refine mk_I (wC_ok cI cZ cH a n) (by decide +kernel) (Nat.le_of_ble_eq_true rfl) (fun p e s m args below meth c A X hr9 hlk9 => ?_)
  refine r_pick (lv' := [(0, .ref (a 0))]) [0] rfl ?_
  delta wp_X5_freeze at h
  refine r_aload_n X 0 1 dX5_freeze_0 rfl rfl rfl ?_
  refine g_X5_23 X 4 dX5_freeze_1 rfl ?_
  refine r_aload_n X 0 5 dX5_freeze_4 rfl rfl rfl ?_
  refine g_X5_19 X 8 dX5_freeze_5 rfl ?_
  refine r_callNV (As := [.ref (a 7)]) (rest := []) X 11 (c_X2_copyFrom (Or.inr rfl) (Or.inl rfl) h) ml_X5_197 lk_X2_copyFrom (wC_at_r (Or.inr rfl)) rfl rfl rfl (Nat.le_of_ble_eq_true rfl) ⟨rfl, rfl, ⟨Nat.le_of_ble_eq_true rfl, Nat.le_of_ble_eq_true rfl⟩, Nat.le_of_ble_eq_true rfl, Nat.le_of_ble_eq_true rfl⟩ dX5_freeze_8 rfl (fun σ1 h => ?_)
  refine r_aload_n X 0 12 dX5_freeze_11 rfl rfl rfl ?_
  refine r_iconst (v := 1) X 13 dX5_freeze_12 (by decide) rfl ?_
  refine u_X5_155 X isB_1 16 dX5_freeze_13 rfl ?_
  refine r_nmS h (fun σ2 h => ?_)
  refine r_aload_n X 0 17 dX5_freeze_16 rfl rfl rfl ?_
  refine g_X5_23 X 20 dX5_freeze_17 rfl ?_
  refine g_X5_152 X (Or.inr rfl) 23 dX5_freeze_20 rfl ?_
  exact r_iret X hr9 hlk9 h dX5_freeze_23
def rm_X5_alter : Room := { frames := 4, cells := 0, slots := 0, locals := 90 }
theorem dX5_alter_0 : decode cX5_alter 0 = .ok (.aload_n 0, 1) := by decide +kernel
theorem dX5_alter_1 : decode cX5_alter 1 = .ok (.getfield 155, 3) := by decide +kernel
theorem dX5_alter_4 : decode cX5_alter 4 = .ok (.ifCond .eq 24, 3) := by decide +kernel
theorem dX5_alter_7 : decode cX5_alter 7 = .ok (.aload_n 0, 1) := by decide +kernel
theorem dX5_alter_8 : decode cX5_alter 8 = .ok (.getfield 23, 3) := by decide +kernel
theorem dX5_alter_11 : decode cX5_alter 11 = .ok (.iload_n 1, 1) := by decide +kernel
theorem dX5_alter_12 : decode cX5_alter 12 = .ok (.invokevirtual 158, 3) := by decide +kernel
theorem dX5_alter_15 : decode cX5_alter 15 = .ok (.ifCond .eq 13, 3) := by decide +kernel
theorem dX5_alter_18 : decode cX5_alter 18 = .ok (.iload_n 2, 1) := by decide +kernel
theorem dX5_alter_19 : decode cX5_alter 19 = .ok (.ifCond .lt 9, 3) := by decide +kernel
theorem dX5_alter_22 : decode cX5_alter 22 = .ok (.iload_n 2, 1) := by decide +kernel
theorem dX5_alter_23 : decode cX5_alter 23 = .ok (.bipush 6, 2) := by decide +kernel
theorem dX5_alter_25 : decode cX5_alter 25 = .ok (.if_icmp .le 5, 3) := by decide +kernel
theorem dX5_alter_28 : decode cX5_alter 28 = .ok (.iconst 0, 1) := by decide +kernel
theorem dX5_alter_29 : decode cX5_alter 29 = .ok (.ireturn, 1) := by decide +kernel
theorem dX5_alter_30 : decode cX5_alter 30 = .ok (.aload_n 0, 1) := by decide +kernel
theorem dX5_alter_31 : decode cX5_alter 31 = .ok (.getfield 23, 3) := by decide +kernel
theorem dX5_alter_34 : decode cX5_alter 34 = .ok (.iload_n 1, 1) := by decide +kernel
theorem dX5_alter_35 : decode cX5_alter 35 = .ok (.iload_n 2, 1) := by decide +kernel
theorem dX5_alter_36 : decode cX5_alter 36 = .ok (.iload_n 3, 1) := by decide +kernel
theorem dX5_alter_37 : decode cX5_alter 37 = .ok (.invokevirtual 200, 3) := by decide +kernel
theorem dX5_alter_40 : decode cX5_alter 40 = .ok (.iconst 1, 1) := by decide +kernel
theorem dX5_alter_41 : decode cX5_alter 41 = .ok (.ireturn, 1) := by decide +kernel
def wp_X5_alter  (σ : St) (x1 : Int32) (x2 : Int32) (x3 : Int32) (Q : Int32 → St → Prop) : Prop :=
  if (σ 0 8) = 0 then
  (Q 0 σ)
  else (wp_X2_has 10 σ x1 (fun y2 σ1 =>
  if y2 = 0 then
  (Q 0 σ1)
  else (if x2 < 0 then
  (Q 0 σ1)
  else (if 6 < x2 then
  (Q 0 σ1)
  else (wp_X2_alterCell 10 σ1 x1 x2 x3 (fun σ3 =>
  Q 1 σ3))))))
theorem c_X5_alter  {σ : St} {x1 : Int32} {x2 : Int32} {x3 : Int32} {Q : Int32 → St → Prop} (h : wp_X5_alter σ x1 x2 x3 Q) : ctI l yX5_alter cX5_alter 4 (some .boolean) rm_X5_alter D (wC cI cZ cH a n) (tyW cI cZ cH) [.ref (a 0), .int x1, .int x2, .int x3] σ (fun r9 u9 => isB r9 ∧ Q r9 u9) := by
  refine mk_I (wC_ok cI cZ cH a n) (by decide +kernel) (Nat.le_of_ble_eq_true rfl) (fun p e s m args below meth c A X hr9 hlk9 => ?_)
  refine r_pick (lv' := [(0, .ref (a 0)), (1, .int x1), (2, .int x2), (3, .int x3)]) [0, 1, 2, 3] rfl ?_
  delta wp_X5_alter at h
  refine r_aload_n X 0 1 dX5_alter_0 rfl rfl rfl ?_
  refine g_X5_155 X 4 dX5_alter_1 rfl ?_
  refine r_if_eq X 28 7 h dX5_alter_4 rfl rfl (fun h => ?_) (fun h => ?_)
  · refine r_iconst (v := 0) X 29 dX5_alter_28 (by decide) rfl ?_
    exact r_zret X hr9 hlk9 isB_0 h dX5_alter_29
  · refine r_aload_n X 0 8 dX5_alter_7 rfl rfl rfl ?_
    refine g_X5_23 X 11 dX5_alter_8 rfl ?_
    refine r_iload_n X 1 12 dX5_alter_11 rfl rfl rfl ?_
    refine r_callNI (As := [.int x1]) (rest := []) X 15 (c_X2_has (Or.inr rfl) h) ml_X5_158 lk_X2_has (wC_at_r (Or.inr rfl)) rfl rfl rfl (Nat.le_of_ble_eq_true rfl) ⟨rfl, rfl, ⟨Nat.le_of_ble_eq_true rfl, Nat.le_of_ble_eq_true rfl⟩, Nat.le_of_ble_eq_true rfl, Nat.le_of_ble_eq_true rfl⟩ dX5_alter_12 rfl (fun y2 σ1 h => ?_)
    obtain ⟨hb_y2, h⟩ := h
    refine r_if_eq X 28 18 h dX5_alter_15 rfl rfl (fun h => ?_) (fun h => ?_)
    · refine r_iconst (v := 0) X 29 dX5_alter_28 (by decide) rfl ?_
      exact r_zret X hr9 hlk9 isB_0 h dX5_alter_29
    · refine r_iload_n X 2 19 dX5_alter_18 rfl rfl rfl ?_
      refine r_if_lt X 28 22 h dX5_alter_19 rfl rfl (fun h => ?_) (fun h => ?_)
      · refine r_iconst (v := 0) X 29 dX5_alter_28 (by decide) rfl ?_
        exact r_zret X hr9 hlk9 isB_0 h dX5_alter_29
      · refine r_iload_n X 2 23 dX5_alter_22 rfl rfl rfl ?_
        refine r_bipush (v := 6) X 25 dX5_alter_23 (by decide) rfl ?_
        refine r_icmp_le X 30 28 h dX5_alter_25 rfl rfl (fun h => ?_) (fun h => ?_)
        · refine r_aload_n X 0 31 dX5_alter_30 rfl rfl rfl ?_
          refine g_X5_23 X 34 dX5_alter_31 rfl ?_
          refine r_iload_n X 1 35 dX5_alter_34 rfl rfl rfl ?_
          refine r_iload_n X 2 36 dX5_alter_35 rfl rfl rfl ?_
          refine r_iload_n X 3 37 dX5_alter_36 rfl rfl rfl ?_
          refine r_callNV (As := [.int x1, .int x2, .int x3]) (rest := []) X 40 (c_X2_alterCell (Or.inr rfl) h) ml_X5_200 lk_X2_alterCell (wC_at_r (Or.inr rfl)) rfl rfl rfl (Nat.le_of_ble_eq_true rfl) ⟨rfl, rfl, ⟨Nat.le_of_ble_eq_true rfl, Nat.le_of_ble_eq_true rfl⟩, Nat.le_of_ble_eq_true rfl, Nat.le_of_ble_eq_true rfl⟩ dX5_alter_37 rfl (fun σ3 h => ?_)
          refine r_iconst (v := 1) X 41 dX5_alter_40 (by decide) rfl ?_
          exact r_zret X hr9 hlk9 isB_1 h dX5_alter_41
        · refine r_iconst (v := 0) X 29 dX5_alter_28 (by decide) rfl ?_
          exact r_zret X hr9 hlk9 isB_0 h dX5_alter_29
def rm_X5_check : Room := { frames := 6, cells := 0, slots := 0, locals := 136 }
theorem dX5_check_0 : decode cX5_check 0 = .ok (.aload_n 0, 1) := by decide +kernel
theorem dX5_check_1 : decode cX5_check 1 = .ok (.getfield 155, 3) := by decide +kernel
theorem dX5_check_4 : decode cX5_check 4 = .ok (.ifCond .eq 17, 3) := by decide +kernel
theorem dX5_check_7 : decode cX5_check 7 = .ok (.aload_n 0, 1) := by decide +kernel
theorem dX5_check_8 : decode cX5_check 8 = .ok (.getfield 31, 3) := by decide +kernel
theorem dX5_check_11 : decode cX5_check 11 = .ok (.aload_n 0, 1) := by decide +kernel
theorem dX5_check_12 : decode cX5_check 12 = .ok (.getfield 23, 3) := by decide +kernel
theorem dX5_check_15 : decode cX5_check 15 = .ok (.invokevirtual 190, 3) := by decide +kernel
theorem dX5_check_18 : decode cX5_check 18 = .ok (.goto 5, 3) := by decide +kernel
theorem dX5_check_21 : decode cX5_check 21 = .ok (.bipush (-2), 2) := by decide +kernel
theorem dX5_check_23 : decode cX5_check 23 = .ok (.ireturn, 1) := by decide +kernel
def wp_X5_check  (σ : St) (Q : Int32 → St → Prop) : Prop :=
  if (σ 0 8) = 0 then
  (Q (-2) σ)
  else (wp_X3_firstUndone 10 σ (fun y2 σ1 =>
  Q y2 σ1))
theorem c_X5_check  {σ : St} {Q : Int32 → St → Prop} (h : wp_X5_check σ Q) : ctI l yX5_check cX5_check 1 (some .int) rm_X5_check D (wC cI cZ cH a n) (tyW cI cZ cH) [.ref (a 0)] σ Q := by
  refine mk_I (wC_ok cI cZ cH a n) (by decide +kernel) (Nat.le_of_ble_eq_true rfl) (fun p e s m args below meth c A X hr9 hlk9 => ?_)
  refine r_pick (lv' := [(0, .ref (a 0))]) [0] rfl ?_
  delta wp_X5_check at h
  refine r_aload_n X 0 1 dX5_check_0 rfl rfl rfl ?_
  refine g_X5_155 X 4 dX5_check_1 rfl ?_
  refine r_if_eq X 21 7 h dX5_check_4 rfl rfl (fun h => ?_) (fun h => ?_)
  · refine r_bipush (v := (-2)) X 23 dX5_check_21 (by decide) rfl ?_
    exact r_iret X hr9 hlk9 h dX5_check_23
  · refine r_aload_n X 0 8 dX5_check_7 rfl rfl rfl ?_
    refine g_X5_31 X 11 dX5_check_8 rfl ?_
    refine r_aload_n X 0 12 dX5_check_11 rfl rfl rfl ?_
    refine g_X5_23 X 15 dX5_check_12 rfl ?_
    refine r_callNI (As := [.ref (a 10)]) (rest := []) X 18 (c_X3_firstUndone (Or.inr rfl) h) ml_X5_190 lk_X3_firstUndone wC_at_13 rfl rfl rfl (Nat.le_of_ble_eq_true rfl) ⟨rfl, rfl, ⟨Nat.le_of_ble_eq_true rfl, Nat.le_of_ble_eq_true rfl⟩, Nat.le_of_ble_eq_true rfl, Nat.le_of_ble_eq_true rfl⟩ dX5_check_15 rfl (fun y2 σ1 h => ?_)
    refine r_goto X 23 dX5_check_18 rfl ?_
    exact r_iret X hr9 hlk9 h dX5_check_23
def rm_X5_thaw : Room := { frames := 6, cells := 0, slots := 0, locals := 136 }
theorem dX5_thaw_0 : decode cX5_thaw 0 = .ok (.aload_n 0, 1) := by decide +kernel
theorem dX5_thaw_1 : decode cX5_thaw 1 = .ok (.getfield 155, 3) := by decide +kernel
theorem dX5_thaw_4 : decode cX5_thaw 4 = .ok (.ifCond .eq 18, 3) := by decide +kernel
theorem dX5_thaw_7 : decode cX5_thaw 7 = .ok (.aload_n 0, 1) := by decide +kernel
theorem dX5_thaw_8 : decode cX5_thaw 8 = .ok (.getfield 31, 3) := by decide +kernel
theorem dX5_thaw_11 : decode cX5_thaw 11 = .ok (.aload_n 0, 1) := by decide +kernel
theorem dX5_thaw_12 : decode cX5_thaw 12 = .ok (.getfield 23, 3) := by decide +kernel
theorem dX5_thaw_15 : decode cX5_thaw 15 = .ok (.invokevirtual 190, 3) := by decide +kernel
theorem dX5_thaw_18 : decode cX5_thaw 18 = .ok (.iconst (-1), 1) := by decide +kernel
theorem dX5_thaw_19 : decode cX5_thaw 19 = .ok (.if_icmp .eq 5, 3) := by decide +kernel
theorem dX5_thaw_22 : decode cX5_thaw 22 = .ok (.iconst 0, 1) := by decide +kernel
theorem dX5_thaw_23 : decode cX5_thaw 23 = .ok (.ireturn, 1) := by decide +kernel
theorem dX5_thaw_24 : decode cX5_thaw 24 = .ok (.aload_n 0, 1) := by decide +kernel
theorem dX5_thaw_25 : decode cX5_thaw 25 = .ok (.getfield 19, 3) := by decide +kernel
theorem dX5_thaw_28 : decode cX5_thaw 28 = .ok (.aload_n 0, 1) := by decide +kernel
theorem dX5_thaw_29 : decode cX5_thaw 29 = .ok (.getfield 23, 3) := by decide +kernel
theorem dX5_thaw_32 : decode cX5_thaw 32 = .ok (.invokevirtual 197, 3) := by decide +kernel
theorem dX5_thaw_35 : decode cX5_thaw 35 = .ok (.iconst 1, 1) := by decide +kernel
theorem dX5_thaw_36 : decode cX5_thaw 36 = .ok (.ireturn, 1) := by decide +kernel
def wp_X5_thaw  (σ : St) (Q : Int32 → St → Prop) : Prop :=
  if (σ 0 8) = 0 then
  (Q 0 σ)
  else (wp_X3_firstUndone 10 σ (fun y2 σ1 =>
  if y2 = (-1) then
  (wp_X2_copyFrom 7 10 σ1 (fun σ3 =>
  Q 1 σ3))
  else (Q 0 σ1)))
theorem c_X5_thaw  {σ : St} {Q : Int32 → St → Prop} (h : wp_X5_thaw σ Q) : ctI l yX5_thaw cX5_thaw 1 (some .boolean) rm_X5_thaw D (wC cI cZ cH a n) (tyW cI cZ cH) [.ref (a 0)] σ (fun r9 u9 => isB r9 ∧ Q r9 u9) := by
  refine mk_I (wC_ok cI cZ cH a n) (by decide +kernel) (Nat.le_of_ble_eq_true rfl) (fun p e s m args below meth c A X hr9 hlk9 => ?_)
  refine r_pick (lv' := [(0, .ref (a 0))]) [0] rfl ?_
  delta wp_X5_thaw at h
  refine r_aload_n X 0 1 dX5_thaw_0 rfl rfl rfl ?_
  refine g_X5_155 X 4 dX5_thaw_1 rfl ?_
  refine r_if_eq X 22 7 h dX5_thaw_4 rfl rfl (fun h => ?_) (fun h => ?_)
  · refine r_iconst (v := 0) X 23 dX5_thaw_22 (by decide) rfl ?_
    exact r_zret X hr9 hlk9 isB_0 h dX5_thaw_23
  · refine r_aload_n X 0 8 dX5_thaw_7 rfl rfl rfl ?_
    refine g_X5_31 X 11 dX5_thaw_8 rfl ?_
    refine r_aload_n X 0 12 dX5_thaw_11 rfl rfl rfl ?_
    refine g_X5_23 X 15 dX5_thaw_12 rfl ?_
    refine r_callNI (As := [.ref (a 10)]) (rest := []) X 18 (c_X3_firstUndone (Or.inr rfl) h) ml_X5_190 lk_X3_firstUndone wC_at_13 rfl rfl rfl (Nat.le_of_ble_eq_true rfl) ⟨rfl, rfl, ⟨Nat.le_of_ble_eq_true rfl, Nat.le_of_ble_eq_true rfl⟩, Nat.le_of_ble_eq_true rfl, Nat.le_of_ble_eq_true rfl⟩ dX5_thaw_15 rfl (fun y2 σ1 h => ?_)
    refine r_iconst (v := (-1)) X 19 dX5_thaw_18 (by decide) rfl ?_
    refine r_icmp_eq X 24 22 h dX5_thaw_19 rfl rfl (fun h => ?_) (fun h => ?_)
    · refine r_aload_n X 0 25 dX5_thaw_24 rfl rfl rfl ?_
      refine g_X5_19 X 28 dX5_thaw_25 rfl ?_
      refine r_aload_n X 0 29 dX5_thaw_28 rfl rfl rfl ?_
      refine g_X5_23 X 32 dX5_thaw_29 rfl ?_
      refine r_callNV (As := [.ref (a 10)]) (rest := []) X 35 (c_X2_copyFrom (Or.inl rfl) (Or.inr rfl) h) ml_X5_197 lk_X2_copyFrom (wC_at_r (Or.inl rfl)) rfl rfl rfl (Nat.le_of_ble_eq_true rfl) ⟨rfl, rfl, ⟨Nat.le_of_ble_eq_true rfl, Nat.le_of_ble_eq_true rfl⟩, Nat.le_of_ble_eq_true rfl, Nat.le_of_ble_eq_true rfl⟩ dX5_thaw_32 rfl (fun σ3 h => ?_)
      refine r_iconst (v := 1) X 36 dX5_thaw_35 (by decide) rfl ?_
      exact r_zret X hr9 hlk9 isB_1 h dX5_thaw_36
    · refine r_iconst (v := 0) X 23 dX5_thaw_22 (by decide) rfl ?_
      exact r_zret X hr9 hlk9 isB_0 h dX5_thaw_23
end WALK
