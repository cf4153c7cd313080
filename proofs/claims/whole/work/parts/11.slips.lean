section WALK
variable {p : Program} {l : Launch} {e : Env} {s : State} {m : MethodId} {args : Array Value} {below : List Frame} {meth : Method} {c : Code} {D : va_G} {A : Nat → Prop} {cI cZ cH : ClassId} {a : Nat → Nat} {n : Nat}
def rm_X2_has : Room := { frames := 0, cells := 0, slots := 0, locals := 0 }
theorem dX2_has_0 : decode cX2_has 0 = .ok (.iload_n 1, 1) := by decide +kernel
theorem dX2_has_1 : decode cX2_has 1 = .ok (.ifCond .lt 15, 3) := by decide +kernel
theorem dX2_has_4 : decode cX2_has 4 = .ok (.iload_n 1, 1) := by decide +kernel
theorem dX2_has_5 : decode cX2_has 5 = .ok (.aload_n 0, 1) := by decide +kernel
theorem dX2_has_6 : decode cX2_has 6 = .ok (.getfield 18, 3) := by decide +kernel
theorem dX2_has_9 : decode cX2_has 9 = .ok (.if_icmp .ge 7, 3) := by decide +kernel
theorem dX2_has_12 : decode cX2_has 12 = .ok (.iconst 1, 1) := by decide +kernel
theorem dX2_has_13 : decode cX2_has 13 = .ok (.goto 4, 3) := by decide +kernel
theorem dX2_has_16 : decode cX2_has 16 = .ok (.iconst 0, 1) := by decide +kernel
theorem dX2_has_17 : decode cX2_has 17 = .ok (.ireturn, 1) := by decide +kernel
def wp_X2_has (r : Nat) (σ : St) (x1 : Int32) (Q : Int32 → St → Prop) : Prop :=
  if x1 < 0 then
  (Q 0 σ)
  else (if x1 < (σ r 2) then
  (Q 1 σ)
  else (Q 0 σ))
theorem c_X2_has {r : Nat} (hr : r = 7 ∨ r = 10) {σ : St} {x1 : Int32} {Q : Int32 → St → Prop} (h : wp_X2_has r σ x1 Q) : ctI l yX2_has cX2_has 2 (some .boolean) rm_X2_has D (wC cI cZ cH a n) (tyW cI cZ cH) [.ref (a r), .int x1] σ (fun r9 u9 => isB r9 ∧ Q r9 u9) := by
  refine mk_I (wC_ok cI cZ cH a n) (by decide +kernel) (Nat.le_of_ble_eq_true rfl) (fun p e s m args below meth c A X hr9 hlk9 => ?_)
  refine r_pick (lv' := [(0, .ref (a r)), (1, .int x1)]) [0, 1] rfl ?_
  delta wp_X2_has at h
  refine r_iload_n X 1 1 dX2_has_0 rfl rfl rfl ?_
  refine r_if_lt X 16 4 h dX2_has_1 rfl rfl (fun h => ?_) (fun h => ?_)
  · refine r_iconst (v := 0) X 17 dX2_has_16 (by decide) rfl ?_
    exact r_zret X hr9 hlk9 isB_0 h dX2_has_17
  · refine r_iload_n X 1 5 dX2_has_4 rfl rfl rfl ?_
    refine r_aload_n X 0 6 dX2_has_5 rfl rfl rfl ?_
    refine g_X2_18 X hr 9 dX2_has_6 rfl ?_
    refine r_icmp_ge X 16 12 h dX2_has_9 rfl rfl (fun h => ?_) (fun h => ?_)
    · refine r_iconst (v := 0) X 17 dX2_has_16 (by decide) rfl ?_
      exact r_zret X hr9 hlk9 isB_0 h dX2_has_17
    · refine r_iconst (v := 1) X 13 dX2_has_12 (by decide) rfl ?_
      refine r_goto X 17 dX2_has_13 rfl ?_
      exact r_zret X hr9 hlk9 isB_1 h dX2_has_17
def rm_X2_inOrder : Room := { frames := 1, cells := 0, slots := 0, locals := 21 }
theorem dX2_inOrder_0 : decode cX2_inOrder 0 = .ok (.aload_n 0, 1) := by decide +kernel
theorem dX2_inOrder_1 : decode cX2_inOrder 1 = .ok (.iload_n 1, 1) := by decide +kernel
theorem dX2_inOrder_2 : decode cX2_inOrder 2 = .ok (.invokevirtual 22, 3) := by decide +kernel
theorem dX2_inOrder_5 : decode cX2_inOrder 5 = .ok (.ifCond .eq 12, 3) := by decide +kernel
theorem dX2_inOrder_8 : decode cX2_inOrder 8 = .ok (.aload_n 0, 1) := by decide +kernel
theorem dX2_inOrder_9 : decode cX2_inOrder 9 = .ok (.getfield 15, 3) := by decide +kernel
theorem dX2_inOrder_12 : decode cX2_inOrder 12 = .ok (.iload_n 1, 1) := by decide +kernel
theorem dX2_inOrder_13 : decode cX2_inOrder 13 = .ok (.iaload, 1) := by decide +kernel
theorem dX2_inOrder_14 : decode cX2_inOrder 14 = .ok (.goto 4, 3) := by decide +kernel
theorem dX2_inOrder_17 : decode cX2_inOrder 17 = .ok (.iconst (-1), 1) := by decide +kernel
theorem dX2_inOrder_18 : decode cX2_inOrder 18 = .ok (.ireturn, 1) := by decide +kernel
def wp_X2_inOrder (r : Nat) (σ : St) (x1 : Int32) (Q : Int32 → St → Prop) : Prop :=
  wp_X2_has r σ x1 (fun y2 σ1 =>
  if y2 = 0 then
  (Q (-1) σ1)
  else (vp_in x1 400 ∧
  (Q (σ1 (r + 2) (ix x1)) σ1)))
theorem c_X2_inOrder {r : Nat} (hr : r = 7 ∨ r = 10) {σ : St} {x1 : Int32} {Q : Int32 → St → Prop} (h : wp_X2_inOrder r σ x1 Q) : ctI l yX2_inOrder cX2_inOrder 2 (some .int) rm_X2_inOrder D (wC cI cZ cH a n) (tyW cI cZ cH) [.ref (a r), .int x1] σ Q := by
  refine mk_I (wC_ok cI cZ cH a n) (by decide +kernel) (Nat.le_of_ble_eq_true rfl) (fun p e s m args below meth c A X hr9 hlk9 => ?_)
  refine r_pick (lv' := [(0, .ref (a r)), (1, .int x1)]) [0, 1] rfl ?_
  delta wp_X2_inOrder at h
  refine r_aload_n X 0 1 dX2_inOrder_0 rfl rfl rfl ?_
  refine r_iload_n X 1 2 dX2_inOrder_1 rfl rfl rfl ?_
  refine r_callI (As := [.int x1]) (rest := []) X 5 (c_X2_has hr h) ml_X2_22 lk_X2_has (wC_at_r hr) rfl rfl rfl (Nat.le_of_ble_eq_true rfl) ⟨rfl, rfl, ⟨Nat.le_of_ble_eq_true rfl, Nat.le_of_ble_eq_true rfl⟩, Nat.le_of_ble_eq_true rfl, Nat.le_of_ble_eq_true rfl⟩ dX2_inOrder_2 rfl (fun y2 σ1 h => ?_)
  obtain ⟨hb_y2, h⟩ := h
  refine r_if_eq X 17 8 h dX2_inOrder_5 rfl rfl (fun h => ?_) (fun h => ?_)
  · refine r_iconst (v := (-1)) X 18 dX2_inOrder_17 (by decide) rfl ?_
    exact r_iret X hr9 hlk9 h dX2_inOrder_18
  · refine r_aload_n X 0 9 dX2_inOrder_8 rfl rfl rfl ?_
    refine g_X2_15 X hr 12 dX2_inOrder_9 rfl ?_
    refine r_iload_n X 1 13 dX2_inOrder_12 rfl rfl rfl ?_
    obtain ⟨hin, h⟩ := h
    refine l_Cr2 X hr 14 hin dX2_inOrder_13 rfl ?_
    refine r_goto X 18 dX2_inOrder_14 rfl ?_
    exact r_iret X hr9 hlk9 h dX2_inOrder_18
def rm_X2_cell : Room := { frames := 1, cells := 0, slots := 0, locals := 21 }
theorem dX2_cell_0 : decode cX2_cell 0 = .ok (.aload_n 0, 1) := by decide +kernel
theorem dX2_cell_1 : decode cX2_cell 1 = .ok (.iload_n 1, 1) := by decide +kernel
theorem dX2_cell_2 : decode cX2_cell 2 = .ok (.invokevirtual 22, 3) := by decide +kernel
theorem dX2_cell_5 : decode cX2_cell 5 = .ok (.ifCond .eq 13, 3) := by decide +kernel
theorem dX2_cell_8 : decode cX2_cell 8 = .ok (.iload_n 2, 1) := by decide +kernel
theorem dX2_cell_9 : decode cX2_cell 9 = .ok (.ifCond .lt 9, 3) := by decide +kernel
theorem dX2_cell_12 : decode cX2_cell 12 = .ok (.iload_n 2, 1) := by decide +kernel
theorem dX2_cell_13 : decode cX2_cell 13 = .ok (.bipush 8, 2) := by decide +kernel
theorem dX2_cell_15 : decode cX2_cell 15 = .ok (.if_icmp .lt 5, 3) := by decide +kernel
theorem dX2_cell_18 : decode cX2_cell 18 = .ok (.iconst (-1), 1) := by decide +kernel
theorem dX2_cell_19 : decode cX2_cell 19 = .ok (.ireturn, 1) := by decide +kernel
theorem dX2_cell_20 : decode cX2_cell 20 = .ok (.aload_n 0, 1) := by decide +kernel
theorem dX2_cell_21 : decode cX2_cell 21 = .ok (.getfield 9, 3) := by decide +kernel
theorem dX2_cell_24 : decode cX2_cell 24 = .ok (.iload_n 1, 1) := by decide +kernel
theorem dX2_cell_25 : decode cX2_cell 25 = .ok (.bipush 8, 2) := by decide +kernel
theorem dX2_cell_27 : decode cX2_cell 27 = .ok (.imul, 1) := by decide +kernel
theorem dX2_cell_28 : decode cX2_cell 28 = .ok (.iload_n 2, 1) := by decide +kernel
theorem dX2_cell_29 : decode cX2_cell 29 = .ok (.iadd, 1) := by decide +kernel
theorem dX2_cell_30 : decode cX2_cell 30 = .ok (.iaload, 1) := by decide +kernel
theorem dX2_cell_31 : decode cX2_cell 31 = .ok (.ireturn, 1) := by decide +kernel
def wp_X2_cell (r : Nat) (σ : St) (x1 : Int32) (x2 : Int32) (Q : Int32 → St → Prop) : Prop :=
  wp_X2_has r σ x1 (fun y2 σ1 =>
  if y2 = 0 then
  (Q (-1) σ1)
  else (if x2 < 0 then
  (Q (-1) σ1)
  else (if x2 < 8 then
  (vp_in ((x1 * 8) + x2) 3200 ∧
  (Q (σ1 (r + 1) (ix ((x1 * 8) + x2))) σ1))
  else (Q (-1) σ1))))
theorem c_X2_cell {r : Nat} (hr : r = 7 ∨ r = 10) {σ : St} {x1 : Int32} {x2 : Int32} {Q : Int32 → St → Prop} (h : wp_X2_cell r σ x1 x2 Q) : ctI l yX2_cell cX2_cell 3 (some .int) rm_X2_cell D (wC cI cZ cH a n) (tyW cI cZ cH) [.ref (a r), .int x1, .int x2] σ Q := by
  refine mk_I (wC_ok cI cZ cH a n) (by decide +kernel) (Nat.le_of_ble_eq_true rfl) (fun p e s m args below meth c A X hr9 hlk9 => ?_)
  refine r_pick (lv' := [(0, .ref (a r)), (1, .int x1), (2, .int x2)]) [0, 1, 2] rfl ?_
  delta wp_X2_cell at h
  refine r_aload_n X 0 1 dX2_cell_0 rfl rfl rfl ?_
  refine r_iload_n X 1 2 dX2_cell_1 rfl rfl rfl ?_
  refine r_callI (As := [.int x1]) (rest := []) X 5 (c_X2_has hr h) ml_X2_22 lk_X2_has (wC_at_r hr) rfl rfl rfl (Nat.le_of_ble_eq_true rfl) ⟨rfl, rfl, ⟨Nat.le_of_ble_eq_true rfl, Nat.le_of_ble_eq_true rfl⟩, Nat.le_of_ble_eq_true rfl, Nat.le_of_ble_eq_true rfl⟩ dX2_cell_2 rfl (fun y2 σ1 h => ?_)
  obtain ⟨hb_y2, h⟩ := h
  refine r_if_eq X 18 8 h dX2_cell_5 rfl rfl (fun h => ?_) (fun h => ?_)
  · refine r_iconst (v := (-1)) X 19 dX2_cell_18 (by decide) rfl ?_
    exact r_iret X hr9 hlk9 h dX2_cell_19
  · refine r_iload_n X 2 9 dX2_cell_8 rfl rfl rfl ?_
    refine r_if_lt X 18 12 h dX2_cell_9 rfl rfl (fun h => ?_) (fun h => ?_)
    · refine r_iconst (v := (-1)) X 19 dX2_cell_18 (by decide) rfl ?_
      exact r_iret X hr9 hlk9 h dX2_cell_19
    · refine r_iload_n X 2 13 dX2_cell_12 rfl rfl rfl ?_
      refine r_bipush (v := 8) X 15 dX2_cell_13 (by decide) rfl ?_
      refine r_icmp_lt X 20 18 h dX2_cell_15 rfl rfl (fun h => ?_) (fun h => ?_)
      · refine r_aload_n X 0 21 dX2_cell_20 rfl rfl rfl ?_
        refine g_X2_9 X hr 24 dX2_cell_21 rfl ?_
        refine r_iload_n X 1 25 dX2_cell_24 rfl rfl rfl ?_
        refine r_bipush (v := 8) X 27 dX2_cell_25 (by decide) rfl ?_
        refine r_imul X 28 dX2_cell_27 rfl ?_
        refine r_iload_n X 2 29 dX2_cell_28 rfl rfl rfl ?_
        refine r_iadd X 30 dX2_cell_29 rfl ?_
        obtain ⟨hin, h⟩ := h
        refine l_Cr1 X hr 31 hin dX2_cell_30 rfl ?_
        exact r_iret X hr9 hlk9 h dX2_cell_31
      · refine r_iconst (v := (-1)) X 19 dX2_cell_18 (by decide) rfl ?_
        exact r_iret X hr9 hlk9 h dX2_cell_19
def rm_X2_isBirth : Room := { frames := 2, cells := 0, slots := 0, locals := 43 }
theorem dX2_isBirth_0 : decode cX2_isBirth 0 = .ok (.aload_n 0, 1) := by decide +kernel
theorem dX2_isBirth_1 : decode cX2_isBirth 1 = .ok (.iload_n 1, 1) := by decide +kernel
theorem dX2_isBirth_2 : decode cX2_isBirth 2 = .ok (.iconst 0, 1) := by decide +kernel
theorem dX2_isBirth_3 : decode cX2_isBirth 3 = .ok (.invokevirtual 36, 3) := by decide +kernel
theorem dX2_isBirth_6 : decode cX2_isBirth 6 = .ok (.istore_n 3, 1) := by decide +kernel
theorem dX2_isBirth_7 : decode cX2_isBirth 7 = .ok (.iload_n 3, 1) := by decide +kernel
theorem dX2_isBirth_8 : decode cX2_isBirth 8 = .ok (.bipush 11, 2) := by decide +kernel
theorem dX2_isBirth_10 : decode cX2_isBirth 10 = .ok (.if_icmp .eq 9, 3) := by decide +kernel
theorem dX2_isBirth_13 : decode cX2_isBirth 13 = .ok (.iload_n 3, 1) := by decide +kernel
theorem dX2_isBirth_14 : decode cX2_isBirth 14 = .ok (.bipush 12, 2) := by decide +kernel
theorem dX2_isBirth_16 : decode cX2_isBirth 16 = .ok (.if_icmp .ne 17, 3) := by decide +kernel
theorem dX2_isBirth_19 : decode cX2_isBirth 19 = .ok (.aload_n 0, 1) := by decide +kernel
theorem dX2_isBirth_20 : decode cX2_isBirth 20 = .ok (.iload_n 1, 1) := by decide +kernel
theorem dX2_isBirth_21 : decode cX2_isBirth 21 = .ok (.iconst 4, 1) := by decide +kernel
theorem dX2_isBirth_22 : decode cX2_isBirth 22 = .ok (.invokevirtual 36, 3) := by decide +kernel
theorem dX2_isBirth_25 : decode cX2_isBirth 25 = .ok (.iload_n 2, 1) := by decide +kernel
theorem dX2_isBirth_26 : decode cX2_isBirth 26 = .ok (.if_icmp .ne 7, 3) := by decide +kernel
theorem dX2_isBirth_29 : decode cX2_isBirth 29 = .ok (.iconst 1, 1) := by decide +kernel
theorem dX2_isBirth_30 : decode cX2_isBirth 30 = .ok (.goto 4, 3) := by decide +kernel
theorem dX2_isBirth_33 : decode cX2_isBirth 33 = .ok (.iconst 0, 1) := by decide +kernel
theorem dX2_isBirth_34 : decode cX2_isBirth 34 = .ok (.ireturn, 1) := by decide +kernel
def j_X2_isBirth_19 (r : Nat) (Q : Int32 → St → Prop) (v1 : Int32) (v2 : Int32) (σ : St) : Prop :=
  wp_X2_cell r σ v1 4 (fun y4 σ3 =>
  if y4 = v2 then
  (Q 1 σ3)
  else (Q 0 σ3))
theorem wk_X2_isBirth_19 {r : Nat} (X : cx p s m args c cX2_isBirth 4 RX2 D (wC cI cZ cH a n) A (tyW cI cZ cH)) (hr9 : meth.sig.returnType = (some .boolean)) (hlk9 : meth.locks = false) (hr : r = 7 ∨ r = 10) {Q : Int32 → St → Prop} {v1 : Int32} {v2 : Int32} {σ : St} (h : j_X2_isBirth_19 r Q v1 v2 σ) : go p l e rm_X2_isBirth s m args below meth c D (wC cI cZ cH a n) A 0 0 (MQ below (va_Qi (fun r9 u9 => isB r9 ∧ Q r9 u9) (atw D (wC cI cZ cH a n) (tyW cI cZ cH) A) A) args s 0 0 A) 4 19 [(0, .ref (a r)), (1, .int v1), (2, .int v2)] [] σ := by
  delta j_X2_isBirth_19 at h
  refine r_aload_n X 0 20 dX2_isBirth_19 rfl rfl rfl ?_
  refine r_iload_n X 1 21 dX2_isBirth_20 rfl rfl rfl ?_
  refine r_iconst (v := 4) X 22 dX2_isBirth_21 (by decide) rfl ?_
  refine r_callI (As := [.int v1, .int 4]) (rest := []) X 25 (c_X2_cell hr h) ml_X2_36 lk_X2_cell (wC_at_r hr) rfl rfl rfl (Nat.le_of_ble_eq_true rfl) ⟨rfl, rfl, ⟨Nat.le_of_ble_eq_true rfl, Nat.le_of_ble_eq_true rfl⟩, Nat.le_of_ble_eq_true rfl, Nat.le_of_ble_eq_true rfl⟩ dX2_isBirth_22 rfl (fun y4 σ3 h => ?_)
  refine r_iload_n X 2 26 dX2_isBirth_25 rfl rfl rfl ?_
  refine r_icmp_ne X 33 29 h dX2_isBirth_26 rfl rfl (fun h => ?_) (fun h => ?_)
  · refine r_iconst (v := 0) X 34 dX2_isBirth_33 (by decide) rfl ?_
    exact r_zret X hr9 hlk9 isB_0 h dX2_isBirth_34
  · refine r_iconst (v := 1) X 30 dX2_isBirth_29 (by decide) rfl ?_
    refine r_goto X 34 dX2_isBirth_30 rfl ?_
    exact r_zret X hr9 hlk9 isB_1 h dX2_isBirth_34
def wp_X2_isBirth (r : Nat) (σ : St) (x1 : Int32) (x2 : Int32) (Q : Int32 → St → Prop) : Prop :=
  wp_X2_cell r σ x1 0 (fun y2 σ1 =>
  if y2 = 11 then
  (j_X2_isBirth_19 r Q x1 x2 σ1)
  else (if y2 = 12 then
  (j_X2_isBirth_19 r Q x1 x2 σ1)
  else (Q 0 σ1)))
theorem c_X2_isBirth {r : Nat} (hr : r = 7 ∨ r = 10) {σ : St} {x1 : Int32} {x2 : Int32} {Q : Int32 → St → Prop} (h : wp_X2_isBirth r σ x1 x2 Q) : ctI l yX2_isBirth cX2_isBirth 4 (some .boolean) rm_X2_isBirth D (wC cI cZ cH a n) (tyW cI cZ cH) [.ref (a r), .int x1, .int x2] σ (fun r9 u9 => isB r9 ∧ Q r9 u9) := by
  refine mk_I (wC_ok cI cZ cH a n) (by decide +kernel) (Nat.le_of_ble_eq_true rfl) (fun p e s m args below meth c A X hr9 hlk9 => ?_)
  refine r_pick (lv' := [(0, .ref (a r)), (1, .int x1), (2, .int x2)]) [0, 1, 2] rfl ?_
  delta wp_X2_isBirth at h
  refine r_aload_n X 0 1 dX2_isBirth_0 rfl rfl rfl ?_
  refine r_iload_n X 1 2 dX2_isBirth_1 rfl rfl rfl ?_
  refine r_iconst (v := 0) X 3 dX2_isBirth_2 (by decide) rfl ?_
  refine r_callI (As := [.int x1, .int 0]) (rest := []) X 6 (c_X2_cell hr h) ml_X2_36 lk_X2_cell (wC_at_r hr) rfl rfl rfl (Nat.le_of_ble_eq_true rfl) ⟨rfl, rfl, ⟨Nat.le_of_ble_eq_true rfl, Nat.le_of_ble_eq_true rfl⟩, Nat.le_of_ble_eq_true rfl, Nat.le_of_ble_eq_true rfl⟩ dX2_isBirth_3 rfl (fun y2 σ1 h => ?_)
  refine r_istore_n X 7 [(3, .int y2), (0, .ref (a r)), (1, .int x1), (2, .int x2)] dX2_isBirth_6 rfl (by decide) rfl rfl ?_
  refine r_iload_n X 0 8 dX2_isBirth_7 rfl rfl rfl ?_
  refine r_bipush (v := 11) X 10 dX2_isBirth_8 (by decide) rfl ?_
  refine r_icmp_eq X 19 13 h dX2_isBirth_10 rfl rfl (fun h => ?_) (fun h => ?_)
  · refine r_pick (lv' := [(0, .ref (a r)), (1, .int x1), (2, .int x2)]) [1, 2, 3] rfl ?_
    exact wk_X2_isBirth_19 X hr9 hlk9 hr h
  · refine r_iload_n X 0 14 dX2_isBirth_13 rfl rfl rfl ?_
    refine r_bipush (v := 12) X 16 dX2_isBirth_14 (by decide) rfl ?_
    refine r_icmp_ne X 33 19 h dX2_isBirth_16 rfl rfl (fun h => ?_) (fun h => ?_)
    · refine r_iconst (v := 0) X 34 dX2_isBirth_33 (by decide) rfl ?_
      exact r_zret X hr9 hlk9 isB_0 h dX2_isBirth_34
    · refine r_pick (lv' := [(0, .ref (a r)), (1, .int x1), (2, .int x2)]) [1, 2, 3] rfl ?_
      exact wk_X2_isBirth_19 X hr9 hlk9 hr h
def rm_X1_append : Room := { frames := 0, cells := 0, slots := 0, locals := 0 }
theorem dX1_append_0 : decode cX1_append 0 = .ok (.aload_n 0, 1) := by decide +kernel
theorem dX1_append_1 : decode cX1_append 1 = .ok (.getfield 19, 3) := by decide +kernel
theorem dX1_append_4 : decode cX1_append 4 = .ok (.sipush 400, 3) := by decide +kernel
theorem dX1_append_7 : decode cX1_append 7 = .ok (.if_icmp .ge 23, 3) := by decide +kernel
theorem dX1_append_10 : decode cX1_append 10 = .ok (.aload_n 0, 1) := by decide +kernel
theorem dX1_append_11 : decode cX1_append 11 = .ok (.getfield 9, 3) := by decide +kernel
theorem dX1_append_14 : decode cX1_append 14 = .ok (.aload_n 0, 1) := by decide +kernel
theorem dX1_append_15 : decode cX1_append 15 = .ok (.getfield 19, 3) := by decide +kernel
theorem dX1_append_18 : decode cX1_append 18 = .ok (.iload_n 1, 1) := by decide +kernel
theorem dX1_append_19 : decode cX1_append 19 = .ok (.iastore, 1) := by decide +kernel
theorem dX1_append_20 : decode cX1_append 20 = .ok (.aload_n 0, 1) := by decide +kernel
theorem dX1_append_21 : decode cX1_append 21 = .ok (.dup, 1) := by decide +kernel
theorem dX1_append_22 : decode cX1_append 22 = .ok (.getfield 19, 3) := by decide +kernel
theorem dX1_append_25 : decode cX1_append 25 = .ok (.iconst 1, 1) := by decide +kernel
theorem dX1_append_26 : decode cX1_append 26 = .ok (.iadd, 1) := by decide +kernel
theorem dX1_append_27 : decode cX1_append 27 = .ok (.putfield 19, 3) := by decide +kernel
theorem dX1_append_30 : decode cX1_append 30 = .ok (.return_, 1) := by decide +kernel
def wp_X1_append  (σ : St) (x1 : Int32) (Q : St → Prop) : Prop :=
  if (σ 26 2) < 400 then
  (vp_in (σ 26 2) 400 ∧
  nmS (up2 σ 27 (ix (σ 26 2)) x1) (fun σ1 =>
  nmS (up2 σ1 26 2 ((σ1 26 2) + 1)) (fun σ2 =>
  Q σ2)))
  else (Q σ)
theorem c_X1_append  {σ : St} {x1 : Int32} {Q : St → Prop} (h : wp_X1_append σ x1 Q) : ctV l yX1_append cX1_append 2 none rm_X1_append D (wC cI cZ cH a n) (tyW cI cZ cH) [.ref (a 26), .int x1] σ Q := by
  refine mk_V (wC_ok cI cZ cH a n) (by decide +kernel) (Nat.le_of_ble_eq_true rfl) (fun p e s m args below meth c A X hr9 hlk9 => ?_)
  refine r_pick (lv' := [(0, .ref (a 26)), (1, .int x1)]) [0, 1] rfl ?_
  delta wp_X1_append at h
  refine r_aload_n X 0 1 dX1_append_0 rfl rfl rfl ?_
  refine g_X1_19 X 4 dX1_append_1 rfl ?_
  refine r_sipush (v := 400) X 7 dX1_append_4 (by decide) rfl ?_
  refine r_icmp_ge X 30 10 h dX1_append_7 rfl rfl (fun h => ?_) (fun h => ?_)
  · exact r_vret X hr9 hlk9 h dX1_append_30
  · refine r_aload_n X 0 11 dX1_append_10 rfl rfl rfl ?_
    refine g_X1_9 X 14 dX1_append_11 rfl ?_
    refine r_aload_n X 0 15 dX1_append_14 rfl rfl rfl ?_
    refine g_X1_19 X 18 dX1_append_15 rfl ?_
    refine r_iload_n X 1 19 dX1_append_18 rfl rfl rfl ?_
    obtain ⟨hin, h⟩ := h
    refine s_C27 X 20 hin dX1_append_19 rfl ?_
    refine r_nmS h (fun σ1 h => ?_)
    refine r_aload_n X 0 21 dX1_append_20 rfl rfl rfl ?_
    refine r_dup X 22 dX1_append_21 rfl rfl ?_
    refine g_X1_19 X 25 dX1_append_22 rfl ?_
    refine r_iconst (v := 1) X 26 dX1_append_25 (by decide) rfl ?_
    refine r_iadd X 27 dX1_append_26 rfl ?_
    refine u_X1_19 X 30 dX1_append_27 rfl ?_
    refine r_nmS h (fun σ2 h => ?_)
    exact r_vret X hr9 hlk9 h dX1_append_30
def rm_X2_isMoveOf : Room := { frames := 2, cells := 0, slots := 0, locals := 43 }
theorem dX2_isMoveOf_0 : decode cX2_isMoveOf 0 = .ok (.aload_n 0, 1) := by decide +kernel
theorem dX2_isMoveOf_1 : decode cX2_isMoveOf 1 = .ok (.iload_n 1, 1) := by decide +kernel
theorem dX2_isMoveOf_2 : decode cX2_isMoveOf 2 = .ok (.iconst 0, 1) := by decide +kernel
theorem dX2_isMoveOf_3 : decode cX2_isMoveOf 3 = .ok (.invokevirtual 36, 3) := by decide +kernel
theorem dX2_isMoveOf_6 : decode cX2_isMoveOf 6 = .ok (.istore_n 3, 1) := by decide +kernel
theorem dX2_isMoveOf_7 : decode cX2_isMoveOf 7 = .ok (.iload_n 3, 1) := by decide +kernel
theorem dX2_isMoveOf_8 : decode cX2_isMoveOf 8 = .ok (.iconst 1, 1) := by decide +kernel
theorem dX2_isMoveOf_9 : decode cX2_isMoveOf 9 = .ok (.if_icmp .lt 9, 3) := by decide +kernel
theorem dX2_isMoveOf_12 : decode cX2_isMoveOf 12 = .ok (.iload_n 3, 1) := by decide +kernel
theorem dX2_isMoveOf_13 : decode cX2_isMoveOf 13 = .ok (.bipush 7, 2) := by decide +kernel
theorem dX2_isMoveOf_15 : decode cX2_isMoveOf 15 = .ok (.if_icmp .le 15, 3) := by decide +kernel
theorem dX2_isMoveOf_18 : decode cX2_isMoveOf 18 = .ok (.iload_n 3, 1) := by decide +kernel
theorem dX2_isMoveOf_19 : decode cX2_isMoveOf 19 = .ok (.bipush 18, 2) := by decide +kernel
theorem dX2_isMoveOf_21 : decode cX2_isMoveOf 21 = .ok (.if_icmp .eq 9, 3) := by decide +kernel
theorem dX2_isMoveOf_24 : decode cX2_isMoveOf 24 = .ok (.iload_n 3, 1) := by decide +kernel
theorem dX2_isMoveOf_25 : decode cX2_isMoveOf 25 = .ok (.bipush 19, 2) := by decide +kernel
theorem dX2_isMoveOf_27 : decode cX2_isMoveOf 27 = .ok (.if_icmp .ne 7, 3) := by decide +kernel
theorem dX2_isMoveOf_30 : decode cX2_isMoveOf 30 = .ok (.iconst 1, 1) := by decide +kernel
theorem dX2_isMoveOf_31 : decode cX2_isMoveOf 31 = .ok (.goto 4, 3) := by decide +kernel
theorem dX2_isMoveOf_34 : decode cX2_isMoveOf 34 = .ok (.iconst 0, 1) := by decide +kernel
theorem dX2_isMoveOf_35 : decode cX2_isMoveOf 35 = .ok (.istore 4, 2) := by decide +kernel
theorem dX2_isMoveOf_37 : decode cX2_isMoveOf 37 = .ok (.iload 4, 2) := by decide +kernel
theorem dX2_isMoveOf_39 : decode cX2_isMoveOf 39 = .ok (.ifCond .eq 17, 3) := by decide +kernel
theorem dX2_isMoveOf_42 : decode cX2_isMoveOf 42 = .ok (.aload_n 0, 1) := by decide +kernel
theorem dX2_isMoveOf_43 : decode cX2_isMoveOf 43 = .ok (.iload_n 1, 1) := by decide +kernel
theorem dX2_isMoveOf_44 : decode cX2_isMoveOf 44 = .ok (.iconst 1, 1) := by decide +kernel
theorem dX2_isMoveOf_45 : decode cX2_isMoveOf 45 = .ok (.invokevirtual 36, 3) := by decide +kernel
theorem dX2_isMoveOf_48 : decode cX2_isMoveOf 48 = .ok (.iload_n 2, 1) := by decide +kernel
theorem dX2_isMoveOf_49 : decode cX2_isMoveOf 49 = .ok (.if_icmp .ne 7, 3) := by decide +kernel
theorem dX2_isMoveOf_52 : decode cX2_isMoveOf 52 = .ok (.iconst 1, 1) := by decide +kernel
theorem dX2_isMoveOf_53 : decode cX2_isMoveOf 53 = .ok (.goto 4, 3) := by decide +kernel
theorem dX2_isMoveOf_56 : decode cX2_isMoveOf 56 = .ok (.iconst 0, 1) := by decide +kernel
theorem dX2_isMoveOf_57 : decode cX2_isMoveOf 57 = .ok (.ireturn, 1) := by decide +kernel
def j_X2_isMoveOf_35 (r : Nat) (Q : Int32 → St → Prop) (v1 : Int32) (v2 : Int32) (s0 : Int32) (σ : St) : Prop :=
  if s0 = 0 then
  (Q 0 σ)
  else (wp_X2_cell r σ v1 1 (fun y4 σ3 =>
  if y4 = v2 then
  (Q 1 σ3)
  else (Q 0 σ3)))
theorem wk_X2_isMoveOf_35 {r : Nat} (X : cx p s m args c cX2_isMoveOf 5 RX2 D (wC cI cZ cH a n) A (tyW cI cZ cH)) (hr9 : meth.sig.returnType = (some .boolean)) (hlk9 : meth.locks = false) (hr : r = 7 ∨ r = 10) {Q : Int32 → St → Prop} {v1 : Int32} {v2 : Int32} {s0 : Int32} {σ : St} (h : j_X2_isMoveOf_35 r Q v1 v2 s0 σ) : go p l e rm_X2_isMoveOf s m args below meth c D (wC cI cZ cH a n) A 0 0 (MQ below (va_Qi (fun r9 u9 => isB r9 ∧ Q r9 u9) (atw D (wC cI cZ cH a n) (tyW cI cZ cH) A) A) args s 0 0 A) 5 35 [(0, .ref (a r)), (1, .int v1), (2, .int v2)] [.int s0] σ := by
  delta j_X2_isMoveOf_35 at h
  refine r_istore X 37 [(4, .int s0), (0, .ref (a r)), (1, .int v1), (2, .int v2)] dX2_isMoveOf_35 (by decide) rfl rfl ?_
  refine r_iload X 0 39 dX2_isMoveOf_37 rfl rfl ?_
  refine r_if_eq X 56 42 h dX2_isMoveOf_39 rfl rfl (fun h => ?_) (fun h => ?_)
  · refine r_iconst (v := 0) X 57 dX2_isMoveOf_56 (by decide) rfl ?_
    exact r_zret X hr9 hlk9 isB_0 h dX2_isMoveOf_57
  · refine r_aload_n X 1 43 dX2_isMoveOf_42 rfl rfl rfl ?_
    refine r_iload_n X 2 44 dX2_isMoveOf_43 rfl rfl rfl ?_
    refine r_iconst (v := 1) X 45 dX2_isMoveOf_44 (by decide) rfl ?_
    refine r_callI (As := [.int v1, .int 1]) (rest := []) X 48 (c_X2_cell hr h) ml_X2_36 lk_X2_cell (wC_at_r hr) rfl rfl rfl (Nat.le_of_ble_eq_true rfl) ⟨rfl, rfl, ⟨Nat.le_of_ble_eq_true rfl, Nat.le_of_ble_eq_true rfl⟩, Nat.le_of_ble_eq_true rfl, Nat.le_of_ble_eq_true rfl⟩ dX2_isMoveOf_45 rfl (fun y4 σ3 h => ?_)
    refine r_iload_n X 3 49 dX2_isMoveOf_48 rfl rfl rfl ?_
    refine r_icmp_ne X 56 52 h dX2_isMoveOf_49 rfl rfl (fun h => ?_) (fun h => ?_)
    · refine r_iconst (v := 0) X 57 dX2_isMoveOf_56 (by decide) rfl ?_
      exact r_zret X hr9 hlk9 isB_0 h dX2_isMoveOf_57
    · refine r_iconst (v := 1) X 53 dX2_isMoveOf_52 (by decide) rfl ?_
      refine r_goto X 57 dX2_isMoveOf_53 rfl ?_
      exact r_zret X hr9 hlk9 isB_1 h dX2_isMoveOf_57
def j_X2_isMoveOf_30 (r : Nat) (Q : Int32 → St → Prop) (v1 : Int32) (v2 : Int32) (σ : St) : Prop :=
  j_X2_isMoveOf_35 r Q v1 v2 1 σ
theorem wk_X2_isMoveOf_30 {r : Nat} (X : cx p s m args c cX2_isMoveOf 5 RX2 D (wC cI cZ cH a n) A (tyW cI cZ cH)) (hr9 : meth.sig.returnType = (some .boolean)) (hlk9 : meth.locks = false) (hr : r = 7 ∨ r = 10) {Q : Int32 → St → Prop} {v1 : Int32} {v2 : Int32} {σ : St} (h : j_X2_isMoveOf_30 r Q v1 v2 σ) : go p l e rm_X2_isMoveOf s m args below meth c D (wC cI cZ cH a n) A 0 0 (MQ below (va_Qi (fun r9 u9 => isB r9 ∧ Q r9 u9) (atw D (wC cI cZ cH a n) (tyW cI cZ cH) A) A) args s 0 0 A) 5 30 [(0, .ref (a r)), (1, .int v1), (2, .int v2)] [] σ := by
  delta j_X2_isMoveOf_30 at h
  refine r_iconst (v := 1) X 31 dX2_isMoveOf_30 (by decide) rfl ?_
  refine r_goto X 35 dX2_isMoveOf_31 rfl ?_
  refine r_pick (lv' := [(0, .ref (a r)), (1, .int v1), (2, .int v2)]) [0, 1, 2] rfl ?_
  exact wk_X2_isMoveOf_35 X hr9 hlk9 hr h
def j_X2_isMoveOf_18 (r : Nat) (Q : Int32 → St → Prop) (v1 : Int32) (v2 : Int32) (v3 : Int32) (σ : St) : Prop :=
  if v3 = 18 then
  (j_X2_isMoveOf_30 r Q v1 v2 σ)
  else (if v3 = 19 then
  (j_X2_isMoveOf_30 r Q v1 v2 σ)
  else (j_X2_isMoveOf_35 r Q v1 v2 0 σ))
theorem wk_X2_isMoveOf_18 {r : Nat} (X : cx p s m args c cX2_isMoveOf 5 RX2 D (wC cI cZ cH a n) A (tyW cI cZ cH)) (hr9 : meth.sig.returnType = (some .boolean)) (hlk9 : meth.locks = false) (hr : r = 7 ∨ r = 10) {Q : Int32 → St → Prop} {v1 : Int32} {v2 : Int32} {v3 : Int32} {σ : St} (h : j_X2_isMoveOf_18 r Q v1 v2 v3 σ) : go p l e rm_X2_isMoveOf s m args below meth c D (wC cI cZ cH a n) A 0 0 (MQ below (va_Qi (fun r9 u9 => isB r9 ∧ Q r9 u9) (atw D (wC cI cZ cH a n) (tyW cI cZ cH) A) A) args s 0 0 A) 5 18 [(0, .ref (a r)), (1, .int v1), (2, .int v2), (3, .int v3)] [] σ := by
  delta j_X2_isMoveOf_18 at h
  refine r_iload_n X 3 19 dX2_isMoveOf_18 rfl rfl rfl ?_
  refine r_bipush (v := 18) X 21 dX2_isMoveOf_19 (by decide) rfl ?_
  refine r_icmp_eq X 30 24 h dX2_isMoveOf_21 rfl rfl (fun h => ?_) (fun h => ?_)
  · refine r_pick (lv' := [(0, .ref (a r)), (1, .int v1), (2, .int v2)]) [0, 1, 2] rfl ?_
    exact wk_X2_isMoveOf_30 X hr9 hlk9 hr h
  · refine r_iload_n X 3 25 dX2_isMoveOf_24 rfl rfl rfl ?_
    refine r_bipush (v := 19) X 27 dX2_isMoveOf_25 (by decide) rfl ?_
    refine r_icmp_ne X 34 30 h dX2_isMoveOf_27 rfl rfl (fun h => ?_) (fun h => ?_)
    · refine r_iconst (v := 0) X 35 dX2_isMoveOf_34 (by decide) rfl ?_
      refine r_pick (lv' := [(0, .ref (a r)), (1, .int v1), (2, .int v2)]) [0, 1, 2] rfl ?_
      exact wk_X2_isMoveOf_35 X hr9 hlk9 hr h
    · refine r_pick (lv' := [(0, .ref (a r)), (1, .int v1), (2, .int v2)]) [0, 1, 2] rfl ?_
      exact wk_X2_isMoveOf_30 X hr9 hlk9 hr h
def wp_X2_isMoveOf (r : Nat) (σ : St) (x1 : Int32) (x2 : Int32) (Q : Int32 → St → Prop) : Prop :=
  wp_X2_cell r σ x1 0 (fun y2 σ1 =>
  if y2 < 1 then
  (j_X2_isMoveOf_18 r Q x1 x2 y2 σ1)
  else (if 7 < y2 then
  (j_X2_isMoveOf_18 r Q x1 x2 y2 σ1)
  else (j_X2_isMoveOf_30 r Q x1 x2 σ1)))
theorem c_X2_isMoveOf {r : Nat} (hr : r = 7 ∨ r = 10) {σ : St} {x1 : Int32} {x2 : Int32} {Q : Int32 → St → Prop} (h : wp_X2_isMoveOf r σ x1 x2 Q) : ctI l yX2_isMoveOf cX2_isMoveOf 5 (some .boolean) rm_X2_isMoveOf D (wC cI cZ cH a n) (tyW cI cZ cH) [.ref (a r), .int x1, .int x2] σ (fun r9 u9 => isB r9 ∧ Q r9 u9) := by
  refine mk_I (wC_ok cI cZ cH a n) (by decide +kernel) (Nat.le_of_ble_eq_true rfl) (fun p e s m args below meth c A X hr9 hlk9 => ?_)
  refine r_pick (lv' := [(0, .ref (a r)), (1, .int x1), (2, .int x2)]) [0, 1, 2] rfl ?_
  delta wp_X2_isMoveOf at h
  refine r_aload_n X 0 1 dX2_isMoveOf_0 rfl rfl rfl ?_
  refine r_iload_n X 1 2 dX2_isMoveOf_1 rfl rfl rfl ?_
  refine r_iconst (v := 0) X 3 dX2_isMoveOf_2 (by decide) rfl ?_
  refine r_callI (As := [.int x1, .int 0]) (rest := []) X 6 (c_X2_cell hr h) ml_X2_36 lk_X2_cell (wC_at_r hr) rfl rfl rfl (Nat.le_of_ble_eq_true rfl) ⟨rfl, rfl, ⟨Nat.le_of_ble_eq_true rfl, Nat.le_of_ble_eq_true rfl⟩, Nat.le_of_ble_eq_true rfl, Nat.le_of_ble_eq_true rfl⟩ dX2_isMoveOf_3 rfl (fun y2 σ1 h => ?_)
  refine r_istore_n X 7 [(3, .int y2), (0, .ref (a r)), (1, .int x1), (2, .int x2)] dX2_isMoveOf_6 rfl (by decide) rfl rfl ?_
  refine r_iload_n X 0 8 dX2_isMoveOf_7 rfl rfl rfl ?_
  refine r_iconst (v := 1) X 9 dX2_isMoveOf_8 (by decide) rfl ?_
  refine r_icmp_lt X 18 12 h dX2_isMoveOf_9 rfl rfl (fun h => ?_) (fun h => ?_)
  · refine r_pick (lv' := [(0, .ref (a r)), (1, .int x1), (2, .int x2), (3, .int y2)]) [1, 2, 3, 0] rfl ?_
    exact wk_X2_isMoveOf_18 X hr9 hlk9 hr h
  · refine r_iload_n X 0 13 dX2_isMoveOf_12 rfl rfl rfl ?_
    refine r_bipush (v := 7) X 15 dX2_isMoveOf_13 (by decide) rfl ?_
    refine r_icmp_le X 30 18 h dX2_isMoveOf_15 rfl rfl (fun h => ?_) (fun h => ?_)
    · refine r_pick (lv' := [(0, .ref (a r)), (1, .int x1), (2, .int x2)]) [1, 2, 3] rfl ?_
      exact wk_X2_isMoveOf_30 X hr9 hlk9 hr h
    · refine r_pick (lv' := [(0, .ref (a r)), (1, .int x1), (2, .int x2), (3, .int y2)]) [1, 2, 3, 0] rfl ?_
      exact wk_X2_isMoveOf_18 X hr9 hlk9 hr h
def rm_X1_follow : Room := { frames := 3, cells := 0, slots := 0, locals := 67 }
theorem dX1_follow_0 : decode cX1_follow 0 = .ok (.aload_n 0, 1) := by decide +kernel
theorem dX1_follow_1 : decode cX1_follow 1 = .ok (.iconst 0, 1) := by decide +kernel
theorem dX1_follow_2 : decode cX1_follow 2 = .ok (.putfield 19, 3) := by decide +kernel
theorem dX1_follow_5 : decode cX1_follow 5 = .ok (.iload_n 1, 1) := by decide +kernel
theorem dX1_follow_6 : decode cX1_follow 6 = .ok (.istore_n 2, 1) := by decide +kernel
theorem dX1_follow_7 : decode cX1_follow 7 = .ok (.aload_n 0, 1) := by decide +kernel
theorem dX1_follow_8 : decode cX1_follow 8 = .ok (.getfield 15, 3) := by decide +kernel
theorem dX1_follow_11 : decode cX1_follow 11 = .ok (.getfield 23, 3) := by decide +kernel
theorem dX1_follow_14 : decode cX1_follow 14 = .ok (.iconst 1, 1) := by decide +kernel
theorem dX1_follow_15 : decode cX1_follow 15 = .ok (.isub, 1) := by decide +kernel
theorem dX1_follow_16 : decode cX1_follow 16 = .ok (.istore_n 3, 1) := by decide +kernel
theorem dX1_follow_17 : decode cX1_follow 17 = .ok (.iload_n 3, 1) := by decide +kernel
theorem dX1_follow_18 : decode cX1_follow 18 = .ok (.ifCond .lt 71, 3) := by decide +kernel
theorem dX1_follow_21 : decode cX1_follow 21 = .ok (.aload_n 0, 1) := by decide +kernel
theorem dX1_follow_22 : decode cX1_follow 22 = .ok (.getfield 15, 3) := by decide +kernel
theorem dX1_follow_25 : decode cX1_follow 25 = .ok (.iload_n 3, 1) := by decide +kernel
theorem dX1_follow_26 : decode cX1_follow 26 = .ok (.invokevirtual 28, 3) := by decide +kernel
theorem dX1_follow_29 : decode cX1_follow 29 = .ok (.istore 4, 2) := by decide +kernel
theorem dX1_follow_31 : decode cX1_follow 31 = .ok (.aload_n 0, 1) := by decide +kernel
theorem dX1_follow_32 : decode cX1_follow 32 = .ok (.getfield 15, 3) := by decide +kernel
theorem dX1_follow_35 : decode cX1_follow 35 = .ok (.iload 4, 2) := by decide +kernel
theorem dX1_follow_37 : decode cX1_follow 37 = .ok (.iload_n 2, 1) := by decide +kernel
theorem dX1_follow_38 : decode cX1_follow 38 = .ok (.invokevirtual 32, 3) := by decide +kernel
theorem dX1_follow_41 : decode cX1_follow 41 = .ok (.ifCond .eq 23, 3) := by decide +kernel
theorem dX1_follow_44 : decode cX1_follow 44 = .ok (.aload_n 0, 1) := by decide +kernel
theorem dX1_follow_45 : decode cX1_follow 45 = .ok (.iload 4, 2) := by decide +kernel
theorem dX1_follow_47 : decode cX1_follow 47 = .ok (.invokevirtual 36, 3) := by decide +kernel
theorem dX1_follow_50 : decode cX1_follow 50 = .ok (.aload_n 0, 1) := by decide +kernel
theorem dX1_follow_51 : decode cX1_follow 51 = .ok (.getfield 15, 3) := by decide +kernel
theorem dX1_follow_54 : decode cX1_follow 54 = .ok (.iload 4, 2) := by decide +kernel
theorem dX1_follow_56 : decode cX1_follow 56 = .ok (.iconst 1, 1) := by decide +kernel
theorem dX1_follow_57 : decode cX1_follow 57 = .ok (.invokevirtual 40, 3) := by decide +kernel
theorem dX1_follow_60 : decode cX1_follow 60 = .ok (.istore_n 2, 1) := by decide +kernel
theorem dX1_follow_61 : decode cX1_follow 61 = .ok (.goto 22, 3) := by decide +kernel
theorem dX1_follow_64 : decode cX1_follow 64 = .ok (.aload_n 0, 1) := by decide +kernel
theorem dX1_follow_65 : decode cX1_follow 65 = .ok (.getfield 15, 3) := by decide +kernel
theorem dX1_follow_68 : decode cX1_follow 68 = .ok (.iload 4, 2) := by decide +kernel
theorem dX1_follow_70 : decode cX1_follow 70 = .ok (.iload_n 2, 1) := by decide +kernel
theorem dX1_follow_71 : decode cX1_follow 71 = .ok (.invokevirtual 44, 3) := by decide +kernel
theorem dX1_follow_74 : decode cX1_follow 74 = .ok (.ifCond .eq 9, 3) := by decide +kernel
theorem dX1_follow_77 : decode cX1_follow 77 = .ok (.aload_n 0, 1) := by decide +kernel
theorem dX1_follow_78 : decode cX1_follow 78 = .ok (.iload 4, 2) := by decide +kernel
theorem dX1_follow_80 : decode cX1_follow 80 = .ok (.invokevirtual 36, 3) := by decide +kernel
theorem dX1_follow_83 : decode cX1_follow 83 = .ok (.iinc 3 (-1), 3) := by decide +kernel
theorem dX1_follow_86 : decode cX1_follow 86 = .ok (.goto (-69), 3) := by decide +kernel
theorem dX1_follow_89 : decode cX1_follow 89 = .ok (.return_, 1) := by decide +kernel
def j_X1_follow_83  (Q : St → Prop) (rec17 : Int32 → Int32 → St → Prop) (v2 : Int32) (v3 : Int32) (σ : St) : Prop :=
  rec17 v2 (v3 + (-1)) σ
theorem wk_X1_follow_83 (X : cx p s m args c cX1_follow 5 RX1 D (wC cI cZ cH a n) A (tyW cI cZ cH)) (hr9 : meth.sig.returnType = none) (hlk9 : meth.locks = false)  {Q : St → Prop} {rec17 : Int32 → Int32 → St → Prop} (hrec17 : ∀ (v2 : Int32) (v3 : Int32) (σ : St), rec17 v2 v3 σ → go p l e rm_X1_follow s m args below meth c D (wC cI cZ cH a n) A 0 0 (MQ below (va_Qv Q (atw D (wC cI cZ cH a n) (tyW cI cZ cH) A) A) args s 0 0 A) 5 17 [(0, .ref (a 26)), (2, .int v2), (3, .int v3)] [] σ) {v2 : Int32} {v3 : Int32} {σ : St} (h : j_X1_follow_83 Q rec17 v2 v3 σ) : go p l e rm_X1_follow s m args below meth c D (wC cI cZ cH a n) A 0 0 (MQ below (va_Qv Q (atw D (wC cI cZ cH a n) (tyW cI cZ cH) A) A) args s 0 0 A) 5 83 [(0, .ref (a 26)), (2, .int v2), (3, .int v3)] [] σ := by
  delta j_X1_follow_83 at h
  refine r_iinc (d := (-1)) X 2 86 [(3, .int (v3 + (-1))), (0, .ref (a 26)), (2, .int v2)] dX1_follow_83 rfl (by decide) (by decide) rfl rfl ?_
  refine r_goto X 17 dX1_follow_86 rfl ?_
  refine r_pick (lv' := [(0, .ref (a 26)), (2, .int v2), (3, .int (v3 + (-1)))]) [1, 2, 0] rfl ?_
  exact hrec17 _ _ _ h
def b_X1_follow_17  (Q : St → Prop) (rec17 : Int32 → Int32 → St → Prop) (v2 : Int32) (v3 : Int32) (σ : St) : Prop :=
  if v3 < 0 then
  (Q σ)
  else (wp_X2_inOrder 7 σ v3 (fun y4 σ3 =>
  wp_X2_isBirth 7 σ3 y4 v2 (fun y6 σ5 =>
  if y6 = 0 then
  (wp_X2_isMoveOf 7 σ5 y4 v2 (fun y8 σ7 =>
  if y8 = 0 then
  (j_X1_follow_83 Q rec17 v2 v3 σ7)
  else (wp_X1_append σ7 y4 (fun σ9 =>
  j_X1_follow_83 Q rec17 v2 v3 σ9))))
  else (wp_X1_append σ5 y4 (fun σ10 =>
  wp_X2_cell 7 σ10 y4 1 (fun y12 σ11 =>
  j_X1_follow_83 Q rec17 y12 v3 σ11))))))
def lp_X1_follow_17  (Q : St → Prop) (n9 : Nat) : Int32 → Int32 → St → Prop :=
  Nat.rec (fun _ _ _ => False) (fun _ rec9 => b_X1_follow_17  Q  rec9) n9
theorem wk_X1_follow_17 (X : cx p s m args c cX1_follow 5 RX1 D (wC cI cZ cH a n) A (tyW cI cZ cH)) (hr9 : meth.sig.returnType = none) (hlk9 : meth.locks = false)  {Q : St → Prop} : ∀ (n9 : Nat) {v2 : Int32} {v3 : Int32} {σ : St}, lp_X1_follow_17 Q n9 v2 v3 σ → go p l e rm_X1_follow s m args below meth c D (wC cI cZ cH a n) A 0 0 (MQ below (va_Qv Q (atw D (wC cI cZ cH a n) (tyW cI cZ cH) A) A) args s 0 0 A) 5 17 [(0, .ref (a 26)), (2, .int v2), (3, .int v3)] [] σ := by
  intro n9
  induction n9 with
  | zero => intro v2 v3 σ h; exact h.elim
  | succ n9 ih =>
    intro v2 v3 σ h
    have hrec17 := fun v2 v3 σ h => ih (σ := σ) (v2 := v2) (v3 := v3) h
    replace h : b_X1_follow_17 Q (lp_X1_follow_17 Q n9) v2 v3 σ := h
    delta b_X1_follow_17 at h
    refine r_iload_n X 2 18 dX1_follow_17 rfl rfl rfl ?_
    refine r_if_lt X 89 21 h dX1_follow_18 rfl rfl (fun h => ?_) (fun h => ?_)
    · exact r_vret X hr9 hlk9 h dX1_follow_89
    · refine r_aload_n X 0 22 dX1_follow_21 rfl rfl rfl ?_
      refine g_X1_15 X 25 dX1_follow_22 rfl ?_
      refine r_iload_n X 2 26 dX1_follow_25 rfl rfl rfl ?_
      refine r_callNI (As := [.int v3]) (rest := []) X 29 (c_X2_inOrder (Or.inl rfl) h) ml_X1_28 lk_X2_inOrder (wC_at_r (Or.inl rfl)) rfl rfl rfl (Nat.le_of_ble_eq_true rfl) ⟨rfl, rfl, ⟨Nat.le_of_ble_eq_true rfl, Nat.le_of_ble_eq_true rfl⟩, Nat.le_of_ble_eq_true rfl, Nat.le_of_ble_eq_true rfl⟩ dX1_follow_26 rfl (fun y4 σ3 h => ?_)
      refine r_istore X 31 [(4, .int y4), (0, .ref (a 26)), (2, .int v2), (3, .int v3)] dX1_follow_29 (by decide) rfl rfl ?_
      refine r_aload_n X 1 32 dX1_follow_31 rfl rfl rfl ?_
      refine g_X1_15 X 35 dX1_follow_32 rfl ?_
      refine r_iload X 0 37 dX1_follow_35 rfl rfl ?_
      refine r_iload_n X 2 38 dX1_follow_37 rfl rfl rfl ?_
      refine r_callNI (As := [.int y4, .int v2]) (rest := []) X 41 (c_X2_isBirth (Or.inl rfl) h) ml_X1_32 lk_X2_isBirth (wC_at_r (Or.inl rfl)) rfl rfl rfl (Nat.le_of_ble_eq_true rfl) ⟨rfl, rfl, ⟨Nat.le_of_ble_eq_true rfl, Nat.le_of_ble_eq_true rfl⟩, Nat.le_of_ble_eq_true rfl, Nat.le_of_ble_eq_true rfl⟩ dX1_follow_38 rfl (fun y6 σ5 h => ?_)
      obtain ⟨hb_y6, h⟩ := h
      refine r_if_eq X 64 44 h dX1_follow_41 rfl rfl (fun h => ?_) (fun h => ?_)
      · refine r_aload_n X 1 65 dX1_follow_64 rfl rfl rfl ?_
        refine g_X1_15 X 68 dX1_follow_65 rfl ?_
        refine r_iload X 0 70 dX1_follow_68 rfl rfl ?_
        refine r_iload_n X 2 71 dX1_follow_70 rfl rfl rfl ?_
        refine r_callNI (As := [.int y4, .int v2]) (rest := []) X 74 (c_X2_isMoveOf (Or.inl rfl) h) ml_X1_44 lk_X2_isMoveOf (wC_at_r (Or.inl rfl)) rfl rfl rfl (Nat.le_of_ble_eq_true rfl) ⟨rfl, rfl, ⟨Nat.le_of_ble_eq_true rfl, Nat.le_of_ble_eq_true rfl⟩, Nat.le_of_ble_eq_true rfl, Nat.le_of_ble_eq_true rfl⟩ dX1_follow_71 rfl (fun y8 σ7 h => ?_)
        obtain ⟨hb_y8, h⟩ := h
        refine r_if_eq X 83 77 h dX1_follow_74 rfl rfl (fun h => ?_) (fun h => ?_)
        · refine r_pick (lv' := [(0, .ref (a 26)), (2, .int v2), (3, .int v3)]) [1, 2, 3] rfl ?_
          exact wk_X1_follow_83 X hr9 hlk9 hrec17 h
        · refine r_aload_n X 1 78 dX1_follow_77 rfl rfl rfl ?_
          refine r_iload X 0 80 dX1_follow_78 rfl rfl ?_
          refine r_callV (As := [.int y4]) (rest := []) X 83 (c_X1_append h) ml_X1_36 lk_X1_append wC_at_26 rfl rfl rfl (Nat.le_of_ble_eq_true rfl) ⟨rfl, rfl, ⟨Nat.le_of_ble_eq_true rfl, Nat.le_of_ble_eq_true rfl⟩, Nat.le_of_ble_eq_true rfl, Nat.le_of_ble_eq_true rfl⟩ dX1_follow_80 rfl (fun σ9 h => ?_)
          refine r_pick (lv' := [(0, .ref (a 26)), (2, .int v2), (3, .int v3)]) [1, 2, 3] rfl ?_
          exact wk_X1_follow_83 X hr9 hlk9 hrec17 h
      · refine r_aload_n X 1 45 dX1_follow_44 rfl rfl rfl ?_
        refine r_iload X 0 47 dX1_follow_45 rfl rfl ?_
        refine r_callV (As := [.int y4]) (rest := []) X 50 (c_X1_append h) ml_X1_36 lk_X1_append wC_at_26 rfl rfl rfl (Nat.le_of_ble_eq_true rfl) ⟨rfl, rfl, ⟨Nat.le_of_ble_eq_true rfl, Nat.le_of_ble_eq_true rfl⟩, Nat.le_of_ble_eq_true rfl, Nat.le_of_ble_eq_true rfl⟩ dX1_follow_47 rfl (fun σ10 h => ?_)
        refine r_aload_n X 1 51 dX1_follow_50 rfl rfl rfl ?_
        refine g_X1_15 X 54 dX1_follow_51 rfl ?_
        refine r_iload X 0 56 dX1_follow_54 rfl rfl ?_
        refine r_iconst (v := 1) X 57 dX1_follow_56 (by decide) rfl ?_
        refine r_callNI (As := [.int y4, .int 1]) (rest := []) X 60 (c_X2_cell (Or.inl rfl) h) ml_X1_40 lk_X2_cell (wC_at_r (Or.inl rfl)) rfl rfl rfl (Nat.le_of_ble_eq_true rfl) ⟨rfl, rfl, ⟨Nat.le_of_ble_eq_true rfl, Nat.le_of_ble_eq_true rfl⟩, Nat.le_of_ble_eq_true rfl, Nat.le_of_ble_eq_true rfl⟩ dX1_follow_57 rfl (fun y12 σ11 h => ?_)
        refine r_istore_n X 61 [(2, .int y12), (4, .int y4), (0, .ref (a 26)), (3, .int v3)] dX1_follow_60 rfl (by decide) rfl rfl ?_
        refine r_goto X 83 dX1_follow_61 rfl ?_
        refine r_pick (lv' := [(0, .ref (a 26)), (2, .int y12), (3, .int v3)]) [2, 0, 3] rfl ?_
        exact wk_X1_follow_83 X hr9 hlk9 hrec17 h
def wp_X1_follow  (σ : St) (x1 : Int32) (Q : St → Prop) : Prop :=
  nmS (up2 σ 26 2 0) (fun σ1 =>
  nm (((σ1 7 2) - 1)) (fun z2 =>
  ∃ n9 : Nat, lp_X1_follow_17 Q n9 x1 z2 σ1))
theorem c_X1_follow  {σ : St} {x1 : Int32} {Q : St → Prop} (h : wp_X1_follow σ x1 Q) : ctV l yX1_follow cX1_follow 5 none rm_X1_follow D (wC cI cZ cH a n) (tyW cI cZ cH) [.ref (a 26), .int x1] σ Q := by
  refine mk_V (wC_ok cI cZ cH a n) (by decide +kernel) (Nat.le_of_ble_eq_true rfl) (fun p e s m args below meth c A X hr9 hlk9 => ?_)
  refine r_pick (lv' := [(0, .ref (a 26)), (1, .int x1)]) [0, 1] rfl ?_
  delta wp_X1_follow at h
  refine r_aload_n X 0 1 dX1_follow_0 rfl rfl rfl ?_
  refine r_iconst (v := 0) X 2 dX1_follow_1 (by decide) rfl ?_
  refine u_X1_19 X 5 dX1_follow_2 rfl ?_
  refine r_nmS h (fun σ1 h => ?_)
  refine r_iload_n X 1 6 dX1_follow_5 rfl rfl rfl ?_
  refine r_istore_n X 7 [(2, .int x1), (0, .ref (a 26)), (1, .int x1)] dX1_follow_6 rfl (by decide) rfl rfl ?_
  refine r_aload_n X 1 8 dX1_follow_7 rfl rfl rfl ?_
  refine g_X1_15 X 11 dX1_follow_8 rfl ?_
  refine g_X1_23 X (Or.inl rfl) 14 dX1_follow_11 rfl ?_
  refine r_iconst (v := 1) X 15 dX1_follow_14 (by decide) rfl ?_
  refine r_isub X 16 dX1_follow_15 rfl ?_
  refine r_istore_nN X 17 (fun z2 => [(3, .int z2), (2, .int x1), (0, .ref (a 26)), (1, .int x1)]) h dX1_follow_16 rfl (by decide) (fun _ => rfl) rfl (fun z2 h => ?_)
  refine r_pick (lv' := [(0, .ref (a 26)), (2, .int x1), (3, .int z2)]) [2, 1, 0] rfl ?_
  obtain ⟨n9, h⟩ := h
  exact wk_X1_follow_17 X hr9 hlk9 n9 h
def rm_X1_link : Room := { frames := 0, cells := 0, slots := 0, locals := 0 }
theorem dX1_link_0 : decode cX1_link 0 = .ok (.iload_n 1, 1) := by decide +kernel
theorem dX1_link_1 : decode cX1_link 1 = .ok (.ifCond .lt 27, 3) := by decide +kernel
theorem dX1_link_4 : decode cX1_link 4 = .ok (.iload_n 1, 1) := by decide +kernel
theorem dX1_link_5 : decode cX1_link 5 = .ok (.aload_n 0, 1) := by decide +kernel
theorem dX1_link_6 : decode cX1_link 6 = .ok (.getfield 19, 3) := by decide +kernel
theorem dX1_link_9 : decode cX1_link 9 = .ok (.if_icmp .ge 19, 3) := by decide +kernel
theorem dX1_link_12 : decode cX1_link 12 = .ok (.aload_n 0, 1) := by decide +kernel
theorem dX1_link_13 : decode cX1_link 13 = .ok (.getfield 9, 3) := by decide +kernel
theorem dX1_link_16 : decode cX1_link 16 = .ok (.aload_n 0, 1) := by decide +kernel
theorem dX1_link_17 : decode cX1_link 17 = .ok (.getfield 19, 3) := by decide +kernel
theorem dX1_link_20 : decode cX1_link 20 = .ok (.iconst 1, 1) := by decide +kernel
theorem dX1_link_21 : decode cX1_link 21 = .ok (.isub, 1) := by decide +kernel
theorem dX1_link_22 : decode cX1_link 22 = .ok (.iload_n 1, 1) := by decide +kernel
theorem dX1_link_23 : decode cX1_link 23 = .ok (.isub, 1) := by decide +kernel
theorem dX1_link_24 : decode cX1_link 24 = .ok (.iaload, 1) := by decide +kernel
theorem dX1_link_25 : decode cX1_link 25 = .ok (.goto 4, 3) := by decide +kernel
theorem dX1_link_28 : decode cX1_link 28 = .ok (.iconst (-1), 1) := by decide +kernel
theorem dX1_link_29 : decode cX1_link 29 = .ok (.ireturn, 1) := by decide +kernel
def wp_X1_link  (σ : St) (x1 : Int32) (Q : Int32 → St → Prop) : Prop :=
  if x1 < 0 then
  (Q (-1) σ)
  else (if x1 < (σ 26 2) then
  (vp_in (((σ 26 2) - 1) - x1) 400 ∧
  (Q (σ 27 (ix (((σ 26 2) - 1) - x1))) σ))
  else (Q (-1) σ))
theorem c_X1_link  {σ : St} {x1 : Int32} {Q : Int32 → St → Prop} (h : wp_X1_link σ x1 Q) : ctI l yX1_link cX1_link 2 (some .int) rm_X1_link D (wC cI cZ cH a n) (tyW cI cZ cH) [.ref (a 26), .int x1] σ Q := by
  refine mk_I (wC_ok cI cZ cH a n) (by decide +kernel) (Nat.le_of_ble_eq_true rfl) (fun p e s m args below meth c A X hr9 hlk9 => ?_)
  refine r_pick (lv' := [(0, .ref (a 26)), (1, .int x1)]) [0, 1] rfl ?_
  delta wp_X1_link at h
  refine r_iload_n X 1 1 dX1_link_0 rfl rfl rfl ?_
  refine r_if_lt X 28 4 h dX1_link_1 rfl rfl (fun h => ?_) (fun h => ?_)
  · refine r_iconst (v := (-1)) X 29 dX1_link_28 (by decide) rfl ?_
    exact r_iret X hr9 hlk9 h dX1_link_29
  · refine r_iload_n X 1 5 dX1_link_4 rfl rfl rfl ?_
    refine r_aload_n X 0 6 dX1_link_5 rfl rfl rfl ?_
    refine g_X1_19 X 9 dX1_link_6 rfl ?_
    refine r_icmp_ge X 28 12 h dX1_link_9 rfl rfl (fun h => ?_) (fun h => ?_)
    · refine r_iconst (v := (-1)) X 29 dX1_link_28 (by decide) rfl ?_
      exact r_iret X hr9 hlk9 h dX1_link_29
    · refine r_aload_n X 0 13 dX1_link_12 rfl rfl rfl ?_
      refine g_X1_9 X 16 dX1_link_13 rfl ?_
      refine r_aload_n X 0 17 dX1_link_16 rfl rfl rfl ?_
      refine g_X1_19 X 20 dX1_link_17 rfl ?_
      refine r_iconst (v := 1) X 21 dX1_link_20 (by decide) rfl ?_
      refine r_isub X 22 dX1_link_21 rfl ?_
      refine r_iload_n X 1 23 dX1_link_22 rfl rfl rfl ?_
      refine r_isub X 24 dX1_link_23 rfl ?_
      obtain ⟨hin, h⟩ := h
      refine l_C27 X 25 hin dX1_link_24 rfl ?_
      refine r_goto X 29 dX1_link_25 rfl ?_
      exact r_iret X hr9 hlk9 h dX1_link_29
def rm_X1_endOfGap : Room := { frames := 2, cells := 0, slots := 0, locals := 43 }
theorem dX1_endOfGap_0 : decode cX1_endOfGap 0 = .ok (.iload_n 1, 1) := by decide +kernel
theorem dX1_endOfGap_1 : decode cX1_endOfGap 1 = .ok (.istore_n 2, 1) := by decide +kernel
theorem dX1_endOfGap_2 : decode cX1_endOfGap 2 = .ok (.iconst 1, 1) := by decide +kernel
theorem dX1_endOfGap_3 : decode cX1_endOfGap 3 = .ok (.istore_n 3, 1) := by decide +kernel
theorem dX1_endOfGap_4 : decode cX1_endOfGap 4 = .ok (.iload_n 3, 1) := by decide +kernel
theorem dX1_endOfGap_5 : decode cX1_endOfGap 5 = .ok (.aload_n 0, 1) := by decide +kernel
theorem dX1_endOfGap_6 : decode cX1_endOfGap 6 = .ok (.getfield 19, 3) := by decide +kernel
theorem dX1_endOfGap_9 : decode cX1_endOfGap 9 = .ok (.if_icmp .ge 40, 3) := by decide +kernel
theorem dX1_endOfGap_12 : decode cX1_endOfGap 12 = .ok (.iload_n 2, 1) := by decide +kernel
theorem dX1_endOfGap_13 : decode cX1_endOfGap 13 = .ok (.ifCond .lt 36, 3) := by decide +kernel
theorem dX1_endOfGap_16 : decode cX1_endOfGap 16 = .ok (.aload_n 0, 1) := by decide +kernel
theorem dX1_endOfGap_17 : decode cX1_endOfGap 17 = .ok (.getfield 15, 3) := by decide +kernel
theorem dX1_endOfGap_20 : decode cX1_endOfGap 20 = .ok (.aload_n 0, 1) := by decide +kernel
theorem dX1_endOfGap_21 : decode cX1_endOfGap 21 = .ok (.iload_n 3, 1) := by decide +kernel
theorem dX1_endOfGap_22 : decode cX1_endOfGap 22 = .ok (.invokevirtual 47, 3) := by decide +kernel
theorem dX1_endOfGap_25 : decode cX1_endOfGap 25 = .ok (.iconst 0, 1) := by decide +kernel
theorem dX1_endOfGap_26 : decode cX1_endOfGap 26 = .ok (.invokevirtual 40, 3) := by decide +kernel
theorem dX1_endOfGap_29 : decode cX1_endOfGap 29 = .ok (.bipush 19, 2) := by decide +kernel
theorem dX1_endOfGap_31 : decode cX1_endOfGap 31 = .ok (.if_icmp .ne 12, 3) := by decide +kernel
theorem dX1_endOfGap_34 : decode cX1_endOfGap 34 = .ok (.iload_n 2, 1) := by decide +kernel
theorem dX1_endOfGap_35 : decode cX1_endOfGap 35 = .ok (.ifCond .ne 5, 3) := by decide +kernel
theorem dX1_endOfGap_38 : decode cX1_endOfGap 38 = .ok (.iload_n 3, 1) := by decide +kernel
theorem dX1_endOfGap_39 : decode cX1_endOfGap 39 = .ok (.ireturn, 1) := by decide +kernel
theorem dX1_endOfGap_40 : decode cX1_endOfGap 40 = .ok (.iinc 2 (-1), 3) := by decide +kernel
theorem dX1_endOfGap_43 : decode cX1_endOfGap 43 = .ok (.iinc 3 1, 3) := by decide +kernel
theorem dX1_endOfGap_46 : decode cX1_endOfGap 46 = .ok (.goto (-42), 3) := by decide +kernel
theorem dX1_endOfGap_49 : decode cX1_endOfGap 49 = .ok (.iconst (-1), 1) := by decide +kernel
theorem dX1_endOfGap_50 : decode cX1_endOfGap 50 = .ok (.ireturn, 1) := by decide +kernel
def j_X1_endOfGap_43  (Q : Int32 → St → Prop) (rec4 : Int32 → Int32 → St → Prop) (v2 : Int32) (v3 : Int32) (σ : St) : Prop :=
  rec4 v2 (v3 + 1) σ
theorem wk_X1_endOfGap_43 (X : cx p s m args c cX1_endOfGap 4 RX1 D (wC cI cZ cH a n) A (tyW cI cZ cH)) (hr9 : meth.sig.returnType = (some .int)) (hlk9 : meth.locks = false)  {Q : Int32 → St → Prop} {rec4 : Int32 → Int32 → St → Prop} (hrec4 : ∀ (v2 : Int32) (v3 : Int32) (σ : St), rec4 v2 v3 σ → go p l e rm_X1_endOfGap s m args below meth c D (wC cI cZ cH a n) A 0 0 (MQ below (va_Qi Q (atw D (wC cI cZ cH a n) (tyW cI cZ cH) A) A) args s 0 0 A) 4 4 [(0, .ref (a 26)), (2, .int v2), (3, .int v3)] [] σ) {v2 : Int32} {v3 : Int32} {σ : St} (h : j_X1_endOfGap_43 Q rec4 v2 v3 σ) : go p l e rm_X1_endOfGap s m args below meth c D (wC cI cZ cH a n) A 0 0 (MQ below (va_Qi Q (atw D (wC cI cZ cH a n) (tyW cI cZ cH) A) A) args s 0 0 A) 4 43 [(0, .ref (a 26)), (2, .int v2), (3, .int v3)] [] σ := by
  delta j_X1_endOfGap_43 at h
  refine r_iinc (d := 1) X 2 46 [(3, .int (v3 + 1)), (0, .ref (a 26)), (2, .int v2)] dX1_endOfGap_43 rfl (by decide) (by decide) rfl rfl ?_
  refine r_goto X 4 dX1_endOfGap_46 rfl ?_
  refine r_pick (lv' := [(0, .ref (a 26)), (2, .int v2), (3, .int (v3 + 1))]) [1, 2, 0] rfl ?_
  exact hrec4 _ _ _ h
def b_X1_endOfGap_4  (Q : Int32 → St → Prop) (rec4 : Int32 → Int32 → St → Prop) (v2 : Int32) (v3 : Int32) (σ : St) : Prop :=
  if v3 < (σ 26 2) then
  (if v2 < 0 then
  (Q (-1) σ)
  else (wp_X1_link σ v3 (fun y2 σ1 =>
  wp_X2_cell 7 σ1 y2 0 (fun y4 σ3 =>
  if y4 = 19 then
  (if v2 = 0 then
  (Q v3 σ3)
  else (j_X1_endOfGap_43 Q rec4 (v2 + (-1)) v3 σ3))
  else (j_X1_endOfGap_43 Q rec4 v2 v3 σ3)))))
  else (Q (-1) σ)
def lp_X1_endOfGap_4  (Q : Int32 → St → Prop) (n9 : Nat) : Int32 → Int32 → St → Prop :=
  Nat.rec (fun _ _ _ => False) (fun _ rec9 => b_X1_endOfGap_4  Q  rec9) n9
theorem wk_X1_endOfGap_4 (X : cx p s m args c cX1_endOfGap 4 RX1 D (wC cI cZ cH a n) A (tyW cI cZ cH)) (hr9 : meth.sig.returnType = (some .int)) (hlk9 : meth.locks = false)  {Q : Int32 → St → Prop} : ∀ (n9 : Nat) {v2 : Int32} {v3 : Int32} {σ : St}, lp_X1_endOfGap_4 Q n9 v2 v3 σ → go p l e rm_X1_endOfGap s m args below meth c D (wC cI cZ cH a n) A 0 0 (MQ below (va_Qi Q (atw D (wC cI cZ cH a n) (tyW cI cZ cH) A) A) args s 0 0 A) 4 4 [(0, .ref (a 26)), (2, .int v2), (3, .int v3)] [] σ := by
  intro n9
  induction n9 with
  | zero => intro v2 v3 σ h; exact h.elim
  | succ n9 ih =>
    intro v2 v3 σ h
    have hrec4 := fun v2 v3 σ h => ih (σ := σ) (v2 := v2) (v3 := v3) h
    replace h : b_X1_endOfGap_4 Q (lp_X1_endOfGap_4 Q n9) v2 v3 σ := h
    delta b_X1_endOfGap_4 at h
    refine r_iload_n X 2 5 dX1_endOfGap_4 rfl rfl rfl ?_
    refine r_aload_n X 0 6 dX1_endOfGap_5 rfl rfl rfl ?_
    refine g_X1_19 X 9 dX1_endOfGap_6 rfl ?_
    refine r_icmp_ge X 49 12 h dX1_endOfGap_9 rfl rfl (fun h => ?_) (fun h => ?_)
    · refine r_iconst (v := (-1)) X 50 dX1_endOfGap_49 (by decide) rfl ?_
      exact r_iret X hr9 hlk9 h dX1_endOfGap_50
    · refine r_iload_n X 1 13 dX1_endOfGap_12 rfl rfl rfl ?_
      refine r_if_lt X 49 16 h dX1_endOfGap_13 rfl rfl (fun h => ?_) (fun h => ?_)
      · refine r_iconst (v := (-1)) X 50 dX1_endOfGap_49 (by decide) rfl ?_
        exact r_iret X hr9 hlk9 h dX1_endOfGap_50
      · refine r_aload_n X 0 17 dX1_endOfGap_16 rfl rfl rfl ?_
        refine g_X1_15 X 20 dX1_endOfGap_17 rfl ?_
        refine r_aload_n X 0 21 dX1_endOfGap_20 rfl rfl rfl ?_
        refine r_iload_n X 2 22 dX1_endOfGap_21 rfl rfl rfl ?_
        refine r_callI (As := [.int v3]) (rest := [.ref (a 7)]) X 25 (c_X1_link h) ml_X1_47 lk_X1_link wC_at_26 rfl rfl rfl (Nat.le_of_ble_eq_true rfl) ⟨rfl, rfl, ⟨Nat.le_of_ble_eq_true rfl, Nat.le_of_ble_eq_true rfl⟩, Nat.le_of_ble_eq_true rfl, Nat.le_of_ble_eq_true rfl⟩ dX1_endOfGap_22 rfl (fun y2 σ1 h => ?_)
        refine r_iconst (v := 0) X 26 dX1_endOfGap_25 (by decide) rfl ?_
        refine r_callNI (As := [.int y2, .int 0]) (rest := []) X 29 (c_X2_cell (Or.inl rfl) h) ml_X1_40 lk_X2_cell (wC_at_r (Or.inl rfl)) rfl rfl rfl (Nat.le_of_ble_eq_true rfl) ⟨rfl, rfl, ⟨Nat.le_of_ble_eq_true rfl, Nat.le_of_ble_eq_true rfl⟩, Nat.le_of_ble_eq_true rfl, Nat.le_of_ble_eq_true rfl⟩ dX1_endOfGap_26 rfl (fun y4 σ3 h => ?_)
        refine r_bipush (v := 19) X 31 dX1_endOfGap_29 (by decide) rfl ?_
        refine r_icmp_ne X 43 34 h dX1_endOfGap_31 rfl rfl (fun h => ?_) (fun h => ?_)
        · refine r_pick (lv' := [(0, .ref (a 26)), (2, .int v2), (3, .int v3)]) [0, 1, 2] rfl ?_
          exact wk_X1_endOfGap_43 X hr9 hlk9 hrec4 h
        · refine r_iload_n X 1 35 dX1_endOfGap_34 rfl rfl rfl ?_
          refine r_if_ne X 40 38 h dX1_endOfGap_35 rfl rfl (fun h => ?_) (fun h => ?_)
          · refine r_iinc (d := (-1)) X 1 43 [(2, .int (v2 + (-1))), (0, .ref (a 26)), (3, .int v3)] dX1_endOfGap_40 rfl (by decide) (by decide) rfl rfl ?_
            refine r_pick (lv' := [(0, .ref (a 26)), (2, .int (v2 + (-1))), (3, .int v3)]) [1, 0, 2] rfl ?_
            exact wk_X1_endOfGap_43 X hr9 hlk9 hrec4 h
          · refine r_iload_n X 2 39 dX1_endOfGap_38 rfl rfl rfl ?_
            exact r_iret X hr9 hlk9 h dX1_endOfGap_39
def wp_X1_endOfGap  (σ : St) (x1 : Int32) (Q : Int32 → St → Prop) : Prop :=
  ∃ n9 : Nat, lp_X1_endOfGap_4 Q n9 x1 1 σ
theorem c_X1_endOfGap  {σ : St} {x1 : Int32} {Q : Int32 → St → Prop} (h : wp_X1_endOfGap σ x1 Q) : ctI l yX1_endOfGap cX1_endOfGap 4 (some .int) rm_X1_endOfGap D (wC cI cZ cH a n) (tyW cI cZ cH) [.ref (a 26), .int x1] σ Q := by
  refine mk_I (wC_ok cI cZ cH a n) (by decide +kernel) (Nat.le_of_ble_eq_true rfl) (fun p e s m args below meth c A X hr9 hlk9 => ?_)
  refine r_pick (lv' := [(0, .ref (a 26)), (1, .int x1)]) [0, 1] rfl ?_
  delta wp_X1_endOfGap at h
  refine r_iload_n X 1 1 dX1_endOfGap_0 rfl rfl rfl ?_
  refine r_istore_n X 2 [(2, .int x1), (0, .ref (a 26)), (1, .int x1)] dX1_endOfGap_1 rfl (by decide) rfl rfl ?_
  refine r_iconst (v := 1) X 3 dX1_endOfGap_2 (by decide) rfl ?_
  refine r_istore_n X 4 [(3, .int 1), (2, .int x1), (0, .ref (a 26)), (1, .int x1)] dX1_endOfGap_3 rfl (by decide) rfl rfl ?_
  refine r_pick (lv' := [(0, .ref (a 26)), (2, .int x1), (3, .int 1)]) [2, 1, 0] rfl ?_
  obtain ⟨n9, h⟩ := h
  exact wk_X1_endOfGap_4 X hr9 hlk9 n9 h
def rm_X2_putInOrder : Room := { frames := 2, cells := 0, slots := 0, locals := 43 }
theorem dX2_putInOrder_0 : decode cX2_putInOrder 0 = .ok (.aload_n 0, 1) := by decide +kernel
theorem dX2_putInOrder_1 : decode cX2_putInOrder 1 = .ok (.iload_n 1, 1) := by decide +kernel
theorem dX2_putInOrder_2 : decode cX2_putInOrder 2 = .ok (.invokevirtual 22, 3) := by decide +kernel
theorem dX2_putInOrder_5 : decode cX2_putInOrder 5 = .ok (.ifCond .ne 4, 3) := by decide +kernel
theorem dX2_putInOrder_8 : decode cX2_putInOrder 8 = .ok (.return_, 1) := by decide +kernel
theorem dX2_putInOrder_9 : decode cX2_putInOrder 9 = .ok (.aload_n 0, 1) := by decide +kernel
theorem dX2_putInOrder_10 : decode cX2_putInOrder 10 = .ok (.iload_n 1, 1) := by decide +kernel
theorem dX2_putInOrder_11 : decode cX2_putInOrder 11 = .ok (.bipush 6, 2) := by decide +kernel
theorem dX2_putInOrder_13 : decode cX2_putInOrder 13 = .ok (.invokevirtual 36, 3) := by decide +kernel
theorem dX2_putInOrder_16 : decode cX2_putInOrder 16 = .ok (.istore_n 2, 1) := by decide +kernel
theorem dX2_putInOrder_17 : decode cX2_putInOrder 17 = .ok (.iload_n 1, 1) := by decide +kernel
theorem dX2_putInOrder_18 : decode cX2_putInOrder 18 = .ok (.istore_n 3, 1) := by decide +kernel
theorem dX2_putInOrder_19 : decode cX2_putInOrder 19 = .ok (.iload_n 3, 1) := by decide +kernel
theorem dX2_putInOrder_20 : decode cX2_putInOrder 20 = .ok (.ifCond .le 41, 3) := by decide +kernel
theorem dX2_putInOrder_23 : decode cX2_putInOrder 23 = .ok (.aload_n 0, 1) := by decide +kernel
theorem dX2_putInOrder_24 : decode cX2_putInOrder 24 = .ok (.aload_n 0, 1) := by decide +kernel
theorem dX2_putInOrder_25 : decode cX2_putInOrder 25 = .ok (.getfield 15, 3) := by decide +kernel
theorem dX2_putInOrder_28 : decode cX2_putInOrder 28 = .ok (.iload_n 3, 1) := by decide +kernel
theorem dX2_putInOrder_29 : decode cX2_putInOrder 29 = .ok (.iconst 1, 1) := by decide +kernel
theorem dX2_putInOrder_30 : decode cX2_putInOrder 30 = .ok (.isub, 1) := by decide +kernel
theorem dX2_putInOrder_31 : decode cX2_putInOrder 31 = .ok (.iaload, 1) := by decide +kernel
theorem dX2_putInOrder_32 : decode cX2_putInOrder 32 = .ok (.bipush 6, 2) := by decide +kernel
theorem dX2_putInOrder_34 : decode cX2_putInOrder 34 = .ok (.invokevirtual 36, 3) := by decide +kernel
theorem dX2_putInOrder_37 : decode cX2_putInOrder 37 = .ok (.iload_n 2, 1) := by decide +kernel
theorem dX2_putInOrder_38 : decode cX2_putInOrder 38 = .ok (.if_icmp .le 23, 3) := by decide +kernel
theorem dX2_putInOrder_41 : decode cX2_putInOrder 41 = .ok (.aload_n 0, 1) := by decide +kernel
theorem dX2_putInOrder_42 : decode cX2_putInOrder 42 = .ok (.getfield 15, 3) := by decide +kernel
theorem dX2_putInOrder_45 : decode cX2_putInOrder 45 = .ok (.iload_n 3, 1) := by decide +kernel
theorem dX2_putInOrder_46 : decode cX2_putInOrder 46 = .ok (.aload_n 0, 1) := by decide +kernel
theorem dX2_putInOrder_47 : decode cX2_putInOrder 47 = .ok (.getfield 15, 3) := by decide +kernel
theorem dX2_putInOrder_50 : decode cX2_putInOrder 50 = .ok (.iload_n 3, 1) := by decide +kernel
theorem dX2_putInOrder_51 : decode cX2_putInOrder 51 = .ok (.iconst 1, 1) := by decide +kernel
theorem dX2_putInOrder_52 : decode cX2_putInOrder 52 = .ok (.isub, 1) := by decide +kernel
theorem dX2_putInOrder_53 : decode cX2_putInOrder 53 = .ok (.iaload, 1) := by decide +kernel
theorem dX2_putInOrder_54 : decode cX2_putInOrder 54 = .ok (.iastore, 1) := by decide +kernel
theorem dX2_putInOrder_55 : decode cX2_putInOrder 55 = .ok (.iinc 3 (-1), 3) := by decide +kernel
theorem dX2_putInOrder_58 : decode cX2_putInOrder 58 = .ok (.goto (-39), 3) := by decide +kernel
theorem dX2_putInOrder_61 : decode cX2_putInOrder 61 = .ok (.aload_n 0, 1) := by decide +kernel
theorem dX2_putInOrder_62 : decode cX2_putInOrder 62 = .ok (.getfield 15, 3) := by decide +kernel
theorem dX2_putInOrder_65 : decode cX2_putInOrder 65 = .ok (.iload_n 3, 1) := by decide +kernel
theorem dX2_putInOrder_66 : decode cX2_putInOrder 66 = .ok (.iload_n 1, 1) := by decide +kernel
theorem dX2_putInOrder_67 : decode cX2_putInOrder 67 = .ok (.iastore, 1) := by decide +kernel
theorem dX2_putInOrder_68 : decode cX2_putInOrder 68 = .ok (.return_, 1) := by decide +kernel
def j_X2_putInOrder_61 (r : Nat) (Q : St → Prop) (v1 : Int32) (v3 : Int32) (σ : St) : Prop :=
  vp_in v3 400 ∧
  nmS (up2 σ (r + 2) (ix v3) v1) (fun σ5 =>
  Q σ5)
theorem wk_X2_putInOrder_61 {r : Nat} (X : cx p s m args c cX2_putInOrder 4 RX2 D (wC cI cZ cH a n) A (tyW cI cZ cH)) (hr9 : meth.sig.returnType = none) (hlk9 : meth.locks = false) (hr : r = 7 ∨ r = 10) {Q : St → Prop} {v1 : Int32} {v3 : Int32} {σ : St} (h : j_X2_putInOrder_61 r Q v1 v3 σ) : go p l e rm_X2_putInOrder s m args below meth c D (wC cI cZ cH a n) A 0 0 (MQ below (va_Qv Q (atw D (wC cI cZ cH a n) (tyW cI cZ cH) A) A) args s 0 0 A) 4 61 [(0, .ref (a r)), (1, .int v1), (3, .int v3)] [] σ := by
  delta j_X2_putInOrder_61 at h
  refine r_aload_n X 0 62 dX2_putInOrder_61 rfl rfl rfl ?_
  refine g_X2_15 X hr 65 dX2_putInOrder_62 rfl ?_
  refine r_iload_n X 2 66 dX2_putInOrder_65 rfl rfl rfl ?_
  refine r_iload_n X 1 67 dX2_putInOrder_66 rfl rfl rfl ?_
  obtain ⟨hin, h⟩ := h
  refine s_Cr2 X hr 68 hin dX2_putInOrder_67 rfl ?_
  refine r_nmS h (fun σ5 h => ?_)
  exact r_vret X hr9 hlk9 h dX2_putInOrder_68
def b_X2_putInOrder_19 (r : Nat) (Q : St → Prop) (rec19 : Int32 → Int32 → Int32 → St → Prop) (v1 : Int32) (v2 : Int32) (v3 : Int32) (σ : St) : Prop :=
  if 0 < v3 then
  (vp_in (v3 - 1) 400 ∧
  (wp_X2_cell r σ (σ (r + 2) (ix (v3 - 1))) 6 (fun y7 σ6 =>
  if v2 < y7 then
  (vp_in (v3 - 1) 400 ∧
  (vp_in v3 400 ∧
  nmS (up2 σ6 (r + 2) (ix v3) (σ6 (r + 2) (ix (v3 - 1)))) (fun σ8 =>
  rec19 v1 v2 (v3 + (-1)) σ8)))
  else (j_X2_putInOrder_61 r Q v1 v3 σ6))))
  else (j_X2_putInOrder_61 r Q v1 v3 σ)
def lp_X2_putInOrder_19 (r : Nat) (Q : St → Prop) (n9 : Nat) : Int32 → Int32 → Int32 → St → Prop :=
  Nat.rec (fun _ _ _ _ => False) (fun _ rec9 => b_X2_putInOrder_19 r Q  rec9) n9
theorem wk_X2_putInOrder_19 {r : Nat} (X : cx p s m args c cX2_putInOrder 4 RX2 D (wC cI cZ cH a n) A (tyW cI cZ cH)) (hr9 : meth.sig.returnType = none) (hlk9 : meth.locks = false) (hr : r = 7 ∨ r = 10) {Q : St → Prop} : ∀ (n9 : Nat) {v1 : Int32} {v2 : Int32} {v3 : Int32} {σ : St}, lp_X2_putInOrder_19 r Q n9 v1 v2 v3 σ → go p l e rm_X2_putInOrder s m args below meth c D (wC cI cZ cH a n) A 0 0 (MQ below (va_Qv Q (atw D (wC cI cZ cH a n) (tyW cI cZ cH) A) A) args s 0 0 A) 4 19 [(0, .ref (a r)), (1, .int v1), (2, .int v2), (3, .int v3)] [] σ := by
  intro n9
  induction n9 with
  | zero => intro v1 v2 v3 σ h; exact h.elim
  | succ n9 ih =>
    intro v1 v2 v3 σ h
    have hrec19 := fun v1 v2 v3 σ h => ih (σ := σ) (v1 := v1) (v2 := v2) (v3 := v3) h
    replace h : b_X2_putInOrder_19 r Q (lp_X2_putInOrder_19 r Q n9) v1 v2 v3 σ := h
    delta b_X2_putInOrder_19 at h
    refine r_iload_n X 3 20 dX2_putInOrder_19 rfl rfl rfl ?_
    refine r_if_le X 61 23 h dX2_putInOrder_20 rfl rfl (fun h => ?_) (fun h => ?_)
    · refine r_pick (lv' := [(0, .ref (a r)), (1, .int v1), (3, .int v3)]) [0, 1, 3] rfl ?_
      exact wk_X2_putInOrder_61 X hr9 hlk9 hr h
    · refine r_aload_n X 0 24 dX2_putInOrder_23 rfl rfl rfl ?_
      refine r_aload_n X 0 25 dX2_putInOrder_24 rfl rfl rfl ?_
      refine g_X2_15 X hr 28 dX2_putInOrder_25 rfl ?_
      refine r_iload_n X 3 29 dX2_putInOrder_28 rfl rfl rfl ?_
      refine r_iconst (v := 1) X 30 dX2_putInOrder_29 (by decide) rfl ?_
      refine r_isub X 31 dX2_putInOrder_30 rfl ?_
      obtain ⟨hin, h⟩ := h
      refine l_Cr2 X hr 32 hin dX2_putInOrder_31 rfl ?_
      refine r_bipush (v := 6) X 34 dX2_putInOrder_32 (by decide) rfl ?_
      refine r_callI (As := [.int (σ (r + 2) (ix (v3 - 1))), .int 6]) (rest := []) X 37 (c_X2_cell hr h) ml_X2_36 lk_X2_cell (wC_at_r hr) rfl rfl rfl (Nat.le_of_ble_eq_true rfl) ⟨rfl, rfl, ⟨Nat.le_of_ble_eq_true rfl, Nat.le_of_ble_eq_true rfl⟩, Nat.le_of_ble_eq_true rfl, Nat.le_of_ble_eq_true rfl⟩ dX2_putInOrder_34 rfl (fun y7 σ6 h => ?_)
      refine r_iload_n X 2 38 dX2_putInOrder_37 rfl rfl rfl ?_
      refine r_icmp_le X 61 41 h dX2_putInOrder_38 rfl rfl (fun h => ?_) (fun h => ?_)
      · refine r_pick (lv' := [(0, .ref (a r)), (1, .int v1), (3, .int v3)]) [0, 1, 3] rfl ?_
        exact wk_X2_putInOrder_61 X hr9 hlk9 hr h
      · refine r_aload_n X 0 42 dX2_putInOrder_41 rfl rfl rfl ?_
        refine g_X2_15 X hr 45 dX2_putInOrder_42 rfl ?_
        refine r_iload_n X 3 46 dX2_putInOrder_45 rfl rfl rfl ?_
        refine r_aload_n X 0 47 dX2_putInOrder_46 rfl rfl rfl ?_
        refine g_X2_15 X hr 50 dX2_putInOrder_47 rfl ?_
        refine r_iload_n X 3 51 dX2_putInOrder_50 rfl rfl rfl ?_
        refine r_iconst (v := 1) X 52 dX2_putInOrder_51 (by decide) rfl ?_
        refine r_isub X 53 dX2_putInOrder_52 rfl ?_
        obtain ⟨hin, h⟩ := h
        refine l_Cr2 X hr 54 hin dX2_putInOrder_53 rfl ?_
        obtain ⟨hin, h⟩ := h
        refine s_Cr2 X hr 55 hin dX2_putInOrder_54 rfl ?_
        refine r_nmS h (fun σ8 h => ?_)
        refine r_iinc (d := (-1)) X 3 58 [(3, .int (v3 + (-1))), (0, .ref (a r)), (1, .int v1), (2, .int v2)] dX2_putInOrder_55 rfl (by decide) (by decide) rfl rfl ?_
        refine r_goto X 19 dX2_putInOrder_58 rfl ?_
        refine r_pick (lv' := [(0, .ref (a r)), (1, .int v1), (2, .int v2), (3, .int (v3 + (-1)))]) [1, 2, 3, 0] rfl ?_
        exact hrec19 _ _ _ _ h
def wp_X2_putInOrder (r : Nat) (σ : St) (x1 : Int32) (Q : St → Prop) : Prop :=
  wp_X2_has r σ x1 (fun y2 σ1 =>
  if y2 = 0 then
  (Q σ1)
  else (wp_X2_cell r σ1 x1 6 (fun y4 σ3 =>
  ∃ n9 : Nat, lp_X2_putInOrder_19 r Q n9 x1 y4 x1 σ3)))
theorem c_X2_putInOrder {r : Nat} (hr : r = 7 ∨ r = 10) {σ : St} {x1 : Int32} {Q : St → Prop} (h : wp_X2_putInOrder r σ x1 Q) : ctV l yX2_putInOrder cX2_putInOrder 4 none rm_X2_putInOrder D (wC cI cZ cH a n) (tyW cI cZ cH) [.ref (a r), .int x1] σ Q := by
  refine mk_V (wC_ok cI cZ cH a n) (by decide +kernel) (Nat.le_of_ble_eq_true rfl) (fun p e s m args below meth c A X hr9 hlk9 => ?_)
  refine r_pick (lv' := [(0, .ref (a r)), (1, .int x1)]) [0, 1] rfl ?_
  delta wp_X2_putInOrder at h
  refine r_aload_n X 0 1 dX2_putInOrder_0 rfl rfl rfl ?_
  refine r_iload_n X 1 2 dX2_putInOrder_1 rfl rfl rfl ?_
  refine r_callI (As := [.int x1]) (rest := []) X 5 (c_X2_has hr h) ml_X2_22 lk_X2_has (wC_at_r hr) rfl rfl rfl (Nat.le_of_ble_eq_true rfl) ⟨rfl, rfl, ⟨Nat.le_of_ble_eq_true rfl, Nat.le_of_ble_eq_true rfl⟩, Nat.le_of_ble_eq_true rfl, Nat.le_of_ble_eq_true rfl⟩ dX2_putInOrder_2 rfl (fun y2 σ1 h => ?_)
  obtain ⟨hb_y2, h⟩ := h
  refine r_if_ne X 9 8 h dX2_putInOrder_5 rfl rfl (fun h => ?_) (fun h => ?_)
  · refine r_aload_n X 0 10 dX2_putInOrder_9 rfl rfl rfl ?_
    refine r_iload_n X 1 11 dX2_putInOrder_10 rfl rfl rfl ?_
    refine r_bipush (v := 6) X 13 dX2_putInOrder_11 (by decide) rfl ?_
    refine r_callI (As := [.int x1, .int 6]) (rest := []) X 16 (c_X2_cell hr h) ml_X2_36 lk_X2_cell (wC_at_r hr) rfl rfl rfl (Nat.le_of_ble_eq_true rfl) ⟨rfl, rfl, ⟨Nat.le_of_ble_eq_true rfl, Nat.le_of_ble_eq_true rfl⟩, Nat.le_of_ble_eq_true rfl, Nat.le_of_ble_eq_true rfl⟩ dX2_putInOrder_13 rfl (fun y4 σ3 h => ?_)
    refine r_istore_n X 17 [(2, .int y4), (0, .ref (a r)), (1, .int x1)] dX2_putInOrder_16 rfl (by decide) rfl rfl ?_
    refine r_iload_n X 2 18 dX2_putInOrder_17 rfl rfl rfl ?_
    refine r_istore_n X 19 [(3, .int x1), (2, .int y4), (0, .ref (a r)), (1, .int x1)] dX2_putInOrder_18 rfl (by decide) rfl rfl ?_
    refine r_pick (lv' := [(0, .ref (a r)), (1, .int x1), (2, .int y4), (3, .int x1)]) [2, 3, 1, 0] rfl ?_
    obtain ⟨n9, h⟩ := h
    exact wk_X2_putInOrder_19 X hr9 hlk9 hr n9 h
  · exact r_vret X hr9 hlk9 h dX2_putInOrder_8
def rm_X2_add : Room := { frames := 3, cells := 0, slots := 0, locals := 66 }
theorem dX2_add_0 : decode cX2_add 0 = .ok (.aload_n 0, 1) := by decide +kernel
theorem dX2_add_1 : decode cX2_add 1 = .ok (.getfield 18, 3) := by decide +kernel
theorem dX2_add_4 : decode cX2_add 4 = .ok (.sipush 400, 3) := by decide +kernel
theorem dX2_add_7 : decode cX2_add 7 = .ok (.if_icmp .ge 10, 3) := by decide +kernel
theorem dX2_add_10 : decode cX2_add 10 = .ok (.aload_n 1, 1) := by decide +kernel
theorem dX2_add_11 : decode cX2_add 11 = .ok (.arraylength, 1) := by decide +kernel
theorem dX2_add_12 : decode cX2_add 12 = .ok (.bipush 8, 2) := by decide +kernel
theorem dX2_add_14 : decode cX2_add 14 = .ok (.if_icmp .ge 4, 3) := by decide +kernel
theorem dX2_add_17 : decode cX2_add 17 = .ok (.return_, 1) := by decide +kernel
theorem dX2_add_18 : decode cX2_add 18 = .ok (.aload_n 1, 1) := by decide +kernel
theorem dX2_add_19 : decode cX2_add 19 = .ok (.iconst 0, 1) := by decide +kernel
theorem dX2_add_20 : decode cX2_add 20 = .ok (.aload_n 0, 1) := by decide +kernel
theorem dX2_add_21 : decode cX2_add 21 = .ok (.getfield 9, 3) := by decide +kernel
theorem dX2_add_24 : decode cX2_add 24 = .ok (.aload_n 0, 1) := by decide +kernel
theorem dX2_add_25 : decode cX2_add 25 = .ok (.getfield 18, 3) := by decide +kernel
theorem dX2_add_28 : decode cX2_add 28 = .ok (.bipush 8, 2) := by decide +kernel
theorem dX2_add_30 : decode cX2_add 30 = .ok (.imul, 1) := by decide +kernel
theorem dX2_add_31 : decode cX2_add 31 = .ok (.bipush 8, 2) := by decide +kernel
theorem dX2_add_33 : decode cX2_add 33 = .ok (.invokestatic 26, 3) := by decide +kernel
theorem dX2_add_36 : decode cX2_add 36 = .ok (.aload_n 0, 1) := by decide +kernel
theorem dX2_add_37 : decode cX2_add 37 = .ok (.dup, 1) := by decide +kernel
theorem dX2_add_38 : decode cX2_add 38 = .ok (.getfield 18, 3) := by decide +kernel
theorem dX2_add_41 : decode cX2_add 41 = .ok (.iconst 1, 1) := by decide +kernel
theorem dX2_add_42 : decode cX2_add 42 = .ok (.iadd, 1) := by decide +kernel
theorem dX2_add_43 : decode cX2_add 43 = .ok (.putfield 18, 3) := by decide +kernel
theorem dX2_add_46 : decode cX2_add 46 = .ok (.aload_n 0, 1) := by decide +kernel
theorem dX2_add_47 : decode cX2_add 47 = .ok (.aload_n 0, 1) := by decide +kernel
theorem dX2_add_48 : decode cX2_add 48 = .ok (.getfield 18, 3) := by decide +kernel
theorem dX2_add_51 : decode cX2_add 51 = .ok (.iconst 1, 1) := by decide +kernel
theorem dX2_add_52 : decode cX2_add 52 = .ok (.isub, 1) := by decide +kernel
theorem dX2_add_53 : decode cX2_add 53 = .ok (.invokevirtual 32, 3) := by decide +kernel
theorem dX2_add_56 : decode cX2_add 56 = .ok (.return_, 1) := by decide +kernel
def wp_X2_add (r : Nat) (σ : St) (Q : St → Prop) : Prop :=
  if (σ r 2) < 400 then
  (if (8 : Int32) < 8 then
  (Q σ)
  else ((¬ ((0 : Int32)) < 0 ∧ ¬ ((((σ r 2) * 8) : Int32)) < 0 ∧ ¬ ((8 : Int32)) < 0 ∧ ix 0 + ix 8 ≤ 8 ∧ ix ((σ r 2) * 8) + ix 8 ≤ 3200) ∧ nmS (upr σ (r + 1) (va_cpy (σ 29) (σ (r + 1)) (ix 0) (ix ((σ r 2) * 8)) (ix 8))) (fun σ1 =>
  nmS (up2 σ1 r 2 ((σ1 r 2) + 1)) (fun σ2 =>
  wp_X2_putInOrder r σ2 ((σ2 r 2) - 1) (fun σ3 =>
  Q σ3)))))
  else (Q σ)
theorem c_X2_add {r : Nat} (hr : r = 7 ∨ r = 10) {σ : St} {Q : St → Prop} (h : wp_X2_add r σ Q) : ctV l yX2_add cX2_add 2 none rm_X2_add D (wC cI cZ cH a n) (tyW cI cZ cH) [.ref (a r), .ref (a 29)] σ Q := by
  refine mk_V (wC_ok cI cZ cH a n) (by decide +kernel) (Nat.le_of_ble_eq_true rfl) (fun p e s m args below meth c A X hr9 hlk9 => ?_)
  refine r_pick (lv' := [(0, .ref (a r)), (1, .ref (a 29))]) [0, 1] rfl ?_
  delta wp_X2_add at h
  refine r_aload_n X 0 1 dX2_add_0 rfl rfl rfl ?_
  refine g_X2_18 X hr 4 dX2_add_1 rfl ?_
  refine r_sipush (v := 400) X 7 dX2_add_4 (by decide) rfl ?_
  refine r_icmp_ge X 17 10 h dX2_add_7 rfl rfl (fun h => ?_) (fun h => ?_)
  · exact r_vret X hr9 hlk9 h dX2_add_17
  · refine r_aload_n X 1 11 dX2_add_10 rfl rfl rfl ?_
    refine n_C29 X 12 dX2_add_11 rfl ?_
    refine r_bipush (v := 8) X 14 dX2_add_12 (by decide) rfl ?_
    refine r_icmp_ge X 18 17 h dX2_add_14 rfl rfl (fun h => ?_) (fun h => ?_)
    · refine r_aload_n X 1 19 dX2_add_18 rfl rfl rfl ?_
      refine r_iconst (v := 0) X 20 dX2_add_19 (by decide) rfl ?_
      refine r_aload_n X 0 21 dX2_add_20 rfl rfl rfl ?_
      refine g_X2_9 X hr 24 dX2_add_21 rfl ?_
      refine r_aload_n X 0 25 dX2_add_24 rfl rfl rfl ?_
      refine g_X2_18 X hr 28 dX2_add_25 rfl ?_
      refine r_bipush (v := 8) X 30 dX2_add_28 (by decide) rfl ?_
      refine r_imul X 31 dX2_add_30 rfl ?_
      refine r_bipush (v := 8) X 33 dX2_add_31 (by decide) rfl ?_
      obtain ⟨⟨ha1, ha2, ha3, ha4, ha5⟩, h⟩ := h
      refine r_copyi (q0 := 29) (q1 := (r + 1)) (t0 := 0) X 36 wC_at_29 (wC_at_r1 hr) rfl ha1 ha2 ha3 ha4 ha5 ml_X2_26 ac_nat ac_st ini_J10 (Nat.le_of_ble_eq_true rfl) (Nat.le_of_ble_eq_true rfl) (wC_set_r1 hr) dX2_add_33 rfl ?_
      refine r_nmS h (fun σ1 h => ?_)
      refine r_aload_n X 0 37 dX2_add_36 rfl rfl rfl ?_
      refine r_dup X 38 dX2_add_37 rfl rfl ?_
      refine g_X2_18 X hr 41 dX2_add_38 rfl ?_
      refine r_iconst (v := 1) X 42 dX2_add_41 (by decide) rfl ?_
      refine r_iadd X 43 dX2_add_42 rfl ?_
      refine u_X2_18 X hr 46 dX2_add_43 rfl ?_
      refine r_nmS h (fun σ2 h => ?_)
      refine r_aload_n X 0 47 dX2_add_46 rfl rfl rfl ?_
      refine r_aload_n X 0 48 dX2_add_47 rfl rfl rfl ?_
      refine g_X2_18 X hr 51 dX2_add_48 rfl ?_
      refine r_iconst (v := 1) X 52 dX2_add_51 (by decide) rfl ?_
      refine r_isub X 53 dX2_add_52 rfl ?_
      refine r_callV (As := [.int ((σ2 r 2) - 1)]) (rest := []) X 56 (c_X2_putInOrder hr h) ml_X2_32 lk_X2_putInOrder (wC_at_r hr) rfl rfl rfl (Nat.le_of_ble_eq_true rfl) ⟨rfl, rfl, ⟨Nat.le_of_ble_eq_true rfl, Nat.le_of_ble_eq_true rfl⟩, Nat.le_of_ble_eq_true rfl, Nat.le_of_ble_eq_true rfl⟩ dX2_add_53 rfl (fun σ3 h => ?_)
      exact r_vret X hr9 hlk9 h dX2_add_56
    · exact r_vret X hr9 hlk9 h dX2_add_17
def rm_X2_dropLast : Room := { frames := 0, cells := 0, slots := 0, locals := 0 }
theorem dX2_dropLast_0 : decode cX2_dropLast 0 = .ok (.aload_n 0, 1) := by decide +kernel
theorem dX2_dropLast_1 : decode cX2_dropLast 1 = .ok (.getfield 18, 3) := by decide +kernel
theorem dX2_dropLast_4 : decode cX2_dropLast 4 = .ok (.ifCond .gt 4, 3) := by decide +kernel
theorem dX2_dropLast_7 : decode cX2_dropLast 7 = .ok (.return_, 1) := by decide +kernel
theorem dX2_dropLast_8 : decode cX2_dropLast 8 = .ok (.aload_n 0, 1) := by decide +kernel
theorem dX2_dropLast_9 : decode cX2_dropLast 9 = .ok (.dup, 1) := by decide +kernel
theorem dX2_dropLast_10 : decode cX2_dropLast 10 = .ok (.getfield 18, 3) := by decide +kernel
theorem dX2_dropLast_13 : decode cX2_dropLast 13 = .ok (.iconst 1, 1) := by decide +kernel
theorem dX2_dropLast_14 : decode cX2_dropLast 14 = .ok (.isub, 1) := by decide +kernel
theorem dX2_dropLast_15 : decode cX2_dropLast 15 = .ok (.putfield 18, 3) := by decide +kernel
theorem dX2_dropLast_18 : decode cX2_dropLast 18 = .ok (.iconst 0, 1) := by decide +kernel
theorem dX2_dropLast_19 : decode cX2_dropLast 19 = .ok (.istore_n 1, 1) := by decide +kernel
theorem dX2_dropLast_20 : decode cX2_dropLast 20 = .ok (.iconst 0, 1) := by decide +kernel
theorem dX2_dropLast_21 : decode cX2_dropLast 21 = .ok (.istore_n 2, 1) := by decide +kernel
theorem dX2_dropLast_22 : decode cX2_dropLast 22 = .ok (.iload_n 2, 1) := by decide +kernel
theorem dX2_dropLast_23 : decode cX2_dropLast 23 = .ok (.aload_n 0, 1) := by decide +kernel
theorem dX2_dropLast_24 : decode cX2_dropLast 24 = .ok (.getfield 18, 3) := by decide +kernel
theorem dX2_dropLast_27 : decode cX2_dropLast 27 = .ok (.if_icmp .ge 50, 3) := by decide +kernel
theorem dX2_dropLast_30 : decode cX2_dropLast 30 = .ok (.iload_n 1, 1) := by decide +kernel
theorem dX2_dropLast_31 : decode cX2_dropLast 31 = .ok (.ifCond .ne 16, 3) := by decide +kernel
theorem dX2_dropLast_34 : decode cX2_dropLast 34 = .ok (.aload_n 0, 1) := by decide +kernel
theorem dX2_dropLast_35 : decode cX2_dropLast 35 = .ok (.getfield 15, 3) := by decide +kernel
theorem dX2_dropLast_38 : decode cX2_dropLast 38 = .ok (.iload_n 2, 1) := by decide +kernel
theorem dX2_dropLast_39 : decode cX2_dropLast 39 = .ok (.iaload, 1) := by decide +kernel
theorem dX2_dropLast_40 : decode cX2_dropLast 40 = .ok (.aload_n 0, 1) := by decide +kernel
theorem dX2_dropLast_41 : decode cX2_dropLast 41 = .ok (.getfield 18, 3) := by decide +kernel
theorem dX2_dropLast_44 : decode cX2_dropLast 44 = .ok (.if_icmp .ne 7, 3) := by decide +kernel
theorem dX2_dropLast_47 : decode cX2_dropLast 47 = .ok (.iconst 1, 1) := by decide +kernel
theorem dX2_dropLast_48 : decode cX2_dropLast 48 = .ok (.goto 4, 3) := by decide +kernel
theorem dX2_dropLast_51 : decode cX2_dropLast 51 = .ok (.iconst 0, 1) := by decide +kernel
theorem dX2_dropLast_52 : decode cX2_dropLast 52 = .ok (.istore_n 1, 1) := by decide +kernel
theorem dX2_dropLast_53 : decode cX2_dropLast 53 = .ok (.iload_n 1, 1) := by decide +kernel
theorem dX2_dropLast_54 : decode cX2_dropLast 54 = .ok (.ifCond .eq 17, 3) := by decide +kernel
theorem dX2_dropLast_57 : decode cX2_dropLast 57 = .ok (.aload_n 0, 1) := by decide +kernel
theorem dX2_dropLast_58 : decode cX2_dropLast 58 = .ok (.getfield 15, 3) := by decide +kernel
theorem dX2_dropLast_61 : decode cX2_dropLast 61 = .ok (.iload_n 2, 1) := by decide +kernel
theorem dX2_dropLast_62 : decode cX2_dropLast 62 = .ok (.aload_n 0, 1) := by decide +kernel
theorem dX2_dropLast_63 : decode cX2_dropLast 63 = .ok (.getfield 15, 3) := by decide +kernel
theorem dX2_dropLast_66 : decode cX2_dropLast 66 = .ok (.iload_n 2, 1) := by decide +kernel
theorem dX2_dropLast_67 : decode cX2_dropLast 67 = .ok (.iconst 1, 1) := by decide +kernel
theorem dX2_dropLast_68 : decode cX2_dropLast 68 = .ok (.iadd, 1) := by decide +kernel
theorem dX2_dropLast_69 : decode cX2_dropLast 69 = .ok (.iaload, 1) := by decide +kernel
theorem dX2_dropLast_70 : decode cX2_dropLast 70 = .ok (.iastore, 1) := by decide +kernel
theorem dX2_dropLast_71 : decode cX2_dropLast 71 = .ok (.iinc 2 1, 3) := by decide +kernel
theorem dX2_dropLast_74 : decode cX2_dropLast 74 = .ok (.goto (-52), 3) := by decide +kernel
theorem dX2_dropLast_77 : decode cX2_dropLast 77 = .ok (.return_, 1) := by decide +kernel
def j_X2_dropLast_71 (r : Nat) (Q : St → Prop) (rec22 : Int32 → Int32 → St → Prop) (v1 : Int32) (v2 : Int32) (σ : St) : Prop :=
  rec22 v1 (v2 + 1) σ
theorem wk_X2_dropLast_71 {r : Nat} (X : cx p s m args c cX2_dropLast 3 RX2 D (wC cI cZ cH a n) A (tyW cI cZ cH)) (hr9 : meth.sig.returnType = none) (hlk9 : meth.locks = false) (hr : r = 7 ∨ r = 10) {Q : St → Prop} {rec22 : Int32 → Int32 → St → Prop} (hrec22 : ∀ (v1 : Int32) (v2 : Int32) (σ : St), rec22 v1 v2 σ → go p l e rm_X2_dropLast s m args below meth c D (wC cI cZ cH a n) A 0 0 (MQ below (va_Qv Q (atw D (wC cI cZ cH a n) (tyW cI cZ cH) A) A) args s 0 0 A) 3 22 [(0, .ref (a r)), (1, .int v1), (2, .int v2)] [] σ) {v1 : Int32} {v2 : Int32} {σ : St} (h : j_X2_dropLast_71 r Q rec22 v1 v2 σ) : go p l e rm_X2_dropLast s m args below meth c D (wC cI cZ cH a n) A 0 0 (MQ below (va_Qv Q (atw D (wC cI cZ cH a n) (tyW cI cZ cH) A) A) args s 0 0 A) 3 71 [(0, .ref (a r)), (1, .int v1), (2, .int v2)] [] σ := by
  delta j_X2_dropLast_71 at h
  refine r_iinc (d := 1) X 2 74 [(2, .int (v2 + 1)), (0, .ref (a r)), (1, .int v1)] dX2_dropLast_71 rfl (by decide) (by decide) rfl rfl ?_
  refine r_goto X 22 dX2_dropLast_74 rfl ?_
  refine r_pick (lv' := [(0, .ref (a r)), (1, .int v1), (2, .int (v2 + 1))]) [1, 2, 0] rfl ?_
  exact hrec22 _ _ _ h
def j_X2_dropLast_52 (r : Nat) (Q : St → Prop) (rec22 : Int32 → Int32 → St → Prop) (v2 : Int32) (s0 : Int32) (σ : St) : Prop :=
  if s0 = 0 then
  (j_X2_dropLast_71 r Q rec22 s0 v2 σ)
  else (vp_in (v2 + 1) 400 ∧
  (vp_in v2 400 ∧
  nmS (up2 σ (r + 2) (ix v2) (σ (r + 2) (ix (v2 + 1)))) (fun σ2 =>
  j_X2_dropLast_71 r Q rec22 s0 v2 σ2)))
theorem wk_X2_dropLast_52 {r : Nat} (X : cx p s m args c cX2_dropLast 3 RX2 D (wC cI cZ cH a n) A (tyW cI cZ cH)) (hr9 : meth.sig.returnType = none) (hlk9 : meth.locks = false) (hr : r = 7 ∨ r = 10) {Q : St → Prop} {rec22 : Int32 → Int32 → St → Prop} (hrec22 : ∀ (v1 : Int32) (v2 : Int32) (σ : St), rec22 v1 v2 σ → go p l e rm_X2_dropLast s m args below meth c D (wC cI cZ cH a n) A 0 0 (MQ below (va_Qv Q (atw D (wC cI cZ cH a n) (tyW cI cZ cH) A) A) args s 0 0 A) 3 22 [(0, .ref (a r)), (1, .int v1), (2, .int v2)] [] σ) {v2 : Int32} {s0 : Int32} {σ : St} (h : j_X2_dropLast_52 r Q rec22 v2 s0 σ) : go p l e rm_X2_dropLast s m args below meth c D (wC cI cZ cH a n) A 0 0 (MQ below (va_Qv Q (atw D (wC cI cZ cH a n) (tyW cI cZ cH) A) A) args s 0 0 A) 3 52 [(0, .ref (a r)), (2, .int v2)] [.int s0] σ := by
  delta j_X2_dropLast_52 at h
  refine r_istore_n X 53 [(1, .int s0), (0, .ref (a r)), (2, .int v2)] dX2_dropLast_52 rfl (by decide) rfl rfl ?_
  refine r_iload_n X 0 54 dX2_dropLast_53 rfl rfl rfl ?_
  refine r_if_eq X 71 57 h dX2_dropLast_54 rfl rfl (fun h => ?_) (fun h => ?_)
  · refine r_pick (lv' := [(0, .ref (a r)), (1, .int s0), (2, .int v2)]) [1, 0, 2] rfl ?_
    exact wk_X2_dropLast_71 X hr9 hlk9 hr hrec22 h
  · refine r_aload_n X 1 58 dX2_dropLast_57 rfl rfl rfl ?_
    refine g_X2_15 X hr 61 dX2_dropLast_58 rfl ?_
    refine r_iload_n X 2 62 dX2_dropLast_61 rfl rfl rfl ?_
    refine r_aload_n X 1 63 dX2_dropLast_62 rfl rfl rfl ?_
    refine g_X2_15 X hr 66 dX2_dropLast_63 rfl ?_
    refine r_iload_n X 2 67 dX2_dropLast_66 rfl rfl rfl ?_
    refine r_iconst (v := 1) X 68 dX2_dropLast_67 (by decide) rfl ?_
    refine r_iadd X 69 dX2_dropLast_68 rfl ?_
    obtain ⟨hin, h⟩ := h
    refine l_Cr2 X hr 70 hin dX2_dropLast_69 rfl ?_
    obtain ⟨hin, h⟩ := h
    refine s_Cr2 X hr 71 hin dX2_dropLast_70 rfl ?_
    refine r_nmS h (fun σ2 h => ?_)
    refine r_pick (lv' := [(0, .ref (a r)), (1, .int s0), (2, .int v2)]) [1, 0, 2] rfl ?_
    exact wk_X2_dropLast_71 X hr9 hlk9 hr hrec22 h
def j_X2_dropLast_47 (r : Nat) (Q : St → Prop) (rec22 : Int32 → Int32 → St → Prop) (v2 : Int32) (σ : St) : Prop :=
  j_X2_dropLast_52 r Q rec22 v2 1 σ
theorem wk_X2_dropLast_47 {r : Nat} (X : cx p s m args c cX2_dropLast 3 RX2 D (wC cI cZ cH a n) A (tyW cI cZ cH)) (hr9 : meth.sig.returnType = none) (hlk9 : meth.locks = false) (hr : r = 7 ∨ r = 10) {Q : St → Prop} {rec22 : Int32 → Int32 → St → Prop} (hrec22 : ∀ (v1 : Int32) (v2 : Int32) (σ : St), rec22 v1 v2 σ → go p l e rm_X2_dropLast s m args below meth c D (wC cI cZ cH a n) A 0 0 (MQ below (va_Qv Q (atw D (wC cI cZ cH a n) (tyW cI cZ cH) A) A) args s 0 0 A) 3 22 [(0, .ref (a r)), (1, .int v1), (2, .int v2)] [] σ) {v2 : Int32} {σ : St} (h : j_X2_dropLast_47 r Q rec22 v2 σ) : go p l e rm_X2_dropLast s m args below meth c D (wC cI cZ cH a n) A 0 0 (MQ below (va_Qv Q (atw D (wC cI cZ cH a n) (tyW cI cZ cH) A) A) args s 0 0 A) 3 47 [(0, .ref (a r)), (2, .int v2)] [] σ := by
  delta j_X2_dropLast_47 at h
  refine r_iconst (v := 1) X 48 dX2_dropLast_47 (by decide) rfl ?_
  refine r_goto X 52 dX2_dropLast_48 rfl ?_
  refine r_pick (lv' := [(0, .ref (a r)), (2, .int v2)]) [0, 1] rfl ?_
  exact wk_X2_dropLast_52 X hr9 hlk9 hr hrec22 h
def b_X2_dropLast_22 (r : Nat) (Q : St → Prop) (rec22 : Int32 → Int32 → St → Prop) (v1 : Int32) (v2 : Int32) (σ : St) : Prop :=
  if v2 < (σ r 2) then
  (if v1 = 0 then
  (vp_in v2 400 ∧
  (if (σ (r + 2) (ix v2)) = (σ r 2) then
  (j_X2_dropLast_47 r Q rec22 v2 σ)
  else (j_X2_dropLast_52 r Q rec22 v2 0 σ)))
  else (j_X2_dropLast_47 r Q rec22 v2 σ))
  else (Q σ)
def lp_X2_dropLast_22 (r : Nat) (Q : St → Prop) (n9 : Nat) : Int32 → Int32 → St → Prop :=
  Nat.rec (fun _ _ _ => False) (fun _ rec9 => b_X2_dropLast_22 r Q  rec9) n9
theorem wk_X2_dropLast_22 {r : Nat} (X : cx p s m args c cX2_dropLast 3 RX2 D (wC cI cZ cH a n) A (tyW cI cZ cH)) (hr9 : meth.sig.returnType = none) (hlk9 : meth.locks = false) (hr : r = 7 ∨ r = 10) {Q : St → Prop} : ∀ (n9 : Nat) {v1 : Int32} {v2 : Int32} {σ : St}, lp_X2_dropLast_22 r Q n9 v1 v2 σ → go p l e rm_X2_dropLast s m args below meth c D (wC cI cZ cH a n) A 0 0 (MQ below (va_Qv Q (atw D (wC cI cZ cH a n) (tyW cI cZ cH) A) A) args s 0 0 A) 3 22 [(0, .ref (a r)), (1, .int v1), (2, .int v2)] [] σ := by
  intro n9
  induction n9 with
  | zero => intro v1 v2 σ h; exact h.elim
  | succ n9 ih =>
    intro v1 v2 σ h
    have hrec22 := fun v1 v2 σ h => ih (σ := σ) (v1 := v1) (v2 := v2) h
    replace h : b_X2_dropLast_22 r Q (lp_X2_dropLast_22 r Q n9) v1 v2 σ := h
    delta b_X2_dropLast_22 at h
    refine r_iload_n X 2 23 dX2_dropLast_22 rfl rfl rfl ?_
    refine r_aload_n X 0 24 dX2_dropLast_23 rfl rfl rfl ?_
    refine g_X2_18 X hr 27 dX2_dropLast_24 rfl ?_
    refine r_icmp_ge X 77 30 h dX2_dropLast_27 rfl rfl (fun h => ?_) (fun h => ?_)
    · exact r_vret X hr9 hlk9 h dX2_dropLast_77
    · refine r_iload_n X 1 31 dX2_dropLast_30 rfl rfl rfl ?_
      refine r_if_ne X 47 34 h dX2_dropLast_31 rfl rfl (fun h => ?_) (fun h => ?_)
      · refine r_pick (lv' := [(0, .ref (a r)), (2, .int v2)]) [0, 2] rfl ?_
        exact wk_X2_dropLast_47 X hr9 hlk9 hr hrec22 h
      · refine r_aload_n X 0 35 dX2_dropLast_34 rfl rfl rfl ?_
        refine g_X2_15 X hr 38 dX2_dropLast_35 rfl ?_
        refine r_iload_n X 2 39 dX2_dropLast_38 rfl rfl rfl ?_
        obtain ⟨hin, h⟩ := h
        refine l_Cr2 X hr 40 hin dX2_dropLast_39 rfl ?_
        refine r_aload_n X 0 41 dX2_dropLast_40 rfl rfl rfl ?_
        refine g_X2_18 X hr 44 dX2_dropLast_41 rfl ?_
        refine r_icmp_ne X 51 47 h dX2_dropLast_44 rfl rfl (fun h => ?_) (fun h => ?_)
        · refine r_iconst (v := 0) X 52 dX2_dropLast_51 (by decide) rfl ?_
          refine r_pick (lv' := [(0, .ref (a r)), (2, .int v2)]) [0, 2] rfl ?_
          exact wk_X2_dropLast_52 X hr9 hlk9 hr hrec22 h
        · refine r_pick (lv' := [(0, .ref (a r)), (2, .int v2)]) [0, 2] rfl ?_
          exact wk_X2_dropLast_47 X hr9 hlk9 hr hrec22 h
def wp_X2_dropLast (r : Nat) (σ : St) (Q : St → Prop) : Prop :=
  if 0 < (σ r 2) then
  (nmS (up2 σ r 2 ((σ r 2) - 1)) (fun σ1 =>
  ∃ n9 : Nat, lp_X2_dropLast_22 r Q n9 0 0 σ1))
  else (Q σ)
theorem c_X2_dropLast {r : Nat} (hr : r = 7 ∨ r = 10) {σ : St} {Q : St → Prop} (h : wp_X2_dropLast r σ Q) : ctV l yX2_dropLast cX2_dropLast 3 none rm_X2_dropLast D (wC cI cZ cH a n) (tyW cI cZ cH) [.ref (a r)] σ Q := by
  refine mk_V (wC_ok cI cZ cH a n) (by decide +kernel) (Nat.le_of_ble_eq_true rfl) (fun p e s m args below meth c A X hr9 hlk9 => ?_)
  refine r_pick (lv' := [(0, .ref (a r))]) [0] rfl ?_
  delta wp_X2_dropLast at h
  refine r_aload_n X 0 1 dX2_dropLast_0 rfl rfl rfl ?_
  refine g_X2_18 X hr 4 dX2_dropLast_1 rfl ?_
  refine r_if_gt X 8 7 h dX2_dropLast_4 rfl rfl (fun h => ?_) (fun h => ?_)
  · refine r_aload_n X 0 9 dX2_dropLast_8 rfl rfl rfl ?_
    refine r_dup X 10 dX2_dropLast_9 rfl rfl ?_
    refine g_X2_18 X hr 13 dX2_dropLast_10 rfl ?_
    refine r_iconst (v := 1) X 14 dX2_dropLast_13 (by decide) rfl ?_
    refine r_isub X 15 dX2_dropLast_14 rfl ?_
    refine u_X2_18 X hr 18 dX2_dropLast_15 rfl ?_
    refine r_nmS h (fun σ1 h => ?_)
    refine r_iconst (v := 0) X 19 dX2_dropLast_18 (by decide) rfl ?_
    refine r_istore_n X 20 [(1, .int 0), (0, .ref (a r))] dX2_dropLast_19 rfl (by decide) rfl rfl ?_
    refine r_iconst (v := 0) X 21 dX2_dropLast_20 (by decide) rfl ?_
    refine r_istore_n X 22 [(2, .int 0), (1, .int 0), (0, .ref (a r))] dX2_dropLast_21 rfl (by decide) rfl rfl ?_
    refine r_pick (lv' := [(0, .ref (a r)), (1, .int 0), (2, .int 0)]) [2, 1, 0] rfl ?_
    obtain ⟨n9, h⟩ := h
    exact wk_X2_dropLast_22 X hr9 hlk9 hr n9 h
  · exact r_vret X hr9 hlk9 h dX2_dropLast_7
def rm_X2_alterCell : Room := { frames := 3, cells := 0, slots := 0, locals := 66 }
theorem dX2_alterCell_0 : decode cX2_alterCell 0 = .ok (.aload_n 0, 1) := by decide +kernel
theorem dX2_alterCell_1 : decode cX2_alterCell 1 = .ok (.iload_n 1, 1) := by decide +kernel
theorem dX2_alterCell_2 : decode cX2_alterCell 2 = .ok (.invokevirtual 22, 3) := by decide +kernel
theorem dX2_alterCell_5 : decode cX2_alterCell 5 = .ok (.ifCond .eq 13, 3) := by decide +kernel
theorem dX2_alterCell_8 : decode cX2_alterCell 8 = .ok (.iload_n 2, 1) := by decide +kernel
theorem dX2_alterCell_9 : decode cX2_alterCell 9 = .ok (.ifCond .lt 9, 3) := by decide +kernel
theorem dX2_alterCell_12 : decode cX2_alterCell 12 = .ok (.iload_n 2, 1) := by decide +kernel
theorem dX2_alterCell_13 : decode cX2_alterCell 13 = .ok (.bipush 8, 2) := by decide +kernel
theorem dX2_alterCell_15 : decode cX2_alterCell 15 = .ok (.if_icmp .lt 4, 3) := by decide +kernel
theorem dX2_alterCell_18 : decode cX2_alterCell 18 = .ok (.return_, 1) := by decide +kernel
theorem dX2_alterCell_19 : decode cX2_alterCell 19 = .ok (.aload_n 0, 1) := by decide +kernel
theorem dX2_alterCell_20 : decode cX2_alterCell 20 = .ok (.getfield 9, 3) := by decide +kernel
theorem dX2_alterCell_23 : decode cX2_alterCell 23 = .ok (.iload_n 1, 1) := by decide +kernel
theorem dX2_alterCell_24 : decode cX2_alterCell 24 = .ok (.bipush 8, 2) := by decide +kernel
theorem dX2_alterCell_26 : decode cX2_alterCell 26 = .ok (.imul, 1) := by decide +kernel
theorem dX2_alterCell_27 : decode cX2_alterCell 27 = .ok (.iload_n 2, 1) := by decide +kernel
theorem dX2_alterCell_28 : decode cX2_alterCell 28 = .ok (.iadd, 1) := by decide +kernel
theorem dX2_alterCell_29 : decode cX2_alterCell 29 = .ok (.iload_n 3, 1) := by decide +kernel
theorem dX2_alterCell_30 : decode cX2_alterCell 30 = .ok (.iastore, 1) := by decide +kernel
theorem dX2_alterCell_31 : decode cX2_alterCell 31 = .ok (.iload_n 2, 1) := by decide +kernel
theorem dX2_alterCell_32 : decode cX2_alterCell 32 = .ok (.bipush 6, 2) := by decide +kernel
theorem dX2_alterCell_34 : decode cX2_alterCell 34 = .ok (.if_icmp .ne 27, 3) := by decide +kernel
theorem dX2_alterCell_37 : decode cX2_alterCell 37 = .ok (.iconst 0, 1) := by decide +kernel
theorem dX2_alterCell_38 : decode cX2_alterCell 38 = .ok (.istore 4, 2) := by decide +kernel
theorem dX2_alterCell_40 : decode cX2_alterCell 40 = .ok (.iload 4, 2) := by decide +kernel
theorem dX2_alterCell_42 : decode cX2_alterCell 42 = .ok (.aload_n 0, 1) := by decide +kernel
theorem dX2_alterCell_43 : decode cX2_alterCell 43 = .ok (.getfield 18, 3) := by decide +kernel
theorem dX2_alterCell_46 : decode cX2_alterCell 46 = .ok (.if_icmp .ge 15, 3) := by decide +kernel
theorem dX2_alterCell_49 : decode cX2_alterCell 49 = .ok (.aload_n 0, 1) := by decide +kernel
theorem dX2_alterCell_50 : decode cX2_alterCell 50 = .ok (.iload 4, 2) := by decide +kernel
theorem dX2_alterCell_52 : decode cX2_alterCell 52 = .ok (.invokevirtual 32, 3) := by decide +kernel
theorem dX2_alterCell_55 : decode cX2_alterCell 55 = .ok (.iinc 4 1, 3) := by decide +kernel
theorem dX2_alterCell_58 : decode cX2_alterCell 58 = .ok (.goto (-18), 3) := by decide +kernel
theorem dX2_alterCell_61 : decode cX2_alterCell 61 = .ok (.return_, 1) := by decide +kernel
def b_X2_alterCell_40 (r : Nat) (Q : St → Prop) (rec40 : Int32 → St → Prop) (v4 : Int32) (σ : St) : Prop :=
  if v4 < (σ r 2) then
  (wp_X2_putInOrder r σ v4 (fun σ4 =>
  rec40 (v4 + 1) σ4))
  else (Q σ)
def lp_X2_alterCell_40 (r : Nat) (Q : St → Prop) (n9 : Nat) : Int32 → St → Prop :=
  Nat.rec (fun _ _ => False) (fun _ rec9 => b_X2_alterCell_40 r Q  rec9) n9
theorem wk_X2_alterCell_40 {r : Nat} (X : cx p s m args c cX2_alterCell 5 RX2 D (wC cI cZ cH a n) A (tyW cI cZ cH)) (hr9 : meth.sig.returnType = none) (hlk9 : meth.locks = false) (hr : r = 7 ∨ r = 10) {Q : St → Prop} : ∀ (n9 : Nat) {v4 : Int32} {σ : St}, lp_X2_alterCell_40 r Q n9 v4 σ → go p l e rm_X2_alterCell s m args below meth c D (wC cI cZ cH a n) A 0 0 (MQ below (va_Qv Q (atw D (wC cI cZ cH a n) (tyW cI cZ cH) A) A) args s 0 0 A) 5 40 [(0, .ref (a r)), (4, .int v4)] [] σ := by
  intro n9
  induction n9 with
  | zero => intro v4 σ h; exact h.elim
  | succ n9 ih =>
    intro v4 σ h
    have hrec40 := fun v4 σ h => ih (σ := σ) (v4 := v4) h
    replace h : b_X2_alterCell_40 r Q (lp_X2_alterCell_40 r Q n9) v4 σ := h
    delta b_X2_alterCell_40 at h
    refine r_iload X 1 42 dX2_alterCell_40 rfl rfl ?_
    refine r_aload_n X 0 43 dX2_alterCell_42 rfl rfl rfl ?_
    refine g_X2_18 X hr 46 dX2_alterCell_43 rfl ?_
    refine r_icmp_ge X 61 49 h dX2_alterCell_46 rfl rfl (fun h => ?_) (fun h => ?_)
    · exact r_vret X hr9 hlk9 h dX2_alterCell_61
    · refine r_aload_n X 0 50 dX2_alterCell_49 rfl rfl rfl ?_
      refine r_iload X 1 52 dX2_alterCell_50 rfl rfl ?_
      refine r_callV (As := [.int v4]) (rest := []) X 55 (c_X2_putInOrder hr h) ml_X2_32 lk_X2_putInOrder (wC_at_r hr) rfl rfl rfl (Nat.le_of_ble_eq_true rfl) ⟨rfl, rfl, ⟨Nat.le_of_ble_eq_true rfl, Nat.le_of_ble_eq_true rfl⟩, Nat.le_of_ble_eq_true rfl, Nat.le_of_ble_eq_true rfl⟩ dX2_alterCell_52 rfl (fun σ4 h => ?_)
      refine r_iinc (d := 1) X 1 58 [(4, .int (v4 + 1)), (0, .ref (a r))] dX2_alterCell_55 rfl (by decide) (by decide) rfl rfl ?_
      refine r_goto X 40 dX2_alterCell_58 rfl ?_
      refine r_pick (lv' := [(0, .ref (a r)), (4, .int (v4 + 1))]) [1, 0] rfl ?_
      exact hrec40 _ _ h
def wp_X2_alterCell (r : Nat) (σ : St) (x1 : Int32) (x2 : Int32) (x3 : Int32) (Q : St → Prop) : Prop :=
  wp_X2_has r σ x1 (fun y2 σ1 =>
  if y2 = 0 then
  (Q σ1)
  else (if x2 < 0 then
  (Q σ1)
  else (if x2 < 8 then
  (vp_in ((x1 * 8) + x2) 3200 ∧
  nmS (up2 σ1 (r + 1) (ix ((x1 * 8) + x2)) x3) (fun σ3 =>
  if x2 = 6 then
  (∃ n9 : Nat, lp_X2_alterCell_40 r Q n9 0 σ3)
  else (Q σ3)))
  else (Q σ1))))
theorem c_X2_alterCell {r : Nat} (hr : r = 7 ∨ r = 10) {σ : St} {x1 : Int32} {x2 : Int32} {x3 : Int32} {Q : St → Prop} (h : wp_X2_alterCell r σ x1 x2 x3 Q) : ctV l yX2_alterCell cX2_alterCell 5 none rm_X2_alterCell D (wC cI cZ cH a n) (tyW cI cZ cH) [.ref (a r), .int x1, .int x2, .int x3] σ Q := by
  refine mk_V (wC_ok cI cZ cH a n) (by decide +kernel) (Nat.le_of_ble_eq_true rfl) (fun p e s m args below meth c A X hr9 hlk9 => ?_)
  refine r_pick (lv' := [(0, .ref (a r)), (1, .int x1), (2, .int x2), (3, .int x3)]) [0, 1, 2, 3] rfl ?_
  delta wp_X2_alterCell at h
  refine r_aload_n X 0 1 dX2_alterCell_0 rfl rfl rfl ?_
  refine r_iload_n X 1 2 dX2_alterCell_1 rfl rfl rfl ?_
  refine r_callI (As := [.int x1]) (rest := []) X 5 (c_X2_has hr h) ml_X2_22 lk_X2_has (wC_at_r hr) rfl rfl rfl (Nat.le_of_ble_eq_true rfl) ⟨rfl, rfl, ⟨Nat.le_of_ble_eq_true rfl, Nat.le_of_ble_eq_true rfl⟩, Nat.le_of_ble_eq_true rfl, Nat.le_of_ble_eq_true rfl⟩ dX2_alterCell_2 rfl (fun y2 σ1 h => ?_)
  obtain ⟨hb_y2, h⟩ := h
  refine r_if_eq X 18 8 h dX2_alterCell_5 rfl rfl (fun h => ?_) (fun h => ?_)
  · exact r_vret X hr9 hlk9 h dX2_alterCell_18
  · refine r_iload_n X 2 9 dX2_alterCell_8 rfl rfl rfl ?_
    refine r_if_lt X 18 12 h dX2_alterCell_9 rfl rfl (fun h => ?_) (fun h => ?_)
    · exact r_vret X hr9 hlk9 h dX2_alterCell_18
    · refine r_iload_n X 2 13 dX2_alterCell_12 rfl rfl rfl ?_
      refine r_bipush (v := 8) X 15 dX2_alterCell_13 (by decide) rfl ?_
      refine r_icmp_lt X 19 18 h dX2_alterCell_15 rfl rfl (fun h => ?_) (fun h => ?_)
      · refine r_aload_n X 0 20 dX2_alterCell_19 rfl rfl rfl ?_
        refine g_X2_9 X hr 23 dX2_alterCell_20 rfl ?_
        refine r_iload_n X 1 24 dX2_alterCell_23 rfl rfl rfl ?_
        refine r_bipush (v := 8) X 26 dX2_alterCell_24 (by decide) rfl ?_
        refine r_imul X 27 dX2_alterCell_26 rfl ?_
        refine r_iload_n X 2 28 dX2_alterCell_27 rfl rfl rfl ?_
        refine r_iadd X 29 dX2_alterCell_28 rfl ?_
        refine r_iload_n X 3 30 dX2_alterCell_29 rfl rfl rfl ?_
        obtain ⟨hin, h⟩ := h
        refine s_Cr1 X hr 31 hin dX2_alterCell_30 rfl ?_
        refine r_nmS h (fun σ3 h => ?_)
        refine r_iload_n X 2 32 dX2_alterCell_31 rfl rfl rfl ?_
        refine r_bipush (v := 6) X 34 dX2_alterCell_32 (by decide) rfl ?_
        refine r_icmp_ne X 61 37 h dX2_alterCell_34 rfl rfl (fun h => ?_) (fun h => ?_)
        · exact r_vret X hr9 hlk9 h dX2_alterCell_61
        · refine r_iconst (v := 0) X 38 dX2_alterCell_37 (by decide) rfl ?_
          refine r_istore X 40 [(4, .int 0), (0, .ref (a r)), (1, .int x1), (2, .int x2), (3, .int x3)] dX2_alterCell_38 (by decide) rfl rfl ?_
          refine r_pick (lv' := [(0, .ref (a r)), (4, .int 0)]) [1, 0] rfl ?_
          obtain ⟨n9, h⟩ := h
          exact wk_X2_alterCell_40 X hr9 hlk9 hr n9 h
      · exact r_vret X hr9 hlk9 h dX2_alterCell_18
def rm_X2_copyFrom : Room := { frames := 1, cells := 0, slots := 0, locals := 44 }
theorem dX2_copyFrom_0 : decode cX2_copyFrom 0 = .ok (.aload_n 0, 1) := by decide +kernel
theorem dX2_copyFrom_1 : decode cX2_copyFrom 1 = .ok (.aload_n 1, 1) := by decide +kernel
theorem dX2_copyFrom_2 : decode cX2_copyFrom 2 = .ok (.getfield 18, 3) := by decide +kernel
theorem dX2_copyFrom_5 : decode cX2_copyFrom 5 = .ok (.putfield 18, 3) := by decide +kernel
theorem dX2_copyFrom_8 : decode cX2_copyFrom 8 = .ok (.aload_n 1, 1) := by decide +kernel
theorem dX2_copyFrom_9 : decode cX2_copyFrom 9 = .ok (.getfield 9, 3) := by decide +kernel
theorem dX2_copyFrom_12 : decode cX2_copyFrom 12 = .ok (.iconst 0, 1) := by decide +kernel
theorem dX2_copyFrom_13 : decode cX2_copyFrom 13 = .ok (.aload_n 0, 1) := by decide +kernel
theorem dX2_copyFrom_14 : decode cX2_copyFrom 14 = .ok (.getfield 9, 3) := by decide +kernel
theorem dX2_copyFrom_17 : decode cX2_copyFrom 17 = .ok (.iconst 0, 1) := by decide +kernel
theorem dX2_copyFrom_18 : decode cX2_copyFrom 18 = .ok (.aload_n 0, 1) := by decide +kernel
theorem dX2_copyFrom_19 : decode cX2_copyFrom 19 = .ok (.getfield 18, 3) := by decide +kernel
theorem dX2_copyFrom_22 : decode cX2_copyFrom 22 = .ok (.bipush 8, 2) := by decide +kernel
theorem dX2_copyFrom_24 : decode cX2_copyFrom 24 = .ok (.imul, 1) := by decide +kernel
theorem dX2_copyFrom_25 : decode cX2_copyFrom 25 = .ok (.invokestatic 26, 3) := by decide +kernel
theorem dX2_copyFrom_28 : decode cX2_copyFrom 28 = .ok (.aload_n 1, 1) := by decide +kernel
theorem dX2_copyFrom_29 : decode cX2_copyFrom 29 = .ok (.getfield 15, 3) := by decide +kernel
theorem dX2_copyFrom_32 : decode cX2_copyFrom 32 = .ok (.iconst 0, 1) := by decide +kernel
theorem dX2_copyFrom_33 : decode cX2_copyFrom 33 = .ok (.aload_n 0, 1) := by decide +kernel
theorem dX2_copyFrom_34 : decode cX2_copyFrom 34 = .ok (.getfield 15, 3) := by decide +kernel
theorem dX2_copyFrom_37 : decode cX2_copyFrom 37 = .ok (.iconst 0, 1) := by decide +kernel
theorem dX2_copyFrom_38 : decode cX2_copyFrom 38 = .ok (.aload_n 0, 1) := by decide +kernel
theorem dX2_copyFrom_39 : decode cX2_copyFrom 39 = .ok (.getfield 18, 3) := by decide +kernel
theorem dX2_copyFrom_42 : decode cX2_copyFrom 42 = .ok (.invokestatic 26, 3) := by decide +kernel
theorem dX2_copyFrom_45 : decode cX2_copyFrom 45 = .ok (.return_, 1) := by decide +kernel
def wp_X2_copyFrom (r : Nat) (r2 : Nat) (σ : St) (Q : St → Prop) : Prop :=
  nmS (up2 σ r 2 (σ r2 2)) (fun σ1 =>
  (¬ ((0 : Int32)) < 0 ∧ ¬ ((0 : Int32)) < 0 ∧ ¬ ((((σ1 r 2) * 8) : Int32)) < 0 ∧ ix 0 + ix ((σ1 r 2) * 8) ≤ 3200 ∧ ix 0 + ix ((σ1 r 2) * 8) ≤ 3200) ∧ nmS (upr σ1 (r + 1) (va_cpy (σ1 (r2 + 1)) (σ1 (r + 1)) (ix 0) (ix 0) (ix ((σ1 r 2) * 8)))) (fun σ2 =>
  (¬ ((0 : Int32)) < 0 ∧ ¬ ((0 : Int32)) < 0 ∧ ¬ (((σ2 r 2) : Int32)) < 0 ∧ ix 0 + ix (σ2 r 2) ≤ 400 ∧ ix 0 + ix (σ2 r 2) ≤ 400) ∧ nmS (upr σ2 (r + 2) (va_cpy (σ2 (r2 + 2)) (σ2 (r + 2)) (ix 0) (ix 0) (ix (σ2 r 2)))) (fun σ3 =>
  Q σ3)))
theorem c_X2_copyFrom {r : Nat} {r2 : Nat} (hr : r = 7 ∨ r = 10) (hr2 : r2 = 7 ∨ r2 = 10) {σ : St} {Q : St → Prop} (h : wp_X2_copyFrom r r2 σ Q) : ctV l yX2_copyFrom cX2_copyFrom 2 none rm_X2_copyFrom D (wC cI cZ cH a n) (tyW cI cZ cH) [.ref (a r), .ref (a r2)] σ Q := by
  refine mk_V (wC_ok cI cZ cH a n) (by decide +kernel) (Nat.le_of_ble_eq_true rfl) (fun p e s m args below meth c A X hr9 hlk9 => ?_)
  refine r_pick (lv' := [(0, .ref (a r)), (1, .ref (a r2))]) [0, 1] rfl ?_
  delta wp_X2_copyFrom at h
  refine r_aload_n X 0 1 dX2_copyFrom_0 rfl rfl rfl ?_
  refine r_aload_n X 1 2 dX2_copyFrom_1 rfl rfl rfl ?_
  refine g_X2_18 X hr2 5 dX2_copyFrom_2 rfl ?_
  refine u_X2_18 X hr 8 dX2_copyFrom_5 rfl ?_
  refine r_nmS h (fun σ1 h => ?_)
  refine r_aload_n X 1 9 dX2_copyFrom_8 rfl rfl rfl ?_
  refine g_X2_9 X hr2 12 dX2_copyFrom_9 rfl ?_
  refine r_iconst (v := 0) X 13 dX2_copyFrom_12 (by decide) rfl ?_
  refine r_aload_n X 0 14 dX2_copyFrom_13 rfl rfl rfl ?_
  refine g_X2_9 X hr 17 dX2_copyFrom_14 rfl ?_
  refine r_iconst (v := 0) X 18 dX2_copyFrom_17 (by decide) rfl ?_
  refine r_aload_n X 0 19 dX2_copyFrom_18 rfl rfl rfl ?_
  refine g_X2_18 X hr 22 dX2_copyFrom_19 rfl ?_
  refine r_bipush (v := 8) X 24 dX2_copyFrom_22 (by decide) rfl ?_
  refine r_imul X 25 dX2_copyFrom_24 rfl ?_
  obtain ⟨⟨ha1, ha2, ha3, ha4, ha5⟩, h⟩ := h
  refine r_copyi (q0 := (r2 + 1)) (q1 := (r + 1)) (t0 := 0) X 28 (wC_at_r1 hr2) (wC_at_r1 hr) rfl ha1 ha2 ha3 ha4 ha5 ml_X2_26 ac_nat ac_st ini_J10 (Nat.le_of_ble_eq_true rfl) (Nat.le_of_ble_eq_true rfl) (wC_set_r1 hr) dX2_copyFrom_25 rfl ?_
  refine r_nmS h (fun σ2 h => ?_)
  refine r_aload_n X 1 29 dX2_copyFrom_28 rfl rfl rfl ?_
  refine g_X2_15 X hr2 32 dX2_copyFrom_29 rfl ?_
  refine r_iconst (v := 0) X 33 dX2_copyFrom_32 (by decide) rfl ?_
  refine r_aload_n X 0 34 dX2_copyFrom_33 rfl rfl rfl ?_
  refine g_X2_15 X hr 37 dX2_copyFrom_34 rfl ?_
  refine r_iconst (v := 0) X 38 dX2_copyFrom_37 (by decide) rfl ?_
  refine r_aload_n X 0 39 dX2_copyFrom_38 rfl rfl rfl ?_
  refine g_X2_18 X hr 42 dX2_copyFrom_39 rfl ?_
  obtain ⟨⟨ha1, ha2, ha3, ha4, ha5⟩, h⟩ := h
  refine r_copyi (q0 := (r2 + 2)) (q1 := (r + 2)) (t0 := 0) X 45 (wC_at_r2 hr2) (wC_at_r2 hr) rfl ha1 ha2 ha3 ha4 ha5 ml_X2_26 ac_nat ac_st ini_J10 (Nat.le_of_ble_eq_true rfl) (Nat.le_of_ble_eq_true rfl) (wC_set_r2 hr) dX2_copyFrom_42 rfl ?_
  refine r_nmS h (fun σ3 h => ?_)
  exact r_vret X hr9 hlk9 h dX2_copyFrom_45
def rm_X2_isLate : Room := { frames := 2, cells := 0, slots := 0, locals := 43 }
theorem dX2_isLate_0 : decode cX2_isLate 0 = .ok (.iconst 0, 1) := by decide +kernel
theorem dX2_isLate_1 : decode cX2_isLate 1 = .ok (.istore_n 2, 1) := by decide +kernel
theorem dX2_isLate_2 : decode cX2_isLate 2 = .ok (.iload_n 2, 1) := by decide +kernel
theorem dX2_isLate_3 : decode cX2_isLate 3 = .ok (.iload_n 1, 1) := by decide +kernel
theorem dX2_isLate_4 : decode cX2_isLate 4 = .ok (.if_icmp .ge 28, 3) := by decide +kernel
theorem dX2_isLate_7 : decode cX2_isLate 7 = .ok (.aload_n 0, 1) := by decide +kernel
theorem dX2_isLate_8 : decode cX2_isLate 8 = .ok (.iload_n 2, 1) := by decide +kernel
theorem dX2_isLate_9 : decode cX2_isLate 9 = .ok (.bipush 6, 2) := by decide +kernel
theorem dX2_isLate_11 : decode cX2_isLate 11 = .ok (.invokevirtual 36, 3) := by decide +kernel
theorem dX2_isLate_14 : decode cX2_isLate 14 = .ok (.aload_n 0, 1) := by decide +kernel
theorem dX2_isLate_15 : decode cX2_isLate 15 = .ok (.iload_n 1, 1) := by decide +kernel
theorem dX2_isLate_16 : decode cX2_isLate 16 = .ok (.bipush 6, 2) := by decide +kernel
theorem dX2_isLate_18 : decode cX2_isLate 18 = .ok (.invokevirtual 36, 3) := by decide +kernel
theorem dX2_isLate_21 : decode cX2_isLate 21 = .ok (.if_icmp .le 5, 3) := by decide +kernel
theorem dX2_isLate_24 : decode cX2_isLate 24 = .ok (.iconst 1, 1) := by decide +kernel
theorem dX2_isLate_25 : decode cX2_isLate 25 = .ok (.ireturn, 1) := by decide +kernel
theorem dX2_isLate_26 : decode cX2_isLate 26 = .ok (.iinc 2 1, 3) := by decide +kernel
theorem dX2_isLate_29 : decode cX2_isLate 29 = .ok (.goto (-27), 3) := by decide +kernel
theorem dX2_isLate_32 : decode cX2_isLate 32 = .ok (.iconst 0, 1) := by decide +kernel
theorem dX2_isLate_33 : decode cX2_isLate 33 = .ok (.ireturn, 1) := by decide +kernel
def b_X2_isLate_2 (r : Nat) (Q : Int32 → St → Prop) (rec2 : Int32 → Int32 → St → Prop) (v1 : Int32) (v2 : Int32) (σ : St) : Prop :=
  if v2 < v1 then
  (wp_X2_cell r σ v2 6 (fun y2 σ1 =>
  wp_X2_cell r σ1 v1 6 (fun y4 σ3 =>
  if y4 < y2 then
  (Q 1 σ3)
  else (rec2 v1 (v2 + 1) σ3))))
  else (Q 0 σ)
def lp_X2_isLate_2 (r : Nat) (Q : Int32 → St → Prop) (n9 : Nat) : Int32 → Int32 → St → Prop :=
  Nat.rec (fun _ _ _ => False) (fun _ rec9 => b_X2_isLate_2 r Q  rec9) n9
theorem wk_X2_isLate_2 {r : Nat} (X : cx p s m args c cX2_isLate 3 RX2 D (wC cI cZ cH a n) A (tyW cI cZ cH)) (hr9 : meth.sig.returnType = (some .boolean)) (hlk9 : meth.locks = false) (hr : r = 7 ∨ r = 10) {Q : Int32 → St → Prop} : ∀ (n9 : Nat) {v1 : Int32} {v2 : Int32} {σ : St}, lp_X2_isLate_2 r Q n9 v1 v2 σ → go p l e rm_X2_isLate s m args below meth c D (wC cI cZ cH a n) A 0 0 (MQ below (va_Qi (fun r9 u9 => isB r9 ∧ Q r9 u9) (atw D (wC cI cZ cH a n) (tyW cI cZ cH) A) A) args s 0 0 A) 3 2 [(0, .ref (a r)), (1, .int v1), (2, .int v2)] [] σ := by
  intro n9
  induction n9 with
  | zero => intro v1 v2 σ h; exact h.elim
  | succ n9 ih =>
    intro v1 v2 σ h
    have hrec2 := fun v1 v2 σ h => ih (σ := σ) (v1 := v1) (v2 := v2) h
    replace h : b_X2_isLate_2 r Q (lp_X2_isLate_2 r Q n9) v1 v2 σ := h
    delta b_X2_isLate_2 at h
    refine r_iload_n X 2 3 dX2_isLate_2 rfl rfl rfl ?_
    refine r_iload_n X 1 4 dX2_isLate_3 rfl rfl rfl ?_
    refine r_icmp_ge X 32 7 h dX2_isLate_4 rfl rfl (fun h => ?_) (fun h => ?_)
    · refine r_iconst (v := 0) X 33 dX2_isLate_32 (by decide) rfl ?_
      exact r_zret X hr9 hlk9 isB_0 h dX2_isLate_33
    · refine r_aload_n X 0 8 dX2_isLate_7 rfl rfl rfl ?_
      refine r_iload_n X 2 9 dX2_isLate_8 rfl rfl rfl ?_
      refine r_bipush (v := 6) X 11 dX2_isLate_9 (by decide) rfl ?_
      refine r_callI (As := [.int v2, .int 6]) (rest := []) X 14 (c_X2_cell hr h) ml_X2_36 lk_X2_cell (wC_at_r hr) rfl rfl rfl (Nat.le_of_ble_eq_true rfl) ⟨rfl, rfl, ⟨Nat.le_of_ble_eq_true rfl, Nat.le_of_ble_eq_true rfl⟩, Nat.le_of_ble_eq_true rfl, Nat.le_of_ble_eq_true rfl⟩ dX2_isLate_11 rfl (fun y2 σ1 h => ?_)
      refine r_aload_n X 0 15 dX2_isLate_14 rfl rfl rfl ?_
      refine r_iload_n X 1 16 dX2_isLate_15 rfl rfl rfl ?_
      refine r_bipush (v := 6) X 18 dX2_isLate_16 (by decide) rfl ?_
      refine r_callI (As := [.int v1, .int 6]) (rest := [.int y2]) X 21 (c_X2_cell hr h) ml_X2_36 lk_X2_cell (wC_at_r hr) rfl rfl rfl (Nat.le_of_ble_eq_true rfl) ⟨rfl, rfl, ⟨Nat.le_of_ble_eq_true rfl, Nat.le_of_ble_eq_true rfl⟩, Nat.le_of_ble_eq_true rfl, Nat.le_of_ble_eq_true rfl⟩ dX2_isLate_18 rfl (fun y4 σ3 h => ?_)
      refine r_icmp_le X 26 24 h dX2_isLate_21 rfl rfl (fun h => ?_) (fun h => ?_)
      · refine r_iinc (d := 1) X 2 29 [(2, .int (v2 + 1)), (0, .ref (a r)), (1, .int v1)] dX2_isLate_26 rfl (by decide) (by decide) rfl rfl ?_
        refine r_goto X 2 dX2_isLate_29 rfl ?_
        refine r_pick (lv' := [(0, .ref (a r)), (1, .int v1), (2, .int (v2 + 1))]) [1, 2, 0] rfl ?_
        exact hrec2 _ _ _ h
      · refine r_iconst (v := 1) X 25 dX2_isLate_24 (by decide) rfl ?_
        exact r_zret X hr9 hlk9 isB_1 h dX2_isLate_25
def wp_X2_isLate (r : Nat) (σ : St) (x1 : Int32) (Q : Int32 → St → Prop) : Prop :=
  ∃ n9 : Nat, lp_X2_isLate_2 r Q n9 x1 0 σ
theorem c_X2_isLate {r : Nat} (hr : r = 7 ∨ r = 10) {σ : St} {x1 : Int32} {Q : Int32 → St → Prop} (h : wp_X2_isLate r σ x1 Q) : ctI l yX2_isLate cX2_isLate 3 (some .boolean) rm_X2_isLate D (wC cI cZ cH a n) (tyW cI cZ cH) [.ref (a r), .int x1] σ (fun r9 u9 => isB r9 ∧ Q r9 u9) := by
  refine mk_I (wC_ok cI cZ cH a n) (by decide +kernel) (Nat.le_of_ble_eq_true rfl) (fun p e s m args below meth c A X hr9 hlk9 => ?_)
  refine r_pick (lv' := [(0, .ref (a r)), (1, .int x1)]) [0, 1] rfl ?_
  delta wp_X2_isLate at h
  refine r_iconst (v := 0) X 1 dX2_isLate_0 (by decide) rfl ?_
  refine r_istore_n X 2 [(2, .int 0), (0, .ref (a r)), (1, .int x1)] dX2_isLate_1 rfl (by decide) rfl rfl ?_
  refine r_pick (lv' := [(0, .ref (a r)), (1, .int x1), (2, .int 0)]) [1, 2, 0] rfl ?_
  obtain ⟨n9, h⟩ := h
  exact wk_X2_isLate_2 X hr9 hlk9 hr n9 h
def rm_X2_useSealBeyond : Room := { frames := 2, cells := 0, slots := 0, locals := 43 }
theorem dX2_useSealBeyond_0 : decode cX2_useSealBeyond 0 = .ok (.iconst 0, 1) := by decide +kernel
theorem dX2_useSealBeyond_1 : decode cX2_useSealBeyond 1 = .ok (.istore_n 3, 1) := by decide +kernel
theorem dX2_useSealBeyond_2 : decode cX2_useSealBeyond 2 = .ok (.iload_n 3, 1) := by decide +kernel
theorem dX2_useSealBeyond_3 : decode cX2_useSealBeyond 3 = .ok (.aload_n 0, 1) := by decide +kernel
theorem dX2_useSealBeyond_4 : decode cX2_useSealBeyond 4 = .ok (.getfield 18, 3) := by decide +kernel
theorem dX2_useSealBeyond_7 : decode cX2_useSealBeyond 7 = .ok (.if_icmp .ge 60, 3) := by decide +kernel
theorem dX2_useSealBeyond_10 : decode cX2_useSealBeyond 10 = .ok (.aload_n 0, 1) := by decide +kernel
theorem dX2_useSealBeyond_11 : decode cX2_useSealBeyond 11 = .ok (.iload_n 3, 1) := by decide +kernel
theorem dX2_useSealBeyond_12 : decode cX2_useSealBeyond 12 = .ok (.iconst 4, 1) := by decide +kernel
theorem dX2_useSealBeyond_13 : decode cX2_useSealBeyond 13 = .ok (.invokevirtual 36, 3) := by decide +kernel
theorem dX2_useSealBeyond_16 : decode cX2_useSealBeyond 16 = .ok (.istore 4, 2) := by decide +kernel
theorem dX2_useSealBeyond_18 : decode cX2_useSealBeyond 18 = .ok (.aload_n 0, 1) := by decide +kernel
theorem dX2_useSealBeyond_19 : decode cX2_useSealBeyond 19 = .ok (.iload_n 3, 1) := by decide +kernel
theorem dX2_useSealBeyond_20 : decode cX2_useSealBeyond 20 = .ok (.iconst 0, 1) := by decide +kernel
theorem dX2_useSealBeyond_21 : decode cX2_useSealBeyond 21 = .ok (.invokevirtual 36, 3) := by decide +kernel
theorem dX2_useSealBeyond_24 : decode cX2_useSealBeyond 24 = .ok (.bipush 8, 2) := by decide +kernel
theorem dX2_useSealBeyond_26 : decode cX2_useSealBeyond 26 = .ok (.if_icmp .ne 16, 3) := by decide +kernel
theorem dX2_useSealBeyond_29 : decode cX2_useSealBeyond 29 = .ok (.iload 4, 2) := by decide +kernel
theorem dX2_useSealBeyond_31 : decode cX2_useSealBeyond 31 = .ok (.bipush 100, 2) := by decide +kernel
theorem dX2_useSealBeyond_33 : decode cX2_useSealBeyond 33 = .ok (.idiv, 1) := by decide +kernel
theorem dX2_useSealBeyond_34 : decode cX2_useSealBeyond 34 = .ok (.iload_n 1, 1) := by decide +kernel
theorem dX2_useSealBeyond_35 : decode cX2_useSealBeyond 35 = .ok (.if_icmp .ne 7, 3) := by decide +kernel
theorem dX2_useSealBeyond_38 : decode cX2_useSealBeyond 38 = .ok (.iconst 1, 1) := by decide +kernel
theorem dX2_useSealBeyond_39 : decode cX2_useSealBeyond 39 = .ok (.goto 4, 3) := by decide +kernel
theorem dX2_useSealBeyond_42 : decode cX2_useSealBeyond 42 = .ok (.iconst 0, 1) := by decide +kernel
theorem dX2_useSealBeyond_43 : decode cX2_useSealBeyond 43 = .ok (.istore 5, 2) := by decide +kernel
theorem dX2_useSealBeyond_45 : decode cX2_useSealBeyond 45 = .ok (.iload 5, 2) := by decide +kernel
theorem dX2_useSealBeyond_47 : decode cX2_useSealBeyond 47 = .ok (.ifCond .eq 14, 3) := by decide +kernel
theorem dX2_useSealBeyond_50 : decode cX2_useSealBeyond 50 = .ok (.iload 4, 2) := by decide +kernel
theorem dX2_useSealBeyond_52 : decode cX2_useSealBeyond 52 = .ok (.bipush 100, 2) := by decide +kernel
theorem dX2_useSealBeyond_54 : decode cX2_useSealBeyond 54 = .ok (.irem, 1) := by decide +kernel
theorem dX2_useSealBeyond_55 : decode cX2_useSealBeyond 55 = .ok (.iload_n 2, 1) := by decide +kernel
theorem dX2_useSealBeyond_56 : decode cX2_useSealBeyond 56 = .ok (.if_icmp .lt 5, 3) := by decide +kernel
theorem dX2_useSealBeyond_59 : decode cX2_useSealBeyond 59 = .ok (.iconst 1, 1) := by decide +kernel
theorem dX2_useSealBeyond_60 : decode cX2_useSealBeyond 60 = .ok (.ireturn, 1) := by decide +kernel
theorem dX2_useSealBeyond_61 : decode cX2_useSealBeyond 61 = .ok (.iinc 3 1, 3) := by decide +kernel
theorem dX2_useSealBeyond_64 : decode cX2_useSealBeyond 64 = .ok (.goto (-62), 3) := by decide +kernel
theorem dX2_useSealBeyond_67 : decode cX2_useSealBeyond 67 = .ok (.iconst 0, 1) := by decide +kernel
theorem dX2_useSealBeyond_68 : decode cX2_useSealBeyond 68 = .ok (.ireturn, 1) := by decide +kernel
def j_X2_useSealBeyond_61 (r : Nat) (Q : Int32 → St → Prop) (rec2 : Int32 → Int32 → Int32 → St → Prop) (v1 : Int32) (v2 : Int32) (v3 : Int32) (σ : St) : Prop :=
  rec2 v1 v2 (v3 + 1) σ
theorem wk_X2_useSealBeyond_61 {r : Nat} (X : cx p s m args c cX2_useSealBeyond 6 RX2 D (wC cI cZ cH a n) A (tyW cI cZ cH)) (hr9 : meth.sig.returnType = (some .boolean)) (hlk9 : meth.locks = false) (hr : r = 7 ∨ r = 10) {Q : Int32 → St → Prop} {rec2 : Int32 → Int32 → Int32 → St → Prop} (hrec2 : ∀ (v1 : Int32) (v2 : Int32) (v3 : Int32) (σ : St), rec2 v1 v2 v3 σ → go p l e rm_X2_useSealBeyond s m args below meth c D (wC cI cZ cH a n) A 0 0 (MQ below (va_Qi (fun r9 u9 => isB r9 ∧ Q r9 u9) (atw D (wC cI cZ cH a n) (tyW cI cZ cH) A) A) args s 0 0 A) 6 2 [(0, .ref (a r)), (1, .int v1), (2, .int v2), (3, .int v3)] [] σ) {v1 : Int32} {v2 : Int32} {v3 : Int32} {σ : St} (h : j_X2_useSealBeyond_61 r Q rec2 v1 v2 v3 σ) : go p l e rm_X2_useSealBeyond s m args below meth c D (wC cI cZ cH a n) A 0 0 (MQ below (va_Qi (fun r9 u9 => isB r9 ∧ Q r9 u9) (atw D (wC cI cZ cH a n) (tyW cI cZ cH) A) A) args s 0 0 A) 6 61 [(0, .ref (a r)), (1, .int v1), (2, .int v2), (3, .int v3)] [] σ := by
  delta j_X2_useSealBeyond_61 at h
  refine r_iinc (d := 1) X 3 64 [(3, .int (v3 + 1)), (0, .ref (a r)), (1, .int v1), (2, .int v2)] dX2_useSealBeyond_61 rfl (by decide) (by decide) rfl rfl ?_
  refine r_goto X 2 dX2_useSealBeyond_64 rfl ?_
  refine r_pick (lv' := [(0, .ref (a r)), (1, .int v1), (2, .int v2), (3, .int (v3 + 1))]) [1, 2, 3, 0] rfl ?_
  exact hrec2 _ _ _ _ h
def j_X2_useSealBeyond_43 (r : Nat) (Q : Int32 → St → Prop) (rec2 : Int32 → Int32 → Int32 → St → Prop) (v1 : Int32) (v2 : Int32) (v3 : Int32) (v4 : Int32) (s0 : Int32) (σ : St) : Prop :=
  if s0 = 0 then
  (j_X2_useSealBeyond_61 r Q rec2 v1 v2 v3 σ)
  else (if (v4 - v4 / 100 * 100) < v2 then
  (j_X2_useSealBeyond_61 r Q rec2 v1 v2 v3 σ)
  else (Q 1 σ))
theorem wk_X2_useSealBeyond_43 {r : Nat} (X : cx p s m args c cX2_useSealBeyond 6 RX2 D (wC cI cZ cH a n) A (tyW cI cZ cH)) (hr9 : meth.sig.returnType = (some .boolean)) (hlk9 : meth.locks = false) (hr : r = 7 ∨ r = 10) {Q : Int32 → St → Prop} {rec2 : Int32 → Int32 → Int32 → St → Prop} (hrec2 : ∀ (v1 : Int32) (v2 : Int32) (v3 : Int32) (σ : St), rec2 v1 v2 v3 σ → go p l e rm_X2_useSealBeyond s m args below meth c D (wC cI cZ cH a n) A 0 0 (MQ below (va_Qi (fun r9 u9 => isB r9 ∧ Q r9 u9) (atw D (wC cI cZ cH a n) (tyW cI cZ cH) A) A) args s 0 0 A) 6 2 [(0, .ref (a r)), (1, .int v1), (2, .int v2), (3, .int v3)] [] σ) {v1 : Int32} {v2 : Int32} {v3 : Int32} {v4 : Int32} {s0 : Int32} {σ : St} (h : j_X2_useSealBeyond_43 r Q rec2 v1 v2 v3 v4 s0 σ) : go p l e rm_X2_useSealBeyond s m args below meth c D (wC cI cZ cH a n) A 0 0 (MQ below (va_Qi (fun r9 u9 => isB r9 ∧ Q r9 u9) (atw D (wC cI cZ cH a n) (tyW cI cZ cH) A) A) args s 0 0 A) 6 43 [(0, .ref (a r)), (1, .int v1), (2, .int v2), (3, .int v3), (4, .int v4)] [.int s0] σ := by
  delta j_X2_useSealBeyond_43 at h
  refine r_istore X 45 [(5, .int s0), (0, .ref (a r)), (1, .int v1), (2, .int v2), (3, .int v3), (4, .int v4)] dX2_useSealBeyond_43 (by decide) rfl rfl ?_
  refine r_iload X 0 47 dX2_useSealBeyond_45 rfl rfl ?_
  refine r_if_eq X 61 50 h dX2_useSealBeyond_47 rfl rfl (fun h => ?_) (fun h => ?_)
  · refine r_pick (lv' := [(0, .ref (a r)), (1, .int v1), (2, .int v2), (3, .int v3)]) [1, 2, 3, 4] rfl ?_
    exact wk_X2_useSealBeyond_61 X hr9 hlk9 hr hrec2 h
  · refine r_iload X 5 52 dX2_useSealBeyond_50 rfl rfl ?_
    refine r_bipush (v := 100) X 54 dX2_useSealBeyond_52 (by decide) rfl ?_
    refine r_irem X 55 dX2_useSealBeyond_54 (by decide) rfl ?_
    refine r_iload_n X 3 56 dX2_useSealBeyond_55 rfl rfl rfl ?_
    refine r_icmp_lt X 61 59 h dX2_useSealBeyond_56 rfl rfl (fun h => ?_) (fun h => ?_)
    · refine r_pick (lv' := [(0, .ref (a r)), (1, .int v1), (2, .int v2), (3, .int v3)]) [1, 2, 3, 4] rfl ?_
      exact wk_X2_useSealBeyond_61 X hr9 hlk9 hr hrec2 h
    · refine r_iconst (v := 1) X 60 dX2_useSealBeyond_59 (by decide) rfl ?_
      exact r_zret X hr9 hlk9 isB_1 h dX2_useSealBeyond_60
def j_X2_useSealBeyond_42 (r : Nat) (Q : Int32 → St → Prop) (rec2 : Int32 → Int32 → Int32 → St → Prop) (v1 : Int32) (v2 : Int32) (v3 : Int32) (v4 : Int32) (σ : St) : Prop :=
  j_X2_useSealBeyond_43 r Q rec2 v1 v2 v3 v4 0 σ
theorem wk_X2_useSealBeyond_42 {r : Nat} (X : cx p s m args c cX2_useSealBeyond 6 RX2 D (wC cI cZ cH a n) A (tyW cI cZ cH)) (hr9 : meth.sig.returnType = (some .boolean)) (hlk9 : meth.locks = false) (hr : r = 7 ∨ r = 10) {Q : Int32 → St → Prop} {rec2 : Int32 → Int32 → Int32 → St → Prop} (hrec2 : ∀ (v1 : Int32) (v2 : Int32) (v3 : Int32) (σ : St), rec2 v1 v2 v3 σ → go p l e rm_X2_useSealBeyond s m args below meth c D (wC cI cZ cH a n) A 0 0 (MQ below (va_Qi (fun r9 u9 => isB r9 ∧ Q r9 u9) (atw D (wC cI cZ cH a n) (tyW cI cZ cH) A) A) args s 0 0 A) 6 2 [(0, .ref (a r)), (1, .int v1), (2, .int v2), (3, .int v3)] [] σ) {v1 : Int32} {v2 : Int32} {v3 : Int32} {v4 : Int32} {σ : St} (h : j_X2_useSealBeyond_42 r Q rec2 v1 v2 v3 v4 σ) : go p l e rm_X2_useSealBeyond s m args below meth c D (wC cI cZ cH a n) A 0 0 (MQ below (va_Qi (fun r9 u9 => isB r9 ∧ Q r9 u9) (atw D (wC cI cZ cH a n) (tyW cI cZ cH) A) A) args s 0 0 A) 6 42 [(0, .ref (a r)), (1, .int v1), (2, .int v2), (3, .int v3), (4, .int v4)] [] σ := by
  delta j_X2_useSealBeyond_42 at h
  refine r_iconst (v := 0) X 43 dX2_useSealBeyond_42 (by decide) rfl ?_
  refine r_pick (lv' := [(0, .ref (a r)), (1, .int v1), (2, .int v2), (3, .int v3), (4, .int v4)]) [0, 1, 2, 3, 4] rfl ?_
  exact wk_X2_useSealBeyond_43 X hr9 hlk9 hr hrec2 h
def b_X2_useSealBeyond_2 (r : Nat) (Q : Int32 → St → Prop) (rec2 : Int32 → Int32 → Int32 → St → Prop) (v1 : Int32) (v2 : Int32) (v3 : Int32) (σ : St) : Prop :=
  if v3 < (σ r 2) then
  (wp_X2_cell r σ v3 4 (fun y2 σ1 =>
  wp_X2_cell r σ1 v3 0 (fun y4 σ3 =>
  if y4 = 8 then
  (if (y2 / 100) = v1 then
  (j_X2_useSealBeyond_43 r Q rec2 v1 v2 v3 y2 1 σ3)
  else (j_X2_useSealBeyond_42 r Q rec2 v1 v2 v3 y2 σ3))
  else (j_X2_useSealBeyond_42 r Q rec2 v1 v2 v3 y2 σ3))))
  else (Q 0 σ)
def lp_X2_useSealBeyond_2 (r : Nat) (Q : Int32 → St → Prop) (n9 : Nat) : Int32 → Int32 → Int32 → St → Prop :=
  Nat.rec (fun _ _ _ _ => False) (fun _ rec9 => b_X2_useSealBeyond_2 r Q  rec9) n9
theorem wk_X2_useSealBeyond_2 {r : Nat} (X : cx p s m args c cX2_useSealBeyond 6 RX2 D (wC cI cZ cH a n) A (tyW cI cZ cH)) (hr9 : meth.sig.returnType = (some .boolean)) (hlk9 : meth.locks = false) (hr : r = 7 ∨ r = 10) {Q : Int32 → St → Prop} : ∀ (n9 : Nat) {v1 : Int32} {v2 : Int32} {v3 : Int32} {σ : St}, lp_X2_useSealBeyond_2 r Q n9 v1 v2 v3 σ → go p l e rm_X2_useSealBeyond s m args below meth c D (wC cI cZ cH a n) A 0 0 (MQ below (va_Qi (fun r9 u9 => isB r9 ∧ Q r9 u9) (atw D (wC cI cZ cH a n) (tyW cI cZ cH) A) A) args s 0 0 A) 6 2 [(0, .ref (a r)), (1, .int v1), (2, .int v2), (3, .int v3)] [] σ := by
  intro n9
  induction n9 with
  | zero => intro v1 v2 v3 σ h; exact h.elim
  | succ n9 ih =>
    intro v1 v2 v3 σ h
    have hrec2 := fun v1 v2 v3 σ h => ih (σ := σ) (v1 := v1) (v2 := v2) (v3 := v3) h
    replace h : b_X2_useSealBeyond_2 r Q (lp_X2_useSealBeyond_2 r Q n9) v1 v2 v3 σ := h
    delta b_X2_useSealBeyond_2 at h
    refine r_iload_n X 3 3 dX2_useSealBeyond_2 rfl rfl rfl ?_
    refine r_aload_n X 0 4 dX2_useSealBeyond_3 rfl rfl rfl ?_
    refine g_X2_18 X hr 7 dX2_useSealBeyond_4 rfl ?_
    refine r_icmp_ge X 67 10 h dX2_useSealBeyond_7 rfl rfl (fun h => ?_) (fun h => ?_)
    · refine r_iconst (v := 0) X 68 dX2_useSealBeyond_67 (by decide) rfl ?_
      exact r_zret X hr9 hlk9 isB_0 h dX2_useSealBeyond_68
    · refine r_aload_n X 0 11 dX2_useSealBeyond_10 rfl rfl rfl ?_
      refine r_iload_n X 3 12 dX2_useSealBeyond_11 rfl rfl rfl ?_
      refine r_iconst (v := 4) X 13 dX2_useSealBeyond_12 (by decide) rfl ?_
      refine r_callI (As := [.int v3, .int 4]) (rest := []) X 16 (c_X2_cell hr h) ml_X2_36 lk_X2_cell (wC_at_r hr) rfl rfl rfl (Nat.le_of_ble_eq_true rfl) ⟨rfl, rfl, ⟨Nat.le_of_ble_eq_true rfl, Nat.le_of_ble_eq_true rfl⟩, Nat.le_of_ble_eq_true rfl, Nat.le_of_ble_eq_true rfl⟩ dX2_useSealBeyond_13 rfl (fun y2 σ1 h => ?_)
      refine r_istore X 18 [(4, .int y2), (0, .ref (a r)), (1, .int v1), (2, .int v2), (3, .int v3)] dX2_useSealBeyond_16 (by decide) rfl rfl ?_
      refine r_aload_n X 1 19 dX2_useSealBeyond_18 rfl rfl rfl ?_
      refine r_iload_n X 4 20 dX2_useSealBeyond_19 rfl rfl rfl ?_
      refine r_iconst (v := 0) X 21 dX2_useSealBeyond_20 (by decide) rfl ?_
      refine r_callI (As := [.int v3, .int 0]) (rest := []) X 24 (c_X2_cell hr h) ml_X2_36 lk_X2_cell (wC_at_r hr) rfl rfl rfl (Nat.le_of_ble_eq_true rfl) ⟨rfl, rfl, ⟨Nat.le_of_ble_eq_true rfl, Nat.le_of_ble_eq_true rfl⟩, Nat.le_of_ble_eq_true rfl, Nat.le_of_ble_eq_true rfl⟩ dX2_useSealBeyond_21 rfl (fun y4 σ3 h => ?_)
      refine r_bipush (v := 8) X 26 dX2_useSealBeyond_24 (by decide) rfl ?_
      refine r_icmp_ne X 42 29 h dX2_useSealBeyond_26 rfl rfl (fun h => ?_) (fun h => ?_)
      · refine r_pick (lv' := [(0, .ref (a r)), (1, .int v1), (2, .int v2), (3, .int v3), (4, .int y2)]) [1, 2, 3, 4, 0] rfl ?_
        exact wk_X2_useSealBeyond_42 X hr9 hlk9 hr hrec2 h
      · refine r_iload X 0 31 dX2_useSealBeyond_29 rfl rfl ?_
        refine r_bipush (v := 100) X 33 dX2_useSealBeyond_31 (by decide) rfl ?_
        refine r_idiv X 34 dX2_useSealBeyond_33 (by decide) rfl ?_
        refine r_iload_n X 2 35 dX2_useSealBeyond_34 rfl rfl rfl ?_
        refine r_icmp_ne X 42 38 h dX2_useSealBeyond_35 rfl rfl (fun h => ?_) (fun h => ?_)
        · refine r_pick (lv' := [(0, .ref (a r)), (1, .int v1), (2, .int v2), (3, .int v3), (4, .int y2)]) [1, 2, 3, 4, 0] rfl ?_
          exact wk_X2_useSealBeyond_42 X hr9 hlk9 hr hrec2 h
        · refine r_iconst (v := 1) X 39 dX2_useSealBeyond_38 (by decide) rfl ?_
          refine r_goto X 43 dX2_useSealBeyond_39 rfl ?_
          refine r_pick (lv' := [(0, .ref (a r)), (1, .int v1), (2, .int v2), (3, .int v3), (4, .int y2)]) [1, 2, 3, 4, 0] rfl ?_
          exact wk_X2_useSealBeyond_43 X hr9 hlk9 hr hrec2 h
def wp_X2_useSealBeyond (r : Nat) (σ : St) (x1 : Int32) (x2 : Int32) (Q : Int32 → St → Prop) : Prop :=
  ∃ n9 : Nat, lp_X2_useSealBeyond_2 r Q n9 x1 x2 0 σ
theorem c_X2_useSealBeyond {r : Nat} (hr : r = 7 ∨ r = 10) {σ : St} {x1 : Int32} {x2 : Int32} {Q : Int32 → St → Prop} (h : wp_X2_useSealBeyond r σ x1 x2 Q) : ctI l yX2_useSealBeyond cX2_useSealBeyond 6 (some .boolean) rm_X2_useSealBeyond D (wC cI cZ cH a n) (tyW cI cZ cH) [.ref (a r), .int x1, .int x2] σ (fun r9 u9 => isB r9 ∧ Q r9 u9) := by
  refine mk_I (wC_ok cI cZ cH a n) (by decide +kernel) (Nat.le_of_ble_eq_true rfl) (fun p e s m args below meth c A X hr9 hlk9 => ?_)
  refine r_pick (lv' := [(0, .ref (a r)), (1, .int x1), (2, .int x2)]) [0, 1, 2] rfl ?_
  delta wp_X2_useSealBeyond at h
  refine r_iconst (v := 0) X 1 dX2_useSealBeyond_0 (by decide) rfl ?_
  refine r_istore_n X 2 [(3, .int 0), (0, .ref (a r)), (1, .int x1), (2, .int x2)] dX2_useSealBeyond_1 rfl (by decide) rfl rfl ?_
  refine r_pick (lv' := [(0, .ref (a r)), (1, .int x1), (2, .int x2), (3, .int 0)]) [1, 2, 3, 0] rfl ?_
  obtain ⟨n9, h⟩ := h
  exact wk_X2_useSealBeyond_2 X hr9 hlk9 hr n9 h
def rm_X2_firstBreak : Room := { frames := 2, cells := 0, slots := 0, locals := 43 }
theorem dX2_firstBreak_0 : decode cX2_firstBreak 0 = .ok (.iconst (-1), 1) := by decide +kernel
theorem dX2_firstBreak_1 : decode cX2_firstBreak 1 = .ok (.istore_n 2, 1) := by decide +kernel
theorem dX2_firstBreak_2 : decode cX2_firstBreak 2 = .ok (.iconst 0, 1) := by decide +kernel
theorem dX2_firstBreak_3 : decode cX2_firstBreak 3 = .ok (.istore_n 3, 1) := by decide +kernel
theorem dX2_firstBreak_4 : decode cX2_firstBreak 4 = .ok (.iload_n 3, 1) := by decide +kernel
theorem dX2_firstBreak_5 : decode cX2_firstBreak 5 = .ok (.aload_n 0, 1) := by decide +kernel
theorem dX2_firstBreak_6 : decode cX2_firstBreak 6 = .ok (.getfield 18, 3) := by decide +kernel
theorem dX2_firstBreak_9 : decode cX2_firstBreak 9 = .ok (.if_icmp .ge 94, 3) := by decide +kernel
theorem dX2_firstBreak_12 : decode cX2_firstBreak 12 = .ok (.aload_n 0, 1) := by decide +kernel
theorem dX2_firstBreak_13 : decode cX2_firstBreak 13 = .ok (.getfield 15, 3) := by decide +kernel
theorem dX2_firstBreak_16 : decode cX2_firstBreak 16 = .ok (.iload_n 3, 1) := by decide +kernel
theorem dX2_firstBreak_17 : decode cX2_firstBreak 17 = .ok (.iaload, 1) := by decide +kernel
theorem dX2_firstBreak_18 : decode cX2_firstBreak 18 = .ok (.istore 4, 2) := by decide +kernel
theorem dX2_firstBreak_20 : decode cX2_firstBreak 20 = .ok (.aload_n 0, 1) := by decide +kernel
theorem dX2_firstBreak_21 : decode cX2_firstBreak 21 = .ok (.iload 4, 2) := by decide +kernel
theorem dX2_firstBreak_23 : decode cX2_firstBreak 23 = .ok (.iconst 1, 1) := by decide +kernel
theorem dX2_firstBreak_24 : decode cX2_firstBreak 24 = .ok (.invokevirtual 36, 3) := by decide +kernel
theorem dX2_firstBreak_27 : decode cX2_firstBreak 27 = .ok (.iload_n 1, 1) := by decide +kernel
theorem dX2_firstBreak_28 : decode cX2_firstBreak 28 = .ok (.if_icmp .eq 6, 3) := by decide +kernel
theorem dX2_firstBreak_31 : decode cX2_firstBreak 31 = .ok (.goto 66, 3) := by decide +kernel
theorem dX2_firstBreak_34 : decode cX2_firstBreak 34 = .ok (.aload_n 0, 1) := by decide +kernel
theorem dX2_firstBreak_35 : decode cX2_firstBreak 35 = .ok (.iload 4, 2) := by decide +kernel
theorem dX2_firstBreak_37 : decode cX2_firstBreak 37 = .ok (.iconst 0, 1) := by decide +kernel
theorem dX2_firstBreak_38 : decode cX2_firstBreak 38 = .ok (.invokevirtual 36, 3) := by decide +kernel
theorem dX2_firstBreak_41 : decode cX2_firstBreak 41 = .ok (.istore 5, 2) := by decide +kernel
theorem dX2_firstBreak_43 : decode cX2_firstBreak 43 = .ok (.aload_n 0, 1) := by decide +kernel
theorem dX2_firstBreak_44 : decode cX2_firstBreak 44 = .ok (.iload 4, 2) := by decide +kernel
theorem dX2_firstBreak_46 : decode cX2_firstBreak 46 = .ok (.iconst 4, 1) := by decide +kernel
theorem dX2_firstBreak_47 : decode cX2_firstBreak 47 = .ok (.invokevirtual 36, 3) := by decide +kernel
theorem dX2_firstBreak_50 : decode cX2_firstBreak 50 = .ok (.istore 6, 2) := by decide +kernel
theorem dX2_firstBreak_52 : decode cX2_firstBreak 52 = .ok (.iload 5, 2) := by decide +kernel
theorem dX2_firstBreak_54 : decode cX2_firstBreak 54 = .ok (.bipush 9, 2) := by decide +kernel
theorem dX2_firstBreak_56 : decode cX2_firstBreak 56 = .ok (.if_icmp .eq 10, 3) := by decide +kernel
theorem dX2_firstBreak_59 : decode cX2_firstBreak 59 = .ok (.iload 5, 2) := by decide +kernel
theorem dX2_firstBreak_61 : decode cX2_firstBreak 61 = .ok (.bipush 10, 2) := by decide +kernel
theorem dX2_firstBreak_63 : decode cX2_firstBreak 63 = .ok (.if_icmp .ne 12, 3) := by decide +kernel
theorem dX2_firstBreak_66 : decode cX2_firstBreak 66 = .ok (.iload 6, 2) := by decide +kernel
theorem dX2_firstBreak_68 : decode cX2_firstBreak 68 = .ok (.iload_n 2, 1) := by decide +kernel
theorem dX2_firstBreak_69 : decode cX2_firstBreak 69 = .ok (.if_icmp .eq 6, 3) := by decide +kernel
theorem dX2_firstBreak_72 : decode cX2_firstBreak 72 = .ok (.iload 4, 2) := by decide +kernel
theorem dX2_firstBreak_74 : decode cX2_firstBreak 74 = .ok (.ireturn, 1) := by decide +kernel
theorem dX2_firstBreak_75 : decode cX2_firstBreak 75 = .ok (.iload 5, 2) := by decide +kernel
theorem dX2_firstBreak_77 : decode cX2_firstBreak 77 = .ok (.bipush 8, 2) := by decide +kernel
theorem dX2_firstBreak_79 : decode cX2_firstBreak 79 = .ok (.if_icmp .ne 9, 3) := by decide +kernel
theorem dX2_firstBreak_82 : decode cX2_firstBreak 82 = .ok (.iload 6, 2) := by decide +kernel
theorem dX2_firstBreak_84 : decode cX2_firstBreak 84 = .ok (.istore_n 2, 1) := by decide +kernel
theorem dX2_firstBreak_85 : decode cX2_firstBreak 85 = .ok (.goto 12, 3) := by decide +kernel
theorem dX2_firstBreak_88 : decode cX2_firstBreak 88 = .ok (.iload 5, 2) := by decide +kernel
theorem dX2_firstBreak_90 : decode cX2_firstBreak 90 = .ok (.bipush 9, 2) := by decide +kernel
theorem dX2_firstBreak_92 : decode cX2_firstBreak 92 = .ok (.if_icmp .ne 5, 3) := by decide +kernel
theorem dX2_firstBreak_95 : decode cX2_firstBreak 95 = .ok (.iconst (-1), 1) := by decide +kernel
theorem dX2_firstBreak_96 : decode cX2_firstBreak 96 = .ok (.istore_n 2, 1) := by decide +kernel
theorem dX2_firstBreak_97 : decode cX2_firstBreak 97 = .ok (.iinc 3 1, 3) := by decide +kernel
theorem dX2_firstBreak_100 : decode cX2_firstBreak 100 = .ok (.goto (-96), 3) := by decide +kernel
theorem dX2_firstBreak_103 : decode cX2_firstBreak 103 = .ok (.iconst (-1), 1) := by decide +kernel
theorem dX2_firstBreak_104 : decode cX2_firstBreak 104 = .ok (.ireturn, 1) := by decide +kernel
def j_X2_firstBreak_97 (r : Nat) (Q : Int32 → St → Prop) (rec4 : Int32 → Int32 → Int32 → St → Prop) (v1 : Int32) (v2 : Int32) (v3 : Int32) (σ : St) : Prop :=
  rec4 v1 v2 (v3 + 1) σ
theorem wk_X2_firstBreak_97 {r : Nat} (X : cx p s m args c cX2_firstBreak 7 RX2 D (wC cI cZ cH a n) A (tyW cI cZ cH)) (hr9 : meth.sig.returnType = (some .int)) (hlk9 : meth.locks = false) (hr : r = 7 ∨ r = 10) {Q : Int32 → St → Prop} {rec4 : Int32 → Int32 → Int32 → St → Prop} (hrec4 : ∀ (v1 : Int32) (v2 : Int32) (v3 : Int32) (σ : St), rec4 v1 v2 v3 σ → go p l e rm_X2_firstBreak s m args below meth c D (wC cI cZ cH a n) A 0 0 (MQ below (va_Qi Q (atw D (wC cI cZ cH a n) (tyW cI cZ cH) A) A) args s 0 0 A) 7 4 [(0, .ref (a r)), (1, .int v1), (2, .int v2), (3, .int v3)] [] σ) {v1 : Int32} {v2 : Int32} {v3 : Int32} {σ : St} (h : j_X2_firstBreak_97 r Q rec4 v1 v2 v3 σ) : go p l e rm_X2_firstBreak s m args below meth c D (wC cI cZ cH a n) A 0 0 (MQ below (va_Qi Q (atw D (wC cI cZ cH a n) (tyW cI cZ cH) A) A) args s 0 0 A) 7 97 [(0, .ref (a r)), (1, .int v1), (2, .int v2), (3, .int v3)] [] σ := by
  delta j_X2_firstBreak_97 at h
  refine r_iinc (d := 1) X 3 100 [(3, .int (v3 + 1)), (0, .ref (a r)), (1, .int v1), (2, .int v2)] dX2_firstBreak_97 rfl (by decide) (by decide) rfl rfl ?_
  refine r_goto X 4 dX2_firstBreak_100 rfl ?_
  refine r_pick (lv' := [(0, .ref (a r)), (1, .int v1), (2, .int v2), (3, .int (v3 + 1))]) [1, 2, 3, 0] rfl ?_
  exact hrec4 _ _ _ _ h
def j_X2_firstBreak_75 (r : Nat) (Q : Int32 → St → Prop) (rec4 : Int32 → Int32 → Int32 → St → Prop) (v1 : Int32) (v2 : Int32) (v3 : Int32) (v5 : Int32) (v6 : Int32) (σ : St) : Prop :=
  if v5 = 8 then
  (j_X2_firstBreak_97 r Q rec4 v1 v6 v3 σ)
  else (if v5 = 9 then
  (j_X2_firstBreak_97 r Q rec4 v1 (-1) v3 σ)
  else (j_X2_firstBreak_97 r Q rec4 v1 v2 v3 σ))
theorem wk_X2_firstBreak_75 {r : Nat} (X : cx p s m args c cX2_firstBreak 7 RX2 D (wC cI cZ cH a n) A (tyW cI cZ cH)) (hr9 : meth.sig.returnType = (some .int)) (hlk9 : meth.locks = false) (hr : r = 7 ∨ r = 10) {Q : Int32 → St → Prop} {rec4 : Int32 → Int32 → Int32 → St → Prop} (hrec4 : ∀ (v1 : Int32) (v2 : Int32) (v3 : Int32) (σ : St), rec4 v1 v2 v3 σ → go p l e rm_X2_firstBreak s m args below meth c D (wC cI cZ cH a n) A 0 0 (MQ below (va_Qi Q (atw D (wC cI cZ cH a n) (tyW cI cZ cH) A) A) args s 0 0 A) 7 4 [(0, .ref (a r)), (1, .int v1), (2, .int v2), (3, .int v3)] [] σ) {v1 : Int32} {v2 : Int32} {v3 : Int32} {v5 : Int32} {v6 : Int32} {σ : St} (h : j_X2_firstBreak_75 r Q rec4 v1 v2 v3 v5 v6 σ) : go p l e rm_X2_firstBreak s m args below meth c D (wC cI cZ cH a n) A 0 0 (MQ below (va_Qi Q (atw D (wC cI cZ cH a n) (tyW cI cZ cH) A) A) args s 0 0 A) 7 75 [(0, .ref (a r)), (1, .int v1), (2, .int v2), (3, .int v3), (5, .int v5), (6, .int v6)] [] σ := by
  delta j_X2_firstBreak_75 at h
  refine r_iload X 4 77 dX2_firstBreak_75 rfl rfl ?_
  refine r_bipush (v := 8) X 79 dX2_firstBreak_77 (by decide) rfl ?_
  refine r_icmp_ne X 88 82 h dX2_firstBreak_79 rfl rfl (fun h => ?_) (fun h => ?_)
  · refine r_iload X 4 90 dX2_firstBreak_88 rfl rfl ?_
    refine r_bipush (v := 9) X 92 dX2_firstBreak_90 (by decide) rfl ?_
    refine r_icmp_ne X 97 95 h dX2_firstBreak_92 rfl rfl (fun h => ?_) (fun h => ?_)
    · refine r_pick (lv' := [(0, .ref (a r)), (1, .int v1), (2, .int v2), (3, .int v3)]) [0, 1, 2, 3] rfl ?_
      exact wk_X2_firstBreak_97 X hr9 hlk9 hr hrec4 h
    · refine r_iconst (v := (-1)) X 96 dX2_firstBreak_95 (by decide) rfl ?_
      refine r_istore_n X 97 [(2, .int (-1)), (0, .ref (a r)), (1, .int v1), (3, .int v3), (5, .int v5), (6, .int v6)] dX2_firstBreak_96 rfl (by decide) rfl rfl ?_
      refine r_pick (lv' := [(0, .ref (a r)), (1, .int v1), (2, .int (-1)), (3, .int v3)]) [1, 2, 0, 3] rfl ?_
      exact wk_X2_firstBreak_97 X hr9 hlk9 hr hrec4 h
  · refine r_iload X 5 84 dX2_firstBreak_82 rfl rfl ?_
    refine r_istore_n X 85 [(2, .int v6), (0, .ref (a r)), (1, .int v1), (3, .int v3), (5, .int v5), (6, .int v6)] dX2_firstBreak_84 rfl (by decide) rfl rfl ?_
    refine r_goto X 97 dX2_firstBreak_85 rfl ?_
    refine r_pick (lv' := [(0, .ref (a r)), (1, .int v1), (2, .int v6), (3, .int v3)]) [1, 2, 0, 3] rfl ?_
    exact wk_X2_firstBreak_97 X hr9 hlk9 hr hrec4 h
def j_X2_firstBreak_66 (r : Nat) (Q : Int32 → St → Prop) (rec4 : Int32 → Int32 → Int32 → St → Prop) (v1 : Int32) (v2 : Int32) (v3 : Int32) (v4 : Int32) (v5 : Int32) (v6 : Int32) (σ : St) : Prop :=
  if v6 = v2 then
  (j_X2_firstBreak_75 r Q rec4 v1 v2 v3 v5 v6 σ)
  else (Q v4 σ)
theorem wk_X2_firstBreak_66 {r : Nat} (X : cx p s m args c cX2_firstBreak 7 RX2 D (wC cI cZ cH a n) A (tyW cI cZ cH)) (hr9 : meth.sig.returnType = (some .int)) (hlk9 : meth.locks = false) (hr : r = 7 ∨ r = 10) {Q : Int32 → St → Prop} {rec4 : Int32 → Int32 → Int32 → St → Prop} (hrec4 : ∀ (v1 : Int32) (v2 : Int32) (v3 : Int32) (σ : St), rec4 v1 v2 v3 σ → go p l e rm_X2_firstBreak s m args below meth c D (wC cI cZ cH a n) A 0 0 (MQ below (va_Qi Q (atw D (wC cI cZ cH a n) (tyW cI cZ cH) A) A) args s 0 0 A) 7 4 [(0, .ref (a r)), (1, .int v1), (2, .int v2), (3, .int v3)] [] σ) {v1 : Int32} {v2 : Int32} {v3 : Int32} {v4 : Int32} {v5 : Int32} {v6 : Int32} {σ : St} (h : j_X2_firstBreak_66 r Q rec4 v1 v2 v3 v4 v5 v6 σ) : go p l e rm_X2_firstBreak s m args below meth c D (wC cI cZ cH a n) A 0 0 (MQ below (va_Qi Q (atw D (wC cI cZ cH a n) (tyW cI cZ cH) A) A) args s 0 0 A) 7 66 [(0, .ref (a r)), (1, .int v1), (2, .int v2), (3, .int v3), (4, .int v4), (5, .int v5), (6, .int v6)] [] σ := by
  delta j_X2_firstBreak_66 at h
  refine r_iload X 6 68 dX2_firstBreak_66 rfl rfl ?_
  refine r_iload_n X 2 69 dX2_firstBreak_68 rfl rfl rfl ?_
  refine r_icmp_eq X 75 72 h dX2_firstBreak_69 rfl rfl (fun h => ?_) (fun h => ?_)
  · refine r_pick (lv' := [(0, .ref (a r)), (1, .int v1), (2, .int v2), (3, .int v3), (5, .int v5), (6, .int v6)]) [0, 1, 2, 3, 5, 6] rfl ?_
    exact wk_X2_firstBreak_75 X hr9 hlk9 hr hrec4 h
  · refine r_iload X 4 74 dX2_firstBreak_72 rfl rfl ?_
    exact r_iret X hr9 hlk9 h dX2_firstBreak_74
def b_X2_firstBreak_4 (r : Nat) (Q : Int32 → St → Prop) (rec4 : Int32 → Int32 → Int32 → St → Prop) (v1 : Int32) (v2 : Int32) (v3 : Int32) (σ : St) : Prop :=
  if v3 < (σ r 2) then
  (vp_in v3 400 ∧
  (nm ((σ (r + 2) (ix v3))) (fun z1 =>
  wp_X2_cell r σ z1 1 (fun y3 σ2 =>
  if y3 = v1 then
  (wp_X2_cell r σ2 z1 0 (fun y5 σ4 =>
  wp_X2_cell r σ4 z1 4 (fun y7 σ6 =>
  if y5 = 9 then
  (j_X2_firstBreak_66 r Q rec4 v1 v2 v3 z1 y5 y7 σ6)
  else (if y5 = 10 then
  (j_X2_firstBreak_66 r Q rec4 v1 v2 v3 z1 y5 y7 σ6)
  else (j_X2_firstBreak_75 r Q rec4 v1 v2 v3 y5 y7 σ6)))))
  else (j_X2_firstBreak_97 r Q rec4 v1 v2 v3 σ2)))))
  else (Q (-1) σ)
def lp_X2_firstBreak_4 (r : Nat) (Q : Int32 → St → Prop) (n9 : Nat) : Int32 → Int32 → Int32 → St → Prop :=
  Nat.rec (fun _ _ _ _ => False) (fun _ rec9 => b_X2_firstBreak_4 r Q  rec9) n9
theorem wk_X2_firstBreak_4 {r : Nat} (X : cx p s m args c cX2_firstBreak 7 RX2 D (wC cI cZ cH a n) A (tyW cI cZ cH)) (hr9 : meth.sig.returnType = (some .int)) (hlk9 : meth.locks = false) (hr : r = 7 ∨ r = 10) {Q : Int32 → St → Prop} : ∀ (n9 : Nat) {v1 : Int32} {v2 : Int32} {v3 : Int32} {σ : St}, lp_X2_firstBreak_4 r Q n9 v1 v2 v3 σ → go p l e rm_X2_firstBreak s m args below meth c D (wC cI cZ cH a n) A 0 0 (MQ below (va_Qi Q (atw D (wC cI cZ cH a n) (tyW cI cZ cH) A) A) args s 0 0 A) 7 4 [(0, .ref (a r)), (1, .int v1), (2, .int v2), (3, .int v3)] [] σ := by
  intro n9
  induction n9 with
  | zero => intro v1 v2 v3 σ h; exact h.elim
  | succ n9 ih =>
    intro v1 v2 v3 σ h
    have hrec4 := fun v1 v2 v3 σ h => ih (σ := σ) (v1 := v1) (v2 := v2) (v3 := v3) h
    replace h : b_X2_firstBreak_4 r Q (lp_X2_firstBreak_4 r Q n9) v1 v2 v3 σ := h
    delta b_X2_firstBreak_4 at h
    refine r_iload_n X 3 5 dX2_firstBreak_4 rfl rfl rfl ?_
    refine r_aload_n X 0 6 dX2_firstBreak_5 rfl rfl rfl ?_
    refine g_X2_18 X hr 9 dX2_firstBreak_6 rfl ?_
    refine r_icmp_ge X 103 12 h dX2_firstBreak_9 rfl rfl (fun h => ?_) (fun h => ?_)
    · refine r_iconst (v := (-1)) X 104 dX2_firstBreak_103 (by decide) rfl ?_
      exact r_iret X hr9 hlk9 h dX2_firstBreak_104
    · refine r_aload_n X 0 13 dX2_firstBreak_12 rfl rfl rfl ?_
      refine g_X2_15 X hr 16 dX2_firstBreak_13 rfl ?_
      refine r_iload_n X 3 17 dX2_firstBreak_16 rfl rfl rfl ?_
      obtain ⟨hin, h⟩ := h
      refine l_Cr2 X hr 18 hin dX2_firstBreak_17 rfl ?_
      refine r_istoreN X 20 (fun z1 => [(4, .int z1), (0, .ref (a r)), (1, .int v1), (2, .int v2), (3, .int v3)]) h dX2_firstBreak_18 (by decide) (fun _ => rfl) rfl (fun z1 h => ?_)
      refine r_aload_n X 1 21 dX2_firstBreak_20 rfl rfl rfl ?_
      refine r_iload X 0 23 dX2_firstBreak_21 rfl rfl ?_
      refine r_iconst (v := 1) X 24 dX2_firstBreak_23 (by decide) rfl ?_
      refine r_callI (As := [.int z1, .int 1]) (rest := []) X 27 (c_X2_cell hr h) ml_X2_36 lk_X2_cell (wC_at_r hr) rfl rfl rfl (Nat.le_of_ble_eq_true rfl) ⟨rfl, rfl, ⟨Nat.le_of_ble_eq_true rfl, Nat.le_of_ble_eq_true rfl⟩, Nat.le_of_ble_eq_true rfl, Nat.le_of_ble_eq_true rfl⟩ dX2_firstBreak_24 rfl (fun y3 σ2 h => ?_)
      refine r_iload_n X 2 28 dX2_firstBreak_27 rfl rfl rfl ?_
      refine r_icmp_eq X 34 31 h dX2_firstBreak_28 rfl rfl (fun h => ?_) (fun h => ?_)
      · refine r_aload_n X 1 35 dX2_firstBreak_34 rfl rfl rfl ?_
        refine r_iload X 0 37 dX2_firstBreak_35 rfl rfl ?_
        refine r_iconst (v := 0) X 38 dX2_firstBreak_37 (by decide) rfl ?_
        refine r_callI (As := [.int z1, .int 0]) (rest := []) X 41 (c_X2_cell hr h) ml_X2_36 lk_X2_cell (wC_at_r hr) rfl rfl rfl (Nat.le_of_ble_eq_true rfl) ⟨rfl, rfl, ⟨Nat.le_of_ble_eq_true rfl, Nat.le_of_ble_eq_true rfl⟩, Nat.le_of_ble_eq_true rfl, Nat.le_of_ble_eq_true rfl⟩ dX2_firstBreak_38 rfl (fun y5 σ4 h => ?_)
        refine r_istore X 43 [(5, .int y5), (4, .int z1), (0, .ref (a r)), (1, .int v1), (2, .int v2), (3, .int v3)] dX2_firstBreak_41 (by decide) rfl rfl ?_
        refine r_aload_n X 2 44 dX2_firstBreak_43 rfl rfl rfl ?_
        refine r_iload X 1 46 dX2_firstBreak_44 rfl rfl ?_
        refine r_iconst (v := 4) X 47 dX2_firstBreak_46 (by decide) rfl ?_
        refine r_callI (As := [.int z1, .int 4]) (rest := []) X 50 (c_X2_cell hr h) ml_X2_36 lk_X2_cell (wC_at_r hr) rfl rfl rfl (Nat.le_of_ble_eq_true rfl) ⟨rfl, rfl, ⟨Nat.le_of_ble_eq_true rfl, Nat.le_of_ble_eq_true rfl⟩, Nat.le_of_ble_eq_true rfl, Nat.le_of_ble_eq_true rfl⟩ dX2_firstBreak_47 rfl (fun y7 σ6 h => ?_)
        refine r_istore X 52 [(6, .int y7), (5, .int y5), (4, .int z1), (0, .ref (a r)), (1, .int v1), (2, .int v2), (3, .int v3)] dX2_firstBreak_50 (by decide) rfl rfl ?_
        refine r_iload X 1 54 dX2_firstBreak_52 rfl rfl ?_
        refine r_bipush (v := 9) X 56 dX2_firstBreak_54 (by decide) rfl ?_
        refine r_icmp_eq X 66 59 h dX2_firstBreak_56 rfl rfl (fun h => ?_) (fun h => ?_)
        · refine r_pick (lv' := [(0, .ref (a r)), (1, .int v1), (2, .int v2), (3, .int v3), (4, .int z1), (5, .int y5), (6, .int y7)]) [3, 4, 5, 6, 2, 1, 0] rfl ?_
          exact wk_X2_firstBreak_66 X hr9 hlk9 hr hrec4 h
        · refine r_iload X 1 61 dX2_firstBreak_59 rfl rfl ?_
          refine r_bipush (v := 10) X 63 dX2_firstBreak_61 (by decide) rfl ?_
          refine r_icmp_ne X 75 66 h dX2_firstBreak_63 rfl rfl (fun h => ?_) (fun h => ?_)
          · refine r_pick (lv' := [(0, .ref (a r)), (1, .int v1), (2, .int v2), (3, .int v3), (5, .int y5), (6, .int y7)]) [3, 4, 5, 6, 1, 0] rfl ?_
            exact wk_X2_firstBreak_75 X hr9 hlk9 hr hrec4 h
          · refine r_pick (lv' := [(0, .ref (a r)), (1, .int v1), (2, .int v2), (3, .int v3), (4, .int z1), (5, .int y5), (6, .int y7)]) [3, 4, 5, 6, 2, 1, 0] rfl ?_
            exact wk_X2_firstBreak_66 X hr9 hlk9 hr hrec4 h
      · refine r_goto X 97 dX2_firstBreak_31 rfl ?_
        refine r_pick (lv' := [(0, .ref (a r)), (1, .int v1), (2, .int v2), (3, .int v3)]) [1, 2, 3, 4] rfl ?_
        exact wk_X2_firstBreak_97 X hr9 hlk9 hr hrec4 h
def wp_X2_firstBreak (r : Nat) (σ : St) (x1 : Int32) (Q : Int32 → St → Prop) : Prop :=
  ∃ n9 : Nat, lp_X2_firstBreak_4 r Q n9 x1 (-1) 0 σ
theorem c_X2_firstBreak {r : Nat} (hr : r = 7 ∨ r = 10) {σ : St} {x1 : Int32} {Q : Int32 → St → Prop} (h : wp_X2_firstBreak r σ x1 Q) : ctI l yX2_firstBreak cX2_firstBreak 7 (some .int) rm_X2_firstBreak D (wC cI cZ cH a n) (tyW cI cZ cH) [.ref (a r), .int x1] σ Q := by
  refine mk_I (wC_ok cI cZ cH a n) (by decide +kernel) (Nat.le_of_ble_eq_true rfl) (fun p e s m args below meth c A X hr9 hlk9 => ?_)
  refine r_pick (lv' := [(0, .ref (a r)), (1, .int x1)]) [0, 1] rfl ?_
  delta wp_X2_firstBreak at h
  refine r_iconst (v := (-1)) X 1 dX2_firstBreak_0 (by decide) rfl ?_
  refine r_istore_n X 2 [(2, .int (-1)), (0, .ref (a r)), (1, .int x1)] dX2_firstBreak_1 rfl (by decide) rfl rfl ?_
  refine r_iconst (v := 0) X 3 dX2_firstBreak_2 (by decide) rfl ?_
  refine r_istore_n X 4 [(3, .int 0), (2, .int (-1)), (0, .ref (a r)), (1, .int x1)] dX2_firstBreak_3 rfl (by decide) rfl rfl ?_
  refine r_pick (lv' := [(0, .ref (a r)), (1, .int x1), (2, .int (-1)), (3, .int 0)]) [2, 3, 1, 0] rfl ?_
  obtain ⟨n9, h⟩ := h
  exact wk_X2_firstBreak_4 X hr9 hlk9 hr n9 h
end WALK
