section WALK
variable {p : Program} {l : Launch} {e : Env} {s : State} {m : MethodId} {args : Array Value} {below : List Frame} {meth : Method} {c : Code} {D : va_G} {A : Nat → Prop} {cI cZ cH : ClassId} {a : Nat → Nat} {n : Nat}
def rm_X0_isBetween : Room := { frames := 0, cells := 0, slots := 0, locals := 0 }
theorem dX0_isBetween_0 : decode cX0_isBetween 0 = .ok (.iload_n 1, 1) := by decide +kernel
theorem dX0_isBetween_1 : decode cX0_isBetween 1 = .ok (.aload_n 0, 1) := by decide +kernel
theorem dX0_isBetween_2 : decode cX0_isBetween 2 = .ok (.getfield 21, 3) := by decide +kernel
theorem dX0_isBetween_5 : decode cX0_isBetween 5 = .ok (.if_icmp .eq 11, 3) := by decide +kernel
theorem dX0_isBetween_8 : decode cX0_isBetween 8 = .ok (.iload_n 1, 1) := by decide +kernel
theorem dX0_isBetween_9 : decode cX0_isBetween 9 = .ok (.aload_n 0, 1) := by decide +kernel
theorem dX0_isBetween_10 : decode cX0_isBetween 10 = .ok (.getfield 24, 3) := by decide +kernel
theorem dX0_isBetween_13 : decode cX0_isBetween 13 = .ok (.if_icmp .ne 7, 3) := by decide +kernel
theorem dX0_isBetween_16 : decode cX0_isBetween 16 = .ok (.iconst 1, 1) := by decide +kernel
theorem dX0_isBetween_17 : decode cX0_isBetween 17 = .ok (.goto 4, 3) := by decide +kernel
theorem dX0_isBetween_20 : decode cX0_isBetween 20 = .ok (.iconst 0, 1) := by decide +kernel
theorem dX0_isBetween_21 : decode cX0_isBetween 21 = .ok (.ireturn, 1) := by decide +kernel
def wp_X0_isBetween (i : Nat) (σ : St) (x1 : Int32) (Q : Int32 → St → Prop) : Prop :=
  if x1 = (σ 30 (7 * i + 1)) then
  (Q 1 σ)
  else (if x1 = (σ 30 (7 * i + 2)) then
  (Q 1 σ)
  else (Q 0 σ))
theorem c_X0_isBetween {i : Nat} (hi : i < n) {σ : St} {x1 : Int32} {Q : Int32 → St → Prop} (h : wp_X0_isBetween i σ x1 Q) : ctI l yX0_isBetween cX0_isBetween 2 (some .boolean) rm_X0_isBetween D (wC cI cZ cH a n) (tyW cI cZ cH) [.ref (a (30 + i)), .int x1] σ (fun r9 u9 => isB r9 ∧ Q r9 u9) := by
  refine mk_I (wC_ok cI cZ cH a n) (by decide +kernel) (Nat.le_of_ble_eq_true rfl) (fun p e s m args below meth c A X hr9 hlk9 => ?_)
  refine r_pick (lv' := [(0, .ref (a (30 + i))), (1, .int x1)]) [0, 1] rfl ?_
  delta wp_X0_isBetween at h
  refine r_iload_n X 1 1 dX0_isBetween_0 rfl rfl rfl ?_
  refine r_aload_n X 0 2 dX0_isBetween_1 rfl rfl rfl ?_
  refine g_X0_21 X hi 5 dX0_isBetween_2 rfl ?_
  refine r_icmp_eq X 16 8 h dX0_isBetween_5 rfl rfl (fun h => ?_) (fun h => ?_)
  · refine r_iconst (v := 1) X 17 dX0_isBetween_16 (by decide) rfl ?_
    refine r_goto X 21 dX0_isBetween_17 rfl ?_
    exact r_zret X hr9 hlk9 isB_1 h dX0_isBetween_21
  · refine r_iload_n X 1 9 dX0_isBetween_8 rfl rfl rfl ?_
    refine r_aload_n X 0 10 dX0_isBetween_9 rfl rfl rfl ?_
    refine g_X0_24 X hi 13 dX0_isBetween_10 rfl ?_
    refine r_icmp_ne X 20 16 h dX0_isBetween_13 rfl rfl (fun h => ?_) (fun h => ?_)
    · refine r_iconst (v := 0) X 21 dX0_isBetween_20 (by decide) rfl ?_
      exact r_zret X hr9 hlk9 isB_0 h dX0_isBetween_21
    · refine r_iconst (v := 1) X 17 dX0_isBetween_16 (by decide) rfl ?_
      refine r_goto X 21 dX0_isBetween_17 rfl ?_
      exact r_zret X hr9 hlk9 isB_1 h dX0_isBetween_21
def rm_X0_awaits : Room := { frames := 0, cells := 0, slots := 0, locals := 0 }
theorem dX0_awaits_0 : decode cX0_awaits 0 = .ok (.aload_n 0, 1) := by decide +kernel
theorem dX0_awaits_1 : decode cX0_awaits 1 = .ok (.getfield 30, 3) := by decide +kernel
theorem dX0_awaits_4 : decode cX0_awaits 4 = .ok (.ifCond .ne 39, 3) := by decide +kernel
theorem dX0_awaits_7 : decode cX0_awaits 7 = .ok (.iload_n 1, 1) := by decide +kernel
theorem dX0_awaits_8 : decode cX0_awaits 8 = .ok (.aload_n 0, 1) := by decide +kernel
theorem dX0_awaits_9 : decode cX0_awaits 9 = .ok (.getfield 21, 3) := by decide +kernel
theorem dX0_awaits_12 : decode cX0_awaits 12 = .ok (.if_icmp .ne 11, 3) := by decide +kernel
theorem dX0_awaits_15 : decode cX0_awaits 15 = .ok (.aload_n 0, 1) := by decide +kernel
theorem dX0_awaits_16 : decode cX0_awaits 16 = .ok (.getfield 9, 3) := by decide +kernel
theorem dX0_awaits_19 : decode cX0_awaits 19 = .ok (.iconst (-1), 1) := by decide +kernel
theorem dX0_awaits_20 : decode cX0_awaits 20 = .ok (.if_icmp .eq 19, 3) := by decide +kernel
theorem dX0_awaits_23 : decode cX0_awaits 23 = .ok (.iload_n 1, 1) := by decide +kernel
theorem dX0_awaits_24 : decode cX0_awaits 24 = .ok (.aload_n 0, 1) := by decide +kernel
theorem dX0_awaits_25 : decode cX0_awaits 25 = .ok (.getfield 24, 3) := by decide +kernel
theorem dX0_awaits_28 : decode cX0_awaits 28 = .ok (.if_icmp .ne 15, 3) := by decide +kernel
theorem dX0_awaits_31 : decode cX0_awaits 31 = .ok (.aload_n 0, 1) := by decide +kernel
theorem dX0_awaits_32 : decode cX0_awaits 32 = .ok (.getfield 15, 3) := by decide +kernel
theorem dX0_awaits_35 : decode cX0_awaits 35 = .ok (.iconst (-1), 1) := by decide +kernel
theorem dX0_awaits_36 : decode cX0_awaits 36 = .ok (.if_icmp .ne 7, 3) := by decide +kernel
theorem dX0_awaits_39 : decode cX0_awaits 39 = .ok (.iconst 1, 1) := by decide +kernel
theorem dX0_awaits_40 : decode cX0_awaits 40 = .ok (.goto 4, 3) := by decide +kernel
theorem dX0_awaits_43 : decode cX0_awaits 43 = .ok (.iconst 0, 1) := by decide +kernel
theorem dX0_awaits_44 : decode cX0_awaits 44 = .ok (.ireturn, 1) := by decide +kernel
def j_X0_awaits_23 (i : Nat) (Q : Int32 → St → Prop) (v1 : Int32) (σ : St) : Prop :=
  if v1 = (σ 30 (7 * i + 2)) then
  (if (σ 30 (7 * i + 5)) = (-1) then
  (Q 1 σ)
  else (Q 0 σ))
  else (Q 0 σ)
theorem wk_X0_awaits_23 {i : Nat} (X : cx p s m args c cX0_awaits 2 RX0 D (wC cI cZ cH a n) A (tyW cI cZ cH)) (hr9 : meth.sig.returnType = (some .boolean)) (hlk9 : meth.locks = false) (hi : i < n) {Q : Int32 → St → Prop} {v1 : Int32} {σ : St} (h : j_X0_awaits_23 i Q v1 σ) : go p l e rm_X0_awaits s m args below meth c D (wC cI cZ cH a n) A 0 0 (MQ below (va_Qi (fun r9 u9 => isB r9 ∧ Q r9 u9) (atw D (wC cI cZ cH a n) (tyW cI cZ cH) A) A) args s 0 0 A) 2 23 [(0, .ref (a (30 + i))), (1, .int v1)] [] σ := by
  delta j_X0_awaits_23 at h
  refine r_iload_n X 1 24 dX0_awaits_23 rfl rfl rfl ?_
  refine r_aload_n X 0 25 dX0_awaits_24 rfl rfl rfl ?_
  refine g_X0_24 X hi 28 dX0_awaits_25 rfl ?_
  refine r_icmp_ne X 43 31 h dX0_awaits_28 rfl rfl (fun h => ?_) (fun h => ?_)
  · refine r_iconst (v := 0) X 44 dX0_awaits_43 (by decide) rfl ?_
    exact r_zret X hr9 hlk9 isB_0 h dX0_awaits_44
  · refine r_aload_n X 0 32 dX0_awaits_31 rfl rfl rfl ?_
    refine g_X0_15 X hi 35 dX0_awaits_32 rfl ?_
    refine r_iconst (v := (-1)) X 36 dX0_awaits_35 (by decide) rfl ?_
    refine r_icmp_ne X 43 39 h dX0_awaits_36 rfl rfl (fun h => ?_) (fun h => ?_)
    · refine r_iconst (v := 0) X 44 dX0_awaits_43 (by decide) rfl ?_
      exact r_zret X hr9 hlk9 isB_0 h dX0_awaits_44
    · refine r_iconst (v := 1) X 40 dX0_awaits_39 (by decide) rfl ?_
      refine r_goto X 44 dX0_awaits_40 rfl ?_
      exact r_zret X hr9 hlk9 isB_1 h dX0_awaits_44
def wp_X0_awaits (i : Nat) (σ : St) (x1 : Int32) (Q : Int32 → St → Prop) : Prop :=
  if (σ 30 (7 * i + 6)) = 0 then
  (if x1 = (σ 30 (7 * i + 1)) then
  (if (σ 30 (7 * i + 4)) = (-1) then
  (Q 1 σ)
  else (j_X0_awaits_23 i Q x1 σ))
  else (j_X0_awaits_23 i Q x1 σ))
  else (Q 0 σ)
theorem c_X0_awaits {i : Nat} (hi : i < n) {σ : St} {x1 : Int32} {Q : Int32 → St → Prop} (h : wp_X0_awaits i σ x1 Q) : ctI l yX0_awaits cX0_awaits 2 (some .boolean) rm_X0_awaits D (wC cI cZ cH a n) (tyW cI cZ cH) [.ref (a (30 + i)), .int x1] σ (fun r9 u9 => isB r9 ∧ Q r9 u9) := by
  refine mk_I (wC_ok cI cZ cH a n) (by decide +kernel) (Nat.le_of_ble_eq_true rfl) (fun p e s m args below meth c A X hr9 hlk9 => ?_)
  refine r_pick (lv' := [(0, .ref (a (30 + i))), (1, .int x1)]) [0, 1] rfl ?_
  delta wp_X0_awaits at h
  refine r_aload_n X 0 1 dX0_awaits_0 rfl rfl rfl ?_
  refine g_X0_30 X hi 4 dX0_awaits_1 rfl ?_
  refine r_if_ne X 43 7 h dX0_awaits_4 rfl rfl (fun h => ?_) (fun h => ?_)
  · refine r_iconst (v := 0) X 44 dX0_awaits_43 (by decide) rfl ?_
    exact r_zret X hr9 hlk9 isB_0 h dX0_awaits_44
  · refine r_iload_n X 1 8 dX0_awaits_7 rfl rfl rfl ?_
    refine r_aload_n X 0 9 dX0_awaits_8 rfl rfl rfl ?_
    refine g_X0_21 X hi 12 dX0_awaits_9 rfl ?_
    refine r_icmp_ne X 23 15 h dX0_awaits_12 rfl rfl (fun h => ?_) (fun h => ?_)
    · refine r_pick (lv' := [(0, .ref (a (30 + i))), (1, .int x1)]) [0, 1] rfl ?_
      exact wk_X0_awaits_23 X hr9 hlk9 hi h
    · refine r_aload_n X 0 16 dX0_awaits_15 rfl rfl rfl ?_
      refine g_X0_9 X hi 19 dX0_awaits_16 rfl ?_
      refine r_iconst (v := (-1)) X 20 dX0_awaits_19 (by decide) rfl ?_
      refine r_icmp_eq X 39 23 h dX0_awaits_20 rfl rfl (fun h => ?_) (fun h => ?_)
      · refine r_iconst (v := 1) X 40 dX0_awaits_39 (by decide) rfl ?_
        refine r_goto X 44 dX0_awaits_40 rfl ?_
        exact r_zret X hr9 hlk9 isB_1 h dX0_awaits_44
      · refine r_pick (lv' := [(0, .ref (a (30 + i))), (1, .int x1)]) [0, 1] rfl ?_
        exact wk_X0_awaits_23 X hr9 hlk9 hi h
def rm_X0_setYes : Room := { frames := 0, cells := 0, slots := 0, locals := 0 }
theorem dX0_setYes_0 : decode cX0_setYes 0 = .ok (.iload_n 1, 1) := by decide +kernel
theorem dX0_setYes_1 : decode cX0_setYes 1 = .ok (.aload_n 0, 1) := by decide +kernel
theorem dX0_setYes_2 : decode cX0_setYes 2 = .ok (.getfield 21, 3) := by decide +kernel
theorem dX0_setYes_5 : decode cX0_setYes 5 = .ok (.if_icmp .ne 11, 3) := by decide +kernel
theorem dX0_setYes_8 : decode cX0_setYes 8 = .ok (.aload_n 0, 1) := by decide +kernel
theorem dX0_setYes_9 : decode cX0_setYes 9 = .ok (.iload_n 2, 1) := by decide +kernel
theorem dX0_setYes_10 : decode cX0_setYes 10 = .ok (.putfield 9, 3) := by decide +kernel
theorem dX0_setYes_13 : decode cX0_setYes 13 = .ok (.goto 8, 3) := by decide +kernel
theorem dX0_setYes_16 : decode cX0_setYes 16 = .ok (.aload_n 0, 1) := by decide +kernel
theorem dX0_setYes_17 : decode cX0_setYes 17 = .ok (.iload_n 2, 1) := by decide +kernel
theorem dX0_setYes_18 : decode cX0_setYes 18 = .ok (.putfield 15, 3) := by decide +kernel
theorem dX0_setYes_21 : decode cX0_setYes 21 = .ok (.return_, 1) := by decide +kernel
def wp_X0_setYes (i : Nat) (σ : St) (x1 : Int32) (x2 : Int32) (Q : St → Prop) : Prop :=
  if x1 = (σ 30 (7 * i + 1)) then
  (nmS (up2 σ 30 (7 * i + 4) x2) (fun σ2 =>
  Q σ2))
  else (nmS (up2 σ 30 (7 * i + 5) x2) (fun σ1 =>
  Q σ1))
theorem c_X0_setYes {i : Nat} (hi : i < n) {σ : St} {x1 : Int32} {x2 : Int32} {Q : St → Prop} (h : wp_X0_setYes i σ x1 x2 Q) : ctV l yX0_setYes cX0_setYes 3 none rm_X0_setYes D (wC cI cZ cH a n) (tyW cI cZ cH) [.ref (a (30 + i)), .int x1, .int x2] σ Q := by
  refine mk_V (wC_ok cI cZ cH a n) (by decide +kernel) (Nat.le_of_ble_eq_true rfl) (fun p e s m args below meth c A X hr9 hlk9 => ?_)
  refine r_pick (lv' := [(0, .ref (a (30 + i))), (1, .int x1), (2, .int x2)]) [0, 1, 2] rfl ?_
  delta wp_X0_setYes at h
  refine r_iload_n X 1 1 dX0_setYes_0 rfl rfl rfl ?_
  refine r_aload_n X 0 2 dX0_setYes_1 rfl rfl rfl ?_
  refine g_X0_21 X hi 5 dX0_setYes_2 rfl ?_
  refine r_icmp_ne X 16 8 h dX0_setYes_5 rfl rfl (fun h => ?_) (fun h => ?_)
  · refine r_aload_n X 0 17 dX0_setYes_16 rfl rfl rfl ?_
    refine r_iload_n X 2 18 dX0_setYes_17 rfl rfl rfl ?_
    refine u_X0_15 X hi 21 dX0_setYes_18 rfl ?_
    refine r_nmS h (fun σ1 h => ?_)
    exact r_vret X hr9 hlk9 h dX0_setYes_21
  · refine r_aload_n X 0 9 dX0_setYes_8 rfl rfl rfl ?_
    refine r_iload_n X 2 10 dX0_setYes_9 rfl rfl rfl ?_
    refine u_X0_9 X hi 13 dX0_setYes_10 rfl ?_
    refine r_nmS h (fun σ2 h => ?_)
    refine r_goto X 21 dX0_setYes_13 rfl ?_
    exact r_vret X hr9 hlk9 h dX0_setYes_21
def rm_X0_isAgreed : Room := { frames := 0, cells := 0, slots := 0, locals := 0 }
theorem dX0_isAgreed_0 : decode cX0_isAgreed 0 = .ok (.aload_n 0, 1) := by decide +kernel
theorem dX0_isAgreed_1 : decode cX0_isAgreed 1 = .ok (.getfield 9, 3) := by decide +kernel
theorem dX0_isAgreed_4 : decode cX0_isAgreed 4 = .ok (.iconst (-1), 1) := by decide +kernel
theorem dX0_isAgreed_5 : decode cX0_isAgreed 5 = .ok (.if_icmp .eq 15, 3) := by decide +kernel
theorem dX0_isAgreed_8 : decode cX0_isAgreed 8 = .ok (.aload_n 0, 1) := by decide +kernel
theorem dX0_isAgreed_9 : decode cX0_isAgreed 9 = .ok (.getfield 15, 3) := by decide +kernel
theorem dX0_isAgreed_12 : decode cX0_isAgreed 12 = .ok (.iconst (-1), 1) := by decide +kernel
theorem dX0_isAgreed_13 : decode cX0_isAgreed 13 = .ok (.if_icmp .eq 7, 3) := by decide +kernel
theorem dX0_isAgreed_16 : decode cX0_isAgreed 16 = .ok (.iconst 1, 1) := by decide +kernel
theorem dX0_isAgreed_17 : decode cX0_isAgreed 17 = .ok (.goto 4, 3) := by decide +kernel
theorem dX0_isAgreed_20 : decode cX0_isAgreed 20 = .ok (.iconst 0, 1) := by decide +kernel
theorem dX0_isAgreed_21 : decode cX0_isAgreed 21 = .ok (.ireturn, 1) := by decide +kernel
def wp_X0_isAgreed (i : Nat) (σ : St) (Q : Int32 → St → Prop) : Prop :=
  if (σ 30 (7 * i + 4)) = (-1) then
  (Q 0 σ)
  else (if (σ 30 (7 * i + 5)) = (-1) then
  (Q 0 σ)
  else (Q 1 σ))
theorem c_X0_isAgreed {i : Nat} (hi : i < n) {σ : St} {Q : Int32 → St → Prop} (h : wp_X0_isAgreed i σ Q) : ctI l yX0_isAgreed cX0_isAgreed 1 (some .boolean) rm_X0_isAgreed D (wC cI cZ cH a n) (tyW cI cZ cH) [.ref (a (30 + i))] σ (fun r9 u9 => isB r9 ∧ Q r9 u9) := by
  refine mk_I (wC_ok cI cZ cH a n) (by decide +kernel) (Nat.le_of_ble_eq_true rfl) (fun p e s m args below meth c A X hr9 hlk9 => ?_)
  refine r_pick (lv' := [(0, .ref (a (30 + i)))]) [0] rfl ?_
  delta wp_X0_isAgreed at h
  refine r_aload_n X 0 1 dX0_isAgreed_0 rfl rfl rfl ?_
  refine g_X0_9 X hi 4 dX0_isAgreed_1 rfl ?_
  refine r_iconst (v := (-1)) X 5 dX0_isAgreed_4 (by decide) rfl ?_
  refine r_icmp_eq X 20 8 h dX0_isAgreed_5 rfl rfl (fun h => ?_) (fun h => ?_)
  · refine r_iconst (v := 0) X 21 dX0_isAgreed_20 (by decide) rfl ?_
    exact r_zret X hr9 hlk9 isB_0 h dX0_isAgreed_21
  · refine r_aload_n X 0 9 dX0_isAgreed_8 rfl rfl rfl ?_
    refine g_X0_15 X hi 12 dX0_isAgreed_9 rfl ?_
    refine r_iconst (v := (-1)) X 13 dX0_isAgreed_12 (by decide) rfl ?_
    refine r_icmp_eq X 20 16 h dX0_isAgreed_13 rfl rfl (fun h => ?_) (fun h => ?_)
    · refine r_iconst (v := 0) X 21 dX0_isAgreed_20 (by decide) rfl ?_
      exact r_zret X hr9 hlk9 isB_0 h dX0_isAgreed_21
    · refine r_iconst (v := 1) X 17 dX0_isAgreed_16 (by decide) rfl ?_
      refine r_goto X 21 dX0_isAgreed_17 rfl ?_
      exact r_zret X hr9 hlk9 isB_1 h dX0_isAgreed_21
def rm_X0_laterYes : Room := { frames := 1, cells := 0, slots := 0, locals := 21 }
theorem dX0_laterYes_0 : decode cX0_laterYes 0 = .ok (.aload_n 0, 1) := by decide +kernel
theorem dX0_laterYes_1 : decode cX0_laterYes 1 = .ok (.getfield 9, 3) := by decide +kernel
theorem dX0_laterYes_4 : decode cX0_laterYes 4 = .ok (.aload_n 0, 1) := by decide +kernel
theorem dX0_laterYes_5 : decode cX0_laterYes 5 = .ok (.getfield 15, 3) := by decide +kernel
theorem dX0_laterYes_8 : decode cX0_laterYes 8 = .ok (.invokestatic 34, 3) := by decide +kernel
theorem dX0_laterYes_11 : decode cX0_laterYes 11 = .ok (.ireturn, 1) := by decide +kernel
def wp_X0_laterYes (i : Nat) (σ : St) (Q : Int32 → St → Prop) : Prop :=
  Q (if (σ 30 (7 * i + 4)) < (σ 30 (7 * i + 5)) then (σ 30 (7 * i + 5)) else (σ 30 (7 * i + 4))) σ
theorem c_X0_laterYes {i : Nat} (hi : i < n) {σ : St} {Q : Int32 → St → Prop} (h : wp_X0_laterYes i σ Q) : ctI l yX0_laterYes cX0_laterYes 1 (some .int) rm_X0_laterYes D (wC cI cZ cH a n) (tyW cI cZ cH) [.ref (a (30 + i))] σ Q := by
  refine mk_I (wC_ok cI cZ cH a n) (by decide +kernel) (Nat.le_of_ble_eq_true rfl) (fun p e s m args below meth c A X hr9 hlk9 => ?_)
  refine r_pick (lv' := [(0, .ref (a (30 + i)))]) [0] rfl ?_
  delta wp_X0_laterYes at h
  refine r_aload_n X 0 1 dX0_laterYes_0 rfl rfl rfl ?_
  refine g_X0_9 X hi 4 dX0_laterYes_1 rfl ?_
  refine r_aload_n X 0 5 dX0_laterYes_4 rfl rfl rfl ?_
  refine g_X0_15 X hi 8 dX0_laterYes_5 rfl ?_
  refine r_mmax X 11 ml_X0_34 sy_J9_max_7cf53 ini_J9 lk_J9_max_7cf53.1 (Nat.le_of_ble_eq_true rfl) (Nat.le_of_ble_eq_true rfl) (Nat.le_of_ble_eq_true rfl) (Nat.le_of_ble_eq_true rfl) dX0_laterYes_8 rfl ?_
  exact r_iret X hr9 hlk9 h dX0_laterYes_11
def rm_X0_isLate : Room := { frames := 2, cells := 0, slots := 0, locals := 41 }
theorem dX0_isLate_0 : decode cX0_isLate 0 = .ok (.aload_n 0, 1) := by decide +kernel
theorem dX0_isLate_1 : decode cX0_isLate 1 = .ok (.invokevirtual 40, 3) := by decide +kernel
theorem dX0_isLate_4 : decode cX0_isLate 4 = .ok (.aload_n 0, 1) := by decide +kernel
theorem dX0_isLate_5 : decode cX0_isLate 5 = .ok (.getfield 27, 3) := by decide +kernel
theorem dX0_isLate_8 : decode cX0_isLate 8 = .ok (.isub, 1) := by decide +kernel
theorem dX0_isLate_9 : decode cX0_isLate 9 = .ok (.bipush 30, 2) := by decide +kernel
theorem dX0_isLate_11 : decode cX0_isLate 11 = .ok (.if_icmp .le 7, 3) := by decide +kernel
theorem dX0_isLate_14 : decode cX0_isLate 14 = .ok (.iconst 1, 1) := by decide +kernel
theorem dX0_isLate_15 : decode cX0_isLate 15 = .ok (.goto 4, 3) := by decide +kernel
theorem dX0_isLate_18 : decode cX0_isLate 18 = .ok (.iconst 0, 1) := by decide +kernel
theorem dX0_isLate_19 : decode cX0_isLate 19 = .ok (.ireturn, 1) := by decide +kernel
def wp_X0_isLate (i : Nat) (σ : St) (Q : Int32 → St → Prop) : Prop :=
  wp_X0_laterYes i σ (fun y2 σ1 =>
  if 30 < (y2 - (σ1 30 (7 * i + 3))) then
  (Q 1 σ1)
  else (Q 0 σ1))
theorem c_X0_isLate {i : Nat} (hi : i < n) {σ : St} {Q : Int32 → St → Prop} (h : wp_X0_isLate i σ Q) : ctI l yX0_isLate cX0_isLate 1 (some .boolean) rm_X0_isLate D (wC cI cZ cH a n) (tyW cI cZ cH) [.ref (a (30 + i))] σ (fun r9 u9 => isB r9 ∧ Q r9 u9) := by
  refine mk_I (wC_ok cI cZ cH a n) (by decide +kernel) (Nat.le_of_ble_eq_true rfl) (fun p e s m args below meth c A X hr9 hlk9 => ?_)
  refine r_pick (lv' := [(0, .ref (a (30 + i)))]) [0] rfl ?_
  delta wp_X0_isLate at h
  refine r_aload_n X 0 1 dX0_isLate_0 rfl rfl rfl ?_
  refine r_callI (As := []) (rest := []) X 4 (c_X0_laterYes hi h) ml_X0_40 lk_X0_laterYes (wC_at_i hi) rfl rfl rfl (Nat.le_of_ble_eq_true rfl) ⟨rfl, rfl, ⟨Nat.le_of_ble_eq_true rfl, Nat.le_of_ble_eq_true rfl⟩, Nat.le_of_ble_eq_true rfl, Nat.le_of_ble_eq_true rfl⟩ dX0_isLate_1 rfl (fun y2 σ1 h => ?_)
  refine r_aload_n X 0 5 dX0_isLate_4 rfl rfl rfl ?_
  refine g_X0_27 X hi 8 dX0_isLate_5 rfl ?_
  refine r_isub X 9 dX0_isLate_8 rfl ?_
  refine r_bipush (v := 30) X 11 dX0_isLate_9 (by decide) rfl ?_
  refine r_icmp_le X 18 14 h dX0_isLate_11 rfl rfl (fun h => ?_) (fun h => ?_)
  · refine r_iconst (v := 0) X 19 dX0_isLate_18 (by decide) rfl ?_
    exact r_zret X hr9 hlk9 isB_0 h dX0_isLate_19
  · refine r_iconst (v := 1) X 15 dX0_isLate_14 (by decide) rfl ?_
    refine r_goto X 19 dX0_isLate_15 rfl ?_
    exact r_zret X hr9 hlk9 isB_1 h dX0_isLate_19
def rm_X4_isThing : Room := { frames := 0, cells := 0, slots := 0, locals := 0 }
theorem dX4_isThing_0 : decode cX4_isThing 0 = .ok (.iload_n 1, 1) := by decide +kernel
theorem dX4_isThing_1 : decode cX4_isThing 1 = .ok (.ifCond .lt 15, 3) := by decide +kernel
theorem dX4_isThing_4 : decode cX4_isThing 4 = .ok (.iload_n 1, 1) := by decide +kernel
theorem dX4_isThing_5 : decode cX4_isThing 5 = .ok (.aload_n 0, 1) := by decide +kernel
theorem dX4_isThing_6 : decode cX4_isThing 6 = .ok (.getfield 41, 3) := by decide +kernel
theorem dX4_isThing_9 : decode cX4_isThing 9 = .ok (.if_icmp .ge 7, 3) := by decide +kernel
theorem dX4_isThing_12 : decode cX4_isThing 12 = .ok (.iconst 1, 1) := by decide +kernel
theorem dX4_isThing_13 : decode cX4_isThing 13 = .ok (.goto 4, 3) := by decide +kernel
theorem dX4_isThing_16 : decode cX4_isThing 16 = .ok (.iconst 0, 1) := by decide +kernel
theorem dX4_isThing_17 : decode cX4_isThing 17 = .ok (.ireturn, 1) := by decide +kernel
def wp_X4_isThing  (σ : St) (x1 : Int32) (Q : Int32 → St → Prop) : Prop :=
  if x1 < 0 then
  (Q 0 σ)
  else (if x1 < (σ 1 7) then
  (Q 1 σ)
  else (Q 0 σ))
theorem c_X4_isThing  {σ : St} {x1 : Int32} {Q : Int32 → St → Prop} (h : wp_X4_isThing σ x1 Q) : ctI l yX4_isThing cX4_isThing 2 (some .boolean) rm_X4_isThing D (wC cI cZ cH a n) (tyW cI cZ cH) [.ref (a 1), .int x1] σ (fun r9 u9 => isB r9 ∧ Q r9 u9) := by
  refine mk_I (wC_ok cI cZ cH a n) (by decide +kernel) (Nat.le_of_ble_eq_true rfl) (fun p e s m args below meth c A X hr9 hlk9 => ?_)
  refine r_pick (lv' := [(0, .ref (a 1)), (1, .int x1)]) [0, 1] rfl ?_
  delta wp_X4_isThing at h
  refine r_iload_n X 1 1 dX4_isThing_0 rfl rfl rfl ?_
  refine r_if_lt X 16 4 h dX4_isThing_1 rfl rfl (fun h => ?_) (fun h => ?_)
  · refine r_iconst (v := 0) X 17 dX4_isThing_16 (by decide) rfl ?_
    exact r_zret X hr9 hlk9 isB_0 h dX4_isThing_17
  · refine r_iload_n X 1 5 dX4_isThing_4 rfl rfl rfl ?_
    refine r_aload_n X 0 6 dX4_isThing_5 rfl rfl rfl ?_
    refine g_X4_41 X 9 dX4_isThing_6 rfl ?_
    refine r_icmp_ge X 16 12 h dX4_isThing_9 rfl rfl (fun h => ?_) (fun h => ?_)
    · refine r_iconst (v := 0) X 17 dX4_isThing_16 (by decide) rfl ?_
      exact r_zret X hr9 hlk9 isB_0 h dX4_isThing_17
    · refine r_iconst (v := 1) X 13 dX4_isThing_12 (by decide) rfl ?_
      refine r_goto X 17 dX4_isThing_13 rfl ?_
      exact r_zret X hr9 hlk9 isB_1 h dX4_isThing_17
def rm_X4_isOfKind : Room := { frames := 0, cells := 0, slots := 0, locals := 0 }
theorem dX4_isOfKind_0 : decode cX4_isOfKind 0 = .ok (.iload_n 1, 1) := by decide +kernel
theorem dX4_isOfKind_1 : decode cX4_isOfKind 1 = .ok (.ifCond .lt 25, 3) := by decide +kernel
theorem dX4_isOfKind_4 : decode cX4_isOfKind 4 = .ok (.iload_n 1, 1) := by decide +kernel
theorem dX4_isOfKind_5 : decode cX4_isOfKind 5 = .ok (.aload_n 0, 1) := by decide +kernel
theorem dX4_isOfKind_6 : decode cX4_isOfKind 6 = .ok (.getfield 41, 3) := by decide +kernel
theorem dX4_isOfKind_9 : decode cX4_isOfKind 9 = .ok (.if_icmp .ge 17, 3) := by decide +kernel
theorem dX4_isOfKind_12 : decode cX4_isOfKind 12 = .ok (.aload_n 0, 1) := by decide +kernel
theorem dX4_isOfKind_13 : decode cX4_isOfKind 13 = .ok (.getfield 22, 3) := by decide +kernel
theorem dX4_isOfKind_16 : decode cX4_isOfKind 16 = .ok (.iload_n 1, 1) := by decide +kernel
theorem dX4_isOfKind_17 : decode cX4_isOfKind 17 = .ok (.iaload, 1) := by decide +kernel
theorem dX4_isOfKind_18 : decode cX4_isOfKind 18 = .ok (.iload_n 2, 1) := by decide +kernel
theorem dX4_isOfKind_19 : decode cX4_isOfKind 19 = .ok (.if_icmp .ne 7, 3) := by decide +kernel
theorem dX4_isOfKind_22 : decode cX4_isOfKind 22 = .ok (.iconst 1, 1) := by decide +kernel
theorem dX4_isOfKind_23 : decode cX4_isOfKind 23 = .ok (.goto 4, 3) := by decide +kernel
theorem dX4_isOfKind_26 : decode cX4_isOfKind 26 = .ok (.iconst 0, 1) := by decide +kernel
theorem dX4_isOfKind_27 : decode cX4_isOfKind 27 = .ok (.ireturn, 1) := by decide +kernel
def wp_X4_isOfKind  (σ : St) (x1 : Int32) (x2 : Int32) (Q : Int32 → St → Prop) : Prop :=
  if x1 < 0 then
  (Q 0 σ)
  else (if x1 < (σ 1 7) then
  (vp_in x1 60 ∧
  (if (σ 5 (ix x1)) = x2 then
  (Q 1 σ)
  else (Q 0 σ)))
  else (Q 0 σ))
theorem c_X4_isOfKind  {σ : St} {x1 : Int32} {x2 : Int32} {Q : Int32 → St → Prop} (h : wp_X4_isOfKind σ x1 x2 Q) : ctI l yX4_isOfKind cX4_isOfKind 3 (some .boolean) rm_X4_isOfKind D (wC cI cZ cH a n) (tyW cI cZ cH) [.ref (a 1), .int x1, .int x2] σ (fun r9 u9 => isB r9 ∧ Q r9 u9) := by
  refine mk_I (wC_ok cI cZ cH a n) (by decide +kernel) (Nat.le_of_ble_eq_true rfl) (fun p e s m args below meth c A X hr9 hlk9 => ?_)
  refine r_pick (lv' := [(0, .ref (a 1)), (1, .int x1), (2, .int x2)]) [0, 1, 2] rfl ?_
  delta wp_X4_isOfKind at h
  refine r_iload_n X 1 1 dX4_isOfKind_0 rfl rfl rfl ?_
  refine r_if_lt X 26 4 h dX4_isOfKind_1 rfl rfl (fun h => ?_) (fun h => ?_)
  · refine r_iconst (v := 0) X 27 dX4_isOfKind_26 (by decide) rfl ?_
    exact r_zret X hr9 hlk9 isB_0 h dX4_isOfKind_27
  · refine r_iload_n X 1 5 dX4_isOfKind_4 rfl rfl rfl ?_
    refine r_aload_n X 0 6 dX4_isOfKind_5 rfl rfl rfl ?_
    refine g_X4_41 X 9 dX4_isOfKind_6 rfl ?_
    refine r_icmp_ge X 26 12 h dX4_isOfKind_9 rfl rfl (fun h => ?_) (fun h => ?_)
    · refine r_iconst (v := 0) X 27 dX4_isOfKind_26 (by decide) rfl ?_
      exact r_zret X hr9 hlk9 isB_0 h dX4_isOfKind_27
    · refine r_aload_n X 0 13 dX4_isOfKind_12 rfl rfl rfl ?_
      refine g_X4_22 X 16 dX4_isOfKind_13 rfl ?_
      refine r_iload_n X 1 17 dX4_isOfKind_16 rfl rfl rfl ?_
      obtain ⟨hin, h⟩ := h
      refine l_C5 X 18 hin dX4_isOfKind_17 rfl ?_
      refine r_iload_n X 2 19 dX4_isOfKind_18 rfl rfl rfl ?_
      refine r_icmp_ne X 26 22 h dX4_isOfKind_19 rfl rfl (fun h => ?_) (fun h => ?_)
      · refine r_iconst (v := 0) X 27 dX4_isOfKind_26 (by decide) rfl ?_
        exact r_zret X hr9 hlk9 isB_0 h dX4_isOfKind_27
      · refine r_iconst (v := 1) X 23 dX4_isOfKind_22 (by decide) rfl ?_
        refine r_goto X 27 dX4_isOfKind_23 rfl ?_
        exact r_zret X hr9 hlk9 isB_1 h dX4_isOfKind_27
def rm_X4_isKeeper : Room := { frames := 0, cells := 0, slots := 0, locals := 0 }
theorem dX4_isKeeper_0 : decode cX4_isKeeper 0 = .ok (.iload_n 1, 1) := by decide +kernel
theorem dX4_isKeeper_1 : decode cX4_isKeeper 1 = .ok (.ifCond .lt 24, 3) := by decide +kernel
theorem dX4_isKeeper_4 : decode cX4_isKeeper 4 = .ok (.iload_n 1, 1) := by decide +kernel
theorem dX4_isKeeper_5 : decode cX4_isKeeper 5 = .ok (.aload_n 0, 1) := by decide +kernel
theorem dX4_isKeeper_6 : decode cX4_isKeeper 6 = .ok (.getfield 34, 3) := by decide +kernel
theorem dX4_isKeeper_9 : decode cX4_isKeeper 9 = .ok (.if_icmp .ge 16, 3) := by decide +kernel
theorem dX4_isKeeper_12 : decode cX4_isKeeper 12 = .ok (.aload_n 0, 1) := by decide +kernel
theorem dX4_isKeeper_13 : decode cX4_isKeeper 13 = .ok (.getfield 9, 3) := by decide +kernel
theorem dX4_isKeeper_16 : decode cX4_isKeeper 16 = .ok (.iload_n 1, 1) := by decide +kernel
theorem dX4_isKeeper_17 : decode cX4_isKeeper 17 = .ok (.baload, 1) := by decide +kernel
theorem dX4_isKeeper_18 : decode cX4_isKeeper 18 = .ok (.ifCond .eq 7, 3) := by decide +kernel
theorem dX4_isKeeper_21 : decode cX4_isKeeper 21 = .ok (.iconst 1, 1) := by decide +kernel
theorem dX4_isKeeper_22 : decode cX4_isKeeper 22 = .ok (.goto 4, 3) := by decide +kernel
theorem dX4_isKeeper_25 : decode cX4_isKeeper 25 = .ok (.iconst 0, 1) := by decide +kernel
theorem dX4_isKeeper_26 : decode cX4_isKeeper 26 = .ok (.ireturn, 1) := by decide +kernel
def wp_X4_isKeeper  (σ : St) (x1 : Int32) (Q : Int32 → St → Prop) : Prop :=
  if x1 < 0 then
  (Q 0 σ)
  else (if x1 < (σ 1 5) then
  (vp_in x1 20 ∧
  (if (σ 2 (ix x1)) = 0 then
  (Q 0 σ)
  else (Q 1 σ)))
  else (Q 0 σ))
theorem c_X4_isKeeper  {σ : St} {x1 : Int32} {Q : Int32 → St → Prop} (h : wp_X4_isKeeper σ x1 Q) : ctI l yX4_isKeeper cX4_isKeeper 2 (some .boolean) rm_X4_isKeeper D (wC cI cZ cH a n) (tyW cI cZ cH) [.ref (a 1), .int x1] σ (fun r9 u9 => isB r9 ∧ Q r9 u9) := by
  refine mk_I (wC_ok cI cZ cH a n) (by decide +kernel) (Nat.le_of_ble_eq_true rfl) (fun p e s m args below meth c A X hr9 hlk9 => ?_)
  refine r_pick (lv' := [(0, .ref (a 1)), (1, .int x1)]) [0, 1] rfl ?_
  delta wp_X4_isKeeper at h
  refine r_iload_n X 1 1 dX4_isKeeper_0 rfl rfl rfl ?_
  refine r_if_lt X 25 4 h dX4_isKeeper_1 rfl rfl (fun h => ?_) (fun h => ?_)
  · refine r_iconst (v := 0) X 26 dX4_isKeeper_25 (by decide) rfl ?_
    exact r_zret X hr9 hlk9 isB_0 h dX4_isKeeper_26
  · refine r_iload_n X 1 5 dX4_isKeeper_4 rfl rfl rfl ?_
    refine r_aload_n X 0 6 dX4_isKeeper_5 rfl rfl rfl ?_
    refine g_X4_34 X 9 dX4_isKeeper_6 rfl ?_
    refine r_icmp_ge X 25 12 h dX4_isKeeper_9 rfl rfl (fun h => ?_) (fun h => ?_)
    · refine r_iconst (v := 0) X 26 dX4_isKeeper_25 (by decide) rfl ?_
      exact r_zret X hr9 hlk9 isB_0 h dX4_isKeeper_26
    · refine r_aload_n X 0 13 dX4_isKeeper_12 rfl rfl rfl ?_
      refine g_X4_9 X 16 dX4_isKeeper_13 rfl ?_
      refine r_iload_n X 1 17 dX4_isKeeper_16 rfl rfl rfl ?_
      obtain ⟨hin, h⟩ := h
      refine l_C2 X 18 hin dX4_isKeeper_17 rfl ?_
      refine r_if_eq X 25 21 h dX4_isKeeper_18 rfl rfl (fun h => ?_) (fun h => ?_)
      · refine r_iconst (v := 0) X 26 dX4_isKeeper_25 (by decide) rfl ?_
        exact r_zret X hr9 hlk9 isB_0 h dX4_isKeeper_26
      · refine r_iconst (v := 1) X 22 dX4_isKeeper_21 (by decide) rfl ?_
        refine r_goto X 26 dX4_isKeeper_22 rfl ?_
        exact r_zret X hr9 hlk9 isB_1 h dX4_isKeeper_26
def rm_X4_isHand : Room := { frames := 0, cells := 0, slots := 0, locals := 0 }
theorem dX4_isHand_0 : decode cX4_isHand 0 = .ok (.iload_n 1, 1) := by decide +kernel
theorem dX4_isHand_1 : decode cX4_isHand 1 = .ok (.ifCond .lt 15, 3) := by decide +kernel
theorem dX4_isHand_4 : decode cX4_isHand 4 = .ok (.iload_n 1, 1) := by decide +kernel
theorem dX4_isHand_5 : decode cX4_isHand 5 = .ok (.aload_n 0, 1) := by decide +kernel
theorem dX4_isHand_6 : decode cX4_isHand 6 = .ok (.getfield 34, 3) := by decide +kernel
theorem dX4_isHand_9 : decode cX4_isHand 9 = .ok (.if_icmp .ge 7, 3) := by decide +kernel
theorem dX4_isHand_12 : decode cX4_isHand 12 = .ok (.iconst 1, 1) := by decide +kernel
theorem dX4_isHand_13 : decode cX4_isHand 13 = .ok (.goto 4, 3) := by decide +kernel
theorem dX4_isHand_16 : decode cX4_isHand 16 = .ok (.iconst 0, 1) := by decide +kernel
theorem dX4_isHand_17 : decode cX4_isHand 17 = .ok (.ireturn, 1) := by decide +kernel
def wp_X4_isHand  (σ : St) (x1 : Int32) (Q : Int32 → St → Prop) : Prop :=
  if x1 < 0 then
  (Q 0 σ)
  else (if x1 < (σ 1 5) then
  (Q 1 σ)
  else (Q 0 σ))
theorem c_X4_isHand  {σ : St} {x1 : Int32} {Q : Int32 → St → Prop} (h : wp_X4_isHand σ x1 Q) : ctI l yX4_isHand cX4_isHand 2 (some .boolean) rm_X4_isHand D (wC cI cZ cH a n) (tyW cI cZ cH) [.ref (a 1), .int x1] σ (fun r9 u9 => isB r9 ∧ Q r9 u9) := by
  refine mk_I (wC_ok cI cZ cH a n) (by decide +kernel) (Nat.le_of_ble_eq_true rfl) (fun p e s m args below meth c A X hr9 hlk9 => ?_)
  refine r_pick (lv' := [(0, .ref (a 1)), (1, .int x1)]) [0, 1] rfl ?_
  delta wp_X4_isHand at h
  refine r_iload_n X 1 1 dX4_isHand_0 rfl rfl rfl ?_
  refine r_if_lt X 16 4 h dX4_isHand_1 rfl rfl (fun h => ?_) (fun h => ?_)
  · refine r_iconst (v := 0) X 17 dX4_isHand_16 (by decide) rfl ?_
    exact r_zret X hr9 hlk9 isB_0 h dX4_isHand_17
  · refine r_iload_n X 1 5 dX4_isHand_4 rfl rfl rfl ?_
    refine r_aload_n X 0 6 dX4_isHand_5 rfl rfl rfl ?_
    refine g_X4_34 X 9 dX4_isHand_6 rfl ?_
    refine r_icmp_ge X 16 12 h dX4_isHand_9 rfl rfl (fun h => ?_) (fun h => ?_)
    · refine r_iconst (v := 0) X 17 dX4_isHand_16 (by decide) rfl ?_
      exact r_zret X hr9 hlk9 isB_0 h dX4_isHand_17
    · refine r_iconst (v := 1) X 13 dX4_isHand_12 (by decide) rfl ?_
      refine r_goto X 17 dX4_isHand_13 rfl ?_
      exact r_zret X hr9 hlk9 isB_1 h dX4_isHand_17
def rm_X4_isPlace : Room := { frames := 0, cells := 0, slots := 0, locals := 0 }
theorem dX4_isPlace_0 : decode cX4_isPlace 0 = .ok (.iload_n 1, 1) := by decide +kernel
theorem dX4_isPlace_1 : decode cX4_isPlace 1 = .ok (.ifCond .lt 18, 3) := by decide +kernel
theorem dX4_isPlace_4 : decode cX4_isPlace 4 = .ok (.iload_n 1, 1) := by decide +kernel
theorem dX4_isPlace_5 : decode cX4_isPlace 5 = .ok (.aload_n 0, 1) := by decide +kernel
theorem dX4_isPlace_6 : decode cX4_isPlace 6 = .ok (.getfield 38, 3) := by decide +kernel
theorem dX4_isPlace_9 : decode cX4_isPlace 9 = .ok (.bipush 12, 2) := by decide +kernel
theorem dX4_isPlace_11 : decode cX4_isPlace 11 = .ok (.imul, 1) := by decide +kernel
theorem dX4_isPlace_12 : decode cX4_isPlace 12 = .ok (.if_icmp .ge 7, 3) := by decide +kernel
theorem dX4_isPlace_15 : decode cX4_isPlace 15 = .ok (.iconst 1, 1) := by decide +kernel
theorem dX4_isPlace_16 : decode cX4_isPlace 16 = .ok (.goto 4, 3) := by decide +kernel
theorem dX4_isPlace_19 : decode cX4_isPlace 19 = .ok (.iconst 0, 1) := by decide +kernel
theorem dX4_isPlace_20 : decode cX4_isPlace 20 = .ok (.ireturn, 1) := by decide +kernel
def wp_X4_isPlace  (σ : St) (x1 : Int32) (Q : Int32 → St → Prop) : Prop :=
  if x1 < 0 then
  (Q 0 σ)
  else (if x1 < ((σ 1 6) * 12) then
  (Q 1 σ)
  else (Q 0 σ))
theorem c_X4_isPlace  {σ : St} {x1 : Int32} {Q : Int32 → St → Prop} (h : wp_X4_isPlace σ x1 Q) : ctI l yX4_isPlace cX4_isPlace 2 (some .boolean) rm_X4_isPlace D (wC cI cZ cH a n) (tyW cI cZ cH) [.ref (a 1), .int x1] σ (fun r9 u9 => isB r9 ∧ Q r9 u9) := by
  refine mk_I (wC_ok cI cZ cH a n) (by decide +kernel) (Nat.le_of_ble_eq_true rfl) (fun p e s m args below meth c A X hr9 hlk9 => ?_)
  refine r_pick (lv' := [(0, .ref (a 1)), (1, .int x1)]) [0, 1] rfl ?_
  delta wp_X4_isPlace at h
  refine r_iload_n X 1 1 dX4_isPlace_0 rfl rfl rfl ?_
  refine r_if_lt X 19 4 h dX4_isPlace_1 rfl rfl (fun h => ?_) (fun h => ?_)
  · refine r_iconst (v := 0) X 20 dX4_isPlace_19 (by decide) rfl ?_
    exact r_zret X hr9 hlk9 isB_0 h dX4_isPlace_20
  · refine r_iload_n X 1 5 dX4_isPlace_4 rfl rfl rfl ?_
    refine r_aload_n X 0 6 dX4_isPlace_5 rfl rfl rfl ?_
    refine g_X4_38 X 9 dX4_isPlace_6 rfl ?_
    refine r_bipush (v := 12) X 11 dX4_isPlace_9 (by decide) rfl ?_
    refine r_imul X 12 dX4_isPlace_11 rfl ?_
    refine r_icmp_ge X 19 15 h dX4_isPlace_12 rfl rfl (fun h => ?_) (fun h => ?_)
    · refine r_iconst (v := 0) X 20 dX4_isPlace_19 (by decide) rfl ?_
      exact r_zret X hr9 hlk9 isB_0 h dX4_isPlace_20
    · refine r_iconst (v := 1) X 16 dX4_isPlace_15 (by decide) rfl ?_
      refine r_goto X 20 dX4_isPlace_16 rfl ?_
      exact r_zret X hr9 hlk9 isB_1 h dX4_isPlace_20
def rm_X4_isColdPlace : Room := { frames := 0, cells := 0, slots := 0, locals := 0 }
theorem dX4_isColdPlace_0 : decode cX4_isColdPlace 0 = .ok (.iload_n 1, 1) := by decide +kernel
theorem dX4_isColdPlace_1 : decode cX4_isColdPlace 1 = .ok (.ifCond .lt 30, 3) := by decide +kernel
theorem dX4_isColdPlace_4 : decode cX4_isColdPlace 4 = .ok (.iload_n 1, 1) := by decide +kernel
theorem dX4_isColdPlace_5 : decode cX4_isColdPlace 5 = .ok (.aload_n 0, 1) := by decide +kernel
theorem dX4_isColdPlace_6 : decode cX4_isColdPlace 6 = .ok (.getfield 38, 3) := by decide +kernel
theorem dX4_isColdPlace_9 : decode cX4_isColdPlace 9 = .ok (.bipush 12, 2) := by decide +kernel
theorem dX4_isColdPlace_11 : decode cX4_isColdPlace 11 = .ok (.imul, 1) := by decide +kernel
theorem dX4_isColdPlace_12 : decode cX4_isColdPlace 12 = .ok (.if_icmp .ge 19, 3) := by decide +kernel
theorem dX4_isColdPlace_15 : decode cX4_isColdPlace 15 = .ok (.aload_n 0, 1) := by decide +kernel
theorem dX4_isColdPlace_16 : decode cX4_isColdPlace 16 = .ok (.getfield 15, 3) := by decide +kernel
theorem dX4_isColdPlace_19 : decode cX4_isColdPlace 19 = .ok (.iload_n 1, 1) := by decide +kernel
theorem dX4_isColdPlace_20 : decode cX4_isColdPlace 20 = .ok (.bipush 12, 2) := by decide +kernel
theorem dX4_isColdPlace_22 : decode cX4_isColdPlace 22 = .ok (.idiv, 1) := by decide +kernel
theorem dX4_isColdPlace_23 : decode cX4_isColdPlace 23 = .ok (.baload, 1) := by decide +kernel
theorem dX4_isColdPlace_24 : decode cX4_isColdPlace 24 = .ok (.ifCond .eq 7, 3) := by decide +kernel
theorem dX4_isColdPlace_27 : decode cX4_isColdPlace 27 = .ok (.iconst 1, 1) := by decide +kernel
theorem dX4_isColdPlace_28 : decode cX4_isColdPlace 28 = .ok (.goto 4, 3) := by decide +kernel
theorem dX4_isColdPlace_31 : decode cX4_isColdPlace 31 = .ok (.iconst 0, 1) := by decide +kernel
theorem dX4_isColdPlace_32 : decode cX4_isColdPlace 32 = .ok (.ireturn, 1) := by decide +kernel
def wp_X4_isColdPlace  (σ : St) (x1 : Int32) (Q : Int32 → St → Prop) : Prop :=
  if x1 < 0 then
  (Q 0 σ)
  else (if x1 < ((σ 1 6) * 12) then
  (vp_in (x1 / 12) 8 ∧
  (if (σ 3 (ix (x1 / 12))) = 0 then
  (Q 0 σ)
  else (Q 1 σ)))
  else (Q 0 σ))
theorem c_X4_isColdPlace  {σ : St} {x1 : Int32} {Q : Int32 → St → Prop} (h : wp_X4_isColdPlace σ x1 Q) : ctI l yX4_isColdPlace cX4_isColdPlace 2 (some .boolean) rm_X4_isColdPlace D (wC cI cZ cH a n) (tyW cI cZ cH) [.ref (a 1), .int x1] σ (fun r9 u9 => isB r9 ∧ Q r9 u9) := by
  refine mk_I (wC_ok cI cZ cH a n) (by decide +kernel) (Nat.le_of_ble_eq_true rfl) (fun p e s m args below meth c A X hr9 hlk9 => ?_)
  refine r_pick (lv' := [(0, .ref (a 1)), (1, .int x1)]) [0, 1] rfl ?_
  delta wp_X4_isColdPlace at h
  refine r_iload_n X 1 1 dX4_isColdPlace_0 rfl rfl rfl ?_
  refine r_if_lt X 31 4 h dX4_isColdPlace_1 rfl rfl (fun h => ?_) (fun h => ?_)
  · refine r_iconst (v := 0) X 32 dX4_isColdPlace_31 (by decide) rfl ?_
    exact r_zret X hr9 hlk9 isB_0 h dX4_isColdPlace_32
  · refine r_iload_n X 1 5 dX4_isColdPlace_4 rfl rfl rfl ?_
    refine r_aload_n X 0 6 dX4_isColdPlace_5 rfl rfl rfl ?_
    refine g_X4_38 X 9 dX4_isColdPlace_6 rfl ?_
    refine r_bipush (v := 12) X 11 dX4_isColdPlace_9 (by decide) rfl ?_
    refine r_imul X 12 dX4_isColdPlace_11 rfl ?_
    refine r_icmp_ge X 31 15 h dX4_isColdPlace_12 rfl rfl (fun h => ?_) (fun h => ?_)
    · refine r_iconst (v := 0) X 32 dX4_isColdPlace_31 (by decide) rfl ?_
      exact r_zret X hr9 hlk9 isB_0 h dX4_isColdPlace_32
    · refine r_aload_n X 0 16 dX4_isColdPlace_15 rfl rfl rfl ?_
      refine g_X4_15 X 19 dX4_isColdPlace_16 rfl ?_
      refine r_iload_n X 1 20 dX4_isColdPlace_19 rfl rfl rfl ?_
      refine r_bipush (v := 12) X 22 dX4_isColdPlace_20 (by decide) rfl ?_
      refine r_idiv X 23 dX4_isColdPlace_22 (by decide) rfl ?_
      obtain ⟨hin, h⟩ := h
      refine l_C3 X 24 hin dX4_isColdPlace_23 rfl ?_
      refine r_if_eq X 31 27 h dX4_isColdPlace_24 rfl rfl (fun h => ?_) (fun h => ?_)
      · refine r_iconst (v := 0) X 32 dX4_isColdPlace_31 (by decide) rfl ?_
        exact r_zret X hr9 hlk9 isB_0 h dX4_isColdPlace_32
      · refine r_iconst (v := 1) X 28 dX4_isColdPlace_27 (by decide) rfl ?_
        refine r_goto X 32 dX4_isColdPlace_28 rfl ?_
        exact r_zret X hr9 hlk9 isB_1 h dX4_isColdPlace_32
def rm_X4_isBag : Room := { frames := 1, cells := 0, slots := 0, locals := 22 }
theorem dX4_isBag_0 : decode cX4_isBag 0 = .ok (.aload_n 0, 1) := by decide +kernel
theorem dX4_isBag_1 : decode cX4_isBag 1 = .ok (.iload_n 1, 1) := by decide +kernel
theorem dX4_isBag_2 : decode cX4_isBag 2 = .ok (.iconst 1, 1) := by decide +kernel
theorem dX4_isBag_3 : decode cX4_isBag 3 = .ok (.invokevirtual 44, 3) := by decide +kernel
theorem dX4_isBag_6 : decode cX4_isBag 6 = .ok (.ifCond .ne 21, 3) := by decide +kernel
theorem dX4_isBag_9 : decode cX4_isBag 9 = .ok (.aload_n 0, 1) := by decide +kernel
theorem dX4_isBag_10 : decode cX4_isBag 10 = .ok (.iload_n 1, 1) := by decide +kernel
theorem dX4_isBag_11 : decode cX4_isBag 11 = .ok (.iconst 4, 1) := by decide +kernel
theorem dX4_isBag_12 : decode cX4_isBag 12 = .ok (.invokevirtual 44, 3) := by decide +kernel
theorem dX4_isBag_15 : decode cX4_isBag 15 = .ok (.ifCond .ne 12, 3) := by decide +kernel
theorem dX4_isBag_18 : decode cX4_isBag 18 = .ok (.aload_n 0, 1) := by decide +kernel
theorem dX4_isBag_19 : decode cX4_isBag 19 = .ok (.iload_n 1, 1) := by decide +kernel
theorem dX4_isBag_20 : decode cX4_isBag 20 = .ok (.iconst 5, 1) := by decide +kernel
theorem dX4_isBag_21 : decode cX4_isBag 21 = .ok (.invokevirtual 44, 3) := by decide +kernel
theorem dX4_isBag_24 : decode cX4_isBag 24 = .ok (.ifCond .eq 7, 3) := by decide +kernel
theorem dX4_isBag_27 : decode cX4_isBag 27 = .ok (.iconst 1, 1) := by decide +kernel
theorem dX4_isBag_28 : decode cX4_isBag 28 = .ok (.goto 4, 3) := by decide +kernel
theorem dX4_isBag_31 : decode cX4_isBag 31 = .ok (.iconst 0, 1) := by decide +kernel
theorem dX4_isBag_32 : decode cX4_isBag 32 = .ok (.ireturn, 1) := by decide +kernel
def wp_X4_isBag  (σ : St) (x1 : Int32) (Q : Int32 → St → Prop) : Prop :=
  wp_X4_isOfKind σ x1 1 (fun y2 σ1 =>
  if y2 = 0 then
  (wp_X4_isOfKind σ1 x1 4 (fun y4 σ3 =>
  if y4 = 0 then
  (wp_X4_isOfKind σ3 x1 5 (fun y6 σ5 =>
  if y6 = 0 then
  (Q 0 σ5)
  else (Q 1 σ5)))
  else (Q 1 σ3)))
  else (Q 1 σ1))
theorem c_X4_isBag  {σ : St} {x1 : Int32} {Q : Int32 → St → Prop} (h : wp_X4_isBag σ x1 Q) : ctI l yX4_isBag cX4_isBag 2 (some .boolean) rm_X4_isBag D (wC cI cZ cH a n) (tyW cI cZ cH) [.ref (a 1), .int x1] σ (fun r9 u9 => isB r9 ∧ Q r9 u9) := by
  refine mk_I (wC_ok cI cZ cH a n) (by decide +kernel) (Nat.le_of_ble_eq_true rfl) (fun p e s m args below meth c A X hr9 hlk9 => ?_)
  refine r_pick (lv' := [(0, .ref (a 1)), (1, .int x1)]) [0, 1] rfl ?_
  delta wp_X4_isBag at h
  refine r_aload_n X 0 1 dX4_isBag_0 rfl rfl rfl ?_
  refine r_iload_n X 1 2 dX4_isBag_1 rfl rfl rfl ?_
  refine r_iconst (v := 1) X 3 dX4_isBag_2 (by decide) rfl ?_
  refine r_callI (As := [.int x1, .int 1]) (rest := []) X 6 (c_X4_isOfKind h) ml_X4_44 lk_X4_isOfKind wC_at_1 rfl rfl rfl (Nat.le_of_ble_eq_true rfl) ⟨rfl, rfl, ⟨Nat.le_of_ble_eq_true rfl, Nat.le_of_ble_eq_true rfl⟩, Nat.le_of_ble_eq_true rfl, Nat.le_of_ble_eq_true rfl⟩ dX4_isBag_3 rfl (fun y2 σ1 h => ?_)
  obtain ⟨hb_y2, h⟩ := h
  refine r_if_ne X 27 9 h dX4_isBag_6 rfl rfl (fun h => ?_) (fun h => ?_)
  · refine r_iconst (v := 1) X 28 dX4_isBag_27 (by decide) rfl ?_
    refine r_goto X 32 dX4_isBag_28 rfl ?_
    exact r_zret X hr9 hlk9 isB_1 h dX4_isBag_32
  · refine r_aload_n X 0 10 dX4_isBag_9 rfl rfl rfl ?_
    refine r_iload_n X 1 11 dX4_isBag_10 rfl rfl rfl ?_
    refine r_iconst (v := 4) X 12 dX4_isBag_11 (by decide) rfl ?_
    refine r_callI (As := [.int x1, .int 4]) (rest := []) X 15 (c_X4_isOfKind h) ml_X4_44 lk_X4_isOfKind wC_at_1 rfl rfl rfl (Nat.le_of_ble_eq_true rfl) ⟨rfl, rfl, ⟨Nat.le_of_ble_eq_true rfl, Nat.le_of_ble_eq_true rfl⟩, Nat.le_of_ble_eq_true rfl, Nat.le_of_ble_eq_true rfl⟩ dX4_isBag_12 rfl (fun y4 σ3 h => ?_)
    obtain ⟨hb_y4, h⟩ := h
    refine r_if_ne X 27 18 h dX4_isBag_15 rfl rfl (fun h => ?_) (fun h => ?_)
    · refine r_iconst (v := 1) X 28 dX4_isBag_27 (by decide) rfl ?_
      refine r_goto X 32 dX4_isBag_28 rfl ?_
      exact r_zret X hr9 hlk9 isB_1 h dX4_isBag_32
    · refine r_aload_n X 0 19 dX4_isBag_18 rfl rfl rfl ?_
      refine r_iload_n X 1 20 dX4_isBag_19 rfl rfl rfl ?_
      refine r_iconst (v := 5) X 21 dX4_isBag_20 (by decide) rfl ?_
      refine r_callI (As := [.int x1, .int 5]) (rest := []) X 24 (c_X4_isOfKind h) ml_X4_44 lk_X4_isOfKind wC_at_1 rfl rfl rfl (Nat.le_of_ble_eq_true rfl) ⟨rfl, rfl, ⟨Nat.le_of_ble_eq_true rfl, Nat.le_of_ble_eq_true rfl⟩, Nat.le_of_ble_eq_true rfl, Nat.le_of_ble_eq_true rfl⟩ dX4_isBag_21 rfl (fun y6 σ5 h => ?_)
      obtain ⟨hb_y6, h⟩ := h
      refine r_if_eq X 31 27 h dX4_isBag_24 rfl rfl (fun h => ?_) (fun h => ?_)
      · refine r_iconst (v := 0) X 32 dX4_isBag_31 (by decide) rfl ?_
        exact r_zret X hr9 hlk9 isB_0 h dX4_isBag_32
      · refine r_iconst (v := 1) X 28 dX4_isBag_27 (by decide) rfl ?_
        refine r_goto X 32 dX4_isBag_28 rfl ?_
        exact r_zret X hr9 hlk9 isB_1 h dX4_isBag_32
def rm_X4_isGivenOut : Room := { frames := 0, cells := 0, slots := 0, locals := 0 }
theorem dX4_isGivenOut_0 : decode cX4_isGivenOut 0 = .ok (.iload_n 1, 1) := by decide +kernel
theorem dX4_isGivenOut_1 : decode cX4_isGivenOut 1 = .ok (.ifCond .lt 10, 3) := by decide +kernel
theorem dX4_isGivenOut_4 : decode cX4_isGivenOut 4 = .ok (.iload_n 1, 1) := by decide +kernel
theorem dX4_isGivenOut_5 : decode cX4_isGivenOut 5 = .ok (.sipush 600, 3) := by decide +kernel
theorem dX4_isGivenOut_8 : decode cX4_isGivenOut 8 = .ok (.if_icmp .lt 5, 3) := by decide +kernel
theorem dX4_isGivenOut_11 : decode cX4_isGivenOut 11 = .ok (.iconst 0, 1) := by decide +kernel
theorem dX4_isGivenOut_12 : decode cX4_isGivenOut 12 = .ok (.ireturn, 1) := by decide +kernel
theorem dX4_isGivenOut_13 : decode cX4_isGivenOut 13 = .ok (.iload_n 1, 1) := by decide +kernel
theorem dX4_isGivenOut_14 : decode cX4_isGivenOut 14 = .ok (.bipush 100, 2) := by decide +kernel
theorem dX4_isGivenOut_16 : decode cX4_isGivenOut 16 = .ok (.irem, 1) := by decide +kernel
theorem dX4_isGivenOut_17 : decode cX4_isGivenOut 17 = .ok (.aload_n 0, 1) := by decide +kernel
theorem dX4_isGivenOut_18 : decode cX4_isGivenOut 18 = .ok (.getfield 18, 3) := by decide +kernel
theorem dX4_isGivenOut_21 : decode cX4_isGivenOut 21 = .ok (.iload_n 1, 1) := by decide +kernel
theorem dX4_isGivenOut_22 : decode cX4_isGivenOut 22 = .ok (.bipush 100, 2) := by decide +kernel
theorem dX4_isGivenOut_24 : decode cX4_isGivenOut 24 = .ok (.idiv, 1) := by decide +kernel
theorem dX4_isGivenOut_25 : decode cX4_isGivenOut 25 = .ok (.iaload, 1) := by decide +kernel
theorem dX4_isGivenOut_26 : decode cX4_isGivenOut 26 = .ok (.if_icmp .ge 7, 3) := by decide +kernel
theorem dX4_isGivenOut_29 : decode cX4_isGivenOut 29 = .ok (.iconst 1, 1) := by decide +kernel
theorem dX4_isGivenOut_30 : decode cX4_isGivenOut 30 = .ok (.goto 4, 3) := by decide +kernel
theorem dX4_isGivenOut_33 : decode cX4_isGivenOut 33 = .ok (.iconst 0, 1) := by decide +kernel
theorem dX4_isGivenOut_34 : decode cX4_isGivenOut 34 = .ok (.ireturn, 1) := by decide +kernel
def wp_X4_isGivenOut  (σ : St) (x1 : Int32) (Q : Int32 → St → Prop) : Prop :=
  if x1 < 0 then
  (Q 0 σ)
  else (if x1 < 600 then
  (vp_in (x1 / 100) 6 ∧
  (if (x1 - x1 / 100 * 100) < (σ 4 (ix (x1 / 100))) then
  (Q 1 σ)
  else (Q 0 σ)))
  else (Q 0 σ))
theorem c_X4_isGivenOut  {σ : St} {x1 : Int32} {Q : Int32 → St → Prop} (h : wp_X4_isGivenOut σ x1 Q) : ctI l yX4_isGivenOut cX4_isGivenOut 2 (some .boolean) rm_X4_isGivenOut D (wC cI cZ cH a n) (tyW cI cZ cH) [.ref (a 1), .int x1] σ (fun r9 u9 => isB r9 ∧ Q r9 u9) := by
  refine mk_I (wC_ok cI cZ cH a n) (by decide +kernel) (Nat.le_of_ble_eq_true rfl) (fun p e s m args below meth c A X hr9 hlk9 => ?_)
  refine r_pick (lv' := [(0, .ref (a 1)), (1, .int x1)]) [0, 1] rfl ?_
  delta wp_X4_isGivenOut at h
  refine r_iload_n X 1 1 dX4_isGivenOut_0 rfl rfl rfl ?_
  refine r_if_lt X 11 4 h dX4_isGivenOut_1 rfl rfl (fun h => ?_) (fun h => ?_)
  · refine r_iconst (v := 0) X 12 dX4_isGivenOut_11 (by decide) rfl ?_
    exact r_zret X hr9 hlk9 isB_0 h dX4_isGivenOut_12
  · refine r_iload_n X 1 5 dX4_isGivenOut_4 rfl rfl rfl ?_
    refine r_sipush (v := 600) X 8 dX4_isGivenOut_5 (by decide) rfl ?_
    refine r_icmp_lt X 13 11 h dX4_isGivenOut_8 rfl rfl (fun h => ?_) (fun h => ?_)
    · refine r_iload_n X 1 14 dX4_isGivenOut_13 rfl rfl rfl ?_
      refine r_bipush (v := 100) X 16 dX4_isGivenOut_14 (by decide) rfl ?_
      refine r_irem X 17 dX4_isGivenOut_16 (by decide) rfl ?_
      refine r_aload_n X 0 18 dX4_isGivenOut_17 rfl rfl rfl ?_
      refine g_X4_18 X 21 dX4_isGivenOut_18 rfl ?_
      refine r_iload_n X 1 22 dX4_isGivenOut_21 rfl rfl rfl ?_
      refine r_bipush (v := 100) X 24 dX4_isGivenOut_22 (by decide) rfl ?_
      refine r_idiv X 25 dX4_isGivenOut_24 (by decide) rfl ?_
      obtain ⟨hin, h⟩ := h
      refine l_C4 X 26 hin dX4_isGivenOut_25 rfl ?_
      refine r_icmp_ge X 33 29 h dX4_isGivenOut_26 rfl rfl (fun h => ?_) (fun h => ?_)
      · refine r_iconst (v := 0) X 34 dX4_isGivenOut_33 (by decide) rfl ?_
        exact r_zret X hr9 hlk9 isB_0 h dX4_isGivenOut_34
      · refine r_iconst (v := 1) X 30 dX4_isGivenOut_29 (by decide) rfl ?_
        refine r_goto X 34 dX4_isGivenOut_30 rfl ?_
        exact r_zret X hr9 hlk9 isB_1 h dX4_isGivenOut_34
    · refine r_iconst (v := 0) X 12 dX4_isGivenOut_11 (by decide) rfl ?_
      exact r_zret X hr9 hlk9 isB_0 h dX4_isGivenOut_12
def rm_J6_bitCount_0f7a4 : Room := { frames := 0, cells := 0, slots := 0, locals := 0 }
theorem dJ6_bitCount_0f7a4_0 : decode cJ6_bitCount_0f7a4 0 = .ok (.iload_n 0, 1) := by decide +kernel
theorem dJ6_bitCount_0f7a4_1 : decode cJ6_bitCount_0f7a4 1 = .ok (.iload_n 0, 1) := by decide +kernel
theorem dJ6_bitCount_0f7a4_2 : decode cJ6_bitCount_0f7a4 2 = .ok (.iconst 1, 1) := by decide +kernel
theorem dJ6_bitCount_0f7a4_3 : decode cJ6_bitCount_0f7a4 3 = .ok (.iushr, 1) := by decide +kernel
theorem dJ6_bitCount_0f7a4_4 : decode cJ6_bitCount_0f7a4 4 = .ok (.ldc_w 265, 3) := by decide +kernel
theorem dJ6_bitCount_0f7a4_7 : decode cJ6_bitCount_0f7a4 7 = .ok (.iand, 1) := by decide +kernel
theorem dJ6_bitCount_0f7a4_8 : decode cJ6_bitCount_0f7a4 8 = .ok (.isub, 1) := by decide +kernel
theorem dJ6_bitCount_0f7a4_9 : decode cJ6_bitCount_0f7a4 9 = .ok (.istore_n 0, 1) := by decide +kernel
theorem dJ6_bitCount_0f7a4_10 : decode cJ6_bitCount_0f7a4 10 = .ok (.iload_n 0, 1) := by decide +kernel
theorem dJ6_bitCount_0f7a4_11 : decode cJ6_bitCount_0f7a4 11 = .ok (.ldc_w 266, 3) := by decide +kernel
theorem dJ6_bitCount_0f7a4_14 : decode cJ6_bitCount_0f7a4 14 = .ok (.iand, 1) := by decide +kernel
theorem dJ6_bitCount_0f7a4_15 : decode cJ6_bitCount_0f7a4 15 = .ok (.iload_n 0, 1) := by decide +kernel
theorem dJ6_bitCount_0f7a4_16 : decode cJ6_bitCount_0f7a4 16 = .ok (.iconst 2, 1) := by decide +kernel
theorem dJ6_bitCount_0f7a4_17 : decode cJ6_bitCount_0f7a4 17 = .ok (.iushr, 1) := by decide +kernel
theorem dJ6_bitCount_0f7a4_18 : decode cJ6_bitCount_0f7a4 18 = .ok (.ldc_w 266, 3) := by decide +kernel
theorem dJ6_bitCount_0f7a4_21 : decode cJ6_bitCount_0f7a4 21 = .ok (.iand, 1) := by decide +kernel
theorem dJ6_bitCount_0f7a4_22 : decode cJ6_bitCount_0f7a4 22 = .ok (.iadd, 1) := by decide +kernel
theorem dJ6_bitCount_0f7a4_23 : decode cJ6_bitCount_0f7a4 23 = .ok (.istore_n 0, 1) := by decide +kernel
theorem dJ6_bitCount_0f7a4_24 : decode cJ6_bitCount_0f7a4 24 = .ok (.iload_n 0, 1) := by decide +kernel
theorem dJ6_bitCount_0f7a4_25 : decode cJ6_bitCount_0f7a4 25 = .ok (.iload_n 0, 1) := by decide +kernel
theorem dJ6_bitCount_0f7a4_26 : decode cJ6_bitCount_0f7a4 26 = .ok (.iconst 4, 1) := by decide +kernel
theorem dJ6_bitCount_0f7a4_27 : decode cJ6_bitCount_0f7a4 27 = .ok (.iushr, 1) := by decide +kernel
theorem dJ6_bitCount_0f7a4_28 : decode cJ6_bitCount_0f7a4 28 = .ok (.iadd, 1) := by decide +kernel
theorem dJ6_bitCount_0f7a4_29 : decode cJ6_bitCount_0f7a4 29 = .ok (.ldc_w 267, 3) := by decide +kernel
theorem dJ6_bitCount_0f7a4_32 : decode cJ6_bitCount_0f7a4 32 = .ok (.iand, 1) := by decide +kernel
theorem dJ6_bitCount_0f7a4_33 : decode cJ6_bitCount_0f7a4 33 = .ok (.istore_n 0, 1) := by decide +kernel
theorem dJ6_bitCount_0f7a4_34 : decode cJ6_bitCount_0f7a4 34 = .ok (.iload_n 0, 1) := by decide +kernel
theorem dJ6_bitCount_0f7a4_35 : decode cJ6_bitCount_0f7a4 35 = .ok (.iload_n 0, 1) := by decide +kernel
theorem dJ6_bitCount_0f7a4_36 : decode cJ6_bitCount_0f7a4 36 = .ok (.bipush 8, 2) := by decide +kernel
theorem dJ6_bitCount_0f7a4_38 : decode cJ6_bitCount_0f7a4 38 = .ok (.iushr, 1) := by decide +kernel
theorem dJ6_bitCount_0f7a4_39 : decode cJ6_bitCount_0f7a4 39 = .ok (.iadd, 1) := by decide +kernel
theorem dJ6_bitCount_0f7a4_40 : decode cJ6_bitCount_0f7a4 40 = .ok (.istore_n 0, 1) := by decide +kernel
theorem dJ6_bitCount_0f7a4_41 : decode cJ6_bitCount_0f7a4 41 = .ok (.iload_n 0, 1) := by decide +kernel
theorem dJ6_bitCount_0f7a4_42 : decode cJ6_bitCount_0f7a4 42 = .ok (.iload_n 0, 1) := by decide +kernel
theorem dJ6_bitCount_0f7a4_43 : decode cJ6_bitCount_0f7a4 43 = .ok (.bipush 16, 2) := by decide +kernel
theorem dJ6_bitCount_0f7a4_45 : decode cJ6_bitCount_0f7a4 45 = .ok (.iushr, 1) := by decide +kernel
theorem dJ6_bitCount_0f7a4_46 : decode cJ6_bitCount_0f7a4 46 = .ok (.iadd, 1) := by decide +kernel
theorem dJ6_bitCount_0f7a4_47 : decode cJ6_bitCount_0f7a4 47 = .ok (.istore_n 0, 1) := by decide +kernel
theorem dJ6_bitCount_0f7a4_48 : decode cJ6_bitCount_0f7a4 48 = .ok (.iload_n 0, 1) := by decide +kernel
theorem dJ6_bitCount_0f7a4_49 : decode cJ6_bitCount_0f7a4 49 = .ok (.bipush 63, 2) := by decide +kernel
theorem dJ6_bitCount_0f7a4_51 : decode cJ6_bitCount_0f7a4 51 = .ok (.iand, 1) := by decide +kernel
theorem dJ6_bitCount_0f7a4_52 : decode cJ6_bitCount_0f7a4 52 = .ok (.ireturn, 1) := by decide +kernel
def wp_J6_bitCount_0f7a4  (σ : St) (x0 : Int32) (Q : Int32 → St → Prop) : Prop :=
  nm ((x0 - (((x0.toUInt32 >>> ((1 : Int32).toUInt32 &&& Int32.toUInt32 31)).toInt32) &&& 1431655765))) (fun z1 =>
  nm (((z1 &&& 858993459) + (((z1.toUInt32 >>> ((2 : Int32).toUInt32 &&& Int32.toUInt32 31)).toInt32) &&& 858993459))) (fun z2 =>
  nm (((z2 + ((z2.toUInt32 >>> ((4 : Int32).toUInt32 &&& Int32.toUInt32 31)).toInt32)) &&& 252645135)) (fun z3 =>
  nm ((z3 + ((z3.toUInt32 >>> ((8 : Int32).toUInt32 &&& Int32.toUInt32 31)).toInt32))) (fun z4 =>
  nm ((z4 + ((z4.toUInt32 >>> ((16 : Int32).toUInt32 &&& Int32.toUInt32 31)).toInt32))) (fun z5 =>
  Q (z5 &&& 63) σ)))))
theorem c_J6_bitCount_0f7a4  {σ : St} {x0 : Int32} {Q : Int32 → St → Prop} (h : wp_J6_bitCount_0f7a4 σ x0 Q) : ctI l yJ6_bitCount_0f7a4 cJ6_bitCount_0f7a4 1 (some .int) rm_J6_bitCount_0f7a4 D (wC cI cZ cH a n) (tyW cI cZ cH) [.int x0] σ Q := by
  refine mk_I (wC_ok cI cZ cH a n) (by decide +kernel) (Nat.le_of_ble_eq_true rfl) (fun p e s m args below meth c A X hr9 hlk9 => ?_)
  refine r_pick (lv' := [(0, .int x0)]) [0] rfl ?_
  delta wp_J6_bitCount_0f7a4 at h
  refine r_iload_n X 0 1 dJ6_bitCount_0f7a4_0 rfl rfl rfl ?_
  refine r_iload_n X 0 2 dJ6_bitCount_0f7a4_1 rfl rfl rfl ?_
  refine r_iconst (v := 1) X 3 dJ6_bitCount_0f7a4_2 (by decide) rfl ?_
  refine r_iushr X 4 dJ6_bitCount_0f7a4_3 rfl ?_
  refine r_ldcw (v := 1431655765) X 7 dJ6_bitCount_0f7a4_4 cn_J6_265 rfl ?_
  refine r_iand X 8 dJ6_bitCount_0f7a4_7 rfl ?_
  refine r_isub X 9 dJ6_bitCount_0f7a4_8 rfl ?_
  refine r_istore_nN X 10 (fun z1 => [(0, .int z1)]) h dJ6_bitCount_0f7a4_9 rfl (by decide) (fun _ => rfl) rfl (fun z1 h => ?_)
  refine r_iload_n X 0 11 dJ6_bitCount_0f7a4_10 rfl rfl rfl ?_
  refine r_ldcw (v := 858993459) X 14 dJ6_bitCount_0f7a4_11 cn_J6_266 rfl ?_
  refine r_iand X 15 dJ6_bitCount_0f7a4_14 rfl ?_
  refine r_iload_n X 0 16 dJ6_bitCount_0f7a4_15 rfl rfl rfl ?_
  refine r_iconst (v := 2) X 17 dJ6_bitCount_0f7a4_16 (by decide) rfl ?_
  refine r_iushr X 18 dJ6_bitCount_0f7a4_17 rfl ?_
  refine r_ldcw (v := 858993459) X 21 dJ6_bitCount_0f7a4_18 cn_J6_266 rfl ?_
  refine r_iand X 22 dJ6_bitCount_0f7a4_21 rfl ?_
  refine r_iadd X 23 dJ6_bitCount_0f7a4_22 rfl ?_
  refine r_istore_nN X 24 (fun z2 => [(0, .int z2)]) h dJ6_bitCount_0f7a4_23 rfl (by decide) (fun _ => rfl) rfl (fun z2 h => ?_)
  refine r_iload_n X 0 25 dJ6_bitCount_0f7a4_24 rfl rfl rfl ?_
  refine r_iload_n X 0 26 dJ6_bitCount_0f7a4_25 rfl rfl rfl ?_
  refine r_iconst (v := 4) X 27 dJ6_bitCount_0f7a4_26 (by decide) rfl ?_
  refine r_iushr X 28 dJ6_bitCount_0f7a4_27 rfl ?_
  refine r_iadd X 29 dJ6_bitCount_0f7a4_28 rfl ?_
  refine r_ldcw (v := 252645135) X 32 dJ6_bitCount_0f7a4_29 cn_J6_267 rfl ?_
  refine r_iand X 33 dJ6_bitCount_0f7a4_32 rfl ?_
  refine r_istore_nN X 34 (fun z3 => [(0, .int z3)]) h dJ6_bitCount_0f7a4_33 rfl (by decide) (fun _ => rfl) rfl (fun z3 h => ?_)
  refine r_iload_n X 0 35 dJ6_bitCount_0f7a4_34 rfl rfl rfl ?_
  refine r_iload_n X 0 36 dJ6_bitCount_0f7a4_35 rfl rfl rfl ?_
  refine r_bipush (v := 8) X 38 dJ6_bitCount_0f7a4_36 (by decide) rfl ?_
  refine r_iushr X 39 dJ6_bitCount_0f7a4_38 rfl ?_
  refine r_iadd X 40 dJ6_bitCount_0f7a4_39 rfl ?_
  refine r_istore_nN X 41 (fun z4 => [(0, .int z4)]) h dJ6_bitCount_0f7a4_40 rfl (by decide) (fun _ => rfl) rfl (fun z4 h => ?_)
  refine r_iload_n X 0 42 dJ6_bitCount_0f7a4_41 rfl rfl rfl ?_
  refine r_iload_n X 0 43 dJ6_bitCount_0f7a4_42 rfl rfl rfl ?_
  refine r_bipush (v := 16) X 45 dJ6_bitCount_0f7a4_43 (by decide) rfl ?_
  refine r_iushr X 46 dJ6_bitCount_0f7a4_45 rfl ?_
  refine r_iadd X 47 dJ6_bitCount_0f7a4_46 rfl ?_
  refine r_istore_nN X 48 (fun z5 => [(0, .int z5)]) h dJ6_bitCount_0f7a4_47 rfl (by decide) (fun _ => rfl) rfl (fun z5 h => ?_)
  refine r_iload_n X 0 49 dJ6_bitCount_0f7a4_48 rfl rfl rfl ?_
  refine r_bipush (v := 63) X 51 dJ6_bitCount_0f7a4_49 (by decide) rfl ?_
  refine r_iand X 52 dJ6_bitCount_0f7a4_51 rfl ?_
  exact r_iret X hr9 hlk9 h dJ6_bitCount_0f7a4_52
def rm_X4_addHand : Room := { frames := 0, cells := 0, slots := 0, locals := 0 }
theorem dX4_addHand_0 : decode cX4_addHand 0 = .ok (.aload_n 0, 1) := by decide +kernel
theorem dX4_addHand_1 : decode cX4_addHand 1 = .ok (.getfield 34, 3) := by decide +kernel
theorem dX4_addHand_4 : decode cX4_addHand 4 = .ok (.bipush 20, 2) := by decide +kernel
theorem dX4_addHand_6 : decode cX4_addHand 6 = .ok (.if_icmp .lt 5, 3) := by decide +kernel
theorem dX4_addHand_9 : decode cX4_addHand 9 = .ok (.iconst (-1), 1) := by decide +kernel
theorem dX4_addHand_10 : decode cX4_addHand 10 = .ok (.ireturn, 1) := by decide +kernel
theorem dX4_addHand_11 : decode cX4_addHand 11 = .ok (.aload_n 0, 1) := by decide +kernel
theorem dX4_addHand_12 : decode cX4_addHand 12 = .ok (.getfield 9, 3) := by decide +kernel
theorem dX4_addHand_15 : decode cX4_addHand 15 = .ok (.aload_n 0, 1) := by decide +kernel
theorem dX4_addHand_16 : decode cX4_addHand 16 = .ok (.getfield 34, 3) := by decide +kernel
theorem dX4_addHand_19 : decode cX4_addHand 19 = .ok (.iload_n 1, 1) := by decide +kernel
theorem dX4_addHand_20 : decode cX4_addHand 20 = .ok (.bastore, 1) := by decide +kernel
theorem dX4_addHand_21 : decode cX4_addHand 21 = .ok (.aload_n 0, 1) := by decide +kernel
theorem dX4_addHand_22 : decode cX4_addHand 22 = .ok (.dup, 1) := by decide +kernel
theorem dX4_addHand_23 : decode cX4_addHand 23 = .ok (.getfield 34, 3) := by decide +kernel
theorem dX4_addHand_26 : decode cX4_addHand 26 = .ok (.iconst 1, 1) := by decide +kernel
theorem dX4_addHand_27 : decode cX4_addHand 27 = .ok (.iadd, 1) := by decide +kernel
theorem dX4_addHand_28 : decode cX4_addHand 28 = .ok (.putfield 34, 3) := by decide +kernel
theorem dX4_addHand_31 : decode cX4_addHand 31 = .ok (.aload_n 0, 1) := by decide +kernel
theorem dX4_addHand_32 : decode cX4_addHand 32 = .ok (.getfield 34, 3) := by decide +kernel
theorem dX4_addHand_35 : decode cX4_addHand 35 = .ok (.iconst 1, 1) := by decide +kernel
theorem dX4_addHand_36 : decode cX4_addHand 36 = .ok (.isub, 1) := by decide +kernel
theorem dX4_addHand_37 : decode cX4_addHand 37 = .ok (.ireturn, 1) := by decide +kernel
def wp_X4_addHand  (σ : St) (x1 : Int32) (Q : Int32 → St → Prop) : Prop :=
  if (σ 1 5) < 20 then
  (vp_in (σ 1 5) 20 ∧
  nmS (up2 σ 2 (ix (σ 1 5)) (vp_nar .boolean x1)) (fun σ1 =>
  nmS (up2 σ1 1 5 ((σ1 1 5) + 1)) (fun σ2 =>
  Q ((σ2 1 5) - 1) σ2)))
  else (Q (-1) σ)
theorem c_X4_addHand  {σ : St} {x1 : Int32} {Q : Int32 → St → Prop} (h : wp_X4_addHand σ x1 Q) : ctI l yX4_addHand cX4_addHand 2 (some .int) rm_X4_addHand D (wC cI cZ cH a n) (tyW cI cZ cH) [.ref (a 1), .int x1] σ Q := by
  refine mk_I (wC_ok cI cZ cH a n) (by decide +kernel) (Nat.le_of_ble_eq_true rfl) (fun p e s m args below meth c A X hr9 hlk9 => ?_)
  refine r_pick (lv' := [(0, .ref (a 1)), (1, .int x1)]) [0, 1] rfl ?_
  delta wp_X4_addHand at h
  refine r_aload_n X 0 1 dX4_addHand_0 rfl rfl rfl ?_
  refine g_X4_34 X 4 dX4_addHand_1 rfl ?_
  refine r_bipush (v := 20) X 6 dX4_addHand_4 (by decide) rfl ?_
  refine r_icmp_lt X 11 9 h dX4_addHand_6 rfl rfl (fun h => ?_) (fun h => ?_)
  · refine r_aload_n X 0 12 dX4_addHand_11 rfl rfl rfl ?_
    refine g_X4_9 X 15 dX4_addHand_12 rfl ?_
    refine r_aload_n X 0 16 dX4_addHand_15 rfl rfl rfl ?_
    refine g_X4_34 X 19 dX4_addHand_16 rfl ?_
    refine r_iload_n X 1 20 dX4_addHand_19 rfl rfl rfl ?_
    obtain ⟨hin, h⟩ := h
    refine s_C2 X rfl 21 hin dX4_addHand_20 rfl ?_
    refine r_nmS h (fun σ1 h => ?_)
    refine r_aload_n X 0 22 dX4_addHand_21 rfl rfl rfl ?_
    refine r_dup X 23 dX4_addHand_22 rfl rfl ?_
    refine g_X4_34 X 26 dX4_addHand_23 rfl ?_
    refine r_iconst (v := 1) X 27 dX4_addHand_26 (by decide) rfl ?_
    refine r_iadd X 28 dX4_addHand_27 rfl ?_
    refine u_X4_34 X 31 dX4_addHand_28 rfl ?_
    refine r_nmS h (fun σ2 h => ?_)
    refine r_aload_n X 0 32 dX4_addHand_31 rfl rfl rfl ?_
    refine g_X4_34 X 35 dX4_addHand_32 rfl ?_
    refine r_iconst (v := 1) X 36 dX4_addHand_35 (by decide) rfl ?_
    refine r_isub X 37 dX4_addHand_36 rfl ?_
    exact r_iret X hr9 hlk9 h dX4_addHand_37
  · refine r_iconst (v := (-1)) X 10 dX4_addHand_9 (by decide) rfl ?_
    exact r_iret X hr9 hlk9 h dX4_addHand_10
def rm_X4_addShelf : Room := { frames := 0, cells := 0, slots := 0, locals := 0 }
theorem dX4_addShelf_0 : decode cX4_addShelf 0 = .ok (.aload_n 0, 1) := by decide +kernel
theorem dX4_addShelf_1 : decode cX4_addShelf 1 = .ok (.getfield 38, 3) := by decide +kernel
theorem dX4_addShelf_4 : decode cX4_addShelf 4 = .ok (.bipush 8, 2) := by decide +kernel
theorem dX4_addShelf_6 : decode cX4_addShelf 6 = .ok (.if_icmp .lt 5, 3) := by decide +kernel
theorem dX4_addShelf_9 : decode cX4_addShelf 9 = .ok (.iconst (-1), 1) := by decide +kernel
theorem dX4_addShelf_10 : decode cX4_addShelf 10 = .ok (.ireturn, 1) := by decide +kernel
theorem dX4_addShelf_11 : decode cX4_addShelf 11 = .ok (.aload_n 0, 1) := by decide +kernel
theorem dX4_addShelf_12 : decode cX4_addShelf 12 = .ok (.getfield 15, 3) := by decide +kernel
theorem dX4_addShelf_15 : decode cX4_addShelf 15 = .ok (.aload_n 0, 1) := by decide +kernel
theorem dX4_addShelf_16 : decode cX4_addShelf 16 = .ok (.getfield 38, 3) := by decide +kernel
theorem dX4_addShelf_19 : decode cX4_addShelf 19 = .ok (.iload_n 1, 1) := by decide +kernel
theorem dX4_addShelf_20 : decode cX4_addShelf 20 = .ok (.bastore, 1) := by decide +kernel
theorem dX4_addShelf_21 : decode cX4_addShelf 21 = .ok (.aload_n 0, 1) := by decide +kernel
theorem dX4_addShelf_22 : decode cX4_addShelf 22 = .ok (.dup, 1) := by decide +kernel
theorem dX4_addShelf_23 : decode cX4_addShelf 23 = .ok (.getfield 38, 3) := by decide +kernel
theorem dX4_addShelf_26 : decode cX4_addShelf 26 = .ok (.iconst 1, 1) := by decide +kernel
theorem dX4_addShelf_27 : decode cX4_addShelf 27 = .ok (.iadd, 1) := by decide +kernel
theorem dX4_addShelf_28 : decode cX4_addShelf 28 = .ok (.putfield 38, 3) := by decide +kernel
theorem dX4_addShelf_31 : decode cX4_addShelf 31 = .ok (.aload_n 0, 1) := by decide +kernel
theorem dX4_addShelf_32 : decode cX4_addShelf 32 = .ok (.getfield 38, 3) := by decide +kernel
theorem dX4_addShelf_35 : decode cX4_addShelf 35 = .ok (.iconst 1, 1) := by decide +kernel
theorem dX4_addShelf_36 : decode cX4_addShelf 36 = .ok (.isub, 1) := by decide +kernel
theorem dX4_addShelf_37 : decode cX4_addShelf 37 = .ok (.ireturn, 1) := by decide +kernel
def wp_X4_addShelf  (σ : St) (x1 : Int32) (Q : Int32 → St → Prop) : Prop :=
  if (σ 1 6) < 8 then
  (vp_in (σ 1 6) 8 ∧
  nmS (up2 σ 3 (ix (σ 1 6)) (vp_nar .boolean x1)) (fun σ1 =>
  nmS (up2 σ1 1 6 ((σ1 1 6) + 1)) (fun σ2 =>
  Q ((σ2 1 6) - 1) σ2)))
  else (Q (-1) σ)
theorem c_X4_addShelf  {σ : St} {x1 : Int32} {Q : Int32 → St → Prop} (h : wp_X4_addShelf σ x1 Q) : ctI l yX4_addShelf cX4_addShelf 2 (some .int) rm_X4_addShelf D (wC cI cZ cH a n) (tyW cI cZ cH) [.ref (a 1), .int x1] σ Q := by
  refine mk_I (wC_ok cI cZ cH a n) (by decide +kernel) (Nat.le_of_ble_eq_true rfl) (fun p e s m args below meth c A X hr9 hlk9 => ?_)
  refine r_pick (lv' := [(0, .ref (a 1)), (1, .int x1)]) [0, 1] rfl ?_
  delta wp_X4_addShelf at h
  refine r_aload_n X 0 1 dX4_addShelf_0 rfl rfl rfl ?_
  refine g_X4_38 X 4 dX4_addShelf_1 rfl ?_
  refine r_bipush (v := 8) X 6 dX4_addShelf_4 (by decide) rfl ?_
  refine r_icmp_lt X 11 9 h dX4_addShelf_6 rfl rfl (fun h => ?_) (fun h => ?_)
  · refine r_aload_n X 0 12 dX4_addShelf_11 rfl rfl rfl ?_
    refine g_X4_15 X 15 dX4_addShelf_12 rfl ?_
    refine r_aload_n X 0 16 dX4_addShelf_15 rfl rfl rfl ?_
    refine g_X4_38 X 19 dX4_addShelf_16 rfl ?_
    refine r_iload_n X 1 20 dX4_addShelf_19 rfl rfl rfl ?_
    obtain ⟨hin, h⟩ := h
    refine s_C3 X rfl 21 hin dX4_addShelf_20 rfl ?_
    refine r_nmS h (fun σ1 h => ?_)
    refine r_aload_n X 0 22 dX4_addShelf_21 rfl rfl rfl ?_
    refine r_dup X 23 dX4_addShelf_22 rfl rfl ?_
    refine g_X4_38 X 26 dX4_addShelf_23 rfl ?_
    refine r_iconst (v := 1) X 27 dX4_addShelf_26 (by decide) rfl ?_
    refine r_iadd X 28 dX4_addShelf_27 rfl ?_
    refine u_X4_38 X 31 dX4_addShelf_28 rfl ?_
    refine r_nmS h (fun σ2 h => ?_)
    refine r_aload_n X 0 32 dX4_addShelf_31 rfl rfl rfl ?_
    refine g_X4_38 X 35 dX4_addShelf_32 rfl ?_
    refine r_iconst (v := 1) X 36 dX4_addShelf_35 (by decide) rfl ?_
    refine r_isub X 37 dX4_addShelf_36 rfl ?_
    exact r_iret X hr9 hlk9 h dX4_addShelf_37
  · refine r_iconst (v := (-1)) X 10 dX4_addShelf_9 (by decide) rfl ?_
    exact r_iret X hr9 hlk9 h dX4_addShelf_10
def rm_X4_addThing : Room := { frames := 0, cells := 0, slots := 0, locals := 0 }
theorem dX4_addThing_0 : decode cX4_addThing 0 = .ok (.aload_n 0, 1) := by decide +kernel
theorem dX4_addThing_1 : decode cX4_addThing 1 = .ok (.getfield 41, 3) := by decide +kernel
theorem dX4_addThing_4 : decode cX4_addThing 4 = .ok (.bipush 60, 2) := by decide +kernel
theorem dX4_addThing_6 : decode cX4_addThing 6 = .ok (.if_icmp .lt 5, 3) := by decide +kernel
theorem dX4_addThing_9 : decode cX4_addThing 9 = .ok (.iconst (-1), 1) := by decide +kernel
theorem dX4_addThing_10 : decode cX4_addThing 10 = .ok (.ireturn, 1) := by decide +kernel
theorem dX4_addThing_11 : decode cX4_addThing 11 = .ok (.aload_n 0, 1) := by decide +kernel
theorem dX4_addThing_12 : decode cX4_addThing 12 = .ok (.getfield 22, 3) := by decide +kernel
theorem dX4_addThing_15 : decode cX4_addThing 15 = .ok (.aload_n 0, 1) := by decide +kernel
theorem dX4_addThing_16 : decode cX4_addThing 16 = .ok (.getfield 41, 3) := by decide +kernel
theorem dX4_addThing_19 : decode cX4_addThing 19 = .ok (.iload_n 1, 1) := by decide +kernel
theorem dX4_addThing_20 : decode cX4_addThing 20 = .ok (.iastore, 1) := by decide +kernel
theorem dX4_addThing_21 : decode cX4_addThing 21 = .ok (.aload_n 0, 1) := by decide +kernel
theorem dX4_addThing_22 : decode cX4_addThing 22 = .ok (.getfield 25, 3) := by decide +kernel
theorem dX4_addThing_25 : decode cX4_addThing 25 = .ok (.aload_n 0, 1) := by decide +kernel
theorem dX4_addThing_26 : decode cX4_addThing 26 = .ok (.getfield 41, 3) := by decide +kernel
theorem dX4_addThing_29 : decode cX4_addThing 29 = .ok (.iload_n 2, 1) := by decide +kernel
theorem dX4_addThing_30 : decode cX4_addThing 30 = .ok (.iastore, 1) := by decide +kernel
theorem dX4_addThing_31 : decode cX4_addThing 31 = .ok (.aload_n 0, 1) := by decide +kernel
theorem dX4_addThing_32 : decode cX4_addThing 32 = .ok (.dup, 1) := by decide +kernel
theorem dX4_addThing_33 : decode cX4_addThing 33 = .ok (.getfield 41, 3) := by decide +kernel
theorem dX4_addThing_36 : decode cX4_addThing 36 = .ok (.iconst 1, 1) := by decide +kernel
theorem dX4_addThing_37 : decode cX4_addThing 37 = .ok (.iadd, 1) := by decide +kernel
theorem dX4_addThing_38 : decode cX4_addThing 38 = .ok (.putfield 41, 3) := by decide +kernel
theorem dX4_addThing_41 : decode cX4_addThing 41 = .ok (.aload_n 0, 1) := by decide +kernel
theorem dX4_addThing_42 : decode cX4_addThing 42 = .ok (.getfield 41, 3) := by decide +kernel
theorem dX4_addThing_45 : decode cX4_addThing 45 = .ok (.iconst 1, 1) := by decide +kernel
theorem dX4_addThing_46 : decode cX4_addThing 46 = .ok (.isub, 1) := by decide +kernel
theorem dX4_addThing_47 : decode cX4_addThing 47 = .ok (.ireturn, 1) := by decide +kernel
def wp_X4_addThing  (σ : St) (x1 : Int32) (x2 : Int32) (Q : Int32 → St → Prop) : Prop :=
  if (σ 1 7) < 60 then
  (vp_in (σ 1 7) 60 ∧
  nmS (up2 σ 5 (ix (σ 1 7)) x1) (fun σ1 =>
  vp_in (σ1 1 7) 60 ∧
  nmS (up2 σ1 6 (ix (σ1 1 7)) x2) (fun σ2 =>
  nmS (up2 σ2 1 7 ((σ2 1 7) + 1)) (fun σ3 =>
  Q ((σ3 1 7) - 1) σ3))))
  else (Q (-1) σ)
theorem c_X4_addThing  {σ : St} {x1 : Int32} {x2 : Int32} {Q : Int32 → St → Prop} (h : wp_X4_addThing σ x1 x2 Q) : ctI l yX4_addThing cX4_addThing 3 (some .int) rm_X4_addThing D (wC cI cZ cH a n) (tyW cI cZ cH) [.ref (a 1), .int x1, .int x2] σ Q := by
  refine mk_I (wC_ok cI cZ cH a n) (by decide +kernel) (Nat.le_of_ble_eq_true rfl) (fun p e s m args below meth c A X hr9 hlk9 => ?_)
  refine r_pick (lv' := [(0, .ref (a 1)), (1, .int x1), (2, .int x2)]) [0, 1, 2] rfl ?_
  delta wp_X4_addThing at h
  refine r_aload_n X 0 1 dX4_addThing_0 rfl rfl rfl ?_
  refine g_X4_41 X 4 dX4_addThing_1 rfl ?_
  refine r_bipush (v := 60) X 6 dX4_addThing_4 (by decide) rfl ?_
  refine r_icmp_lt X 11 9 h dX4_addThing_6 rfl rfl (fun h => ?_) (fun h => ?_)
  · refine r_aload_n X 0 12 dX4_addThing_11 rfl rfl rfl ?_
    refine g_X4_22 X 15 dX4_addThing_12 rfl ?_
    refine r_aload_n X 0 16 dX4_addThing_15 rfl rfl rfl ?_
    refine g_X4_41 X 19 dX4_addThing_16 rfl ?_
    refine r_iload_n X 1 20 dX4_addThing_19 rfl rfl rfl ?_
    obtain ⟨hin, h⟩ := h
    refine s_C5 X 21 hin dX4_addThing_20 rfl ?_
    refine r_nmS h (fun σ1 h => ?_)
    refine r_aload_n X 0 22 dX4_addThing_21 rfl rfl rfl ?_
    refine g_X4_25 X 25 dX4_addThing_22 rfl ?_
    refine r_aload_n X 0 26 dX4_addThing_25 rfl rfl rfl ?_
    refine g_X4_41 X 29 dX4_addThing_26 rfl ?_
    refine r_iload_n X 2 30 dX4_addThing_29 rfl rfl rfl ?_
    obtain ⟨hin, h⟩ := h
    refine s_C6 X 31 hin dX4_addThing_30 rfl ?_
    refine r_nmS h (fun σ2 h => ?_)
    refine r_aload_n X 0 32 dX4_addThing_31 rfl rfl rfl ?_
    refine r_dup X 33 dX4_addThing_32 rfl rfl ?_
    refine g_X4_41 X 36 dX4_addThing_33 rfl ?_
    refine r_iconst (v := 1) X 37 dX4_addThing_36 (by decide) rfl ?_
    refine r_iadd X 38 dX4_addThing_37 rfl ?_
    refine u_X4_41 X 41 dX4_addThing_38 rfl ?_
    refine r_nmS h (fun σ3 h => ?_)
    refine r_aload_n X 0 42 dX4_addThing_41 rfl rfl rfl ?_
    refine g_X4_41 X 45 dX4_addThing_42 rfl ?_
    refine r_iconst (v := 1) X 46 dX4_addThing_45 (by decide) rfl ?_
    refine r_isub X 47 dX4_addThing_46 rfl ?_
    exact r_iret X hr9 hlk9 h dX4_addThing_47
  · refine r_iconst (v := (-1)) X 10 dX4_addThing_9 (by decide) rfl ?_
    exact r_iret X hr9 hlk9 h dX4_addThing_10
def rm_X4_giveOut : Room := { frames := 0, cells := 0, slots := 0, locals := 0 }
theorem dX4_giveOut_0 : decode cX4_giveOut 0 = .ok (.iload_n 1, 1) := by decide +kernel
theorem dX4_giveOut_1 : decode cX4_giveOut 1 = .ok (.ifCond .lt 16, 3) := by decide +kernel
theorem dX4_giveOut_4 : decode cX4_giveOut 4 = .ok (.iload_n 1, 1) := by decide +kernel
theorem dX4_giveOut_5 : decode cX4_giveOut 5 = .ok (.bipush 6, 2) := by decide +kernel
theorem dX4_giveOut_7 : decode cX4_giveOut 7 = .ok (.if_icmp .ge 10, 3) := by decide +kernel
theorem dX4_giveOut_10 : decode cX4_giveOut 10 = .ok (.aload_n 0, 1) := by decide +kernel
theorem dX4_giveOut_11 : decode cX4_giveOut 11 = .ok (.getfield 18, 3) := by decide +kernel
theorem dX4_giveOut_14 : decode cX4_giveOut 14 = .ok (.iload_n 1, 1) := by decide +kernel
theorem dX4_giveOut_15 : decode cX4_giveOut 15 = .ok (.iload_n 2, 1) := by decide +kernel
theorem dX4_giveOut_16 : decode cX4_giveOut 16 = .ok (.iastore, 1) := by decide +kernel
theorem dX4_giveOut_17 : decode cX4_giveOut 17 = .ok (.return_, 1) := by decide +kernel
def wp_X4_giveOut  (σ : St) (x1 : Int32) (x2 : Int32) (Q : St → Prop) : Prop :=
  if x1 < 0 then
  (Q σ)
  else (if x1 < 6 then
  (vp_in x1 6 ∧
  nmS (up2 σ 4 (ix x1) x2) (fun σ1 =>
  Q σ1))
  else (Q σ))
theorem c_X4_giveOut  {σ : St} {x1 : Int32} {x2 : Int32} {Q : St → Prop} (h : wp_X4_giveOut σ x1 x2 Q) : ctV l yX4_giveOut cX4_giveOut 3 none rm_X4_giveOut D (wC cI cZ cH a n) (tyW cI cZ cH) [.ref (a 1), .int x1, .int x2] σ Q := by
  refine mk_V (wC_ok cI cZ cH a n) (by decide +kernel) (Nat.le_of_ble_eq_true rfl) (fun p e s m args below meth c A X hr9 hlk9 => ?_)
  refine r_pick (lv' := [(0, .ref (a 1)), (1, .int x1), (2, .int x2)]) [0, 1, 2] rfl ?_
  delta wp_X4_giveOut at h
  refine r_iload_n X 1 1 dX4_giveOut_0 rfl rfl rfl ?_
  refine r_if_lt X 17 4 h dX4_giveOut_1 rfl rfl (fun h => ?_) (fun h => ?_)
  · exact r_vret X hr9 hlk9 h dX4_giveOut_17
  · refine r_iload_n X 1 5 dX4_giveOut_4 rfl rfl rfl ?_
    refine r_bipush (v := 6) X 7 dX4_giveOut_5 (by decide) rfl ?_
    refine r_icmp_ge X 17 10 h dX4_giveOut_7 rfl rfl (fun h => ?_) (fun h => ?_)
    · exact r_vret X hr9 hlk9 h dX4_giveOut_17
    · refine r_aload_n X 0 11 dX4_giveOut_10 rfl rfl rfl ?_
      refine g_X4_18 X 14 dX4_giveOut_11 rfl ?_
      refine r_iload_n X 1 15 dX4_giveOut_14 rfl rfl rfl ?_
      refine r_iload_n X 2 16 dX4_giveOut_15 rfl rfl rfl ?_
      obtain ⟨hin, h⟩ := h
      refine s_C4 X 17 hin dX4_giveOut_16 rfl ?_
      refine r_nmS h (fun σ1 h => ?_)
      exact r_vret X hr9 hlk9 h dX4_giveOut_17
end WALK
