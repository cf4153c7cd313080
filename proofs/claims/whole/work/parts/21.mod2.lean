section WALK
variable {p : Program} {l : Launch} {e : Env} {s : State} {m : MethodId} {args : Array Value} {below : List Frame} {meth : Method} {c : Code} {D : va_G} {A : Nat → Prop} {cI cZ cH : ClassId} {a : Nat → Nat} {n : Nat}
def rm_X6_orders : Room := { frames := 1, cells := 0, slots := 0, locals := 22 }
theorem dX6_orders_0 : decode cX6_orders 0 = .ok (.iload_n 1, 1) := by decide +kernel
theorem dX6_orders_1 : decode cX6_orders 1 = .ok (.bipush 14, 2) := by decide +kernel
theorem dX6_orders_3 : decode cX6_orders 3 = .ok (.if_icmp .ne 25, 3) := by decide +kernel
theorem dX6_orders_6 : decode cX6_orders 6 = .ok (.iload_n 3, 1) := by decide +kernel
theorem dX6_orders_7 : decode cX6_orders 7 = .ok (.iconst 0, 1) := by decide +kernel
theorem dX6_orders_8 : decode cX6_orders 8 = .ok (.ldc 154, 2) := by decide +kernel
theorem dX6_orders_10 : decode cX6_orders 10 = .ok (.invokestatic 96, 3) := by decide +kernel
theorem dX6_orders_13 : decode cX6_orders 13 = .ok (.ifCond .ne 5, 3) := by decide +kernel
theorem dX6_orders_16 : decode cX6_orders 16 = .ok (.iconst 0, 1) := by decide +kernel
theorem dX6_orders_17 : decode cX6_orders 17 = .ok (.ireturn, 1) := by decide +kernel
theorem dX6_orders_18 : decode cX6_orders 18 = .ok (.aload_n 0, 1) := by decide +kernel
theorem dX6_orders_19 : decode cX6_orders 19 = .ok (.getfield 60, 3) := by decide +kernel
theorem dX6_orders_22 : decode cX6_orders 22 = .ok (.iload_n 2, 1) := by decide +kernel
theorem dX6_orders_23 : decode cX6_orders 23 = .ok (.iload_n 3, 1) := by decide +kernel
theorem dX6_orders_24 : decode cX6_orders 24 = .ok (.iastore, 1) := by decide +kernel
theorem dX6_orders_25 : decode cX6_orders 25 = .ok (.goto 67, 3) := by decide +kernel
theorem dX6_orders_28 : decode cX6_orders 28 = .ok (.iload_n 1, 1) := by decide +kernel
theorem dX6_orders_29 : decode cX6_orders 29 = .ok (.bipush 15, 2) := by decide +kernel
theorem dX6_orders_31 : decode cX6_orders 31 = .ok (.if_icmp .ne 13, 3) := by decide +kernel
theorem dX6_orders_34 : decode cX6_orders 34 = .ok (.aload_n 0, 1) := by decide +kernel
theorem dX6_orders_35 : decode cX6_orders 35 = .ok (.getfield 63, 3) := by decide +kernel
theorem dX6_orders_38 : decode cX6_orders 38 = .ok (.iload_n 2, 1) := by decide +kernel
theorem dX6_orders_39 : decode cX6_orders 39 = .ok (.iconst 1, 1) := by decide +kernel
theorem dX6_orders_40 : decode cX6_orders 40 = .ok (.bastore, 1) := by decide +kernel
theorem dX6_orders_41 : decode cX6_orders 41 = .ok (.goto 51, 3) := by decide +kernel
theorem dX6_orders_44 : decode cX6_orders 44 = .ok (.iload_n 3, 1) := by decide +kernel
theorem dX6_orders_45 : decode cX6_orders 45 = .ok (.iconst 0, 1) := by decide +kernel
theorem dX6_orders_46 : decode cX6_orders 46 = .ok (.bipush 30, 2) := by decide +kernel
theorem dX6_orders_48 : decode cX6_orders 48 = .ok (.invokestatic 96, 3) := by decide +kernel
theorem dX6_orders_51 : decode cX6_orders 51 = .ok (.ifCond .eq 27, 3) := by decide +kernel
theorem dX6_orders_54 : decode cX6_orders 54 = .ok (.aload_n 0, 1) := by decide +kernel
theorem dX6_orders_55 : decode cX6_orders 55 = .ok (.getfield 66, 3) := by decide +kernel
theorem dX6_orders_58 : decode cX6_orders 58 = .ok (.iload_n 2, 1) := by decide +kernel
theorem dX6_orders_59 : decode cX6_orders 59 = .ok (.iaload, 1) := by decide +kernel
theorem dX6_orders_60 : decode cX6_orders 60 = .ok (.iload_n 3, 1) := by decide +kernel
theorem dX6_orders_61 : decode cX6_orders 61 = .ok (.ishr, 1) := by decide +kernel
theorem dX6_orders_62 : decode cX6_orders 62 = .ok (.iconst 1, 1) := by decide +kernel
theorem dX6_orders_63 : decode cX6_orders 63 = .ok (.iand, 1) := by decide +kernel
theorem dX6_orders_64 : decode cX6_orders 64 = .ok (.iload_n 1, 1) := by decide +kernel
theorem dX6_orders_65 : decode cX6_orders 65 = .ok (.bipush 16, 2) := by decide +kernel
theorem dX6_orders_67 : decode cX6_orders 67 = .ok (.if_icmp .ne 7, 3) := by decide +kernel
theorem dX6_orders_70 : decode cX6_orders 70 = .ok (.iconst 1, 1) := by decide +kernel
theorem dX6_orders_71 : decode cX6_orders 71 = .ok (.goto 4, 3) := by decide +kernel
theorem dX6_orders_74 : decode cX6_orders 74 = .ok (.iconst 0, 1) := by decide +kernel
theorem dX6_orders_75 : decode cX6_orders 75 = .ok (.if_icmp .ne 5, 3) := by decide +kernel
theorem dX6_orders_78 : decode cX6_orders 78 = .ok (.iconst 0, 1) := by decide +kernel
theorem dX6_orders_79 : decode cX6_orders 79 = .ok (.ireturn, 1) := by decide +kernel
theorem dX6_orders_80 : decode cX6_orders 80 = .ok (.aload_n 0, 1) := by decide +kernel
theorem dX6_orders_81 : decode cX6_orders 81 = .ok (.getfield 66, 3) := by decide +kernel
theorem dX6_orders_84 : decode cX6_orders 84 = .ok (.iload_n 2, 1) := by decide +kernel
theorem dX6_orders_85 : decode cX6_orders 85 = .ok (.dup2, 1) := by decide +kernel
theorem dX6_orders_86 : decode cX6_orders 86 = .ok (.iaload, 1) := by decide +kernel
theorem dX6_orders_87 : decode cX6_orders 87 = .ok (.iconst 1, 1) := by decide +kernel
theorem dX6_orders_88 : decode cX6_orders 88 = .ok (.iload_n 3, 1) := by decide +kernel
theorem dX6_orders_89 : decode cX6_orders 89 = .ok (.ishl, 1) := by decide +kernel
theorem dX6_orders_90 : decode cX6_orders 90 = .ok (.ixor, 1) := by decide +kernel
theorem dX6_orders_91 : decode cX6_orders 91 = .ok (.iastore, 1) := by decide +kernel
theorem dX6_orders_92 : decode cX6_orders 92 = .ok (.iconst 1, 1) := by decide +kernel
theorem dX6_orders_93 : decode cX6_orders 93 = .ok (.ireturn, 1) := by decide +kernel
def j_X6_orders_75  (Q : Int32 → St → Prop) (v2 : Int32) (v3 : Int32) (s0 : Int32) (s1 : Int32) (σ : St) : Prop :=
  if s1 = s0 then
  (Q 0 σ)
  else (vp_in v2 60 ∧
  (vp_in v2 60 ∧
  nmS (up2 σ 16 (ix v2) ((σ 16 (ix v2)) ^^^ ((1 : Int32) <<< (v3 &&& 31)))) (fun σ3 =>
  Q 1 σ3)))
theorem wk_X6_orders_75 (X : cx p s m args c cX6_orders 4 RX6 D (wM cI cZ a) A (tyW cI cZ cH)) (hr9 : meth.sig.returnType = (some .boolean)) (hlk9 : meth.locks = false)  {Q : Int32 → St → Prop} {v2 : Int32} {v3 : Int32} {s0 : Int32} {s1 : Int32} {σ : St} (h : j_X6_orders_75 Q v2 v3 s0 s1 σ) : go p l e rm_X6_orders s m args below meth c D (wM cI cZ a) A 0 0 (MQ below (va_Qi (fun r9 u9 => isB r9 ∧ Q r9 u9) (atw D (wM cI cZ a) (tyW cI cZ cH) A) A) args s 0 0 A) 4 75 [(0, .ref (a 0)), (2, .int v2), (3, .int v3)] [.int s0, .int s1] σ := by
  delta j_X6_orders_75 at h
  refine r_icmp_ne X 80 78 h dX6_orders_75 rfl rfl (fun h => ?_) (fun h => ?_)
  · refine r_aload_n X 0 81 dX6_orders_80 rfl rfl rfl ?_
    refine g_X6_66 X 84 dX6_orders_81 rfl ?_
    refine r_iload_n X 1 85 dX6_orders_84 rfl rfl rfl ?_
    refine r_dup2 X 86 dX6_orders_85 rfl rfl rfl ?_
    obtain ⟨hin, h⟩ := h
    refine l_M16 X 87 hin dX6_orders_86 rfl ?_
    refine r_iconst (v := 1) X 88 dX6_orders_87 (by decide) rfl ?_
    refine r_iload_n X 2 89 dX6_orders_88 rfl rfl rfl ?_
    refine r_ishl X 90 dX6_orders_89 rfl ?_
    refine r_ixor X 91 dX6_orders_90 rfl ?_
    obtain ⟨hin, h⟩ := h
    refine s_M16 X 92 hin dX6_orders_91 rfl ?_
    refine r_nmS h (fun σ3 h => ?_)
    refine r_iconst (v := 1) X 93 dX6_orders_92 (by decide) rfl ?_
    exact r_zret X hr9 hlk9 isB_1 h dX6_orders_93
  · refine r_iconst (v := 0) X 79 dX6_orders_78 (by decide) rfl ?_
    exact r_zret X hr9 hlk9 isB_0 h dX6_orders_79
def wp_X6_orders  (σ : St) (x1 : Int32) (x2 : Int32) (x3 : Int32) (Q : Int32 → St → Prop) : Prop :=
  if x1 = 14 then
  (wp_X6_isIn σ x3 0 100000 (fun y6 σ5 =>
  if y6 = 0 then
  (Q 0 σ5)
  else (vp_in x2 60 ∧
  nmS (up2 σ5 14 (ix x2) x3) (fun σ7 =>
  Q 1 σ7))))
  else (if x1 = 15 then
  (vp_in x2 60 ∧
  nmS (up2 σ 15 (ix x2) 1) (fun σ4 =>
  Q 1 σ4))
  else (wp_X6_isIn σ x3 0 30 (fun y2 σ1 =>
  if y2 = 0 then
  (Q 0 σ1)
  else (vp_in x2 60 ∧
  (if x1 = 16 then
  (j_X6_orders_75 Q x2 x3 1 (((σ1 16 (ix x2)) >>> (x3 &&& 31)) &&& 1) σ1)
  else (j_X6_orders_75 Q x2 x3 0 (((σ1 16 (ix x2)) >>> (x3 &&& 31)) &&& 1) σ1))))))
theorem c_X6_orders  {σ : St} {x1 : Int32} {x2 : Int32} {x3 : Int32} {Q : Int32 → St → Prop} (h : wp_X6_orders σ x1 x2 x3 Q) : ctI l yX6_orders cX6_orders 4 (some .boolean) rm_X6_orders D (wM cI cZ a) (tyW cI cZ cH) [.ref (a 0), .int x1, .int x2, .int x3] σ (fun r9 u9 => isB r9 ∧ Q r9 u9) := by
  refine mk_I (wM_ok cI cZ a) (by decide +kernel) (Nat.le_of_ble_eq_true rfl) (fun p e s m args below meth c A X hr9 hlk9 => ?_)
  refine r_pick (lv' := [(0, .ref (a 0)), (1, .int x1), (2, .int x2), (3, .int x3)]) [0, 1, 2, 3] rfl ?_
  delta wp_X6_orders at h
  refine r_iload_n X 1 1 dX6_orders_0 rfl rfl rfl ?_
  refine r_bipush (v := 14) X 3 dX6_orders_1 (by decide) rfl ?_
  refine r_icmp_ne X 28 6 h dX6_orders_3 rfl rfl (fun h => ?_) (fun h => ?_)
  · refine r_iload_n X 1 29 dX6_orders_28 rfl rfl rfl ?_
    refine r_bipush (v := 15) X 31 dX6_orders_29 (by decide) rfl ?_
    refine r_icmp_ne X 44 34 h dX6_orders_31 rfl rfl (fun h => ?_) (fun h => ?_)
    · refine r_iload_n X 3 45 dX6_orders_44 rfl rfl rfl ?_
      refine r_iconst (v := 0) X 46 dX6_orders_45 (by decide) rfl ?_
      refine r_bipush (v := 30) X 48 dX6_orders_46 (by decide) rfl ?_
      refine r_callSI (As := [.int x3, .int 0, .int 30]) (rest := []) X 51 (c_X6_isIn h) ml_X6_96 lk_X6_isIn sy_X6_isIn rfl rfl (Nat.le_of_ble_eq_true rfl) ⟨rfl, rfl, ⟨Nat.le_of_ble_eq_true rfl, Nat.le_of_ble_eq_true rfl⟩, Nat.le_of_ble_eq_true rfl, Nat.le_of_ble_eq_true rfl⟩ dX6_orders_48 rfl (fun y2 σ1 h => ?_)
      obtain ⟨hb_y2, h⟩ := h
      refine r_if_eq X 78 54 h dX6_orders_51 rfl rfl (fun h => ?_) (fun h => ?_)
      · refine r_iconst (v := 0) X 79 dX6_orders_78 (by decide) rfl ?_
        exact r_zret X hr9 hlk9 isB_0 h dX6_orders_79
      · refine r_aload_n X 0 55 dX6_orders_54 rfl rfl rfl ?_
        refine g_X6_66 X 58 dX6_orders_55 rfl ?_
        refine r_iload_n X 2 59 dX6_orders_58 rfl rfl rfl ?_
        obtain ⟨hin, h⟩ := h
        refine l_M16 X 60 hin dX6_orders_59 rfl ?_
        refine r_iload_n X 3 61 dX6_orders_60 rfl rfl rfl ?_
        refine r_ishr X 62 dX6_orders_61 rfl ?_
        refine r_iconst (v := 1) X 63 dX6_orders_62 (by decide) rfl ?_
        refine r_iand X 64 dX6_orders_63 rfl ?_
        refine r_iload_n X 1 65 dX6_orders_64 rfl rfl rfl ?_
        refine r_bipush (v := 16) X 67 dX6_orders_65 (by decide) rfl ?_
        refine r_icmp_ne X 74 70 h dX6_orders_67 rfl rfl (fun h => ?_) (fun h => ?_)
        · refine r_iconst (v := 0) X 75 dX6_orders_74 (by decide) rfl ?_
          refine r_pick (lv' := [(0, .ref (a 0)), (2, .int x2), (3, .int x3)]) [0, 2, 3] rfl ?_
          exact wk_X6_orders_75 X hr9 hlk9 h
        · refine r_iconst (v := 1) X 71 dX6_orders_70 (by decide) rfl ?_
          refine r_goto X 75 dX6_orders_71 rfl ?_
          refine r_pick (lv' := [(0, .ref (a 0)), (2, .int x2), (3, .int x3)]) [0, 2, 3] rfl ?_
          exact wk_X6_orders_75 X hr9 hlk9 h
    · refine r_aload_n X 0 35 dX6_orders_34 rfl rfl rfl ?_
      refine g_X6_63 X 38 dX6_orders_35 rfl ?_
      refine r_iload_n X 2 39 dX6_orders_38 rfl rfl rfl ?_
      refine r_iconst (v := 1) X 40 dX6_orders_39 (by decide) rfl ?_
      obtain ⟨hin, h⟩ := h
      refine s_M15 (x8 := 1) X (by decide +kernel) 41 hin dX6_orders_40 rfl ?_
      refine r_nmS h (fun σ4 h => ?_)
      refine r_goto X 92 dX6_orders_41 rfl ?_
      refine r_iconst (v := 1) X 93 dX6_orders_92 (by decide) rfl ?_
      exact r_zret X hr9 hlk9 isB_1 h dX6_orders_93
  · refine r_iload_n X 3 7 dX6_orders_6 rfl rfl rfl ?_
    refine r_iconst (v := 0) X 8 dX6_orders_7 (by decide) rfl ?_
    refine r_ldc (v := 100000) X 10 dX6_orders_8 cn_X6_154 rfl ?_
    refine r_callSI (As := [.int x3, .int 0, .int 100000]) (rest := []) X 13 (c_X6_isIn h) ml_X6_96 lk_X6_isIn sy_X6_isIn rfl rfl (Nat.le_of_ble_eq_true rfl) ⟨rfl, rfl, ⟨Nat.le_of_ble_eq_true rfl, Nat.le_of_ble_eq_true rfl⟩, Nat.le_of_ble_eq_true rfl, Nat.le_of_ble_eq_true rfl⟩ dX6_orders_10 rfl (fun y6 σ5 h => ?_)
    obtain ⟨hb_y6, h⟩ := h
    refine r_if_ne X 18 16 h dX6_orders_13 rfl rfl (fun h => ?_) (fun h => ?_)
    · refine r_aload_n X 0 19 dX6_orders_18 rfl rfl rfl ?_
      refine g_X6_60 X 22 dX6_orders_19 rfl ?_
      refine r_iload_n X 2 23 dX6_orders_22 rfl rfl rfl ?_
      refine r_iload_n X 3 24 dX6_orders_23 rfl rfl rfl ?_
      obtain ⟨hin, h⟩ := h
      refine s_M14 X 25 hin dX6_orders_24 rfl ?_
      refine r_nmS h (fun σ7 h => ?_)
      refine r_goto X 92 dX6_orders_25 rfl ?_
      refine r_iconst (v := 1) X 93 dX6_orders_92 (by decide) rfl ?_
      exact r_zret X hr9 hlk9 isB_1 h dX6_orders_93
    · refine r_iconst (v := 0) X 17 dX6_orders_16 (by decide) rfl ?_
      exact r_zret X hr9 hlk9 isB_0 h dX6_orders_17
def rm_X6_isOf : Room := { frames := 0, cells := 0, slots := 0, locals := 0 }
theorem dX6_isOf_0 : decode cX6_isOf 0 = .ok (.iload_n 1, 1) := by decide +kernel
theorem dX6_isOf_1 : decode cX6_isOf 1 = .ok (.istore_n 3, 1) := by decide +kernel
theorem dX6_isOf_2 : decode cX6_isOf 2 = .ok (.iload_n 3, 1) := by decide +kernel
theorem dX6_isOf_3 : decode cX6_isOf 3 = .ok (.ifCond .lt 18, 3) := by decide +kernel
theorem dX6_isOf_6 : decode cX6_isOf 6 = .ok (.iload_n 3, 1) := by decide +kernel
theorem dX6_isOf_7 : decode cX6_isOf 7 = .ok (.iload_n 2, 1) := by decide +kernel
theorem dX6_isOf_8 : decode cX6_isOf 8 = .ok (.if_icmp .eq 13, 3) := by decide +kernel
theorem dX6_isOf_11 : decode cX6_isOf 11 = .ok (.aload_n 0, 1) := by decide +kernel
theorem dX6_isOf_12 : decode cX6_isOf 12 = .ok (.getfield 69, 3) := by decide +kernel
theorem dX6_isOf_15 : decode cX6_isOf 15 = .ok (.iload_n 3, 1) := by decide +kernel
theorem dX6_isOf_16 : decode cX6_isOf 16 = .ok (.iaload, 1) := by decide +kernel
theorem dX6_isOf_17 : decode cX6_isOf 17 = .ok (.istore_n 3, 1) := by decide +kernel
theorem dX6_isOf_18 : decode cX6_isOf 18 = .ok (.goto (-16), 3) := by decide +kernel
theorem dX6_isOf_21 : decode cX6_isOf 21 = .ok (.iload_n 3, 1) := by decide +kernel
theorem dX6_isOf_22 : decode cX6_isOf 22 = .ok (.iload_n 2, 1) := by decide +kernel
theorem dX6_isOf_23 : decode cX6_isOf 23 = .ok (.if_icmp .ne 7, 3) := by decide +kernel
theorem dX6_isOf_26 : decode cX6_isOf 26 = .ok (.iconst 1, 1) := by decide +kernel
theorem dX6_isOf_27 : decode cX6_isOf 27 = .ok (.goto 4, 3) := by decide +kernel
theorem dX6_isOf_30 : decode cX6_isOf 30 = .ok (.iconst 0, 1) := by decide +kernel
theorem dX6_isOf_31 : decode cX6_isOf 31 = .ok (.ireturn, 1) := by decide +kernel
def j_X6_isOf_21  (Q : Int32 → St → Prop) (v2 : Int32) (v3 : Int32) (σ : St) : Prop :=
  if v3 = v2 then
  (Q 1 σ)
  else (Q 0 σ)
theorem wk_X6_isOf_21 (X : cx p s m args c cX6_isOf 4 RX6 D (wM cI cZ a) A (tyW cI cZ cH)) (hr9 : meth.sig.returnType = (some .boolean)) (hlk9 : meth.locks = false)  {Q : Int32 → St → Prop} {v2 : Int32} {v3 : Int32} {σ : St} (h : j_X6_isOf_21 Q v2 v3 σ) : go p l e rm_X6_isOf s m args below meth c D (wM cI cZ a) A 0 0 (MQ below (va_Qi (fun r9 u9 => isB r9 ∧ Q r9 u9) (atw D (wM cI cZ a) (tyW cI cZ cH) A) A) args s 0 0 A) 4 21 [(2, .int v2), (3, .int v3)] [] σ := by
  delta j_X6_isOf_21 at h
  refine r_iload_n X 1 22 dX6_isOf_21 rfl rfl rfl ?_
  refine r_iload_n X 0 23 dX6_isOf_22 rfl rfl rfl ?_
  refine r_icmp_ne X 30 26 h dX6_isOf_23 rfl rfl (fun h => ?_) (fun h => ?_)
  · refine r_iconst (v := 0) X 31 dX6_isOf_30 (by decide) rfl ?_
    exact r_zret X hr9 hlk9 isB_0 h dX6_isOf_31
  · refine r_iconst (v := 1) X 27 dX6_isOf_26 (by decide) rfl ?_
    refine r_goto X 31 dX6_isOf_27 rfl ?_
    exact r_zret X hr9 hlk9 isB_1 h dX6_isOf_31
def b_X6_isOf_2  (Q : Int32 → St → Prop) (rec2 : Int32 → Int32 → St → Prop) (v2 : Int32) (v3 : Int32) (σ : St) : Prop :=
  if v3 < 0 then
  (j_X6_isOf_21 Q v2 v3 σ)
  else (if v3 = v2 then
  (j_X6_isOf_21 Q v2 v3 σ)
  else (vp_in v3 60 ∧
  (nm ((σ 17 (ix v3))) (fun z1 =>
  rec2 v2 z1 σ))))
def lp_X6_isOf_2  (Q : Int32 → St → Prop) (n9 : Nat) : Int32 → Int32 → St → Prop :=
  Nat.rec (fun _ _ _ => False) (fun _ rec9 => b_X6_isOf_2  Q  rec9) n9
theorem wk_X6_isOf_2 (X : cx p s m args c cX6_isOf 4 RX6 D (wM cI cZ a) A (tyW cI cZ cH)) (hr9 : meth.sig.returnType = (some .boolean)) (hlk9 : meth.locks = false)  {Q : Int32 → St → Prop} : ∀ (n9 : Nat) {v2 : Int32} {v3 : Int32} {σ : St}, lp_X6_isOf_2 Q n9 v2 v3 σ → go p l e rm_X6_isOf s m args below meth c D (wM cI cZ a) A 0 0 (MQ below (va_Qi (fun r9 u9 => isB r9 ∧ Q r9 u9) (atw D (wM cI cZ a) (tyW cI cZ cH) A) A) args s 0 0 A) 4 2 [(0, .ref (a 0)), (2, .int v2), (3, .int v3)] [] σ := by
  intro n9
  induction n9 with
  | zero => intro v2 v3 σ h; exact h.elim
  | succ n9 ih =>
    intro v2 v3 σ h
    have hrec2 := fun v2 v3 σ h => ih (σ := σ) (v2 := v2) (v3 := v3) h
    replace h : b_X6_isOf_2 Q (lp_X6_isOf_2 Q n9) v2 v3 σ := h
    delta b_X6_isOf_2 at h
    refine r_iload_n X 2 3 dX6_isOf_2 rfl rfl rfl ?_
    refine r_if_lt X 21 6 h dX6_isOf_3 rfl rfl (fun h => ?_) (fun h => ?_)
    · refine r_pick (lv' := [(2, .int v2), (3, .int v3)]) [1, 2] rfl ?_
      exact wk_X6_isOf_21 X hr9 hlk9 h
    · refine r_iload_n X 2 7 dX6_isOf_6 rfl rfl rfl ?_
      refine r_iload_n X 1 8 dX6_isOf_7 rfl rfl rfl ?_
      refine r_icmp_eq X 21 11 h dX6_isOf_8 rfl rfl (fun h => ?_) (fun h => ?_)
      · refine r_pick (lv' := [(2, .int v2), (3, .int v3)]) [1, 2] rfl ?_
        exact wk_X6_isOf_21 X hr9 hlk9 h
      · refine r_aload_n X 0 12 dX6_isOf_11 rfl rfl rfl ?_
        refine g_X6_69 X 15 dX6_isOf_12 rfl ?_
        refine r_iload_n X 2 16 dX6_isOf_15 rfl rfl rfl ?_
        obtain ⟨hin, h⟩ := h
        refine l_M17 X 17 hin dX6_isOf_16 rfl ?_
        refine r_istore_nN X 18 (fun z1 => [(3, .int z1), (0, .ref (a 0)), (2, .int v2)]) h dX6_isOf_17 rfl (by decide) (fun _ => rfl) rfl (fun z1 h => ?_)
        refine r_goto X 2 dX6_isOf_18 rfl ?_
        refine r_pick (lv' := [(0, .ref (a 0)), (2, .int v2), (3, .int z1)]) [1, 2, 0] rfl ?_
        exact hrec2 _ _ _ h
def wp_X6_isOf  (σ : St) (x1 : Int32) (x2 : Int32) (Q : Int32 → St → Prop) : Prop :=
  ∃ n9 : Nat, lp_X6_isOf_2 Q n9 x2 x1 σ
theorem c_X6_isOf  {σ : St} {x1 : Int32} {x2 : Int32} {Q : Int32 → St → Prop} (h : wp_X6_isOf σ x1 x2 Q) : ctI l yX6_isOf cX6_isOf 4 (some .boolean) rm_X6_isOf D (wM cI cZ a) (tyW cI cZ cH) [.ref (a 0), .int x1, .int x2] σ (fun r9 u9 => isB r9 ∧ Q r9 u9) := by
  refine mk_I (wM_ok cI cZ a) (by decide +kernel) (Nat.le_of_ble_eq_true rfl) (fun p e s m args below meth c A X hr9 hlk9 => ?_)
  refine r_pick (lv' := [(0, .ref (a 0)), (1, .int x1), (2, .int x2)]) [0, 1, 2] rfl ?_
  delta wp_X6_isOf at h
  refine r_iload_n X 1 1 dX6_isOf_0 rfl rfl rfl ?_
  refine r_istore_n X 2 [(3, .int x1), (0, .ref (a 0)), (1, .int x1), (2, .int x2)] dX6_isOf_1 rfl (by decide) rfl rfl ?_
  refine r_pick (lv' := [(0, .ref (a 0)), (2, .int x2), (3, .int x1)]) [1, 3, 0] rfl ?_
  obtain ⟨n9, h⟩ := h
  exact wk_X6_isOf_2 X hr9 hlk9 n9 h
def rm_X6_isDestroyed : Room := { frames := 3, cells := 0, slots := 0, locals := 66 }
theorem dX6_isDestroyed_0 : decode cX6_isDestroyed 0 = .ok (.aload_n 0, 1) := by decide +kernel
theorem dX6_isDestroyed_1 : decode cX6_isDestroyed 1 = .ok (.iload_n 2, 1) := by decide +kernel
theorem dX6_isDestroyed_2 : decode cX6_isDestroyed 2 = .ok (.iload_n 3, 1) := by decide +kernel
theorem dX6_isDestroyed_3 : decode cX6_isDestroyed 3 = .ok (.iconst 1, 1) := by decide +kernel
theorem dX6_isDestroyed_4 : decode cX6_isDestroyed 4 = .ok (.invokevirtual 139, 3) := by decide +kernel
theorem dX6_isDestroyed_7 : decode cX6_isDestroyed 7 = .ok (.ifCond .eq 24, 3) := by decide +kernel
theorem dX6_isDestroyed_10 : decode cX6_isDestroyed 10 = .ok (.aload_n 0, 1) := by decide +kernel
theorem dX6_isDestroyed_11 : decode cX6_isDestroyed 11 = .ok (.iload 4, 2) := by decide +kernel
theorem dX6_isDestroyed_13 : decode cX6_isDestroyed 13 = .ok (.invokevirtual 143, 3) := by decide +kernel
theorem dX6_isDestroyed_16 : decode cX6_isDestroyed 16 = .ok (.ifCond .eq 15, 3) := by decide +kernel
theorem dX6_isDestroyed_19 : decode cX6_isDestroyed 19 = .ok (.iload 4, 2) := by decide +kernel
theorem dX6_isDestroyed_21 : decode cX6_isDestroyed 21 = .ok (.iload_n 2, 1) := by decide +kernel
theorem dX6_isDestroyed_22 : decode cX6_isDestroyed 22 = .ok (.if_icmp .eq 9, 3) := by decide +kernel
theorem dX6_isDestroyed_25 : decode cX6_isDestroyed 25 = .ok (.iload 4, 2) := by decide +kernel
theorem dX6_isDestroyed_27 : decode cX6_isDestroyed 27 = .ok (.iload_n 3, 1) := by decide +kernel
theorem dX6_isDestroyed_28 : decode cX6_isDestroyed 28 = .ok (.if_icmp .ne 5, 3) := by decide +kernel
theorem dX6_isDestroyed_31 : decode cX6_isDestroyed 31 = .ok (.iconst 0, 1) := by decide +kernel
theorem dX6_isDestroyed_32 : decode cX6_isDestroyed 32 = .ok (.ireturn, 1) := by decide +kernel
theorem dX6_isDestroyed_33 : decode cX6_isDestroyed 33 = .ok (.aload_n 0, 1) := by decide +kernel
theorem dX6_isDestroyed_34 : decode cX6_isDestroyed 34 = .ok (.getfield 45, 3) := by decide +kernel
theorem dX6_isDestroyed_37 : decode cX6_isDestroyed 37 = .ok (.iload_n 1, 1) := by decide +kernel
theorem dX6_isDestroyed_38 : decode cX6_isDestroyed 38 = .ok (.iaload, 1) := by decide +kernel
theorem dX6_isDestroyed_39 : decode cX6_isDestroyed 39 = .ok (.iconst 1, 1) := by decide +kernel
theorem dX6_isDestroyed_40 : decode cX6_isDestroyed 40 = .ok (.if_icmp .ne 40, 3) := by decide +kernel
theorem dX6_isDestroyed_43 : decode cX6_isDestroyed 43 = .ok (.aload_n 0, 1) := by decide +kernel
theorem dX6_isDestroyed_44 : decode cX6_isDestroyed 44 = .ok (.getfield 63, 3) := by decide +kernel
theorem dX6_isDestroyed_47 : decode cX6_isDestroyed 47 = .ok (.iload_n 1, 1) := by decide +kernel
theorem dX6_isDestroyed_48 : decode cX6_isDestroyed 48 = .ok (.baload, 1) := by decide +kernel
theorem dX6_isDestroyed_49 : decode cX6_isDestroyed 49 = .ok (.ifCond .eq 31, 3) := by decide +kernel
theorem dX6_isDestroyed_52 : decode cX6_isDestroyed 52 = .ok (.aload_n 0, 1) := by decide +kernel
theorem dX6_isDestroyed_53 : decode cX6_isDestroyed 53 = .ok (.getfield 60, 3) := by decide +kernel
theorem dX6_isDestroyed_56 : decode cX6_isDestroyed 56 = .ok (.iload_n 1, 1) := by decide +kernel
theorem dX6_isDestroyed_57 : decode cX6_isDestroyed 57 = .ok (.iaload, 1) := by decide +kernel
theorem dX6_isDestroyed_58 : decode cX6_isDestroyed 58 = .ok (.iload 5, 2) := by decide +kernel
theorem dX6_isDestroyed_60 : decode cX6_isDestroyed 60 = .ok (.if_icmp .gt 20, 3) := by decide +kernel
theorem dX6_isDestroyed_63 : decode cX6_isDestroyed 63 = .ok (.aload_n 0, 1) := by decide +kernel
theorem dX6_isDestroyed_64 : decode cX6_isDestroyed 64 = .ok (.getfield 66, 3) := by decide +kernel
theorem dX6_isDestroyed_67 : decode cX6_isDestroyed 67 = .ok (.iload_n 1, 1) := by decide +kernel
theorem dX6_isDestroyed_68 : decode cX6_isDestroyed 68 = .ok (.iaload, 1) := by decide +kernel
theorem dX6_isDestroyed_69 : decode cX6_isDestroyed 69 = .ok (.ifCond .ne 11, 3) := by decide +kernel
theorem dX6_isDestroyed_72 : decode cX6_isDestroyed 72 = .ok (.aload_n 0, 1) := by decide +kernel
theorem dX6_isDestroyed_73 : decode cX6_isDestroyed 73 = .ok (.iload_n 1, 1) := by decide +kernel
theorem dX6_isDestroyed_74 : decode cX6_isDestroyed 74 = .ok (.invokevirtual 168, 3) := by decide +kernel
theorem dX6_isDestroyed_77 : decode cX6_isDestroyed 77 = .ok (.ifCond .le 5, 3) := by decide +kernel
theorem dX6_isDestroyed_80 : decode cX6_isDestroyed 80 = .ok (.iconst 0, 1) := by decide +kernel
theorem dX6_isDestroyed_81 : decode cX6_isDestroyed 81 = .ok (.ireturn, 1) := by decide +kernel
theorem dX6_isDestroyed_82 : decode cX6_isDestroyed 82 = .ok (.iconst 0, 1) := by decide +kernel
theorem dX6_isDestroyed_83 : decode cX6_isDestroyed 83 = .ok (.istore 6, 2) := by decide +kernel
theorem dX6_isDestroyed_85 : decode cX6_isDestroyed 85 = .ok (.iload 6, 2) := by decide +kernel
theorem dX6_isDestroyed_87 : decode cX6_isDestroyed 87 = .ok (.aload_n 0, 1) := by decide +kernel
theorem dX6_isDestroyed_88 : decode cX6_isDestroyed 88 = .ok (.getfield 93, 3) := by decide +kernel
theorem dX6_isDestroyed_91 : decode cX6_isDestroyed 91 = .ok (.if_icmp .ge 38, 3) := by decide +kernel
theorem dX6_isDestroyed_94 : decode cX6_isDestroyed 94 = .ok (.iload 6, 2) := by decide +kernel
theorem dX6_isDestroyed_96 : decode cX6_isDestroyed 96 = .ok (.iload_n 1, 1) := by decide +kernel
theorem dX6_isDestroyed_97 : decode cX6_isDestroyed 97 = .ok (.if_icmp .eq 26, 3) := by decide +kernel
theorem dX6_isDestroyed_100 : decode cX6_isDestroyed 100 = .ok (.aload_n 0, 1) := by decide +kernel
theorem dX6_isDestroyed_101 : decode cX6_isDestroyed 101 = .ok (.getfield 45, 3) := by decide +kernel
theorem dX6_isDestroyed_104 : decode cX6_isDestroyed 104 = .ok (.iload 6, 2) := by decide +kernel
theorem dX6_isDestroyed_106 : decode cX6_isDestroyed 106 = .ok (.iaload, 1) := by decide +kernel
theorem dX6_isDestroyed_107 : decode cX6_isDestroyed 107 = .ok (.iconst 2, 1) := by decide +kernel
theorem dX6_isDestroyed_108 : decode cX6_isDestroyed 108 = .ok (.if_icmp .ne 15, 3) := by decide +kernel
theorem dX6_isDestroyed_111 : decode cX6_isDestroyed 111 = .ok (.aload_n 0, 1) := by decide +kernel
theorem dX6_isDestroyed_112 : decode cX6_isDestroyed 112 = .ok (.iload 6, 2) := by decide +kernel
theorem dX6_isDestroyed_114 : decode cX6_isDestroyed 114 = .ok (.iload_n 1, 1) := by decide +kernel
theorem dX6_isDestroyed_115 : decode cX6_isDestroyed 115 = .ok (.invokevirtual 181, 3) := by decide +kernel
theorem dX6_isDestroyed_118 : decode cX6_isDestroyed 118 = .ok (.ifCond .eq 5, 3) := by decide +kernel
theorem dX6_isDestroyed_121 : decode cX6_isDestroyed 121 = .ok (.iconst 0, 1) := by decide +kernel
theorem dX6_isDestroyed_122 : decode cX6_isDestroyed 122 = .ok (.ireturn, 1) := by decide +kernel
theorem dX6_isDestroyed_123 : decode cX6_isDestroyed 123 = .ok (.iinc 6 1, 3) := by decide +kernel
theorem dX6_isDestroyed_126 : decode cX6_isDestroyed 126 = .ok (.goto (-41), 3) := by decide +kernel
theorem dX6_isDestroyed_129 : decode cX6_isDestroyed 129 = .ok (.aload_n 0, 1) := by decide +kernel
theorem dX6_isDestroyed_130 : decode cX6_isDestroyed 130 = .ok (.iload_n 1, 1) := by decide +kernel
theorem dX6_isDestroyed_131 : decode cX6_isDestroyed 131 = .ok (.iconst 4, 1) := by decide +kernel
theorem dX6_isDestroyed_132 : decode cX6_isDestroyed 132 = .ok (.iconst (-1), 1) := by decide +kernel
theorem dX6_isDestroyed_133 : decode cX6_isDestroyed 133 = .ok (.invokevirtual 150, 3) := by decide +kernel
theorem dX6_isDestroyed_136 : decode cX6_isDestroyed 136 = .ok (.iconst 1, 1) := by decide +kernel
theorem dX6_isDestroyed_137 : decode cX6_isDestroyed 137 = .ok (.ireturn, 1) := by decide +kernel
def j_X6_isDestroyed_123  (Q : Int32 → St → Prop) (rec85 : Int32 → Int32 → St → Prop) (v1 : Int32) (v6 : Int32) (σ : St) : Prop :=
  rec85 v1 (v6 + 1) σ
theorem wk_X6_isDestroyed_123 (X : cx p s m args c cX6_isDestroyed 7 RX6 D (wM cI cZ a) A (tyW cI cZ cH)) (hr9 : meth.sig.returnType = (some .boolean)) (hlk9 : meth.locks = false)  {Q : Int32 → St → Prop} {rec85 : Int32 → Int32 → St → Prop} (hrec85 : ∀ (v1 : Int32) (v6 : Int32) (σ : St), rec85 v1 v6 σ → go p l e rm_X6_isDestroyed s m args below meth c D (wM cI cZ a) A 0 0 (MQ below (va_Qi (fun r9 u9 => isB r9 ∧ Q r9 u9) (atw D (wM cI cZ a) (tyW cI cZ cH) A) A) args s 0 0 A) 7 85 [(0, .ref (a 0)), (1, .int v1), (6, .int v6)] [] σ) {v1 : Int32} {v6 : Int32} {σ : St} (h : j_X6_isDestroyed_123 Q rec85 v1 v6 σ) : go p l e rm_X6_isDestroyed s m args below meth c D (wM cI cZ a) A 0 0 (MQ below (va_Qi (fun r9 u9 => isB r9 ∧ Q r9 u9) (atw D (wM cI cZ a) (tyW cI cZ cH) A) A) args s 0 0 A) 7 123 [(0, .ref (a 0)), (1, .int v1), (6, .int v6)] [] σ := by
  delta j_X6_isDestroyed_123 at h
  refine r_iinc (d := 1) X 2 126 [(6, .int (v6 + 1)), (0, .ref (a 0)), (1, .int v1)] dX6_isDestroyed_123 rfl (by decide) (by decide) rfl rfl ?_
  refine r_goto X 85 dX6_isDestroyed_126 rfl ?_
  refine r_pick (lv' := [(0, .ref (a 0)), (1, .int v1), (6, .int (v6 + 1))]) [1, 2, 0] rfl ?_
  exact hrec85 _ _ _ h
def b_X6_isDestroyed_85  (Q : Int32 → St → Prop) (rec85 : Int32 → Int32 → St → Prop) (v1 : Int32) (v6 : Int32) (σ : St) : Prop :=
  if v6 < (σ 0 2) then
  (if v6 = v1 then
  (j_X6_isDestroyed_123 Q rec85 v1 v6 σ)
  else (vp_in v6 60 ∧
  (if (σ 9 (ix v6)) = 2 then
  (wp_X6_isOf σ v6 v1 (fun y9 σ8 =>
  if y9 = 0 then
  (j_X6_isDestroyed_123 Q rec85 v1 v6 σ8)
  else (Q 0 σ8)))
  else (j_X6_isDestroyed_123 Q rec85 v1 v6 σ))))
  else (wp_X6_go σ v1 4 (-1) (fun σ7 =>
  Q 1 σ7))
def lp_X6_isDestroyed_85  (Q : Int32 → St → Prop) (n9 : Nat) : Int32 → Int32 → St → Prop :=
  Nat.rec (fun _ _ _ => False) (fun _ rec9 => b_X6_isDestroyed_85  Q  rec9) n9
theorem wk_X6_isDestroyed_85 (X : cx p s m args c cX6_isDestroyed 7 RX6 D (wM cI cZ a) A (tyW cI cZ cH)) (hr9 : meth.sig.returnType = (some .boolean)) (hlk9 : meth.locks = false)  {Q : Int32 → St → Prop} : ∀ (n9 : Nat) {v1 : Int32} {v6 : Int32} {σ : St}, lp_X6_isDestroyed_85 Q n9 v1 v6 σ → go p l e rm_X6_isDestroyed s m args below meth c D (wM cI cZ a) A 0 0 (MQ below (va_Qi (fun r9 u9 => isB r9 ∧ Q r9 u9) (atw D (wM cI cZ a) (tyW cI cZ cH) A) A) args s 0 0 A) 7 85 [(0, .ref (a 0)), (1, .int v1), (6, .int v6)] [] σ := by
  intro n9
  induction n9 with
  | zero => intro v1 v6 σ h; exact h.elim
  | succ n9 ih =>
    intro v1 v6 σ h
    have hrec85 := fun v1 v6 σ h => ih (σ := σ) (v1 := v1) (v6 := v6) h
    replace h : b_X6_isDestroyed_85 Q (lp_X6_isDestroyed_85 Q n9) v1 v6 σ := h
    delta b_X6_isDestroyed_85 at h
    refine r_iload X 2 87 dX6_isDestroyed_85 rfl rfl ?_
    refine r_aload_n X 0 88 dX6_isDestroyed_87 rfl rfl rfl ?_
    refine g_X6_93 X 91 dX6_isDestroyed_88 rfl ?_
    refine r_icmp_ge X 129 94 h dX6_isDestroyed_91 rfl rfl (fun h => ?_) (fun h => ?_)
    · refine r_aload_n X 0 130 dX6_isDestroyed_129 rfl rfl rfl ?_
      refine r_iload_n X 1 131 dX6_isDestroyed_130 rfl rfl rfl ?_
      refine r_iconst (v := 4) X 132 dX6_isDestroyed_131 (by decide) rfl ?_
      refine r_iconst (v := (-1)) X 133 dX6_isDestroyed_132 (by decide) rfl ?_
      refine r_callV (As := [.int v1, .int 4, .int (-1)]) (rest := []) X 136 (c_X6_go h) ml_X6_150 lk_X6_go wM_at_0 rfl rfl rfl (Nat.le_of_ble_eq_true rfl) ⟨rfl, rfl, ⟨Nat.le_of_ble_eq_true rfl, Nat.le_of_ble_eq_true rfl⟩, Nat.le_of_ble_eq_true rfl, Nat.le_of_ble_eq_true rfl⟩ dX6_isDestroyed_133 rfl (fun σ7 h => ?_)
      refine r_iconst (v := 1) X 137 dX6_isDestroyed_136 (by decide) rfl ?_
      exact r_zret X hr9 hlk9 isB_1 h dX6_isDestroyed_137
    · refine r_iload X 2 96 dX6_isDestroyed_94 rfl rfl ?_
      refine r_iload_n X 1 97 dX6_isDestroyed_96 rfl rfl rfl ?_
      refine r_icmp_eq X 123 100 h dX6_isDestroyed_97 rfl rfl (fun h => ?_) (fun h => ?_)
      · refine r_pick (lv' := [(0, .ref (a 0)), (1, .int v1), (6, .int v6)]) [0, 1, 2] rfl ?_
        exact wk_X6_isDestroyed_123 X hr9 hlk9 hrec85 h
      · refine r_aload_n X 0 101 dX6_isDestroyed_100 rfl rfl rfl ?_
        refine g_X6_45 X 104 dX6_isDestroyed_101 rfl ?_
        refine r_iload X 2 106 dX6_isDestroyed_104 rfl rfl ?_
        obtain ⟨hin, h⟩ := h
        refine l_M9 X 107 hin dX6_isDestroyed_106 rfl ?_
        refine r_iconst (v := 2) X 108 dX6_isDestroyed_107 (by decide) rfl ?_
        refine r_icmp_ne X 123 111 h dX6_isDestroyed_108 rfl rfl (fun h => ?_) (fun h => ?_)
        · refine r_pick (lv' := [(0, .ref (a 0)), (1, .int v1), (6, .int v6)]) [0, 1, 2] rfl ?_
          exact wk_X6_isDestroyed_123 X hr9 hlk9 hrec85 h
        · refine r_aload_n X 0 112 dX6_isDestroyed_111 rfl rfl rfl ?_
          refine r_iload X 2 114 dX6_isDestroyed_112 rfl rfl ?_
          refine r_iload_n X 1 115 dX6_isDestroyed_114 rfl rfl rfl ?_
          refine r_callI (As := [.int v6, .int v1]) (rest := []) X 118 (c_X6_isOf h) ml_X6_181 lk_X6_isOf wM_at_0 rfl rfl rfl (Nat.le_of_ble_eq_true rfl) ⟨rfl, rfl, ⟨Nat.le_of_ble_eq_true rfl, Nat.le_of_ble_eq_true rfl⟩, Nat.le_of_ble_eq_true rfl, Nat.le_of_ble_eq_true rfl⟩ dX6_isDestroyed_115 rfl (fun y9 σ8 h => ?_)
          obtain ⟨hb_y9, h⟩ := h
          refine r_if_eq X 123 121 h dX6_isDestroyed_118 rfl rfl (fun h => ?_) (fun h => ?_)
          · refine r_pick (lv' := [(0, .ref (a 0)), (1, .int v1), (6, .int v6)]) [0, 1, 2] rfl ?_
            exact wk_X6_isDestroyed_123 X hr9 hlk9 hrec85 h
          · refine r_iconst (v := 0) X 122 dX6_isDestroyed_121 (by decide) rfl ?_
            exact r_zret X hr9 hlk9 isB_0 h dX6_isDestroyed_122
def wp_X6_isDestroyed  (σ : St) (x1 : Int32) (x2 : Int32) (x3 : Int32) (x4 : Int32) (x5 : Int32) (Q : Int32 → St → Prop) : Prop :=
  wp_X6_hasKeepers σ x2 x3 1 (fun y2 σ1 =>
  if y2 = 0 then
  (Q 0 σ1)
  else (wp_X6_isHand σ1 x4 (fun y4 σ3 =>
  if y4 = 0 then
  (Q 0 σ3)
  else (if x4 = x2 then
  (Q 0 σ3)
  else (if x4 = x3 then
  (Q 0 σ3)
  else (vp_in x1 60 ∧
  (if (σ3 9 (ix x1)) = 1 then
  (vp_in x1 60 ∧
  (if (σ3 15 (ix x1)) = 0 then
  (Q 0 σ3)
  else (vp_in x1 60 ∧
  (if x5 < (σ3 14 (ix x1)) then
  (Q 0 σ3)
  else (vp_in x1 60 ∧
  (if (σ3 16 (ix x1)) = 0 then
  (wp_X6_inside σ3 x1 (fun y6 σ5 =>
  if 0 < y6 then
  (Q 0 σ5)
  else (∃ n9 : Nat, lp_X6_isDestroyed_85 Q n9 x1 0 σ5)))
  else (Q 0 σ3)))))))
  else (Q 0 σ3))))))))
theorem c_X6_isDestroyed  {σ : St} {x1 : Int32} {x2 : Int32} {x3 : Int32} {x4 : Int32} {x5 : Int32} {Q : Int32 → St → Prop} (h : wp_X6_isDestroyed σ x1 x2 x3 x4 x5 Q) : ctI l yX6_isDestroyed cX6_isDestroyed 7 (some .boolean) rm_X6_isDestroyed D (wM cI cZ a) (tyW cI cZ cH) [.ref (a 0), .int x1, .int x2, .int x3, .int x4, .int x5] σ (fun r9 u9 => isB r9 ∧ Q r9 u9) := by
  refine mk_I (wM_ok cI cZ a) (by decide +kernel) (Nat.le_of_ble_eq_true rfl) (fun p e s m args below meth c A X hr9 hlk9 => ?_)
  refine r_pick (lv' := [(0, .ref (a 0)), (1, .int x1), (2, .int x2), (3, .int x3), (4, .int x4), (5, .int x5)]) [0, 1, 2, 3, 4, 5] rfl ?_
  delta wp_X6_isDestroyed at h
  refine r_aload_n X 0 1 dX6_isDestroyed_0 rfl rfl rfl ?_
  refine r_iload_n X 2 2 dX6_isDestroyed_1 rfl rfl rfl ?_
  refine r_iload_n X 3 3 dX6_isDestroyed_2 rfl rfl rfl ?_
  refine r_iconst (v := 1) X 4 dX6_isDestroyed_3 (by decide) rfl ?_
  refine r_callI (As := [.int x2, .int x3, .int 1]) (rest := []) X 7 (c_X6_hasKeepers h) ml_X6_139 lk_X6_hasKeepers wM_at_0 rfl rfl rfl (Nat.le_of_ble_eq_true rfl) ⟨rfl, rfl, ⟨Nat.le_of_ble_eq_true rfl, Nat.le_of_ble_eq_true rfl⟩, Nat.le_of_ble_eq_true rfl, Nat.le_of_ble_eq_true rfl⟩ dX6_isDestroyed_4 rfl (fun y2 σ1 h => ?_)
  obtain ⟨hb_y2, h⟩ := h
  refine r_if_eq X 31 10 h dX6_isDestroyed_7 rfl rfl (fun h => ?_) (fun h => ?_)
  · refine r_iconst (v := 0) X 32 dX6_isDestroyed_31 (by decide) rfl ?_
    exact r_zret X hr9 hlk9 isB_0 h dX6_isDestroyed_32
  · refine r_aload_n X 0 11 dX6_isDestroyed_10 rfl rfl rfl ?_
    refine r_iload X 4 13 dX6_isDestroyed_11 rfl rfl ?_
    refine r_callI (As := [.int x4]) (rest := []) X 16 (c_X6_isHand h) ml_X6_143 lk_X6_isHand wM_at_0 rfl rfl rfl (Nat.le_of_ble_eq_true rfl) ⟨rfl, rfl, ⟨Nat.le_of_ble_eq_true rfl, Nat.le_of_ble_eq_true rfl⟩, Nat.le_of_ble_eq_true rfl, Nat.le_of_ble_eq_true rfl⟩ dX6_isDestroyed_13 rfl (fun y4 σ3 h => ?_)
    obtain ⟨hb_y4, h⟩ := h
    refine r_if_eq X 31 19 h dX6_isDestroyed_16 rfl rfl (fun h => ?_) (fun h => ?_)
    · refine r_iconst (v := 0) X 32 dX6_isDestroyed_31 (by decide) rfl ?_
      exact r_zret X hr9 hlk9 isB_0 h dX6_isDestroyed_32
    · refine r_iload X 4 21 dX6_isDestroyed_19 rfl rfl ?_
      refine r_iload_n X 2 22 dX6_isDestroyed_21 rfl rfl rfl ?_
      refine r_icmp_eq X 31 25 h dX6_isDestroyed_22 rfl rfl (fun h => ?_) (fun h => ?_)
      · refine r_iconst (v := 0) X 32 dX6_isDestroyed_31 (by decide) rfl ?_
        exact r_zret X hr9 hlk9 isB_0 h dX6_isDestroyed_32
      · refine r_iload X 4 27 dX6_isDestroyed_25 rfl rfl ?_
        refine r_iload_n X 3 28 dX6_isDestroyed_27 rfl rfl rfl ?_
        refine r_icmp_ne X 33 31 h dX6_isDestroyed_28 rfl rfl (fun h => ?_) (fun h => ?_)
        · refine r_aload_n X 0 34 dX6_isDestroyed_33 rfl rfl rfl ?_
          refine g_X6_45 X 37 dX6_isDestroyed_34 rfl ?_
          refine r_iload_n X 1 38 dX6_isDestroyed_37 rfl rfl rfl ?_
          obtain ⟨hin, h⟩ := h
          refine l_M9 X 39 hin dX6_isDestroyed_38 rfl ?_
          refine r_iconst (v := 1) X 40 dX6_isDestroyed_39 (by decide) rfl ?_
          refine r_icmp_ne X 80 43 h dX6_isDestroyed_40 rfl rfl (fun h => ?_) (fun h => ?_)
          · refine r_iconst (v := 0) X 81 dX6_isDestroyed_80 (by decide) rfl ?_
            exact r_zret X hr9 hlk9 isB_0 h dX6_isDestroyed_81
          · refine r_aload_n X 0 44 dX6_isDestroyed_43 rfl rfl rfl ?_
            refine g_X6_63 X 47 dX6_isDestroyed_44 rfl ?_
            refine r_iload_n X 1 48 dX6_isDestroyed_47 rfl rfl rfl ?_
            obtain ⟨hin, h⟩ := h
            refine l_M15 X 49 hin dX6_isDestroyed_48 rfl ?_
            refine r_if_eq X 80 52 h dX6_isDestroyed_49 rfl rfl (fun h => ?_) (fun h => ?_)
            · refine r_iconst (v := 0) X 81 dX6_isDestroyed_80 (by decide) rfl ?_
              exact r_zret X hr9 hlk9 isB_0 h dX6_isDestroyed_81
            · refine r_aload_n X 0 53 dX6_isDestroyed_52 rfl rfl rfl ?_
              refine g_X6_60 X 56 dX6_isDestroyed_53 rfl ?_
              refine r_iload_n X 1 57 dX6_isDestroyed_56 rfl rfl rfl ?_
              obtain ⟨hin, h⟩ := h
              refine l_M14 X 58 hin dX6_isDestroyed_57 rfl ?_
              refine r_iload X 5 60 dX6_isDestroyed_58 rfl rfl ?_
              refine r_icmp_gt X 80 63 h dX6_isDestroyed_60 rfl rfl (fun h => ?_) (fun h => ?_)
              · refine r_iconst (v := 0) X 81 dX6_isDestroyed_80 (by decide) rfl ?_
                exact r_zret X hr9 hlk9 isB_0 h dX6_isDestroyed_81
              · refine r_aload_n X 0 64 dX6_isDestroyed_63 rfl rfl rfl ?_
                refine g_X6_66 X 67 dX6_isDestroyed_64 rfl ?_
                refine r_iload_n X 1 68 dX6_isDestroyed_67 rfl rfl rfl ?_
                obtain ⟨hin, h⟩ := h
                refine l_M16 X 69 hin dX6_isDestroyed_68 rfl ?_
                refine r_if_ne X 80 72 h dX6_isDestroyed_69 rfl rfl (fun h => ?_) (fun h => ?_)
                · refine r_iconst (v := 0) X 81 dX6_isDestroyed_80 (by decide) rfl ?_
                  exact r_zret X hr9 hlk9 isB_0 h dX6_isDestroyed_81
                · refine r_aload_n X 0 73 dX6_isDestroyed_72 rfl rfl rfl ?_
                  refine r_iload_n X 1 74 dX6_isDestroyed_73 rfl rfl rfl ?_
                  refine r_callI (As := [.int x1]) (rest := []) X 77 (c_X6_inside h) ml_X6_168 lk_X6_inside wM_at_0 rfl rfl rfl (Nat.le_of_ble_eq_true rfl) ⟨rfl, rfl, ⟨Nat.le_of_ble_eq_true rfl, Nat.le_of_ble_eq_true rfl⟩, Nat.le_of_ble_eq_true rfl, Nat.le_of_ble_eq_true rfl⟩ dX6_isDestroyed_74 rfl (fun y6 σ5 h => ?_)
                  refine r_if_le X 82 80 h dX6_isDestroyed_77 rfl rfl (fun h => ?_) (fun h => ?_)
                  · refine r_iconst (v := 0) X 83 dX6_isDestroyed_82 (by decide) rfl ?_
                    refine r_istore X 85 [(6, .int 0), (0, .ref (a 0)), (1, .int x1), (2, .int x2), (3, .int x3), (4, .int x4), (5, .int x5)] dX6_isDestroyed_83 (by decide) rfl rfl ?_
                    refine r_pick (lv' := [(0, .ref (a 0)), (1, .int x1), (6, .int 0)]) [1, 2, 0] rfl ?_
                    obtain ⟨n9, h⟩ := h
                    exact wk_X6_isDestroyed_85 X hr9 hlk9 n9 h
                  · refine r_iconst (v := 0) X 81 dX6_isDestroyed_80 (by decide) rfl ?_
                    exact r_zret X hr9 hlk9 isB_0 h dX6_isDestroyed_81
        · refine r_iconst (v := 0) X 32 dX6_isDestroyed_31 (by decide) rfl ?_
          exact r_zret X hr9 hlk9 isB_0 h dX6_isDestroyed_32
def rm_X6_isFound : Room := { frames := 3, cells := 0, slots := 0, locals := 66 }
theorem dX6_isFound_0 : decode cX6_isFound 0 = .ok (.iload_n 2, 1) := by decide +kernel
theorem dX6_isFound_1 : decode cX6_isFound 1 = .ok (.iconst (-1), 1) := by decide +kernel
theorem dX6_isFound_2 : decode cX6_isFound 2 = .ok (.if_icmp .eq 48, 3) := by decide +kernel
theorem dX6_isFound_5 : decode cX6_isFound 5 = .ok (.iload_n 3, 1) := by decide +kernel
theorem dX6_isFound_6 : decode cX6_isFound 6 = .ok (.iconst (-1), 1) := by decide +kernel
theorem dX6_isFound_7 : decode cX6_isFound 7 = .ok (.if_icmp .ne 43, 3) := by decide +kernel
theorem dX6_isFound_10 : decode cX6_isFound 10 = .ok (.aload_n 0, 1) := by decide +kernel
theorem dX6_isFound_11 : decode cX6_isFound 11 = .ok (.getfield 45, 3) := by decide +kernel
theorem dX6_isFound_14 : decode cX6_isFound 14 = .ok (.iload_n 1, 1) := by decide +kernel
theorem dX6_isFound_15 : decode cX6_isFound 15 = .ok (.iaload, 1) := by decide +kernel
theorem dX6_isFound_16 : decode cX6_isFound 16 = .ok (.iconst 1, 1) := by decide +kernel
theorem dX6_isFound_17 : decode cX6_isFound 17 = .ok (.if_icmp .ne 13, 3) := by decide +kernel
theorem dX6_isFound_20 : decode cX6_isFound 20 = .ok (.aload_n 0, 1) := by decide +kernel
theorem dX6_isFound_21 : decode cX6_isFound 21 = .ok (.getfield 48, 3) := by decide +kernel
theorem dX6_isFound_24 : decode cX6_isFound 24 = .ok (.iload_n 1, 1) := by decide +kernel
theorem dX6_isFound_25 : decode cX6_isFound 25 = .ok (.iaload, 1) := by decide +kernel
theorem dX6_isFound_26 : decode cX6_isFound 26 = .ok (.iload_n 2, 1) := by decide +kernel
theorem dX6_isFound_27 : decode cX6_isFound 27 = .ok (.if_icmp .eq 12, 3) := by decide +kernel
theorem dX6_isFound_30 : decode cX6_isFound 30 = .ok (.aload_n 0, 1) := by decide +kernel
theorem dX6_isFound_31 : decode cX6_isFound 31 = .ok (.iload_n 1, 1) := by decide +kernel
theorem dX6_isFound_32 : decode cX6_isFound 32 = .ok (.iload_n 2, 1) := by decide +kernel
theorem dX6_isFound_33 : decode cX6_isFound 33 = .ok (.invokevirtual 146, 3) := by decide +kernel
theorem dX6_isFound_36 : decode cX6_isFound 36 = .ok (.ifCond .ne 5, 3) := by decide +kernel
theorem dX6_isFound_39 : decode cX6_isFound 39 = .ok (.iconst 0, 1) := by decide +kernel
theorem dX6_isFound_40 : decode cX6_isFound 40 = .ok (.ireturn, 1) := by decide +kernel
theorem dX6_isFound_41 : decode cX6_isFound 41 = .ok (.aload_n 0, 1) := by decide +kernel
theorem dX6_isFound_42 : decode cX6_isFound 42 = .ok (.iload_n 1, 1) := by decide +kernel
theorem dX6_isFound_43 : decode cX6_isFound 43 = .ok (.iconst 1, 1) := by decide +kernel
theorem dX6_isFound_44 : decode cX6_isFound 44 = .ok (.iload_n 2, 1) := by decide +kernel
theorem dX6_isFound_45 : decode cX6_isFound 45 = .ok (.invokevirtual 150, 3) := by decide +kernel
theorem dX6_isFound_48 : decode cX6_isFound 48 = .ok (.iconst 1, 1) := by decide +kernel
theorem dX6_isFound_49 : decode cX6_isFound 49 = .ok (.ireturn, 1) := by decide +kernel
theorem dX6_isFound_50 : decode cX6_isFound 50 = .ok (.iload_n 2, 1) := by decide +kernel
theorem dX6_isFound_51 : decode cX6_isFound 51 = .ok (.iconst (-1), 1) := by decide +kernel
theorem dX6_isFound_52 : decode cX6_isFound 52 = .ok (.if_icmp .ne 31, 3) := by decide +kernel
theorem dX6_isFound_55 : decode cX6_isFound 55 = .ok (.aload_n 0, 1) := by decide +kernel
theorem dX6_isFound_56 : decode cX6_isFound 56 = .ok (.iload_n 3, 1) := by decide +kernel
theorem dX6_isFound_57 : decode cX6_isFound 57 = .ok (.invokevirtual 143, 3) := by decide +kernel
theorem dX6_isFound_60 : decode cX6_isFound 60 = .ok (.ifCond .eq 23, 3) := by decide +kernel
theorem dX6_isFound_63 : decode cX6_isFound 63 = .ok (.aload_n 0, 1) := by decide +kernel
theorem dX6_isFound_64 : decode cX6_isFound 64 = .ok (.getfield 45, 3) := by decide +kernel
theorem dX6_isFound_67 : decode cX6_isFound 67 = .ok (.iload_n 1, 1) := by decide +kernel
theorem dX6_isFound_68 : decode cX6_isFound 68 = .ok (.iaload, 1) := by decide +kernel
theorem dX6_isFound_69 : decode cX6_isFound 69 = .ok (.iconst 2, 1) := by decide +kernel
theorem dX6_isFound_70 : decode cX6_isFound 70 = .ok (.if_icmp .ne 15, 3) := by decide +kernel
theorem dX6_isFound_73 : decode cX6_isFound 73 = .ok (.aload_n 0, 1) := by decide +kernel
theorem dX6_isFound_74 : decode cX6_isFound 74 = .ok (.getfield 48, 3) := by decide +kernel
theorem dX6_isFound_77 : decode cX6_isFound 77 = .ok (.iload_n 1, 1) := by decide +kernel
theorem dX6_isFound_78 : decode cX6_isFound 78 = .ok (.iaload, 1) := by decide +kernel
theorem dX6_isFound_79 : decode cX6_isFound 79 = .ok (.iload_n 3, 1) := by decide +kernel
theorem dX6_isFound_80 : decode cX6_isFound 80 = .ok (.if_icmp .ne 5, 3) := by decide +kernel
theorem dX6_isFound_83 : decode cX6_isFound 83 = .ok (.iconst 0, 1) := by decide +kernel
theorem dX6_isFound_84 : decode cX6_isFound 84 = .ok (.ireturn, 1) := by decide +kernel
theorem dX6_isFound_85 : decode cX6_isFound 85 = .ok (.aload_n 0, 1) := by decide +kernel
theorem dX6_isFound_86 : decode cX6_isFound 86 = .ok (.iload_n 1, 1) := by decide +kernel
theorem dX6_isFound_87 : decode cX6_isFound 87 = .ok (.iconst 2, 1) := by decide +kernel
theorem dX6_isFound_88 : decode cX6_isFound 88 = .ok (.iload_n 3, 1) := by decide +kernel
theorem dX6_isFound_89 : decode cX6_isFound 89 = .ok (.invokevirtual 150, 3) := by decide +kernel
theorem dX6_isFound_92 : decode cX6_isFound 92 = .ok (.iconst 1, 1) := by decide +kernel
theorem dX6_isFound_93 : decode cX6_isFound 93 = .ok (.ireturn, 1) := by decide +kernel
def j_X6_isFound_85  (Q : Int32 → St → Prop) (v1 : Int32) (v3 : Int32) (σ : St) : Prop :=
  wp_X6_go σ v1 2 v3 (fun σ3 =>
  Q 1 σ3)
theorem wk_X6_isFound_85 (X : cx p s m args c cX6_isFound 4 RX6 D (wM cI cZ a) A (tyW cI cZ cH)) (hr9 : meth.sig.returnType = (some .boolean)) (hlk9 : meth.locks = false)  {Q : Int32 → St → Prop} {v1 : Int32} {v3 : Int32} {σ : St} (h : j_X6_isFound_85 Q v1 v3 σ) : go p l e rm_X6_isFound s m args below meth c D (wM cI cZ a) A 0 0 (MQ below (va_Qi (fun r9 u9 => isB r9 ∧ Q r9 u9) (atw D (wM cI cZ a) (tyW cI cZ cH) A) A) args s 0 0 A) 4 85 [(0, .ref (a 0)), (1, .int v1), (3, .int v3)] [] σ := by
  delta j_X6_isFound_85 at h
  refine r_aload_n X 0 86 dX6_isFound_85 rfl rfl rfl ?_
  refine r_iload_n X 1 87 dX6_isFound_86 rfl rfl rfl ?_
  refine r_iconst (v := 2) X 88 dX6_isFound_87 (by decide) rfl ?_
  refine r_iload_n X 2 89 dX6_isFound_88 rfl rfl rfl ?_
  refine r_callV (As := [.int v1, .int 2, .int v3]) (rest := []) X 92 (c_X6_go h) ml_X6_150 lk_X6_go wM_at_0 rfl rfl rfl (Nat.le_of_ble_eq_true rfl) ⟨rfl, rfl, ⟨Nat.le_of_ble_eq_true rfl, Nat.le_of_ble_eq_true rfl⟩, Nat.le_of_ble_eq_true rfl, Nat.le_of_ble_eq_true rfl⟩ dX6_isFound_89 rfl (fun σ3 h => ?_)
  refine r_iconst (v := 1) X 93 dX6_isFound_92 (by decide) rfl ?_
  exact r_zret X hr9 hlk9 isB_1 h dX6_isFound_93
def j_X6_isFound_50  (Q : Int32 → St → Prop) (v1 : Int32) (v2 : Int32) (v3 : Int32) (σ : St) : Prop :=
  if v2 = (-1) then
  (wp_X6_isHand σ v3 (fun y2 σ1 =>
  if y2 = 0 then
  (Q 0 σ1)
  else (vp_in v1 60 ∧
  (if (σ1 9 (ix v1)) = 2 then
  (vp_in v1 60 ∧
  (if (σ1 10 (ix v1)) = v3 then
  (Q 0 σ1)
  else (j_X6_isFound_85 Q v1 v3 σ1)))
  else (j_X6_isFound_85 Q v1 v3 σ1)))))
  else (Q 0 σ)
theorem wk_X6_isFound_50 (X : cx p s m args c cX6_isFound 4 RX6 D (wM cI cZ a) A (tyW cI cZ cH)) (hr9 : meth.sig.returnType = (some .boolean)) (hlk9 : meth.locks = false)  {Q : Int32 → St → Prop} {v1 : Int32} {v2 : Int32} {v3 : Int32} {σ : St} (h : j_X6_isFound_50 Q v1 v2 v3 σ) : go p l e rm_X6_isFound s m args below meth c D (wM cI cZ a) A 0 0 (MQ below (va_Qi (fun r9 u9 => isB r9 ∧ Q r9 u9) (atw D (wM cI cZ a) (tyW cI cZ cH) A) A) args s 0 0 A) 4 50 [(0, .ref (a 0)), (1, .int v1), (2, .int v2), (3, .int v3)] [] σ := by
  delta j_X6_isFound_50 at h
  refine r_iload_n X 2 51 dX6_isFound_50 rfl rfl rfl ?_
  refine r_iconst (v := (-1)) X 52 dX6_isFound_51 (by decide) rfl ?_
  refine r_icmp_ne X 83 55 h dX6_isFound_52 rfl rfl (fun h => ?_) (fun h => ?_)
  · refine r_iconst (v := 0) X 84 dX6_isFound_83 (by decide) rfl ?_
    exact r_zret X hr9 hlk9 isB_0 h dX6_isFound_84
  · refine r_aload_n X 0 56 dX6_isFound_55 rfl rfl rfl ?_
    refine r_iload_n X 3 57 dX6_isFound_56 rfl rfl rfl ?_
    refine r_callI (As := [.int v3]) (rest := []) X 60 (c_X6_isHand h) ml_X6_143 lk_X6_isHand wM_at_0 rfl rfl rfl (Nat.le_of_ble_eq_true rfl) ⟨rfl, rfl, ⟨Nat.le_of_ble_eq_true rfl, Nat.le_of_ble_eq_true rfl⟩, Nat.le_of_ble_eq_true rfl, Nat.le_of_ble_eq_true rfl⟩ dX6_isFound_57 rfl (fun y2 σ1 h => ?_)
    obtain ⟨hb_y2, h⟩ := h
    refine r_if_eq X 83 63 h dX6_isFound_60 rfl rfl (fun h => ?_) (fun h => ?_)
    · refine r_iconst (v := 0) X 84 dX6_isFound_83 (by decide) rfl ?_
      exact r_zret X hr9 hlk9 isB_0 h dX6_isFound_84
    · refine r_aload_n X 0 64 dX6_isFound_63 rfl rfl rfl ?_
      refine g_X6_45 X 67 dX6_isFound_64 rfl ?_
      refine r_iload_n X 1 68 dX6_isFound_67 rfl rfl rfl ?_
      obtain ⟨hin, h⟩ := h
      refine l_M9 X 69 hin dX6_isFound_68 rfl ?_
      refine r_iconst (v := 2) X 70 dX6_isFound_69 (by decide) rfl ?_
      refine r_icmp_ne X 85 73 h dX6_isFound_70 rfl rfl (fun h => ?_) (fun h => ?_)
      · refine r_pick (lv' := [(0, .ref (a 0)), (1, .int v1), (3, .int v3)]) [0, 1, 3] rfl ?_
        exact wk_X6_isFound_85 X hr9 hlk9 h
      · refine r_aload_n X 0 74 dX6_isFound_73 rfl rfl rfl ?_
        refine g_X6_48 X 77 dX6_isFound_74 rfl ?_
        refine r_iload_n X 1 78 dX6_isFound_77 rfl rfl rfl ?_
        obtain ⟨hin, h⟩ := h
        refine l_M10 X 79 hin dX6_isFound_78 rfl ?_
        refine r_iload_n X 3 80 dX6_isFound_79 rfl rfl rfl ?_
        refine r_icmp_ne X 85 83 h dX6_isFound_80 rfl rfl (fun h => ?_) (fun h => ?_)
        · refine r_pick (lv' := [(0, .ref (a 0)), (1, .int v1), (3, .int v3)]) [0, 1, 3] rfl ?_
          exact wk_X6_isFound_85 X hr9 hlk9 h
        · refine r_iconst (v := 0) X 84 dX6_isFound_83 (by decide) rfl ?_
          exact r_zret X hr9 hlk9 isB_0 h dX6_isFound_84
def j_X6_isFound_30  (Q : Int32 → St → Prop) (v1 : Int32) (v2 : Int32) (σ : St) : Prop :=
  wp_X6_fits σ v1 v2 (fun y5 σ4 =>
  if y5 = 0 then
  (Q 0 σ4)
  else (wp_X6_go σ4 v1 1 v2 (fun σ6 =>
  Q 1 σ6)))
theorem wk_X6_isFound_30 (X : cx p s m args c cX6_isFound 4 RX6 D (wM cI cZ a) A (tyW cI cZ cH)) (hr9 : meth.sig.returnType = (some .boolean)) (hlk9 : meth.locks = false)  {Q : Int32 → St → Prop} {v1 : Int32} {v2 : Int32} {σ : St} (h : j_X6_isFound_30 Q v1 v2 σ) : go p l e rm_X6_isFound s m args below meth c D (wM cI cZ a) A 0 0 (MQ below (va_Qi (fun r9 u9 => isB r9 ∧ Q r9 u9) (atw D (wM cI cZ a) (tyW cI cZ cH) A) A) args s 0 0 A) 4 30 [(0, .ref (a 0)), (1, .int v1), (2, .int v2)] [] σ := by
  delta j_X6_isFound_30 at h
  refine r_aload_n X 0 31 dX6_isFound_30 rfl rfl rfl ?_
  refine r_iload_n X 1 32 dX6_isFound_31 rfl rfl rfl ?_
  refine r_iload_n X 2 33 dX6_isFound_32 rfl rfl rfl ?_
  refine r_callI (As := [.int v1, .int v2]) (rest := []) X 36 (c_X6_fits h) ml_X6_146 lk_X6_fits wM_at_0 rfl rfl rfl (Nat.le_of_ble_eq_true rfl) ⟨rfl, rfl, ⟨Nat.le_of_ble_eq_true rfl, Nat.le_of_ble_eq_true rfl⟩, Nat.le_of_ble_eq_true rfl, Nat.le_of_ble_eq_true rfl⟩ dX6_isFound_33 rfl (fun y5 σ4 h => ?_)
  obtain ⟨hb_y5, h⟩ := h
  refine r_if_ne X 41 39 h dX6_isFound_36 rfl rfl (fun h => ?_) (fun h => ?_)
  · refine r_aload_n X 0 42 dX6_isFound_41 rfl rfl rfl ?_
    refine r_iload_n X 1 43 dX6_isFound_42 rfl rfl rfl ?_
    refine r_iconst (v := 1) X 44 dX6_isFound_43 (by decide) rfl ?_
    refine r_iload_n X 2 45 dX6_isFound_44 rfl rfl rfl ?_
    refine r_callV (As := [.int v1, .int 1, .int v2]) (rest := []) X 48 (c_X6_go h) ml_X6_150 lk_X6_go wM_at_0 rfl rfl rfl (Nat.le_of_ble_eq_true rfl) ⟨rfl, rfl, ⟨Nat.le_of_ble_eq_true rfl, Nat.le_of_ble_eq_true rfl⟩, Nat.le_of_ble_eq_true rfl, Nat.le_of_ble_eq_true rfl⟩ dX6_isFound_45 rfl (fun σ6 h => ?_)
    refine r_iconst (v := 1) X 49 dX6_isFound_48 (by decide) rfl ?_
    exact r_zret X hr9 hlk9 isB_1 h dX6_isFound_49
  · refine r_iconst (v := 0) X 40 dX6_isFound_39 (by decide) rfl ?_
    exact r_zret X hr9 hlk9 isB_0 h dX6_isFound_40
def wp_X6_isFound  (σ : St) (x1 : Int32) (x2 : Int32) (x3 : Int32) (Q : Int32 → St → Prop) : Prop :=
  if x2 = (-1) then
  (j_X6_isFound_50 Q x1 x2 x3 σ)
  else (if x3 = (-1) then
  (vp_in x1 60 ∧
  (if (σ 9 (ix x1)) = 1 then
  (vp_in x1 60 ∧
  (if (σ 10 (ix x1)) = x2 then
  (Q 0 σ)
  else (j_X6_isFound_30 Q x1 x2 σ)))
  else (j_X6_isFound_30 Q x1 x2 σ)))
  else (j_X6_isFound_50 Q x1 x2 x3 σ))
theorem c_X6_isFound  {σ : St} {x1 : Int32} {x2 : Int32} {x3 : Int32} {Q : Int32 → St → Prop} (h : wp_X6_isFound σ x1 x2 x3 Q) : ctI l yX6_isFound cX6_isFound 4 (some .boolean) rm_X6_isFound D (wM cI cZ a) (tyW cI cZ cH) [.ref (a 0), .int x1, .int x2, .int x3] σ (fun r9 u9 => isB r9 ∧ Q r9 u9) := by
  refine mk_I (wM_ok cI cZ a) (by decide +kernel) (Nat.le_of_ble_eq_true rfl) (fun p e s m args below meth c A X hr9 hlk9 => ?_)
  refine r_pick (lv' := [(0, .ref (a 0)), (1, .int x1), (2, .int x2), (3, .int x3)]) [0, 1, 2, 3] rfl ?_
  delta wp_X6_isFound at h
  refine r_iload_n X 2 1 dX6_isFound_0 rfl rfl rfl ?_
  refine r_iconst (v := (-1)) X 2 dX6_isFound_1 (by decide) rfl ?_
  refine r_icmp_eq X 50 5 h dX6_isFound_2 rfl rfl (fun h => ?_) (fun h => ?_)
  · refine r_pick (lv' := [(0, .ref (a 0)), (1, .int x1), (2, .int x2), (3, .int x3)]) [0, 1, 2, 3] rfl ?_
    exact wk_X6_isFound_50 X hr9 hlk9 h
  · refine r_iload_n X 3 6 dX6_isFound_5 rfl rfl rfl ?_
    refine r_iconst (v := (-1)) X 7 dX6_isFound_6 (by decide) rfl ?_
    refine r_icmp_ne X 50 10 h dX6_isFound_7 rfl rfl (fun h => ?_) (fun h => ?_)
    · refine r_pick (lv' := [(0, .ref (a 0)), (1, .int x1), (2, .int x2), (3, .int x3)]) [0, 1, 2, 3] rfl ?_
      exact wk_X6_isFound_50 X hr9 hlk9 h
    · refine r_aload_n X 0 11 dX6_isFound_10 rfl rfl rfl ?_
      refine g_X6_45 X 14 dX6_isFound_11 rfl ?_
      refine r_iload_n X 1 15 dX6_isFound_14 rfl rfl rfl ?_
      obtain ⟨hin, h⟩ := h
      refine l_M9 X 16 hin dX6_isFound_15 rfl ?_
      refine r_iconst (v := 1) X 17 dX6_isFound_16 (by decide) rfl ?_
      refine r_icmp_ne X 30 20 h dX6_isFound_17 rfl rfl (fun h => ?_) (fun h => ?_)
      · refine r_pick (lv' := [(0, .ref (a 0)), (1, .int x1), (2, .int x2)]) [0, 1, 2] rfl ?_
        exact wk_X6_isFound_30 X hr9 hlk9 h
      · refine r_aload_n X 0 21 dX6_isFound_20 rfl rfl rfl ?_
        refine g_X6_48 X 24 dX6_isFound_21 rfl ?_
        refine r_iload_n X 1 25 dX6_isFound_24 rfl rfl rfl ?_
        obtain ⟨hin, h⟩ := h
        refine l_M10 X 26 hin dX6_isFound_25 rfl ?_
        refine r_iload_n X 2 27 dX6_isFound_26 rfl rfl rfl ?_
        refine r_icmp_eq X 39 30 h dX6_isFound_27 rfl rfl (fun h => ?_) (fun h => ?_)
        · refine r_iconst (v := 0) X 40 dX6_isFound_39 (by decide) rfl ?_
          exact r_zret X hr9 hlk9 isB_0 h dX6_isFound_40
        · refine r_pick (lv' := [(0, .ref (a 0)), (1, .int x1), (2, .int x2)]) [0, 1, 2] rfl ?_
          exact wk_X6_isFound_30 X hr9 hlk9 h
def rm_X6_isDone : Room := { frames := 5, cells := 0, slots := 0, locals := 121 }
theorem dX6_isDone_0 : decode cX6_isDone 0 = .ok (.aload_n 1, 1) := by decide +kernel
theorem dX6_isDone_1 : decode cX6_isDone 1 = .ok (.bipush 8, 2) := by decide +kernel
theorem dX6_isDone_3 : decode cX6_isDone 3 = .ok (.iload_n 2, 1) := by decide +kernel
theorem dX6_isDone_4 : decode cX6_isDone 4 = .ok (.imul, 1) := by decide +kernel
theorem dX6_isDone_5 : decode cX6_isDone 5 = .ok (.iconst 1, 1) := by decide +kernel
theorem dX6_isDone_6 : decode cX6_isDone 6 = .ok (.iadd, 1) := by decide +kernel
theorem dX6_isDone_7 : decode cX6_isDone 7 = .ok (.iaload, 1) := by decide +kernel
theorem dX6_isDone_8 : decode cX6_isDone 8 = .ok (.istore_n 3, 1) := by decide +kernel
theorem dX6_isDone_9 : decode cX6_isDone 9 = .ok (.aload_n 1, 1) := by decide +kernel
theorem dX6_isDone_10 : decode cX6_isDone 10 = .ok (.bipush 8, 2) := by decide +kernel
theorem dX6_isDone_12 : decode cX6_isDone 12 = .ok (.iload_n 2, 1) := by decide +kernel
theorem dX6_isDone_13 : decode cX6_isDone 13 = .ok (.imul, 1) := by decide +kernel
theorem dX6_isDone_14 : decode cX6_isDone 14 = .ok (.iconst 2, 1) := by decide +kernel
theorem dX6_isDone_15 : decode cX6_isDone 15 = .ok (.iadd, 1) := by decide +kernel
theorem dX6_isDone_16 : decode cX6_isDone 16 = .ok (.iaload, 1) := by decide +kernel
theorem dX6_isDone_17 : decode cX6_isDone 17 = .ok (.istore 4, 2) := by decide +kernel
theorem dX6_isDone_19 : decode cX6_isDone 19 = .ok (.aload_n 1, 1) := by decide +kernel
theorem dX6_isDone_20 : decode cX6_isDone 20 = .ok (.bipush 8, 2) := by decide +kernel
theorem dX6_isDone_22 : decode cX6_isDone 22 = .ok (.iload_n 2, 1) := by decide +kernel
theorem dX6_isDone_23 : decode cX6_isDone 23 = .ok (.imul, 1) := by decide +kernel
theorem dX6_isDone_24 : decode cX6_isDone 24 = .ok (.iconst 3, 1) := by decide +kernel
theorem dX6_isDone_25 : decode cX6_isDone 25 = .ok (.iadd, 1) := by decide +kernel
theorem dX6_isDone_26 : decode cX6_isDone 26 = .ok (.iaload, 1) := by decide +kernel
theorem dX6_isDone_27 : decode cX6_isDone 27 = .ok (.istore 5, 2) := by decide +kernel
theorem dX6_isDone_29 : decode cX6_isDone 29 = .ok (.aload_n 1, 1) := by decide +kernel
theorem dX6_isDone_30 : decode cX6_isDone 30 = .ok (.bipush 8, 2) := by decide +kernel
theorem dX6_isDone_32 : decode cX6_isDone 32 = .ok (.iload_n 2, 1) := by decide +kernel
theorem dX6_isDone_33 : decode cX6_isDone 33 = .ok (.imul, 1) := by decide +kernel
theorem dX6_isDone_34 : decode cX6_isDone 34 = .ok (.iconst 4, 1) := by decide +kernel
theorem dX6_isDone_35 : decode cX6_isDone 35 = .ok (.iadd, 1) := by decide +kernel
theorem dX6_isDone_36 : decode cX6_isDone 36 = .ok (.iaload, 1) := by decide +kernel
theorem dX6_isDone_37 : decode cX6_isDone 37 = .ok (.istore 6, 2) := by decide +kernel
theorem dX6_isDone_39 : decode cX6_isDone 39 = .ok (.aload_n 1, 1) := by decide +kernel
theorem dX6_isDone_40 : decode cX6_isDone 40 = .ok (.bipush 8, 2) := by decide +kernel
theorem dX6_isDone_42 : decode cX6_isDone 42 = .ok (.iload_n 2, 1) := by decide +kernel
theorem dX6_isDone_43 : decode cX6_isDone 43 = .ok (.imul, 1) := by decide +kernel
theorem dX6_isDone_44 : decode cX6_isDone 44 = .ok (.iconst 5, 1) := by decide +kernel
theorem dX6_isDone_45 : decode cX6_isDone 45 = .ok (.iadd, 1) := by decide +kernel
theorem dX6_isDone_46 : decode cX6_isDone 46 = .ok (.iaload, 1) := by decide +kernel
theorem dX6_isDone_47 : decode cX6_isDone 47 = .ok (.istore 7, 2) := by decide +kernel
theorem dX6_isDone_49 : decode cX6_isDone 49 = .ok (.iload_n 3, 1) := by decide +kernel
theorem dX6_isDone_50 : decode cX6_isDone 50 = .ok (.iconst 0, 1) := by decide +kernel
theorem dX6_isDone_51 : decode cX6_isDone 51 = .ok (.aload_n 0, 1) := by decide +kernel
theorem dX6_isDone_52 : decode cX6_isDone 52 = .ok (.getfield 93, 3) := by decide +kernel
theorem dX6_isDone_55 : decode cX6_isDone 55 = .ok (.iconst 1, 1) := by decide +kernel
theorem dX6_isDone_56 : decode cX6_isDone 56 = .ok (.isub, 1) := by decide +kernel
theorem dX6_isDone_57 : decode cX6_isDone 57 = .ok (.invokestatic 96, 3) := by decide +kernel
theorem dX6_isDone_60 : decode cX6_isDone 60 = .ok (.ifCond .ne 5, 3) := by decide +kernel
theorem dX6_isDone_63 : decode cX6_isDone 63 = .ok (.iconst 0, 1) := by decide +kernel
theorem dX6_isDone_64 : decode cX6_isDone 64 = .ok (.ireturn, 1) := by decide +kernel
theorem dX6_isDone_65 : decode cX6_isDone 65 = .ok (.aload_n 1, 1) := by decide +kernel
theorem dX6_isDone_66 : decode cX6_isDone 66 = .ok (.bipush 8, 2) := by decide +kernel
theorem dX6_isDone_68 : decode cX6_isDone 68 = .ok (.iload_n 2, 1) := by decide +kernel
theorem dX6_isDone_69 : decode cX6_isDone 69 = .ok (.imul, 1) := by decide +kernel
theorem dX6_isDone_70 : decode cX6_isDone 70 = .ok (.iaload, 1) := by decide +kernel
theorem dX6_isDone_71 : decode cX6_isDone 71 = .ok (.istore 8, 2) := by decide +kernel
theorem dX6_isDone_73 : decode cX6_isDone 73 = .ok (.iload 8, 2) := by decide +kernel
theorem dX6_isDone_75 : decode cX6_isDone 75 = .ok (.iconst 1, 1) := by decide +kernel
theorem dX6_isDone_76 : decode cX6_isDone 76 = .ok (.if_icmp .ne 17, 3) := by decide +kernel
theorem dX6_isDone_79 : decode cX6_isDone 79 = .ok (.aload_n 0, 1) := by decide +kernel
theorem dX6_isDone_80 : decode cX6_isDone 80 = .ok (.iload_n 3, 1) := by decide +kernel
theorem dX6_isDone_81 : decode cX6_isDone 81 = .ok (.iload 4, 2) := by decide +kernel
theorem dX6_isDone_83 : decode cX6_isDone 83 = .ok (.iload 5, 2) := by decide +kernel
theorem dX6_isDone_85 : decode cX6_isDone 85 = .ok (.iload 6, 2) := by decide +kernel
theorem dX6_isDone_87 : decode cX6_isDone 87 = .ok (.iload 7, 2) := by decide +kernel
theorem dX6_isDone_89 : decode cX6_isDone 89 = .ok (.invokevirtual 116, 3) := by decide +kernel
theorem dX6_isDone_92 : decode cX6_isDone 92 = .ok (.ireturn, 1) := by decide +kernel
theorem dX6_isDone_93 : decode cX6_isDone 93 = .ok (.aload_n 0, 1) := by decide +kernel
theorem dX6_isDone_94 : decode cX6_isDone 94 = .ok (.iload_n 3, 1) := by decide +kernel
theorem dX6_isDone_95 : decode cX6_isDone 95 = .ok (.invokevirtual 113, 3) := by decide +kernel
theorem dX6_isDone_98 : decode cX6_isDone 98 = .ok (.ifCond .ne 5, 3) := by decide +kernel
theorem dX6_isDone_101 : decode cX6_isDone 101 = .ok (.iconst 0, 1) := by decide +kernel
theorem dX6_isDone_102 : decode cX6_isDone 102 = .ok (.ireturn, 1) := by decide +kernel
theorem dX6_isDone_103 : decode cX6_isDone 103 = .ok (.iload 8, 2) := by decide +kernel
theorem dX6_isDone_105 : decode cX6_isDone 105 = .ok (.bipush 8, 2) := by decide +kernel
theorem dX6_isDone_107 : decode cX6_isDone 107 = .ok (.if_icmp .ge 19, 3) := by decide +kernel
theorem dX6_isDone_110 : decode cX6_isDone 110 = .ok (.aload_n 0, 1) := by decide +kernel
theorem dX6_isDone_111 : decode cX6_isDone 111 = .ok (.iload 8, 2) := by decide +kernel
theorem dX6_isDone_113 : decode cX6_isDone 113 = .ok (.iload_n 3, 1) := by decide +kernel
theorem dX6_isDone_114 : decode cX6_isDone 114 = .ok (.iload 4, 2) := by decide +kernel
theorem dX6_isDone_116 : decode cX6_isDone 116 = .ok (.iload 5, 2) := by decide +kernel
theorem dX6_isDone_118 : decode cX6_isDone 118 = .ok (.iload 6, 2) := by decide +kernel
theorem dX6_isDone_120 : decode cX6_isDone 120 = .ok (.iload 7, 2) := by decide +kernel
theorem dX6_isDone_122 : decode cX6_isDone 122 = .ok (.invokevirtual 120, 3) := by decide +kernel
theorem dX6_isDone_125 : decode cX6_isDone 125 = .ok (.ireturn, 1) := by decide +kernel
theorem dX6_isDone_126 : decode cX6_isDone 126 = .ok (.iload 8, 2) := by decide +kernel
theorem dX6_isDone_128 : decode cX6_isDone 128 = .ok (.bipush 11, 2) := by decide +kernel
theorem dX6_isDone_130 : decode cX6_isDone 130 = .ok (.if_icmp .ge 17, 3) := by decide +kernel
theorem dX6_isDone_133 : decode cX6_isDone 133 = .ok (.aload_n 0, 1) := by decide +kernel
theorem dX6_isDone_134 : decode cX6_isDone 134 = .ok (.iload 8, 2) := by decide +kernel
theorem dX6_isDone_136 : decode cX6_isDone 136 = .ok (.iload_n 3, 1) := by decide +kernel
theorem dX6_isDone_137 : decode cX6_isDone 137 = .ok (.iload 4, 2) := by decide +kernel
theorem dX6_isDone_139 : decode cX6_isDone 139 = .ok (.iload 5, 2) := by decide +kernel
theorem dX6_isDone_141 : decode cX6_isDone 141 = .ok (.iload 6, 2) := by decide +kernel
theorem dX6_isDone_143 : decode cX6_isDone 143 = .ok (.invokevirtual 124, 3) := by decide +kernel
theorem dX6_isDone_146 : decode cX6_isDone 146 = .ok (.ireturn, 1) := by decide +kernel
theorem dX6_isDone_147 : decode cX6_isDone 147 = .ok (.iload 8, 2) := by decide +kernel
theorem dX6_isDone_149 : decode cX6_isDone 149 = .ok (.bipush 14, 2) := by decide +kernel
theorem dX6_isDone_151 : decode cX6_isDone 151 = .ok (.if_icmp .ge 19, 3) := by decide +kernel
theorem dX6_isDone_154 : decode cX6_isDone 154 = .ok (.aload_n 0, 1) := by decide +kernel
theorem dX6_isDone_155 : decode cX6_isDone 155 = .ok (.iload 8, 2) := by decide +kernel
theorem dX6_isDone_157 : decode cX6_isDone 157 = .ok (.iload_n 3, 1) := by decide +kernel
theorem dX6_isDone_158 : decode cX6_isDone 158 = .ok (.iload 4, 2) := by decide +kernel
theorem dX6_isDone_160 : decode cX6_isDone 160 = .ok (.iload 5, 2) := by decide +kernel
theorem dX6_isDone_162 : decode cX6_isDone 162 = .ok (.iload 6, 2) := by decide +kernel
theorem dX6_isDone_164 : decode cX6_isDone 164 = .ok (.iload 7, 2) := by decide +kernel
theorem dX6_isDone_166 : decode cX6_isDone 166 = .ok (.invokevirtual 127, 3) := by decide +kernel
theorem dX6_isDone_169 : decode cX6_isDone 169 = .ok (.ireturn, 1) := by decide +kernel
theorem dX6_isDone_170 : decode cX6_isDone 170 = .ok (.iload 8, 2) := by decide +kernel
theorem dX6_isDone_172 : decode cX6_isDone 172 = .ok (.bipush 18, 2) := by decide +kernel
theorem dX6_isDone_174 : decode cX6_isDone 174 = .ok (.if_icmp .ge 13, 3) := by decide +kernel
theorem dX6_isDone_177 : decode cX6_isDone 177 = .ok (.aload_n 0, 1) := by decide +kernel
theorem dX6_isDone_178 : decode cX6_isDone 178 = .ok (.iload 8, 2) := by decide +kernel
theorem dX6_isDone_180 : decode cX6_isDone 180 = .ok (.iload_n 3, 1) := by decide +kernel
theorem dX6_isDone_181 : decode cX6_isDone 181 = .ok (.iload 6, 2) := by decide +kernel
theorem dX6_isDone_183 : decode cX6_isDone 183 = .ok (.invokevirtual 130, 3) := by decide +kernel
theorem dX6_isDone_186 : decode cX6_isDone 186 = .ok (.ireturn, 1) := by decide +kernel
theorem dX6_isDone_187 : decode cX6_isDone 187 = .ok (.iload 8, 2) := by decide +kernel
theorem dX6_isDone_189 : decode cX6_isDone 189 = .ok (.bipush 18, 2) := by decide +kernel
theorem dX6_isDone_191 : decode cX6_isDone 191 = .ok (.if_icmp .ne 30, 3) := by decide +kernel
theorem dX6_isDone_194 : decode cX6_isDone 194 = .ok (.aload_n 0, 1) := by decide +kernel
theorem dX6_isDone_195 : decode cX6_isDone 195 = .ok (.iload_n 3, 1) := by decide +kernel
theorem dX6_isDone_196 : decode cX6_isDone 196 = .ok (.iload 4, 2) := by decide +kernel
theorem dX6_isDone_198 : decode cX6_isDone 198 = .ok (.iload 5, 2) := by decide +kernel
theorem dX6_isDone_200 : decode cX6_isDone 200 = .ok (.iload 6, 2) := by decide +kernel
theorem dX6_isDone_202 : decode cX6_isDone 202 = .ok (.aload_n 1, 1) := by decide +kernel
theorem dX6_isDone_203 : decode cX6_isDone 203 = .ok (.bipush 8, 2) := by decide +kernel
theorem dX6_isDone_205 : decode cX6_isDone 205 = .ok (.iload_n 2, 1) := by decide +kernel
theorem dX6_isDone_206 : decode cX6_isDone 206 = .ok (.imul, 1) := by decide +kernel
theorem dX6_isDone_207 : decode cX6_isDone 207 = .ok (.bipush 6, 2) := by decide +kernel
theorem dX6_isDone_209 : decode cX6_isDone 209 = .ok (.iadd, 1) := by decide +kernel
theorem dX6_isDone_210 : decode cX6_isDone 210 = .ok (.iaload, 1) := by decide +kernel
theorem dX6_isDone_211 : decode cX6_isDone 211 = .ok (.sipush 1440, 3) := by decide +kernel
theorem dX6_isDone_214 : decode cX6_isDone 214 = .ok (.idiv, 1) := by decide +kernel
theorem dX6_isDone_215 : decode cX6_isDone 215 = .ok (.invokevirtual 133, 3) := by decide +kernel
theorem dX6_isDone_218 : decode cX6_isDone 218 = .ok (.goto 12, 3) := by decide +kernel
theorem dX6_isDone_221 : decode cX6_isDone 221 = .ok (.aload_n 0, 1) := by decide +kernel
theorem dX6_isDone_222 : decode cX6_isDone 222 = .ok (.iload_n 3, 1) := by decide +kernel
theorem dX6_isDone_223 : decode cX6_isDone 223 = .ok (.iload 6, 2) := by decide +kernel
theorem dX6_isDone_225 : decode cX6_isDone 225 = .ok (.iload 7, 2) := by decide +kernel
theorem dX6_isDone_227 : decode cX6_isDone 227 = .ok (.invokevirtual 136, 3) := by decide +kernel
theorem dX6_isDone_230 : decode cX6_isDone 230 = .ok (.ireturn, 1) := by decide +kernel
def wp_X6_isDone (k : Nat) (σ : St) (x2 : Int32) (Q : Int32 → St → Prop) : Prop :=
  vp_in (((8 : Int32) * x2) + 1) 3208 ∧
  (nm ((σ k (ix (((8 : Int32) * x2) + 1)))) (fun z1 =>
  vp_in (((8 : Int32) * x2) + 2) 3208 ∧
  (nm ((σ k (ix (((8 : Int32) * x2) + 2)))) (fun z2 =>
  vp_in (((8 : Int32) * x2) + 3) 3208 ∧
  (nm ((σ k (ix (((8 : Int32) * x2) + 3)))) (fun z3 =>
  vp_in (((8 : Int32) * x2) + 4) 3208 ∧
  (nm ((σ k (ix (((8 : Int32) * x2) + 4)))) (fun z4 =>
  vp_in (((8 : Int32) * x2) + 5) 3208 ∧
  (nm ((σ k (ix (((8 : Int32) * x2) + 5)))) (fun z5 =>
  wp_X6_isIn σ z1 0 ((σ 0 2) - 1) (fun y7 σ6 =>
  if y7 = 0 then
  (Q 0 σ6)
  else (vp_in ((8 : Int32) * x2) 3208 ∧
  (nm ((σ6 k (ix ((8 : Int32) * x2)))) (fun z8 =>
  if z8 = 1 then
  (wp_X6_comesIn σ6 z1 z2 z3 z4 z5 (fun y24 σ23 =>
  Q y24 σ23))
  else (wp_X6_isKept σ6 z1 (fun y10 σ9 =>
  if y10 = 0 then
  (Q 0 σ9)
  else (if z8 < 8 then
  (wp_X6_moves σ9 z8 z1 z2 z3 z4 z5 (fun y22 σ21 =>
  Q y22 σ21))
  else (if z8 < 11 then
  (wp_X6_isSealing σ9 z8 z1 z2 z3 z4 (fun y20 σ19 =>
  Q y20 σ19))
  else (if z8 < 14 then
  (wp_X6_takes σ9 z8 z1 z2 z3 z4 z5 (fun y18 σ17 =>
  Q y18 σ17))
  else (if z8 < 18 then
  (wp_X6_orders σ9 z8 z1 z4 (fun y16 σ15 =>
  Q y16 σ15))
  else (if z8 = 18 then
  (vp_in (((8 : Int32) * x2) + 6) 3208 ∧
  (wp_X6_isDestroyed σ9 z1 z2 z3 z4 ((σ9 k (ix (((8 : Int32) * x2) + 6))) / 1440) (fun y14 σ13 =>
  Q y14 σ13)))
  else (wp_X6_isFound σ9 z1 z4 z5 (fun y12 σ11 =>
  Q y12 σ11)))))))))))))))))))))))
theorem c_X6_isDone {k : Nat} (hk : k = 6 ∨ k = 7) {σ : St} {x2 : Int32} {Q : Int32 → St → Prop} (h : wp_X6_isDone k σ x2 Q) : ctI l yX6_isDone cX6_isDone 9 (some .boolean) rm_X6_isDone D (wM cI cZ a) (tyW cI cZ cH) [.ref (a 0), .ref (a k), .int x2] σ (fun r9 u9 => isB r9 ∧ Q r9 u9) := by
  refine mk_I (wM_ok cI cZ a) (by decide +kernel) (Nat.le_of_ble_eq_true rfl) (fun p e s m args below meth c A X hr9 hlk9 => ?_)
  refine r_pick (lv' := [(0, .ref (a 0)), (1, .ref (a k)), (2, .int x2)]) [0, 1, 2] rfl ?_
  delta wp_X6_isDone at h
  refine r_aload_n X 1 1 dX6_isDone_0 rfl rfl rfl ?_
  refine r_bipush (v := 8) X 3 dX6_isDone_1 (by decide) rfl ?_
  refine r_iload_n X 2 4 dX6_isDone_3 rfl rfl rfl ?_
  refine r_imul X 5 dX6_isDone_4 rfl ?_
  refine r_iconst (v := 1) X 6 dX6_isDone_5 (by decide) rfl ?_
  refine r_iadd X 7 dX6_isDone_6 rfl ?_
  obtain ⟨hin, h⟩ := h
  refine l_Mk X hk 8 hin dX6_isDone_7 rfl ?_
  refine r_istore_nN X 9 (fun z1 => [(3, .int z1), (0, .ref (a 0)), (1, .ref (a k)), (2, .int x2)]) h dX6_isDone_8 rfl (by decide) (fun _ => rfl) rfl (fun z1 h => ?_)
  refine r_aload_n X 2 10 dX6_isDone_9 rfl rfl rfl ?_
  refine r_bipush (v := 8) X 12 dX6_isDone_10 (by decide) rfl ?_
  refine r_iload_n X 3 13 dX6_isDone_12 rfl rfl rfl ?_
  refine r_imul X 14 dX6_isDone_13 rfl ?_
  refine r_iconst (v := 2) X 15 dX6_isDone_14 (by decide) rfl ?_
  refine r_iadd X 16 dX6_isDone_15 rfl ?_
  obtain ⟨hin, h⟩ := h
  refine l_Mk X hk 17 hin dX6_isDone_16 rfl ?_
  refine r_istoreN X 19 (fun z2 => [(4, .int z2), (3, .int z1), (0, .ref (a 0)), (1, .ref (a k)), (2, .int x2)]) h dX6_isDone_17 (by decide) (fun _ => rfl) rfl (fun z2 h => ?_)
  refine r_aload_n X 3 20 dX6_isDone_19 rfl rfl rfl ?_
  refine r_bipush (v := 8) X 22 dX6_isDone_20 (by decide) rfl ?_
  refine r_iload_n X 4 23 dX6_isDone_22 rfl rfl rfl ?_
  refine r_imul X 24 dX6_isDone_23 rfl ?_
  refine r_iconst (v := 3) X 25 dX6_isDone_24 (by decide) rfl ?_
  refine r_iadd X 26 dX6_isDone_25 rfl ?_
  obtain ⟨hin, h⟩ := h
  refine l_Mk X hk 27 hin dX6_isDone_26 rfl ?_
  refine r_istoreN X 29 (fun z3 => [(5, .int z3), (4, .int z2), (3, .int z1), (0, .ref (a 0)), (1, .ref (a k)), (2, .int x2)]) h dX6_isDone_27 (by decide) (fun _ => rfl) rfl (fun z3 h => ?_)
  refine r_aload_n X 4 30 dX6_isDone_29 rfl rfl rfl ?_
  refine r_bipush (v := 8) X 32 dX6_isDone_30 (by decide) rfl ?_
  refine r_iload_n X 5 33 dX6_isDone_32 rfl rfl rfl ?_
  refine r_imul X 34 dX6_isDone_33 rfl ?_
  refine r_iconst (v := 4) X 35 dX6_isDone_34 (by decide) rfl ?_
  refine r_iadd X 36 dX6_isDone_35 rfl ?_
  obtain ⟨hin, h⟩ := h
  refine l_Mk X hk 37 hin dX6_isDone_36 rfl ?_
  refine r_istoreN X 39 (fun z4 => [(6, .int z4), (5, .int z3), (4, .int z2), (3, .int z1), (0, .ref (a 0)), (1, .ref (a k)), (2, .int x2)]) h dX6_isDone_37 (by decide) (fun _ => rfl) rfl (fun z4 h => ?_)
  refine r_aload_n X 5 40 dX6_isDone_39 rfl rfl rfl ?_
  refine r_bipush (v := 8) X 42 dX6_isDone_40 (by decide) rfl ?_
  refine r_iload_n X 6 43 dX6_isDone_42 rfl rfl rfl ?_
  refine r_imul X 44 dX6_isDone_43 rfl ?_
  refine r_iconst (v := 5) X 45 dX6_isDone_44 (by decide) rfl ?_
  refine r_iadd X 46 dX6_isDone_45 rfl ?_
  obtain ⟨hin, h⟩ := h
  refine l_Mk X hk 47 hin dX6_isDone_46 rfl ?_
  refine r_istoreN X 49 (fun z5 => [(7, .int z5), (6, .int z4), (5, .int z3), (4, .int z2), (3, .int z1), (0, .ref (a 0)), (1, .ref (a k)), (2, .int x2)]) h dX6_isDone_47 (by decide) (fun _ => rfl) rfl (fun z5 h => ?_)
  refine r_iload_n X 4 50 dX6_isDone_49 rfl rfl rfl ?_
  refine r_iconst (v := 0) X 51 dX6_isDone_50 (by decide) rfl ?_
  refine r_aload_n X 5 52 dX6_isDone_51 rfl rfl rfl ?_
  refine g_X6_93 X 55 dX6_isDone_52 rfl ?_
  refine r_iconst (v := 1) X 56 dX6_isDone_55 (by decide) rfl ?_
  refine r_isub X 57 dX6_isDone_56 rfl ?_
  refine r_callSI (As := [.int z1, .int 0, .int ((σ 0 2) - 1)]) (rest := []) X 60 (c_X6_isIn h) ml_X6_96 lk_X6_isIn sy_X6_isIn rfl rfl (Nat.le_of_ble_eq_true rfl) ⟨rfl, rfl, ⟨Nat.le_of_ble_eq_true rfl, Nat.le_of_ble_eq_true rfl⟩, Nat.le_of_ble_eq_true rfl, Nat.le_of_ble_eq_true rfl⟩ dX6_isDone_57 rfl (fun y7 σ6 h => ?_)
  obtain ⟨hb_y7, h⟩ := h
  refine r_if_ne X 65 63 h dX6_isDone_60 rfl rfl (fun h => ?_) (fun h => ?_)
  · refine r_aload_n X 6 66 dX6_isDone_65 rfl rfl rfl ?_
    refine r_bipush (v := 8) X 68 dX6_isDone_66 (by decide) rfl ?_
    refine r_iload_n X 7 69 dX6_isDone_68 rfl rfl rfl ?_
    refine r_imul X 70 dX6_isDone_69 rfl ?_
    obtain ⟨hin, h⟩ := h
    refine l_Mk X hk 71 hin dX6_isDone_70 rfl ?_
    refine r_istoreN X 73 (fun z8 => [(8, .int z8), (7, .int z5), (6, .int z4), (5, .int z3), (4, .int z2), (3, .int z1), (0, .ref (a 0)), (1, .ref (a k)), (2, .int x2)]) h dX6_isDone_71 (by decide) (fun _ => rfl) rfl (fun z8 h => ?_)
    refine r_iload X 0 75 dX6_isDone_73 rfl rfl ?_
    refine r_iconst (v := 1) X 76 dX6_isDone_75 (by decide) rfl ?_
    refine r_icmp_ne X 93 79 h dX6_isDone_76 rfl rfl (fun h => ?_) (fun h => ?_)
    · refine r_aload_n X 6 94 dX6_isDone_93 rfl rfl rfl ?_
      refine r_iload_n X 5 95 dX6_isDone_94 rfl rfl rfl ?_
      refine r_callI (As := [.int z1]) (rest := []) X 98 (c_X6_isKept h) ml_X6_113 lk_X6_isKept wM_at_0 rfl rfl rfl (Nat.le_of_ble_eq_true rfl) ⟨rfl, rfl, ⟨Nat.le_of_ble_eq_true rfl, Nat.le_of_ble_eq_true rfl⟩, Nat.le_of_ble_eq_true rfl, Nat.le_of_ble_eq_true rfl⟩ dX6_isDone_95 rfl (fun y10 σ9 h => ?_)
      obtain ⟨hb_y10, h⟩ := h
      refine r_if_ne X 103 101 h dX6_isDone_98 rfl rfl (fun h => ?_) (fun h => ?_)
      · refine r_iload X 0 105 dX6_isDone_103 rfl rfl ?_
        refine r_bipush (v := 8) X 107 dX6_isDone_105 (by decide) rfl ?_
        refine r_icmp_ge X 126 110 h dX6_isDone_107 rfl rfl (fun h => ?_) (fun h => ?_)
        · refine r_iload X 0 128 dX6_isDone_126 rfl rfl ?_
          refine r_bipush (v := 11) X 130 dX6_isDone_128 (by decide) rfl ?_
          refine r_icmp_ge X 147 133 h dX6_isDone_130 rfl rfl (fun h => ?_) (fun h => ?_)
          · refine r_iload X 0 149 dX6_isDone_147 rfl rfl ?_
            refine r_bipush (v := 14) X 151 dX6_isDone_149 (by decide) rfl ?_
            refine r_icmp_ge X 170 154 h dX6_isDone_151 rfl rfl (fun h => ?_) (fun h => ?_)
            · refine r_iload X 0 172 dX6_isDone_170 rfl rfl ?_
              refine r_bipush (v := 18) X 174 dX6_isDone_172 (by decide) rfl ?_
              refine r_icmp_ge X 187 177 h dX6_isDone_174 rfl rfl (fun h => ?_) (fun h => ?_)
              · refine r_iload X 0 189 dX6_isDone_187 rfl rfl ?_
                refine r_bipush (v := 18) X 191 dX6_isDone_189 (by decide) rfl ?_
                refine r_icmp_ne X 221 194 h dX6_isDone_191 rfl rfl (fun h => ?_) (fun h => ?_)
                · refine r_aload_n X 6 222 dX6_isDone_221 rfl rfl rfl ?_
                  refine r_iload_n X 5 223 dX6_isDone_222 rfl rfl rfl ?_
                  refine r_iload X 2 225 dX6_isDone_223 rfl rfl ?_
                  refine r_iload X 1 227 dX6_isDone_225 rfl rfl ?_
                  refine r_callI (As := [.int z1, .int z4, .int z5]) (rest := []) X 230 (c_X6_isFound h) ml_X6_136 lk_X6_isFound wM_at_0 rfl rfl rfl (Nat.le_of_ble_eq_true rfl) ⟨rfl, rfl, ⟨Nat.le_of_ble_eq_true rfl, Nat.le_of_ble_eq_true rfl⟩, Nat.le_of_ble_eq_true rfl, Nat.le_of_ble_eq_true rfl⟩ dX6_isDone_227 rfl (fun y12 σ11 h => ?_)
                  obtain ⟨hb_y12, h⟩ := h
                  exact r_zret X hr9 hlk9 hb_y12 h dX6_isDone_230
                · refine r_aload_n X 6 195 dX6_isDone_194 rfl rfl rfl ?_
                  refine r_iload_n X 5 196 dX6_isDone_195 rfl rfl rfl ?_
                  refine r_iload X 4 198 dX6_isDone_196 rfl rfl ?_
                  refine r_iload X 3 200 dX6_isDone_198 rfl rfl ?_
                  refine r_iload X 2 202 dX6_isDone_200 rfl rfl ?_
                  refine r_aload_n X 7 203 dX6_isDone_202 rfl rfl rfl ?_
                  refine r_bipush (v := 8) X 205 dX6_isDone_203 (by decide) rfl ?_
                  refine r_iload_n X 8 206 dX6_isDone_205 rfl rfl rfl ?_
                  refine r_imul X 207 dX6_isDone_206 rfl ?_
                  refine r_bipush (v := 6) X 209 dX6_isDone_207 (by decide) rfl ?_
                  refine r_iadd X 210 dX6_isDone_209 rfl ?_
                  obtain ⟨hin, h⟩ := h
                  refine l_Mk X hk 211 hin dX6_isDone_210 rfl ?_
                  refine r_sipush (v := 1440) X 214 dX6_isDone_211 (by decide) rfl ?_
                  refine r_idiv X 215 dX6_isDone_214 (by decide) rfl ?_
                  refine r_callI (As := [.int z1, .int z2, .int z3, .int z4, .int ((σ9 k (ix (((8 : Int32) * x2) + 6))) / 1440)]) (rest := []) X 218 (c_X6_isDestroyed h) ml_X6_133 lk_X6_isDestroyed wM_at_0 rfl rfl rfl (Nat.le_of_ble_eq_true rfl) ⟨rfl, rfl, ⟨Nat.le_of_ble_eq_true rfl, Nat.le_of_ble_eq_true rfl⟩, Nat.le_of_ble_eq_true rfl, Nat.le_of_ble_eq_true rfl⟩ dX6_isDone_215 rfl (fun y14 σ13 h => ?_)
                  obtain ⟨hb_y14, h⟩ := h
                  refine r_goto X 230 dX6_isDone_218 rfl ?_
                  exact r_zret X hr9 hlk9 hb_y14 h dX6_isDone_230
              · refine r_aload_n X 6 178 dX6_isDone_177 rfl rfl rfl ?_
                refine r_iload X 0 180 dX6_isDone_178 rfl rfl ?_
                refine r_iload_n X 5 181 dX6_isDone_180 rfl rfl rfl ?_
                refine r_iload X 2 183 dX6_isDone_181 rfl rfl ?_
                refine r_callI (As := [.int z8, .int z1, .int z4]) (rest := []) X 186 (c_X6_orders h) ml_X6_130 lk_X6_orders wM_at_0 rfl rfl rfl (Nat.le_of_ble_eq_true rfl) ⟨rfl, rfl, ⟨Nat.le_of_ble_eq_true rfl, Nat.le_of_ble_eq_true rfl⟩, Nat.le_of_ble_eq_true rfl, Nat.le_of_ble_eq_true rfl⟩ dX6_isDone_183 rfl (fun y16 σ15 h => ?_)
                obtain ⟨hb_y16, h⟩ := h
                exact r_zret X hr9 hlk9 hb_y16 h dX6_isDone_186
            · refine r_aload_n X 6 155 dX6_isDone_154 rfl rfl rfl ?_
              refine r_iload X 0 157 dX6_isDone_155 rfl rfl ?_
              refine r_iload_n X 5 158 dX6_isDone_157 rfl rfl rfl ?_
              refine r_iload X 4 160 dX6_isDone_158 rfl rfl ?_
              refine r_iload X 3 162 dX6_isDone_160 rfl rfl ?_
              refine r_iload X 2 164 dX6_isDone_162 rfl rfl ?_
              refine r_iload X 1 166 dX6_isDone_164 rfl rfl ?_
              refine r_callI (As := [.int z8, .int z1, .int z2, .int z3, .int z4, .int z5]) (rest := []) X 169 (c_X6_takes h) ml_X6_127 lk_X6_takes wM_at_0 rfl rfl rfl (Nat.le_of_ble_eq_true rfl) ⟨rfl, rfl, ⟨Nat.le_of_ble_eq_true rfl, Nat.le_of_ble_eq_true rfl⟩, Nat.le_of_ble_eq_true rfl, Nat.le_of_ble_eq_true rfl⟩ dX6_isDone_166 rfl (fun y18 σ17 h => ?_)
              obtain ⟨hb_y18, h⟩ := h
              exact r_zret X hr9 hlk9 hb_y18 h dX6_isDone_169
          · refine r_aload_n X 6 134 dX6_isDone_133 rfl rfl rfl ?_
            refine r_iload X 0 136 dX6_isDone_134 rfl rfl ?_
            refine r_iload_n X 5 137 dX6_isDone_136 rfl rfl rfl ?_
            refine r_iload X 4 139 dX6_isDone_137 rfl rfl ?_
            refine r_iload X 3 141 dX6_isDone_139 rfl rfl ?_
            refine r_iload X 2 143 dX6_isDone_141 rfl rfl ?_
            refine r_callI (As := [.int z8, .int z1, .int z2, .int z3, .int z4]) (rest := []) X 146 (c_X6_isSealing h) ml_X6_124 lk_X6_isSealing wM_at_0 rfl rfl rfl (Nat.le_of_ble_eq_true rfl) ⟨rfl, rfl, ⟨Nat.le_of_ble_eq_true rfl, Nat.le_of_ble_eq_true rfl⟩, Nat.le_of_ble_eq_true rfl, Nat.le_of_ble_eq_true rfl⟩ dX6_isDone_143 rfl (fun y20 σ19 h => ?_)
            obtain ⟨hb_y20, h⟩ := h
            exact r_zret X hr9 hlk9 hb_y20 h dX6_isDone_146
        · refine r_aload_n X 6 111 dX6_isDone_110 rfl rfl rfl ?_
          refine r_iload X 0 113 dX6_isDone_111 rfl rfl ?_
          refine r_iload_n X 5 114 dX6_isDone_113 rfl rfl rfl ?_
          refine r_iload X 4 116 dX6_isDone_114 rfl rfl ?_
          refine r_iload X 3 118 dX6_isDone_116 rfl rfl ?_
          refine r_iload X 2 120 dX6_isDone_118 rfl rfl ?_
          refine r_iload X 1 122 dX6_isDone_120 rfl rfl ?_
          refine r_callI (As := [.int z8, .int z1, .int z2, .int z3, .int z4, .int z5]) (rest := []) X 125 (c_X6_moves h) ml_X6_120 lk_X6_moves wM_at_0 rfl rfl rfl (Nat.le_of_ble_eq_true rfl) ⟨rfl, rfl, ⟨Nat.le_of_ble_eq_true rfl, Nat.le_of_ble_eq_true rfl⟩, Nat.le_of_ble_eq_true rfl, Nat.le_of_ble_eq_true rfl⟩ dX6_isDone_122 rfl (fun y22 σ21 h => ?_)
          obtain ⟨hb_y22, h⟩ := h
          exact r_zret X hr9 hlk9 hb_y22 h dX6_isDone_125
      · refine r_iconst (v := 0) X 102 dX6_isDone_101 (by decide) rfl ?_
        exact r_zret X hr9 hlk9 isB_0 h dX6_isDone_102
    · refine r_aload_n X 6 80 dX6_isDone_79 rfl rfl rfl ?_
      refine r_iload_n X 5 81 dX6_isDone_80 rfl rfl rfl ?_
      refine r_iload X 4 83 dX6_isDone_81 rfl rfl ?_
      refine r_iload X 3 85 dX6_isDone_83 rfl rfl ?_
      refine r_iload X 2 87 dX6_isDone_85 rfl rfl ?_
      refine r_iload X 1 89 dX6_isDone_87 rfl rfl ?_
      refine r_callI (As := [.int z1, .int z2, .int z3, .int z4, .int z5]) (rest := []) X 92 (c_X6_comesIn h) ml_X6_116 lk_X6_comesIn wM_at_0 rfl rfl rfl (Nat.le_of_ble_eq_true rfl) ⟨rfl, rfl, ⟨Nat.le_of_ble_eq_true rfl, Nat.le_of_ble_eq_true rfl⟩, Nat.le_of_ble_eq_true rfl, Nat.le_of_ble_eq_true rfl⟩ dX6_isDone_89 rfl (fun y24 σ23 h => ?_)
      obtain ⟨hb_y24, h⟩ := h
      exact r_zret X hr9 hlk9 hb_y24 h dX6_isDone_92
  · refine r_iconst (v := 0) X 64 dX6_isDone_63 (by decide) rfl ?_
    exact r_zret X hr9 hlk9 isB_0 h dX6_isDone_64
def rm_X6_sort : Room := { frames := 0, cells := 0, slots := 0, locals := 0 }
theorem dX6_sort_0 : decode cX6_sort 0 = .ok (.iconst 0, 1) := by decide +kernel
theorem dX6_sort_1 : decode cX6_sort 1 = .ok (.istore_n 3, 1) := by decide +kernel
theorem dX6_sort_2 : decode cX6_sort 2 = .ok (.iload_n 3, 1) := by decide +kernel
theorem dX6_sort_3 : decode cX6_sort 3 = .ok (.iload_n 2, 1) := by decide +kernel
theorem dX6_sort_4 : decode cX6_sort 4 = .ok (.if_icmp .ge 76, 3) := by decide +kernel
theorem dX6_sort_7 : decode cX6_sort 7 = .ok (.iload_n 3, 1) := by decide +kernel
theorem dX6_sort_8 : decode cX6_sort 8 = .ok (.istore 4, 2) := by decide +kernel
theorem dX6_sort_10 : decode cX6_sort 10 = .ok (.iload 4, 2) := by decide +kernel
theorem dX6_sort_12 : decode cX6_sort 12 = .ok (.ifCond .le 54, 3) := by decide +kernel
theorem dX6_sort_15 : decode cX6_sort 15 = .ok (.aload_n 1, 1) := by decide +kernel
theorem dX6_sort_16 : decode cX6_sort 16 = .ok (.bipush 8, 2) := by decide +kernel
theorem dX6_sort_18 : decode cX6_sort 18 = .ok (.aload_n 0, 1) := by decide +kernel
theorem dX6_sort_19 : decode cX6_sort 19 = .ok (.getfield 78, 3) := by decide +kernel
theorem dX6_sort_22 : decode cX6_sort 22 = .ok (.iload 4, 2) := by decide +kernel
theorem dX6_sort_24 : decode cX6_sort 24 = .ok (.iconst 1, 1) := by decide +kernel
theorem dX6_sort_25 : decode cX6_sort 25 = .ok (.isub, 1) := by decide +kernel
theorem dX6_sort_26 : decode cX6_sort 26 = .ok (.iaload, 1) := by decide +kernel
theorem dX6_sort_27 : decode cX6_sort 27 = .ok (.imul, 1) := by decide +kernel
theorem dX6_sort_28 : decode cX6_sort 28 = .ok (.bipush 6, 2) := by decide +kernel
theorem dX6_sort_30 : decode cX6_sort 30 = .ok (.iadd, 1) := by decide +kernel
theorem dX6_sort_31 : decode cX6_sort 31 = .ok (.iaload, 1) := by decide +kernel
theorem dX6_sort_32 : decode cX6_sort 32 = .ok (.aload_n 1, 1) := by decide +kernel
theorem dX6_sort_33 : decode cX6_sort 33 = .ok (.bipush 8, 2) := by decide +kernel
theorem dX6_sort_35 : decode cX6_sort 35 = .ok (.iload_n 3, 1) := by decide +kernel
theorem dX6_sort_36 : decode cX6_sort 36 = .ok (.imul, 1) := by decide +kernel
theorem dX6_sort_37 : decode cX6_sort 37 = .ok (.bipush 6, 2) := by decide +kernel
theorem dX6_sort_39 : decode cX6_sort 39 = .ok (.iadd, 1) := by decide +kernel
theorem dX6_sort_40 : decode cX6_sort 40 = .ok (.iaload, 1) := by decide +kernel
theorem dX6_sort_41 : decode cX6_sort 41 = .ok (.if_icmp .le 25, 3) := by decide +kernel
theorem dX6_sort_44 : decode cX6_sort 44 = .ok (.aload_n 0, 1) := by decide +kernel
theorem dX6_sort_45 : decode cX6_sort 45 = .ok (.getfield 78, 3) := by decide +kernel
theorem dX6_sort_48 : decode cX6_sort 48 = .ok (.iload 4, 2) := by decide +kernel
theorem dX6_sort_50 : decode cX6_sort 50 = .ok (.aload_n 0, 1) := by decide +kernel
theorem dX6_sort_51 : decode cX6_sort 51 = .ok (.getfield 78, 3) := by decide +kernel
theorem dX6_sort_54 : decode cX6_sort 54 = .ok (.iload 4, 2) := by decide +kernel
theorem dX6_sort_56 : decode cX6_sort 56 = .ok (.iconst 1, 1) := by decide +kernel
theorem dX6_sort_57 : decode cX6_sort 57 = .ok (.isub, 1) := by decide +kernel
theorem dX6_sort_58 : decode cX6_sort 58 = .ok (.iaload, 1) := by decide +kernel
theorem dX6_sort_59 : decode cX6_sort 59 = .ok (.iastore, 1) := by decide +kernel
theorem dX6_sort_60 : decode cX6_sort 60 = .ok (.iinc 4 (-1), 3) := by decide +kernel
theorem dX6_sort_63 : decode cX6_sort 63 = .ok (.goto (-53), 3) := by decide +kernel
theorem dX6_sort_66 : decode cX6_sort 66 = .ok (.aload_n 0, 1) := by decide +kernel
theorem dX6_sort_67 : decode cX6_sort 67 = .ok (.getfield 78, 3) := by decide +kernel
theorem dX6_sort_70 : decode cX6_sort 70 = .ok (.iload 4, 2) := by decide +kernel
theorem dX6_sort_72 : decode cX6_sort 72 = .ok (.iload_n 3, 1) := by decide +kernel
theorem dX6_sort_73 : decode cX6_sort 73 = .ok (.iastore, 1) := by decide +kernel
theorem dX6_sort_74 : decode cX6_sort 74 = .ok (.iinc 3 1, 3) := by decide +kernel
theorem dX6_sort_77 : decode cX6_sort 77 = .ok (.goto (-75), 3) := by decide +kernel
theorem dX6_sort_80 : decode cX6_sort 80 = .ok (.return_, 1) := by decide +kernel
def j_X6_sort_66 (k : Nat) (Q : St → Prop) (rec2 : Int32 → Int32 → St → Prop) (v2 : Int32) (v3 : Int32) (v4 : Int32) (σ : St) : Prop :=
  vp_in v4 401 ∧
  nmS (up2 σ 20 (ix v4) v3) (fun σ1 =>
  rec2 v2 (v3 + 1) σ1)
theorem wk_X6_sort_66 {k : Nat} (X : cx p s m args c cX6_sort 5 RX6 D (wM cI cZ a) A (tyW cI cZ cH)) (hr9 : meth.sig.returnType = none) (hlk9 : meth.locks = false) (hk : k = 6 ∨ k = 7) {Q : St → Prop} {rec2 : Int32 → Int32 → St → Prop} (hrec2 : ∀ (v2 : Int32) (v3 : Int32) (σ : St), rec2 v2 v3 σ → go p l e rm_X6_sort s m args below meth c D (wM cI cZ a) A 0 0 (MQ below (va_Qv Q (atw D (wM cI cZ a) (tyW cI cZ cH) A) A) args s 0 0 A) 5 2 [(0, .ref (a 0)), (1, .ref (a k)), (2, .int v2), (3, .int v3)] [] σ) {v2 : Int32} {v3 : Int32} {v4 : Int32} {σ : St} (h : j_X6_sort_66 k Q rec2 v2 v3 v4 σ) : go p l e rm_X6_sort s m args below meth c D (wM cI cZ a) A 0 0 (MQ below (va_Qv Q (atw D (wM cI cZ a) (tyW cI cZ cH) A) A) args s 0 0 A) 5 66 [(0, .ref (a 0)), (1, .ref (a k)), (2, .int v2), (3, .int v3), (4, .int v4)] [] σ := by
  delta j_X6_sort_66 at h
  refine r_aload_n X 0 67 dX6_sort_66 rfl rfl rfl ?_
  refine g_X6_78 X 70 dX6_sort_67 rfl ?_
  refine r_iload X 4 72 dX6_sort_70 rfl rfl ?_
  refine r_iload_n X 3 73 dX6_sort_72 rfl rfl rfl ?_
  obtain ⟨hin, h⟩ := h
  refine s_M20 X 74 hin dX6_sort_73 rfl ?_
  refine r_nmS h (fun σ1 h => ?_)
  refine r_iinc (d := 1) X 3 77 [(3, .int (v3 + 1)), (0, .ref (a 0)), (1, .ref (a k)), (2, .int v2), (4, .int v4)] dX6_sort_74 rfl (by decide) (by decide) rfl rfl ?_
  refine r_goto X 2 dX6_sort_77 rfl ?_
  refine r_pick (lv' := [(0, .ref (a 0)), (1, .ref (a k)), (2, .int v2), (3, .int (v3 + 1))]) [1, 2, 3, 0] rfl ?_
  exact hrec2 _ _ _ h
def b_X6_sort_10 (k : Nat) (Q : St → Prop) (rec2 : Int32 → Int32 → St → Prop) (rec10 : Int32 → Int32 → Int32 → St → Prop) (v2 : Int32) (v3 : Int32) (v4 : Int32) (σ : St) : Prop :=
  if 0 < v4 then
  (vp_in (v4 - 1) 401 ∧
  (vp_in (((8 : Int32) * (σ 20 (ix (v4 - 1)))) + 6) 3208 ∧
  (vp_in (((8 : Int32) * v3) + 6) 3208 ∧
  (if (σ k (ix (((8 : Int32) * v3) + 6))) < (σ k (ix (((8 : Int32) * (σ 20 (ix (v4 - 1)))) + 6))) then
  (vp_in (v4 - 1) 401 ∧
  (vp_in v4 401 ∧
  nmS (up2 σ 20 (ix v4) (σ 20 (ix (v4 - 1)))) (fun σ2 =>
  rec10 v2 v3 (v4 + (-1)) σ2)))
  else (j_X6_sort_66 k Q rec2 v2 v3 v4 σ)))))
  else (j_X6_sort_66 k Q rec2 v2 v3 v4 σ)
def lp_X6_sort_10 (k : Nat) (Q : St → Prop) (rec2 : Int32 → Int32 → St → Prop) (n9 : Nat) : Int32 → Int32 → Int32 → St → Prop :=
  Nat.rec (fun _ _ _ _ => False) (fun _ rec9 => b_X6_sort_10 k Q rec2 rec9) n9
theorem wk_X6_sort_10 {k : Nat} (X : cx p s m args c cX6_sort 5 RX6 D (wM cI cZ a) A (tyW cI cZ cH)) (hr9 : meth.sig.returnType = none) (hlk9 : meth.locks = false) (hk : k = 6 ∨ k = 7) {Q : St → Prop} {rec2 : Int32 → Int32 → St → Prop} (hrec2 : ∀ (v2 : Int32) (v3 : Int32) (σ : St), rec2 v2 v3 σ → go p l e rm_X6_sort s m args below meth c D (wM cI cZ a) A 0 0 (MQ below (va_Qv Q (atw D (wM cI cZ a) (tyW cI cZ cH) A) A) args s 0 0 A) 5 2 [(0, .ref (a 0)), (1, .ref (a k)), (2, .int v2), (3, .int v3)] [] σ) : ∀ (n9 : Nat) {v2 : Int32} {v3 : Int32} {v4 : Int32} {σ : St}, lp_X6_sort_10 k Q rec2 n9 v2 v3 v4 σ → go p l e rm_X6_sort s m args below meth c D (wM cI cZ a) A 0 0 (MQ below (va_Qv Q (atw D (wM cI cZ a) (tyW cI cZ cH) A) A) args s 0 0 A) 5 10 [(0, .ref (a 0)), (1, .ref (a k)), (2, .int v2), (3, .int v3), (4, .int v4)] [] σ := by
  intro n9
  induction n9 with
  | zero => intro v2 v3 v4 σ h; exact h.elim
  | succ n9 ih =>
    intro v2 v3 v4 σ h
    have hrec10 := fun v2 v3 v4 σ h => ih (σ := σ) (v2 := v2) (v3 := v3) (v4 := v4) h
    replace h : b_X6_sort_10 k Q rec2 (lp_X6_sort_10 k Q rec2 n9) v2 v3 v4 σ := h
    delta b_X6_sort_10 at h
    refine r_iload X 4 12 dX6_sort_10 rfl rfl ?_
    refine r_if_le X 66 15 h dX6_sort_12 rfl rfl (fun h => ?_) (fun h => ?_)
    · refine r_pick (lv' := [(0, .ref (a 0)), (1, .ref (a k)), (2, .int v2), (3, .int v3), (4, .int v4)]) [0, 1, 2, 3, 4] rfl ?_
      exact wk_X6_sort_66 X hr9 hlk9 hk hrec2 h
    · refine r_aload_n X 1 16 dX6_sort_15 rfl rfl rfl ?_
      refine r_bipush (v := 8) X 18 dX6_sort_16 (by decide) rfl ?_
      refine r_aload_n X 0 19 dX6_sort_18 rfl rfl rfl ?_
      refine g_X6_78 X 22 dX6_sort_19 rfl ?_
      refine r_iload X 4 24 dX6_sort_22 rfl rfl ?_
      refine r_iconst (v := 1) X 25 dX6_sort_24 (by decide) rfl ?_
      refine r_isub X 26 dX6_sort_25 rfl ?_
      obtain ⟨hin, h⟩ := h
      refine l_M20 X 27 hin dX6_sort_26 rfl ?_
      refine r_imul X 28 dX6_sort_27 rfl ?_
      refine r_bipush (v := 6) X 30 dX6_sort_28 (by decide) rfl ?_
      refine r_iadd X 31 dX6_sort_30 rfl ?_
      obtain ⟨hin, h⟩ := h
      refine l_Mk X hk 32 hin dX6_sort_31 rfl ?_
      refine r_aload_n X 1 33 dX6_sort_32 rfl rfl rfl ?_
      refine r_bipush (v := 8) X 35 dX6_sort_33 (by decide) rfl ?_
      refine r_iload_n X 3 36 dX6_sort_35 rfl rfl rfl ?_
      refine r_imul X 37 dX6_sort_36 rfl ?_
      refine r_bipush (v := 6) X 39 dX6_sort_37 (by decide) rfl ?_
      refine r_iadd X 40 dX6_sort_39 rfl ?_
      obtain ⟨hin, h⟩ := h
      refine l_Mk X hk 41 hin dX6_sort_40 rfl ?_
      refine r_icmp_le X 66 44 h dX6_sort_41 rfl rfl (fun h => ?_) (fun h => ?_)
      · refine r_pick (lv' := [(0, .ref (a 0)), (1, .ref (a k)), (2, .int v2), (3, .int v3), (4, .int v4)]) [0, 1, 2, 3, 4] rfl ?_
        exact wk_X6_sort_66 X hr9 hlk9 hk hrec2 h
      · refine r_aload_n X 0 45 dX6_sort_44 rfl rfl rfl ?_
        refine g_X6_78 X 48 dX6_sort_45 rfl ?_
        refine r_iload X 4 50 dX6_sort_48 rfl rfl ?_
        refine r_aload_n X 0 51 dX6_sort_50 rfl rfl rfl ?_
        refine g_X6_78 X 54 dX6_sort_51 rfl ?_
        refine r_iload X 4 56 dX6_sort_54 rfl rfl ?_
        refine r_iconst (v := 1) X 57 dX6_sort_56 (by decide) rfl ?_
        refine r_isub X 58 dX6_sort_57 rfl ?_
        obtain ⟨hin, h⟩ := h
        refine l_M20 X 59 hin dX6_sort_58 rfl ?_
        obtain ⟨hin, h⟩ := h
        refine s_M20 X 60 hin dX6_sort_59 rfl ?_
        refine r_nmS h (fun σ2 h => ?_)
        refine r_iinc (d := (-1)) X 4 63 [(4, .int (v4 + (-1))), (0, .ref (a 0)), (1, .ref (a k)), (2, .int v2), (3, .int v3)] dX6_sort_60 rfl (by decide) (by decide) rfl rfl ?_
        refine r_goto X 10 dX6_sort_63 rfl ?_
        refine r_pick (lv' := [(0, .ref (a 0)), (1, .ref (a k)), (2, .int v2), (3, .int v3), (4, .int (v4 + (-1)))]) [1, 2, 3, 4, 0] rfl ?_
        exact hrec10 _ _ _ _ h
def b_X6_sort_2 (k : Nat) (Q : St → Prop) (rec2 : Int32 → Int32 → St → Prop) (v2 : Int32) (v3 : Int32) (σ : St) : Prop :=
  if v3 < v2 then
  (∃ n9 : Nat, lp_X6_sort_10 k Q rec2 n9 v2 v3 v3 σ)
  else (Q σ)
def lp_X6_sort_2 (k : Nat) (Q : St → Prop) (n9 : Nat) : Int32 → Int32 → St → Prop :=
  Nat.rec (fun _ _ _ => False) (fun _ rec9 => b_X6_sort_2 k Q  rec9) n9
theorem wk_X6_sort_2 {k : Nat} (X : cx p s m args c cX6_sort 5 RX6 D (wM cI cZ a) A (tyW cI cZ cH)) (hr9 : meth.sig.returnType = none) (hlk9 : meth.locks = false) (hk : k = 6 ∨ k = 7) {Q : St → Prop} : ∀ (n9 : Nat) {v2 : Int32} {v3 : Int32} {σ : St}, lp_X6_sort_2 k Q n9 v2 v3 σ → go p l e rm_X6_sort s m args below meth c D (wM cI cZ a) A 0 0 (MQ below (va_Qv Q (atw D (wM cI cZ a) (tyW cI cZ cH) A) A) args s 0 0 A) 5 2 [(0, .ref (a 0)), (1, .ref (a k)), (2, .int v2), (3, .int v3)] [] σ := by
  intro n9
  induction n9 with
  | zero => intro v2 v3 σ h; exact h.elim
  | succ n9 ih =>
    intro v2 v3 σ h
    have hrec2 := fun v2 v3 σ h => ih (σ := σ) (v2 := v2) (v3 := v3) h
    replace h : b_X6_sort_2 k Q (lp_X6_sort_2 k Q n9) v2 v3 σ := h
    delta b_X6_sort_2 at h
    refine r_iload_n X 3 3 dX6_sort_2 rfl rfl rfl ?_
    refine r_iload_n X 2 4 dX6_sort_3 rfl rfl rfl ?_
    refine r_icmp_ge X 80 7 h dX6_sort_4 rfl rfl (fun h => ?_) (fun h => ?_)
    · exact r_vret X hr9 hlk9 h dX6_sort_80
    · refine r_iload_n X 3 8 dX6_sort_7 rfl rfl rfl ?_
      refine r_istore X 10 [(4, .int v3), (0, .ref (a 0)), (1, .ref (a k)), (2, .int v2), (3, .int v3)] dX6_sort_8 (by decide) rfl rfl ?_
      refine r_pick (lv' := [(0, .ref (a 0)), (1, .ref (a k)), (2, .int v2), (3, .int v3), (4, .int v3)]) [1, 2, 3, 4, 0] rfl ?_
      obtain ⟨n9, h⟩ := h
      exact wk_X6_sort_10 X hr9 hlk9 hk hrec2 n9 h
def wp_X6_sort (k : Nat) (σ : St) (x2 : Int32) (Q : St → Prop) : Prop :=
  ∃ n9 : Nat, lp_X6_sort_2 k Q n9 x2 0 σ
theorem c_X6_sort {k : Nat} (hk : k = 6 ∨ k = 7) {σ : St} {x2 : Int32} {Q : St → Prop} (h : wp_X6_sort k σ x2 Q) : ctV l yX6_sort cX6_sort 5 none rm_X6_sort D (wM cI cZ a) (tyW cI cZ cH) [.ref (a 0), .ref (a k), .int x2] σ Q := by
  refine mk_V (wM_ok cI cZ a) (by decide +kernel) (Nat.le_of_ble_eq_true rfl) (fun p e s m args below meth c A X hr9 hlk9 => ?_)
  refine r_pick (lv' := [(0, .ref (a 0)), (1, .ref (a k)), (2, .int x2)]) [0, 1, 2] rfl ?_
  delta wp_X6_sort at h
  refine r_iconst (v := 0) X 1 dX6_sort_0 (by decide) rfl ?_
  refine r_istore_n X 2 [(3, .int 0), (0, .ref (a 0)), (1, .ref (a k)), (2, .int x2)] dX6_sort_1 rfl (by decide) rfl rfl ?_
  refine r_pick (lv' := [(0, .ref (a 0)), (1, .ref (a k)), (2, .int x2), (3, .int 0)]) [1, 2, 3, 0] rfl ?_
  obtain ⟨n9, h⟩ := h
  exact wk_X6_sort_2 X hr9 hlk9 hk n9 h
def rm_X6_isSlip : Room := { frames := 1, cells := 0, slots := 0, locals := 22 }
theorem dX6_isSlip_0 : decode cX6_isSlip 0 = .ok (.aload_n 1, 1) := by decide +kernel
theorem dX6_isSlip_1 : decode cX6_isSlip 1 = .ok (.bipush 8, 2) := by decide +kernel
theorem dX6_isSlip_3 : decode cX6_isSlip 3 = .ok (.iload_n 2, 1) := by decide +kernel
theorem dX6_isSlip_4 : decode cX6_isSlip 4 = .ok (.imul, 1) := by decide +kernel
theorem dX6_isSlip_5 : decode cX6_isSlip 5 = .ok (.iaload, 1) := by decide +kernel
theorem dX6_isSlip_6 : decode cX6_isSlip 6 = .ok (.iconst 1, 1) := by decide +kernel
theorem dX6_isSlip_7 : decode cX6_isSlip 7 = .ok (.bipush 19, 2) := by decide +kernel
theorem dX6_isSlip_9 : decode cX6_isSlip 9 = .ok (.invokestatic 96, 3) := by decide +kernel
theorem dX6_isSlip_12 : decode cX6_isSlip 12 = .ok (.ifCond .eq 53, 3) := by decide +kernel
theorem dX6_isSlip_15 : decode cX6_isSlip 15 = .ok (.aload_n 1, 1) := by decide +kernel
theorem dX6_isSlip_16 : decode cX6_isSlip 16 = .ok (.bipush 8, 2) := by decide +kernel
theorem dX6_isSlip_18 : decode cX6_isSlip 18 = .ok (.iload_n 2, 1) := by decide +kernel
theorem dX6_isSlip_19 : decode cX6_isSlip 19 = .ok (.imul, 1) := by decide +kernel
theorem dX6_isSlip_20 : decode cX6_isSlip 20 = .ok (.iconst 1, 1) := by decide +kernel
theorem dX6_isSlip_21 : decode cX6_isSlip 21 = .ok (.iadd, 1) := by decide +kernel
theorem dX6_isSlip_22 : decode cX6_isSlip 22 = .ok (.iaload, 1) := by decide +kernel
theorem dX6_isSlip_23 : decode cX6_isSlip 23 = .ok (.iconst 0, 1) := by decide +kernel
theorem dX6_isSlip_24 : decode cX6_isSlip 24 = .ok (.aload_n 0, 1) := by decide +kernel
theorem dX6_isSlip_25 : decode cX6_isSlip 25 = .ok (.getfield 93, 3) := by decide +kernel
theorem dX6_isSlip_28 : decode cX6_isSlip 28 = .ok (.iconst 1, 1) := by decide +kernel
theorem dX6_isSlip_29 : decode cX6_isSlip 29 = .ok (.isub, 1) := by decide +kernel
theorem dX6_isSlip_30 : decode cX6_isSlip 30 = .ok (.invokestatic 96, 3) := by decide +kernel
theorem dX6_isSlip_33 : decode cX6_isSlip 33 = .ok (.ifCond .eq 32, 3) := by decide +kernel
theorem dX6_isSlip_36 : decode cX6_isSlip 36 = .ok (.aload_n 1, 1) := by decide +kernel
theorem dX6_isSlip_37 : decode cX6_isSlip 37 = .ok (.bipush 8, 2) := by decide +kernel
theorem dX6_isSlip_39 : decode cX6_isSlip 39 = .ok (.iload_n 2, 1) := by decide +kernel
theorem dX6_isSlip_40 : decode cX6_isSlip 40 = .ok (.imul, 1) := by decide +kernel
theorem dX6_isSlip_41 : decode cX6_isSlip 41 = .ok (.bipush 6, 2) := by decide +kernel
theorem dX6_isSlip_43 : decode cX6_isSlip 43 = .ok (.iadd, 1) := by decide +kernel
theorem dX6_isSlip_44 : decode cX6_isSlip 44 = .ok (.iaload, 1) := by decide +kernel
theorem dX6_isSlip_45 : decode cX6_isSlip 45 = .ok (.iconst 0, 1) := by decide +kernel
theorem dX6_isSlip_46 : decode cX6_isSlip 46 = .ok (.aload_n 1, 1) := by decide +kernel
theorem dX6_isSlip_47 : decode cX6_isSlip 47 = .ok (.bipush 8, 2) := by decide +kernel
theorem dX6_isSlip_49 : decode cX6_isSlip 49 = .ok (.iload_n 2, 1) := by decide +kernel
theorem dX6_isSlip_50 : decode cX6_isSlip 50 = .ok (.imul, 1) := by decide +kernel
theorem dX6_isSlip_51 : decode cX6_isSlip 51 = .ok (.bipush 7, 2) := by decide +kernel
theorem dX6_isSlip_53 : decode cX6_isSlip 53 = .ok (.iadd, 1) := by decide +kernel
theorem dX6_isSlip_54 : decode cX6_isSlip 54 = .ok (.iaload, 1) := by decide +kernel
theorem dX6_isSlip_55 : decode cX6_isSlip 55 = .ok (.invokestatic 96, 3) := by decide +kernel
theorem dX6_isSlip_58 : decode cX6_isSlip 58 = .ok (.ifCond .eq 7, 3) := by decide +kernel
theorem dX6_isSlip_61 : decode cX6_isSlip 61 = .ok (.iconst 1, 1) := by decide +kernel
theorem dX6_isSlip_62 : decode cX6_isSlip 62 = .ok (.goto 4, 3) := by decide +kernel
theorem dX6_isSlip_65 : decode cX6_isSlip 65 = .ok (.iconst 0, 1) := by decide +kernel
theorem dX6_isSlip_66 : decode cX6_isSlip 66 = .ok (.ireturn, 1) := by decide +kernel
def wp_X6_isSlip (k : Nat) (σ : St) (x2 : Int32) (Q : Int32 → St → Prop) : Prop :=
  vp_in ((8 : Int32) * x2) 3208 ∧
  (wp_X6_isIn σ (σ k (ix ((8 : Int32) * x2))) 1 19 (fun y2 σ1 =>
  if y2 = 0 then
  (Q 0 σ1)
  else (vp_in (((8 : Int32) * x2) + 1) 3208 ∧
  (wp_X6_isIn σ1 (σ1 k (ix (((8 : Int32) * x2) + 1))) 0 ((σ1 0 2) - 1) (fun y4 σ3 =>
  if y4 = 0 then
  (Q 0 σ3)
  else (vp_in (((8 : Int32) * x2) + 6) 3208 ∧
  (vp_in (((8 : Int32) * x2) + 7) 3208 ∧
  (wp_X6_isIn σ3 (σ3 k (ix (((8 : Int32) * x2) + 6))) 0 (σ3 k (ix (((8 : Int32) * x2) + 7))) (fun y6 σ5 =>
  if y6 = 0 then
  (Q 0 σ5)
  else (Q 1 σ5))))))))))
theorem c_X6_isSlip {k : Nat} (hk : k = 6 ∨ k = 7) {σ : St} {x2 : Int32} {Q : Int32 → St → Prop} (h : wp_X6_isSlip k σ x2 Q) : ctI l yX6_isSlip cX6_isSlip 3 (some .boolean) rm_X6_isSlip D (wM cI cZ a) (tyW cI cZ cH) [.ref (a 0), .ref (a k), .int x2] σ (fun r9 u9 => isB r9 ∧ Q r9 u9) := by
  refine mk_I (wM_ok cI cZ a) (by decide +kernel) (Nat.le_of_ble_eq_true rfl) (fun p e s m args below meth c A X hr9 hlk9 => ?_)
  refine r_pick (lv' := [(0, .ref (a 0)), (1, .ref (a k)), (2, .int x2)]) [0, 1, 2] rfl ?_
  delta wp_X6_isSlip at h
  refine r_aload_n X 1 1 dX6_isSlip_0 rfl rfl rfl ?_
  refine r_bipush (v := 8) X 3 dX6_isSlip_1 (by decide) rfl ?_
  refine r_iload_n X 2 4 dX6_isSlip_3 rfl rfl rfl ?_
  refine r_imul X 5 dX6_isSlip_4 rfl ?_
  obtain ⟨hin, h⟩ := h
  refine l_Mk X hk 6 hin dX6_isSlip_5 rfl ?_
  refine r_iconst (v := 1) X 7 dX6_isSlip_6 (by decide) rfl ?_
  refine r_bipush (v := 19) X 9 dX6_isSlip_7 (by decide) rfl ?_
  refine r_callSI (As := [.int (σ k (ix ((8 : Int32) * x2))), .int 1, .int 19]) (rest := []) X 12 (c_X6_isIn h) ml_X6_96 lk_X6_isIn sy_X6_isIn rfl rfl (Nat.le_of_ble_eq_true rfl) ⟨rfl, rfl, ⟨Nat.le_of_ble_eq_true rfl, Nat.le_of_ble_eq_true rfl⟩, Nat.le_of_ble_eq_true rfl, Nat.le_of_ble_eq_true rfl⟩ dX6_isSlip_9 rfl (fun y2 σ1 h => ?_)
  obtain ⟨hb_y2, h⟩ := h
  refine r_if_eq X 65 15 h dX6_isSlip_12 rfl rfl (fun h => ?_) (fun h => ?_)
  · refine r_iconst (v := 0) X 66 dX6_isSlip_65 (by decide) rfl ?_
    exact r_zret X hr9 hlk9 isB_0 h dX6_isSlip_66
  · refine r_aload_n X 1 16 dX6_isSlip_15 rfl rfl rfl ?_
    refine r_bipush (v := 8) X 18 dX6_isSlip_16 (by decide) rfl ?_
    refine r_iload_n X 2 19 dX6_isSlip_18 rfl rfl rfl ?_
    refine r_imul X 20 dX6_isSlip_19 rfl ?_
    refine r_iconst (v := 1) X 21 dX6_isSlip_20 (by decide) rfl ?_
    refine r_iadd X 22 dX6_isSlip_21 rfl ?_
    obtain ⟨hin, h⟩ := h
    refine l_Mk X hk 23 hin dX6_isSlip_22 rfl ?_
    refine r_iconst (v := 0) X 24 dX6_isSlip_23 (by decide) rfl ?_
    refine r_aload_n X 0 25 dX6_isSlip_24 rfl rfl rfl ?_
    refine g_X6_93 X 28 dX6_isSlip_25 rfl ?_
    refine r_iconst (v := 1) X 29 dX6_isSlip_28 (by decide) rfl ?_
    refine r_isub X 30 dX6_isSlip_29 rfl ?_
    refine r_callSI (As := [.int (σ1 k (ix (((8 : Int32) * x2) + 1))), .int 0, .int ((σ1 0 2) - 1)]) (rest := []) X 33 (c_X6_isIn h) ml_X6_96 lk_X6_isIn sy_X6_isIn rfl rfl (Nat.le_of_ble_eq_true rfl) ⟨rfl, rfl, ⟨Nat.le_of_ble_eq_true rfl, Nat.le_of_ble_eq_true rfl⟩, Nat.le_of_ble_eq_true rfl, Nat.le_of_ble_eq_true rfl⟩ dX6_isSlip_30 rfl (fun y4 σ3 h => ?_)
    obtain ⟨hb_y4, h⟩ := h
    refine r_if_eq X 65 36 h dX6_isSlip_33 rfl rfl (fun h => ?_) (fun h => ?_)
    · refine r_iconst (v := 0) X 66 dX6_isSlip_65 (by decide) rfl ?_
      exact r_zret X hr9 hlk9 isB_0 h dX6_isSlip_66
    · refine r_aload_n X 1 37 dX6_isSlip_36 rfl rfl rfl ?_
      refine r_bipush (v := 8) X 39 dX6_isSlip_37 (by decide) rfl ?_
      refine r_iload_n X 2 40 dX6_isSlip_39 rfl rfl rfl ?_
      refine r_imul X 41 dX6_isSlip_40 rfl ?_
      refine r_bipush (v := 6) X 43 dX6_isSlip_41 (by decide) rfl ?_
      refine r_iadd X 44 dX6_isSlip_43 rfl ?_
      obtain ⟨hin, h⟩ := h
      refine l_Mk X hk 45 hin dX6_isSlip_44 rfl ?_
      refine r_iconst (v := 0) X 46 dX6_isSlip_45 (by decide) rfl ?_
      refine r_aload_n X 1 47 dX6_isSlip_46 rfl rfl rfl ?_
      refine r_bipush (v := 8) X 49 dX6_isSlip_47 (by decide) rfl ?_
      refine r_iload_n X 2 50 dX6_isSlip_49 rfl rfl rfl ?_
      refine r_imul X 51 dX6_isSlip_50 rfl ?_
      refine r_bipush (v := 7) X 53 dX6_isSlip_51 (by decide) rfl ?_
      refine r_iadd X 54 dX6_isSlip_53 rfl ?_
      obtain ⟨hin, h⟩ := h
      refine l_Mk X hk 55 hin dX6_isSlip_54 rfl ?_
      refine r_callSI (As := [.int (σ3 k (ix (((8 : Int32) * x2) + 6))), .int 0, .int (σ3 k (ix (((8 : Int32) * x2) + 7)))]) (rest := []) X 58 (c_X6_isIn h) ml_X6_96 lk_X6_isIn sy_X6_isIn rfl rfl (Nat.le_of_ble_eq_true rfl) ⟨rfl, rfl, ⟨Nat.le_of_ble_eq_true rfl, Nat.le_of_ble_eq_true rfl⟩, Nat.le_of_ble_eq_true rfl, Nat.le_of_ble_eq_true rfl⟩ dX6_isSlip_55 rfl (fun y6 σ5 h => ?_)
      obtain ⟨hb_y6, h⟩ := h
      refine r_if_eq X 65 61 h dX6_isSlip_58 rfl rfl (fun h => ?_) (fun h => ?_)
      · refine r_iconst (v := 0) X 66 dX6_isSlip_65 (by decide) rfl ?_
        exact r_zret X hr9 hlk9 isB_0 h dX6_isSlip_66
      · refine r_iconst (v := 1) X 62 dX6_isSlip_61 (by decide) rfl ?_
        refine r_goto X 66 dX6_isSlip_62 rfl ?_
        exact r_zret X hr9 hlk9 isB_1 h dX6_isSlip_66
def rm_X6_firstWrong : Room := { frames := 6, cells := 0, slots := 0, locals := 149 }
theorem dX6_firstWrong_0 : decode cX6_firstWrong 0 = .ok (.aload_n 0, 1) := by decide +kernel
theorem dX6_firstWrong_1 : decode cX6_firstWrong 1 = .ok (.aload_n 1, 1) := by decide +kernel
theorem dX6_firstWrong_2 : decode cX6_firstWrong 2 = .ok (.iload_n 2, 1) := by decide +kernel
theorem dX6_firstWrong_3 : decode cX6_firstWrong 3 = .ok (.invokevirtual 184, 3) := by decide +kernel
theorem dX6_firstWrong_6 : decode cX6_firstWrong 6 = .ok (.aload_n 0, 1) := by decide +kernel
theorem dX6_firstWrong_7 : decode cX6_firstWrong 7 = .ok (.invokevirtual 90, 3) := by decide +kernel
theorem dX6_firstWrong_10 : decode cX6_firstWrong 10 = .ok (.iconst 0, 1) := by decide +kernel
theorem dX6_firstWrong_11 : decode cX6_firstWrong 11 = .ok (.istore_n 3, 1) := by decide +kernel
theorem dX6_firstWrong_12 : decode cX6_firstWrong 12 = .ok (.iload_n 3, 1) := by decide +kernel
theorem dX6_firstWrong_13 : decode cX6_firstWrong 13 = .ok (.iload_n 2, 1) := by decide +kernel
theorem dX6_firstWrong_14 : decode cX6_firstWrong 14 = .ok (.if_icmp .ge 44, 3) := by decide +kernel
theorem dX6_firstWrong_17 : decode cX6_firstWrong 17 = .ok (.aload_n 0, 1) := by decide +kernel
theorem dX6_firstWrong_18 : decode cX6_firstWrong 18 = .ok (.aload_n 1, 1) := by decide +kernel
theorem dX6_firstWrong_19 : decode cX6_firstWrong 19 = .ok (.aload_n 0, 1) := by decide +kernel
theorem dX6_firstWrong_20 : decode cX6_firstWrong 20 = .ok (.getfield 78, 3) := by decide +kernel
theorem dX6_firstWrong_23 : decode cX6_firstWrong 23 = .ok (.iload_n 3, 1) := by decide +kernel
theorem dX6_firstWrong_24 : decode cX6_firstWrong 24 = .ok (.iaload, 1) := by decide +kernel
theorem dX6_firstWrong_25 : decode cX6_firstWrong 25 = .ok (.invokevirtual 188, 3) := by decide +kernel
theorem dX6_firstWrong_28 : decode cX6_firstWrong 28 = .ok (.ifCond .eq 17, 3) := by decide +kernel
theorem dX6_firstWrong_31 : decode cX6_firstWrong 31 = .ok (.aload_n 0, 1) := by decide +kernel
theorem dX6_firstWrong_32 : decode cX6_firstWrong 32 = .ok (.aload_n 1, 1) := by decide +kernel
theorem dX6_firstWrong_33 : decode cX6_firstWrong 33 = .ok (.aload_n 0, 1) := by decide +kernel
theorem dX6_firstWrong_34 : decode cX6_firstWrong 34 = .ok (.getfield 78, 3) := by decide +kernel
theorem dX6_firstWrong_37 : decode cX6_firstWrong 37 = .ok (.iload_n 3, 1) := by decide +kernel
theorem dX6_firstWrong_38 : decode cX6_firstWrong 38 = .ok (.iaload, 1) := by decide +kernel
theorem dX6_firstWrong_39 : decode cX6_firstWrong 39 = .ok (.invokevirtual 192, 3) := by decide +kernel
theorem dX6_firstWrong_42 : decode cX6_firstWrong 42 = .ok (.ifCond .ne 10, 3) := by decide +kernel
theorem dX6_firstWrong_45 : decode cX6_firstWrong 45 = .ok (.aload_n 0, 1) := by decide +kernel
theorem dX6_firstWrong_46 : decode cX6_firstWrong 46 = .ok (.getfield 78, 3) := by decide +kernel
theorem dX6_firstWrong_49 : decode cX6_firstWrong 49 = .ok (.iload_n 3, 1) := by decide +kernel
theorem dX6_firstWrong_50 : decode cX6_firstWrong 50 = .ok (.iaload, 1) := by decide +kernel
theorem dX6_firstWrong_51 : decode cX6_firstWrong 51 = .ok (.ireturn, 1) := by decide +kernel
theorem dX6_firstWrong_52 : decode cX6_firstWrong 52 = .ok (.iinc 3 1, 3) := by decide +kernel
theorem dX6_firstWrong_55 : decode cX6_firstWrong 55 = .ok (.goto (-43), 3) := by decide +kernel
theorem dX6_firstWrong_58 : decode cX6_firstWrong 58 = .ok (.iconst (-1), 1) := by decide +kernel
theorem dX6_firstWrong_59 : decode cX6_firstWrong 59 = .ok (.ireturn, 1) := by decide +kernel
def j_X6_firstWrong_45 (k : Nat) (Q : Int32 → St → Prop) (v3 : Int32) (σ : St) : Prop :=
  vp_in v3 401 ∧
  (Q (σ 20 (ix v3)) σ)
theorem wk_X6_firstWrong_45 {k : Nat} (X : cx p s m args c cX6_firstWrong 4 RX6 D (wM cI cZ a) A (tyW cI cZ cH)) (hr9 : meth.sig.returnType = (some .int)) (hlk9 : meth.locks = false) (hk : k = 6 ∨ k = 7) {Q : Int32 → St → Prop} {v3 : Int32} {σ : St} (h : j_X6_firstWrong_45 k Q v3 σ) : go p l e rm_X6_firstWrong s m args below meth c D (wM cI cZ a) A 0 0 (MQ below (va_Qi Q (atw D (wM cI cZ a) (tyW cI cZ cH) A) A) args s 0 0 A) 4 45 [(0, .ref (a 0)), (3, .int v3)] [] σ := by
  delta j_X6_firstWrong_45 at h
  refine r_aload_n X 0 46 dX6_firstWrong_45 rfl rfl rfl ?_
  refine g_X6_78 X 49 dX6_firstWrong_46 rfl ?_
  refine r_iload_n X 1 50 dX6_firstWrong_49 rfl rfl rfl ?_
  obtain ⟨hin, h⟩ := h
  refine l_M20 X 51 hin dX6_firstWrong_50 rfl ?_
  exact r_iret X hr9 hlk9 h dX6_firstWrong_51
def b_X6_firstWrong_12 (k : Nat) (Q : Int32 → St → Prop) (rec12 : Int32 → Int32 → St → Prop) (v2 : Int32) (v3 : Int32) (σ : St) : Prop :=
  if v3 < v2 then
  (vp_in v3 401 ∧
  (wp_X6_isSlip k σ (σ 20 (ix v3)) (fun y4 σ3 =>
  if y4 = 0 then
  (j_X6_firstWrong_45 k Q v3 σ3)
  else (vp_in v3 401 ∧
  (wp_X6_isDone k σ3 (σ3 20 (ix v3)) (fun y6 σ5 =>
  if y6 = 0 then
  (j_X6_firstWrong_45 k Q v3 σ5)
  else (rec12 v2 (v3 + 1) σ5)))))))
  else (Q (-1) σ)
def lp_X6_firstWrong_12 (k : Nat) (Q : Int32 → St → Prop) (n9 : Nat) : Int32 → Int32 → St → Prop :=
  Nat.rec (fun _ _ _ => False) (fun _ rec9 => b_X6_firstWrong_12 k Q  rec9) n9
theorem wk_X6_firstWrong_12 {k : Nat} (X : cx p s m args c cX6_firstWrong 4 RX6 D (wM cI cZ a) A (tyW cI cZ cH)) (hr9 : meth.sig.returnType = (some .int)) (hlk9 : meth.locks = false) (hk : k = 6 ∨ k = 7) {Q : Int32 → St → Prop} : ∀ (n9 : Nat) {v2 : Int32} {v3 : Int32} {σ : St}, lp_X6_firstWrong_12 k Q n9 v2 v3 σ → go p l e rm_X6_firstWrong s m args below meth c D (wM cI cZ a) A 0 0 (MQ below (va_Qi Q (atw D (wM cI cZ a) (tyW cI cZ cH) A) A) args s 0 0 A) 4 12 [(0, .ref (a 0)), (1, .ref (a k)), (2, .int v2), (3, .int v3)] [] σ := by
  intro n9
  induction n9 with
  | zero => intro v2 v3 σ h; exact h.elim
  | succ n9 ih =>
    intro v2 v3 σ h
    have hrec12 := fun v2 v3 σ h => ih (σ := σ) (v2 := v2) (v3 := v3) h
    replace h : b_X6_firstWrong_12 k Q (lp_X6_firstWrong_12 k Q n9) v2 v3 σ := h
    delta b_X6_firstWrong_12 at h
    refine r_iload_n X 3 13 dX6_firstWrong_12 rfl rfl rfl ?_
    refine r_iload_n X 2 14 dX6_firstWrong_13 rfl rfl rfl ?_
    refine r_icmp_ge X 58 17 h dX6_firstWrong_14 rfl rfl (fun h => ?_) (fun h => ?_)
    · refine r_iconst (v := (-1)) X 59 dX6_firstWrong_58 (by decide) rfl ?_
      exact r_iret X hr9 hlk9 h dX6_firstWrong_59
    · refine r_aload_n X 0 18 dX6_firstWrong_17 rfl rfl rfl ?_
      refine r_aload_n X 1 19 dX6_firstWrong_18 rfl rfl rfl ?_
      refine r_aload_n X 0 20 dX6_firstWrong_19 rfl rfl rfl ?_
      refine g_X6_78 X 23 dX6_firstWrong_20 rfl ?_
      refine r_iload_n X 3 24 dX6_firstWrong_23 rfl rfl rfl ?_
      obtain ⟨hin, h⟩ := h
      refine l_M20 X 25 hin dX6_firstWrong_24 rfl ?_
      refine r_callI (As := [.ref (a k), .int (σ 20 (ix v3))]) (rest := []) X 28 (c_X6_isSlip hk h) ml_X6_188 lk_X6_isSlip wM_at_0 rfl rfl rfl (Nat.le_of_ble_eq_true rfl) ⟨rfl, rfl, ⟨Nat.le_of_ble_eq_true rfl, Nat.le_of_ble_eq_true rfl⟩, Nat.le_of_ble_eq_true rfl, Nat.le_of_ble_eq_true rfl⟩ dX6_firstWrong_25 rfl (fun y4 σ3 h => ?_)
      obtain ⟨hb_y4, h⟩ := h
      refine r_if_eq X 45 31 h dX6_firstWrong_28 rfl rfl (fun h => ?_) (fun h => ?_)
      · refine r_pick (lv' := [(0, .ref (a 0)), (3, .int v3)]) [0, 3] rfl ?_
        exact wk_X6_firstWrong_45 X hr9 hlk9 hk h
      · refine r_aload_n X 0 32 dX6_firstWrong_31 rfl rfl rfl ?_
        refine r_aload_n X 1 33 dX6_firstWrong_32 rfl rfl rfl ?_
        refine r_aload_n X 0 34 dX6_firstWrong_33 rfl rfl rfl ?_
        refine g_X6_78 X 37 dX6_firstWrong_34 rfl ?_
        refine r_iload_n X 3 38 dX6_firstWrong_37 rfl rfl rfl ?_
        obtain ⟨hin, h⟩ := h
        refine l_M20 X 39 hin dX6_firstWrong_38 rfl ?_
        refine r_callI (As := [.ref (a k), .int (σ3 20 (ix v3))]) (rest := []) X 42 (c_X6_isDone hk h) ml_X6_192 lk_X6_isDone wM_at_0 rfl rfl rfl (Nat.le_of_ble_eq_true rfl) ⟨rfl, rfl, ⟨Nat.le_of_ble_eq_true rfl, Nat.le_of_ble_eq_true rfl⟩, Nat.le_of_ble_eq_true rfl, Nat.le_of_ble_eq_true rfl⟩ dX6_firstWrong_39 rfl (fun y6 σ5 h => ?_)
        obtain ⟨hb_y6, h⟩ := h
        refine r_if_ne X 52 45 h dX6_firstWrong_42 rfl rfl (fun h => ?_) (fun h => ?_)
        · refine r_iinc (d := 1) X 3 55 [(3, .int (v3 + 1)), (0, .ref (a 0)), (1, .ref (a k)), (2, .int v2)] dX6_firstWrong_52 rfl (by decide) (by decide) rfl rfl ?_
          refine r_goto X 12 dX6_firstWrong_55 rfl ?_
          refine r_pick (lv' := [(0, .ref (a 0)), (1, .ref (a k)), (2, .int v2), (3, .int (v3 + 1))]) [1, 2, 3, 0] rfl ?_
          exact hrec12 _ _ _ h
        · refine r_pick (lv' := [(0, .ref (a 0)), (3, .int v3)]) [0, 3] rfl ?_
          exact wk_X6_firstWrong_45 X hr9 hlk9 hk h
def wp_X6_firstWrong (k : Nat) (σ : St) (x2 : Int32) (Q : Int32 → St → Prop) : Prop :=
  wp_X6_sort k σ x2 (fun σ1 =>
  wp_X6_begin σ1 (fun σ2 =>
  ∃ n9 : Nat, lp_X6_firstWrong_12 k Q n9 x2 0 σ2))
theorem c_X6_firstWrong {k : Nat} (hk : k = 6 ∨ k = 7) {σ : St} {x2 : Int32} {Q : Int32 → St → Prop} (h : wp_X6_firstWrong k σ x2 Q) : ctI l yX6_firstWrong cX6_firstWrong 4 (some .int) rm_X6_firstWrong D (wM cI cZ a) (tyW cI cZ cH) [.ref (a 0), .ref (a k), .int x2] σ Q := by
  refine mk_I (wM_ok cI cZ a) (by decide +kernel) (Nat.le_of_ble_eq_true rfl) (fun p e s m args below meth c A X hr9 hlk9 => ?_)
  refine r_pick (lv' := [(0, .ref (a 0)), (1, .ref (a k)), (2, .int x2)]) [0, 1, 2] rfl ?_
  delta wp_X6_firstWrong at h
  refine r_aload_n X 0 1 dX6_firstWrong_0 rfl rfl rfl ?_
  refine r_aload_n X 1 2 dX6_firstWrong_1 rfl rfl rfl ?_
  refine r_iload_n X 2 3 dX6_firstWrong_2 rfl rfl rfl ?_
  refine r_callV (As := [.ref (a k), .int x2]) (rest := []) X 6 (c_X6_sort hk h) ml_X6_184 lk_X6_sort wM_at_0 rfl rfl rfl (Nat.le_of_ble_eq_true rfl) ⟨rfl, rfl, ⟨Nat.le_of_ble_eq_true rfl, Nat.le_of_ble_eq_true rfl⟩, Nat.le_of_ble_eq_true rfl, Nat.le_of_ble_eq_true rfl⟩ dX6_firstWrong_3 rfl (fun σ1 h => ?_)
  refine r_aload_n X 0 7 dX6_firstWrong_6 rfl rfl rfl ?_
  refine r_callV (As := []) (rest := []) X 10 (c_X6_begin h) ml_X6_90 lk_X6_begin wM_at_0 rfl rfl rfl (Nat.le_of_ble_eq_true rfl) ⟨rfl, rfl, ⟨Nat.le_of_ble_eq_true rfl, Nat.le_of_ble_eq_true rfl⟩, Nat.le_of_ble_eq_true rfl, Nat.le_of_ble_eq_true rfl⟩ dX6_firstWrong_7 rfl (fun σ2 h => ?_)
  refine r_iconst (v := 0) X 11 dX6_firstWrong_10 (by decide) rfl ?_
  refine r_istore_n X 12 [(3, .int 0), (0, .ref (a 0)), (1, .ref (a k)), (2, .int x2)] dX6_firstWrong_11 rfl (by decide) rfl rfl ?_
  refine r_pick (lv' := [(0, .ref (a 0)), (1, .ref (a k)), (2, .int x2), (3, .int 0)]) [1, 2, 3, 0] rfl ?_
  obtain ⟨n9, h⟩ := h
  exact wk_X6_firstWrong_12 X hr9 hlk9 hk n9 h
def rm_X6_goOver : Room := { frames := 6, cells := 0, slots := 0, locals := 149 }
theorem dX6_goOver_0 : decode cX6_goOver 0 = .ok (.aload_n 0, 1) := by decide +kernel
theorem dX6_goOver_1 : decode cX6_goOver 1 = .ok (.aload_n 0, 1) := by decide +kernel
theorem dX6_goOver_2 : decode cX6_goOver 2 = .ok (.getfield 30, 3) := by decide +kernel
theorem dX6_goOver_5 : decode cX6_goOver 5 = .ok (.aload_n 0, 1) := by decide +kernel
theorem dX6_goOver_6 : decode cX6_goOver 6 = .ok (.getfield 195, 3) := by decide +kernel
theorem dX6_goOver_9 : decode cX6_goOver 9 = .ok (.invokevirtual 184, 3) := by decide +kernel
theorem dX6_goOver_12 : decode cX6_goOver 12 = .ok (.aload_n 0, 1) := by decide +kernel
theorem dX6_goOver_13 : decode cX6_goOver 13 = .ok (.invokevirtual 90, 3) := by decide +kernel
theorem dX6_goOver_16 : decode cX6_goOver 16 = .ok (.iconst 0, 1) := by decide +kernel
theorem dX6_goOver_17 : decode cX6_goOver 17 = .ok (.istore_n 3, 1) := by decide +kernel
theorem dX6_goOver_18 : decode cX6_goOver 18 = .ok (.iload_n 3, 1) := by decide +kernel
theorem dX6_goOver_19 : decode cX6_goOver 19 = .ok (.aload_n 0, 1) := by decide +kernel
theorem dX6_goOver_20 : decode cX6_goOver 20 = .ok (.getfield 195, 3) := by decide +kernel
theorem dX6_goOver_23 : decode cX6_goOver 23 = .ok (.if_icmp .ge 66, 3) := by decide +kernel
theorem dX6_goOver_26 : decode cX6_goOver 26 = .ok (.aload_n 0, 1) := by decide +kernel
theorem dX6_goOver_27 : decode cX6_goOver 27 = .ok (.getfield 30, 3) := by decide +kernel
theorem dX6_goOver_30 : decode cX6_goOver 30 = .ok (.bipush 8, 2) := by decide +kernel
theorem dX6_goOver_32 : decode cX6_goOver 32 = .ok (.aload_n 0, 1) := by decide +kernel
theorem dX6_goOver_33 : decode cX6_goOver 33 = .ok (.getfield 78, 3) := by decide +kernel
theorem dX6_goOver_36 : decode cX6_goOver 36 = .ok (.iload_n 3, 1) := by decide +kernel
theorem dX6_goOver_37 : decode cX6_goOver 37 = .ok (.iaload, 1) := by decide +kernel
theorem dX6_goOver_38 : decode cX6_goOver 38 = .ok (.imul, 1) := by decide +kernel
theorem dX6_goOver_39 : decode cX6_goOver 39 = .ok (.bipush 6, 2) := by decide +kernel
theorem dX6_goOver_41 : decode cX6_goOver 41 = .ok (.iadd, 1) := by decide +kernel
theorem dX6_goOver_42 : decode cX6_goOver 42 = .ok (.iaload, 1) := by decide +kernel
theorem dX6_goOver_43 : decode cX6_goOver 43 = .ok (.iload_n 1, 1) := by decide +kernel
theorem dX6_goOver_44 : decode cX6_goOver 44 = .ok (.if_icmp .gt 39, 3) := by decide +kernel
theorem dX6_goOver_47 : decode cX6_goOver 47 = .ok (.aload_n 0, 1) := by decide +kernel
theorem dX6_goOver_48 : decode cX6_goOver 48 = .ok (.getfield 30, 3) := by decide +kernel
theorem dX6_goOver_51 : decode cX6_goOver 51 = .ok (.bipush 8, 2) := by decide +kernel
theorem dX6_goOver_53 : decode cX6_goOver 53 = .ok (.aload_n 0, 1) := by decide +kernel
theorem dX6_goOver_54 : decode cX6_goOver 54 = .ok (.getfield 78, 3) := by decide +kernel
theorem dX6_goOver_57 : decode cX6_goOver 57 = .ok (.iload_n 3, 1) := by decide +kernel
theorem dX6_goOver_58 : decode cX6_goOver 58 = .ok (.iaload, 1) := by decide +kernel
theorem dX6_goOver_59 : decode cX6_goOver 59 = .ok (.imul, 1) := by decide +kernel
theorem dX6_goOver_60 : decode cX6_goOver 60 = .ok (.bipush 7, 2) := by decide +kernel
theorem dX6_goOver_62 : decode cX6_goOver 62 = .ok (.iadd, 1) := by decide +kernel
theorem dX6_goOver_63 : decode cX6_goOver 63 = .ok (.iaload, 1) := by decide +kernel
theorem dX6_goOver_64 : decode cX6_goOver 64 = .ok (.iload_n 2, 1) := by decide +kernel
theorem dX6_goOver_65 : decode cX6_goOver 65 = .ok (.if_icmp .gt 18, 3) := by decide +kernel
theorem dX6_goOver_68 : decode cX6_goOver 68 = .ok (.aload_n 0, 1) := by decide +kernel
theorem dX6_goOver_69 : decode cX6_goOver 69 = .ok (.aload_n 0, 1) := by decide +kernel
theorem dX6_goOver_70 : decode cX6_goOver 70 = .ok (.getfield 30, 3) := by decide +kernel
theorem dX6_goOver_73 : decode cX6_goOver 73 = .ok (.aload_n 0, 1) := by decide +kernel
theorem dX6_goOver_74 : decode cX6_goOver 74 = .ok (.getfield 78, 3) := by decide +kernel
theorem dX6_goOver_77 : decode cX6_goOver 77 = .ok (.iload_n 3, 1) := by decide +kernel
theorem dX6_goOver_78 : decode cX6_goOver 78 = .ok (.iaload, 1) := by decide +kernel
theorem dX6_goOver_79 : decode cX6_goOver 79 = .ok (.invokevirtual 192, 3) := by decide +kernel
theorem dX6_goOver_82 : decode cX6_goOver 82 = .ok (.pop, 1) := by decide +kernel
theorem dX6_goOver_83 : decode cX6_goOver 83 = .ok (.iinc 3 1, 3) := by decide +kernel
theorem dX6_goOver_86 : decode cX6_goOver 86 = .ok (.goto (-68), 3) := by decide +kernel
theorem dX6_goOver_89 : decode cX6_goOver 89 = .ok (.return_, 1) := by decide +kernel
def j_X6_goOver_83  (Q : St → Prop) (rec18 : Int32 → Int32 → Int32 → St → Prop) (v1 : Int32) (v2 : Int32) (v3 : Int32) (σ : St) : Prop :=
  rec18 v1 v2 (v3 + 1) σ
theorem wk_X6_goOver_83 (X : cx p s m args c cX6_goOver 4 RX6 D (wM cI cZ a) A (tyW cI cZ cH)) (hr9 : meth.sig.returnType = none) (hlk9 : meth.locks = false)  {Q : St → Prop} {rec18 : Int32 → Int32 → Int32 → St → Prop} (hrec18 : ∀ (v1 : Int32) (v2 : Int32) (v3 : Int32) (σ : St), rec18 v1 v2 v3 σ → go p l e rm_X6_goOver s m args below meth c D (wM cI cZ a) A 0 0 (MQ below (va_Qv Q (atw D (wM cI cZ a) (tyW cI cZ cH) A) A) args s 0 0 A) 4 18 [(0, .ref (a 0)), (1, .int v1), (2, .int v2), (3, .int v3)] [] σ) {v1 : Int32} {v2 : Int32} {v3 : Int32} {σ : St} (h : j_X6_goOver_83 Q rec18 v1 v2 v3 σ) : go p l e rm_X6_goOver s m args below meth c D (wM cI cZ a) A 0 0 (MQ below (va_Qv Q (atw D (wM cI cZ a) (tyW cI cZ cH) A) A) args s 0 0 A) 4 83 [(0, .ref (a 0)), (1, .int v1), (2, .int v2), (3, .int v3)] [] σ := by
  delta j_X6_goOver_83 at h
  refine r_iinc (d := 1) X 3 86 [(3, .int (v3 + 1)), (0, .ref (a 0)), (1, .int v1), (2, .int v2)] dX6_goOver_83 rfl (by decide) (by decide) rfl rfl ?_
  refine r_goto X 18 dX6_goOver_86 rfl ?_
  refine r_pick (lv' := [(0, .ref (a 0)), (1, .int v1), (2, .int v2), (3, .int (v3 + 1))]) [1, 2, 3, 0] rfl ?_
  exact hrec18 _ _ _ _ h
def b_X6_goOver_18  (Q : St → Prop) (rec18 : Int32 → Int32 → Int32 → St → Prop) (v1 : Int32) (v2 : Int32) (v3 : Int32) (σ : St) : Prop :=
  if v3 < (σ 0 3) then
  (vp_in v3 401 ∧
  (vp_in (((8 : Int32) * (σ 20 (ix v3))) + 6) 3208 ∧
  (if v1 < (σ 6 (ix (((8 : Int32) * (σ 20 (ix v3))) + 6))) then
  (j_X6_goOver_83 Q rec18 v1 v2 v3 σ)
  else (vp_in v3 401 ∧
  (vp_in (((8 : Int32) * (σ 20 (ix v3))) + 7) 3208 ∧
  (if v2 < (σ 6 (ix (((8 : Int32) * (σ 20 (ix v3))) + 7))) then
  (j_X6_goOver_83 Q rec18 v1 v2 v3 σ)
  else (vp_in v3 401 ∧
  (wp_X6_isDone 6 σ (σ 20 (ix v3)) (fun y4 σ3 =>
  j_X6_goOver_83 Q rec18 v1 v2 v3 σ3)))))))))
  else (Q σ)
def lp_X6_goOver_18  (Q : St → Prop) (n9 : Nat) : Int32 → Int32 → Int32 → St → Prop :=
  Nat.rec (fun _ _ _ _ => False) (fun _ rec9 => b_X6_goOver_18  Q  rec9) n9
theorem wk_X6_goOver_18 (X : cx p s m args c cX6_goOver 4 RX6 D (wM cI cZ a) A (tyW cI cZ cH)) (hr9 : meth.sig.returnType = none) (hlk9 : meth.locks = false)  {Q : St → Prop} : ∀ (n9 : Nat) {v1 : Int32} {v2 : Int32} {v3 : Int32} {σ : St}, lp_X6_goOver_18 Q n9 v1 v2 v3 σ → go p l e rm_X6_goOver s m args below meth c D (wM cI cZ a) A 0 0 (MQ below (va_Qv Q (atw D (wM cI cZ a) (tyW cI cZ cH) A) A) args s 0 0 A) 4 18 [(0, .ref (a 0)), (1, .int v1), (2, .int v2), (3, .int v3)] [] σ := by
  intro n9
  induction n9 with
  | zero => intro v1 v2 v3 σ h; exact h.elim
  | succ n9 ih =>
    intro v1 v2 v3 σ h
    have hrec18 := fun v1 v2 v3 σ h => ih (σ := σ) (v1 := v1) (v2 := v2) (v3 := v3) h
    replace h : b_X6_goOver_18 Q (lp_X6_goOver_18 Q n9) v1 v2 v3 σ := h
    delta b_X6_goOver_18 at h
    refine r_iload_n X 3 19 dX6_goOver_18 rfl rfl rfl ?_
    refine r_aload_n X 0 20 dX6_goOver_19 rfl rfl rfl ?_
    refine g_X6_195 X 23 dX6_goOver_20 rfl ?_
    refine r_icmp_ge X 89 26 h dX6_goOver_23 rfl rfl (fun h => ?_) (fun h => ?_)
    · exact r_vret X hr9 hlk9 h dX6_goOver_89
    · refine r_aload_n X 0 27 dX6_goOver_26 rfl rfl rfl ?_
      refine g_X6_30 X 30 dX6_goOver_27 rfl ?_
      refine r_bipush (v := 8) X 32 dX6_goOver_30 (by decide) rfl ?_
      refine r_aload_n X 0 33 dX6_goOver_32 rfl rfl rfl ?_
      refine g_X6_78 X 36 dX6_goOver_33 rfl ?_
      refine r_iload_n X 3 37 dX6_goOver_36 rfl rfl rfl ?_
      obtain ⟨hin, h⟩ := h
      refine l_M20 X 38 hin dX6_goOver_37 rfl ?_
      refine r_imul X 39 dX6_goOver_38 rfl ?_
      refine r_bipush (v := 6) X 41 dX6_goOver_39 (by decide) rfl ?_
      refine r_iadd X 42 dX6_goOver_41 rfl ?_
      obtain ⟨hin, h⟩ := h
      refine l_Mk X (Or.inl rfl) 43 hin dX6_goOver_42 rfl ?_
      refine r_iload_n X 1 44 dX6_goOver_43 rfl rfl rfl ?_
      refine r_icmp_gt X 83 47 h dX6_goOver_44 rfl rfl (fun h => ?_) (fun h => ?_)
      · refine r_pick (lv' := [(0, .ref (a 0)), (1, .int v1), (2, .int v2), (3, .int v3)]) [0, 1, 2, 3] rfl ?_
        exact wk_X6_goOver_83 X hr9 hlk9 hrec18 h
      · refine r_aload_n X 0 48 dX6_goOver_47 rfl rfl rfl ?_
        refine g_X6_30 X 51 dX6_goOver_48 rfl ?_
        refine r_bipush (v := 8) X 53 dX6_goOver_51 (by decide) rfl ?_
        refine r_aload_n X 0 54 dX6_goOver_53 rfl rfl rfl ?_
        refine g_X6_78 X 57 dX6_goOver_54 rfl ?_
        refine r_iload_n X 3 58 dX6_goOver_57 rfl rfl rfl ?_
        obtain ⟨hin, h⟩ := h
        refine l_M20 X 59 hin dX6_goOver_58 rfl ?_
        refine r_imul X 60 dX6_goOver_59 rfl ?_
        refine r_bipush (v := 7) X 62 dX6_goOver_60 (by decide) rfl ?_
        refine r_iadd X 63 dX6_goOver_62 rfl ?_
        obtain ⟨hin, h⟩ := h
        refine l_Mk X (Or.inl rfl) 64 hin dX6_goOver_63 rfl ?_
        refine r_iload_n X 2 65 dX6_goOver_64 rfl rfl rfl ?_
        refine r_icmp_gt X 83 68 h dX6_goOver_65 rfl rfl (fun h => ?_) (fun h => ?_)
        · refine r_pick (lv' := [(0, .ref (a 0)), (1, .int v1), (2, .int v2), (3, .int v3)]) [0, 1, 2, 3] rfl ?_
          exact wk_X6_goOver_83 X hr9 hlk9 hrec18 h
        · refine r_aload_n X 0 69 dX6_goOver_68 rfl rfl rfl ?_
          refine r_aload_n X 0 70 dX6_goOver_69 rfl rfl rfl ?_
          refine g_X6_30 X 73 dX6_goOver_70 rfl ?_
          refine r_aload_n X 0 74 dX6_goOver_73 rfl rfl rfl ?_
          refine g_X6_78 X 77 dX6_goOver_74 rfl ?_
          refine r_iload_n X 3 78 dX6_goOver_77 rfl rfl rfl ?_
          obtain ⟨hin, h⟩ := h
          refine l_M20 X 79 hin dX6_goOver_78 rfl ?_
          refine r_callI (As := [.ref (a 6), .int (σ 20 (ix v3))]) (rest := []) X 82 (c_X6_isDone (Or.inl rfl) h) ml_X6_192 lk_X6_isDone wM_at_0 rfl rfl rfl (Nat.le_of_ble_eq_true rfl) ⟨rfl, rfl, ⟨Nat.le_of_ble_eq_true rfl, Nat.le_of_ble_eq_true rfl⟩, Nat.le_of_ble_eq_true rfl, Nat.le_of_ble_eq_true rfl⟩ dX6_goOver_79 rfl (fun y4 σ3 h => ?_)
          obtain ⟨hb_y4, h⟩ := h
          refine r_pop X 83 dX6_goOver_82 rfl rfl ?_
          refine r_pick (lv' := [(0, .ref (a 0)), (1, .int v1), (2, .int v2), (3, .int v3)]) [0, 1, 2, 3] rfl ?_
          exact wk_X6_goOver_83 X hr9 hlk9 hrec18 h
def wp_X6_goOver  (σ : St) (x1 : Int32) (x2 : Int32) (Q : St → Prop) : Prop :=
  wp_X6_sort 6 σ (σ 0 3) (fun σ1 =>
  wp_X6_begin σ1 (fun σ2 =>
  ∃ n9 : Nat, lp_X6_goOver_18 Q n9 x1 x2 0 σ2))
theorem c_X6_goOver  {σ : St} {x1 : Int32} {x2 : Int32} {Q : St → Prop} (h : wp_X6_goOver σ x1 x2 Q) : ctV l yX6_goOver cX6_goOver 4 none rm_X6_goOver D (wM cI cZ a) (tyW cI cZ cH) [.ref (a 0), .int x1, .int x2] σ Q := by
  refine mk_V (wM_ok cI cZ a) (by decide +kernel) (Nat.le_of_ble_eq_true rfl) (fun p e s m args below meth c A X hr9 hlk9 => ?_)
  refine r_pick (lv' := [(0, .ref (a 0)), (1, .int x1), (2, .int x2)]) [0, 1, 2] rfl ?_
  delta wp_X6_goOver at h
  refine r_aload_n X 0 1 dX6_goOver_0 rfl rfl rfl ?_
  refine r_aload_n X 0 2 dX6_goOver_1 rfl rfl rfl ?_
  refine g_X6_30 X 5 dX6_goOver_2 rfl ?_
  refine r_aload_n X 0 6 dX6_goOver_5 rfl rfl rfl ?_
  refine g_X6_195 X 9 dX6_goOver_6 rfl ?_
  refine r_callV (As := [.ref (a 6), .int (σ 0 3)]) (rest := []) X 12 (c_X6_sort (Or.inl rfl) h) ml_X6_184 lk_X6_sort wM_at_0 rfl rfl rfl (Nat.le_of_ble_eq_true rfl) ⟨rfl, rfl, ⟨Nat.le_of_ble_eq_true rfl, Nat.le_of_ble_eq_true rfl⟩, Nat.le_of_ble_eq_true rfl, Nat.le_of_ble_eq_true rfl⟩ dX6_goOver_9 rfl (fun σ1 h => ?_)
  refine r_aload_n X 0 13 dX6_goOver_12 rfl rfl rfl ?_
  refine r_callV (As := []) (rest := []) X 16 (c_X6_begin h) ml_X6_90 lk_X6_begin wM_at_0 rfl rfl rfl (Nat.le_of_ble_eq_true rfl) ⟨rfl, rfl, ⟨Nat.le_of_ble_eq_true rfl, Nat.le_of_ble_eq_true rfl⟩, Nat.le_of_ble_eq_true rfl, Nat.le_of_ble_eq_true rfl⟩ dX6_goOver_13 rfl (fun σ2 h => ?_)
  refine r_iconst (v := 0) X 17 dX6_goOver_16 (by decide) rfl ?_
  refine r_istore_n X 18 [(3, .int 0), (0, .ref (a 0)), (1, .int x1), (2, .int x2)] dX6_goOver_17 rfl (by decide) rfl rfl ?_
  refine r_pick (lv' := [(0, .ref (a 0)), (1, .int x1), (2, .int x2), (3, .int 0)]) [1, 2, 3, 0] rfl ?_
  obtain ⟨n9, h⟩ := h
  exact wk_X6_goOver_18 X hr9 hlk9 n9 h
def rm_X6_goOverAll : Room := { frames := 7, cells := 0, slots := 0, locals := 172 }
theorem dX6_goOverAll_0 : decode cX6_goOverAll 0 = .ok (.aload_n 0, 1) := by decide +kernel
theorem dX6_goOverAll_1 : decode cX6_goOverAll 1 = .ok (.ldc 198, 2) := by decide +kernel
theorem dX6_goOverAll_3 : decode cX6_goOverAll 3 = .ok (.ldc 198, 2) := by decide +kernel
theorem dX6_goOverAll_5 : decode cX6_goOverAll 5 = .ok (.invokevirtual 199, 3) := by decide +kernel
theorem dX6_goOverAll_8 : decode cX6_goOverAll 8 = .ok (.return_, 1) := by decide +kernel
def wp_X6_goOverAll  (σ : St) (Q : St → Prop) : Prop :=
  wp_X6_goOver σ 2147483647 2147483647 (fun σ1 =>
  Q σ1)
theorem c_X6_goOverAll  {σ : St} {Q : St → Prop} (h : wp_X6_goOverAll σ Q) : ctV l yX6_goOverAll cX6_goOverAll 1 none rm_X6_goOverAll D (wM cI cZ a) (tyW cI cZ cH) [.ref (a 0)] σ Q := by
  refine mk_V (wM_ok cI cZ a) (by decide +kernel) (Nat.le_of_ble_eq_true rfl) (fun p e s m args below meth c A X hr9 hlk9 => ?_)
  refine r_pick (lv' := [(0, .ref (a 0))]) [0] rfl ?_
  delta wp_X6_goOverAll at h
  refine r_aload_n X 0 1 dX6_goOverAll_0 rfl rfl rfl ?_
  refine r_ldc (v := 2147483647) X 3 dX6_goOverAll_1 cn_X6_198 rfl ?_
  refine r_ldc (v := 2147483647) X 5 dX6_goOverAll_3 cn_X6_198 rfl ?_
  refine r_callV (As := [.int 2147483647, .int 2147483647]) (rest := []) X 8 (c_X6_goOver h) ml_X6_199 lk_X6_goOver wM_at_0 rfl rfl rfl (Nat.le_of_ble_eq_true rfl) ⟨rfl, rfl, ⟨Nat.le_of_ble_eq_true rfl, Nat.le_of_ble_eq_true rfl⟩, Nat.le_of_ble_eq_true rfl, Nat.le_of_ble_eq_true rfl⟩ dX6_goOverAll_5 rfl (fun σ1 h => ?_)
  exact r_vret X hr9 hlk9 h dX6_goOverAll_8
def rm_X6_hand : Room := { frames := 0, cells := 0, slots := 0, locals := 0 }
theorem dX6_hand_0 : decode cX6_hand 0 = .ok (.aload_n 0, 1) := by decide +kernel
theorem dX6_hand_1 : decode cX6_hand 1 = .ok (.getfield 100, 3) := by decide +kernel
theorem dX6_hand_4 : decode cX6_hand 4 = .ok (.bipush 20, 2) := by decide +kernel
theorem dX6_hand_6 : decode cX6_hand 6 = .ok (.if_icmp .ne 5, 3) := by decide +kernel
theorem dX6_hand_9 : decode cX6_hand 9 = .ok (.iconst (-1), 1) := by decide +kernel
theorem dX6_hand_10 : decode cX6_hand 10 = .ok (.ireturn, 1) := by decide +kernel
theorem dX6_hand_11 : decode cX6_hand 11 = .ok (.aload_n 0, 1) := by decide +kernel
theorem dX6_hand_12 : decode cX6_hand 12 = .ok (.getfield 13, 3) := by decide +kernel
theorem dX6_hand_15 : decode cX6_hand 15 = .ok (.aload_n 0, 1) := by decide +kernel
theorem dX6_hand_16 : decode cX6_hand 16 = .ok (.getfield 100, 3) := by decide +kernel
theorem dX6_hand_19 : decode cX6_hand 19 = .ok (.iload_n 1, 1) := by decide +kernel
theorem dX6_hand_20 : decode cX6_hand 20 = .ok (.bastore, 1) := by decide +kernel
theorem dX6_hand_21 : decode cX6_hand 21 = .ok (.aload_n 0, 1) := by decide +kernel
theorem dX6_hand_22 : decode cX6_hand 22 = .ok (.dup, 1) := by decide +kernel
theorem dX6_hand_23 : decode cX6_hand 23 = .ok (.getfield 100, 3) := by decide +kernel
theorem dX6_hand_26 : decode cX6_hand 26 = .ok (.iconst 1, 1) := by decide +kernel
theorem dX6_hand_27 : decode cX6_hand 27 = .ok (.iadd, 1) := by decide +kernel
theorem dX6_hand_28 : decode cX6_hand 28 = .ok (.putfield 100, 3) := by decide +kernel
theorem dX6_hand_31 : decode cX6_hand 31 = .ok (.aload_n 0, 1) := by decide +kernel
theorem dX6_hand_32 : decode cX6_hand 32 = .ok (.getfield 100, 3) := by decide +kernel
theorem dX6_hand_35 : decode cX6_hand 35 = .ok (.iconst 1, 1) := by decide +kernel
theorem dX6_hand_36 : decode cX6_hand 36 = .ok (.isub, 1) := by decide +kernel
theorem dX6_hand_37 : decode cX6_hand 37 = .ok (.ireturn, 1) := by decide +kernel
def wp_X6_hand  (σ : St) (x1 : Int32) (Q : Int32 → St → Prop) : Prop :=
  if (σ 0 0) = 20 then
  (Q (-1) σ)
  else (vp_in (σ 0 0) 20 ∧
  nmS (up2 σ 1 (ix (σ 0 0)) (vp_nar .boolean x1)) (fun σ1 =>
  nmS (up2 σ1 0 0 ((σ1 0 0) + 1)) (fun σ2 =>
  Q ((σ2 0 0) - 1) σ2)))
theorem c_X6_hand  {σ : St} {x1 : Int32} {Q : Int32 → St → Prop} (h : wp_X6_hand σ x1 Q) : ctI l yX6_hand cX6_hand 2 (some .int) rm_X6_hand D (wM cI cZ a) (tyW cI cZ cH) [.ref (a 0), .int x1] σ Q := by
  refine mk_I (wM_ok cI cZ a) (by decide +kernel) (Nat.le_of_ble_eq_true rfl) (fun p e s m args below meth c A X hr9 hlk9 => ?_)
  refine r_pick (lv' := [(0, .ref (a 0)), (1, .int x1)]) [0, 1] rfl ?_
  delta wp_X6_hand at h
  refine r_aload_n X 0 1 dX6_hand_0 rfl rfl rfl ?_
  refine g_X6_100 X 4 dX6_hand_1 rfl ?_
  refine r_bipush (v := 20) X 6 dX6_hand_4 (by decide) rfl ?_
  refine r_icmp_ne X 11 9 h dX6_hand_6 rfl rfl (fun h => ?_) (fun h => ?_)
  · refine r_aload_n X 0 12 dX6_hand_11 rfl rfl rfl ?_
    refine g_X6_13 X 15 dX6_hand_12 rfl ?_
    refine r_aload_n X 0 16 dX6_hand_15 rfl rfl rfl ?_
    refine g_X6_100 X 19 dX6_hand_16 rfl ?_
    refine r_iload_n X 1 20 dX6_hand_19 rfl rfl rfl ?_
    obtain ⟨hin, h⟩ := h
    refine s_M1 X rfl 21 hin dX6_hand_20 rfl ?_
    refine r_nmS h (fun σ1 h => ?_)
    refine r_aload_n X 0 22 dX6_hand_21 rfl rfl rfl ?_
    refine r_dup X 23 dX6_hand_22 rfl rfl ?_
    refine g_X6_100 X 26 dX6_hand_23 rfl ?_
    refine r_iconst (v := 1) X 27 dX6_hand_26 (by decide) rfl ?_
    refine r_iadd X 28 dX6_hand_27 rfl ?_
    refine u_X6_100 X 31 dX6_hand_28 rfl ?_
    refine r_nmS h (fun σ2 h => ?_)
    refine r_aload_n X 0 32 dX6_hand_31 rfl rfl rfl ?_
    refine g_X6_100 X 35 dX6_hand_32 rfl ?_
    refine r_iconst (v := 1) X 36 dX6_hand_35 (by decide) rfl ?_
    refine r_isub X 37 dX6_hand_36 rfl ?_
    exact r_iret X hr9 hlk9 h dX6_hand_37
  · refine r_iconst (v := (-1)) X 10 dX6_hand_9 (by decide) rfl ?_
    exact r_iret X hr9 hlk9 h dX6_hand_10
def rm_X6_shelf : Room := { frames := 0, cells := 0, slots := 0, locals := 0 }
theorem dX6_shelf_0 : decode cX6_shelf 0 = .ok (.aload_n 0, 1) := by decide +kernel
theorem dX6_shelf_1 : decode cX6_shelf 1 = .ok (.getfield 103, 3) := by decide +kernel
theorem dX6_shelf_4 : decode cX6_shelf 4 = .ok (.bipush 8, 2) := by decide +kernel
theorem dX6_shelf_6 : decode cX6_shelf 6 = .ok (.if_icmp .ne 5, 3) := by decide +kernel
theorem dX6_shelf_9 : decode cX6_shelf 9 = .ok (.iconst (-1), 1) := by decide +kernel
theorem dX6_shelf_10 : decode cX6_shelf 10 = .ok (.ireturn, 1) := by decide +kernel
theorem dX6_shelf_11 : decode cX6_shelf 11 = .ok (.aload_n 0, 1) := by decide +kernel
theorem dX6_shelf_12 : decode cX6_shelf 12 = .ok (.getfield 17, 3) := by decide +kernel
theorem dX6_shelf_15 : decode cX6_shelf 15 = .ok (.aload_n 0, 1) := by decide +kernel
theorem dX6_shelf_16 : decode cX6_shelf 16 = .ok (.getfield 103, 3) := by decide +kernel
theorem dX6_shelf_19 : decode cX6_shelf 19 = .ok (.iload_n 1, 1) := by decide +kernel
theorem dX6_shelf_20 : decode cX6_shelf 20 = .ok (.bastore, 1) := by decide +kernel
theorem dX6_shelf_21 : decode cX6_shelf 21 = .ok (.aload_n 0, 1) := by decide +kernel
theorem dX6_shelf_22 : decode cX6_shelf 22 = .ok (.dup, 1) := by decide +kernel
theorem dX6_shelf_23 : decode cX6_shelf 23 = .ok (.getfield 103, 3) := by decide +kernel
theorem dX6_shelf_26 : decode cX6_shelf 26 = .ok (.iconst 1, 1) := by decide +kernel
theorem dX6_shelf_27 : decode cX6_shelf 27 = .ok (.iadd, 1) := by decide +kernel
theorem dX6_shelf_28 : decode cX6_shelf 28 = .ok (.putfield 103, 3) := by decide +kernel
theorem dX6_shelf_31 : decode cX6_shelf 31 = .ok (.aload_n 0, 1) := by decide +kernel
theorem dX6_shelf_32 : decode cX6_shelf 32 = .ok (.getfield 103, 3) := by decide +kernel
theorem dX6_shelf_35 : decode cX6_shelf 35 = .ok (.iconst 1, 1) := by decide +kernel
theorem dX6_shelf_36 : decode cX6_shelf 36 = .ok (.isub, 1) := by decide +kernel
theorem dX6_shelf_37 : decode cX6_shelf 37 = .ok (.ireturn, 1) := by decide +kernel
def wp_X6_shelf  (σ : St) (x1 : Int32) (Q : Int32 → St → Prop) : Prop :=
  if (σ 0 1) = 8 then
  (Q (-1) σ)
  else (vp_in (σ 0 1) 8 ∧
  nmS (up2 σ 2 (ix (σ 0 1)) (vp_nar .boolean x1)) (fun σ1 =>
  nmS (up2 σ1 0 1 ((σ1 0 1) + 1)) (fun σ2 =>
  Q ((σ2 0 1) - 1) σ2)))
theorem c_X6_shelf  {σ : St} {x1 : Int32} {Q : Int32 → St → Prop} (h : wp_X6_shelf σ x1 Q) : ctI l yX6_shelf cX6_shelf 2 (some .int) rm_X6_shelf D (wM cI cZ a) (tyW cI cZ cH) [.ref (a 0), .int x1] σ Q := by
  refine mk_I (wM_ok cI cZ a) (by decide +kernel) (Nat.le_of_ble_eq_true rfl) (fun p e s m args below meth c A X hr9 hlk9 => ?_)
  refine r_pick (lv' := [(0, .ref (a 0)), (1, .int x1)]) [0, 1] rfl ?_
  delta wp_X6_shelf at h
  refine r_aload_n X 0 1 dX6_shelf_0 rfl rfl rfl ?_
  refine g_X6_103 X 4 dX6_shelf_1 rfl ?_
  refine r_bipush (v := 8) X 6 dX6_shelf_4 (by decide) rfl ?_
  refine r_icmp_ne X 11 9 h dX6_shelf_6 rfl rfl (fun h => ?_) (fun h => ?_)
  · refine r_aload_n X 0 12 dX6_shelf_11 rfl rfl rfl ?_
    refine g_X6_17 X 15 dX6_shelf_12 rfl ?_
    refine r_aload_n X 0 16 dX6_shelf_15 rfl rfl rfl ?_
    refine g_X6_103 X 19 dX6_shelf_16 rfl ?_
    refine r_iload_n X 1 20 dX6_shelf_19 rfl rfl rfl ?_
    obtain ⟨hin, h⟩ := h
    refine s_M2 X rfl 21 hin dX6_shelf_20 rfl ?_
    refine r_nmS h (fun σ1 h => ?_)
    refine r_aload_n X 0 22 dX6_shelf_21 rfl rfl rfl ?_
    refine r_dup X 23 dX6_shelf_22 rfl rfl ?_
    refine g_X6_103 X 26 dX6_shelf_23 rfl ?_
    refine r_iconst (v := 1) X 27 dX6_shelf_26 (by decide) rfl ?_
    refine r_iadd X 28 dX6_shelf_27 rfl ?_
    refine u_X6_103 X 31 dX6_shelf_28 rfl ?_
    refine r_nmS h (fun σ2 h => ?_)
    refine r_aload_n X 0 32 dX6_shelf_31 rfl rfl rfl ?_
    refine g_X6_103 X 35 dX6_shelf_32 rfl ?_
    refine r_iconst (v := 1) X 36 dX6_shelf_35 (by decide) rfl ?_
    refine r_isub X 37 dX6_shelf_36 rfl ?_
    exact r_iret X hr9 hlk9 h dX6_shelf_37
  · refine r_iconst (v := (-1)) X 10 dX6_shelf_9 (by decide) rfl ?_
    exact r_iret X hr9 hlk9 h dX6_shelf_10
def rm_X6_seals : Room := { frames := 1, cells := 0, slots := 0, locals := 22 }
theorem dX6_seals_0 : decode cX6_seals 0 = .ok (.iload_n 1, 1) := by decide +kernel
theorem dX6_seals_1 : decode cX6_seals 1 = .ok (.iconst 0, 1) := by decide +kernel
theorem dX6_seals_2 : decode cX6_seals 2 = .ok (.iconst 5, 1) := by decide +kernel
theorem dX6_seals_3 : decode cX6_seals 3 = .ok (.invokestatic 96, 3) := by decide +kernel
theorem dX6_seals_6 : decode cX6_seals 6 = .ok (.ifCond .eq 13, 3) := by decide +kernel
theorem dX6_seals_9 : decode cX6_seals 9 = .ok (.iload_n 2, 1) := by decide +kernel
theorem dX6_seals_10 : decode cX6_seals 10 = .ok (.iconst (-1), 1) := by decide +kernel
theorem dX6_seals_11 : decode cX6_seals 11 = .ok (.bipush 50, 2) := by decide +kernel
theorem dX6_seals_13 : decode cX6_seals 13 = .ok (.invokestatic 96, 3) := by decide +kernel
theorem dX6_seals_16 : decode cX6_seals 16 = .ok (.ifCond .ne 5, 3) := by decide +kernel
theorem dX6_seals_19 : decode cX6_seals 19 = .ok (.iconst 0, 1) := by decide +kernel
theorem dX6_seals_20 : decode cX6_seals 20 = .ok (.ireturn, 1) := by decide +kernel
theorem dX6_seals_21 : decode cX6_seals 21 = .ok (.iconst 0, 1) := by decide +kernel
theorem dX6_seals_22 : decode cX6_seals 22 = .ok (.istore_n 3, 1) := by decide +kernel
theorem dX6_seals_23 : decode cX6_seals 23 = .ok (.iload_n 3, 1) := by decide +kernel
theorem dX6_seals_24 : decode cX6_seals 24 = .ok (.aload_n 0, 1) := by decide +kernel
theorem dX6_seals_25 : decode cX6_seals 25 = .ok (.getfield 195, 3) := by decide +kernel
theorem dX6_seals_28 : decode cX6_seals 28 = .ok (.if_icmp .ge 61, 3) := by decide +kernel
theorem dX6_seals_31 : decode cX6_seals 31 = .ok (.aload_n 0, 1) := by decide +kernel
theorem dX6_seals_32 : decode cX6_seals 32 = .ok (.getfield 30, 3) := by decide +kernel
theorem dX6_seals_35 : decode cX6_seals 35 = .ok (.bipush 8, 2) := by decide +kernel
theorem dX6_seals_37 : decode cX6_seals 37 = .ok (.iload_n 3, 1) := by decide +kernel
theorem dX6_seals_38 : decode cX6_seals 38 = .ok (.imul, 1) := by decide +kernel
theorem dX6_seals_39 : decode cX6_seals 39 = .ok (.iaload, 1) := by decide +kernel
theorem dX6_seals_40 : decode cX6_seals 40 = .ok (.bipush 8, 2) := by decide +kernel
theorem dX6_seals_42 : decode cX6_seals 42 = .ok (.if_icmp .ne 41, 3) := by decide +kernel
theorem dX6_seals_45 : decode cX6_seals 45 = .ok (.aload_n 0, 1) := by decide +kernel
theorem dX6_seals_46 : decode cX6_seals 46 = .ok (.getfield 30, 3) := by decide +kernel
theorem dX6_seals_49 : decode cX6_seals 49 = .ok (.bipush 8, 2) := by decide +kernel
theorem dX6_seals_51 : decode cX6_seals 51 = .ok (.iload_n 3, 1) := by decide +kernel
theorem dX6_seals_52 : decode cX6_seals 52 = .ok (.imul, 1) := by decide +kernel
theorem dX6_seals_53 : decode cX6_seals 53 = .ok (.iconst 4, 1) := by decide +kernel
theorem dX6_seals_54 : decode cX6_seals 54 = .ok (.iadd, 1) := by decide +kernel
theorem dX6_seals_55 : decode cX6_seals 55 = .ok (.iaload, 1) := by decide +kernel
theorem dX6_seals_56 : decode cX6_seals 56 = .ok (.bipush 100, 2) := by decide +kernel
theorem dX6_seals_58 : decode cX6_seals 58 = .ok (.idiv, 1) := by decide +kernel
theorem dX6_seals_59 : decode cX6_seals 59 = .ok (.iload_n 1, 1) := by decide +kernel
theorem dX6_seals_60 : decode cX6_seals 60 = .ok (.if_icmp .ne 23, 3) := by decide +kernel
theorem dX6_seals_63 : decode cX6_seals 63 = .ok (.aload_n 0, 1) := by decide +kernel
theorem dX6_seals_64 : decode cX6_seals 64 = .ok (.getfield 30, 3) := by decide +kernel
theorem dX6_seals_67 : decode cX6_seals 67 = .ok (.bipush 8, 2) := by decide +kernel
theorem dX6_seals_69 : decode cX6_seals 69 = .ok (.iload_n 3, 1) := by decide +kernel
theorem dX6_seals_70 : decode cX6_seals 70 = .ok (.imul, 1) := by decide +kernel
theorem dX6_seals_71 : decode cX6_seals 71 = .ok (.iconst 4, 1) := by decide +kernel
theorem dX6_seals_72 : decode cX6_seals 72 = .ok (.iadd, 1) := by decide +kernel
theorem dX6_seals_73 : decode cX6_seals 73 = .ok (.iaload, 1) := by decide +kernel
theorem dX6_seals_74 : decode cX6_seals 74 = .ok (.bipush 100, 2) := by decide +kernel
theorem dX6_seals_76 : decode cX6_seals 76 = .ok (.irem, 1) := by decide +kernel
theorem dX6_seals_77 : decode cX6_seals 77 = .ok (.iload_n 2, 1) := by decide +kernel
theorem dX6_seals_78 : decode cX6_seals 78 = .ok (.if_icmp .lt 5, 3) := by decide +kernel
theorem dX6_seals_81 : decode cX6_seals 81 = .ok (.iconst 0, 1) := by decide +kernel
theorem dX6_seals_82 : decode cX6_seals 82 = .ok (.ireturn, 1) := by decide +kernel
theorem dX6_seals_83 : decode cX6_seals 83 = .ok (.iinc 3 1, 3) := by decide +kernel
theorem dX6_seals_86 : decode cX6_seals 86 = .ok (.goto (-63), 3) := by decide +kernel
theorem dX6_seals_89 : decode cX6_seals 89 = .ok (.aload_n 0, 1) := by decide +kernel
theorem dX6_seals_90 : decode cX6_seals 90 = .ok (.getfield 20, 3) := by decide +kernel
theorem dX6_seals_93 : decode cX6_seals 93 = .ok (.iload_n 1, 1) := by decide +kernel
theorem dX6_seals_94 : decode cX6_seals 94 = .ok (.iload_n 2, 1) := by decide +kernel
theorem dX6_seals_95 : decode cX6_seals 95 = .ok (.iastore, 1) := by decide +kernel
theorem dX6_seals_96 : decode cX6_seals 96 = .ok (.iconst 1, 1) := by decide +kernel
theorem dX6_seals_97 : decode cX6_seals 97 = .ok (.ireturn, 1) := by decide +kernel
def j_X6_seals_83  (Q : Int32 → St → Prop) (rec23 : Int32 → Int32 → Int32 → St → Prop) (v1 : Int32) (v2 : Int32) (v3 : Int32) (σ : St) : Prop :=
  rec23 v1 v2 (v3 + 1) σ
theorem wk_X6_seals_83 (X : cx p s m args c cX6_seals 4 RX6 D (wM cI cZ a) A (tyW cI cZ cH)) (hr9 : meth.sig.returnType = (some .boolean)) (hlk9 : meth.locks = false)  {Q : Int32 → St → Prop} {rec23 : Int32 → Int32 → Int32 → St → Prop} (hrec23 : ∀ (v1 : Int32) (v2 : Int32) (v3 : Int32) (σ : St), rec23 v1 v2 v3 σ → go p l e rm_X6_seals s m args below meth c D (wM cI cZ a) A 0 0 (MQ below (va_Qi (fun r9 u9 => isB r9 ∧ Q r9 u9) (atw D (wM cI cZ a) (tyW cI cZ cH) A) A) args s 0 0 A) 4 23 [(0, .ref (a 0)), (1, .int v1), (2, .int v2), (3, .int v3)] [] σ) {v1 : Int32} {v2 : Int32} {v3 : Int32} {σ : St} (h : j_X6_seals_83 Q rec23 v1 v2 v3 σ) : go p l e rm_X6_seals s m args below meth c D (wM cI cZ a) A 0 0 (MQ below (va_Qi (fun r9 u9 => isB r9 ∧ Q r9 u9) (atw D (wM cI cZ a) (tyW cI cZ cH) A) A) args s 0 0 A) 4 83 [(0, .ref (a 0)), (1, .int v1), (2, .int v2), (3, .int v3)] [] σ := by
  delta j_X6_seals_83 at h
  refine r_iinc (d := 1) X 3 86 [(3, .int (v3 + 1)), (0, .ref (a 0)), (1, .int v1), (2, .int v2)] dX6_seals_83 rfl (by decide) (by decide) rfl rfl ?_
  refine r_goto X 23 dX6_seals_86 rfl ?_
  refine r_pick (lv' := [(0, .ref (a 0)), (1, .int v1), (2, .int v2), (3, .int (v3 + 1))]) [1, 2, 3, 0] rfl ?_
  exact hrec23 _ _ _ _ h
def b_X6_seals_23  (Q : Int32 → St → Prop) (rec23 : Int32 → Int32 → Int32 → St → Prop) (v1 : Int32) (v2 : Int32) (v3 : Int32) (σ : St) : Prop :=
  if v3 < (σ 0 3) then
  (vp_in ((8 : Int32) * v3) 3208 ∧
  (if (σ 6 (ix ((8 : Int32) * v3))) = 8 then
  (vp_in (((8 : Int32) * v3) + 4) 3208 ∧
  (if ((σ 6 (ix (((8 : Int32) * v3) + 4))) / 100) = v1 then
  (vp_in (((8 : Int32) * v3) + 4) 3208 ∧
  (if ((σ 6 (ix (((8 : Int32) * v3) + 4))) - (σ 6 (ix (((8 : Int32) * v3) + 4))) / 100 * 100) < v2 then
  (j_X6_seals_83 Q rec23 v1 v2 v3 σ)
  else (Q 0 σ)))
  else (j_X6_seals_83 Q rec23 v1 v2 v3 σ)))
  else (j_X6_seals_83 Q rec23 v1 v2 v3 σ)))
  else (vp_in v1 6 ∧
  nmS (up2 σ 3 (ix v1) v2) (fun σ5 =>
  Q 1 σ5))
def lp_X6_seals_23  (Q : Int32 → St → Prop) (n9 : Nat) : Int32 → Int32 → Int32 → St → Prop :=
  Nat.rec (fun _ _ _ _ => False) (fun _ rec9 => b_X6_seals_23  Q  rec9) n9
theorem wk_X6_seals_23 (X : cx p s m args c cX6_seals 4 RX6 D (wM cI cZ a) A (tyW cI cZ cH)) (hr9 : meth.sig.returnType = (some .boolean)) (hlk9 : meth.locks = false)  {Q : Int32 → St → Prop} : ∀ (n9 : Nat) {v1 : Int32} {v2 : Int32} {v3 : Int32} {σ : St}, lp_X6_seals_23 Q n9 v1 v2 v3 σ → go p l e rm_X6_seals s m args below meth c D (wM cI cZ a) A 0 0 (MQ below (va_Qi (fun r9 u9 => isB r9 ∧ Q r9 u9) (atw D (wM cI cZ a) (tyW cI cZ cH) A) A) args s 0 0 A) 4 23 [(0, .ref (a 0)), (1, .int v1), (2, .int v2), (3, .int v3)] [] σ := by
  intro n9
  induction n9 with
  | zero => intro v1 v2 v3 σ h; exact h.elim
  | succ n9 ih =>
    intro v1 v2 v3 σ h
    have hrec23 := fun v1 v2 v3 σ h => ih (σ := σ) (v1 := v1) (v2 := v2) (v3 := v3) h
    replace h : b_X6_seals_23 Q (lp_X6_seals_23 Q n9) v1 v2 v3 σ := h
    delta b_X6_seals_23 at h
    refine r_iload_n X 3 24 dX6_seals_23 rfl rfl rfl ?_
    refine r_aload_n X 0 25 dX6_seals_24 rfl rfl rfl ?_
    refine g_X6_195 X 28 dX6_seals_25 rfl ?_
    refine r_icmp_ge X 89 31 h dX6_seals_28 rfl rfl (fun h => ?_) (fun h => ?_)
    · refine r_aload_n X 0 90 dX6_seals_89 rfl rfl rfl ?_
      refine g_X6_20 X 93 dX6_seals_90 rfl ?_
      refine r_iload_n X 1 94 dX6_seals_93 rfl rfl rfl ?_
      refine r_iload_n X 2 95 dX6_seals_94 rfl rfl rfl ?_
      obtain ⟨hin, h⟩ := h
      refine s_M3 X 96 hin dX6_seals_95 rfl ?_
      refine r_nmS h (fun σ5 h => ?_)
      refine r_iconst (v := 1) X 97 dX6_seals_96 (by decide) rfl ?_
      exact r_zret X hr9 hlk9 isB_1 h dX6_seals_97
    · refine r_aload_n X 0 32 dX6_seals_31 rfl rfl rfl ?_
      refine g_X6_30 X 35 dX6_seals_32 rfl ?_
      refine r_bipush (v := 8) X 37 dX6_seals_35 (by decide) rfl ?_
      refine r_iload_n X 3 38 dX6_seals_37 rfl rfl rfl ?_
      refine r_imul X 39 dX6_seals_38 rfl ?_
      obtain ⟨hin, h⟩ := h
      refine l_Mk X (Or.inl rfl) 40 hin dX6_seals_39 rfl ?_
      refine r_bipush (v := 8) X 42 dX6_seals_40 (by decide) rfl ?_
      refine r_icmp_ne X 83 45 h dX6_seals_42 rfl rfl (fun h => ?_) (fun h => ?_)
      · refine r_pick (lv' := [(0, .ref (a 0)), (1, .int v1), (2, .int v2), (3, .int v3)]) [0, 1, 2, 3] rfl ?_
        exact wk_X6_seals_83 X hr9 hlk9 hrec23 h
      · refine r_aload_n X 0 46 dX6_seals_45 rfl rfl rfl ?_
        refine g_X6_30 X 49 dX6_seals_46 rfl ?_
        refine r_bipush (v := 8) X 51 dX6_seals_49 (by decide) rfl ?_
        refine r_iload_n X 3 52 dX6_seals_51 rfl rfl rfl ?_
        refine r_imul X 53 dX6_seals_52 rfl ?_
        refine r_iconst (v := 4) X 54 dX6_seals_53 (by decide) rfl ?_
        refine r_iadd X 55 dX6_seals_54 rfl ?_
        obtain ⟨hin, h⟩ := h
        refine l_Mk X (Or.inl rfl) 56 hin dX6_seals_55 rfl ?_
        refine r_bipush (v := 100) X 58 dX6_seals_56 (by decide) rfl ?_
        refine r_idiv X 59 dX6_seals_58 (by decide) rfl ?_
        refine r_iload_n X 1 60 dX6_seals_59 rfl rfl rfl ?_
        refine r_icmp_ne X 83 63 h dX6_seals_60 rfl rfl (fun h => ?_) (fun h => ?_)
        · refine r_pick (lv' := [(0, .ref (a 0)), (1, .int v1), (2, .int v2), (3, .int v3)]) [0, 1, 2, 3] rfl ?_
          exact wk_X6_seals_83 X hr9 hlk9 hrec23 h
        · refine r_aload_n X 0 64 dX6_seals_63 rfl rfl rfl ?_
          refine g_X6_30 X 67 dX6_seals_64 rfl ?_
          refine r_bipush (v := 8) X 69 dX6_seals_67 (by decide) rfl ?_
          refine r_iload_n X 3 70 dX6_seals_69 rfl rfl rfl ?_
          refine r_imul X 71 dX6_seals_70 rfl ?_
          refine r_iconst (v := 4) X 72 dX6_seals_71 (by decide) rfl ?_
          refine r_iadd X 73 dX6_seals_72 rfl ?_
          obtain ⟨hin, h⟩ := h
          refine l_Mk X (Or.inl rfl) 74 hin dX6_seals_73 rfl ?_
          refine r_bipush (v := 100) X 76 dX6_seals_74 (by decide) rfl ?_
          refine r_irem X 77 dX6_seals_76 (by decide) rfl ?_
          refine r_iload_n X 2 78 dX6_seals_77 rfl rfl rfl ?_
          refine r_icmp_lt X 83 81 h dX6_seals_78 rfl rfl (fun h => ?_) (fun h => ?_)
          · refine r_pick (lv' := [(0, .ref (a 0)), (1, .int v1), (2, .int v2), (3, .int v3)]) [0, 1, 2, 3] rfl ?_
            exact wk_X6_seals_83 X hr9 hlk9 hrec23 h
          · refine r_iconst (v := 0) X 82 dX6_seals_81 (by decide) rfl ?_
            exact r_zret X hr9 hlk9 isB_0 h dX6_seals_82
def wp_X6_seals  (σ : St) (x1 : Int32) (x2 : Int32) (Q : Int32 → St → Prop) : Prop :=
  wp_X6_isIn σ x1 0 5 (fun y2 σ1 =>
  if y2 = 0 then
  (Q 0 σ1)
  else (wp_X6_isIn σ1 x2 (-1) 50 (fun y4 σ3 =>
  if y4 = 0 then
  (Q 0 σ3)
  else (∃ n9 : Nat, lp_X6_seals_23 Q n9 x1 x2 0 σ3))))
theorem c_X6_seals  {σ : St} {x1 : Int32} {x2 : Int32} {Q : Int32 → St → Prop} (h : wp_X6_seals σ x1 x2 Q) : ctI l yX6_seals cX6_seals 4 (some .boolean) rm_X6_seals D (wM cI cZ a) (tyW cI cZ cH) [.ref (a 0), .int x1, .int x2] σ (fun r9 u9 => isB r9 ∧ Q r9 u9) := by
  refine mk_I (wM_ok cI cZ a) (by decide +kernel) (Nat.le_of_ble_eq_true rfl) (fun p e s m args below meth c A X hr9 hlk9 => ?_)
  refine r_pick (lv' := [(0, .ref (a 0)), (1, .int x1), (2, .int x2)]) [0, 1, 2] rfl ?_
  delta wp_X6_seals at h
  refine r_iload_n X 1 1 dX6_seals_0 rfl rfl rfl ?_
  refine r_iconst (v := 0) X 2 dX6_seals_1 (by decide) rfl ?_
  refine r_iconst (v := 5) X 3 dX6_seals_2 (by decide) rfl ?_
  refine r_callSI (As := [.int x1, .int 0, .int 5]) (rest := []) X 6 (c_X6_isIn h) ml_X6_96 lk_X6_isIn sy_X6_isIn rfl rfl (Nat.le_of_ble_eq_true rfl) ⟨rfl, rfl, ⟨Nat.le_of_ble_eq_true rfl, Nat.le_of_ble_eq_true rfl⟩, Nat.le_of_ble_eq_true rfl, Nat.le_of_ble_eq_true rfl⟩ dX6_seals_3 rfl (fun y2 σ1 h => ?_)
  obtain ⟨hb_y2, h⟩ := h
  refine r_if_eq X 19 9 h dX6_seals_6 rfl rfl (fun h => ?_) (fun h => ?_)
  · refine r_iconst (v := 0) X 20 dX6_seals_19 (by decide) rfl ?_
    exact r_zret X hr9 hlk9 isB_0 h dX6_seals_20
  · refine r_iload_n X 2 10 dX6_seals_9 rfl rfl rfl ?_
    refine r_iconst (v := (-1)) X 11 dX6_seals_10 (by decide) rfl ?_
    refine r_bipush (v := 50) X 13 dX6_seals_11 (by decide) rfl ?_
    refine r_callSI (As := [.int x2, .int (-1), .int 50]) (rest := []) X 16 (c_X6_isIn h) ml_X6_96 lk_X6_isIn sy_X6_isIn rfl rfl (Nat.le_of_ble_eq_true rfl) ⟨rfl, rfl, ⟨Nat.le_of_ble_eq_true rfl, Nat.le_of_ble_eq_true rfl⟩, Nat.le_of_ble_eq_true rfl, Nat.le_of_ble_eq_true rfl⟩ dX6_seals_13 rfl (fun y4 σ3 h => ?_)
    obtain ⟨hb_y4, h⟩ := h
    refine r_if_ne X 21 19 h dX6_seals_16 rfl rfl (fun h => ?_) (fun h => ?_)
    · refine r_iconst (v := 0) X 22 dX6_seals_21 (by decide) rfl ?_
      refine r_istore_n X 23 [(3, .int 0), (0, .ref (a 0)), (1, .int x1), (2, .int x2)] dX6_seals_22 rfl (by decide) rfl rfl ?_
      refine r_pick (lv' := [(0, .ref (a 0)), (1, .int x1), (2, .int x2), (3, .int 0)]) [1, 2, 3, 0] rfl ?_
      obtain ⟨n9, h⟩ := h
      exact wk_X6_seals_23 X hr9 hlk9 n9 h
    · refine r_iconst (v := 0) X 20 dX6_seals_19 (by decide) rfl ?_
      exact r_zret X hr9 hlk9 isB_0 h dX6_seals_20
def rm_X6_thing : Room := { frames := 1, cells := 0, slots := 0, locals := 22 }
theorem dX6_thing_0 : decode cX6_thing 0 = .ok (.iload_n 1, 1) := by decide +kernel
theorem dX6_thing_1 : decode cX6_thing 1 = .ok (.iconst 0, 1) := by decide +kernel
theorem dX6_thing_2 : decode cX6_thing 2 = .ok (.iconst 5, 1) := by decide +kernel
theorem dX6_thing_3 : decode cX6_thing 3 = .ok (.invokestatic 96, 3) := by decide +kernel
theorem dX6_thing_6 : decode cX6_thing 6 = .ok (.ifCond .eq 36, 3) := by decide +kernel
theorem dX6_thing_9 : decode cX6_thing 9 = .ok (.iload_n 2, 1) := by decide +kernel
theorem dX6_thing_10 : decode cX6_thing 10 = .ok (.iconst 0, 1) := by decide +kernel
theorem dX6_thing_11 : decode cX6_thing 11 = .ok (.iload_n 1, 1) := by decide +kernel
theorem dX6_thing_12 : decode cX6_thing 12 = .ok (.iconst 2, 1) := by decide +kernel
theorem dX6_thing_13 : decode cX6_thing 13 = .ok (.if_icmp .eq 8, 3) := by decide +kernel
theorem dX6_thing_16 : decode cX6_thing 16 = .ok (.iload_n 1, 1) := by decide +kernel
theorem dX6_thing_17 : decode cX6_thing 17 = .ok (.iconst 3, 1) := by decide +kernel
theorem dX6_thing_18 : decode cX6_thing 18 = .ok (.if_icmp .ne 7, 3) := by decide +kernel
theorem dX6_thing_21 : decode cX6_thing 21 = .ok (.iconst 0, 1) := by decide +kernel
theorem dX6_thing_22 : decode cX6_thing 22 = .ok (.goto 5, 3) := by decide +kernel
theorem dX6_thing_25 : decode cX6_thing 25 = .ok (.ldc 203, 2) := by decide +kernel
theorem dX6_thing_27 : decode cX6_thing 27 = .ok (.invokestatic 96, 3) := by decide +kernel
theorem dX6_thing_30 : decode cX6_thing 30 = .ok (.ifCond .eq 12, 3) := by decide +kernel
theorem dX6_thing_33 : decode cX6_thing 33 = .ok (.aload_n 0, 1) := by decide +kernel
theorem dX6_thing_34 : decode cX6_thing 34 = .ok (.getfield 93, 3) := by decide +kernel
theorem dX6_thing_37 : decode cX6_thing 37 = .ok (.bipush 60, 2) := by decide +kernel
theorem dX6_thing_39 : decode cX6_thing 39 = .ok (.if_icmp .ne 5, 3) := by decide +kernel
theorem dX6_thing_42 : decode cX6_thing 42 = .ok (.iconst (-1), 1) := by decide +kernel
theorem dX6_thing_43 : decode cX6_thing 43 = .ok (.ireturn, 1) := by decide +kernel
theorem dX6_thing_44 : decode cX6_thing 44 = .ok (.aload_n 0, 1) := by decide +kernel
theorem dX6_thing_45 : decode cX6_thing 45 = .ok (.getfield 24, 3) := by decide +kernel
theorem dX6_thing_48 : decode cX6_thing 48 = .ok (.aload_n 0, 1) := by decide +kernel
theorem dX6_thing_49 : decode cX6_thing 49 = .ok (.getfield 93, 3) := by decide +kernel
theorem dX6_thing_52 : decode cX6_thing 52 = .ok (.iload_n 1, 1) := by decide +kernel
theorem dX6_thing_53 : decode cX6_thing 53 = .ok (.iastore, 1) := by decide +kernel
theorem dX6_thing_54 : decode cX6_thing 54 = .ok (.aload_n 0, 1) := by decide +kernel
theorem dX6_thing_55 : decode cX6_thing 55 = .ok (.getfield 27, 3) := by decide +kernel
theorem dX6_thing_58 : decode cX6_thing 58 = .ok (.aload_n 0, 1) := by decide +kernel
theorem dX6_thing_59 : decode cX6_thing 59 = .ok (.getfield 93, 3) := by decide +kernel
theorem dX6_thing_62 : decode cX6_thing 62 = .ok (.iload_n 2, 1) := by decide +kernel
theorem dX6_thing_63 : decode cX6_thing 63 = .ok (.iastore, 1) := by decide +kernel
theorem dX6_thing_64 : decode cX6_thing 64 = .ok (.aload_n 0, 1) := by decide +kernel
theorem dX6_thing_65 : decode cX6_thing 65 = .ok (.dup, 1) := by decide +kernel
theorem dX6_thing_66 : decode cX6_thing 66 = .ok (.getfield 93, 3) := by decide +kernel
theorem dX6_thing_69 : decode cX6_thing 69 = .ok (.iconst 1, 1) := by decide +kernel
theorem dX6_thing_70 : decode cX6_thing 70 = .ok (.iadd, 1) := by decide +kernel
theorem dX6_thing_71 : decode cX6_thing 71 = .ok (.putfield 93, 3) := by decide +kernel
theorem dX6_thing_74 : decode cX6_thing 74 = .ok (.aload_n 0, 1) := by decide +kernel
theorem dX6_thing_75 : decode cX6_thing 75 = .ok (.getfield 93, 3) := by decide +kernel
theorem dX6_thing_78 : decode cX6_thing 78 = .ok (.iconst 1, 1) := by decide +kernel
theorem dX6_thing_79 : decode cX6_thing 79 = .ok (.isub, 1) := by decide +kernel
theorem dX6_thing_80 : decode cX6_thing 80 = .ok (.ireturn, 1) := by decide +kernel
def j_X6_thing_27  (Q : Int32 → St → Prop) (v1 : Int32) (v2 : Int32) (s0 : Int32) (s1 : Int32) (s2 : Int32) (σ : St) : Prop :=
  wp_X6_isIn σ s2 s1 s0 (fun y4 σ3 =>
  if y4 = 0 then
  (Q (-1) σ3)
  else (if (σ3 0 2) = 60 then
  (Q (-1) σ3)
  else (vp_in (σ3 0 2) 60 ∧
  nmS (up2 σ3 4 (ix (σ3 0 2)) v1) (fun σ5 =>
  vp_in (σ5 0 2) 60 ∧
  nmS (up2 σ5 5 (ix (σ5 0 2)) v2) (fun σ6 =>
  nmS (up2 σ6 0 2 ((σ6 0 2) + 1)) (fun σ7 =>
  Q ((σ7 0 2) - 1) σ7))))))
theorem wk_X6_thing_27 (X : cx p s m args c cX6_thing 3 RX6 D (wM cI cZ a) A (tyW cI cZ cH)) (hr9 : meth.sig.returnType = (some .int)) (hlk9 : meth.locks = false)  {Q : Int32 → St → Prop} {v1 : Int32} {v2 : Int32} {s0 : Int32} {s1 : Int32} {s2 : Int32} {σ : St} (h : j_X6_thing_27 Q v1 v2 s0 s1 s2 σ) : go p l e rm_X6_thing s m args below meth c D (wM cI cZ a) A 0 0 (MQ below (va_Qi Q (atw D (wM cI cZ a) (tyW cI cZ cH) A) A) args s 0 0 A) 3 27 [(0, .ref (a 0)), (1, .int v1), (2, .int v2)] [.int s0, .int s1, .int s2] σ := by
  delta j_X6_thing_27 at h
  refine r_callSI (As := [.int s2, .int s1, .int s0]) (rest := []) X 30 (c_X6_isIn h) ml_X6_96 lk_X6_isIn sy_X6_isIn rfl rfl (Nat.le_of_ble_eq_true rfl) ⟨rfl, rfl, ⟨Nat.le_of_ble_eq_true rfl, Nat.le_of_ble_eq_true rfl⟩, Nat.le_of_ble_eq_true rfl, Nat.le_of_ble_eq_true rfl⟩ dX6_thing_27 rfl (fun y4 σ3 h => ?_)
  obtain ⟨hb_y4, h⟩ := h
  refine r_if_eq X 42 33 h dX6_thing_30 rfl rfl (fun h => ?_) (fun h => ?_)
  · refine r_iconst (v := (-1)) X 43 dX6_thing_42 (by decide) rfl ?_
    exact r_iret X hr9 hlk9 h dX6_thing_43
  · refine r_aload_n X 0 34 dX6_thing_33 rfl rfl rfl ?_
    refine g_X6_93 X 37 dX6_thing_34 rfl ?_
    refine r_bipush (v := 60) X 39 dX6_thing_37 (by decide) rfl ?_
    refine r_icmp_ne X 44 42 h dX6_thing_39 rfl rfl (fun h => ?_) (fun h => ?_)
    · refine r_aload_n X 0 45 dX6_thing_44 rfl rfl rfl ?_
      refine g_X6_24 X 48 dX6_thing_45 rfl ?_
      refine r_aload_n X 0 49 dX6_thing_48 rfl rfl rfl ?_
      refine g_X6_93 X 52 dX6_thing_49 rfl ?_
      refine r_iload_n X 1 53 dX6_thing_52 rfl rfl rfl ?_
      obtain ⟨hin, h⟩ := h
      refine s_M4 X 54 hin dX6_thing_53 rfl ?_
      refine r_nmS h (fun σ5 h => ?_)
      refine r_aload_n X 0 55 dX6_thing_54 rfl rfl rfl ?_
      refine g_X6_27 X 58 dX6_thing_55 rfl ?_
      refine r_aload_n X 0 59 dX6_thing_58 rfl rfl rfl ?_
      refine g_X6_93 X 62 dX6_thing_59 rfl ?_
      refine r_iload_n X 2 63 dX6_thing_62 rfl rfl rfl ?_
      obtain ⟨hin, h⟩ := h
      refine s_M5 X 64 hin dX6_thing_63 rfl ?_
      refine r_nmS h (fun σ6 h => ?_)
      refine r_aload_n X 0 65 dX6_thing_64 rfl rfl rfl ?_
      refine r_dup X 66 dX6_thing_65 rfl rfl ?_
      refine g_X6_93 X 69 dX6_thing_66 rfl ?_
      refine r_iconst (v := 1) X 70 dX6_thing_69 (by decide) rfl ?_
      refine r_iadd X 71 dX6_thing_70 rfl ?_
      refine u_X6_93 X 74 dX6_thing_71 rfl ?_
      refine r_nmS h (fun σ7 h => ?_)
      refine r_aload_n X 0 75 dX6_thing_74 rfl rfl rfl ?_
      refine g_X6_93 X 78 dX6_thing_75 rfl ?_
      refine r_iconst (v := 1) X 79 dX6_thing_78 (by decide) rfl ?_
      refine r_isub X 80 dX6_thing_79 rfl ?_
      exact r_iret X hr9 hlk9 h dX6_thing_80
    · refine r_iconst (v := (-1)) X 43 dX6_thing_42 (by decide) rfl ?_
      exact r_iret X hr9 hlk9 h dX6_thing_43
def j_X6_thing_21  (Q : Int32 → St → Prop) (v1 : Int32) (v2 : Int32) (s0 : Int32) (s1 : Int32) (σ : St) : Prop :=
  j_X6_thing_27 Q v1 v2 0 s0 s1 σ
theorem wk_X6_thing_21 (X : cx p s m args c cX6_thing 3 RX6 D (wM cI cZ a) A (tyW cI cZ cH)) (hr9 : meth.sig.returnType = (some .int)) (hlk9 : meth.locks = false)  {Q : Int32 → St → Prop} {v1 : Int32} {v2 : Int32} {s0 : Int32} {s1 : Int32} {σ : St} (h : j_X6_thing_21 Q v1 v2 s0 s1 σ) : go p l e rm_X6_thing s m args below meth c D (wM cI cZ a) A 0 0 (MQ below (va_Qi Q (atw D (wM cI cZ a) (tyW cI cZ cH) A) A) args s 0 0 A) 3 21 [(0, .ref (a 0)), (1, .int v1), (2, .int v2)] [.int s0, .int s1] σ := by
  delta j_X6_thing_21 at h
  refine r_iconst (v := 0) X 22 dX6_thing_21 (by decide) rfl ?_
  refine r_goto X 27 dX6_thing_22 rfl ?_
  refine r_pick (lv' := [(0, .ref (a 0)), (1, .int v1), (2, .int v2)]) [0, 1, 2] rfl ?_
  exact wk_X6_thing_27 X hr9 hlk9 h
def wp_X6_thing  (σ : St) (x1 : Int32) (x2 : Int32) (Q : Int32 → St → Prop) : Prop :=
  wp_X6_isIn σ x1 0 5 (fun y2 σ1 =>
  if y2 = 0 then
  (Q (-1) σ1)
  else (if x1 = 2 then
  (j_X6_thing_21 Q x1 x2 0 x2 σ1)
  else (if x1 = 3 then
  (j_X6_thing_21 Q x1 x2 0 x2 σ1)
  else (j_X6_thing_27 Q x1 x2 1000000 0 x2 σ1))))
theorem c_X6_thing  {σ : St} {x1 : Int32} {x2 : Int32} {Q : Int32 → St → Prop} (h : wp_X6_thing σ x1 x2 Q) : ctI l yX6_thing cX6_thing 3 (some .int) rm_X6_thing D (wM cI cZ a) (tyW cI cZ cH) [.ref (a 0), .int x1, .int x2] σ Q := by
  refine mk_I (wM_ok cI cZ a) (by decide +kernel) (Nat.le_of_ble_eq_true rfl) (fun p e s m args below meth c A X hr9 hlk9 => ?_)
  refine r_pick (lv' := [(0, .ref (a 0)), (1, .int x1), (2, .int x2)]) [0, 1, 2] rfl ?_
  delta wp_X6_thing at h
  refine r_iload_n X 1 1 dX6_thing_0 rfl rfl rfl ?_
  refine r_iconst (v := 0) X 2 dX6_thing_1 (by decide) rfl ?_
  refine r_iconst (v := 5) X 3 dX6_thing_2 (by decide) rfl ?_
  refine r_callSI (As := [.int x1, .int 0, .int 5]) (rest := []) X 6 (c_X6_isIn h) ml_X6_96 lk_X6_isIn sy_X6_isIn rfl rfl (Nat.le_of_ble_eq_true rfl) ⟨rfl, rfl, ⟨Nat.le_of_ble_eq_true rfl, Nat.le_of_ble_eq_true rfl⟩, Nat.le_of_ble_eq_true rfl, Nat.le_of_ble_eq_true rfl⟩ dX6_thing_3 rfl (fun y2 σ1 h => ?_)
  obtain ⟨hb_y2, h⟩ := h
  refine r_if_eq X 42 9 h dX6_thing_6 rfl rfl (fun h => ?_) (fun h => ?_)
  · refine r_iconst (v := (-1)) X 43 dX6_thing_42 (by decide) rfl ?_
    exact r_iret X hr9 hlk9 h dX6_thing_43
  · refine r_iload_n X 2 10 dX6_thing_9 rfl rfl rfl ?_
    refine r_iconst (v := 0) X 11 dX6_thing_10 (by decide) rfl ?_
    refine r_iload_n X 1 12 dX6_thing_11 rfl rfl rfl ?_
    refine r_iconst (v := 2) X 13 dX6_thing_12 (by decide) rfl ?_
    refine r_icmp_eq X 21 16 h dX6_thing_13 rfl rfl (fun h => ?_) (fun h => ?_)
    · refine r_pick (lv' := [(0, .ref (a 0)), (1, .int x1), (2, .int x2)]) [0, 1, 2] rfl ?_
      exact wk_X6_thing_21 X hr9 hlk9 h
    · refine r_iload_n X 1 17 dX6_thing_16 rfl rfl rfl ?_
      refine r_iconst (v := 3) X 18 dX6_thing_17 (by decide) rfl ?_
      refine r_icmp_ne X 25 21 h dX6_thing_18 rfl rfl (fun h => ?_) (fun h => ?_)
      · refine r_ldc (v := 1000000) X 27 dX6_thing_25 cn_X6_203 rfl ?_
        refine r_pick (lv' := [(0, .ref (a 0)), (1, .int x1), (2, .int x2)]) [0, 1, 2] rfl ?_
        exact wk_X6_thing_27 X hr9 hlk9 h
      · refine r_pick (lv' := [(0, .ref (a 0)), (1, .int x1), (2, .int x2)]) [0, 1, 2] rfl ?_
        exact wk_X6_thing_21 X hr9 hlk9 h
def rm_X6_pass : Room := { frames := 1, cells := 0, slots := 0, locals := 22 }
theorem dX6_pass_0 : decode cX6_pass 0 = .ok (.iload_n 1, 1) := by decide +kernel
theorem dX6_pass_1 : decode cX6_pass 1 = .ok (.iconst 0, 1) := by decide +kernel
theorem dX6_pass_2 : decode cX6_pass 2 = .ok (.ldc 154, 2) := by decide +kernel
theorem dX6_pass_4 : decode cX6_pass 4 = .ok (.invokestatic 96, 3) := by decide +kernel
theorem dX6_pass_7 : decode cX6_pass 7 = .ok (.ifCond .eq 14, 3) := by decide +kernel
theorem dX6_pass_10 : decode cX6_pass 10 = .ok (.aload_n 0, 1) := by decide +kernel
theorem dX6_pass_11 : decode cX6_pass 11 = .ok (.getfield 204, 3) := by decide +kernel
theorem dX6_pass_14 : decode cX6_pass 14 = .ok (.iload_n 1, 1) := by decide +kernel
theorem dX6_pass_15 : decode cX6_pass 15 = .ok (.iadd, 1) := by decide +kernel
theorem dX6_pass_16 : decode cX6_pass 16 = .ok (.ldc 207, 2) := by decide +kernel
theorem dX6_pass_18 : decode cX6_pass 18 = .ok (.if_icmp .le 5, 3) := by decide +kernel
theorem dX6_pass_21 : decode cX6_pass 21 = .ok (.iconst (-1), 1) := by decide +kernel
theorem dX6_pass_22 : decode cX6_pass 22 = .ok (.ireturn, 1) := by decide +kernel
theorem dX6_pass_23 : decode cX6_pass 23 = .ok (.aload_n 0, 1) := by decide +kernel
theorem dX6_pass_24 : decode cX6_pass 24 = .ok (.dup, 1) := by decide +kernel
theorem dX6_pass_25 : decode cX6_pass 25 = .ok (.getfield 204, 3) := by decide +kernel
theorem dX6_pass_28 : decode cX6_pass 28 = .ok (.iload_n 1, 1) := by decide +kernel
theorem dX6_pass_29 : decode cX6_pass 29 = .ok (.iadd, 1) := by decide +kernel
theorem dX6_pass_30 : decode cX6_pass 30 = .ok (.putfield 204, 3) := by decide +kernel
theorem dX6_pass_33 : decode cX6_pass 33 = .ok (.aload_n 0, 1) := by decide +kernel
theorem dX6_pass_34 : decode cX6_pass 34 = .ok (.getfield 204, 3) := by decide +kernel
theorem dX6_pass_37 : decode cX6_pass 37 = .ok (.ireturn, 1) := by decide +kernel
def wp_X6_pass  (σ : St) (x1 : Int32) (Q : Int32 → St → Prop) : Prop :=
  wp_X6_isIn σ x1 0 100000 (fun y2 σ1 =>
  if y2 = 0 then
  (Q (-1) σ1)
  else (if 100000000 < ((σ1 0 4) + x1) then
  (Q (-1) σ1)
  else (nmS (up2 σ1 0 4 ((σ1 0 4) + x1)) (fun σ3 =>
  Q (σ3 0 4) σ3))))
theorem c_X6_pass  {σ : St} {x1 : Int32} {Q : Int32 → St → Prop} (h : wp_X6_pass σ x1 Q) : ctI l yX6_pass cX6_pass 2 (some .int) rm_X6_pass D (wM cI cZ a) (tyW cI cZ cH) [.ref (a 0), .int x1] σ Q := by
  refine mk_I (wM_ok cI cZ a) (by decide +kernel) (Nat.le_of_ble_eq_true rfl) (fun p e s m args below meth c A X hr9 hlk9 => ?_)
  refine r_pick (lv' := [(0, .ref (a 0)), (1, .int x1)]) [0, 1] rfl ?_
  delta wp_X6_pass at h
  refine r_iload_n X 1 1 dX6_pass_0 rfl rfl rfl ?_
  refine r_iconst (v := 0) X 2 dX6_pass_1 (by decide) rfl ?_
  refine r_ldc (v := 100000) X 4 dX6_pass_2 cn_X6_154 rfl ?_
  refine r_callSI (As := [.int x1, .int 0, .int 100000]) (rest := []) X 7 (c_X6_isIn h) ml_X6_96 lk_X6_isIn sy_X6_isIn rfl rfl (Nat.le_of_ble_eq_true rfl) ⟨rfl, rfl, ⟨Nat.le_of_ble_eq_true rfl, Nat.le_of_ble_eq_true rfl⟩, Nat.le_of_ble_eq_true rfl, Nat.le_of_ble_eq_true rfl⟩ dX6_pass_4 rfl (fun y2 σ1 h => ?_)
  obtain ⟨hb_y2, h⟩ := h
  refine r_if_eq X 21 10 h dX6_pass_7 rfl rfl (fun h => ?_) (fun h => ?_)
  · refine r_iconst (v := (-1)) X 22 dX6_pass_21 (by decide) rfl ?_
    exact r_iret X hr9 hlk9 h dX6_pass_22
  · refine r_aload_n X 0 11 dX6_pass_10 rfl rfl rfl ?_
    refine g_X6_204 X 14 dX6_pass_11 rfl ?_
    refine r_iload_n X 1 15 dX6_pass_14 rfl rfl rfl ?_
    refine r_iadd X 16 dX6_pass_15 rfl ?_
    refine r_ldc (v := 100000000) X 18 dX6_pass_16 cn_X6_207 rfl ?_
    refine r_icmp_le X 23 21 h dX6_pass_18 rfl rfl (fun h => ?_) (fun h => ?_)
    · refine r_aload_n X 0 24 dX6_pass_23 rfl rfl rfl ?_
      refine r_dup X 25 dX6_pass_24 rfl rfl ?_
      refine g_X6_204 X 28 dX6_pass_25 rfl ?_
      refine r_iload_n X 1 29 dX6_pass_28 rfl rfl rfl ?_
      refine r_iadd X 30 dX6_pass_29 rfl ?_
      refine u_X6_204 X 33 dX6_pass_30 rfl ?_
      refine r_nmS h (fun σ3 h => ?_)
      refine r_aload_n X 0 34 dX6_pass_33 rfl rfl rfl ?_
      refine g_X6_204 X 37 dX6_pass_34 rfl ?_
      exact r_iret X hr9 hlk9 h dX6_pass_37
    · refine r_iconst (v := (-1)) X 22 dX6_pass_21 (by decide) rfl ?_
      exact r_iret X hr9 hlk9 h dX6_pass_22
def rm_X6_written : Room := { frames := 7, cells := 0, slots := 0, locals := 172 }
theorem dX6_written_0 : decode cX6_written 0 = .ok (.bipush 8, 2) := by decide +kernel
theorem dX6_written_2 : decode cX6_written 2 = .ok (.aload_n 0, 1) := by decide +kernel
theorem dX6_written_3 : decode cX6_written 3 = .ok (.getfield 195, 3) := by decide +kernel
theorem dX6_written_6 : decode cX6_written 6 = .ok (.imul, 1) := by decide +kernel
theorem dX6_written_7 : decode cX6_written 7 = .ok (.istore 8, 2) := by decide +kernel
theorem dX6_written_9 : decode cX6_written 9 = .ok (.aload_n 0, 1) := by decide +kernel
theorem dX6_written_10 : decode cX6_written 10 = .ok (.getfield 30, 3) := by decide +kernel
theorem dX6_written_13 : decode cX6_written 13 = .ok (.iload 8, 2) := by decide +kernel
theorem dX6_written_15 : decode cX6_written 15 = .ok (.iload_n 1, 1) := by decide +kernel
theorem dX6_written_16 : decode cX6_written 16 = .ok (.iastore, 1) := by decide +kernel
theorem dX6_written_17 : decode cX6_written 17 = .ok (.aload_n 0, 1) := by decide +kernel
theorem dX6_written_18 : decode cX6_written 18 = .ok (.getfield 30, 3) := by decide +kernel
theorem dX6_written_21 : decode cX6_written 21 = .ok (.iload 8, 2) := by decide +kernel
theorem dX6_written_23 : decode cX6_written 23 = .ok (.iconst 1, 1) := by decide +kernel
theorem dX6_written_24 : decode cX6_written 24 = .ok (.iadd, 1) := by decide +kernel
theorem dX6_written_25 : decode cX6_written 25 = .ok (.iload_n 2, 1) := by decide +kernel
theorem dX6_written_26 : decode cX6_written 26 = .ok (.iastore, 1) := by decide +kernel
theorem dX6_written_27 : decode cX6_written 27 = .ok (.aload_n 0, 1) := by decide +kernel
theorem dX6_written_28 : decode cX6_written 28 = .ok (.getfield 30, 3) := by decide +kernel
theorem dX6_written_31 : decode cX6_written 31 = .ok (.iload 8, 2) := by decide +kernel
theorem dX6_written_33 : decode cX6_written 33 = .ok (.iconst 2, 1) := by decide +kernel
theorem dX6_written_34 : decode cX6_written 34 = .ok (.iadd, 1) := by decide +kernel
theorem dX6_written_35 : decode cX6_written 35 = .ok (.iload_n 3, 1) := by decide +kernel
theorem dX6_written_36 : decode cX6_written 36 = .ok (.iastore, 1) := by decide +kernel
theorem dX6_written_37 : decode cX6_written 37 = .ok (.aload_n 0, 1) := by decide +kernel
theorem dX6_written_38 : decode cX6_written 38 = .ok (.getfield 30, 3) := by decide +kernel
theorem dX6_written_41 : decode cX6_written 41 = .ok (.iload 8, 2) := by decide +kernel
theorem dX6_written_43 : decode cX6_written 43 = .ok (.iconst 3, 1) := by decide +kernel
theorem dX6_written_44 : decode cX6_written 44 = .ok (.iadd, 1) := by decide +kernel
theorem dX6_written_45 : decode cX6_written 45 = .ok (.iload 4, 2) := by decide +kernel
theorem dX6_written_47 : decode cX6_written 47 = .ok (.iastore, 1) := by decide +kernel
theorem dX6_written_48 : decode cX6_written 48 = .ok (.aload_n 0, 1) := by decide +kernel
theorem dX6_written_49 : decode cX6_written 49 = .ok (.getfield 30, 3) := by decide +kernel
theorem dX6_written_52 : decode cX6_written 52 = .ok (.iload 8, 2) := by decide +kernel
theorem dX6_written_54 : decode cX6_written 54 = .ok (.iconst 4, 1) := by decide +kernel
theorem dX6_written_55 : decode cX6_written 55 = .ok (.iadd, 1) := by decide +kernel
theorem dX6_written_56 : decode cX6_written 56 = .ok (.iload 5, 2) := by decide +kernel
theorem dX6_written_58 : decode cX6_written 58 = .ok (.iastore, 1) := by decide +kernel
theorem dX6_written_59 : decode cX6_written 59 = .ok (.aload_n 0, 1) := by decide +kernel
theorem dX6_written_60 : decode cX6_written 60 = .ok (.getfield 30, 3) := by decide +kernel
theorem dX6_written_63 : decode cX6_written 63 = .ok (.iload 8, 2) := by decide +kernel
theorem dX6_written_65 : decode cX6_written 65 = .ok (.iconst 5, 1) := by decide +kernel
theorem dX6_written_66 : decode cX6_written 66 = .ok (.iadd, 1) := by decide +kernel
theorem dX6_written_67 : decode cX6_written 67 = .ok (.iload 6, 2) := by decide +kernel
theorem dX6_written_69 : decode cX6_written 69 = .ok (.iastore, 1) := by decide +kernel
theorem dX6_written_70 : decode cX6_written 70 = .ok (.aload_n 0, 1) := by decide +kernel
theorem dX6_written_71 : decode cX6_written 71 = .ok (.getfield 30, 3) := by decide +kernel
theorem dX6_written_74 : decode cX6_written 74 = .ok (.iload 8, 2) := by decide +kernel
theorem dX6_written_76 : decode cX6_written 76 = .ok (.bipush 6, 2) := by decide +kernel
theorem dX6_written_78 : decode cX6_written 78 = .ok (.iadd, 1) := by decide +kernel
theorem dX6_written_79 : decode cX6_written 79 = .ok (.iload 7, 2) := by decide +kernel
theorem dX6_written_81 : decode cX6_written 81 = .ok (.iastore, 1) := by decide +kernel
theorem dX6_written_82 : decode cX6_written 82 = .ok (.aload_n 0, 1) := by decide +kernel
theorem dX6_written_83 : decode cX6_written 83 = .ok (.getfield 30, 3) := by decide +kernel
theorem dX6_written_86 : decode cX6_written 86 = .ok (.iload 8, 2) := by decide +kernel
theorem dX6_written_88 : decode cX6_written 88 = .ok (.bipush 7, 2) := by decide +kernel
theorem dX6_written_90 : decode cX6_written 90 = .ok (.iadd, 1) := by decide +kernel
theorem dX6_written_91 : decode cX6_written 91 = .ok (.aload_n 0, 1) := by decide +kernel
theorem dX6_written_92 : decode cX6_written 92 = .ok (.getfield 204, 3) := by decide +kernel
theorem dX6_written_95 : decode cX6_written 95 = .ok (.iastore, 1) := by decide +kernel
theorem dX6_written_96 : decode cX6_written 96 = .ok (.aload_n 0, 1) := by decide +kernel
theorem dX6_written_97 : decode cX6_written 97 = .ok (.aload_n 0, 1) := by decide +kernel
theorem dX6_written_98 : decode cX6_written 98 = .ok (.aload_n 0, 1) := by decide +kernel
theorem dX6_written_99 : decode cX6_written 99 = .ok (.getfield 30, 3) := by decide +kernel
theorem dX6_written_102 : decode cX6_written 102 = .ok (.aload_n 0, 1) := by decide +kernel
theorem dX6_written_103 : decode cX6_written 103 = .ok (.getfield 195, 3) := by decide +kernel
theorem dX6_written_106 : decode cX6_written 106 = .ok (.iconst 1, 1) := by decide +kernel
theorem dX6_written_107 : decode cX6_written 107 = .ok (.iadd, 1) := by decide +kernel
theorem dX6_written_108 : decode cX6_written 108 = .ok (.invokevirtual 208, 3) := by decide +kernel
theorem dX6_written_111 : decode cX6_written 111 = .ok (.putfield 42, 3) := by decide +kernel
theorem dX6_written_114 : decode cX6_written 114 = .ok (.aload_n 0, 1) := by decide +kernel
theorem dX6_written_115 : decode cX6_written 115 = .ok (.getfield 42, 3) := by decide +kernel
theorem dX6_written_118 : decode cX6_written 118 = .ok (.iconst (-1), 1) := by decide +kernel
theorem dX6_written_119 : decode cX6_written 119 = .ok (.if_icmp .eq 10, 3) := by decide +kernel
theorem dX6_written_122 : decode cX6_written 122 = .ok (.aload_n 0, 1) := by decide +kernel
theorem dX6_written_123 : decode cX6_written 123 = .ok (.iconst 5, 1) := by decide +kernel
theorem dX6_written_124 : decode cX6_written 124 = .ok (.putfield 39, 3) := by decide +kernel
theorem dX6_written_127 : decode cX6_written 127 = .ok (.iconst (-1), 1) := by decide +kernel
theorem dX6_written_128 : decode cX6_written 128 = .ok (.ireturn, 1) := by decide +kernel
theorem dX6_written_129 : decode cX6_written 129 = .ok (.aload_n 0, 1) := by decide +kernel
theorem dX6_written_130 : decode cX6_written 130 = .ok (.dup, 1) := by decide +kernel
theorem dX6_written_131 : decode cX6_written 131 = .ok (.getfield 195, 3) := by decide +kernel
theorem dX6_written_134 : decode cX6_written 134 = .ok (.iconst 1, 1) := by decide +kernel
theorem dX6_written_135 : decode cX6_written 135 = .ok (.iadd, 1) := by decide +kernel
theorem dX6_written_136 : decode cX6_written 136 = .ok (.putfield 195, 3) := by decide +kernel
theorem dX6_written_139 : decode cX6_written 139 = .ok (.aload_n 0, 1) := by decide +kernel
theorem dX6_written_140 : decode cX6_written 140 = .ok (.getfield 195, 3) := by decide +kernel
theorem dX6_written_143 : decode cX6_written 143 = .ok (.iconst 1, 1) := by decide +kernel
theorem dX6_written_144 : decode cX6_written 144 = .ok (.isub, 1) := by decide +kernel
theorem dX6_written_145 : decode cX6_written 145 = .ok (.ireturn, 1) := by decide +kernel
def wp_X6_written  (σ : St) (x1 : Int32) (x2 : Int32) (x3 : Int32) (x4 : Int32) (x5 : Int32) (x6 : Int32) (x7 : Int32) (Q : Int32 → St → Prop) : Prop :=
  nm (((8 : Int32) * (σ 0 3))) (fun z1 =>
  vp_in z1 3208 ∧
  nmS (up2 σ 6 (ix z1) x1) (fun σ2 =>
  vp_in (z1 + 1) 3208 ∧
  nmS (up2 σ2 6 (ix (z1 + 1)) x2) (fun σ3 =>
  vp_in (z1 + 2) 3208 ∧
  nmS (up2 σ3 6 (ix (z1 + 2)) x3) (fun σ4 =>
  vp_in (z1 + 3) 3208 ∧
  nmS (up2 σ4 6 (ix (z1 + 3)) x4) (fun σ5 =>
  vp_in (z1 + 4) 3208 ∧
  nmS (up2 σ5 6 (ix (z1 + 4)) x5) (fun σ6 =>
  vp_in (z1 + 5) 3208 ∧
  nmS (up2 σ6 6 (ix (z1 + 5)) x6) (fun σ7 =>
  vp_in (z1 + 6) 3208 ∧
  nmS (up2 σ7 6 (ix (z1 + 6)) x7) (fun σ8 =>
  vp_in (z1 + 7) 3208 ∧
  nmS (up2 σ8 6 (ix (z1 + 7)) (σ8 0 4)) (fun σ9 =>
  wp_X6_firstWrong 6 σ9 ((σ9 0 3) + 1) (fun y11 σ10 =>
  nmS (up2 σ10 0 16 y11) (fun σ12 =>
  if (σ12 0 16) = (-1) then
  (nmS (up2 σ12 0 3 ((σ12 0 3) + 1)) (fun σ13 =>
  Q ((σ13 0 3) - 1) σ13))
  else (nmS (up2 σ12 0 15 5) (fun σ14 =>
  Q (-1) σ14)))))))))))))
theorem c_X6_written  {σ : St} {x1 : Int32} {x2 : Int32} {x3 : Int32} {x4 : Int32} {x5 : Int32} {x6 : Int32} {x7 : Int32} {Q : Int32 → St → Prop} (h : wp_X6_written σ x1 x2 x3 x4 x5 x6 x7 Q) : ctI l yX6_written cX6_written 9 (some .int) rm_X6_written D (wM cI cZ a) (tyW cI cZ cH) [.ref (a 0), .int x1, .int x2, .int x3, .int x4, .int x5, .int x6, .int x7] σ Q := by
  refine mk_I (wM_ok cI cZ a) (by decide +kernel) (Nat.le_of_ble_eq_true rfl) (fun p e s m args below meth c A X hr9 hlk9 => ?_)
  refine r_pick (lv' := [(0, .ref (a 0)), (1, .int x1), (2, .int x2), (3, .int x3), (4, .int x4), (5, .int x5), (6, .int x6), (7, .int x7)]) [0, 1, 2, 3, 4, 5, 6, 7] rfl ?_
  delta wp_X6_written at h
  refine r_bipush (v := 8) X 2 dX6_written_0 (by decide) rfl ?_
  refine r_aload_n X 0 3 dX6_written_2 rfl rfl rfl ?_
  refine g_X6_195 X 6 dX6_written_3 rfl ?_
  refine r_imul X 7 dX6_written_6 rfl ?_
  refine r_istoreN X 9 (fun z1 => [(8, .int z1), (0, .ref (a 0)), (1, .int x1), (2, .int x2), (3, .int x3), (4, .int x4), (5, .int x5), (6, .int x6), (7, .int x7)]) h dX6_written_7 (by decide) (fun _ => rfl) rfl (fun z1 h => ?_)
  refine r_aload_n X 1 10 dX6_written_9 rfl rfl rfl ?_
  refine g_X6_30 X 13 dX6_written_10 rfl ?_
  refine r_iload X 0 15 dX6_written_13 rfl rfl ?_
  refine r_iload_n X 2 16 dX6_written_15 rfl rfl rfl ?_
  obtain ⟨hin, h⟩ := h
  refine s_Mk X (Or.inl rfl) 17 hin dX6_written_16 rfl ?_
  refine r_nmS h (fun σ2 h => ?_)
  refine r_aload_n X 1 18 dX6_written_17 rfl rfl rfl ?_
  refine g_X6_30 X 21 dX6_written_18 rfl ?_
  refine r_iload X 0 23 dX6_written_21 rfl rfl ?_
  refine r_iconst (v := 1) X 24 dX6_written_23 (by decide) rfl ?_
  refine r_iadd X 25 dX6_written_24 rfl ?_
  refine r_iload_n X 3 26 dX6_written_25 rfl rfl rfl ?_
  obtain ⟨hin, h⟩ := h
  refine s_Mk X (Or.inl rfl) 27 hin dX6_written_26 rfl ?_
  refine r_nmS h (fun σ3 h => ?_)
  refine r_aload_n X 1 28 dX6_written_27 rfl rfl rfl ?_
  refine g_X6_30 X 31 dX6_written_28 rfl ?_
  refine r_iload X 0 33 dX6_written_31 rfl rfl ?_
  refine r_iconst (v := 2) X 34 dX6_written_33 (by decide) rfl ?_
  refine r_iadd X 35 dX6_written_34 rfl ?_
  refine r_iload_n X 4 36 dX6_written_35 rfl rfl rfl ?_
  obtain ⟨hin, h⟩ := h
  refine s_Mk X (Or.inl rfl) 37 hin dX6_written_36 rfl ?_
  refine r_nmS h (fun σ4 h => ?_)
  refine r_aload_n X 1 38 dX6_written_37 rfl rfl rfl ?_
  refine g_X6_30 X 41 dX6_written_38 rfl ?_
  refine r_iload X 0 43 dX6_written_41 rfl rfl ?_
  refine r_iconst (v := 3) X 44 dX6_written_43 (by decide) rfl ?_
  refine r_iadd X 45 dX6_written_44 rfl ?_
  refine r_iload X 5 47 dX6_written_45 rfl rfl ?_
  obtain ⟨hin, h⟩ := h
  refine s_Mk X (Or.inl rfl) 48 hin dX6_written_47 rfl ?_
  refine r_nmS h (fun σ5 h => ?_)
  refine r_aload_n X 1 49 dX6_written_48 rfl rfl rfl ?_
  refine g_X6_30 X 52 dX6_written_49 rfl ?_
  refine r_iload X 0 54 dX6_written_52 rfl rfl ?_
  refine r_iconst (v := 4) X 55 dX6_written_54 (by decide) rfl ?_
  refine r_iadd X 56 dX6_written_55 rfl ?_
  refine r_iload X 6 58 dX6_written_56 rfl rfl ?_
  obtain ⟨hin, h⟩ := h
  refine s_Mk X (Or.inl rfl) 59 hin dX6_written_58 rfl ?_
  refine r_nmS h (fun σ6 h => ?_)
  refine r_aload_n X 1 60 dX6_written_59 rfl rfl rfl ?_
  refine g_X6_30 X 63 dX6_written_60 rfl ?_
  refine r_iload X 0 65 dX6_written_63 rfl rfl ?_
  refine r_iconst (v := 5) X 66 dX6_written_65 (by decide) rfl ?_
  refine r_iadd X 67 dX6_written_66 rfl ?_
  refine r_iload X 7 69 dX6_written_67 rfl rfl ?_
  obtain ⟨hin, h⟩ := h
  refine s_Mk X (Or.inl rfl) 70 hin dX6_written_69 rfl ?_
  refine r_nmS h (fun σ7 h => ?_)
  refine r_aload_n X 1 71 dX6_written_70 rfl rfl rfl ?_
  refine g_X6_30 X 74 dX6_written_71 rfl ?_
  refine r_iload X 0 76 dX6_written_74 rfl rfl ?_
  refine r_bipush (v := 6) X 78 dX6_written_76 (by decide) rfl ?_
  refine r_iadd X 79 dX6_written_78 rfl ?_
  refine r_iload X 8 81 dX6_written_79 rfl rfl ?_
  obtain ⟨hin, h⟩ := h
  refine s_Mk X (Or.inl rfl) 82 hin dX6_written_81 rfl ?_
  refine r_nmS h (fun σ8 h => ?_)
  refine r_aload_n X 1 83 dX6_written_82 rfl rfl rfl ?_
  refine g_X6_30 X 86 dX6_written_83 rfl ?_
  refine r_iload X 0 88 dX6_written_86 rfl rfl ?_
  refine r_bipush (v := 7) X 90 dX6_written_88 (by decide) rfl ?_
  refine r_iadd X 91 dX6_written_90 rfl ?_
  refine r_aload_n X 1 92 dX6_written_91 rfl rfl rfl ?_
  refine g_X6_204 X 95 dX6_written_92 rfl ?_
  obtain ⟨hin, h⟩ := h
  refine s_Mk X (Or.inl rfl) 96 hin dX6_written_95 rfl ?_
  refine r_nmS h (fun σ9 h => ?_)
  refine r_aload_n X 1 97 dX6_written_96 rfl rfl rfl ?_
  refine r_aload_n X 1 98 dX6_written_97 rfl rfl rfl ?_
  refine r_aload_n X 1 99 dX6_written_98 rfl rfl rfl ?_
  refine g_X6_30 X 102 dX6_written_99 rfl ?_
  refine r_aload_n X 1 103 dX6_written_102 rfl rfl rfl ?_
  refine g_X6_195 X 106 dX6_written_103 rfl ?_
  refine r_iconst (v := 1) X 107 dX6_written_106 (by decide) rfl ?_
  refine r_iadd X 108 dX6_written_107 rfl ?_
  refine r_callI (As := [.ref (a 6), .int ((σ9 0 3) + 1)]) (rest := [.ref (a 0)]) X 111 (c_X6_firstWrong (Or.inl rfl) h) ml_X6_208 lk_X6_firstWrong wM_at_0 rfl rfl rfl (Nat.le_of_ble_eq_true rfl) ⟨rfl, rfl, ⟨Nat.le_of_ble_eq_true rfl, Nat.le_of_ble_eq_true rfl⟩, Nat.le_of_ble_eq_true rfl, Nat.le_of_ble_eq_true rfl⟩ dX6_written_108 rfl (fun y11 σ10 h => ?_)
  refine u_X6_42 X 114 dX6_written_111 rfl ?_
  refine r_nmS h (fun σ12 h => ?_)
  refine r_aload_n X 1 115 dX6_written_114 rfl rfl rfl ?_
  refine g_X6_42 X 118 dX6_written_115 rfl ?_
  refine r_iconst (v := (-1)) X 119 dX6_written_118 (by decide) rfl ?_
  refine r_icmp_eq X 129 122 h dX6_written_119 rfl rfl (fun h => ?_) (fun h => ?_)
  · refine r_aload_n X 1 130 dX6_written_129 rfl rfl rfl ?_
    refine r_dup X 131 dX6_written_130 rfl rfl ?_
    refine g_X6_195 X 134 dX6_written_131 rfl ?_
    refine r_iconst (v := 1) X 135 dX6_written_134 (by decide) rfl ?_
    refine r_iadd X 136 dX6_written_135 rfl ?_
    refine u_X6_195 X 139 dX6_written_136 rfl ?_
    refine r_nmS h (fun σ13 h => ?_)
    refine r_aload_n X 1 140 dX6_written_139 rfl rfl rfl ?_
    refine g_X6_195 X 143 dX6_written_140 rfl ?_
    refine r_iconst (v := 1) X 144 dX6_written_143 (by decide) rfl ?_
    refine r_isub X 145 dX6_written_144 rfl ?_
    exact r_iret X hr9 hlk9 h dX6_written_145
  · refine r_aload_n X 1 123 dX6_written_122 rfl rfl rfl ?_
    refine r_iconst (v := 5) X 124 dX6_written_123 (by decide) rfl ?_
    refine u_X6_39 X 127 dX6_written_124 rfl ?_
    refine r_nmS h (fun σ14 h => ?_)
    refine r_iconst (v := (-1)) X 128 dX6_written_127 (by decide) rfl ?_
    exact r_iret X hr9 hlk9 h dX6_written_128
def rm_X6_slip : Room := { frames := 8, cells := 0, slots := 0, locals := 200 }
theorem dX6_slip_0 : decode cX6_slip 0 = .ok (.aload_n 0, 1) := by decide +kernel
theorem dX6_slip_1 : decode cX6_slip 1 = .ok (.iconst (-1), 1) := by decide +kernel
theorem dX6_slip_2 : decode cX6_slip 2 = .ok (.putfield 42, 3) := by decide +kernel
theorem dX6_slip_5 : decode cX6_slip 5 = .ok (.aload_n 0, 1) := by decide +kernel
theorem dX6_slip_6 : decode cX6_slip 6 = .ok (.aload_n 0, 1) := by decide +kernel
theorem dX6_slip_7 : decode cX6_slip 7 = .ok (.getfield 195, 3) := by decide +kernel
theorem dX6_slip_10 : decode cX6_slip 10 = .ok (.sipush 400, 3) := by decide +kernel
theorem dX6_slip_13 : decode cX6_slip 13 = .ok (.if_icmp .ne 7, 3) := by decide +kernel
theorem dX6_slip_16 : decode cX6_slip 16 = .ok (.iconst 1, 1) := by decide +kernel
theorem dX6_slip_17 : decode cX6_slip 17 = .ok (.goto 53, 3) := by decide +kernel
theorem dX6_slip_20 : decode cX6_slip 20 = .ok (.iload_n 1, 1) := by decide +kernel
theorem dX6_slip_21 : decode cX6_slip 21 = .ok (.iconst 1, 1) := by decide +kernel
theorem dX6_slip_22 : decode cX6_slip 22 = .ok (.bipush 19, 2) := by decide +kernel
theorem dX6_slip_24 : decode cX6_slip 24 = .ok (.invokestatic 96, 3) := by decide +kernel
theorem dX6_slip_27 : decode cX6_slip 27 = .ok (.ifCond .ne 7, 3) := by decide +kernel
theorem dX6_slip_30 : decode cX6_slip 30 = .ok (.iconst 2, 1) := by decide +kernel
theorem dX6_slip_31 : decode cX6_slip 31 = .ok (.goto 39, 3) := by decide +kernel
theorem dX6_slip_34 : decode cX6_slip 34 = .ok (.iload_n 2, 1) := by decide +kernel
theorem dX6_slip_35 : decode cX6_slip 35 = .ok (.iconst 0, 1) := by decide +kernel
theorem dX6_slip_36 : decode cX6_slip 36 = .ok (.aload_n 0, 1) := by decide +kernel
theorem dX6_slip_37 : decode cX6_slip 37 = .ok (.getfield 93, 3) := by decide +kernel
theorem dX6_slip_40 : decode cX6_slip 40 = .ok (.iconst 1, 1) := by decide +kernel
theorem dX6_slip_41 : decode cX6_slip 41 = .ok (.isub, 1) := by decide +kernel
theorem dX6_slip_42 : decode cX6_slip 42 = .ok (.invokestatic 96, 3) := by decide +kernel
theorem dX6_slip_45 : decode cX6_slip 45 = .ok (.ifCond .ne 7, 3) := by decide +kernel
theorem dX6_slip_48 : decode cX6_slip 48 = .ok (.iconst 3, 1) := by decide +kernel
theorem dX6_slip_49 : decode cX6_slip 49 = .ok (.goto 21, 3) := by decide +kernel
theorem dX6_slip_52 : decode cX6_slip 52 = .ok (.iload 7, 2) := by decide +kernel
theorem dX6_slip_54 : decode cX6_slip 54 = .ok (.iconst 0, 1) := by decide +kernel
theorem dX6_slip_55 : decode cX6_slip 55 = .ok (.aload_n 0, 1) := by decide +kernel
theorem dX6_slip_56 : decode cX6_slip 56 = .ok (.getfield 204, 3) := by decide +kernel
theorem dX6_slip_59 : decode cX6_slip 59 = .ok (.invokestatic 96, 3) := by decide +kernel
theorem dX6_slip_62 : decode cX6_slip 62 = .ok (.ifCond .ne 7, 3) := by decide +kernel
theorem dX6_slip_65 : decode cX6_slip 65 = .ok (.iconst 4, 1) := by decide +kernel
theorem dX6_slip_66 : decode cX6_slip 66 = .ok (.goto 4, 3) := by decide +kernel
theorem dX6_slip_69 : decode cX6_slip 69 = .ok (.iconst 0, 1) := by decide +kernel
theorem dX6_slip_70 : decode cX6_slip 70 = .ok (.putfield 39, 3) := by decide +kernel
theorem dX6_slip_73 : decode cX6_slip 73 = .ok (.aload_n 0, 1) := by decide +kernel
theorem dX6_slip_74 : decode cX6_slip 74 = .ok (.getfield 39, 3) := by decide +kernel
theorem dX6_slip_77 : decode cX6_slip 77 = .ok (.ifCond .eq 7, 3) := by decide +kernel
theorem dX6_slip_80 : decode cX6_slip 80 = .ok (.iconst (-1), 1) := by decide +kernel
theorem dX6_slip_81 : decode cX6_slip 81 = .ok (.goto 18, 3) := by decide +kernel
theorem dX6_slip_84 : decode cX6_slip 84 = .ok (.aload_n 0, 1) := by decide +kernel
theorem dX6_slip_85 : decode cX6_slip 85 = .ok (.iload_n 1, 1) := by decide +kernel
theorem dX6_slip_86 : decode cX6_slip 86 = .ok (.iload_n 2, 1) := by decide +kernel
theorem dX6_slip_87 : decode cX6_slip 87 = .ok (.iload_n 3, 1) := by decide +kernel
theorem dX6_slip_88 : decode cX6_slip 88 = .ok (.iload 4, 2) := by decide +kernel
theorem dX6_slip_90 : decode cX6_slip 90 = .ok (.iload 5, 2) := by decide +kernel
theorem dX6_slip_92 : decode cX6_slip 92 = .ok (.iload 6, 2) := by decide +kernel
theorem dX6_slip_94 : decode cX6_slip 94 = .ok (.iload 7, 2) := by decide +kernel
theorem dX6_slip_96 : decode cX6_slip 96 = .ok (.invokevirtual 212, 3) := by decide +kernel
theorem dX6_slip_99 : decode cX6_slip 99 = .ok (.ireturn, 1) := by decide +kernel
def j_X6_slip_70  (Q : Int32 → St → Prop) (v1 : Int32) (v2 : Int32) (v3 : Int32) (v4 : Int32) (v5 : Int32) (v6 : Int32) (v7 : Int32) (s0 : Int32) (σ : St) : Prop :=
  nmS (up2 σ 0 15 s0) (fun σ8 =>
  if (σ8 0 15) = 0 then
  (wp_X6_written σ8 v1 v2 v3 v4 v5 v6 v7 (fun y10 σ9 =>
  Q y10 σ9))
  else (Q (-1) σ8))
theorem wk_X6_slip_70 (X : cx p s m args c cX6_slip 8 RX6 D (wM cI cZ a) A (tyW cI cZ cH)) (hr9 : meth.sig.returnType = (some .int)) (hlk9 : meth.locks = false)  {Q : Int32 → St → Prop} {v1 : Int32} {v2 : Int32} {v3 : Int32} {v4 : Int32} {v5 : Int32} {v6 : Int32} {v7 : Int32} {s0 : Int32} {σ : St} (h : j_X6_slip_70 Q v1 v2 v3 v4 v5 v6 v7 s0 σ) : go p l e rm_X6_slip s m args below meth c D (wM cI cZ a) A 0 0 (MQ below (va_Qi Q (atw D (wM cI cZ a) (tyW cI cZ cH) A) A) args s 0 0 A) 8 70 [(0, .ref (a 0)), (1, .int v1), (2, .int v2), (3, .int v3), (4, .int v4), (5, .int v5), (6, .int v6), (7, .int v7)] [.int s0, .ref (a 0)] σ := by
  delta j_X6_slip_70 at h
  refine u_X6_39 X 73 dX6_slip_70 rfl ?_
  refine r_nmS h (fun σ8 h => ?_)
  refine r_aload_n X 0 74 dX6_slip_73 rfl rfl rfl ?_
  refine g_X6_39 X 77 dX6_slip_74 rfl ?_
  refine r_if_eq X 84 80 h dX6_slip_77 rfl rfl (fun h => ?_) (fun h => ?_)
  · refine r_aload_n X 0 85 dX6_slip_84 rfl rfl rfl ?_
    refine r_iload_n X 1 86 dX6_slip_85 rfl rfl rfl ?_
    refine r_iload_n X 2 87 dX6_slip_86 rfl rfl rfl ?_
    refine r_iload_n X 3 88 dX6_slip_87 rfl rfl rfl ?_
    refine r_iload X 4 90 dX6_slip_88 rfl rfl ?_
    refine r_iload X 5 92 dX6_slip_90 rfl rfl ?_
    refine r_iload X 6 94 dX6_slip_92 rfl rfl ?_
    refine r_iload X 7 96 dX6_slip_94 rfl rfl ?_
    refine r_callI (As := [.int v1, .int v2, .int v3, .int v4, .int v5, .int v6, .int v7]) (rest := []) X 99 (c_X6_written h) ml_X6_212 lk_X6_written wM_at_0 rfl rfl rfl (Nat.le_of_ble_eq_true rfl) ⟨rfl, rfl, ⟨Nat.le_of_ble_eq_true rfl, Nat.le_of_ble_eq_true rfl⟩, Nat.le_of_ble_eq_true rfl, Nat.le_of_ble_eq_true rfl⟩ dX6_slip_96 rfl (fun y10 σ9 h => ?_)
    exact r_iret X hr9 hlk9 h dX6_slip_99
  · refine r_iconst (v := (-1)) X 81 dX6_slip_80 (by decide) rfl ?_
    refine r_goto X 99 dX6_slip_81 rfl ?_
    exact r_iret X hr9 hlk9 h dX6_slip_99
def wp_X6_slip  (σ : St) (x1 : Int32) (x2 : Int32) (x3 : Int32) (x4 : Int32) (x5 : Int32) (x6 : Int32) (x7 : Int32) (Q : Int32 → St → Prop) : Prop :=
  nmS (up2 σ 0 16 (-1)) (fun σ1 =>
  if (σ1 0 3) = 400 then
  (j_X6_slip_70 Q x1 x2 x3 x4 x5 x6 x7 1 σ1)
  else (wp_X6_isIn σ1 x1 1 19 (fun y3 σ2 =>
  if y3 = 0 then
  (j_X6_slip_70 Q x1 x2 x3 x4 x5 x6 x7 2 σ2)
  else (wp_X6_isIn σ2 x2 0 ((σ2 0 2) - 1) (fun y5 σ4 =>
  if y5 = 0 then
  (j_X6_slip_70 Q x1 x2 x3 x4 x5 x6 x7 3 σ4)
  else (wp_X6_isIn σ4 x7 0 (σ4 0 4) (fun y7 σ6 =>
  if y7 = 0 then
  (j_X6_slip_70 Q x1 x2 x3 x4 x5 x6 x7 4 σ6)
  else (j_X6_slip_70 Q x1 x2 x3 x4 x5 x6 x7 0 σ6))))))))
theorem c_X6_slip  {σ : St} {x1 : Int32} {x2 : Int32} {x3 : Int32} {x4 : Int32} {x5 : Int32} {x6 : Int32} {x7 : Int32} {Q : Int32 → St → Prop} (h : wp_X6_slip σ x1 x2 x3 x4 x5 x6 x7 Q) : ctI l yX6_slip cX6_slip 8 (some .int) rm_X6_slip D (wM cI cZ a) (tyW cI cZ cH) [.ref (a 0), .int x1, .int x2, .int x3, .int x4, .int x5, .int x6, .int x7] σ Q := by
  refine mk_I (wM_ok cI cZ a) (by decide +kernel) (Nat.le_of_ble_eq_true rfl) (fun p e s m args below meth c A X hr9 hlk9 => ?_)
  refine r_pick (lv' := [(0, .ref (a 0)), (1, .int x1), (2, .int x2), (3, .int x3), (4, .int x4), (5, .int x5), (6, .int x6), (7, .int x7)]) [0, 1, 2, 3, 4, 5, 6, 7] rfl ?_
  delta wp_X6_slip at h
  refine r_aload_n X 0 1 dX6_slip_0 rfl rfl rfl ?_
  refine r_iconst (v := (-1)) X 2 dX6_slip_1 (by decide) rfl ?_
  refine u_X6_42 X 5 dX6_slip_2 rfl ?_
  refine r_nmS h (fun σ1 h => ?_)
  refine r_aload_n X 0 6 dX6_slip_5 rfl rfl rfl ?_
  refine r_aload_n X 0 7 dX6_slip_6 rfl rfl rfl ?_
  refine g_X6_195 X 10 dX6_slip_7 rfl ?_
  refine r_sipush (v := 400) X 13 dX6_slip_10 (by decide) rfl ?_
  refine r_icmp_ne X 20 16 h dX6_slip_13 rfl rfl (fun h => ?_) (fun h => ?_)
  · refine r_iload_n X 1 21 dX6_slip_20 rfl rfl rfl ?_
    refine r_iconst (v := 1) X 22 dX6_slip_21 (by decide) rfl ?_
    refine r_bipush (v := 19) X 24 dX6_slip_22 (by decide) rfl ?_
    refine r_callSI (As := [.int x1, .int 1, .int 19]) (rest := [.ref (a 0)]) X 27 (c_X6_isIn h) ml_X6_96 lk_X6_isIn sy_X6_isIn rfl rfl (Nat.le_of_ble_eq_true rfl) ⟨rfl, rfl, ⟨Nat.le_of_ble_eq_true rfl, Nat.le_of_ble_eq_true rfl⟩, Nat.le_of_ble_eq_true rfl, Nat.le_of_ble_eq_true rfl⟩ dX6_slip_24 rfl (fun y3 σ2 h => ?_)
    obtain ⟨hb_y3, h⟩ := h
    refine r_if_ne X 34 30 h dX6_slip_27 rfl rfl (fun h => ?_) (fun h => ?_)
    · refine r_iload_n X 2 35 dX6_slip_34 rfl rfl rfl ?_
      refine r_iconst (v := 0) X 36 dX6_slip_35 (by decide) rfl ?_
      refine r_aload_n X 0 37 dX6_slip_36 rfl rfl rfl ?_
      refine g_X6_93 X 40 dX6_slip_37 rfl ?_
      refine r_iconst (v := 1) X 41 dX6_slip_40 (by decide) rfl ?_
      refine r_isub X 42 dX6_slip_41 rfl ?_
      refine r_callSI (As := [.int x2, .int 0, .int ((σ2 0 2) - 1)]) (rest := [.ref (a 0)]) X 45 (c_X6_isIn h) ml_X6_96 lk_X6_isIn sy_X6_isIn rfl rfl (Nat.le_of_ble_eq_true rfl) ⟨rfl, rfl, ⟨Nat.le_of_ble_eq_true rfl, Nat.le_of_ble_eq_true rfl⟩, Nat.le_of_ble_eq_true rfl, Nat.le_of_ble_eq_true rfl⟩ dX6_slip_42 rfl (fun y5 σ4 h => ?_)
      obtain ⟨hb_y5, h⟩ := h
      refine r_if_ne X 52 48 h dX6_slip_45 rfl rfl (fun h => ?_) (fun h => ?_)
      · refine r_iload X 7 54 dX6_slip_52 rfl rfl ?_
        refine r_iconst (v := 0) X 55 dX6_slip_54 (by decide) rfl ?_
        refine r_aload_n X 0 56 dX6_slip_55 rfl rfl rfl ?_
        refine g_X6_204 X 59 dX6_slip_56 rfl ?_
        refine r_callSI (As := [.int x7, .int 0, .int (σ4 0 4)]) (rest := [.ref (a 0)]) X 62 (c_X6_isIn h) ml_X6_96 lk_X6_isIn sy_X6_isIn rfl rfl (Nat.le_of_ble_eq_true rfl) ⟨rfl, rfl, ⟨Nat.le_of_ble_eq_true rfl, Nat.le_of_ble_eq_true rfl⟩, Nat.le_of_ble_eq_true rfl, Nat.le_of_ble_eq_true rfl⟩ dX6_slip_59 rfl (fun y7 σ6 h => ?_)
        obtain ⟨hb_y7, h⟩ := h
        refine r_if_ne X 69 65 h dX6_slip_62 rfl rfl (fun h => ?_) (fun h => ?_)
        · refine r_iconst (v := 0) X 70 dX6_slip_69 (by decide) rfl ?_
          refine r_pick (lv' := [(0, .ref (a 0)), (1, .int x1), (2, .int x2), (3, .int x3), (4, .int x4), (5, .int x5), (6, .int x6), (7, .int x7)]) [0, 1, 2, 3, 4, 5, 6, 7] rfl ?_
          exact wk_X6_slip_70 X hr9 hlk9 h
        · refine r_iconst (v := 4) X 66 dX6_slip_65 (by decide) rfl ?_
          refine r_goto X 70 dX6_slip_66 rfl ?_
          refine r_pick (lv' := [(0, .ref (a 0)), (1, .int x1), (2, .int x2), (3, .int x3), (4, .int x4), (5, .int x5), (6, .int x6), (7, .int x7)]) [0, 1, 2, 3, 4, 5, 6, 7] rfl ?_
          exact wk_X6_slip_70 X hr9 hlk9 h
      · refine r_iconst (v := 3) X 49 dX6_slip_48 (by decide) rfl ?_
        refine r_goto X 70 dX6_slip_49 rfl ?_
        refine r_pick (lv' := [(0, .ref (a 0)), (1, .int x1), (2, .int x2), (3, .int x3), (4, .int x4), (5, .int x5), (6, .int x6), (7, .int x7)]) [0, 1, 2, 3, 4, 5, 6, 7] rfl ?_
        exact wk_X6_slip_70 X hr9 hlk9 h
    · refine r_iconst (v := 2) X 31 dX6_slip_30 (by decide) rfl ?_
      refine r_goto X 70 dX6_slip_31 rfl ?_
      refine r_pick (lv' := [(0, .ref (a 0)), (1, .int x1), (2, .int x2), (3, .int x3), (4, .int x4), (5, .int x5), (6, .int x6), (7, .int x7)]) [0, 1, 2, 3, 4, 5, 6, 7] rfl ?_
      exact wk_X6_slip_70 X hr9 hlk9 h
  · refine r_iconst (v := 1) X 17 dX6_slip_16 (by decide) rfl ?_
    refine r_goto X 70 dX6_slip_17 rfl ?_
    refine r_pick (lv' := [(0, .ref (a 0)), (1, .int x1), (2, .int x2), (3, .int x3), (4, .int x4), (5, .int x5), (6, .int x6), (7, .int x7)]) [0, 1, 2, 3, 4, 5, 6, 7] rfl ?_
    exact wk_X6_slip_70 X hr9 hlk9 h
def rm_X6_fault : Room := { frames := 0, cells := 0, slots := 0, locals := 0 }
theorem dX6_fault_0 : decode cX6_fault 0 = .ok (.iload_n 1, 1) := by decide +kernel
theorem dX6_fault_1 : decode cX6_fault 1 = .ok (.ifCond .ne 10, 3) := by decide +kernel
theorem dX6_fault_4 : decode cX6_fault 4 = .ok (.aload_n 0, 1) := by decide +kernel
theorem dX6_fault_5 : decode cX6_fault 5 = .ok (.getfield 39, 3) := by decide +kernel
theorem dX6_fault_8 : decode cX6_fault 8 = .ok (.goto 16, 3) := by decide +kernel
theorem dX6_fault_11 : decode cX6_fault 11 = .ok (.iload_n 1, 1) := by decide +kernel
theorem dX6_fault_12 : decode cX6_fault 12 = .ok (.iconst 1, 1) := by decide +kernel
theorem dX6_fault_13 : decode cX6_fault 13 = .ok (.if_icmp .ne 10, 3) := by decide +kernel
theorem dX6_fault_16 : decode cX6_fault 16 = .ok (.aload_n 0, 1) := by decide +kernel
theorem dX6_fault_17 : decode cX6_fault 17 = .ok (.getfield 42, 3) := by decide +kernel
theorem dX6_fault_20 : decode cX6_fault 20 = .ok (.goto 4, 3) := by decide +kernel
theorem dX6_fault_23 : decode cX6_fault 23 = .ok (.iconst (-1), 1) := by decide +kernel
theorem dX6_fault_24 : decode cX6_fault 24 = .ok (.ireturn, 1) := by decide +kernel
def wp_X6_fault  (σ : St) (x1 : Int32) (Q : Int32 → St → Prop) : Prop :=
  if x1 = 0 then
  (Q (σ 0 15) σ)
  else (if x1 = 1 then
  (Q (σ 0 16) σ)
  else (Q (-1) σ))
theorem c_X6_fault  {σ : St} {x1 : Int32} {Q : Int32 → St → Prop} (h : wp_X6_fault σ x1 Q) : ctI l yX6_fault cX6_fault 2 (some .int) rm_X6_fault D (wM cI cZ a) (tyW cI cZ cH) [.ref (a 0), .int x1] σ Q := by
  refine mk_I (wM_ok cI cZ a) (by decide +kernel) (Nat.le_of_ble_eq_true rfl) (fun p e s m args below meth c A X hr9 hlk9 => ?_)
  refine r_pick (lv' := [(0, .ref (a 0)), (1, .int x1)]) [0, 1] rfl ?_
  delta wp_X6_fault at h
  refine r_iload_n X 1 1 dX6_fault_0 rfl rfl rfl ?_
  refine r_if_ne X 11 4 h dX6_fault_1 rfl rfl (fun h => ?_) (fun h => ?_)
  · refine r_iload_n X 1 12 dX6_fault_11 rfl rfl rfl ?_
    refine r_iconst (v := 1) X 13 dX6_fault_12 (by decide) rfl ?_
    refine r_icmp_ne X 23 16 h dX6_fault_13 rfl rfl (fun h => ?_) (fun h => ?_)
    · refine r_iconst (v := (-1)) X 24 dX6_fault_23 (by decide) rfl ?_
      exact r_iret X hr9 hlk9 h dX6_fault_24
    · refine r_aload_n X 0 17 dX6_fault_16 rfl rfl rfl ?_
      refine g_X6_42 X 20 dX6_fault_17 rfl ?_
      refine r_goto X 24 dX6_fault_20 rfl ?_
      exact r_iret X hr9 hlk9 h dX6_fault_24
  · refine r_aload_n X 0 5 dX6_fault_4 rfl rfl rfl ?_
    refine g_X6_39 X 8 dX6_fault_5 rfl ?_
    refine r_goto X 24 dX6_fault_8 rfl ?_
    exact r_iret X hr9 hlk9 h dX6_fault_24
def rm_X6_handing : Room := { frames := 2, cells := 0, slots := 0, locals := 43 }
theorem dX6_handing_0 : decode cX6_handing 0 = .ok (.iload_n 1, 1) := by decide +kernel
theorem dX6_handing_1 : decode cX6_handing 1 = .ok (.iconst 0, 1) := by decide +kernel
theorem dX6_handing_2 : decode cX6_handing 2 = .ok (.aload_n 0, 1) := by decide +kernel
theorem dX6_handing_3 : decode cX6_handing 3 = .ok (.getfield 93, 3) := by decide +kernel
theorem dX6_handing_6 : decode cX6_handing 6 = .ok (.iconst 1, 1) := by decide +kernel
theorem dX6_handing_7 : decode cX6_handing 7 = .ok (.isub, 1) := by decide +kernel
theorem dX6_handing_8 : decode cX6_handing 8 = .ok (.invokestatic 96, 3) := by decide +kernel
theorem dX6_handing_11 : decode cX6_handing 11 = .ok (.ifCond .eq 46, 3) := by decide +kernel
theorem dX6_handing_14 : decode cX6_handing 14 = .ok (.aload_n 0, 1) := by decide +kernel
theorem dX6_handing_15 : decode cX6_handing 15 = .ok (.iload_n 2, 1) := by decide +kernel
theorem dX6_handing_16 : decode cX6_handing 16 = .ok (.invokevirtual 143, 3) := by decide +kernel
theorem dX6_handing_19 : decode cX6_handing 19 = .ok (.ifCond .eq 38, 3) := by decide +kernel
theorem dX6_handing_22 : decode cX6_handing 22 = .ok (.aload_n 0, 1) := by decide +kernel
theorem dX6_handing_23 : decode cX6_handing 23 = .ok (.iload_n 3, 1) := by decide +kernel
theorem dX6_handing_24 : decode cX6_handing 24 = .ok (.invokevirtual 143, 3) := by decide +kernel
theorem dX6_handing_27 : decode cX6_handing 27 = .ok (.ifCond .eq 30, 3) := by decide +kernel
theorem dX6_handing_30 : decode cX6_handing 30 = .ok (.iload_n 2, 1) := by decide +kernel
theorem dX6_handing_31 : decode cX6_handing 31 = .ok (.iload_n 3, 1) := by decide +kernel
theorem dX6_handing_32 : decode cX6_handing 32 = .ok (.if_icmp .eq 25, 3) := by decide +kernel
theorem dX6_handing_35 : decode cX6_handing 35 = .ok (.iload 4, 2) := by decide +kernel
theorem dX6_handing_37 : decode cX6_handing 37 = .ok (.iconst 0, 1) := by decide +kernel
theorem dX6_handing_38 : decode cX6_handing 38 = .ok (.aload_n 0, 1) := by decide +kernel
theorem dX6_handing_39 : decode cX6_handing 39 = .ok (.getfield 204, 3) := by decide +kernel
theorem dX6_handing_42 : decode cX6_handing 42 = .ok (.invokestatic 96, 3) := by decide +kernel
theorem dX6_handing_45 : decode cX6_handing 45 = .ok (.ifCond .eq 12, 3) := by decide +kernel
theorem dX6_handing_48 : decode cX6_handing 48 = .ok (.aload_n 0, 1) := by decide +kernel
theorem dX6_handing_49 : decode cX6_handing 49 = .ok (.getfield 216, 3) := by decide +kernel
theorem dX6_handing_52 : decode cX6_handing 52 = .ok (.bipush 60, 2) := by decide +kernel
theorem dX6_handing_54 : decode cX6_handing 54 = .ok (.if_icmp .ne 5, 3) := by decide +kernel
theorem dX6_handing_57 : decode cX6_handing 57 = .ok (.iconst (-1), 1) := by decide +kernel
theorem dX6_handing_58 : decode cX6_handing 58 = .ok (.ireturn, 1) := by decide +kernel
theorem dX6_handing_59 : decode cX6_handing 59 = .ok (.bipush 7, 2) := by decide +kernel
theorem dX6_handing_61 : decode cX6_handing 61 = .ok (.aload_n 0, 1) := by decide +kernel
theorem dX6_handing_62 : decode cX6_handing 62 = .ok (.getfield 216, 3) := by decide +kernel
theorem dX6_handing_65 : decode cX6_handing 65 = .ok (.imul, 1) := by decide +kernel
theorem dX6_handing_66 : decode cX6_handing 66 = .ok (.istore 5, 2) := by decide +kernel
theorem dX6_handing_68 : decode cX6_handing 68 = .ok (.aload_n 0, 1) := by decide +kernel
theorem dX6_handing_69 : decode cX6_handing 69 = .ok (.getfield 36, 3) := by decide +kernel
theorem dX6_handing_72 : decode cX6_handing 72 = .ok (.iload 5, 2) := by decide +kernel
theorem dX6_handing_74 : decode cX6_handing 74 = .ok (.iload_n 1, 1) := by decide +kernel
theorem dX6_handing_75 : decode cX6_handing 75 = .ok (.iastore, 1) := by decide +kernel
theorem dX6_handing_76 : decode cX6_handing 76 = .ok (.aload_n 0, 1) := by decide +kernel
theorem dX6_handing_77 : decode cX6_handing 77 = .ok (.getfield 36, 3) := by decide +kernel
theorem dX6_handing_80 : decode cX6_handing 80 = .ok (.iload 5, 2) := by decide +kernel
theorem dX6_handing_82 : decode cX6_handing 82 = .ok (.iconst 1, 1) := by decide +kernel
theorem dX6_handing_83 : decode cX6_handing 83 = .ok (.iadd, 1) := by decide +kernel
theorem dX6_handing_84 : decode cX6_handing 84 = .ok (.iload_n 2, 1) := by decide +kernel
theorem dX6_handing_85 : decode cX6_handing 85 = .ok (.iastore, 1) := by decide +kernel
theorem dX6_handing_86 : decode cX6_handing 86 = .ok (.aload_n 0, 1) := by decide +kernel
theorem dX6_handing_87 : decode cX6_handing 87 = .ok (.getfield 36, 3) := by decide +kernel
theorem dX6_handing_90 : decode cX6_handing 90 = .ok (.iload 5, 2) := by decide +kernel
theorem dX6_handing_92 : decode cX6_handing 92 = .ok (.iconst 2, 1) := by decide +kernel
theorem dX6_handing_93 : decode cX6_handing 93 = .ok (.iadd, 1) := by decide +kernel
theorem dX6_handing_94 : decode cX6_handing 94 = .ok (.iload_n 3, 1) := by decide +kernel
theorem dX6_handing_95 : decode cX6_handing 95 = .ok (.iastore, 1) := by decide +kernel
theorem dX6_handing_96 : decode cX6_handing 96 = .ok (.aload_n 0, 1) := by decide +kernel
theorem dX6_handing_97 : decode cX6_handing 97 = .ok (.getfield 36, 3) := by decide +kernel
theorem dX6_handing_100 : decode cX6_handing 100 = .ok (.iload 5, 2) := by decide +kernel
theorem dX6_handing_102 : decode cX6_handing 102 = .ok (.iconst 3, 1) := by decide +kernel
theorem dX6_handing_103 : decode cX6_handing 103 = .ok (.iadd, 1) := by decide +kernel
theorem dX6_handing_104 : decode cX6_handing 104 = .ok (.iload 4, 2) := by decide +kernel
theorem dX6_handing_106 : decode cX6_handing 106 = .ok (.iastore, 1) := by decide +kernel
theorem dX6_handing_107 : decode cX6_handing 107 = .ok (.aload_n 0, 1) := by decide +kernel
theorem dX6_handing_108 : decode cX6_handing 108 = .ok (.getfield 36, 3) := by decide +kernel
theorem dX6_handing_111 : decode cX6_handing 111 = .ok (.iload 5, 2) := by decide +kernel
theorem dX6_handing_113 : decode cX6_handing 113 = .ok (.iconst 4, 1) := by decide +kernel
theorem dX6_handing_114 : decode cX6_handing 114 = .ok (.iadd, 1) := by decide +kernel
theorem dX6_handing_115 : decode cX6_handing 115 = .ok (.iconst (-1), 1) := by decide +kernel
theorem dX6_handing_116 : decode cX6_handing 116 = .ok (.iastore, 1) := by decide +kernel
theorem dX6_handing_117 : decode cX6_handing 117 = .ok (.aload_n 0, 1) := by decide +kernel
theorem dX6_handing_118 : decode cX6_handing 118 = .ok (.getfield 36, 3) := by decide +kernel
theorem dX6_handing_121 : decode cX6_handing 121 = .ok (.iload 5, 2) := by decide +kernel
theorem dX6_handing_123 : decode cX6_handing 123 = .ok (.iconst 5, 1) := by decide +kernel
theorem dX6_handing_124 : decode cX6_handing 124 = .ok (.iadd, 1) := by decide +kernel
theorem dX6_handing_125 : decode cX6_handing 125 = .ok (.iconst (-1), 1) := by decide +kernel
theorem dX6_handing_126 : decode cX6_handing 126 = .ok (.iastore, 1) := by decide +kernel
theorem dX6_handing_127 : decode cX6_handing 127 = .ok (.aload_n 0, 1) := by decide +kernel
theorem dX6_handing_128 : decode cX6_handing 128 = .ok (.getfield 36, 3) := by decide +kernel
theorem dX6_handing_131 : decode cX6_handing 131 = .ok (.iload 5, 2) := by decide +kernel
theorem dX6_handing_133 : decode cX6_handing 133 = .ok (.bipush 6, 2) := by decide +kernel
theorem dX6_handing_135 : decode cX6_handing 135 = .ok (.iadd, 1) := by decide +kernel
theorem dX6_handing_136 : decode cX6_handing 136 = .ok (.iconst 0, 1) := by decide +kernel
theorem dX6_handing_137 : decode cX6_handing 137 = .ok (.iastore, 1) := by decide +kernel
theorem dX6_handing_138 : decode cX6_handing 138 = .ok (.aload_n 0, 1) := by decide +kernel
theorem dX6_handing_139 : decode cX6_handing 139 = .ok (.dup, 1) := by decide +kernel
theorem dX6_handing_140 : decode cX6_handing 140 = .ok (.getfield 216, 3) := by decide +kernel
theorem dX6_handing_143 : decode cX6_handing 143 = .ok (.iconst 1, 1) := by decide +kernel
theorem dX6_handing_144 : decode cX6_handing 144 = .ok (.iadd, 1) := by decide +kernel
theorem dX6_handing_145 : decode cX6_handing 145 = .ok (.putfield 216, 3) := by decide +kernel
theorem dX6_handing_148 : decode cX6_handing 148 = .ok (.aload_n 0, 1) := by decide +kernel
theorem dX6_handing_149 : decode cX6_handing 149 = .ok (.getfield 216, 3) := by decide +kernel
theorem dX6_handing_152 : decode cX6_handing 152 = .ok (.iconst 1, 1) := by decide +kernel
theorem dX6_handing_153 : decode cX6_handing 153 = .ok (.isub, 1) := by decide +kernel
theorem dX6_handing_154 : decode cX6_handing 154 = .ok (.ireturn, 1) := by decide +kernel
def wp_X6_handing  (σ : St) (x1 : Int32) (x2 : Int32) (x3 : Int32) (x4 : Int32) (Q : Int32 → St → Prop) : Prop :=
  wp_X6_isIn σ x1 0 ((σ 0 2) - 1) (fun y2 σ1 =>
  if y2 = 0 then
  (Q (-1) σ1)
  else (wp_X6_isHand σ1 x2 (fun y4 σ3 =>
  if y4 = 0 then
  (Q (-1) σ3)
  else (wp_X6_isHand σ3 x3 (fun y6 σ5 =>
  if y6 = 0 then
  (Q (-1) σ5)
  else (if x2 = x3 then
  (Q (-1) σ5)
  else (wp_X6_isIn σ5 x4 0 (σ5 0 4) (fun y8 σ7 =>
  if y8 = 0 then
  (Q (-1) σ7)
  else (if (σ7 0 5) = 60 then
  (Q (-1) σ7)
  else (nm (((7 : Int32) * (σ7 0 5))) (fun z9 =>
  vp_in z9 420 ∧
  nmS (up2 σ7 8 (ix z9) x1) (fun σ10 =>
  vp_in (z9 + 1) 420 ∧
  nmS (up2 σ10 8 (ix (z9 + 1)) x2) (fun σ11 =>
  vp_in (z9 + 2) 420 ∧
  nmS (up2 σ11 8 (ix (z9 + 2)) x3) (fun σ12 =>
  vp_in (z9 + 3) 420 ∧
  nmS (up2 σ12 8 (ix (z9 + 3)) x4) (fun σ13 =>
  vp_in (z9 + 4) 420 ∧
  nmS (up2 σ13 8 (ix (z9 + 4)) (-1)) (fun σ14 =>
  vp_in (z9 + 5) 420 ∧
  nmS (up2 σ14 8 (ix (z9 + 5)) (-1)) (fun σ15 =>
  vp_in (z9 + 6) 420 ∧
  nmS (up2 σ15 8 (ix (z9 + 6)) 0) (fun σ16 =>
  nmS (up2 σ16 0 5 ((σ16 0 5) + 1)) (fun σ17 =>
  Q ((σ17 0 5) - 1) σ17)))))))))))))))))))
theorem c_X6_handing  {σ : St} {x1 : Int32} {x2 : Int32} {x3 : Int32} {x4 : Int32} {Q : Int32 → St → Prop} (h : wp_X6_handing σ x1 x2 x3 x4 Q) : ctI l yX6_handing cX6_handing 6 (some .int) rm_X6_handing D (wM cI cZ a) (tyW cI cZ cH) [.ref (a 0), .int x1, .int x2, .int x3, .int x4] σ Q := by
  refine mk_I (wM_ok cI cZ a) (by decide +kernel) (Nat.le_of_ble_eq_true rfl) (fun p e s m args below meth c A X hr9 hlk9 => ?_)
  refine r_pick (lv' := [(0, .ref (a 0)), (1, .int x1), (2, .int x2), (3, .int x3), (4, .int x4)]) [0, 1, 2, 3, 4] rfl ?_
  delta wp_X6_handing at h
  refine r_iload_n X 1 1 dX6_handing_0 rfl rfl rfl ?_
  refine r_iconst (v := 0) X 2 dX6_handing_1 (by decide) rfl ?_
  refine r_aload_n X 0 3 dX6_handing_2 rfl rfl rfl ?_
  refine g_X6_93 X 6 dX6_handing_3 rfl ?_
  refine r_iconst (v := 1) X 7 dX6_handing_6 (by decide) rfl ?_
  refine r_isub X 8 dX6_handing_7 rfl ?_
  refine r_callSI (As := [.int x1, .int 0, .int ((σ 0 2) - 1)]) (rest := []) X 11 (c_X6_isIn h) ml_X6_96 lk_X6_isIn sy_X6_isIn rfl rfl (Nat.le_of_ble_eq_true rfl) ⟨rfl, rfl, ⟨Nat.le_of_ble_eq_true rfl, Nat.le_of_ble_eq_true rfl⟩, Nat.le_of_ble_eq_true rfl, Nat.le_of_ble_eq_true rfl⟩ dX6_handing_8 rfl (fun y2 σ1 h => ?_)
  obtain ⟨hb_y2, h⟩ := h
  refine r_if_eq X 57 14 h dX6_handing_11 rfl rfl (fun h => ?_) (fun h => ?_)
  · refine r_iconst (v := (-1)) X 58 dX6_handing_57 (by decide) rfl ?_
    exact r_iret X hr9 hlk9 h dX6_handing_58
  · refine r_aload_n X 0 15 dX6_handing_14 rfl rfl rfl ?_
    refine r_iload_n X 2 16 dX6_handing_15 rfl rfl rfl ?_
    refine r_callI (As := [.int x2]) (rest := []) X 19 (c_X6_isHand h) ml_X6_143 lk_X6_isHand wM_at_0 rfl rfl rfl (Nat.le_of_ble_eq_true rfl) ⟨rfl, rfl, ⟨Nat.le_of_ble_eq_true rfl, Nat.le_of_ble_eq_true rfl⟩, Nat.le_of_ble_eq_true rfl, Nat.le_of_ble_eq_true rfl⟩ dX6_handing_16 rfl (fun y4 σ3 h => ?_)
    obtain ⟨hb_y4, h⟩ := h
    refine r_if_eq X 57 22 h dX6_handing_19 rfl rfl (fun h => ?_) (fun h => ?_)
    · refine r_iconst (v := (-1)) X 58 dX6_handing_57 (by decide) rfl ?_
      exact r_iret X hr9 hlk9 h dX6_handing_58
    · refine r_aload_n X 0 23 dX6_handing_22 rfl rfl rfl ?_
      refine r_iload_n X 3 24 dX6_handing_23 rfl rfl rfl ?_
      refine r_callI (As := [.int x3]) (rest := []) X 27 (c_X6_isHand h) ml_X6_143 lk_X6_isHand wM_at_0 rfl rfl rfl (Nat.le_of_ble_eq_true rfl) ⟨rfl, rfl, ⟨Nat.le_of_ble_eq_true rfl, Nat.le_of_ble_eq_true rfl⟩, Nat.le_of_ble_eq_true rfl, Nat.le_of_ble_eq_true rfl⟩ dX6_handing_24 rfl (fun y6 σ5 h => ?_)
      obtain ⟨hb_y6, h⟩ := h
      refine r_if_eq X 57 30 h dX6_handing_27 rfl rfl (fun h => ?_) (fun h => ?_)
      · refine r_iconst (v := (-1)) X 58 dX6_handing_57 (by decide) rfl ?_
        exact r_iret X hr9 hlk9 h dX6_handing_58
      · refine r_iload_n X 2 31 dX6_handing_30 rfl rfl rfl ?_
        refine r_iload_n X 3 32 dX6_handing_31 rfl rfl rfl ?_
        refine r_icmp_eq X 57 35 h dX6_handing_32 rfl rfl (fun h => ?_) (fun h => ?_)
        · refine r_iconst (v := (-1)) X 58 dX6_handing_57 (by decide) rfl ?_
          exact r_iret X hr9 hlk9 h dX6_handing_58
        · refine r_iload X 4 37 dX6_handing_35 rfl rfl ?_
          refine r_iconst (v := 0) X 38 dX6_handing_37 (by decide) rfl ?_
          refine r_aload_n X 0 39 dX6_handing_38 rfl rfl rfl ?_
          refine g_X6_204 X 42 dX6_handing_39 rfl ?_
          refine r_callSI (As := [.int x4, .int 0, .int (σ5 0 4)]) (rest := []) X 45 (c_X6_isIn h) ml_X6_96 lk_X6_isIn sy_X6_isIn rfl rfl (Nat.le_of_ble_eq_true rfl) ⟨rfl, rfl, ⟨Nat.le_of_ble_eq_true rfl, Nat.le_of_ble_eq_true rfl⟩, Nat.le_of_ble_eq_true rfl, Nat.le_of_ble_eq_true rfl⟩ dX6_handing_42 rfl (fun y8 σ7 h => ?_)
          obtain ⟨hb_y8, h⟩ := h
          refine r_if_eq X 57 48 h dX6_handing_45 rfl rfl (fun h => ?_) (fun h => ?_)
          · refine r_iconst (v := (-1)) X 58 dX6_handing_57 (by decide) rfl ?_
            exact r_iret X hr9 hlk9 h dX6_handing_58
          · refine r_aload_n X 0 49 dX6_handing_48 rfl rfl rfl ?_
            refine g_X6_216 X 52 dX6_handing_49 rfl ?_
            refine r_bipush (v := 60) X 54 dX6_handing_52 (by decide) rfl ?_
            refine r_icmp_ne X 59 57 h dX6_handing_54 rfl rfl (fun h => ?_) (fun h => ?_)
            · refine r_bipush (v := 7) X 61 dX6_handing_59 (by decide) rfl ?_
              refine r_aload_n X 0 62 dX6_handing_61 rfl rfl rfl ?_
              refine g_X6_216 X 65 dX6_handing_62 rfl ?_
              refine r_imul X 66 dX6_handing_65 rfl ?_
              refine r_istoreN X 68 (fun z9 => [(5, .int z9), (0, .ref (a 0)), (1, .int x1), (2, .int x2), (3, .int x3), (4, .int x4)]) h dX6_handing_66 (by decide) (fun _ => rfl) rfl (fun z9 h => ?_)
              refine r_aload_n X 1 69 dX6_handing_68 rfl rfl rfl ?_
              refine g_X6_36 X 72 dX6_handing_69 rfl ?_
              refine r_iload X 0 74 dX6_handing_72 rfl rfl ?_
              refine r_iload_n X 2 75 dX6_handing_74 rfl rfl rfl ?_
              obtain ⟨hin, h⟩ := h
              refine s_M8 X 76 hin dX6_handing_75 rfl ?_
              refine r_nmS h (fun σ10 h => ?_)
              refine r_aload_n X 1 77 dX6_handing_76 rfl rfl rfl ?_
              refine g_X6_36 X 80 dX6_handing_77 rfl ?_
              refine r_iload X 0 82 dX6_handing_80 rfl rfl ?_
              refine r_iconst (v := 1) X 83 dX6_handing_82 (by decide) rfl ?_
              refine r_iadd X 84 dX6_handing_83 rfl ?_
              refine r_iload_n X 3 85 dX6_handing_84 rfl rfl rfl ?_
              obtain ⟨hin, h⟩ := h
              refine s_M8 X 86 hin dX6_handing_85 rfl ?_
              refine r_nmS h (fun σ11 h => ?_)
              refine r_aload_n X 1 87 dX6_handing_86 rfl rfl rfl ?_
              refine g_X6_36 X 90 dX6_handing_87 rfl ?_
              refine r_iload X 0 92 dX6_handing_90 rfl rfl ?_
              refine r_iconst (v := 2) X 93 dX6_handing_92 (by decide) rfl ?_
              refine r_iadd X 94 dX6_handing_93 rfl ?_
              refine r_iload_n X 4 95 dX6_handing_94 rfl rfl rfl ?_
              obtain ⟨hin, h⟩ := h
              refine s_M8 X 96 hin dX6_handing_95 rfl ?_
              refine r_nmS h (fun σ12 h => ?_)
              refine r_aload_n X 1 97 dX6_handing_96 rfl rfl rfl ?_
              refine g_X6_36 X 100 dX6_handing_97 rfl ?_
              refine r_iload X 0 102 dX6_handing_100 rfl rfl ?_
              refine r_iconst (v := 3) X 103 dX6_handing_102 (by decide) rfl ?_
              refine r_iadd X 104 dX6_handing_103 rfl ?_
              refine r_iload X 5 106 dX6_handing_104 rfl rfl ?_
              obtain ⟨hin, h⟩ := h
              refine s_M8 X 107 hin dX6_handing_106 rfl ?_
              refine r_nmS h (fun σ13 h => ?_)
              refine r_aload_n X 1 108 dX6_handing_107 rfl rfl rfl ?_
              refine g_X6_36 X 111 dX6_handing_108 rfl ?_
              refine r_iload X 0 113 dX6_handing_111 rfl rfl ?_
              refine r_iconst (v := 4) X 114 dX6_handing_113 (by decide) rfl ?_
              refine r_iadd X 115 dX6_handing_114 rfl ?_
              refine r_iconst (v := (-1)) X 116 dX6_handing_115 (by decide) rfl ?_
              obtain ⟨hin, h⟩ := h
              refine s_M8 X 117 hin dX6_handing_116 rfl ?_
              refine r_nmS h (fun σ14 h => ?_)
              refine r_aload_n X 1 118 dX6_handing_117 rfl rfl rfl ?_
              refine g_X6_36 X 121 dX6_handing_118 rfl ?_
              refine r_iload X 0 123 dX6_handing_121 rfl rfl ?_
              refine r_iconst (v := 5) X 124 dX6_handing_123 (by decide) rfl ?_
              refine r_iadd X 125 dX6_handing_124 rfl ?_
              refine r_iconst (v := (-1)) X 126 dX6_handing_125 (by decide) rfl ?_
              obtain ⟨hin, h⟩ := h
              refine s_M8 X 127 hin dX6_handing_126 rfl ?_
              refine r_nmS h (fun σ15 h => ?_)
              refine r_aload_n X 1 128 dX6_handing_127 rfl rfl rfl ?_
              refine g_X6_36 X 131 dX6_handing_128 rfl ?_
              refine r_iload X 0 133 dX6_handing_131 rfl rfl ?_
              refine r_bipush (v := 6) X 135 dX6_handing_133 (by decide) rfl ?_
              refine r_iadd X 136 dX6_handing_135 rfl ?_
              refine r_iconst (v := 0) X 137 dX6_handing_136 (by decide) rfl ?_
              obtain ⟨hin, h⟩ := h
              refine s_M8 X 138 hin dX6_handing_137 rfl ?_
              refine r_nmS h (fun σ16 h => ?_)
              refine r_aload_n X 1 139 dX6_handing_138 rfl rfl rfl ?_
              refine r_dup X 140 dX6_handing_139 rfl rfl ?_
              refine g_X6_216 X 143 dX6_handing_140 rfl ?_
              refine r_iconst (v := 1) X 144 dX6_handing_143 (by decide) rfl ?_
              refine r_iadd X 145 dX6_handing_144 rfl ?_
              refine u_X6_216 X 148 dX6_handing_145 rfl ?_
              refine r_nmS h (fun σ17 h => ?_)
              refine r_aload_n X 1 149 dX6_handing_148 rfl rfl rfl ?_
              refine g_X6_216 X 152 dX6_handing_149 rfl ?_
              refine r_iconst (v := 1) X 153 dX6_handing_152 (by decide) rfl ?_
              refine r_isub X 154 dX6_handing_153 rfl ?_
              exact r_iret X hr9 hlk9 h dX6_handing_154
            · refine r_iconst (v := (-1)) X 58 dX6_handing_57 (by decide) rfl ?_
              exact r_iret X hr9 hlk9 h dX6_handing_58
def rm_X6_sayer : Room := { frames := 1, cells := 0, slots := 0, locals := 22 }
theorem dX6_sayer_0 : decode cX6_sayer 0 = .ok (.iload_n 1, 1) := by decide +kernel
theorem dX6_sayer_1 : decode cX6_sayer 1 = .ok (.iconst 0, 1) := by decide +kernel
theorem dX6_sayer_2 : decode cX6_sayer 2 = .ok (.aload_n 0, 1) := by decide +kernel
theorem dX6_sayer_3 : decode cX6_sayer 3 = .ok (.getfield 216, 3) := by decide +kernel
theorem dX6_sayer_6 : decode cX6_sayer 6 = .ok (.iconst 1, 1) := by decide +kernel
theorem dX6_sayer_7 : decode cX6_sayer 7 = .ok (.isub, 1) := by decide +kernel
theorem dX6_sayer_8 : decode cX6_sayer 8 = .ok (.invokestatic 96, 3) := by decide +kernel
theorem dX6_sayer_11 : decode cX6_sayer 11 = .ok (.ifCond .eq 18, 3) := by decide +kernel
theorem dX6_sayer_14 : decode cX6_sayer 14 = .ok (.aload_n 0, 1) := by decide +kernel
theorem dX6_sayer_15 : decode cX6_sayer 15 = .ok (.getfield 36, 3) := by decide +kernel
theorem dX6_sayer_18 : decode cX6_sayer 18 = .ok (.bipush 7, 2) := by decide +kernel
theorem dX6_sayer_20 : decode cX6_sayer 20 = .ok (.iload_n 1, 1) := by decide +kernel
theorem dX6_sayer_21 : decode cX6_sayer 21 = .ok (.imul, 1) := by decide +kernel
theorem dX6_sayer_22 : decode cX6_sayer 22 = .ok (.bipush 6, 2) := by decide +kernel
theorem dX6_sayer_24 : decode cX6_sayer 24 = .ok (.iadd, 1) := by decide +kernel
theorem dX6_sayer_25 : decode cX6_sayer 25 = .ok (.iaload, 1) := by decide +kernel
theorem dX6_sayer_26 : decode cX6_sayer 26 = .ok (.ifCond .eq 5, 3) := by decide +kernel
theorem dX6_sayer_29 : decode cX6_sayer 29 = .ok (.iconst (-1), 1) := by decide +kernel
theorem dX6_sayer_30 : decode cX6_sayer 30 = .ok (.ireturn, 1) := by decide +kernel
theorem dX6_sayer_31 : decode cX6_sayer 31 = .ok (.aload_n 0, 1) := by decide +kernel
theorem dX6_sayer_32 : decode cX6_sayer 32 = .ok (.getfield 36, 3) := by decide +kernel
theorem dX6_sayer_35 : decode cX6_sayer 35 = .ok (.bipush 7, 2) := by decide +kernel
theorem dX6_sayer_37 : decode cX6_sayer 37 = .ok (.iload_n 1, 1) := by decide +kernel
theorem dX6_sayer_38 : decode cX6_sayer 38 = .ok (.imul, 1) := by decide +kernel
theorem dX6_sayer_39 : decode cX6_sayer 39 = .ok (.iconst 1, 1) := by decide +kernel
theorem dX6_sayer_40 : decode cX6_sayer 40 = .ok (.iadd, 1) := by decide +kernel
theorem dX6_sayer_41 : decode cX6_sayer 41 = .ok (.iaload, 1) := by decide +kernel
theorem dX6_sayer_42 : decode cX6_sayer 42 = .ok (.iload_n 2, 1) := by decide +kernel
theorem dX6_sayer_43 : decode cX6_sayer 43 = .ok (.if_icmp .ne 12, 3) := by decide +kernel
theorem dX6_sayer_46 : decode cX6_sayer 46 = .ok (.bipush 7, 2) := by decide +kernel
theorem dX6_sayer_48 : decode cX6_sayer 48 = .ok (.iload_n 1, 1) := by decide +kernel
theorem dX6_sayer_49 : decode cX6_sayer 49 = .ok (.imul, 1) := by decide +kernel
theorem dX6_sayer_50 : decode cX6_sayer 50 = .ok (.iconst 4, 1) := by decide +kernel
theorem dX6_sayer_51 : decode cX6_sayer 51 = .ok (.iadd, 1) := by decide +kernel
theorem dX6_sayer_52 : decode cX6_sayer 52 = .ok (.goto 28, 3) := by decide +kernel
theorem dX6_sayer_55 : decode cX6_sayer 55 = .ok (.aload_n 0, 1) := by decide +kernel
theorem dX6_sayer_56 : decode cX6_sayer 56 = .ok (.getfield 36, 3) := by decide +kernel
theorem dX6_sayer_59 : decode cX6_sayer 59 = .ok (.bipush 7, 2) := by decide +kernel
theorem dX6_sayer_61 : decode cX6_sayer 61 = .ok (.iload_n 1, 1) := by decide +kernel
theorem dX6_sayer_62 : decode cX6_sayer 62 = .ok (.imul, 1) := by decide +kernel
theorem dX6_sayer_63 : decode cX6_sayer 63 = .ok (.iconst 2, 1) := by decide +kernel
theorem dX6_sayer_64 : decode cX6_sayer 64 = .ok (.iadd, 1) := by decide +kernel
theorem dX6_sayer_65 : decode cX6_sayer 65 = .ok (.iaload, 1) := by decide +kernel
theorem dX6_sayer_66 : decode cX6_sayer 66 = .ok (.iload_n 2, 1) := by decide +kernel
theorem dX6_sayer_67 : decode cX6_sayer 67 = .ok (.if_icmp .ne 12, 3) := by decide +kernel
theorem dX6_sayer_70 : decode cX6_sayer 70 = .ok (.bipush 7, 2) := by decide +kernel
theorem dX6_sayer_72 : decode cX6_sayer 72 = .ok (.iload_n 1, 1) := by decide +kernel
theorem dX6_sayer_73 : decode cX6_sayer 73 = .ok (.imul, 1) := by decide +kernel
theorem dX6_sayer_74 : decode cX6_sayer 74 = .ok (.iconst 5, 1) := by decide +kernel
theorem dX6_sayer_75 : decode cX6_sayer 75 = .ok (.iadd, 1) := by decide +kernel
theorem dX6_sayer_76 : decode cX6_sayer 76 = .ok (.goto 4, 3) := by decide +kernel
theorem dX6_sayer_79 : decode cX6_sayer 79 = .ok (.iconst (-1), 1) := by decide +kernel
theorem dX6_sayer_80 : decode cX6_sayer 80 = .ok (.ireturn, 1) := by decide +kernel
def wp_X6_sayer  (σ : St) (x1 : Int32) (x2 : Int32) (Q : Int32 → St → Prop) : Prop :=
  wp_X6_isIn σ x1 0 ((σ 0 5) - 1) (fun y2 σ1 =>
  if y2 = 0 then
  (Q (-1) σ1)
  else (vp_in (((7 : Int32) * x1) + 6) 420 ∧
  (if (σ1 8 (ix (((7 : Int32) * x1) + 6))) = 0 then
  (vp_in (((7 : Int32) * x1) + 1) 420 ∧
  (if (σ1 8 (ix (((7 : Int32) * x1) + 1))) = x2 then
  (Q (((7 : Int32) * x1) + 4) σ1)
  else (vp_in (((7 : Int32) * x1) + 2) 420 ∧
  (if (σ1 8 (ix (((7 : Int32) * x1) + 2))) = x2 then
  (Q (((7 : Int32) * x1) + 5) σ1)
  else (Q (-1) σ1)))))
  else (Q (-1) σ1))))
theorem c_X6_sayer  {σ : St} {x1 : Int32} {x2 : Int32} {Q : Int32 → St → Prop} (h : wp_X6_sayer σ x1 x2 Q) : ctI l yX6_sayer cX6_sayer 3 (some .int) rm_X6_sayer D (wM cI cZ a) (tyW cI cZ cH) [.ref (a 0), .int x1, .int x2] σ Q := by
  refine mk_I (wM_ok cI cZ a) (by decide +kernel) (Nat.le_of_ble_eq_true rfl) (fun p e s m args below meth c A X hr9 hlk9 => ?_)
  refine r_pick (lv' := [(0, .ref (a 0)), (1, .int x1), (2, .int x2)]) [0, 1, 2] rfl ?_
  delta wp_X6_sayer at h
  refine r_iload_n X 1 1 dX6_sayer_0 rfl rfl rfl ?_
  refine r_iconst (v := 0) X 2 dX6_sayer_1 (by decide) rfl ?_
  refine r_aload_n X 0 3 dX6_sayer_2 rfl rfl rfl ?_
  refine g_X6_216 X 6 dX6_sayer_3 rfl ?_
  refine r_iconst (v := 1) X 7 dX6_sayer_6 (by decide) rfl ?_
  refine r_isub X 8 dX6_sayer_7 rfl ?_
  refine r_callSI (As := [.int x1, .int 0, .int ((σ 0 5) - 1)]) (rest := []) X 11 (c_X6_isIn h) ml_X6_96 lk_X6_isIn sy_X6_isIn rfl rfl (Nat.le_of_ble_eq_true rfl) ⟨rfl, rfl, ⟨Nat.le_of_ble_eq_true rfl, Nat.le_of_ble_eq_true rfl⟩, Nat.le_of_ble_eq_true rfl, Nat.le_of_ble_eq_true rfl⟩ dX6_sayer_8 rfl (fun y2 σ1 h => ?_)
  obtain ⟨hb_y2, h⟩ := h
  refine r_if_eq X 29 14 h dX6_sayer_11 rfl rfl (fun h => ?_) (fun h => ?_)
  · refine r_iconst (v := (-1)) X 30 dX6_sayer_29 (by decide) rfl ?_
    exact r_iret X hr9 hlk9 h dX6_sayer_30
  · refine r_aload_n X 0 15 dX6_sayer_14 rfl rfl rfl ?_
    refine g_X6_36 X 18 dX6_sayer_15 rfl ?_
    refine r_bipush (v := 7) X 20 dX6_sayer_18 (by decide) rfl ?_
    refine r_iload_n X 1 21 dX6_sayer_20 rfl rfl rfl ?_
    refine r_imul X 22 dX6_sayer_21 rfl ?_
    refine r_bipush (v := 6) X 24 dX6_sayer_22 (by decide) rfl ?_
    refine r_iadd X 25 dX6_sayer_24 rfl ?_
    obtain ⟨hin, h⟩ := h
    refine l_M8 X 26 hin dX6_sayer_25 rfl ?_
    refine r_if_eq X 31 29 h dX6_sayer_26 rfl rfl (fun h => ?_) (fun h => ?_)
    · refine r_aload_n X 0 32 dX6_sayer_31 rfl rfl rfl ?_
      refine g_X6_36 X 35 dX6_sayer_32 rfl ?_
      refine r_bipush (v := 7) X 37 dX6_sayer_35 (by decide) rfl ?_
      refine r_iload_n X 1 38 dX6_sayer_37 rfl rfl rfl ?_
      refine r_imul X 39 dX6_sayer_38 rfl ?_
      refine r_iconst (v := 1) X 40 dX6_sayer_39 (by decide) rfl ?_
      refine r_iadd X 41 dX6_sayer_40 rfl ?_
      obtain ⟨hin, h⟩ := h
      refine l_M8 X 42 hin dX6_sayer_41 rfl ?_
      refine r_iload_n X 2 43 dX6_sayer_42 rfl rfl rfl ?_
      refine r_icmp_ne X 55 46 h dX6_sayer_43 rfl rfl (fun h => ?_) (fun h => ?_)
      · refine r_aload_n X 0 56 dX6_sayer_55 rfl rfl rfl ?_
        refine g_X6_36 X 59 dX6_sayer_56 rfl ?_
        refine r_bipush (v := 7) X 61 dX6_sayer_59 (by decide) rfl ?_
        refine r_iload_n X 1 62 dX6_sayer_61 rfl rfl rfl ?_
        refine r_imul X 63 dX6_sayer_62 rfl ?_
        refine r_iconst (v := 2) X 64 dX6_sayer_63 (by decide) rfl ?_
        refine r_iadd X 65 dX6_sayer_64 rfl ?_
        obtain ⟨hin, h⟩ := h
        refine l_M8 X 66 hin dX6_sayer_65 rfl ?_
        refine r_iload_n X 2 67 dX6_sayer_66 rfl rfl rfl ?_
        refine r_icmp_ne X 79 70 h dX6_sayer_67 rfl rfl (fun h => ?_) (fun h => ?_)
        · refine r_iconst (v := (-1)) X 80 dX6_sayer_79 (by decide) rfl ?_
          exact r_iret X hr9 hlk9 h dX6_sayer_80
        · refine r_bipush (v := 7) X 72 dX6_sayer_70 (by decide) rfl ?_
          refine r_iload_n X 1 73 dX6_sayer_72 rfl rfl rfl ?_
          refine r_imul X 74 dX6_sayer_73 rfl ?_
          refine r_iconst (v := 5) X 75 dX6_sayer_74 (by decide) rfl ?_
          refine r_iadd X 76 dX6_sayer_75 rfl ?_
          refine r_goto X 80 dX6_sayer_76 rfl ?_
          exact r_iret X hr9 hlk9 h dX6_sayer_80
      · refine r_bipush (v := 7) X 48 dX6_sayer_46 (by decide) rfl ?_
        refine r_iload_n X 1 49 dX6_sayer_48 rfl rfl rfl ?_
        refine r_imul X 50 dX6_sayer_49 rfl ?_
        refine r_iconst (v := 4) X 51 dX6_sayer_50 (by decide) rfl ?_
        refine r_iadd X 52 dX6_sayer_51 rfl ?_
        refine r_goto X 80 dX6_sayer_52 rfl ?_
        exact r_iret X hr9 hlk9 h dX6_sayer_80
    · refine r_iconst (v := (-1)) X 30 dX6_sayer_29 (by decide) rfl ?_
      exact r_iret X hr9 hlk9 h dX6_sayer_30
end WALK
