section WALK
variable {p : Program} {l : Launch} {e : Env} {s : State} {m : MethodId} {args : Array Value} {below : List Frame} {meth : Method} {c : Code} {D : va_G} {A : Nat → Prop} {cI cZ cH : ClassId} {a : Nat → Nat} {n : Nat}
def rm_X3_close : Room := { frames := 2, cells := 0, slots := 0, locals := 43 }
theorem dX3_close_0 : decode cX3_close 0 = .ok (.aload_n 0, 1) := by decide +kernel
theorem dX3_close_1 : decode cX3_close 1 = .ok (.getfield 48, 3) := by decide +kernel
theorem dX3_close_4 : decode cX3_close 4 = .ok (.aload_n 0, 1) := by decide +kernel
theorem dX3_close_5 : decode cX3_close 5 = .ok (.getfield 108, 3) := by decide +kernel
theorem dX3_close_8 : decode cX3_close 8 = .ok (.invokevirtual 212, 3) := by decide +kernel
theorem dX3_close_11 : decode cX3_close 11 = .ok (.ifCond .eq 42, 3) := by decide +kernel
theorem dX3_close_14 : decode cX3_close 14 = .ok (.aload_n 0, 1) := by decide +kernel
theorem dX3_close_15 : decode cX3_close 15 = .ok (.getfield 21, 3) := by decide +kernel
theorem dX3_close_18 : decode cX3_close 18 = .ok (.aload_n 0, 1) := by decide +kernel
theorem dX3_close_19 : decode cX3_close 19 = .ok (.getfield 108, 3) := by decide +kernel
theorem dX3_close_22 : decode cX3_close 22 = .ok (.iaload, 1) := by decide +kernel
theorem dX3_close_23 : decode cX3_close 23 = .ok (.iconst (-1), 1) := by decide +kernel
theorem dX3_close_24 : decode cX3_close 24 = .ok (.if_icmp .ne 29, 3) := by decide +kernel
theorem dX3_close_27 : decode cX3_close 27 = .ok (.aload_n 0, 1) := by decide +kernel
theorem dX3_close_28 : decode cX3_close 28 = .ok (.getfield 48, 3) := by decide +kernel
theorem dX3_close_31 : decode cX3_close 31 = .ok (.aload_n 0, 1) := by decide +kernel
theorem dX3_close_32 : decode cX3_close 32 = .ok (.getfield 117, 3) := by decide +kernel
theorem dX3_close_35 : decode cX3_close 35 = .ok (.invokevirtual 221, 3) := by decide +kernel
theorem dX3_close_38 : decode cX3_close 38 = .ok (.ifCond .eq 15, 3) := by decide +kernel
theorem dX3_close_41 : decode cX3_close 41 = .ok (.aload_n 0, 1) := by decide +kernel
theorem dX3_close_42 : decode cX3_close 42 = .ok (.getfield 45, 3) := by decide +kernel
theorem dX3_close_45 : decode cX3_close 45 = .ok (.aload_n 0, 1) := by decide +kernel
theorem dX3_close_46 : decode cX3_close 46 = .ok (.getfield 117, 3) := by decide +kernel
theorem dX3_close_49 : decode cX3_close 49 = .ok (.iaload, 1) := by decide +kernel
theorem dX3_close_50 : decode cX3_close 50 = .ok (.ifCond .eq 5, 3) := by decide +kernel
theorem dX3_close_53 : decode cX3_close 53 = .ok (.iconst 0, 1) := by decide +kernel
theorem dX3_close_54 : decode cX3_close 54 = .ok (.ireturn, 1) := by decide +kernel
theorem dX3_close_55 : decode cX3_close 55 = .ok (.aload_n 0, 1) := by decide +kernel
theorem dX3_close_56 : decode cX3_close 56 = .ok (.aload_n 0, 1) := by decide +kernel
theorem dX3_close_57 : decode cX3_close 57 = .ok (.getfield 108, 3) := by decide +kernel
theorem dX3_close_60 : decode cX3_close 60 = .ok (.invokevirtual 188, 3) := by decide +kernel
theorem dX3_close_63 : decode cX3_close 63 = .ok (.ifCond .eq 13, 3) := by decide +kernel
theorem dX3_close_66 : decode cX3_close 66 = .ok (.aload_n 0, 1) := by decide +kernel
theorem dX3_close_67 : decode cX3_close 67 = .ok (.iconst 1, 1) := by decide +kernel
theorem dX3_close_68 : decode cX3_close 68 = .ok (.invokevirtual 191, 3) := by decide +kernel
theorem dX3_close_71 : decode cX3_close 71 = .ok (.ifCond .ne 5, 3) := by decide +kernel
theorem dX3_close_74 : decode cX3_close 74 = .ok (.iconst 0, 1) := by decide +kernel
theorem dX3_close_75 : decode cX3_close 75 = .ok (.ireturn, 1) := by decide +kernel
theorem dX3_close_76 : decode cX3_close 76 = .ok (.aload_n 0, 1) := by decide +kernel
theorem dX3_close_77 : decode cX3_close 77 = .ok (.getfield 21, 3) := by decide +kernel
theorem dX3_close_80 : decode cX3_close 80 = .ok (.aload_n 0, 1) := by decide +kernel
theorem dX3_close_81 : decode cX3_close 81 = .ok (.getfield 108, 3) := by decide +kernel
theorem dX3_close_84 : decode cX3_close 84 = .ok (.aload_n 0, 1) := by decide +kernel
theorem dX3_close_85 : decode cX3_close 85 = .ok (.getfield 117, 3) := by decide +kernel
theorem dX3_close_88 : decode cX3_close 88 = .ok (.iastore, 1) := by decide +kernel
theorem dX3_close_89 : decode cX3_close 89 = .ok (.aload_n 0, 1) := by decide +kernel
theorem dX3_close_90 : decode cX3_close 90 = .ok (.getfield 45, 3) := by decide +kernel
theorem dX3_close_93 : decode cX3_close 93 = .ok (.aload_n 0, 1) := by decide +kernel
theorem dX3_close_94 : decode cX3_close 94 = .ok (.getfield 117, 3) := by decide +kernel
theorem dX3_close_97 : decode cX3_close 97 = .ok (.iconst 1, 1) := by decide +kernel
theorem dX3_close_98 : decode cX3_close 98 = .ok (.iastore, 1) := by decide +kernel
theorem dX3_close_99 : decode cX3_close 99 = .ok (.iconst 1, 1) := by decide +kernel
theorem dX3_close_100 : decode cX3_close 100 = .ok (.ireturn, 1) := by decide +kernel
def j_X3_close_76  (Q : Int32 → St → Prop) (σ : St) : Prop :=
  vp_in (σ 13 13) 60 ∧
  nmS (up2 σ 17 (ix (σ 13 13)) (σ 13 16)) (fun σ7 =>
  vp_in (σ7 13 16) 600 ∧
  nmS (up2 σ7 25 (ix (σ7 13 16)) 1) (fun σ8 =>
  Q 1 σ8))
theorem wk_X3_close_76 (X : cx p s m args c cX3_close 1 RX3 D (wC cI cZ cH a n) A (tyW cI cZ cH)) (hr9 : meth.sig.returnType = (some .boolean)) (hlk9 : meth.locks = false)  {Q : Int32 → St → Prop} {σ : St} (h : j_X3_close_76 Q σ) : go p l e rm_X3_close s m args below meth c D (wC cI cZ cH a n) A 0 0 (MQ below (va_Qi (fun r9 u9 => isB r9 ∧ Q r9 u9) (atw D (wC cI cZ cH a n) (tyW cI cZ cH) A) A) args s 0 0 A) 1 76 [(0, .ref (a 13))] [] σ := by
  delta j_X3_close_76 at h
  refine r_aload_n X 0 77 dX3_close_76 rfl rfl rfl ?_
  refine g_X3_21 X 80 dX3_close_77 rfl ?_
  refine r_aload_n X 0 81 dX3_close_80 rfl rfl rfl ?_
  refine g_X3_108 X 84 dX3_close_81 rfl ?_
  refine r_aload_n X 0 85 dX3_close_84 rfl rfl rfl ?_
  refine g_X3_117 X 88 dX3_close_85 rfl ?_
  obtain ⟨hin, h⟩ := h
  refine s_C17 X 89 hin dX3_close_88 rfl ?_
  refine r_nmS h (fun σ7 h => ?_)
  refine r_aload_n X 0 90 dX3_close_89 rfl rfl rfl ?_
  refine g_X3_45 X 93 dX3_close_90 rfl ?_
  refine r_aload_n X 0 94 dX3_close_93 rfl rfl rfl ?_
  refine g_X3_117 X 97 dX3_close_94 rfl ?_
  refine r_iconst (v := 1) X 98 dX3_close_97 (by decide) rfl ?_
  obtain ⟨hin, h⟩ := h
  refine s_C25 X 99 hin dX3_close_98 rfl ?_
  refine r_nmS h (fun σ8 h => ?_)
  refine r_iconst (v := 1) X 100 dX3_close_99 (by decide) rfl ?_
  exact r_zret X hr9 hlk9 isB_1 h dX3_close_100
def wp_X3_close  (σ : St) (Q : Int32 → St → Prop) : Prop :=
  wp_X4_isBag σ (σ 13 13) (fun y2 σ1 =>
  if y2 = 0 then
  (Q 0 σ1)
  else (vp_in (σ1 13 13) 60 ∧
  (if (σ1 17 (ix (σ1 13 13))) = (-1) then
  (wp_X4_isGivenOut σ1 (σ1 13 16) (fun y4 σ3 =>
  if y4 = 0 then
  (Q 0 σ3)
  else (vp_in (σ3 13 16) 600 ∧
  (if (σ3 25 (ix (σ3 13 16))) = 0 then
  (wp_X3_isMoneyBag σ3 (σ3 13 13) (fun y6 σ5 =>
  if y6 = 0 then
  (j_X3_close_76 Q σ5)
  else (wp_X3_keepersServe σ5 1 (fun y10 σ9 =>
  if y10 = 0 then
  (Q 0 σ9)
  else (j_X3_close_76 Q σ9)))))
  else (Q 0 σ3)))))
  else (Q 0 σ1))))
theorem c_X3_close  {σ : St} {Q : Int32 → St → Prop} (h : wp_X3_close σ Q) : ctI l yX3_close cX3_close 1 (some .boolean) rm_X3_close D (wC cI cZ cH a n) (tyW cI cZ cH) [.ref (a 13)] σ (fun r9 u9 => isB r9 ∧ Q r9 u9) := by
  refine mk_I (wC_ok cI cZ cH a n) (by decide +kernel) (Nat.le_of_ble_eq_true rfl) (fun p e s m args below meth c A X hr9 hlk9 => ?_)
  refine r_pick (lv' := [(0, .ref (a 13))]) [0] rfl ?_
  delta wp_X3_close at h
  refine r_aload_n X 0 1 dX3_close_0 rfl rfl rfl ?_
  refine g_X3_48 X 4 dX3_close_1 rfl ?_
  refine r_aload_n X 0 5 dX3_close_4 rfl rfl rfl ?_
  refine g_X3_108 X 8 dX3_close_5 rfl ?_
  refine r_callNI (As := [.int (σ 13 13)]) (rest := []) X 11 (c_X4_isBag h) ml_X3_212 lk_X4_isBag wC_at_1 rfl rfl rfl (Nat.le_of_ble_eq_true rfl) ⟨rfl, rfl, ⟨Nat.le_of_ble_eq_true rfl, Nat.le_of_ble_eq_true rfl⟩, Nat.le_of_ble_eq_true rfl, Nat.le_of_ble_eq_true rfl⟩ dX3_close_8 rfl (fun y2 σ1 h => ?_)
  obtain ⟨hb_y2, h⟩ := h
  refine r_if_eq X 53 14 h dX3_close_11 rfl rfl (fun h => ?_) (fun h => ?_)
  · refine r_iconst (v := 0) X 54 dX3_close_53 (by decide) rfl ?_
    exact r_zret X hr9 hlk9 isB_0 h dX3_close_54
  · refine r_aload_n X 0 15 dX3_close_14 rfl rfl rfl ?_
    refine g_X3_21 X 18 dX3_close_15 rfl ?_
    refine r_aload_n X 0 19 dX3_close_18 rfl rfl rfl ?_
    refine g_X3_108 X 22 dX3_close_19 rfl ?_
    obtain ⟨hin, h⟩ := h
    refine l_C17 X 23 hin dX3_close_22 rfl ?_
    refine r_iconst (v := (-1)) X 24 dX3_close_23 (by decide) rfl ?_
    refine r_icmp_ne X 53 27 h dX3_close_24 rfl rfl (fun h => ?_) (fun h => ?_)
    · refine r_iconst (v := 0) X 54 dX3_close_53 (by decide) rfl ?_
      exact r_zret X hr9 hlk9 isB_0 h dX3_close_54
    · refine r_aload_n X 0 28 dX3_close_27 rfl rfl rfl ?_
      refine g_X3_48 X 31 dX3_close_28 rfl ?_
      refine r_aload_n X 0 32 dX3_close_31 rfl rfl rfl ?_
      refine g_X3_117 X 35 dX3_close_32 rfl ?_
      refine r_callNI (As := [.int (σ1 13 16)]) (rest := []) X 38 (c_X4_isGivenOut h) ml_X3_221 lk_X4_isGivenOut wC_at_1 rfl rfl rfl (Nat.le_of_ble_eq_true rfl) ⟨rfl, rfl, ⟨Nat.le_of_ble_eq_true rfl, Nat.le_of_ble_eq_true rfl⟩, Nat.le_of_ble_eq_true rfl, Nat.le_of_ble_eq_true rfl⟩ dX3_close_35 rfl (fun y4 σ3 h => ?_)
      obtain ⟨hb_y4, h⟩ := h
      refine r_if_eq X 53 41 h dX3_close_38 rfl rfl (fun h => ?_) (fun h => ?_)
      · refine r_iconst (v := 0) X 54 dX3_close_53 (by decide) rfl ?_
        exact r_zret X hr9 hlk9 isB_0 h dX3_close_54
      · refine r_aload_n X 0 42 dX3_close_41 rfl rfl rfl ?_
        refine g_X3_45 X 45 dX3_close_42 rfl ?_
        refine r_aload_n X 0 46 dX3_close_45 rfl rfl rfl ?_
        refine g_X3_117 X 49 dX3_close_46 rfl ?_
        obtain ⟨hin, h⟩ := h
        refine l_C25 X 50 hin dX3_close_49 rfl ?_
        refine r_if_eq X 55 53 h dX3_close_50 rfl rfl (fun h => ?_) (fun h => ?_)
        · refine r_aload_n X 0 56 dX3_close_55 rfl rfl rfl ?_
          refine r_aload_n X 0 57 dX3_close_56 rfl rfl rfl ?_
          refine g_X3_108 X 60 dX3_close_57 rfl ?_
          refine r_callI (As := [.int (σ3 13 13)]) (rest := []) X 63 (c_X3_isMoneyBag h) ml_X3_188 lk_X3_isMoneyBag wC_at_13 rfl rfl rfl (Nat.le_of_ble_eq_true rfl) ⟨rfl, rfl, ⟨Nat.le_of_ble_eq_true rfl, Nat.le_of_ble_eq_true rfl⟩, Nat.le_of_ble_eq_true rfl, Nat.le_of_ble_eq_true rfl⟩ dX3_close_60 rfl (fun y6 σ5 h => ?_)
          obtain ⟨hb_y6, h⟩ := h
          refine r_if_eq X 76 66 h dX3_close_63 rfl rfl (fun h => ?_) (fun h => ?_)
          · refine r_pick (lv' := [(0, .ref (a 13))]) [0] rfl ?_
            exact wk_X3_close_76 X hr9 hlk9 h
          · refine r_aload_n X 0 67 dX3_close_66 rfl rfl rfl ?_
            refine r_iconst (v := 1) X 68 dX3_close_67 (by decide) rfl ?_
            refine r_callI (As := [.int 1]) (rest := []) X 71 (c_X3_keepersServe h) ml_X3_191 lk_X3_keepersServe wC_at_13 rfl rfl rfl (Nat.le_of_ble_eq_true rfl) ⟨rfl, rfl, ⟨Nat.le_of_ble_eq_true rfl, Nat.le_of_ble_eq_true rfl⟩, Nat.le_of_ble_eq_true rfl, Nat.le_of_ble_eq_true rfl⟩ dX3_close_68 rfl (fun y10 σ9 h => ?_)
            obtain ⟨hb_y10, h⟩ := h
            refine r_if_ne X 76 74 h dX3_close_71 rfl rfl (fun h => ?_) (fun h => ?_)
            · refine r_pick (lv' := [(0, .ref (a 13))]) [0] rfl ?_
              exact wk_X3_close_76 X hr9 hlk9 h
            · refine r_iconst (v := 0) X 75 dX3_close_74 (by decide) rfl ?_
              exact r_zret X hr9 hlk9 isB_0 h dX3_close_75
        · refine r_iconst (v := 0) X 54 dX3_close_53 (by decide) rfl ?_
          exact r_zret X hr9 hlk9 isB_0 h dX3_close_54
def rm_X3_unseal : Room := { frames := 2, cells := 0, slots := 0, locals := 43 }
theorem dX3_unseal_0 : decode cX3_unseal 0 = .ok (.aload_n 0, 1) := by decide +kernel
theorem dX3_unseal_1 : decode cX3_unseal 1 = .ok (.getfield 48, 3) := by decide +kernel
theorem dX3_unseal_4 : decode cX3_unseal 4 = .ok (.aload_n 0, 1) := by decide +kernel
theorem dX3_unseal_5 : decode cX3_unseal 5 = .ok (.getfield 108, 3) := by decide +kernel
theorem dX3_unseal_8 : decode cX3_unseal 8 = .ok (.invokevirtual 212, 3) := by decide +kernel
theorem dX3_unseal_11 : decode cX3_unseal 11 = .ok (.ifCond .eq 33, 3) := by decide +kernel
theorem dX3_unseal_14 : decode cX3_unseal 14 = .ok (.aload_n 0, 1) := by decide +kernel
theorem dX3_unseal_15 : decode cX3_unseal 15 = .ok (.getfield 21, 3) := by decide +kernel
theorem dX3_unseal_18 : decode cX3_unseal 18 = .ok (.aload_n 0, 1) := by decide +kernel
theorem dX3_unseal_19 : decode cX3_unseal 19 = .ok (.getfield 108, 3) := by decide +kernel
theorem dX3_unseal_22 : decode cX3_unseal 22 = .ok (.iaload, 1) := by decide +kernel
theorem dX3_unseal_23 : decode cX3_unseal 23 = .ok (.iconst (-1), 1) := by decide +kernel
theorem dX3_unseal_24 : decode cX3_unseal 24 = .ok (.if_icmp .eq 20, 3) := by decide +kernel
theorem dX3_unseal_27 : decode cX3_unseal 27 = .ok (.aload_n 0, 1) := by decide +kernel
theorem dX3_unseal_28 : decode cX3_unseal 28 = .ok (.getfield 117, 3) := by decide +kernel
theorem dX3_unseal_31 : decode cX3_unseal 31 = .ok (.ifCond .lt 13, 3) := by decide +kernel
theorem dX3_unseal_34 : decode cX3_unseal 34 = .ok (.aload_n 0, 1) := by decide +kernel
theorem dX3_unseal_35 : decode cX3_unseal 35 = .ok (.getfield 117, 3) := by decide +kernel
theorem dX3_unseal_38 : decode cX3_unseal 38 = .ok (.sipush 999, 3) := by decide +kernel
theorem dX3_unseal_41 : decode cX3_unseal 41 = .ok (.if_icmp .le 5, 3) := by decide +kernel
theorem dX3_unseal_44 : decode cX3_unseal 44 = .ok (.iconst 0, 1) := by decide +kernel
theorem dX3_unseal_45 : decode cX3_unseal 45 = .ok (.ireturn, 1) := by decide +kernel
theorem dX3_unseal_46 : decode cX3_unseal 46 = .ok (.aload_n 0, 1) := by decide +kernel
theorem dX3_unseal_47 : decode cX3_unseal 47 = .ok (.aload_n 0, 1) := by decide +kernel
theorem dX3_unseal_48 : decode cX3_unseal 48 = .ok (.getfield 108, 3) := by decide +kernel
theorem dX3_unseal_51 : decode cX3_unseal 51 = .ok (.invokevirtual 188, 3) := by decide +kernel
theorem dX3_unseal_54 : decode cX3_unseal 54 = .ok (.ifCond .eq 13, 3) := by decide +kernel
theorem dX3_unseal_57 : decode cX3_unseal 57 = .ok (.aload_n 0, 1) := by decide +kernel
theorem dX3_unseal_58 : decode cX3_unseal 58 = .ok (.iconst 1, 1) := by decide +kernel
theorem dX3_unseal_59 : decode cX3_unseal 59 = .ok (.invokevirtual 191, 3) := by decide +kernel
theorem dX3_unseal_62 : decode cX3_unseal 62 = .ok (.ifCond .ne 5, 3) := by decide +kernel
theorem dX3_unseal_65 : decode cX3_unseal 65 = .ok (.iconst 0, 1) := by decide +kernel
theorem dX3_unseal_66 : decode cX3_unseal 66 = .ok (.ireturn, 1) := by decide +kernel
theorem dX3_unseal_67 : decode cX3_unseal 67 = .ok (.aload_n 0, 1) := by decide +kernel
theorem dX3_unseal_68 : decode cX3_unseal 68 = .ok (.getfield 21, 3) := by decide +kernel
theorem dX3_unseal_71 : decode cX3_unseal 71 = .ok (.aload_n 0, 1) := by decide +kernel
theorem dX3_unseal_72 : decode cX3_unseal 72 = .ok (.getfield 108, 3) := by decide +kernel
theorem dX3_unseal_75 : decode cX3_unseal 75 = .ok (.iconst (-1), 1) := by decide +kernel
theorem dX3_unseal_76 : decode cX3_unseal 76 = .ok (.iastore, 1) := by decide +kernel
theorem dX3_unseal_77 : decode cX3_unseal 77 = .ok (.iconst 1, 1) := by decide +kernel
theorem dX3_unseal_78 : decode cX3_unseal 78 = .ok (.ireturn, 1) := by decide +kernel
def j_X3_unseal_67  (Q : Int32 → St → Prop) (σ : St) : Prop :=
  vp_in (σ 13 13) 60 ∧
  nmS (up2 σ 17 (ix (σ 13 13)) (-1)) (fun σ5 =>
  Q 1 σ5)
theorem wk_X3_unseal_67 (X : cx p s m args c cX3_unseal 1 RX3 D (wC cI cZ cH a n) A (tyW cI cZ cH)) (hr9 : meth.sig.returnType = (some .boolean)) (hlk9 : meth.locks = false)  {Q : Int32 → St → Prop} {σ : St} (h : j_X3_unseal_67 Q σ) : go p l e rm_X3_unseal s m args below meth c D (wC cI cZ cH a n) A 0 0 (MQ below (va_Qi (fun r9 u9 => isB r9 ∧ Q r9 u9) (atw D (wC cI cZ cH a n) (tyW cI cZ cH) A) A) args s 0 0 A) 1 67 [(0, .ref (a 13))] [] σ := by
  delta j_X3_unseal_67 at h
  refine r_aload_n X 0 68 dX3_unseal_67 rfl rfl rfl ?_
  refine g_X3_21 X 71 dX3_unseal_68 rfl ?_
  refine r_aload_n X 0 72 dX3_unseal_71 rfl rfl rfl ?_
  refine g_X3_108 X 75 dX3_unseal_72 rfl ?_
  refine r_iconst (v := (-1)) X 76 dX3_unseal_75 (by decide) rfl ?_
  obtain ⟨hin, h⟩ := h
  refine s_C17 X 77 hin dX3_unseal_76 rfl ?_
  refine r_nmS h (fun σ5 h => ?_)
  refine r_iconst (v := 1) X 78 dX3_unseal_77 (by decide) rfl ?_
  exact r_zret X hr9 hlk9 isB_1 h dX3_unseal_78
def wp_X3_unseal  (σ : St) (Q : Int32 → St → Prop) : Prop :=
  wp_X4_isBag σ (σ 13 13) (fun y2 σ1 =>
  if y2 = 0 then
  (Q 0 σ1)
  else (vp_in (σ1 13 13) 60 ∧
  (if (σ1 17 (ix (σ1 13 13))) = (-1) then
  (Q 0 σ1)
  else (if (σ1 13 16) < 0 then
  (Q 0 σ1)
  else (if 999 < (σ1 13 16) then
  (Q 0 σ1)
  else (wp_X3_isMoneyBag σ1 (σ1 13 13) (fun y4 σ3 =>
  if y4 = 0 then
  (j_X3_unseal_67 Q σ3)
  else (wp_X3_keepersServe σ3 1 (fun y7 σ6 =>
  if y7 = 0 then
  (Q 0 σ6)
  else (j_X3_unseal_67 Q σ6))))))))))
theorem c_X3_unseal  {σ : St} {Q : Int32 → St → Prop} (h : wp_X3_unseal σ Q) : ctI l yX3_unseal cX3_unseal 1 (some .boolean) rm_X3_unseal D (wC cI cZ cH a n) (tyW cI cZ cH) [.ref (a 13)] σ (fun r9 u9 => isB r9 ∧ Q r9 u9) := by
  refine mk_I (wC_ok cI cZ cH a n) (by decide +kernel) (Nat.le_of_ble_eq_true rfl) (fun p e s m args below meth c A X hr9 hlk9 => ?_)
  refine r_pick (lv' := [(0, .ref (a 13))]) [0] rfl ?_
  delta wp_X3_unseal at h
  refine r_aload_n X 0 1 dX3_unseal_0 rfl rfl rfl ?_
  refine g_X3_48 X 4 dX3_unseal_1 rfl ?_
  refine r_aload_n X 0 5 dX3_unseal_4 rfl rfl rfl ?_
  refine g_X3_108 X 8 dX3_unseal_5 rfl ?_
  refine r_callNI (As := [.int (σ 13 13)]) (rest := []) X 11 (c_X4_isBag h) ml_X3_212 lk_X4_isBag wC_at_1 rfl rfl rfl (Nat.le_of_ble_eq_true rfl) ⟨rfl, rfl, ⟨Nat.le_of_ble_eq_true rfl, Nat.le_of_ble_eq_true rfl⟩, Nat.le_of_ble_eq_true rfl, Nat.le_of_ble_eq_true rfl⟩ dX3_unseal_8 rfl (fun y2 σ1 h => ?_)
  obtain ⟨hb_y2, h⟩ := h
  refine r_if_eq X 44 14 h dX3_unseal_11 rfl rfl (fun h => ?_) (fun h => ?_)
  · refine r_iconst (v := 0) X 45 dX3_unseal_44 (by decide) rfl ?_
    exact r_zret X hr9 hlk9 isB_0 h dX3_unseal_45
  · refine r_aload_n X 0 15 dX3_unseal_14 rfl rfl rfl ?_
    refine g_X3_21 X 18 dX3_unseal_15 rfl ?_
    refine r_aload_n X 0 19 dX3_unseal_18 rfl rfl rfl ?_
    refine g_X3_108 X 22 dX3_unseal_19 rfl ?_
    obtain ⟨hin, h⟩ := h
    refine l_C17 X 23 hin dX3_unseal_22 rfl ?_
    refine r_iconst (v := (-1)) X 24 dX3_unseal_23 (by decide) rfl ?_
    refine r_icmp_eq X 44 27 h dX3_unseal_24 rfl rfl (fun h => ?_) (fun h => ?_)
    · refine r_iconst (v := 0) X 45 dX3_unseal_44 (by decide) rfl ?_
      exact r_zret X hr9 hlk9 isB_0 h dX3_unseal_45
    · refine r_aload_n X 0 28 dX3_unseal_27 rfl rfl rfl ?_
      refine g_X3_117 X 31 dX3_unseal_28 rfl ?_
      refine r_if_lt X 44 34 h dX3_unseal_31 rfl rfl (fun h => ?_) (fun h => ?_)
      · refine r_iconst (v := 0) X 45 dX3_unseal_44 (by decide) rfl ?_
        exact r_zret X hr9 hlk9 isB_0 h dX3_unseal_45
      · refine r_aload_n X 0 35 dX3_unseal_34 rfl rfl rfl ?_
        refine g_X3_117 X 38 dX3_unseal_35 rfl ?_
        refine r_sipush (v := 999) X 41 dX3_unseal_38 (by decide) rfl ?_
        refine r_icmp_le X 46 44 h dX3_unseal_41 rfl rfl (fun h => ?_) (fun h => ?_)
        · refine r_aload_n X 0 47 dX3_unseal_46 rfl rfl rfl ?_
          refine r_aload_n X 0 48 dX3_unseal_47 rfl rfl rfl ?_
          refine g_X3_108 X 51 dX3_unseal_48 rfl ?_
          refine r_callI (As := [.int (σ1 13 13)]) (rest := []) X 54 (c_X3_isMoneyBag h) ml_X3_188 lk_X3_isMoneyBag wC_at_13 rfl rfl rfl (Nat.le_of_ble_eq_true rfl) ⟨rfl, rfl, ⟨Nat.le_of_ble_eq_true rfl, Nat.le_of_ble_eq_true rfl⟩, Nat.le_of_ble_eq_true rfl, Nat.le_of_ble_eq_true rfl⟩ dX3_unseal_51 rfl (fun y4 σ3 h => ?_)
          obtain ⟨hb_y4, h⟩ := h
          refine r_if_eq X 67 57 h dX3_unseal_54 rfl rfl (fun h => ?_) (fun h => ?_)
          · refine r_pick (lv' := [(0, .ref (a 13))]) [0] rfl ?_
            exact wk_X3_unseal_67 X hr9 hlk9 h
          · refine r_aload_n X 0 58 dX3_unseal_57 rfl rfl rfl ?_
            refine r_iconst (v := 1) X 59 dX3_unseal_58 (by decide) rfl ?_
            refine r_callI (As := [.int 1]) (rest := []) X 62 (c_X3_keepersServe h) ml_X3_191 lk_X3_keepersServe wC_at_13 rfl rfl rfl (Nat.le_of_ble_eq_true rfl) ⟨rfl, rfl, ⟨Nat.le_of_ble_eq_true rfl, Nat.le_of_ble_eq_true rfl⟩, Nat.le_of_ble_eq_true rfl, Nat.le_of_ble_eq_true rfl⟩ dX3_unseal_59 rfl (fun y7 σ6 h => ?_)
            obtain ⟨hb_y7, h⟩ := h
            refine r_if_ne X 67 65 h dX3_unseal_62 rfl rfl (fun h => ?_) (fun h => ?_)
            · refine r_pick (lv' := [(0, .ref (a 13))]) [0] rfl ?_
              exact wk_X3_unseal_67 X hr9 hlk9 h
            · refine r_iconst (v := 0) X 66 dX3_unseal_65 (by decide) rfl ?_
              exact r_zret X hr9 hlk9 isB_0 h dX3_unseal_66
        · refine r_iconst (v := 0) X 45 dX3_unseal_44 (by decide) rfl ?_
          exact r_zret X hr9 hlk9 isB_0 h dX3_unseal_45
def rm_X3_look : Room := { frames := 2, cells := 0, slots := 0, locals := 43 }
theorem dX3_look_0 : decode cX3_look 0 = .ok (.aload_n 0, 1) := by decide +kernel
theorem dX3_look_1 : decode cX3_look 1 = .ok (.getfield 48, 3) := by decide +kernel
theorem dX3_look_4 : decode cX3_look 4 = .ok (.aload_n 0, 1) := by decide +kernel
theorem dX3_look_5 : decode cX3_look 5 = .ok (.getfield 108, 3) := by decide +kernel
theorem dX3_look_8 : decode cX3_look 8 = .ok (.invokevirtual 212, 3) := by decide +kernel
theorem dX3_look_11 : decode cX3_look 11 = .ok (.ifCond .eq 25, 3) := by decide +kernel
theorem dX3_look_14 : decode cX3_look 14 = .ok (.aload_n 0, 1) := by decide +kernel
theorem dX3_look_15 : decode cX3_look 15 = .ok (.getfield 117, 3) := by decide +kernel
theorem dX3_look_18 : decode cX3_look 18 = .ok (.iconst (-1), 1) := by decide +kernel
theorem dX3_look_19 : decode cX3_look 19 = .ok (.if_icmp .lt 17, 3) := by decide +kernel
theorem dX3_look_22 : decode cX3_look 22 = .ok (.aload_n 0, 1) := by decide +kernel
theorem dX3_look_23 : decode cX3_look 23 = .ok (.getfield 117, 3) := by decide +kernel
theorem dX3_look_26 : decode cX3_look 26 = .ok (.sipush 999, 3) := by decide +kernel
theorem dX3_look_29 : decode cX3_look 29 = .ok (.if_icmp .gt 7, 3) := by decide +kernel
theorem dX3_look_32 : decode cX3_look 32 = .ok (.iconst 1, 1) := by decide +kernel
theorem dX3_look_33 : decode cX3_look 33 = .ok (.goto 4, 3) := by decide +kernel
theorem dX3_look_36 : decode cX3_look 36 = .ok (.iconst 0, 1) := by decide +kernel
theorem dX3_look_37 : decode cX3_look 37 = .ok (.ireturn, 1) := by decide +kernel
def wp_X3_look  (σ : St) (Q : Int32 → St → Prop) : Prop :=
  wp_X4_isBag σ (σ 13 13) (fun y2 σ1 =>
  if y2 = 0 then
  (Q 0 σ1)
  else (if (σ1 13 16) < (-1) then
  (Q 0 σ1)
  else (if 999 < (σ1 13 16) then
  (Q 0 σ1)
  else (Q 1 σ1))))
theorem c_X3_look  {σ : St} {Q : Int32 → St → Prop} (h : wp_X3_look σ Q) : ctI l yX3_look cX3_look 1 (some .boolean) rm_X3_look D (wC cI cZ cH a n) (tyW cI cZ cH) [.ref (a 13)] σ (fun r9 u9 => isB r9 ∧ Q r9 u9) := by
  refine mk_I (wC_ok cI cZ cH a n) (by decide +kernel) (Nat.le_of_ble_eq_true rfl) (fun p e s m args below meth c A X hr9 hlk9 => ?_)
  refine r_pick (lv' := [(0, .ref (a 13))]) [0] rfl ?_
  delta wp_X3_look at h
  refine r_aload_n X 0 1 dX3_look_0 rfl rfl rfl ?_
  refine g_X3_48 X 4 dX3_look_1 rfl ?_
  refine r_aload_n X 0 5 dX3_look_4 rfl rfl rfl ?_
  refine g_X3_108 X 8 dX3_look_5 rfl ?_
  refine r_callNI (As := [.int (σ 13 13)]) (rest := []) X 11 (c_X4_isBag h) ml_X3_212 lk_X4_isBag wC_at_1 rfl rfl rfl (Nat.le_of_ble_eq_true rfl) ⟨rfl, rfl, ⟨Nat.le_of_ble_eq_true rfl, Nat.le_of_ble_eq_true rfl⟩, Nat.le_of_ble_eq_true rfl, Nat.le_of_ble_eq_true rfl⟩ dX3_look_8 rfl (fun y2 σ1 h => ?_)
  obtain ⟨hb_y2, h⟩ := h
  refine r_if_eq X 36 14 h dX3_look_11 rfl rfl (fun h => ?_) (fun h => ?_)
  · refine r_iconst (v := 0) X 37 dX3_look_36 (by decide) rfl ?_
    exact r_zret X hr9 hlk9 isB_0 h dX3_look_37
  · refine r_aload_n X 0 15 dX3_look_14 rfl rfl rfl ?_
    refine g_X3_117 X 18 dX3_look_15 rfl ?_
    refine r_iconst (v := (-1)) X 19 dX3_look_18 (by decide) rfl ?_
    refine r_icmp_lt X 36 22 h dX3_look_19 rfl rfl (fun h => ?_) (fun h => ?_)
    · refine r_iconst (v := 0) X 37 dX3_look_36 (by decide) rfl ?_
      exact r_zret X hr9 hlk9 isB_0 h dX3_look_37
    · refine r_aload_n X 0 23 dX3_look_22 rfl rfl rfl ?_
      refine g_X3_117 X 26 dX3_look_23 rfl ?_
      refine r_sipush (v := 999) X 29 dX3_look_26 (by decide) rfl ?_
      refine r_icmp_gt X 36 32 h dX3_look_29 rfl rfl (fun h => ?_) (fun h => ?_)
      · refine r_iconst (v := 0) X 37 dX3_look_36 (by decide) rfl ?_
        exact r_zret X hr9 hlk9 isB_0 h dX3_look_37
      · refine r_iconst (v := 1) X 33 dX3_look_32 (by decide) rfl ?_
        refine r_goto X 37 dX3_look_33 rfl ?_
        exact r_zret X hr9 hlk9 isB_1 h dX3_look_37
def rm_X3_isFree : Room := { frames := 1, cells := 0, slots := 0, locals := 21 }
theorem dX3_isFree_0 : decode cX3_isFree 0 = .ok (.aload_n 0, 1) := by decide +kernel
theorem dX3_isFree_1 : decode cX3_isFree 1 = .ok (.iload_n 1, 1) := by decide +kernel
theorem dX3_isFree_2 : decode cX3_isFree 2 = .ok (.invokevirtual 218, 3) := by decide +kernel
theorem dX3_isFree_5 : decode cX3_isFree 5 = .ok (.istore_n 2, 1) := by decide +kernel
theorem dX3_isFree_6 : decode cX3_isFree 6 = .ok (.iconst 0, 1) := by decide +kernel
theorem dX3_isFree_7 : decode cX3_isFree 7 = .ok (.istore_n 3, 1) := by decide +kernel
theorem dX3_isFree_8 : decode cX3_isFree 8 = .ok (.iload_n 3, 1) := by decide +kernel
theorem dX3_isFree_9 : decode cX3_isFree 9 = .ok (.iconst 4, 1) := by decide +kernel
theorem dX3_isFree_10 : decode cX3_isFree 10 = .ok (.if_icmp .ge 38, 3) := by decide +kernel
theorem dX3_isFree_13 : decode cX3_isFree 13 = .ok (.aload_n 0, 1) := by decide +kernel
theorem dX3_isFree_14 : decode cX3_isFree 14 = .ok (.getfield 48, 3) := by decide +kernel
theorem dX3_isFree_17 : decode cX3_isFree 17 = .ok (.iload_n 2, 1) := by decide +kernel
theorem dX3_isFree_18 : decode cX3_isFree 18 = .ok (.invokevirtual 73, 3) := by decide +kernel
theorem dX3_isFree_21 : decode cX3_isFree 21 = .ok (.ifCond .eq 27, 3) := by decide +kernel
theorem dX3_isFree_24 : decode cX3_isFree 24 = .ok (.aload_n 0, 1) := by decide +kernel
theorem dX3_isFree_25 : decode cX3_isFree 25 = .ok (.getfield 21, 3) := by decide +kernel
theorem dX3_isFree_28 : decode cX3_isFree 28 = .ok (.iload_n 2, 1) := by decide +kernel
theorem dX3_isFree_29 : decode cX3_isFree 29 = .ok (.iaload, 1) := by decide +kernel
theorem dX3_isFree_30 : decode cX3_isFree 30 = .ok (.iconst (-1), 1) := by decide +kernel
theorem dX3_isFree_31 : decode cX3_isFree 31 = .ok (.if_icmp .eq 5, 3) := by decide +kernel
theorem dX3_isFree_34 : decode cX3_isFree 34 = .ok (.iconst 0, 1) := by decide +kernel
theorem dX3_isFree_35 : decode cX3_isFree 35 = .ok (.ireturn, 1) := by decide +kernel
theorem dX3_isFree_36 : decode cX3_isFree 36 = .ok (.aload_n 0, 1) := by decide +kernel
theorem dX3_isFree_37 : decode cX3_isFree 37 = .ok (.iload_n 2, 1) := by decide +kernel
theorem dX3_isFree_38 : decode cX3_isFree 38 = .ok (.invokevirtual 218, 3) := by decide +kernel
theorem dX3_isFree_41 : decode cX3_isFree 41 = .ok (.istore_n 2, 1) := by decide +kernel
theorem dX3_isFree_42 : decode cX3_isFree 42 = .ok (.iinc 3 1, 3) := by decide +kernel
theorem dX3_isFree_45 : decode cX3_isFree 45 = .ok (.goto (-37), 3) := by decide +kernel
theorem dX3_isFree_48 : decode cX3_isFree 48 = .ok (.iconst 1, 1) := by decide +kernel
theorem dX3_isFree_49 : decode cX3_isFree 49 = .ok (.ireturn, 1) := by decide +kernel
def b_X3_isFree_8  (Q : Int32 → St → Prop) (rec8 : Int32 → Int32 → St → Prop) (v2 : Int32) (v3 : Int32) (σ : St) : Prop :=
  if v3 < 4 then
  (wp_X4_isThing σ v2 (fun y4 σ3 =>
  if y4 = 0 then
  (Q 1 σ3)
  else (vp_in v2 60 ∧
  (if (σ3 17 (ix v2)) = (-1) then
  (wp_X3_bagAround σ3 v2 (fun y6 σ5 =>
  rec8 y6 (v3 + 1) σ5))
  else (Q 0 σ3)))))
  else (Q 1 σ)
def lp_X3_isFree_8  (Q : Int32 → St → Prop) (n9 : Nat) : Int32 → Int32 → St → Prop :=
  Nat.rec (fun _ _ _ => False) (fun _ rec9 => b_X3_isFree_8  Q  rec9) n9
theorem wk_X3_isFree_8 (X : cx p s m args c cX3_isFree 4 RX3 D (wC cI cZ cH a n) A (tyW cI cZ cH)) (hr9 : meth.sig.returnType = (some .boolean)) (hlk9 : meth.locks = false)  {Q : Int32 → St → Prop} : ∀ (n9 : Nat) {v2 : Int32} {v3 : Int32} {σ : St}, lp_X3_isFree_8 Q n9 v2 v3 σ → go p l e rm_X3_isFree s m args below meth c D (wC cI cZ cH a n) A 0 0 (MQ below (va_Qi (fun r9 u9 => isB r9 ∧ Q r9 u9) (atw D (wC cI cZ cH a n) (tyW cI cZ cH) A) A) args s 0 0 A) 4 8 [(0, .ref (a 13)), (2, .int v2), (3, .int v3)] [] σ := by
  intro n9
  induction n9 with
  | zero => intro v2 v3 σ h; exact h.elim
  | succ n9 ih =>
    intro v2 v3 σ h
    have hrec8 := fun v2 v3 σ h => ih (σ := σ) (v2 := v2) (v3 := v3) h
    replace h : b_X3_isFree_8 Q (lp_X3_isFree_8 Q n9) v2 v3 σ := h
    delta b_X3_isFree_8 at h
    refine r_iload_n X 2 9 dX3_isFree_8 rfl rfl rfl ?_
    refine r_iconst (v := 4) X 10 dX3_isFree_9 (by decide) rfl ?_
    refine r_icmp_ge X 48 13 h dX3_isFree_10 rfl rfl (fun h => ?_) (fun h => ?_)
    · refine r_iconst (v := 1) X 49 dX3_isFree_48 (by decide) rfl ?_
      exact r_zret X hr9 hlk9 isB_1 h dX3_isFree_49
    · refine r_aload_n X 0 14 dX3_isFree_13 rfl rfl rfl ?_
      refine g_X3_48 X 17 dX3_isFree_14 rfl ?_
      refine r_iload_n X 1 18 dX3_isFree_17 rfl rfl rfl ?_
      refine r_callNI (As := [.int v2]) (rest := []) X 21 (c_X4_isThing h) ml_X3_73 lk_X4_isThing wC_at_1 rfl rfl rfl (Nat.le_of_ble_eq_true rfl) ⟨rfl, rfl, ⟨Nat.le_of_ble_eq_true rfl, Nat.le_of_ble_eq_true rfl⟩, Nat.le_of_ble_eq_true rfl, Nat.le_of_ble_eq_true rfl⟩ dX3_isFree_18 rfl (fun y4 σ3 h => ?_)
      obtain ⟨hb_y4, h⟩ := h
      refine r_if_eq X 48 24 h dX3_isFree_21 rfl rfl (fun h => ?_) (fun h => ?_)
      · refine r_iconst (v := 1) X 49 dX3_isFree_48 (by decide) rfl ?_
        exact r_zret X hr9 hlk9 isB_1 h dX3_isFree_49
      · refine r_aload_n X 0 25 dX3_isFree_24 rfl rfl rfl ?_
        refine g_X3_21 X 28 dX3_isFree_25 rfl ?_
        refine r_iload_n X 1 29 dX3_isFree_28 rfl rfl rfl ?_
        obtain ⟨hin, h⟩ := h
        refine l_C17 X 30 hin dX3_isFree_29 rfl ?_
        refine r_iconst (v := (-1)) X 31 dX3_isFree_30 (by decide) rfl ?_
        refine r_icmp_eq X 36 34 h dX3_isFree_31 rfl rfl (fun h => ?_) (fun h => ?_)
        · refine r_aload_n X 0 37 dX3_isFree_36 rfl rfl rfl ?_
          refine r_iload_n X 1 38 dX3_isFree_37 rfl rfl rfl ?_
          refine r_callI (As := [.int v2]) (rest := []) X 41 (c_X3_bagAround h) ml_X3_218 lk_X3_bagAround wC_at_13 rfl rfl rfl (Nat.le_of_ble_eq_true rfl) ⟨rfl, rfl, ⟨Nat.le_of_ble_eq_true rfl, Nat.le_of_ble_eq_true rfl⟩, Nat.le_of_ble_eq_true rfl, Nat.le_of_ble_eq_true rfl⟩ dX3_isFree_38 rfl (fun y6 σ5 h => ?_)
          refine r_istore_n X 42 [(2, .int y6), (0, .ref (a 13)), (3, .int v3)] dX3_isFree_41 rfl (by decide) rfl rfl ?_
          refine r_iinc (d := 1) X 2 45 [(3, .int (v3 + 1)), (2, .int y6), (0, .ref (a 13))] dX3_isFree_42 rfl (by decide) (by decide) rfl rfl ?_
          refine r_goto X 8 dX3_isFree_45 rfl ?_
          refine r_pick (lv' := [(0, .ref (a 13)), (2, .int y6), (3, .int (v3 + 1))]) [2, 1, 0] rfl ?_
          exact hrec8 _ _ _ h
        · refine r_iconst (v := 0) X 35 dX3_isFree_34 (by decide) rfl ?_
          exact r_zret X hr9 hlk9 isB_0 h dX3_isFree_35
def wp_X3_isFree  (σ : St) (x1 : Int32) (Q : Int32 → St → Prop) : Prop :=
  wp_X3_bagAround σ x1 (fun y2 σ1 =>
  ∃ n9 : Nat, lp_X3_isFree_8 Q n9 y2 0 σ1)
theorem c_X3_isFree  {σ : St} {x1 : Int32} {Q : Int32 → St → Prop} (h : wp_X3_isFree σ x1 Q) : ctI l yX3_isFree cX3_isFree 4 (some .boolean) rm_X3_isFree D (wC cI cZ cH a n) (tyW cI cZ cH) [.ref (a 13), .int x1] σ (fun r9 u9 => isB r9 ∧ Q r9 u9) := by
  refine mk_I (wC_ok cI cZ cH a n) (by decide +kernel) (Nat.le_of_ble_eq_true rfl) (fun p e s m args below meth c A X hr9 hlk9 => ?_)
  refine r_pick (lv' := [(0, .ref (a 13)), (1, .int x1)]) [0, 1] rfl ?_
  delta wp_X3_isFree at h
  refine r_aload_n X 0 1 dX3_isFree_0 rfl rfl rfl ?_
  refine r_iload_n X 1 2 dX3_isFree_1 rfl rfl rfl ?_
  refine r_callI (As := [.int x1]) (rest := []) X 5 (c_X3_bagAround h) ml_X3_218 lk_X3_bagAround wC_at_13 rfl rfl rfl (Nat.le_of_ble_eq_true rfl) ⟨rfl, rfl, ⟨Nat.le_of_ble_eq_true rfl, Nat.le_of_ble_eq_true rfl⟩, Nat.le_of_ble_eq_true rfl, Nat.le_of_ble_eq_true rfl⟩ dX3_isFree_2 rfl (fun y2 σ1 h => ?_)
  refine r_istore_n X 6 [(2, .int y2), (0, .ref (a 13)), (1, .int x1)] dX3_isFree_5 rfl (by decide) rfl rfl ?_
  refine r_iconst (v := 0) X 7 dX3_isFree_6 (by decide) rfl ?_
  refine r_istore_n X 8 [(3, .int 0), (2, .int y2), (0, .ref (a 13)), (1, .int x1)] dX3_isFree_7 rfl (by decide) rfl rfl ?_
  refine r_pick (lv' := [(0, .ref (a 13)), (2, .int y2), (3, .int 0)]) [2, 1, 0] rfl ?_
  obtain ⟨n9, h⟩ := h
  exact wk_X3_isFree_8 X hr9 hlk9 n9 h
def rm_X3_mayBeTaken : Room := { frames := 2, cells := 0, slots := 0, locals := 44 }
theorem dX3_mayBeTaken_0 : decode cX3_mayBeTaken 0 = .ok (.aload_n 0, 1) := by decide +kernel
theorem dX3_mayBeTaken_1 : decode cX3_mayBeTaken 1 = .ok (.getfield 48, 3) := by decide +kernel
theorem dX3_mayBeTaken_4 : decode cX3_mayBeTaken 4 = .ok (.aload_n 0, 1) := by decide +kernel
theorem dX3_mayBeTaken_5 : decode cX3_mayBeTaken 5 = .ok (.getfield 117, 3) := by decide +kernel
theorem dX3_mayBeTaken_8 : decode cX3_mayBeTaken 8 = .ok (.iload_n 1, 1) := by decide +kernel
theorem dX3_mayBeTaken_9 : decode cX3_mayBeTaken 9 = .ok (.invokevirtual 184, 3) := by decide +kernel
theorem dX3_mayBeTaken_12 : decode cX3_mayBeTaken 12 = .ok (.ifCond .eq 45, 3) := by decide +kernel
theorem dX3_mayBeTaken_15 : decode cX3_mayBeTaken 15 = .ok (.aload_n 0, 1) := by decide +kernel
theorem dX3_mayBeTaken_16 : decode cX3_mayBeTaken 16 = .ok (.getfield 9, 3) := by decide +kernel
theorem dX3_mayBeTaken_19 : decode cX3_mayBeTaken 19 = .ok (.aload_n 0, 1) := by decide +kernel
theorem dX3_mayBeTaken_20 : decode cX3_mayBeTaken 20 = .ok (.getfield 117, 3) := by decide +kernel
theorem dX3_mayBeTaken_23 : decode cX3_mayBeTaken 23 = .ok (.iaload, 1) := by decide +kernel
theorem dX3_mayBeTaken_24 : decode cX3_mayBeTaken 24 = .ok (.ifCond .ne 33, 3) := by decide +kernel
theorem dX3_mayBeTaken_27 : decode cX3_mayBeTaken 27 = .ok (.aload_n 0, 1) := by decide +kernel
theorem dX3_mayBeTaken_28 : decode cX3_mayBeTaken 28 = .ok (.aload_n 0, 1) := by decide +kernel
theorem dX3_mayBeTaken_29 : decode cX3_mayBeTaken 29 = .ok (.getfield 108, 3) := by decide +kernel
theorem dX3_mayBeTaken_32 : decode cX3_mayBeTaken 32 = .ok (.invokevirtual 230, 3) := by decide +kernel
theorem dX3_mayBeTaken_35 : decode cX3_mayBeTaken 35 = .ok (.ifCond .eq 22, 3) := by decide +kernel
theorem dX3_mayBeTaken_38 : decode cX3_mayBeTaken 38 = .ok (.aload_n 0, 1) := by decide +kernel
theorem dX3_mayBeTaken_39 : decode cX3_mayBeTaken 39 = .ok (.aload_n 0, 1) := by decide +kernel
theorem dX3_mayBeTaken_40 : decode cX3_mayBeTaken 40 = .ok (.aload_n 0, 1) := by decide +kernel
theorem dX3_mayBeTaken_41 : decode cX3_mayBeTaken 41 = .ok (.getfield 108, 3) := by decide +kernel
theorem dX3_mayBeTaken_44 : decode cX3_mayBeTaken 44 = .ok (.invokevirtual 188, 3) := by decide +kernel
theorem dX3_mayBeTaken_47 : decode cX3_mayBeTaken 47 = .ok (.invokevirtual 191, 3) := by decide +kernel
theorem dX3_mayBeTaken_50 : decode cX3_mayBeTaken 50 = .ok (.ifCond .eq 7, 3) := by decide +kernel
theorem dX3_mayBeTaken_53 : decode cX3_mayBeTaken 53 = .ok (.iconst 1, 1) := by decide +kernel
theorem dX3_mayBeTaken_54 : decode cX3_mayBeTaken 54 = .ok (.goto 4, 3) := by decide +kernel
theorem dX3_mayBeTaken_57 : decode cX3_mayBeTaken 57 = .ok (.iconst 0, 1) := by decide +kernel
theorem dX3_mayBeTaken_58 : decode cX3_mayBeTaken 58 = .ok (.ireturn, 1) := by decide +kernel
def wp_X3_mayBeTaken  (σ : St) (x1 : Int32) (Q : Int32 → St → Prop) : Prop :=
  wp_X4_isOfKind σ (σ 13 16) x1 (fun y2 σ1 =>
  if y2 = 0 then
  (Q 0 σ1)
  else (vp_in (σ1 13 16) 60 ∧
  (if (σ1 14 (ix (σ1 13 16))) = 0 then
  (wp_X3_isFree σ1 (σ1 13 13) (fun y4 σ3 =>
  if y4 = 0 then
  (Q 0 σ3)
  else (wp_X3_isMoneyBag σ3 (σ3 13 13) (fun y6 σ5 =>
  wp_X3_keepersServe σ5 y6 (fun y8 σ7 =>
  if y8 = 0 then
  (Q 0 σ7)
  else (Q 1 σ7))))))
  else (Q 0 σ1))))
theorem c_X3_mayBeTaken  {σ : St} {x1 : Int32} {Q : Int32 → St → Prop} (h : wp_X3_mayBeTaken σ x1 Q) : ctI l yX3_mayBeTaken cX3_mayBeTaken 2 (some .boolean) rm_X3_mayBeTaken D (wC cI cZ cH a n) (tyW cI cZ cH) [.ref (a 13), .int x1] σ (fun r9 u9 => isB r9 ∧ Q r9 u9) := by
  refine mk_I (wC_ok cI cZ cH a n) (by decide +kernel) (Nat.le_of_ble_eq_true rfl) (fun p e s m args below meth c A X hr9 hlk9 => ?_)
  refine r_pick (lv' := [(0, .ref (a 13)), (1, .int x1)]) [0, 1] rfl ?_
  delta wp_X3_mayBeTaken at h
  refine r_aload_n X 0 1 dX3_mayBeTaken_0 rfl rfl rfl ?_
  refine g_X3_48 X 4 dX3_mayBeTaken_1 rfl ?_
  refine r_aload_n X 0 5 dX3_mayBeTaken_4 rfl rfl rfl ?_
  refine g_X3_117 X 8 dX3_mayBeTaken_5 rfl ?_
  refine r_iload_n X 1 9 dX3_mayBeTaken_8 rfl rfl rfl ?_
  refine r_callNI (As := [.int (σ 13 16), .int x1]) (rest := []) X 12 (c_X4_isOfKind h) ml_X3_184 lk_X4_isOfKind wC_at_1 rfl rfl rfl (Nat.le_of_ble_eq_true rfl) ⟨rfl, rfl, ⟨Nat.le_of_ble_eq_true rfl, Nat.le_of_ble_eq_true rfl⟩, Nat.le_of_ble_eq_true rfl, Nat.le_of_ble_eq_true rfl⟩ dX3_mayBeTaken_9 rfl (fun y2 σ1 h => ?_)
  obtain ⟨hb_y2, h⟩ := h
  refine r_if_eq X 57 15 h dX3_mayBeTaken_12 rfl rfl (fun h => ?_) (fun h => ?_)
  · refine r_iconst (v := 0) X 58 dX3_mayBeTaken_57 (by decide) rfl ?_
    exact r_zret X hr9 hlk9 isB_0 h dX3_mayBeTaken_58
  · refine r_aload_n X 0 16 dX3_mayBeTaken_15 rfl rfl rfl ?_
    refine g_X3_9 X 19 dX3_mayBeTaken_16 rfl ?_
    refine r_aload_n X 0 20 dX3_mayBeTaken_19 rfl rfl rfl ?_
    refine g_X3_117 X 23 dX3_mayBeTaken_20 rfl ?_
    obtain ⟨hin, h⟩ := h
    refine l_C14 X 24 hin dX3_mayBeTaken_23 rfl ?_
    refine r_if_ne X 57 27 h dX3_mayBeTaken_24 rfl rfl (fun h => ?_) (fun h => ?_)
    · refine r_iconst (v := 0) X 58 dX3_mayBeTaken_57 (by decide) rfl ?_
      exact r_zret X hr9 hlk9 isB_0 h dX3_mayBeTaken_58
    · refine r_aload_n X 0 28 dX3_mayBeTaken_27 rfl rfl rfl ?_
      refine r_aload_n X 0 29 dX3_mayBeTaken_28 rfl rfl rfl ?_
      refine g_X3_108 X 32 dX3_mayBeTaken_29 rfl ?_
      refine r_callI (As := [.int (σ1 13 13)]) (rest := []) X 35 (c_X3_isFree h) ml_X3_230 lk_X3_isFree wC_at_13 rfl rfl rfl (Nat.le_of_ble_eq_true rfl) ⟨rfl, rfl, ⟨Nat.le_of_ble_eq_true rfl, Nat.le_of_ble_eq_true rfl⟩, Nat.le_of_ble_eq_true rfl, Nat.le_of_ble_eq_true rfl⟩ dX3_mayBeTaken_32 rfl (fun y4 σ3 h => ?_)
      obtain ⟨hb_y4, h⟩ := h
      refine r_if_eq X 57 38 h dX3_mayBeTaken_35 rfl rfl (fun h => ?_) (fun h => ?_)
      · refine r_iconst (v := 0) X 58 dX3_mayBeTaken_57 (by decide) rfl ?_
        exact r_zret X hr9 hlk9 isB_0 h dX3_mayBeTaken_58
      · refine r_aload_n X 0 39 dX3_mayBeTaken_38 rfl rfl rfl ?_
        refine r_aload_n X 0 40 dX3_mayBeTaken_39 rfl rfl rfl ?_
        refine r_aload_n X 0 41 dX3_mayBeTaken_40 rfl rfl rfl ?_
        refine g_X3_108 X 44 dX3_mayBeTaken_41 rfl ?_
        refine r_callI (As := [.int (σ3 13 13)]) (rest := [.ref (a 13)]) X 47 (c_X3_isMoneyBag h) ml_X3_188 lk_X3_isMoneyBag wC_at_13 rfl rfl rfl (Nat.le_of_ble_eq_true rfl) ⟨rfl, rfl, ⟨Nat.le_of_ble_eq_true rfl, Nat.le_of_ble_eq_true rfl⟩, Nat.le_of_ble_eq_true rfl, Nat.le_of_ble_eq_true rfl⟩ dX3_mayBeTaken_44 rfl (fun y6 σ5 h => ?_)
        obtain ⟨hb_y6, h⟩ := h
        refine r_callI (As := [.int y6]) (rest := []) X 50 (c_X3_keepersServe h) ml_X3_191 lk_X3_keepersServe wC_at_13 rfl rfl rfl (Nat.le_of_ble_eq_true rfl) ⟨rfl, rfl, ⟨Nat.le_of_ble_eq_true rfl, Nat.le_of_ble_eq_true rfl⟩, Nat.le_of_ble_eq_true rfl, Nat.le_of_ble_eq_true rfl⟩ dX3_mayBeTaken_47 rfl (fun y8 σ7 h => ?_)
        obtain ⟨hb_y8, h⟩ := h
        refine r_if_eq X 57 53 h dX3_mayBeTaken_50 rfl rfl (fun h => ?_) (fun h => ?_)
        · refine r_iconst (v := 0) X 58 dX3_mayBeTaken_57 (by decide) rfl ?_
          exact r_zret X hr9 hlk9 isB_0 h dX3_mayBeTaken_58
        · refine r_iconst (v := 1) X 54 dX3_mayBeTaken_53 (by decide) rfl ?_
          refine r_goto X 58 dX3_mayBeTaken_54 rfl ?_
          exact r_zret X hr9 hlk9 isB_1 h dX3_mayBeTaken_58
def rm_X3_bringToHand : Room := { frames := 2, cells := 0, slots := 0, locals := 46 }
theorem dX3_bringToHand_0 : decode cX3_bringToHand 0 = .ok (.aload_n 0, 1) := by decide +kernel
theorem dX3_bringToHand_1 : decode cX3_bringToHand 1 = .ok (.getfield 39, 3) := by decide +kernel
theorem dX3_bringToHand_4 : decode cX3_bringToHand 4 = .ok (.aload_n 0, 1) := by decide +kernel
theorem dX3_bringToHand_5 : decode cX3_bringToHand 5 = .ok (.getfield 117, 3) := by decide +kernel
theorem dX3_bringToHand_8 : decode cX3_bringToHand 8 = .ok (.aload_n 0, 1) := by decide +kernel
theorem dX3_bringToHand_9 : decode cX3_bringToHand 9 = .ok (.getfield 108, 3) := by decide +kernel
theorem dX3_bringToHand_12 : decode cX3_bringToHand 12 = .ok (.iastore, 1) := by decide +kernel
theorem dX3_bringToHand_13 : decode cX3_bringToHand 13 = .ok (.aload_n 0, 1) := by decide +kernel
theorem dX3_bringToHand_14 : decode cX3_bringToHand 14 = .ok (.aload_n 0, 1) := by decide +kernel
theorem dX3_bringToHand_15 : decode cX3_bringToHand 15 = .ok (.getfield 117, 3) := by decide +kernel
theorem dX3_bringToHand_18 : decode cX3_bringToHand 18 = .ok (.iconst 2, 1) := by decide +kernel
theorem dX3_bringToHand_19 : decode cX3_bringToHand 19 = .ok (.aload_n 0, 1) := by decide +kernel
theorem dX3_bringToHand_20 : decode cX3_bringToHand 20 = .ok (.getfield 111, 3) := by decide +kernel
theorem dX3_bringToHand_23 : decode cX3_bringToHand 23 = .ok (.invokevirtual 201, 3) := by decide +kernel
theorem dX3_bringToHand_26 : decode cX3_bringToHand 26 = .ok (.return_, 1) := by decide +kernel
def wp_X3_bringToHand  (σ : St) (Q : St → Prop) : Prop :=
  vp_in (σ 13 16) 60 ∧
  nmS (up2 σ 23 (ix (σ 13 16)) (σ 13 13)) (fun σ1 =>
  wp_X3_move σ1 (σ1 13 16) 2 (σ1 13 14) (fun σ2 =>
  Q σ2))
theorem c_X3_bringToHand  {σ : St} {Q : St → Prop} (h : wp_X3_bringToHand σ Q) : ctV l yX3_bringToHand cX3_bringToHand 1 none rm_X3_bringToHand D (wC cI cZ cH a n) (tyW cI cZ cH) [.ref (a 13)] σ Q := by
  refine mk_V (wC_ok cI cZ cH a n) (by decide +kernel) (Nat.le_of_ble_eq_true rfl) (fun p e s m args below meth c A X hr9 hlk9 => ?_)
  refine r_pick (lv' := [(0, .ref (a 13))]) [0] rfl ?_
  delta wp_X3_bringToHand at h
  refine r_aload_n X 0 1 dX3_bringToHand_0 rfl rfl rfl ?_
  refine g_X3_39 X 4 dX3_bringToHand_1 rfl ?_
  refine r_aload_n X 0 5 dX3_bringToHand_4 rfl rfl rfl ?_
  refine g_X3_117 X 8 dX3_bringToHand_5 rfl ?_
  refine r_aload_n X 0 9 dX3_bringToHand_8 rfl rfl rfl ?_
  refine g_X3_108 X 12 dX3_bringToHand_9 rfl ?_
  obtain ⟨hin, h⟩ := h
  refine s_C23 X 13 hin dX3_bringToHand_12 rfl ?_
  refine r_nmS h (fun σ1 h => ?_)
  refine r_aload_n X 0 14 dX3_bringToHand_13 rfl rfl rfl ?_
  refine r_aload_n X 0 15 dX3_bringToHand_14 rfl rfl rfl ?_
  refine g_X3_117 X 18 dX3_bringToHand_15 rfl ?_
  refine r_iconst (v := 2) X 19 dX3_bringToHand_18 (by decide) rfl ?_
  refine r_aload_n X 0 20 dX3_bringToHand_19 rfl rfl rfl ?_
  refine g_X3_111 X 23 dX3_bringToHand_20 rfl ?_
  refine r_callV (As := [.int (σ1 13 16), .int 2, .int (σ1 13 14)]) (rest := []) X 26 (c_X3_move h) ml_X3_201 lk_X3_move wC_at_13 rfl rfl rfl (Nat.le_of_ble_eq_true rfl) ⟨rfl, rfl, ⟨Nat.le_of_ble_eq_true rfl, Nat.le_of_ble_eq_true rfl⟩, Nat.le_of_ble_eq_true rfl, Nat.le_of_ble_eq_true rfl⟩ dX3_bringToHand_23 rfl (fun σ2 h => ?_)
  exact r_vret X hr9 hlk9 h dX3_bringToHand_26
def rm_X3_takePart : Room := { frames := 3, cells := 0, slots := 0, locals := 66 }
theorem dX3_takePart_0 : decode cX3_takePart 0 = .ok (.aload_n 0, 1) := by decide +kernel
theorem dX3_takePart_1 : decode cX3_takePart 1 = .ok (.iconst 2, 1) := by decide +kernel
theorem dX3_takePart_2 : decode cX3_takePart 2 = .ok (.invokevirtual 224, 3) := by decide +kernel
theorem dX3_takePart_5 : decode cX3_takePart 5 = .ok (.ifCond .eq 27, 3) := by decide +kernel
theorem dX3_takePart_8 : decode cX3_takePart 8 = .ok (.aload_n 0, 1) := by decide +kernel
theorem dX3_takePart_9 : decode cX3_takePart 9 = .ok (.getfield 120, 3) := by decide +kernel
theorem dX3_takePart_12 : decode cX3_takePart 12 = .ok (.iconst 1, 1) := by decide +kernel
theorem dX3_takePart_13 : decode cX3_takePart 13 = .ok (.if_icmp .lt 19, 3) := by decide +kernel
theorem dX3_takePart_16 : decode cX3_takePart 16 = .ok (.aload_n 0, 1) := by decide +kernel
theorem dX3_takePart_17 : decode cX3_takePart 17 = .ok (.getfield 120, 3) := by decide +kernel
theorem dX3_takePart_20 : decode cX3_takePart 20 = .ok (.aload_n 0, 1) := by decide +kernel
theorem dX3_takePart_21 : decode cX3_takePart 21 = .ok (.getfield 18, 3) := by decide +kernel
theorem dX3_takePart_24 : decode cX3_takePart 24 = .ok (.aload_n 0, 1) := by decide +kernel
theorem dX3_takePart_25 : decode cX3_takePart 25 = .ok (.getfield 108, 3) := by decide +kernel
theorem dX3_takePart_28 : decode cX3_takePart 28 = .ok (.iaload, 1) := by decide +kernel
theorem dX3_takePart_29 : decode cX3_takePart 29 = .ok (.if_icmp .le 5, 3) := by decide +kernel
theorem dX3_takePart_32 : decode cX3_takePart 32 = .ok (.iconst 0, 1) := by decide +kernel
theorem dX3_takePart_33 : decode cX3_takePart 33 = .ok (.ireturn, 1) := by decide +kernel
theorem dX3_takePart_34 : decode cX3_takePart 34 = .ok (.aload_n 0, 1) := by decide +kernel
theorem dX3_takePart_35 : decode cX3_takePart 35 = .ok (.getfield 18, 3) := by decide +kernel
theorem dX3_takePart_38 : decode cX3_takePart 38 = .ok (.aload_n 0, 1) := by decide +kernel
theorem dX3_takePart_39 : decode cX3_takePart 39 = .ok (.getfield 108, 3) := by decide +kernel
theorem dX3_takePart_42 : decode cX3_takePart 42 = .ok (.dup2, 1) := by decide +kernel
theorem dX3_takePart_43 : decode cX3_takePart 43 = .ok (.iaload, 1) := by decide +kernel
theorem dX3_takePart_44 : decode cX3_takePart 44 = .ok (.aload_n 0, 1) := by decide +kernel
theorem dX3_takePart_45 : decode cX3_takePart 45 = .ok (.getfield 120, 3) := by decide +kernel
theorem dX3_takePart_48 : decode cX3_takePart 48 = .ok (.isub, 1) := by decide +kernel
theorem dX3_takePart_49 : decode cX3_takePart 49 = .ok (.iastore, 1) := by decide +kernel
theorem dX3_takePart_50 : decode cX3_takePart 50 = .ok (.aload_n 0, 1) := by decide +kernel
theorem dX3_takePart_51 : decode cX3_takePart 51 = .ok (.getfield 18, 3) := by decide +kernel
theorem dX3_takePart_54 : decode cX3_takePart 54 = .ok (.aload_n 0, 1) := by decide +kernel
theorem dX3_takePart_55 : decode cX3_takePart 55 = .ok (.getfield 117, 3) := by decide +kernel
theorem dX3_takePart_58 : decode cX3_takePart 58 = .ok (.aload_n 0, 1) := by decide +kernel
theorem dX3_takePart_59 : decode cX3_takePart 59 = .ok (.getfield 120, 3) := by decide +kernel
theorem dX3_takePart_62 : decode cX3_takePart 62 = .ok (.iastore, 1) := by decide +kernel
theorem dX3_takePart_63 : decode cX3_takePart 63 = .ok (.aload_n 0, 1) := by decide +kernel
theorem dX3_takePart_64 : decode cX3_takePart 64 = .ok (.invokevirtual 227, 3) := by decide +kernel
theorem dX3_takePart_67 : decode cX3_takePart 67 = .ok (.iconst 1, 1) := by decide +kernel
theorem dX3_takePart_68 : decode cX3_takePart 68 = .ok (.ireturn, 1) := by decide +kernel
def wp_X3_takePart  (σ : St) (Q : Int32 → St → Prop) : Prop :=
  wp_X3_mayBeTaken σ 2 (fun y2 σ1 =>
  if y2 = 0 then
  (Q 0 σ1)
  else (if (σ1 13 17) < 1 then
  (Q 0 σ1)
  else (vp_in (σ1 13 13) 60 ∧
  (if (σ1 16 (ix (σ1 13 13))) < (σ1 13 17) then
  (Q 0 σ1)
  else (vp_in (σ1 13 13) 60 ∧
  (vp_in (σ1 13 13) 60 ∧
  nmS (up2 σ1 16 (ix (σ1 13 13)) ((σ1 16 (ix (σ1 13 13))) - (σ1 13 17))) (fun σ3 =>
  vp_in (σ3 13 16) 60 ∧
  nmS (up2 σ3 16 (ix (σ3 13 16)) (σ3 13 17)) (fun σ4 =>
  wp_X3_bringToHand σ4 (fun σ5 =>
  Q 1 σ5)))))))))
theorem c_X3_takePart  {σ : St} {Q : Int32 → St → Prop} (h : wp_X3_takePart σ Q) : ctI l yX3_takePart cX3_takePart 1 (some .boolean) rm_X3_takePart D (wC cI cZ cH a n) (tyW cI cZ cH) [.ref (a 13)] σ (fun r9 u9 => isB r9 ∧ Q r9 u9) := by
  refine mk_I (wC_ok cI cZ cH a n) (by decide +kernel) (Nat.le_of_ble_eq_true rfl) (fun p e s m args below meth c A X hr9 hlk9 => ?_)
  refine r_pick (lv' := [(0, .ref (a 13))]) [0] rfl ?_
  delta wp_X3_takePart at h
  refine r_aload_n X 0 1 dX3_takePart_0 rfl rfl rfl ?_
  refine r_iconst (v := 2) X 2 dX3_takePart_1 (by decide) rfl ?_
  refine r_callI (As := [.int 2]) (rest := []) X 5 (c_X3_mayBeTaken h) ml_X3_224 lk_X3_mayBeTaken wC_at_13 rfl rfl rfl (Nat.le_of_ble_eq_true rfl) ⟨rfl, rfl, ⟨Nat.le_of_ble_eq_true rfl, Nat.le_of_ble_eq_true rfl⟩, Nat.le_of_ble_eq_true rfl, Nat.le_of_ble_eq_true rfl⟩ dX3_takePart_2 rfl (fun y2 σ1 h => ?_)
  obtain ⟨hb_y2, h⟩ := h
  refine r_if_eq X 32 8 h dX3_takePart_5 rfl rfl (fun h => ?_) (fun h => ?_)
  · refine r_iconst (v := 0) X 33 dX3_takePart_32 (by decide) rfl ?_
    exact r_zret X hr9 hlk9 isB_0 h dX3_takePart_33
  · refine r_aload_n X 0 9 dX3_takePart_8 rfl rfl rfl ?_
    refine g_X3_120 X 12 dX3_takePart_9 rfl ?_
    refine r_iconst (v := 1) X 13 dX3_takePart_12 (by decide) rfl ?_
    refine r_icmp_lt X 32 16 h dX3_takePart_13 rfl rfl (fun h => ?_) (fun h => ?_)
    · refine r_iconst (v := 0) X 33 dX3_takePart_32 (by decide) rfl ?_
      exact r_zret X hr9 hlk9 isB_0 h dX3_takePart_33
    · refine r_aload_n X 0 17 dX3_takePart_16 rfl rfl rfl ?_
      refine g_X3_120 X 20 dX3_takePart_17 rfl ?_
      refine r_aload_n X 0 21 dX3_takePart_20 rfl rfl rfl ?_
      refine g_X3_18 X 24 dX3_takePart_21 rfl ?_
      refine r_aload_n X 0 25 dX3_takePart_24 rfl rfl rfl ?_
      refine g_X3_108 X 28 dX3_takePart_25 rfl ?_
      obtain ⟨hin, h⟩ := h
      refine l_C16 X 29 hin dX3_takePart_28 rfl ?_
      refine r_icmp_le X 34 32 h dX3_takePart_29 rfl rfl (fun h => ?_) (fun h => ?_)
      · refine r_aload_n X 0 35 dX3_takePart_34 rfl rfl rfl ?_
        refine g_X3_18 X 38 dX3_takePart_35 rfl ?_
        refine r_aload_n X 0 39 dX3_takePart_38 rfl rfl rfl ?_
        refine g_X3_108 X 42 dX3_takePart_39 rfl ?_
        refine r_dup2 X 43 dX3_takePart_42 rfl rfl rfl ?_
        obtain ⟨hin, h⟩ := h
        refine l_C16 X 44 hin dX3_takePart_43 rfl ?_
        refine r_aload_n X 0 45 dX3_takePart_44 rfl rfl rfl ?_
        refine g_X3_120 X 48 dX3_takePart_45 rfl ?_
        refine r_isub X 49 dX3_takePart_48 rfl ?_
        obtain ⟨hin, h⟩ := h
        refine s_C16 X 50 hin dX3_takePart_49 rfl ?_
        refine r_nmS h (fun σ3 h => ?_)
        refine r_aload_n X 0 51 dX3_takePart_50 rfl rfl rfl ?_
        refine g_X3_18 X 54 dX3_takePart_51 rfl ?_
        refine r_aload_n X 0 55 dX3_takePart_54 rfl rfl rfl ?_
        refine g_X3_117 X 58 dX3_takePart_55 rfl ?_
        refine r_aload_n X 0 59 dX3_takePart_58 rfl rfl rfl ?_
        refine g_X3_120 X 62 dX3_takePart_59 rfl ?_
        obtain ⟨hin, h⟩ := h
        refine s_C16 X 63 hin dX3_takePart_62 rfl ?_
        refine r_nmS h (fun σ4 h => ?_)
        refine r_aload_n X 0 64 dX3_takePart_63 rfl rfl rfl ?_
        refine r_callV (As := []) (rest := []) X 67 (c_X3_bringToHand h) ml_X3_227 lk_X3_bringToHand wC_at_13 rfl rfl rfl (Nat.le_of_ble_eq_true rfl) ⟨rfl, rfl, ⟨Nat.le_of_ble_eq_true rfl, Nat.le_of_ble_eq_true rfl⟩, Nat.le_of_ble_eq_true rfl, Nat.le_of_ble_eq_true rfl⟩ dX3_takePart_64 rfl (fun σ5 h => ?_)
        refine r_iconst (v := 1) X 68 dX3_takePart_67 (by decide) rfl ?_
        exact r_zret X hr9 hlk9 isB_1 h dX3_takePart_68
      · refine r_iconst (v := 0) X 33 dX3_takePart_32 (by decide) rfl ?_
        exact r_zret X hr9 hlk9 isB_0 h dX3_takePart_33
def rm_X3_takeCopy : Room := { frames := 3, cells := 0, slots := 0, locals := 66 }
theorem dX3_takeCopy_0 : decode cX3_takeCopy 0 = .ok (.aload_n 0, 1) := by decide +kernel
theorem dX3_takeCopy_1 : decode cX3_takeCopy 1 = .ok (.iconst 3, 1) := by decide +kernel
theorem dX3_takeCopy_2 : decode cX3_takeCopy 2 = .ok (.invokevirtual 224, 3) := by decide +kernel
theorem dX3_takeCopy_5 : decode cX3_takeCopy 5 = .ok (.ifCond .ne 5, 3) := by decide +kernel
theorem dX3_takeCopy_8 : decode cX3_takeCopy 8 = .ok (.iconst 0, 1) := by decide +kernel
theorem dX3_takeCopy_9 : decode cX3_takeCopy 9 = .ok (.ireturn, 1) := by decide +kernel
theorem dX3_takeCopy_10 : decode cX3_takeCopy 10 = .ok (.aload_n 0, 1) := by decide +kernel
theorem dX3_takeCopy_11 : decode cX3_takeCopy 11 = .ok (.invokevirtual 227, 3) := by decide +kernel
theorem dX3_takeCopy_14 : decode cX3_takeCopy 14 = .ok (.iconst 1, 1) := by decide +kernel
theorem dX3_takeCopy_15 : decode cX3_takeCopy 15 = .ok (.ireturn, 1) := by decide +kernel
def wp_X3_takeCopy  (σ : St) (Q : Int32 → St → Prop) : Prop :=
  wp_X3_mayBeTaken σ 3 (fun y2 σ1 =>
  if y2 = 0 then
  (Q 0 σ1)
  else (wp_X3_bringToHand σ1 (fun σ3 =>
  Q 1 σ3)))
theorem c_X3_takeCopy  {σ : St} {Q : Int32 → St → Prop} (h : wp_X3_takeCopy σ Q) : ctI l yX3_takeCopy cX3_takeCopy 1 (some .boolean) rm_X3_takeCopy D (wC cI cZ cH a n) (tyW cI cZ cH) [.ref (a 13)] σ (fun r9 u9 => isB r9 ∧ Q r9 u9) := by
  refine mk_I (wC_ok cI cZ cH a n) (by decide +kernel) (Nat.le_of_ble_eq_true rfl) (fun p e s m args below meth c A X hr9 hlk9 => ?_)
  refine r_pick (lv' := [(0, .ref (a 13))]) [0] rfl ?_
  delta wp_X3_takeCopy at h
  refine r_aload_n X 0 1 dX3_takeCopy_0 rfl rfl rfl ?_
  refine r_iconst (v := 3) X 2 dX3_takeCopy_1 (by decide) rfl ?_
  refine r_callI (As := [.int 3]) (rest := []) X 5 (c_X3_mayBeTaken h) ml_X3_224 lk_X3_mayBeTaken wC_at_13 rfl rfl rfl (Nat.le_of_ble_eq_true rfl) ⟨rfl, rfl, ⟨Nat.le_of_ble_eq_true rfl, Nat.le_of_ble_eq_true rfl⟩, Nat.le_of_ble_eq_true rfl, Nat.le_of_ble_eq_true rfl⟩ dX3_takeCopy_2 rfl (fun y2 σ1 h => ?_)
  obtain ⟨hb_y2, h⟩ := h
  refine r_if_ne X 10 8 h dX3_takeCopy_5 rfl rfl (fun h => ?_) (fun h => ?_)
  · refine r_aload_n X 0 11 dX3_takeCopy_10 rfl rfl rfl ?_
    refine r_callV (As := []) (rest := []) X 14 (c_X3_bringToHand h) ml_X3_227 lk_X3_bringToHand wC_at_13 rfl rfl rfl (Nat.le_of_ble_eq_true rfl) ⟨rfl, rfl, ⟨Nat.le_of_ble_eq_true rfl, Nat.le_of_ble_eq_true rfl⟩, Nat.le_of_ble_eq_true rfl, Nat.le_of_ble_eq_true rfl⟩ dX3_takeCopy_11 rfl (fun σ3 h => ?_)
    refine r_iconst (v := 1) X 15 dX3_takeCopy_14 (by decide) rfl ?_
    exact r_zret X hr9 hlk9 isB_1 h dX3_takeCopy_15
  · refine r_iconst (v := 0) X 9 dX3_takeCopy_8 (by decide) rfl ?_
    exact r_zret X hr9 hlk9 isB_0 h dX3_takeCopy_9
def rm_X3_weigh : Room := { frames := 2, cells := 0, slots := 0, locals := 44 }
theorem dX3_weigh_0 : decode cX3_weigh 0 = .ok (.aload_n 0, 1) := by decide +kernel
theorem dX3_weigh_1 : decode cX3_weigh 1 = .ok (.aload_n 0, 1) := by decide +kernel
theorem dX3_weigh_2 : decode cX3_weigh 2 = .ok (.getfield 108, 3) := by decide +kernel
theorem dX3_weigh_5 : decode cX3_weigh 5 = .ok (.invokevirtual 230, 3) := by decide +kernel
theorem dX3_weigh_8 : decode cX3_weigh 8 = .ok (.ifCond .eq 26, 3) := by decide +kernel
theorem dX3_weigh_11 : decode cX3_weigh 11 = .ok (.aload_n 0, 1) := by decide +kernel
theorem dX3_weigh_12 : decode cX3_weigh 12 = .ok (.getfield 120, 3) := by decide +kernel
theorem dX3_weigh_15 : decode cX3_weigh 15 = .ok (.ifCond .lt 19, 3) := by decide +kernel
theorem dX3_weigh_18 : decode cX3_weigh 18 = .ok (.aload_n 0, 1) := by decide +kernel
theorem dX3_weigh_19 : decode cX3_weigh 19 = .ok (.getfield 120, 3) := by decide +kernel
theorem dX3_weigh_22 : decode cX3_weigh 22 = .ok (.aload_n 0, 1) := by decide +kernel
theorem dX3_weigh_23 : decode cX3_weigh 23 = .ok (.getfield 18, 3) := by decide +kernel
theorem dX3_weigh_26 : decode cX3_weigh 26 = .ok (.aload_n 0, 1) := by decide +kernel
theorem dX3_weigh_27 : decode cX3_weigh 27 = .ok (.getfield 108, 3) := by decide +kernel
theorem dX3_weigh_30 : decode cX3_weigh 30 = .ok (.iaload, 1) := by decide +kernel
theorem dX3_weigh_31 : decode cX3_weigh 31 = .ok (.if_icmp .le 5, 3) := by decide +kernel
theorem dX3_weigh_34 : decode cX3_weigh 34 = .ok (.iconst 0, 1) := by decide +kernel
theorem dX3_weigh_35 : decode cX3_weigh 35 = .ok (.ireturn, 1) := by decide +kernel
theorem dX3_weigh_36 : decode cX3_weigh 36 = .ok (.aload_n 0, 1) := by decide +kernel
theorem dX3_weigh_37 : decode cX3_weigh 37 = .ok (.getfield 18, 3) := by decide +kernel
theorem dX3_weigh_40 : decode cX3_weigh 40 = .ok (.aload_n 0, 1) := by decide +kernel
theorem dX3_weigh_41 : decode cX3_weigh 41 = .ok (.getfield 108, 3) := by decide +kernel
theorem dX3_weigh_44 : decode cX3_weigh 44 = .ok (.dup2, 1) := by decide +kernel
theorem dX3_weigh_45 : decode cX3_weigh 45 = .ok (.iaload, 1) := by decide +kernel
theorem dX3_weigh_46 : decode cX3_weigh 46 = .ok (.aload_n 0, 1) := by decide +kernel
theorem dX3_weigh_47 : decode cX3_weigh 47 = .ok (.getfield 120, 3) := by decide +kernel
theorem dX3_weigh_50 : decode cX3_weigh 50 = .ok (.isub, 1) := by decide +kernel
theorem dX3_weigh_51 : decode cX3_weigh 51 = .ok (.iastore, 1) := by decide +kernel
theorem dX3_weigh_52 : decode cX3_weigh 52 = .ok (.iconst 1, 1) := by decide +kernel
theorem dX3_weigh_53 : decode cX3_weigh 53 = .ok (.ireturn, 1) := by decide +kernel
def wp_X3_weigh  (σ : St) (Q : Int32 → St → Prop) : Prop :=
  wp_X3_isFree σ (σ 13 13) (fun y2 σ1 =>
  if y2 = 0 then
  (Q 0 σ1)
  else (if (σ1 13 17) < 0 then
  (Q 0 σ1)
  else (vp_in (σ1 13 13) 60 ∧
  (if (σ1 16 (ix (σ1 13 13))) < (σ1 13 17) then
  (Q 0 σ1)
  else (vp_in (σ1 13 13) 60 ∧
  (vp_in (σ1 13 13) 60 ∧
  nmS (up2 σ1 16 (ix (σ1 13 13)) ((σ1 16 (ix (σ1 13 13))) - (σ1 13 17))) (fun σ3 =>
  Q 1 σ3)))))))
theorem c_X3_weigh  {σ : St} {Q : Int32 → St → Prop} (h : wp_X3_weigh σ Q) : ctI l yX3_weigh cX3_weigh 1 (some .boolean) rm_X3_weigh D (wC cI cZ cH a n) (tyW cI cZ cH) [.ref (a 13)] σ (fun r9 u9 => isB r9 ∧ Q r9 u9) := by
  refine mk_I (wC_ok cI cZ cH a n) (by decide +kernel) (Nat.le_of_ble_eq_true rfl) (fun p e s m args below meth c A X hr9 hlk9 => ?_)
  refine r_pick (lv' := [(0, .ref (a 13))]) [0] rfl ?_
  delta wp_X3_weigh at h
  refine r_aload_n X 0 1 dX3_weigh_0 rfl rfl rfl ?_
  refine r_aload_n X 0 2 dX3_weigh_1 rfl rfl rfl ?_
  refine g_X3_108 X 5 dX3_weigh_2 rfl ?_
  refine r_callI (As := [.int (σ 13 13)]) (rest := []) X 8 (c_X3_isFree h) ml_X3_230 lk_X3_isFree wC_at_13 rfl rfl rfl (Nat.le_of_ble_eq_true rfl) ⟨rfl, rfl, ⟨Nat.le_of_ble_eq_true rfl, Nat.le_of_ble_eq_true rfl⟩, Nat.le_of_ble_eq_true rfl, Nat.le_of_ble_eq_true rfl⟩ dX3_weigh_5 rfl (fun y2 σ1 h => ?_)
  obtain ⟨hb_y2, h⟩ := h
  refine r_if_eq X 34 11 h dX3_weigh_8 rfl rfl (fun h => ?_) (fun h => ?_)
  · refine r_iconst (v := 0) X 35 dX3_weigh_34 (by decide) rfl ?_
    exact r_zret X hr9 hlk9 isB_0 h dX3_weigh_35
  · refine r_aload_n X 0 12 dX3_weigh_11 rfl rfl rfl ?_
    refine g_X3_120 X 15 dX3_weigh_12 rfl ?_
    refine r_if_lt X 34 18 h dX3_weigh_15 rfl rfl (fun h => ?_) (fun h => ?_)
    · refine r_iconst (v := 0) X 35 dX3_weigh_34 (by decide) rfl ?_
      exact r_zret X hr9 hlk9 isB_0 h dX3_weigh_35
    · refine r_aload_n X 0 19 dX3_weigh_18 rfl rfl rfl ?_
      refine g_X3_120 X 22 dX3_weigh_19 rfl ?_
      refine r_aload_n X 0 23 dX3_weigh_22 rfl rfl rfl ?_
      refine g_X3_18 X 26 dX3_weigh_23 rfl ?_
      refine r_aload_n X 0 27 dX3_weigh_26 rfl rfl rfl ?_
      refine g_X3_108 X 30 dX3_weigh_27 rfl ?_
      obtain ⟨hin, h⟩ := h
      refine l_C16 X 31 hin dX3_weigh_30 rfl ?_
      refine r_icmp_le X 36 34 h dX3_weigh_31 rfl rfl (fun h => ?_) (fun h => ?_)
      · refine r_aload_n X 0 37 dX3_weigh_36 rfl rfl rfl ?_
        refine g_X3_18 X 40 dX3_weigh_37 rfl ?_
        refine r_aload_n X 0 41 dX3_weigh_40 rfl rfl rfl ?_
        refine g_X3_108 X 44 dX3_weigh_41 rfl ?_
        refine r_dup2 X 45 dX3_weigh_44 rfl rfl rfl ?_
        obtain ⟨hin, h⟩ := h
        refine l_C16 X 46 hin dX3_weigh_45 rfl ?_
        refine r_aload_n X 0 47 dX3_weigh_46 rfl rfl rfl ?_
        refine g_X3_120 X 50 dX3_weigh_47 rfl ?_
        refine r_isub X 51 dX3_weigh_50 rfl ?_
        obtain ⟨hin, h⟩ := h
        refine s_C16 X 52 hin dX3_weigh_51 rfl ?_
        refine r_nmS h (fun σ3 h => ?_)
        refine r_iconst (v := 1) X 53 dX3_weigh_52 (by decide) rfl ?_
        exact r_zret X hr9 hlk9 isB_1 h dX3_weigh_53
      · refine r_iconst (v := 0) X 35 dX3_weigh_34 (by decide) rfl ?_
        exact r_zret X hr9 hlk9 isB_0 h dX3_weigh_35
def rm_X3_keep : Room := { frames := 1, cells := 0, slots := 0, locals := 21 }
theorem dX3_keep_0 : decode cX3_keep 0 = .ok (.aload_n 0, 1) := by decide +kernel
theorem dX3_keep_1 : decode cX3_keep 1 = .ok (.aload_n 0, 1) := by decide +kernel
theorem dX3_keep_2 : decode cX3_keep 2 = .ok (.getfield 117, 3) := by decide +kernel
theorem dX3_keep_5 : decode cX3_keep 5 = .ok (.invokevirtual 205, 3) := by decide +kernel
theorem dX3_keep_8 : decode cX3_keep 8 = .ok (.ifCond .ne 5, 3) := by decide +kernel
theorem dX3_keep_11 : decode cX3_keep 11 = .ok (.iconst 0, 1) := by decide +kernel
theorem dX3_keep_12 : decode cX3_keep 12 = .ok (.ireturn, 1) := by decide +kernel
theorem dX3_keep_13 : decode cX3_keep 13 = .ok (.aload_n 0, 1) := by decide +kernel
theorem dX3_keep_14 : decode cX3_keep 14 = .ok (.getfield 27, 3) := by decide +kernel
theorem dX3_keep_17 : decode cX3_keep 17 = .ok (.aload_n 0, 1) := by decide +kernel
theorem dX3_keep_18 : decode cX3_keep 18 = .ok (.getfield 108, 3) := by decide +kernel
theorem dX3_keep_21 : decode cX3_keep 21 = .ok (.aload_n 0, 1) := by decide +kernel
theorem dX3_keep_22 : decode cX3_keep 22 = .ok (.getfield 117, 3) := by decide +kernel
theorem dX3_keep_25 : decode cX3_keep 25 = .ok (.iastore, 1) := by decide +kernel
theorem dX3_keep_26 : decode cX3_keep 26 = .ok (.iconst 1, 1) := by decide +kernel
theorem dX3_keep_27 : decode cX3_keep 27 = .ok (.ireturn, 1) := by decide +kernel
def wp_X3_keep  (σ : St) (Q : Int32 → St → Prop) : Prop :=
  wp_X3_isDay σ (σ 13 16) (fun y2 σ1 =>
  if y2 = 0 then
  (Q 0 σ1)
  else (vp_in (σ1 13 13) 60 ∧
  nmS (up2 σ1 19 (ix (σ1 13 13)) (σ1 13 16)) (fun σ3 =>
  Q 1 σ3)))
theorem c_X3_keep  {σ : St} {Q : Int32 → St → Prop} (h : wp_X3_keep σ Q) : ctI l yX3_keep cX3_keep 1 (some .boolean) rm_X3_keep D (wC cI cZ cH a n) (tyW cI cZ cH) [.ref (a 13)] σ (fun r9 u9 => isB r9 ∧ Q r9 u9) := by
  refine mk_I (wC_ok cI cZ cH a n) (by decide +kernel) (Nat.le_of_ble_eq_true rfl) (fun p e s m args below meth c A X hr9 hlk9 => ?_)
  refine r_pick (lv' := [(0, .ref (a 13))]) [0] rfl ?_
  delta wp_X3_keep at h
  refine r_aload_n X 0 1 dX3_keep_0 rfl rfl rfl ?_
  refine r_aload_n X 0 2 dX3_keep_1 rfl rfl rfl ?_
  refine g_X3_117 X 5 dX3_keep_2 rfl ?_
  refine r_callI (As := [.int (σ 13 16)]) (rest := []) X 8 (c_X3_isDay h) ml_X3_205 lk_X3_isDay wC_at_13 rfl rfl rfl (Nat.le_of_ble_eq_true rfl) ⟨rfl, rfl, ⟨Nat.le_of_ble_eq_true rfl, Nat.le_of_ble_eq_true rfl⟩, Nat.le_of_ble_eq_true rfl, Nat.le_of_ble_eq_true rfl⟩ dX3_keep_5 rfl (fun y2 σ1 h => ?_)
  obtain ⟨hb_y2, h⟩ := h
  refine r_if_ne X 13 11 h dX3_keep_8 rfl rfl (fun h => ?_) (fun h => ?_)
  · refine r_aload_n X 0 14 dX3_keep_13 rfl rfl rfl ?_
    refine g_X3_27 X 17 dX3_keep_14 rfl ?_
    refine r_aload_n X 0 18 dX3_keep_17 rfl rfl rfl ?_
    refine g_X3_108 X 21 dX3_keep_18 rfl ?_
    refine r_aload_n X 0 22 dX3_keep_21 rfl rfl rfl ?_
    refine g_X3_117 X 25 dX3_keep_22 rfl ?_
    obtain ⟨hin, h⟩ := h
    refine s_C19 X 26 hin dX3_keep_25 rfl ?_
    refine r_nmS h (fun σ3 h => ?_)
    refine r_iconst (v := 1) X 27 dX3_keep_26 (by decide) rfl ?_
    exact r_zret X hr9 hlk9 isB_1 h dX3_keep_27
  · refine r_iconst (v := 0) X 12 dX3_keep_11 (by decide) rfl ?_
    exact r_zret X hr9 hlk9 isB_0 h dX3_keep_12
def rm_X3_doom : Room := { frames := 0, cells := 0, slots := 0, locals := 0 }
theorem dX3_doom_0 : decode cX3_doom 0 = .ok (.aload_n 0, 1) := by decide +kernel
theorem dX3_doom_1 : decode cX3_doom 1 = .ok (.getfield 30, 3) := by decide +kernel
theorem dX3_doom_4 : decode cX3_doom 4 = .ok (.aload_n 0, 1) := by decide +kernel
theorem dX3_doom_5 : decode cX3_doom 5 = .ok (.getfield 108, 3) := by decide +kernel
theorem dX3_doom_8 : decode cX3_doom 8 = .ok (.iconst 1, 1) := by decide +kernel
theorem dX3_doom_9 : decode cX3_doom 9 = .ok (.iastore, 1) := by decide +kernel
theorem dX3_doom_10 : decode cX3_doom 10 = .ok (.iconst 1, 1) := by decide +kernel
theorem dX3_doom_11 : decode cX3_doom 11 = .ok (.ireturn, 1) := by decide +kernel
def wp_X3_doom  (σ : St) (Q : Int32 → St → Prop) : Prop :=
  vp_in (σ 13 13) 60 ∧
  nmS (up2 σ 20 (ix (σ 13 13)) 1) (fun σ1 =>
  Q 1 σ1)
theorem c_X3_doom  {σ : St} {Q : Int32 → St → Prop} (h : wp_X3_doom σ Q) : ctI l yX3_doom cX3_doom 1 (some .boolean) rm_X3_doom D (wC cI cZ cH a n) (tyW cI cZ cH) [.ref (a 13)] σ (fun r9 u9 => isB r9 ∧ Q r9 u9) := by
  refine mk_I (wC_ok cI cZ cH a n) (by decide +kernel) (Nat.le_of_ble_eq_true rfl) (fun p e s m args below meth c A X hr9 hlk9 => ?_)
  refine r_pick (lv' := [(0, .ref (a 13))]) [0] rfl ?_
  delta wp_X3_doom at h
  refine r_aload_n X 0 1 dX3_doom_0 rfl rfl rfl ?_
  refine g_X3_30 X 4 dX3_doom_1 rfl ?_
  refine r_aload_n X 0 5 dX3_doom_4 rfl rfl rfl ?_
  refine g_X3_108 X 8 dX3_doom_5 rfl ?_
  refine r_iconst (v := 1) X 9 dX3_doom_8 (by decide) rfl ?_
  obtain ⟨hin, h⟩ := h
  refine s_C20 X 10 hin dX3_doom_9 rfl ?_
  refine r_nmS h (fun σ1 h => ?_)
  refine r_iconst (v := 1) X 11 dX3_doom_10 (by decide) rfl ?_
  exact r_zret X hr9 hlk9 isB_1 h dX3_doom_11
def rm_X3_goesOn : Room := { frames := 0, cells := 0, slots := 0, locals := 0 }
theorem dX3_goesOn_0 : decode cX3_goesOn 0 = .ok (.aload_n 0, 1) := by decide +kernel
theorem dX3_goesOn_1 : decode cX3_goesOn 1 = .ok (.getfield 33, 3) := by decide +kernel
theorem dX3_goesOn_4 : decode cX3_goesOn 4 = .ok (.aload_n 0, 1) := by decide +kernel
theorem dX3_goesOn_5 : decode cX3_goesOn 5 = .ok (.getfield 108, 3) := by decide +kernel
theorem dX3_goesOn_8 : decode cX3_goesOn 8 = .ok (.iaload, 1) := by decide +kernel
theorem dX3_goesOn_9 : decode cX3_goesOn 9 = .ok (.iconst 1, 1) := by decide +kernel
theorem dX3_goesOn_10 : decode cX3_goesOn 10 = .ok (.aload_n 0, 1) := by decide +kernel
theorem dX3_goesOn_11 : decode cX3_goesOn 11 = .ok (.getfield 117, 3) := by decide +kernel
theorem dX3_goesOn_14 : decode cX3_goesOn 14 = .ok (.ishl, 1) := by decide +kernel
theorem dX3_goesOn_15 : decode cX3_goesOn 15 = .ok (.iand, 1) := by decide +kernel
theorem dX3_goesOn_16 : decode cX3_goesOn 16 = .ok (.ifCond .eq 7, 3) := by decide +kernel
theorem dX3_goesOn_19 : decode cX3_goesOn 19 = .ok (.iconst 1, 1) := by decide +kernel
theorem dX3_goesOn_20 : decode cX3_goesOn 20 = .ok (.goto 4, 3) := by decide +kernel
theorem dX3_goesOn_23 : decode cX3_goesOn 23 = .ok (.iconst 0, 1) := by decide +kernel
theorem dX3_goesOn_24 : decode cX3_goesOn 24 = .ok (.ireturn, 1) := by decide +kernel
def wp_X3_goesOn  (σ : St) (Q : Int32 → St → Prop) : Prop :=
  vp_in (σ 13 13) 60 ∧
  (if ((σ 21 (ix (σ 13 13))) &&& ((1 : Int32) <<< ((σ 13 16) &&& 31))) = 0 then
  (Q 0 σ)
  else (Q 1 σ))
theorem c_X3_goesOn  {σ : St} {Q : Int32 → St → Prop} (h : wp_X3_goesOn σ Q) : ctI l yX3_goesOn cX3_goesOn 1 (some .boolean) rm_X3_goesOn D (wC cI cZ cH a n) (tyW cI cZ cH) [.ref (a 13)] σ (fun r9 u9 => isB r9 ∧ Q r9 u9) := by
  refine mk_I (wC_ok cI cZ cH a n) (by decide +kernel) (Nat.le_of_ble_eq_true rfl) (fun p e s m args below meth c A X hr9 hlk9 => ?_)
  refine r_pick (lv' := [(0, .ref (a 13))]) [0] rfl ?_
  delta wp_X3_goesOn at h
  refine r_aload_n X 0 1 dX3_goesOn_0 rfl rfl rfl ?_
  refine g_X3_33 X 4 dX3_goesOn_1 rfl ?_
  refine r_aload_n X 0 5 dX3_goesOn_4 rfl rfl rfl ?_
  refine g_X3_108 X 8 dX3_goesOn_5 rfl ?_
  obtain ⟨hin, h⟩ := h
  refine l_C21 X 9 hin dX3_goesOn_8 rfl ?_
  refine r_iconst (v := 1) X 10 dX3_goesOn_9 (by decide) rfl ?_
  refine r_aload_n X 0 11 dX3_goesOn_10 rfl rfl rfl ?_
  refine g_X3_117 X 14 dX3_goesOn_11 rfl ?_
  refine r_ishl X 15 dX3_goesOn_14 rfl ?_
  refine r_iand X 16 dX3_goesOn_15 rfl ?_
  refine r_if_eq X 23 19 h dX3_goesOn_16 rfl rfl (fun h => ?_) (fun h => ?_)
  · refine r_iconst (v := 0) X 24 dX3_goesOn_23 (by decide) rfl ?_
    exact r_zret X hr9 hlk9 isB_0 h dX3_goesOn_24
  · refine r_iconst (v := 1) X 20 dX3_goesOn_19 (by decide) rfl ?_
    refine r_goto X 24 dX3_goesOn_20 rfl ?_
    exact r_zret X hr9 hlk9 isB_1 h dX3_goesOn_24
def rm_X3_beginTrial : Room := { frames := 1, cells := 0, slots := 0, locals := 20 }
theorem dX3_beginTrial_0 : decode cX3_beginTrial 0 = .ok (.aload_n 0, 1) := by decide +kernel
theorem dX3_beginTrial_1 : decode cX3_beginTrial 1 = .ok (.getfield 117, 3) := by decide +kernel
theorem dX3_beginTrial_4 : decode cX3_beginTrial 4 = .ok (.ifCond .lt 19, 3) := by decide +kernel
theorem dX3_beginTrial_7 : decode cX3_beginTrial 7 = .ok (.aload_n 0, 1) := by decide +kernel
theorem dX3_beginTrial_8 : decode cX3_beginTrial 8 = .ok (.getfield 117, 3) := by decide +kernel
theorem dX3_beginTrial_11 : decode cX3_beginTrial 11 = .ok (.bipush 30, 2) := by decide +kernel
theorem dX3_beginTrial_13 : decode cX3_beginTrial 13 = .ok (.if_icmp .gt 10, 3) := by decide +kernel
theorem dX3_beginTrial_16 : decode cX3_beginTrial 16 = .ok (.aload_n 0, 1) := by decide +kernel
theorem dX3_beginTrial_17 : decode cX3_beginTrial 17 = .ok (.invokevirtual 233, 3) := by decide +kernel
theorem dX3_beginTrial_20 : decode cX3_beginTrial 20 = .ok (.ifCond .eq 5, 3) := by decide +kernel
theorem dX3_beginTrial_23 : decode cX3_beginTrial 23 = .ok (.iconst 0, 1) := by decide +kernel
theorem dX3_beginTrial_24 : decode cX3_beginTrial 24 = .ok (.ireturn, 1) := by decide +kernel
theorem dX3_beginTrial_25 : decode cX3_beginTrial 25 = .ok (.aload_n 0, 1) := by decide +kernel
theorem dX3_beginTrial_26 : decode cX3_beginTrial 26 = .ok (.getfield 33, 3) := by decide +kernel
theorem dX3_beginTrial_29 : decode cX3_beginTrial 29 = .ok (.aload_n 0, 1) := by decide +kernel
theorem dX3_beginTrial_30 : decode cX3_beginTrial 30 = .ok (.getfield 108, 3) := by decide +kernel
theorem dX3_beginTrial_33 : decode cX3_beginTrial 33 = .ok (.dup2, 1) := by decide +kernel
theorem dX3_beginTrial_34 : decode cX3_beginTrial 34 = .ok (.iaload, 1) := by decide +kernel
theorem dX3_beginTrial_35 : decode cX3_beginTrial 35 = .ok (.iconst 1, 1) := by decide +kernel
theorem dX3_beginTrial_36 : decode cX3_beginTrial 36 = .ok (.aload_n 0, 1) := by decide +kernel
theorem dX3_beginTrial_37 : decode cX3_beginTrial 37 = .ok (.getfield 117, 3) := by decide +kernel
theorem dX3_beginTrial_40 : decode cX3_beginTrial 40 = .ok (.ishl, 1) := by decide +kernel
theorem dX3_beginTrial_41 : decode cX3_beginTrial 41 = .ok (.ior, 1) := by decide +kernel
theorem dX3_beginTrial_42 : decode cX3_beginTrial 42 = .ok (.iastore, 1) := by decide +kernel
theorem dX3_beginTrial_43 : decode cX3_beginTrial 43 = .ok (.iconst 1, 1) := by decide +kernel
theorem dX3_beginTrial_44 : decode cX3_beginTrial 44 = .ok (.ireturn, 1) := by decide +kernel
def wp_X3_beginTrial  (σ : St) (Q : Int32 → St → Prop) : Prop :=
  if (σ 13 16) < 0 then
  (Q 0 σ)
  else (if 30 < (σ 13 16) then
  (Q 0 σ)
  else (wp_X3_goesOn σ (fun y2 σ1 =>
  if y2 = 0 then
  (vp_in (σ1 13 13) 60 ∧
  (vp_in (σ1 13 13) 60 ∧
  nmS (up2 σ1 21 (ix (σ1 13 13)) ((σ1 21 (ix (σ1 13 13))) ||| ((1 : Int32) <<< ((σ1 13 16) &&& 31)))) (fun σ3 =>
  Q 1 σ3)))
  else (Q 0 σ1))))
theorem c_X3_beginTrial  {σ : St} {Q : Int32 → St → Prop} (h : wp_X3_beginTrial σ Q) : ctI l yX3_beginTrial cX3_beginTrial 1 (some .boolean) rm_X3_beginTrial D (wC cI cZ cH a n) (tyW cI cZ cH) [.ref (a 13)] σ (fun r9 u9 => isB r9 ∧ Q r9 u9) := by
  refine mk_I (wC_ok cI cZ cH a n) (by decide +kernel) (Nat.le_of_ble_eq_true rfl) (fun p e s m args below meth c A X hr9 hlk9 => ?_)
  refine r_pick (lv' := [(0, .ref (a 13))]) [0] rfl ?_
  delta wp_X3_beginTrial at h
  refine r_aload_n X 0 1 dX3_beginTrial_0 rfl rfl rfl ?_
  refine g_X3_117 X 4 dX3_beginTrial_1 rfl ?_
  refine r_if_lt X 23 7 h dX3_beginTrial_4 rfl rfl (fun h => ?_) (fun h => ?_)
  · refine r_iconst (v := 0) X 24 dX3_beginTrial_23 (by decide) rfl ?_
    exact r_zret X hr9 hlk9 isB_0 h dX3_beginTrial_24
  · refine r_aload_n X 0 8 dX3_beginTrial_7 rfl rfl rfl ?_
    refine g_X3_117 X 11 dX3_beginTrial_8 rfl ?_
    refine r_bipush (v := 30) X 13 dX3_beginTrial_11 (by decide) rfl ?_
    refine r_icmp_gt X 23 16 h dX3_beginTrial_13 rfl rfl (fun h => ?_) (fun h => ?_)
    · refine r_iconst (v := 0) X 24 dX3_beginTrial_23 (by decide) rfl ?_
      exact r_zret X hr9 hlk9 isB_0 h dX3_beginTrial_24
    · refine r_aload_n X 0 17 dX3_beginTrial_16 rfl rfl rfl ?_
      refine r_callI (As := []) (rest := []) X 20 (c_X3_goesOn h) ml_X3_233 lk_X3_goesOn wC_at_13 rfl rfl rfl (Nat.le_of_ble_eq_true rfl) ⟨rfl, rfl, ⟨Nat.le_of_ble_eq_true rfl, Nat.le_of_ble_eq_true rfl⟩, Nat.le_of_ble_eq_true rfl, Nat.le_of_ble_eq_true rfl⟩ dX3_beginTrial_17 rfl (fun y2 σ1 h => ?_)
      obtain ⟨hb_y2, h⟩ := h
      refine r_if_eq X 25 23 h dX3_beginTrial_20 rfl rfl (fun h => ?_) (fun h => ?_)
      · refine r_aload_n X 0 26 dX3_beginTrial_25 rfl rfl rfl ?_
        refine g_X3_33 X 29 dX3_beginTrial_26 rfl ?_
        refine r_aload_n X 0 30 dX3_beginTrial_29 rfl rfl rfl ?_
        refine g_X3_108 X 33 dX3_beginTrial_30 rfl ?_
        refine r_dup2 X 34 dX3_beginTrial_33 rfl rfl rfl ?_
        obtain ⟨hin, h⟩ := h
        refine l_C21 X 35 hin dX3_beginTrial_34 rfl ?_
        refine r_iconst (v := 1) X 36 dX3_beginTrial_35 (by decide) rfl ?_
        refine r_aload_n X 0 37 dX3_beginTrial_36 rfl rfl rfl ?_
        refine g_X3_117 X 40 dX3_beginTrial_37 rfl ?_
        refine r_ishl X 41 dX3_beginTrial_40 rfl ?_
        refine r_ior X 42 dX3_beginTrial_41 rfl ?_
        obtain ⟨hin, h⟩ := h
        refine s_C21 X 43 hin dX3_beginTrial_42 rfl ?_
        refine r_nmS h (fun σ3 h => ?_)
        refine r_iconst (v := 1) X 44 dX3_beginTrial_43 (by decide) rfl ?_
        exact r_zret X hr9 hlk9 isB_1 h dX3_beginTrial_44
      · refine r_iconst (v := 0) X 24 dX3_beginTrial_23 (by decide) rfl ?_
        exact r_zret X hr9 hlk9 isB_0 h dX3_beginTrial_24
def rm_X3_endTrial : Room := { frames := 1, cells := 0, slots := 0, locals := 20 }
theorem dX3_endTrial_0 : decode cX3_endTrial 0 = .ok (.aload_n 0, 1) := by decide +kernel
theorem dX3_endTrial_1 : decode cX3_endTrial 1 = .ok (.getfield 117, 3) := by decide +kernel
theorem dX3_endTrial_4 : decode cX3_endTrial 4 = .ok (.ifCond .lt 19, 3) := by decide +kernel
theorem dX3_endTrial_7 : decode cX3_endTrial 7 = .ok (.aload_n 0, 1) := by decide +kernel
theorem dX3_endTrial_8 : decode cX3_endTrial 8 = .ok (.getfield 117, 3) := by decide +kernel
theorem dX3_endTrial_11 : decode cX3_endTrial 11 = .ok (.bipush 30, 2) := by decide +kernel
theorem dX3_endTrial_13 : decode cX3_endTrial 13 = .ok (.if_icmp .gt 10, 3) := by decide +kernel
theorem dX3_endTrial_16 : decode cX3_endTrial 16 = .ok (.aload_n 0, 1) := by decide +kernel
theorem dX3_endTrial_17 : decode cX3_endTrial 17 = .ok (.invokevirtual 233, 3) := by decide +kernel
theorem dX3_endTrial_20 : decode cX3_endTrial 20 = .ok (.ifCond .ne 5, 3) := by decide +kernel
theorem dX3_endTrial_23 : decode cX3_endTrial 23 = .ok (.iconst 0, 1) := by decide +kernel
theorem dX3_endTrial_24 : decode cX3_endTrial 24 = .ok (.ireturn, 1) := by decide +kernel
theorem dX3_endTrial_25 : decode cX3_endTrial 25 = .ok (.aload_n 0, 1) := by decide +kernel
theorem dX3_endTrial_26 : decode cX3_endTrial 26 = .ok (.getfield 33, 3) := by decide +kernel
theorem dX3_endTrial_29 : decode cX3_endTrial 29 = .ok (.aload_n 0, 1) := by decide +kernel
theorem dX3_endTrial_30 : decode cX3_endTrial 30 = .ok (.getfield 108, 3) := by decide +kernel
theorem dX3_endTrial_33 : decode cX3_endTrial 33 = .ok (.dup2, 1) := by decide +kernel
theorem dX3_endTrial_34 : decode cX3_endTrial 34 = .ok (.iaload, 1) := by decide +kernel
theorem dX3_endTrial_35 : decode cX3_endTrial 35 = .ok (.iconst 1, 1) := by decide +kernel
theorem dX3_endTrial_36 : decode cX3_endTrial 36 = .ok (.aload_n 0, 1) := by decide +kernel
theorem dX3_endTrial_37 : decode cX3_endTrial 37 = .ok (.getfield 117, 3) := by decide +kernel
theorem dX3_endTrial_40 : decode cX3_endTrial 40 = .ok (.ishl, 1) := by decide +kernel
theorem dX3_endTrial_41 : decode cX3_endTrial 41 = .ok (.iconst (-1), 1) := by decide +kernel
theorem dX3_endTrial_42 : decode cX3_endTrial 42 = .ok (.ixor, 1) := by decide +kernel
theorem dX3_endTrial_43 : decode cX3_endTrial 43 = .ok (.iand, 1) := by decide +kernel
theorem dX3_endTrial_44 : decode cX3_endTrial 44 = .ok (.iastore, 1) := by decide +kernel
theorem dX3_endTrial_45 : decode cX3_endTrial 45 = .ok (.iconst 1, 1) := by decide +kernel
theorem dX3_endTrial_46 : decode cX3_endTrial 46 = .ok (.ireturn, 1) := by decide +kernel
def wp_X3_endTrial  (σ : St) (Q : Int32 → St → Prop) : Prop :=
  if (σ 13 16) < 0 then
  (Q 0 σ)
  else (if 30 < (σ 13 16) then
  (Q 0 σ)
  else (wp_X3_goesOn σ (fun y2 σ1 =>
  if y2 = 0 then
  (Q 0 σ1)
  else (vp_in (σ1 13 13) 60 ∧
  (vp_in (σ1 13 13) 60 ∧
  nmS (up2 σ1 21 (ix (σ1 13 13)) ((σ1 21 (ix (σ1 13 13))) &&& (((1 : Int32) <<< ((σ1 13 16) &&& 31)) ^^^ (-1)))) (fun σ3 =>
  Q 1 σ3))))))
theorem c_X3_endTrial  {σ : St} {Q : Int32 → St → Prop} (h : wp_X3_endTrial σ Q) : ctI l yX3_endTrial cX3_endTrial 1 (some .boolean) rm_X3_endTrial D (wC cI cZ cH a n) (tyW cI cZ cH) [.ref (a 13)] σ (fun r9 u9 => isB r9 ∧ Q r9 u9) := by
  refine mk_I (wC_ok cI cZ cH a n) (by decide +kernel) (Nat.le_of_ble_eq_true rfl) (fun p e s m args below meth c A X hr9 hlk9 => ?_)
  refine r_pick (lv' := [(0, .ref (a 13))]) [0] rfl ?_
  delta wp_X3_endTrial at h
  refine r_aload_n X 0 1 dX3_endTrial_0 rfl rfl rfl ?_
  refine g_X3_117 X 4 dX3_endTrial_1 rfl ?_
  refine r_if_lt X 23 7 h dX3_endTrial_4 rfl rfl (fun h => ?_) (fun h => ?_)
  · refine r_iconst (v := 0) X 24 dX3_endTrial_23 (by decide) rfl ?_
    exact r_zret X hr9 hlk9 isB_0 h dX3_endTrial_24
  · refine r_aload_n X 0 8 dX3_endTrial_7 rfl rfl rfl ?_
    refine g_X3_117 X 11 dX3_endTrial_8 rfl ?_
    refine r_bipush (v := 30) X 13 dX3_endTrial_11 (by decide) rfl ?_
    refine r_icmp_gt X 23 16 h dX3_endTrial_13 rfl rfl (fun h => ?_) (fun h => ?_)
    · refine r_iconst (v := 0) X 24 dX3_endTrial_23 (by decide) rfl ?_
      exact r_zret X hr9 hlk9 isB_0 h dX3_endTrial_24
    · refine r_aload_n X 0 17 dX3_endTrial_16 rfl rfl rfl ?_
      refine r_callI (As := []) (rest := []) X 20 (c_X3_goesOn h) ml_X3_233 lk_X3_goesOn wC_at_13 rfl rfl rfl (Nat.le_of_ble_eq_true rfl) ⟨rfl, rfl, ⟨Nat.le_of_ble_eq_true rfl, Nat.le_of_ble_eq_true rfl⟩, Nat.le_of_ble_eq_true rfl, Nat.le_of_ble_eq_true rfl⟩ dX3_endTrial_17 rfl (fun y2 σ1 h => ?_)
      obtain ⟨hb_y2, h⟩ := h
      refine r_if_ne X 25 23 h dX3_endTrial_20 rfl rfl (fun h => ?_) (fun h => ?_)
      · refine r_aload_n X 0 26 dX3_endTrial_25 rfl rfl rfl ?_
        refine g_X3_33 X 29 dX3_endTrial_26 rfl ?_
        refine r_aload_n X 0 30 dX3_endTrial_29 rfl rfl rfl ?_
        refine g_X3_108 X 33 dX3_endTrial_30 rfl ?_
        refine r_dup2 X 34 dX3_endTrial_33 rfl rfl rfl ?_
        obtain ⟨hin, h⟩ := h
        refine l_C21 X 35 hin dX3_endTrial_34 rfl ?_
        refine r_iconst (v := 1) X 36 dX3_endTrial_35 (by decide) rfl ?_
        refine r_aload_n X 0 37 dX3_endTrial_36 rfl rfl rfl ?_
        refine g_X3_117 X 40 dX3_endTrial_37 rfl ?_
        refine r_ishl X 41 dX3_endTrial_40 rfl ?_
        refine r_iconst (v := (-1)) X 42 dX3_endTrial_41 (by decide) rfl ?_
        refine r_ixor X 43 dX3_endTrial_42 rfl ?_
        refine r_iand X 44 dX3_endTrial_43 rfl ?_
        obtain ⟨hin, h⟩ := h
        refine s_C21 X 45 hin dX3_endTrial_44 rfl ?_
        refine r_nmS h (fun σ3 h => ?_)
        refine r_iconst (v := 1) X 46 dX3_endTrial_45 (by decide) rfl ?_
        exact r_zret X hr9 hlk9 isB_1 h dX3_endTrial_46
      · refine r_iconst (v := 0) X 24 dX3_endTrial_23 (by decide) rfl ?_
        exact r_zret X hr9 hlk9 isB_0 h dX3_endTrial_24
def rm_X3_isOf : Room := { frames := 1, cells := 0, slots := 0, locals := 21 }
theorem dX3_isOf_0 : decode cX3_isOf 0 = .ok (.aload_n 0, 1) := by decide +kernel
theorem dX3_isOf_1 : decode cX3_isOf 1 = .ok (.getfield 39, 3) := by decide +kernel
theorem dX3_isOf_4 : decode cX3_isOf 4 = .ok (.iload_n 1, 1) := by decide +kernel
theorem dX3_isOf_5 : decode cX3_isOf 5 = .ok (.iaload, 1) := by decide +kernel
theorem dX3_isOf_6 : decode cX3_isOf 6 = .ok (.istore_n 3, 1) := by decide +kernel
theorem dX3_isOf_7 : decode cX3_isOf 7 = .ok (.iconst 0, 1) := by decide +kernel
theorem dX3_isOf_8 : decode cX3_isOf 8 = .ok (.istore 4, 2) := by decide +kernel
theorem dX3_isOf_10 : decode cX3_isOf 10 = .ok (.iload 4, 2) := by decide +kernel
theorem dX3_isOf_12 : decode cX3_isOf 12 = .ok (.bipush 60, 2) := by decide +kernel
theorem dX3_isOf_14 : decode cX3_isOf 14 = .ok (.if_icmp .ge 34, 3) := by decide +kernel
theorem dX3_isOf_17 : decode cX3_isOf 17 = .ok (.aload_n 0, 1) := by decide +kernel
theorem dX3_isOf_18 : decode cX3_isOf 18 = .ok (.getfield 48, 3) := by decide +kernel
theorem dX3_isOf_21 : decode cX3_isOf 21 = .ok (.iload_n 3, 1) := by decide +kernel
theorem dX3_isOf_22 : decode cX3_isOf 22 = .ok (.invokevirtual 73, 3) := by decide +kernel
theorem dX3_isOf_25 : decode cX3_isOf 25 = .ok (.ifCond .eq 23, 3) := by decide +kernel
theorem dX3_isOf_28 : decode cX3_isOf 28 = .ok (.iload_n 3, 1) := by decide +kernel
theorem dX3_isOf_29 : decode cX3_isOf 29 = .ok (.iload_n 2, 1) := by decide +kernel
theorem dX3_isOf_30 : decode cX3_isOf 30 = .ok (.if_icmp .ne 5, 3) := by decide +kernel
theorem dX3_isOf_33 : decode cX3_isOf 33 = .ok (.iconst 1, 1) := by decide +kernel
theorem dX3_isOf_34 : decode cX3_isOf 34 = .ok (.ireturn, 1) := by decide +kernel
theorem dX3_isOf_35 : decode cX3_isOf 35 = .ok (.aload_n 0, 1) := by decide +kernel
theorem dX3_isOf_36 : decode cX3_isOf 36 = .ok (.getfield 39, 3) := by decide +kernel
theorem dX3_isOf_39 : decode cX3_isOf 39 = .ok (.iload_n 3, 1) := by decide +kernel
theorem dX3_isOf_40 : decode cX3_isOf 40 = .ok (.iaload, 1) := by decide +kernel
theorem dX3_isOf_41 : decode cX3_isOf 41 = .ok (.istore_n 3, 1) := by decide +kernel
theorem dX3_isOf_42 : decode cX3_isOf 42 = .ok (.iinc 4 1, 3) := by decide +kernel
theorem dX3_isOf_45 : decode cX3_isOf 45 = .ok (.goto (-35), 3) := by decide +kernel
theorem dX3_isOf_48 : decode cX3_isOf 48 = .ok (.iconst 0, 1) := by decide +kernel
theorem dX3_isOf_49 : decode cX3_isOf 49 = .ok (.ireturn, 1) := by decide +kernel
def b_X3_isOf_10  (Q : Int32 → St → Prop) (rec10 : Int32 → Int32 → Int32 → St → Prop) (v2 : Int32) (v3 : Int32) (v4 : Int32) (σ : St) : Prop :=
  if v4 < 60 then
  (wp_X4_isThing σ v3 (fun y3 σ2 =>
  if y3 = 0 then
  (Q 0 σ2)
  else (if v3 = v2 then
  (Q 1 σ2)
  else (vp_in v3 60 ∧
  (nm ((σ2 23 (ix v3))) (fun z4 =>
  rec10 v2 z4 (v4 + 1) σ2))))))
  else (Q 0 σ)
def lp_X3_isOf_10  (Q : Int32 → St → Prop) (n9 : Nat) : Int32 → Int32 → Int32 → St → Prop :=
  Nat.rec (fun _ _ _ _ => False) (fun _ rec9 => b_X3_isOf_10  Q  rec9) n9
theorem wk_X3_isOf_10 (X : cx p s m args c cX3_isOf 5 RX3 D (wC cI cZ cH a n) A (tyW cI cZ cH)) (hr9 : meth.sig.returnType = (some .boolean)) (hlk9 : meth.locks = false)  {Q : Int32 → St → Prop} : ∀ (n9 : Nat) {v2 : Int32} {v3 : Int32} {v4 : Int32} {σ : St}, lp_X3_isOf_10 Q n9 v2 v3 v4 σ → go p l e rm_X3_isOf s m args below meth c D (wC cI cZ cH a n) A 0 0 (MQ below (va_Qi (fun r9 u9 => isB r9 ∧ Q r9 u9) (atw D (wC cI cZ cH a n) (tyW cI cZ cH) A) A) args s 0 0 A) 5 10 [(0, .ref (a 13)), (2, .int v2), (3, .int v3), (4, .int v4)] [] σ := by
  intro n9
  induction n9 with
  | zero => intro v2 v3 v4 σ h; exact h.elim
  | succ n9 ih =>
    intro v2 v3 v4 σ h
    have hrec10 := fun v2 v3 v4 σ h => ih (σ := σ) (v2 := v2) (v3 := v3) (v4 := v4) h
    replace h : b_X3_isOf_10 Q (lp_X3_isOf_10 Q n9) v2 v3 v4 σ := h
    delta b_X3_isOf_10 at h
    refine r_iload X 3 12 dX3_isOf_10 rfl rfl ?_
    refine r_bipush (v := 60) X 14 dX3_isOf_12 (by decide) rfl ?_
    refine r_icmp_ge X 48 17 h dX3_isOf_14 rfl rfl (fun h => ?_) (fun h => ?_)
    · refine r_iconst (v := 0) X 49 dX3_isOf_48 (by decide) rfl ?_
      exact r_zret X hr9 hlk9 isB_0 h dX3_isOf_49
    · refine r_aload_n X 0 18 dX3_isOf_17 rfl rfl rfl ?_
      refine g_X3_48 X 21 dX3_isOf_18 rfl ?_
      refine r_iload_n X 2 22 dX3_isOf_21 rfl rfl rfl ?_
      refine r_callNI (As := [.int v3]) (rest := []) X 25 (c_X4_isThing h) ml_X3_73 lk_X4_isThing wC_at_1 rfl rfl rfl (Nat.le_of_ble_eq_true rfl) ⟨rfl, rfl, ⟨Nat.le_of_ble_eq_true rfl, Nat.le_of_ble_eq_true rfl⟩, Nat.le_of_ble_eq_true rfl, Nat.le_of_ble_eq_true rfl⟩ dX3_isOf_22 rfl (fun y3 σ2 h => ?_)
      obtain ⟨hb_y3, h⟩ := h
      refine r_if_eq X 48 28 h dX3_isOf_25 rfl rfl (fun h => ?_) (fun h => ?_)
      · refine r_iconst (v := 0) X 49 dX3_isOf_48 (by decide) rfl ?_
        exact r_zret X hr9 hlk9 isB_0 h dX3_isOf_49
      · refine r_iload_n X 2 29 dX3_isOf_28 rfl rfl rfl ?_
        refine r_iload_n X 1 30 dX3_isOf_29 rfl rfl rfl ?_
        refine r_icmp_ne X 35 33 h dX3_isOf_30 rfl rfl (fun h => ?_) (fun h => ?_)
        · refine r_aload_n X 0 36 dX3_isOf_35 rfl rfl rfl ?_
          refine g_X3_39 X 39 dX3_isOf_36 rfl ?_
          refine r_iload_n X 2 40 dX3_isOf_39 rfl rfl rfl ?_
          obtain ⟨hin, h⟩ := h
          refine l_C23 X 41 hin dX3_isOf_40 rfl ?_
          refine r_istore_nN X 42 (fun z4 => [(3, .int z4), (0, .ref (a 13)), (2, .int v2), (4, .int v4)]) h dX3_isOf_41 rfl (by decide) (fun _ => rfl) rfl (fun z4 h => ?_)
          refine r_iinc (d := 1) X 3 45 [(4, .int (v4 + 1)), (3, .int z4), (0, .ref (a 13)), (2, .int v2)] dX3_isOf_42 rfl (by decide) (by decide) rfl rfl ?_
          refine r_goto X 10 dX3_isOf_45 rfl ?_
          refine r_pick (lv' := [(0, .ref (a 13)), (2, .int v2), (3, .int z4), (4, .int (v4 + 1))]) [2, 3, 1, 0] rfl ?_
          exact hrec10 _ _ _ _ h
        · refine r_iconst (v := 1) X 34 dX3_isOf_33 (by decide) rfl ?_
          exact r_zret X hr9 hlk9 isB_1 h dX3_isOf_34
def wp_X3_isOf  (σ : St) (x1 : Int32) (x2 : Int32) (Q : Int32 → St → Prop) : Prop :=
  vp_in x1 60 ∧
  (nm ((σ 23 (ix x1))) (fun z1 =>
  ∃ n9 : Nat, lp_X3_isOf_10 Q n9 x2 z1 0 σ))
theorem c_X3_isOf  {σ : St} {x1 : Int32} {x2 : Int32} {Q : Int32 → St → Prop} (h : wp_X3_isOf σ x1 x2 Q) : ctI l yX3_isOf cX3_isOf 5 (some .boolean) rm_X3_isOf D (wC cI cZ cH a n) (tyW cI cZ cH) [.ref (a 13), .int x1, .int x2] σ (fun r9 u9 => isB r9 ∧ Q r9 u9) := by
  refine mk_I (wC_ok cI cZ cH a n) (by decide +kernel) (Nat.le_of_ble_eq_true rfl) (fun p e s m args below meth c A X hr9 hlk9 => ?_)
  refine r_pick (lv' := [(0, .ref (a 13)), (1, .int x1), (2, .int x2)]) [0, 1, 2] rfl ?_
  delta wp_X3_isOf at h
  refine r_aload_n X 0 1 dX3_isOf_0 rfl rfl rfl ?_
  refine g_X3_39 X 4 dX3_isOf_1 rfl ?_
  refine r_iload_n X 1 5 dX3_isOf_4 rfl rfl rfl ?_
  obtain ⟨hin, h⟩ := h
  refine l_C23 X 6 hin dX3_isOf_5 rfl ?_
  refine r_istore_nN X 7 (fun z1 => [(3, .int z1), (0, .ref (a 13)), (1, .int x1), (2, .int x2)]) h dX3_isOf_6 rfl (by decide) (fun _ => rfl) rfl (fun z1 h => ?_)
  refine r_iconst (v := 0) X 8 dX3_isOf_7 (by decide) rfl ?_
  refine r_istore X 10 [(4, .int 0), (3, .int z1), (0, .ref (a 13)), (1, .int x1), (2, .int x2)] dX3_isOf_8 (by decide) rfl rfl ?_
  refine r_pick (lv' := [(0, .ref (a 13)), (2, .int x2), (3, .int z1), (4, .int 0)]) [2, 4, 1, 0] rfl ?_
  obtain ⟨n9, h⟩ := h
  exact wk_X3_isOf_10 X hr9 hlk9 n9 h
def rm_X3_isAnyOfItInHand : Room := { frames := 2, cells := 0, slots := 0, locals := 45 }
theorem dX3_isAnyOfItInHand_0 : decode cX3_isAnyOfItInHand 0 = .ok (.iconst 0, 1) := by decide +kernel
theorem dX3_isAnyOfItInHand_1 : decode cX3_isAnyOfItInHand 1 = .ok (.istore_n 1, 1) := by decide +kernel
theorem dX3_isAnyOfItInHand_2 : decode cX3_isAnyOfItInHand 2 = .ok (.iload_n 1, 1) := by decide +kernel
theorem dX3_isAnyOfItInHand_3 : decode cX3_isAnyOfItInHand 3 = .ok (.aload_n 0, 1) := by decide +kernel
theorem dX3_isAnyOfItInHand_4 : decode cX3_isAnyOfItInHand 4 = .ok (.getfield 48, 3) := by decide +kernel
theorem dX3_isAnyOfItInHand_7 : decode cX3_isAnyOfItInHand 7 = .ok (.getfield 87, 3) := by decide +kernel
theorem dX3_isAnyOfItInHand_10 : decode cX3_isAnyOfItInHand 10 = .ok (.if_icmp .ge 33, 3) := by decide +kernel
theorem dX3_isAnyOfItInHand_13 : decode cX3_isAnyOfItInHand 13 = .ok (.aload_n 0, 1) := by decide +kernel
theorem dX3_isAnyOfItInHand_14 : decode cX3_isAnyOfItInHand 14 = .ok (.getfield 9, 3) := by decide +kernel
theorem dX3_isAnyOfItInHand_17 : decode cX3_isAnyOfItInHand 17 = .ok (.iload_n 1, 1) := by decide +kernel
theorem dX3_isAnyOfItInHand_18 : decode cX3_isAnyOfItInHand 18 = .ok (.iaload, 1) := by decide +kernel
theorem dX3_isAnyOfItInHand_19 : decode cX3_isAnyOfItInHand 19 = .ok (.iconst 2, 1) := by decide +kernel
theorem dX3_isAnyOfItInHand_20 : decode cX3_isAnyOfItInHand 20 = .ok (.if_icmp .ne 17, 3) := by decide +kernel
theorem dX3_isAnyOfItInHand_23 : decode cX3_isAnyOfItInHand 23 = .ok (.aload_n 0, 1) := by decide +kernel
theorem dX3_isAnyOfItInHand_24 : decode cX3_isAnyOfItInHand 24 = .ok (.iload_n 1, 1) := by decide +kernel
theorem dX3_isAnyOfItInHand_25 : decode cX3_isAnyOfItInHand 25 = .ok (.aload_n 0, 1) := by decide +kernel
theorem dX3_isAnyOfItInHand_26 : decode cX3_isAnyOfItInHand 26 = .ok (.getfield 108, 3) := by decide +kernel
theorem dX3_isAnyOfItInHand_29 : decode cX3_isAnyOfItInHand 29 = .ok (.invokevirtual 260, 3) := by decide +kernel
theorem dX3_isAnyOfItInHand_32 : decode cX3_isAnyOfItInHand 32 = .ok (.ifCond .eq 5, 3) := by decide +kernel
theorem dX3_isAnyOfItInHand_35 : decode cX3_isAnyOfItInHand 35 = .ok (.iconst 1, 1) := by decide +kernel
theorem dX3_isAnyOfItInHand_36 : decode cX3_isAnyOfItInHand 36 = .ok (.ireturn, 1) := by decide +kernel
theorem dX3_isAnyOfItInHand_37 : decode cX3_isAnyOfItInHand 37 = .ok (.iinc 1 1, 3) := by decide +kernel
theorem dX3_isAnyOfItInHand_40 : decode cX3_isAnyOfItInHand 40 = .ok (.goto (-38), 3) := by decide +kernel
theorem dX3_isAnyOfItInHand_43 : decode cX3_isAnyOfItInHand 43 = .ok (.iconst 0, 1) := by decide +kernel
theorem dX3_isAnyOfItInHand_44 : decode cX3_isAnyOfItInHand 44 = .ok (.ireturn, 1) := by decide +kernel
def j_X3_isAnyOfItInHand_37  (Q : Int32 → St → Prop) (rec2 : Int32 → St → Prop) (v1 : Int32) (σ : St) : Prop :=
  rec2 (v1 + 1) σ
theorem wk_X3_isAnyOfItInHand_37 (X : cx p s m args c cX3_isAnyOfItInHand 2 RX3 D (wC cI cZ cH a n) A (tyW cI cZ cH)) (hr9 : meth.sig.returnType = (some .boolean)) (hlk9 : meth.locks = false)  {Q : Int32 → St → Prop} {rec2 : Int32 → St → Prop} (hrec2 : ∀ (v1 : Int32) (σ : St), rec2 v1 σ → go p l e rm_X3_isAnyOfItInHand s m args below meth c D (wC cI cZ cH a n) A 0 0 (MQ below (va_Qi (fun r9 u9 => isB r9 ∧ Q r9 u9) (atw D (wC cI cZ cH a n) (tyW cI cZ cH) A) A) args s 0 0 A) 2 2 [(0, .ref (a 13)), (1, .int v1)] [] σ) {v1 : Int32} {σ : St} (h : j_X3_isAnyOfItInHand_37 Q rec2 v1 σ) : go p l e rm_X3_isAnyOfItInHand s m args below meth c D (wC cI cZ cH a n) A 0 0 (MQ below (va_Qi (fun r9 u9 => isB r9 ∧ Q r9 u9) (atw D (wC cI cZ cH a n) (tyW cI cZ cH) A) A) args s 0 0 A) 2 37 [(0, .ref (a 13)), (1, .int v1)] [] σ := by
  delta j_X3_isAnyOfItInHand_37 at h
  refine r_iinc (d := 1) X 1 40 [(1, .int (v1 + 1)), (0, .ref (a 13))] dX3_isAnyOfItInHand_37 rfl (by decide) (by decide) rfl rfl ?_
  refine r_goto X 2 dX3_isAnyOfItInHand_40 rfl ?_
  refine r_pick (lv' := [(0, .ref (a 13)), (1, .int (v1 + 1))]) [1, 0] rfl ?_
  exact hrec2 _ _ h
def b_X3_isAnyOfItInHand_2  (Q : Int32 → St → Prop) (rec2 : Int32 → St → Prop) (v1 : Int32) (σ : St) : Prop :=
  if v1 < (σ 1 7) then
  (vp_in v1 60 ∧
  (if (σ 14 (ix v1)) = 2 then
  (wp_X3_isOf σ v1 (σ 13 13) (fun y2 σ1 =>
  if y2 = 0 then
  (j_X3_isAnyOfItInHand_37 Q rec2 v1 σ1)
  else (Q 1 σ1)))
  else (j_X3_isAnyOfItInHand_37 Q rec2 v1 σ)))
  else (Q 0 σ)
def lp_X3_isAnyOfItInHand_2  (Q : Int32 → St → Prop) (n9 : Nat) : Int32 → St → Prop :=
  Nat.rec (fun _ _ => False) (fun _ rec9 => b_X3_isAnyOfItInHand_2  Q  rec9) n9
theorem wk_X3_isAnyOfItInHand_2 (X : cx p s m args c cX3_isAnyOfItInHand 2 RX3 D (wC cI cZ cH a n) A (tyW cI cZ cH)) (hr9 : meth.sig.returnType = (some .boolean)) (hlk9 : meth.locks = false)  {Q : Int32 → St → Prop} : ∀ (n9 : Nat) {v1 : Int32} {σ : St}, lp_X3_isAnyOfItInHand_2 Q n9 v1 σ → go p l e rm_X3_isAnyOfItInHand s m args below meth c D (wC cI cZ cH a n) A 0 0 (MQ below (va_Qi (fun r9 u9 => isB r9 ∧ Q r9 u9) (atw D (wC cI cZ cH a n) (tyW cI cZ cH) A) A) args s 0 0 A) 2 2 [(0, .ref (a 13)), (1, .int v1)] [] σ := by
  intro n9
  induction n9 with
  | zero => intro v1 σ h; exact h.elim
  | succ n9 ih =>
    intro v1 σ h
    have hrec2 := fun v1 σ h => ih (σ := σ) (v1 := v1) h
    replace h : b_X3_isAnyOfItInHand_2 Q (lp_X3_isAnyOfItInHand_2 Q n9) v1 σ := h
    delta b_X3_isAnyOfItInHand_2 at h
    refine r_iload_n X 1 3 dX3_isAnyOfItInHand_2 rfl rfl rfl ?_
    refine r_aload_n X 0 4 dX3_isAnyOfItInHand_3 rfl rfl rfl ?_
    refine g_X3_48 X 7 dX3_isAnyOfItInHand_4 rfl ?_
    refine g_X3_87 X 10 dX3_isAnyOfItInHand_7 rfl ?_
    refine r_icmp_ge X 43 13 h dX3_isAnyOfItInHand_10 rfl rfl (fun h => ?_) (fun h => ?_)
    · refine r_iconst (v := 0) X 44 dX3_isAnyOfItInHand_43 (by decide) rfl ?_
      exact r_zret X hr9 hlk9 isB_0 h dX3_isAnyOfItInHand_44
    · refine r_aload_n X 0 14 dX3_isAnyOfItInHand_13 rfl rfl rfl ?_
      refine g_X3_9 X 17 dX3_isAnyOfItInHand_14 rfl ?_
      refine r_iload_n X 1 18 dX3_isAnyOfItInHand_17 rfl rfl rfl ?_
      obtain ⟨hin, h⟩ := h
      refine l_C14 X 19 hin dX3_isAnyOfItInHand_18 rfl ?_
      refine r_iconst (v := 2) X 20 dX3_isAnyOfItInHand_19 (by decide) rfl ?_
      refine r_icmp_ne X 37 23 h dX3_isAnyOfItInHand_20 rfl rfl (fun h => ?_) (fun h => ?_)
      · refine r_pick (lv' := [(0, .ref (a 13)), (1, .int v1)]) [0, 1] rfl ?_
        exact wk_X3_isAnyOfItInHand_37 X hr9 hlk9 hrec2 h
      · refine r_aload_n X 0 24 dX3_isAnyOfItInHand_23 rfl rfl rfl ?_
        refine r_iload_n X 1 25 dX3_isAnyOfItInHand_24 rfl rfl rfl ?_
        refine r_aload_n X 0 26 dX3_isAnyOfItInHand_25 rfl rfl rfl ?_
        refine g_X3_108 X 29 dX3_isAnyOfItInHand_26 rfl ?_
        refine r_callI (As := [.int v1, .int (σ 13 13)]) (rest := []) X 32 (c_X3_isOf h) ml_X3_260 lk_X3_isOf wC_at_13 rfl rfl rfl (Nat.le_of_ble_eq_true rfl) ⟨rfl, rfl, ⟨Nat.le_of_ble_eq_true rfl, Nat.le_of_ble_eq_true rfl⟩, Nat.le_of_ble_eq_true rfl, Nat.le_of_ble_eq_true rfl⟩ dX3_isAnyOfItInHand_29 rfl (fun y2 σ1 h => ?_)
        obtain ⟨hb_y2, h⟩ := h
        refine r_if_eq X 37 35 h dX3_isAnyOfItInHand_32 rfl rfl (fun h => ?_) (fun h => ?_)
        · refine r_pick (lv' := [(0, .ref (a 13)), (1, .int v1)]) [0, 1] rfl ?_
          exact wk_X3_isAnyOfItInHand_37 X hr9 hlk9 hrec2 h
        · refine r_iconst (v := 1) X 36 dX3_isAnyOfItInHand_35 (by decide) rfl ?_
          exact r_zret X hr9 hlk9 isB_1 h dX3_isAnyOfItInHand_36
def wp_X3_isAnyOfItInHand  (σ : St) (Q : Int32 → St → Prop) : Prop :=
  ∃ n9 : Nat, lp_X3_isAnyOfItInHand_2 Q n9 0 σ
theorem c_X3_isAnyOfItInHand  {σ : St} {Q : Int32 → St → Prop} (h : wp_X3_isAnyOfItInHand σ Q) : ctI l yX3_isAnyOfItInHand cX3_isAnyOfItInHand 2 (some .boolean) rm_X3_isAnyOfItInHand D (wC cI cZ cH a n) (tyW cI cZ cH) [.ref (a 13)] σ (fun r9 u9 => isB r9 ∧ Q r9 u9) := by
  refine mk_I (wC_ok cI cZ cH a n) (by decide +kernel) (Nat.le_of_ble_eq_true rfl) (fun p e s m args below meth c A X hr9 hlk9 => ?_)
  refine r_pick (lv' := [(0, .ref (a 13))]) [0] rfl ?_
  delta wp_X3_isAnyOfItInHand at h
  refine r_iconst (v := 0) X 1 dX3_isAnyOfItInHand_0 (by decide) rfl ?_
  refine r_istore_n X 2 [(1, .int 0), (0, .ref (a 13))] dX3_isAnyOfItInHand_1 rfl (by decide) rfl rfl ?_
  refine r_pick (lv' := [(0, .ref (a 13)), (1, .int 0)]) [1, 0] rfl ?_
  obtain ⟨n9, h⟩ := h
  exact wk_X3_isAnyOfItInHand_2 X hr9 hlk9 n9 h
def rm_X3_destroy : Room := { frames := 3, cells := 0, slots := 0, locals := 66 }
theorem dX3_destroy_0 : decode cX3_destroy 0 = .ok (.aload_n 0, 1) := by decide +kernel
theorem dX3_destroy_1 : decode cX3_destroy 1 = .ok (.iconst 1, 1) := by decide +kernel
theorem dX3_destroy_2 : decode cX3_destroy 2 = .ok (.invokevirtual 191, 3) := by decide +kernel
theorem dX3_destroy_5 : decode cX3_destroy 5 = .ok (.ifCond .eq 39, 3) := by decide +kernel
theorem dX3_destroy_8 : decode cX3_destroy 8 = .ok (.aload_n 0, 1) := by decide +kernel
theorem dX3_destroy_9 : decode cX3_destroy 9 = .ok (.getfield 48, 3) := by decide +kernel
theorem dX3_destroy_12 : decode cX3_destroy 12 = .ok (.aload_n 0, 1) := by decide +kernel
theorem dX3_destroy_13 : decode cX3_destroy 13 = .ok (.getfield 117, 3) := by decide +kernel
theorem dX3_destroy_16 : decode cX3_destroy 16 = .ok (.invokevirtual 195, 3) := by decide +kernel
theorem dX3_destroy_19 : decode cX3_destroy 19 = .ok (.ifCond .eq 25, 3) := by decide +kernel
theorem dX3_destroy_22 : decode cX3_destroy 22 = .ok (.aload_n 0, 1) := by decide +kernel
theorem dX3_destroy_23 : decode cX3_destroy 23 = .ok (.getfield 117, 3) := by decide +kernel
theorem dX3_destroy_26 : decode cX3_destroy 26 = .ok (.aload_n 0, 1) := by decide +kernel
theorem dX3_destroy_27 : decode cX3_destroy 27 = .ok (.getfield 111, 3) := by decide +kernel
theorem dX3_destroy_30 : decode cX3_destroy 30 = .ok (.if_icmp .eq 14, 3) := by decide +kernel
theorem dX3_destroy_33 : decode cX3_destroy 33 = .ok (.aload_n 0, 1) := by decide +kernel
theorem dX3_destroy_34 : decode cX3_destroy 34 = .ok (.getfield 117, 3) := by decide +kernel
theorem dX3_destroy_37 : decode cX3_destroy 37 = .ok (.aload_n 0, 1) := by decide +kernel
theorem dX3_destroy_38 : decode cX3_destroy 38 = .ok (.getfield 114, 3) := by decide +kernel
theorem dX3_destroy_41 : decode cX3_destroy 41 = .ok (.if_icmp .ne 5, 3) := by decide +kernel
theorem dX3_destroy_44 : decode cX3_destroy 44 = .ok (.iconst 0, 1) := by decide +kernel
theorem dX3_destroy_45 : decode cX3_destroy 45 = .ok (.ireturn, 1) := by decide +kernel
theorem dX3_destroy_46 : decode cX3_destroy 46 = .ok (.aload_n 0, 1) := by decide +kernel
theorem dX3_destroy_47 : decode cX3_destroy 47 = .ok (.getfield 9, 3) := by decide +kernel
theorem dX3_destroy_50 : decode cX3_destroy 50 = .ok (.aload_n 0, 1) := by decide +kernel
theorem dX3_destroy_51 : decode cX3_destroy 51 = .ok (.getfield 108, 3) := by decide +kernel
theorem dX3_destroy_54 : decode cX3_destroy 54 = .ok (.iaload, 1) := by decide +kernel
theorem dX3_destroy_55 : decode cX3_destroy 55 = .ok (.iconst 1, 1) := by decide +kernel
theorem dX3_destroy_56 : decode cX3_destroy 56 = .ok (.if_icmp .ne 43, 3) := by decide +kernel
theorem dX3_destroy_59 : decode cX3_destroy 59 = .ok (.aload_n 0, 1) := by decide +kernel
theorem dX3_destroy_60 : decode cX3_destroy 60 = .ok (.getfield 30, 3) := by decide +kernel
theorem dX3_destroy_63 : decode cX3_destroy 63 = .ok (.aload_n 0, 1) := by decide +kernel
theorem dX3_destroy_64 : decode cX3_destroy 64 = .ok (.getfield 108, 3) := by decide +kernel
theorem dX3_destroy_67 : decode cX3_destroy 67 = .ok (.iaload, 1) := by decide +kernel
theorem dX3_destroy_68 : decode cX3_destroy 68 = .ok (.ifCond .eq 31, 3) := by decide +kernel
theorem dX3_destroy_71 : decode cX3_destroy 71 = .ok (.aload_n 0, 1) := by decide +kernel
theorem dX3_destroy_72 : decode cX3_destroy 72 = .ok (.getfield 27, 3) := by decide +kernel
theorem dX3_destroy_75 : decode cX3_destroy 75 = .ok (.aload_n 0, 1) := by decide +kernel
theorem dX3_destroy_76 : decode cX3_destroy 76 = .ok (.getfield 108, 3) := by decide +kernel
theorem dX3_destroy_79 : decode cX3_destroy 79 = .ok (.iaload, 1) := by decide +kernel
theorem dX3_destroy_80 : decode cX3_destroy 80 = .ok (.aload_n 0, 1) := by decide +kernel
theorem dX3_destroy_81 : decode cX3_destroy 81 = .ok (.getfield 123, 3) := by decide +kernel
theorem dX3_destroy_84 : decode cX3_destroy 84 = .ok (.if_icmp .gt 15, 3) := by decide +kernel
theorem dX3_destroy_87 : decode cX3_destroy 87 = .ok (.aload_n 0, 1) := by decide +kernel
theorem dX3_destroy_88 : decode cX3_destroy 88 = .ok (.getfield 33, 3) := by decide +kernel
theorem dX3_destroy_91 : decode cX3_destroy 91 = .ok (.aload_n 0, 1) := by decide +kernel
theorem dX3_destroy_92 : decode cX3_destroy 92 = .ok (.getfield 108, 3) := by decide +kernel
theorem dX3_destroy_95 : decode cX3_destroy 95 = .ok (.iaload, 1) := by decide +kernel
theorem dX3_destroy_96 : decode cX3_destroy 96 = .ok (.ifCond .eq 5, 3) := by decide +kernel
theorem dX3_destroy_99 : decode cX3_destroy 99 = .ok (.iconst 0, 1) := by decide +kernel
theorem dX3_destroy_100 : decode cX3_destroy 100 = .ok (.ireturn, 1) := by decide +kernel
theorem dX3_destroy_101 : decode cX3_destroy 101 = .ok (.aload_n 0, 1) := by decide +kernel
theorem dX3_destroy_102 : decode cX3_destroy 102 = .ok (.getfield 36, 3) := by decide +kernel
theorem dX3_destroy_105 : decode cX3_destroy 105 = .ok (.aload_n 0, 1) := by decide +kernel
theorem dX3_destroy_106 : decode cX3_destroy 106 = .ok (.getfield 108, 3) := by decide +kernel
theorem dX3_destroy_109 : decode cX3_destroy 109 = .ok (.iaload, 1) := by decide +kernel
theorem dX3_destroy_110 : decode cX3_destroy 110 = .ok (.ifCond .ne 10, 3) := by decide +kernel
theorem dX3_destroy_113 : decode cX3_destroy 113 = .ok (.aload_n 0, 1) := by decide +kernel
theorem dX3_destroy_114 : decode cX3_destroy 114 = .ok (.invokevirtual 236, 3) := by decide +kernel
theorem dX3_destroy_117 : decode cX3_destroy 117 = .ok (.ifCond .eq 5, 3) := by decide +kernel
theorem dX3_destroy_120 : decode cX3_destroy 120 = .ok (.iconst 0, 1) := by decide +kernel
theorem dX3_destroy_121 : decode cX3_destroy 121 = .ok (.ireturn, 1) := by decide +kernel
theorem dX3_destroy_122 : decode cX3_destroy 122 = .ok (.aload_n 0, 1) := by decide +kernel
theorem dX3_destroy_123 : decode cX3_destroy 123 = .ok (.aload_n 0, 1) := by decide +kernel
theorem dX3_destroy_124 : decode cX3_destroy 124 = .ok (.getfield 108, 3) := by decide +kernel
theorem dX3_destroy_127 : decode cX3_destroy 127 = .ok (.iconst 4, 1) := by decide +kernel
theorem dX3_destroy_128 : decode cX3_destroy 128 = .ok (.iconst (-1), 1) := by decide +kernel
theorem dX3_destroy_129 : decode cX3_destroy 129 = .ok (.invokevirtual 201, 3) := by decide +kernel
theorem dX3_destroy_132 : decode cX3_destroy 132 = .ok (.iconst 1, 1) := by decide +kernel
theorem dX3_destroy_133 : decode cX3_destroy 133 = .ok (.ireturn, 1) := by decide +kernel
def wp_X3_destroy  (σ : St) (Q : Int32 → St → Prop) : Prop :=
  wp_X3_keepersServe σ 1 (fun y2 σ1 =>
  if y2 = 0 then
  (Q 0 σ1)
  else (wp_X4_isHand σ1 (σ1 13 16) (fun y4 σ3 =>
  if y4 = 0 then
  (Q 0 σ3)
  else (if (σ3 13 16) = (σ3 13 14) then
  (Q 0 σ3)
  else (if (σ3 13 16) = (σ3 13 15) then
  (Q 0 σ3)
  else (vp_in (σ3 13 13) 60 ∧
  (if (σ3 14 (ix (σ3 13 13))) = 1 then
  (vp_in (σ3 13 13) 60 ∧
  (if (σ3 20 (ix (σ3 13 13))) = 0 then
  (Q 0 σ3)
  else (vp_in (σ3 13 13) 60 ∧
  (if (σ3 13 18) < (σ3 19 (ix (σ3 13 13))) then
  (Q 0 σ3)
  else (vp_in (σ3 13 13) 60 ∧
  (if (σ3 21 (ix (σ3 13 13))) = 0 then
  (vp_in (σ3 13 13) 60 ∧
  (if (σ3 22 (ix (σ3 13 13))) = 0 then
  (wp_X3_isAnyOfItInHand σ3 (fun y6 σ5 =>
  if y6 = 0 then
  (wp_X3_move σ5 (σ5 13 13) 4 (-1) (fun σ7 =>
  Q 1 σ7))
  else (Q 0 σ5)))
  else (Q 0 σ3)))
  else (Q 0 σ3)))))))
  else (Q 0 σ3))))))))
theorem c_X3_destroy  {σ : St} {Q : Int32 → St → Prop} (h : wp_X3_destroy σ Q) : ctI l yX3_destroy cX3_destroy 1 (some .boolean) rm_X3_destroy D (wC cI cZ cH a n) (tyW cI cZ cH) [.ref (a 13)] σ (fun r9 u9 => isB r9 ∧ Q r9 u9) := by
  refine mk_I (wC_ok cI cZ cH a n) (by decide +kernel) (Nat.le_of_ble_eq_true rfl) (fun p e s m args below meth c A X hr9 hlk9 => ?_)
  refine r_pick (lv' := [(0, .ref (a 13))]) [0] rfl ?_
  delta wp_X3_destroy at h
  refine r_aload_n X 0 1 dX3_destroy_0 rfl rfl rfl ?_
  refine r_iconst (v := 1) X 2 dX3_destroy_1 (by decide) rfl ?_
  refine r_callI (As := [.int 1]) (rest := []) X 5 (c_X3_keepersServe h) ml_X3_191 lk_X3_keepersServe wC_at_13 rfl rfl rfl (Nat.le_of_ble_eq_true rfl) ⟨rfl, rfl, ⟨Nat.le_of_ble_eq_true rfl, Nat.le_of_ble_eq_true rfl⟩, Nat.le_of_ble_eq_true rfl, Nat.le_of_ble_eq_true rfl⟩ dX3_destroy_2 rfl (fun y2 σ1 h => ?_)
  obtain ⟨hb_y2, h⟩ := h
  refine r_if_eq X 44 8 h dX3_destroy_5 rfl rfl (fun h => ?_) (fun h => ?_)
  · refine r_iconst (v := 0) X 45 dX3_destroy_44 (by decide) rfl ?_
    exact r_zret X hr9 hlk9 isB_0 h dX3_destroy_45
  · refine r_aload_n X 0 9 dX3_destroy_8 rfl rfl rfl ?_
    refine g_X3_48 X 12 dX3_destroy_9 rfl ?_
    refine r_aload_n X 0 13 dX3_destroy_12 rfl rfl rfl ?_
    refine g_X3_117 X 16 dX3_destroy_13 rfl ?_
    refine r_callNI (As := [.int (σ1 13 16)]) (rest := []) X 19 (c_X4_isHand h) ml_X3_195 lk_X4_isHand wC_at_1 rfl rfl rfl (Nat.le_of_ble_eq_true rfl) ⟨rfl, rfl, ⟨Nat.le_of_ble_eq_true rfl, Nat.le_of_ble_eq_true rfl⟩, Nat.le_of_ble_eq_true rfl, Nat.le_of_ble_eq_true rfl⟩ dX3_destroy_16 rfl (fun y4 σ3 h => ?_)
    obtain ⟨hb_y4, h⟩ := h
    refine r_if_eq X 44 22 h dX3_destroy_19 rfl rfl (fun h => ?_) (fun h => ?_)
    · refine r_iconst (v := 0) X 45 dX3_destroy_44 (by decide) rfl ?_
      exact r_zret X hr9 hlk9 isB_0 h dX3_destroy_45
    · refine r_aload_n X 0 23 dX3_destroy_22 rfl rfl rfl ?_
      refine g_X3_117 X 26 dX3_destroy_23 rfl ?_
      refine r_aload_n X 0 27 dX3_destroy_26 rfl rfl rfl ?_
      refine g_X3_111 X 30 dX3_destroy_27 rfl ?_
      refine r_icmp_eq X 44 33 h dX3_destroy_30 rfl rfl (fun h => ?_) (fun h => ?_)
      · refine r_iconst (v := 0) X 45 dX3_destroy_44 (by decide) rfl ?_
        exact r_zret X hr9 hlk9 isB_0 h dX3_destroy_45
      · refine r_aload_n X 0 34 dX3_destroy_33 rfl rfl rfl ?_
        refine g_X3_117 X 37 dX3_destroy_34 rfl ?_
        refine r_aload_n X 0 38 dX3_destroy_37 rfl rfl rfl ?_
        refine g_X3_114 X 41 dX3_destroy_38 rfl ?_
        refine r_icmp_ne X 46 44 h dX3_destroy_41 rfl rfl (fun h => ?_) (fun h => ?_)
        · refine r_aload_n X 0 47 dX3_destroy_46 rfl rfl rfl ?_
          refine g_X3_9 X 50 dX3_destroy_47 rfl ?_
          refine r_aload_n X 0 51 dX3_destroy_50 rfl rfl rfl ?_
          refine g_X3_108 X 54 dX3_destroy_51 rfl ?_
          obtain ⟨hin, h⟩ := h
          refine l_C14 X 55 hin dX3_destroy_54 rfl ?_
          refine r_iconst (v := 1) X 56 dX3_destroy_55 (by decide) rfl ?_
          refine r_icmp_ne X 99 59 h dX3_destroy_56 rfl rfl (fun h => ?_) (fun h => ?_)
          · refine r_iconst (v := 0) X 100 dX3_destroy_99 (by decide) rfl ?_
            exact r_zret X hr9 hlk9 isB_0 h dX3_destroy_100
          · refine r_aload_n X 0 60 dX3_destroy_59 rfl rfl rfl ?_
            refine g_X3_30 X 63 dX3_destroy_60 rfl ?_
            refine r_aload_n X 0 64 dX3_destroy_63 rfl rfl rfl ?_
            refine g_X3_108 X 67 dX3_destroy_64 rfl ?_
            obtain ⟨hin, h⟩ := h
            refine l_C20 X 68 hin dX3_destroy_67 rfl ?_
            refine r_if_eq X 99 71 h dX3_destroy_68 rfl rfl (fun h => ?_) (fun h => ?_)
            · refine r_iconst (v := 0) X 100 dX3_destroy_99 (by decide) rfl ?_
              exact r_zret X hr9 hlk9 isB_0 h dX3_destroy_100
            · refine r_aload_n X 0 72 dX3_destroy_71 rfl rfl rfl ?_
              refine g_X3_27 X 75 dX3_destroy_72 rfl ?_
              refine r_aload_n X 0 76 dX3_destroy_75 rfl rfl rfl ?_
              refine g_X3_108 X 79 dX3_destroy_76 rfl ?_
              obtain ⟨hin, h⟩ := h
              refine l_C19 X 80 hin dX3_destroy_79 rfl ?_
              refine r_aload_n X 0 81 dX3_destroy_80 rfl rfl rfl ?_
              refine g_X3_123 X 84 dX3_destroy_81 rfl ?_
              refine r_icmp_gt X 99 87 h dX3_destroy_84 rfl rfl (fun h => ?_) (fun h => ?_)
              · refine r_iconst (v := 0) X 100 dX3_destroy_99 (by decide) rfl ?_
                exact r_zret X hr9 hlk9 isB_0 h dX3_destroy_100
              · refine r_aload_n X 0 88 dX3_destroy_87 rfl rfl rfl ?_
                refine g_X3_33 X 91 dX3_destroy_88 rfl ?_
                refine r_aload_n X 0 92 dX3_destroy_91 rfl rfl rfl ?_
                refine g_X3_108 X 95 dX3_destroy_92 rfl ?_
                obtain ⟨hin, h⟩ := h
                refine l_C21 X 96 hin dX3_destroy_95 rfl ?_
                refine r_if_eq X 101 99 h dX3_destroy_96 rfl rfl (fun h => ?_) (fun h => ?_)
                · refine r_aload_n X 0 102 dX3_destroy_101 rfl rfl rfl ?_
                  refine g_X3_36 X 105 dX3_destroy_102 rfl ?_
                  refine r_aload_n X 0 106 dX3_destroy_105 rfl rfl rfl ?_
                  refine g_X3_108 X 109 dX3_destroy_106 rfl ?_
                  obtain ⟨hin, h⟩ := h
                  refine l_C22 X 110 hin dX3_destroy_109 rfl ?_
                  refine r_if_ne X 120 113 h dX3_destroy_110 rfl rfl (fun h => ?_) (fun h => ?_)
                  · refine r_iconst (v := 0) X 121 dX3_destroy_120 (by decide) rfl ?_
                    exact r_zret X hr9 hlk9 isB_0 h dX3_destroy_121
                  · refine r_aload_n X 0 114 dX3_destroy_113 rfl rfl rfl ?_
                    refine r_callI (As := []) (rest := []) X 117 (c_X3_isAnyOfItInHand h) ml_X3_236 lk_X3_isAnyOfItInHand wC_at_13 rfl rfl rfl (Nat.le_of_ble_eq_true rfl) ⟨rfl, rfl, ⟨Nat.le_of_ble_eq_true rfl, Nat.le_of_ble_eq_true rfl⟩, Nat.le_of_ble_eq_true rfl, Nat.le_of_ble_eq_true rfl⟩ dX3_destroy_114 rfl (fun y6 σ5 h => ?_)
                    obtain ⟨hb_y6, h⟩ := h
                    refine r_if_eq X 122 120 h dX3_destroy_117 rfl rfl (fun h => ?_) (fun h => ?_)
                    · refine r_aload_n X 0 123 dX3_destroy_122 rfl rfl rfl ?_
                      refine r_aload_n X 0 124 dX3_destroy_123 rfl rfl rfl ?_
                      refine g_X3_108 X 127 dX3_destroy_124 rfl ?_
                      refine r_iconst (v := 4) X 128 dX3_destroy_127 (by decide) rfl ?_
                      refine r_iconst (v := (-1)) X 129 dX3_destroy_128 (by decide) rfl ?_
                      refine r_callV (As := [.int (σ5 13 13), .int 4, .int (-1)]) (rest := []) X 132 (c_X3_move h) ml_X3_201 lk_X3_move wC_at_13 rfl rfl rfl (Nat.le_of_ble_eq_true rfl) ⟨rfl, rfl, ⟨Nat.le_of_ble_eq_true rfl, Nat.le_of_ble_eq_true rfl⟩, Nat.le_of_ble_eq_true rfl, Nat.le_of_ble_eq_true rfl⟩ dX3_destroy_129 rfl (fun σ7 h => ?_)
                      refine r_iconst (v := 1) X 133 dX3_destroy_132 (by decide) rfl ?_
                      exact r_zret X hr9 hlk9 isB_1 h dX3_destroy_133
                    · refine r_iconst (v := 0) X 121 dX3_destroy_120 (by decide) rfl ?_
                      exact r_zret X hr9 hlk9 isB_0 h dX3_destroy_121
                · refine r_iconst (v := 0) X 100 dX3_destroy_99 (by decide) rfl ?_
                  exact r_zret X hr9 hlk9 isB_0 h dX3_destroy_100
        · refine r_iconst (v := 0) X 45 dX3_destroy_44 (by decide) rfl ?_
          exact r_zret X hr9 hlk9 isB_0 h dX3_destroy_45
def rm_X3_find : Room := { frames := 2, cells := 0, slots := 0, locals := 46 }
theorem dX3_find_0 : decode cX3_find 0 = .ok (.aload_n 0, 1) := by decide +kernel
theorem dX3_find_1 : decode cX3_find 1 = .ok (.getfield 120, 3) := by decide +kernel
theorem dX3_find_4 : decode cX3_find 4 = .ok (.iconst (-1), 1) := by decide +kernel
theorem dX3_find_5 : decode cX3_find 5 = .ok (.if_icmp .ne 29, 3) := by decide +kernel
theorem dX3_find_8 : decode cX3_find 8 = .ok (.aload_n 0, 1) := by decide +kernel
theorem dX3_find_9 : decode cX3_find 9 = .ok (.aload_n 0, 1) := by decide +kernel
theorem dX3_find_10 : decode cX3_find 10 = .ok (.getfield 117, 3) := by decide +kernel
theorem dX3_find_13 : decode cX3_find 13 = .ok (.invokevirtual 198, 3) := by decide +kernel
theorem dX3_find_16 : decode cX3_find 16 = .ok (.ifCond .eq 18, 3) := by decide +kernel
theorem dX3_find_19 : decode cX3_find 19 = .ok (.aload_n 0, 1) := by decide +kernel
theorem dX3_find_20 : decode cX3_find 20 = .ok (.aload_n 0, 1) := by decide +kernel
theorem dX3_find_21 : decode cX3_find 21 = .ok (.getfield 108, 3) := by decide +kernel
theorem dX3_find_24 : decode cX3_find 24 = .ok (.iconst 1, 1) := by decide +kernel
theorem dX3_find_25 : decode cX3_find 25 = .ok (.aload_n 0, 1) := by decide +kernel
theorem dX3_find_26 : decode cX3_find 26 = .ok (.getfield 117, 3) := by decide +kernel
theorem dX3_find_29 : decode cX3_find 29 = .ok (.invokevirtual 201, 3) := by decide +kernel
theorem dX3_find_32 : decode cX3_find 32 = .ok (.iconst 1, 1) := by decide +kernel
theorem dX3_find_33 : decode cX3_find 33 = .ok (.ireturn, 1) := by decide +kernel
theorem dX3_find_34 : decode cX3_find 34 = .ok (.aload_n 0, 1) := by decide +kernel
theorem dX3_find_35 : decode cX3_find 35 = .ok (.getfield 117, 3) := by decide +kernel
theorem dX3_find_38 : decode cX3_find 38 = .ok (.iconst (-1), 1) := by decide +kernel
theorem dX3_find_39 : decode cX3_find 39 = .ok (.if_icmp .ne 48, 3) := by decide +kernel
theorem dX3_find_42 : decode cX3_find 42 = .ok (.aload_n 0, 1) := by decide +kernel
theorem dX3_find_43 : decode cX3_find 43 = .ok (.getfield 48, 3) := by decide +kernel
theorem dX3_find_46 : decode cX3_find 46 = .ok (.aload_n 0, 1) := by decide +kernel
theorem dX3_find_47 : decode cX3_find 47 = .ok (.getfield 120, 3) := by decide +kernel
theorem dX3_find_50 : decode cX3_find 50 = .ok (.invokevirtual 195, 3) := by decide +kernel
theorem dX3_find_53 : decode cX3_find 53 = .ok (.ifCond .eq 34, 3) := by decide +kernel
theorem dX3_find_56 : decode cX3_find 56 = .ok (.aload_n 0, 1) := by decide +kernel
theorem dX3_find_57 : decode cX3_find 57 = .ok (.aload_n 0, 1) := by decide +kernel
theorem dX3_find_58 : decode cX3_find 58 = .ok (.getfield 108, 3) := by decide +kernel
theorem dX3_find_61 : decode cX3_find 61 = .ok (.iconst 2, 1) := by decide +kernel
theorem dX3_find_62 : decode cX3_find 62 = .ok (.aload_n 0, 1) := by decide +kernel
theorem dX3_find_63 : decode cX3_find 63 = .ok (.getfield 120, 3) := by decide +kernel
theorem dX3_find_66 : decode cX3_find 66 = .ok (.invokevirtual 208, 3) := by decide +kernel
theorem dX3_find_69 : decode cX3_find 69 = .ok (.ifCond .ne 18, 3) := by decide +kernel
theorem dX3_find_72 : decode cX3_find 72 = .ok (.aload_n 0, 1) := by decide +kernel
theorem dX3_find_73 : decode cX3_find 73 = .ok (.aload_n 0, 1) := by decide +kernel
theorem dX3_find_74 : decode cX3_find 74 = .ok (.getfield 108, 3) := by decide +kernel
theorem dX3_find_77 : decode cX3_find 77 = .ok (.iconst 2, 1) := by decide +kernel
theorem dX3_find_78 : decode cX3_find 78 = .ok (.aload_n 0, 1) := by decide +kernel
theorem dX3_find_79 : decode cX3_find 79 = .ok (.getfield 120, 3) := by decide +kernel
theorem dX3_find_82 : decode cX3_find 82 = .ok (.invokevirtual 201, 3) := by decide +kernel
theorem dX3_find_85 : decode cX3_find 85 = .ok (.iconst 1, 1) := by decide +kernel
theorem dX3_find_86 : decode cX3_find 86 = .ok (.ireturn, 1) := by decide +kernel
theorem dX3_find_87 : decode cX3_find 87 = .ok (.iconst 0, 1) := by decide +kernel
theorem dX3_find_88 : decode cX3_find 88 = .ok (.ireturn, 1) := by decide +kernel
def j_X3_find_34  (Q : Int32 → St → Prop) (σ : St) : Prop :=
  if (σ 13 16) = (-1) then
  (wp_X4_isHand σ (σ 13 17) (fun y2 σ1 =>
  if y2 = 0 then
  (Q 0 σ1)
  else (wp_X3_isAt σ1 (σ1 13 13) 2 (σ1 13 17) (fun y4 σ3 =>
  if y4 = 0 then
  (wp_X3_move σ3 (σ3 13 13) 2 (σ3 13 17) (fun σ5 =>
  Q 1 σ5))
  else (Q 0 σ3)))))
  else (Q 0 σ)
theorem wk_X3_find_34 (X : cx p s m args c cX3_find 1 RX3 D (wC cI cZ cH a n) A (tyW cI cZ cH)) (hr9 : meth.sig.returnType = (some .boolean)) (hlk9 : meth.locks = false)  {Q : Int32 → St → Prop} {σ : St} (h : j_X3_find_34 Q σ) : go p l e rm_X3_find s m args below meth c D (wC cI cZ cH a n) A 0 0 (MQ below (va_Qi (fun r9 u9 => isB r9 ∧ Q r9 u9) (atw D (wC cI cZ cH a n) (tyW cI cZ cH) A) A) args s 0 0 A) 1 34 [(0, .ref (a 13))] [] σ := by
  delta j_X3_find_34 at h
  refine r_aload_n X 0 35 dX3_find_34 rfl rfl rfl ?_
  refine g_X3_117 X 38 dX3_find_35 rfl ?_
  refine r_iconst (v := (-1)) X 39 dX3_find_38 (by decide) rfl ?_
  refine r_icmp_ne X 87 42 h dX3_find_39 rfl rfl (fun h => ?_) (fun h => ?_)
  · refine r_iconst (v := 0) X 88 dX3_find_87 (by decide) rfl ?_
    exact r_zret X hr9 hlk9 isB_0 h dX3_find_88
  · refine r_aload_n X 0 43 dX3_find_42 rfl rfl rfl ?_
    refine g_X3_48 X 46 dX3_find_43 rfl ?_
    refine r_aload_n X 0 47 dX3_find_46 rfl rfl rfl ?_
    refine g_X3_120 X 50 dX3_find_47 rfl ?_
    refine r_callNI (As := [.int (σ 13 17)]) (rest := []) X 53 (c_X4_isHand h) ml_X3_195 lk_X4_isHand wC_at_1 rfl rfl rfl (Nat.le_of_ble_eq_true rfl) ⟨rfl, rfl, ⟨Nat.le_of_ble_eq_true rfl, Nat.le_of_ble_eq_true rfl⟩, Nat.le_of_ble_eq_true rfl, Nat.le_of_ble_eq_true rfl⟩ dX3_find_50 rfl (fun y2 σ1 h => ?_)
    obtain ⟨hb_y2, h⟩ := h
    refine r_if_eq X 87 56 h dX3_find_53 rfl rfl (fun h => ?_) (fun h => ?_)
    · refine r_iconst (v := 0) X 88 dX3_find_87 (by decide) rfl ?_
      exact r_zret X hr9 hlk9 isB_0 h dX3_find_88
    · refine r_aload_n X 0 57 dX3_find_56 rfl rfl rfl ?_
      refine r_aload_n X 0 58 dX3_find_57 rfl rfl rfl ?_
      refine g_X3_108 X 61 dX3_find_58 rfl ?_
      refine r_iconst (v := 2) X 62 dX3_find_61 (by decide) rfl ?_
      refine r_aload_n X 0 63 dX3_find_62 rfl rfl rfl ?_
      refine g_X3_120 X 66 dX3_find_63 rfl ?_
      refine r_callI (As := [.int (σ1 13 13), .int 2, .int (σ1 13 17)]) (rest := []) X 69 (c_X3_isAt h) ml_X3_208 lk_X3_isAt wC_at_13 rfl rfl rfl (Nat.le_of_ble_eq_true rfl) ⟨rfl, rfl, ⟨Nat.le_of_ble_eq_true rfl, Nat.le_of_ble_eq_true rfl⟩, Nat.le_of_ble_eq_true rfl, Nat.le_of_ble_eq_true rfl⟩ dX3_find_66 rfl (fun y4 σ3 h => ?_)
      obtain ⟨hb_y4, h⟩ := h
      refine r_if_ne X 87 72 h dX3_find_69 rfl rfl (fun h => ?_) (fun h => ?_)
      · refine r_iconst (v := 0) X 88 dX3_find_87 (by decide) rfl ?_
        exact r_zret X hr9 hlk9 isB_0 h dX3_find_88
      · refine r_aload_n X 0 73 dX3_find_72 rfl rfl rfl ?_
        refine r_aload_n X 0 74 dX3_find_73 rfl rfl rfl ?_
        refine g_X3_108 X 77 dX3_find_74 rfl ?_
        refine r_iconst (v := 2) X 78 dX3_find_77 (by decide) rfl ?_
        refine r_aload_n X 0 79 dX3_find_78 rfl rfl rfl ?_
        refine g_X3_120 X 82 dX3_find_79 rfl ?_
        refine r_callV (As := [.int (σ3 13 13), .int 2, .int (σ3 13 17)]) (rest := []) X 85 (c_X3_move h) ml_X3_201 lk_X3_move wC_at_13 rfl rfl rfl (Nat.le_of_ble_eq_true rfl) ⟨rfl, rfl, ⟨Nat.le_of_ble_eq_true rfl, Nat.le_of_ble_eq_true rfl⟩, Nat.le_of_ble_eq_true rfl, Nat.le_of_ble_eq_true rfl⟩ dX3_find_82 rfl (fun σ5 h => ?_)
        refine r_iconst (v := 1) X 86 dX3_find_85 (by decide) rfl ?_
        exact r_zret X hr9 hlk9 isB_1 h dX3_find_86
def wp_X3_find  (σ : St) (Q : Int32 → St → Prop) : Prop :=
  if (σ 13 17) = (-1) then
  (wp_X3_mayLieAt σ (σ 13 16) (fun y7 σ6 =>
  if y7 = 0 then
  (j_X3_find_34 Q σ6)
  else (wp_X3_move σ6 (σ6 13 13) 1 (σ6 13 16) (fun σ8 =>
  Q 1 σ8))))
  else (j_X3_find_34 Q σ)
theorem c_X3_find  {σ : St} {Q : Int32 → St → Prop} (h : wp_X3_find σ Q) : ctI l yX3_find cX3_find 1 (some .boolean) rm_X3_find D (wC cI cZ cH a n) (tyW cI cZ cH) [.ref (a 13)] σ (fun r9 u9 => isB r9 ∧ Q r9 u9) := by
  refine mk_I (wC_ok cI cZ cH a n) (by decide +kernel) (Nat.le_of_ble_eq_true rfl) (fun p e s m args below meth c A X hr9 hlk9 => ?_)
  refine r_pick (lv' := [(0, .ref (a 13))]) [0] rfl ?_
  delta wp_X3_find at h
  refine r_aload_n X 0 1 dX3_find_0 rfl rfl rfl ?_
  refine g_X3_120 X 4 dX3_find_1 rfl ?_
  refine r_iconst (v := (-1)) X 5 dX3_find_4 (by decide) rfl ?_
  refine r_icmp_ne X 34 8 h dX3_find_5 rfl rfl (fun h => ?_) (fun h => ?_)
  · refine r_pick (lv' := [(0, .ref (a 13))]) [0] rfl ?_
    exact wk_X3_find_34 X hr9 hlk9 h
  · refine r_aload_n X 0 9 dX3_find_8 rfl rfl rfl ?_
    refine r_aload_n X 0 10 dX3_find_9 rfl rfl rfl ?_
    refine g_X3_117 X 13 dX3_find_10 rfl ?_
    refine r_callI (As := [.int (σ 13 16)]) (rest := []) X 16 (c_X3_mayLieAt h) ml_X3_198 lk_X3_mayLieAt wC_at_13 rfl rfl rfl (Nat.le_of_ble_eq_true rfl) ⟨rfl, rfl, ⟨Nat.le_of_ble_eq_true rfl, Nat.le_of_ble_eq_true rfl⟩, Nat.le_of_ble_eq_true rfl, Nat.le_of_ble_eq_true rfl⟩ dX3_find_13 rfl (fun y7 σ6 h => ?_)
    obtain ⟨hb_y7, h⟩ := h
    refine r_if_eq X 34 19 h dX3_find_16 rfl rfl (fun h => ?_) (fun h => ?_)
    · refine r_pick (lv' := [(0, .ref (a 13))]) [0] rfl ?_
      exact wk_X3_find_34 X hr9 hlk9 h
    · refine r_aload_n X 0 20 dX3_find_19 rfl rfl rfl ?_
      refine r_aload_n X 0 21 dX3_find_20 rfl rfl rfl ?_
      refine g_X3_108 X 24 dX3_find_21 rfl ?_
      refine r_iconst (v := 1) X 25 dX3_find_24 (by decide) rfl ?_
      refine r_aload_n X 0 26 dX3_find_25 rfl rfl rfl ?_
      refine g_X3_117 X 29 dX3_find_26 rfl ?_
      refine r_callV (As := [.int (σ6 13 13), .int 1, .int (σ6 13 16)]) (rest := []) X 32 (c_X3_move h) ml_X3_201 lk_X3_move wC_at_13 rfl rfl rfl (Nat.le_of_ble_eq_true rfl) ⟨rfl, rfl, ⟨Nat.le_of_ble_eq_true rfl, Nat.le_of_ble_eq_true rfl⟩, Nat.le_of_ble_eq_true rfl, Nat.le_of_ble_eq_true rfl⟩ dX3_find_29 rfl (fun σ8 h => ?_)
      refine r_iconst (v := 1) X 33 dX3_find_32 (by decide) rfl ?_
      exact r_zret X hr9 hlk9 isB_1 h dX3_find_33
def rm_X3_tell : Room := { frames := 4, cells := 0, slots := 0, locals := 89 }
theorem dX3_tell_0 : decode cX3_tell 0 = .ok (.aload_n 1, 1) := by decide +kernel
theorem dX3_tell_1 : decode cX3_tell 1 = .ok (.iload_n 2, 1) := by decide +kernel
theorem dX3_tell_2 : decode cX3_tell 2 = .ok (.iconst 0, 1) := by decide +kernel
theorem dX3_tell_3 : decode cX3_tell 3 = .ok (.invokevirtual 69, 3) := by decide +kernel
theorem dX3_tell_6 : decode cX3_tell 6 = .ok (.istore_n 3, 1) := by decide +kernel
theorem dX3_tell_7 : decode cX3_tell 7 = .ok (.aload_n 1, 1) := by decide +kernel
theorem dX3_tell_8 : decode cX3_tell 8 = .ok (.iload_n 2, 1) := by decide +kernel
theorem dX3_tell_9 : decode cX3_tell 9 = .ok (.bipush 6, 2) := by decide +kernel
theorem dX3_tell_11 : decode cX3_tell 11 = .ok (.invokevirtual 69, 3) := by decide +kernel
theorem dX3_tell_14 : decode cX3_tell 14 = .ok (.istore 4, 2) := by decide +kernel
theorem dX3_tell_16 : decode cX3_tell 16 = .ok (.aload_n 0, 1) := by decide +kernel
theorem dX3_tell_17 : decode cX3_tell 17 = .ok (.aload_n 1, 1) := by decide +kernel
theorem dX3_tell_18 : decode cX3_tell 18 = .ok (.iload_n 2, 1) := by decide +kernel
theorem dX3_tell_19 : decode cX3_tell 19 = .ok (.iconst 1, 1) := by decide +kernel
theorem dX3_tell_20 : decode cX3_tell 20 = .ok (.invokevirtual 69, 3) := by decide +kernel
theorem dX3_tell_23 : decode cX3_tell 23 = .ok (.putfield 108, 3) := by decide +kernel
theorem dX3_tell_26 : decode cX3_tell 26 = .ok (.aload_n 0, 1) := by decide +kernel
theorem dX3_tell_27 : decode cX3_tell 27 = .ok (.aload_n 1, 1) := by decide +kernel
theorem dX3_tell_28 : decode cX3_tell 28 = .ok (.iload_n 2, 1) := by decide +kernel
theorem dX3_tell_29 : decode cX3_tell 29 = .ok (.iconst 2, 1) := by decide +kernel
theorem dX3_tell_30 : decode cX3_tell 30 = .ok (.invokevirtual 69, 3) := by decide +kernel
theorem dX3_tell_33 : decode cX3_tell 33 = .ok (.putfield 111, 3) := by decide +kernel
theorem dX3_tell_36 : decode cX3_tell 36 = .ok (.aload_n 0, 1) := by decide +kernel
theorem dX3_tell_37 : decode cX3_tell 37 = .ok (.aload_n 1, 1) := by decide +kernel
theorem dX3_tell_38 : decode cX3_tell 38 = .ok (.iload_n 2, 1) := by decide +kernel
theorem dX3_tell_39 : decode cX3_tell 39 = .ok (.iconst 3, 1) := by decide +kernel
theorem dX3_tell_40 : decode cX3_tell 40 = .ok (.invokevirtual 69, 3) := by decide +kernel
theorem dX3_tell_43 : decode cX3_tell 43 = .ok (.putfield 114, 3) := by decide +kernel
theorem dX3_tell_46 : decode cX3_tell 46 = .ok (.aload_n 0, 1) := by decide +kernel
theorem dX3_tell_47 : decode cX3_tell 47 = .ok (.aload_n 1, 1) := by decide +kernel
theorem dX3_tell_48 : decode cX3_tell 48 = .ok (.iload_n 2, 1) := by decide +kernel
theorem dX3_tell_49 : decode cX3_tell 49 = .ok (.iconst 4, 1) := by decide +kernel
theorem dX3_tell_50 : decode cX3_tell 50 = .ok (.invokevirtual 69, 3) := by decide +kernel
theorem dX3_tell_53 : decode cX3_tell 53 = .ok (.putfield 117, 3) := by decide +kernel
theorem dX3_tell_56 : decode cX3_tell 56 = .ok (.aload_n 0, 1) := by decide +kernel
theorem dX3_tell_57 : decode cX3_tell 57 = .ok (.aload_n 1, 1) := by decide +kernel
theorem dX3_tell_58 : decode cX3_tell 58 = .ok (.iload_n 2, 1) := by decide +kernel
theorem dX3_tell_59 : decode cX3_tell 59 = .ok (.iconst 5, 1) := by decide +kernel
theorem dX3_tell_60 : decode cX3_tell 60 = .ok (.invokevirtual 69, 3) := by decide +kernel
theorem dX3_tell_63 : decode cX3_tell 63 = .ok (.putfield 120, 3) := by decide +kernel
theorem dX3_tell_66 : decode cX3_tell 66 = .ok (.iload 4, 2) := by decide +kernel
theorem dX3_tell_68 : decode cX3_tell 68 = .ok (.ifCond .lt 29, 3) := by decide +kernel
theorem dX3_tell_71 : decode cX3_tell 71 = .ok (.iload 4, 2) := by decide +kernel
theorem dX3_tell_73 : decode cX3_tell 73 = .ok (.aload_n 1, 1) := by decide +kernel
theorem dX3_tell_74 : decode cX3_tell 74 = .ok (.iload_n 2, 1) := by decide +kernel
theorem dX3_tell_75 : decode cX3_tell 75 = .ok (.bipush 7, 2) := by decide +kernel
theorem dX3_tell_77 : decode cX3_tell 77 = .ok (.invokevirtual 69, 3) := by decide +kernel
theorem dX3_tell_80 : decode cX3_tell 80 = .ok (.if_icmp .gt 17, 3) := by decide +kernel
theorem dX3_tell_83 : decode cX3_tell 83 = .ok (.aload_n 0, 1) := by decide +kernel
theorem dX3_tell_84 : decode cX3_tell 84 = .ok (.getfield 48, 3) := by decide +kernel
theorem dX3_tell_87 : decode cX3_tell 87 = .ok (.aload_n 0, 1) := by decide +kernel
theorem dX3_tell_88 : decode cX3_tell 88 = .ok (.getfield 108, 3) := by decide +kernel
theorem dX3_tell_91 : decode cX3_tell 91 = .ok (.invokevirtual 73, 3) := by decide +kernel
theorem dX3_tell_94 : decode cX3_tell 94 = .ok (.ifCond .ne 5, 3) := by decide +kernel
theorem dX3_tell_97 : decode cX3_tell 97 = .ok (.iconst 0, 1) := by decide +kernel
theorem dX3_tell_98 : decode cX3_tell 98 = .ok (.ireturn, 1) := by decide +kernel
theorem dX3_tell_99 : decode cX3_tell 99 = .ok (.iload_n 3, 1) := by decide +kernel
theorem dX3_tell_100 : decode cX3_tell 100 = .ok (.iconst 1, 1) := by decide +kernel
theorem dX3_tell_101 : decode cX3_tell 101 = .ok (.if_icmp .eq 16, 3) := by decide +kernel
theorem dX3_tell_104 : decode cX3_tell 104 = .ok (.aload_n 0, 1) := by decide +kernel
theorem dX3_tell_105 : decode cX3_tell 105 = .ok (.aload_n 0, 1) := by decide +kernel
theorem dX3_tell_106 : decode cX3_tell 106 = .ok (.getfield 108, 3) := by decide +kernel
theorem dX3_tell_109 : decode cX3_tell 109 = .ok (.invokevirtual 90, 3) := by decide +kernel
theorem dX3_tell_112 : decode cX3_tell 112 = .ok (.ifCond .ne 5, 3) := by decide +kernel
theorem dX3_tell_115 : decode cX3_tell 115 = .ok (.iconst 0, 1) := by decide +kernel
theorem dX3_tell_116 : decode cX3_tell 116 = .ok (.ireturn, 1) := by decide +kernel
theorem dX3_tell_117 : decode cX3_tell 117 = .ok (.aload_n 0, 1) := by decide +kernel
theorem dX3_tell_118 : decode cX3_tell 118 = .ok (.iload 4, 2) := by decide +kernel
theorem dX3_tell_120 : decode cX3_tell 120 = .ok (.sipush 1440, 3) := by decide +kernel
theorem dX3_tell_123 : decode cX3_tell 123 = .ok (.idiv, 1) := by decide +kernel
theorem dX3_tell_124 : decode cX3_tell 124 = .ok (.putfield 123, 3) := by decide +kernel
theorem dX3_tell_127 : decode cX3_tell 127 = .ok (.iload_n 3, 1) := by decide +kernel
theorem dX3_tell_128 : decode cX3_tell 128 = .ok (.tableswitch 187 1 19 #[92, 97, 102, 107, 112, 117, 122, 127, 132, 137, 142, 147, 152, 157, 162, 167, 172, 177, 182], 92) := by decide +kernel
theorem dX3_tell_220 : decode cX3_tell 220 = .ok (.aload_n 0, 1) := by decide +kernel
theorem dX3_tell_221 : decode cX3_tell 221 = .ok (.invokevirtual 126, 3) := by decide +kernel
theorem dX3_tell_224 : decode cX3_tell 224 = .ok (.ireturn, 1) := by decide +kernel
theorem dX3_tell_225 : decode cX3_tell 225 = .ok (.aload_n 0, 1) := by decide +kernel
theorem dX3_tell_226 : decode cX3_tell 226 = .ok (.invokevirtual 130, 3) := by decide +kernel
theorem dX3_tell_229 : decode cX3_tell 229 = .ok (.ireturn, 1) := by decide +kernel
theorem dX3_tell_230 : decode cX3_tell 230 = .ok (.aload_n 0, 1) := by decide +kernel
theorem dX3_tell_231 : decode cX3_tell 231 = .ok (.invokevirtual 133, 3) := by decide +kernel
theorem dX3_tell_234 : decode cX3_tell 234 = .ok (.ireturn, 1) := by decide +kernel
theorem dX3_tell_235 : decode cX3_tell 235 = .ok (.aload_n 0, 1) := by decide +kernel
theorem dX3_tell_236 : decode cX3_tell 236 = .ok (.invokevirtual 136, 3) := by decide +kernel
theorem dX3_tell_239 : decode cX3_tell 239 = .ok (.ireturn, 1) := by decide +kernel
theorem dX3_tell_240 : decode cX3_tell 240 = .ok (.aload_n 0, 1) := by decide +kernel
theorem dX3_tell_241 : decode cX3_tell 241 = .ok (.invokevirtual 139, 3) := by decide +kernel
theorem dX3_tell_244 : decode cX3_tell 244 = .ok (.ireturn, 1) := by decide +kernel
theorem dX3_tell_245 : decode cX3_tell 245 = .ok (.aload_n 0, 1) := by decide +kernel
theorem dX3_tell_246 : decode cX3_tell 246 = .ok (.invokevirtual 142, 3) := by decide +kernel
theorem dX3_tell_249 : decode cX3_tell 249 = .ok (.ireturn, 1) := by decide +kernel
theorem dX3_tell_250 : decode cX3_tell 250 = .ok (.aload_n 0, 1) := by decide +kernel
theorem dX3_tell_251 : decode cX3_tell 251 = .ok (.invokevirtual 145, 3) := by decide +kernel
theorem dX3_tell_254 : decode cX3_tell 254 = .ok (.ireturn, 1) := by decide +kernel
theorem dX3_tell_255 : decode cX3_tell 255 = .ok (.aload_n 0, 1) := by decide +kernel
theorem dX3_tell_256 : decode cX3_tell 256 = .ok (.invokevirtual 148, 3) := by decide +kernel
theorem dX3_tell_259 : decode cX3_tell 259 = .ok (.ireturn, 1) := by decide +kernel
theorem dX3_tell_260 : decode cX3_tell 260 = .ok (.aload_n 0, 1) := by decide +kernel
theorem dX3_tell_261 : decode cX3_tell 261 = .ok (.invokevirtual 151, 3) := by decide +kernel
theorem dX3_tell_264 : decode cX3_tell 264 = .ok (.ireturn, 1) := by decide +kernel
theorem dX3_tell_265 : decode cX3_tell 265 = .ok (.aload_n 0, 1) := by decide +kernel
theorem dX3_tell_266 : decode cX3_tell 266 = .ok (.invokevirtual 154, 3) := by decide +kernel
theorem dX3_tell_269 : decode cX3_tell 269 = .ok (.ireturn, 1) := by decide +kernel
theorem dX3_tell_270 : decode cX3_tell 270 = .ok (.aload_n 0, 1) := by decide +kernel
theorem dX3_tell_271 : decode cX3_tell 271 = .ok (.invokevirtual 157, 3) := by decide +kernel
theorem dX3_tell_274 : decode cX3_tell 274 = .ok (.ireturn, 1) := by decide +kernel
theorem dX3_tell_275 : decode cX3_tell 275 = .ok (.aload_n 0, 1) := by decide +kernel
theorem dX3_tell_276 : decode cX3_tell 276 = .ok (.invokevirtual 160, 3) := by decide +kernel
theorem dX3_tell_279 : decode cX3_tell 279 = .ok (.ireturn, 1) := by decide +kernel
theorem dX3_tell_280 : decode cX3_tell 280 = .ok (.aload_n 0, 1) := by decide +kernel
theorem dX3_tell_281 : decode cX3_tell 281 = .ok (.invokevirtual 163, 3) := by decide +kernel
theorem dX3_tell_284 : decode cX3_tell 284 = .ok (.ireturn, 1) := by decide +kernel
theorem dX3_tell_285 : decode cX3_tell 285 = .ok (.aload_n 0, 1) := by decide +kernel
theorem dX3_tell_286 : decode cX3_tell 286 = .ok (.invokevirtual 166, 3) := by decide +kernel
theorem dX3_tell_289 : decode cX3_tell 289 = .ok (.ireturn, 1) := by decide +kernel
theorem dX3_tell_290 : decode cX3_tell 290 = .ok (.aload_n 0, 1) := by decide +kernel
theorem dX3_tell_291 : decode cX3_tell 291 = .ok (.invokevirtual 169, 3) := by decide +kernel
theorem dX3_tell_294 : decode cX3_tell 294 = .ok (.ireturn, 1) := by decide +kernel
theorem dX3_tell_295 : decode cX3_tell 295 = .ok (.aload_n 0, 1) := by decide +kernel
theorem dX3_tell_296 : decode cX3_tell 296 = .ok (.invokevirtual 172, 3) := by decide +kernel
theorem dX3_tell_299 : decode cX3_tell 299 = .ok (.ireturn, 1) := by decide +kernel
theorem dX3_tell_300 : decode cX3_tell 300 = .ok (.aload_n 0, 1) := by decide +kernel
theorem dX3_tell_301 : decode cX3_tell 301 = .ok (.invokevirtual 175, 3) := by decide +kernel
theorem dX3_tell_304 : decode cX3_tell 304 = .ok (.ireturn, 1) := by decide +kernel
theorem dX3_tell_305 : decode cX3_tell 305 = .ok (.aload_n 0, 1) := by decide +kernel
theorem dX3_tell_306 : decode cX3_tell 306 = .ok (.invokevirtual 178, 3) := by decide +kernel
theorem dX3_tell_309 : decode cX3_tell 309 = .ok (.ireturn, 1) := by decide +kernel
theorem dX3_tell_310 : decode cX3_tell 310 = .ok (.aload_n 0, 1) := by decide +kernel
theorem dX3_tell_311 : decode cX3_tell 311 = .ok (.invokevirtual 181, 3) := by decide +kernel
theorem dX3_tell_314 : decode cX3_tell 314 = .ok (.ireturn, 1) := by decide +kernel
theorem dX3_tell_315 : decode cX3_tell 315 = .ok (.iconst 0, 1) := by decide +kernel
theorem dX3_tell_316 : decode cX3_tell 316 = .ok (.ireturn, 1) := by decide +kernel
def j_X3_tell_117 (r : Nat) (Q : Int32 → St → Prop) (v3 : Int32) (v4 : Int32) (σ : St) : Prop :=
  nmS (up2 σ 13 18 (v4 / 1440)) (fun σ24 =>
  if v3 = 1 then
  (wp_X3_comeIn σ24 (fun y26 σ25 =>
  Q y26 σ25))
  else (if v3 = 2 then
  (wp_X3_goOut σ24 (fun y28 σ27 =>
  Q y28 σ27))
  else (if v3 = 3 then
  (wp_X3_goOn σ24 (fun y30 σ29 =>
  Q y30 σ29))
  else (if v3 = 4 then
  (wp_X3_comeBack σ24 (fun y32 σ31 =>
  Q y32 σ31))
  else (if v3 = 5 then
  (wp_X3_putElsewhere σ24 (fun y34 σ33 =>
  Q y34 σ33))
  else (if v3 = 6 then
  (wp_X3_goInto σ24 (fun y36 σ35 =>
  Q y36 σ35))
  else (if v3 = 7 then
  (wp_X3_comeFrom σ24 (fun y38 σ37 =>
  Q y38 σ37))
  else (if v3 = 8 then
  (wp_X3_close σ24 (fun y40 σ39 =>
  Q y40 σ39))
  else (if v3 = 9 then
  (wp_X3_unseal σ24 (fun y42 σ41 =>
  Q y42 σ41))
  else (if v3 = 10 then
  (wp_X3_look σ24 (fun y44 σ43 =>
  Q y44 σ43))
  else (if v3 = 11 then
  (wp_X3_takePart σ24 (fun y46 σ45 =>
  Q y46 σ45))
  else (if v3 = 12 then
  (wp_X3_takeCopy σ24 (fun y48 σ47 =>
  Q y48 σ47))
  else (if v3 = 13 then
  (wp_X3_weigh σ24 (fun y50 σ49 =>
  Q y50 σ49))
  else (if v3 = 14 then
  (wp_X3_keep σ24 (fun y52 σ51 =>
  Q y52 σ51))
  else (if v3 = 15 then
  (wp_X3_doom σ24 (fun y54 σ53 =>
  Q y54 σ53))
  else (if v3 = 16 then
  (wp_X3_beginTrial σ24 (fun y56 σ55 =>
  Q y56 σ55))
  else (if v3 = 17 then
  (wp_X3_endTrial σ24 (fun y58 σ57 =>
  Q y58 σ57))
  else (if v3 = 18 then
  (wp_X3_destroy σ24 (fun y60 σ59 =>
  Q y60 σ59))
  else (if v3 = 19 then
  (wp_X3_find σ24 (fun y62 σ61 =>
  Q y62 σ61))
  else (Q 0 σ24))))))))))))))))))))
theorem wk_X3_tell_117 {r : Nat} (X : cx p s m args c cX3_tell 5 RX3 D (wC cI cZ cH a n) A (tyW cI cZ cH)) (hr9 : meth.sig.returnType = (some .boolean)) (hlk9 : meth.locks = false) (hr : r = 7 ∨ r = 10) {Q : Int32 → St → Prop} {v3 : Int32} {v4 : Int32} {σ : St} (h : j_X3_tell_117 r Q v3 v4 σ) : go p l e rm_X3_tell s m args below meth c D (wC cI cZ cH a n) A 0 0 (MQ below (va_Qi (fun r9 u9 => isB r9 ∧ Q r9 u9) (atw D (wC cI cZ cH a n) (tyW cI cZ cH) A) A) args s 0 0 A) 5 117 [(0, .ref (a 13)), (3, .int v3), (4, .int v4)] [] σ := by
  delta j_X3_tell_117 at h
  refine r_aload_n X 0 118 dX3_tell_117 rfl rfl rfl ?_
  refine r_iload X 2 120 dX3_tell_118 rfl rfl ?_
  refine r_sipush (v := 1440) X 123 dX3_tell_120 (by decide) rfl ?_
  refine r_idiv X 124 dX3_tell_123 (by decide) rfl ?_
  refine u_X3_123 X 127 dX3_tell_124 rfl ?_
  refine r_nmS h (fun σ24 h => ?_)
  refine r_iload_n X 1 128 dX3_tell_127 rfl rfl rfl ?_
  refine r_ifs h (fun hc1 h => ?_) (fun hc1 h => ?_)
  · refine r_tabIn X 220 dX3_tell_128 hc1 (by decide) (by decide) rfl rfl ?_
    refine r_aload_n X 0 221 dX3_tell_220 rfl rfl rfl ?_
    refine r_callI (As := []) (rest := []) X 224 (c_X3_comeIn h) ml_X3_126 lk_X3_comeIn wC_at_13 rfl rfl rfl (Nat.le_of_ble_eq_true rfl) ⟨rfl, rfl, ⟨Nat.le_of_ble_eq_true rfl, Nat.le_of_ble_eq_true rfl⟩, Nat.le_of_ble_eq_true rfl, Nat.le_of_ble_eq_true rfl⟩ dX3_tell_221 rfl (fun y26 σ25 h => ?_)
    obtain ⟨hb_y26, h⟩ := h
    exact r_zret X hr9 hlk9 hb_y26 h dX3_tell_224
  · refine r_ifs h (fun hc2 h => ?_) (fun hc2 h => ?_)
    · refine r_tabIn X 225 dX3_tell_128 hc2 (by decide) (by decide) rfl rfl ?_
      refine r_aload_n X 0 226 dX3_tell_225 rfl rfl rfl ?_
      refine r_callI (As := []) (rest := []) X 229 (c_X3_goOut h) ml_X3_130 lk_X3_goOut wC_at_13 rfl rfl rfl (Nat.le_of_ble_eq_true rfl) ⟨rfl, rfl, ⟨Nat.le_of_ble_eq_true rfl, Nat.le_of_ble_eq_true rfl⟩, Nat.le_of_ble_eq_true rfl, Nat.le_of_ble_eq_true rfl⟩ dX3_tell_226 rfl (fun y28 σ27 h => ?_)
      obtain ⟨hb_y28, h⟩ := h
      exact r_zret X hr9 hlk9 hb_y28 h dX3_tell_229
    · refine r_ifs h (fun hc3 h => ?_) (fun hc3 h => ?_)
      · refine r_tabIn X 230 dX3_tell_128 hc3 (by decide) (by decide) rfl rfl ?_
        refine r_aload_n X 0 231 dX3_tell_230 rfl rfl rfl ?_
        refine r_callI (As := []) (rest := []) X 234 (c_X3_goOn h) ml_X3_133 lk_X3_goOn wC_at_13 rfl rfl rfl (Nat.le_of_ble_eq_true rfl) ⟨rfl, rfl, ⟨Nat.le_of_ble_eq_true rfl, Nat.le_of_ble_eq_true rfl⟩, Nat.le_of_ble_eq_true rfl, Nat.le_of_ble_eq_true rfl⟩ dX3_tell_231 rfl (fun y30 σ29 h => ?_)
        obtain ⟨hb_y30, h⟩ := h
        exact r_zret X hr9 hlk9 hb_y30 h dX3_tell_234
      · refine r_ifs h (fun hc4 h => ?_) (fun hc4 h => ?_)
        · refine r_tabIn X 235 dX3_tell_128 hc4 (by decide) (by decide) rfl rfl ?_
          refine r_aload_n X 0 236 dX3_tell_235 rfl rfl rfl ?_
          refine r_callI (As := []) (rest := []) X 239 (c_X3_comeBack h) ml_X3_136 lk_X3_comeBack wC_at_13 rfl rfl rfl (Nat.le_of_ble_eq_true rfl) ⟨rfl, rfl, ⟨Nat.le_of_ble_eq_true rfl, Nat.le_of_ble_eq_true rfl⟩, Nat.le_of_ble_eq_true rfl, Nat.le_of_ble_eq_true rfl⟩ dX3_tell_236 rfl (fun y32 σ31 h => ?_)
          obtain ⟨hb_y32, h⟩ := h
          exact r_zret X hr9 hlk9 hb_y32 h dX3_tell_239
        · refine r_ifs h (fun hc5 h => ?_) (fun hc5 h => ?_)
          · refine r_tabIn X 240 dX3_tell_128 hc5 (by decide) (by decide) rfl rfl ?_
            refine r_aload_n X 0 241 dX3_tell_240 rfl rfl rfl ?_
            refine r_callI (As := []) (rest := []) X 244 (c_X3_putElsewhere h) ml_X3_139 lk_X3_putElsewhere wC_at_13 rfl rfl rfl (Nat.le_of_ble_eq_true rfl) ⟨rfl, rfl, ⟨Nat.le_of_ble_eq_true rfl, Nat.le_of_ble_eq_true rfl⟩, Nat.le_of_ble_eq_true rfl, Nat.le_of_ble_eq_true rfl⟩ dX3_tell_241 rfl (fun y34 σ33 h => ?_)
            obtain ⟨hb_y34, h⟩ := h
            exact r_zret X hr9 hlk9 hb_y34 h dX3_tell_244
          · refine r_ifs h (fun hc6 h => ?_) (fun hc6 h => ?_)
            · refine r_tabIn X 245 dX3_tell_128 hc6 (by decide) (by decide) rfl rfl ?_
              refine r_aload_n X 0 246 dX3_tell_245 rfl rfl rfl ?_
              refine r_callI (As := []) (rest := []) X 249 (c_X3_goInto h) ml_X3_142 lk_X3_goInto wC_at_13 rfl rfl rfl (Nat.le_of_ble_eq_true rfl) ⟨rfl, rfl, ⟨Nat.le_of_ble_eq_true rfl, Nat.le_of_ble_eq_true rfl⟩, Nat.le_of_ble_eq_true rfl, Nat.le_of_ble_eq_true rfl⟩ dX3_tell_246 rfl (fun y36 σ35 h => ?_)
              obtain ⟨hb_y36, h⟩ := h
              exact r_zret X hr9 hlk9 hb_y36 h dX3_tell_249
            · refine r_ifs h (fun hc7 h => ?_) (fun hc7 h => ?_)
              · refine r_tabIn X 250 dX3_tell_128 hc7 (by decide) (by decide) rfl rfl ?_
                refine r_aload_n X 0 251 dX3_tell_250 rfl rfl rfl ?_
                refine r_callI (As := []) (rest := []) X 254 (c_X3_comeFrom h) ml_X3_145 lk_X3_comeFrom wC_at_13 rfl rfl rfl (Nat.le_of_ble_eq_true rfl) ⟨rfl, rfl, ⟨Nat.le_of_ble_eq_true rfl, Nat.le_of_ble_eq_true rfl⟩, Nat.le_of_ble_eq_true rfl, Nat.le_of_ble_eq_true rfl⟩ dX3_tell_251 rfl (fun y38 σ37 h => ?_)
                obtain ⟨hb_y38, h⟩ := h
                exact r_zret X hr9 hlk9 hb_y38 h dX3_tell_254
              · refine r_ifs h (fun hc8 h => ?_) (fun hc8 h => ?_)
                · refine r_tabIn X 255 dX3_tell_128 hc8 (by decide) (by decide) rfl rfl ?_
                  refine r_aload_n X 0 256 dX3_tell_255 rfl rfl rfl ?_
                  refine r_callI (As := []) (rest := []) X 259 (c_X3_close h) ml_X3_148 lk_X3_close wC_at_13 rfl rfl rfl (Nat.le_of_ble_eq_true rfl) ⟨rfl, rfl, ⟨Nat.le_of_ble_eq_true rfl, Nat.le_of_ble_eq_true rfl⟩, Nat.le_of_ble_eq_true rfl, Nat.le_of_ble_eq_true rfl⟩ dX3_tell_256 rfl (fun y40 σ39 h => ?_)
                  obtain ⟨hb_y40, h⟩ := h
                  exact r_zret X hr9 hlk9 hb_y40 h dX3_tell_259
                · refine r_ifs h (fun hc9 h => ?_) (fun hc9 h => ?_)
                  · refine r_tabIn X 260 dX3_tell_128 hc9 (by decide) (by decide) rfl rfl ?_
                    refine r_aload_n X 0 261 dX3_tell_260 rfl rfl rfl ?_
                    refine r_callI (As := []) (rest := []) X 264 (c_X3_unseal h) ml_X3_151 lk_X3_unseal wC_at_13 rfl rfl rfl (Nat.le_of_ble_eq_true rfl) ⟨rfl, rfl, ⟨Nat.le_of_ble_eq_true rfl, Nat.le_of_ble_eq_true rfl⟩, Nat.le_of_ble_eq_true rfl, Nat.le_of_ble_eq_true rfl⟩ dX3_tell_261 rfl (fun y42 σ41 h => ?_)
                    obtain ⟨hb_y42, h⟩ := h
                    exact r_zret X hr9 hlk9 hb_y42 h dX3_tell_264
                  · refine r_ifs h (fun hc10 h => ?_) (fun hc10 h => ?_)
                    · refine r_tabIn X 265 dX3_tell_128 hc10 (by decide) (by decide) rfl rfl ?_
                      refine r_aload_n X 0 266 dX3_tell_265 rfl rfl rfl ?_
                      refine r_callI (As := []) (rest := []) X 269 (c_X3_look h) ml_X3_154 lk_X3_look wC_at_13 rfl rfl rfl (Nat.le_of_ble_eq_true rfl) ⟨rfl, rfl, ⟨Nat.le_of_ble_eq_true rfl, Nat.le_of_ble_eq_true rfl⟩, Nat.le_of_ble_eq_true rfl, Nat.le_of_ble_eq_true rfl⟩ dX3_tell_266 rfl (fun y44 σ43 h => ?_)
                      obtain ⟨hb_y44, h⟩ := h
                      exact r_zret X hr9 hlk9 hb_y44 h dX3_tell_269
                    · refine r_ifs h (fun hc11 h => ?_) (fun hc11 h => ?_)
                      · refine r_tabIn X 270 dX3_tell_128 hc11 (by decide) (by decide) rfl rfl ?_
                        refine r_aload_n X 0 271 dX3_tell_270 rfl rfl rfl ?_
                        refine r_callI (As := []) (rest := []) X 274 (c_X3_takePart h) ml_X3_157 lk_X3_takePart wC_at_13 rfl rfl rfl (Nat.le_of_ble_eq_true rfl) ⟨rfl, rfl, ⟨Nat.le_of_ble_eq_true rfl, Nat.le_of_ble_eq_true rfl⟩, Nat.le_of_ble_eq_true rfl, Nat.le_of_ble_eq_true rfl⟩ dX3_tell_271 rfl (fun y46 σ45 h => ?_)
                        obtain ⟨hb_y46, h⟩ := h
                        exact r_zret X hr9 hlk9 hb_y46 h dX3_tell_274
                      · refine r_ifs h (fun hc12 h => ?_) (fun hc12 h => ?_)
                        · refine r_tabIn X 275 dX3_tell_128 hc12 (by decide) (by decide) rfl rfl ?_
                          refine r_aload_n X 0 276 dX3_tell_275 rfl rfl rfl ?_
                          refine r_callI (As := []) (rest := []) X 279 (c_X3_takeCopy h) ml_X3_160 lk_X3_takeCopy wC_at_13 rfl rfl rfl (Nat.le_of_ble_eq_true rfl) ⟨rfl, rfl, ⟨Nat.le_of_ble_eq_true rfl, Nat.le_of_ble_eq_true rfl⟩, Nat.le_of_ble_eq_true rfl, Nat.le_of_ble_eq_true rfl⟩ dX3_tell_276 rfl (fun y48 σ47 h => ?_)
                          obtain ⟨hb_y48, h⟩ := h
                          exact r_zret X hr9 hlk9 hb_y48 h dX3_tell_279
                        · refine r_ifs h (fun hc13 h => ?_) (fun hc13 h => ?_)
                          · refine r_tabIn X 280 dX3_tell_128 hc13 (by decide) (by decide) rfl rfl ?_
                            refine r_aload_n X 0 281 dX3_tell_280 rfl rfl rfl ?_
                            refine r_callI (As := []) (rest := []) X 284 (c_X3_weigh h) ml_X3_163 lk_X3_weigh wC_at_13 rfl rfl rfl (Nat.le_of_ble_eq_true rfl) ⟨rfl, rfl, ⟨Nat.le_of_ble_eq_true rfl, Nat.le_of_ble_eq_true rfl⟩, Nat.le_of_ble_eq_true rfl, Nat.le_of_ble_eq_true rfl⟩ dX3_tell_281 rfl (fun y50 σ49 h => ?_)
                            obtain ⟨hb_y50, h⟩ := h
                            exact r_zret X hr9 hlk9 hb_y50 h dX3_tell_284
                          · refine r_ifs h (fun hc14 h => ?_) (fun hc14 h => ?_)
                            · refine r_tabIn X 285 dX3_tell_128 hc14 (by decide) (by decide) rfl rfl ?_
                              refine r_aload_n X 0 286 dX3_tell_285 rfl rfl rfl ?_
                              refine r_callI (As := []) (rest := []) X 289 (c_X3_keep h) ml_X3_166 lk_X3_keep wC_at_13 rfl rfl rfl (Nat.le_of_ble_eq_true rfl) ⟨rfl, rfl, ⟨Nat.le_of_ble_eq_true rfl, Nat.le_of_ble_eq_true rfl⟩, Nat.le_of_ble_eq_true rfl, Nat.le_of_ble_eq_true rfl⟩ dX3_tell_286 rfl (fun y52 σ51 h => ?_)
                              obtain ⟨hb_y52, h⟩ := h
                              exact r_zret X hr9 hlk9 hb_y52 h dX3_tell_289
                            · refine r_ifs h (fun hc15 h => ?_) (fun hc15 h => ?_)
                              · refine r_tabIn X 290 dX3_tell_128 hc15 (by decide) (by decide) rfl rfl ?_
                                refine r_aload_n X 0 291 dX3_tell_290 rfl rfl rfl ?_
                                refine r_callI (As := []) (rest := []) X 294 (c_X3_doom h) ml_X3_169 lk_X3_doom wC_at_13 rfl rfl rfl (Nat.le_of_ble_eq_true rfl) ⟨rfl, rfl, ⟨Nat.le_of_ble_eq_true rfl, Nat.le_of_ble_eq_true rfl⟩, Nat.le_of_ble_eq_true rfl, Nat.le_of_ble_eq_true rfl⟩ dX3_tell_291 rfl (fun y54 σ53 h => ?_)
                                obtain ⟨hb_y54, h⟩ := h
                                exact r_zret X hr9 hlk9 hb_y54 h dX3_tell_294
                              · refine r_ifs h (fun hc16 h => ?_) (fun hc16 h => ?_)
                                · refine r_tabIn X 295 dX3_tell_128 hc16 (by decide) (by decide) rfl rfl ?_
                                  refine r_aload_n X 0 296 dX3_tell_295 rfl rfl rfl ?_
                                  refine r_callI (As := []) (rest := []) X 299 (c_X3_beginTrial h) ml_X3_172 lk_X3_beginTrial wC_at_13 rfl rfl rfl (Nat.le_of_ble_eq_true rfl) ⟨rfl, rfl, ⟨Nat.le_of_ble_eq_true rfl, Nat.le_of_ble_eq_true rfl⟩, Nat.le_of_ble_eq_true rfl, Nat.le_of_ble_eq_true rfl⟩ dX3_tell_296 rfl (fun y56 σ55 h => ?_)
                                  obtain ⟨hb_y56, h⟩ := h
                                  exact r_zret X hr9 hlk9 hb_y56 h dX3_tell_299
                                · refine r_ifs h (fun hc17 h => ?_) (fun hc17 h => ?_)
                                  · refine r_tabIn X 300 dX3_tell_128 hc17 (by decide) (by decide) rfl rfl ?_
                                    refine r_aload_n X 0 301 dX3_tell_300 rfl rfl rfl ?_
                                    refine r_callI (As := []) (rest := []) X 304 (c_X3_endTrial h) ml_X3_175 lk_X3_endTrial wC_at_13 rfl rfl rfl (Nat.le_of_ble_eq_true rfl) ⟨rfl, rfl, ⟨Nat.le_of_ble_eq_true rfl, Nat.le_of_ble_eq_true rfl⟩, Nat.le_of_ble_eq_true rfl, Nat.le_of_ble_eq_true rfl⟩ dX3_tell_301 rfl (fun y58 σ57 h => ?_)
                                    obtain ⟨hb_y58, h⟩ := h
                                    exact r_zret X hr9 hlk9 hb_y58 h dX3_tell_304
                                  · refine r_ifs h (fun hc18 h => ?_) (fun hc18 h => ?_)
                                    · refine r_tabIn X 305 dX3_tell_128 hc18 (by decide) (by decide) rfl rfl ?_
                                      refine r_aload_n X 0 306 dX3_tell_305 rfl rfl rfl ?_
                                      refine r_callI (As := []) (rest := []) X 309 (c_X3_destroy h) ml_X3_178 lk_X3_destroy wC_at_13 rfl rfl rfl (Nat.le_of_ble_eq_true rfl) ⟨rfl, rfl, ⟨Nat.le_of_ble_eq_true rfl, Nat.le_of_ble_eq_true rfl⟩, Nat.le_of_ble_eq_true rfl, Nat.le_of_ble_eq_true rfl⟩ dX3_tell_306 rfl (fun y60 σ59 h => ?_)
                                      obtain ⟨hb_y60, h⟩ := h
                                      exact r_zret X hr9 hlk9 hb_y60 h dX3_tell_309
                                    · refine r_ifs h (fun hc19 h => ?_) (fun hc19 h => ?_)
                                      · refine r_tabIn X 310 dX3_tell_128 hc19 (by decide) (by decide) rfl rfl ?_
                                        refine r_aload_n X 0 311 dX3_tell_310 rfl rfl rfl ?_
                                        refine r_callI (As := []) (rest := []) X 314 (c_X3_find h) ml_X3_181 lk_X3_find wC_at_13 rfl rfl rfl (Nat.le_of_ble_eq_true rfl) ⟨rfl, rfl, ⟨Nat.le_of_ble_eq_true rfl, Nat.le_of_ble_eq_true rfl⟩, Nat.le_of_ble_eq_true rfl, Nat.le_of_ble_eq_true rfl⟩ dX3_tell_311 rfl (fun y62 σ61 h => ?_)
                                        obtain ⟨hb_y62, h⟩ := h
                                        exact r_zret X hr9 hlk9 hb_y62 h dX3_tell_314
                                      · refine r_tabOut X 315 dX3_tell_128 (by have e1 := tn_ (k := 1) hc1 rfl; have e2 := tn_ (k := 2) hc2 rfl; have e3 := tn_ (k := 3) hc3 rfl; have e4 := tn_ (k := 4) hc4 rfl; have e5 := tn_ (k := 5) hc5 rfl; have e6 := tn_ (k := 6) hc6 rfl; have e7 := tn_ (k := 7) hc7 rfl; have e8 := tn_ (k := 8) hc8 rfl; have e9 := tn_ (k := 9) hc9 rfl; have e10 := tn_ (k := 10) hc10 rfl; have e11 := tn_ (k := 11) hc11 rfl; have e12 := tn_ (k := 12) hc12 rfl; have e13 := tn_ (k := 13) hc13 rfl; have e14 := tn_ (k := 14) hc14 rfl; have e15 := tn_ (k := 15) hc15 rfl; have e16 := tn_ (k := 16) hc16 rfl; have e17 := tn_ (k := 17) hc17 rfl; have e18 := tn_ (k := 18) hc18 rfl; have e19 := tn_ (k := 19) hc19 rfl; omega) rfl ?_
                                        refine r_iconst (v := 0) X 316 dX3_tell_315 (by decide) rfl ?_
                                        exact r_zret X hr9 hlk9 isB_0 h dX3_tell_316
def wp_X3_tell (r : Nat) (σ : St) (x2 : Int32) (Q : Int32 → St → Prop) : Prop :=
  wp_X2_cell r σ x2 0 (fun y2 σ1 =>
  wp_X2_cell r σ1 x2 6 (fun y4 σ3 =>
  wp_X2_cell r σ3 x2 1 (fun y6 σ5 =>
  nmS (up2 σ5 13 13 y6) (fun σ7 =>
  wp_X2_cell r σ7 x2 2 (fun y9 σ8 =>
  nmS (up2 σ8 13 14 y9) (fun σ10 =>
  wp_X2_cell r σ10 x2 3 (fun y12 σ11 =>
  nmS (up2 σ11 13 15 y12) (fun σ13 =>
  wp_X2_cell r σ13 x2 4 (fun y15 σ14 =>
  nmS (up2 σ14 13 16 y15) (fun σ16 =>
  wp_X2_cell r σ16 x2 5 (fun y18 σ17 =>
  nmS (up2 σ17 13 17 y18) (fun σ19 =>
  if y4 < 0 then
  (Q 0 σ19)
  else (wp_X2_cell r σ19 x2 7 (fun y21 σ20 =>
  if y21 < y4 then
  (Q 0 σ20)
  else (wp_X4_isThing σ20 (σ20 13 13) (fun y23 σ22 =>
  if y23 = 0 then
  (Q 0 σ22)
  else (if y2 = 1 then
  (j_X3_tell_117 r Q y2 y4 σ22)
  else (wp_X3_isKept σ22 (σ22 13 13) (fun y64 σ63 =>
  if y64 = 0 then
  (Q 0 σ63)
  else (j_X3_tell_117 r Q y2 y4 σ63))))))))))))))))))))
theorem c_X3_tell {r : Nat} (hr : r = 7 ∨ r = 10) {σ : St} {x2 : Int32} {Q : Int32 → St → Prop} (h : wp_X3_tell r σ x2 Q) : ctI l yX3_tell cX3_tell 5 (some .boolean) rm_X3_tell D (wC cI cZ cH a n) (tyW cI cZ cH) [.ref (a 13), .ref (a r), .int x2] σ (fun r9 u9 => isB r9 ∧ Q r9 u9) := by
  refine mk_I (wC_ok cI cZ cH a n) (by decide +kernel) (Nat.le_of_ble_eq_true rfl) (fun p e s m args below meth c A X hr9 hlk9 => ?_)
  refine r_pick (lv' := [(0, .ref (a 13)), (1, .ref (a r)), (2, .int x2)]) [0, 1, 2] rfl ?_
  delta wp_X3_tell at h
  refine r_aload_n X 1 1 dX3_tell_0 rfl rfl rfl ?_
  refine r_iload_n X 2 2 dX3_tell_1 rfl rfl rfl ?_
  refine r_iconst (v := 0) X 3 dX3_tell_2 (by decide) rfl ?_
  refine r_callNI (As := [.int x2, .int 0]) (rest := []) X 6 (c_X2_cell hr h) ml_X3_69 lk_X2_cell (wC_at_r hr) rfl rfl rfl (Nat.le_of_ble_eq_true rfl) ⟨rfl, rfl, ⟨Nat.le_of_ble_eq_true rfl, Nat.le_of_ble_eq_true rfl⟩, Nat.le_of_ble_eq_true rfl, Nat.le_of_ble_eq_true rfl⟩ dX3_tell_3 rfl (fun y2 σ1 h => ?_)
  refine r_istore_n X 7 [(3, .int y2), (0, .ref (a 13)), (1, .ref (a r)), (2, .int x2)] dX3_tell_6 rfl (by decide) rfl rfl ?_
  refine r_aload_n X 2 8 dX3_tell_7 rfl rfl rfl ?_
  refine r_iload_n X 3 9 dX3_tell_8 rfl rfl rfl ?_
  refine r_bipush (v := 6) X 11 dX3_tell_9 (by decide) rfl ?_
  refine r_callNI (As := [.int x2, .int 6]) (rest := []) X 14 (c_X2_cell hr h) ml_X3_69 lk_X2_cell (wC_at_r hr) rfl rfl rfl (Nat.le_of_ble_eq_true rfl) ⟨rfl, rfl, ⟨Nat.le_of_ble_eq_true rfl, Nat.le_of_ble_eq_true rfl⟩, Nat.le_of_ble_eq_true rfl, Nat.le_of_ble_eq_true rfl⟩ dX3_tell_11 rfl (fun y4 σ3 h => ?_)
  refine r_istore X 16 [(4, .int y4), (3, .int y2), (0, .ref (a 13)), (1, .ref (a r)), (2, .int x2)] dX3_tell_14 (by decide) rfl rfl ?_
  refine r_aload_n X 2 17 dX3_tell_16 rfl rfl rfl ?_
  refine r_aload_n X 3 18 dX3_tell_17 rfl rfl rfl ?_
  refine r_iload_n X 4 19 dX3_tell_18 rfl rfl rfl ?_
  refine r_iconst (v := 1) X 20 dX3_tell_19 (by decide) rfl ?_
  refine r_callNI (As := [.int x2, .int 1]) (rest := [.ref (a 13)]) X 23 (c_X2_cell hr h) ml_X3_69 lk_X2_cell (wC_at_r hr) rfl rfl rfl (Nat.le_of_ble_eq_true rfl) ⟨rfl, rfl, ⟨Nat.le_of_ble_eq_true rfl, Nat.le_of_ble_eq_true rfl⟩, Nat.le_of_ble_eq_true rfl, Nat.le_of_ble_eq_true rfl⟩ dX3_tell_20 rfl (fun y6 σ5 h => ?_)
  refine u_X3_108 X 26 dX3_tell_23 rfl ?_
  refine r_nmS h (fun σ7 h => ?_)
  refine r_aload_n X 2 27 dX3_tell_26 rfl rfl rfl ?_
  refine r_aload_n X 3 28 dX3_tell_27 rfl rfl rfl ?_
  refine r_iload_n X 4 29 dX3_tell_28 rfl rfl rfl ?_
  refine r_iconst (v := 2) X 30 dX3_tell_29 (by decide) rfl ?_
  refine r_callNI (As := [.int x2, .int 2]) (rest := [.ref (a 13)]) X 33 (c_X2_cell hr h) ml_X3_69 lk_X2_cell (wC_at_r hr) rfl rfl rfl (Nat.le_of_ble_eq_true rfl) ⟨rfl, rfl, ⟨Nat.le_of_ble_eq_true rfl, Nat.le_of_ble_eq_true rfl⟩, Nat.le_of_ble_eq_true rfl, Nat.le_of_ble_eq_true rfl⟩ dX3_tell_30 rfl (fun y9 σ8 h => ?_)
  refine u_X3_111 X 36 dX3_tell_33 rfl ?_
  refine r_nmS h (fun σ10 h => ?_)
  refine r_aload_n X 2 37 dX3_tell_36 rfl rfl rfl ?_
  refine r_aload_n X 3 38 dX3_tell_37 rfl rfl rfl ?_
  refine r_iload_n X 4 39 dX3_tell_38 rfl rfl rfl ?_
  refine r_iconst (v := 3) X 40 dX3_tell_39 (by decide) rfl ?_
  refine r_callNI (As := [.int x2, .int 3]) (rest := [.ref (a 13)]) X 43 (c_X2_cell hr h) ml_X3_69 lk_X2_cell (wC_at_r hr) rfl rfl rfl (Nat.le_of_ble_eq_true rfl) ⟨rfl, rfl, ⟨Nat.le_of_ble_eq_true rfl, Nat.le_of_ble_eq_true rfl⟩, Nat.le_of_ble_eq_true rfl, Nat.le_of_ble_eq_true rfl⟩ dX3_tell_40 rfl (fun y12 σ11 h => ?_)
  refine u_X3_114 X 46 dX3_tell_43 rfl ?_
  refine r_nmS h (fun σ13 h => ?_)
  refine r_aload_n X 2 47 dX3_tell_46 rfl rfl rfl ?_
  refine r_aload_n X 3 48 dX3_tell_47 rfl rfl rfl ?_
  refine r_iload_n X 4 49 dX3_tell_48 rfl rfl rfl ?_
  refine r_iconst (v := 4) X 50 dX3_tell_49 (by decide) rfl ?_
  refine r_callNI (As := [.int x2, .int 4]) (rest := [.ref (a 13)]) X 53 (c_X2_cell hr h) ml_X3_69 lk_X2_cell (wC_at_r hr) rfl rfl rfl (Nat.le_of_ble_eq_true rfl) ⟨rfl, rfl, ⟨Nat.le_of_ble_eq_true rfl, Nat.le_of_ble_eq_true rfl⟩, Nat.le_of_ble_eq_true rfl, Nat.le_of_ble_eq_true rfl⟩ dX3_tell_50 rfl (fun y15 σ14 h => ?_)
  refine u_X3_117 X 56 dX3_tell_53 rfl ?_
  refine r_nmS h (fun σ16 h => ?_)
  refine r_aload_n X 2 57 dX3_tell_56 rfl rfl rfl ?_
  refine r_aload_n X 3 58 dX3_tell_57 rfl rfl rfl ?_
  refine r_iload_n X 4 59 dX3_tell_58 rfl rfl rfl ?_
  refine r_iconst (v := 5) X 60 dX3_tell_59 (by decide) rfl ?_
  refine r_callNI (As := [.int x2, .int 5]) (rest := [.ref (a 13)]) X 63 (c_X2_cell hr h) ml_X3_69 lk_X2_cell (wC_at_r hr) rfl rfl rfl (Nat.le_of_ble_eq_true rfl) ⟨rfl, rfl, ⟨Nat.le_of_ble_eq_true rfl, Nat.le_of_ble_eq_true rfl⟩, Nat.le_of_ble_eq_true rfl, Nat.le_of_ble_eq_true rfl⟩ dX3_tell_60 rfl (fun y18 σ17 h => ?_)
  refine u_X3_120 X 66 dX3_tell_63 rfl ?_
  refine r_nmS h (fun σ19 h => ?_)
  refine r_iload X 0 68 dX3_tell_66 rfl rfl ?_
  refine r_if_lt X 97 71 h dX3_tell_68 rfl rfl (fun h => ?_) (fun h => ?_)
  · refine r_iconst (v := 0) X 98 dX3_tell_97 (by decide) rfl ?_
    exact r_zret X hr9 hlk9 isB_0 h dX3_tell_98
  · refine r_iload X 0 73 dX3_tell_71 rfl rfl ?_
    refine r_aload_n X 3 74 dX3_tell_73 rfl rfl rfl ?_
    refine r_iload_n X 4 75 dX3_tell_74 rfl rfl rfl ?_
    refine r_bipush (v := 7) X 77 dX3_tell_75 (by decide) rfl ?_
    refine r_callNI (As := [.int x2, .int 7]) (rest := [.int y4]) X 80 (c_X2_cell hr h) ml_X3_69 lk_X2_cell (wC_at_r hr) rfl rfl rfl (Nat.le_of_ble_eq_true rfl) ⟨rfl, rfl, ⟨Nat.le_of_ble_eq_true rfl, Nat.le_of_ble_eq_true rfl⟩, Nat.le_of_ble_eq_true rfl, Nat.le_of_ble_eq_true rfl⟩ dX3_tell_77 rfl (fun y21 σ20 h => ?_)
    refine r_icmp_gt X 97 83 h dX3_tell_80 rfl rfl (fun h => ?_) (fun h => ?_)
    · refine r_iconst (v := 0) X 98 dX3_tell_97 (by decide) rfl ?_
      exact r_zret X hr9 hlk9 isB_0 h dX3_tell_98
    · refine r_aload_n X 2 84 dX3_tell_83 rfl rfl rfl ?_
      refine g_X3_48 X 87 dX3_tell_84 rfl ?_
      refine r_aload_n X 2 88 dX3_tell_87 rfl rfl rfl ?_
      refine g_X3_108 X 91 dX3_tell_88 rfl ?_
      refine r_callNI (As := [.int (σ20 13 13)]) (rest := []) X 94 (c_X4_isThing h) ml_X3_73 lk_X4_isThing wC_at_1 rfl rfl rfl (Nat.le_of_ble_eq_true rfl) ⟨rfl, rfl, ⟨Nat.le_of_ble_eq_true rfl, Nat.le_of_ble_eq_true rfl⟩, Nat.le_of_ble_eq_true rfl, Nat.le_of_ble_eq_true rfl⟩ dX3_tell_91 rfl (fun y23 σ22 h => ?_)
      obtain ⟨hb_y23, h⟩ := h
      refine r_if_ne X 99 97 h dX3_tell_94 rfl rfl (fun h => ?_) (fun h => ?_)
      · refine r_iload_n X 1 100 dX3_tell_99 rfl rfl rfl ?_
        refine r_iconst (v := 1) X 101 dX3_tell_100 (by decide) rfl ?_
        refine r_icmp_eq X 117 104 h dX3_tell_101 rfl rfl (fun h => ?_) (fun h => ?_)
        · refine r_pick (lv' := [(0, .ref (a 13)), (3, .int y2), (4, .int y4)]) [2, 1, 0] rfl ?_
          exact wk_X3_tell_117 X hr9 hlk9 hr h
        · refine r_aload_n X 2 105 dX3_tell_104 rfl rfl rfl ?_
          refine r_aload_n X 2 106 dX3_tell_105 rfl rfl rfl ?_
          refine g_X3_108 X 109 dX3_tell_106 rfl ?_
          refine r_callI (As := [.int (σ22 13 13)]) (rest := []) X 112 (c_X3_isKept h) ml_X3_90 lk_X3_isKept wC_at_13 rfl rfl rfl (Nat.le_of_ble_eq_true rfl) ⟨rfl, rfl, ⟨Nat.le_of_ble_eq_true rfl, Nat.le_of_ble_eq_true rfl⟩, Nat.le_of_ble_eq_true rfl, Nat.le_of_ble_eq_true rfl⟩ dX3_tell_109 rfl (fun y64 σ63 h => ?_)
          obtain ⟨hb_y64, h⟩ := h
          refine r_if_ne X 117 115 h dX3_tell_112 rfl rfl (fun h => ?_) (fun h => ?_)
          · refine r_pick (lv' := [(0, .ref (a 13)), (3, .int y2), (4, .int y4)]) [2, 1, 0] rfl ?_
            exact wk_X3_tell_117 X hr9 hlk9 hr h
          · refine r_iconst (v := 0) X 116 dX3_tell_115 (by decide) rfl ?_
            exact r_zret X hr9 hlk9 isB_0 h dX3_tell_116
      · refine r_iconst (v := 0) X 98 dX3_tell_97 (by decide) rfl ?_
        exact r_zret X hr9 hlk9 isB_0 h dX3_tell_98
def rm_X3_firstUndone : Room := { frames := 5, cells := 0, slots := 0, locals := 113 }
theorem dX3_firstUndone_0 : decode cX3_firstUndone 0 = .ok (.aload_n 0, 1) := by decide +kernel
theorem dX3_firstUndone_1 : decode cX3_firstUndone 1 = .ok (.invokevirtual 52, 3) := by decide +kernel
theorem dX3_firstUndone_4 : decode cX3_firstUndone 4 = .ok (.iconst 0, 1) := by decide +kernel
theorem dX3_firstUndone_5 : decode cX3_firstUndone 5 = .ok (.istore_n 2, 1) := by decide +kernel
theorem dX3_firstUndone_6 : decode cX3_firstUndone 6 = .ok (.iload_n 2, 1) := by decide +kernel
theorem dX3_firstUndone_7 : decode cX3_firstUndone 7 = .ok (.aload_n 1, 1) := by decide +kernel
theorem dX3_firstUndone_8 : decode cX3_firstUndone 8 = .ok (.getfield 55, 3) := by decide +kernel
theorem dX3_firstUndone_11 : decode cX3_firstUndone 11 = .ok (.if_icmp .ge 26, 3) := by decide +kernel
theorem dX3_firstUndone_14 : decode cX3_firstUndone 14 = .ok (.aload_n 1, 1) := by decide +kernel
theorem dX3_firstUndone_15 : decode cX3_firstUndone 15 = .ok (.iload_n 2, 1) := by decide +kernel
theorem dX3_firstUndone_16 : decode cX3_firstUndone 16 = .ok (.invokevirtual 61, 3) := by decide +kernel
theorem dX3_firstUndone_19 : decode cX3_firstUndone 19 = .ok (.istore_n 3, 1) := by decide +kernel
theorem dX3_firstUndone_20 : decode cX3_firstUndone 20 = .ok (.aload_n 0, 1) := by decide +kernel
theorem dX3_firstUndone_21 : decode cX3_firstUndone 21 = .ok (.aload_n 1, 1) := by decide +kernel
theorem dX3_firstUndone_22 : decode cX3_firstUndone 22 = .ok (.iload_n 3, 1) := by decide +kernel
theorem dX3_firstUndone_23 : decode cX3_firstUndone 23 = .ok (.invokevirtual 65, 3) := by decide +kernel
theorem dX3_firstUndone_26 : decode cX3_firstUndone 26 = .ok (.ifCond .ne 5, 3) := by decide +kernel
theorem dX3_firstUndone_29 : decode cX3_firstUndone 29 = .ok (.iload_n 3, 1) := by decide +kernel
theorem dX3_firstUndone_30 : decode cX3_firstUndone 30 = .ok (.ireturn, 1) := by decide +kernel
theorem dX3_firstUndone_31 : decode cX3_firstUndone 31 = .ok (.iinc 2 1, 3) := by decide +kernel
theorem dX3_firstUndone_34 : decode cX3_firstUndone 34 = .ok (.goto (-28), 3) := by decide +kernel
theorem dX3_firstUndone_37 : decode cX3_firstUndone 37 = .ok (.iconst (-1), 1) := by decide +kernel
theorem dX3_firstUndone_38 : decode cX3_firstUndone 38 = .ok (.ireturn, 1) := by decide +kernel
def b_X3_firstUndone_6 (r : Nat) (Q : Int32 → St → Prop) (rec6 : Int32 → St → Prop) (v2 : Int32) (σ : St) : Prop :=
  if v2 < (σ r 2) then
  (wp_X2_inOrder r σ v2 (fun y3 σ2 =>
  wp_X3_tell r σ2 y3 (fun y5 σ4 =>
  if y5 = 0 then
  (Q y3 σ4)
  else (rec6 (v2 + 1) σ4))))
  else (Q (-1) σ)
def lp_X3_firstUndone_6 (r : Nat) (Q : Int32 → St → Prop) (n9 : Nat) : Int32 → St → Prop :=
  Nat.rec (fun _ _ => False) (fun _ rec9 => b_X3_firstUndone_6 r Q  rec9) n9
theorem wk_X3_firstUndone_6 {r : Nat} (X : cx p s m args c cX3_firstUndone 4 RX3 D (wC cI cZ cH a n) A (tyW cI cZ cH)) (hr9 : meth.sig.returnType = (some .int)) (hlk9 : meth.locks = false) (hr : r = 7 ∨ r = 10) {Q : Int32 → St → Prop} : ∀ (n9 : Nat) {v2 : Int32} {σ : St}, lp_X3_firstUndone_6 r Q n9 v2 σ → go p l e rm_X3_firstUndone s m args below meth c D (wC cI cZ cH a n) A 0 0 (MQ below (va_Qi Q (atw D (wC cI cZ cH a n) (tyW cI cZ cH) A) A) args s 0 0 A) 4 6 [(0, .ref (a 13)), (1, .ref (a r)), (2, .int v2)] [] σ := by
  intro n9
  induction n9 with
  | zero => intro v2 σ h; exact h.elim
  | succ n9 ih =>
    intro v2 σ h
    have hrec6 := fun v2 σ h => ih (σ := σ) (v2 := v2) h
    replace h : b_X3_firstUndone_6 r Q (lp_X3_firstUndone_6 r Q n9) v2 σ := h
    delta b_X3_firstUndone_6 at h
    refine r_iload_n X 2 7 dX3_firstUndone_6 rfl rfl rfl ?_
    refine r_aload_n X 1 8 dX3_firstUndone_7 rfl rfl rfl ?_
    refine g_X3_55 X hr 11 dX3_firstUndone_8 rfl ?_
    refine r_icmp_ge X 37 14 h dX3_firstUndone_11 rfl rfl (fun h => ?_) (fun h => ?_)
    · refine r_iconst (v := (-1)) X 38 dX3_firstUndone_37 (by decide) rfl ?_
      exact r_iret X hr9 hlk9 h dX3_firstUndone_38
    · refine r_aload_n X 1 15 dX3_firstUndone_14 rfl rfl rfl ?_
      refine r_iload_n X 2 16 dX3_firstUndone_15 rfl rfl rfl ?_
      refine r_callNI (As := [.int v2]) (rest := []) X 19 (c_X2_inOrder hr h) ml_X3_61 lk_X2_inOrder (wC_at_r hr) rfl rfl rfl (Nat.le_of_ble_eq_true rfl) ⟨rfl, rfl, ⟨Nat.le_of_ble_eq_true rfl, Nat.le_of_ble_eq_true rfl⟩, Nat.le_of_ble_eq_true rfl, Nat.le_of_ble_eq_true rfl⟩ dX3_firstUndone_16 rfl (fun y3 σ2 h => ?_)
      refine r_istore_n X 20 [(3, .int y3), (0, .ref (a 13)), (1, .ref (a r)), (2, .int v2)] dX3_firstUndone_19 rfl (by decide) rfl rfl ?_
      refine r_aload_n X 1 21 dX3_firstUndone_20 rfl rfl rfl ?_
      refine r_aload_n X 2 22 dX3_firstUndone_21 rfl rfl rfl ?_
      refine r_iload_n X 0 23 dX3_firstUndone_22 rfl rfl rfl ?_
      refine r_callI (As := [.ref (a r), .int y3]) (rest := []) X 26 (c_X3_tell hr h) ml_X3_65 lk_X3_tell wC_at_13 rfl rfl rfl (Nat.le_of_ble_eq_true rfl) ⟨rfl, rfl, ⟨Nat.le_of_ble_eq_true rfl, Nat.le_of_ble_eq_true rfl⟩, Nat.le_of_ble_eq_true rfl, Nat.le_of_ble_eq_true rfl⟩ dX3_firstUndone_23 rfl (fun y5 σ4 h => ?_)
      obtain ⟨hb_y5, h⟩ := h
      refine r_if_ne X 31 29 h dX3_firstUndone_26 rfl rfl (fun h => ?_) (fun h => ?_)
      · refine r_iinc (d := 1) X 3 34 [(2, .int (v2 + 1)), (3, .int y3), (0, .ref (a 13)), (1, .ref (a r))] dX3_firstUndone_31 rfl (by decide) (by decide) rfl rfl ?_
        refine r_goto X 6 dX3_firstUndone_34 rfl ?_
        refine r_pick (lv' := [(0, .ref (a 13)), (1, .ref (a r)), (2, .int (v2 + 1))]) [2, 3, 0] rfl ?_
        exact hrec6 _ _ h
      · refine r_iload_n X 0 30 dX3_firstUndone_29 rfl rfl rfl ?_
        exact r_iret X hr9 hlk9 h dX3_firstUndone_30
def wp_X3_firstUndone (r : Nat) (σ : St) (Q : Int32 → St → Prop) : Prop :=
  wp_X3_clear σ (fun σ1 =>
  ∃ n9 : Nat, lp_X3_firstUndone_6 r Q n9 0 σ1)
theorem c_X3_firstUndone {r : Nat} (hr : r = 7 ∨ r = 10) {σ : St} {Q : Int32 → St → Prop} (h : wp_X3_firstUndone r σ Q) : ctI l yX3_firstUndone cX3_firstUndone 4 (some .int) rm_X3_firstUndone D (wC cI cZ cH a n) (tyW cI cZ cH) [.ref (a 13), .ref (a r)] σ Q := by
  refine mk_I (wC_ok cI cZ cH a n) (by decide +kernel) (Nat.le_of_ble_eq_true rfl) (fun p e s m args below meth c A X hr9 hlk9 => ?_)
  refine r_pick (lv' := [(0, .ref (a 13)), (1, .ref (a r))]) [0, 1] rfl ?_
  delta wp_X3_firstUndone at h
  refine r_aload_n X 0 1 dX3_firstUndone_0 rfl rfl rfl ?_
  refine r_callV (As := []) (rest := []) X 4 (c_X3_clear h) ml_X3_52 lk_X3_clear wC_at_13 rfl rfl rfl (Nat.le_of_ble_eq_true rfl) ⟨rfl, rfl, ⟨Nat.le_of_ble_eq_true rfl, Nat.le_of_ble_eq_true rfl⟩, Nat.le_of_ble_eq_true rfl, Nat.le_of_ble_eq_true rfl⟩ dX3_firstUndone_1 rfl (fun σ1 h => ?_)
  refine r_iconst (v := 0) X 5 dX3_firstUndone_4 (by decide) rfl ?_
  refine r_istore_n X 6 [(2, .int 0), (0, .ref (a 13)), (1, .ref (a r))] dX3_firstUndone_5 rfl (by decide) rfl rfl ?_
  refine r_pick (lv' := [(0, .ref (a 13)), (1, .ref (a r)), (2, .int 0)]) [1, 2, 0] rfl ?_
  obtain ⟨n9, h⟩ := h
  exact wk_X3_firstUndone_6 X hr9 hlk9 hr n9 h
def rm_X3_tellKnown : Room := { frames := 5, cells := 0, slots := 0, locals := 113 }
theorem dX3_tellKnown_0 : decode cX3_tellKnown 0 = .ok (.aload_n 0, 1) := by decide +kernel
theorem dX3_tellKnown_1 : decode cX3_tellKnown 1 = .ok (.invokevirtual 52, 3) := by decide +kernel
theorem dX3_tellKnown_4 : decode cX3_tellKnown 4 = .ok (.iconst 0, 1) := by decide +kernel
theorem dX3_tellKnown_5 : decode cX3_tellKnown 5 = .ok (.istore 4, 2) := by decide +kernel
theorem dX3_tellKnown_7 : decode cX3_tellKnown 7 = .ok (.iload 4, 2) := by decide +kernel
theorem dX3_tellKnown_9 : decode cX3_tellKnown 9 = .ok (.aload_n 1, 1) := by decide +kernel
theorem dX3_tellKnown_10 : decode cX3_tellKnown 10 = .ok (.getfield 55, 3) := by decide +kernel
theorem dX3_tellKnown_13 : decode cX3_tellKnown 13 = .ok (.if_icmp .ge 49, 3) := by decide +kernel
theorem dX3_tellKnown_16 : decode cX3_tellKnown 16 = .ok (.aload_n 1, 1) := by decide +kernel
theorem dX3_tellKnown_17 : decode cX3_tellKnown 17 = .ok (.iload 4, 2) := by decide +kernel
theorem dX3_tellKnown_19 : decode cX3_tellKnown 19 = .ok (.invokevirtual 61, 3) := by decide +kernel
theorem dX3_tellKnown_22 : decode cX3_tellKnown 22 = .ok (.istore 5, 2) := by decide +kernel
theorem dX3_tellKnown_24 : decode cX3_tellKnown 24 = .ok (.aload_n 1, 1) := by decide +kernel
theorem dX3_tellKnown_25 : decode cX3_tellKnown 25 = .ok (.iload 5, 2) := by decide +kernel
theorem dX3_tellKnown_27 : decode cX3_tellKnown 27 = .ok (.bipush 6, 2) := by decide +kernel
theorem dX3_tellKnown_29 : decode cX3_tellKnown 29 = .ok (.invokevirtual 69, 3) := by decide +kernel
theorem dX3_tellKnown_32 : decode cX3_tellKnown 32 = .ok (.iload_n 2, 1) := by decide +kernel
theorem dX3_tellKnown_33 : decode cX3_tellKnown 33 = .ok (.if_icmp .gt 23, 3) := by decide +kernel
theorem dX3_tellKnown_36 : decode cX3_tellKnown 36 = .ok (.aload_n 1, 1) := by decide +kernel
theorem dX3_tellKnown_37 : decode cX3_tellKnown 37 = .ok (.iload 5, 2) := by decide +kernel
theorem dX3_tellKnown_39 : decode cX3_tellKnown 39 = .ok (.bipush 7, 2) := by decide +kernel
theorem dX3_tellKnown_41 : decode cX3_tellKnown 41 = .ok (.invokevirtual 69, 3) := by decide +kernel
theorem dX3_tellKnown_44 : decode cX3_tellKnown 44 = .ok (.iload_n 3, 1) := by decide +kernel
theorem dX3_tellKnown_45 : decode cX3_tellKnown 45 = .ok (.if_icmp .gt 11, 3) := by decide +kernel
theorem dX3_tellKnown_48 : decode cX3_tellKnown 48 = .ok (.aload_n 0, 1) := by decide +kernel
theorem dX3_tellKnown_49 : decode cX3_tellKnown 49 = .ok (.aload_n 1, 1) := by decide +kernel
theorem dX3_tellKnown_50 : decode cX3_tellKnown 50 = .ok (.iload 5, 2) := by decide +kernel
theorem dX3_tellKnown_52 : decode cX3_tellKnown 52 = .ok (.invokevirtual 65, 3) := by decide +kernel
theorem dX3_tellKnown_55 : decode cX3_tellKnown 55 = .ok (.pop, 1) := by decide +kernel
theorem dX3_tellKnown_56 : decode cX3_tellKnown 56 = .ok (.iinc 4 1, 3) := by decide +kernel
theorem dX3_tellKnown_59 : decode cX3_tellKnown 59 = .ok (.goto (-52), 3) := by decide +kernel
theorem dX3_tellKnown_62 : decode cX3_tellKnown 62 = .ok (.return_, 1) := by decide +kernel
def j_X3_tellKnown_56 (r : Nat) (Q : St → Prop) (rec7 : Int32 → Int32 → Int32 → St → Prop) (v2 : Int32) (v3 : Int32) (v4 : Int32) (σ : St) : Prop :=
  rec7 v2 v3 (v4 + 1) σ
theorem wk_X3_tellKnown_56 {r : Nat} (X : cx p s m args c cX3_tellKnown 6 RX3 D (wC cI cZ cH a n) A (tyW cI cZ cH)) (hr9 : meth.sig.returnType = none) (hlk9 : meth.locks = false) (hr : r = 7 ∨ r = 10) {Q : St → Prop} {rec7 : Int32 → Int32 → Int32 → St → Prop} (hrec7 : ∀ (v2 : Int32) (v3 : Int32) (v4 : Int32) (σ : St), rec7 v2 v3 v4 σ → go p l e rm_X3_tellKnown s m args below meth c D (wC cI cZ cH a n) A 0 0 (MQ below (va_Qv Q (atw D (wC cI cZ cH a n) (tyW cI cZ cH) A) A) args s 0 0 A) 6 7 [(0, .ref (a 13)), (1, .ref (a r)), (2, .int v2), (3, .int v3), (4, .int v4)] [] σ) {v2 : Int32} {v3 : Int32} {v4 : Int32} {σ : St} (h : j_X3_tellKnown_56 r Q rec7 v2 v3 v4 σ) : go p l e rm_X3_tellKnown s m args below meth c D (wC cI cZ cH a n) A 0 0 (MQ below (va_Qv Q (atw D (wC cI cZ cH a n) (tyW cI cZ cH) A) A) args s 0 0 A) 6 56 [(0, .ref (a 13)), (1, .ref (a r)), (2, .int v2), (3, .int v3), (4, .int v4)] [] σ := by
  delta j_X3_tellKnown_56 at h
  refine r_iinc (d := 1) X 4 59 [(4, .int (v4 + 1)), (0, .ref (a 13)), (1, .ref (a r)), (2, .int v2), (3, .int v3)] dX3_tellKnown_56 rfl (by decide) (by decide) rfl rfl ?_
  refine r_goto X 7 dX3_tellKnown_59 rfl ?_
  refine r_pick (lv' := [(0, .ref (a 13)), (1, .ref (a r)), (2, .int v2), (3, .int v3), (4, .int (v4 + 1))]) [1, 2, 3, 4, 0] rfl ?_
  exact hrec7 _ _ _ _ h
def b_X3_tellKnown_7 (r : Nat) (Q : St → Prop) (rec7 : Int32 → Int32 → Int32 → St → Prop) (v2 : Int32) (v3 : Int32) (v4 : Int32) (σ : St) : Prop :=
  if v4 < (σ r 2) then
  (wp_X2_inOrder r σ v4 (fun y3 σ2 =>
  wp_X2_cell r σ2 y3 6 (fun y5 σ4 =>
  if v2 < y5 then
  (j_X3_tellKnown_56 r Q rec7 v2 v3 v4 σ4)
  else (wp_X2_cell r σ4 y3 7 (fun y7 σ6 =>
  if v3 < y7 then
  (j_X3_tellKnown_56 r Q rec7 v2 v3 v4 σ6)
  else (wp_X3_tell r σ6 y3 (fun y9 σ8 =>
  j_X3_tellKnown_56 r Q rec7 v2 v3 v4 σ8)))))))
  else (Q σ)
def lp_X3_tellKnown_7 (r : Nat) (Q : St → Prop) (n9 : Nat) : Int32 → Int32 → Int32 → St → Prop :=
  Nat.rec (fun _ _ _ _ => False) (fun _ rec9 => b_X3_tellKnown_7 r Q  rec9) n9
theorem wk_X3_tellKnown_7 {r : Nat} (X : cx p s m args c cX3_tellKnown 6 RX3 D (wC cI cZ cH a n) A (tyW cI cZ cH)) (hr9 : meth.sig.returnType = none) (hlk9 : meth.locks = false) (hr : r = 7 ∨ r = 10) {Q : St → Prop} : ∀ (n9 : Nat) {v2 : Int32} {v3 : Int32} {v4 : Int32} {σ : St}, lp_X3_tellKnown_7 r Q n9 v2 v3 v4 σ → go p l e rm_X3_tellKnown s m args below meth c D (wC cI cZ cH a n) A 0 0 (MQ below (va_Qv Q (atw D (wC cI cZ cH a n) (tyW cI cZ cH) A) A) args s 0 0 A) 6 7 [(0, .ref (a 13)), (1, .ref (a r)), (2, .int v2), (3, .int v3), (4, .int v4)] [] σ := by
  intro n9
  induction n9 with
  | zero => intro v2 v3 v4 σ h; exact h.elim
  | succ n9 ih =>
    intro v2 v3 v4 σ h
    have hrec7 := fun v2 v3 v4 σ h => ih (σ := σ) (v2 := v2) (v3 := v3) (v4 := v4) h
    replace h : b_X3_tellKnown_7 r Q (lp_X3_tellKnown_7 r Q n9) v2 v3 v4 σ := h
    delta b_X3_tellKnown_7 at h
    refine r_iload X 4 9 dX3_tellKnown_7 rfl rfl ?_
    refine r_aload_n X 1 10 dX3_tellKnown_9 rfl rfl rfl ?_
    refine g_X3_55 X hr 13 dX3_tellKnown_10 rfl ?_
    refine r_icmp_ge X 62 16 h dX3_tellKnown_13 rfl rfl (fun h => ?_) (fun h => ?_)
    · exact r_vret X hr9 hlk9 h dX3_tellKnown_62
    · refine r_aload_n X 1 17 dX3_tellKnown_16 rfl rfl rfl ?_
      refine r_iload X 4 19 dX3_tellKnown_17 rfl rfl ?_
      refine r_callNI (As := [.int v4]) (rest := []) X 22 (c_X2_inOrder hr h) ml_X3_61 lk_X2_inOrder (wC_at_r hr) rfl rfl rfl (Nat.le_of_ble_eq_true rfl) ⟨rfl, rfl, ⟨Nat.le_of_ble_eq_true rfl, Nat.le_of_ble_eq_true rfl⟩, Nat.le_of_ble_eq_true rfl, Nat.le_of_ble_eq_true rfl⟩ dX3_tellKnown_19 rfl (fun y3 σ2 h => ?_)
      refine r_istore X 24 [(5, .int y3), (0, .ref (a 13)), (1, .ref (a r)), (2, .int v2), (3, .int v3), (4, .int v4)] dX3_tellKnown_22 (by decide) rfl rfl ?_
      refine r_aload_n X 2 25 dX3_tellKnown_24 rfl rfl rfl ?_
      refine r_iload X 0 27 dX3_tellKnown_25 rfl rfl ?_
      refine r_bipush (v := 6) X 29 dX3_tellKnown_27 (by decide) rfl ?_
      refine r_callNI (As := [.int y3, .int 6]) (rest := []) X 32 (c_X2_cell hr h) ml_X3_69 lk_X2_cell (wC_at_r hr) rfl rfl rfl (Nat.le_of_ble_eq_true rfl) ⟨rfl, rfl, ⟨Nat.le_of_ble_eq_true rfl, Nat.le_of_ble_eq_true rfl⟩, Nat.le_of_ble_eq_true rfl, Nat.le_of_ble_eq_true rfl⟩ dX3_tellKnown_29 rfl (fun y5 σ4 h => ?_)
      refine r_iload_n X 3 33 dX3_tellKnown_32 rfl rfl rfl ?_
      refine r_icmp_gt X 56 36 h dX3_tellKnown_33 rfl rfl (fun h => ?_) (fun h => ?_)
      · refine r_pick (lv' := [(0, .ref (a 13)), (1, .ref (a r)), (2, .int v2), (3, .int v3), (4, .int v4)]) [1, 2, 3, 4, 5] rfl ?_
        exact wk_X3_tellKnown_56 X hr9 hlk9 hr hrec7 h
      · refine r_aload_n X 2 37 dX3_tellKnown_36 rfl rfl rfl ?_
        refine r_iload X 0 39 dX3_tellKnown_37 rfl rfl ?_
        refine r_bipush (v := 7) X 41 dX3_tellKnown_39 (by decide) rfl ?_
        refine r_callNI (As := [.int y3, .int 7]) (rest := []) X 44 (c_X2_cell hr h) ml_X3_69 lk_X2_cell (wC_at_r hr) rfl rfl rfl (Nat.le_of_ble_eq_true rfl) ⟨rfl, rfl, ⟨Nat.le_of_ble_eq_true rfl, Nat.le_of_ble_eq_true rfl⟩, Nat.le_of_ble_eq_true rfl, Nat.le_of_ble_eq_true rfl⟩ dX3_tellKnown_41 rfl (fun y7 σ6 h => ?_)
        refine r_iload_n X 4 45 dX3_tellKnown_44 rfl rfl rfl ?_
        refine r_icmp_gt X 56 48 h dX3_tellKnown_45 rfl rfl (fun h => ?_) (fun h => ?_)
        · refine r_pick (lv' := [(0, .ref (a 13)), (1, .ref (a r)), (2, .int v2), (3, .int v3), (4, .int v4)]) [1, 2, 3, 4, 5] rfl ?_
          exact wk_X3_tellKnown_56 X hr9 hlk9 hr hrec7 h
        · refine r_aload_n X 1 49 dX3_tellKnown_48 rfl rfl rfl ?_
          refine r_aload_n X 2 50 dX3_tellKnown_49 rfl rfl rfl ?_
          refine r_iload X 0 52 dX3_tellKnown_50 rfl rfl ?_
          refine r_callI (As := [.ref (a r), .int y3]) (rest := []) X 55 (c_X3_tell hr h) ml_X3_65 lk_X3_tell wC_at_13 rfl rfl rfl (Nat.le_of_ble_eq_true rfl) ⟨rfl, rfl, ⟨Nat.le_of_ble_eq_true rfl, Nat.le_of_ble_eq_true rfl⟩, Nat.le_of_ble_eq_true rfl, Nat.le_of_ble_eq_true rfl⟩ dX3_tellKnown_52 rfl (fun y9 σ8 h => ?_)
          obtain ⟨hb_y9, h⟩ := h
          refine r_pop X 56 dX3_tellKnown_55 rfl rfl ?_
          refine r_pick (lv' := [(0, .ref (a 13)), (1, .ref (a r)), (2, .int v2), (3, .int v3), (4, .int v4)]) [1, 2, 3, 4, 5] rfl ?_
          exact wk_X3_tellKnown_56 X hr9 hlk9 hr hrec7 h
def wp_X3_tellKnown (r : Nat) (σ : St) (x2 : Int32) (x3 : Int32) (Q : St → Prop) : Prop :=
  wp_X3_clear σ (fun σ1 =>
  ∃ n9 : Nat, lp_X3_tellKnown_7 r Q n9 x2 x3 0 σ1)
theorem c_X3_tellKnown {r : Nat} (hr : r = 7 ∨ r = 10) {σ : St} {x2 : Int32} {x3 : Int32} {Q : St → Prop} (h : wp_X3_tellKnown r σ x2 x3 Q) : ctV l yX3_tellKnown cX3_tellKnown 6 none rm_X3_tellKnown D (wC cI cZ cH a n) (tyW cI cZ cH) [.ref (a 13), .ref (a r), .int x2, .int x3] σ Q := by
  refine mk_V (wC_ok cI cZ cH a n) (by decide +kernel) (Nat.le_of_ble_eq_true rfl) (fun p e s m args below meth c A X hr9 hlk9 => ?_)
  refine r_pick (lv' := [(0, .ref (a 13)), (1, .ref (a r)), (2, .int x2), (3, .int x3)]) [0, 1, 2, 3] rfl ?_
  delta wp_X3_tellKnown at h
  refine r_aload_n X 0 1 dX3_tellKnown_0 rfl rfl rfl ?_
  refine r_callV (As := []) (rest := []) X 4 (c_X3_clear h) ml_X3_52 lk_X3_clear wC_at_13 rfl rfl rfl (Nat.le_of_ble_eq_true rfl) ⟨rfl, rfl, ⟨Nat.le_of_ble_eq_true rfl, Nat.le_of_ble_eq_true rfl⟩, Nat.le_of_ble_eq_true rfl, Nat.le_of_ble_eq_true rfl⟩ dX3_tellKnown_1 rfl (fun σ1 h => ?_)
  refine r_iconst (v := 0) X 5 dX3_tellKnown_4 (by decide) rfl ?_
  refine r_istore X 7 [(4, .int 0), (0, .ref (a 13)), (1, .ref (a r)), (2, .int x2), (3, .int x3)] dX3_tellKnown_5 (by decide) rfl rfl ?_
  refine r_pick (lv' := [(0, .ref (a 13)), (1, .ref (a r)), (2, .int x2), (3, .int x3), (4, .int 0)]) [1, 2, 3, 4, 0] rfl ?_
  obtain ⟨n9, h⟩ := h
  exact wk_X3_tellKnown_7 X hr9 hlk9 hr n9 h
def rm_X3_outermost : Room := { frames := 1, cells := 0, slots := 0, locals := 21 }
theorem dX3_outermost_0 : decode cX3_outermost 0 = .ok (.iload_n 1, 1) := by decide +kernel
theorem dX3_outermost_1 : decode cX3_outermost 1 = .ok (.istore_n 2, 1) := by decide +kernel
theorem dX3_outermost_2 : decode cX3_outermost 2 = .ok (.aload_n 0, 1) := by decide +kernel
theorem dX3_outermost_3 : decode cX3_outermost 3 = .ok (.iload_n 1, 1) := by decide +kernel
theorem dX3_outermost_4 : decode cX3_outermost 4 = .ok (.invokevirtual 218, 3) := by decide +kernel
theorem dX3_outermost_7 : decode cX3_outermost 7 = .ok (.istore_n 3, 1) := by decide +kernel
theorem dX3_outermost_8 : decode cX3_outermost 8 = .ok (.iconst 0, 1) := by decide +kernel
theorem dX3_outermost_9 : decode cX3_outermost 9 = .ok (.istore 4, 2) := by decide +kernel
theorem dX3_outermost_11 : decode cX3_outermost 11 = .ok (.iload 4, 2) := by decide +kernel
theorem dX3_outermost_13 : decode cX3_outermost 13 = .ok (.iconst 4, 1) := by decide +kernel
theorem dX3_outermost_14 : decode cX3_outermost 14 = .ok (.if_icmp .ge 28, 3) := by decide +kernel
theorem dX3_outermost_17 : decode cX3_outermost 17 = .ok (.aload_n 0, 1) := by decide +kernel
theorem dX3_outermost_18 : decode cX3_outermost 18 = .ok (.getfield 48, 3) := by decide +kernel
theorem dX3_outermost_21 : decode cX3_outermost 21 = .ok (.iload_n 3, 1) := by decide +kernel
theorem dX3_outermost_22 : decode cX3_outermost 22 = .ok (.invokevirtual 73, 3) := by decide +kernel
theorem dX3_outermost_25 : decode cX3_outermost 25 = .ok (.ifCond .eq 17, 3) := by decide +kernel
theorem dX3_outermost_28 : decode cX3_outermost 28 = .ok (.iload_n 3, 1) := by decide +kernel
theorem dX3_outermost_29 : decode cX3_outermost 29 = .ok (.istore_n 2, 1) := by decide +kernel
theorem dX3_outermost_30 : decode cX3_outermost 30 = .ok (.aload_n 0, 1) := by decide +kernel
theorem dX3_outermost_31 : decode cX3_outermost 31 = .ok (.iload_n 3, 1) := by decide +kernel
theorem dX3_outermost_32 : decode cX3_outermost 32 = .ok (.invokevirtual 218, 3) := by decide +kernel
theorem dX3_outermost_35 : decode cX3_outermost 35 = .ok (.istore_n 3, 1) := by decide +kernel
theorem dX3_outermost_36 : decode cX3_outermost 36 = .ok (.iinc 4 1, 3) := by decide +kernel
theorem dX3_outermost_39 : decode cX3_outermost 39 = .ok (.goto (-28), 3) := by decide +kernel
theorem dX3_outermost_42 : decode cX3_outermost 42 = .ok (.iload_n 2, 1) := by decide +kernel
theorem dX3_outermost_43 : decode cX3_outermost 43 = .ok (.ireturn, 1) := by decide +kernel
def b_X3_outermost_11  (Q : Int32 → St → Prop) (rec11 : Int32 → Int32 → Int32 → St → Prop) (v2 : Int32) (v3 : Int32) (v4 : Int32) (σ : St) : Prop :=
  if v4 < 4 then
  (wp_X4_isThing σ v3 (fun y4 σ3 =>
  if y4 = 0 then
  (Q v2 σ3)
  else (wp_X3_bagAround σ3 v3 (fun y6 σ5 =>
  rec11 v3 y6 (v4 + 1) σ5))))
  else (Q v2 σ)
def lp_X3_outermost_11  (Q : Int32 → St → Prop) (n9 : Nat) : Int32 → Int32 → Int32 → St → Prop :=
  Nat.rec (fun _ _ _ _ => False) (fun _ rec9 => b_X3_outermost_11  Q  rec9) n9
theorem wk_X3_outermost_11 (X : cx p s m args c cX3_outermost 5 RX3 D (wC cI cZ cH a n) A (tyW cI cZ cH)) (hr9 : meth.sig.returnType = (some .int)) (hlk9 : meth.locks = false)  {Q : Int32 → St → Prop} : ∀ (n9 : Nat) {v2 : Int32} {v3 : Int32} {v4 : Int32} {σ : St}, lp_X3_outermost_11 Q n9 v2 v3 v4 σ → go p l e rm_X3_outermost s m args below meth c D (wC cI cZ cH a n) A 0 0 (MQ below (va_Qi Q (atw D (wC cI cZ cH a n) (tyW cI cZ cH) A) A) args s 0 0 A) 5 11 [(0, .ref (a 13)), (2, .int v2), (3, .int v3), (4, .int v4)] [] σ := by
  intro n9
  induction n9 with
  | zero => intro v2 v3 v4 σ h; exact h.elim
  | succ n9 ih =>
    intro v2 v3 v4 σ h
    have hrec11 := fun v2 v3 v4 σ h => ih (σ := σ) (v2 := v2) (v3 := v3) (v4 := v4) h
    replace h : b_X3_outermost_11 Q (lp_X3_outermost_11 Q n9) v2 v3 v4 σ := h
    delta b_X3_outermost_11 at h
    refine r_iload X 3 13 dX3_outermost_11 rfl rfl ?_
    refine r_iconst (v := 4) X 14 dX3_outermost_13 (by decide) rfl ?_
    refine r_icmp_ge X 42 17 h dX3_outermost_14 rfl rfl (fun h => ?_) (fun h => ?_)
    · refine r_iload_n X 1 43 dX3_outermost_42 rfl rfl rfl ?_
      exact r_iret X hr9 hlk9 h dX3_outermost_43
    · refine r_aload_n X 0 18 dX3_outermost_17 rfl rfl rfl ?_
      refine g_X3_48 X 21 dX3_outermost_18 rfl ?_
      refine r_iload_n X 2 22 dX3_outermost_21 rfl rfl rfl ?_
      refine r_callNI (As := [.int v3]) (rest := []) X 25 (c_X4_isThing h) ml_X3_73 lk_X4_isThing wC_at_1 rfl rfl rfl (Nat.le_of_ble_eq_true rfl) ⟨rfl, rfl, ⟨Nat.le_of_ble_eq_true rfl, Nat.le_of_ble_eq_true rfl⟩, Nat.le_of_ble_eq_true rfl, Nat.le_of_ble_eq_true rfl⟩ dX3_outermost_22 rfl (fun y4 σ3 h => ?_)
      obtain ⟨hb_y4, h⟩ := h
      refine r_if_eq X 42 28 h dX3_outermost_25 rfl rfl (fun h => ?_) (fun h => ?_)
      · refine r_iload_n X 1 43 dX3_outermost_42 rfl rfl rfl ?_
        exact r_iret X hr9 hlk9 h dX3_outermost_43
      · refine r_iload_n X 2 29 dX3_outermost_28 rfl rfl rfl ?_
        refine r_istore_n X 30 [(2, .int v3), (0, .ref (a 13)), (3, .int v3), (4, .int v4)] dX3_outermost_29 rfl (by decide) rfl rfl ?_
        refine r_aload_n X 1 31 dX3_outermost_30 rfl rfl rfl ?_
        refine r_iload_n X 2 32 dX3_outermost_31 rfl rfl rfl ?_
        refine r_callI (As := [.int v3]) (rest := []) X 35 (c_X3_bagAround h) ml_X3_218 lk_X3_bagAround wC_at_13 rfl rfl rfl (Nat.le_of_ble_eq_true rfl) ⟨rfl, rfl, ⟨Nat.le_of_ble_eq_true rfl, Nat.le_of_ble_eq_true rfl⟩, Nat.le_of_ble_eq_true rfl, Nat.le_of_ble_eq_true rfl⟩ dX3_outermost_32 rfl (fun y6 σ5 h => ?_)
        refine r_istore_n X 36 [(3, .int y6), (2, .int v3), (0, .ref (a 13)), (4, .int v4)] dX3_outermost_35 rfl (by decide) rfl rfl ?_
        refine r_iinc (d := 1) X 3 39 [(4, .int (v4 + 1)), (3, .int y6), (2, .int v3), (0, .ref (a 13))] dX3_outermost_36 rfl (by decide) (by decide) rfl rfl ?_
        refine r_goto X 11 dX3_outermost_39 rfl ?_
        refine r_pick (lv' := [(0, .ref (a 13)), (2, .int v3), (3, .int y6), (4, .int (v4 + 1))]) [3, 2, 1, 0] rfl ?_
        exact hrec11 _ _ _ _ h
def wp_X3_outermost  (σ : St) (x1 : Int32) (Q : Int32 → St → Prop) : Prop :=
  wp_X3_bagAround σ x1 (fun y2 σ1 =>
  ∃ n9 : Nat, lp_X3_outermost_11 Q n9 x1 y2 0 σ1)
theorem c_X3_outermost  {σ : St} {x1 : Int32} {Q : Int32 → St → Prop} (h : wp_X3_outermost σ x1 Q) : ctI l yX3_outermost cX3_outermost 5 (some .int) rm_X3_outermost D (wC cI cZ cH a n) (tyW cI cZ cH) [.ref (a 13), .int x1] σ Q := by
  refine mk_I (wC_ok cI cZ cH a n) (by decide +kernel) (Nat.le_of_ble_eq_true rfl) (fun p e s m args below meth c A X hr9 hlk9 => ?_)
  refine r_pick (lv' := [(0, .ref (a 13)), (1, .int x1)]) [0, 1] rfl ?_
  delta wp_X3_outermost at h
  refine r_iload_n X 1 1 dX3_outermost_0 rfl rfl rfl ?_
  refine r_istore_n X 2 [(2, .int x1), (0, .ref (a 13)), (1, .int x1)] dX3_outermost_1 rfl (by decide) rfl rfl ?_
  refine r_aload_n X 1 3 dX3_outermost_2 rfl rfl rfl ?_
  refine r_iload_n X 2 4 dX3_outermost_3 rfl rfl rfl ?_
  refine r_callI (As := [.int x1]) (rest := []) X 7 (c_X3_bagAround h) ml_X3_218 lk_X3_bagAround wC_at_13 rfl rfl rfl (Nat.le_of_ble_eq_true rfl) ⟨rfl, rfl, ⟨Nat.le_of_ble_eq_true rfl, Nat.le_of_ble_eq_true rfl⟩, Nat.le_of_ble_eq_true rfl, Nat.le_of_ble_eq_true rfl⟩ dX3_outermost_4 rfl (fun y2 σ1 h => ?_)
  refine r_istore_n X 8 [(3, .int y2), (2, .int x1), (0, .ref (a 13)), (1, .int x1)] dX3_outermost_7 rfl (by decide) rfl rfl ?_
  refine r_iconst (v := 0) X 9 dX3_outermost_8 (by decide) rfl ?_
  refine r_istore X 11 [(4, .int 0), (3, .int y2), (2, .int x1), (0, .ref (a 13)), (1, .int x1)] dX3_outermost_9 (by decide) rfl rfl ?_
  refine r_pick (lv' := [(0, .ref (a 13)), (2, .int x1), (3, .int y2), (4, .int 0)]) [3, 2, 1, 0] rfl ?_
  obtain ⟨n9, h⟩ := h
  exact wk_X3_outermost_11 X hr9 hlk9 n9 h
def rm_X3_answer : Room := { frames := 2, cells := 0, slots := 0, locals := 45 }
theorem dX3_answer_0 : decode cX3_answer 0 = .ok (.aload_n 0, 1) := by decide +kernel
theorem dX3_answer_1 : decode cX3_answer 1 = .ok (.getfield 48, 3) := by decide +kernel
theorem dX3_answer_4 : decode cX3_answer 4 = .ok (.iload_n 1, 1) := by decide +kernel
theorem dX3_answer_5 : decode cX3_answer 5 = .ok (.invokevirtual 73, 3) := by decide +kernel
theorem dX3_answer_8 : decode cX3_answer 8 = .ok (.ifCond .ne 5, 3) := by decide +kernel
theorem dX3_answer_11 : decode cX3_answer 11 = .ok (.iconst (-1), 1) := by decide +kernel
theorem dX3_answer_12 : decode cX3_answer 12 = .ok (.ireturn, 1) := by decide +kernel
theorem dX3_answer_13 : decode cX3_answer 13 = .ok (.iload_n 2, 1) := by decide +kernel
theorem dX3_answer_14 : decode cX3_answer 14 = .ok (.tableswitch 157 0 11 #[62, 69, 76, 83, 90, 101, 112, 119, 126, 133, 143, 150], 62) := by decide +kernel
theorem dX3_answer_76 : decode cX3_answer 76 = .ok (.aload_n 0, 1) := by decide +kernel
theorem dX3_answer_77 : decode cX3_answer 77 = .ok (.getfield 9, 3) := by decide +kernel
theorem dX3_answer_80 : decode cX3_answer 80 = .ok (.iload_n 1, 1) := by decide +kernel
theorem dX3_answer_81 : decode cX3_answer 81 = .ok (.iaload, 1) := by decide +kernel
theorem dX3_answer_82 : decode cX3_answer 82 = .ok (.ireturn, 1) := by decide +kernel
theorem dX3_answer_83 : decode cX3_answer 83 = .ok (.aload_n 0, 1) := by decide +kernel
theorem dX3_answer_84 : decode cX3_answer 84 = .ok (.getfield 15, 3) := by decide +kernel
theorem dX3_answer_87 : decode cX3_answer 87 = .ok (.iload_n 1, 1) := by decide +kernel
theorem dX3_answer_88 : decode cX3_answer 88 = .ok (.iaload, 1) := by decide +kernel
theorem dX3_answer_89 : decode cX3_answer 89 = .ok (.ireturn, 1) := by decide +kernel
theorem dX3_answer_90 : decode cX3_answer 90 = .ok (.aload_n 0, 1) := by decide +kernel
theorem dX3_answer_91 : decode cX3_answer 91 = .ok (.getfield 18, 3) := by decide +kernel
theorem dX3_answer_94 : decode cX3_answer 94 = .ok (.iload_n 1, 1) := by decide +kernel
theorem dX3_answer_95 : decode cX3_answer 95 = .ok (.iaload, 1) := by decide +kernel
theorem dX3_answer_96 : decode cX3_answer 96 = .ok (.ireturn, 1) := by decide +kernel
theorem dX3_answer_97 : decode cX3_answer 97 = .ok (.aload_n 0, 1) := by decide +kernel
theorem dX3_answer_98 : decode cX3_answer 98 = .ok (.getfield 21, 3) := by decide +kernel
theorem dX3_answer_101 : decode cX3_answer 101 = .ok (.iload_n 1, 1) := by decide +kernel
theorem dX3_answer_102 : decode cX3_answer 102 = .ok (.iaload, 1) := by decide +kernel
theorem dX3_answer_103 : decode cX3_answer 103 = .ok (.ireturn, 1) := by decide +kernel
theorem dX3_answer_104 : decode cX3_answer 104 = .ok (.aload_n 0, 1) := by decide +kernel
theorem dX3_answer_105 : decode cX3_answer 105 = .ok (.getfield 9, 3) := by decide +kernel
theorem dX3_answer_108 : decode cX3_answer 108 = .ok (.aload_n 0, 1) := by decide +kernel
theorem dX3_answer_109 : decode cX3_answer 109 = .ok (.iload_n 1, 1) := by decide +kernel
theorem dX3_answer_110 : decode cX3_answer 110 = .ok (.invokevirtual 79, 3) := by decide +kernel
theorem dX3_answer_113 : decode cX3_answer 113 = .ok (.iaload, 1) := by decide +kernel
theorem dX3_answer_114 : decode cX3_answer 114 = .ok (.ireturn, 1) := by decide +kernel
theorem dX3_answer_115 : decode cX3_answer 115 = .ok (.aload_n 0, 1) := by decide +kernel
theorem dX3_answer_116 : decode cX3_answer 116 = .ok (.getfield 15, 3) := by decide +kernel
theorem dX3_answer_119 : decode cX3_answer 119 = .ok (.aload_n 0, 1) := by decide +kernel
theorem dX3_answer_120 : decode cX3_answer 120 = .ok (.iload_n 1, 1) := by decide +kernel
theorem dX3_answer_121 : decode cX3_answer 121 = .ok (.invokevirtual 79, 3) := by decide +kernel
theorem dX3_answer_124 : decode cX3_answer 124 = .ok (.iaload, 1) := by decide +kernel
theorem dX3_answer_125 : decode cX3_answer 125 = .ok (.ireturn, 1) := by decide +kernel
theorem dX3_answer_126 : decode cX3_answer 126 = .ok (.aload_n 0, 1) := by decide +kernel
theorem dX3_answer_127 : decode cX3_answer 127 = .ok (.getfield 24, 3) := by decide +kernel
theorem dX3_answer_130 : decode cX3_answer 130 = .ok (.iload_n 1, 1) := by decide +kernel
theorem dX3_answer_131 : decode cX3_answer 131 = .ok (.iaload, 1) := by decide +kernel
theorem dX3_answer_132 : decode cX3_answer 132 = .ok (.ireturn, 1) := by decide +kernel
theorem dX3_answer_133 : decode cX3_answer 133 = .ok (.aload_n 0, 1) := by decide +kernel
theorem dX3_answer_134 : decode cX3_answer 134 = .ok (.getfield 27, 3) := by decide +kernel
theorem dX3_answer_137 : decode cX3_answer 137 = .ok (.iload_n 1, 1) := by decide +kernel
theorem dX3_answer_138 : decode cX3_answer 138 = .ok (.iaload, 1) := by decide +kernel
theorem dX3_answer_139 : decode cX3_answer 139 = .ok (.ireturn, 1) := by decide +kernel
theorem dX3_answer_140 : decode cX3_answer 140 = .ok (.aload_n 0, 1) := by decide +kernel
theorem dX3_answer_141 : decode cX3_answer 141 = .ok (.getfield 30, 3) := by decide +kernel
theorem dX3_answer_144 : decode cX3_answer 144 = .ok (.iload_n 1, 1) := by decide +kernel
theorem dX3_answer_145 : decode cX3_answer 145 = .ok (.iaload, 1) := by decide +kernel
theorem dX3_answer_146 : decode cX3_answer 146 = .ok (.ireturn, 1) := by decide +kernel
theorem dX3_answer_147 : decode cX3_answer 147 = .ok (.aload_n 0, 1) := by decide +kernel
theorem dX3_answer_148 : decode cX3_answer 148 = .ok (.getfield 33, 3) := by decide +kernel
theorem dX3_answer_151 : decode cX3_answer 151 = .ok (.iload_n 1, 1) := by decide +kernel
theorem dX3_answer_152 : decode cX3_answer 152 = .ok (.iaload, 1) := by decide +kernel
theorem dX3_answer_153 : decode cX3_answer 153 = .ok (.invokestatic 82, 3) := by decide +kernel
theorem dX3_answer_156 : decode cX3_answer 156 = .ok (.ireturn, 1) := by decide +kernel
theorem dX3_answer_157 : decode cX3_answer 157 = .ok (.aload_n 0, 1) := by decide +kernel
theorem dX3_answer_158 : decode cX3_answer 158 = .ok (.getfield 36, 3) := by decide +kernel
theorem dX3_answer_161 : decode cX3_answer 161 = .ok (.iload_n 1, 1) := by decide +kernel
theorem dX3_answer_162 : decode cX3_answer 162 = .ok (.iaload, 1) := by decide +kernel
theorem dX3_answer_163 : decode cX3_answer 163 = .ok (.ireturn, 1) := by decide +kernel
theorem dX3_answer_164 : decode cX3_answer 164 = .ok (.aload_n 0, 1) := by decide +kernel
theorem dX3_answer_165 : decode cX3_answer 165 = .ok (.getfield 39, 3) := by decide +kernel
theorem dX3_answer_168 : decode cX3_answer 168 = .ok (.iload_n 1, 1) := by decide +kernel
theorem dX3_answer_169 : decode cX3_answer 169 = .ok (.iaload, 1) := by decide +kernel
theorem dX3_answer_170 : decode cX3_answer 170 = .ok (.ireturn, 1) := by decide +kernel
theorem dX3_answer_171 : decode cX3_answer 171 = .ok (.iconst (-1), 1) := by decide +kernel
theorem dX3_answer_172 : decode cX3_answer 172 = .ok (.ireturn, 1) := by decide +kernel
def wp_X3_answer  (σ : St) (x1 : Int32) (x2 : Int32) (Q : Int32 → St → Prop) : Prop :=
  wp_X4_isThing σ x1 (fun y2 σ1 =>
  if y2 = 0 then
  (Q (-1) σ1)
  else (if x2 = 0 then
  (vp_in x1 60 ∧
  (Q (σ1 14 (ix x1)) σ1))
  else (if x2 = 1 then
  (vp_in x1 60 ∧
  (Q (σ1 15 (ix x1)) σ1))
  else (if x2 = 2 then
  (vp_in x1 60 ∧
  (Q (σ1 16 (ix x1)) σ1))
  else (if x2 = 3 then
  (vp_in x1 60 ∧
  (Q (σ1 17 (ix x1)) σ1))
  else (if x2 = 4 then
  (wp_X3_outermost σ1 x1 (fun y4 σ3 =>
  vp_in y4 60 ∧
  (Q (σ3 14 (ix y4)) σ3)))
  else (if x2 = 5 then
  (wp_X3_outermost σ1 x1 (fun y6 σ5 =>
  vp_in y6 60 ∧
  (Q (σ5 15 (ix y6)) σ5)))
  else (if x2 = 6 then
  (vp_in x1 60 ∧
  (Q (σ1 18 (ix x1)) σ1))
  else (if x2 = 7 then
  (vp_in x1 60 ∧
  (Q (σ1 19 (ix x1)) σ1))
  else (if x2 = 8 then
  (vp_in x1 60 ∧
  (Q (σ1 20 (ix x1)) σ1))
  else (if x2 = 9 then
  (vp_in x1 60 ∧
  (wp_J6_bitCount_0f7a4 σ1 (σ1 21 (ix x1)) (fun y8 σ7 =>
  Q y8 σ7)))
  else (if x2 = 10 then
  (vp_in x1 60 ∧
  (Q (σ1 22 (ix x1)) σ1))
  else (if x2 = 11 then
  (vp_in x1 60 ∧
  (Q (σ1 23 (ix x1)) σ1))
  else (Q (-1) σ1))))))))))))))
theorem c_X3_answer  {σ : St} {x1 : Int32} {x2 : Int32} {Q : Int32 → St → Prop} (h : wp_X3_answer σ x1 x2 Q) : ctI l yX3_answer cX3_answer 3 (some .int) rm_X3_answer D (wC cI cZ cH a n) (tyW cI cZ cH) [.ref (a 13), .int x1, .int x2] σ Q := by
  refine mk_I (wC_ok cI cZ cH a n) (by decide +kernel) (Nat.le_of_ble_eq_true rfl) (fun p e s m args below meth c A X hr9 hlk9 => ?_)
  refine r_pick (lv' := [(0, .ref (a 13)), (1, .int x1), (2, .int x2)]) [0, 1, 2] rfl ?_
  delta wp_X3_answer at h
  refine r_aload_n X 0 1 dX3_answer_0 rfl rfl rfl ?_
  refine g_X3_48 X 4 dX3_answer_1 rfl ?_
  refine r_iload_n X 1 5 dX3_answer_4 rfl rfl rfl ?_
  refine r_callNI (As := [.int x1]) (rest := []) X 8 (c_X4_isThing h) ml_X3_73 lk_X4_isThing wC_at_1 rfl rfl rfl (Nat.le_of_ble_eq_true rfl) ⟨rfl, rfl, ⟨Nat.le_of_ble_eq_true rfl, Nat.le_of_ble_eq_true rfl⟩, Nat.le_of_ble_eq_true rfl, Nat.le_of_ble_eq_true rfl⟩ dX3_answer_5 rfl (fun y2 σ1 h => ?_)
  obtain ⟨hb_y2, h⟩ := h
  refine r_if_ne X 13 11 h dX3_answer_8 rfl rfl (fun h => ?_) (fun h => ?_)
  · refine r_iload_n X 2 14 dX3_answer_13 rfl rfl rfl ?_
    refine r_ifs h (fun hc0 h => ?_) (fun hc0 h => ?_)
    · refine r_tabIn X 76 dX3_answer_14 hc0 (by decide) (by decide) rfl rfl ?_
      refine r_aload_n X 0 77 dX3_answer_76 rfl rfl rfl ?_
      refine g_X3_9 X 80 dX3_answer_77 rfl ?_
      refine r_iload_n X 1 81 dX3_answer_80 rfl rfl rfl ?_
      obtain ⟨hin, h⟩ := h
      refine l_C14 X 82 hin dX3_answer_81 rfl ?_
      exact r_iret X hr9 hlk9 h dX3_answer_82
    · refine r_ifs h (fun hc1 h => ?_) (fun hc1 h => ?_)
      · refine r_tabIn X 83 dX3_answer_14 hc1 (by decide) (by decide) rfl rfl ?_
        refine r_aload_n X 0 84 dX3_answer_83 rfl rfl rfl ?_
        refine g_X3_15 X 87 dX3_answer_84 rfl ?_
        refine r_iload_n X 1 88 dX3_answer_87 rfl rfl rfl ?_
        obtain ⟨hin, h⟩ := h
        refine l_C15 X 89 hin dX3_answer_88 rfl ?_
        exact r_iret X hr9 hlk9 h dX3_answer_89
      · refine r_ifs h (fun hc2 h => ?_) (fun hc2 h => ?_)
        · refine r_tabIn X 90 dX3_answer_14 hc2 (by decide) (by decide) rfl rfl ?_
          refine r_aload_n X 0 91 dX3_answer_90 rfl rfl rfl ?_
          refine g_X3_18 X 94 dX3_answer_91 rfl ?_
          refine r_iload_n X 1 95 dX3_answer_94 rfl rfl rfl ?_
          obtain ⟨hin, h⟩ := h
          refine l_C16 X 96 hin dX3_answer_95 rfl ?_
          exact r_iret X hr9 hlk9 h dX3_answer_96
        · refine r_ifs h (fun hc3 h => ?_) (fun hc3 h => ?_)
          · refine r_tabIn X 97 dX3_answer_14 hc3 (by decide) (by decide) rfl rfl ?_
            refine r_aload_n X 0 98 dX3_answer_97 rfl rfl rfl ?_
            refine g_X3_21 X 101 dX3_answer_98 rfl ?_
            refine r_iload_n X 1 102 dX3_answer_101 rfl rfl rfl ?_
            obtain ⟨hin, h⟩ := h
            refine l_C17 X 103 hin dX3_answer_102 rfl ?_
            exact r_iret X hr9 hlk9 h dX3_answer_103
          · refine r_ifs h (fun hc4 h => ?_) (fun hc4 h => ?_)
            · refine r_tabIn X 104 dX3_answer_14 hc4 (by decide) (by decide) rfl rfl ?_
              refine r_aload_n X 0 105 dX3_answer_104 rfl rfl rfl ?_
              refine g_X3_9 X 108 dX3_answer_105 rfl ?_
              refine r_aload_n X 0 109 dX3_answer_108 rfl rfl rfl ?_
              refine r_iload_n X 1 110 dX3_answer_109 rfl rfl rfl ?_
              refine r_callI (As := [.int x1]) (rest := [.ref (a 14)]) X 113 (c_X3_outermost h) ml_X3_79 lk_X3_outermost wC_at_13 rfl rfl rfl (Nat.le_of_ble_eq_true rfl) ⟨rfl, rfl, ⟨Nat.le_of_ble_eq_true rfl, Nat.le_of_ble_eq_true rfl⟩, Nat.le_of_ble_eq_true rfl, Nat.le_of_ble_eq_true rfl⟩ dX3_answer_110 rfl (fun y4 σ3 h => ?_)
              obtain ⟨hin, h⟩ := h
              refine l_C14 X 114 hin dX3_answer_113 rfl ?_
              exact r_iret X hr9 hlk9 h dX3_answer_114
            · refine r_ifs h (fun hc5 h => ?_) (fun hc5 h => ?_)
              · refine r_tabIn X 115 dX3_answer_14 hc5 (by decide) (by decide) rfl rfl ?_
                refine r_aload_n X 0 116 dX3_answer_115 rfl rfl rfl ?_
                refine g_X3_15 X 119 dX3_answer_116 rfl ?_
                refine r_aload_n X 0 120 dX3_answer_119 rfl rfl rfl ?_
                refine r_iload_n X 1 121 dX3_answer_120 rfl rfl rfl ?_
                refine r_callI (As := [.int x1]) (rest := [.ref (a 15)]) X 124 (c_X3_outermost h) ml_X3_79 lk_X3_outermost wC_at_13 rfl rfl rfl (Nat.le_of_ble_eq_true rfl) ⟨rfl, rfl, ⟨Nat.le_of_ble_eq_true rfl, Nat.le_of_ble_eq_true rfl⟩, Nat.le_of_ble_eq_true rfl, Nat.le_of_ble_eq_true rfl⟩ dX3_answer_121 rfl (fun y6 σ5 h => ?_)
                obtain ⟨hin, h⟩ := h
                refine l_C15 X 125 hin dX3_answer_124 rfl ?_
                exact r_iret X hr9 hlk9 h dX3_answer_125
              · refine r_ifs h (fun hc6 h => ?_) (fun hc6 h => ?_)
                · refine r_tabIn X 126 dX3_answer_14 hc6 (by decide) (by decide) rfl rfl ?_
                  refine r_aload_n X 0 127 dX3_answer_126 rfl rfl rfl ?_
                  refine g_X3_24 X 130 dX3_answer_127 rfl ?_
                  refine r_iload_n X 1 131 dX3_answer_130 rfl rfl rfl ?_
                  obtain ⟨hin, h⟩ := h
                  refine l_C18 X 132 hin dX3_answer_131 rfl ?_
                  exact r_iret X hr9 hlk9 h dX3_answer_132
                · refine r_ifs h (fun hc7 h => ?_) (fun hc7 h => ?_)
                  · refine r_tabIn X 133 dX3_answer_14 hc7 (by decide) (by decide) rfl rfl ?_
                    refine r_aload_n X 0 134 dX3_answer_133 rfl rfl rfl ?_
                    refine g_X3_27 X 137 dX3_answer_134 rfl ?_
                    refine r_iload_n X 1 138 dX3_answer_137 rfl rfl rfl ?_
                    obtain ⟨hin, h⟩ := h
                    refine l_C19 X 139 hin dX3_answer_138 rfl ?_
                    exact r_iret X hr9 hlk9 h dX3_answer_139
                  · refine r_ifs h (fun hc8 h => ?_) (fun hc8 h => ?_)
                    · refine r_tabIn X 140 dX3_answer_14 hc8 (by decide) (by decide) rfl rfl ?_
                      refine r_aload_n X 0 141 dX3_answer_140 rfl rfl rfl ?_
                      refine g_X3_30 X 144 dX3_answer_141 rfl ?_
                      refine r_iload_n X 1 145 dX3_answer_144 rfl rfl rfl ?_
                      obtain ⟨hin, h⟩ := h
                      refine l_C20 X 146 hin dX3_answer_145 rfl ?_
                      exact r_iret X hr9 hlk9 h dX3_answer_146
                    · refine r_ifs h (fun hc9 h => ?_) (fun hc9 h => ?_)
                      · refine r_tabIn X 147 dX3_answer_14 hc9 (by decide) (by decide) rfl rfl ?_
                        refine r_aload_n X 0 148 dX3_answer_147 rfl rfl rfl ?_
                        refine g_X3_33 X 151 dX3_answer_148 rfl ?_
                        refine r_iload_n X 1 152 dX3_answer_151 rfl rfl rfl ?_
                        obtain ⟨hin, h⟩ := h
                        refine l_C21 X 153 hin dX3_answer_152 rfl ?_
                        refine r_callSI (As := [.int (σ1 21 (ix x1))]) (rest := []) X 156 (c_J6_bitCount_0f7a4 h) ml_X3_82 lk_J6_bitCount_0f7a4 sy_J6_bitCount_0f7a4 rfl rfl (Nat.le_of_ble_eq_true rfl) ⟨rfl, rfl, ⟨Nat.le_of_ble_eq_true rfl, Nat.le_of_ble_eq_true rfl⟩, Nat.le_of_ble_eq_true rfl, Nat.le_of_ble_eq_true rfl⟩ dX3_answer_153 rfl (fun y8 σ7 h => ?_)
                        exact r_iret X hr9 hlk9 h dX3_answer_156
                      · refine r_ifs h (fun hc10 h => ?_) (fun hc10 h => ?_)
                        · refine r_tabIn X 157 dX3_answer_14 hc10 (by decide) (by decide) rfl rfl ?_
                          refine r_aload_n X 0 158 dX3_answer_157 rfl rfl rfl ?_
                          refine g_X3_36 X 161 dX3_answer_158 rfl ?_
                          refine r_iload_n X 1 162 dX3_answer_161 rfl rfl rfl ?_
                          obtain ⟨hin, h⟩ := h
                          refine l_C22 X 163 hin dX3_answer_162 rfl ?_
                          exact r_iret X hr9 hlk9 h dX3_answer_163
                        · refine r_ifs h (fun hc11 h => ?_) (fun hc11 h => ?_)
                          · refine r_tabIn X 164 dX3_answer_14 hc11 (by decide) (by decide) rfl rfl ?_
                            refine r_aload_n X 0 165 dX3_answer_164 rfl rfl rfl ?_
                            refine g_X3_39 X 168 dX3_answer_165 rfl ?_
                            refine r_iload_n X 1 169 dX3_answer_168 rfl rfl rfl ?_
                            obtain ⟨hin, h⟩ := h
                            refine l_C23 X 170 hin dX3_answer_169 rfl ?_
                            exact r_iret X hr9 hlk9 h dX3_answer_170
                          · refine r_tabOut X 171 dX3_answer_14 (by have e0 := tn_ (k := 0) hc0 rfl; have e1 := tn_ (k := 1) hc1 rfl; have e2 := tn_ (k := 2) hc2 rfl; have e3 := tn_ (k := 3) hc3 rfl; have e4 := tn_ (k := 4) hc4 rfl; have e5 := tn_ (k := 5) hc5 rfl; have e6 := tn_ (k := 6) hc6 rfl; have e7 := tn_ (k := 7) hc7 rfl; have e8 := tn_ (k := 8) hc8 rfl; have e9 := tn_ (k := 9) hc9 rfl; have e10 := tn_ (k := 10) hc10 rfl; have e11 := tn_ (k := 11) hc11 rfl; omega) rfl ?_
                            refine r_iconst (v := (-1)) X 172 dX3_answer_171 (by decide) rfl ?_
                            exact r_iret X hr9 hlk9 h dX3_answer_172
  · refine r_iconst (v := (-1)) X 12 dX3_answer_11 (by decide) rfl ?_
    exact r_iret X hr9 hlk9 h dX3_answer_12
def rm_X3_thingOfDay : Room := { frames := 1, cells := 0, slots := 0, locals := 21 }
theorem dX3_thingOfDay_0 : decode cX3_thingOfDay 0 = .ok (.iload_n 2, 1) := by decide +kernel
theorem dX3_thingOfDay_1 : decode cX3_thingOfDay 1 = .ok (.istore_n 3, 1) := by decide +kernel
theorem dX3_thingOfDay_2 : decode cX3_thingOfDay 2 = .ok (.iconst 0, 1) := by decide +kernel
theorem dX3_thingOfDay_3 : decode cX3_thingOfDay 3 = .ok (.istore 4, 2) := by decide +kernel
theorem dX3_thingOfDay_5 : decode cX3_thingOfDay 5 = .ok (.iload 4, 2) := by decide +kernel
theorem dX3_thingOfDay_7 : decode cX3_thingOfDay 7 = .ok (.aload_n 0, 1) := by decide +kernel
theorem dX3_thingOfDay_8 : decode cX3_thingOfDay 8 = .ok (.getfield 48, 3) := by decide +kernel
theorem dX3_thingOfDay_11 : decode cX3_thingOfDay 11 = .ok (.getfield 87, 3) := by decide +kernel
theorem dX3_thingOfDay_14 : decode cX3_thingOfDay 14 = .ok (.if_icmp .ge 50, 3) := by decide +kernel
theorem dX3_thingOfDay_17 : decode cX3_thingOfDay 17 = .ok (.aload_n 0, 1) := by decide +kernel
theorem dX3_thingOfDay_18 : decode cX3_thingOfDay 18 = .ok (.iload 4, 2) := by decide +kernel
theorem dX3_thingOfDay_20 : decode cX3_thingOfDay 20 = .ok (.invokevirtual 90, 3) := by decide +kernel
theorem dX3_thingOfDay_23 : decode cX3_thingOfDay 23 = .ok (.ifCond .eq 35, 3) := by decide +kernel
theorem dX3_thingOfDay_26 : decode cX3_thingOfDay 26 = .ok (.aload_n 0, 1) := by decide +kernel
theorem dX3_thingOfDay_27 : decode cX3_thingOfDay 27 = .ok (.getfield 24, 3) := by decide +kernel
theorem dX3_thingOfDay_30 : decode cX3_thingOfDay 30 = .ok (.iload 4, 2) := by decide +kernel
theorem dX3_thingOfDay_32 : decode cX3_thingOfDay 32 = .ok (.iaload, 1) := by decide +kernel
theorem dX3_thingOfDay_33 : decode cX3_thingOfDay 33 = .ok (.iload_n 1, 1) := by decide +kernel
theorem dX3_thingOfDay_34 : decode cX3_thingOfDay 34 = .ok (.if_icmp .eq 14, 3) := by decide +kernel
theorem dX3_thingOfDay_37 : decode cX3_thingOfDay 37 = .ok (.aload_n 0, 1) := by decide +kernel
theorem dX3_thingOfDay_38 : decode cX3_thingOfDay 38 = .ok (.getfield 27, 3) := by decide +kernel
theorem dX3_thingOfDay_41 : decode cX3_thingOfDay 41 = .ok (.iload 4, 2) := by decide +kernel
theorem dX3_thingOfDay_43 : decode cX3_thingOfDay 43 = .ok (.iaload, 1) := by decide +kernel
theorem dX3_thingOfDay_44 : decode cX3_thingOfDay 44 = .ok (.iload_n 1, 1) := by decide +kernel
theorem dX3_thingOfDay_45 : decode cX3_thingOfDay 45 = .ok (.if_icmp .ne 13, 3) := by decide +kernel
theorem dX3_thingOfDay_48 : decode cX3_thingOfDay 48 = .ok (.iload_n 3, 1) := by decide +kernel
theorem dX3_thingOfDay_49 : decode cX3_thingOfDay 49 = .ok (.ifCond .ne 6, 3) := by decide +kernel
theorem dX3_thingOfDay_52 : decode cX3_thingOfDay 52 = .ok (.iload 4, 2) := by decide +kernel
theorem dX3_thingOfDay_54 : decode cX3_thingOfDay 54 = .ok (.ireturn, 1) := by decide +kernel
theorem dX3_thingOfDay_55 : decode cX3_thingOfDay 55 = .ok (.iinc 3 (-1), 3) := by decide +kernel
theorem dX3_thingOfDay_58 : decode cX3_thingOfDay 58 = .ok (.iinc 4 1, 3) := by decide +kernel
theorem dX3_thingOfDay_61 : decode cX3_thingOfDay 61 = .ok (.goto (-56), 3) := by decide +kernel
theorem dX3_thingOfDay_64 : decode cX3_thingOfDay 64 = .ok (.iconst (-1), 1) := by decide +kernel
theorem dX3_thingOfDay_65 : decode cX3_thingOfDay 65 = .ok (.ireturn, 1) := by decide +kernel
def j_X3_thingOfDay_58  (Q : Int32 → St → Prop) (rec5 : Int32 → Int32 → Int32 → St → Prop) (v1 : Int32) (v3 : Int32) (v4 : Int32) (σ : St) : Prop :=
  rec5 v1 v3 (v4 + 1) σ
theorem wk_X3_thingOfDay_58 (X : cx p s m args c cX3_thingOfDay 5 RX3 D (wC cI cZ cH a n) A (tyW cI cZ cH)) (hr9 : meth.sig.returnType = (some .int)) (hlk9 : meth.locks = false)  {Q : Int32 → St → Prop} {rec5 : Int32 → Int32 → Int32 → St → Prop} (hrec5 : ∀ (v1 : Int32) (v3 : Int32) (v4 : Int32) (σ : St), rec5 v1 v3 v4 σ → go p l e rm_X3_thingOfDay s m args below meth c D (wC cI cZ cH a n) A 0 0 (MQ below (va_Qi Q (atw D (wC cI cZ cH a n) (tyW cI cZ cH) A) A) args s 0 0 A) 5 5 [(0, .ref (a 13)), (1, .int v1), (3, .int v3), (4, .int v4)] [] σ) {v1 : Int32} {v3 : Int32} {v4 : Int32} {σ : St} (h : j_X3_thingOfDay_58 Q rec5 v1 v3 v4 σ) : go p l e rm_X3_thingOfDay s m args below meth c D (wC cI cZ cH a n) A 0 0 (MQ below (va_Qi Q (atw D (wC cI cZ cH a n) (tyW cI cZ cH) A) A) args s 0 0 A) 5 58 [(0, .ref (a 13)), (1, .int v1), (3, .int v3), (4, .int v4)] [] σ := by
  delta j_X3_thingOfDay_58 at h
  refine r_iinc (d := 1) X 3 61 [(4, .int (v4 + 1)), (0, .ref (a 13)), (1, .int v1), (3, .int v3)] dX3_thingOfDay_58 rfl (by decide) (by decide) rfl rfl ?_
  refine r_goto X 5 dX3_thingOfDay_61 rfl ?_
  refine r_pick (lv' := [(0, .ref (a 13)), (1, .int v1), (3, .int v3), (4, .int (v4 + 1))]) [1, 2, 3, 0] rfl ?_
  exact hrec5 _ _ _ _ h
def j_X3_thingOfDay_48  (Q : Int32 → St → Prop) (rec5 : Int32 → Int32 → Int32 → St → Prop) (v1 : Int32) (v3 : Int32) (v4 : Int32) (σ : St) : Prop :=
  if v3 = 0 then
  (Q v4 σ)
  else (j_X3_thingOfDay_58 Q rec5 v1 (v3 + (-1)) v4 σ)
theorem wk_X3_thingOfDay_48 (X : cx p s m args c cX3_thingOfDay 5 RX3 D (wC cI cZ cH a n) A (tyW cI cZ cH)) (hr9 : meth.sig.returnType = (some .int)) (hlk9 : meth.locks = false)  {Q : Int32 → St → Prop} {rec5 : Int32 → Int32 → Int32 → St → Prop} (hrec5 : ∀ (v1 : Int32) (v3 : Int32) (v4 : Int32) (σ : St), rec5 v1 v3 v4 σ → go p l e rm_X3_thingOfDay s m args below meth c D (wC cI cZ cH a n) A 0 0 (MQ below (va_Qi Q (atw D (wC cI cZ cH a n) (tyW cI cZ cH) A) A) args s 0 0 A) 5 5 [(0, .ref (a 13)), (1, .int v1), (3, .int v3), (4, .int v4)] [] σ) {v1 : Int32} {v3 : Int32} {v4 : Int32} {σ : St} (h : j_X3_thingOfDay_48 Q rec5 v1 v3 v4 σ) : go p l e rm_X3_thingOfDay s m args below meth c D (wC cI cZ cH a n) A 0 0 (MQ below (va_Qi Q (atw D (wC cI cZ cH a n) (tyW cI cZ cH) A) A) args s 0 0 A) 5 48 [(0, .ref (a 13)), (1, .int v1), (3, .int v3), (4, .int v4)] [] σ := by
  delta j_X3_thingOfDay_48 at h
  refine r_iload_n X 2 49 dX3_thingOfDay_48 rfl rfl rfl ?_
  refine r_if_ne X 55 52 h dX3_thingOfDay_49 rfl rfl (fun h => ?_) (fun h => ?_)
  · refine r_iinc (d := (-1)) X 2 58 [(3, .int (v3 + (-1))), (0, .ref (a 13)), (1, .int v1), (4, .int v4)] dX3_thingOfDay_55 rfl (by decide) (by decide) rfl rfl ?_
    refine r_pick (lv' := [(0, .ref (a 13)), (1, .int v1), (3, .int (v3 + (-1))), (4, .int v4)]) [1, 2, 0, 3] rfl ?_
    exact wk_X3_thingOfDay_58 X hr9 hlk9 hrec5 h
  · refine r_iload X 3 54 dX3_thingOfDay_52 rfl rfl ?_
    exact r_iret X hr9 hlk9 h dX3_thingOfDay_54
def b_X3_thingOfDay_5  (Q : Int32 → St → Prop) (rec5 : Int32 → Int32 → Int32 → St → Prop) (v1 : Int32) (v3 : Int32) (v4 : Int32) (σ : St) : Prop :=
  if v4 < (σ 1 7) then
  (wp_X3_isKept σ v4 (fun y2 σ1 =>
  if y2 = 0 then
  (j_X3_thingOfDay_58 Q rec5 v1 v3 v4 σ1)
  else (vp_in v4 60 ∧
  (if (σ1 18 (ix v4)) = v1 then
  (j_X3_thingOfDay_48 Q rec5 v1 v3 v4 σ1)
  else (vp_in v4 60 ∧
  (if (σ1 19 (ix v4)) = v1 then
  (j_X3_thingOfDay_48 Q rec5 v1 v3 v4 σ1)
  else (j_X3_thingOfDay_58 Q rec5 v1 v3 v4 σ1)))))))
  else (Q (-1) σ)
def lp_X3_thingOfDay_5  (Q : Int32 → St → Prop) (n9 : Nat) : Int32 → Int32 → Int32 → St → Prop :=
  Nat.rec (fun _ _ _ _ => False) (fun _ rec9 => b_X3_thingOfDay_5  Q  rec9) n9
theorem wk_X3_thingOfDay_5 (X : cx p s m args c cX3_thingOfDay 5 RX3 D (wC cI cZ cH a n) A (tyW cI cZ cH)) (hr9 : meth.sig.returnType = (some .int)) (hlk9 : meth.locks = false)  {Q : Int32 → St → Prop} : ∀ (n9 : Nat) {v1 : Int32} {v3 : Int32} {v4 : Int32} {σ : St}, lp_X3_thingOfDay_5 Q n9 v1 v3 v4 σ → go p l e rm_X3_thingOfDay s m args below meth c D (wC cI cZ cH a n) A 0 0 (MQ below (va_Qi Q (atw D (wC cI cZ cH a n) (tyW cI cZ cH) A) A) args s 0 0 A) 5 5 [(0, .ref (a 13)), (1, .int v1), (3, .int v3), (4, .int v4)] [] σ := by
  intro n9
  induction n9 with
  | zero => intro v1 v3 v4 σ h; exact h.elim
  | succ n9 ih =>
    intro v1 v3 v4 σ h
    have hrec5 := fun v1 v3 v4 σ h => ih (σ := σ) (v1 := v1) (v3 := v3) (v4 := v4) h
    replace h : b_X3_thingOfDay_5 Q (lp_X3_thingOfDay_5 Q n9) v1 v3 v4 σ := h
    delta b_X3_thingOfDay_5 at h
    refine r_iload X 3 7 dX3_thingOfDay_5 rfl rfl ?_
    refine r_aload_n X 0 8 dX3_thingOfDay_7 rfl rfl rfl ?_
    refine g_X3_48 X 11 dX3_thingOfDay_8 rfl ?_
    refine g_X3_87 X 14 dX3_thingOfDay_11 rfl ?_
    refine r_icmp_ge X 64 17 h dX3_thingOfDay_14 rfl rfl (fun h => ?_) (fun h => ?_)
    · refine r_iconst (v := (-1)) X 65 dX3_thingOfDay_64 (by decide) rfl ?_
      exact r_iret X hr9 hlk9 h dX3_thingOfDay_65
    · refine r_aload_n X 0 18 dX3_thingOfDay_17 rfl rfl rfl ?_
      refine r_iload X 3 20 dX3_thingOfDay_18 rfl rfl ?_
      refine r_callI (As := [.int v4]) (rest := []) X 23 (c_X3_isKept h) ml_X3_90 lk_X3_isKept wC_at_13 rfl rfl rfl (Nat.le_of_ble_eq_true rfl) ⟨rfl, rfl, ⟨Nat.le_of_ble_eq_true rfl, Nat.le_of_ble_eq_true rfl⟩, Nat.le_of_ble_eq_true rfl, Nat.le_of_ble_eq_true rfl⟩ dX3_thingOfDay_20 rfl (fun y2 σ1 h => ?_)
      obtain ⟨hb_y2, h⟩ := h
      refine r_if_eq X 58 26 h dX3_thingOfDay_23 rfl rfl (fun h => ?_) (fun h => ?_)
      · refine r_pick (lv' := [(0, .ref (a 13)), (1, .int v1), (3, .int v3), (4, .int v4)]) [0, 1, 2, 3] rfl ?_
        exact wk_X3_thingOfDay_58 X hr9 hlk9 hrec5 h
      · refine r_aload_n X 0 27 dX3_thingOfDay_26 rfl rfl rfl ?_
        refine g_X3_24 X 30 dX3_thingOfDay_27 rfl ?_
        refine r_iload X 3 32 dX3_thingOfDay_30 rfl rfl ?_
        obtain ⟨hin, h⟩ := h
        refine l_C18 X 33 hin dX3_thingOfDay_32 rfl ?_
        refine r_iload_n X 1 34 dX3_thingOfDay_33 rfl rfl rfl ?_
        refine r_icmp_eq X 48 37 h dX3_thingOfDay_34 rfl rfl (fun h => ?_) (fun h => ?_)
        · refine r_pick (lv' := [(0, .ref (a 13)), (1, .int v1), (3, .int v3), (4, .int v4)]) [0, 1, 2, 3] rfl ?_
          exact wk_X3_thingOfDay_48 X hr9 hlk9 hrec5 h
        · refine r_aload_n X 0 38 dX3_thingOfDay_37 rfl rfl rfl ?_
          refine g_X3_27 X 41 dX3_thingOfDay_38 rfl ?_
          refine r_iload X 3 43 dX3_thingOfDay_41 rfl rfl ?_
          obtain ⟨hin, h⟩ := h
          refine l_C19 X 44 hin dX3_thingOfDay_43 rfl ?_
          refine r_iload_n X 1 45 dX3_thingOfDay_44 rfl rfl rfl ?_
          refine r_icmp_ne X 58 48 h dX3_thingOfDay_45 rfl rfl (fun h => ?_) (fun h => ?_)
          · refine r_pick (lv' := [(0, .ref (a 13)), (1, .int v1), (3, .int v3), (4, .int v4)]) [0, 1, 2, 3] rfl ?_
            exact wk_X3_thingOfDay_58 X hr9 hlk9 hrec5 h
          · refine r_pick (lv' := [(0, .ref (a 13)), (1, .int v1), (3, .int v3), (4, .int v4)]) [0, 1, 2, 3] rfl ?_
            exact wk_X3_thingOfDay_48 X hr9 hlk9 hrec5 h
def wp_X3_thingOfDay  (σ : St) (x1 : Int32) (x2 : Int32) (Q : Int32 → St → Prop) : Prop :=
  ∃ n9 : Nat, lp_X3_thingOfDay_5 Q n9 x1 x2 0 σ
theorem c_X3_thingOfDay  {σ : St} {x1 : Int32} {x2 : Int32} {Q : Int32 → St → Prop} (h : wp_X3_thingOfDay σ x1 x2 Q) : ctI l yX3_thingOfDay cX3_thingOfDay 5 (some .int) rm_X3_thingOfDay D (wC cI cZ cH a n) (tyW cI cZ cH) [.ref (a 13), .int x1, .int x2] σ Q := by
  refine mk_I (wC_ok cI cZ cH a n) (by decide +kernel) (Nat.le_of_ble_eq_true rfl) (fun p e s m args below meth c A X hr9 hlk9 => ?_)
  refine r_pick (lv' := [(0, .ref (a 13)), (1, .int x1), (2, .int x2)]) [0, 1, 2] rfl ?_
  delta wp_X3_thingOfDay at h
  refine r_iload_n X 2 1 dX3_thingOfDay_0 rfl rfl rfl ?_
  refine r_istore_n X 2 [(3, .int x2), (0, .ref (a 13)), (1, .int x1), (2, .int x2)] dX3_thingOfDay_1 rfl (by decide) rfl rfl ?_
  refine r_iconst (v := 0) X 3 dX3_thingOfDay_2 (by decide) rfl ?_
  refine r_istore X 5 [(4, .int 0), (3, .int x2), (0, .ref (a 13)), (1, .int x1), (2, .int x2)] dX3_thingOfDay_3 (by decide) rfl rfl ?_
  refine r_pick (lv' := [(0, .ref (a 13)), (1, .int x1), (3, .int x2), (4, .int 0)]) [2, 3, 1, 0] rfl ?_
  obtain ⟨n9, h⟩ := h
  exact wk_X3_thingOfDay_5 X hr9 hlk9 n9 h
end WALK
