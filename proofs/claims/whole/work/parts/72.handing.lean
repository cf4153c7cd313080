section WALK
variable {p : Program} {l : Launch} {e : Env} {s : State} {m : MethodId} {args : Array Value} {below : List Frame} {meth : Method} {c : Code} {D : va_G} {A : Nat → Prop} {cI cZ cH : ClassId} {a : Nat → Nat} {n : Nat}
theorem dX5_handing_0 : decode cX5_handing 0 = .ok (.aload_n 0, 1) := by decide +kernel
theorem dX5_handing_1 : decode cX5_handing 1 = .ok (.getfield 10, 3) := by decide +kernel
theorem dX5_handing_4 : decode cX5_handing 4 = .ok (.iload_n 1, 1) := by decide +kernel
theorem dX5_handing_5 : decode cX5_handing 5 = .ok (.invokevirtual 90, 3) := by decide +kernel
theorem dX5_handing_8 : decode cX5_handing 8 = .ok (.ifCond .eq 30, 3) := by decide +kernel
theorem dX5_handing_11 : decode cX5_handing 11 = .ok (.aload_n 0, 1) := by decide +kernel
theorem dX5_handing_12 : decode cX5_handing 12 = .ok (.getfield 10, 3) := by decide +kernel
theorem dX5_handing_15 : decode cX5_handing 15 = .ok (.iload_n 2, 1) := by decide +kernel
theorem dX5_handing_16 : decode cX5_handing 16 = .ok (.invokevirtual 94, 3) := by decide +kernel
theorem dX5_handing_19 : decode cX5_handing 19 = .ok (.ifCond .eq 19, 3) := by decide +kernel
theorem dX5_handing_22 : decode cX5_handing 22 = .ok (.aload_n 0, 1) := by decide +kernel
theorem dX5_handing_23 : decode cX5_handing 23 = .ok (.getfield 10, 3) := by decide +kernel
theorem dX5_handing_26 : decode cX5_handing 26 = .ok (.iload_n 3, 1) := by decide +kernel
theorem dX5_handing_27 : decode cX5_handing 27 = .ok (.invokevirtual 94, 3) := by decide +kernel
theorem dX5_handing_30 : decode cX5_handing 30 = .ok (.ifCond .eq 8, 3) := by decide +kernel
theorem dX5_handing_33 : decode cX5_handing 33 = .ok (.iload_n 2, 1) := by decide +kernel
theorem dX5_handing_34 : decode cX5_handing 34 = .ok (.iload_n 3, 1) := by decide +kernel
theorem dX5_handing_35 : decode cX5_handing 35 = .ok (.if_icmp .ne 5, 3) := by decide +kernel
theorem dX5_handing_38 : decode cX5_handing 38 = .ok (.iconst (-1), 1) := by decide +kernel
theorem dX5_handing_39 : decode cX5_handing 39 = .ok (.ireturn, 1) := by decide +kernel
theorem dX5_handing_40 : decode cX5_handing 40 = .ok (.iload 4, 2) := by decide +kernel
theorem dX5_handing_42 : decode cX5_handing 42 = .ok (.ifCond .lt 21, 3) := by decide +kernel
theorem dX5_handing_45 : decode cX5_handing 45 = .ok (.iload 4, 2) := by decide +kernel
theorem dX5_handing_47 : decode cX5_handing 47 = .ok (.aload_n 0, 1) := by decide +kernel
theorem dX5_handing_48 : decode cX5_handing 48 = .ok (.getfield 83, 3) := by decide +kernel
theorem dX5_handing_51 : decode cX5_handing 51 = .ok (.if_icmp .gt 12, 3) := by decide +kernel
theorem dX5_handing_54 : decode cX5_handing 54 = .ok (.aload_n 0, 1) := by decide +kernel
theorem dX5_handing_55 : decode cX5_handing 55 = .ok (.getfield 97, 3) := by decide +kernel
theorem dX5_handing_58 : decode cX5_handing 58 = .ok (.bipush 60, 2) := by decide +kernel
theorem dX5_handing_60 : decode cX5_handing 60 = .ok (.if_icmp .lt 5, 3) := by decide +kernel
theorem dX5_handing_63 : decode cX5_handing 63 = .ok (.iconst (-1), 1) := by decide +kernel
theorem dX5_handing_64 : decode cX5_handing 64 = .ok (.ireturn, 1) := by decide +kernel
theorem dX5_handing_65 : decode cX5_handing 65 = .ok (.aload_n 0, 1) := by decide +kernel
theorem dX5_handing_66 : decode cX5_handing 66 = .ok (.getfield 46, 3) := by decide +kernel
theorem dX5_handing_69 : decode cX5_handing 69 = .ok (.aload_n 0, 1) := by decide +kernel
theorem dX5_handing_70 : decode cX5_handing 70 = .ok (.getfield 97, 3) := by decide +kernel
theorem dX5_handing_73 : decode cX5_handing 73 = .ok (.new 44, 3) := by decide +kernel
theorem dX5_handing_76 : decode cX5_handing 76 = .ok (.dup, 1) := by decide +kernel
theorem dX5_handing_77 : decode cX5_handing 77 = .ok (.iload_n 1, 1) := by decide +kernel
theorem dX5_handing_78 : decode cX5_handing 78 = .ok (.iload_n 2, 1) := by decide +kernel
theorem dX5_handing_79 : decode cX5_handing 79 = .ok (.iload_n 3, 1) := by decide +kernel
theorem dX5_handing_80 : decode cX5_handing 80 = .ok (.iload 4, 2) := by decide +kernel
theorem dX5_handing_82 : decode cX5_handing 82 = .ok (.invokespecial 100, 3) := by decide +kernel
theorem dX5_handing_85 : decode cX5_handing 85 = .ok (.aastore, 1) := by decide +kernel
theorem dX5_handing_86 : decode cX5_handing 86 = .ok (.aload_n 0, 1) := by decide +kernel
theorem dX5_handing_87 : decode cX5_handing 87 = .ok (.dup, 1) := by decide +kernel
theorem dX5_handing_88 : decode cX5_handing 88 = .ok (.getfield 97, 3) := by decide +kernel
theorem dX5_handing_91 : decode cX5_handing 91 = .ok (.iconst 1, 1) := by decide +kernel
theorem dX5_handing_92 : decode cX5_handing 92 = .ok (.iadd, 1) := by decide +kernel
theorem dX5_handing_93 : decode cX5_handing 93 = .ok (.putfield 97, 3) := by decide +kernel
theorem dX5_handing_96 : decode cX5_handing 96 = .ok (.aload_n 0, 1) := by decide +kernel
theorem dX5_handing_97 : decode cX5_handing 97 = .ok (.getfield 97, 3) := by decide +kernel
theorem dX5_handing_100 : decode cX5_handing 100 = .ok (.iconst 1, 1) := by decide +kernel
theorem dX5_handing_101 : decode cX5_handing 101 = .ok (.isub, 1) := by decide +kernel
theorem dX5_handing_102 : decode cX5_handing 102 = .ok (.ireturn, 1) := by decide +kernel
def wp_X5_handing (σ : St) (x1 x2 x3 x4 : Int32) (Q : Int32 → St → Prop) (N : St → Prop) : Prop :=
  wp_X4_isThing σ x1 (fun y2 σ1 =>
  if y2 = 0 then
  (Q (-1) σ1)
  else (wp_X4_isHand σ1 x2 (fun y4 σ3 =>
  if y4 = 0 then
  (Q (-1) σ3)
  else (wp_X4_isHand σ3 x3 (fun y6 σ5 =>
  if y6 = 0 then
  (Q (-1) σ5)
  else (if x2 = x3 then
  (Q (-1) σ5)
  else (if x4 < 0 then
  (Q (-1) σ5)
  else (if (σ5 0 9) < x4 then
  (Q (-1) σ5)
  else (if (σ5 0 7) < 60 then
  (N σ5)
  else (Q (-1) σ5))))))))))
def rm_X5_handing : Room := { frames := 2, cells := 0, slots := 0, locals := 36 }
theorem wk_X5_handing {Qf : State → Prop} (X : cx p s m args c cX5_handing 5 RX5 D (wC cI cZ cH a n) A (tyW cI cZ cH)) {x1 x2 x3 x4 : Int32} {Q : Int32 → St → Prop} {N : St → Prop} (hQ : ∀ (pc : Nat) (v : Int32) (σ : St), decode cX5_handing pc = .ok (.ireturn, 1) → Q v σ → go p l e rm_X5_handing s m args below meth c D (wC cI cZ cH a n) A 0 0 Qf 5 pc [(0, .ref (a 0)), (1, .int x1), (2, .int x2), (3, .int x3), (4, .int x4)] [.int v] σ) (hN : ∀ σ : St, N σ → go p l e rm_X5_handing s m args below meth c D (wC cI cZ cH a n) A 0 0 Qf 5 65 [(0, .ref (a 0)), (1, .int x1), (2, .int x2), (3, .int x3), (4, .int x4)] [] σ) {σ : St} (h : wp_X5_handing σ x1 x2 x3 x4 Q N) : go p l e rm_X5_handing s m args below meth c D (wC cI cZ cH a n) A 0 0 Qf 5 0 [(0, .ref (a 0)), (1, .int x1), (2, .int x2), (3, .int x3), (4, .int x4)] [] σ := by
  delta wp_X5_handing at h
  refine r_aload_n X 0 1 dX5_handing_0 rfl rfl rfl ?_
  refine g_X5_10 X 4 dX5_handing_1 rfl ?_
  refine r_iload_n X 1 5 dX5_handing_4 rfl rfl rfl ?_
  refine r_callNI (As := [.int x1]) (rest := []) X 8 (c_X4_isThing h) ml_X5_90 lk_X4_isThing wC_at_1 rfl rfl rfl (Nat.le_of_ble_eq_true rfl) ⟨rfl, rfl, ⟨Nat.le_of_ble_eq_true rfl, Nat.le_of_ble_eq_true rfl⟩, Nat.le_of_ble_eq_true rfl, Nat.le_of_ble_eq_true rfl⟩ dX5_handing_5 rfl (fun y2 σ1 h => ?_)
  obtain ⟨hb_y2, h⟩ := h
  refine r_if_eq X 38 11 h dX5_handing_8 rfl rfl (fun h => ?_) (fun h => ?_)
  · refine r_iconst (v := (-1)) X 39 dX5_handing_38 (by decide) rfl ?_
    exact hQ _ _ _ dX5_handing_39 h
  · refine r_aload_n X 0 12 dX5_handing_11 rfl rfl rfl ?_
    refine g_X5_10 X 15 dX5_handing_12 rfl ?_
    refine r_iload_n X 2 16 dX5_handing_15 rfl rfl rfl ?_
    refine r_callNI (As := [.int x2]) (rest := []) X 19 (c_X4_isHand h) ml_X5_94 lk_X4_isHand wC_at_1 rfl rfl rfl (Nat.le_of_ble_eq_true rfl) ⟨rfl, rfl, ⟨Nat.le_of_ble_eq_true rfl, Nat.le_of_ble_eq_true rfl⟩, Nat.le_of_ble_eq_true rfl, Nat.le_of_ble_eq_true rfl⟩ dX5_handing_16 rfl (fun y4 σ3 h => ?_)
    obtain ⟨hb_y4, h⟩ := h
    refine r_if_eq X 38 22 h dX5_handing_19 rfl rfl (fun h => ?_) (fun h => ?_)
    · refine r_iconst (v := (-1)) X 39 dX5_handing_38 (by decide) rfl ?_
      exact hQ _ _ _ dX5_handing_39 h
    · refine r_aload_n X 0 23 dX5_handing_22 rfl rfl rfl ?_
      refine g_X5_10 X 26 dX5_handing_23 rfl ?_
      refine r_iload_n X 3 27 dX5_handing_26 rfl rfl rfl ?_
      refine r_callNI (As := [.int x3]) (rest := []) X 30 (c_X4_isHand h) ml_X5_94 lk_X4_isHand wC_at_1 rfl rfl rfl (Nat.le_of_ble_eq_true rfl) ⟨rfl, rfl, ⟨Nat.le_of_ble_eq_true rfl, Nat.le_of_ble_eq_true rfl⟩, Nat.le_of_ble_eq_true rfl, Nat.le_of_ble_eq_true rfl⟩ dX5_handing_27 rfl (fun y6 σ5 h => ?_)
      obtain ⟨hb_y6, h⟩ := h
      refine r_if_eq X 38 33 h dX5_handing_30 rfl rfl (fun h => ?_) (fun h => ?_)
      · refine r_iconst (v := (-1)) X 39 dX5_handing_38 (by decide) rfl ?_
        exact hQ _ _ _ dX5_handing_39 h
      · refine r_iload_n X 2 34 dX5_handing_33 rfl rfl rfl ?_
        refine r_iload_n X 3 35 dX5_handing_34 rfl rfl rfl ?_
        refine r_icmp_ne X 40 38 h dX5_handing_35 rfl rfl (fun h => ?_) (fun h => ?_)
        · refine r_iload X 4 42 dX5_handing_40 rfl rfl ?_
          refine r_if_lt X 63 45 h dX5_handing_42 rfl rfl (fun h => ?_) (fun h => ?_)
          · refine r_iconst (v := (-1)) X 64 dX5_handing_63 (by decide) rfl ?_
            exact hQ _ _ _ dX5_handing_64 h
          · refine r_iload X 4 47 dX5_handing_45 rfl rfl ?_
            refine r_aload_n X 0 48 dX5_handing_47 rfl rfl rfl ?_
            refine g_X5_83 X 51 dX5_handing_48 rfl ?_
            refine r_icmp_gt X 63 54 h dX5_handing_51 rfl rfl (fun h => ?_) (fun h => ?_)
            · refine r_iconst (v := (-1)) X 64 dX5_handing_63 (by decide) rfl ?_
              exact hQ _ _ _ dX5_handing_64 h
            · refine r_aload_n X 0 55 dX5_handing_54 rfl rfl rfl ?_
              refine g_X5_97 X 58 dX5_handing_55 rfl ?_
              refine r_bipush (v := 60) X 60 dX5_handing_58 (by decide) rfl ?_
              refine r_icmp_lt X 65 63 h dX5_handing_60 rfl rfl (fun h => ?_) (fun h => ?_)
              · exact hN _ h
              · refine r_iconst (v := (-1)) X 64 dX5_handing_63 (by decide) rfl ?_
                exact hQ _ _ _ dX5_handing_64 h
        · refine r_iconst (v := (-1)) X 39 dX5_handing_38 (by decide) rfl ?_
          exact hQ _ _ _ dX5_handing_39 h
def rm_X5_handing1 : Room := { frames := 2, cells := 1, slots := 7, locals := 44 }
theorem wk_X5_handing1 {Qf : State → Prop} (X : cx p s m args c cX5_handing 5 RX5 D (wC cI cZ cH a n) A (tyW cI cZ cH)) {x1 x2 x3 x4 : Int32} {Q : Int32 → St → Prop} {N : St → Prop} (hQ : ∀ (pc : Nat) (v : Int32) (σ : St), decode cX5_handing pc = .ok (.ireturn, 1) → Q v σ → go p l e rm_X5_handing1 s m args below meth c D (wC cI cZ cH a n) A 0 0 Qf 5 pc [(0, .ref (a 0)), (1, .int x1), (2, .int x2), (3, .int x3), (4, .int x4)] [.int v] σ) (hN : ∀ σ : St, N σ → go p l e rm_X5_handing1 s m args below meth c D (wC cI cZ cH a n) A 0 0 Qf 5 65 [(0, .ref (a 0)), (1, .int x1), (2, .int x2), (3, .int x3), (4, .int x4)] [] σ) {σ : St} (h : wp_X5_handing σ x1 x2 x3 x4 Q N) : go p l e rm_X5_handing1 s m args below meth c D (wC cI cZ cH a n) A 0 0 Qf 5 0 [(0, .ref (a 0)), (1, .int x1), (2, .int x2), (3, .int x3), (4, .int x4)] [] σ := by
  delta wp_X5_handing at h
  refine r_aload_n X 0 1 dX5_handing_0 rfl rfl rfl ?_
  refine g_X5_10 X 4 dX5_handing_1 rfl ?_
  refine r_iload_n X 1 5 dX5_handing_4 rfl rfl rfl ?_
  refine r_callNI (As := [.int x1]) (rest := []) X 8 (c_X4_isThing h) ml_X5_90 lk_X4_isThing wC_at_1 rfl rfl rfl (Nat.le_of_ble_eq_true rfl) ⟨rfl, rfl, ⟨Nat.le_of_ble_eq_true rfl, Nat.le_of_ble_eq_true rfl⟩, Nat.le_of_ble_eq_true rfl, Nat.le_of_ble_eq_true rfl⟩ dX5_handing_5 rfl (fun y2 σ1 h => ?_)
  obtain ⟨hb_y2, h⟩ := h
  refine r_if_eq X 38 11 h dX5_handing_8 rfl rfl (fun h => ?_) (fun h => ?_)
  · refine r_iconst (v := (-1)) X 39 dX5_handing_38 (by decide) rfl ?_
    exact hQ _ _ _ dX5_handing_39 h
  · refine r_aload_n X 0 12 dX5_handing_11 rfl rfl rfl ?_
    refine g_X5_10 X 15 dX5_handing_12 rfl ?_
    refine r_iload_n X 2 16 dX5_handing_15 rfl rfl rfl ?_
    refine r_callNI (As := [.int x2]) (rest := []) X 19 (c_X4_isHand h) ml_X5_94 lk_X4_isHand wC_at_1 rfl rfl rfl (Nat.le_of_ble_eq_true rfl) ⟨rfl, rfl, ⟨Nat.le_of_ble_eq_true rfl, Nat.le_of_ble_eq_true rfl⟩, Nat.le_of_ble_eq_true rfl, Nat.le_of_ble_eq_true rfl⟩ dX5_handing_16 rfl (fun y4 σ3 h => ?_)
    obtain ⟨hb_y4, h⟩ := h
    refine r_if_eq X 38 22 h dX5_handing_19 rfl rfl (fun h => ?_) (fun h => ?_)
    · refine r_iconst (v := (-1)) X 39 dX5_handing_38 (by decide) rfl ?_
      exact hQ _ _ _ dX5_handing_39 h
    · refine r_aload_n X 0 23 dX5_handing_22 rfl rfl rfl ?_
      refine g_X5_10 X 26 dX5_handing_23 rfl ?_
      refine r_iload_n X 3 27 dX5_handing_26 rfl rfl rfl ?_
      refine r_callNI (As := [.int x3]) (rest := []) X 30 (c_X4_isHand h) ml_X5_94 lk_X4_isHand wC_at_1 rfl rfl rfl (Nat.le_of_ble_eq_true rfl) ⟨rfl, rfl, ⟨Nat.le_of_ble_eq_true rfl, Nat.le_of_ble_eq_true rfl⟩, Nat.le_of_ble_eq_true rfl, Nat.le_of_ble_eq_true rfl⟩ dX5_handing_27 rfl (fun y6 σ5 h => ?_)
      obtain ⟨hb_y6, h⟩ := h
      refine r_if_eq X 38 33 h dX5_handing_30 rfl rfl (fun h => ?_) (fun h => ?_)
      · refine r_iconst (v := (-1)) X 39 dX5_handing_38 (by decide) rfl ?_
        exact hQ _ _ _ dX5_handing_39 h
      · refine r_iload_n X 2 34 dX5_handing_33 rfl rfl rfl ?_
        refine r_iload_n X 3 35 dX5_handing_34 rfl rfl rfl ?_
        refine r_icmp_ne X 40 38 h dX5_handing_35 rfl rfl (fun h => ?_) (fun h => ?_)
        · refine r_iload X 4 42 dX5_handing_40 rfl rfl ?_
          refine r_if_lt X 63 45 h dX5_handing_42 rfl rfl (fun h => ?_) (fun h => ?_)
          · refine r_iconst (v := (-1)) X 64 dX5_handing_63 (by decide) rfl ?_
            exact hQ _ _ _ dX5_handing_64 h
          · refine r_iload X 4 47 dX5_handing_45 rfl rfl ?_
            refine r_aload_n X 0 48 dX5_handing_47 rfl rfl rfl ?_
            refine g_X5_83 X 51 dX5_handing_48 rfl ?_
            refine r_icmp_gt X 63 54 h dX5_handing_51 rfl rfl (fun h => ?_) (fun h => ?_)
            · refine r_iconst (v := (-1)) X 64 dX5_handing_63 (by decide) rfl ?_
              exact hQ _ _ _ dX5_handing_64 h
            · refine r_aload_n X 0 55 dX5_handing_54 rfl rfl rfl ?_
              refine g_X5_97 X 58 dX5_handing_55 rfl ?_
              refine r_bipush (v := 60) X 60 dX5_handing_58 (by decide) rfl ?_
              refine r_icmp_lt X 65 63 h dX5_handing_60 rfl rfl (fun h => ?_) (fun h => ?_)
              · exact hN _ h
              · refine r_iconst (v := (-1)) X 64 dX5_handing_63 (by decide) rfl ?_
                exact hQ _ _ _ dX5_handing_64 h
        · refine r_iconst (v := (-1)) X 39 dX5_handing_38 (by decide) rfl ?_
          exact hQ _ _ _ dX5_handing_39 h
theorem c_X5_handing_no {σ : St} {x1 x2 x3 x4 : Int32} {Q : Int32 → St → Prop} (h : wp_X5_handing σ x1 x2 x3 x4 Q (fun _ => False)) : ctI l yX5_handing cX5_handing 5 (some .int) rm_X5_handing D (wC cI cZ cH a n) (tyW cI cZ cH) [.ref (a 0), .int x1, .int x2, .int x3, .int x4] σ Q := by
  refine mk_I (wC_ok cI cZ cH a n) (by decide +kernel) (Nat.le_of_ble_eq_true rfl) (fun p e s m args below meth c A X hr9 hlk9 => ?_)
  refine r_pick (lv' := [(0, .ref (a 0)), (1, .int x1), (2, .int x2), (3, .int x3), (4, .int x4)]) [0, 1, 2, 3, 4] rfl ?_
  exact wk_X5_handing X (fun pc v τ hd hq => r_iret X hr9 hlk9 hq hd) (fun τ hN => hN.elim) h
end WALK
