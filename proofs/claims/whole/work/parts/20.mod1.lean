section WALK
variable {p : Program} {l : Launch} {e : Env} {s : State} {m : MethodId} {args : Array Value} {below : List Frame} {meth : Method} {c : Code} {D : va_G} {A : Nat → Prop} {cI cZ cH : ClassId} {a : Nat → Nat} {n : Nat}
def rm_X6_isIn : Room := { frames := 0, cells := 0, slots := 0, locals := 0 }
theorem dX6_isIn_0 : decode cX6_isIn 0 = .ok (.iload_n 0, 1) := by decide +kernel
theorem dX6_isIn_1 : decode cX6_isIn 1 = .ok (.iload_n 1, 1) := by decide +kernel
theorem dX6_isIn_2 : decode cX6_isIn 2 = .ok (.if_icmp .lt 12, 3) := by decide +kernel
theorem dX6_isIn_5 : decode cX6_isIn 5 = .ok (.iload_n 0, 1) := by decide +kernel
theorem dX6_isIn_6 : decode cX6_isIn 6 = .ok (.iload_n 2, 1) := by decide +kernel
theorem dX6_isIn_7 : decode cX6_isIn 7 = .ok (.if_icmp .gt 7, 3) := by decide +kernel
theorem dX6_isIn_10 : decode cX6_isIn 10 = .ok (.iconst 1, 1) := by decide +kernel
theorem dX6_isIn_11 : decode cX6_isIn 11 = .ok (.goto 4, 3) := by decide +kernel
theorem dX6_isIn_14 : decode cX6_isIn 14 = .ok (.iconst 0, 1) := by decide +kernel
theorem dX6_isIn_15 : decode cX6_isIn 15 = .ok (.ireturn, 1) := by decide +kernel
def wp_X6_isIn  (σ : St) (x0 : Int32) (x1 : Int32) (x2 : Int32) (Q : Int32 → St → Prop) : Prop :=
  if x0 < x1 then
  (Q 0 σ)
  else (if x2 < x0 then
  (Q 0 σ)
  else (Q 1 σ))
theorem c_X6_isIn  {σ : St} {x0 : Int32} {x1 : Int32} {x2 : Int32} {Q : Int32 → St → Prop} (h : wp_X6_isIn σ x0 x1 x2 Q) : ctI l yX6_isIn cX6_isIn 3 (some .boolean) rm_X6_isIn D (wM cI cZ a) (tyW cI cZ cH) [.int x0, .int x1, .int x2] σ (fun r9 u9 => isB r9 ∧ Q r9 u9) := by
  refine mk_I (wM_ok cI cZ a) (by decide +kernel) (Nat.le_of_ble_eq_true rfl) (fun p e s m args below meth c A X hr9 hlk9 => ?_)
  refine r_pick (lv' := [(0, .int x0), (1, .int x1), (2, .int x2)]) [0, 1, 2] rfl ?_
  delta wp_X6_isIn at h
  refine r_iload_n X 0 1 dX6_isIn_0 rfl rfl rfl ?_
  refine r_iload_n X 1 2 dX6_isIn_1 rfl rfl rfl ?_
  refine r_icmp_lt X 14 5 h dX6_isIn_2 rfl rfl (fun h => ?_) (fun h => ?_)
  · refine r_iconst (v := 0) X 15 dX6_isIn_14 (by decide) rfl ?_
    exact r_zret X hr9 hlk9 isB_0 h dX6_isIn_15
  · refine r_iload_n X 0 6 dX6_isIn_5 rfl rfl rfl ?_
    refine r_iload_n X 2 7 dX6_isIn_6 rfl rfl rfl ?_
    refine r_icmp_gt X 14 10 h dX6_isIn_7 rfl rfl (fun h => ?_) (fun h => ?_)
    · refine r_iconst (v := 0) X 15 dX6_isIn_14 (by decide) rfl ?_
      exact r_zret X hr9 hlk9 isB_0 h dX6_isIn_15
    · refine r_iconst (v := 1) X 11 dX6_isIn_10 (by decide) rfl ?_
      refine r_goto X 15 dX6_isIn_11 rfl ?_
      exact r_zret X hr9 hlk9 isB_1 h dX6_isIn_15
def rm_X6_begin : Room := { frames := 0, cells := 0, slots := 0, locals := 0 }
theorem dX6_begin_0 : decode cX6_begin 0 = .ok (.iconst 0, 1) := by decide +kernel
theorem dX6_begin_1 : decode cX6_begin 1 = .ok (.istore_n 1, 1) := by decide +kernel
theorem dX6_begin_2 : decode cX6_begin 2 = .ok (.iload_n 1, 1) := by decide +kernel
theorem dX6_begin_3 : decode cX6_begin 3 = .ok (.bipush 60, 2) := by decide +kernel
theorem dX6_begin_5 : decode cX6_begin 5 = .ok (.if_icmp .ge 84, 3) := by decide +kernel
theorem dX6_begin_8 : decode cX6_begin 8 = .ok (.aload_n 0, 1) := by decide +kernel
theorem dX6_begin_9 : decode cX6_begin 9 = .ok (.getfield 45, 3) := by decide +kernel
theorem dX6_begin_12 : decode cX6_begin 12 = .ok (.iload_n 1, 1) := by decide +kernel
theorem dX6_begin_13 : decode cX6_begin 13 = .ok (.iconst 0, 1) := by decide +kernel
theorem dX6_begin_14 : decode cX6_begin 14 = .ok (.iastore, 1) := by decide +kernel
theorem dX6_begin_15 : decode cX6_begin 15 = .ok (.aload_n 0, 1) := by decide +kernel
theorem dX6_begin_16 : decode cX6_begin 16 = .ok (.getfield 48, 3) := by decide +kernel
theorem dX6_begin_19 : decode cX6_begin 19 = .ok (.iload_n 1, 1) := by decide +kernel
theorem dX6_begin_20 : decode cX6_begin 20 = .ok (.iconst (-1), 1) := by decide +kernel
theorem dX6_begin_21 : decode cX6_begin 21 = .ok (.iastore, 1) := by decide +kernel
theorem dX6_begin_22 : decode cX6_begin 22 = .ok (.aload_n 0, 1) := by decide +kernel
theorem dX6_begin_23 : decode cX6_begin 23 = .ok (.getfield 51, 3) := by decide +kernel
theorem dX6_begin_26 : decode cX6_begin 26 = .ok (.iload_n 1, 1) := by decide +kernel
theorem dX6_begin_27 : decode cX6_begin 27 = .ok (.aload_n 0, 1) := by decide +kernel
theorem dX6_begin_28 : decode cX6_begin 28 = .ok (.getfield 27, 3) := by decide +kernel
theorem dX6_begin_31 : decode cX6_begin 31 = .ok (.iload_n 1, 1) := by decide +kernel
theorem dX6_begin_32 : decode cX6_begin 32 = .ok (.iaload, 1) := by decide +kernel
theorem dX6_begin_33 : decode cX6_begin 33 = .ok (.iastore, 1) := by decide +kernel
theorem dX6_begin_34 : decode cX6_begin 34 = .ok (.aload_n 0, 1) := by decide +kernel
theorem dX6_begin_35 : decode cX6_begin 35 = .ok (.getfield 54, 3) := by decide +kernel
theorem dX6_begin_38 : decode cX6_begin 38 = .ok (.iload_n 1, 1) := by decide +kernel
theorem dX6_begin_39 : decode cX6_begin 39 = .ok (.iconst (-1), 1) := by decide +kernel
theorem dX6_begin_40 : decode cX6_begin 40 = .ok (.iastore, 1) := by decide +kernel
theorem dX6_begin_41 : decode cX6_begin 41 = .ok (.aload_n 0, 1) := by decide +kernel
theorem dX6_begin_42 : decode cX6_begin 42 = .ok (.getfield 57, 3) := by decide +kernel
theorem dX6_begin_45 : decode cX6_begin 45 = .ok (.iload_n 1, 1) := by decide +kernel
theorem dX6_begin_46 : decode cX6_begin 46 = .ok (.iconst (-1), 1) := by decide +kernel
theorem dX6_begin_47 : decode cX6_begin 47 = .ok (.iastore, 1) := by decide +kernel
theorem dX6_begin_48 : decode cX6_begin 48 = .ok (.aload_n 0, 1) := by decide +kernel
theorem dX6_begin_49 : decode cX6_begin 49 = .ok (.getfield 60, 3) := by decide +kernel
theorem dX6_begin_52 : decode cX6_begin 52 = .ok (.iload_n 1, 1) := by decide +kernel
theorem dX6_begin_53 : decode cX6_begin 53 = .ok (.iconst (-1), 1) := by decide +kernel
theorem dX6_begin_54 : decode cX6_begin 54 = .ok (.iastore, 1) := by decide +kernel
theorem dX6_begin_55 : decode cX6_begin 55 = .ok (.aload_n 0, 1) := by decide +kernel
theorem dX6_begin_56 : decode cX6_begin 56 = .ok (.getfield 63, 3) := by decide +kernel
theorem dX6_begin_59 : decode cX6_begin 59 = .ok (.iload_n 1, 1) := by decide +kernel
theorem dX6_begin_60 : decode cX6_begin 60 = .ok (.iconst 0, 1) := by decide +kernel
theorem dX6_begin_61 : decode cX6_begin 61 = .ok (.bastore, 1) := by decide +kernel
theorem dX6_begin_62 : decode cX6_begin 62 = .ok (.aload_n 0, 1) := by decide +kernel
theorem dX6_begin_63 : decode cX6_begin 63 = .ok (.getfield 66, 3) := by decide +kernel
theorem dX6_begin_66 : decode cX6_begin 66 = .ok (.iload_n 1, 1) := by decide +kernel
theorem dX6_begin_67 : decode cX6_begin 67 = .ok (.iconst 0, 1) := by decide +kernel
theorem dX6_begin_68 : decode cX6_begin 68 = .ok (.iastore, 1) := by decide +kernel
theorem dX6_begin_69 : decode cX6_begin 69 = .ok (.aload_n 0, 1) := by decide +kernel
theorem dX6_begin_70 : decode cX6_begin 70 = .ok (.getfield 69, 3) := by decide +kernel
theorem dX6_begin_73 : decode cX6_begin 73 = .ok (.iload_n 1, 1) := by decide +kernel
theorem dX6_begin_74 : decode cX6_begin 74 = .ok (.iconst (-1), 1) := by decide +kernel
theorem dX6_begin_75 : decode cX6_begin 75 = .ok (.iastore, 1) := by decide +kernel
theorem dX6_begin_76 : decode cX6_begin 76 = .ok (.aload_n 0, 1) := by decide +kernel
theorem dX6_begin_77 : decode cX6_begin 77 = .ok (.getfield 72, 3) := by decide +kernel
theorem dX6_begin_80 : decode cX6_begin 80 = .ok (.iload_n 1, 1) := by decide +kernel
theorem dX6_begin_81 : decode cX6_begin 81 = .ok (.iconst 0, 1) := by decide +kernel
theorem dX6_begin_82 : decode cX6_begin 82 = .ok (.bastore, 1) := by decide +kernel
theorem dX6_begin_83 : decode cX6_begin 83 = .ok (.iinc 1 1, 3) := by decide +kernel
theorem dX6_begin_86 : decode cX6_begin 86 = .ok (.goto (-84), 3) := by decide +kernel
theorem dX6_begin_89 : decode cX6_begin 89 = .ok (.iconst 0, 1) := by decide +kernel
theorem dX6_begin_90 : decode cX6_begin 90 = .ok (.istore_n 1, 1) := by decide +kernel
theorem dX6_begin_91 : decode cX6_begin 91 = .ok (.iload_n 1, 1) := by decide +kernel
theorem dX6_begin_92 : decode cX6_begin 92 = .ok (.sipush 600, 3) := by decide +kernel
theorem dX6_begin_95 : decode cX6_begin 95 = .ok (.if_icmp .ge 16, 3) := by decide +kernel
theorem dX6_begin_98 : decode cX6_begin 98 = .ok (.aload_n 0, 1) := by decide +kernel
theorem dX6_begin_99 : decode cX6_begin 99 = .ok (.getfield 75, 3) := by decide +kernel
theorem dX6_begin_102 : decode cX6_begin 102 = .ok (.iload_n 1, 1) := by decide +kernel
theorem dX6_begin_103 : decode cX6_begin 103 = .ok (.iconst 0, 1) := by decide +kernel
theorem dX6_begin_104 : decode cX6_begin 104 = .ok (.bastore, 1) := by decide +kernel
theorem dX6_begin_105 : decode cX6_begin 105 = .ok (.iinc 1 1, 3) := by decide +kernel
theorem dX6_begin_108 : decode cX6_begin 108 = .ok (.goto (-17), 3) := by decide +kernel
theorem dX6_begin_111 : decode cX6_begin 111 = .ok (.return_, 1) := by decide +kernel
def b_X6_begin_91  (Q : St → Prop) (rec91 : Int32 → St → Prop) (v1 : Int32) (σ : St) : Prop :=
  if v1 < 600 then
  (vp_in v1 600 ∧
  nmS (up2 σ 19 (ix v1) 0) (fun σ1 =>
  rec91 (v1 + 1) σ1))
  else (Q σ)
def lp_X6_begin_91  (Q : St → Prop) (n9 : Nat) : Int32 → St → Prop :=
  Nat.rec (fun _ _ => False) (fun _ rec9 => b_X6_begin_91  Q  rec9) n9
theorem wk_X6_begin_91 (X : cx p s m args c cX6_begin 2 RX6 D (wM cI cZ a) A (tyW cI cZ cH)) (hr9 : meth.sig.returnType = none) (hlk9 : meth.locks = false)  {Q : St → Prop} : ∀ (n9 : Nat) {v1 : Int32} {σ : St}, lp_X6_begin_91 Q n9 v1 σ → go p l e rm_X6_begin s m args below meth c D (wM cI cZ a) A 0 0 (MQ below (va_Qv Q (atw D (wM cI cZ a) (tyW cI cZ cH) A) A) args s 0 0 A) 2 91 [(0, .ref (a 0)), (1, .int v1)] [] σ := by
  intro n9
  induction n9 with
  | zero => intro v1 σ h; exact h.elim
  | succ n9 ih =>
    intro v1 σ h
    have hrec91 := fun v1 σ h => ih (σ := σ) (v1 := v1) h
    replace h : b_X6_begin_91 Q (lp_X6_begin_91 Q n9) v1 σ := h
    delta b_X6_begin_91 at h
    refine r_iload_n X 1 92 dX6_begin_91 rfl rfl rfl ?_
    refine r_sipush (v := 600) X 95 dX6_begin_92 (by decide) rfl ?_
    refine r_icmp_ge X 111 98 h dX6_begin_95 rfl rfl (fun h => ?_) (fun h => ?_)
    · exact r_vret X hr9 hlk9 h dX6_begin_111
    · refine r_aload_n X 0 99 dX6_begin_98 rfl rfl rfl ?_
      refine g_X6_75 X 102 dX6_begin_99 rfl ?_
      refine r_iload_n X 1 103 dX6_begin_102 rfl rfl rfl ?_
      refine r_iconst (v := 0) X 104 dX6_begin_103 (by decide) rfl ?_
      obtain ⟨hin, h⟩ := h
      refine s_M19 (x8 := 0) X (by decide +kernel) 105 hin dX6_begin_104 rfl ?_
      refine r_nmS h (fun σ1 h => ?_)
      refine r_iinc (d := 1) X 1 108 [(1, .int (v1 + 1)), (0, .ref (a 0))] dX6_begin_105 rfl (by decide) (by decide) rfl rfl ?_
      refine r_goto X 91 dX6_begin_108 rfl ?_
      refine r_pick (lv' := [(0, .ref (a 0)), (1, .int (v1 + 1))]) [1, 0] rfl ?_
      exact hrec91 _ _ h
def b_X6_begin_2  (Q : St → Prop) (rec2 : Int32 → St → Prop) (v1 : Int32) (σ : St) : Prop :=
  if v1 < 60 then
  (vp_in v1 60 ∧
  nmS (up2 σ 9 (ix v1) 0) (fun σ2 =>
  vp_in v1 60 ∧
  nmS (up2 σ2 10 (ix v1) (-1)) (fun σ3 =>
  vp_in v1 60 ∧
  (vp_in v1 60 ∧
  nmS (up2 σ3 11 (ix v1) (σ3 5 (ix v1))) (fun σ4 =>
  vp_in v1 60 ∧
  nmS (up2 σ4 12 (ix v1) (-1)) (fun σ5 =>
  vp_in v1 60 ∧
  nmS (up2 σ5 13 (ix v1) (-1)) (fun σ6 =>
  vp_in v1 60 ∧
  nmS (up2 σ6 14 (ix v1) (-1)) (fun σ7 =>
  vp_in v1 60 ∧
  nmS (up2 σ7 15 (ix v1) 0) (fun σ8 =>
  vp_in v1 60 ∧
  nmS (up2 σ8 16 (ix v1) 0) (fun σ9 =>
  vp_in v1 60 ∧
  nmS (up2 σ9 17 (ix v1) (-1)) (fun σ10 =>
  vp_in v1 60 ∧
  nmS (up2 σ10 18 (ix v1) 0) (fun σ11 =>
  rec2 (v1 + 1) σ11))))))))))))
  else (∃ n9 : Nat, lp_X6_begin_91 Q n9 0 σ)
def lp_X6_begin_2  (Q : St → Prop) (n9 : Nat) : Int32 → St → Prop :=
  Nat.rec (fun _ _ => False) (fun _ rec9 => b_X6_begin_2  Q  rec9) n9
theorem wk_X6_begin_2 (X : cx p s m args c cX6_begin 2 RX6 D (wM cI cZ a) A (tyW cI cZ cH)) (hr9 : meth.sig.returnType = none) (hlk9 : meth.locks = false)  {Q : St → Prop} : ∀ (n9 : Nat) {v1 : Int32} {σ : St}, lp_X6_begin_2 Q n9 v1 σ → go p l e rm_X6_begin s m args below meth c D (wM cI cZ a) A 0 0 (MQ below (va_Qv Q (atw D (wM cI cZ a) (tyW cI cZ cH) A) A) args s 0 0 A) 2 2 [(0, .ref (a 0)), (1, .int v1)] [] σ := by
  intro n9
  induction n9 with
  | zero => intro v1 σ h; exact h.elim
  | succ n9 ih =>
    intro v1 σ h
    have hrec2 := fun v1 σ h => ih (σ := σ) (v1 := v1) h
    replace h : b_X6_begin_2 Q (lp_X6_begin_2 Q n9) v1 σ := h
    delta b_X6_begin_2 at h
    refine r_iload_n X 1 3 dX6_begin_2 rfl rfl rfl ?_
    refine r_bipush (v := 60) X 5 dX6_begin_3 (by decide) rfl ?_
    refine r_icmp_ge X 89 8 h dX6_begin_5 rfl rfl (fun h => ?_) (fun h => ?_)
    · refine r_iconst (v := 0) X 90 dX6_begin_89 (by decide) rfl ?_
      refine r_istore_n X 91 [(1, .int 0), (0, .ref (a 0))] dX6_begin_90 rfl (by decide) rfl rfl ?_
      refine r_pick (lv' := [(0, .ref (a 0)), (1, .int 0)]) [1, 0] rfl ?_
      obtain ⟨n9, h⟩ := h
      exact wk_X6_begin_91 X hr9 hlk9 n9 h
    · refine r_aload_n X 0 9 dX6_begin_8 rfl rfl rfl ?_
      refine g_X6_45 X 12 dX6_begin_9 rfl ?_
      refine r_iload_n X 1 13 dX6_begin_12 rfl rfl rfl ?_
      refine r_iconst (v := 0) X 14 dX6_begin_13 (by decide) rfl ?_
      obtain ⟨hin, h⟩ := h
      refine s_M9 X 15 hin dX6_begin_14 rfl ?_
      refine r_nmS h (fun σ2 h => ?_)
      refine r_aload_n X 0 16 dX6_begin_15 rfl rfl rfl ?_
      refine g_X6_48 X 19 dX6_begin_16 rfl ?_
      refine r_iload_n X 1 20 dX6_begin_19 rfl rfl rfl ?_
      refine r_iconst (v := (-1)) X 21 dX6_begin_20 (by decide) rfl ?_
      obtain ⟨hin, h⟩ := h
      refine s_M10 X 22 hin dX6_begin_21 rfl ?_
      refine r_nmS h (fun σ3 h => ?_)
      refine r_aload_n X 0 23 dX6_begin_22 rfl rfl rfl ?_
      refine g_X6_51 X 26 dX6_begin_23 rfl ?_
      refine r_iload_n X 1 27 dX6_begin_26 rfl rfl rfl ?_
      refine r_aload_n X 0 28 dX6_begin_27 rfl rfl rfl ?_
      refine g_X6_27 X 31 dX6_begin_28 rfl ?_
      refine r_iload_n X 1 32 dX6_begin_31 rfl rfl rfl ?_
      obtain ⟨hin, h⟩ := h
      refine l_M5 X 33 hin dX6_begin_32 rfl ?_
      obtain ⟨hin, h⟩ := h
      refine s_M11 X 34 hin dX6_begin_33 rfl ?_
      refine r_nmS h (fun σ4 h => ?_)
      refine r_aload_n X 0 35 dX6_begin_34 rfl rfl rfl ?_
      refine g_X6_54 X 38 dX6_begin_35 rfl ?_
      refine r_iload_n X 1 39 dX6_begin_38 rfl rfl rfl ?_
      refine r_iconst (v := (-1)) X 40 dX6_begin_39 (by decide) rfl ?_
      obtain ⟨hin, h⟩ := h
      refine s_M12 X 41 hin dX6_begin_40 rfl ?_
      refine r_nmS h (fun σ5 h => ?_)
      refine r_aload_n X 0 42 dX6_begin_41 rfl rfl rfl ?_
      refine g_X6_57 X 45 dX6_begin_42 rfl ?_
      refine r_iload_n X 1 46 dX6_begin_45 rfl rfl rfl ?_
      refine r_iconst (v := (-1)) X 47 dX6_begin_46 (by decide) rfl ?_
      obtain ⟨hin, h⟩ := h
      refine s_M13 X 48 hin dX6_begin_47 rfl ?_
      refine r_nmS h (fun σ6 h => ?_)
      refine r_aload_n X 0 49 dX6_begin_48 rfl rfl rfl ?_
      refine g_X6_60 X 52 dX6_begin_49 rfl ?_
      refine r_iload_n X 1 53 dX6_begin_52 rfl rfl rfl ?_
      refine r_iconst (v := (-1)) X 54 dX6_begin_53 (by decide) rfl ?_
      obtain ⟨hin, h⟩ := h
      refine s_M14 X 55 hin dX6_begin_54 rfl ?_
      refine r_nmS h (fun σ7 h => ?_)
      refine r_aload_n X 0 56 dX6_begin_55 rfl rfl rfl ?_
      refine g_X6_63 X 59 dX6_begin_56 rfl ?_
      refine r_iload_n X 1 60 dX6_begin_59 rfl rfl rfl ?_
      refine r_iconst (v := 0) X 61 dX6_begin_60 (by decide) rfl ?_
      obtain ⟨hin, h⟩ := h
      refine s_M15 (x8 := 0) X (by decide +kernel) 62 hin dX6_begin_61 rfl ?_
      refine r_nmS h (fun σ8 h => ?_)
      refine r_aload_n X 0 63 dX6_begin_62 rfl rfl rfl ?_
      refine g_X6_66 X 66 dX6_begin_63 rfl ?_
      refine r_iload_n X 1 67 dX6_begin_66 rfl rfl rfl ?_
      refine r_iconst (v := 0) X 68 dX6_begin_67 (by decide) rfl ?_
      obtain ⟨hin, h⟩ := h
      refine s_M16 X 69 hin dX6_begin_68 rfl ?_
      refine r_nmS h (fun σ9 h => ?_)
      refine r_aload_n X 0 70 dX6_begin_69 rfl rfl rfl ?_
      refine g_X6_69 X 73 dX6_begin_70 rfl ?_
      refine r_iload_n X 1 74 dX6_begin_73 rfl rfl rfl ?_
      refine r_iconst (v := (-1)) X 75 dX6_begin_74 (by decide) rfl ?_
      obtain ⟨hin, h⟩ := h
      refine s_M17 X 76 hin dX6_begin_75 rfl ?_
      refine r_nmS h (fun σ10 h => ?_)
      refine r_aload_n X 0 77 dX6_begin_76 rfl rfl rfl ?_
      refine g_X6_72 X 80 dX6_begin_77 rfl ?_
      refine r_iload_n X 1 81 dX6_begin_80 rfl rfl rfl ?_
      refine r_iconst (v := 0) X 82 dX6_begin_81 (by decide) rfl ?_
      obtain ⟨hin, h⟩ := h
      refine s_M18 (x8 := 0) X (by decide +kernel) 83 hin dX6_begin_82 rfl ?_
      refine r_nmS h (fun σ11 h => ?_)
      refine r_iinc (d := 1) X 1 86 [(1, .int (v1 + 1)), (0, .ref (a 0))] dX6_begin_83 rfl (by decide) (by decide) rfl rfl ?_
      refine r_goto X 2 dX6_begin_86 rfl ?_
      refine r_pick (lv' := [(0, .ref (a 0)), (1, .int (v1 + 1))]) [1, 0] rfl ?_
      exact hrec2 _ _ h
def wp_X6_begin  (σ : St) (Q : St → Prop) : Prop :=
  ∃ n9 : Nat, lp_X6_begin_2 Q n9 0 σ
theorem c_X6_begin  {σ : St} {Q : St → Prop} (h : wp_X6_begin σ Q) : ctV l yX6_begin cX6_begin 2 none rm_X6_begin D (wM cI cZ a) (tyW cI cZ cH) [.ref (a 0)] σ Q := by
  refine mk_V (wM_ok cI cZ a) (by decide +kernel) (Nat.le_of_ble_eq_true rfl) (fun p e s m args below meth c A X hr9 hlk9 => ?_)
  refine r_pick (lv' := [(0, .ref (a 0))]) [0] rfl ?_
  delta wp_X6_begin at h
  refine r_iconst (v := 0) X 1 dX6_begin_0 (by decide) rfl ?_
  refine r_istore_n X 2 [(1, .int 0), (0, .ref (a 0))] dX6_begin_1 rfl (by decide) rfl rfl ?_
  refine r_pick (lv' := [(0, .ref (a 0)), (1, .int 0)]) [1, 0] rfl ?_
  obtain ⟨n9, h⟩ := h
  exact wk_X6_begin_2 X hr9 hlk9 n9 h
def rm_X6_isBag : Room := { frames := 0, cells := 0, slots := 0, locals := 0 }
theorem dX6_isBag_0 : decode cX6_isBag 0 = .ok (.aload_n 0, 1) := by decide +kernel
theorem dX6_isBag_1 : decode cX6_isBag 1 = .ok (.getfield 24, 3) := by decide +kernel
theorem dX6_isBag_4 : decode cX6_isBag 4 = .ok (.iload_n 1, 1) := by decide +kernel
theorem dX6_isBag_5 : decode cX6_isBag 5 = .ok (.iaload, 1) := by decide +kernel
theorem dX6_isBag_6 : decode cX6_isBag 6 = .ok (.iconst 1, 1) := by decide +kernel
theorem dX6_isBag_7 : decode cX6_isBag 7 = .ok (.if_icmp .eq 13, 3) := by decide +kernel
theorem dX6_isBag_10 : decode cX6_isBag 10 = .ok (.aload_n 0, 1) := by decide +kernel
theorem dX6_isBag_11 : decode cX6_isBag 11 = .ok (.getfield 24, 3) := by decide +kernel
theorem dX6_isBag_14 : decode cX6_isBag 14 = .ok (.iload_n 1, 1) := by decide +kernel
theorem dX6_isBag_15 : decode cX6_isBag 15 = .ok (.iaload, 1) := by decide +kernel
theorem dX6_isBag_16 : decode cX6_isBag 16 = .ok (.iconst 3, 1) := by decide +kernel
theorem dX6_isBag_17 : decode cX6_isBag 17 = .ok (.if_icmp .le 7, 3) := by decide +kernel
theorem dX6_isBag_20 : decode cX6_isBag 20 = .ok (.iconst 1, 1) := by decide +kernel
theorem dX6_isBag_21 : decode cX6_isBag 21 = .ok (.goto 4, 3) := by decide +kernel
theorem dX6_isBag_24 : decode cX6_isBag 24 = .ok (.iconst 0, 1) := by decide +kernel
theorem dX6_isBag_25 : decode cX6_isBag 25 = .ok (.ireturn, 1) := by decide +kernel
def wp_X6_isBag  (σ : St) (x1 : Int32) (Q : Int32 → St → Prop) : Prop :=
  vp_in x1 60 ∧
  (if (σ 4 (ix x1)) = 1 then
  (Q 1 σ)
  else (vp_in x1 60 ∧
  (if 3 < (σ 4 (ix x1)) then
  (Q 1 σ)
  else (Q 0 σ))))
theorem c_X6_isBag  {σ : St} {x1 : Int32} {Q : Int32 → St → Prop} (h : wp_X6_isBag σ x1 Q) : ctI l yX6_isBag cX6_isBag 2 (some .boolean) rm_X6_isBag D (wM cI cZ a) (tyW cI cZ cH) [.ref (a 0), .int x1] σ (fun r9 u9 => isB r9 ∧ Q r9 u9) := by
  refine mk_I (wM_ok cI cZ a) (by decide +kernel) (Nat.le_of_ble_eq_true rfl) (fun p e s m args below meth c A X hr9 hlk9 => ?_)
  refine r_pick (lv' := [(0, .ref (a 0)), (1, .int x1)]) [0, 1] rfl ?_
  delta wp_X6_isBag at h
  refine r_aload_n X 0 1 dX6_isBag_0 rfl rfl rfl ?_
  refine g_X6_24 X 4 dX6_isBag_1 rfl ?_
  refine r_iload_n X 1 5 dX6_isBag_4 rfl rfl rfl ?_
  obtain ⟨hin, h⟩ := h
  refine l_M4 X 6 hin dX6_isBag_5 rfl ?_
  refine r_iconst (v := 1) X 7 dX6_isBag_6 (by decide) rfl ?_
  refine r_icmp_eq X 20 10 h dX6_isBag_7 rfl rfl (fun h => ?_) (fun h => ?_)
  · refine r_iconst (v := 1) X 21 dX6_isBag_20 (by decide) rfl ?_
    refine r_goto X 25 dX6_isBag_21 rfl ?_
    exact r_zret X hr9 hlk9 isB_1 h dX6_isBag_25
  · refine r_aload_n X 0 11 dX6_isBag_10 rfl rfl rfl ?_
    refine g_X6_24 X 14 dX6_isBag_11 rfl ?_
    refine r_iload_n X 1 15 dX6_isBag_14 rfl rfl rfl ?_
    obtain ⟨hin, h⟩ := h
    refine l_M4 X 16 hin dX6_isBag_15 rfl ?_
    refine r_iconst (v := 3) X 17 dX6_isBag_16 (by decide) rfl ?_
    refine r_icmp_le X 24 20 h dX6_isBag_17 rfl rfl (fun h => ?_) (fun h => ?_)
    · refine r_iconst (v := 0) X 25 dX6_isBag_24 (by decide) rfl ?_
      exact r_zret X hr9 hlk9 isB_0 h dX6_isBag_25
    · refine r_iconst (v := 1) X 21 dX6_isBag_20 (by decide) rfl ?_
      refine r_goto X 25 dX6_isBag_21 rfl ?_
      exact r_zret X hr9 hlk9 isB_1 h dX6_isBag_25
def rm_X6_isKept : Room := { frames := 1, cells := 0, slots := 0, locals := 22 }
theorem dX6_isKept_0 : decode cX6_isKept 0 = .ok (.iload_n 1, 1) := by decide +kernel
theorem dX6_isKept_1 : decode cX6_isKept 1 = .ok (.iconst 0, 1) := by decide +kernel
theorem dX6_isKept_2 : decode cX6_isKept 2 = .ok (.aload_n 0, 1) := by decide +kernel
theorem dX6_isKept_3 : decode cX6_isKept 3 = .ok (.getfield 93, 3) := by decide +kernel
theorem dX6_isKept_6 : decode cX6_isKept 6 = .ok (.iconst 1, 1) := by decide +kernel
theorem dX6_isKept_7 : decode cX6_isKept 7 = .ok (.isub, 1) := by decide +kernel
theorem dX6_isKept_8 : decode cX6_isKept 8 = .ok (.invokestatic 96, 3) := by decide +kernel
theorem dX6_isKept_11 : decode cX6_isKept 11 = .ok (.ifCond .eq 26, 3) := by decide +kernel
theorem dX6_isKept_14 : decode cX6_isKept 14 = .ok (.aload_n 0, 1) := by decide +kernel
theorem dX6_isKept_15 : decode cX6_isKept 15 = .ok (.getfield 45, 3) := by decide +kernel
theorem dX6_isKept_18 : decode cX6_isKept 18 = .ok (.iload_n 1, 1) := by decide +kernel
theorem dX6_isKept_19 : decode cX6_isKept 19 = .ok (.iaload, 1) := by decide +kernel
theorem dX6_isKept_20 : decode cX6_isKept 20 = .ok (.ifCond .eq 17, 3) := by decide +kernel
theorem dX6_isKept_23 : decode cX6_isKept 23 = .ok (.aload_n 0, 1) := by decide +kernel
theorem dX6_isKept_24 : decode cX6_isKept 24 = .ok (.getfield 45, 3) := by decide +kernel
theorem dX6_isKept_27 : decode cX6_isKept 27 = .ok (.iload_n 1, 1) := by decide +kernel
theorem dX6_isKept_28 : decode cX6_isKept 28 = .ok (.iaload, 1) := by decide +kernel
theorem dX6_isKept_29 : decode cX6_isKept 29 = .ok (.iconst 4, 1) := by decide +kernel
theorem dX6_isKept_30 : decode cX6_isKept 30 = .ok (.if_icmp .eq 7, 3) := by decide +kernel
theorem dX6_isKept_33 : decode cX6_isKept 33 = .ok (.iconst 1, 1) := by decide +kernel
theorem dX6_isKept_34 : decode cX6_isKept 34 = .ok (.goto 4, 3) := by decide +kernel
theorem dX6_isKept_37 : decode cX6_isKept 37 = .ok (.iconst 0, 1) := by decide +kernel
theorem dX6_isKept_38 : decode cX6_isKept 38 = .ok (.ireturn, 1) := by decide +kernel
def wp_X6_isKept  (σ : St) (x1 : Int32) (Q : Int32 → St → Prop) : Prop :=
  wp_X6_isIn σ x1 0 ((σ 0 2) - 1) (fun y2 σ1 =>
  if y2 = 0 then
  (Q 0 σ1)
  else (vp_in x1 60 ∧
  (if (σ1 9 (ix x1)) = 0 then
  (Q 0 σ1)
  else (vp_in x1 60 ∧
  (if (σ1 9 (ix x1)) = 4 then
  (Q 0 σ1)
  else (Q 1 σ1))))))
theorem c_X6_isKept  {σ : St} {x1 : Int32} {Q : Int32 → St → Prop} (h : wp_X6_isKept σ x1 Q) : ctI l yX6_isKept cX6_isKept 2 (some .boolean) rm_X6_isKept D (wM cI cZ a) (tyW cI cZ cH) [.ref (a 0), .int x1] σ (fun r9 u9 => isB r9 ∧ Q r9 u9) := by
  refine mk_I (wM_ok cI cZ a) (by decide +kernel) (Nat.le_of_ble_eq_true rfl) (fun p e s m args below meth c A X hr9 hlk9 => ?_)
  refine r_pick (lv' := [(0, .ref (a 0)), (1, .int x1)]) [0, 1] rfl ?_
  delta wp_X6_isKept at h
  refine r_iload_n X 1 1 dX6_isKept_0 rfl rfl rfl ?_
  refine r_iconst (v := 0) X 2 dX6_isKept_1 (by decide) rfl ?_
  refine r_aload_n X 0 3 dX6_isKept_2 rfl rfl rfl ?_
  refine g_X6_93 X 6 dX6_isKept_3 rfl ?_
  refine r_iconst (v := 1) X 7 dX6_isKept_6 (by decide) rfl ?_
  refine r_isub X 8 dX6_isKept_7 rfl ?_
  refine r_callSI (As := [.int x1, .int 0, .int ((σ 0 2) - 1)]) (rest := []) X 11 (c_X6_isIn h) ml_X6_96 lk_X6_isIn sy_X6_isIn rfl rfl (Nat.le_of_ble_eq_true rfl) ⟨rfl, rfl, ⟨Nat.le_of_ble_eq_true rfl, Nat.le_of_ble_eq_true rfl⟩, Nat.le_of_ble_eq_true rfl, Nat.le_of_ble_eq_true rfl⟩ dX6_isKept_8 rfl (fun y2 σ1 h => ?_)
  obtain ⟨hb_y2, h⟩ := h
  refine r_if_eq X 37 14 h dX6_isKept_11 rfl rfl (fun h => ?_) (fun h => ?_)
  · refine r_iconst (v := 0) X 38 dX6_isKept_37 (by decide) rfl ?_
    exact r_zret X hr9 hlk9 isB_0 h dX6_isKept_38
  · refine r_aload_n X 0 15 dX6_isKept_14 rfl rfl rfl ?_
    refine g_X6_45 X 18 dX6_isKept_15 rfl ?_
    refine r_iload_n X 1 19 dX6_isKept_18 rfl rfl rfl ?_
    obtain ⟨hin, h⟩ := h
    refine l_M9 X 20 hin dX6_isKept_19 rfl ?_
    refine r_if_eq X 37 23 h dX6_isKept_20 rfl rfl (fun h => ?_) (fun h => ?_)
    · refine r_iconst (v := 0) X 38 dX6_isKept_37 (by decide) rfl ?_
      exact r_zret X hr9 hlk9 isB_0 h dX6_isKept_38
    · refine r_aload_n X 0 24 dX6_isKept_23 rfl rfl rfl ?_
      refine g_X6_45 X 27 dX6_isKept_24 rfl ?_
      refine r_iload_n X 1 28 dX6_isKept_27 rfl rfl rfl ?_
      obtain ⟨hin, h⟩ := h
      refine l_M9 X 29 hin dX6_isKept_28 rfl ?_
      refine r_iconst (v := 4) X 30 dX6_isKept_29 (by decide) rfl ?_
      refine r_icmp_eq X 37 33 h dX6_isKept_30 rfl rfl (fun h => ?_) (fun h => ?_)
      · refine r_iconst (v := 0) X 38 dX6_isKept_37 (by decide) rfl ?_
        exact r_zret X hr9 hlk9 isB_0 h dX6_isKept_38
      · refine r_iconst (v := 1) X 34 dX6_isKept_33 (by decide) rfl ?_
        refine r_goto X 38 dX6_isKept_34 rfl ?_
        exact r_zret X hr9 hlk9 isB_1 h dX6_isKept_38
def rm_X6_isKeeper : Room := { frames := 1, cells := 0, slots := 0, locals := 22 }
theorem dX6_isKeeper_0 : decode cX6_isKeeper 0 = .ok (.iload_n 1, 1) := by decide +kernel
theorem dX6_isKeeper_1 : decode cX6_isKeeper 1 = .ok (.iconst 0, 1) := by decide +kernel
theorem dX6_isKeeper_2 : decode cX6_isKeeper 2 = .ok (.aload_n 0, 1) := by decide +kernel
theorem dX6_isKeeper_3 : decode cX6_isKeeper 3 = .ok (.getfield 100, 3) := by decide +kernel
theorem dX6_isKeeper_6 : decode cX6_isKeeper 6 = .ok (.iconst 1, 1) := by decide +kernel
theorem dX6_isKeeper_7 : decode cX6_isKeeper 7 = .ok (.isub, 1) := by decide +kernel
theorem dX6_isKeeper_8 : decode cX6_isKeeper 8 = .ok (.invokestatic 96, 3) := by decide +kernel
theorem dX6_isKeeper_11 : decode cX6_isKeeper 11 = .ok (.ifCond .eq 16, 3) := by decide +kernel
theorem dX6_isKeeper_14 : decode cX6_isKeeper 14 = .ok (.aload_n 0, 1) := by decide +kernel
theorem dX6_isKeeper_15 : decode cX6_isKeeper 15 = .ok (.getfield 13, 3) := by decide +kernel
theorem dX6_isKeeper_18 : decode cX6_isKeeper 18 = .ok (.iload_n 1, 1) := by decide +kernel
theorem dX6_isKeeper_19 : decode cX6_isKeeper 19 = .ok (.baload, 1) := by decide +kernel
theorem dX6_isKeeper_20 : decode cX6_isKeeper 20 = .ok (.ifCond .eq 7, 3) := by decide +kernel
theorem dX6_isKeeper_23 : decode cX6_isKeeper 23 = .ok (.iconst 1, 1) := by decide +kernel
theorem dX6_isKeeper_24 : decode cX6_isKeeper 24 = .ok (.goto 4, 3) := by decide +kernel
theorem dX6_isKeeper_27 : decode cX6_isKeeper 27 = .ok (.iconst 0, 1) := by decide +kernel
theorem dX6_isKeeper_28 : decode cX6_isKeeper 28 = .ok (.ireturn, 1) := by decide +kernel
def wp_X6_isKeeper  (σ : St) (x1 : Int32) (Q : Int32 → St → Prop) : Prop :=
  wp_X6_isIn σ x1 0 ((σ 0 0) - 1) (fun y2 σ1 =>
  if y2 = 0 then
  (Q 0 σ1)
  else (vp_in x1 20 ∧
  (if (σ1 1 (ix x1)) = 0 then
  (Q 0 σ1)
  else (Q 1 σ1))))
theorem c_X6_isKeeper  {σ : St} {x1 : Int32} {Q : Int32 → St → Prop} (h : wp_X6_isKeeper σ x1 Q) : ctI l yX6_isKeeper cX6_isKeeper 2 (some .boolean) rm_X6_isKeeper D (wM cI cZ a) (tyW cI cZ cH) [.ref (a 0), .int x1] σ (fun r9 u9 => isB r9 ∧ Q r9 u9) := by
  refine mk_I (wM_ok cI cZ a) (by decide +kernel) (Nat.le_of_ble_eq_true rfl) (fun p e s m args below meth c A X hr9 hlk9 => ?_)
  refine r_pick (lv' := [(0, .ref (a 0)), (1, .int x1)]) [0, 1] rfl ?_
  delta wp_X6_isKeeper at h
  refine r_iload_n X 1 1 dX6_isKeeper_0 rfl rfl rfl ?_
  refine r_iconst (v := 0) X 2 dX6_isKeeper_1 (by decide) rfl ?_
  refine r_aload_n X 0 3 dX6_isKeeper_2 rfl rfl rfl ?_
  refine g_X6_100 X 6 dX6_isKeeper_3 rfl ?_
  refine r_iconst (v := 1) X 7 dX6_isKeeper_6 (by decide) rfl ?_
  refine r_isub X 8 dX6_isKeeper_7 rfl ?_
  refine r_callSI (As := [.int x1, .int 0, .int ((σ 0 0) - 1)]) (rest := []) X 11 (c_X6_isIn h) ml_X6_96 lk_X6_isIn sy_X6_isIn rfl rfl (Nat.le_of_ble_eq_true rfl) ⟨rfl, rfl, ⟨Nat.le_of_ble_eq_true rfl, Nat.le_of_ble_eq_true rfl⟩, Nat.le_of_ble_eq_true rfl, Nat.le_of_ble_eq_true rfl⟩ dX6_isKeeper_8 rfl (fun y2 σ1 h => ?_)
  obtain ⟨hb_y2, h⟩ := h
  refine r_if_eq X 27 14 h dX6_isKeeper_11 rfl rfl (fun h => ?_) (fun h => ?_)
  · refine r_iconst (v := 0) X 28 dX6_isKeeper_27 (by decide) rfl ?_
    exact r_zret X hr9 hlk9 isB_0 h dX6_isKeeper_28
  · refine r_aload_n X 0 15 dX6_isKeeper_14 rfl rfl rfl ?_
    refine g_X6_13 X 18 dX6_isKeeper_15 rfl ?_
    refine r_iload_n X 1 19 dX6_isKeeper_18 rfl rfl rfl ?_
    obtain ⟨hin, h⟩ := h
    refine l_M1 X 20 hin dX6_isKeeper_19 rfl ?_
    refine r_if_eq X 27 23 h dX6_isKeeper_20 rfl rfl (fun h => ?_) (fun h => ?_)
    · refine r_iconst (v := 0) X 28 dX6_isKeeper_27 (by decide) rfl ?_
      exact r_zret X hr9 hlk9 isB_0 h dX6_isKeeper_28
    · refine r_iconst (v := 1) X 24 dX6_isKeeper_23 (by decide) rfl ?_
      refine r_goto X 28 dX6_isKeeper_24 rfl ?_
      exact r_zret X hr9 hlk9 isB_1 h dX6_isKeeper_28
def rm_X6_isHand : Room := { frames := 1, cells := 0, slots := 0, locals := 22 }
theorem dX6_isHand_0 : decode cX6_isHand 0 = .ok (.iload_n 1, 1) := by decide +kernel
theorem dX6_isHand_1 : decode cX6_isHand 1 = .ok (.iconst 0, 1) := by decide +kernel
theorem dX6_isHand_2 : decode cX6_isHand 2 = .ok (.aload_n 0, 1) := by decide +kernel
theorem dX6_isHand_3 : decode cX6_isHand 3 = .ok (.getfield 100, 3) := by decide +kernel
theorem dX6_isHand_6 : decode cX6_isHand 6 = .ok (.iconst 1, 1) := by decide +kernel
theorem dX6_isHand_7 : decode cX6_isHand 7 = .ok (.isub, 1) := by decide +kernel
theorem dX6_isHand_8 : decode cX6_isHand 8 = .ok (.invokestatic 96, 3) := by decide +kernel
theorem dX6_isHand_11 : decode cX6_isHand 11 = .ok (.ireturn, 1) := by decide +kernel
def wp_X6_isHand  (σ : St) (x1 : Int32) (Q : Int32 → St → Prop) : Prop :=
  wp_X6_isIn σ x1 0 ((σ 0 0) - 1) (fun y2 σ1 =>
  Q y2 σ1)
theorem c_X6_isHand  {σ : St} {x1 : Int32} {Q : Int32 → St → Prop} (h : wp_X6_isHand σ x1 Q) : ctI l yX6_isHand cX6_isHand 2 (some .boolean) rm_X6_isHand D (wM cI cZ a) (tyW cI cZ cH) [.ref (a 0), .int x1] σ (fun r9 u9 => isB r9 ∧ Q r9 u9) := by
  refine mk_I (wM_ok cI cZ a) (by decide +kernel) (Nat.le_of_ble_eq_true rfl) (fun p e s m args below meth c A X hr9 hlk9 => ?_)
  refine r_pick (lv' := [(0, .ref (a 0)), (1, .int x1)]) [0, 1] rfl ?_
  delta wp_X6_isHand at h
  refine r_iload_n X 1 1 dX6_isHand_0 rfl rfl rfl ?_
  refine r_iconst (v := 0) X 2 dX6_isHand_1 (by decide) rfl ?_
  refine r_aload_n X 0 3 dX6_isHand_2 rfl rfl rfl ?_
  refine g_X6_100 X 6 dX6_isHand_3 rfl ?_
  refine r_iconst (v := 1) X 7 dX6_isHand_6 (by decide) rfl ?_
  refine r_isub X 8 dX6_isHand_7 rfl ?_
  refine r_callSI (As := [.int x1, .int 0, .int ((σ 0 0) - 1)]) (rest := []) X 11 (c_X6_isIn h) ml_X6_96 lk_X6_isIn sy_X6_isIn rfl rfl (Nat.le_of_ble_eq_true rfl) ⟨rfl, rfl, ⟨Nat.le_of_ble_eq_true rfl, Nat.le_of_ble_eq_true rfl⟩, Nat.le_of_ble_eq_true rfl, Nat.le_of_ble_eq_true rfl⟩ dX6_isHand_8 rfl (fun y2 σ1 h => ?_)
  obtain ⟨hb_y2, h⟩ := h
  exact r_zret X hr9 hlk9 hb_y2 h dX6_isHand_11
def rm_X6_isEmpty : Room := { frames := 1, cells := 0, slots := 0, locals := 22 }
theorem dX6_isEmpty_0 : decode cX6_isEmpty 0 = .ok (.iload_n 1, 1) := by decide +kernel
theorem dX6_isEmpty_1 : decode cX6_isEmpty 1 = .ok (.iconst 0, 1) := by decide +kernel
theorem dX6_isEmpty_2 : decode cX6_isEmpty 2 = .ok (.bipush 12, 2) := by decide +kernel
theorem dX6_isEmpty_4 : decode cX6_isEmpty 4 = .ok (.aload_n 0, 1) := by decide +kernel
theorem dX6_isEmpty_5 : decode cX6_isEmpty 5 = .ok (.getfield 103, 3) := by decide +kernel
theorem dX6_isEmpty_8 : decode cX6_isEmpty 8 = .ok (.imul, 1) := by decide +kernel
theorem dX6_isEmpty_9 : decode cX6_isEmpty 9 = .ok (.iconst 1, 1) := by decide +kernel
theorem dX6_isEmpty_10 : decode cX6_isEmpty 10 = .ok (.isub, 1) := by decide +kernel
theorem dX6_isEmpty_11 : decode cX6_isEmpty 11 = .ok (.invokestatic 96, 3) := by decide +kernel
theorem dX6_isEmpty_14 : decode cX6_isEmpty 14 = .ok (.ifCond .ne 5, 3) := by decide +kernel
theorem dX6_isEmpty_17 : decode cX6_isEmpty 17 = .ok (.iconst 0, 1) := by decide +kernel
theorem dX6_isEmpty_18 : decode cX6_isEmpty 18 = .ok (.ireturn, 1) := by decide +kernel
theorem dX6_isEmpty_19 : decode cX6_isEmpty 19 = .ok (.iconst 0, 1) := by decide +kernel
theorem dX6_isEmpty_20 : decode cX6_isEmpty 20 = .ok (.istore_n 2, 1) := by decide +kernel
theorem dX6_isEmpty_21 : decode cX6_isEmpty 21 = .ok (.iload_n 2, 1) := by decide +kernel
theorem dX6_isEmpty_22 : decode cX6_isEmpty 22 = .ok (.aload_n 0, 1) := by decide +kernel
theorem dX6_isEmpty_23 : decode cX6_isEmpty 23 = .ok (.getfield 93, 3) := by decide +kernel
theorem dX6_isEmpty_26 : decode cX6_isEmpty 26 = .ok (.if_icmp .ge 31, 3) := by decide +kernel
theorem dX6_isEmpty_29 : decode cX6_isEmpty 29 = .ok (.aload_n 0, 1) := by decide +kernel
theorem dX6_isEmpty_30 : decode cX6_isEmpty 30 = .ok (.getfield 45, 3) := by decide +kernel
theorem dX6_isEmpty_33 : decode cX6_isEmpty 33 = .ok (.iload_n 2, 1) := by decide +kernel
theorem dX6_isEmpty_34 : decode cX6_isEmpty 34 = .ok (.iaload, 1) := by decide +kernel
theorem dX6_isEmpty_35 : decode cX6_isEmpty 35 = .ok (.iconst 1, 1) := by decide +kernel
theorem dX6_isEmpty_36 : decode cX6_isEmpty 36 = .ok (.if_icmp .ne 15, 3) := by decide +kernel
theorem dX6_isEmpty_39 : decode cX6_isEmpty 39 = .ok (.aload_n 0, 1) := by decide +kernel
theorem dX6_isEmpty_40 : decode cX6_isEmpty 40 = .ok (.getfield 48, 3) := by decide +kernel
theorem dX6_isEmpty_43 : decode cX6_isEmpty 43 = .ok (.iload_n 2, 1) := by decide +kernel
theorem dX6_isEmpty_44 : decode cX6_isEmpty 44 = .ok (.iaload, 1) := by decide +kernel
theorem dX6_isEmpty_45 : decode cX6_isEmpty 45 = .ok (.iload_n 1, 1) := by decide +kernel
theorem dX6_isEmpty_46 : decode cX6_isEmpty 46 = .ok (.if_icmp .ne 5, 3) := by decide +kernel
theorem dX6_isEmpty_49 : decode cX6_isEmpty 49 = .ok (.iconst 0, 1) := by decide +kernel
theorem dX6_isEmpty_50 : decode cX6_isEmpty 50 = .ok (.ireturn, 1) := by decide +kernel
theorem dX6_isEmpty_51 : decode cX6_isEmpty 51 = .ok (.iinc 2 1, 3) := by decide +kernel
theorem dX6_isEmpty_54 : decode cX6_isEmpty 54 = .ok (.goto (-33), 3) := by decide +kernel
theorem dX6_isEmpty_57 : decode cX6_isEmpty 57 = .ok (.iconst 1, 1) := by decide +kernel
theorem dX6_isEmpty_58 : decode cX6_isEmpty 58 = .ok (.ireturn, 1) := by decide +kernel
def j_X6_isEmpty_51  (Q : Int32 → St → Prop) (rec21 : Int32 → Int32 → St → Prop) (v1 : Int32) (v2 : Int32) (σ : St) : Prop :=
  rec21 v1 (v2 + 1) σ
theorem wk_X6_isEmpty_51 (X : cx p s m args c cX6_isEmpty 3 RX6 D (wM cI cZ a) A (tyW cI cZ cH)) (hr9 : meth.sig.returnType = (some .boolean)) (hlk9 : meth.locks = false)  {Q : Int32 → St → Prop} {rec21 : Int32 → Int32 → St → Prop} (hrec21 : ∀ (v1 : Int32) (v2 : Int32) (σ : St), rec21 v1 v2 σ → go p l e rm_X6_isEmpty s m args below meth c D (wM cI cZ a) A 0 0 (MQ below (va_Qi (fun r9 u9 => isB r9 ∧ Q r9 u9) (atw D (wM cI cZ a) (tyW cI cZ cH) A) A) args s 0 0 A) 3 21 [(0, .ref (a 0)), (1, .int v1), (2, .int v2)] [] σ) {v1 : Int32} {v2 : Int32} {σ : St} (h : j_X6_isEmpty_51 Q rec21 v1 v2 σ) : go p l e rm_X6_isEmpty s m args below meth c D (wM cI cZ a) A 0 0 (MQ below (va_Qi (fun r9 u9 => isB r9 ∧ Q r9 u9) (atw D (wM cI cZ a) (tyW cI cZ cH) A) A) args s 0 0 A) 3 51 [(0, .ref (a 0)), (1, .int v1), (2, .int v2)] [] σ := by
  delta j_X6_isEmpty_51 at h
  refine r_iinc (d := 1) X 2 54 [(2, .int (v2 + 1)), (0, .ref (a 0)), (1, .int v1)] dX6_isEmpty_51 rfl (by decide) (by decide) rfl rfl ?_
  refine r_goto X 21 dX6_isEmpty_54 rfl ?_
  refine r_pick (lv' := [(0, .ref (a 0)), (1, .int v1), (2, .int (v2 + 1))]) [1, 2, 0] rfl ?_
  exact hrec21 _ _ _ h
def b_X6_isEmpty_21  (Q : Int32 → St → Prop) (rec21 : Int32 → Int32 → St → Prop) (v1 : Int32) (v2 : Int32) (σ : St) : Prop :=
  if v2 < (σ 0 2) then
  (vp_in v2 60 ∧
  (if (σ 9 (ix v2)) = 1 then
  (vp_in v2 60 ∧
  (if (σ 10 (ix v2)) = v1 then
  (Q 0 σ)
  else (j_X6_isEmpty_51 Q rec21 v1 v2 σ)))
  else (j_X6_isEmpty_51 Q rec21 v1 v2 σ)))
  else (Q 1 σ)
def lp_X6_isEmpty_21  (Q : Int32 → St → Prop) (n9 : Nat) : Int32 → Int32 → St → Prop :=
  Nat.rec (fun _ _ _ => False) (fun _ rec9 => b_X6_isEmpty_21  Q  rec9) n9
theorem wk_X6_isEmpty_21 (X : cx p s m args c cX6_isEmpty 3 RX6 D (wM cI cZ a) A (tyW cI cZ cH)) (hr9 : meth.sig.returnType = (some .boolean)) (hlk9 : meth.locks = false)  {Q : Int32 → St → Prop} : ∀ (n9 : Nat) {v1 : Int32} {v2 : Int32} {σ : St}, lp_X6_isEmpty_21 Q n9 v1 v2 σ → go p l e rm_X6_isEmpty s m args below meth c D (wM cI cZ a) A 0 0 (MQ below (va_Qi (fun r9 u9 => isB r9 ∧ Q r9 u9) (atw D (wM cI cZ a) (tyW cI cZ cH) A) A) args s 0 0 A) 3 21 [(0, .ref (a 0)), (1, .int v1), (2, .int v2)] [] σ := by
  intro n9
  induction n9 with
  | zero => intro v1 v2 σ h; exact h.elim
  | succ n9 ih =>
    intro v1 v2 σ h
    have hrec21 := fun v1 v2 σ h => ih (σ := σ) (v1 := v1) (v2 := v2) h
    replace h : b_X6_isEmpty_21 Q (lp_X6_isEmpty_21 Q n9) v1 v2 σ := h
    delta b_X6_isEmpty_21 at h
    refine r_iload_n X 2 22 dX6_isEmpty_21 rfl rfl rfl ?_
    refine r_aload_n X 0 23 dX6_isEmpty_22 rfl rfl rfl ?_
    refine g_X6_93 X 26 dX6_isEmpty_23 rfl ?_
    refine r_icmp_ge X 57 29 h dX6_isEmpty_26 rfl rfl (fun h => ?_) (fun h => ?_)
    · refine r_iconst (v := 1) X 58 dX6_isEmpty_57 (by decide) rfl ?_
      exact r_zret X hr9 hlk9 isB_1 h dX6_isEmpty_58
    · refine r_aload_n X 0 30 dX6_isEmpty_29 rfl rfl rfl ?_
      refine g_X6_45 X 33 dX6_isEmpty_30 rfl ?_
      refine r_iload_n X 2 34 dX6_isEmpty_33 rfl rfl rfl ?_
      obtain ⟨hin, h⟩ := h
      refine l_M9 X 35 hin dX6_isEmpty_34 rfl ?_
      refine r_iconst (v := 1) X 36 dX6_isEmpty_35 (by decide) rfl ?_
      refine r_icmp_ne X 51 39 h dX6_isEmpty_36 rfl rfl (fun h => ?_) (fun h => ?_)
      · refine r_pick (lv' := [(0, .ref (a 0)), (1, .int v1), (2, .int v2)]) [0, 1, 2] rfl ?_
        exact wk_X6_isEmpty_51 X hr9 hlk9 hrec21 h
      · refine r_aload_n X 0 40 dX6_isEmpty_39 rfl rfl rfl ?_
        refine g_X6_48 X 43 dX6_isEmpty_40 rfl ?_
        refine r_iload_n X 2 44 dX6_isEmpty_43 rfl rfl rfl ?_
        obtain ⟨hin, h⟩ := h
        refine l_M10 X 45 hin dX6_isEmpty_44 rfl ?_
        refine r_iload_n X 1 46 dX6_isEmpty_45 rfl rfl rfl ?_
        refine r_icmp_ne X 51 49 h dX6_isEmpty_46 rfl rfl (fun h => ?_) (fun h => ?_)
        · refine r_pick (lv' := [(0, .ref (a 0)), (1, .int v1), (2, .int v2)]) [0, 1, 2] rfl ?_
          exact wk_X6_isEmpty_51 X hr9 hlk9 hrec21 h
        · refine r_iconst (v := 0) X 50 dX6_isEmpty_49 (by decide) rfl ?_
          exact r_zret X hr9 hlk9 isB_0 h dX6_isEmpty_50
def wp_X6_isEmpty  (σ : St) (x1 : Int32) (Q : Int32 → St → Prop) : Prop :=
  wp_X6_isIn σ x1 0 (((12 : Int32) * (σ 0 1)) - 1) (fun y2 σ1 =>
  if y2 = 0 then
  (Q 0 σ1)
  else (∃ n9 : Nat, lp_X6_isEmpty_21 Q n9 x1 0 σ1))
theorem c_X6_isEmpty  {σ : St} {x1 : Int32} {Q : Int32 → St → Prop} (h : wp_X6_isEmpty σ x1 Q) : ctI l yX6_isEmpty cX6_isEmpty 3 (some .boolean) rm_X6_isEmpty D (wM cI cZ a) (tyW cI cZ cH) [.ref (a 0), .int x1] σ (fun r9 u9 => isB r9 ∧ Q r9 u9) := by
  refine mk_I (wM_ok cI cZ a) (by decide +kernel) (Nat.le_of_ble_eq_true rfl) (fun p e s m args below meth c A X hr9 hlk9 => ?_)
  refine r_pick (lv' := [(0, .ref (a 0)), (1, .int x1)]) [0, 1] rfl ?_
  delta wp_X6_isEmpty at h
  refine r_iload_n X 1 1 dX6_isEmpty_0 rfl rfl rfl ?_
  refine r_iconst (v := 0) X 2 dX6_isEmpty_1 (by decide) rfl ?_
  refine r_bipush (v := 12) X 4 dX6_isEmpty_2 (by decide) rfl ?_
  refine r_aload_n X 0 5 dX6_isEmpty_4 rfl rfl rfl ?_
  refine g_X6_103 X 8 dX6_isEmpty_5 rfl ?_
  refine r_imul X 9 dX6_isEmpty_8 rfl ?_
  refine r_iconst (v := 1) X 10 dX6_isEmpty_9 (by decide) rfl ?_
  refine r_isub X 11 dX6_isEmpty_10 rfl ?_
  refine r_callSI (As := [.int x1, .int 0, .int (((12 : Int32) * (σ 0 1)) - 1)]) (rest := []) X 14 (c_X6_isIn h) ml_X6_96 lk_X6_isIn sy_X6_isIn rfl rfl (Nat.le_of_ble_eq_true rfl) ⟨rfl, rfl, ⟨Nat.le_of_ble_eq_true rfl, Nat.le_of_ble_eq_true rfl⟩, Nat.le_of_ble_eq_true rfl, Nat.le_of_ble_eq_true rfl⟩ dX6_isEmpty_11 rfl (fun y2 σ1 h => ?_)
  obtain ⟨hb_y2, h⟩ := h
  refine r_if_ne X 19 17 h dX6_isEmpty_14 rfl rfl (fun h => ?_) (fun h => ?_)
  · refine r_iconst (v := 0) X 20 dX6_isEmpty_19 (by decide) rfl ?_
    refine r_istore_n X 21 [(2, .int 0), (0, .ref (a 0)), (1, .int x1)] dX6_isEmpty_20 rfl (by decide) rfl rfl ?_
    refine r_pick (lv' := [(0, .ref (a 0)), (1, .int x1), (2, .int 0)]) [1, 2, 0] rfl ?_
    obtain ⟨n9, h⟩ := h
    exact wk_X6_isEmpty_21 X hr9 hlk9 n9 h
  · refine r_iconst (v := 0) X 18 dX6_isEmpty_17 (by decide) rfl ?_
    exact r_zret X hr9 hlk9 isB_0 h dX6_isEmpty_18
def rm_X6_fits : Room := { frames := 2, cells := 0, slots := 0, locals := 44 }
theorem dX6_fits_0 : decode cX6_fits 0 = .ok (.aload_n 0, 1) := by decide +kernel
theorem dX6_fits_1 : decode cX6_fits 1 = .ok (.iload_n 2, 1) := by decide +kernel
theorem dX6_fits_2 : decode cX6_fits 2 = .ok (.invokevirtual 106, 3) := by decide +kernel
theorem dX6_fits_5 : decode cX6_fits 5 = .ok (.ifCond .eq 29, 3) := by decide +kernel
theorem dX6_fits_8 : decode cX6_fits 8 = .ok (.aload_n 0, 1) := by decide +kernel
theorem dX6_fits_9 : decode cX6_fits 9 = .ok (.getfield 24, 3) := by decide +kernel
theorem dX6_fits_12 : decode cX6_fits 12 = .ok (.iload_n 1, 1) := by decide +kernel
theorem dX6_fits_13 : decode cX6_fits 13 = .ok (.iaload, 1) := by decide +kernel
theorem dX6_fits_14 : decode cX6_fits 14 = .ok (.iconst 4, 1) := by decide +kernel
theorem dX6_fits_15 : decode cX6_fits 15 = .ok (.if_icmp .ne 15, 3) := by decide +kernel
theorem dX6_fits_18 : decode cX6_fits 18 = .ok (.aload_n 0, 1) := by decide +kernel
theorem dX6_fits_19 : decode cX6_fits 19 = .ok (.getfield 17, 3) := by decide +kernel
theorem dX6_fits_22 : decode cX6_fits 22 = .ok (.iload_n 2, 1) := by decide +kernel
theorem dX6_fits_23 : decode cX6_fits 23 = .ok (.bipush 12, 2) := by decide +kernel
theorem dX6_fits_25 : decode cX6_fits 25 = .ok (.idiv, 1) := by decide +kernel
theorem dX6_fits_26 : decode cX6_fits 26 = .ok (.baload, 1) := by decide +kernel
theorem dX6_fits_27 : decode cX6_fits 27 = .ok (.ifCond .eq 7, 3) := by decide +kernel
theorem dX6_fits_30 : decode cX6_fits 30 = .ok (.iconst 1, 1) := by decide +kernel
theorem dX6_fits_31 : decode cX6_fits 31 = .ok (.goto 4, 3) := by decide +kernel
theorem dX6_fits_34 : decode cX6_fits 34 = .ok (.iconst 0, 1) := by decide +kernel
theorem dX6_fits_35 : decode cX6_fits 35 = .ok (.ireturn, 1) := by decide +kernel
def wp_X6_fits  (σ : St) (x1 : Int32) (x2 : Int32) (Q : Int32 → St → Prop) : Prop :=
  wp_X6_isEmpty σ x2 (fun y2 σ1 =>
  if y2 = 0 then
  (Q 0 σ1)
  else (vp_in x1 60 ∧
  (if (σ1 4 (ix x1)) = 4 then
  (vp_in (x2 / 12) 8 ∧
  (if (σ1 2 (ix (x2 / 12))) = 0 then
  (Q 0 σ1)
  else (Q 1 σ1)))
  else (Q 1 σ1))))
theorem c_X6_fits  {σ : St} {x1 : Int32} {x2 : Int32} {Q : Int32 → St → Prop} (h : wp_X6_fits σ x1 x2 Q) : ctI l yX6_fits cX6_fits 3 (some .boolean) rm_X6_fits D (wM cI cZ a) (tyW cI cZ cH) [.ref (a 0), .int x1, .int x2] σ (fun r9 u9 => isB r9 ∧ Q r9 u9) := by
  refine mk_I (wM_ok cI cZ a) (by decide +kernel) (Nat.le_of_ble_eq_true rfl) (fun p e s m args below meth c A X hr9 hlk9 => ?_)
  refine r_pick (lv' := [(0, .ref (a 0)), (1, .int x1), (2, .int x2)]) [0, 1, 2] rfl ?_
  delta wp_X6_fits at h
  refine r_aload_n X 0 1 dX6_fits_0 rfl rfl rfl ?_
  refine r_iload_n X 2 2 dX6_fits_1 rfl rfl rfl ?_
  refine r_callI (As := [.int x2]) (rest := []) X 5 (c_X6_isEmpty h) ml_X6_106 lk_X6_isEmpty wM_at_0 rfl rfl rfl (Nat.le_of_ble_eq_true rfl) ⟨rfl, rfl, ⟨Nat.le_of_ble_eq_true rfl, Nat.le_of_ble_eq_true rfl⟩, Nat.le_of_ble_eq_true rfl, Nat.le_of_ble_eq_true rfl⟩ dX6_fits_2 rfl (fun y2 σ1 h => ?_)
  obtain ⟨hb_y2, h⟩ := h
  refine r_if_eq X 34 8 h dX6_fits_5 rfl rfl (fun h => ?_) (fun h => ?_)
  · refine r_iconst (v := 0) X 35 dX6_fits_34 (by decide) rfl ?_
    exact r_zret X hr9 hlk9 isB_0 h dX6_fits_35
  · refine r_aload_n X 0 9 dX6_fits_8 rfl rfl rfl ?_
    refine g_X6_24 X 12 dX6_fits_9 rfl ?_
    refine r_iload_n X 1 13 dX6_fits_12 rfl rfl rfl ?_
    obtain ⟨hin, h⟩ := h
    refine l_M4 X 14 hin dX6_fits_13 rfl ?_
    refine r_iconst (v := 4) X 15 dX6_fits_14 (by decide) rfl ?_
    refine r_icmp_ne X 30 18 h dX6_fits_15 rfl rfl (fun h => ?_) (fun h => ?_)
    · refine r_iconst (v := 1) X 31 dX6_fits_30 (by decide) rfl ?_
      refine r_goto X 35 dX6_fits_31 rfl ?_
      exact r_zret X hr9 hlk9 isB_1 h dX6_fits_35
    · refine r_aload_n X 0 19 dX6_fits_18 rfl rfl rfl ?_
      refine g_X6_17 X 22 dX6_fits_19 rfl ?_
      refine r_iload_n X 2 23 dX6_fits_22 rfl rfl rfl ?_
      refine r_bipush (v := 12) X 25 dX6_fits_23 (by decide) rfl ?_
      refine r_idiv X 26 dX6_fits_25 (by decide) rfl ?_
      obtain ⟨hin, h⟩ := h
      refine l_M2 X 27 hin dX6_fits_26 rfl ?_
      refine r_if_eq X 34 30 h dX6_fits_27 rfl rfl (fun h => ?_) (fun h => ?_)
      · refine r_iconst (v := 0) X 35 dX6_fits_34 (by decide) rfl ?_
        exact r_zret X hr9 hlk9 isB_0 h dX6_fits_35
      · refine r_iconst (v := 1) X 31 dX6_fits_30 (by decide) rfl ?_
        refine r_goto X 35 dX6_fits_31 rfl ?_
        exact r_zret X hr9 hlk9 isB_1 h dX6_fits_35
def rm_X6_hasKeepers : Room := { frames := 2, cells := 0, slots := 0, locals := 43 }
theorem dX6_hasKeepers_0 : decode cX6_hasKeepers 0 = .ok (.aload_n 0, 1) := by decide +kernel
theorem dX6_hasKeepers_1 : decode cX6_hasKeepers 1 = .ok (.iload_n 1, 1) := by decide +kernel
theorem dX6_hasKeepers_2 : decode cX6_hasKeepers 2 = .ok (.invokevirtual 110, 3) := by decide +kernel
theorem dX6_hasKeepers_5 : decode cX6_hasKeepers 5 = .ok (.ifCond .eq 24, 3) := by decide +kernel
theorem dX6_hasKeepers_8 : decode cX6_hasKeepers 8 = .ok (.iload_n 3, 1) := by decide +kernel
theorem dX6_hasKeepers_9 : decode cX6_hasKeepers 9 = .ok (.ifCond .eq 16, 3) := by decide +kernel
theorem dX6_hasKeepers_12 : decode cX6_hasKeepers 12 = .ok (.iload_n 2, 1) := by decide +kernel
theorem dX6_hasKeepers_13 : decode cX6_hasKeepers 13 = .ok (.iload_n 1, 1) := by decide +kernel
theorem dX6_hasKeepers_14 : decode cX6_hasKeepers 14 = .ok (.if_icmp .eq 15, 3) := by decide +kernel
theorem dX6_hasKeepers_17 : decode cX6_hasKeepers 17 = .ok (.aload_n 0, 1) := by decide +kernel
theorem dX6_hasKeepers_18 : decode cX6_hasKeepers 18 = .ok (.iload_n 2, 1) := by decide +kernel
theorem dX6_hasKeepers_19 : decode cX6_hasKeepers 19 = .ok (.invokevirtual 110, 3) := by decide +kernel
theorem dX6_hasKeepers_22 : decode cX6_hasKeepers 22 = .ok (.ifCond .eq 7, 3) := by decide +kernel
theorem dX6_hasKeepers_25 : decode cX6_hasKeepers 25 = .ok (.iconst 1, 1) := by decide +kernel
theorem dX6_hasKeepers_26 : decode cX6_hasKeepers 26 = .ok (.goto 4, 3) := by decide +kernel
theorem dX6_hasKeepers_29 : decode cX6_hasKeepers 29 = .ok (.iconst 0, 1) := by decide +kernel
theorem dX6_hasKeepers_30 : decode cX6_hasKeepers 30 = .ok (.ireturn, 1) := by decide +kernel
def wp_X6_hasKeepers  (σ : St) (x1 : Int32) (x2 : Int32) (x3 : Int32) (Q : Int32 → St → Prop) : Prop :=
  wp_X6_isKeeper σ x1 (fun y2 σ1 =>
  if y2 = 0 then
  (Q 0 σ1)
  else (if x3 = 0 then
  (Q 1 σ1)
  else (if x2 = x1 then
  (Q 0 σ1)
  else (wp_X6_isKeeper σ1 x2 (fun y4 σ3 =>
  if y4 = 0 then
  (Q 0 σ3)
  else (Q 1 σ3))))))
theorem c_X6_hasKeepers  {σ : St} {x1 : Int32} {x2 : Int32} {x3 : Int32} {Q : Int32 → St → Prop} (h : wp_X6_hasKeepers σ x1 x2 x3 Q) : ctI l yX6_hasKeepers cX6_hasKeepers 4 (some .boolean) rm_X6_hasKeepers D (wM cI cZ a) (tyW cI cZ cH) [.ref (a 0), .int x1, .int x2, .int x3] σ (fun r9 u9 => isB r9 ∧ Q r9 u9) := by
  refine mk_I (wM_ok cI cZ a) (by decide +kernel) (Nat.le_of_ble_eq_true rfl) (fun p e s m args below meth c A X hr9 hlk9 => ?_)
  refine r_pick (lv' := [(0, .ref (a 0)), (1, .int x1), (2, .int x2), (3, .int x3)]) [0, 1, 2, 3] rfl ?_
  delta wp_X6_hasKeepers at h
  refine r_aload_n X 0 1 dX6_hasKeepers_0 rfl rfl rfl ?_
  refine r_iload_n X 1 2 dX6_hasKeepers_1 rfl rfl rfl ?_
  refine r_callI (As := [.int x1]) (rest := []) X 5 (c_X6_isKeeper h) ml_X6_110 lk_X6_isKeeper wM_at_0 rfl rfl rfl (Nat.le_of_ble_eq_true rfl) ⟨rfl, rfl, ⟨Nat.le_of_ble_eq_true rfl, Nat.le_of_ble_eq_true rfl⟩, Nat.le_of_ble_eq_true rfl, Nat.le_of_ble_eq_true rfl⟩ dX6_hasKeepers_2 rfl (fun y2 σ1 h => ?_)
  obtain ⟨hb_y2, h⟩ := h
  refine r_if_eq X 29 8 h dX6_hasKeepers_5 rfl rfl (fun h => ?_) (fun h => ?_)
  · refine r_iconst (v := 0) X 30 dX6_hasKeepers_29 (by decide) rfl ?_
    exact r_zret X hr9 hlk9 isB_0 h dX6_hasKeepers_30
  · refine r_iload_n X 3 9 dX6_hasKeepers_8 rfl rfl rfl ?_
    refine r_if_eq X 25 12 h dX6_hasKeepers_9 rfl rfl (fun h => ?_) (fun h => ?_)
    · refine r_iconst (v := 1) X 26 dX6_hasKeepers_25 (by decide) rfl ?_
      refine r_goto X 30 dX6_hasKeepers_26 rfl ?_
      exact r_zret X hr9 hlk9 isB_1 h dX6_hasKeepers_30
    · refine r_iload_n X 2 13 dX6_hasKeepers_12 rfl rfl rfl ?_
      refine r_iload_n X 1 14 dX6_hasKeepers_13 rfl rfl rfl ?_
      refine r_icmp_eq X 29 17 h dX6_hasKeepers_14 rfl rfl (fun h => ?_) (fun h => ?_)
      · refine r_iconst (v := 0) X 30 dX6_hasKeepers_29 (by decide) rfl ?_
        exact r_zret X hr9 hlk9 isB_0 h dX6_hasKeepers_30
      · refine r_aload_n X 0 18 dX6_hasKeepers_17 rfl rfl rfl ?_
        refine r_iload_n X 2 19 dX6_hasKeepers_18 rfl rfl rfl ?_
        refine r_callI (As := [.int x2]) (rest := []) X 22 (c_X6_isKeeper h) ml_X6_110 lk_X6_isKeeper wM_at_0 rfl rfl rfl (Nat.le_of_ble_eq_true rfl) ⟨rfl, rfl, ⟨Nat.le_of_ble_eq_true rfl, Nat.le_of_ble_eq_true rfl⟩, Nat.le_of_ble_eq_true rfl, Nat.le_of_ble_eq_true rfl⟩ dX6_hasKeepers_19 rfl (fun y4 σ3 h => ?_)
        obtain ⟨hb_y4, h⟩ := h
        refine r_if_eq X 29 25 h dX6_hasKeepers_22 rfl rfl (fun h => ?_) (fun h => ?_)
        · refine r_iconst (v := 0) X 30 dX6_hasKeepers_29 (by decide) rfl ?_
          exact r_zret X hr9 hlk9 isB_0 h dX6_hasKeepers_30
        · refine r_iconst (v := 1) X 26 dX6_hasKeepers_25 (by decide) rfl ?_
          refine r_goto X 30 dX6_hasKeepers_26 rfl ?_
          exact r_zret X hr9 hlk9 isB_1 h dX6_hasKeepers_30
def rm_X6_isFree : Room := { frames := 2, cells := 0, slots := 0, locals := 43 }
theorem dX6_isFree_0 : decode cX6_isFree 0 = .ok (.aload_n 0, 1) := by decide +kernel
theorem dX6_isFree_1 : decode cX6_isFree 1 = .ok (.iload_n 1, 1) := by decide +kernel
theorem dX6_isFree_2 : decode cX6_isFree 2 = .ok (.invokevirtual 113, 3) := by decide +kernel
theorem dX6_isFree_5 : decode cX6_isFree 5 = .ok (.ifCond .ne 5, 3) := by decide +kernel
theorem dX6_isFree_8 : decode cX6_isFree 8 = .ok (.iconst 0, 1) := by decide +kernel
theorem dX6_isFree_9 : decode cX6_isFree 9 = .ok (.ireturn, 1) := by decide +kernel
theorem dX6_isFree_10 : decode cX6_isFree 10 = .ok (.iload_n 1, 1) := by decide +kernel
theorem dX6_isFree_11 : decode cX6_isFree 11 = .ok (.istore_n 2, 1) := by decide +kernel
theorem dX6_isFree_12 : decode cX6_isFree 12 = .ok (.aload_n 0, 1) := by decide +kernel
theorem dX6_isFree_13 : decode cX6_isFree 13 = .ok (.getfield 45, 3) := by decide +kernel
theorem dX6_isFree_16 : decode cX6_isFree 16 = .ok (.iload_n 2, 1) := by decide +kernel
theorem dX6_isFree_17 : decode cX6_isFree 17 = .ok (.iaload, 1) := by decide +kernel
theorem dX6_isFree_18 : decode cX6_isFree 18 = .ok (.iconst 3, 1) := by decide +kernel
theorem dX6_isFree_19 : decode cX6_isFree 19 = .ok (.if_icmp .ne 22, 3) := by decide +kernel
theorem dX6_isFree_22 : decode cX6_isFree 22 = .ok (.aload_n 0, 1) := by decide +kernel
theorem dX6_isFree_23 : decode cX6_isFree 23 = .ok (.getfield 48, 3) := by decide +kernel
theorem dX6_isFree_26 : decode cX6_isFree 26 = .ok (.iload_n 2, 1) := by decide +kernel
theorem dX6_isFree_27 : decode cX6_isFree 27 = .ok (.iaload, 1) := by decide +kernel
theorem dX6_isFree_28 : decode cX6_isFree 28 = .ok (.istore_n 2, 1) := by decide +kernel
theorem dX6_isFree_29 : decode cX6_isFree 29 = .ok (.aload_n 0, 1) := by decide +kernel
theorem dX6_isFree_30 : decode cX6_isFree 30 = .ok (.getfield 54, 3) := by decide +kernel
theorem dX6_isFree_33 : decode cX6_isFree 33 = .ok (.iload_n 2, 1) := by decide +kernel
theorem dX6_isFree_34 : decode cX6_isFree 34 = .ok (.iaload, 1) := by decide +kernel
theorem dX6_isFree_35 : decode cX6_isFree 35 = .ok (.iconst (-1), 1) := by decide +kernel
theorem dX6_isFree_36 : decode cX6_isFree 36 = .ok (.if_icmp .eq (-24), 3) := by decide +kernel
theorem dX6_isFree_39 : decode cX6_isFree 39 = .ok (.iconst 0, 1) := by decide +kernel
theorem dX6_isFree_40 : decode cX6_isFree 40 = .ok (.ireturn, 1) := by decide +kernel
theorem dX6_isFree_41 : decode cX6_isFree 41 = .ok (.iconst 1, 1) := by decide +kernel
theorem dX6_isFree_42 : decode cX6_isFree 42 = .ok (.ireturn, 1) := by decide +kernel
def b_X6_isFree_12  (Q : Int32 → St → Prop) (rec12 : Int32 → St → Prop) (v2 : Int32) (σ : St) : Prop :=
  vp_in v2 60 ∧
  (if (σ 9 (ix v2)) = 3 then
  (vp_in v2 60 ∧
  (nm ((σ 10 (ix v2))) (fun z3 =>
  vp_in z3 60 ∧
  (if (σ 12 (ix z3)) = (-1) then
  (rec12 z3 σ)
  else (Q 0 σ)))))
  else (Q 1 σ))
def lp_X6_isFree_12  (Q : Int32 → St → Prop) (n9 : Nat) : Int32 → St → Prop :=
  Nat.rec (fun _ _ => False) (fun _ rec9 => b_X6_isFree_12  Q  rec9) n9
theorem wk_X6_isFree_12 (X : cx p s m args c cX6_isFree 3 RX6 D (wM cI cZ a) A (tyW cI cZ cH)) (hr9 : meth.sig.returnType = (some .boolean)) (hlk9 : meth.locks = false)  {Q : Int32 → St → Prop} : ∀ (n9 : Nat) {v2 : Int32} {σ : St}, lp_X6_isFree_12 Q n9 v2 σ → go p l e rm_X6_isFree s m args below meth c D (wM cI cZ a) A 0 0 (MQ below (va_Qi (fun r9 u9 => isB r9 ∧ Q r9 u9) (atw D (wM cI cZ a) (tyW cI cZ cH) A) A) args s 0 0 A) 3 12 [(0, .ref (a 0)), (2, .int v2)] [] σ := by
  intro n9
  induction n9 with
  | zero => intro v2 σ h; exact h.elim
  | succ n9 ih =>
    intro v2 σ h
    have hrec12 := fun v2 σ h => ih (σ := σ) (v2 := v2) h
    replace h : b_X6_isFree_12 Q (lp_X6_isFree_12 Q n9) v2 σ := h
    delta b_X6_isFree_12 at h
    refine r_aload_n X 0 13 dX6_isFree_12 rfl rfl rfl ?_
    refine g_X6_45 X 16 dX6_isFree_13 rfl ?_
    refine r_iload_n X 1 17 dX6_isFree_16 rfl rfl rfl ?_
    obtain ⟨hin, h⟩ := h
    refine l_M9 X 18 hin dX6_isFree_17 rfl ?_
    refine r_iconst (v := 3) X 19 dX6_isFree_18 (by decide) rfl ?_
    refine r_icmp_ne X 41 22 h dX6_isFree_19 rfl rfl (fun h => ?_) (fun h => ?_)
    · refine r_iconst (v := 1) X 42 dX6_isFree_41 (by decide) rfl ?_
      exact r_zret X hr9 hlk9 isB_1 h dX6_isFree_42
    · refine r_aload_n X 0 23 dX6_isFree_22 rfl rfl rfl ?_
      refine g_X6_48 X 26 dX6_isFree_23 rfl ?_
      refine r_iload_n X 1 27 dX6_isFree_26 rfl rfl rfl ?_
      obtain ⟨hin, h⟩ := h
      refine l_M10 X 28 hin dX6_isFree_27 rfl ?_
      refine r_istore_nN X 29 (fun z3 => [(2, .int z3), (0, .ref (a 0))]) h dX6_isFree_28 rfl (by decide) (fun _ => rfl) rfl (fun z3 h => ?_)
      refine r_aload_n X 1 30 dX6_isFree_29 rfl rfl rfl ?_
      refine g_X6_54 X 33 dX6_isFree_30 rfl ?_
      refine r_iload_n X 0 34 dX6_isFree_33 rfl rfl rfl ?_
      obtain ⟨hin, h⟩ := h
      refine l_M12 X 35 hin dX6_isFree_34 rfl ?_
      refine r_iconst (v := (-1)) X 36 dX6_isFree_35 (by decide) rfl ?_
      refine r_icmp_eq X 12 39 h dX6_isFree_36 rfl rfl (fun h => ?_) (fun h => ?_)
      · refine r_pick (lv' := [(0, .ref (a 0)), (2, .int z3)]) [1, 0] rfl ?_
        exact hrec12 _ _ h
      · refine r_iconst (v := 0) X 40 dX6_isFree_39 (by decide) rfl ?_
        exact r_zret X hr9 hlk9 isB_0 h dX6_isFree_40
def wp_X6_isFree  (σ : St) (x1 : Int32) (Q : Int32 → St → Prop) : Prop :=
  wp_X6_isKept σ x1 (fun y2 σ1 =>
  if y2 = 0 then
  (Q 0 σ1)
  else (∃ n9 : Nat, lp_X6_isFree_12 Q n9 x1 σ1))
theorem c_X6_isFree  {σ : St} {x1 : Int32} {Q : Int32 → St → Prop} (h : wp_X6_isFree σ x1 Q) : ctI l yX6_isFree cX6_isFree 3 (some .boolean) rm_X6_isFree D (wM cI cZ a) (tyW cI cZ cH) [.ref (a 0), .int x1] σ (fun r9 u9 => isB r9 ∧ Q r9 u9) := by
  refine mk_I (wM_ok cI cZ a) (by decide +kernel) (Nat.le_of_ble_eq_true rfl) (fun p e s m args below meth c A X hr9 hlk9 => ?_)
  refine r_pick (lv' := [(0, .ref (a 0)), (1, .int x1)]) [0, 1] rfl ?_
  delta wp_X6_isFree at h
  refine r_aload_n X 0 1 dX6_isFree_0 rfl rfl rfl ?_
  refine r_iload_n X 1 2 dX6_isFree_1 rfl rfl rfl ?_
  refine r_callI (As := [.int x1]) (rest := []) X 5 (c_X6_isKept h) ml_X6_113 lk_X6_isKept wM_at_0 rfl rfl rfl (Nat.le_of_ble_eq_true rfl) ⟨rfl, rfl, ⟨Nat.le_of_ble_eq_true rfl, Nat.le_of_ble_eq_true rfl⟩, Nat.le_of_ble_eq_true rfl, Nat.le_of_ble_eq_true rfl⟩ dX6_isFree_2 rfl (fun y2 σ1 h => ?_)
  obtain ⟨hb_y2, h⟩ := h
  refine r_if_ne X 10 8 h dX6_isFree_5 rfl rfl (fun h => ?_) (fun h => ?_)
  · refine r_iload_n X 1 11 dX6_isFree_10 rfl rfl rfl ?_
    refine r_istore_n X 12 [(2, .int x1), (0, .ref (a 0)), (1, .int x1)] dX6_isFree_11 rfl (by decide) rfl rfl ?_
    refine r_pick (lv' := [(0, .ref (a 0)), (2, .int x1)]) [1, 0] rfl ?_
    obtain ⟨n9, h⟩ := h
    exact wk_X6_isFree_12 X hr9 hlk9 n9 h
  · refine r_iconst (v := 0) X 9 dX6_isFree_8 (by decide) rfl ?_
    exact r_zret X hr9 hlk9 isB_0 h dX6_isFree_9
def rm_X6_outermost : Room := { frames := 0, cells := 0, slots := 0, locals := 0 }
theorem dX6_outermost_0 : decode cX6_outermost 0 = .ok (.iload_n 1, 1) := by decide +kernel
theorem dX6_outermost_1 : decode cX6_outermost 1 = .ok (.istore_n 2, 1) := by decide +kernel
theorem dX6_outermost_2 : decode cX6_outermost 2 = .ok (.aload_n 0, 1) := by decide +kernel
theorem dX6_outermost_3 : decode cX6_outermost 3 = .ok (.getfield 45, 3) := by decide +kernel
theorem dX6_outermost_6 : decode cX6_outermost 6 = .ok (.iload_n 2, 1) := by decide +kernel
theorem dX6_outermost_7 : decode cX6_outermost 7 = .ok (.iaload, 1) := by decide +kernel
theorem dX6_outermost_8 : decode cX6_outermost 8 = .ok (.iconst 3, 1) := by decide +kernel
theorem dX6_outermost_9 : decode cX6_outermost 9 = .ok (.if_icmp .ne 13, 3) := by decide +kernel
theorem dX6_outermost_12 : decode cX6_outermost 12 = .ok (.aload_n 0, 1) := by decide +kernel
theorem dX6_outermost_13 : decode cX6_outermost 13 = .ok (.getfield 48, 3) := by decide +kernel
theorem dX6_outermost_16 : decode cX6_outermost 16 = .ok (.iload_n 2, 1) := by decide +kernel
theorem dX6_outermost_17 : decode cX6_outermost 17 = .ok (.iaload, 1) := by decide +kernel
theorem dX6_outermost_18 : decode cX6_outermost 18 = .ok (.istore_n 2, 1) := by decide +kernel
theorem dX6_outermost_19 : decode cX6_outermost 19 = .ok (.goto (-17), 3) := by decide +kernel
theorem dX6_outermost_22 : decode cX6_outermost 22 = .ok (.iload_n 2, 1) := by decide +kernel
theorem dX6_outermost_23 : decode cX6_outermost 23 = .ok (.ireturn, 1) := by decide +kernel
def b_X6_outermost_2  (Q : Int32 → St → Prop) (rec2 : Int32 → St → Prop) (v2 : Int32) (σ : St) : Prop :=
  vp_in v2 60 ∧
  (if (σ 9 (ix v2)) = 3 then
  (vp_in v2 60 ∧
  (nm ((σ 10 (ix v2))) (fun z1 =>
  rec2 z1 σ)))
  else (Q v2 σ))
def lp_X6_outermost_2  (Q : Int32 → St → Prop) (n9 : Nat) : Int32 → St → Prop :=
  Nat.rec (fun _ _ => False) (fun _ rec9 => b_X6_outermost_2  Q  rec9) n9
theorem wk_X6_outermost_2 (X : cx p s m args c cX6_outermost 3 RX6 D (wM cI cZ a) A (tyW cI cZ cH)) (hr9 : meth.sig.returnType = (some .int)) (hlk9 : meth.locks = false)  {Q : Int32 → St → Prop} : ∀ (n9 : Nat) {v2 : Int32} {σ : St}, lp_X6_outermost_2 Q n9 v2 σ → go p l e rm_X6_outermost s m args below meth c D (wM cI cZ a) A 0 0 (MQ below (va_Qi Q (atw D (wM cI cZ a) (tyW cI cZ cH) A) A) args s 0 0 A) 3 2 [(0, .ref (a 0)), (2, .int v2)] [] σ := by
  intro n9
  induction n9 with
  | zero => intro v2 σ h; exact h.elim
  | succ n9 ih =>
    intro v2 σ h
    have hrec2 := fun v2 σ h => ih (σ := σ) (v2 := v2) h
    replace h : b_X6_outermost_2 Q (lp_X6_outermost_2 Q n9) v2 σ := h
    delta b_X6_outermost_2 at h
    refine r_aload_n X 0 3 dX6_outermost_2 rfl rfl rfl ?_
    refine g_X6_45 X 6 dX6_outermost_3 rfl ?_
    refine r_iload_n X 1 7 dX6_outermost_6 rfl rfl rfl ?_
    obtain ⟨hin, h⟩ := h
    refine l_M9 X 8 hin dX6_outermost_7 rfl ?_
    refine r_iconst (v := 3) X 9 dX6_outermost_8 (by decide) rfl ?_
    refine r_icmp_ne X 22 12 h dX6_outermost_9 rfl rfl (fun h => ?_) (fun h => ?_)
    · refine r_iload_n X 1 23 dX6_outermost_22 rfl rfl rfl ?_
      exact r_iret X hr9 hlk9 h dX6_outermost_23
    · refine r_aload_n X 0 13 dX6_outermost_12 rfl rfl rfl ?_
      refine g_X6_48 X 16 dX6_outermost_13 rfl ?_
      refine r_iload_n X 1 17 dX6_outermost_16 rfl rfl rfl ?_
      obtain ⟨hin, h⟩ := h
      refine l_M10 X 18 hin dX6_outermost_17 rfl ?_
      refine r_istore_nN X 19 (fun z1 => [(2, .int z1), (0, .ref (a 0))]) h dX6_outermost_18 rfl (by decide) (fun _ => rfl) rfl (fun z1 h => ?_)
      refine r_goto X 2 dX6_outermost_19 rfl ?_
      refine r_pick (lv' := [(0, .ref (a 0)), (2, .int z1)]) [1, 0] rfl ?_
      exact hrec2 _ _ h
def wp_X6_outermost  (σ : St) (x1 : Int32) (Q : Int32 → St → Prop) : Prop :=
  ∃ n9 : Nat, lp_X6_outermost_2 Q n9 x1 σ
theorem c_X6_outermost  {σ : St} {x1 : Int32} {Q : Int32 → St → Prop} (h : wp_X6_outermost σ x1 Q) : ctI l yX6_outermost cX6_outermost 3 (some .int) rm_X6_outermost D (wM cI cZ a) (tyW cI cZ cH) [.ref (a 0), .int x1] σ Q := by
  refine mk_I (wM_ok cI cZ a) (by decide +kernel) (Nat.le_of_ble_eq_true rfl) (fun p e s m args below meth c A X hr9 hlk9 => ?_)
  refine r_pick (lv' := [(0, .ref (a 0)), (1, .int x1)]) [0, 1] rfl ?_
  delta wp_X6_outermost at h
  refine r_iload_n X 1 1 dX6_outermost_0 rfl rfl rfl ?_
  refine r_istore_n X 2 [(2, .int x1), (0, .ref (a 0)), (1, .int x1)] dX6_outermost_1 rfl (by decide) rfl rfl ?_
  refine r_pick (lv' := [(0, .ref (a 0)), (2, .int x1)]) [1, 0] rfl ?_
  obtain ⟨n9, h⟩ := h
  exact wk_X6_outermost_2 X hr9 hlk9 n9 h
def rm_X6_inside : Room := { frames := 0, cells := 0, slots := 0, locals := 0 }
theorem dX6_inside_0 : decode cX6_inside 0 = .ok (.iconst 0, 1) := by decide +kernel
theorem dX6_inside_1 : decode cX6_inside 1 = .ok (.istore_n 2, 1) := by decide +kernel
theorem dX6_inside_2 : decode cX6_inside 2 = .ok (.iconst 0, 1) := by decide +kernel
theorem dX6_inside_3 : decode cX6_inside 3 = .ok (.istore_n 3, 1) := by decide +kernel
theorem dX6_inside_4 : decode cX6_inside 4 = .ok (.iload_n 3, 1) := by decide +kernel
theorem dX6_inside_5 : decode cX6_inside 5 = .ok (.aload_n 0, 1) := by decide +kernel
theorem dX6_inside_6 : decode cX6_inside 6 = .ok (.getfield 93, 3) := by decide +kernel
theorem dX6_inside_9 : decode cX6_inside 9 = .ok (.if_icmp .ge 37, 3) := by decide +kernel
theorem dX6_inside_12 : decode cX6_inside 12 = .ok (.iload_n 2, 1) := by decide +kernel
theorem dX6_inside_13 : decode cX6_inside 13 = .ok (.aload_n 0, 1) := by decide +kernel
theorem dX6_inside_14 : decode cX6_inside 14 = .ok (.getfield 45, 3) := by decide +kernel
theorem dX6_inside_17 : decode cX6_inside 17 = .ok (.iload_n 3, 1) := by decide +kernel
theorem dX6_inside_18 : decode cX6_inside 18 = .ok (.iaload, 1) := by decide +kernel
theorem dX6_inside_19 : decode cX6_inside 19 = .ok (.iconst 3, 1) := by decide +kernel
theorem dX6_inside_20 : decode cX6_inside 20 = .ok (.if_icmp .ne 17, 3) := by decide +kernel
theorem dX6_inside_23 : decode cX6_inside 23 = .ok (.aload_n 0, 1) := by decide +kernel
theorem dX6_inside_24 : decode cX6_inside 24 = .ok (.getfield 48, 3) := by decide +kernel
theorem dX6_inside_27 : decode cX6_inside 27 = .ok (.iload_n 3, 1) := by decide +kernel
theorem dX6_inside_28 : decode cX6_inside 28 = .ok (.iaload, 1) := by decide +kernel
theorem dX6_inside_29 : decode cX6_inside 29 = .ok (.iload_n 1, 1) := by decide +kernel
theorem dX6_inside_30 : decode cX6_inside 30 = .ok (.if_icmp .ne 7, 3) := by decide +kernel
theorem dX6_inside_33 : decode cX6_inside 33 = .ok (.iconst 1, 1) := by decide +kernel
theorem dX6_inside_34 : decode cX6_inside 34 = .ok (.goto 4, 3) := by decide +kernel
theorem dX6_inside_37 : decode cX6_inside 37 = .ok (.iconst 0, 1) := by decide +kernel
theorem dX6_inside_38 : decode cX6_inside 38 = .ok (.iadd, 1) := by decide +kernel
theorem dX6_inside_39 : decode cX6_inside 39 = .ok (.istore_n 2, 1) := by decide +kernel
theorem dX6_inside_40 : decode cX6_inside 40 = .ok (.iinc 3 1, 3) := by decide +kernel
theorem dX6_inside_43 : decode cX6_inside 43 = .ok (.goto (-39), 3) := by decide +kernel
theorem dX6_inside_46 : decode cX6_inside 46 = .ok (.iload_n 2, 1) := by decide +kernel
theorem dX6_inside_47 : decode cX6_inside 47 = .ok (.ireturn, 1) := by decide +kernel
def j_X6_inside_38  (Q : Int32 → St → Prop) (rec4 : Int32 → Int32 → Int32 → St → Prop) (v1 : Int32) (v3 : Int32) (s0 : Int32) (s1 : Int32) (σ : St) : Prop :=
  nm ((s1 + s0)) (fun z1 =>
  rec4 v1 z1 (v3 + 1) σ)
theorem wk_X6_inside_38 (X : cx p s m args c cX6_inside 4 RX6 D (wM cI cZ a) A (tyW cI cZ cH)) (hr9 : meth.sig.returnType = (some .int)) (hlk9 : meth.locks = false)  {Q : Int32 → St → Prop} {rec4 : Int32 → Int32 → Int32 → St → Prop} (hrec4 : ∀ (v1 : Int32) (v2 : Int32) (v3 : Int32) (σ : St), rec4 v1 v2 v3 σ → go p l e rm_X6_inside s m args below meth c D (wM cI cZ a) A 0 0 (MQ below (va_Qi Q (atw D (wM cI cZ a) (tyW cI cZ cH) A) A) args s 0 0 A) 4 4 [(0, .ref (a 0)), (1, .int v1), (2, .int v2), (3, .int v3)] [] σ) {v1 : Int32} {v3 : Int32} {s0 : Int32} {s1 : Int32} {σ : St} (h : j_X6_inside_38 Q rec4 v1 v3 s0 s1 σ) : go p l e rm_X6_inside s m args below meth c D (wM cI cZ a) A 0 0 (MQ below (va_Qi Q (atw D (wM cI cZ a) (tyW cI cZ cH) A) A) args s 0 0 A) 4 38 [(0, .ref (a 0)), (1, .int v1), (3, .int v3)] [.int s0, .int s1] σ := by
  delta j_X6_inside_38 at h
  refine r_iadd X 39 dX6_inside_38 rfl ?_
  refine r_istore_nN X 40 (fun z1 => [(2, .int z1), (0, .ref (a 0)), (1, .int v1), (3, .int v3)]) h dX6_inside_39 rfl (by decide) (fun _ => rfl) rfl (fun z1 h => ?_)
  refine r_iinc (d := 1) X 3 43 [(3, .int (v3 + 1)), (2, .int z1), (0, .ref (a 0)), (1, .int v1)] dX6_inside_40 rfl (by decide) (by decide) rfl rfl ?_
  refine r_goto X 4 dX6_inside_43 rfl ?_
  refine r_pick (lv' := [(0, .ref (a 0)), (1, .int v1), (2, .int z1), (3, .int (v3 + 1))]) [2, 3, 1, 0] rfl ?_
  exact hrec4 _ _ _ _ h
def j_X6_inside_37  (Q : Int32 → St → Prop) (rec4 : Int32 → Int32 → Int32 → St → Prop) (v1 : Int32) (v3 : Int32) (s0 : Int32) (σ : St) : Prop :=
  j_X6_inside_38 Q rec4 v1 v3 0 s0 σ
theorem wk_X6_inside_37 (X : cx p s m args c cX6_inside 4 RX6 D (wM cI cZ a) A (tyW cI cZ cH)) (hr9 : meth.sig.returnType = (some .int)) (hlk9 : meth.locks = false)  {Q : Int32 → St → Prop} {rec4 : Int32 → Int32 → Int32 → St → Prop} (hrec4 : ∀ (v1 : Int32) (v2 : Int32) (v3 : Int32) (σ : St), rec4 v1 v2 v3 σ → go p l e rm_X6_inside s m args below meth c D (wM cI cZ a) A 0 0 (MQ below (va_Qi Q (atw D (wM cI cZ a) (tyW cI cZ cH) A) A) args s 0 0 A) 4 4 [(0, .ref (a 0)), (1, .int v1), (2, .int v2), (3, .int v3)] [] σ) {v1 : Int32} {v3 : Int32} {s0 : Int32} {σ : St} (h : j_X6_inside_37 Q rec4 v1 v3 s0 σ) : go p l e rm_X6_inside s m args below meth c D (wM cI cZ a) A 0 0 (MQ below (va_Qi Q (atw D (wM cI cZ a) (tyW cI cZ cH) A) A) args s 0 0 A) 4 37 [(0, .ref (a 0)), (1, .int v1), (3, .int v3)] [.int s0] σ := by
  delta j_X6_inside_37 at h
  refine r_iconst (v := 0) X 38 dX6_inside_37 (by decide) rfl ?_
  refine r_pick (lv' := [(0, .ref (a 0)), (1, .int v1), (3, .int v3)]) [0, 1, 2] rfl ?_
  exact wk_X6_inside_38 X hr9 hlk9 hrec4 h
def b_X6_inside_4  (Q : Int32 → St → Prop) (rec4 : Int32 → Int32 → Int32 → St → Prop) (v1 : Int32) (v2 : Int32) (v3 : Int32) (σ : St) : Prop :=
  if v3 < (σ 0 2) then
  (vp_in v3 60 ∧
  (if (σ 9 (ix v3)) = 3 then
  (vp_in v3 60 ∧
  (if (σ 10 (ix v3)) = v1 then
  (j_X6_inside_38 Q rec4 v1 v3 1 v2 σ)
  else (j_X6_inside_37 Q rec4 v1 v3 v2 σ)))
  else (j_X6_inside_37 Q rec4 v1 v3 v2 σ)))
  else (Q v2 σ)
def lp_X6_inside_4  (Q : Int32 → St → Prop) (n9 : Nat) : Int32 → Int32 → Int32 → St → Prop :=
  Nat.rec (fun _ _ _ _ => False) (fun _ rec9 => b_X6_inside_4  Q  rec9) n9
theorem wk_X6_inside_4 (X : cx p s m args c cX6_inside 4 RX6 D (wM cI cZ a) A (tyW cI cZ cH)) (hr9 : meth.sig.returnType = (some .int)) (hlk9 : meth.locks = false)  {Q : Int32 → St → Prop} : ∀ (n9 : Nat) {v1 : Int32} {v2 : Int32} {v3 : Int32} {σ : St}, lp_X6_inside_4 Q n9 v1 v2 v3 σ → go p l e rm_X6_inside s m args below meth c D (wM cI cZ a) A 0 0 (MQ below (va_Qi Q (atw D (wM cI cZ a) (tyW cI cZ cH) A) A) args s 0 0 A) 4 4 [(0, .ref (a 0)), (1, .int v1), (2, .int v2), (3, .int v3)] [] σ := by
  intro n9
  induction n9 with
  | zero => intro v1 v2 v3 σ h; exact h.elim
  | succ n9 ih =>
    intro v1 v2 v3 σ h
    have hrec4 := fun v1 v2 v3 σ h => ih (σ := σ) (v1 := v1) (v2 := v2) (v3 := v3) h
    replace h : b_X6_inside_4 Q (lp_X6_inside_4 Q n9) v1 v2 v3 σ := h
    delta b_X6_inside_4 at h
    refine r_iload_n X 3 5 dX6_inside_4 rfl rfl rfl ?_
    refine r_aload_n X 0 6 dX6_inside_5 rfl rfl rfl ?_
    refine g_X6_93 X 9 dX6_inside_6 rfl ?_
    refine r_icmp_ge X 46 12 h dX6_inside_9 rfl rfl (fun h => ?_) (fun h => ?_)
    · refine r_iload_n X 2 47 dX6_inside_46 rfl rfl rfl ?_
      exact r_iret X hr9 hlk9 h dX6_inside_47
    · refine r_iload_n X 2 13 dX6_inside_12 rfl rfl rfl ?_
      refine r_aload_n X 0 14 dX6_inside_13 rfl rfl rfl ?_
      refine g_X6_45 X 17 dX6_inside_14 rfl ?_
      refine r_iload_n X 3 18 dX6_inside_17 rfl rfl rfl ?_
      obtain ⟨hin, h⟩ := h
      refine l_M9 X 19 hin dX6_inside_18 rfl ?_
      refine r_iconst (v := 3) X 20 dX6_inside_19 (by decide) rfl ?_
      refine r_icmp_ne X 37 23 h dX6_inside_20 rfl rfl (fun h => ?_) (fun h => ?_)
      · refine r_pick (lv' := [(0, .ref (a 0)), (1, .int v1), (3, .int v3)]) [0, 1, 3] rfl ?_
        exact wk_X6_inside_37 X hr9 hlk9 hrec4 h
      · refine r_aload_n X 0 24 dX6_inside_23 rfl rfl rfl ?_
        refine g_X6_48 X 27 dX6_inside_24 rfl ?_
        refine r_iload_n X 3 28 dX6_inside_27 rfl rfl rfl ?_
        obtain ⟨hin, h⟩ := h
        refine l_M10 X 29 hin dX6_inside_28 rfl ?_
        refine r_iload_n X 1 30 dX6_inside_29 rfl rfl rfl ?_
        refine r_icmp_ne X 37 33 h dX6_inside_30 rfl rfl (fun h => ?_) (fun h => ?_)
        · refine r_pick (lv' := [(0, .ref (a 0)), (1, .int v1), (3, .int v3)]) [0, 1, 3] rfl ?_
          exact wk_X6_inside_37 X hr9 hlk9 hrec4 h
        · refine r_iconst (v := 1) X 34 dX6_inside_33 (by decide) rfl ?_
          refine r_goto X 38 dX6_inside_34 rfl ?_
          refine r_pick (lv' := [(0, .ref (a 0)), (1, .int v1), (3, .int v3)]) [0, 1, 3] rfl ?_
          exact wk_X6_inside_38 X hr9 hlk9 hrec4 h
def wp_X6_inside  (σ : St) (x1 : Int32) (Q : Int32 → St → Prop) : Prop :=
  ∃ n9 : Nat, lp_X6_inside_4 Q n9 x1 0 0 σ
theorem c_X6_inside  {σ : St} {x1 : Int32} {Q : Int32 → St → Prop} (h : wp_X6_inside σ x1 Q) : ctI l yX6_inside cX6_inside 4 (some .int) rm_X6_inside D (wM cI cZ a) (tyW cI cZ cH) [.ref (a 0), .int x1] σ Q := by
  refine mk_I (wM_ok cI cZ a) (by decide +kernel) (Nat.le_of_ble_eq_true rfl) (fun p e s m args below meth c A X hr9 hlk9 => ?_)
  refine r_pick (lv' := [(0, .ref (a 0)), (1, .int x1)]) [0, 1] rfl ?_
  delta wp_X6_inside at h
  refine r_iconst (v := 0) X 1 dX6_inside_0 (by decide) rfl ?_
  refine r_istore_n X 2 [(2, .int 0), (0, .ref (a 0)), (1, .int x1)] dX6_inside_1 rfl (by decide) rfl rfl ?_
  refine r_iconst (v := 0) X 3 dX6_inside_2 (by decide) rfl ?_
  refine r_istore_n X 4 [(3, .int 0), (2, .int 0), (0, .ref (a 0)), (1, .int x1)] dX6_inside_3 rfl (by decide) rfl rfl ?_
  refine r_pick (lv' := [(0, .ref (a 0)), (1, .int x1), (2, .int 0), (3, .int 0)]) [2, 3, 1, 0] rfl ?_
  obtain ⟨n9, h⟩ := h
  exact wk_X6_inside_4 X hr9 hlk9 n9 h
def rm_X6_depth : Room := { frames := 0, cells := 0, slots := 0, locals := 0 }
theorem dX6_depth_0 : decode cX6_depth 0 = .ok (.iconst 0, 1) := by decide +kernel
theorem dX6_depth_1 : decode cX6_depth 1 = .ok (.istore_n 2, 1) := by decide +kernel
theorem dX6_depth_2 : decode cX6_depth 2 = .ok (.iload_n 1, 1) := by decide +kernel
theorem dX6_depth_3 : decode cX6_depth 3 = .ok (.istore_n 3, 1) := by decide +kernel
theorem dX6_depth_4 : decode cX6_depth 4 = .ok (.aload_n 0, 1) := by decide +kernel
theorem dX6_depth_5 : decode cX6_depth 5 = .ok (.getfield 45, 3) := by decide +kernel
theorem dX6_depth_8 : decode cX6_depth 8 = .ok (.iload_n 3, 1) := by decide +kernel
theorem dX6_depth_9 : decode cX6_depth 9 = .ok (.iaload, 1) := by decide +kernel
theorem dX6_depth_10 : decode cX6_depth 10 = .ok (.iconst 3, 1) := by decide +kernel
theorem dX6_depth_11 : decode cX6_depth 11 = .ok (.if_icmp .ne 16, 3) := by decide +kernel
theorem dX6_depth_14 : decode cX6_depth 14 = .ok (.iinc 2 1, 3) := by decide +kernel
theorem dX6_depth_17 : decode cX6_depth 17 = .ok (.aload_n 0, 1) := by decide +kernel
theorem dX6_depth_18 : decode cX6_depth 18 = .ok (.getfield 48, 3) := by decide +kernel
theorem dX6_depth_21 : decode cX6_depth 21 = .ok (.iload_n 3, 1) := by decide +kernel
theorem dX6_depth_22 : decode cX6_depth 22 = .ok (.iaload, 1) := by decide +kernel
theorem dX6_depth_23 : decode cX6_depth 23 = .ok (.istore_n 3, 1) := by decide +kernel
theorem dX6_depth_24 : decode cX6_depth 24 = .ok (.goto (-20), 3) := by decide +kernel
theorem dX6_depth_27 : decode cX6_depth 27 = .ok (.iload_n 2, 1) := by decide +kernel
theorem dX6_depth_28 : decode cX6_depth 28 = .ok (.ireturn, 1) := by decide +kernel
def b_X6_depth_4  (Q : Int32 → St → Prop) (rec4 : Int32 → Int32 → St → Prop) (v2 : Int32) (v3 : Int32) (σ : St) : Prop :=
  vp_in v3 60 ∧
  (if (σ 9 (ix v3)) = 3 then
  (vp_in v3 60 ∧
  (nm ((σ 10 (ix v3))) (fun z1 =>
  rec4 (v2 + 1) z1 σ)))
  else (Q v2 σ))
def lp_X6_depth_4  (Q : Int32 → St → Prop) (n9 : Nat) : Int32 → Int32 → St → Prop :=
  Nat.rec (fun _ _ _ => False) (fun _ rec9 => b_X6_depth_4  Q  rec9) n9
theorem wk_X6_depth_4 (X : cx p s m args c cX6_depth 4 RX6 D (wM cI cZ a) A (tyW cI cZ cH)) (hr9 : meth.sig.returnType = (some .int)) (hlk9 : meth.locks = false)  {Q : Int32 → St → Prop} : ∀ (n9 : Nat) {v2 : Int32} {v3 : Int32} {σ : St}, lp_X6_depth_4 Q n9 v2 v3 σ → go p l e rm_X6_depth s m args below meth c D (wM cI cZ a) A 0 0 (MQ below (va_Qi Q (atw D (wM cI cZ a) (tyW cI cZ cH) A) A) args s 0 0 A) 4 4 [(0, .ref (a 0)), (2, .int v2), (3, .int v3)] [] σ := by
  intro n9
  induction n9 with
  | zero => intro v2 v3 σ h; exact h.elim
  | succ n9 ih =>
    intro v2 v3 σ h
    have hrec4 := fun v2 v3 σ h => ih (σ := σ) (v2 := v2) (v3 := v3) h
    replace h : b_X6_depth_4 Q (lp_X6_depth_4 Q n9) v2 v3 σ := h
    delta b_X6_depth_4 at h
    refine r_aload_n X 0 5 dX6_depth_4 rfl rfl rfl ?_
    refine g_X6_45 X 8 dX6_depth_5 rfl ?_
    refine r_iload_n X 2 9 dX6_depth_8 rfl rfl rfl ?_
    obtain ⟨hin, h⟩ := h
    refine l_M9 X 10 hin dX6_depth_9 rfl ?_
    refine r_iconst (v := 3) X 11 dX6_depth_10 (by decide) rfl ?_
    refine r_icmp_ne X 27 14 h dX6_depth_11 rfl rfl (fun h => ?_) (fun h => ?_)
    · refine r_iload_n X 1 28 dX6_depth_27 rfl rfl rfl ?_
      exact r_iret X hr9 hlk9 h dX6_depth_28
    · refine r_iinc (d := 1) X 1 17 [(2, .int (v2 + 1)), (0, .ref (a 0)), (3, .int v3)] dX6_depth_14 rfl (by decide) (by decide) rfl rfl ?_
      refine r_aload_n X 1 18 dX6_depth_17 rfl rfl rfl ?_
      refine g_X6_48 X 21 dX6_depth_18 rfl ?_
      refine r_iload_n X 2 22 dX6_depth_21 rfl rfl rfl ?_
      obtain ⟨hin, h⟩ := h
      refine l_M10 X 23 hin dX6_depth_22 rfl ?_
      refine r_istore_nN X 24 (fun z1 => [(3, .int z1), (2, .int (v2 + 1)), (0, .ref (a 0))]) h dX6_depth_23 rfl (by decide) (fun _ => rfl) rfl (fun z1 h => ?_)
      refine r_goto X 4 dX6_depth_24 rfl ?_
      refine r_pick (lv' := [(0, .ref (a 0)), (2, .int (v2 + 1)), (3, .int z1)]) [2, 1, 0] rfl ?_
      exact hrec4 _ _ _ h
def wp_X6_depth  (σ : St) (x1 : Int32) (Q : Int32 → St → Prop) : Prop :=
  ∃ n9 : Nat, lp_X6_depth_4 Q n9 0 x1 σ
theorem c_X6_depth  {σ : St} {x1 : Int32} {Q : Int32 → St → Prop} (h : wp_X6_depth σ x1 Q) : ctI l yX6_depth cX6_depth 4 (some .int) rm_X6_depth D (wM cI cZ a) (tyW cI cZ cH) [.ref (a 0), .int x1] σ Q := by
  refine mk_I (wM_ok cI cZ a) (by decide +kernel) (Nat.le_of_ble_eq_true rfl) (fun p e s m args below meth c A X hr9 hlk9 => ?_)
  refine r_pick (lv' := [(0, .ref (a 0)), (1, .int x1)]) [0, 1] rfl ?_
  delta wp_X6_depth at h
  refine r_iconst (v := 0) X 1 dX6_depth_0 (by decide) rfl ?_
  refine r_istore_n X 2 [(2, .int 0), (0, .ref (a 0)), (1, .int x1)] dX6_depth_1 rfl (by decide) rfl rfl ?_
  refine r_iload_n X 2 3 dX6_depth_2 rfl rfl rfl ?_
  refine r_istore_n X 4 [(3, .int x1), (2, .int 0), (0, .ref (a 0)), (1, .int x1)] dX6_depth_3 rfl (by decide) rfl rfl ?_
  refine r_pick (lv' := [(0, .ref (a 0)), (2, .int 0), (3, .int x1)]) [2, 1, 0] rfl ?_
  obtain ⟨n9, h⟩ := h
  exact wk_X6_depth_4 X hr9 hlk9 n9 h
def rm_X6_isWithin : Room := { frames := 0, cells := 0, slots := 0, locals := 0 }
theorem dX6_isWithin_0 : decode cX6_isWithin 0 = .ok (.iload_n 1, 1) := by decide +kernel
theorem dX6_isWithin_1 : decode cX6_isWithin 1 = .ok (.istore_n 3, 1) := by decide +kernel
theorem dX6_isWithin_2 : decode cX6_isWithin 2 = .ok (.iload_n 3, 1) := by decide +kernel
theorem dX6_isWithin_3 : decode cX6_isWithin 3 = .ok (.iload_n 2, 1) := by decide +kernel
theorem dX6_isWithin_4 : decode cX6_isWithin 4 = .ok (.if_icmp .eq 23, 3) := by decide +kernel
theorem dX6_isWithin_7 : decode cX6_isWithin 7 = .ok (.aload_n 0, 1) := by decide +kernel
theorem dX6_isWithin_8 : decode cX6_isWithin 8 = .ok (.getfield 45, 3) := by decide +kernel
theorem dX6_isWithin_11 : decode cX6_isWithin 11 = .ok (.iload_n 3, 1) := by decide +kernel
theorem dX6_isWithin_12 : decode cX6_isWithin 12 = .ok (.iaload, 1) := by decide +kernel
theorem dX6_isWithin_13 : decode cX6_isWithin 13 = .ok (.iconst 3, 1) := by decide +kernel
theorem dX6_isWithin_14 : decode cX6_isWithin 14 = .ok (.if_icmp .ne 13, 3) := by decide +kernel
theorem dX6_isWithin_17 : decode cX6_isWithin 17 = .ok (.aload_n 0, 1) := by decide +kernel
theorem dX6_isWithin_18 : decode cX6_isWithin 18 = .ok (.getfield 48, 3) := by decide +kernel
theorem dX6_isWithin_21 : decode cX6_isWithin 21 = .ok (.iload_n 3, 1) := by decide +kernel
theorem dX6_isWithin_22 : decode cX6_isWithin 22 = .ok (.iaload, 1) := by decide +kernel
theorem dX6_isWithin_23 : decode cX6_isWithin 23 = .ok (.istore_n 3, 1) := by decide +kernel
theorem dX6_isWithin_24 : decode cX6_isWithin 24 = .ok (.goto (-22), 3) := by decide +kernel
theorem dX6_isWithin_27 : decode cX6_isWithin 27 = .ok (.iload_n 3, 1) := by decide +kernel
theorem dX6_isWithin_28 : decode cX6_isWithin 28 = .ok (.iload_n 2, 1) := by decide +kernel
theorem dX6_isWithin_29 : decode cX6_isWithin 29 = .ok (.if_icmp .ne 7, 3) := by decide +kernel
theorem dX6_isWithin_32 : decode cX6_isWithin 32 = .ok (.iconst 1, 1) := by decide +kernel
theorem dX6_isWithin_33 : decode cX6_isWithin 33 = .ok (.goto 4, 3) := by decide +kernel
theorem dX6_isWithin_36 : decode cX6_isWithin 36 = .ok (.iconst 0, 1) := by decide +kernel
theorem dX6_isWithin_37 : decode cX6_isWithin 37 = .ok (.ireturn, 1) := by decide +kernel
def j_X6_isWithin_27  (Q : Int32 → St → Prop) (v2 : Int32) (v3 : Int32) (σ : St) : Prop :=
  if v3 = v2 then
  (Q 1 σ)
  else (Q 0 σ)
theorem wk_X6_isWithin_27 (X : cx p s m args c cX6_isWithin 4 RX6 D (wM cI cZ a) A (tyW cI cZ cH)) (hr9 : meth.sig.returnType = (some .boolean)) (hlk9 : meth.locks = false)  {Q : Int32 → St → Prop} {v2 : Int32} {v3 : Int32} {σ : St} (h : j_X6_isWithin_27 Q v2 v3 σ) : go p l e rm_X6_isWithin s m args below meth c D (wM cI cZ a) A 0 0 (MQ below (va_Qi (fun r9 u9 => isB r9 ∧ Q r9 u9) (atw D (wM cI cZ a) (tyW cI cZ cH) A) A) args s 0 0 A) 4 27 [(2, .int v2), (3, .int v3)] [] σ := by
  delta j_X6_isWithin_27 at h
  refine r_iload_n X 1 28 dX6_isWithin_27 rfl rfl rfl ?_
  refine r_iload_n X 0 29 dX6_isWithin_28 rfl rfl rfl ?_
  refine r_icmp_ne X 36 32 h dX6_isWithin_29 rfl rfl (fun h => ?_) (fun h => ?_)
  · refine r_iconst (v := 0) X 37 dX6_isWithin_36 (by decide) rfl ?_
    exact r_zret X hr9 hlk9 isB_0 h dX6_isWithin_37
  · refine r_iconst (v := 1) X 33 dX6_isWithin_32 (by decide) rfl ?_
    refine r_goto X 37 dX6_isWithin_33 rfl ?_
    exact r_zret X hr9 hlk9 isB_1 h dX6_isWithin_37
def b_X6_isWithin_2  (Q : Int32 → St → Prop) (rec2 : Int32 → Int32 → St → Prop) (v2 : Int32) (v3 : Int32) (σ : St) : Prop :=
  if v3 = v2 then
  (j_X6_isWithin_27 Q v2 v3 σ)
  else (vp_in v3 60 ∧
  (if (σ 9 (ix v3)) = 3 then
  (vp_in v3 60 ∧
  (nm ((σ 10 (ix v3))) (fun z1 =>
  rec2 v2 z1 σ)))
  else (j_X6_isWithin_27 Q v2 v3 σ)))
def lp_X6_isWithin_2  (Q : Int32 → St → Prop) (n9 : Nat) : Int32 → Int32 → St → Prop :=
  Nat.rec (fun _ _ _ => False) (fun _ rec9 => b_X6_isWithin_2  Q  rec9) n9
theorem wk_X6_isWithin_2 (X : cx p s m args c cX6_isWithin 4 RX6 D (wM cI cZ a) A (tyW cI cZ cH)) (hr9 : meth.sig.returnType = (some .boolean)) (hlk9 : meth.locks = false)  {Q : Int32 → St → Prop} : ∀ (n9 : Nat) {v2 : Int32} {v3 : Int32} {σ : St}, lp_X6_isWithin_2 Q n9 v2 v3 σ → go p l e rm_X6_isWithin s m args below meth c D (wM cI cZ a) A 0 0 (MQ below (va_Qi (fun r9 u9 => isB r9 ∧ Q r9 u9) (atw D (wM cI cZ a) (tyW cI cZ cH) A) A) args s 0 0 A) 4 2 [(0, .ref (a 0)), (2, .int v2), (3, .int v3)] [] σ := by
  intro n9
  induction n9 with
  | zero => intro v2 v3 σ h; exact h.elim
  | succ n9 ih =>
    intro v2 v3 σ h
    have hrec2 := fun v2 v3 σ h => ih (σ := σ) (v2 := v2) (v3 := v3) h
    replace h : b_X6_isWithin_2 Q (lp_X6_isWithin_2 Q n9) v2 v3 σ := h
    delta b_X6_isWithin_2 at h
    refine r_iload_n X 2 3 dX6_isWithin_2 rfl rfl rfl ?_
    refine r_iload_n X 1 4 dX6_isWithin_3 rfl rfl rfl ?_
    refine r_icmp_eq X 27 7 h dX6_isWithin_4 rfl rfl (fun h => ?_) (fun h => ?_)
    · refine r_pick (lv' := [(2, .int v2), (3, .int v3)]) [1, 2] rfl ?_
      exact wk_X6_isWithin_27 X hr9 hlk9 h
    · refine r_aload_n X 0 8 dX6_isWithin_7 rfl rfl rfl ?_
      refine g_X6_45 X 11 dX6_isWithin_8 rfl ?_
      refine r_iload_n X 2 12 dX6_isWithin_11 rfl rfl rfl ?_
      obtain ⟨hin, h⟩ := h
      refine l_M9 X 13 hin dX6_isWithin_12 rfl ?_
      refine r_iconst (v := 3) X 14 dX6_isWithin_13 (by decide) rfl ?_
      refine r_icmp_ne X 27 17 h dX6_isWithin_14 rfl rfl (fun h => ?_) (fun h => ?_)
      · refine r_pick (lv' := [(2, .int v2), (3, .int v3)]) [1, 2] rfl ?_
        exact wk_X6_isWithin_27 X hr9 hlk9 h
      · refine r_aload_n X 0 18 dX6_isWithin_17 rfl rfl rfl ?_
        refine g_X6_48 X 21 dX6_isWithin_18 rfl ?_
        refine r_iload_n X 2 22 dX6_isWithin_21 rfl rfl rfl ?_
        obtain ⟨hin, h⟩ := h
        refine l_M10 X 23 hin dX6_isWithin_22 rfl ?_
        refine r_istore_nN X 24 (fun z1 => [(3, .int z1), (0, .ref (a 0)), (2, .int v2)]) h dX6_isWithin_23 rfl (by decide) (fun _ => rfl) rfl (fun z1 h => ?_)
        refine r_goto X 2 dX6_isWithin_24 rfl ?_
        refine r_pick (lv' := [(0, .ref (a 0)), (2, .int v2), (3, .int z1)]) [1, 2, 0] rfl ?_
        exact hrec2 _ _ _ h
def wp_X6_isWithin  (σ : St) (x1 : Int32) (x2 : Int32) (Q : Int32 → St → Prop) : Prop :=
  ∃ n9 : Nat, lp_X6_isWithin_2 Q n9 x2 x1 σ
theorem c_X6_isWithin  {σ : St} {x1 : Int32} {x2 : Int32} {Q : Int32 → St → Prop} (h : wp_X6_isWithin σ x1 x2 Q) : ctI l yX6_isWithin cX6_isWithin 4 (some .boolean) rm_X6_isWithin D (wM cI cZ a) (tyW cI cZ cH) [.ref (a 0), .int x1, .int x2] σ (fun r9 u9 => isB r9 ∧ Q r9 u9) := by
  refine mk_I (wM_ok cI cZ a) (by decide +kernel) (Nat.le_of_ble_eq_true rfl) (fun p e s m args below meth c A X hr9 hlk9 => ?_)
  refine r_pick (lv' := [(0, .ref (a 0)), (1, .int x1), (2, .int x2)]) [0, 1, 2] rfl ?_
  delta wp_X6_isWithin at h
  refine r_iload_n X 1 1 dX6_isWithin_0 rfl rfl rfl ?_
  refine r_istore_n X 2 [(3, .int x1), (0, .ref (a 0)), (1, .int x1), (2, .int x2)] dX6_isWithin_1 rfl (by decide) rfl rfl ?_
  refine r_pick (lv' := [(0, .ref (a 0)), (2, .int x2), (3, .int x1)]) [1, 3, 0] rfl ?_
  obtain ⟨n9, h⟩ := h
  exact wk_X6_isWithin_2 X hr9 hlk9 n9 h
def rm_X6_go : Room := { frames := 0, cells := 0, slots := 0, locals := 0 }
theorem dX6_go_0 : decode cX6_go 0 = .ok (.aload_n 0, 1) := by decide +kernel
theorem dX6_go_1 : decode cX6_go 1 = .ok (.getfield 45, 3) := by decide +kernel
theorem dX6_go_4 : decode cX6_go 4 = .ok (.iload_n 1, 1) := by decide +kernel
theorem dX6_go_5 : decode cX6_go 5 = .ok (.iload_n 2, 1) := by decide +kernel
theorem dX6_go_6 : decode cX6_go 6 = .ok (.iastore, 1) := by decide +kernel
theorem dX6_go_7 : decode cX6_go 7 = .ok (.aload_n 0, 1) := by decide +kernel
theorem dX6_go_8 : decode cX6_go 8 = .ok (.getfield 48, 3) := by decide +kernel
theorem dX6_go_11 : decode cX6_go 11 = .ok (.iload_n 1, 1) := by decide +kernel
theorem dX6_go_12 : decode cX6_go 12 = .ok (.iload_n 3, 1) := by decide +kernel
theorem dX6_go_13 : decode cX6_go 13 = .ok (.iastore, 1) := by decide +kernel
theorem dX6_go_14 : decode cX6_go 14 = .ok (.return_, 1) := by decide +kernel
def wp_X6_go  (σ : St) (x1 : Int32) (x2 : Int32) (x3 : Int32) (Q : St → Prop) : Prop :=
  vp_in x1 60 ∧
  nmS (up2 σ 9 (ix x1) x2) (fun σ1 =>
  vp_in x1 60 ∧
  nmS (up2 σ1 10 (ix x1) x3) (fun σ2 =>
  Q σ2))
theorem c_X6_go  {σ : St} {x1 : Int32} {x2 : Int32} {x3 : Int32} {Q : St → Prop} (h : wp_X6_go σ x1 x2 x3 Q) : ctV l yX6_go cX6_go 4 none rm_X6_go D (wM cI cZ a) (tyW cI cZ cH) [.ref (a 0), .int x1, .int x2, .int x3] σ Q := by
  refine mk_V (wM_ok cI cZ a) (by decide +kernel) (Nat.le_of_ble_eq_true rfl) (fun p e s m args below meth c A X hr9 hlk9 => ?_)
  refine r_pick (lv' := [(0, .ref (a 0)), (1, .int x1), (2, .int x2), (3, .int x3)]) [0, 1, 2, 3] rfl ?_
  delta wp_X6_go at h
  refine r_aload_n X 0 1 dX6_go_0 rfl rfl rfl ?_
  refine g_X6_45 X 4 dX6_go_1 rfl ?_
  refine r_iload_n X 1 5 dX6_go_4 rfl rfl rfl ?_
  refine r_iload_n X 2 6 dX6_go_5 rfl rfl rfl ?_
  obtain ⟨hin, h⟩ := h
  refine s_M9 X 7 hin dX6_go_6 rfl ?_
  refine r_nmS h (fun σ1 h => ?_)
  refine r_aload_n X 0 8 dX6_go_7 rfl rfl rfl ?_
  refine g_X6_48 X 11 dX6_go_8 rfl ?_
  refine r_iload_n X 1 12 dX6_go_11 rfl rfl rfl ?_
  refine r_iload_n X 3 13 dX6_go_12 rfl rfl rfl ?_
  obtain ⟨hin, h⟩ := h
  refine s_M10 X 14 hin dX6_go_13 rfl ?_
  refine r_nmS h (fun σ2 h => ?_)
  exact r_vret X hr9 hlk9 h dX6_go_14
def rm_X6_comesIn : Room := { frames := 3, cells := 0, slots := 0, locals := 66 }
theorem dX6_comesIn_0 : decode cX6_comesIn 0 = .ok (.aload_n 0, 1) := by decide +kernel
theorem dX6_comesIn_1 : decode cX6_comesIn 1 = .ok (.getfield 72, 3) := by decide +kernel
theorem dX6_comesIn_4 : decode cX6_comesIn 4 = .ok (.iload_n 1, 1) := by decide +kernel
theorem dX6_comesIn_5 : decode cX6_comesIn 5 = .ok (.baload, 1) := by decide +kernel
theorem dX6_comesIn_6 : decode cX6_comesIn 6 = .ok (.ifCond .ne 66, 3) := by decide +kernel
theorem dX6_comesIn_9 : decode cX6_comesIn 9 = .ok (.aload_n 0, 1) := by decide +kernel
theorem dX6_comesIn_10 : decode cX6_comesIn 10 = .ok (.getfield 24, 3) := by decide +kernel
theorem dX6_comesIn_13 : decode cX6_comesIn 13 = .ok (.iload_n 1, 1) := by decide +kernel
theorem dX6_comesIn_14 : decode cX6_comesIn 14 = .ok (.iaload, 1) := by decide +kernel
theorem dX6_comesIn_15 : decode cX6_comesIn 15 = .ok (.iconst 2, 1) := by decide +kernel
theorem dX6_comesIn_16 : decode cX6_comesIn 16 = .ok (.if_icmp .eq 56, 3) := by decide +kernel
theorem dX6_comesIn_19 : decode cX6_comesIn 19 = .ok (.aload_n 0, 1) := by decide +kernel
theorem dX6_comesIn_20 : decode cX6_comesIn 20 = .ok (.getfield 24, 3) := by decide +kernel
theorem dX6_comesIn_23 : decode cX6_comesIn 23 = .ok (.iload_n 1, 1) := by decide +kernel
theorem dX6_comesIn_24 : decode cX6_comesIn 24 = .ok (.iaload, 1) := by decide +kernel
theorem dX6_comesIn_25 : decode cX6_comesIn 25 = .ok (.iconst 3, 1) := by decide +kernel
theorem dX6_comesIn_26 : decode cX6_comesIn 26 = .ok (.if_icmp .eq 46, 3) := by decide +kernel
theorem dX6_comesIn_29 : decode cX6_comesIn 29 = .ok (.aload_n 0, 1) := by decide +kernel
theorem dX6_comesIn_30 : decode cX6_comesIn 30 = .ok (.iload_n 2, 1) := by decide +kernel
theorem dX6_comesIn_31 : decode cX6_comesIn 31 = .ok (.iload_n 3, 1) := by decide +kernel
theorem dX6_comesIn_32 : decode cX6_comesIn 32 = .ok (.aload_n 0, 1) := by decide +kernel
theorem dX6_comesIn_33 : decode cX6_comesIn 33 = .ok (.getfield 24, 3) := by decide +kernel
theorem dX6_comesIn_36 : decode cX6_comesIn 36 = .ok (.iload_n 1, 1) := by decide +kernel
theorem dX6_comesIn_37 : decode cX6_comesIn 37 = .ok (.iaload, 1) := by decide +kernel
theorem dX6_comesIn_38 : decode cX6_comesIn 38 = .ok (.iconst 5, 1) := by decide +kernel
theorem dX6_comesIn_39 : decode cX6_comesIn 39 = .ok (.if_icmp .ne 7, 3) := by decide +kernel
theorem dX6_comesIn_42 : decode cX6_comesIn 42 = .ok (.iconst 1, 1) := by decide +kernel
theorem dX6_comesIn_43 : decode cX6_comesIn 43 = .ok (.goto 4, 3) := by decide +kernel
theorem dX6_comesIn_46 : decode cX6_comesIn 46 = .ok (.iconst 0, 1) := by decide +kernel
theorem dX6_comesIn_47 : decode cX6_comesIn 47 = .ok (.invokevirtual 139, 3) := by decide +kernel
theorem dX6_comesIn_50 : decode cX6_comesIn 50 = .ok (.ifCond .eq 22, 3) := by decide +kernel
theorem dX6_comesIn_53 : decode cX6_comesIn 53 = .ok (.aload_n 0, 1) := by decide +kernel
theorem dX6_comesIn_54 : decode cX6_comesIn 54 = .ok (.iload 5, 2) := by decide +kernel
theorem dX6_comesIn_56 : decode cX6_comesIn 56 = .ok (.invokevirtual 143, 3) := by decide +kernel
theorem dX6_comesIn_59 : decode cX6_comesIn 59 = .ok (.ifCond .eq 13, 3) := by decide +kernel
theorem dX6_comesIn_62 : decode cX6_comesIn 62 = .ok (.aload_n 0, 1) := by decide +kernel
theorem dX6_comesIn_63 : decode cX6_comesIn 63 = .ok (.iload_n 1, 1) := by decide +kernel
theorem dX6_comesIn_64 : decode cX6_comesIn 64 = .ok (.iload 4, 2) := by decide +kernel
theorem dX6_comesIn_66 : decode cX6_comesIn 66 = .ok (.invokevirtual 146, 3) := by decide +kernel
theorem dX6_comesIn_69 : decode cX6_comesIn 69 = .ok (.ifCond .ne 5, 3) := by decide +kernel
theorem dX6_comesIn_72 : decode cX6_comesIn 72 = .ok (.iconst 0, 1) := by decide +kernel
theorem dX6_comesIn_73 : decode cX6_comesIn 73 = .ok (.ireturn, 1) := by decide +kernel
theorem dX6_comesIn_74 : decode cX6_comesIn 74 = .ok (.aload_n 0, 1) := by decide +kernel
theorem dX6_comesIn_75 : decode cX6_comesIn 75 = .ok (.getfield 72, 3) := by decide +kernel
theorem dX6_comesIn_78 : decode cX6_comesIn 78 = .ok (.iload_n 1, 1) := by decide +kernel
theorem dX6_comesIn_79 : decode cX6_comesIn 79 = .ok (.iconst 1, 1) := by decide +kernel
theorem dX6_comesIn_80 : decode cX6_comesIn 80 = .ok (.bastore, 1) := by decide +kernel
theorem dX6_comesIn_81 : decode cX6_comesIn 81 = .ok (.aload_n 0, 1) := by decide +kernel
theorem dX6_comesIn_82 : decode cX6_comesIn 82 = .ok (.iload_n 1, 1) := by decide +kernel
theorem dX6_comesIn_83 : decode cX6_comesIn 83 = .ok (.iconst 1, 1) := by decide +kernel
theorem dX6_comesIn_84 : decode cX6_comesIn 84 = .ok (.iload 4, 2) := by decide +kernel
theorem dX6_comesIn_86 : decode cX6_comesIn 86 = .ok (.invokevirtual 150, 3) := by decide +kernel
theorem dX6_comesIn_89 : decode cX6_comesIn 89 = .ok (.iconst 1, 1) := by decide +kernel
theorem dX6_comesIn_90 : decode cX6_comesIn 90 = .ok (.ireturn, 1) := by decide +kernel
def j_X6_comesIn_47  (Q : Int32 → St → Prop) (v1 : Int32) (v4 : Int32) (v5 : Int32) (s0 : Int32) (s1 : Int32) (s2 : Int32) (σ : St) : Prop :=
  wp_X6_hasKeepers σ s2 s1 s0 (fun y2 σ1 =>
  if y2 = 0 then
  (Q 0 σ1)
  else (wp_X6_isHand σ1 v5 (fun y4 σ3 =>
  if y4 = 0 then
  (Q 0 σ3)
  else (wp_X6_fits σ3 v1 v4 (fun y6 σ5 =>
  if y6 = 0 then
  (Q 0 σ5)
  else (vp_in v1 60 ∧
  nmS (up2 σ5 18 (ix v1) 1) (fun σ7 =>
  wp_X6_go σ7 v1 1 v4 (fun σ8 =>
  Q 1 σ8))))))))
theorem wk_X6_comesIn_47 (X : cx p s m args c cX6_comesIn 6 RX6 D (wM cI cZ a) A (tyW cI cZ cH)) (hr9 : meth.sig.returnType = (some .boolean)) (hlk9 : meth.locks = false)  {Q : Int32 → St → Prop} {v1 : Int32} {v4 : Int32} {v5 : Int32} {s0 : Int32} {s1 : Int32} {s2 : Int32} {σ : St} (h : j_X6_comesIn_47 Q v1 v4 v5 s0 s1 s2 σ) : go p l e rm_X6_comesIn s m args below meth c D (wM cI cZ a) A 0 0 (MQ below (va_Qi (fun r9 u9 => isB r9 ∧ Q r9 u9) (atw D (wM cI cZ a) (tyW cI cZ cH) A) A) args s 0 0 A) 6 47 [(0, .ref (a 0)), (1, .int v1), (4, .int v4), (5, .int v5)] [.int s0, .int s1, .int s2, .ref (a 0)] σ := by
  delta j_X6_comesIn_47 at h
  refine r_callI (As := [.int s2, .int s1, .int s0]) (rest := []) X 50 (c_X6_hasKeepers h) ml_X6_139 lk_X6_hasKeepers wM_at_0 rfl rfl rfl (Nat.le_of_ble_eq_true rfl) ⟨rfl, rfl, ⟨Nat.le_of_ble_eq_true rfl, Nat.le_of_ble_eq_true rfl⟩, Nat.le_of_ble_eq_true rfl, Nat.le_of_ble_eq_true rfl⟩ dX6_comesIn_47 rfl (fun y2 σ1 h => ?_)
  obtain ⟨hb_y2, h⟩ := h
  refine r_if_eq X 72 53 h dX6_comesIn_50 rfl rfl (fun h => ?_) (fun h => ?_)
  · refine r_iconst (v := 0) X 73 dX6_comesIn_72 (by decide) rfl ?_
    exact r_zret X hr9 hlk9 isB_0 h dX6_comesIn_73
  · refine r_aload_n X 0 54 dX6_comesIn_53 rfl rfl rfl ?_
    refine r_iload X 3 56 dX6_comesIn_54 rfl rfl ?_
    refine r_callI (As := [.int v5]) (rest := []) X 59 (c_X6_isHand h) ml_X6_143 lk_X6_isHand wM_at_0 rfl rfl rfl (Nat.le_of_ble_eq_true rfl) ⟨rfl, rfl, ⟨Nat.le_of_ble_eq_true rfl, Nat.le_of_ble_eq_true rfl⟩, Nat.le_of_ble_eq_true rfl, Nat.le_of_ble_eq_true rfl⟩ dX6_comesIn_56 rfl (fun y4 σ3 h => ?_)
    obtain ⟨hb_y4, h⟩ := h
    refine r_if_eq X 72 62 h dX6_comesIn_59 rfl rfl (fun h => ?_) (fun h => ?_)
    · refine r_iconst (v := 0) X 73 dX6_comesIn_72 (by decide) rfl ?_
      exact r_zret X hr9 hlk9 isB_0 h dX6_comesIn_73
    · refine r_aload_n X 0 63 dX6_comesIn_62 rfl rfl rfl ?_
      refine r_iload_n X 1 64 dX6_comesIn_63 rfl rfl rfl ?_
      refine r_iload X 2 66 dX6_comesIn_64 rfl rfl ?_
      refine r_callI (As := [.int v1, .int v4]) (rest := []) X 69 (c_X6_fits h) ml_X6_146 lk_X6_fits wM_at_0 rfl rfl rfl (Nat.le_of_ble_eq_true rfl) ⟨rfl, rfl, ⟨Nat.le_of_ble_eq_true rfl, Nat.le_of_ble_eq_true rfl⟩, Nat.le_of_ble_eq_true rfl, Nat.le_of_ble_eq_true rfl⟩ dX6_comesIn_66 rfl (fun y6 σ5 h => ?_)
      obtain ⟨hb_y6, h⟩ := h
      refine r_if_ne X 74 72 h dX6_comesIn_69 rfl rfl (fun h => ?_) (fun h => ?_)
      · refine r_aload_n X 0 75 dX6_comesIn_74 rfl rfl rfl ?_
        refine g_X6_72 X 78 dX6_comesIn_75 rfl ?_
        refine r_iload_n X 1 79 dX6_comesIn_78 rfl rfl rfl ?_
        refine r_iconst (v := 1) X 80 dX6_comesIn_79 (by decide) rfl ?_
        obtain ⟨hin, h⟩ := h
        refine s_M18 (x8 := 1) X (by decide +kernel) 81 hin dX6_comesIn_80 rfl ?_
        refine r_nmS h (fun σ7 h => ?_)
        refine r_aload_n X 0 82 dX6_comesIn_81 rfl rfl rfl ?_
        refine r_iload_n X 1 83 dX6_comesIn_82 rfl rfl rfl ?_
        refine r_iconst (v := 1) X 84 dX6_comesIn_83 (by decide) rfl ?_
        refine r_iload X 2 86 dX6_comesIn_84 rfl rfl ?_
        refine r_callV (As := [.int v1, .int 1, .int v4]) (rest := []) X 89 (c_X6_go h) ml_X6_150 lk_X6_go wM_at_0 rfl rfl rfl (Nat.le_of_ble_eq_true rfl) ⟨rfl, rfl, ⟨Nat.le_of_ble_eq_true rfl, Nat.le_of_ble_eq_true rfl⟩, Nat.le_of_ble_eq_true rfl, Nat.le_of_ble_eq_true rfl⟩ dX6_comesIn_86 rfl (fun σ8 h => ?_)
        refine r_iconst (v := 1) X 90 dX6_comesIn_89 (by decide) rfl ?_
        exact r_zret X hr9 hlk9 isB_1 h dX6_comesIn_90
      · refine r_iconst (v := 0) X 73 dX6_comesIn_72 (by decide) rfl ?_
        exact r_zret X hr9 hlk9 isB_0 h dX6_comesIn_73
def wp_X6_comesIn  (σ : St) (x1 : Int32) (x2 : Int32) (x3 : Int32) (x4 : Int32) (x5 : Int32) (Q : Int32 → St → Prop) : Prop :=
  vp_in x1 60 ∧
  (if (σ 18 (ix x1)) = 0 then
  (vp_in x1 60 ∧
  (if (σ 4 (ix x1)) = 2 then
  (Q 0 σ)
  else (vp_in x1 60 ∧
  (if (σ 4 (ix x1)) = 3 then
  (Q 0 σ)
  else (vp_in x1 60 ∧
  (if (σ 4 (ix x1)) = 5 then
  (j_X6_comesIn_47 Q x1 x4 x5 1 x3 x2 σ)
  else (j_X6_comesIn_47 Q x1 x4 x5 0 x3 x2 σ)))))))
  else (Q 0 σ))
theorem c_X6_comesIn  {σ : St} {x1 : Int32} {x2 : Int32} {x3 : Int32} {x4 : Int32} {x5 : Int32} {Q : Int32 → St → Prop} (h : wp_X6_comesIn σ x1 x2 x3 x4 x5 Q) : ctI l yX6_comesIn cX6_comesIn 6 (some .boolean) rm_X6_comesIn D (wM cI cZ a) (tyW cI cZ cH) [.ref (a 0), .int x1, .int x2, .int x3, .int x4, .int x5] σ (fun r9 u9 => isB r9 ∧ Q r9 u9) := by
  refine mk_I (wM_ok cI cZ a) (by decide +kernel) (Nat.le_of_ble_eq_true rfl) (fun p e s m args below meth c A X hr9 hlk9 => ?_)
  refine r_pick (lv' := [(0, .ref (a 0)), (1, .int x1), (2, .int x2), (3, .int x3), (4, .int x4), (5, .int x5)]) [0, 1, 2, 3, 4, 5] rfl ?_
  delta wp_X6_comesIn at h
  refine r_aload_n X 0 1 dX6_comesIn_0 rfl rfl rfl ?_
  refine g_X6_72 X 4 dX6_comesIn_1 rfl ?_
  refine r_iload_n X 1 5 dX6_comesIn_4 rfl rfl rfl ?_
  obtain ⟨hin, h⟩ := h
  refine l_M18 X 6 hin dX6_comesIn_5 rfl ?_
  refine r_if_ne X 72 9 h dX6_comesIn_6 rfl rfl (fun h => ?_) (fun h => ?_)
  · refine r_iconst (v := 0) X 73 dX6_comesIn_72 (by decide) rfl ?_
    exact r_zret X hr9 hlk9 isB_0 h dX6_comesIn_73
  · refine r_aload_n X 0 10 dX6_comesIn_9 rfl rfl rfl ?_
    refine g_X6_24 X 13 dX6_comesIn_10 rfl ?_
    refine r_iload_n X 1 14 dX6_comesIn_13 rfl rfl rfl ?_
    obtain ⟨hin, h⟩ := h
    refine l_M4 X 15 hin dX6_comesIn_14 rfl ?_
    refine r_iconst (v := 2) X 16 dX6_comesIn_15 (by decide) rfl ?_
    refine r_icmp_eq X 72 19 h dX6_comesIn_16 rfl rfl (fun h => ?_) (fun h => ?_)
    · refine r_iconst (v := 0) X 73 dX6_comesIn_72 (by decide) rfl ?_
      exact r_zret X hr9 hlk9 isB_0 h dX6_comesIn_73
    · refine r_aload_n X 0 20 dX6_comesIn_19 rfl rfl rfl ?_
      refine g_X6_24 X 23 dX6_comesIn_20 rfl ?_
      refine r_iload_n X 1 24 dX6_comesIn_23 rfl rfl rfl ?_
      obtain ⟨hin, h⟩ := h
      refine l_M4 X 25 hin dX6_comesIn_24 rfl ?_
      refine r_iconst (v := 3) X 26 dX6_comesIn_25 (by decide) rfl ?_
      refine r_icmp_eq X 72 29 h dX6_comesIn_26 rfl rfl (fun h => ?_) (fun h => ?_)
      · refine r_iconst (v := 0) X 73 dX6_comesIn_72 (by decide) rfl ?_
        exact r_zret X hr9 hlk9 isB_0 h dX6_comesIn_73
      · refine r_aload_n X 0 30 dX6_comesIn_29 rfl rfl rfl ?_
        refine r_iload_n X 2 31 dX6_comesIn_30 rfl rfl rfl ?_
        refine r_iload_n X 3 32 dX6_comesIn_31 rfl rfl rfl ?_
        refine r_aload_n X 0 33 dX6_comesIn_32 rfl rfl rfl ?_
        refine g_X6_24 X 36 dX6_comesIn_33 rfl ?_
        refine r_iload_n X 1 37 dX6_comesIn_36 rfl rfl rfl ?_
        obtain ⟨hin, h⟩ := h
        refine l_M4 X 38 hin dX6_comesIn_37 rfl ?_
        refine r_iconst (v := 5) X 39 dX6_comesIn_38 (by decide) rfl ?_
        refine r_icmp_ne X 46 42 h dX6_comesIn_39 rfl rfl (fun h => ?_) (fun h => ?_)
        · refine r_iconst (v := 0) X 47 dX6_comesIn_46 (by decide) rfl ?_
          refine r_pick (lv' := [(0, .ref (a 0)), (1, .int x1), (4, .int x4), (5, .int x5)]) [0, 1, 4, 5] rfl ?_
          exact wk_X6_comesIn_47 X hr9 hlk9 h
        · refine r_iconst (v := 1) X 43 dX6_comesIn_42 (by decide) rfl ?_
          refine r_goto X 47 dX6_comesIn_43 rfl ?_
          refine r_pick (lv' := [(0, .ref (a 0)), (1, .int x1), (4, .int x4), (5, .int x5)]) [0, 1, 4, 5] rfl ?_
          exact wk_X6_comesIn_47 X hr9 hlk9 h
def rm_X6_goesInto : Room := { frames := 3, cells := 0, slots := 0, locals := 66 }
theorem dX6_goesInto_0 : decode cX6_goesInto 0 = .ok (.aload_n 0, 1) := by decide +kernel
theorem dX6_goesInto_1 : decode cX6_goesInto 1 = .ok (.iload 4, 2) := by decide +kernel
theorem dX6_goesInto_3 : decode cX6_goesInto 3 = .ok (.invokevirtual 113, 3) := by decide +kernel
theorem dX6_goesInto_6 : decode cX6_goesInto 6 = .ok (.ifCond .eq 33, 3) := by decide +kernel
theorem dX6_goesInto_9 : decode cX6_goesInto 9 = .ok (.aload_n 0, 1) := by decide +kernel
theorem dX6_goesInto_10 : decode cX6_goesInto 10 = .ok (.iload 4, 2) := by decide +kernel
theorem dX6_goesInto_12 : decode cX6_goesInto 12 = .ok (.invokevirtual 162, 3) := by decide +kernel
theorem dX6_goesInto_15 : decode cX6_goesInto 15 = .ok (.ifCond .eq 24, 3) := by decide +kernel
theorem dX6_goesInto_18 : decode cX6_goesInto 18 = .ok (.aload_n 0, 1) := by decide +kernel
theorem dX6_goesInto_19 : decode cX6_goesInto 19 = .ok (.getfield 54, 3) := by decide +kernel
theorem dX6_goesInto_22 : decode cX6_goesInto 22 = .ok (.iload 4, 2) := by decide +kernel
theorem dX6_goesInto_24 : decode cX6_goesInto 24 = .ok (.iaload, 1) := by decide +kernel
theorem dX6_goesInto_25 : decode cX6_goesInto 25 = .ok (.iconst (-1), 1) := by decide +kernel
theorem dX6_goesInto_26 : decode cX6_goesInto 26 = .ok (.if_icmp .ne 13, 3) := by decide +kernel
theorem dX6_goesInto_29 : decode cX6_goesInto 29 = .ok (.aload_n 0, 1) := by decide +kernel
theorem dX6_goesInto_30 : decode cX6_goesInto 30 = .ok (.iload 4, 2) := by decide +kernel
theorem dX6_goesInto_32 : decode cX6_goesInto 32 = .ok (.iload_n 1, 1) := by decide +kernel
theorem dX6_goesInto_33 : decode cX6_goesInto 33 = .ok (.invokevirtual 165, 3) := by decide +kernel
theorem dX6_goesInto_36 : decode cX6_goesInto 36 = .ok (.ifCond .eq 5, 3) := by decide +kernel
theorem dX6_goesInto_39 : decode cX6_goesInto 39 = .ok (.iconst 0, 1) := by decide +kernel
theorem dX6_goesInto_40 : decode cX6_goesInto 40 = .ok (.ireturn, 1) := by decide +kernel
theorem dX6_goesInto_41 : decode cX6_goesInto 41 = .ok (.aload_n 0, 1) := by decide +kernel
theorem dX6_goesInto_42 : decode cX6_goesInto 42 = .ok (.iload_n 2, 1) := by decide +kernel
theorem dX6_goesInto_43 : decode cX6_goesInto 43 = .ok (.iload_n 3, 1) := by decide +kernel
theorem dX6_goesInto_44 : decode cX6_goesInto 44 = .ok (.aload_n 0, 1) := by decide +kernel
theorem dX6_goesInto_45 : decode cX6_goesInto 45 = .ok (.getfield 24, 3) := by decide +kernel
theorem dX6_goesInto_48 : decode cX6_goesInto 48 = .ok (.iload_n 1, 1) := by decide +kernel
theorem dX6_goesInto_49 : decode cX6_goesInto 49 = .ok (.iaload, 1) := by decide +kernel
theorem dX6_goesInto_50 : decode cX6_goesInto 50 = .ok (.iconst 5, 1) := by decide +kernel
theorem dX6_goesInto_51 : decode cX6_goesInto 51 = .ok (.if_icmp .eq 14, 3) := by decide +kernel
theorem dX6_goesInto_54 : decode cX6_goesInto 54 = .ok (.aload_n 0, 1) := by decide +kernel
theorem dX6_goesInto_55 : decode cX6_goesInto 55 = .ok (.getfield 24, 3) := by decide +kernel
theorem dX6_goesInto_58 : decode cX6_goesInto 58 = .ok (.iload 4, 2) := by decide +kernel
theorem dX6_goesInto_60 : decode cX6_goesInto 60 = .ok (.iaload, 1) := by decide +kernel
theorem dX6_goesInto_61 : decode cX6_goesInto 61 = .ok (.iconst 5, 1) := by decide +kernel
theorem dX6_goesInto_62 : decode cX6_goesInto 62 = .ok (.if_icmp .ne 7, 3) := by decide +kernel
theorem dX6_goesInto_65 : decode cX6_goesInto 65 = .ok (.iconst 1, 1) := by decide +kernel
theorem dX6_goesInto_66 : decode cX6_goesInto 66 = .ok (.goto 4, 3) := by decide +kernel
theorem dX6_goesInto_69 : decode cX6_goesInto 69 = .ok (.iconst 0, 1) := by decide +kernel
theorem dX6_goesInto_70 : decode cX6_goesInto 70 = .ok (.invokevirtual 139, 3) := by decide +kernel
theorem dX6_goesInto_73 : decode cX6_goesInto 73 = .ok (.ifCond .ne 5, 3) := by decide +kernel
theorem dX6_goesInto_76 : decode cX6_goesInto 76 = .ok (.iconst 0, 1) := by decide +kernel
theorem dX6_goesInto_77 : decode cX6_goesInto 77 = .ok (.ireturn, 1) := by decide +kernel
theorem dX6_goesInto_78 : decode cX6_goesInto 78 = .ok (.aload_n 0, 1) := by decide +kernel
theorem dX6_goesInto_79 : decode cX6_goesInto 79 = .ok (.getfield 45, 3) := by decide +kernel
theorem dX6_goesInto_82 : decode cX6_goesInto 82 = .ok (.iload_n 1, 1) := by decide +kernel
theorem dX6_goesInto_83 : decode cX6_goesInto 83 = .ok (.iaload, 1) := by decide +kernel
theorem dX6_goesInto_84 : decode cX6_goesInto 84 = .ok (.iconst 1, 1) := by decide +kernel
theorem dX6_goesInto_85 : decode cX6_goesInto 85 = .ok (.if_icmp .ne 14, 3) := by decide +kernel
theorem dX6_goesInto_88 : decode cX6_goesInto 88 = .ok (.aload_n 0, 1) := by decide +kernel
theorem dX6_goesInto_89 : decode cX6_goesInto 89 = .ok (.getfield 45, 3) := by decide +kernel
theorem dX6_goesInto_92 : decode cX6_goesInto 92 = .ok (.iload 4, 2) := by decide +kernel
theorem dX6_goesInto_94 : decode cX6_goesInto 94 = .ok (.iaload, 1) := by decide +kernel
theorem dX6_goesInto_95 : decode cX6_goesInto 95 = .ok (.iconst 1, 1) := by decide +kernel
theorem dX6_goesInto_96 : decode cX6_goesInto 96 = .ok (.if_icmp .eq 40, 3) := by decide +kernel
theorem dX6_goesInto_99 : decode cX6_goesInto 99 = .ok (.aload_n 0, 1) := by decide +kernel
theorem dX6_goesInto_100 : decode cX6_goesInto 100 = .ok (.getfield 45, 3) := by decide +kernel
theorem dX6_goesInto_103 : decode cX6_goesInto 103 = .ok (.iload_n 1, 1) := by decide +kernel
theorem dX6_goesInto_104 : decode cX6_goesInto 104 = .ok (.iaload, 1) := by decide +kernel
theorem dX6_goesInto_105 : decode cX6_goesInto 105 = .ok (.iconst 2, 1) := by decide +kernel
theorem dX6_goesInto_106 : decode cX6_goesInto 106 = .ok (.if_icmp .ne 34, 3) := by decide +kernel
theorem dX6_goesInto_109 : decode cX6_goesInto 109 = .ok (.aload_n 0, 1) := by decide +kernel
theorem dX6_goesInto_110 : decode cX6_goesInto 110 = .ok (.getfield 45, 3) := by decide +kernel
theorem dX6_goesInto_113 : decode cX6_goesInto 113 = .ok (.iload 4, 2) := by decide +kernel
theorem dX6_goesInto_115 : decode cX6_goesInto 115 = .ok (.iaload, 1) := by decide +kernel
theorem dX6_goesInto_116 : decode cX6_goesInto 116 = .ok (.iconst 2, 1) := by decide +kernel
theorem dX6_goesInto_117 : decode cX6_goesInto 117 = .ok (.if_icmp .ne 23, 3) := by decide +kernel
theorem dX6_goesInto_120 : decode cX6_goesInto 120 = .ok (.aload_n 0, 1) := by decide +kernel
theorem dX6_goesInto_121 : decode cX6_goesInto 121 = .ok (.getfield 48, 3) := by decide +kernel
theorem dX6_goesInto_124 : decode cX6_goesInto 124 = .ok (.iload_n 1, 1) := by decide +kernel
theorem dX6_goesInto_125 : decode cX6_goesInto 125 = .ok (.iaload, 1) := by decide +kernel
theorem dX6_goesInto_126 : decode cX6_goesInto 126 = .ok (.aload_n 0, 1) := by decide +kernel
theorem dX6_goesInto_127 : decode cX6_goesInto 127 = .ok (.getfield 48, 3) := by decide +kernel
theorem dX6_goesInto_130 : decode cX6_goesInto 130 = .ok (.iload 4, 2) := by decide +kernel
theorem dX6_goesInto_132 : decode cX6_goesInto 132 = .ok (.iaload, 1) := by decide +kernel
theorem dX6_goesInto_133 : decode cX6_goesInto 133 = .ok (.if_icmp .ne 7, 3) := by decide +kernel
theorem dX6_goesInto_136 : decode cX6_goesInto 136 = .ok (.iconst 1, 1) := by decide +kernel
theorem dX6_goesInto_137 : decode cX6_goesInto 137 = .ok (.goto 4, 3) := by decide +kernel
theorem dX6_goesInto_140 : decode cX6_goesInto 140 = .ok (.iconst 0, 1) := by decide +kernel
theorem dX6_goesInto_141 : decode cX6_goesInto 141 = .ok (.istore 5, 2) := by decide +kernel
theorem dX6_goesInto_143 : decode cX6_goesInto 143 = .ok (.iload 5, 2) := by decide +kernel
theorem dX6_goesInto_145 : decode cX6_goesInto 145 = .ok (.ifCond .eq 14, 3) := by decide +kernel
theorem dX6_goesInto_148 : decode cX6_goesInto 148 = .ok (.aload_n 0, 1) := by decide +kernel
theorem dX6_goesInto_149 : decode cX6_goesInto 149 = .ok (.iload 4, 2) := by decide +kernel
theorem dX6_goesInto_151 : decode cX6_goesInto 151 = .ok (.invokevirtual 168, 3) := by decide +kernel
theorem dX6_goesInto_154 : decode cX6_goesInto 154 = .ok (.bipush 7, 2) := by decide +kernel
theorem dX6_goesInto_156 : decode cX6_goesInto 156 = .ok (.if_icmp .le 5, 3) := by decide +kernel
theorem dX6_goesInto_159 : decode cX6_goesInto 159 = .ok (.iconst 0, 1) := by decide +kernel
theorem dX6_goesInto_160 : decode cX6_goesInto 160 = .ok (.ireturn, 1) := by decide +kernel
theorem dX6_goesInto_161 : decode cX6_goesInto 161 = .ok (.iconst 0, 1) := by decide +kernel
theorem dX6_goesInto_162 : decode cX6_goesInto 162 = .ok (.istore 6, 2) := by decide +kernel
theorem dX6_goesInto_164 : decode cX6_goesInto 164 = .ok (.iconst 0, 1) := by decide +kernel
theorem dX6_goesInto_165 : decode cX6_goesInto 165 = .ok (.istore 7, 2) := by decide +kernel
theorem dX6_goesInto_167 : decode cX6_goesInto 167 = .ok (.iload 7, 2) := by decide +kernel
theorem dX6_goesInto_169 : decode cX6_goesInto 169 = .ok (.aload_n 0, 1) := by decide +kernel
theorem dX6_goesInto_170 : decode cX6_goesInto 170 = .ok (.getfield 93, 3) := by decide +kernel
theorem dX6_goesInto_173 : decode cX6_goesInto 173 = .ok (.if_icmp .ge 47, 3) := by decide +kernel
theorem dX6_goesInto_176 : decode cX6_goesInto 176 = .ok (.aload_n 0, 1) := by decide +kernel
theorem dX6_goesInto_177 : decode cX6_goesInto 177 = .ok (.iload 7, 2) := by decide +kernel
theorem dX6_goesInto_179 : decode cX6_goesInto 179 = .ok (.invokevirtual 113, 3) := by decide +kernel
theorem dX6_goesInto_182 : decode cX6_goesInto 182 = .ok (.ifCond .eq 32, 3) := by decide +kernel
theorem dX6_goesInto_185 : decode cX6_goesInto 185 = .ok (.aload_n 0, 1) := by decide +kernel
theorem dX6_goesInto_186 : decode cX6_goesInto 186 = .ok (.iload 7, 2) := by decide +kernel
theorem dX6_goesInto_188 : decode cX6_goesInto 188 = .ok (.iload_n 1, 1) := by decide +kernel
theorem dX6_goesInto_189 : decode cX6_goesInto 189 = .ok (.invokevirtual 165, 3) := by decide +kernel
theorem dX6_goesInto_192 : decode cX6_goesInto 192 = .ok (.ifCond .eq 22, 3) := by decide +kernel
theorem dX6_goesInto_195 : decode cX6_goesInto 195 = .ok (.aload_n 0, 1) := by decide +kernel
theorem dX6_goesInto_196 : decode cX6_goesInto 196 = .ok (.iload 7, 2) := by decide +kernel
theorem dX6_goesInto_198 : decode cX6_goesInto 198 = .ok (.invokevirtual 172, 3) := by decide +kernel
theorem dX6_goesInto_201 : decode cX6_goesInto 201 = .ok (.iload 6, 2) := by decide +kernel
theorem dX6_goesInto_203 : decode cX6_goesInto 203 = .ok (.if_icmp .le 11, 3) := by decide +kernel
theorem dX6_goesInto_206 : decode cX6_goesInto 206 = .ok (.aload_n 0, 1) := by decide +kernel
theorem dX6_goesInto_207 : decode cX6_goesInto 207 = .ok (.iload 7, 2) := by decide +kernel
theorem dX6_goesInto_209 : decode cX6_goesInto 209 = .ok (.invokevirtual 172, 3) := by decide +kernel
theorem dX6_goesInto_212 : decode cX6_goesInto 212 = .ok (.istore 6, 2) := by decide +kernel
theorem dX6_goesInto_214 : decode cX6_goesInto 214 = .ok (.iinc 7 1, 3) := by decide +kernel
theorem dX6_goesInto_217 : decode cX6_goesInto 217 = .ok (.goto (-50), 3) := by decide +kernel
theorem dX6_goesInto_220 : decode cX6_goesInto 220 = .ok (.iload 6, 2) := by decide +kernel
theorem dX6_goesInto_222 : decode cX6_goesInto 222 = .ok (.aload_n 0, 1) := by decide +kernel
theorem dX6_goesInto_223 : decode cX6_goesInto 223 = .ok (.iload 4, 2) := by decide +kernel
theorem dX6_goesInto_225 : decode cX6_goesInto 225 = .ok (.invokevirtual 172, 3) := by decide +kernel
theorem dX6_goesInto_228 : decode cX6_goesInto 228 = .ok (.iadd, 1) := by decide +kernel
theorem dX6_goesInto_229 : decode cX6_goesInto 229 = .ok (.iconst 1, 1) := by decide +kernel
theorem dX6_goesInto_230 : decode cX6_goesInto 230 = .ok (.iadd, 1) := by decide +kernel
theorem dX6_goesInto_231 : decode cX6_goesInto 231 = .ok (.iconst 4, 1) := by decide +kernel
theorem dX6_goesInto_232 : decode cX6_goesInto 232 = .ok (.if_icmp .le 5, 3) := by decide +kernel
theorem dX6_goesInto_235 : decode cX6_goesInto 235 = .ok (.iconst 0, 1) := by decide +kernel
theorem dX6_goesInto_236 : decode cX6_goesInto 236 = .ok (.ireturn, 1) := by decide +kernel
theorem dX6_goesInto_237 : decode cX6_goesInto 237 = .ok (.aload_n 0, 1) := by decide +kernel
theorem dX6_goesInto_238 : decode cX6_goesInto 238 = .ok (.iload_n 1, 1) := by decide +kernel
theorem dX6_goesInto_239 : decode cX6_goesInto 239 = .ok (.iconst 3, 1) := by decide +kernel
theorem dX6_goesInto_240 : decode cX6_goesInto 240 = .ok (.iload 4, 2) := by decide +kernel
theorem dX6_goesInto_242 : decode cX6_goesInto 242 = .ok (.invokevirtual 150, 3) := by decide +kernel
theorem dX6_goesInto_245 : decode cX6_goesInto 245 = .ok (.iconst 1, 1) := by decide +kernel
theorem dX6_goesInto_246 : decode cX6_goesInto 246 = .ok (.ireturn, 1) := by decide +kernel
def j_X6_goesInto_214  (Q : Int32 → St → Prop) (rec167 : Int32 → Int32 → Int32 → Int32 → St → Prop) (v1 : Int32) (v4 : Int32) (v6 : Int32) (v7 : Int32) (σ : St) : Prop :=
  rec167 v1 v4 v6 (v7 + 1) σ
theorem wk_X6_goesInto_214 (X : cx p s m args c cX6_goesInto 8 RX6 D (wM cI cZ a) A (tyW cI cZ cH)) (hr9 : meth.sig.returnType = (some .boolean)) (hlk9 : meth.locks = false)  {Q : Int32 → St → Prop} {rec167 : Int32 → Int32 → Int32 → Int32 → St → Prop} (hrec167 : ∀ (v1 : Int32) (v4 : Int32) (v6 : Int32) (v7 : Int32) (σ : St), rec167 v1 v4 v6 v7 σ → go p l e rm_X6_goesInto s m args below meth c D (wM cI cZ a) A 0 0 (MQ below (va_Qi (fun r9 u9 => isB r9 ∧ Q r9 u9) (atw D (wM cI cZ a) (tyW cI cZ cH) A) A) args s 0 0 A) 8 167 [(0, .ref (a 0)), (1, .int v1), (4, .int v4), (6, .int v6), (7, .int v7)] [] σ) {v1 : Int32} {v4 : Int32} {v6 : Int32} {v7 : Int32} {σ : St} (h : j_X6_goesInto_214 Q rec167 v1 v4 v6 v7 σ) : go p l e rm_X6_goesInto s m args below meth c D (wM cI cZ a) A 0 0 (MQ below (va_Qi (fun r9 u9 => isB r9 ∧ Q r9 u9) (atw D (wM cI cZ a) (tyW cI cZ cH) A) A) args s 0 0 A) 8 214 [(0, .ref (a 0)), (1, .int v1), (4, .int v4), (6, .int v6), (7, .int v7)] [] σ := by
  delta j_X6_goesInto_214 at h
  refine r_iinc (d := 1) X 4 217 [(7, .int (v7 + 1)), (0, .ref (a 0)), (1, .int v1), (4, .int v4), (6, .int v6)] dX6_goesInto_214 rfl (by decide) (by decide) rfl rfl ?_
  refine r_goto X 167 dX6_goesInto_217 rfl ?_
  refine r_pick (lv' := [(0, .ref (a 0)), (1, .int v1), (4, .int v4), (6, .int v6), (7, .int (v7 + 1))]) [1, 2, 3, 4, 0] rfl ?_
  exact hrec167 _ _ _ _ _ h
def b_X6_goesInto_167  (Q : Int32 → St → Prop) (rec167 : Int32 → Int32 → Int32 → Int32 → St → Prop) (v1 : Int32) (v4 : Int32) (v6 : Int32) (v7 : Int32) (σ : St) : Prop :=
  if v7 < (σ 0 2) then
  (wp_X6_isKept σ v7 (fun y15 σ14 =>
  if y15 = 0 then
  (j_X6_goesInto_214 Q rec167 v1 v4 v6 v7 σ14)
  else (wp_X6_isWithin σ14 v7 v1 (fun y17 σ16 =>
  if y17 = 0 then
  (j_X6_goesInto_214 Q rec167 v1 v4 v6 v7 σ16)
  else (wp_X6_depth σ16 v7 (fun y19 σ18 =>
  if v6 < y19 then
  (wp_X6_depth σ18 v7 (fun y21 σ20 =>
  j_X6_goesInto_214 Q rec167 v1 v4 y21 v7 σ20))
  else (j_X6_goesInto_214 Q rec167 v1 v4 v6 v7 σ18)))))))
  else (wp_X6_depth σ v4 (fun y12 σ11 =>
  if 4 < ((v6 + y12) + 1) then
  (Q 0 σ11)
  else (wp_X6_go σ11 v1 3 v4 (fun σ13 =>
  Q 1 σ13))))
def lp_X6_goesInto_167  (Q : Int32 → St → Prop) (n9 : Nat) : Int32 → Int32 → Int32 → Int32 → St → Prop :=
  Nat.rec (fun _ _ _ _ _ => False) (fun _ rec9 => b_X6_goesInto_167  Q  rec9) n9
theorem wk_X6_goesInto_167 (X : cx p s m args c cX6_goesInto 8 RX6 D (wM cI cZ a) A (tyW cI cZ cH)) (hr9 : meth.sig.returnType = (some .boolean)) (hlk9 : meth.locks = false)  {Q : Int32 → St → Prop} : ∀ (n9 : Nat) {v1 : Int32} {v4 : Int32} {v6 : Int32} {v7 : Int32} {σ : St}, lp_X6_goesInto_167 Q n9 v1 v4 v6 v7 σ → go p l e rm_X6_goesInto s m args below meth c D (wM cI cZ a) A 0 0 (MQ below (va_Qi (fun r9 u9 => isB r9 ∧ Q r9 u9) (atw D (wM cI cZ a) (tyW cI cZ cH) A) A) args s 0 0 A) 8 167 [(0, .ref (a 0)), (1, .int v1), (4, .int v4), (6, .int v6), (7, .int v7)] [] σ := by
  intro n9
  induction n9 with
  | zero => intro v1 v4 v6 v7 σ h; exact h.elim
  | succ n9 ih =>
    intro v1 v4 v6 v7 σ h
    have hrec167 := fun v1 v4 v6 v7 σ h => ih (σ := σ) (v1 := v1) (v4 := v4) (v6 := v6) (v7 := v7) h
    replace h : b_X6_goesInto_167 Q (lp_X6_goesInto_167 Q n9) v1 v4 v6 v7 σ := h
    delta b_X6_goesInto_167 at h
    refine r_iload X 4 169 dX6_goesInto_167 rfl rfl ?_
    refine r_aload_n X 0 170 dX6_goesInto_169 rfl rfl rfl ?_
    refine g_X6_93 X 173 dX6_goesInto_170 rfl ?_
    refine r_icmp_ge X 220 176 h dX6_goesInto_173 rfl rfl (fun h => ?_) (fun h => ?_)
    · refine r_iload X 3 222 dX6_goesInto_220 rfl rfl ?_
      refine r_aload_n X 0 223 dX6_goesInto_222 rfl rfl rfl ?_
      refine r_iload X 2 225 dX6_goesInto_223 rfl rfl ?_
      refine r_callI (As := [.int v4]) (rest := [.int v6]) X 228 (c_X6_depth h) ml_X6_172 lk_X6_depth wM_at_0 rfl rfl rfl (Nat.le_of_ble_eq_true rfl) ⟨rfl, rfl, ⟨Nat.le_of_ble_eq_true rfl, Nat.le_of_ble_eq_true rfl⟩, Nat.le_of_ble_eq_true rfl, Nat.le_of_ble_eq_true rfl⟩ dX6_goesInto_225 rfl (fun y12 σ11 h => ?_)
      refine r_iadd X 229 dX6_goesInto_228 rfl ?_
      refine r_iconst (v := 1) X 230 dX6_goesInto_229 (by decide) rfl ?_
      refine r_iadd X 231 dX6_goesInto_230 rfl ?_
      refine r_iconst (v := 4) X 232 dX6_goesInto_231 (by decide) rfl ?_
      refine r_icmp_le X 237 235 h dX6_goesInto_232 rfl rfl (fun h => ?_) (fun h => ?_)
      · refine r_aload_n X 0 238 dX6_goesInto_237 rfl rfl rfl ?_
        refine r_iload_n X 1 239 dX6_goesInto_238 rfl rfl rfl ?_
        refine r_iconst (v := 3) X 240 dX6_goesInto_239 (by decide) rfl ?_
        refine r_iload X 2 242 dX6_goesInto_240 rfl rfl ?_
        refine r_callV (As := [.int v1, .int 3, .int v4]) (rest := []) X 245 (c_X6_go h) ml_X6_150 lk_X6_go wM_at_0 rfl rfl rfl (Nat.le_of_ble_eq_true rfl) ⟨rfl, rfl, ⟨Nat.le_of_ble_eq_true rfl, Nat.le_of_ble_eq_true rfl⟩, Nat.le_of_ble_eq_true rfl, Nat.le_of_ble_eq_true rfl⟩ dX6_goesInto_242 rfl (fun σ13 h => ?_)
        refine r_iconst (v := 1) X 246 dX6_goesInto_245 (by decide) rfl ?_
        exact r_zret X hr9 hlk9 isB_1 h dX6_goesInto_246
      · refine r_iconst (v := 0) X 236 dX6_goesInto_235 (by decide) rfl ?_
        exact r_zret X hr9 hlk9 isB_0 h dX6_goesInto_236
    · refine r_aload_n X 0 177 dX6_goesInto_176 rfl rfl rfl ?_
      refine r_iload X 4 179 dX6_goesInto_177 rfl rfl ?_
      refine r_callI (As := [.int v7]) (rest := []) X 182 (c_X6_isKept h) ml_X6_113 lk_X6_isKept wM_at_0 rfl rfl rfl (Nat.le_of_ble_eq_true rfl) ⟨rfl, rfl, ⟨Nat.le_of_ble_eq_true rfl, Nat.le_of_ble_eq_true rfl⟩, Nat.le_of_ble_eq_true rfl, Nat.le_of_ble_eq_true rfl⟩ dX6_goesInto_179 rfl (fun y15 σ14 h => ?_)
      obtain ⟨hb_y15, h⟩ := h
      refine r_if_eq X 214 185 h dX6_goesInto_182 rfl rfl (fun h => ?_) (fun h => ?_)
      · refine r_pick (lv' := [(0, .ref (a 0)), (1, .int v1), (4, .int v4), (6, .int v6), (7, .int v7)]) [0, 1, 2, 3, 4] rfl ?_
        exact wk_X6_goesInto_214 X hr9 hlk9 hrec167 h
      · refine r_aload_n X 0 186 dX6_goesInto_185 rfl rfl rfl ?_
        refine r_iload X 4 188 dX6_goesInto_186 rfl rfl ?_
        refine r_iload_n X 1 189 dX6_goesInto_188 rfl rfl rfl ?_
        refine r_callI (As := [.int v7, .int v1]) (rest := []) X 192 (c_X6_isWithin h) ml_X6_165 lk_X6_isWithin wM_at_0 rfl rfl rfl (Nat.le_of_ble_eq_true rfl) ⟨rfl, rfl, ⟨Nat.le_of_ble_eq_true rfl, Nat.le_of_ble_eq_true rfl⟩, Nat.le_of_ble_eq_true rfl, Nat.le_of_ble_eq_true rfl⟩ dX6_goesInto_189 rfl (fun y17 σ16 h => ?_)
        obtain ⟨hb_y17, h⟩ := h
        refine r_if_eq X 214 195 h dX6_goesInto_192 rfl rfl (fun h => ?_) (fun h => ?_)
        · refine r_pick (lv' := [(0, .ref (a 0)), (1, .int v1), (4, .int v4), (6, .int v6), (7, .int v7)]) [0, 1, 2, 3, 4] rfl ?_
          exact wk_X6_goesInto_214 X hr9 hlk9 hrec167 h
        · refine r_aload_n X 0 196 dX6_goesInto_195 rfl rfl rfl ?_
          refine r_iload X 4 198 dX6_goesInto_196 rfl rfl ?_
          refine r_callI (As := [.int v7]) (rest := []) X 201 (c_X6_depth h) ml_X6_172 lk_X6_depth wM_at_0 rfl rfl rfl (Nat.le_of_ble_eq_true rfl) ⟨rfl, rfl, ⟨Nat.le_of_ble_eq_true rfl, Nat.le_of_ble_eq_true rfl⟩, Nat.le_of_ble_eq_true rfl, Nat.le_of_ble_eq_true rfl⟩ dX6_goesInto_198 rfl (fun y19 σ18 h => ?_)
          refine r_iload X 3 203 dX6_goesInto_201 rfl rfl ?_
          refine r_icmp_le X 214 206 h dX6_goesInto_203 rfl rfl (fun h => ?_) (fun h => ?_)
          · refine r_pick (lv' := [(0, .ref (a 0)), (1, .int v1), (4, .int v4), (6, .int v6), (7, .int v7)]) [0, 1, 2, 3, 4] rfl ?_
            exact wk_X6_goesInto_214 X hr9 hlk9 hrec167 h
          · refine r_aload_n X 0 207 dX6_goesInto_206 rfl rfl rfl ?_
            refine r_iload X 4 209 dX6_goesInto_207 rfl rfl ?_
            refine r_callI (As := [.int v7]) (rest := []) X 212 (c_X6_depth h) ml_X6_172 lk_X6_depth wM_at_0 rfl rfl rfl (Nat.le_of_ble_eq_true rfl) ⟨rfl, rfl, ⟨Nat.le_of_ble_eq_true rfl, Nat.le_of_ble_eq_true rfl⟩, Nat.le_of_ble_eq_true rfl, Nat.le_of_ble_eq_true rfl⟩ dX6_goesInto_209 rfl (fun y21 σ20 h => ?_)
            refine r_istore X 214 [(6, .int y21), (0, .ref (a 0)), (1, .int v1), (4, .int v4), (7, .int v7)] dX6_goesInto_212 (by decide) rfl rfl ?_
            refine r_pick (lv' := [(0, .ref (a 0)), (1, .int v1), (4, .int v4), (6, .int y21), (7, .int v7)]) [1, 2, 3, 0, 4] rfl ?_
            exact wk_X6_goesInto_214 X hr9 hlk9 hrec167 h
def j_X6_goesInto_141  (Q : Int32 → St → Prop) (v1 : Int32) (v4 : Int32) (s0 : Int32) (σ : St) : Prop :=
  if s0 = 0 then
  (Q 0 σ)
  else (wp_X6_inside σ v4 (fun y10 σ9 =>
  if 7 < y10 then
  (Q 0 σ9)
  else (∃ n9 : Nat, lp_X6_goesInto_167 Q n9 v1 v4 0 0 σ9)))
theorem wk_X6_goesInto_141 (X : cx p s m args c cX6_goesInto 8 RX6 D (wM cI cZ a) A (tyW cI cZ cH)) (hr9 : meth.sig.returnType = (some .boolean)) (hlk9 : meth.locks = false)  {Q : Int32 → St → Prop} {v1 : Int32} {v4 : Int32} {s0 : Int32} {σ : St} (h : j_X6_goesInto_141 Q v1 v4 s0 σ) : go p l e rm_X6_goesInto s m args below meth c D (wM cI cZ a) A 0 0 (MQ below (va_Qi (fun r9 u9 => isB r9 ∧ Q r9 u9) (atw D (wM cI cZ a) (tyW cI cZ cH) A) A) args s 0 0 A) 8 141 [(0, .ref (a 0)), (1, .int v1), (4, .int v4)] [.int s0] σ := by
  delta j_X6_goesInto_141 at h
  refine r_istore X 143 [(5, .int s0), (0, .ref (a 0)), (1, .int v1), (4, .int v4)] dX6_goesInto_141 (by decide) rfl rfl ?_
  refine r_iload X 0 145 dX6_goesInto_143 rfl rfl ?_
  refine r_if_eq X 159 148 h dX6_goesInto_145 rfl rfl (fun h => ?_) (fun h => ?_)
  · refine r_iconst (v := 0) X 160 dX6_goesInto_159 (by decide) rfl ?_
    exact r_zret X hr9 hlk9 isB_0 h dX6_goesInto_160
  · refine r_aload_n X 1 149 dX6_goesInto_148 rfl rfl rfl ?_
    refine r_iload X 3 151 dX6_goesInto_149 rfl rfl ?_
    refine r_callI (As := [.int v4]) (rest := []) X 154 (c_X6_inside h) ml_X6_168 lk_X6_inside wM_at_0 rfl rfl rfl (Nat.le_of_ble_eq_true rfl) ⟨rfl, rfl, ⟨Nat.le_of_ble_eq_true rfl, Nat.le_of_ble_eq_true rfl⟩, Nat.le_of_ble_eq_true rfl, Nat.le_of_ble_eq_true rfl⟩ dX6_goesInto_151 rfl (fun y10 σ9 h => ?_)
    refine r_bipush (v := 7) X 156 dX6_goesInto_154 (by decide) rfl ?_
    refine r_icmp_le X 161 159 h dX6_goesInto_156 rfl rfl (fun h => ?_) (fun h => ?_)
    · refine r_iconst (v := 0) X 162 dX6_goesInto_161 (by decide) rfl ?_
      refine r_istore X 164 [(6, .int 0), (5, .int s0), (0, .ref (a 0)), (1, .int v1), (4, .int v4)] dX6_goesInto_162 (by decide) rfl rfl ?_
      refine r_iconst (v := 0) X 165 dX6_goesInto_164 (by decide) rfl ?_
      refine r_istore X 167 [(7, .int 0), (6, .int 0), (5, .int s0), (0, .ref (a 0)), (1, .int v1), (4, .int v4)] dX6_goesInto_165 (by decide) rfl rfl ?_
      refine r_pick (lv' := [(0, .ref (a 0)), (1, .int v1), (4, .int v4), (6, .int 0), (7, .int 0)]) [3, 4, 5, 1, 0] rfl ?_
      obtain ⟨n9, h⟩ := h
      exact wk_X6_goesInto_167 X hr9 hlk9 n9 h
    · refine r_iconst (v := 0) X 160 dX6_goesInto_159 (by decide) rfl ?_
      exact r_zret X hr9 hlk9 isB_0 h dX6_goesInto_160
def j_X6_goesInto_140  (Q : Int32 → St → Prop) (v1 : Int32) (v4 : Int32) (σ : St) : Prop :=
  j_X6_goesInto_141 Q v1 v4 0 σ
theorem wk_X6_goesInto_140 (X : cx p s m args c cX6_goesInto 8 RX6 D (wM cI cZ a) A (tyW cI cZ cH)) (hr9 : meth.sig.returnType = (some .boolean)) (hlk9 : meth.locks = false)  {Q : Int32 → St → Prop} {v1 : Int32} {v4 : Int32} {σ : St} (h : j_X6_goesInto_140 Q v1 v4 σ) : go p l e rm_X6_goesInto s m args below meth c D (wM cI cZ a) A 0 0 (MQ below (va_Qi (fun r9 u9 => isB r9 ∧ Q r9 u9) (atw D (wM cI cZ a) (tyW cI cZ cH) A) A) args s 0 0 A) 8 140 [(0, .ref (a 0)), (1, .int v1), (4, .int v4)] [] σ := by
  delta j_X6_goesInto_140 at h
  refine r_iconst (v := 0) X 141 dX6_goesInto_140 (by decide) rfl ?_
  refine r_pick (lv' := [(0, .ref (a 0)), (1, .int v1), (4, .int v4)]) [0, 1, 2] rfl ?_
  exact wk_X6_goesInto_141 X hr9 hlk9 h
def j_X6_goesInto_136  (Q : Int32 → St → Prop) (v1 : Int32) (v4 : Int32) (σ : St) : Prop :=
  j_X6_goesInto_141 Q v1 v4 1 σ
theorem wk_X6_goesInto_136 (X : cx p s m args c cX6_goesInto 8 RX6 D (wM cI cZ a) A (tyW cI cZ cH)) (hr9 : meth.sig.returnType = (some .boolean)) (hlk9 : meth.locks = false)  {Q : Int32 → St → Prop} {v1 : Int32} {v4 : Int32} {σ : St} (h : j_X6_goesInto_136 Q v1 v4 σ) : go p l e rm_X6_goesInto s m args below meth c D (wM cI cZ a) A 0 0 (MQ below (va_Qi (fun r9 u9 => isB r9 ∧ Q r9 u9) (atw D (wM cI cZ a) (tyW cI cZ cH) A) A) args s 0 0 A) 8 136 [(0, .ref (a 0)), (1, .int v1), (4, .int v4)] [] σ := by
  delta j_X6_goesInto_136 at h
  refine r_iconst (v := 1) X 137 dX6_goesInto_136 (by decide) rfl ?_
  refine r_goto X 141 dX6_goesInto_137 rfl ?_
  refine r_pick (lv' := [(0, .ref (a 0)), (1, .int v1), (4, .int v4)]) [0, 1, 2] rfl ?_
  exact wk_X6_goesInto_141 X hr9 hlk9 h
def j_X6_goesInto_99  (Q : Int32 → St → Prop) (v1 : Int32) (v4 : Int32) (σ : St) : Prop :=
  vp_in v1 60 ∧
  (if (σ 9 (ix v1)) = 2 then
  (vp_in v4 60 ∧
  (if (σ 9 (ix v4)) = 2 then
  (vp_in v1 60 ∧
  (vp_in v4 60 ∧
  (if (σ 10 (ix v1)) = (σ 10 (ix v4)) then
  (j_X6_goesInto_136 Q v1 v4 σ)
  else (j_X6_goesInto_140 Q v1 v4 σ))))
  else (j_X6_goesInto_140 Q v1 v4 σ)))
  else (j_X6_goesInto_140 Q v1 v4 σ))
theorem wk_X6_goesInto_99 (X : cx p s m args c cX6_goesInto 8 RX6 D (wM cI cZ a) A (tyW cI cZ cH)) (hr9 : meth.sig.returnType = (some .boolean)) (hlk9 : meth.locks = false)  {Q : Int32 → St → Prop} {v1 : Int32} {v4 : Int32} {σ : St} (h : j_X6_goesInto_99 Q v1 v4 σ) : go p l e rm_X6_goesInto s m args below meth c D (wM cI cZ a) A 0 0 (MQ below (va_Qi (fun r9 u9 => isB r9 ∧ Q r9 u9) (atw D (wM cI cZ a) (tyW cI cZ cH) A) A) args s 0 0 A) 8 99 [(0, .ref (a 0)), (1, .int v1), (4, .int v4)] [] σ := by
  delta j_X6_goesInto_99 at h
  refine r_aload_n X 0 100 dX6_goesInto_99 rfl rfl rfl ?_
  refine g_X6_45 X 103 dX6_goesInto_100 rfl ?_
  refine r_iload_n X 1 104 dX6_goesInto_103 rfl rfl rfl ?_
  obtain ⟨hin, h⟩ := h
  refine l_M9 X 105 hin dX6_goesInto_104 rfl ?_
  refine r_iconst (v := 2) X 106 dX6_goesInto_105 (by decide) rfl ?_
  refine r_icmp_ne X 140 109 h dX6_goesInto_106 rfl rfl (fun h => ?_) (fun h => ?_)
  · refine r_pick (lv' := [(0, .ref (a 0)), (1, .int v1), (4, .int v4)]) [0, 1, 2] rfl ?_
    exact wk_X6_goesInto_140 X hr9 hlk9 h
  · refine r_aload_n X 0 110 dX6_goesInto_109 rfl rfl rfl ?_
    refine g_X6_45 X 113 dX6_goesInto_110 rfl ?_
    refine r_iload X 2 115 dX6_goesInto_113 rfl rfl ?_
    obtain ⟨hin, h⟩ := h
    refine l_M9 X 116 hin dX6_goesInto_115 rfl ?_
    refine r_iconst (v := 2) X 117 dX6_goesInto_116 (by decide) rfl ?_
    refine r_icmp_ne X 140 120 h dX6_goesInto_117 rfl rfl (fun h => ?_) (fun h => ?_)
    · refine r_pick (lv' := [(0, .ref (a 0)), (1, .int v1), (4, .int v4)]) [0, 1, 2] rfl ?_
      exact wk_X6_goesInto_140 X hr9 hlk9 h
    · refine r_aload_n X 0 121 dX6_goesInto_120 rfl rfl rfl ?_
      refine g_X6_48 X 124 dX6_goesInto_121 rfl ?_
      refine r_iload_n X 1 125 dX6_goesInto_124 rfl rfl rfl ?_
      obtain ⟨hin, h⟩ := h
      refine l_M10 X 126 hin dX6_goesInto_125 rfl ?_
      refine r_aload_n X 0 127 dX6_goesInto_126 rfl rfl rfl ?_
      refine g_X6_48 X 130 dX6_goesInto_127 rfl ?_
      refine r_iload X 2 132 dX6_goesInto_130 rfl rfl ?_
      obtain ⟨hin, h⟩ := h
      refine l_M10 X 133 hin dX6_goesInto_132 rfl ?_
      refine r_icmp_ne X 140 136 h dX6_goesInto_133 rfl rfl (fun h => ?_) (fun h => ?_)
      · refine r_pick (lv' := [(0, .ref (a 0)), (1, .int v1), (4, .int v4)]) [0, 1, 2] rfl ?_
        exact wk_X6_goesInto_140 X hr9 hlk9 h
      · refine r_pick (lv' := [(0, .ref (a 0)), (1, .int v1), (4, .int v4)]) [0, 1, 2] rfl ?_
        exact wk_X6_goesInto_136 X hr9 hlk9 h
def j_X6_goesInto_70  (Q : Int32 → St → Prop) (v1 : Int32) (v4 : Int32) (s0 : Int32) (s1 : Int32) (s2 : Int32) (σ : St) : Prop :=
  wp_X6_hasKeepers σ s2 s1 s0 (fun y8 σ7 =>
  if y8 = 0 then
  (Q 0 σ7)
  else (vp_in v1 60 ∧
  (if (σ7 9 (ix v1)) = 1 then
  (vp_in v4 60 ∧
  (if (σ7 9 (ix v4)) = 1 then
  (j_X6_goesInto_136 Q v1 v4 σ7)
  else (j_X6_goesInto_99 Q v1 v4 σ7)))
  else (j_X6_goesInto_99 Q v1 v4 σ7))))
theorem wk_X6_goesInto_70 (X : cx p s m args c cX6_goesInto 8 RX6 D (wM cI cZ a) A (tyW cI cZ cH)) (hr9 : meth.sig.returnType = (some .boolean)) (hlk9 : meth.locks = false)  {Q : Int32 → St → Prop} {v1 : Int32} {v4 : Int32} {s0 : Int32} {s1 : Int32} {s2 : Int32} {σ : St} (h : j_X6_goesInto_70 Q v1 v4 s0 s1 s2 σ) : go p l e rm_X6_goesInto s m args below meth c D (wM cI cZ a) A 0 0 (MQ below (va_Qi (fun r9 u9 => isB r9 ∧ Q r9 u9) (atw D (wM cI cZ a) (tyW cI cZ cH) A) A) args s 0 0 A) 8 70 [(0, .ref (a 0)), (1, .int v1), (4, .int v4)] [.int s0, .int s1, .int s2, .ref (a 0)] σ := by
  delta j_X6_goesInto_70 at h
  refine r_callI (As := [.int s2, .int s1, .int s0]) (rest := []) X 73 (c_X6_hasKeepers h) ml_X6_139 lk_X6_hasKeepers wM_at_0 rfl rfl rfl (Nat.le_of_ble_eq_true rfl) ⟨rfl, rfl, ⟨Nat.le_of_ble_eq_true rfl, Nat.le_of_ble_eq_true rfl⟩, Nat.le_of_ble_eq_true rfl, Nat.le_of_ble_eq_true rfl⟩ dX6_goesInto_70 rfl (fun y8 σ7 h => ?_)
  obtain ⟨hb_y8, h⟩ := h
  refine r_if_ne X 78 76 h dX6_goesInto_73 rfl rfl (fun h => ?_) (fun h => ?_)
  · refine r_aload_n X 0 79 dX6_goesInto_78 rfl rfl rfl ?_
    refine g_X6_45 X 82 dX6_goesInto_79 rfl ?_
    refine r_iload_n X 1 83 dX6_goesInto_82 rfl rfl rfl ?_
    obtain ⟨hin, h⟩ := h
    refine l_M9 X 84 hin dX6_goesInto_83 rfl ?_
    refine r_iconst (v := 1) X 85 dX6_goesInto_84 (by decide) rfl ?_
    refine r_icmp_ne X 99 88 h dX6_goesInto_85 rfl rfl (fun h => ?_) (fun h => ?_)
    · refine r_pick (lv' := [(0, .ref (a 0)), (1, .int v1), (4, .int v4)]) [0, 1, 2] rfl ?_
      exact wk_X6_goesInto_99 X hr9 hlk9 h
    · refine r_aload_n X 0 89 dX6_goesInto_88 rfl rfl rfl ?_
      refine g_X6_45 X 92 dX6_goesInto_89 rfl ?_
      refine r_iload X 2 94 dX6_goesInto_92 rfl rfl ?_
      obtain ⟨hin, h⟩ := h
      refine l_M9 X 95 hin dX6_goesInto_94 rfl ?_
      refine r_iconst (v := 1) X 96 dX6_goesInto_95 (by decide) rfl ?_
      refine r_icmp_eq X 136 99 h dX6_goesInto_96 rfl rfl (fun h => ?_) (fun h => ?_)
      · refine r_pick (lv' := [(0, .ref (a 0)), (1, .int v1), (4, .int v4)]) [0, 1, 2] rfl ?_
        exact wk_X6_goesInto_136 X hr9 hlk9 h
      · refine r_pick (lv' := [(0, .ref (a 0)), (1, .int v1), (4, .int v4)]) [0, 1, 2] rfl ?_
        exact wk_X6_goesInto_99 X hr9 hlk9 h
  · refine r_iconst (v := 0) X 77 dX6_goesInto_76 (by decide) rfl ?_
    exact r_zret X hr9 hlk9 isB_0 h dX6_goesInto_77
def j_X6_goesInto_65  (Q : Int32 → St → Prop) (v1 : Int32) (v4 : Int32) (s0 : Int32) (s1 : Int32) (σ : St) : Prop :=
  j_X6_goesInto_70 Q v1 v4 1 s0 s1 σ
theorem wk_X6_goesInto_65 (X : cx p s m args c cX6_goesInto 8 RX6 D (wM cI cZ a) A (tyW cI cZ cH)) (hr9 : meth.sig.returnType = (some .boolean)) (hlk9 : meth.locks = false)  {Q : Int32 → St → Prop} {v1 : Int32} {v4 : Int32} {s0 : Int32} {s1 : Int32} {σ : St} (h : j_X6_goesInto_65 Q v1 v4 s0 s1 σ) : go p l e rm_X6_goesInto s m args below meth c D (wM cI cZ a) A 0 0 (MQ below (va_Qi (fun r9 u9 => isB r9 ∧ Q r9 u9) (atw D (wM cI cZ a) (tyW cI cZ cH) A) A) args s 0 0 A) 8 65 [(0, .ref (a 0)), (1, .int v1), (4, .int v4)] [.int s0, .int s1, .ref (a 0)] σ := by
  delta j_X6_goesInto_65 at h
  refine r_iconst (v := 1) X 66 dX6_goesInto_65 (by decide) rfl ?_
  refine r_goto X 70 dX6_goesInto_66 rfl ?_
  refine r_pick (lv' := [(0, .ref (a 0)), (1, .int v1), (4, .int v4)]) [0, 1, 2] rfl ?_
  exact wk_X6_goesInto_70 X hr9 hlk9 h
def wp_X6_goesInto  (σ : St) (x1 : Int32) (x2 : Int32) (x3 : Int32) (x4 : Int32) (Q : Int32 → St → Prop) : Prop :=
  wp_X6_isKept σ x4 (fun y2 σ1 =>
  if y2 = 0 then
  (Q 0 σ1)
  else (wp_X6_isBag σ1 x4 (fun y4 σ3 =>
  if y4 = 0 then
  (Q 0 σ3)
  else (vp_in x4 60 ∧
  (if (σ3 12 (ix x4)) = (-1) then
  (wp_X6_isWithin σ3 x4 x1 (fun y6 σ5 =>
  if y6 = 0 then
  (vp_in x1 60 ∧
  (if (σ5 4 (ix x1)) = 5 then
  (j_X6_goesInto_65 Q x1 x4 x3 x2 σ5)
  else (vp_in x4 60 ∧
  (if (σ5 4 (ix x4)) = 5 then
  (j_X6_goesInto_65 Q x1 x4 x3 x2 σ5)
  else (j_X6_goesInto_70 Q x1 x4 0 x3 x2 σ5)))))
  else (Q 0 σ5)))
  else (Q 0 σ3))))))
theorem c_X6_goesInto  {σ : St} {x1 : Int32} {x2 : Int32} {x3 : Int32} {x4 : Int32} {Q : Int32 → St → Prop} (h : wp_X6_goesInto σ x1 x2 x3 x4 Q) : ctI l yX6_goesInto cX6_goesInto 8 (some .boolean) rm_X6_goesInto D (wM cI cZ a) (tyW cI cZ cH) [.ref (a 0), .int x1, .int x2, .int x3, .int x4] σ (fun r9 u9 => isB r9 ∧ Q r9 u9) := by
  refine mk_I (wM_ok cI cZ a) (by decide +kernel) (Nat.le_of_ble_eq_true rfl) (fun p e s m args below meth c A X hr9 hlk9 => ?_)
  refine r_pick (lv' := [(0, .ref (a 0)), (1, .int x1), (2, .int x2), (3, .int x3), (4, .int x4)]) [0, 1, 2, 3, 4] rfl ?_
  delta wp_X6_goesInto at h
  refine r_aload_n X 0 1 dX6_goesInto_0 rfl rfl rfl ?_
  refine r_iload X 4 3 dX6_goesInto_1 rfl rfl ?_
  refine r_callI (As := [.int x4]) (rest := []) X 6 (c_X6_isKept h) ml_X6_113 lk_X6_isKept wM_at_0 rfl rfl rfl (Nat.le_of_ble_eq_true rfl) ⟨rfl, rfl, ⟨Nat.le_of_ble_eq_true rfl, Nat.le_of_ble_eq_true rfl⟩, Nat.le_of_ble_eq_true rfl, Nat.le_of_ble_eq_true rfl⟩ dX6_goesInto_3 rfl (fun y2 σ1 h => ?_)
  obtain ⟨hb_y2, h⟩ := h
  refine r_if_eq X 39 9 h dX6_goesInto_6 rfl rfl (fun h => ?_) (fun h => ?_)
  · refine r_iconst (v := 0) X 40 dX6_goesInto_39 (by decide) rfl ?_
    exact r_zret X hr9 hlk9 isB_0 h dX6_goesInto_40
  · refine r_aload_n X 0 10 dX6_goesInto_9 rfl rfl rfl ?_
    refine r_iload X 4 12 dX6_goesInto_10 rfl rfl ?_
    refine r_callI (As := [.int x4]) (rest := []) X 15 (c_X6_isBag h) ml_X6_162 lk_X6_isBag wM_at_0 rfl rfl rfl (Nat.le_of_ble_eq_true rfl) ⟨rfl, rfl, ⟨Nat.le_of_ble_eq_true rfl, Nat.le_of_ble_eq_true rfl⟩, Nat.le_of_ble_eq_true rfl, Nat.le_of_ble_eq_true rfl⟩ dX6_goesInto_12 rfl (fun y4 σ3 h => ?_)
    obtain ⟨hb_y4, h⟩ := h
    refine r_if_eq X 39 18 h dX6_goesInto_15 rfl rfl (fun h => ?_) (fun h => ?_)
    · refine r_iconst (v := 0) X 40 dX6_goesInto_39 (by decide) rfl ?_
      exact r_zret X hr9 hlk9 isB_0 h dX6_goesInto_40
    · refine r_aload_n X 0 19 dX6_goesInto_18 rfl rfl rfl ?_
      refine g_X6_54 X 22 dX6_goesInto_19 rfl ?_
      refine r_iload X 4 24 dX6_goesInto_22 rfl rfl ?_
      obtain ⟨hin, h⟩ := h
      refine l_M12 X 25 hin dX6_goesInto_24 rfl ?_
      refine r_iconst (v := (-1)) X 26 dX6_goesInto_25 (by decide) rfl ?_
      refine r_icmp_ne X 39 29 h dX6_goesInto_26 rfl rfl (fun h => ?_) (fun h => ?_)
      · refine r_iconst (v := 0) X 40 dX6_goesInto_39 (by decide) rfl ?_
        exact r_zret X hr9 hlk9 isB_0 h dX6_goesInto_40
      · refine r_aload_n X 0 30 dX6_goesInto_29 rfl rfl rfl ?_
        refine r_iload X 4 32 dX6_goesInto_30 rfl rfl ?_
        refine r_iload_n X 1 33 dX6_goesInto_32 rfl rfl rfl ?_
        refine r_callI (As := [.int x4, .int x1]) (rest := []) X 36 (c_X6_isWithin h) ml_X6_165 lk_X6_isWithin wM_at_0 rfl rfl rfl (Nat.le_of_ble_eq_true rfl) ⟨rfl, rfl, ⟨Nat.le_of_ble_eq_true rfl, Nat.le_of_ble_eq_true rfl⟩, Nat.le_of_ble_eq_true rfl, Nat.le_of_ble_eq_true rfl⟩ dX6_goesInto_33 rfl (fun y6 σ5 h => ?_)
        obtain ⟨hb_y6, h⟩ := h
        refine r_if_eq X 41 39 h dX6_goesInto_36 rfl rfl (fun h => ?_) (fun h => ?_)
        · refine r_aload_n X 0 42 dX6_goesInto_41 rfl rfl rfl ?_
          refine r_iload_n X 2 43 dX6_goesInto_42 rfl rfl rfl ?_
          refine r_iload_n X 3 44 dX6_goesInto_43 rfl rfl rfl ?_
          refine r_aload_n X 0 45 dX6_goesInto_44 rfl rfl rfl ?_
          refine g_X6_24 X 48 dX6_goesInto_45 rfl ?_
          refine r_iload_n X 1 49 dX6_goesInto_48 rfl rfl rfl ?_
          obtain ⟨hin, h⟩ := h
          refine l_M4 X 50 hin dX6_goesInto_49 rfl ?_
          refine r_iconst (v := 5) X 51 dX6_goesInto_50 (by decide) rfl ?_
          refine r_icmp_eq X 65 54 h dX6_goesInto_51 rfl rfl (fun h => ?_) (fun h => ?_)
          · refine r_pick (lv' := [(0, .ref (a 0)), (1, .int x1), (4, .int x4)]) [0, 1, 4] rfl ?_
            exact wk_X6_goesInto_65 X hr9 hlk9 h
          · refine r_aload_n X 0 55 dX6_goesInto_54 rfl rfl rfl ?_
            refine g_X6_24 X 58 dX6_goesInto_55 rfl ?_
            refine r_iload X 4 60 dX6_goesInto_58 rfl rfl ?_
            obtain ⟨hin, h⟩ := h
            refine l_M4 X 61 hin dX6_goesInto_60 rfl ?_
            refine r_iconst (v := 5) X 62 dX6_goesInto_61 (by decide) rfl ?_
            refine r_icmp_ne X 69 65 h dX6_goesInto_62 rfl rfl (fun h => ?_) (fun h => ?_)
            · refine r_iconst (v := 0) X 70 dX6_goesInto_69 (by decide) rfl ?_
              refine r_pick (lv' := [(0, .ref (a 0)), (1, .int x1), (4, .int x4)]) [0, 1, 4] rfl ?_
              exact wk_X6_goesInto_70 X hr9 hlk9 h
            · refine r_pick (lv' := [(0, .ref (a 0)), (1, .int x1), (4, .int x4)]) [0, 1, 4] rfl ?_
              exact wk_X6_goesInto_65 X hr9 hlk9 h
        · refine r_iconst (v := 0) X 40 dX6_goesInto_39 (by decide) rfl ?_
          exact r_zret X hr9 hlk9 isB_0 h dX6_goesInto_40
def rm_X6_goesFrom : Room := { frames := 3, cells := 0, slots := 0, locals := 66 }
theorem dX6_goesFrom_0 : decode cX6_goesFrom 0 = .ok (.aload_n 0, 1) := by decide +kernel
theorem dX6_goesFrom_1 : decode cX6_goesFrom 1 = .ok (.getfield 45, 3) := by decide +kernel
theorem dX6_goesFrom_4 : decode cX6_goesFrom 4 = .ok (.iload_n 1, 1) := by decide +kernel
theorem dX6_goesFrom_5 : decode cX6_goesFrom 5 = .ok (.iaload, 1) := by decide +kernel
theorem dX6_goesFrom_6 : decode cX6_goesFrom 6 = .ok (.iconst 3, 1) := by decide +kernel
theorem dX6_goesFrom_7 : decode cX6_goesFrom 7 = .ok (.if_icmp .eq 5, 3) := by decide +kernel
theorem dX6_goesFrom_10 : decode cX6_goesFrom 10 = .ok (.iconst 0, 1) := by decide +kernel
theorem dX6_goesFrom_11 : decode cX6_goesFrom 11 = .ok (.ireturn, 1) := by decide +kernel
theorem dX6_goesFrom_12 : decode cX6_goesFrom 12 = .ok (.aload_n 0, 1) := by decide +kernel
theorem dX6_goesFrom_13 : decode cX6_goesFrom 13 = .ok (.getfield 48, 3) := by decide +kernel
theorem dX6_goesFrom_16 : decode cX6_goesFrom 16 = .ok (.iload_n 1, 1) := by decide +kernel
theorem dX6_goesFrom_17 : decode cX6_goesFrom 17 = .ok (.iaload, 1) := by decide +kernel
theorem dX6_goesFrom_18 : decode cX6_goesFrom 18 = .ok (.istore 5, 2) := by decide +kernel
theorem dX6_goesFrom_20 : decode cX6_goesFrom 20 = .ok (.aload_n 0, 1) := by decide +kernel
theorem dX6_goesFrom_21 : decode cX6_goesFrom 21 = .ok (.getfield 54, 3) := by decide +kernel
theorem dX6_goesFrom_24 : decode cX6_goesFrom 24 = .ok (.iload 5, 2) := by decide +kernel
theorem dX6_goesFrom_26 : decode cX6_goesFrom 26 = .ok (.iaload, 1) := by decide +kernel
theorem dX6_goesFrom_27 : decode cX6_goesFrom 27 = .ok (.iconst (-1), 1) := by decide +kernel
theorem dX6_goesFrom_28 : decode cX6_goesFrom 28 = .ok (.if_icmp .ne 49, 3) := by decide +kernel
theorem dX6_goesFrom_31 : decode cX6_goesFrom 31 = .ok (.aload_n 0, 1) := by decide +kernel
theorem dX6_goesFrom_32 : decode cX6_goesFrom 32 = .ok (.getfield 45, 3) := by decide +kernel
theorem dX6_goesFrom_35 : decode cX6_goesFrom 35 = .ok (.iload 5, 2) := by decide +kernel
theorem dX6_goesFrom_37 : decode cX6_goesFrom 37 = .ok (.iaload, 1) := by decide +kernel
theorem dX6_goesFrom_38 : decode cX6_goesFrom 38 = .ok (.iconst 3, 1) := by decide +kernel
theorem dX6_goesFrom_39 : decode cX6_goesFrom 39 = .ok (.if_icmp .eq 38, 3) := by decide +kernel
theorem dX6_goesFrom_42 : decode cX6_goesFrom 42 = .ok (.aload_n 0, 1) := by decide +kernel
theorem dX6_goesFrom_43 : decode cX6_goesFrom 43 = .ok (.iload_n 2, 1) := by decide +kernel
theorem dX6_goesFrom_44 : decode cX6_goesFrom 44 = .ok (.iload_n 3, 1) := by decide +kernel
theorem dX6_goesFrom_45 : decode cX6_goesFrom 45 = .ok (.aload_n 0, 1) := by decide +kernel
theorem dX6_goesFrom_46 : decode cX6_goesFrom 46 = .ok (.getfield 24, 3) := by decide +kernel
theorem dX6_goesFrom_49 : decode cX6_goesFrom 49 = .ok (.iload_n 1, 1) := by decide +kernel
theorem dX6_goesFrom_50 : decode cX6_goesFrom 50 = .ok (.iaload, 1) := by decide +kernel
theorem dX6_goesFrom_51 : decode cX6_goesFrom 51 = .ok (.iconst 5, 1) := by decide +kernel
theorem dX6_goesFrom_52 : decode cX6_goesFrom 52 = .ok (.if_icmp .eq 14, 3) := by decide +kernel
theorem dX6_goesFrom_55 : decode cX6_goesFrom 55 = .ok (.aload_n 0, 1) := by decide +kernel
theorem dX6_goesFrom_56 : decode cX6_goesFrom 56 = .ok (.getfield 24, 3) := by decide +kernel
theorem dX6_goesFrom_59 : decode cX6_goesFrom 59 = .ok (.iload 5, 2) := by decide +kernel
theorem dX6_goesFrom_61 : decode cX6_goesFrom 61 = .ok (.iaload, 1) := by decide +kernel
theorem dX6_goesFrom_62 : decode cX6_goesFrom 62 = .ok (.iconst 5, 1) := by decide +kernel
theorem dX6_goesFrom_63 : decode cX6_goesFrom 63 = .ok (.if_icmp .ne 7, 3) := by decide +kernel
theorem dX6_goesFrom_66 : decode cX6_goesFrom 66 = .ok (.iconst 1, 1) := by decide +kernel
theorem dX6_goesFrom_67 : decode cX6_goesFrom 67 = .ok (.goto 4, 3) := by decide +kernel
theorem dX6_goesFrom_70 : decode cX6_goesFrom 70 = .ok (.iconst 0, 1) := by decide +kernel
theorem dX6_goesFrom_71 : decode cX6_goesFrom 71 = .ok (.invokevirtual 139, 3) := by decide +kernel
theorem dX6_goesFrom_74 : decode cX6_goesFrom 74 = .ok (.ifCond .ne 5, 3) := by decide +kernel
theorem dX6_goesFrom_77 : decode cX6_goesFrom 77 = .ok (.iconst 0, 1) := by decide +kernel
theorem dX6_goesFrom_78 : decode cX6_goesFrom 78 = .ok (.ireturn, 1) := by decide +kernel
theorem dX6_goesFrom_79 : decode cX6_goesFrom 79 = .ok (.aload_n 0, 1) := by decide +kernel
theorem dX6_goesFrom_80 : decode cX6_goesFrom 80 = .ok (.getfield 45, 3) := by decide +kernel
theorem dX6_goesFrom_83 : decode cX6_goesFrom 83 = .ok (.iload 5, 2) := by decide +kernel
theorem dX6_goesFrom_85 : decode cX6_goesFrom 85 = .ok (.iaload, 1) := by decide +kernel
theorem dX6_goesFrom_86 : decode cX6_goesFrom 86 = .ok (.iconst 2, 1) := by decide +kernel
theorem dX6_goesFrom_87 : decode cX6_goesFrom 87 = .ok (.if_icmp .ne 18, 3) := by decide +kernel
theorem dX6_goesFrom_90 : decode cX6_goesFrom 90 = .ok (.aload_n 0, 1) := by decide +kernel
theorem dX6_goesFrom_91 : decode cX6_goesFrom 91 = .ok (.iload_n 1, 1) := by decide +kernel
theorem dX6_goesFrom_92 : decode cX6_goesFrom 92 = .ok (.iconst 2, 1) := by decide +kernel
theorem dX6_goesFrom_93 : decode cX6_goesFrom 93 = .ok (.aload_n 0, 1) := by decide +kernel
theorem dX6_goesFrom_94 : decode cX6_goesFrom 94 = .ok (.getfield 48, 3) := by decide +kernel
theorem dX6_goesFrom_97 : decode cX6_goesFrom 97 = .ok (.iload 5, 2) := by decide +kernel
theorem dX6_goesFrom_99 : decode cX6_goesFrom 99 = .ok (.iaload, 1) := by decide +kernel
theorem dX6_goesFrom_100 : decode cX6_goesFrom 100 = .ok (.invokevirtual 150, 3) := by decide +kernel
theorem dX6_goesFrom_103 : decode cX6_goesFrom 103 = .ok (.iconst 1, 1) := by decide +kernel
theorem dX6_goesFrom_104 : decode cX6_goesFrom 104 = .ok (.ireturn, 1) := by decide +kernel
theorem dX6_goesFrom_105 : decode cX6_goesFrom 105 = .ok (.aload_n 0, 1) := by decide +kernel
theorem dX6_goesFrom_106 : decode cX6_goesFrom 106 = .ok (.iload_n 1, 1) := by decide +kernel
theorem dX6_goesFrom_107 : decode cX6_goesFrom 107 = .ok (.iload 4, 2) := by decide +kernel
theorem dX6_goesFrom_109 : decode cX6_goesFrom 109 = .ok (.invokevirtual 146, 3) := by decide +kernel
theorem dX6_goesFrom_112 : decode cX6_goesFrom 112 = .ok (.ifCond .ne 5, 3) := by decide +kernel
theorem dX6_goesFrom_115 : decode cX6_goesFrom 115 = .ok (.iconst 0, 1) := by decide +kernel
theorem dX6_goesFrom_116 : decode cX6_goesFrom 116 = .ok (.ireturn, 1) := by decide +kernel
theorem dX6_goesFrom_117 : decode cX6_goesFrom 117 = .ok (.aload_n 0, 1) := by decide +kernel
theorem dX6_goesFrom_118 : decode cX6_goesFrom 118 = .ok (.iload_n 1, 1) := by decide +kernel
theorem dX6_goesFrom_119 : decode cX6_goesFrom 119 = .ok (.iconst 1, 1) := by decide +kernel
theorem dX6_goesFrom_120 : decode cX6_goesFrom 120 = .ok (.iload 4, 2) := by decide +kernel
theorem dX6_goesFrom_122 : decode cX6_goesFrom 122 = .ok (.invokevirtual 150, 3) := by decide +kernel
theorem dX6_goesFrom_125 : decode cX6_goesFrom 125 = .ok (.iconst 1, 1) := by decide +kernel
theorem dX6_goesFrom_126 : decode cX6_goesFrom 126 = .ok (.ireturn, 1) := by decide +kernel
def j_X6_goesFrom_71  (Q : Int32 → St → Prop) (v1 : Int32) (v4 : Int32) (v5 : Int32) (s0 : Int32) (s1 : Int32) (s2 : Int32) (σ : St) : Prop :=
  wp_X6_hasKeepers σ s2 s1 s0 (fun y3 σ2 =>
  if y3 = 0 then
  (Q 0 σ2)
  else (vp_in v5 60 ∧
  (if (σ2 9 (ix v5)) = 2 then
  (vp_in v5 60 ∧
  (wp_X6_go σ2 v1 2 (σ2 10 (ix v5)) (fun σ7 =>
  Q 1 σ7)))
  else (wp_X6_fits σ2 v1 v4 (fun y5 σ4 =>
  if y5 = 0 then
  (Q 0 σ4)
  else (wp_X6_go σ4 v1 1 v4 (fun σ6 =>
  Q 1 σ6)))))))
theorem wk_X6_goesFrom_71 (X : cx p s m args c cX6_goesFrom 6 RX6 D (wM cI cZ a) A (tyW cI cZ cH)) (hr9 : meth.sig.returnType = (some .boolean)) (hlk9 : meth.locks = false)  {Q : Int32 → St → Prop} {v1 : Int32} {v4 : Int32} {v5 : Int32} {s0 : Int32} {s1 : Int32} {s2 : Int32} {σ : St} (h : j_X6_goesFrom_71 Q v1 v4 v5 s0 s1 s2 σ) : go p l e rm_X6_goesFrom s m args below meth c D (wM cI cZ a) A 0 0 (MQ below (va_Qi (fun r9 u9 => isB r9 ∧ Q r9 u9) (atw D (wM cI cZ a) (tyW cI cZ cH) A) A) args s 0 0 A) 6 71 [(0, .ref (a 0)), (1, .int v1), (4, .int v4), (5, .int v5)] [.int s0, .int s1, .int s2, .ref (a 0)] σ := by
  delta j_X6_goesFrom_71 at h
  refine r_callI (As := [.int s2, .int s1, .int s0]) (rest := []) X 74 (c_X6_hasKeepers h) ml_X6_139 lk_X6_hasKeepers wM_at_0 rfl rfl rfl (Nat.le_of_ble_eq_true rfl) ⟨rfl, rfl, ⟨Nat.le_of_ble_eq_true rfl, Nat.le_of_ble_eq_true rfl⟩, Nat.le_of_ble_eq_true rfl, Nat.le_of_ble_eq_true rfl⟩ dX6_goesFrom_71 rfl (fun y3 σ2 h => ?_)
  obtain ⟨hb_y3, h⟩ := h
  refine r_if_ne X 79 77 h dX6_goesFrom_74 rfl rfl (fun h => ?_) (fun h => ?_)
  · refine r_aload_n X 0 80 dX6_goesFrom_79 rfl rfl rfl ?_
    refine g_X6_45 X 83 dX6_goesFrom_80 rfl ?_
    refine r_iload X 3 85 dX6_goesFrom_83 rfl rfl ?_
    obtain ⟨hin, h⟩ := h
    refine l_M9 X 86 hin dX6_goesFrom_85 rfl ?_
    refine r_iconst (v := 2) X 87 dX6_goesFrom_86 (by decide) rfl ?_
    refine r_icmp_ne X 105 90 h dX6_goesFrom_87 rfl rfl (fun h => ?_) (fun h => ?_)
    · refine r_aload_n X 0 106 dX6_goesFrom_105 rfl rfl rfl ?_
      refine r_iload_n X 1 107 dX6_goesFrom_106 rfl rfl rfl ?_
      refine r_iload X 2 109 dX6_goesFrom_107 rfl rfl ?_
      refine r_callI (As := [.int v1, .int v4]) (rest := []) X 112 (c_X6_fits h) ml_X6_146 lk_X6_fits wM_at_0 rfl rfl rfl (Nat.le_of_ble_eq_true rfl) ⟨rfl, rfl, ⟨Nat.le_of_ble_eq_true rfl, Nat.le_of_ble_eq_true rfl⟩, Nat.le_of_ble_eq_true rfl, Nat.le_of_ble_eq_true rfl⟩ dX6_goesFrom_109 rfl (fun y5 σ4 h => ?_)
      obtain ⟨hb_y5, h⟩ := h
      refine r_if_ne X 117 115 h dX6_goesFrom_112 rfl rfl (fun h => ?_) (fun h => ?_)
      · refine r_aload_n X 0 118 dX6_goesFrom_117 rfl rfl rfl ?_
        refine r_iload_n X 1 119 dX6_goesFrom_118 rfl rfl rfl ?_
        refine r_iconst (v := 1) X 120 dX6_goesFrom_119 (by decide) rfl ?_
        refine r_iload X 2 122 dX6_goesFrom_120 rfl rfl ?_
        refine r_callV (As := [.int v1, .int 1, .int v4]) (rest := []) X 125 (c_X6_go h) ml_X6_150 lk_X6_go wM_at_0 rfl rfl rfl (Nat.le_of_ble_eq_true rfl) ⟨rfl, rfl, ⟨Nat.le_of_ble_eq_true rfl, Nat.le_of_ble_eq_true rfl⟩, Nat.le_of_ble_eq_true rfl, Nat.le_of_ble_eq_true rfl⟩ dX6_goesFrom_122 rfl (fun σ6 h => ?_)
        refine r_iconst (v := 1) X 126 dX6_goesFrom_125 (by decide) rfl ?_
        exact r_zret X hr9 hlk9 isB_1 h dX6_goesFrom_126
      · refine r_iconst (v := 0) X 116 dX6_goesFrom_115 (by decide) rfl ?_
        exact r_zret X hr9 hlk9 isB_0 h dX6_goesFrom_116
    · refine r_aload_n X 0 91 dX6_goesFrom_90 rfl rfl rfl ?_
      refine r_iload_n X 1 92 dX6_goesFrom_91 rfl rfl rfl ?_
      refine r_iconst (v := 2) X 93 dX6_goesFrom_92 (by decide) rfl ?_
      refine r_aload_n X 0 94 dX6_goesFrom_93 rfl rfl rfl ?_
      refine g_X6_48 X 97 dX6_goesFrom_94 rfl ?_
      refine r_iload X 3 99 dX6_goesFrom_97 rfl rfl ?_
      obtain ⟨hin, h⟩ := h
      refine l_M10 X 100 hin dX6_goesFrom_99 rfl ?_
      refine r_callV (As := [.int v1, .int 2, .int (σ2 10 (ix v5))]) (rest := []) X 103 (c_X6_go h) ml_X6_150 lk_X6_go wM_at_0 rfl rfl rfl (Nat.le_of_ble_eq_true rfl) ⟨rfl, rfl, ⟨Nat.le_of_ble_eq_true rfl, Nat.le_of_ble_eq_true rfl⟩, Nat.le_of_ble_eq_true rfl, Nat.le_of_ble_eq_true rfl⟩ dX6_goesFrom_100 rfl (fun σ7 h => ?_)
      refine r_iconst (v := 1) X 104 dX6_goesFrom_103 (by decide) rfl ?_
      exact r_zret X hr9 hlk9 isB_1 h dX6_goesFrom_104
  · refine r_iconst (v := 0) X 78 dX6_goesFrom_77 (by decide) rfl ?_
    exact r_zret X hr9 hlk9 isB_0 h dX6_goesFrom_78
def j_X6_goesFrom_66  (Q : Int32 → St → Prop) (v1 : Int32) (v4 : Int32) (v5 : Int32) (s0 : Int32) (s1 : Int32) (σ : St) : Prop :=
  j_X6_goesFrom_71 Q v1 v4 v5 1 s0 s1 σ
theorem wk_X6_goesFrom_66 (X : cx p s m args c cX6_goesFrom 6 RX6 D (wM cI cZ a) A (tyW cI cZ cH)) (hr9 : meth.sig.returnType = (some .boolean)) (hlk9 : meth.locks = false)  {Q : Int32 → St → Prop} {v1 : Int32} {v4 : Int32} {v5 : Int32} {s0 : Int32} {s1 : Int32} {σ : St} (h : j_X6_goesFrom_66 Q v1 v4 v5 s0 s1 σ) : go p l e rm_X6_goesFrom s m args below meth c D (wM cI cZ a) A 0 0 (MQ below (va_Qi (fun r9 u9 => isB r9 ∧ Q r9 u9) (atw D (wM cI cZ a) (tyW cI cZ cH) A) A) args s 0 0 A) 6 66 [(0, .ref (a 0)), (1, .int v1), (4, .int v4), (5, .int v5)] [.int s0, .int s1, .ref (a 0)] σ := by
  delta j_X6_goesFrom_66 at h
  refine r_iconst (v := 1) X 67 dX6_goesFrom_66 (by decide) rfl ?_
  refine r_goto X 71 dX6_goesFrom_67 rfl ?_
  refine r_pick (lv' := [(0, .ref (a 0)), (1, .int v1), (4, .int v4), (5, .int v5)]) [0, 1, 2, 3] rfl ?_
  exact wk_X6_goesFrom_71 X hr9 hlk9 h
def wp_X6_goesFrom  (σ : St) (x1 : Int32) (x2 : Int32) (x3 : Int32) (x4 : Int32) (Q : Int32 → St → Prop) : Prop :=
  vp_in x1 60 ∧
  (if (σ 9 (ix x1)) = 3 then
  (vp_in x1 60 ∧
  (nm ((σ 10 (ix x1))) (fun z1 =>
  vp_in z1 60 ∧
  (if (σ 12 (ix z1)) = (-1) then
  (vp_in z1 60 ∧
  (if (σ 9 (ix z1)) = 3 then
  (Q 0 σ)
  else (vp_in x1 60 ∧
  (if (σ 4 (ix x1)) = 5 then
  (j_X6_goesFrom_66 Q x1 x4 z1 x3 x2 σ)
  else (vp_in z1 60 ∧
  (if (σ 4 (ix z1)) = 5 then
  (j_X6_goesFrom_66 Q x1 x4 z1 x3 x2 σ)
  else (j_X6_goesFrom_71 Q x1 x4 z1 0 x3 x2 σ)))))))
  else (Q 0 σ)))))
  else (Q 0 σ))
theorem c_X6_goesFrom  {σ : St} {x1 : Int32} {x2 : Int32} {x3 : Int32} {x4 : Int32} {Q : Int32 → St → Prop} (h : wp_X6_goesFrom σ x1 x2 x3 x4 Q) : ctI l yX6_goesFrom cX6_goesFrom 6 (some .boolean) rm_X6_goesFrom D (wM cI cZ a) (tyW cI cZ cH) [.ref (a 0), .int x1, .int x2, .int x3, .int x4] σ (fun r9 u9 => isB r9 ∧ Q r9 u9) := by
  refine mk_I (wM_ok cI cZ a) (by decide +kernel) (Nat.le_of_ble_eq_true rfl) (fun p e s m args below meth c A X hr9 hlk9 => ?_)
  refine r_pick (lv' := [(0, .ref (a 0)), (1, .int x1), (2, .int x2), (3, .int x3), (4, .int x4)]) [0, 1, 2, 3, 4] rfl ?_
  delta wp_X6_goesFrom at h
  refine r_aload_n X 0 1 dX6_goesFrom_0 rfl rfl rfl ?_
  refine g_X6_45 X 4 dX6_goesFrom_1 rfl ?_
  refine r_iload_n X 1 5 dX6_goesFrom_4 rfl rfl rfl ?_
  obtain ⟨hin, h⟩ := h
  refine l_M9 X 6 hin dX6_goesFrom_5 rfl ?_
  refine r_iconst (v := 3) X 7 dX6_goesFrom_6 (by decide) rfl ?_
  refine r_icmp_eq X 12 10 h dX6_goesFrom_7 rfl rfl (fun h => ?_) (fun h => ?_)
  · refine r_aload_n X 0 13 dX6_goesFrom_12 rfl rfl rfl ?_
    refine g_X6_48 X 16 dX6_goesFrom_13 rfl ?_
    refine r_iload_n X 1 17 dX6_goesFrom_16 rfl rfl rfl ?_
    obtain ⟨hin, h⟩ := h
    refine l_M10 X 18 hin dX6_goesFrom_17 rfl ?_
    refine r_istoreN X 20 (fun z1 => [(5, .int z1), (0, .ref (a 0)), (1, .int x1), (2, .int x2), (3, .int x3), (4, .int x4)]) h dX6_goesFrom_18 (by decide) (fun _ => rfl) rfl (fun z1 h => ?_)
    refine r_aload_n X 1 21 dX6_goesFrom_20 rfl rfl rfl ?_
    refine g_X6_54 X 24 dX6_goesFrom_21 rfl ?_
    refine r_iload X 0 26 dX6_goesFrom_24 rfl rfl ?_
    obtain ⟨hin, h⟩ := h
    refine l_M12 X 27 hin dX6_goesFrom_26 rfl ?_
    refine r_iconst (v := (-1)) X 28 dX6_goesFrom_27 (by decide) rfl ?_
    refine r_icmp_ne X 77 31 h dX6_goesFrom_28 rfl rfl (fun h => ?_) (fun h => ?_)
    · refine r_iconst (v := 0) X 78 dX6_goesFrom_77 (by decide) rfl ?_
      exact r_zret X hr9 hlk9 isB_0 h dX6_goesFrom_78
    · refine r_aload_n X 1 32 dX6_goesFrom_31 rfl rfl rfl ?_
      refine g_X6_45 X 35 dX6_goesFrom_32 rfl ?_
      refine r_iload X 0 37 dX6_goesFrom_35 rfl rfl ?_
      obtain ⟨hin, h⟩ := h
      refine l_M9 X 38 hin dX6_goesFrom_37 rfl ?_
      refine r_iconst (v := 3) X 39 dX6_goesFrom_38 (by decide) rfl ?_
      refine r_icmp_eq X 77 42 h dX6_goesFrom_39 rfl rfl (fun h => ?_) (fun h => ?_)
      · refine r_iconst (v := 0) X 78 dX6_goesFrom_77 (by decide) rfl ?_
        exact r_zret X hr9 hlk9 isB_0 h dX6_goesFrom_78
      · refine r_aload_n X 1 43 dX6_goesFrom_42 rfl rfl rfl ?_
        refine r_iload_n X 3 44 dX6_goesFrom_43 rfl rfl rfl ?_
        refine r_iload_n X 4 45 dX6_goesFrom_44 rfl rfl rfl ?_
        refine r_aload_n X 1 46 dX6_goesFrom_45 rfl rfl rfl ?_
        refine g_X6_24 X 49 dX6_goesFrom_46 rfl ?_
        refine r_iload_n X 2 50 dX6_goesFrom_49 rfl rfl rfl ?_
        obtain ⟨hin, h⟩ := h
        refine l_M4 X 51 hin dX6_goesFrom_50 rfl ?_
        refine r_iconst (v := 5) X 52 dX6_goesFrom_51 (by decide) rfl ?_
        refine r_icmp_eq X 66 55 h dX6_goesFrom_52 rfl rfl (fun h => ?_) (fun h => ?_)
        · refine r_pick (lv' := [(0, .ref (a 0)), (1, .int x1), (4, .int x4), (5, .int z1)]) [1, 2, 5, 0] rfl ?_
          exact wk_X6_goesFrom_66 X hr9 hlk9 h
        · refine r_aload_n X 1 56 dX6_goesFrom_55 rfl rfl rfl ?_
          refine g_X6_24 X 59 dX6_goesFrom_56 rfl ?_
          refine r_iload X 0 61 dX6_goesFrom_59 rfl rfl ?_
          obtain ⟨hin, h⟩ := h
          refine l_M4 X 62 hin dX6_goesFrom_61 rfl ?_
          refine r_iconst (v := 5) X 63 dX6_goesFrom_62 (by decide) rfl ?_
          refine r_icmp_ne X 70 66 h dX6_goesFrom_63 rfl rfl (fun h => ?_) (fun h => ?_)
          · refine r_iconst (v := 0) X 71 dX6_goesFrom_70 (by decide) rfl ?_
            refine r_pick (lv' := [(0, .ref (a 0)), (1, .int x1), (4, .int x4), (5, .int z1)]) [1, 2, 5, 0] rfl ?_
            exact wk_X6_goesFrom_71 X hr9 hlk9 h
          · refine r_pick (lv' := [(0, .ref (a 0)), (1, .int x1), (4, .int x4), (5, .int z1)]) [1, 2, 5, 0] rfl ?_
            exact wk_X6_goesFrom_66 X hr9 hlk9 h
  · refine r_iconst (v := 0) X 11 dX6_goesFrom_10 (by decide) rfl ?_
    exact r_zret X hr9 hlk9 isB_0 h dX6_goesFrom_11
def rm_X6_moves : Room := { frames := 4, cells := 0, slots := 0, locals := 93 }
theorem dX6_moves_0 : decode cX6_moves 0 = .ok (.aload_n 0, 1) := by decide +kernel
theorem dX6_moves_1 : decode cX6_moves 1 = .ok (.getfield 24, 3) := by decide +kernel
theorem dX6_moves_4 : decode cX6_moves 4 = .ok (.iload_n 2, 1) := by decide +kernel
theorem dX6_moves_5 : decode cX6_moves 5 = .ok (.iaload, 1) := by decide +kernel
theorem dX6_moves_6 : decode cX6_moves 6 = .ok (.iconst 5, 1) := by decide +kernel
theorem dX6_moves_7 : decode cX6_moves 7 = .ok (.if_icmp .ne 7, 3) := by decide +kernel
theorem dX6_moves_10 : decode cX6_moves 10 = .ok (.iconst 1, 1) := by decide +kernel
theorem dX6_moves_11 : decode cX6_moves 11 = .ok (.goto 4, 3) := by decide +kernel
theorem dX6_moves_14 : decode cX6_moves 14 = .ok (.iconst 0, 1) := by decide +kernel
theorem dX6_moves_15 : decode cX6_moves 15 = .ok (.istore 7, 2) := by decide +kernel
theorem dX6_moves_17 : decode cX6_moves 17 = .ok (.aload_n 0, 1) := by decide +kernel
theorem dX6_moves_18 : decode cX6_moves 18 = .ok (.iload_n 3, 1) := by decide +kernel
theorem dX6_moves_19 : decode cX6_moves 19 = .ok (.iload 4, 2) := by decide +kernel
theorem dX6_moves_21 : decode cX6_moves 21 = .ok (.iload 7, 2) := by decide +kernel
theorem dX6_moves_23 : decode cX6_moves 23 = .ok (.invokevirtual 139, 3) := by decide +kernel
theorem dX6_moves_26 : decode cX6_moves 26 = .ok (.istore 8, 2) := by decide +kernel
theorem dX6_moves_28 : decode cX6_moves 28 = .ok (.iload_n 1, 1) := by decide +kernel
theorem dX6_moves_29 : decode cX6_moves 29 = .ok (.tableswitch 242 2 6 #[35, 90, 139, 194, 231], 35) := by decide +kernel
theorem dX6_moves_64 : decode cX6_moves 64 = .ok (.iload 8, 2) := by decide +kernel
theorem dX6_moves_66 : decode cX6_moves 66 = .ok (.ifCond .eq 33, 3) := by decide +kernel
theorem dX6_moves_69 : decode cX6_moves 69 = .ok (.aload_n 0, 1) := by decide +kernel
theorem dX6_moves_70 : decode cX6_moves 70 = .ok (.getfield 45, 3) := by decide +kernel
theorem dX6_moves_73 : decode cX6_moves 73 = .ok (.iload_n 2, 1) := by decide +kernel
theorem dX6_moves_74 : decode cX6_moves 74 = .ok (.iaload, 1) := by decide +kernel
theorem dX6_moves_75 : decode cX6_moves 75 = .ok (.iconst 1, 1) := by decide +kernel
theorem dX6_moves_76 : decode cX6_moves 76 = .ok (.if_icmp .ne 23, 3) := by decide +kernel
theorem dX6_moves_79 : decode cX6_moves 79 = .ok (.aload_n 0, 1) := by decide +kernel
theorem dX6_moves_80 : decode cX6_moves 80 = .ok (.iload 5, 2) := by decide +kernel
theorem dX6_moves_82 : decode cX6_moves 82 = .ok (.invokevirtual 143, 3) := by decide +kernel
theorem dX6_moves_85 : decode cX6_moves 85 = .ok (.ifCond .eq 14, 3) := by decide +kernel
theorem dX6_moves_88 : decode cX6_moves 88 = .ok (.iload 6, 2) := by decide +kernel
theorem dX6_moves_90 : decode cX6_moves 90 = .ok (.iconst 0, 1) := by decide +kernel
theorem dX6_moves_91 : decode cX6_moves 91 = .ok (.ldc 154, 2) := by decide +kernel
theorem dX6_moves_93 : decode cX6_moves 93 = .ok (.invokestatic 96, 3) := by decide +kernel
theorem dX6_moves_96 : decode cX6_moves 96 = .ok (.ifCond .ne 5, 3) := by decide +kernel
theorem dX6_moves_99 : decode cX6_moves 99 = .ok (.iconst 0, 1) := by decide +kernel
theorem dX6_moves_100 : decode cX6_moves 100 = .ok (.ireturn, 1) := by decide +kernel
theorem dX6_moves_101 : decode cX6_moves 101 = .ok (.aload_n 0, 1) := by decide +kernel
theorem dX6_moves_102 : decode cX6_moves 102 = .ok (.iload_n 2, 1) := by decide +kernel
theorem dX6_moves_103 : decode cX6_moves 103 = .ok (.iconst 2, 1) := by decide +kernel
theorem dX6_moves_104 : decode cX6_moves 104 = .ok (.iload 5, 2) := by decide +kernel
theorem dX6_moves_106 : decode cX6_moves 106 = .ok (.invokevirtual 150, 3) := by decide +kernel
theorem dX6_moves_109 : decode cX6_moves 109 = .ok (.aload_n 0, 1) := by decide +kernel
theorem dX6_moves_110 : decode cX6_moves 110 = .ok (.getfield 57, 3) := by decide +kernel
theorem dX6_moves_113 : decode cX6_moves 113 = .ok (.iload_n 2, 1) := by decide +kernel
theorem dX6_moves_114 : decode cX6_moves 114 = .ok (.iload 6, 2) := by decide +kernel
theorem dX6_moves_116 : decode cX6_moves 116 = .ok (.iastore, 1) := by decide +kernel
theorem dX6_moves_117 : decode cX6_moves 117 = .ok (.iconst 1, 1) := by decide +kernel
theorem dX6_moves_118 : decode cX6_moves 118 = .ok (.ireturn, 1) := by decide +kernel
theorem dX6_moves_119 : decode cX6_moves 119 = .ok (.aload_n 0, 1) := by decide +kernel
theorem dX6_moves_120 : decode cX6_moves 120 = .ok (.getfield 45, 3) := by decide +kernel
theorem dX6_moves_123 : decode cX6_moves 123 = .ok (.iload_n 2, 1) := by decide +kernel
theorem dX6_moves_124 : decode cX6_moves 124 = .ok (.iaload, 1) := by decide +kernel
theorem dX6_moves_125 : decode cX6_moves 125 = .ok (.iconst 2, 1) := by decide +kernel
theorem dX6_moves_126 : decode cX6_moves 126 = .ok (.if_icmp .ne 30, 3) := by decide +kernel
theorem dX6_moves_129 : decode cX6_moves 129 = .ok (.aload_n 0, 1) := by decide +kernel
theorem dX6_moves_130 : decode cX6_moves 130 = .ok (.getfield 48, 3) := by decide +kernel
theorem dX6_moves_133 : decode cX6_moves 133 = .ok (.iload_n 2, 1) := by decide +kernel
theorem dX6_moves_134 : decode cX6_moves 134 = .ok (.iaload, 1) := by decide +kernel
theorem dX6_moves_135 : decode cX6_moves 135 = .ok (.iload 5, 2) := by decide +kernel
theorem dX6_moves_137 : decode cX6_moves 137 = .ok (.if_icmp .ne 19, 3) := by decide +kernel
theorem dX6_moves_140 : decode cX6_moves 140 = .ok (.aload_n 0, 1) := by decide +kernel
theorem dX6_moves_141 : decode cX6_moves 141 = .ok (.iload 6, 2) := by decide +kernel
theorem dX6_moves_143 : decode cX6_moves 143 = .ok (.invokevirtual 143, 3) := by decide +kernel
theorem dX6_moves_146 : decode cX6_moves 146 = .ok (.ifCond .eq 10, 3) := by decide +kernel
theorem dX6_moves_149 : decode cX6_moves 149 = .ok (.iload 5, 2) := by decide +kernel
theorem dX6_moves_151 : decode cX6_moves 151 = .ok (.iload 6, 2) := by decide +kernel
theorem dX6_moves_153 : decode cX6_moves 153 = .ok (.if_icmp .ne 5, 3) := by decide +kernel
theorem dX6_moves_156 : decode cX6_moves 156 = .ok (.iconst 0, 1) := by decide +kernel
theorem dX6_moves_157 : decode cX6_moves 157 = .ok (.ireturn, 1) := by decide +kernel
theorem dX6_moves_158 : decode cX6_moves 158 = .ok (.aload_n 0, 1) := by decide +kernel
theorem dX6_moves_159 : decode cX6_moves 159 = .ok (.iload_n 2, 1) := by decide +kernel
theorem dX6_moves_160 : decode cX6_moves 160 = .ok (.iconst 2, 1) := by decide +kernel
theorem dX6_moves_161 : decode cX6_moves 161 = .ok (.iload 6, 2) := by decide +kernel
theorem dX6_moves_163 : decode cX6_moves 163 = .ok (.invokevirtual 150, 3) := by decide +kernel
theorem dX6_moves_166 : decode cX6_moves 166 = .ok (.iconst 1, 1) := by decide +kernel
theorem dX6_moves_167 : decode cX6_moves 167 = .ok (.ireturn, 1) := by decide +kernel
theorem dX6_moves_168 : decode cX6_moves 168 = .ok (.iload 8, 2) := by decide +kernel
theorem dX6_moves_170 : decode cX6_moves 170 = .ok (.ifCond .eq 34, 3) := by decide +kernel
theorem dX6_moves_173 : decode cX6_moves 173 = .ok (.aload_n 0, 1) := by decide +kernel
theorem dX6_moves_174 : decode cX6_moves 174 = .ok (.getfield 45, 3) := by decide +kernel
theorem dX6_moves_177 : decode cX6_moves 177 = .ok (.iload_n 2, 1) := by decide +kernel
theorem dX6_moves_178 : decode cX6_moves 178 = .ok (.iaload, 1) := by decide +kernel
theorem dX6_moves_179 : decode cX6_moves 179 = .ok (.iconst 2, 1) := by decide +kernel
theorem dX6_moves_180 : decode cX6_moves 180 = .ok (.if_icmp .ne 24, 3) := by decide +kernel
theorem dX6_moves_183 : decode cX6_moves 183 = .ok (.aload_n 0, 1) := by decide +kernel
theorem dX6_moves_184 : decode cX6_moves 184 = .ok (.getfield 48, 3) := by decide +kernel
theorem dX6_moves_187 : decode cX6_moves 187 = .ok (.iload_n 2, 1) := by decide +kernel
theorem dX6_moves_188 : decode cX6_moves 188 = .ok (.iaload, 1) := by decide +kernel
theorem dX6_moves_189 : decode cX6_moves 189 = .ok (.iload 6, 2) := by decide +kernel
theorem dX6_moves_191 : decode cX6_moves 191 = .ok (.if_icmp .ne 13, 3) := by decide +kernel
theorem dX6_moves_194 : decode cX6_moves 194 = .ok (.aload_n 0, 1) := by decide +kernel
theorem dX6_moves_195 : decode cX6_moves 195 = .ok (.iload_n 2, 1) := by decide +kernel
theorem dX6_moves_196 : decode cX6_moves 196 = .ok (.iload 5, 2) := by decide +kernel
theorem dX6_moves_198 : decode cX6_moves 198 = .ok (.invokevirtual 146, 3) := by decide +kernel
theorem dX6_moves_201 : decode cX6_moves 201 = .ok (.ifCond .ne 5, 3) := by decide +kernel
theorem dX6_moves_204 : decode cX6_moves 204 = .ok (.iconst 0, 1) := by decide +kernel
theorem dX6_moves_205 : decode cX6_moves 205 = .ok (.ireturn, 1) := by decide +kernel
theorem dX6_moves_206 : decode cX6_moves 206 = .ok (.aload_n 0, 1) := by decide +kernel
theorem dX6_moves_207 : decode cX6_moves 207 = .ok (.iload_n 2, 1) := by decide +kernel
theorem dX6_moves_208 : decode cX6_moves 208 = .ok (.iconst 1, 1) := by decide +kernel
theorem dX6_moves_209 : decode cX6_moves 209 = .ok (.iload 5, 2) := by decide +kernel
theorem dX6_moves_211 : decode cX6_moves 211 = .ok (.invokevirtual 150, 3) := by decide +kernel
theorem dX6_moves_214 : decode cX6_moves 214 = .ok (.aload_n 0, 1) := by decide +kernel
theorem dX6_moves_215 : decode cX6_moves 215 = .ok (.getfield 57, 3) := by decide +kernel
theorem dX6_moves_218 : decode cX6_moves 218 = .ok (.iload_n 2, 1) := by decide +kernel
theorem dX6_moves_219 : decode cX6_moves 219 = .ok (.iconst (-1), 1) := by decide +kernel
theorem dX6_moves_220 : decode cX6_moves 220 = .ok (.iastore, 1) := by decide +kernel
theorem dX6_moves_221 : decode cX6_moves 221 = .ok (.iconst 1, 1) := by decide +kernel
theorem dX6_moves_222 : decode cX6_moves 222 = .ok (.ireturn, 1) := by decide +kernel
theorem dX6_moves_223 : decode cX6_moves 223 = .ok (.iload 8, 2) := by decide +kernel
theorem dX6_moves_225 : decode cX6_moves 225 = .ok (.ifCond .eq 23, 3) := by decide +kernel
theorem dX6_moves_228 : decode cX6_moves 228 = .ok (.aload_n 0, 1) := by decide +kernel
theorem dX6_moves_229 : decode cX6_moves 229 = .ok (.getfield 45, 3) := by decide +kernel
theorem dX6_moves_232 : decode cX6_moves 232 = .ok (.iload_n 2, 1) := by decide +kernel
theorem dX6_moves_233 : decode cX6_moves 233 = .ok (.iaload, 1) := by decide +kernel
theorem dX6_moves_234 : decode cX6_moves 234 = .ok (.iconst 1, 1) := by decide +kernel
theorem dX6_moves_235 : decode cX6_moves 235 = .ok (.if_icmp .ne 13, 3) := by decide +kernel
theorem dX6_moves_238 : decode cX6_moves 238 = .ok (.aload_n 0, 1) := by decide +kernel
theorem dX6_moves_239 : decode cX6_moves 239 = .ok (.iload_n 2, 1) := by decide +kernel
theorem dX6_moves_240 : decode cX6_moves 240 = .ok (.iload 5, 2) := by decide +kernel
theorem dX6_moves_242 : decode cX6_moves 242 = .ok (.invokevirtual 146, 3) := by decide +kernel
theorem dX6_moves_245 : decode cX6_moves 245 = .ok (.ifCond .ne 5, 3) := by decide +kernel
theorem dX6_moves_248 : decode cX6_moves 248 = .ok (.iconst 0, 1) := by decide +kernel
theorem dX6_moves_249 : decode cX6_moves 249 = .ok (.ireturn, 1) := by decide +kernel
theorem dX6_moves_250 : decode cX6_moves 250 = .ok (.aload_n 0, 1) := by decide +kernel
theorem dX6_moves_251 : decode cX6_moves 251 = .ok (.iload_n 2, 1) := by decide +kernel
theorem dX6_moves_252 : decode cX6_moves 252 = .ok (.iconst 1, 1) := by decide +kernel
theorem dX6_moves_253 : decode cX6_moves 253 = .ok (.iload 5, 2) := by decide +kernel
theorem dX6_moves_255 : decode cX6_moves 255 = .ok (.invokevirtual 150, 3) := by decide +kernel
theorem dX6_moves_258 : decode cX6_moves 258 = .ok (.iconst 1, 1) := by decide +kernel
theorem dX6_moves_259 : decode cX6_moves 259 = .ok (.ireturn, 1) := by decide +kernel
theorem dX6_moves_260 : decode cX6_moves 260 = .ok (.aload_n 0, 1) := by decide +kernel
theorem dX6_moves_261 : decode cX6_moves 261 = .ok (.iload_n 2, 1) := by decide +kernel
theorem dX6_moves_262 : decode cX6_moves 262 = .ok (.iload_n 3, 1) := by decide +kernel
theorem dX6_moves_263 : decode cX6_moves 263 = .ok (.iload 4, 2) := by decide +kernel
theorem dX6_moves_265 : decode cX6_moves 265 = .ok (.iload 5, 2) := by decide +kernel
theorem dX6_moves_267 : decode cX6_moves 267 = .ok (.invokevirtual 155, 3) := by decide +kernel
theorem dX6_moves_270 : decode cX6_moves 270 = .ok (.ireturn, 1) := by decide +kernel
theorem dX6_moves_271 : decode cX6_moves 271 = .ok (.aload_n 0, 1) := by decide +kernel
theorem dX6_moves_272 : decode cX6_moves 272 = .ok (.iload_n 2, 1) := by decide +kernel
theorem dX6_moves_273 : decode cX6_moves 273 = .ok (.iload_n 3, 1) := by decide +kernel
theorem dX6_moves_274 : decode cX6_moves 274 = .ok (.iload 4, 2) := by decide +kernel
theorem dX6_moves_276 : decode cX6_moves 276 = .ok (.iload 5, 2) := by decide +kernel
theorem dX6_moves_278 : decode cX6_moves 278 = .ok (.invokevirtual 159, 3) := by decide +kernel
theorem dX6_moves_281 : decode cX6_moves 281 = .ok (.ireturn, 1) := by decide +kernel
def j_X6_moves_15  (Q : Int32 → St → Prop) (v1 : Int32) (v2 : Int32) (v3 : Int32) (v4 : Int32) (v5 : Int32) (v6 : Int32) (s0 : Int32) (σ : St) : Prop :=
  wp_X6_hasKeepers σ v3 v4 s0 (fun y2 σ1 =>
  if v1 = 2 then
  (if y2 = 0 then
  (Q 0 σ1)
  else (vp_in v2 60 ∧
  (if (σ1 9 (ix v2)) = 1 then
  (wp_X6_isHand σ1 v5 (fun y4 σ3 =>
  if y4 = 0 then
  (Q 0 σ3)
  else (wp_X6_isIn σ3 v6 0 100000 (fun y6 σ5 =>
  if y6 = 0 then
  (Q 0 σ5)
  else (wp_X6_go σ5 v2 2 v5 (fun σ7 =>
  vp_in v2 60 ∧
  nmS (up2 σ7 13 (ix v2) v6) (fun σ8 =>
  Q 1 σ8)))))))
  else (Q 0 σ1))))
  else (if v1 = 3 then
  (vp_in v2 60 ∧
  (if (σ1 9 (ix v2)) = 2 then
  (vp_in v2 60 ∧
  (if (σ1 10 (ix v2)) = v5 then
  (wp_X6_isHand σ1 v6 (fun y10 σ9 =>
  if y10 = 0 then
  (Q 0 σ9)
  else (if v5 = v6 then
  (Q 0 σ9)
  else (wp_X6_go σ9 v2 2 v6 (fun σ11 =>
  Q 1 σ11)))))
  else (Q 0 σ1)))
  else (Q 0 σ1)))
  else (if v1 = 4 then
  (if y2 = 0 then
  (Q 0 σ1)
  else (vp_in v2 60 ∧
  (if (σ1 9 (ix v2)) = 2 then
  (vp_in v2 60 ∧
  (if (σ1 10 (ix v2)) = v6 then
  (wp_X6_fits σ1 v2 v5 (fun y13 σ12 =>
  if y13 = 0 then
  (Q 0 σ12)
  else (wp_X6_go σ12 v2 1 v5 (fun σ14 =>
  vp_in v2 60 ∧
  nmS (up2 σ14 13 (ix v2) (-1)) (fun σ15 =>
  Q 1 σ15)))))
  else (Q 0 σ1)))
  else (Q 0 σ1))))
  else (if v1 = 5 then
  (if y2 = 0 then
  (Q 0 σ1)
  else (vp_in v2 60 ∧
  (if (σ1 9 (ix v2)) = 1 then
  (wp_X6_fits σ1 v2 v5 (fun y17 σ16 =>
  if y17 = 0 then
  (Q 0 σ16)
  else (wp_X6_go σ16 v2 1 v5 (fun σ18 =>
  Q 1 σ18))))
  else (Q 0 σ1))))
  else (if v1 = 6 then
  (wp_X6_goesInto σ1 v2 v3 v4 v5 (fun y20 σ19 =>
  Q y20 σ19))
  else (wp_X6_goesFrom σ1 v2 v3 v4 v5 (fun y22 σ21 =>
  Q y22 σ21)))))))
theorem wk_X6_moves_15 (X : cx p s m args c cX6_moves 9 RX6 D (wM cI cZ a) A (tyW cI cZ cH)) (hr9 : meth.sig.returnType = (some .boolean)) (hlk9 : meth.locks = false)  {Q : Int32 → St → Prop} {v1 : Int32} {v2 : Int32} {v3 : Int32} {v4 : Int32} {v5 : Int32} {v6 : Int32} {s0 : Int32} {σ : St} (h : j_X6_moves_15 Q v1 v2 v3 v4 v5 v6 s0 σ) : go p l e rm_X6_moves s m args below meth c D (wM cI cZ a) A 0 0 (MQ below (va_Qi (fun r9 u9 => isB r9 ∧ Q r9 u9) (atw D (wM cI cZ a) (tyW cI cZ cH) A) A) args s 0 0 A) 9 15 [(0, .ref (a 0)), (1, .int v1), (2, .int v2), (3, .int v3), (4, .int v4), (5, .int v5), (6, .int v6)] [.int s0] σ := by
  delta j_X6_moves_15 at h
  refine r_istore X 17 [(7, .int s0), (0, .ref (a 0)), (1, .int v1), (2, .int v2), (3, .int v3), (4, .int v4), (5, .int v5), (6, .int v6)] dX6_moves_15 (by decide) rfl rfl ?_
  refine r_aload_n X 1 18 dX6_moves_17 rfl rfl rfl ?_
  refine r_iload_n X 4 19 dX6_moves_18 rfl rfl rfl ?_
  refine r_iload X 5 21 dX6_moves_19 rfl rfl ?_
  refine r_iload X 0 23 dX6_moves_21 rfl rfl ?_
  refine r_callI (As := [.int v3, .int v4, .int s0]) (rest := []) X 26 (c_X6_hasKeepers h) ml_X6_139 lk_X6_hasKeepers wM_at_0 rfl rfl rfl (Nat.le_of_ble_eq_true rfl) ⟨rfl, rfl, ⟨Nat.le_of_ble_eq_true rfl, Nat.le_of_ble_eq_true rfl⟩, Nat.le_of_ble_eq_true rfl, Nat.le_of_ble_eq_true rfl⟩ dX6_moves_23 rfl (fun y2 σ1 h => ?_)
  obtain ⟨hb_y2, h⟩ := h
  refine r_istore X 28 [(8, .int y2), (7, .int s0), (0, .ref (a 0)), (1, .int v1), (2, .int v2), (3, .int v3), (4, .int v4), (5, .int v5), (6, .int v6)] dX6_moves_26 (by decide) rfl rfl ?_
  refine r_iload_n X 3 29 dX6_moves_28 rfl rfl rfl ?_
  refine r_ifs h (fun hc2 h => ?_) (fun hc2 h => ?_)
  · refine r_tabIn X 64 dX6_moves_29 hc2 (by decide) (by decide) rfl rfl ?_
    refine r_iload X 0 66 dX6_moves_64 rfl rfl ?_
    refine r_if_eq X 99 69 h dX6_moves_66 rfl rfl (fun h => ?_) (fun h => ?_)
    · refine r_iconst (v := 0) X 100 dX6_moves_99 (by decide) rfl ?_
      exact r_zret X hr9 hlk9 isB_0 h dX6_moves_100
    · refine r_aload_n X 2 70 dX6_moves_69 rfl rfl rfl ?_
      refine g_X6_45 X 73 dX6_moves_70 rfl ?_
      refine r_iload_n X 4 74 dX6_moves_73 rfl rfl rfl ?_
      obtain ⟨hin, h⟩ := h
      refine l_M9 X 75 hin dX6_moves_74 rfl ?_
      refine r_iconst (v := 1) X 76 dX6_moves_75 (by decide) rfl ?_
      refine r_icmp_ne X 99 79 h dX6_moves_76 rfl rfl (fun h => ?_) (fun h => ?_)
      · refine r_iconst (v := 0) X 100 dX6_moves_99 (by decide) rfl ?_
        exact r_zret X hr9 hlk9 isB_0 h dX6_moves_100
      · refine r_aload_n X 2 80 dX6_moves_79 rfl rfl rfl ?_
        refine r_iload X 7 82 dX6_moves_80 rfl rfl ?_
        refine r_callI (As := [.int v5]) (rest := []) X 85 (c_X6_isHand h) ml_X6_143 lk_X6_isHand wM_at_0 rfl rfl rfl (Nat.le_of_ble_eq_true rfl) ⟨rfl, rfl, ⟨Nat.le_of_ble_eq_true rfl, Nat.le_of_ble_eq_true rfl⟩, Nat.le_of_ble_eq_true rfl, Nat.le_of_ble_eq_true rfl⟩ dX6_moves_82 rfl (fun y4 σ3 h => ?_)
        obtain ⟨hb_y4, h⟩ := h
        refine r_if_eq X 99 88 h dX6_moves_85 rfl rfl (fun h => ?_) (fun h => ?_)
        · refine r_iconst (v := 0) X 100 dX6_moves_99 (by decide) rfl ?_
          exact r_zret X hr9 hlk9 isB_0 h dX6_moves_100
        · refine r_iload X 8 90 dX6_moves_88 rfl rfl ?_
          refine r_iconst (v := 0) X 91 dX6_moves_90 (by decide) rfl ?_
          refine r_ldc (v := 100000) X 93 dX6_moves_91 cn_X6_154 rfl ?_
          refine r_callSI (As := [.int v6, .int 0, .int 100000]) (rest := []) X 96 (c_X6_isIn h) ml_X6_96 lk_X6_isIn sy_X6_isIn rfl rfl (Nat.le_of_ble_eq_true rfl) ⟨rfl, rfl, ⟨Nat.le_of_ble_eq_true rfl, Nat.le_of_ble_eq_true rfl⟩, Nat.le_of_ble_eq_true rfl, Nat.le_of_ble_eq_true rfl⟩ dX6_moves_93 rfl (fun y6 σ5 h => ?_)
          obtain ⟨hb_y6, h⟩ := h
          refine r_if_ne X 101 99 h dX6_moves_96 rfl rfl (fun h => ?_) (fun h => ?_)
          · refine r_aload_n X 2 102 dX6_moves_101 rfl rfl rfl ?_
            refine r_iload_n X 4 103 dX6_moves_102 rfl rfl rfl ?_
            refine r_iconst (v := 2) X 104 dX6_moves_103 (by decide) rfl ?_
            refine r_iload X 7 106 dX6_moves_104 rfl rfl ?_
            refine r_callV (As := [.int v2, .int 2, .int v5]) (rest := []) X 109 (c_X6_go h) ml_X6_150 lk_X6_go wM_at_0 rfl rfl rfl (Nat.le_of_ble_eq_true rfl) ⟨rfl, rfl, ⟨Nat.le_of_ble_eq_true rfl, Nat.le_of_ble_eq_true rfl⟩, Nat.le_of_ble_eq_true rfl, Nat.le_of_ble_eq_true rfl⟩ dX6_moves_106 rfl (fun σ7 h => ?_)
            refine r_aload_n X 2 110 dX6_moves_109 rfl rfl rfl ?_
            refine g_X6_57 X 113 dX6_moves_110 rfl ?_
            refine r_iload_n X 4 114 dX6_moves_113 rfl rfl rfl ?_
            refine r_iload X 8 116 dX6_moves_114 rfl rfl ?_
            obtain ⟨hin, h⟩ := h
            refine s_M13 X 117 hin dX6_moves_116 rfl ?_
            refine r_nmS h (fun σ8 h => ?_)
            refine r_iconst (v := 1) X 118 dX6_moves_117 (by decide) rfl ?_
            exact r_zret X hr9 hlk9 isB_1 h dX6_moves_118
          · refine r_iconst (v := 0) X 100 dX6_moves_99 (by decide) rfl ?_
            exact r_zret X hr9 hlk9 isB_0 h dX6_moves_100
  · refine r_ifs h (fun hc3 h => ?_) (fun hc3 h => ?_)
    · refine r_tabIn X 119 dX6_moves_29 hc3 (by decide) (by decide) rfl rfl ?_
      refine r_aload_n X 2 120 dX6_moves_119 rfl rfl rfl ?_
      refine g_X6_45 X 123 dX6_moves_120 rfl ?_
      refine r_iload_n X 4 124 dX6_moves_123 rfl rfl rfl ?_
      obtain ⟨hin, h⟩ := h
      refine l_M9 X 125 hin dX6_moves_124 rfl ?_
      refine r_iconst (v := 2) X 126 dX6_moves_125 (by decide) rfl ?_
      refine r_icmp_ne X 156 129 h dX6_moves_126 rfl rfl (fun h => ?_) (fun h => ?_)
      · refine r_iconst (v := 0) X 157 dX6_moves_156 (by decide) rfl ?_
        exact r_zret X hr9 hlk9 isB_0 h dX6_moves_157
      · refine r_aload_n X 2 130 dX6_moves_129 rfl rfl rfl ?_
        refine g_X6_48 X 133 dX6_moves_130 rfl ?_
        refine r_iload_n X 4 134 dX6_moves_133 rfl rfl rfl ?_
        obtain ⟨hin, h⟩ := h
        refine l_M10 X 135 hin dX6_moves_134 rfl ?_
        refine r_iload X 7 137 dX6_moves_135 rfl rfl ?_
        refine r_icmp_ne X 156 140 h dX6_moves_137 rfl rfl (fun h => ?_) (fun h => ?_)
        · refine r_iconst (v := 0) X 157 dX6_moves_156 (by decide) rfl ?_
          exact r_zret X hr9 hlk9 isB_0 h dX6_moves_157
        · refine r_aload_n X 2 141 dX6_moves_140 rfl rfl rfl ?_
          refine r_iload X 8 143 dX6_moves_141 rfl rfl ?_
          refine r_callI (As := [.int v6]) (rest := []) X 146 (c_X6_isHand h) ml_X6_143 lk_X6_isHand wM_at_0 rfl rfl rfl (Nat.le_of_ble_eq_true rfl) ⟨rfl, rfl, ⟨Nat.le_of_ble_eq_true rfl, Nat.le_of_ble_eq_true rfl⟩, Nat.le_of_ble_eq_true rfl, Nat.le_of_ble_eq_true rfl⟩ dX6_moves_143 rfl (fun y10 σ9 h => ?_)
          obtain ⟨hb_y10, h⟩ := h
          refine r_if_eq X 156 149 h dX6_moves_146 rfl rfl (fun h => ?_) (fun h => ?_)
          · refine r_iconst (v := 0) X 157 dX6_moves_156 (by decide) rfl ?_
            exact r_zret X hr9 hlk9 isB_0 h dX6_moves_157
          · refine r_iload X 7 151 dX6_moves_149 rfl rfl ?_
            refine r_iload X 8 153 dX6_moves_151 rfl rfl ?_
            refine r_icmp_ne X 158 156 h dX6_moves_153 rfl rfl (fun h => ?_) (fun h => ?_)
            · refine r_aload_n X 2 159 dX6_moves_158 rfl rfl rfl ?_
              refine r_iload_n X 4 160 dX6_moves_159 rfl rfl rfl ?_
              refine r_iconst (v := 2) X 161 dX6_moves_160 (by decide) rfl ?_
              refine r_iload X 8 163 dX6_moves_161 rfl rfl ?_
              refine r_callV (As := [.int v2, .int 2, .int v6]) (rest := []) X 166 (c_X6_go h) ml_X6_150 lk_X6_go wM_at_0 rfl rfl rfl (Nat.le_of_ble_eq_true rfl) ⟨rfl, rfl, ⟨Nat.le_of_ble_eq_true rfl, Nat.le_of_ble_eq_true rfl⟩, Nat.le_of_ble_eq_true rfl, Nat.le_of_ble_eq_true rfl⟩ dX6_moves_163 rfl (fun σ11 h => ?_)
              refine r_iconst (v := 1) X 167 dX6_moves_166 (by decide) rfl ?_
              exact r_zret X hr9 hlk9 isB_1 h dX6_moves_167
            · refine r_iconst (v := 0) X 157 dX6_moves_156 (by decide) rfl ?_
              exact r_zret X hr9 hlk9 isB_0 h dX6_moves_157
    · refine r_ifs h (fun hc4 h => ?_) (fun hc4 h => ?_)
      · refine r_tabIn X 168 dX6_moves_29 hc4 (by decide) (by decide) rfl rfl ?_
        refine r_iload X 0 170 dX6_moves_168 rfl rfl ?_
        refine r_if_eq X 204 173 h dX6_moves_170 rfl rfl (fun h => ?_) (fun h => ?_)
        · refine r_iconst (v := 0) X 205 dX6_moves_204 (by decide) rfl ?_
          exact r_zret X hr9 hlk9 isB_0 h dX6_moves_205
        · refine r_aload_n X 2 174 dX6_moves_173 rfl rfl rfl ?_
          refine g_X6_45 X 177 dX6_moves_174 rfl ?_
          refine r_iload_n X 4 178 dX6_moves_177 rfl rfl rfl ?_
          obtain ⟨hin, h⟩ := h
          refine l_M9 X 179 hin dX6_moves_178 rfl ?_
          refine r_iconst (v := 2) X 180 dX6_moves_179 (by decide) rfl ?_
          refine r_icmp_ne X 204 183 h dX6_moves_180 rfl rfl (fun h => ?_) (fun h => ?_)
          · refine r_iconst (v := 0) X 205 dX6_moves_204 (by decide) rfl ?_
            exact r_zret X hr9 hlk9 isB_0 h dX6_moves_205
          · refine r_aload_n X 2 184 dX6_moves_183 rfl rfl rfl ?_
            refine g_X6_48 X 187 dX6_moves_184 rfl ?_
            refine r_iload_n X 4 188 dX6_moves_187 rfl rfl rfl ?_
            obtain ⟨hin, h⟩ := h
            refine l_M10 X 189 hin dX6_moves_188 rfl ?_
            refine r_iload X 8 191 dX6_moves_189 rfl rfl ?_
            refine r_icmp_ne X 204 194 h dX6_moves_191 rfl rfl (fun h => ?_) (fun h => ?_)
            · refine r_iconst (v := 0) X 205 dX6_moves_204 (by decide) rfl ?_
              exact r_zret X hr9 hlk9 isB_0 h dX6_moves_205
            · refine r_aload_n X 2 195 dX6_moves_194 rfl rfl rfl ?_
              refine r_iload_n X 4 196 dX6_moves_195 rfl rfl rfl ?_
              refine r_iload X 7 198 dX6_moves_196 rfl rfl ?_
              refine r_callI (As := [.int v2, .int v5]) (rest := []) X 201 (c_X6_fits h) ml_X6_146 lk_X6_fits wM_at_0 rfl rfl rfl (Nat.le_of_ble_eq_true rfl) ⟨rfl, rfl, ⟨Nat.le_of_ble_eq_true rfl, Nat.le_of_ble_eq_true rfl⟩, Nat.le_of_ble_eq_true rfl, Nat.le_of_ble_eq_true rfl⟩ dX6_moves_198 rfl (fun y13 σ12 h => ?_)
              obtain ⟨hb_y13, h⟩ := h
              refine r_if_ne X 206 204 h dX6_moves_201 rfl rfl (fun h => ?_) (fun h => ?_)
              · refine r_aload_n X 2 207 dX6_moves_206 rfl rfl rfl ?_
                refine r_iload_n X 4 208 dX6_moves_207 rfl rfl rfl ?_
                refine r_iconst (v := 1) X 209 dX6_moves_208 (by decide) rfl ?_
                refine r_iload X 7 211 dX6_moves_209 rfl rfl ?_
                refine r_callV (As := [.int v2, .int 1, .int v5]) (rest := []) X 214 (c_X6_go h) ml_X6_150 lk_X6_go wM_at_0 rfl rfl rfl (Nat.le_of_ble_eq_true rfl) ⟨rfl, rfl, ⟨Nat.le_of_ble_eq_true rfl, Nat.le_of_ble_eq_true rfl⟩, Nat.le_of_ble_eq_true rfl, Nat.le_of_ble_eq_true rfl⟩ dX6_moves_211 rfl (fun σ14 h => ?_)
                refine r_aload_n X 2 215 dX6_moves_214 rfl rfl rfl ?_
                refine g_X6_57 X 218 dX6_moves_215 rfl ?_
                refine r_iload_n X 4 219 dX6_moves_218 rfl rfl rfl ?_
                refine r_iconst (v := (-1)) X 220 dX6_moves_219 (by decide) rfl ?_
                obtain ⟨hin, h⟩ := h
                refine s_M13 X 221 hin dX6_moves_220 rfl ?_
                refine r_nmS h (fun σ15 h => ?_)
                refine r_iconst (v := 1) X 222 dX6_moves_221 (by decide) rfl ?_
                exact r_zret X hr9 hlk9 isB_1 h dX6_moves_222
              · refine r_iconst (v := 0) X 205 dX6_moves_204 (by decide) rfl ?_
                exact r_zret X hr9 hlk9 isB_0 h dX6_moves_205
      · refine r_ifs h (fun hc5 h => ?_) (fun hc5 h => ?_)
        · refine r_tabIn X 223 dX6_moves_29 hc5 (by decide) (by decide) rfl rfl ?_
          refine r_iload X 0 225 dX6_moves_223 rfl rfl ?_
          refine r_if_eq X 248 228 h dX6_moves_225 rfl rfl (fun h => ?_) (fun h => ?_)
          · refine r_iconst (v := 0) X 249 dX6_moves_248 (by decide) rfl ?_
            exact r_zret X hr9 hlk9 isB_0 h dX6_moves_249
          · refine r_aload_n X 2 229 dX6_moves_228 rfl rfl rfl ?_
            refine g_X6_45 X 232 dX6_moves_229 rfl ?_
            refine r_iload_n X 4 233 dX6_moves_232 rfl rfl rfl ?_
            obtain ⟨hin, h⟩ := h
            refine l_M9 X 234 hin dX6_moves_233 rfl ?_
            refine r_iconst (v := 1) X 235 dX6_moves_234 (by decide) rfl ?_
            refine r_icmp_ne X 248 238 h dX6_moves_235 rfl rfl (fun h => ?_) (fun h => ?_)
            · refine r_iconst (v := 0) X 249 dX6_moves_248 (by decide) rfl ?_
              exact r_zret X hr9 hlk9 isB_0 h dX6_moves_249
            · refine r_aload_n X 2 239 dX6_moves_238 rfl rfl rfl ?_
              refine r_iload_n X 4 240 dX6_moves_239 rfl rfl rfl ?_
              refine r_iload X 7 242 dX6_moves_240 rfl rfl ?_
              refine r_callI (As := [.int v2, .int v5]) (rest := []) X 245 (c_X6_fits h) ml_X6_146 lk_X6_fits wM_at_0 rfl rfl rfl (Nat.le_of_ble_eq_true rfl) ⟨rfl, rfl, ⟨Nat.le_of_ble_eq_true rfl, Nat.le_of_ble_eq_true rfl⟩, Nat.le_of_ble_eq_true rfl, Nat.le_of_ble_eq_true rfl⟩ dX6_moves_242 rfl (fun y17 σ16 h => ?_)
              obtain ⟨hb_y17, h⟩ := h
              refine r_if_ne X 250 248 h dX6_moves_245 rfl rfl (fun h => ?_) (fun h => ?_)
              · refine r_aload_n X 2 251 dX6_moves_250 rfl rfl rfl ?_
                refine r_iload_n X 4 252 dX6_moves_251 rfl rfl rfl ?_
                refine r_iconst (v := 1) X 253 dX6_moves_252 (by decide) rfl ?_
                refine r_iload X 7 255 dX6_moves_253 rfl rfl ?_
                refine r_callV (As := [.int v2, .int 1, .int v5]) (rest := []) X 258 (c_X6_go h) ml_X6_150 lk_X6_go wM_at_0 rfl rfl rfl (Nat.le_of_ble_eq_true rfl) ⟨rfl, rfl, ⟨Nat.le_of_ble_eq_true rfl, Nat.le_of_ble_eq_true rfl⟩, Nat.le_of_ble_eq_true rfl, Nat.le_of_ble_eq_true rfl⟩ dX6_moves_255 rfl (fun σ18 h => ?_)
                refine r_iconst (v := 1) X 259 dX6_moves_258 (by decide) rfl ?_
                exact r_zret X hr9 hlk9 isB_1 h dX6_moves_259
              · refine r_iconst (v := 0) X 249 dX6_moves_248 (by decide) rfl ?_
                exact r_zret X hr9 hlk9 isB_0 h dX6_moves_249
        · refine r_ifs h (fun hc6 h => ?_) (fun hc6 h => ?_)
          · refine r_tabIn X 260 dX6_moves_29 hc6 (by decide) (by decide) rfl rfl ?_
            refine r_aload_n X 2 261 dX6_moves_260 rfl rfl rfl ?_
            refine r_iload_n X 4 262 dX6_moves_261 rfl rfl rfl ?_
            refine r_iload_n X 5 263 dX6_moves_262 rfl rfl rfl ?_
            refine r_iload X 6 265 dX6_moves_263 rfl rfl ?_
            refine r_iload X 7 267 dX6_moves_265 rfl rfl ?_
            refine r_callI (As := [.int v2, .int v3, .int v4, .int v5]) (rest := []) X 270 (c_X6_goesInto h) ml_X6_155 lk_X6_goesInto wM_at_0 rfl rfl rfl (Nat.le_of_ble_eq_true rfl) ⟨rfl, rfl, ⟨Nat.le_of_ble_eq_true rfl, Nat.le_of_ble_eq_true rfl⟩, Nat.le_of_ble_eq_true rfl, Nat.le_of_ble_eq_true rfl⟩ dX6_moves_267 rfl (fun y20 σ19 h => ?_)
            obtain ⟨hb_y20, h⟩ := h
            exact r_zret X hr9 hlk9 hb_y20 h dX6_moves_270
          · refine r_tabOut X 271 dX6_moves_29 (by have e2 := tn_ (k := 2) hc2 rfl; have e3 := tn_ (k := 3) hc3 rfl; have e4 := tn_ (k := 4) hc4 rfl; have e5 := tn_ (k := 5) hc5 rfl; have e6 := tn_ (k := 6) hc6 rfl; omega) rfl ?_
            refine r_aload_n X 2 272 dX6_moves_271 rfl rfl rfl ?_
            refine r_iload_n X 4 273 dX6_moves_272 rfl rfl rfl ?_
            refine r_iload_n X 5 274 dX6_moves_273 rfl rfl rfl ?_
            refine r_iload X 6 276 dX6_moves_274 rfl rfl ?_
            refine r_iload X 7 278 dX6_moves_276 rfl rfl ?_
            refine r_callI (As := [.int v2, .int v3, .int v4, .int v5]) (rest := []) X 281 (c_X6_goesFrom h) ml_X6_159 lk_X6_goesFrom wM_at_0 rfl rfl rfl (Nat.le_of_ble_eq_true rfl) ⟨rfl, rfl, ⟨Nat.le_of_ble_eq_true rfl, Nat.le_of_ble_eq_true rfl⟩, Nat.le_of_ble_eq_true rfl, Nat.le_of_ble_eq_true rfl⟩ dX6_moves_278 rfl (fun y22 σ21 h => ?_)
            obtain ⟨hb_y22, h⟩ := h
            exact r_zret X hr9 hlk9 hb_y22 h dX6_moves_281
def wp_X6_moves  (σ : St) (x1 : Int32) (x2 : Int32) (x3 : Int32) (x4 : Int32) (x5 : Int32) (x6 : Int32) (Q : Int32 → St → Prop) : Prop :=
  vp_in x2 60 ∧
  (if (σ 4 (ix x2)) = 5 then
  (j_X6_moves_15 Q x1 x2 x3 x4 x5 x6 1 σ)
  else (j_X6_moves_15 Q x1 x2 x3 x4 x5 x6 0 σ))
theorem c_X6_moves  {σ : St} {x1 : Int32} {x2 : Int32} {x3 : Int32} {x4 : Int32} {x5 : Int32} {x6 : Int32} {Q : Int32 → St → Prop} (h : wp_X6_moves σ x1 x2 x3 x4 x5 x6 Q) : ctI l yX6_moves cX6_moves 9 (some .boolean) rm_X6_moves D (wM cI cZ a) (tyW cI cZ cH) [.ref (a 0), .int x1, .int x2, .int x3, .int x4, .int x5, .int x6] σ (fun r9 u9 => isB r9 ∧ Q r9 u9) := by
  refine mk_I (wM_ok cI cZ a) (by decide +kernel) (Nat.le_of_ble_eq_true rfl) (fun p e s m args below meth c A X hr9 hlk9 => ?_)
  refine r_pick (lv' := [(0, .ref (a 0)), (1, .int x1), (2, .int x2), (3, .int x3), (4, .int x4), (5, .int x5), (6, .int x6)]) [0, 1, 2, 3, 4, 5, 6] rfl ?_
  delta wp_X6_moves at h
  refine r_aload_n X 0 1 dX6_moves_0 rfl rfl rfl ?_
  refine g_X6_24 X 4 dX6_moves_1 rfl ?_
  refine r_iload_n X 2 5 dX6_moves_4 rfl rfl rfl ?_
  obtain ⟨hin, h⟩ := h
  refine l_M4 X 6 hin dX6_moves_5 rfl ?_
  refine r_iconst (v := 5) X 7 dX6_moves_6 (by decide) rfl ?_
  refine r_icmp_ne X 14 10 h dX6_moves_7 rfl rfl (fun h => ?_) (fun h => ?_)
  · refine r_iconst (v := 0) X 15 dX6_moves_14 (by decide) rfl ?_
    refine r_pick (lv' := [(0, .ref (a 0)), (1, .int x1), (2, .int x2), (3, .int x3), (4, .int x4), (5, .int x5), (6, .int x6)]) [0, 1, 2, 3, 4, 5, 6] rfl ?_
    exact wk_X6_moves_15 X hr9 hlk9 h
  · refine r_iconst (v := 1) X 11 dX6_moves_10 (by decide) rfl ?_
    refine r_goto X 15 dX6_moves_11 rfl ?_
    refine r_pick (lv' := [(0, .ref (a 0)), (1, .int x1), (2, .int x2), (3, .int x3), (4, .int x4), (5, .int x5), (6, .int x6)]) [0, 1, 2, 3, 4, 5, 6] rfl ?_
    exact wk_X6_moves_15 X hr9 hlk9 h
def rm_X6_isSeal : Room := { frames := 1, cells := 0, slots := 0, locals := 22 }
theorem dX6_isSeal_0 : decode cX6_isSeal 0 = .ok (.iload_n 1, 1) := by decide +kernel
theorem dX6_isSeal_1 : decode cX6_isSeal 1 = .ok (.iconst 0, 1) := by decide +kernel
theorem dX6_isSeal_2 : decode cX6_isSeal 2 = .ok (.sipush 599, 3) := by decide +kernel
theorem dX6_isSeal_5 : decode cX6_isSeal 5 = .ok (.invokestatic 96, 3) := by decide +kernel
theorem dX6_isSeal_8 : decode cX6_isSeal 8 = .ok (.ifCond .eq 23, 3) := by decide +kernel
theorem dX6_isSeal_11 : decode cX6_isSeal 11 = .ok (.iload_n 1, 1) := by decide +kernel
theorem dX6_isSeal_12 : decode cX6_isSeal 12 = .ok (.bipush 100, 2) := by decide +kernel
theorem dX6_isSeal_14 : decode cX6_isSeal 14 = .ok (.irem, 1) := by decide +kernel
theorem dX6_isSeal_15 : decode cX6_isSeal 15 = .ok (.aload_n 0, 1) := by decide +kernel
theorem dX6_isSeal_16 : decode cX6_isSeal 16 = .ok (.getfield 20, 3) := by decide +kernel
theorem dX6_isSeal_19 : decode cX6_isSeal 19 = .ok (.iload_n 1, 1) := by decide +kernel
theorem dX6_isSeal_20 : decode cX6_isSeal 20 = .ok (.bipush 100, 2) := by decide +kernel
theorem dX6_isSeal_22 : decode cX6_isSeal 22 = .ok (.idiv, 1) := by decide +kernel
theorem dX6_isSeal_23 : decode cX6_isSeal 23 = .ok (.iaload, 1) := by decide +kernel
theorem dX6_isSeal_24 : decode cX6_isSeal 24 = .ok (.if_icmp .ge 7, 3) := by decide +kernel
theorem dX6_isSeal_27 : decode cX6_isSeal 27 = .ok (.iconst 1, 1) := by decide +kernel
theorem dX6_isSeal_28 : decode cX6_isSeal 28 = .ok (.goto 4, 3) := by decide +kernel
theorem dX6_isSeal_31 : decode cX6_isSeal 31 = .ok (.iconst 0, 1) := by decide +kernel
theorem dX6_isSeal_32 : decode cX6_isSeal 32 = .ok (.ireturn, 1) := by decide +kernel
def wp_X6_isSeal  (σ : St) (x1 : Int32) (Q : Int32 → St → Prop) : Prop :=
  wp_X6_isIn σ x1 0 599 (fun y2 σ1 =>
  if y2 = 0 then
  (Q 0 σ1)
  else (vp_in (x1 / 100) 6 ∧
  (if (x1 - x1 / 100 * 100) < (σ1 3 (ix (x1 / 100))) then
  (Q 1 σ1)
  else (Q 0 σ1))))
theorem c_X6_isSeal  {σ : St} {x1 : Int32} {Q : Int32 → St → Prop} (h : wp_X6_isSeal σ x1 Q) : ctI l yX6_isSeal cX6_isSeal 2 (some .boolean) rm_X6_isSeal D (wM cI cZ a) (tyW cI cZ cH) [.ref (a 0), .int x1] σ (fun r9 u9 => isB r9 ∧ Q r9 u9) := by
  refine mk_I (wM_ok cI cZ a) (by decide +kernel) (Nat.le_of_ble_eq_true rfl) (fun p e s m args below meth c A X hr9 hlk9 => ?_)
  refine r_pick (lv' := [(0, .ref (a 0)), (1, .int x1)]) [0, 1] rfl ?_
  delta wp_X6_isSeal at h
  refine r_iload_n X 1 1 dX6_isSeal_0 rfl rfl rfl ?_
  refine r_iconst (v := 0) X 2 dX6_isSeal_1 (by decide) rfl ?_
  refine r_sipush (v := 599) X 5 dX6_isSeal_2 (by decide) rfl ?_
  refine r_callSI (As := [.int x1, .int 0, .int 599]) (rest := []) X 8 (c_X6_isIn h) ml_X6_96 lk_X6_isIn sy_X6_isIn rfl rfl (Nat.le_of_ble_eq_true rfl) ⟨rfl, rfl, ⟨Nat.le_of_ble_eq_true rfl, Nat.le_of_ble_eq_true rfl⟩, Nat.le_of_ble_eq_true rfl, Nat.le_of_ble_eq_true rfl⟩ dX6_isSeal_5 rfl (fun y2 σ1 h => ?_)
  obtain ⟨hb_y2, h⟩ := h
  refine r_if_eq X 31 11 h dX6_isSeal_8 rfl rfl (fun h => ?_) (fun h => ?_)
  · refine r_iconst (v := 0) X 32 dX6_isSeal_31 (by decide) rfl ?_
    exact r_zret X hr9 hlk9 isB_0 h dX6_isSeal_32
  · refine r_iload_n X 1 12 dX6_isSeal_11 rfl rfl rfl ?_
    refine r_bipush (v := 100) X 14 dX6_isSeal_12 (by decide) rfl ?_
    refine r_irem X 15 dX6_isSeal_14 (by decide) rfl ?_
    refine r_aload_n X 0 16 dX6_isSeal_15 rfl rfl rfl ?_
    refine g_X6_20 X 19 dX6_isSeal_16 rfl ?_
    refine r_iload_n X 1 20 dX6_isSeal_19 rfl rfl rfl ?_
    refine r_bipush (v := 100) X 22 dX6_isSeal_20 (by decide) rfl ?_
    refine r_idiv X 23 dX6_isSeal_22 (by decide) rfl ?_
    obtain ⟨hin, h⟩ := h
    refine l_M3 X 24 hin dX6_isSeal_23 rfl ?_
    refine r_icmp_ge X 31 27 h dX6_isSeal_24 rfl rfl (fun h => ?_) (fun h => ?_)
    · refine r_iconst (v := 0) X 32 dX6_isSeal_31 (by decide) rfl ?_
      exact r_zret X hr9 hlk9 isB_0 h dX6_isSeal_32
    · refine r_iconst (v := 1) X 28 dX6_isSeal_27 (by decide) rfl ?_
      refine r_goto X 32 dX6_isSeal_28 rfl ?_
      exact r_zret X hr9 hlk9 isB_1 h dX6_isSeal_32
def rm_X6_isSealing : Room := { frames := 3, cells := 0, slots := 0, locals := 66 }
theorem dX6_isSealing_0 : decode cX6_isSealing 0 = .ok (.aload_n 0, 1) := by decide +kernel
theorem dX6_isSealing_1 : decode cX6_isSealing 1 = .ok (.iload_n 2, 1) := by decide +kernel
theorem dX6_isSealing_2 : decode cX6_isSealing 2 = .ok (.invokevirtual 162, 3) := by decide +kernel
theorem dX6_isSealing_5 : decode cX6_isSealing 5 = .ok (.ifCond .ne 5, 3) := by decide +kernel
theorem dX6_isSealing_8 : decode cX6_isSealing 8 = .ok (.iconst 0, 1) := by decide +kernel
theorem dX6_isSealing_9 : decode cX6_isSealing 9 = .ok (.ireturn, 1) := by decide +kernel
theorem dX6_isSealing_10 : decode cX6_isSealing 10 = .ok (.iload_n 1, 1) := by decide +kernel
theorem dX6_isSealing_11 : decode cX6_isSealing 11 = .ok (.bipush 10, 2) := by decide +kernel
theorem dX6_isSealing_13 : decode cX6_isSealing 13 = .ok (.if_icmp .ne 13, 3) := by decide +kernel
theorem dX6_isSealing_16 : decode cX6_isSealing 16 = .ok (.iload 5, 2) := by decide +kernel
theorem dX6_isSealing_18 : decode cX6_isSealing 18 = .ok (.iconst (-1), 1) := by decide +kernel
theorem dX6_isSealing_19 : decode cX6_isSealing 19 = .ok (.sipush 999, 3) := by decide +kernel
theorem dX6_isSealing_22 : decode cX6_isSealing 22 = .ok (.invokestatic 96, 3) := by decide +kernel
theorem dX6_isSealing_25 : decode cX6_isSealing 25 = .ok (.ireturn, 1) := by decide +kernel
theorem dX6_isSealing_26 : decode cX6_isSealing 26 = .ok (.aload_n 0, 1) := by decide +kernel
theorem dX6_isSealing_27 : decode cX6_isSealing 27 = .ok (.getfield 24, 3) := by decide +kernel
theorem dX6_isSealing_30 : decode cX6_isSealing 30 = .ok (.iload_n 2, 1) := by decide +kernel
theorem dX6_isSealing_31 : decode cX6_isSealing 31 = .ok (.iaload, 1) := by decide +kernel
theorem dX6_isSealing_32 : decode cX6_isSealing 32 = .ok (.iconst 5, 1) := by decide +kernel
theorem dX6_isSealing_33 : decode cX6_isSealing 33 = .ok (.if_icmp .ne 16, 3) := by decide +kernel
theorem dX6_isSealing_36 : decode cX6_isSealing 36 = .ok (.aload_n 0, 1) := by decide +kernel
theorem dX6_isSealing_37 : decode cX6_isSealing 37 = .ok (.iload_n 3, 1) := by decide +kernel
theorem dX6_isSealing_38 : decode cX6_isSealing 38 = .ok (.iload 4, 2) := by decide +kernel
theorem dX6_isSealing_40 : decode cX6_isSealing 40 = .ok (.iconst 1, 1) := by decide +kernel
theorem dX6_isSealing_41 : decode cX6_isSealing 41 = .ok (.invokevirtual 139, 3) := by decide +kernel
theorem dX6_isSealing_44 : decode cX6_isSealing 44 = .ok (.ifCond .ne 5, 3) := by decide +kernel
theorem dX6_isSealing_47 : decode cX6_isSealing 47 = .ok (.iconst 0, 1) := by decide +kernel
theorem dX6_isSealing_48 : decode cX6_isSealing 48 = .ok (.ireturn, 1) := by decide +kernel
theorem dX6_isSealing_49 : decode cX6_isSealing 49 = .ok (.iload_n 1, 1) := by decide +kernel
theorem dX6_isSealing_50 : decode cX6_isSealing 50 = .ok (.bipush 9, 2) := by decide +kernel
theorem dX6_isSealing_52 : decode cX6_isSealing 52 = .ok (.if_icmp .ne 36, 3) := by decide +kernel
theorem dX6_isSealing_55 : decode cX6_isSealing 55 = .ok (.aload_n 0, 1) := by decide +kernel
theorem dX6_isSealing_56 : decode cX6_isSealing 56 = .ok (.getfield 54, 3) := by decide +kernel
theorem dX6_isSealing_59 : decode cX6_isSealing 59 = .ok (.iload_n 2, 1) := by decide +kernel
theorem dX6_isSealing_60 : decode cX6_isSealing 60 = .ok (.iaload, 1) := by decide +kernel
theorem dX6_isSealing_61 : decode cX6_isSealing 61 = .ok (.iconst (-1), 1) := by decide +kernel
theorem dX6_isSealing_62 : decode cX6_isSealing 62 = .ok (.if_icmp .eq 15, 3) := by decide +kernel
theorem dX6_isSealing_65 : decode cX6_isSealing 65 = .ok (.iload 5, 2) := by decide +kernel
theorem dX6_isSealing_67 : decode cX6_isSealing 67 = .ok (.iconst 0, 1) := by decide +kernel
theorem dX6_isSealing_68 : decode cX6_isSealing 68 = .ok (.sipush 999, 3) := by decide +kernel
theorem dX6_isSealing_71 : decode cX6_isSealing 71 = .ok (.invokestatic 96, 3) := by decide +kernel
theorem dX6_isSealing_74 : decode cX6_isSealing 74 = .ok (.ifCond .ne 5, 3) := by decide +kernel
theorem dX6_isSealing_77 : decode cX6_isSealing 77 = .ok (.iconst 0, 1) := by decide +kernel
theorem dX6_isSealing_78 : decode cX6_isSealing 78 = .ok (.ireturn, 1) := by decide +kernel
theorem dX6_isSealing_79 : decode cX6_isSealing 79 = .ok (.aload_n 0, 1) := by decide +kernel
theorem dX6_isSealing_80 : decode cX6_isSealing 80 = .ok (.getfield 54, 3) := by decide +kernel
theorem dX6_isSealing_83 : decode cX6_isSealing 83 = .ok (.iload_n 2, 1) := by decide +kernel
theorem dX6_isSealing_84 : decode cX6_isSealing 84 = .ok (.iconst (-1), 1) := by decide +kernel
theorem dX6_isSealing_85 : decode cX6_isSealing 85 = .ok (.iastore, 1) := by decide +kernel
theorem dX6_isSealing_86 : decode cX6_isSealing 86 = .ok (.iconst 1, 1) := by decide +kernel
theorem dX6_isSealing_87 : decode cX6_isSealing 87 = .ok (.ireturn, 1) := by decide +kernel
theorem dX6_isSealing_88 : decode cX6_isSealing 88 = .ok (.aload_n 0, 1) := by decide +kernel
theorem dX6_isSealing_89 : decode cX6_isSealing 89 = .ok (.getfield 54, 3) := by decide +kernel
theorem dX6_isSealing_92 : decode cX6_isSealing 92 = .ok (.iload_n 2, 1) := by decide +kernel
theorem dX6_isSealing_93 : decode cX6_isSealing 93 = .ok (.iaload, 1) := by decide +kernel
theorem dX6_isSealing_94 : decode cX6_isSealing 94 = .ok (.iconst (-1), 1) := by decide +kernel
theorem dX6_isSealing_95 : decode cX6_isSealing 95 = .ok (.if_icmp .ne 22, 3) := by decide +kernel
theorem dX6_isSealing_98 : decode cX6_isSealing 98 = .ok (.aload_n 0, 1) := by decide +kernel
theorem dX6_isSealing_99 : decode cX6_isSealing 99 = .ok (.iload 5, 2) := by decide +kernel
theorem dX6_isSealing_101 : decode cX6_isSealing 101 = .ok (.invokevirtual 175, 3) := by decide +kernel
theorem dX6_isSealing_104 : decode cX6_isSealing 104 = .ok (.ifCond .eq 13, 3) := by decide +kernel
theorem dX6_isSealing_107 : decode cX6_isSealing 107 = .ok (.aload_n 0, 1) := by decide +kernel
theorem dX6_isSealing_108 : decode cX6_isSealing 108 = .ok (.getfield 75, 3) := by decide +kernel
theorem dX6_isSealing_111 : decode cX6_isSealing 111 = .ok (.iload 5, 2) := by decide +kernel
theorem dX6_isSealing_113 : decode cX6_isSealing 113 = .ok (.baload, 1) := by decide +kernel
theorem dX6_isSealing_114 : decode cX6_isSealing 114 = .ok (.ifCond .eq 5, 3) := by decide +kernel
theorem dX6_isSealing_117 : decode cX6_isSealing 117 = .ok (.iconst 0, 1) := by decide +kernel
theorem dX6_isSealing_118 : decode cX6_isSealing 118 = .ok (.ireturn, 1) := by decide +kernel
theorem dX6_isSealing_119 : decode cX6_isSealing 119 = .ok (.aload_n 0, 1) := by decide +kernel
theorem dX6_isSealing_120 : decode cX6_isSealing 120 = .ok (.getfield 54, 3) := by decide +kernel
theorem dX6_isSealing_123 : decode cX6_isSealing 123 = .ok (.iload_n 2, 1) := by decide +kernel
theorem dX6_isSealing_124 : decode cX6_isSealing 124 = .ok (.iload 5, 2) := by decide +kernel
theorem dX6_isSealing_126 : decode cX6_isSealing 126 = .ok (.iastore, 1) := by decide +kernel
theorem dX6_isSealing_127 : decode cX6_isSealing 127 = .ok (.aload_n 0, 1) := by decide +kernel
theorem dX6_isSealing_128 : decode cX6_isSealing 128 = .ok (.getfield 75, 3) := by decide +kernel
theorem dX6_isSealing_131 : decode cX6_isSealing 131 = .ok (.iload 5, 2) := by decide +kernel
theorem dX6_isSealing_133 : decode cX6_isSealing 133 = .ok (.iconst 1, 1) := by decide +kernel
theorem dX6_isSealing_134 : decode cX6_isSealing 134 = .ok (.bastore, 1) := by decide +kernel
theorem dX6_isSealing_135 : decode cX6_isSealing 135 = .ok (.iconst 1, 1) := by decide +kernel
theorem dX6_isSealing_136 : decode cX6_isSealing 136 = .ok (.ireturn, 1) := by decide +kernel
def j_X6_isSealing_49  (Q : Int32 → St → Prop) (v1 : Int32) (v2 : Int32) (v5 : Int32) (σ : St) : Prop :=
  if v1 = 9 then
  (vp_in v2 60 ∧
  (if (σ 12 (ix v2)) = (-1) then
  (Q 0 σ)
  else (wp_X6_isIn σ v5 0 999 (fun y8 σ7 =>
  if y8 = 0 then
  (Q 0 σ7)
  else (vp_in v2 60 ∧
  nmS (up2 σ7 12 (ix v2) (-1)) (fun σ9 =>
  Q 1 σ9))))))
  else (vp_in v2 60 ∧
  (if (σ 12 (ix v2)) = (-1) then
  (wp_X6_isSeal σ v5 (fun y4 σ3 =>
  if y4 = 0 then
  (Q 0 σ3)
  else (vp_in v5 600 ∧
  (if (σ3 19 (ix v5)) = 0 then
  (vp_in v2 60 ∧
  nmS (up2 σ3 12 (ix v2) v5) (fun σ5 =>
  vp_in v5 600 ∧
  nmS (up2 σ5 19 (ix v5) 1) (fun σ6 =>
  Q 1 σ6)))
  else (Q 0 σ3)))))
  else (Q 0 σ)))
theorem wk_X6_isSealing_49 (X : cx p s m args c cX6_isSealing 6 RX6 D (wM cI cZ a) A (tyW cI cZ cH)) (hr9 : meth.sig.returnType = (some .boolean)) (hlk9 : meth.locks = false)  {Q : Int32 → St → Prop} {v1 : Int32} {v2 : Int32} {v5 : Int32} {σ : St} (h : j_X6_isSealing_49 Q v1 v2 v5 σ) : go p l e rm_X6_isSealing s m args below meth c D (wM cI cZ a) A 0 0 (MQ below (va_Qi (fun r9 u9 => isB r9 ∧ Q r9 u9) (atw D (wM cI cZ a) (tyW cI cZ cH) A) A) args s 0 0 A) 6 49 [(0, .ref (a 0)), (1, .int v1), (2, .int v2), (5, .int v5)] [] σ := by
  delta j_X6_isSealing_49 at h
  refine r_iload_n X 1 50 dX6_isSealing_49 rfl rfl rfl ?_
  refine r_bipush (v := 9) X 52 dX6_isSealing_50 (by decide) rfl ?_
  refine r_icmp_ne X 88 55 h dX6_isSealing_52 rfl rfl (fun h => ?_) (fun h => ?_)
  · refine r_aload_n X 0 89 dX6_isSealing_88 rfl rfl rfl ?_
    refine g_X6_54 X 92 dX6_isSealing_89 rfl ?_
    refine r_iload_n X 2 93 dX6_isSealing_92 rfl rfl rfl ?_
    obtain ⟨hin, h⟩ := h
    refine l_M12 X 94 hin dX6_isSealing_93 rfl ?_
    refine r_iconst (v := (-1)) X 95 dX6_isSealing_94 (by decide) rfl ?_
    refine r_icmp_ne X 117 98 h dX6_isSealing_95 rfl rfl (fun h => ?_) (fun h => ?_)
    · refine r_iconst (v := 0) X 118 dX6_isSealing_117 (by decide) rfl ?_
      exact r_zret X hr9 hlk9 isB_0 h dX6_isSealing_118
    · refine r_aload_n X 0 99 dX6_isSealing_98 rfl rfl rfl ?_
      refine r_iload X 3 101 dX6_isSealing_99 rfl rfl ?_
      refine r_callI (As := [.int v5]) (rest := []) X 104 (c_X6_isSeal h) ml_X6_175 lk_X6_isSeal wM_at_0 rfl rfl rfl (Nat.le_of_ble_eq_true rfl) ⟨rfl, rfl, ⟨Nat.le_of_ble_eq_true rfl, Nat.le_of_ble_eq_true rfl⟩, Nat.le_of_ble_eq_true rfl, Nat.le_of_ble_eq_true rfl⟩ dX6_isSealing_101 rfl (fun y4 σ3 h => ?_)
      obtain ⟨hb_y4, h⟩ := h
      refine r_if_eq X 117 107 h dX6_isSealing_104 rfl rfl (fun h => ?_) (fun h => ?_)
      · refine r_iconst (v := 0) X 118 dX6_isSealing_117 (by decide) rfl ?_
        exact r_zret X hr9 hlk9 isB_0 h dX6_isSealing_118
      · refine r_aload_n X 0 108 dX6_isSealing_107 rfl rfl rfl ?_
        refine g_X6_75 X 111 dX6_isSealing_108 rfl ?_
        refine r_iload X 3 113 dX6_isSealing_111 rfl rfl ?_
        obtain ⟨hin, h⟩ := h
        refine l_M19 X 114 hin dX6_isSealing_113 rfl ?_
        refine r_if_eq X 119 117 h dX6_isSealing_114 rfl rfl (fun h => ?_) (fun h => ?_)
        · refine r_aload_n X 0 120 dX6_isSealing_119 rfl rfl rfl ?_
          refine g_X6_54 X 123 dX6_isSealing_120 rfl ?_
          refine r_iload_n X 2 124 dX6_isSealing_123 rfl rfl rfl ?_
          refine r_iload X 3 126 dX6_isSealing_124 rfl rfl ?_
          obtain ⟨hin, h⟩ := h
          refine s_M12 X 127 hin dX6_isSealing_126 rfl ?_
          refine r_nmS h (fun σ5 h => ?_)
          refine r_aload_n X 0 128 dX6_isSealing_127 rfl rfl rfl ?_
          refine g_X6_75 X 131 dX6_isSealing_128 rfl ?_
          refine r_iload X 3 133 dX6_isSealing_131 rfl rfl ?_
          refine r_iconst (v := 1) X 134 dX6_isSealing_133 (by decide) rfl ?_
          obtain ⟨hin, h⟩ := h
          refine s_M19 (x8 := 1) X (by decide +kernel) 135 hin dX6_isSealing_134 rfl ?_
          refine r_nmS h (fun σ6 h => ?_)
          refine r_iconst (v := 1) X 136 dX6_isSealing_135 (by decide) rfl ?_
          exact r_zret X hr9 hlk9 isB_1 h dX6_isSealing_136
        · refine r_iconst (v := 0) X 118 dX6_isSealing_117 (by decide) rfl ?_
          exact r_zret X hr9 hlk9 isB_0 h dX6_isSealing_118
  · refine r_aload_n X 0 56 dX6_isSealing_55 rfl rfl rfl ?_
    refine g_X6_54 X 59 dX6_isSealing_56 rfl ?_
    refine r_iload_n X 2 60 dX6_isSealing_59 rfl rfl rfl ?_
    obtain ⟨hin, h⟩ := h
    refine l_M12 X 61 hin dX6_isSealing_60 rfl ?_
    refine r_iconst (v := (-1)) X 62 dX6_isSealing_61 (by decide) rfl ?_
    refine r_icmp_eq X 77 65 h dX6_isSealing_62 rfl rfl (fun h => ?_) (fun h => ?_)
    · refine r_iconst (v := 0) X 78 dX6_isSealing_77 (by decide) rfl ?_
      exact r_zret X hr9 hlk9 isB_0 h dX6_isSealing_78
    · refine r_iload X 3 67 dX6_isSealing_65 rfl rfl ?_
      refine r_iconst (v := 0) X 68 dX6_isSealing_67 (by decide) rfl ?_
      refine r_sipush (v := 999) X 71 dX6_isSealing_68 (by decide) rfl ?_
      refine r_callSI (As := [.int v5, .int 0, .int 999]) (rest := []) X 74 (c_X6_isIn h) ml_X6_96 lk_X6_isIn sy_X6_isIn rfl rfl (Nat.le_of_ble_eq_true rfl) ⟨rfl, rfl, ⟨Nat.le_of_ble_eq_true rfl, Nat.le_of_ble_eq_true rfl⟩, Nat.le_of_ble_eq_true rfl, Nat.le_of_ble_eq_true rfl⟩ dX6_isSealing_71 rfl (fun y8 σ7 h => ?_)
      obtain ⟨hb_y8, h⟩ := h
      refine r_if_ne X 79 77 h dX6_isSealing_74 rfl rfl (fun h => ?_) (fun h => ?_)
      · refine r_aload_n X 0 80 dX6_isSealing_79 rfl rfl rfl ?_
        refine g_X6_54 X 83 dX6_isSealing_80 rfl ?_
        refine r_iload_n X 2 84 dX6_isSealing_83 rfl rfl rfl ?_
        refine r_iconst (v := (-1)) X 85 dX6_isSealing_84 (by decide) rfl ?_
        obtain ⟨hin, h⟩ := h
        refine s_M12 X 86 hin dX6_isSealing_85 rfl ?_
        refine r_nmS h (fun σ9 h => ?_)
        refine r_iconst (v := 1) X 87 dX6_isSealing_86 (by decide) rfl ?_
        exact r_zret X hr9 hlk9 isB_1 h dX6_isSealing_87
      · refine r_iconst (v := 0) X 78 dX6_isSealing_77 (by decide) rfl ?_
        exact r_zret X hr9 hlk9 isB_0 h dX6_isSealing_78
def wp_X6_isSealing  (σ : St) (x1 : Int32) (x2 : Int32) (x3 : Int32) (x4 : Int32) (x5 : Int32) (Q : Int32 → St → Prop) : Prop :=
  wp_X6_isBag σ x2 (fun y2 σ1 =>
  if y2 = 0 then
  (Q 0 σ1)
  else (if x1 = 10 then
  (wp_X6_isIn σ1 x5 (-1) 999 (fun y13 σ12 =>
  Q y13 σ12))
  else (vp_in x2 60 ∧
  (if (σ1 4 (ix x2)) = 5 then
  (wp_X6_hasKeepers σ1 x3 x4 1 (fun y11 σ10 =>
  if y11 = 0 then
  (Q 0 σ10)
  else (j_X6_isSealing_49 Q x1 x2 x5 σ10)))
  else (j_X6_isSealing_49 Q x1 x2 x5 σ1)))))
theorem c_X6_isSealing  {σ : St} {x1 : Int32} {x2 : Int32} {x3 : Int32} {x4 : Int32} {x5 : Int32} {Q : Int32 → St → Prop} (h : wp_X6_isSealing σ x1 x2 x3 x4 x5 Q) : ctI l yX6_isSealing cX6_isSealing 6 (some .boolean) rm_X6_isSealing D (wM cI cZ a) (tyW cI cZ cH) [.ref (a 0), .int x1, .int x2, .int x3, .int x4, .int x5] σ (fun r9 u9 => isB r9 ∧ Q r9 u9) := by
  refine mk_I (wM_ok cI cZ a) (by decide +kernel) (Nat.le_of_ble_eq_true rfl) (fun p e s m args below meth c A X hr9 hlk9 => ?_)
  refine r_pick (lv' := [(0, .ref (a 0)), (1, .int x1), (2, .int x2), (3, .int x3), (4, .int x4), (5, .int x5)]) [0, 1, 2, 3, 4, 5] rfl ?_
  delta wp_X6_isSealing at h
  refine r_aload_n X 0 1 dX6_isSealing_0 rfl rfl rfl ?_
  refine r_iload_n X 2 2 dX6_isSealing_1 rfl rfl rfl ?_
  refine r_callI (As := [.int x2]) (rest := []) X 5 (c_X6_isBag h) ml_X6_162 lk_X6_isBag wM_at_0 rfl rfl rfl (Nat.le_of_ble_eq_true rfl) ⟨rfl, rfl, ⟨Nat.le_of_ble_eq_true rfl, Nat.le_of_ble_eq_true rfl⟩, Nat.le_of_ble_eq_true rfl, Nat.le_of_ble_eq_true rfl⟩ dX6_isSealing_2 rfl (fun y2 σ1 h => ?_)
  obtain ⟨hb_y2, h⟩ := h
  refine r_if_ne X 10 8 h dX6_isSealing_5 rfl rfl (fun h => ?_) (fun h => ?_)
  · refine r_iload_n X 1 11 dX6_isSealing_10 rfl rfl rfl ?_
    refine r_bipush (v := 10) X 13 dX6_isSealing_11 (by decide) rfl ?_
    refine r_icmp_ne X 26 16 h dX6_isSealing_13 rfl rfl (fun h => ?_) (fun h => ?_)
    · refine r_aload_n X 0 27 dX6_isSealing_26 rfl rfl rfl ?_
      refine g_X6_24 X 30 dX6_isSealing_27 rfl ?_
      refine r_iload_n X 2 31 dX6_isSealing_30 rfl rfl rfl ?_
      obtain ⟨hin, h⟩ := h
      refine l_M4 X 32 hin dX6_isSealing_31 rfl ?_
      refine r_iconst (v := 5) X 33 dX6_isSealing_32 (by decide) rfl ?_
      refine r_icmp_ne X 49 36 h dX6_isSealing_33 rfl rfl (fun h => ?_) (fun h => ?_)
      · refine r_pick (lv' := [(0, .ref (a 0)), (1, .int x1), (2, .int x2), (5, .int x5)]) [0, 1, 2, 5] rfl ?_
        exact wk_X6_isSealing_49 X hr9 hlk9 h
      · refine r_aload_n X 0 37 dX6_isSealing_36 rfl rfl rfl ?_
        refine r_iload_n X 3 38 dX6_isSealing_37 rfl rfl rfl ?_
        refine r_iload X 4 40 dX6_isSealing_38 rfl rfl ?_
        refine r_iconst (v := 1) X 41 dX6_isSealing_40 (by decide) rfl ?_
        refine r_callI (As := [.int x3, .int x4, .int 1]) (rest := []) X 44 (c_X6_hasKeepers h) ml_X6_139 lk_X6_hasKeepers wM_at_0 rfl rfl rfl (Nat.le_of_ble_eq_true rfl) ⟨rfl, rfl, ⟨Nat.le_of_ble_eq_true rfl, Nat.le_of_ble_eq_true rfl⟩, Nat.le_of_ble_eq_true rfl, Nat.le_of_ble_eq_true rfl⟩ dX6_isSealing_41 rfl (fun y11 σ10 h => ?_)
        obtain ⟨hb_y11, h⟩ := h
        refine r_if_ne X 49 47 h dX6_isSealing_44 rfl rfl (fun h => ?_) (fun h => ?_)
        · refine r_pick (lv' := [(0, .ref (a 0)), (1, .int x1), (2, .int x2), (5, .int x5)]) [0, 1, 2, 5] rfl ?_
          exact wk_X6_isSealing_49 X hr9 hlk9 h
        · refine r_iconst (v := 0) X 48 dX6_isSealing_47 (by decide) rfl ?_
          exact r_zret X hr9 hlk9 isB_0 h dX6_isSealing_48
    · refine r_iload X 5 18 dX6_isSealing_16 rfl rfl ?_
      refine r_iconst (v := (-1)) X 19 dX6_isSealing_18 (by decide) rfl ?_
      refine r_sipush (v := 999) X 22 dX6_isSealing_19 (by decide) rfl ?_
      refine r_callSI (As := [.int x5, .int (-1), .int 999]) (rest := []) X 25 (c_X6_isIn h) ml_X6_96 lk_X6_isIn sy_X6_isIn rfl rfl (Nat.le_of_ble_eq_true rfl) ⟨rfl, rfl, ⟨Nat.le_of_ble_eq_true rfl, Nat.le_of_ble_eq_true rfl⟩, Nat.le_of_ble_eq_true rfl, Nat.le_of_ble_eq_true rfl⟩ dX6_isSealing_22 rfl (fun y13 σ12 h => ?_)
      obtain ⟨hb_y13, h⟩ := h
      exact r_zret X hr9 hlk9 hb_y13 h dX6_isSealing_25
  · refine r_iconst (v := 0) X 9 dX6_isSealing_8 (by decide) rfl ?_
    exact r_zret X hr9 hlk9 isB_0 h dX6_isSealing_9
def rm_X6_takes : Room := { frames := 3, cells := 0, slots := 0, locals := 66 }
theorem dX6_takes_0 : decode cX6_takes 0 = .ok (.aload_n 0, 1) := by decide +kernel
theorem dX6_takes_1 : decode cX6_takes 1 = .ok (.iload_n 2, 1) := by decide +kernel
theorem dX6_takes_2 : decode cX6_takes 2 = .ok (.invokevirtual 178, 3) := by decide +kernel
theorem dX6_takes_5 : decode cX6_takes 5 = .ok (.ifCond .ne 5, 3) := by decide +kernel
theorem dX6_takes_8 : decode cX6_takes 8 = .ok (.iconst 0, 1) := by decide +kernel
theorem dX6_takes_9 : decode cX6_takes 9 = .ok (.ireturn, 1) := by decide +kernel
theorem dX6_takes_10 : decode cX6_takes 10 = .ok (.iload_n 1, 1) := by decide +kernel
theorem dX6_takes_11 : decode cX6_takes 11 = .ok (.bipush 13, 2) := by decide +kernel
theorem dX6_takes_13 : decode cX6_takes 13 = .ok (.if_icmp .ne 33, 3) := by decide +kernel
theorem dX6_takes_16 : decode cX6_takes 16 = .ok (.iload 6, 2) := by decide +kernel
theorem dX6_takes_18 : decode cX6_takes 18 = .ok (.iconst 0, 1) := by decide +kernel
theorem dX6_takes_19 : decode cX6_takes 19 = .ok (.aload_n 0, 1) := by decide +kernel
theorem dX6_takes_20 : decode cX6_takes 20 = .ok (.getfield 51, 3) := by decide +kernel
theorem dX6_takes_23 : decode cX6_takes 23 = .ok (.iload_n 2, 1) := by decide +kernel
theorem dX6_takes_24 : decode cX6_takes 24 = .ok (.iaload, 1) := by decide +kernel
theorem dX6_takes_25 : decode cX6_takes 25 = .ok (.invokestatic 96, 3) := by decide +kernel
theorem dX6_takes_28 : decode cX6_takes 28 = .ok (.ifCond .ne 5, 3) := by decide +kernel
theorem dX6_takes_31 : decode cX6_takes 31 = .ok (.iconst 0, 1) := by decide +kernel
theorem dX6_takes_32 : decode cX6_takes 32 = .ok (.ireturn, 1) := by decide +kernel
theorem dX6_takes_33 : decode cX6_takes 33 = .ok (.aload_n 0, 1) := by decide +kernel
theorem dX6_takes_34 : decode cX6_takes 34 = .ok (.getfield 51, 3) := by decide +kernel
theorem dX6_takes_37 : decode cX6_takes 37 = .ok (.iload_n 2, 1) := by decide +kernel
theorem dX6_takes_38 : decode cX6_takes 38 = .ok (.dup2, 1) := by decide +kernel
theorem dX6_takes_39 : decode cX6_takes 39 = .ok (.iaload, 1) := by decide +kernel
theorem dX6_takes_40 : decode cX6_takes 40 = .ok (.iload 6, 2) := by decide +kernel
theorem dX6_takes_42 : decode cX6_takes 42 = .ok (.isub, 1) := by decide +kernel
theorem dX6_takes_43 : decode cX6_takes 43 = .ok (.iastore, 1) := by decide +kernel
theorem dX6_takes_44 : decode cX6_takes 44 = .ok (.iconst 1, 1) := by decide +kernel
theorem dX6_takes_45 : decode cX6_takes 45 = .ok (.ireturn, 1) := by decide +kernel
theorem dX6_takes_46 : decode cX6_takes 46 = .ok (.aload_n 0, 1) := by decide +kernel
theorem dX6_takes_47 : decode cX6_takes 47 = .ok (.iload_n 3, 1) := by decide +kernel
theorem dX6_takes_48 : decode cX6_takes 48 = .ok (.iload 4, 2) := by decide +kernel
theorem dX6_takes_50 : decode cX6_takes 50 = .ok (.aload_n 0, 1) := by decide +kernel
theorem dX6_takes_51 : decode cX6_takes 51 = .ok (.getfield 24, 3) := by decide +kernel
theorem dX6_takes_54 : decode cX6_takes 54 = .ok (.iload_n 2, 1) := by decide +kernel
theorem dX6_takes_55 : decode cX6_takes 55 = .ok (.iaload, 1) := by decide +kernel
theorem dX6_takes_56 : decode cX6_takes 56 = .ok (.iconst 5, 1) := by decide +kernel
theorem dX6_takes_57 : decode cX6_takes 57 = .ok (.if_icmp .ne 7, 3) := by decide +kernel
theorem dX6_takes_60 : decode cX6_takes 60 = .ok (.iconst 1, 1) := by decide +kernel
theorem dX6_takes_61 : decode cX6_takes 61 = .ok (.goto 4, 3) := by decide +kernel
theorem dX6_takes_64 : decode cX6_takes 64 = .ok (.iconst 0, 1) := by decide +kernel
theorem dX6_takes_65 : decode cX6_takes 65 = .ok (.invokevirtual 139, 3) := by decide +kernel
theorem dX6_takes_68 : decode cX6_takes 68 = .ok (.ifCond .eq 49, 3) := by decide +kernel
theorem dX6_takes_71 : decode cX6_takes 71 = .ok (.iload 5, 2) := by decide +kernel
theorem dX6_takes_73 : decode cX6_takes 73 = .ok (.iconst 0, 1) := by decide +kernel
theorem dX6_takes_74 : decode cX6_takes 74 = .ok (.aload_n 0, 1) := by decide +kernel
theorem dX6_takes_75 : decode cX6_takes 75 = .ok (.getfield 93, 3) := by decide +kernel
theorem dX6_takes_78 : decode cX6_takes 78 = .ok (.iconst 1, 1) := by decide +kernel
theorem dX6_takes_79 : decode cX6_takes 79 = .ok (.isub, 1) := by decide +kernel
theorem dX6_takes_80 : decode cX6_takes 80 = .ok (.invokestatic 96, 3) := by decide +kernel
theorem dX6_takes_83 : decode cX6_takes 83 = .ok (.ifCond .eq 34, 3) := by decide +kernel
theorem dX6_takes_86 : decode cX6_takes 86 = .ok (.aload_n 0, 1) := by decide +kernel
theorem dX6_takes_87 : decode cX6_takes 87 = .ok (.getfield 72, 3) := by decide +kernel
theorem dX6_takes_90 : decode cX6_takes 90 = .ok (.iload 5, 2) := by decide +kernel
theorem dX6_takes_92 : decode cX6_takes 92 = .ok (.baload, 1) := by decide +kernel
theorem dX6_takes_93 : decode cX6_takes 93 = .ok (.ifCond .ne 24, 3) := by decide +kernel
theorem dX6_takes_96 : decode cX6_takes 96 = .ok (.aload_n 0, 1) := by decide +kernel
theorem dX6_takes_97 : decode cX6_takes 97 = .ok (.getfield 24, 3) := by decide +kernel
theorem dX6_takes_100 : decode cX6_takes 100 = .ok (.iload 5, 2) := by decide +kernel
theorem dX6_takes_102 : decode cX6_takes 102 = .ok (.iaload, 1) := by decide +kernel
theorem dX6_takes_103 : decode cX6_takes 103 = .ok (.iload_n 1, 1) := by decide +kernel
theorem dX6_takes_104 : decode cX6_takes 104 = .ok (.bipush 11, 2) := by decide +kernel
theorem dX6_takes_106 : decode cX6_takes 106 = .ok (.if_icmp .ne 7, 3) := by decide +kernel
theorem dX6_takes_109 : decode cX6_takes 109 = .ok (.iconst 2, 1) := by decide +kernel
theorem dX6_takes_110 : decode cX6_takes 110 = .ok (.goto 4, 3) := by decide +kernel
theorem dX6_takes_113 : decode cX6_takes 113 = .ok (.iconst 3, 1) := by decide +kernel
theorem dX6_takes_114 : decode cX6_takes 114 = .ok (.if_icmp .eq 5, 3) := by decide +kernel
theorem dX6_takes_117 : decode cX6_takes 117 = .ok (.iconst 0, 1) := by decide +kernel
theorem dX6_takes_118 : decode cX6_takes 118 = .ok (.ireturn, 1) := by decide +kernel
theorem dX6_takes_119 : decode cX6_takes 119 = .ok (.iload_n 1, 1) := by decide +kernel
theorem dX6_takes_120 : decode cX6_takes 120 = .ok (.bipush 11, 2) := by decide +kernel
theorem dX6_takes_122 : decode cX6_takes 122 = .ok (.if_icmp .ne 20, 3) := by decide +kernel
theorem dX6_takes_125 : decode cX6_takes 125 = .ok (.iload 6, 2) := by decide +kernel
theorem dX6_takes_127 : decode cX6_takes 127 = .ok (.iconst 1, 1) := by decide +kernel
theorem dX6_takes_128 : decode cX6_takes 128 = .ok (.aload_n 0, 1) := by decide +kernel
theorem dX6_takes_129 : decode cX6_takes 129 = .ok (.getfield 51, 3) := by decide +kernel
theorem dX6_takes_132 : decode cX6_takes 132 = .ok (.iload_n 2, 1) := by decide +kernel
theorem dX6_takes_133 : decode cX6_takes 133 = .ok (.iaload, 1) := by decide +kernel
theorem dX6_takes_134 : decode cX6_takes 134 = .ok (.invokestatic 96, 3) := by decide +kernel
theorem dX6_takes_137 : decode cX6_takes 137 = .ok (.ifCond .ne 5, 3) := by decide +kernel
theorem dX6_takes_140 : decode cX6_takes 140 = .ok (.iconst 0, 1) := by decide +kernel
theorem dX6_takes_141 : decode cX6_takes 141 = .ok (.ireturn, 1) := by decide +kernel
theorem dX6_takes_142 : decode cX6_takes 142 = .ok (.aload_n 0, 1) := by decide +kernel
theorem dX6_takes_143 : decode cX6_takes 143 = .ok (.getfield 72, 3) := by decide +kernel
theorem dX6_takes_146 : decode cX6_takes 146 = .ok (.iload 5, 2) := by decide +kernel
theorem dX6_takes_148 : decode cX6_takes 148 = .ok (.iconst 1, 1) := by decide +kernel
theorem dX6_takes_149 : decode cX6_takes 149 = .ok (.bastore, 1) := by decide +kernel
theorem dX6_takes_150 : decode cX6_takes 150 = .ok (.aload_n 0, 1) := by decide +kernel
theorem dX6_takes_151 : decode cX6_takes 151 = .ok (.getfield 69, 3) := by decide +kernel
theorem dX6_takes_154 : decode cX6_takes 154 = .ok (.iload 5, 2) := by decide +kernel
theorem dX6_takes_156 : decode cX6_takes 156 = .ok (.iload_n 2, 1) := by decide +kernel
theorem dX6_takes_157 : decode cX6_takes 157 = .ok (.iastore, 1) := by decide +kernel
theorem dX6_takes_158 : decode cX6_takes 158 = .ok (.aload_n 0, 1) := by decide +kernel
theorem dX6_takes_159 : decode cX6_takes 159 = .ok (.iload 5, 2) := by decide +kernel
theorem dX6_takes_161 : decode cX6_takes 161 = .ok (.iconst 2, 1) := by decide +kernel
theorem dX6_takes_162 : decode cX6_takes 162 = .ok (.iload_n 3, 1) := by decide +kernel
theorem dX6_takes_163 : decode cX6_takes 163 = .ok (.invokevirtual 150, 3) := by decide +kernel
theorem dX6_takes_166 : decode cX6_takes 166 = .ok (.iload_n 1, 1) := by decide +kernel
theorem dX6_takes_167 : decode cX6_takes 167 = .ok (.bipush 11, 2) := by decide +kernel
theorem dX6_takes_169 : decode cX6_takes 169 = .ok (.if_icmp .ne 23, 3) := by decide +kernel
theorem dX6_takes_172 : decode cX6_takes 172 = .ok (.aload_n 0, 1) := by decide +kernel
theorem dX6_takes_173 : decode cX6_takes 173 = .ok (.getfield 51, 3) := by decide +kernel
theorem dX6_takes_176 : decode cX6_takes 176 = .ok (.iload 5, 2) := by decide +kernel
theorem dX6_takes_178 : decode cX6_takes 178 = .ok (.iload 6, 2) := by decide +kernel
theorem dX6_takes_180 : decode cX6_takes 180 = .ok (.iastore, 1) := by decide +kernel
theorem dX6_takes_181 : decode cX6_takes 181 = .ok (.aload_n 0, 1) := by decide +kernel
theorem dX6_takes_182 : decode cX6_takes 182 = .ok (.getfield 51, 3) := by decide +kernel
theorem dX6_takes_185 : decode cX6_takes 185 = .ok (.iload_n 2, 1) := by decide +kernel
theorem dX6_takes_186 : decode cX6_takes 186 = .ok (.dup2, 1) := by decide +kernel
theorem dX6_takes_187 : decode cX6_takes 187 = .ok (.iaload, 1) := by decide +kernel
theorem dX6_takes_188 : decode cX6_takes 188 = .ok (.iload 6, 2) := by decide +kernel
theorem dX6_takes_190 : decode cX6_takes 190 = .ok (.isub, 1) := by decide +kernel
theorem dX6_takes_191 : decode cX6_takes 191 = .ok (.iastore, 1) := by decide +kernel
theorem dX6_takes_192 : decode cX6_takes 192 = .ok (.iconst 1, 1) := by decide +kernel
theorem dX6_takes_193 : decode cX6_takes 193 = .ok (.ireturn, 1) := by decide +kernel
def j_X6_takes_142  (Q : Int32 → St → Prop) (v1 : Int32) (v2 : Int32) (v3 : Int32) (v5 : Int32) (v6 : Int32) (σ : St) : Prop :=
  vp_in v5 60 ∧
  nmS (up2 σ 18 (ix v5) 1) (fun σ7 =>
  vp_in v5 60 ∧
  nmS (up2 σ7 17 (ix v5) v2) (fun σ8 =>
  wp_X6_go σ8 v5 2 v3 (fun σ9 =>
  if v1 = 11 then
  (vp_in v5 60 ∧
  nmS (up2 σ9 11 (ix v5) v6) (fun σ10 =>
  vp_in v2 60 ∧
  (vp_in v2 60 ∧
  nmS (up2 σ10 11 (ix v2) ((σ10 11 (ix v2)) - v6)) (fun σ11 =>
  Q 1 σ11))))
  else (Q 1 σ9))))
theorem wk_X6_takes_142 (X : cx p s m args c cX6_takes 7 RX6 D (wM cI cZ a) A (tyW cI cZ cH)) (hr9 : meth.sig.returnType = (some .boolean)) (hlk9 : meth.locks = false)  {Q : Int32 → St → Prop} {v1 : Int32} {v2 : Int32} {v3 : Int32} {v5 : Int32} {v6 : Int32} {σ : St} (h : j_X6_takes_142 Q v1 v2 v3 v5 v6 σ) : go p l e rm_X6_takes s m args below meth c D (wM cI cZ a) A 0 0 (MQ below (va_Qi (fun r9 u9 => isB r9 ∧ Q r9 u9) (atw D (wM cI cZ a) (tyW cI cZ cH) A) A) args s 0 0 A) 7 142 [(0, .ref (a 0)), (1, .int v1), (2, .int v2), (3, .int v3), (5, .int v5), (6, .int v6)] [] σ := by
  delta j_X6_takes_142 at h
  refine r_aload_n X 0 143 dX6_takes_142 rfl rfl rfl ?_
  refine g_X6_72 X 146 dX6_takes_143 rfl ?_
  refine r_iload X 4 148 dX6_takes_146 rfl rfl ?_
  refine r_iconst (v := 1) X 149 dX6_takes_148 (by decide) rfl ?_
  obtain ⟨hin, h⟩ := h
  refine s_M18 (x8 := 1) X (by decide +kernel) 150 hin dX6_takes_149 rfl ?_
  refine r_nmS h (fun σ7 h => ?_)
  refine r_aload_n X 0 151 dX6_takes_150 rfl rfl rfl ?_
  refine g_X6_69 X 154 dX6_takes_151 rfl ?_
  refine r_iload X 4 156 dX6_takes_154 rfl rfl ?_
  refine r_iload_n X 2 157 dX6_takes_156 rfl rfl rfl ?_
  obtain ⟨hin, h⟩ := h
  refine s_M17 X 158 hin dX6_takes_157 rfl ?_
  refine r_nmS h (fun σ8 h => ?_)
  refine r_aload_n X 0 159 dX6_takes_158 rfl rfl rfl ?_
  refine r_iload X 4 161 dX6_takes_159 rfl rfl ?_
  refine r_iconst (v := 2) X 162 dX6_takes_161 (by decide) rfl ?_
  refine r_iload_n X 3 163 dX6_takes_162 rfl rfl rfl ?_
  refine r_callV (As := [.int v5, .int 2, .int v3]) (rest := []) X 166 (c_X6_go h) ml_X6_150 lk_X6_go wM_at_0 rfl rfl rfl (Nat.le_of_ble_eq_true rfl) ⟨rfl, rfl, ⟨Nat.le_of_ble_eq_true rfl, Nat.le_of_ble_eq_true rfl⟩, Nat.le_of_ble_eq_true rfl, Nat.le_of_ble_eq_true rfl⟩ dX6_takes_163 rfl (fun σ9 h => ?_)
  refine r_iload_n X 1 167 dX6_takes_166 rfl rfl rfl ?_
  refine r_bipush (v := 11) X 169 dX6_takes_167 (by decide) rfl ?_
  refine r_icmp_ne X 192 172 h dX6_takes_169 rfl rfl (fun h => ?_) (fun h => ?_)
  · refine r_iconst (v := 1) X 193 dX6_takes_192 (by decide) rfl ?_
    exact r_zret X hr9 hlk9 isB_1 h dX6_takes_193
  · refine r_aload_n X 0 173 dX6_takes_172 rfl rfl rfl ?_
    refine g_X6_51 X 176 dX6_takes_173 rfl ?_
    refine r_iload X 4 178 dX6_takes_176 rfl rfl ?_
    refine r_iload X 5 180 dX6_takes_178 rfl rfl ?_
    obtain ⟨hin, h⟩ := h
    refine s_M11 X 181 hin dX6_takes_180 rfl ?_
    refine r_nmS h (fun σ10 h => ?_)
    refine r_aload_n X 0 182 dX6_takes_181 rfl rfl rfl ?_
    refine g_X6_51 X 185 dX6_takes_182 rfl ?_
    refine r_iload_n X 2 186 dX6_takes_185 rfl rfl rfl ?_
    refine r_dup2 X 187 dX6_takes_186 rfl rfl rfl ?_
    obtain ⟨hin, h⟩ := h
    refine l_M11 X 188 hin dX6_takes_187 rfl ?_
    refine r_iload X 5 190 dX6_takes_188 rfl rfl ?_
    refine r_isub X 191 dX6_takes_190 rfl ?_
    obtain ⟨hin, h⟩ := h
    refine s_M11 X 192 hin dX6_takes_191 rfl ?_
    refine r_nmS h (fun σ11 h => ?_)
    refine r_iconst (v := 1) X 193 dX6_takes_192 (by decide) rfl ?_
    exact r_zret X hr9 hlk9 isB_1 h dX6_takes_193
def j_X6_takes_114  (Q : Int32 → St → Prop) (v1 : Int32) (v2 : Int32) (v3 : Int32) (v5 : Int32) (v6 : Int32) (s0 : Int32) (s1 : Int32) (σ : St) : Prop :=
  if s1 = s0 then
  (if v1 = 11 then
  (vp_in v2 60 ∧
  (wp_X6_isIn σ v6 1 (σ 11 (ix v2)) (fun y13 σ12 =>
  if y13 = 0 then
  (Q 0 σ12)
  else (j_X6_takes_142 Q v1 v2 v3 v5 v6 σ12))))
  else (j_X6_takes_142 Q v1 v2 v3 v5 v6 σ))
  else (Q 0 σ)
theorem wk_X6_takes_114 (X : cx p s m args c cX6_takes 7 RX6 D (wM cI cZ a) A (tyW cI cZ cH)) (hr9 : meth.sig.returnType = (some .boolean)) (hlk9 : meth.locks = false)  {Q : Int32 → St → Prop} {v1 : Int32} {v2 : Int32} {v3 : Int32} {v5 : Int32} {v6 : Int32} {s0 : Int32} {s1 : Int32} {σ : St} (h : j_X6_takes_114 Q v1 v2 v3 v5 v6 s0 s1 σ) : go p l e rm_X6_takes s m args below meth c D (wM cI cZ a) A 0 0 (MQ below (va_Qi (fun r9 u9 => isB r9 ∧ Q r9 u9) (atw D (wM cI cZ a) (tyW cI cZ cH) A) A) args s 0 0 A) 7 114 [(0, .ref (a 0)), (1, .int v1), (2, .int v2), (3, .int v3), (5, .int v5), (6, .int v6)] [.int s0, .int s1] σ := by
  delta j_X6_takes_114 at h
  refine r_icmp_eq X 119 117 h dX6_takes_114 rfl rfl (fun h => ?_) (fun h => ?_)
  · refine r_iload_n X 1 120 dX6_takes_119 rfl rfl rfl ?_
    refine r_bipush (v := 11) X 122 dX6_takes_120 (by decide) rfl ?_
    refine r_icmp_ne X 142 125 h dX6_takes_122 rfl rfl (fun h => ?_) (fun h => ?_)
    · refine r_pick (lv' := [(0, .ref (a 0)), (1, .int v1), (2, .int v2), (3, .int v3), (5, .int v5), (6, .int v6)]) [0, 1, 2, 3, 4, 5] rfl ?_
      exact wk_X6_takes_142 X hr9 hlk9 h
    · refine r_iload X 5 127 dX6_takes_125 rfl rfl ?_
      refine r_iconst (v := 1) X 128 dX6_takes_127 (by decide) rfl ?_
      refine r_aload_n X 0 129 dX6_takes_128 rfl rfl rfl ?_
      refine g_X6_51 X 132 dX6_takes_129 rfl ?_
      refine r_iload_n X 2 133 dX6_takes_132 rfl rfl rfl ?_
      obtain ⟨hin, h⟩ := h
      refine l_M11 X 134 hin dX6_takes_133 rfl ?_
      refine r_callSI (As := [.int v6, .int 1, .int (σ 11 (ix v2))]) (rest := []) X 137 (c_X6_isIn h) ml_X6_96 lk_X6_isIn sy_X6_isIn rfl rfl (Nat.le_of_ble_eq_true rfl) ⟨rfl, rfl, ⟨Nat.le_of_ble_eq_true rfl, Nat.le_of_ble_eq_true rfl⟩, Nat.le_of_ble_eq_true rfl, Nat.le_of_ble_eq_true rfl⟩ dX6_takes_134 rfl (fun y13 σ12 h => ?_)
      obtain ⟨hb_y13, h⟩ := h
      refine r_if_ne X 142 140 h dX6_takes_137 rfl rfl (fun h => ?_) (fun h => ?_)
      · refine r_pick (lv' := [(0, .ref (a 0)), (1, .int v1), (2, .int v2), (3, .int v3), (5, .int v5), (6, .int v6)]) [0, 1, 2, 3, 4, 5] rfl ?_
        exact wk_X6_takes_142 X hr9 hlk9 h
      · refine r_iconst (v := 0) X 141 dX6_takes_140 (by decide) rfl ?_
        exact r_zret X hr9 hlk9 isB_0 h dX6_takes_141
  · refine r_iconst (v := 0) X 118 dX6_takes_117 (by decide) rfl ?_
    exact r_zret X hr9 hlk9 isB_0 h dX6_takes_118
def j_X6_takes_65  (Q : Int32 → St → Prop) (v1 : Int32) (v2 : Int32) (v3 : Int32) (v5 : Int32) (v6 : Int32) (s0 : Int32) (s1 : Int32) (s2 : Int32) (σ : St) : Prop :=
  wp_X6_hasKeepers σ s2 s1 s0 (fun y4 σ3 =>
  if y4 = 0 then
  (Q 0 σ3)
  else (wp_X6_isIn σ3 v5 0 ((σ3 0 2) - 1) (fun y6 σ5 =>
  if y6 = 0 then
  (Q 0 σ5)
  else (vp_in v5 60 ∧
  (if (σ5 18 (ix v5)) = 0 then
  (vp_in v5 60 ∧
  (if v1 = 11 then
  (j_X6_takes_114 Q v1 v2 v3 v5 v6 2 (σ5 4 (ix v5)) σ5)
  else (j_X6_takes_114 Q v1 v2 v3 v5 v6 3 (σ5 4 (ix v5)) σ5)))
  else (Q 0 σ5))))))
theorem wk_X6_takes_65 (X : cx p s m args c cX6_takes 7 RX6 D (wM cI cZ a) A (tyW cI cZ cH)) (hr9 : meth.sig.returnType = (some .boolean)) (hlk9 : meth.locks = false)  {Q : Int32 → St → Prop} {v1 : Int32} {v2 : Int32} {v3 : Int32} {v5 : Int32} {v6 : Int32} {s0 : Int32} {s1 : Int32} {s2 : Int32} {σ : St} (h : j_X6_takes_65 Q v1 v2 v3 v5 v6 s0 s1 s2 σ) : go p l e rm_X6_takes s m args below meth c D (wM cI cZ a) A 0 0 (MQ below (va_Qi (fun r9 u9 => isB r9 ∧ Q r9 u9) (atw D (wM cI cZ a) (tyW cI cZ cH) A) A) args s 0 0 A) 7 65 [(0, .ref (a 0)), (1, .int v1), (2, .int v2), (3, .int v3), (5, .int v5), (6, .int v6)] [.int s0, .int s1, .int s2, .ref (a 0)] σ := by
  delta j_X6_takes_65 at h
  refine r_callI (As := [.int s2, .int s1, .int s0]) (rest := []) X 68 (c_X6_hasKeepers h) ml_X6_139 lk_X6_hasKeepers wM_at_0 rfl rfl rfl (Nat.le_of_ble_eq_true rfl) ⟨rfl, rfl, ⟨Nat.le_of_ble_eq_true rfl, Nat.le_of_ble_eq_true rfl⟩, Nat.le_of_ble_eq_true rfl, Nat.le_of_ble_eq_true rfl⟩ dX6_takes_65 rfl (fun y4 σ3 h => ?_)
  obtain ⟨hb_y4, h⟩ := h
  refine r_if_eq X 117 71 h dX6_takes_68 rfl rfl (fun h => ?_) (fun h => ?_)
  · refine r_iconst (v := 0) X 118 dX6_takes_117 (by decide) rfl ?_
    exact r_zret X hr9 hlk9 isB_0 h dX6_takes_118
  · refine r_iload X 4 73 dX6_takes_71 rfl rfl ?_
    refine r_iconst (v := 0) X 74 dX6_takes_73 (by decide) rfl ?_
    refine r_aload_n X 0 75 dX6_takes_74 rfl rfl rfl ?_
    refine g_X6_93 X 78 dX6_takes_75 rfl ?_
    refine r_iconst (v := 1) X 79 dX6_takes_78 (by decide) rfl ?_
    refine r_isub X 80 dX6_takes_79 rfl ?_
    refine r_callSI (As := [.int v5, .int 0, .int ((σ3 0 2) - 1)]) (rest := []) X 83 (c_X6_isIn h) ml_X6_96 lk_X6_isIn sy_X6_isIn rfl rfl (Nat.le_of_ble_eq_true rfl) ⟨rfl, rfl, ⟨Nat.le_of_ble_eq_true rfl, Nat.le_of_ble_eq_true rfl⟩, Nat.le_of_ble_eq_true rfl, Nat.le_of_ble_eq_true rfl⟩ dX6_takes_80 rfl (fun y6 σ5 h => ?_)
    obtain ⟨hb_y6, h⟩ := h
    refine r_if_eq X 117 86 h dX6_takes_83 rfl rfl (fun h => ?_) (fun h => ?_)
    · refine r_iconst (v := 0) X 118 dX6_takes_117 (by decide) rfl ?_
      exact r_zret X hr9 hlk9 isB_0 h dX6_takes_118
    · refine r_aload_n X 0 87 dX6_takes_86 rfl rfl rfl ?_
      refine g_X6_72 X 90 dX6_takes_87 rfl ?_
      refine r_iload X 4 92 dX6_takes_90 rfl rfl ?_
      obtain ⟨hin, h⟩ := h
      refine l_M18 X 93 hin dX6_takes_92 rfl ?_
      refine r_if_ne X 117 96 h dX6_takes_93 rfl rfl (fun h => ?_) (fun h => ?_)
      · refine r_iconst (v := 0) X 118 dX6_takes_117 (by decide) rfl ?_
        exact r_zret X hr9 hlk9 isB_0 h dX6_takes_118
      · refine r_aload_n X 0 97 dX6_takes_96 rfl rfl rfl ?_
        refine g_X6_24 X 100 dX6_takes_97 rfl ?_
        refine r_iload X 4 102 dX6_takes_100 rfl rfl ?_
        obtain ⟨hin, h⟩ := h
        refine l_M4 X 103 hin dX6_takes_102 rfl ?_
        refine r_iload_n X 1 104 dX6_takes_103 rfl rfl rfl ?_
        refine r_bipush (v := 11) X 106 dX6_takes_104 (by decide) rfl ?_
        refine r_icmp_ne X 113 109 h dX6_takes_106 rfl rfl (fun h => ?_) (fun h => ?_)
        · refine r_iconst (v := 3) X 114 dX6_takes_113 (by decide) rfl ?_
          refine r_pick (lv' := [(0, .ref (a 0)), (1, .int v1), (2, .int v2), (3, .int v3), (5, .int v5), (6, .int v6)]) [0, 1, 2, 3, 4, 5] rfl ?_
          exact wk_X6_takes_114 X hr9 hlk9 h
        · refine r_iconst (v := 2) X 110 dX6_takes_109 (by decide) rfl ?_
          refine r_goto X 114 dX6_takes_110 rfl ?_
          refine r_pick (lv' := [(0, .ref (a 0)), (1, .int v1), (2, .int v2), (3, .int v3), (5, .int v5), (6, .int v6)]) [0, 1, 2, 3, 4, 5] rfl ?_
          exact wk_X6_takes_114 X hr9 hlk9 h
def wp_X6_takes  (σ : St) (x1 : Int32) (x2 : Int32) (x3 : Int32) (x4 : Int32) (x5 : Int32) (x6 : Int32) (Q : Int32 → St → Prop) : Prop :=
  wp_X6_isFree σ x2 (fun y2 σ1 =>
  if y2 = 0 then
  (Q 0 σ1)
  else (if x1 = 13 then
  (vp_in x2 60 ∧
  (wp_X6_isIn σ1 x6 0 (σ1 11 (ix x2)) (fun y15 σ14 =>
  if y15 = 0 then
  (Q 0 σ14)
  else (vp_in x2 60 ∧
  (vp_in x2 60 ∧
  nmS (up2 σ14 11 (ix x2) ((σ14 11 (ix x2)) - x6)) (fun σ16 =>
  Q 1 σ16))))))
  else (vp_in x2 60 ∧
  (if (σ1 4 (ix x2)) = 5 then
  (j_X6_takes_65 Q x1 x2 x3 x5 x6 1 x4 x3 σ1)
  else (j_X6_takes_65 Q x1 x2 x3 x5 x6 0 x4 x3 σ1)))))
theorem c_X6_takes  {σ : St} {x1 : Int32} {x2 : Int32} {x3 : Int32} {x4 : Int32} {x5 : Int32} {x6 : Int32} {Q : Int32 → St → Prop} (h : wp_X6_takes σ x1 x2 x3 x4 x5 x6 Q) : ctI l yX6_takes cX6_takes 7 (some .boolean) rm_X6_takes D (wM cI cZ a) (tyW cI cZ cH) [.ref (a 0), .int x1, .int x2, .int x3, .int x4, .int x5, .int x6] σ (fun r9 u9 => isB r9 ∧ Q r9 u9) := by
  refine mk_I (wM_ok cI cZ a) (by decide +kernel) (Nat.le_of_ble_eq_true rfl) (fun p e s m args below meth c A X hr9 hlk9 => ?_)
  refine r_pick (lv' := [(0, .ref (a 0)), (1, .int x1), (2, .int x2), (3, .int x3), (4, .int x4), (5, .int x5), (6, .int x6)]) [0, 1, 2, 3, 4, 5, 6] rfl ?_
  delta wp_X6_takes at h
  refine r_aload_n X 0 1 dX6_takes_0 rfl rfl rfl ?_
  refine r_iload_n X 2 2 dX6_takes_1 rfl rfl rfl ?_
  refine r_callI (As := [.int x2]) (rest := []) X 5 (c_X6_isFree h) ml_X6_178 lk_X6_isFree wM_at_0 rfl rfl rfl (Nat.le_of_ble_eq_true rfl) ⟨rfl, rfl, ⟨Nat.le_of_ble_eq_true rfl, Nat.le_of_ble_eq_true rfl⟩, Nat.le_of_ble_eq_true rfl, Nat.le_of_ble_eq_true rfl⟩ dX6_takes_2 rfl (fun y2 σ1 h => ?_)
  obtain ⟨hb_y2, h⟩ := h
  refine r_if_ne X 10 8 h dX6_takes_5 rfl rfl (fun h => ?_) (fun h => ?_)
  · refine r_iload_n X 1 11 dX6_takes_10 rfl rfl rfl ?_
    refine r_bipush (v := 13) X 13 dX6_takes_11 (by decide) rfl ?_
    refine r_icmp_ne X 46 16 h dX6_takes_13 rfl rfl (fun h => ?_) (fun h => ?_)
    · refine r_aload_n X 0 47 dX6_takes_46 rfl rfl rfl ?_
      refine r_iload_n X 3 48 dX6_takes_47 rfl rfl rfl ?_
      refine r_iload X 4 50 dX6_takes_48 rfl rfl ?_
      refine r_aload_n X 0 51 dX6_takes_50 rfl rfl rfl ?_
      refine g_X6_24 X 54 dX6_takes_51 rfl ?_
      refine r_iload_n X 2 55 dX6_takes_54 rfl rfl rfl ?_
      obtain ⟨hin, h⟩ := h
      refine l_M4 X 56 hin dX6_takes_55 rfl ?_
      refine r_iconst (v := 5) X 57 dX6_takes_56 (by decide) rfl ?_
      refine r_icmp_ne X 64 60 h dX6_takes_57 rfl rfl (fun h => ?_) (fun h => ?_)
      · refine r_iconst (v := 0) X 65 dX6_takes_64 (by decide) rfl ?_
        refine r_pick (lv' := [(0, .ref (a 0)), (1, .int x1), (2, .int x2), (3, .int x3), (5, .int x5), (6, .int x6)]) [0, 1, 2, 3, 5, 6] rfl ?_
        exact wk_X6_takes_65 X hr9 hlk9 h
      · refine r_iconst (v := 1) X 61 dX6_takes_60 (by decide) rfl ?_
        refine r_goto X 65 dX6_takes_61 rfl ?_
        refine r_pick (lv' := [(0, .ref (a 0)), (1, .int x1), (2, .int x2), (3, .int x3), (5, .int x5), (6, .int x6)]) [0, 1, 2, 3, 5, 6] rfl ?_
        exact wk_X6_takes_65 X hr9 hlk9 h
    · refine r_iload X 6 18 dX6_takes_16 rfl rfl ?_
      refine r_iconst (v := 0) X 19 dX6_takes_18 (by decide) rfl ?_
      refine r_aload_n X 0 20 dX6_takes_19 rfl rfl rfl ?_
      refine g_X6_51 X 23 dX6_takes_20 rfl ?_
      refine r_iload_n X 2 24 dX6_takes_23 rfl rfl rfl ?_
      obtain ⟨hin, h⟩ := h
      refine l_M11 X 25 hin dX6_takes_24 rfl ?_
      refine r_callSI (As := [.int x6, .int 0, .int (σ1 11 (ix x2))]) (rest := []) X 28 (c_X6_isIn h) ml_X6_96 lk_X6_isIn sy_X6_isIn rfl rfl (Nat.le_of_ble_eq_true rfl) ⟨rfl, rfl, ⟨Nat.le_of_ble_eq_true rfl, Nat.le_of_ble_eq_true rfl⟩, Nat.le_of_ble_eq_true rfl, Nat.le_of_ble_eq_true rfl⟩ dX6_takes_25 rfl (fun y15 σ14 h => ?_)
      obtain ⟨hb_y15, h⟩ := h
      refine r_if_ne X 33 31 h dX6_takes_28 rfl rfl (fun h => ?_) (fun h => ?_)
      · refine r_aload_n X 0 34 dX6_takes_33 rfl rfl rfl ?_
        refine g_X6_51 X 37 dX6_takes_34 rfl ?_
        refine r_iload_n X 2 38 dX6_takes_37 rfl rfl rfl ?_
        refine r_dup2 X 39 dX6_takes_38 rfl rfl rfl ?_
        obtain ⟨hin, h⟩ := h
        refine l_M11 X 40 hin dX6_takes_39 rfl ?_
        refine r_iload X 6 42 dX6_takes_40 rfl rfl ?_
        refine r_isub X 43 dX6_takes_42 rfl ?_
        obtain ⟨hin, h⟩ := h
        refine s_M11 X 44 hin dX6_takes_43 rfl ?_
        refine r_nmS h (fun σ16 h => ?_)
        refine r_iconst (v := 1) X 45 dX6_takes_44 (by decide) rfl ?_
        exact r_zret X hr9 hlk9 isB_1 h dX6_takes_45
      · refine r_iconst (v := 0) X 32 dX6_takes_31 (by decide) rfl ?_
        exact r_zret X hr9 hlk9 isB_0 h dX6_takes_32
  · refine r_iconst (v := 0) X 9 dX6_takes_8 (by decide) rfl ?_
    exact r_zret X hr9 hlk9 isB_0 h dX6_takes_9
end WALK
