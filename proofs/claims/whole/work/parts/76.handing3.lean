section WALK
variable {p : Program} {l : Launch} {e : Env} {s : State} {m : MethodId} {args : Array Value} {below : List Frame} {meth : Method} {c : Code} {D : va_G} {A : Nat → Prop} {cI cZ cH : ClassId} {a : Nat → Nat} {n : Nat}
set_option maxHeartbeats 2000000 in
theorem c_X5_handing_yes {σ : St} {x1 x2 x3 x4 : Int32} (hn : n < 60) (h7 : σ 0 7 = nI n) (h : wp_X5_handing σ x1 x2 x3 x4 (fun _ _ => False) (fun τ => τ = σ)) (sz : Nat) : Met l yX5_handing (.code yX5_handing cX5_handing 5 (some .int) :: lw_G) rm_X5_handing1 (va_Pc [.ref (a 0), .int x1, .int x2, .int x3, .int x4] (preW D (wC cI cZ cH a n) (tyW cI cZ cH) σ sz)) (va_Qi (fun (r : Int32) (_ : Nat) => r = nI n) (fun (b : Nat) (t : State) => atw D (wC cI cZ cH (aN a n b) (n + 1)) (tyW cI cZ cH) (va_A (wC cI cZ cH a n σ) sz) (newH σ n x1 x2 x3 x4) t) (va_A (wC cI cZ cH a n σ) sz)) 1 7 (va_A (wC cI cZ cH a n σ) sz) := by
  refine Met.ofW (cc := cX5_handing) (maxL := 5) (ret := some .int) (by decide +kernel) rfl ?_
  intro p e s m args below meth c s₁ B hml hv
  obtain ⟨rfl, hsz, hP, hK, hD0, hN0⟩ := hv
  subst hsz
  have hts := atoms_spec (ws := .code yX5_handing cX5_handing 5 (some .int) :: lw_G) B.pre
  have hr9 := B.returns
  have hlk9 := B.notSynchronized
  rw [lg_entry_eq]
  have X : cx p s m [Value.ref (a 0), .int x1, .int x2, .int x3, .int x4].toArray c cX5_handing 5 RX5 D (wC cI cZ cH a n) (va_A (wC cI cZ cH a n σ) s.heap.size) (tyW cI cZ cH) := ⟨⟨B.exec, B.bytes, hml, findClass_of_methodNamed B.named, fun w h => hts w (List.mem_cons_of_mem _ h)⟩, hK, fun τ => va_D_addr (wC_ok cI cZ cH a n σ τ) hD0.self, fun q h => Or.inr h, hN0⟩
  generalize va_A (wC cI cZ cH a n σ) s.heap.size = A at X ⊢
  suffices G : go p l e rm_X5_handing1 s m [Value.ref (a 0), .int x1, .int x2, .int x3, .int x4].toArray below meth c D (wC cI cZ cH a n) A 0 0 (MQ below (va_Qi (fun (r : Int32) (_ : Nat) => r = nI n) (fun (b : Nat) (t : State) => atw D (wC cI cZ cH (aN a n b) (n + 1)) (tyW cI cZ cH) A (newH σ n x1 x2 x3 x4) t) A) [Value.ref (a 0), .int x1, .int x2, .int x3, .int x4].toArray s 1 7 A) 5 0 (lv_args 0 [.ref (a 0), .int x1, .int x2, .int x3, .int x4]) [] σ from G s.heap [] _ hP va_S.rf (lv_entry _ (Nat.le_of_ble_eq_true rfl))
  generalize [Value.ref (a 0), .int x1, .int x2, .int x3, .int x4].toArray = ar at X ⊢
  refine r_pick (lv' := [(0, .ref (a 0)), (1, .int x1), (2, .int x2), (3, .int x3), (4, .int x4)]) [0, 1, 2, 3, 4] rfl ?_
  refine wk_X5_handing1 X (fun _ _ _ _ hq => hq.elim) (fun τ hτ => ?_) h
  subst hτ
  refine r_aload_n X 0 66 dX5_handing_65 rfl rfl rfl ?_
  refine g_X5_46 X 69 dX5_handing_66 rfl ?_
  refine r_aload_n X 0 70 dX5_handing_69 rfl rfl rfl ?_
  refine g_X5_97 X 73 dX5_handing_70 rfl ?_
  rw [h7]
  refine r_newX X 76 (Nat.le_of_ble_eq_true rfl) (Nat.le_of_ble_eq_true rfl) dX5_handing_73 rfl (fun b X1 => ?_)
  refine r_dup X1 77 dX5_handing_76 rfl rfl ?_
  refine r_iload_n X1 1 78 dX5_handing_77 rfl rfl rfl ?_
  refine r_iload_n X1 2 79 dX5_handing_78 rfl rfl rfl ?_
  refine r_iload_n X1 3 80 dX5_handing_79 rfl rfl rfl ?_
  refine r_iload X1 4 82 dX5_handing_80 rfl rfl ?_
  refine r_callIN (As := [.int x1, .int x2, .int x3, .int x4]) (rest := [.ref b, .int (nI n), .ref (a 28)]) X1 85 (c_X0_init (Q := fun u => u = _) rfl) ml_X5_100 lk_X0_init im_X0_init rfl rfl rfl (Nat.le_of_ble_eq_true rfl) ⟨rfl, rfl, ⟨Nat.le_of_ble_eq_true rfl, Nat.le_of_ble_eq_true rfl⟩, Nat.le_of_ble_eq_true rfl, Nat.le_of_ble_eq_true rfl⟩ dX5_handing_82 rfl (fun τ1 hτ1 => ?_)
  subst hτ1
  refine r_astX (x1 := x1) (x2 := x2) (x3 := x3) (x4 := x4) X1 hn rfl rfl rfl rfl rfl rfl rfl 86 dX5_handing_85 rfl (fun X2 => ?_)
  rw [show a 0 = aN a n b 0 from (if_neg (by omega)).symm]
  refine r_aload_n X2 0 87 dX5_handing_86 rfl rfl rfl ?_
  refine r_dup X2 88 dX5_handing_87 rfl rfl ?_
  refine g_X5_97 X2 91 dX5_handing_88 rfl ?_
  refine r_iconst (v := 1) X2 92 dX5_handing_91 (by decide) rfl ?_
  refine r_iadd X2 93 dX5_handing_92 rfl ?_
  refine u_X5_97 X2 96 dX5_handing_93 rfl ?_
  refine r_aload_n X2 0 97 dX5_handing_96 rfl rfl rfl ?_
  refine g_X5_97 X2 100 dX5_handing_97 rfl ?_
  refine r_iconst (v := 1) X2 101 dX5_handing_100 (by decide) rfl ?_
  refine r_isub X2 102 dX5_handing_101 rfl ?_
  intro H locs ls hP2 hS2 hl2
  have e1 : nI n + 1 = nI (n + 1) := nI_1 n
  have hP3 : va_P D vwCl (wC cI cZ cH (aN a n b) (n + 1) (newH τ n x1 x2 x3 x4)) H := by
    unfold newH
    rw [← e1, ← h7]
    exact hP2
  exact W.iret X2.1.1 X2.1.2.1 hr9 (fun t ht hW => ⟨⟨_, b, rfl, by
    show (τ 0 7 + 1) - 1 = nI n
    rw [Int32.add_sub_cancel, h7], by rw [ht]; exact hP3, va_K.moved hW.alike X2.2.1, X2.2.2.1 _⟩, hS2.F ht⟩) hS2.2.2 dX5_handing_102 hlk9
end WALK
