theorem dL_law_0 : decode cL_law 0 = .ok (.new 7, 3) := by decide +kernel
theorem dL_law_3 : decode cL_law 3 = .ok (.dup, 1) := by decide +kernel
theorem dL_law_4 : decode cL_law 4 = .ok (.invokespecial 9, 3) := by decide +kernel
theorem dL_law_7 : decode cL_law 7 = .ok (.astore_n 1, 1) := by decide +kernel
theorem dL_law_8 : decode cL_law 8 = .ok (.new 10, 3) := by decide +kernel
theorem dL_law_11 : decode cL_law 11 = .ok (.dup, 1) := by decide +kernel
theorem dL_law_12 : decode cL_law 12 = .ok (.invokespecial 12, 3) := by decide +kernel
theorem dL_law_15 : decode cL_law 15 = .ok (.astore_n 2, 1) := by decide +kernel
theorem dL_law_16 : decode cL_law 16 = .ok (.iconst 0, 1) := by decide +kernel
theorem dL_law_17 : decode cL_law 17 = .ok (.istore_n 3, 1) := by decide +kernel
theorem arr_P {args : Array Value} {s : State} {ty : FieldType} (h : (Cond.arrayClass ty).before args s = true) : ∃ k : ClassId, ArrOfT s k ty ∧ s.vm.findClass ("[" ++ ty.toString) = some k := by
  obtain ⟨k, kA, comp, h1, h2, h3⟩ := Cond.arrayClass_spec h
  exact ⟨k, fun n z => ⟨fun _ h => (by cases h), kA, h2, comp, h3⟩, h1⟩
theorem arr_H {s : State} (h : va_AO RX0 s) : ∃ k : ClassId, ArrOfT s k (.object RX0) ∧ va_RA s k (.object RX0) := by
  obtain ⟨comp, k, kA, h1, h2, h3, h4, h5⟩ := Cond.arrayOver_spec h
  exact ⟨k, fun n z => ⟨fun _ h => (by cases h), kA, h3, comp, h4⟩, kA, comp, h3, h4, h1, h5⟩
set_option maxHeartbeats 4000000 in
theorem whole_start {p : Program} {e : Env} {s : State} {m : MethodId} {below : List Frame} {meth : Method} {c : Code} (l : Launch) {b L : Nat} {xs : Nat → Int32} (hL : L ≤ 4096) (C0 : lw_At p s m meth c b L xs) : W p l e room_1 s m #[Value.ref b] below meth c s.heap [] 0 0 (lw_Z below #[Value.ref b] s) (entryFrame m ([Value.ref b] : List Value).toArray 4) := by
  obtain ⟨hx, hb, hr, hml, hown, hts, hX, hbl, hlk, hgv⟩ := C0
  have htg : ∀ w ∈ lw_G, w.before #[Value.ref b] s = true := fun w h => hts w (List.mem_filter.mp h).1
  have hao : va_AO RX0 s := va_AO.of (hts _ (List.mem_append_right _ (List.mem_append_left _ (List.mem_of_getElem? (i := 161) rfl))))
  obtain ⟨c0, i0, k0⟩ := u_known htg inX0 (htg _ in_X0)
  obtain ⟨c1, i1, k1⟩ := u_known htg inX1 (htg _ in_X1)
  obtain ⟨c2, i2, k2⟩ := u_known htg inX2 (htg _ in_X2)
  obtain ⟨c3, i3, k3⟩ := u_known htg inX3 (htg _ in_X3)
  obtain ⟨c4, i4, k4⟩ := u_known htg inX4 (htg _ in_X4)
  obtain ⟨c5, i5, k5⟩ := u_known htg inX5 (htg _ in_X5)
  obtain ⟨c6, i6, k6⟩ := u_known htg inX6 (htg _ in_X6)
  obtain ⟨cI, tI1, tI2⟩ := arr_P (htg _ ar_I)
  obtain ⟨cZ, tZ1, tZ2⟩ := arr_P (htg _ ar_Z)
  obtain ⟨cH, tH1, tH2⟩ := arr_H hao
  have hK : va_K (fun k => [c0, c1, c2, c3, c4, c5, c6].getD k 0, fun k => [i0, i1, i2, i3, i4, i5, i6].getD k (fun _ => 0)) vwCl (tyW cI cZ cH) s := by
    refine ⟨fun k q hq => ?_, fun k q hq => ?_⟩
    · have hk : k < 7 := (List.getElem?_eq_some_iff.mp hq).1
      rcases (show k = 0 ∨ k = 1 ∨ k = 2 ∨ k = 3 ∨ k = 4 ∨ k = 5 ∨ k = 6 by omega) with rfl | rfl | rfl | rfl | rfl | rfl | rfl <;> cases hq
      · exact k0
      · exact k1
      · exact k2
      · exact k3
      · exact k4
      · exact k5
      · exact k6
    · have hk : k < 3 := (List.getElem?_eq_some_iff.mp hq).1
      rcases (show k = 0 ∨ k = 1 ∨ k = 2 by omega) with rfl | rfl | rfl <;> cases hq
      · exact ⟨tI1, tI2⟩
      · exact ⟨tZ1, tZ2⟩
      · exact ⟨tH1, tH2⟩
  generalize ((fun k => [c0, c1, c2, c3, c4, c5, c6].getD k 0, fun k => [i0, i1, i2, i3, i4, i5, i6].getD k (fun _ => 0)) : va_G) = D at hK
  have hbA : ¬ (fun q => s.heap.size ≤ q) b := by show ¬ s.heap.size ≤ b; omega
  have X : cx p s m #[Value.ref b] c cL_law 4 RL D (kw []) (fun q => s.heap.size ≤ q) (tyW cI cZ cH) := ⟨⟨hx, hb, hml, hown, htg⟩, hK, fun _ => ⟨fun _ _ _ _ h => (by cases h), fun _ _ h => (by cases h)⟩, fun _ h => h, nst_of hts⟩
  rw [lg_entry_eq]
  suffices G : go p l e room_1 s m #[Value.ref b] below meth c D (kw []) (fun q => s.heap.size ≤ q) 0 0 (lw_Z below #[Value.ref b] s) 4 0 (lv_args 0 [.ref b]) [] s0 from G s.heap [] _ (fun _ _ h => (by cases h)) va_S.rf (lv_entry _ (Nat.le_of_ble_eq_true rfl))
  refine r_pick (lv' := [(0, .ref b)]) [0] rfl ?_
  refine r_newO X (ci := 5) (ty0 := tyX5) [.null, .null, .null, .null, .null, .null, .null, .int 0, .int 0, .int 0, .int 0, .int 0] 3 rfl inX5 tyX5_ok cl_L_7 in_X5 ini_X5 (fun j hj => by rcases (show j = 0 ∨ j = 1 ∨ j = 2 ∨ j = 3 ∨ j = 4 ∨ j = 5 ∨ j = 6 ∨ j = 7 ∨ j = 8 ∨ j = 9 ∨ j = 10 ∨ j = 11 by omega) with rfl | rfl | rfl | rfl | rfl | rfl | rfl | rfl | rfl | rfl | rfl | rfl <;> rfl) (Nat.le_of_ble_eq_true rfl) (Nat.le_of_ble_eq_true rfl) (cells' := 1) (slots' := 12) rfl rfl dL_law_0 rfl (fun q1 X1 => ?_)
  refine r_dup X1 4 dL_law_3 rfl rfl ?_
  refine r_callNL (As := []) (rest := [.ref q1]) X1 hao 7 (c_X5_init (h0 := q1)) ml_L_9 lk_X5_init im_X5_init rfl rfl rfl (Nat.le_of_ble_eq_true rfl) rfl rfl ⟨(Nat.le_of_ble_eq_true rfl), (Nat.le_of_ble_eq_true rfl)⟩ (Nat.le_of_ble_eq_true rfl) (Nat.le_of_ble_eq_true rfl) (cells' := 30) (slots' := 9166) rfl rfl dL_law_4 rfl (fun u1 X2 => ?_)
  refine r_astore_n X2 8 [(1, .ref q1), (0, .ref b)] dL_law_7 rfl (by decide) rfl rfl ?_
  refine r_newO X2 (ci := 6) (ty0 := tyX6) [.int 0, .int 0, .int 0, .int 0, .int 0, .int 0, .int 0, .null, .null, .null, .null, .null, .null, .null, .null, .int 0, .int 0, .null, .null, .null, .null, .null, .null, .null, .null, .null, .null, .null, .null, .null, .int 0, .null, .null] 11 rfl inX6 tyX6_ok cl_L_10 in_X6 ini_X6 (fun j hj => by rcases (show j = 0 ∨ j = 1 ∨ j = 2 ∨ j = 3 ∨ j = 4 ∨ j = 5 ∨ j = 6 ∨ j = 7 ∨ j = 8 ∨ j = 9 ∨ j = 10 ∨ j = 11 ∨ j = 12 ∨ j = 13 ∨ j = 14 ∨ j = 15 ∨ j = 16 ∨ j = 17 ∨ j = 18 ∨ j = 19 ∨ j = 20 ∨ j = 21 ∨ j = 22 ∨ j = 23 ∨ j = 24 ∨ j = 25 ∨ j = 26 ∨ j = 27 ∨ j = 28 ∨ j = 29 ∨ j = 30 ∨ j = 31 ∨ j = 32 by omega) with rfl | rfl | rfl | rfl | rfl | rfl | rfl | rfl | rfl | rfl | rfl | rfl | rfl | rfl | rfl | rfl | rfl | rfl | rfl | rfl | rfl | rfl | rfl | rfl | rfl | rfl | rfl | rfl | rfl | rfl | rfl | rfl | rfl <;> rfl) (Nat.le_of_ble_eq_true rfl) (Nat.le_of_ble_eq_true rfl) (cells' := 31) (slots' := 9199) rfl rfl dL_law_8 rfl (fun q2 X3 => ?_)
  refine r_dup X3 12 dL_law_11 rfl rfl ?_
  refine r_callNL (As := []) (rest := [.ref q2]) X3 hao 15 (c_X6_init (h0 := q2)) ml_L_12 lk_X6_init im_X6_init rfl rfl rfl (Nat.le_of_ble_eq_true rfl) rfl rfl ⟨(Nat.le_of_ble_eq_true rfl), (Nat.le_of_ble_eq_true rfl)⟩ (Nat.le_of_ble_eq_true rfl) (Nat.le_of_ble_eq_true rfl) (cells' := 54) (slots' := 18710) rfl rfl dL_law_12 rfl (fun u2 X4 => ?_)
  refine r_astore_n X4 16 [(2, .ref q2), (1, .ref q1), (0, .ref b)] dL_law_15 rfl (by decide) rfl rfl ?_
  refine r_iconst (v := 0) X4 17 dL_law_16 (by decide) rfl ?_
  refine r_istore_n X4 18 [(3, .int 0), (2, .ref q2), (1, .ref q1), (0, .ref b)] dL_law_17 rfl (by decide) rfl rfl ?_
  refine r_pick (lv' := [(0, .ref b), (1, .ref q1), (2, .ref q2), (3, .int 0)]) [3, 2, 1, 0] rfl ?_
  refine r_sw (w' := wL cI cZ cH (hd q1 u1) (hd q2 u2) 0) (σ' := mix cz (beg mz)) X4 (wL_ok cI cZ cH (hd q1 u1) (hd q2 u2) 0) (by
    rw [wL_mix]
    unfold kw
    rw [List.nil_append]) (fun Y => ?_)
  exact lw_loop hX hbl hbA hL (fun H locs ls cells slots h1 h2 hS => W.widen (k := 600000) (n := 7302250) h1 h2 (va_forget hS.2.2 (lw_ret hx hb hr hlk dL_law_868))) L 0 0 (hd q1 u1) cz (beg mz) (by omega) (by omega) Y RI_0b
