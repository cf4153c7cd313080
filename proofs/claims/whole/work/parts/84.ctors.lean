section ROWSC
variable {p : Program} {l : Launch} {e : Env} {R : Room} {s : State} {m : MethodId} {args : Array Value} {below : List Frame} {meth : Method} {c : Code} {D : va_G} {A : Nat → Prop} {cells slots cells' slots' : Nat} {Qf : State → Prop} {nL : Nat} {tys : List (ClassId × FieldType)} {cc : ByteArray} {own : String} {pc : Nat} {lv lv' : List (Nat × Value)} {st : List Value} {cI cZ cH : ClassId} {L1 w0 : va_W} {h : Nat × va_E}
theorem r_newIc (X : cx p s m args c cc nL own D (kw (h :: L1)) A (tyW cI cZ cH)) {n : Int32} {N' : Nat} (q : Nat) (hn : ¬ n < 0) (hN : n.toNatClampNeg = N') (hby : N' * 4 ≤ 536870912) (hcl : cells + 1 ≤ R.cells) (hsl : slots + N' ≤ R.slots) (hc' : cells + 1 = cells') (hs' : slots + N' = slots') (hdg : decode cc pc = .ok (.newarray .int, 2)) (hq : pc + 2 = q) (kk : ∀ b : Nat, cx p s m args c cc nL own D (kw (h :: (L1 ++ [(b, .inl (cI, N', .inl (fun _ => 0)))]))) A (tyW cI cZ cH) → go p l e R s m args below meth c D (kw (h :: (L1 ++ [(b, .inl (cI, N', .inl (fun _ => 0)))]))) A cells' slots' Qf nL q lv (.ref b :: st) s0) : go p l e R s m args below meth c D (kw (h :: L1)) A cells slots Qf nL pc lv (.int n :: st) s0 :=
  r_newI (L := h :: L1) X q hn hN hby hcl hsl hc' hs' hdg hq kk
theorem r_newZc (X : cx p s m args c cc nL own D (kw (h :: L1)) A (tyW cI cZ cH)) {n : Int32} {N' : Nat} (q : Nat) (hn : ¬ n < 0) (hN : n.toNatClampNeg = N') (hby : N' * 1 ≤ 536870912) (hcl : cells + 1 ≤ R.cells) (hsl : slots + N' ≤ R.slots) (hc' : cells + 1 = cells') (hs' : slots + N' = slots') (hdg : decode cc pc = .ok (.newarray .boolean, 2)) (hq : pc + 2 = q) (kk : ∀ b : Nat, cx p s m args c cc nL own D (kw (h :: (L1 ++ [(b, .inl (cZ, N', .inl (fun _ => 0)))]))) A (tyW cI cZ cH) → go p l e R s m args below meth c D (kw (h :: (L1 ++ [(b, .inl (cZ, N', .inl (fun _ => 0)))]))) A cells' slots' Qf nL q lv (.ref b :: st) s0) : go p l e R s m args below meth c D (kw (h :: L1)) A cells slots Qf nL pc lv (.int n :: st) s0 :=
  r_newZ (L := h :: L1) X q hn hN hby hcl hsl hc' hs' hdg hq kk
theorem r_newOc (X : cx p s m args c cc nL own D (kw (h :: L1)) A tys) {index ci N : Nat} {C : String} {T : u_T} {ty0 : Nat → FieldType} (fs : List Value) (q : Nat) (hc : vwCl[ci]? = some (C, T, N)) (hin : ∀ w ∈ u_ws C T N, w ∈ lw_G) (hty : ∀ k, k < N → parseFieldDescriptor (T k).2.2.1 = some (ty0 k)) (hlk : Cond.classLink own index C ∈ lw_G) (hins : Cond.instantiable C N ∈ lw_G) (hini : Cond.initialized C ∈ lw_G) (hfs : ∀ j, j < N → defaultValue (ty0 j) = vp_V fs j) (hcl : cells + 1 ≤ R.cells) (hsl : slots + N ≤ R.slots) (hc' : cells + 1 = cells') (hs' : slots + N = slots') (hdg : decode cc pc = .ok (.new index, 3)) (hq : pc + 3 = q) (kk : ∀ b : Nat, cx p s m args c cc nL own D (kw (h :: (L1 ++ [(b, .inr (ci, fs))]))) A tys → go p l e R s m args below meth c D (kw (h :: (L1 ++ [(b, .inr (ci, fs))]))) A cells' slots' Qf nL q lv (.ref b :: st) s0) : go p l e R s m args below meth c D (kw (h :: L1)) A cells slots Qf nL pc lv st s0 :=
  r_newO (L := h :: L1) X fs q hc hin hty hlk hins hini hfs hcl hsl hc' hs' hdg hq kk
theorem r_newQc (X : cx p s m args c cc nL own D (kw (h :: L1)) A (tyW cI cZ cH)) (hAO : va_AO RX0 s) {index : Nat} {n : Int32} {N' : Nat} (q : Nat) (hlk : Cond.classLink own index RX0 ∈ lw_G) (hn : ¬ n < 0) (hN : n.toNatClampNeg = N') (hby : N' * 4 ≤ 536870912) (hcl : cells + 1 ≤ R.cells) (hsl : slots + N' ≤ R.slots) (hc' : cells + 1 = cells') (hs' : slots + N' = slots') (hdg : decode cc pc = .ok (.anewarray index, 3)) (hq : pc + 3 = q) (kk : ∀ b : Nat, cx p s m args c cc nL own D (kw (h :: (L1 ++ [(b, .inl (cH, N', .inr (.inr (.inr (.inr (fun _ => none))))))]))) A (tyW cI cZ cH) → go p l e R s m args below meth c D (kw (h :: (L1 ++ [(b, .inl (cH, N', .inr (.inr (.inr (.inr (fun _ => none))))))]))) A cells' slots' Qf nL q lv (.ref b :: st) s0) : go p l e R s m args below meth c D (kw (h :: L1)) A cells slots Qf nL pc lv (.int n :: st) s0 :=
  r_newQ (L := h :: L1) X hAO q hlk hn hN hby hcl hsl hc' hs' hdg hq kk
set_option maxHeartbeats 1000000 in
theorem r_callNc (X : cx p s m args c cc nL own D (kw (h :: (L1 ++ w0))) A tys) (hAO : va_AO RX0 s) {host : String} {y : MethodName} {bytes : ByteArray} {maxL k index b mc ms : Nat} {rm : Room} {As rest : List Value} {w1 : (Nat → Nat) → va_W} (q : Nat) (hM : ctN l y bytes maxL rm D tys mc ms w0 w1 (.ref b :: As)) (hlk : Cond.methodLinkNest own index y host ∈ lw_N) (Lk : lkG y bytes maxL none k) (him : Cond.instanceMethod y ∈ lw_G) (hnm : y.name = "<init>") (hn : As.length = k) (hst : st = As.reverse ++ .ref b :: rest) (hW : (rest.map fun v => v.category).sum ≤ 8) (hrc : rm.cells = mc) (hrs : rm.slots = ms) (hR : rm.frames + 1 ≤ R.frames ∧ 8 + (maxL + 11) + rm.locals ≤ R.locals) (hcl : cells + mc ≤ R.cells) (hsl : slots + ms ≤ R.slots) (hc' : cells + mc = cells') (hs' : slots + ms = slots') (hdg : decode cc pc = .ok (.invokespecial index, 3)) (hq : pc + 3 = q) (kk : ∀ u : Nat → Nat, cx p s m args c cc nL own D (kw (h :: (L1 ++ w1 u))) A tys → go p l e R s m args below meth c D (kw (h :: (L1 ++ w1 u))) A cells' slots' Qf nL q lv rest s0) : go p l e R s m args below meth c D (kw (h :: (L1 ++ w0))) A cells slots Qf nL pc lv st s0 :=
  r_callN (L := h :: L1) X hAO q hM hlk Lk him hnm hn hst hW hrc hrs hR hcl hsl hc' hs' hdg hq kk
end ROWSC
theorem cl_L_7 : Cond.classLink RL 7 RX5 ∈ lw_G := lw_G_t1 (List.mem_of_getElem? (i := 12) rfl) rfl
theorem in_X5 : Cond.instantiable RX5 12 ∈ lw_G := lw_G_t1 (List.mem_of_getElem? (i := 13) rfl) rfl
theorem cl_X5_7 : Cond.classLink RX5 7 RX4 ∈ lw_G := lw_G_t1 (List.mem_of_getElem? (i := 20) rfl) rfl
theorem in_X4 : Cond.instantiable RX4 8 ∈ lw_G := lw_G_t1 (List.mem_of_getElem? (i := 21) rfl) rfl
theorem cl_X5_16 : Cond.classLink RX5 16 RX2 ∈ lw_G := lw_G_t1 (List.mem_of_getElem? (i := 61) rfl) rfl
theorem in_X2 : Cond.instantiable RX2 3 ∈ lw_G := lw_G_t1 (List.mem_of_getElem? (i := 62) rfl) rfl
theorem cl_X5_26 : Cond.classLink RX5 26 RX3 ∈ lw_G := lw_G_t1 (List.mem_of_getElem? (i := 80) rfl) rfl
theorem in_X3 : Cond.instantiable RX3 19 ∈ lw_G := lw_G_t1 (List.mem_of_getElem? (i := 81) rfl) rfl
theorem cl_X5_35 : Cond.classLink RX5 35 RX1 ∈ lw_G := lw_G_t1 (List.mem_of_getElem? (i := 144) rfl) rfl
theorem in_X1 : Cond.instantiable RX1 3 ∈ lw_G := lw_G_t1 (List.mem_of_getElem? (i := 145) rfl) rfl
theorem cl_L_10 : Cond.classLink RL 10 RX6 ∈ lw_G := lw_G_t3 (List.mem_of_getElem? (i := 189) rfl) rfl
theorem in_X6 : Cond.instantiable RX6 33 ∈ lw_G := lw_G_t3 (List.mem_of_getElem? (i := 190) rfl) rfl
section WALK
variable {p : Program} {l : Launch} {e : Env} {s : State} {m : MethodId} {args : Array Value} {below : List Frame} {meth : Method} {c : Code} {D : va_G} {A : Nat → Prop} {cI cZ cH : ClassId}
theorem dX2_init_0 : decode cX2_init 0 = .ok (.aload_n 0, 1) := by decide +kernel
theorem dX2_init_1 : decode cX2_init 1 = .ok (.invokespecial 3, 3) := by decide +kernel
theorem dX2_init_4 : decode cX2_init 4 = .ok (.aload_n 0, 1) := by decide +kernel
theorem dX2_init_5 : decode cX2_init 5 = .ok (.sipush 3200, 3) := by decide +kernel
theorem dX2_init_8 : decode cX2_init 8 = .ok (.newarray .int, 2) := by decide +kernel
theorem dX2_init_10 : decode cX2_init 10 = .ok (.putfield 9, 3) := by decide +kernel
theorem dX2_init_13 : decode cX2_init 13 = .ok (.aload_n 0, 1) := by decide +kernel
theorem dX2_init_14 : decode cX2_init 14 = .ok (.sipush 400, 3) := by decide +kernel
theorem dX2_init_17 : decode cX2_init 17 = .ok (.newarray .int, 2) := by decide +kernel
theorem dX2_init_19 : decode cX2_init 19 = .ok (.putfield 15, 3) := by decide +kernel
theorem dX2_init_22 : decode cX2_init 22 = .ok (.return_, 1) := by decide +kernel
def rm_X2_init : Room := { frames := 1, cells := 2, slots := 3600, locals := 20 }
set_option maxHeartbeats 2000000 in
theorem c_X2_init {h0 : Nat} : ctN l yX2_init cX2_init 1 rm_X2_init D (tyW cI cZ cH) 2 3600 [(h0, .inr (2, [.null, .null, .int 0]))] (fun u => [(h0, .inr (2, [.ref (u 1), .ref (u 2), .int 0])), (u 1, .inl (cI, 3200, .inl (fun _ => 0))), (u 2, .inl (cI, 400, .inl (fun _ => 0)))]) [.ref h0] := by
  refine mk_N (by decide +kernel) (Nat.le_of_ble_eq_true rfl) (fun p e s m args below meth c A X hr9 hlk9 hnm9 hao => ?_)
  refine r_pick (lv' := [(0, .ref h0)]) [0] rfl ?_
  refine r_aload_n X 0 1 dX2_init_0 rfl rfl rfl ?_
  refine r_objInit X 4 ml_X2_3 dX2_init_1 (Nat.le_of_ble_eq_true rfl) (Nat.le_of_ble_eq_true rfl) (Nat.le_of_ble_eq_true rfl) rfl ?_
  refine r_aload_n X 0 5 dX2_init_4 rfl rfl rfl ?_
  refine r_sipush (v := (3200)) X 8 dX2_init_5 (by decide) rfl ?_
  refine r_newIc (N' := 3200) X 10 (by decide) (by decide) (Nat.le_of_ble_eq_true rfl) (Nat.le_of_ble_eq_true rfl) (Nat.le_of_ble_eq_true rfl) (cells' := 1) (slots' := 3200) rfl rfl dX2_init_8 rfl (fun b1 X1 => ?_)
  refine r_putFK X1 hnm9 0 (.array .int) [.ref b1, .null, .int 0] 13 rfl inX2 tyX2_ok nmX2 (by decide) fl_X2_9 rfl rfl (by decide +kernel) rfl rfl (Nat.le_of_ble_eq_true rfl) rfl dX2_init_10 rfl (fun X2 => ?_)
  refine r_aload_n X2 0 14 dX2_init_13 rfl rfl rfl ?_
  refine r_sipush (v := (400)) X2 17 dX2_init_14 (by decide) rfl ?_
  refine r_newIc (N' := 400) X2 19 (by decide) (by decide) (Nat.le_of_ble_eq_true rfl) (Nat.le_of_ble_eq_true rfl) (Nat.le_of_ble_eq_true rfl) (cells' := 2) (slots' := 3600) rfl rfl dX2_init_17 rfl (fun b2 X3 => ?_)
  refine r_putFK X3 hnm9 1 (.array .int) [.ref b1, .ref b2, .int 0] 22 rfl inX2 tyX2_ok nmX2 (by decide) fl_X2_15 rfl rfl (by decide +kernel) rfl rfl (Nat.le_of_ble_eq_true rfl) rfl dX2_init_19 rfl (fun X4 => ?_)
  exact r_vretN X4 hr9 hlk9 (fun k => [h0, b1, b2].getD k 0) rfl dX2_init_22
theorem dX1_init_0 : decode cX1_init 0 = .ok (.aload_n 0, 1) := by decide +kernel
theorem dX1_init_1 : decode cX1_init 1 = .ok (.invokespecial 3, 3) := by decide +kernel
theorem dX1_init_4 : decode cX1_init 4 = .ok (.aload_n 0, 1) := by decide +kernel
theorem dX1_init_5 : decode cX1_init 5 = .ok (.sipush 400, 3) := by decide +kernel
theorem dX1_init_8 : decode cX1_init 8 = .ok (.newarray .int, 2) := by decide +kernel
theorem dX1_init_10 : decode cX1_init 10 = .ok (.putfield 9, 3) := by decide +kernel
theorem dX1_init_13 : decode cX1_init 13 = .ok (.aload_n 0, 1) := by decide +kernel
theorem dX1_init_14 : decode cX1_init 14 = .ok (.aload_n 1, 1) := by decide +kernel
theorem dX1_init_15 : decode cX1_init 15 = .ok (.putfield 15, 3) := by decide +kernel
theorem dX1_init_18 : decode cX1_init 18 = .ok (.return_, 1) := by decide +kernel
def rm_X1_init : Room := { frames := 1, cells := 1, slots := 400, locals := 20 }
set_option maxHeartbeats 2000000 in
theorem c_X1_init {h0 q : Nat} : ctN l yX1_init cX1_init 2 rm_X1_init D (tyW cI cZ cH) 1 400 [(h0, .inr (1, [.null, .null, .int 0]))] (fun u => [(h0, .inr (1, [.ref q, .ref (u 1), .int 0])), (u 1, .inl (cI, 400, .inl (fun _ => 0)))]) [.ref h0, .ref q] := by
  refine mk_N (by decide +kernel) (Nat.le_of_ble_eq_true rfl) (fun p e s m args below meth c A X hr9 hlk9 hnm9 hao => ?_)
  refine r_pick (lv' := [(0, .ref h0), (1, .ref q)]) [0, 1] rfl ?_
  refine r_aload_n X 0 1 dX1_init_0 rfl rfl rfl ?_
  refine r_objInit X 4 ml_X1_3 dX1_init_1 (Nat.le_of_ble_eq_true rfl) (Nat.le_of_ble_eq_true rfl) (Nat.le_of_ble_eq_true rfl) rfl ?_
  refine r_aload_n X 0 5 dX1_init_4 rfl rfl rfl ?_
  refine r_sipush (v := (400)) X 8 dX1_init_5 (by decide) rfl ?_
  refine r_newIc (N' := 400) X 10 (by decide) (by decide) (Nat.le_of_ble_eq_true rfl) (Nat.le_of_ble_eq_true rfl) (Nat.le_of_ble_eq_true rfl) (cells' := 1) (slots' := 400) rfl rfl dX1_init_8 rfl (fun b1 X1 => ?_)
  refine r_putFK X1 hnm9 1 (.array .int) [.null, .ref b1, .int 0] 13 rfl inX1 tyX1_ok nmX1 (by decide) fl_X1_9 rfl rfl (by decide +kernel) rfl rfl (Nat.le_of_ble_eq_true rfl) rfl dX1_init_10 rfl (fun X2 => ?_)
  refine r_aload_n X2 0 14 dX1_init_13 rfl rfl rfl ?_
  refine r_aload_n X2 1 15 dX1_init_14 rfl rfl rfl ?_
  refine r_putFK X2 hnm9 0 (.object "CustodyRoom$Slips") [.ref q, .ref b1, .int 0] 18 rfl inX1 tyX1_ok nmX1 (by decide) fl_X1_15 rfl rfl (by decide +kernel) rfl rfl (Nat.le_of_ble_eq_true rfl) rfl dX1_init_15 rfl (fun X3 => ?_)
  exact r_vretN X3 hr9 hlk9 (fun k => [h0, b1].getD k 0) rfl dX1_init_18
theorem dX3_init_0 : decode cX3_init 0 = .ok (.aload_n 0, 1) := by decide +kernel
theorem dX3_init_1 : decode cX3_init 1 = .ok (.invokespecial 3, 3) := by decide +kernel
theorem dX3_init_4 : decode cX3_init 4 = .ok (.aload_n 0, 1) := by decide +kernel
theorem dX3_init_5 : decode cX3_init 5 = .ok (.bipush 60, 2) := by decide +kernel
theorem dX3_init_7 : decode cX3_init 7 = .ok (.newarray .int, 2) := by decide +kernel
theorem dX3_init_9 : decode cX3_init 9 = .ok (.putfield 9, 3) := by decide +kernel
theorem dX3_init_12 : decode cX3_init 12 = .ok (.aload_n 0, 1) := by decide +kernel
theorem dX3_init_13 : decode cX3_init 13 = .ok (.bipush 60, 2) := by decide +kernel
theorem dX3_init_15 : decode cX3_init 15 = .ok (.newarray .int, 2) := by decide +kernel
theorem dX3_init_17 : decode cX3_init 17 = .ok (.putfield 15, 3) := by decide +kernel
theorem dX3_init_20 : decode cX3_init 20 = .ok (.aload_n 0, 1) := by decide +kernel
theorem dX3_init_21 : decode cX3_init 21 = .ok (.bipush 60, 2) := by decide +kernel
theorem dX3_init_23 : decode cX3_init 23 = .ok (.newarray .int, 2) := by decide +kernel
theorem dX3_init_25 : decode cX3_init 25 = .ok (.putfield 18, 3) := by decide +kernel
theorem dX3_init_28 : decode cX3_init 28 = .ok (.aload_n 0, 1) := by decide +kernel
theorem dX3_init_29 : decode cX3_init 29 = .ok (.bipush 60, 2) := by decide +kernel
theorem dX3_init_31 : decode cX3_init 31 = .ok (.newarray .int, 2) := by decide +kernel
theorem dX3_init_33 : decode cX3_init 33 = .ok (.putfield 21, 3) := by decide +kernel
theorem dX3_init_36 : decode cX3_init 36 = .ok (.aload_n 0, 1) := by decide +kernel
theorem dX3_init_37 : decode cX3_init 37 = .ok (.bipush 60, 2) := by decide +kernel
theorem dX3_init_39 : decode cX3_init 39 = .ok (.newarray .int, 2) := by decide +kernel
theorem dX3_init_41 : decode cX3_init 41 = .ok (.putfield 24, 3) := by decide +kernel
theorem dX3_init_44 : decode cX3_init 44 = .ok (.aload_n 0, 1) := by decide +kernel
theorem dX3_init_45 : decode cX3_init 45 = .ok (.bipush 60, 2) := by decide +kernel
theorem dX3_init_47 : decode cX3_init 47 = .ok (.newarray .int, 2) := by decide +kernel
theorem dX3_init_49 : decode cX3_init 49 = .ok (.putfield 27, 3) := by decide +kernel
theorem dX3_init_52 : decode cX3_init 52 = .ok (.aload_n 0, 1) := by decide +kernel
theorem dX3_init_53 : decode cX3_init 53 = .ok (.bipush 60, 2) := by decide +kernel
theorem dX3_init_55 : decode cX3_init 55 = .ok (.newarray .int, 2) := by decide +kernel
theorem dX3_init_57 : decode cX3_init 57 = .ok (.putfield 30, 3) := by decide +kernel
theorem dX3_init_60 : decode cX3_init 60 = .ok (.aload_n 0, 1) := by decide +kernel
theorem dX3_init_61 : decode cX3_init 61 = .ok (.bipush 60, 2) := by decide +kernel
theorem dX3_init_63 : decode cX3_init 63 = .ok (.newarray .int, 2) := by decide +kernel
theorem dX3_init_65 : decode cX3_init 65 = .ok (.putfield 33, 3) := by decide +kernel
theorem dX3_init_68 : decode cX3_init 68 = .ok (.aload_n 0, 1) := by decide +kernel
theorem dX3_init_69 : decode cX3_init 69 = .ok (.bipush 60, 2) := by decide +kernel
theorem dX3_init_71 : decode cX3_init 71 = .ok (.newarray .int, 2) := by decide +kernel
theorem dX3_init_73 : decode cX3_init 73 = .ok (.putfield 36, 3) := by decide +kernel
theorem dX3_init_76 : decode cX3_init 76 = .ok (.aload_n 0, 1) := by decide +kernel
theorem dX3_init_77 : decode cX3_init 77 = .ok (.bipush 60, 2) := by decide +kernel
theorem dX3_init_79 : decode cX3_init 79 = .ok (.newarray .int, 2) := by decide +kernel
theorem dX3_init_81 : decode cX3_init 81 = .ok (.putfield 39, 3) := by decide +kernel
theorem dX3_init_84 : decode cX3_init 84 = .ok (.aload_n 0, 1) := by decide +kernel
theorem dX3_init_85 : decode cX3_init 85 = .ok (.bipush 96, 2) := by decide +kernel
theorem dX3_init_87 : decode cX3_init 87 = .ok (.newarray .int, 2) := by decide +kernel
theorem dX3_init_89 : decode cX3_init 89 = .ok (.putfield 42, 3) := by decide +kernel
theorem dX3_init_92 : decode cX3_init 92 = .ok (.aload_n 0, 1) := by decide +kernel
theorem dX3_init_93 : decode cX3_init 93 = .ok (.sipush 600, 3) := by decide +kernel
theorem dX3_init_96 : decode cX3_init 96 = .ok (.newarray .int, 2) := by decide +kernel
theorem dX3_init_98 : decode cX3_init 98 = .ok (.putfield 45, 3) := by decide +kernel
theorem dX3_init_101 : decode cX3_init 101 = .ok (.aload_n 0, 1) := by decide +kernel
theorem dX3_init_102 : decode cX3_init 102 = .ok (.aload_n 1, 1) := by decide +kernel
theorem dX3_init_103 : decode cX3_init 103 = .ok (.putfield 48, 3) := by decide +kernel
theorem dX3_init_106 : decode cX3_init 106 = .ok (.return_, 1) := by decide +kernel
def rm_X3_init : Room := { frames := 1, cells := 12, slots := 1296, locals := 20 }
set_option maxHeartbeats 2000000 in
theorem c_X3_init {h0 q : Nat} : ctN l yX3_init cX3_init 2 rm_X3_init D (tyW cI cZ cH) 12 1296 [(h0, .inr (3, [.null, .null, .null, .null, .null, .null, .null, .null, .null, .null, .null, .null, .null, .int 0, .int 0, .int 0, .int 0, .int 0, .int 0]))] (fun u => [(h0, .inr (3, [.ref q, .ref (u 1), .ref (u 2), .ref (u 3), .ref (u 4), .ref (u 5), .ref (u 6), .ref (u 7), .ref (u 8), .ref (u 9), .ref (u 10), .ref (u 11), .ref (u 12), .int 0, .int 0, .int 0, .int 0, .int 0, .int 0])), (u 1, .inl (cI, 60, .inl (fun _ => 0))), (u 2, .inl (cI, 60, .inl (fun _ => 0))), (u 3, .inl (cI, 60, .inl (fun _ => 0))), (u 4, .inl (cI, 60, .inl (fun _ => 0))), (u 5, .inl (cI, 60, .inl (fun _ => 0))), (u 6, .inl (cI, 60, .inl (fun _ => 0))), (u 7, .inl (cI, 60, .inl (fun _ => 0))), (u 8, .inl (cI, 60, .inl (fun _ => 0))), (u 9, .inl (cI, 60, .inl (fun _ => 0))), (u 10, .inl (cI, 60, .inl (fun _ => 0))), (u 11, .inl (cI, 96, .inl (fun _ => 0))), (u 12, .inl (cI, 600, .inl (fun _ => 0)))]) [.ref h0, .ref q] := by
  refine mk_N (by decide +kernel) (Nat.le_of_ble_eq_true rfl) (fun p e s m args below meth c A X hr9 hlk9 hnm9 hao => ?_)
  refine r_pick (lv' := [(0, .ref h0), (1, .ref q)]) [0, 1] rfl ?_
  refine r_aload_n X 0 1 dX3_init_0 rfl rfl rfl ?_
  refine r_objInit X 4 ml_X3_3 dX3_init_1 (Nat.le_of_ble_eq_true rfl) (Nat.le_of_ble_eq_true rfl) (Nat.le_of_ble_eq_true rfl) rfl ?_
  refine r_aload_n X 0 5 dX3_init_4 rfl rfl rfl ?_
  refine r_bipush (v := (60)) X 7 dX3_init_5 (by decide) rfl ?_
  refine r_newIc (N' := 60) X 9 (by decide) (by decide) (Nat.le_of_ble_eq_true rfl) (Nat.le_of_ble_eq_true rfl) (Nat.le_of_ble_eq_true rfl) (cells' := 1) (slots' := 60) rfl rfl dX3_init_7 rfl (fun b1 X1 => ?_)
  refine r_putFK X1 hnm9 1 (.array .int) [.null, .ref b1, .null, .null, .null, .null, .null, .null, .null, .null, .null, .null, .null, .int 0, .int 0, .int 0, .int 0, .int 0, .int 0] 12 rfl inX3 tyX3_ok nmX3 (by decide) fl_X3_9 rfl rfl (by decide +kernel) rfl rfl (Nat.le_of_ble_eq_true rfl) rfl dX3_init_9 rfl (fun X2 => ?_)
  refine r_aload_n X2 0 13 dX3_init_12 rfl rfl rfl ?_
  refine r_bipush (v := (60)) X2 15 dX3_init_13 (by decide) rfl ?_
  refine r_newIc (N' := 60) X2 17 (by decide) (by decide) (Nat.le_of_ble_eq_true rfl) (Nat.le_of_ble_eq_true rfl) (Nat.le_of_ble_eq_true rfl) (cells' := 2) (slots' := 120) rfl rfl dX3_init_15 rfl (fun b2 X3 => ?_)
  refine r_putFK X3 hnm9 2 (.array .int) [.null, .ref b1, .ref b2, .null, .null, .null, .null, .null, .null, .null, .null, .null, .null, .int 0, .int 0, .int 0, .int 0, .int 0, .int 0] 20 rfl inX3 tyX3_ok nmX3 (by decide) fl_X3_15 rfl rfl (by decide +kernel) rfl rfl (Nat.le_of_ble_eq_true rfl) rfl dX3_init_17 rfl (fun X4 => ?_)
  refine r_aload_n X4 0 21 dX3_init_20 rfl rfl rfl ?_
  refine r_bipush (v := (60)) X4 23 dX3_init_21 (by decide) rfl ?_
  refine r_newIc (N' := 60) X4 25 (by decide) (by decide) (Nat.le_of_ble_eq_true rfl) (Nat.le_of_ble_eq_true rfl) (Nat.le_of_ble_eq_true rfl) (cells' := 3) (slots' := 180) rfl rfl dX3_init_23 rfl (fun b3 X5 => ?_)
  refine r_putFK X5 hnm9 3 (.array .int) [.null, .ref b1, .ref b2, .ref b3, .null, .null, .null, .null, .null, .null, .null, .null, .null, .int 0, .int 0, .int 0, .int 0, .int 0, .int 0] 28 rfl inX3 tyX3_ok nmX3 (by decide) fl_X3_18 rfl rfl (by decide +kernel) rfl rfl (Nat.le_of_ble_eq_true rfl) rfl dX3_init_25 rfl (fun X6 => ?_)
  refine r_aload_n X6 0 29 dX3_init_28 rfl rfl rfl ?_
  refine r_bipush (v := (60)) X6 31 dX3_init_29 (by decide) rfl ?_
  refine r_newIc (N' := 60) X6 33 (by decide) (by decide) (Nat.le_of_ble_eq_true rfl) (Nat.le_of_ble_eq_true rfl) (Nat.le_of_ble_eq_true rfl) (cells' := 4) (slots' := 240) rfl rfl dX3_init_31 rfl (fun b4 X7 => ?_)
  refine r_putFK X7 hnm9 4 (.array .int) [.null, .ref b1, .ref b2, .ref b3, .ref b4, .null, .null, .null, .null, .null, .null, .null, .null, .int 0, .int 0, .int 0, .int 0, .int 0, .int 0] 36 rfl inX3 tyX3_ok nmX3 (by decide) fl_X3_21 rfl rfl (by decide +kernel) rfl rfl (Nat.le_of_ble_eq_true rfl) rfl dX3_init_33 rfl (fun X8 => ?_)
  refine r_aload_n X8 0 37 dX3_init_36 rfl rfl rfl ?_
  refine r_bipush (v := (60)) X8 39 dX3_init_37 (by decide) rfl ?_
  refine r_newIc (N' := 60) X8 41 (by decide) (by decide) (Nat.le_of_ble_eq_true rfl) (Nat.le_of_ble_eq_true rfl) (Nat.le_of_ble_eq_true rfl) (cells' := 5) (slots' := 300) rfl rfl dX3_init_39 rfl (fun b5 X9 => ?_)
  refine r_putFK X9 hnm9 5 (.array .int) [.null, .ref b1, .ref b2, .ref b3, .ref b4, .ref b5, .null, .null, .null, .null, .null, .null, .null, .int 0, .int 0, .int 0, .int 0, .int 0, .int 0] 44 rfl inX3 tyX3_ok nmX3 (by decide) fl_X3_24 rfl rfl (by decide +kernel) rfl rfl (Nat.le_of_ble_eq_true rfl) rfl dX3_init_41 rfl (fun X10 => ?_)
  refine r_aload_n X10 0 45 dX3_init_44 rfl rfl rfl ?_
  refine r_bipush (v := (60)) X10 47 dX3_init_45 (by decide) rfl ?_
  refine r_newIc (N' := 60) X10 49 (by decide) (by decide) (Nat.le_of_ble_eq_true rfl) (Nat.le_of_ble_eq_true rfl) (Nat.le_of_ble_eq_true rfl) (cells' := 6) (slots' := 360) rfl rfl dX3_init_47 rfl (fun b6 X11 => ?_)
  refine r_putFK X11 hnm9 6 (.array .int) [.null, .ref b1, .ref b2, .ref b3, .ref b4, .ref b5, .ref b6, .null, .null, .null, .null, .null, .null, .int 0, .int 0, .int 0, .int 0, .int 0, .int 0] 52 rfl inX3 tyX3_ok nmX3 (by decide) fl_X3_27 rfl rfl (by decide +kernel) rfl rfl (Nat.le_of_ble_eq_true rfl) rfl dX3_init_49 rfl (fun X12 => ?_)
  refine r_aload_n X12 0 53 dX3_init_52 rfl rfl rfl ?_
  refine r_bipush (v := (60)) X12 55 dX3_init_53 (by decide) rfl ?_
  refine r_newIc (N' := 60) X12 57 (by decide) (by decide) (Nat.le_of_ble_eq_true rfl) (Nat.le_of_ble_eq_true rfl) (Nat.le_of_ble_eq_true rfl) (cells' := 7) (slots' := 420) rfl rfl dX3_init_55 rfl (fun b7 X13 => ?_)
  refine r_putFK X13 hnm9 7 (.array .int) [.null, .ref b1, .ref b2, .ref b3, .ref b4, .ref b5, .ref b6, .ref b7, .null, .null, .null, .null, .null, .int 0, .int 0, .int 0, .int 0, .int 0, .int 0] 60 rfl inX3 tyX3_ok nmX3 (by decide) fl_X3_30 rfl rfl (by decide +kernel) rfl rfl (Nat.le_of_ble_eq_true rfl) rfl dX3_init_57 rfl (fun X14 => ?_)
  refine r_aload_n X14 0 61 dX3_init_60 rfl rfl rfl ?_
  refine r_bipush (v := (60)) X14 63 dX3_init_61 (by decide) rfl ?_
  refine r_newIc (N' := 60) X14 65 (by decide) (by decide) (Nat.le_of_ble_eq_true rfl) (Nat.le_of_ble_eq_true rfl) (Nat.le_of_ble_eq_true rfl) (cells' := 8) (slots' := 480) rfl rfl dX3_init_63 rfl (fun b8 X15 => ?_)
  refine r_putFK X15 hnm9 8 (.array .int) [.null, .ref b1, .ref b2, .ref b3, .ref b4, .ref b5, .ref b6, .ref b7, .ref b8, .null, .null, .null, .null, .int 0, .int 0, .int 0, .int 0, .int 0, .int 0] 68 rfl inX3 tyX3_ok nmX3 (by decide) fl_X3_33 rfl rfl (by decide +kernel) rfl rfl (Nat.le_of_ble_eq_true rfl) rfl dX3_init_65 rfl (fun X16 => ?_)
  refine r_aload_n X16 0 69 dX3_init_68 rfl rfl rfl ?_
  refine r_bipush (v := (60)) X16 71 dX3_init_69 (by decide) rfl ?_
  refine r_newIc (N' := 60) X16 73 (by decide) (by decide) (Nat.le_of_ble_eq_true rfl) (Nat.le_of_ble_eq_true rfl) (Nat.le_of_ble_eq_true rfl) (cells' := 9) (slots' := 540) rfl rfl dX3_init_71 rfl (fun b9 X17 => ?_)
  refine r_putFK X17 hnm9 9 (.array .int) [.null, .ref b1, .ref b2, .ref b3, .ref b4, .ref b5, .ref b6, .ref b7, .ref b8, .ref b9, .null, .null, .null, .int 0, .int 0, .int 0, .int 0, .int 0, .int 0] 76 rfl inX3 tyX3_ok nmX3 (by decide) fl_X3_36 rfl rfl (by decide +kernel) rfl rfl (Nat.le_of_ble_eq_true rfl) rfl dX3_init_73 rfl (fun X18 => ?_)
  refine r_aload_n X18 0 77 dX3_init_76 rfl rfl rfl ?_
  refine r_bipush (v := (60)) X18 79 dX3_init_77 (by decide) rfl ?_
  refine r_newIc (N' := 60) X18 81 (by decide) (by decide) (Nat.le_of_ble_eq_true rfl) (Nat.le_of_ble_eq_true rfl) (Nat.le_of_ble_eq_true rfl) (cells' := 10) (slots' := 600) rfl rfl dX3_init_79 rfl (fun b10 X19 => ?_)
  refine r_putFK X19 hnm9 10 (.array .int) [.null, .ref b1, .ref b2, .ref b3, .ref b4, .ref b5, .ref b6, .ref b7, .ref b8, .ref b9, .ref b10, .null, .null, .int 0, .int 0, .int 0, .int 0, .int 0, .int 0] 84 rfl inX3 tyX3_ok nmX3 (by decide) fl_X3_39 rfl rfl (by decide +kernel) rfl rfl (Nat.le_of_ble_eq_true rfl) rfl dX3_init_81 rfl (fun X20 => ?_)
  refine r_aload_n X20 0 85 dX3_init_84 rfl rfl rfl ?_
  refine r_bipush (v := (96)) X20 87 dX3_init_85 (by decide) rfl ?_
  refine r_newIc (N' := 96) X20 89 (by decide) (by decide) (Nat.le_of_ble_eq_true rfl) (Nat.le_of_ble_eq_true rfl) (Nat.le_of_ble_eq_true rfl) (cells' := 11) (slots' := 696) rfl rfl dX3_init_87 rfl (fun b11 X21 => ?_)
  refine r_putFK X21 hnm9 11 (.array .int) [.null, .ref b1, .ref b2, .ref b3, .ref b4, .ref b5, .ref b6, .ref b7, .ref b8, .ref b9, .ref b10, .ref b11, .null, .int 0, .int 0, .int 0, .int 0, .int 0, .int 0] 92 rfl inX3 tyX3_ok nmX3 (by decide) fl_X3_42 rfl rfl (by decide +kernel) rfl rfl (Nat.le_of_ble_eq_true rfl) rfl dX3_init_89 rfl (fun X22 => ?_)
  refine r_aload_n X22 0 93 dX3_init_92 rfl rfl rfl ?_
  refine r_sipush (v := (600)) X22 96 dX3_init_93 (by decide) rfl ?_
  refine r_newIc (N' := 600) X22 98 (by decide) (by decide) (Nat.le_of_ble_eq_true rfl) (Nat.le_of_ble_eq_true rfl) (Nat.le_of_ble_eq_true rfl) (cells' := 12) (slots' := 1296) rfl rfl dX3_init_96 rfl (fun b12 X23 => ?_)
  refine r_putFK X23 hnm9 12 (.array .int) [.null, .ref b1, .ref b2, .ref b3, .ref b4, .ref b5, .ref b6, .ref b7, .ref b8, .ref b9, .ref b10, .ref b11, .ref b12, .int 0, .int 0, .int 0, .int 0, .int 0, .int 0] 101 rfl inX3 tyX3_ok nmX3 (by decide) fl_X3_45 rfl rfl (by decide +kernel) rfl rfl (Nat.le_of_ble_eq_true rfl) rfl dX3_init_98 rfl (fun X24 => ?_)
  refine r_aload_n X24 0 102 dX3_init_101 rfl rfl rfl ?_
  refine r_aload_n X24 1 103 dX3_init_102 rfl rfl rfl ?_
  refine r_putFK X24 hnm9 0 (.object "CustodyRoom$Stock") [.ref q, .ref b1, .ref b2, .ref b3, .ref b4, .ref b5, .ref b6, .ref b7, .ref b8, .ref b9, .ref b10, .ref b11, .ref b12, .int 0, .int 0, .int 0, .int 0, .int 0, .int 0] 106 rfl inX3 tyX3_ok nmX3 (by decide) fl_X3_48 rfl rfl (by decide +kernel) rfl rfl (Nat.le_of_ble_eq_true rfl) rfl dX3_init_103 rfl (fun X25 => ?_)
  exact r_vretN X25 hr9 hlk9 (fun k => [h0, b1, b2, b3, b4, b5, b6, b7, b8, b9, b10, b11, b12].getD k 0) rfl dX3_init_106
theorem dX4_init_0 : decode cX4_init 0 = .ok (.aload_n 0, 1) := by decide +kernel
theorem dX4_init_1 : decode cX4_init 1 = .ok (.invokespecial 3, 3) := by decide +kernel
theorem dX4_init_4 : decode cX4_init 4 = .ok (.aload_n 0, 1) := by decide +kernel
theorem dX4_init_5 : decode cX4_init 5 = .ok (.bipush 20, 2) := by decide +kernel
theorem dX4_init_7 : decode cX4_init 7 = .ok (.newarray .boolean, 2) := by decide +kernel
theorem dX4_init_9 : decode cX4_init 9 = .ok (.putfield 9, 3) := by decide +kernel
theorem dX4_init_12 : decode cX4_init 12 = .ok (.aload_n 0, 1) := by decide +kernel
theorem dX4_init_13 : decode cX4_init 13 = .ok (.bipush 8, 2) := by decide +kernel
theorem dX4_init_15 : decode cX4_init 15 = .ok (.newarray .boolean, 2) := by decide +kernel
theorem dX4_init_17 : decode cX4_init 17 = .ok (.putfield 15, 3) := by decide +kernel
theorem dX4_init_20 : decode cX4_init 20 = .ok (.aload_n 0, 1) := by decide +kernel
theorem dX4_init_21 : decode cX4_init 21 = .ok (.bipush 6, 2) := by decide +kernel
theorem dX4_init_23 : decode cX4_init 23 = .ok (.newarray .int, 2) := by decide +kernel
theorem dX4_init_25 : decode cX4_init 25 = .ok (.putfield 18, 3) := by decide +kernel
theorem dX4_init_28 : decode cX4_init 28 = .ok (.aload_n 0, 1) := by decide +kernel
theorem dX4_init_29 : decode cX4_init 29 = .ok (.bipush 60, 2) := by decide +kernel
theorem dX4_init_31 : decode cX4_init 31 = .ok (.newarray .int, 2) := by decide +kernel
theorem dX4_init_33 : decode cX4_init 33 = .ok (.putfield 22, 3) := by decide +kernel
theorem dX4_init_36 : decode cX4_init 36 = .ok (.aload_n 0, 1) := by decide +kernel
theorem dX4_init_37 : decode cX4_init 37 = .ok (.bipush 60, 2) := by decide +kernel
theorem dX4_init_39 : decode cX4_init 39 = .ok (.newarray .int, 2) := by decide +kernel
theorem dX4_init_41 : decode cX4_init 41 = .ok (.putfield 25, 3) := by decide +kernel
theorem dX4_init_44 : decode cX4_init 44 = .ok (.aload_n 0, 1) := by decide +kernel
theorem dX4_init_45 : decode cX4_init 45 = .ok (.getfield 18, 3) := by decide +kernel
theorem dX4_init_48 : decode cX4_init 48 = .ok (.iconst (-1), 1) := by decide +kernel
theorem dX4_init_49 : decode cX4_init 49 = .ok (.invokestatic 28, 3) := by decide +kernel
theorem dX4_init_52 : decode cX4_init 52 = .ok (.return_, 1) := by decide +kernel
def rm_X4_init : Room := { frames := 1, cells := 5, slots := 154, locals := 23 }
set_option maxHeartbeats 2000000 in
theorem c_X4_init {h0 : Nat} : ctN l yX4_init cX4_init 1 rm_X4_init D (tyW cI cZ cH) 5 154 [(h0, .inr (4, [.null, .null, .null, .null, .null, .int 0, .int 0, .int 0]))] (fun u => [(h0, .inr (4, [.ref (u 1), .ref (u 2), .ref (u 3), .ref (u 4), .ref (u 5), .int 0, .int 0, .int 0])), (u 1, .inl (cZ, 20, .inl (fun _ => 0))), (u 2, .inl (cZ, 8, .inl (fun _ => 0))), (u 3, .inl (cI, 6, .inl (fillA 6 (-1) (fun _ => 0)))), (u 4, .inl (cI, 60, .inl (fun _ => 0))), (u 5, .inl (cI, 60, .inl (fun _ => 0)))]) [.ref h0] := by
  refine mk_N (by decide +kernel) (Nat.le_of_ble_eq_true rfl) (fun p e s m args below meth c A X hr9 hlk9 hnm9 hao => ?_)
  refine r_pick (lv' := [(0, .ref h0)]) [0] rfl ?_
  refine r_aload_n X 0 1 dX4_init_0 rfl rfl rfl ?_
  refine r_objInit X 4 ml_X4_3 dX4_init_1 (Nat.le_of_ble_eq_true rfl) (Nat.le_of_ble_eq_true rfl) (Nat.le_of_ble_eq_true rfl) rfl ?_
  refine r_aload_n X 0 5 dX4_init_4 rfl rfl rfl ?_
  refine r_bipush (v := (20)) X 7 dX4_init_5 (by decide) rfl ?_
  refine r_newZc (N' := 20) X 9 (by decide) (by decide) (Nat.le_of_ble_eq_true rfl) (Nat.le_of_ble_eq_true rfl) (Nat.le_of_ble_eq_true rfl) (cells' := 1) (slots' := 20) rfl rfl dX4_init_7 rfl (fun b1 X1 => ?_)
  refine r_putFK X1 hnm9 0 (.array .boolean) [.ref b1, .null, .null, .null, .null, .int 0, .int 0, .int 0] 12 rfl inX4 tyX4_ok nmX4 (by decide) fl_X4_9 rfl rfl (by decide +kernel) rfl rfl (Nat.le_of_ble_eq_true rfl) rfl dX4_init_9 rfl (fun X2 => ?_)
  refine r_aload_n X2 0 13 dX4_init_12 rfl rfl rfl ?_
  refine r_bipush (v := (8)) X2 15 dX4_init_13 (by decide) rfl ?_
  refine r_newZc (N' := 8) X2 17 (by decide) (by decide) (Nat.le_of_ble_eq_true rfl) (Nat.le_of_ble_eq_true rfl) (Nat.le_of_ble_eq_true rfl) (cells' := 2) (slots' := 28) rfl rfl dX4_init_15 rfl (fun b2 X3 => ?_)
  refine r_putFK X3 hnm9 1 (.array .boolean) [.ref b1, .ref b2, .null, .null, .null, .int 0, .int 0, .int 0] 20 rfl inX4 tyX4_ok nmX4 (by decide) fl_X4_15 rfl rfl (by decide +kernel) rfl rfl (Nat.le_of_ble_eq_true rfl) rfl dX4_init_17 rfl (fun X4 => ?_)
  refine r_aload_n X4 0 21 dX4_init_20 rfl rfl rfl ?_
  refine r_bipush (v := (6)) X4 23 dX4_init_21 (by decide) rfl ?_
  refine r_newIc (N' := 6) X4 25 (by decide) (by decide) (Nat.le_of_ble_eq_true rfl) (Nat.le_of_ble_eq_true rfl) (Nat.le_of_ble_eq_true rfl) (cells' := 3) (slots' := 34) rfl rfl dX4_init_23 rfl (fun b3 X5 => ?_)
  refine r_putFK X5 hnm9 2 (.array .int) [.ref b1, .ref b2, .ref b3, .null, .null, .int 0, .int 0, .int 0] 28 rfl inX4 tyX4_ok nmX4 (by decide) fl_X4_18 rfl rfl (by decide +kernel) rfl rfl (Nat.le_of_ble_eq_true rfl) rfl dX4_init_25 rfl (fun X6 => ?_)
  refine r_aload_n X6 0 29 dX4_init_28 rfl rfl rfl ?_
  refine r_bipush (v := (60)) X6 31 dX4_init_29 (by decide) rfl ?_
  refine r_newIc (N' := 60) X6 33 (by decide) (by decide) (Nat.le_of_ble_eq_true rfl) (Nat.le_of_ble_eq_true rfl) (Nat.le_of_ble_eq_true rfl) (cells' := 4) (slots' := 94) rfl rfl dX4_init_31 rfl (fun b4 X7 => ?_)
  refine r_putFK X7 hnm9 3 (.array .int) [.ref b1, .ref b2, .ref b3, .ref b4, .null, .int 0, .int 0, .int 0] 36 rfl inX4 tyX4_ok nmX4 (by decide) fl_X4_22 rfl rfl (by decide +kernel) rfl rfl (Nat.le_of_ble_eq_true rfl) rfl dX4_init_33 rfl (fun X8 => ?_)
  refine r_aload_n X8 0 37 dX4_init_36 rfl rfl rfl ?_
  refine r_bipush (v := (60)) X8 39 dX4_init_37 (by decide) rfl ?_
  refine r_newIc (N' := 60) X8 41 (by decide) (by decide) (Nat.le_of_ble_eq_true rfl) (Nat.le_of_ble_eq_true rfl) (Nat.le_of_ble_eq_true rfl) (cells' := 5) (slots' := 154) rfl rfl dX4_init_39 rfl (fun b5 X9 => ?_)
  refine r_putFK X9 hnm9 4 (.array .int) [.ref b1, .ref b2, .ref b3, .ref b4, .ref b5, .int 0, .int 0, .int 0] 44 rfl inX4 tyX4_ok nmX4 (by decide) fl_X4_25 rfl rfl (by decide +kernel) rfl rfl (Nat.le_of_ble_eq_true rfl) rfl dX4_init_41 rfl (fun X10 => ?_)
  refine r_sw (w' := (fun σ : St => [(h0, .inr (4, [.ref b1, .ref b2, .ref b3, .ref b4, .ref b5, .int 0, .int 0, .int 0])), (b1, .inl (cZ, 20, .inl (fun _ => 0))), (b2, .inl (cZ, 8, .inl (fun _ => 0))), (b3, .inl (cI, 6, .inl (σ 4))), (b4, .inl (cI, 60, .inl (fun _ => 0))), (b5, .inl (cI, 60, .inl (fun _ => 0)))])) (σ' := s0) X10 (fun _ _ => rfl) rfl (fun Y => ?_)
  refine r_aload_n Y 0 45 dX4_init_44 rfl rfl rfl ?_
  refine r_get Y (q0 := 0) (ci := 4) (k := 2) 48 rfl rfl inX4 (by decide) rfl fl_X4_18 dX4_init_45 rfl ?_
  refine r_iconst (v := (-1)) Y 49 dX4_init_48 (by decide) rfl ?_
  refine r_callSV (As := [.ref b3, .int (-1)]) (rest := []) Y 52 (c_fill (q0 := 3) (k := 4) (N := 6) (t0 := 0) (Q := fun τ => τ = upr s0 4 (fillA 6 (-1) (s0 4))) (fun _ _ => rfl) (fun _ => rfl) (fun _ _ => rfl) rfl (by decide) rfl) ml_X4_28 lk_J7_fill_53178 sy_J7_fill_53178 rfl rfl (Nat.le_of_ble_eq_true rfl) ⟨rfl, rfl, ⟨(Nat.le_of_ble_eq_true rfl), (Nat.le_of_ble_eq_true rfl)⟩, (Nat.le_of_ble_eq_true rfl), (Nat.le_of_ble_eq_true rfl)⟩ dX4_init_49 rfl (fun τ hτ => ?_)
  subst hτ
  exact r_vretN Y hr9 hlk9 (fun k => [h0, b1, b2, b3, b4, b5].getD k 0) rfl dX4_init_52
end WALK
