theorem oi_im : Cond.instanceMethod objectInit ∈ lw_G := lw_G_t1 (List.mem_of_getElem? (i := 18) rfl) rfl
theorem oi_cd : Cond.code objectInit ⟨#[0xb1]⟩ 1 none ∈ lw_G := lw_G_t1 (List.mem_of_getElem? (i := 19) rfl) rfl
section ROWSI
variable {p : Program} {l : Launch} {e : Env} {R : Room} {s : State} {m : MethodId} {args : Array Value} {below : List Frame} {meth : Method} {c : Code} {D : va_G} {w : St → va_W} {A : Nat → Prop} {cells slots : Nat} {Qf : State → Prop} {nL : Nat} {tys : List (ClassId × FieldType)} {cc : ByteArray} {own : String} {pc : Nat} {lv lv' : List (Nat × Value)} {st : List Value} {σ : St}
set_option maxHeartbeats 1000000 in
theorem mk_Vn {l : Launch} {y : MethodName} {bytes : ByteArray} {maxL : Nat} {ret : Option FieldType} {rm : Room} {D : va_G} {w : St → va_W} {tys : List (ClassId × FieldType)} {av : List Value} {σ : St} {Q : St → Prop} (hw : wOk w) (hy : plainName y.cls = true) (hlen : (lg_sl av).length ≤ maxL)
    (body : ∀ (p : Program) (e : Env) (s : State) (m : MethodId) (args : Array Value) (below : List Frame) (meth : Method) (c : Code) (A : Nat → Prop), cx p s m args c bytes maxL y.cls D w A tys → meth.sig.returnType = ret → meth.locks = false → meth.name = y.name →
      go p l e rm s m args below meth c D w A 0 0 (MQ below (va_Qv Q (atw D w tys A) A) args s 0 0 A) maxL 0 (lv_args 0 av) [] σ) : ctV l y bytes maxL ret rm D w tys av σ Q := by
  intro sz
  refine Met.ofW (cc := bytes) (maxL := maxL) (ret := ret) hy rfl ?_
  intro p e s m args below meth c s₁ B hml hv
  obtain ⟨rfl, hsz, hP, hK, hD0, hN0⟩ := hv
  subst hsz
  have hts := atoms_spec (ws := .code y bytes maxL ret :: lw_G) B.pre
  have hnm := (name_of_methodNamed B.named B.method).1
  rw [lg_entry_eq]
  exact body p e s m av.toArray below meth c _ ⟨⟨B.exec, B.bytes, hml, findClass_of_methodNamed B.named, fun w h => hts w (List.mem_cons_of_mem _ h)⟩, hK, fun τ => va_D_addr (hw σ τ) hD0.self, fun q h => Or.inr h, hN0⟩ B.returns B.notSynchronized hnm s.heap [] _ hP va_S.rf (lv_entry av hlen)
theorem r_objInit (X : cx p s m args c cc nL own D w A tys) {idx b : Nat} (q : Nat) (hlk : Cond.methodLink own idx objectInit ∈ lw_G) (hd : decode cc pc = .ok (.invokespecial idx, 3)) (hf : 1 ≤ R.frames) (hlo : 8 + 12 ≤ R.locals) (hW : (st.map fun v => v.category).sum ≤ 8) (hq : pc + 3 = q) (kk : go p l e R s m args below meth c D w A cells slots Qf nL q lv st σ) : go p l e R s m args below meth c D w A cells slots Qf nL pc lv (.ref b :: st) σ := by
  subst hq
  intro H locs ls hP hS hl
  refine W.objInit X.1.1 X.1.2.1 X.1.2.2.2.1 (X.1.2.2.2.2 _ hlk) (X.1.2.2.2.2 _ oi_im) (X.1.2.2.2.2 _ oi_cd) rfl (by rw [X.1.2.2.1]; exact hl.1) rfl hd hf (Nat.le_trans (Nat.add_le_add_right (lv_room hW) 12) hlo) ?_
  exact kk H locs ls hP hS hl
theorem r_putF (X : cx p s m args c cc nL own D w A tys) (hin2 : meth.name = "<init>") {q0 ci k b N index : Nat} {fs : List Value} {C : String} {T : u_T} {v : Value} {ty : FieldType} {ty0 : Nat → FieldType} {σ' : St} (q : Nat) (he : (w σ)[q0]? = some (b, .inr (ci, fs))) (hc : vwCl[ci]? = some (C, T, N)) (hin : ∀ w ∈ u_ws C T N, w ∈ lw_G) (hty : ∀ k, k < N → parseFieldDescriptor (T k).2.2.1 = some (ty0 k)) (hnm : ∀ a, a < N → ∀ b, b < N → a ≠ b → (T a).2.1 ≠ (T b).2.1) (hk : k < N) (hlk : Cond.fieldLink own index (T k).1 (T k).2.1 (T k).2.2.1 ∈ lw_G) (hfin : (T k).2.2.2 = true) (hdecl : (T k).1 = own) (hd : parseFieldDescriptor (T k).2.2.1 = some ty) (hn : narrow ty v = v) (hfit : fits ty v = true) (hl9 : k < fs.length) (hset : (w σ).set q0 (b, .inr (ci, fs.set k v)) = w σ') (hdg : decode cc pc = .ok (.putfield index, 3)) (hq : pc + 3 = q) (kk : go p l e R s m args below meth c D w A cells slots Qf nL q lv st σ') : go p l e R s m args below meth c D w A cells slots Qf nL pc lv (v :: .ref b :: st) σ := by
  subst hq; exact fun H locs ls hP hS hl => va_putF X.1.1 X.1.2.1 X.1.2.2.2.2 hin ty0 hty hnm X.1.2.2.2.1 X.2.1 hP (X.2.2.1 σ) hS q0 he hc k hk (X.1.2.2.2.2 _ hlk) (fun _ h9 => h9) hfin hin2 hdecl hd hn hfit hl9 hdg (fun H1 locs1 hP1 _ hS1 => kk H1 locs1 ls (by rw [← hset]; exact hP1) hS1 hl)
end ROWSI
/-- the class's world and one Handing more, its fields in row 31 -/
def hfs (σ : St) : List Value := [.int (σ 31 0), .int (σ 31 1), .int (σ 31 2), .int (σ 31 3), .int (σ 31 4), .int (σ 31 5), .int (σ 31 6)]
def wX (cI cZ cH : ClassId) (a : Nat → Nat) (n q : Nat) (σ : St) : va_W := wC cI cZ cH a n σ ++ [(q, .inr (0, hfs σ))]
theorem wC_len (cI cZ cH : ClassId) (a : Nat → Nat) (n : Nat) (σ : St) : (wC cI cZ cH a n σ).length = 30 + n := by
  unfold wC
  rw [List.length_append, List.length_map, List.length_range]
  rfl
theorem wX_ok (cI cZ cH : ClassId) (a : Nat → Nat) (n q : Nat) : wOk (wX cI cZ cH a n q) := by
  intro σ τ
  unfold wX
  rw [List.map_append, List.map_append, wC_ok cI cZ cH a n σ τ]
  rfl
theorem wX_at (cI cZ cH : ClassId) (a : Nat → Nat) (n q : Nat) (σ : St) : (wX cI cZ cH a n q σ)[30 + n]? = some (q, .inr (0, hfs σ)) := by
  unfold wX
  rw [List.getElem?_append_right (by rw [wC_len]; exact Nat.le_refl _), wC_len, Nat.sub_self]
  rfl
theorem wC_31 (cI cZ cH : ClassId) (a : Nat → Nat) (n : Nat) (σ : St) (f : Nat → Int32) : wC cI cZ cH a n (upr σ 31 f) = wC cI cZ cH a n σ := rfl
theorem wX_set (cI cZ cH : ClassId) (a : Nat → Nat) (n q : Nat) (σ : St) {k : Nat} (hk : k < 7) (v : Int32) : (wX cI cZ cH a n q σ).set (30 + n) (q, .inr (0, (hfs σ).set k (.int v))) = wX cI cZ cH a n q (up2 σ 31 k v) := by
  have e : wC cI cZ cH a n (up2 σ 31 k v) = wC cI cZ cH a n σ := rfl
  unfold wX
  rw [e, List.set_append_right _ _ (by rw [wC_len]; exact Nat.le_refl _), wC_len, Nat.sub_self]
  have e2 : (hfs σ).set k (.int v) = hfs (up2 σ 31 k v) := by
    unfold hfs
    rw [up2_eq]
    rcases (by omega : k = 0 ∨ k = 1 ∨ k = 2 ∨ k = 3 ∨ k = 4 ∨ k = 5 ∨ k = 6) with rfl | rfl | rfl | rfl | rfl | rfl | rfl <;> simp [upd]
  rw [e2]
  rfl
section WALK
variable {p : Program} {l : Launch} {e : Env} {s : State} {m : MethodId} {args : Array Value} {below : List Frame} {meth : Method} {c : Code} {D : va_G} {A : Nat → Prop} {cI cZ cH : ClassId} {a : Nat → Nat} {n : Nat}
theorem dX0_init_0 : decode cX0_init 0 = .ok (.aload_n 0, 1) := by decide +kernel
theorem dX0_init_1 : decode cX0_init 1 = .ok (.invokespecial 3, 3) := by decide +kernel
theorem dX0_init_4 : decode cX0_init 4 = .ok (.aload_n 0, 1) := by decide +kernel
theorem dX0_init_5 : decode cX0_init 5 = .ok (.iconst (-1), 1) := by decide +kernel
theorem dX0_init_6 : decode cX0_init 6 = .ok (.putfield 9, 3) := by decide +kernel
theorem dX0_init_9 : decode cX0_init 9 = .ok (.aload_n 0, 1) := by decide +kernel
theorem dX0_init_10 : decode cX0_init 10 = .ok (.iconst (-1), 1) := by decide +kernel
theorem dX0_init_11 : decode cX0_init 11 = .ok (.putfield 15, 3) := by decide +kernel
theorem dX0_init_14 : decode cX0_init 14 = .ok (.aload_n 0, 1) := by decide +kernel
theorem dX0_init_15 : decode cX0_init 15 = .ok (.iload_n 1, 1) := by decide +kernel
theorem dX0_init_16 : decode cX0_init 16 = .ok (.putfield 18, 3) := by decide +kernel
theorem dX0_init_19 : decode cX0_init 19 = .ok (.aload_n 0, 1) := by decide +kernel
theorem dX0_init_20 : decode cX0_init 20 = .ok (.iload_n 2, 1) := by decide +kernel
theorem dX0_init_21 : decode cX0_init 21 = .ok (.putfield 21, 3) := by decide +kernel
theorem dX0_init_24 : decode cX0_init 24 = .ok (.aload_n 0, 1) := by decide +kernel
theorem dX0_init_25 : decode cX0_init 25 = .ok (.iload_n 3, 1) := by decide +kernel
theorem dX0_init_26 : decode cX0_init 26 = .ok (.putfield 24, 3) := by decide +kernel
theorem dX0_init_29 : decode cX0_init 29 = .ok (.aload_n 0, 1) := by decide +kernel
theorem dX0_init_30 : decode cX0_init 30 = .ok (.iload 4, 2) := by decide +kernel
theorem dX0_init_32 : decode cX0_init 32 = .ok (.putfield 27, 3) := by decide +kernel
theorem dX0_init_35 : decode cX0_init 35 = .ok (.return_, 1) := by decide +kernel
def rm_X0_init : Room := { frames := 1, cells := 0, slots := 0, locals := 20 }
set_option maxHeartbeats 1000000 in
theorem c_X0_init {q : Nat} {σ : St} {x1 x2 x3 x4 : Int32} {Q : St → Prop} (h : Q (up2 (up2 (up2 (up2 (up2 (up2 σ 31 4 (-1)) 31 5 (-1)) 31 0 x1) 31 1 x2) 31 2 x3) 31 3 x4)) : ctV l yX0_init cX0_init 5 none rm_X0_init D (wX cI cZ cH a n q) (tyW cI cZ cH) [.ref q, .int x1, .int x2, .int x3, .int x4] σ Q := by
  refine mk_Vn (wX_ok cI cZ cH a n q) (by decide +kernel) (Nat.le_of_ble_eq_true rfl) (fun p e s m args below meth c A X hr9 hlk9 hnm9 => ?_)
  refine r_pick (lv' := [(0, .ref q), (1, .int x1), (2, .int x2), (3, .int x3), (4, .int x4)]) [0, 1, 2, 3, 4] rfl ?_
  refine r_aload_n X 0 1 dX0_init_0 rfl rfl rfl ?_
  refine r_objInit X 4 ml_X0_3 dX0_init_1 (Nat.le_of_ble_eq_true rfl) (Nat.le_of_ble_eq_true rfl) (Nat.le_of_ble_eq_true rfl) rfl ?_
  refine r_aload_n X 0 5 dX0_init_4 rfl rfl rfl ?_
  refine r_iconst (v := (-1)) X 6 dX0_init_5 (by decide) rfl ?_
  refine r_put X (q0 := 30 + n) (ci := 0) (k := 4) (ty := .int) (ty0 := tyX0) (σ' := up2 σ 31 4 (-1)) 9 (wX_at cI cZ cH a n q _) rfl inX0 tyX0_ok nmX0 (by decide) fl_X0_9 rfl (by decide +kernel) (vp_nar_int _) rfl (Nat.le_of_ble_eq_true rfl) (wX_set cI cZ cH a n q _ (by decide) _) dX0_init_6 rfl ?_
  refine r_aload_n X 0 10 dX0_init_9 rfl rfl rfl ?_
  refine r_iconst (v := (-1)) X 11 dX0_init_10 (by decide) rfl ?_
  refine r_put X (q0 := 30 + n) (ci := 0) (k := 5) (ty := .int) (ty0 := tyX0) (σ' := up2 (up2 σ 31 4 (-1)) 31 5 (-1)) 14 (wX_at cI cZ cH a n q _) rfl inX0 tyX0_ok nmX0 (by decide) fl_X0_15 rfl (by decide +kernel) (vp_nar_int _) rfl (Nat.le_of_ble_eq_true rfl) (wX_set cI cZ cH a n q _ (by decide) _) dX0_init_11 rfl ?_
  refine r_aload_n X 0 15 dX0_init_14 rfl rfl rfl ?_
  refine r_iload_n X 1 16 dX0_init_15 rfl rfl rfl ?_
  refine r_putF X hnm9 (q0 := 30 + n) (ci := 0) (k := 0) (ty := .int) (ty0 := tyX0) (σ' := up2 (up2 (up2 σ 31 4 (-1)) 31 5 (-1)) 31 0 x1) 19 (wX_at cI cZ cH a n q _) rfl inX0 tyX0_ok nmX0 (by decide) fl_X0_18 rfl rfl (by decide +kernel) (vp_nar_int _) rfl (Nat.le_of_ble_eq_true rfl) (wX_set cI cZ cH a n q _ (by decide) _) dX0_init_16 rfl ?_
  refine r_aload_n X 0 20 dX0_init_19 rfl rfl rfl ?_
  refine r_iload_n X 2 21 dX0_init_20 rfl rfl rfl ?_
  refine r_putF X hnm9 (q0 := 30 + n) (ci := 0) (k := 1) (ty := .int) (ty0 := tyX0) (σ' := up2 (up2 (up2 (up2 σ 31 4 (-1)) 31 5 (-1)) 31 0 x1) 31 1 x2) 24 (wX_at cI cZ cH a n q _) rfl inX0 tyX0_ok nmX0 (by decide) fl_X0_21 rfl rfl (by decide +kernel) (vp_nar_int _) rfl (Nat.le_of_ble_eq_true rfl) (wX_set cI cZ cH a n q _ (by decide) _) dX0_init_21 rfl ?_
  refine r_aload_n X 0 25 dX0_init_24 rfl rfl rfl ?_
  refine r_iload_n X 3 26 dX0_init_25 rfl rfl rfl ?_
  refine r_putF X hnm9 (q0 := 30 + n) (ci := 0) (k := 2) (ty := .int) (ty0 := tyX0) (σ' := up2 (up2 (up2 (up2 (up2 σ 31 4 (-1)) 31 5 (-1)) 31 0 x1) 31 1 x2) 31 2 x3) 29 (wX_at cI cZ cH a n q _) rfl inX0 tyX0_ok nmX0 (by decide) fl_X0_24 rfl rfl (by decide +kernel) (vp_nar_int _) rfl (Nat.le_of_ble_eq_true rfl) (wX_set cI cZ cH a n q _ (by decide) _) dX0_init_26 rfl ?_
  refine r_aload_n X 0 30 dX0_init_29 rfl rfl rfl ?_
  refine r_iload X 4 32 dX0_init_30 rfl rfl ?_
  refine r_putF X hnm9 (q0 := 30 + n) (ci := 0) (k := 3) (ty := .int) (ty0 := tyX0) (σ' := up2 (up2 (up2 (up2 (up2 (up2 σ 31 4 (-1)) 31 5 (-1)) 31 0 x1) 31 1 x2) 31 2 x3) 31 3 x4) 35 (wX_at cI cZ cH a n q _) rfl inX0 tyX0_ok nmX0 (by decide) fl_X0_27 rfl rfl (by decide +kernel) (vp_nar_int _) rfl (Nat.le_of_ble_eq_true rfl) (wX_set cI cZ cH a n q _ (by decide) _) dX0_init_32 rfl ?_
  exact r_vret X hr9 hlk9 h dX0_init_35
end WALK
