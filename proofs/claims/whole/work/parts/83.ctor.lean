/-- a world that is a plain list -/
def kw (L : va_W) : St → va_W := fun _ => L
theorem kw_ok (L : va_W) : wOk (kw L) := fun _ _ => rfl
def s0 : St := fun _ _ => 0
/-- a constructor's contract: from the world w0 to the world w1 of its new addresses -/
def ctN (l : Launch) (y : MethodName) (bytes : ByteArray) (maxL : Nat) (rm : Room) (D : va_G) (tys : List (ClassId × FieldType)) (mc ms : Nat) (w0 : va_W) (w1 : (Nat → Nat) → va_W) (av : List Value) : Prop :=
  ∀ sz : Nat, Met l y (.code y bytes maxL none :: lw_G) rm (va_Pc av (fun U => va_AO RX0 U ∧ preW D (kw w0) tys s0 sz U)) (va_Qv (fun _ : Nat → Nat => True) (fun u t => atw D (kw (w1 u)) tys (va_A w0 sz) s0 t) (va_A w0 sz)) mc ms (va_A w0 sz)
theorem preN_blind {av : List Value} {D : va_G} {w0 : va_W} {tys : List (ClassId × FieldType)} {sz : Nat} : FrameBlind (va_Pc av (fun U => va_AO RX0 U ∧ preW D (kw w0) tys s0 sz U)) :=
  fun a U g mk h => ⟨h.1, va_AO.moved (u := U) (U := U.calling g mk a) (Vm.Alike.refl U.vm) h.2.1, h.2.2.1, h.2.2.2.1, va_K.moved (u := U) (U := U.calling g mk a) (Vm.Alike.refl U.vm) h.2.2.2.2.1, h.2.2.2.2.2.1, nst_same (s := U) (U := U.calling g mk a) rfl h.2.2.2.2.2.2⟩
section ROWSN
variable {p : Program} {l : Launch} {e : Env} {R : Room} {s : State} {m : MethodId} {args : Array Value} {below : List Frame} {meth : Method} {c : Code} {D : va_G} {w w' : St → va_W} {A : Nat → Prop} {cells slots cells' slots' : Nat} {Qf : State → Prop} {nL : Nat} {tys : List (ClassId × FieldType)} {cc : ByteArray} {own : String} {pc : Nat} {lv lv' : List (Nat × Value)} {st : List Value} {σ σ' : St} {cI cZ cH : ClassId} {L L1 w0 : va_W}
set_option maxHeartbeats 1000000 in
theorem mk_N {y : MethodName} {bytes : ByteArray} {maxL mc ms : Nat} {rm : Room} {w1 : (Nat → Nat) → va_W} {av : List Value} (hy : plainName y.cls = true) (hlen : (lg_sl av).length ≤ maxL)
    (body : ∀ (p : Program) (e : Env) (s : State) (m : MethodId) (args : Array Value) (below : List Frame) (meth : Method) (c : Code) (A : Nat → Prop), cx p s m args c bytes maxL y.cls D (kw w0) A tys → meth.sig.returnType = none → meth.locks = false → meth.name = y.name → va_AO RX0 s →
      go p l e rm s m args below meth c D (kw w0) A 0 0 (MQ below (va_Qv (fun _ : Nat → Nat => True) (fun u t => atw D (kw (w1 u)) tys A s0 t) A) args s mc ms A) maxL 0 (lv_args 0 av) [] s0) : ctN l y bytes maxL rm D tys mc ms w0 w1 av := by
  intro sz
  refine Met.ofW (cc := bytes) (maxL := maxL) (ret := none) hy rfl ?_
  intro p e s m args below meth c s₁ B hml hv
  obtain ⟨rfl, hao, hsz, hP, hK, hD0, hN0⟩ := hv
  subst hsz
  have hts := atoms_spec (ws := .code y bytes maxL none :: lw_G) B.pre
  have hnm := (name_of_methodNamed B.named B.method).1
  rw [lg_entry_eq]
  exact body p e s m av.toArray below meth c _ ⟨⟨B.exec, B.bytes, hml, findClass_of_methodNamed B.named, fun w h => hts w (List.mem_cons_of_mem _ h)⟩, hK, fun τ => hD0.self, fun q h => Or.inr h, hN0⟩ B.returns B.notSynchronized hnm hao s.heap [] _ hP va_S.rf (lv_entry av hlen)
/-- the same world, told otherwise -/
theorem r_sw (X : cx p s m args c cc nL own D w A tys) (hw : wOk w') (h : w σ = w' σ') (kk : cx p s m args c cc nL own D w' A tys → go p l e R s m args below meth c D w' A cells slots Qf nL pc lv st σ') : go p l e R s m args below meth c D w A cells slots Qf nL pc lv st σ := by
  intro H locs ls hP hS hl
  rw [h] at hP
  have hD := X.2.2.1 σ
  rw [h] at hD
  exact kk ⟨X.1, X.2.1, fun τ => va_D_addr (hw σ' τ) hD, X.2.2.2.1, X.2.2.2.2⟩ H locs ls hP hS hl
/-- the end of a constructor -/
theorem r_vretN (X : cx p s m args c cc nL own D w A tys) (hr : meth.sig.returnType = none) (hlk : meth.locks = false) {w1 : (Nat → Nat) → va_W} (u : Nat → Nat) (hu : w σ = w1 u) (hdg : decode cc pc = .ok (.return_, 1)) : go p l e R s m args below meth c D w A cells slots (MQ below (va_Qv (fun _ : Nat → Nat => True) (fun u t => atw D (kw (w1 u)) tys A s0 t) A) args s cells slots A) nL pc lv [] σ := by
  intro H locs ls hP hS hl
  have hD := X.2.2.1 σ
  rw [hu] at hP hD
  exact W.vret X.1.1 X.1.2.1 hr (fun t ht hW => ⟨⟨u, rfl, trivial, by rw [ht]; exact hP, va_K.moved hW.alike X.2.1, hD⟩, hS.F ht⟩) hS.2.2 hdg hlk
theorem ar_I : Cond.arrayClass (newarray.typeOf .int) ∈ lw_G := lw_G_t1 (List.mem_of_getElem? (i := 60) rfl) rfl
theorem ar_Z : Cond.arrayClass (newarray.typeOf .boolean) ∈ lw_G := lw_G_t1 (List.mem_of_getElem? (i := 59) rfl) rfl
/-- a new int array -/
theorem r_newI (X : cx p s m args c cc nL own D (kw L) A (tyW cI cZ cH)) {n : Int32} {N' : Nat} (q : Nat) (hn : ¬ n < 0) (hN : n.toNatClampNeg = N') (hby : N' * 4 ≤ 536870912) (hcl : cells + 1 ≤ R.cells) (hsl : slots + N' ≤ R.slots) (hc' : cells + 1 = cells') (hs' : slots + N' = slots') (hdg : decode cc pc = .ok (.newarray .int, 2)) (hq : pc + 2 = q) (kk : ∀ b : Nat, cx p s m args c cc nL own D (kw (L ++ [(b, .inl (cI, N', .inl (fun _ => 0)))])) A (tyW cI cZ cH) → go p l e R s m args below meth c D (kw (L ++ [(b, .inl (cI, N', .inl (fun _ => 0)))])) A cells' slots' Qf nL q lv (.ref b :: st) s0) : go p l e R s m args below meth c D (kw L) A cells slots Qf nL pc lv (.int n :: st) s0 := by
  subst hc'; subst hs'
  exact r_newarr (w2 := fun b => kw (L ++ [(b, .inl (cI, N', .inl (fun _ => 0)))])) (t0 := 0) (a0 := (N', .inl (fun _ => 0))) (ty := .int) X q (fun b => kw_ok _) rfl rfl (fun _ _ h => h) ar_I (fun _ => rfl) hn hN hby hcl hsl hdg hq (fun _ => rfl) kk
/-- a new boolean array -/
theorem r_newZ (X : cx p s m args c cc nL own D (kw L) A (tyW cI cZ cH)) {n : Int32} {N' : Nat} (q : Nat) (hn : ¬ n < 0) (hN : n.toNatClampNeg = N') (hby : N' * 1 ≤ 536870912) (hcl : cells + 1 ≤ R.cells) (hsl : slots + N' ≤ R.slots) (hc' : cells + 1 = cells') (hs' : slots + N' = slots') (hdg : decode cc pc = .ok (.newarray .boolean, 2)) (hq : pc + 2 = q) (kk : ∀ b : Nat, cx p s m args c cc nL own D (kw (L ++ [(b, .inl (cZ, N', .inl (fun _ => 0)))])) A (tyW cI cZ cH) → go p l e R s m args below meth c D (kw (L ++ [(b, .inl (cZ, N', .inl (fun _ => 0)))])) A cells' slots' Qf nL q lv (.ref b :: st) s0) : go p l e R s m args below meth c D (kw L) A cells slots Qf nL pc lv (.int n :: st) s0 := by
  subst hc'; subst hs'
  exact r_newarr (w2 := fun b => kw (L ++ [(b, .inl (cZ, N', .inl (fun _ => 0)))])) (t0 := 1) (a0 := (N', .inl (fun _ => 0))) (ty := .boolean) X q (fun b => kw_ok _) rfl rfl (fun _ _ h => h) ar_Z (fun _ => rfl) hn hN hby hcl hsl hdg hq (fun _ => rfl) kk
/-- a new object -/
theorem r_newO (X : cx p s m args c cc nL own D (kw L) A tys) {index ci N : Nat} {C : String} {T : u_T} {ty0 : Nat → FieldType} (fs : List Value) (q : Nat) (hc : vwCl[ci]? = some (C, T, N)) (hin : ∀ w ∈ u_ws C T N, w ∈ lw_G) (hty : ∀ k, k < N → parseFieldDescriptor (T k).2.2.1 = some (ty0 k)) (hlk : Cond.classLink own index C ∈ lw_G) (hins : Cond.instantiable C N ∈ lw_G) (hini : Cond.initialized C ∈ lw_G) (hfs : ∀ j, j < N → defaultValue (ty0 j) = vp_V fs j) (hcl : cells + 1 ≤ R.cells) (hsl : slots + N ≤ R.slots) (hc' : cells + 1 = cells') (hs' : slots + N = slots') (hdg : decode cc pc = .ok (.new index, 3)) (hq : pc + 3 = q) (kk : ∀ b : Nat, cx p s m args c cc nL own D (kw (L ++ [(b, .inr (ci, fs))])) A tys → go p l e R s m args below meth c D (kw (L ++ [(b, .inr (ci, fs))])) A cells' slots' Qf nL q lv (.ref b :: st) s0) : go p l e R s m args below meth c D (kw L) A cells slots Qf nL pc lv st s0 := by
  subst hc'; subst hs'; subst hq
  intro H locs ls hP hS hl
  exact va_new (ci := ci) (fs := fs) (C := C) (T := T) (N := N) X.1.1 X.1.2.1 X.1.2.2.2.2 hin ty0 hty X.1.2.2.2.1 (X.1.2.2.2.2 _ hlk) (X.1.2.2.2.2 _ hins) (X.1.2.2.2.2 _ hini) X.2.1 hP (X.2.2.1 s0) hS X.2.2.2.1 hc hfs hcl hsl hdg (fun b H1 hP1 hD1 hS1 => kk b ⟨X.1, X.2.1, fun _ => hD1, X.2.2.2.1, X.2.2.2.2⟩ H1 locs ls hP1 hS1 hl)
/-- a new array of handings -/
theorem r_newQ (X : cx p s m args c cc nL own D (kw L) A (tyW cI cZ cH)) (hAO : va_AO RX0 s) {index : Nat} {n : Int32} {N' : Nat} (q : Nat) (hlk : Cond.classLink own index RX0 ∈ lw_G) (hn : ¬ n < 0) (hN : n.toNatClampNeg = N') (hby : N' * 4 ≤ 536870912) (hcl : cells + 1 ≤ R.cells) (hsl : slots + N' ≤ R.slots) (hc' : cells + 1 = cells') (hs' : slots + N' = slots') (hdg : decode cc pc = .ok (.anewarray index, 3)) (hq : pc + 3 = q) (kk : ∀ b : Nat, cx p s m args c cc nL own D (kw (L ++ [(b, .inl (cH, N', .inr (.inr (.inr (.inr (fun _ => none))))))])) A (tyW cI cZ cH) → go p l e R s m args below meth c D (kw (L ++ [(b, .inl (cH, N', .inr (.inr (.inr (.inr (fun _ => none))))))])) A cells' slots' Qf nL q lv (.ref b :: st) s0) : go p l e R s m args below meth c D (kw L) A cells slots Qf nL pc lv (.int n :: st) s0 := by
  subst hc'; subst hs'; subst hq
  intro H locs ls hP hS hl
  refine va_newq X.1.1 X.1.2.1 X.1.2.2.2.1 (X.1.2.2.2.2 _ hlk) hAO X.2.1 hP (X.2.2.1 s0) hS X.2.2.2.1 hn hN hby hcl hsl hdg (fun b k H1 hK1 hP1 hD1 hS1 => ?_)
  obtain ⟨-, -, -, -, -, e1⟩ := (hK1.2 3 (k, .object RX0) rfl).2
  obtain ⟨-, -, -, -, -, e2⟩ := (X.2.1.2 2 (cH, .object RX0) rfl).2
  have ek : k = cH := Option.some.inj (e1.symm.trans e2)
  subst ek
  exact kk b ⟨X.1, X.2.1, fun _ => hD1, X.2.2.2.1, X.2.2.2.2⟩ H1 locs ls hP1 hS1 hl
/-- a field of this, that is not final -/
theorem r_putK {b ci : Nat} {fs : List Value} (X : cx p s m args c cc nL own D (kw ((b, .inr (ci, fs)) :: L1)) A tys) {N index : Nat} {C : String} {T : u_T} {v : Value} {ty0 : Nat → FieldType} (k : Nat) (ty : FieldType) (fs' : List Value) (q : Nat) (hc : vwCl[ci]? = some (C, T, N)) (hin : ∀ w ∈ u_ws C T N, w ∈ lw_G) (hty : ∀ k, k < N → parseFieldDescriptor (T k).2.2.1 = some (ty0 k)) (hnm : ∀ a, a < N → ∀ b, b < N → a ≠ b → (T a).2.1 ≠ (T b).2.1) (hk : k < N) (hlk : Cond.fieldLink own index (T k).1 (T k).2.1 (T k).2.2.1 ∈ lw_G) (hfin : (T k).2.2.2 = false) (hd : parseFieldDescriptor (T k).2.2.1 = some ty) (hn : narrow ty v = v) (hfit : fits ty v = true) (hl9 : k < fs.length) (hset : fs.set k v = fs') (hdg : decode cc pc = .ok (.putfield index, 3)) (hq : pc + 3 = q) (kk : cx p s m args c cc nL own D (kw ((b, .inr (ci, fs')) :: L1)) A tys → go p l e R s m args below meth c D (kw ((b, .inr (ci, fs')) :: L1)) A cells slots Qf nL q lv st s0) : go p l e R s m args below meth c D (kw ((b, .inr (ci, fs)) :: L1)) A cells slots Qf nL pc lv (v :: .ref b :: st) s0 := by
  subst hq; subst hset
  exact fun H locs ls hP hS hl => va_put X.1.1 X.1.2.1 X.1.2.2.2.2 hin ty0 hty hnm X.1.2.2.2.1 X.2.1 hP (X.2.2.1 s0) hS 0 rfl hc k hk (X.1.2.2.2.2 _ hlk) (fun _ h9 => h9) hfin hd hn hfit hl9 hdg (fun H1 locs1 hP1 hD1 hS1 => kk ⟨X.1, X.2.1, fun _ => hD1, X.2.2.2.1, X.2.2.2.2⟩ H1 locs1 ls hP1 hS1 hl)
/-- a final field of this -/
theorem r_putFK {b ci : Nat} {fs : List Value} (X : cx p s m args c cc nL own D (kw ((b, .inr (ci, fs)) :: L1)) A tys) (hin2 : meth.name = "<init>") {N index : Nat} {C : String} {T : u_T} {v : Value} {ty0 : Nat → FieldType} (k : Nat) (ty : FieldType) (fs' : List Value) (q : Nat) (hc : vwCl[ci]? = some (C, T, N)) (hin : ∀ w ∈ u_ws C T N, w ∈ lw_G) (hty : ∀ k, k < N → parseFieldDescriptor (T k).2.2.1 = some (ty0 k)) (hnm : ∀ a, a < N → ∀ b, b < N → a ≠ b → (T a).2.1 ≠ (T b).2.1) (hk : k < N) (hlk : Cond.fieldLink own index (T k).1 (T k).2.1 (T k).2.2.1 ∈ lw_G) (hfin : (T k).2.2.2 = true) (hdecl : (T k).1 = own) (hd : parseFieldDescriptor (T k).2.2.1 = some ty) (hn : narrow ty v = v) (hfit : fits ty v = true) (hl9 : k < fs.length) (hset : fs.set k v = fs') (hdg : decode cc pc = .ok (.putfield index, 3)) (hq : pc + 3 = q) (kk : cx p s m args c cc nL own D (kw ((b, .inr (ci, fs')) :: L1)) A tys → go p l e R s m args below meth c D (kw ((b, .inr (ci, fs')) :: L1)) A cells slots Qf nL q lv st s0) : go p l e R s m args below meth c D (kw ((b, .inr (ci, fs)) :: L1)) A cells slots Qf nL pc lv (v :: .ref b :: st) s0 := by
  subst hq; subst hset
  exact fun H locs ls hP hS hl => va_putF X.1.1 X.1.2.1 X.1.2.2.2.2 hin ty0 hty hnm X.1.2.2.2.1 X.2.1 hP (X.2.2.1 s0) hS 0 rfl hc k hk (X.1.2.2.2.2 _ hlk) (fun _ h9 => h9) hfin hin2 hdecl hd hn hfit hl9 hdg (fun H1 locs1 hP1 hD1 hS1 => kk ⟨X.1, X.2.1, fun _ => hD1, X.2.2.2.1, X.2.2.2.2⟩ H1 locs1 ls hP1 hS1 hl)
set_option maxHeartbeats 1000000 in
/-- a constructor of a nest-mate, on the last object -/
theorem r_callN (X : cx p s m args c cc nL own D (kw (L ++ w0)) A tys) (hAO : va_AO RX0 s) {host : String} {y : MethodName} {bytes : ByteArray} {maxL k index b mc ms : Nat} {rm : Room} {As rest : List Value} {w1 : (Nat → Nat) → va_W} (q : Nat) (hM : ctN l y bytes maxL rm D tys mc ms w0 w1 (.ref b :: As)) (hlk : Cond.methodLinkNest own index y host ∈ lw_N) (Lk : lkG y bytes maxL none k) (him : Cond.instanceMethod y ∈ lw_G) (hnm : y.name = "<init>") (hn : As.length = k) (hst : st = As.reverse ++ .ref b :: rest) (hW : (rest.map fun v => v.category).sum ≤ 8) (hrc : rm.cells = mc) (hrs : rm.slots = ms) (hR : rm.frames + 1 ≤ R.frames ∧ 8 + (maxL + 11) + rm.locals ≤ R.locals) (hcl : cells + mc ≤ R.cells) (hsl : slots + ms ≤ R.slots) (hc' : cells + mc = cells') (hs' : slots + ms = slots') (hdg : decode cc pc = .ok (.invokespecial index, 3)) (hq : pc + 3 = q) (kk : ∀ u : Nat → Nat, cx p s m args c cc nL own D (kw (L ++ w1 u)) A tys → go p l e R s m args below meth c D (kw (L ++ w1 u)) A cells' slots' Qf nL q lv rest s0) : go p l e R s m args below meth c D (kw (L ++ w0)) A cells slots Qf nL pc lv st s0 := by
  subst hq; subst hc'; subst hs'
  intro H locs ls hP hS hl
  have hP2 : va_P D vwCl (w0 ++ L) H := va_P_swap hP
  have hD2 : va_D A (w0 ++ L) := va_D_swap (X.2.2.1 s0)
  have hPc := fr_P hP2
  have hDc := fr_D hD2
  have hFc : ∀ q, va_A w0 H.size q → A q := fun q h => by
    rcases h with ⟨k, e, h⟩ | h
    · exact hDc.2 k _ h
    · exact X.2.2.2.1 q (Nat.le_trans hS.1 h)
  refine va_callv (va_runIN (As := As) (rest := rest) X.1 (hM H.size) ⟨va_cnB k X.1.2.2.2.2 (lkG_in Lk) rfl hrc hrs (X.2.2.2.2 _ hlk) (X.1.2.2.2.2 _ Lk.2.1) Lk.2.2 hR, hnm, X.1.2.2.2.2 _ him⟩ ⟨preN_blind, fun U hU hW => ⟨rfl, va_AO.moved hW.alike hAO, by rw [hU], by rw [hU]; exact hPc, va_K.moved hW.alike X.2.1, hDc.weaken (fun _ _ _ _ => trivial), nst_warm hW X.2.2.2.2⟩⟩ rfl hn hl.1 hst (lv_room hW) hdg ⟨hcl, hsl⟩) hS (fun q _ h => hFc q h) hFc (fun u t H1 locs1 ht hvm hw hB hz1 hk1 hS1 => ?_)
  obtain ⟨hP1, hK1, hD1⟩ := hB
  rw [ht] at hP1
  obtain ⟨J1, J2⟩ := fr_join hP2 hD2 hk1 hFc hP1 hD1
  exact kk u ⟨X.1, X.2.1, fun _ => va_D_swap J2, X.2.2.2.1, X.2.2.2.2⟩ H1 locs1 ls (va_P_swap J1) hS1 hl
set_option maxHeartbeats 1000000 in
/-- a constructor of another class, on the last object -/
theorem r_callNL (X : cx p s m args c cc nL own D (kw (L ++ w0)) A tys) (hAO : va_AO RX0 s) {y : MethodName} {bytes : ByteArray} {maxL k index b mc ms : Nat} {rm : Room} {As rest : List Value} {w1 : (Nat → Nat) → va_W} (q : Nat) (hM : ctN l y bytes maxL rm D tys mc ms w0 w1 (.ref b :: As)) (hlk : Cond.methodLink own index y ∈ lw_G) (Lk : lkG y bytes maxL none k) (him : Cond.instanceMethod y ∈ lw_G) (hnm : y.name = "<init>") (hn : As.length = k) (hst : st = As.reverse ++ .ref b :: rest) (hW : (rest.map fun v => v.category).sum ≤ 8) (hrc : rm.cells = mc) (hrs : rm.slots = ms) (hR : rm.frames + 1 ≤ R.frames ∧ 8 + (maxL + 11) + rm.locals ≤ R.locals) (hcl : cells + mc ≤ R.cells) (hsl : slots + ms ≤ R.slots) (hc' : cells + mc = cells') (hs' : slots + ms = slots') (hdg : decode cc pc = .ok (.invokespecial index, 3)) (hq : pc + 3 = q) (kk : ∀ u : Nat → Nat, cx p s m args c cc nL own D (kw (L ++ w1 u)) A tys → go p l e R s m args below meth c D (kw (L ++ w1 u)) A cells' slots' Qf nL q lv rest s0) : go p l e R s m args below meth c D (kw (L ++ w0)) A cells slots Qf nL pc lv st s0 := by
  subst hq; subst hc'; subst hs'
  intro H locs ls hP hS hl
  have hP2 : va_P D vwCl (w0 ++ L) H := va_P_swap hP
  have hD2 : va_D A (w0 ++ L) := va_D_swap (X.2.2.1 s0)
  have hPc := fr_P hP2
  have hDc := fr_D hD2
  have hFc : ∀ q, va_A w0 H.size q → A q := fun q h => by
    rcases h with ⟨k, e, h⟩ | h
    · exact hDc.2 k _ h
    · exact X.2.2.2.1 q (Nat.le_trans hS.1 h)
  refine va_callv (va_runI (As := As) (rest := rest) X.1 (hM H.size) ⟨callB_of k X.1.2.2.2.2 (lkG_in Lk) rfl hrc hrs (X.1.2.2.2.2 _ Lk.2.1) (X.1.2.2.2.2 _ hlk) Lk.2.2 hR, hnm, X.1.2.2.2.2 _ him⟩ ⟨preN_blind, fun U hU hW => ⟨rfl, va_AO.moved hW.alike hAO, by rw [hU], by rw [hU]; exact hPc, va_K.moved hW.alike X.2.1, hDc.weaken (fun _ _ _ _ => trivial), nst_warm hW X.2.2.2.2⟩⟩ rfl hn hl.1 hst (lv_room hW) hdg ⟨hcl, hsl⟩) hS (fun q _ h => hFc q h) hFc (fun u t H1 locs1 ht hvm hw hB hz1 hk1 hS1 => ?_)
  obtain ⟨hP1, hK1, hD1⟩ := hB
  rw [ht] at hP1
  obtain ⟨J1, J2⟩ := fr_join hP2 hD2 hk1 hFc hP1 hD1
  exact kk u ⟨X.1, X.2.1, fun _ => va_D_swap J2, X.2.2.2.1, X.2.2.2.2⟩ H1 locs1 ls (va_P_swap J1) hS1 hl
end ROWSN
