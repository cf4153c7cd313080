abbrev St : Type := Nat → Nat → Int32
abbrev ix (x : Int32) : Nat := x.toNatClampNeg
def upr (σ : St) (k : Nat) (f : Nat → Int32) : St := fun k' => if k' = k then f else σ k'
def up2 (σ : St) (k j : Nat) (v : Int32) : St := upr σ k (upd (σ k) j v)
def isB (r : Int32) : Prop := r = 0 ∨ r = 1
theorem isB_0 : isB 0 := Or.inl rfl
theorem isB_1 : isB 1 := Or.inr rfl
theorem isB_nar {r : Int32} (h : isB r) : narrow .boolean (.int r) = .int r := by
  rcases h with rfl | rfl <;> decide +kernel
/-- a world whose addresses don't move with its contents -/
def wOk (w : St → va_W) : Prop := ∀ σ τ, (w σ).map Prod.fst = (w τ).map Prod.fst
theorem va_D_addr {A : Nat → Prop} {w1 w2 : va_W} (h : w1.map Prod.fst = w2.map Prod.fst) (hD : va_D A w1) : va_D A w2 := by
  have key : ∀ (k : Nat) (q : Nat × va_E), w2[k]? = some q → ∃ q0, w1[k]? = some q0 ∧ q0.1 = q.1 := by
    intro k q hk
    have h1 : (w1.map Prod.fst)[k]? = some q.1 := by rw [h, List.getElem?_map, hk]; rfl
    rw [List.getElem?_map] at h1
    cases hq : w1[k]? with
    | none => rw [hq] at h1; cases h1
    | some q0 => rw [hq] at h1; exact ⟨q0, rfl, Option.some.inj h1⟩
  refine ⟨fun i j x y hi hj hxy => ?_, fun k q hk => ?_⟩
  · obtain ⟨x0, h1, h2⟩ := key i x hi
    obtain ⟨y0, h3, h4⟩ := key j y hj
    exact hD.1 i j x0 y0 h1 h3 (h2.trans (hxy.trans h4.symm))
  · obtain ⟨q0, h1, h2⟩ := key k q hk
    rw [← h2]
    exact hD.2 k q0 h1
/-- the machine at pc with these locals and this stack, its heap holding the world of σ, comes to its end -/
def go (p : Program) (l : Launch) (e : Env) (R : Room) (s : State) (m : MethodId) (args : Array Value) (below : List Frame) (meth : Method) (c : Code) (D : va_G) (w : St → va_W) (A : Nat → Prop) (cells slots : Nat) (Qf : State → Prop) (nL pc : Nat) (lv : List (Nat × Value)) (st : List Value) (σ : St) : Prop :=
  ∀ (H : Heap) (locs : List Loc) (ls : Array Slot), va_P D vwCl (w σ) H → va_S A s.heap H locs → lv_has ls nL lv → W p l e R s m args below meth c H locs cells slots Qf (F0 m pc ls st)
/-- what stands of a method's body from its entry to its end -/
def cx (p : Program) (s : State) (m : MethodId) (args : Array Value) (c : Code) (cc : ByteArray) (nL : Nat) (own : String) (D : va_G) (w : St → va_W) (A : Nat → Prop) (tys : List (ClassId × FieldType)) : Prop :=
  CallFix p m c cc nL s args lw_G own ∧ va_K D vwCl tys s ∧ (∀ σ, va_D A (w σ)) ∧ (∀ q : Nat, s.heap.size ≤ q → A q) ∧ nst s
def atw (D : va_G) (w : St → va_W) (tys : List (ClassId × FieldType)) (A : Nat → Prop) (u : St) (t : State) : Prop := va_P D vwCl (w u) t.heap ∧ va_K D vwCl tys t ∧ va_D A (w u)
def preW (D : va_G) (w : St → va_W) (tys : List (ClassId × FieldType)) (σ : St) (sz : Nat) (U : State) : Prop := U.heap.size = sz ∧ va_P D vwCl (w σ) U.heap ∧ va_K D vwCl tys U ∧ va_D (fun _ => True) (w σ) ∧ nst U
def ctI (l : Launch) (y : MethodName) (bytes : ByteArray) (maxL : Nat) (ret : Option FieldType) (rm : Room) (D : va_G) (w : St → va_W) (tys : List (ClassId × FieldType)) (av : List Value) (σ : St) (Q : Int32 → St → Prop) : Prop :=
  ∀ sz : Nat, Met l y (.code y bytes maxL ret :: lw_G) rm (va_Pc av (preW D w tys σ sz)) (va_Qi Q (atw D w tys (va_A (w σ) sz)) (va_A (w σ) sz)) 0 0 (va_A (w σ) sz)
def ctV (l : Launch) (y : MethodName) (bytes : ByteArray) (maxL : Nat) (ret : Option FieldType) (rm : Room) (D : va_G) (w : St → va_W) (tys : List (ClassId × FieldType)) (av : List Value) (σ : St) (Q : St → Prop) : Prop :=
  ∀ sz : Nat, Met l y (.code y bytes maxL ret :: lw_G) rm (va_Pc av (preW D w tys σ sz)) (va_Qv Q (atw D w tys (va_A (w σ) sz)) (va_A (w σ) sz)) 0 0 (va_A (w σ) sz)
theorem preW_blind {av : List Value} {D : va_G} {w : St → va_W} {tys : List (ClassId × FieldType)} {σ : St} {sz : Nat} : FrameBlind (va_Pc av (preW D w tys σ sz)) :=
  fun a U g mk h => ⟨h.1, h.2.1, h.2.2.1, va_K.moved (u := U) (U := U.calling g mk a) (Vm.Alike.refl U.vm) h.2.2.2.1, h.2.2.2.2.1, nst_same (s := U) (U := U.calling g mk a) rfl h.2.2.2.2.2⟩

set_option maxHeartbeats 1000000 in
theorem mk_I {l : Launch} {y : MethodName} {bytes : ByteArray} {maxL : Nat} {ret : Option FieldType} {rm : Room} {D : va_G} {w : St → va_W} {tys : List (ClassId × FieldType)} {av : List Value} {σ : St} {Q : Int32 → St → Prop} (hw : wOk w) (hy : plainName y.cls = true) (hlen : (lg_sl av).length ≤ maxL)
    (body : ∀ (p : Program) (e : Env) (s : State) (m : MethodId) (args : Array Value) (below : List Frame) (meth : Method) (c : Code) (A : Nat → Prop), cx p s m args c bytes maxL y.cls D w A tys → meth.sig.returnType = ret → meth.locks = false →
      go p l e rm s m args below meth c D w A 0 0 (MQ below (va_Qi Q (atw D w tys A) A) args s 0 0 A) maxL 0 (lv_args 0 av) [] σ) : ctI l y bytes maxL ret rm D w tys av σ Q := by
  intro sz
  refine Met.ofW (cc := bytes) (maxL := maxL) (ret := ret) hy rfl ?_
  intro p e s m args below meth c s₁ B hml hv
  obtain ⟨rfl, hsz, hP, hK, hD0, hN0⟩ := hv
  subst hsz
  have hts := atoms_spec (ws := .code y bytes maxL ret :: lw_G) B.pre
  rw [lg_entry_eq]
  exact body p e s m av.toArray below meth c _ ⟨⟨B.exec, B.bytes, hml, findClass_of_methodNamed B.named, fun w h => hts w (List.mem_cons_of_mem _ h)⟩, hK, fun τ => va_D_addr (hw σ τ) hD0.self, fun q h => Or.inr h, hN0⟩ B.returns B.notSynchronized s.heap [] _ hP va_S.rf (lv_entry av hlen)

set_option maxHeartbeats 1000000 in
theorem mk_V {l : Launch} {y : MethodName} {bytes : ByteArray} {maxL : Nat} {ret : Option FieldType} {rm : Room} {D : va_G} {w : St → va_W} {tys : List (ClassId × FieldType)} {av : List Value} {σ : St} {Q : St → Prop} (hw : wOk w) (hy : plainName y.cls = true) (hlen : (lg_sl av).length ≤ maxL)
    (body : ∀ (p : Program) (e : Env) (s : State) (m : MethodId) (args : Array Value) (below : List Frame) (meth : Method) (c : Code) (A : Nat → Prop), cx p s m args c bytes maxL y.cls D w A tys → meth.sig.returnType = ret → meth.locks = false →
      go p l e rm s m args below meth c D w A 0 0 (MQ below (va_Qv Q (atw D w tys A) A) args s 0 0 A) maxL 0 (lv_args 0 av) [] σ) : ctV l y bytes maxL ret rm D w tys av σ Q := by
  intro sz
  refine Met.ofW (cc := bytes) (maxL := maxL) (ret := ret) hy rfl ?_
  intro p e s m args below meth c s₁ B hml hv
  obtain ⟨rfl, hsz, hP, hK, hD0, hN0⟩ := hv
  subst hsz
  have hts := atoms_spec (ws := .code y bytes maxL ret :: lw_G) B.pre
  rw [lg_entry_eq]
  exact body p e s m av.toArray below meth c _ ⟨⟨B.exec, B.bytes, hml, findClass_of_methodNamed B.named, fun w h => hts w (List.mem_cons_of_mem _ h)⟩, hK, fun τ => va_D_addr (hw σ τ) hD0.self, fun q h => Or.inr h, hN0⟩ B.returns B.notSynchronized s.heap [] _ hP va_S.rf (lv_entry av hlen)

section ROWS
variable {p : Program} {l : Launch} {e : Env} {R : Room} {s : State} {m : MethodId} {args : Array Value} {below : List Frame} {meth : Method} {c : Code} {D : va_G} {w : St → va_W} {A : Nat → Prop} {cells slots : Nat} {Qf : State → Prop} {nL : Nat} {tys : List (ClassId × FieldType)} {cc : ByteArray} {own : String} {pc : Nat} {lv lv' : List (Nat × Value)} {st : List Value} {σ : St}

theorem r_pick (ks : List Nat) (hk : lv_pick lv ks = lv') (kk : go p l e R s m args below meth c D w A cells slots Qf nL pc lv' st σ) : go p l e R s m args below meth c D w A cells slots Qf nL pc lv st σ := fun H locs ls hP hS hl => kk H locs ls hP hS (lv_sub hl ks hk)

theorem r_iconst (X : cx p s m args c cc nL own D w A tys) {n : Int} {v : Int32} (q : Nat) (hdg : decode cc pc = .ok (.iconst n, 1)) (hv : Int32.ofInt n = v) (hq : pc + 1 = q) (kk : go p l e R s m args below meth c D w A cells slots Qf nL q lv (.int v :: st) σ) : go p l e R s m args below meth c D w A cells slots Qf nL pc lv st σ := by
  subst hq; exact fun H locs ls hP hS hl => lv_iconst X.1.1 X.1.2.1 hdg hv (kk H locs ls hP hS hl)

theorem r_bipush (X : cx p s m args c cc nL own D w A tys) {n : Int} {v : Int32} (q : Nat) (hdg : decode cc pc = .ok (.bipush n, 2)) (hv : (Int8.ofInt n).toInt32 = v) (hq : pc + 2 = q) (kk : go p l e R s m args below meth c D w A cells slots Qf nL q lv (.int v :: st) σ) : go p l e R s m args below meth c D w A cells slots Qf nL pc lv st σ := by
  subst hq; exact fun H locs ls hP hS hl => lv_bipush X.1.1 X.1.2.1 hdg hv (kk H locs ls hP hS hl)

theorem r_sipush (X : cx p s m args c cc nL own D w A tys) {n : Int} {v : Int32} (q : Nat) (hdg : decode cc pc = .ok (.sipush n, 3)) (hv : (Int16.ofInt n).toInt32 = v) (hq : pc + 3 = q) (kk : go p l e R s m args below meth c D w A cells slots Qf nL q lv (.int v :: st) σ) : go p l e R s m args below meth c D w A cells slots Qf nL pc lv st σ := by
  subst hq; exact fun H locs ls hP hS hl => lv_sipush X.1.1 X.1.2.1 hdg hv (kk H locs ls hP hS hl)

theorem r_ldc (X : cx p s m args c cc nL own D w A tys) {index : Nat} {v : Int32} (q : Nat) (hdg : decode cc pc = .ok (.ldc index, 2)) (hc : Cond.constant own index v ∈ lw_G) (hq : pc + 2 = q) (kk : go p l e R s m args below meth c D w A cells slots Qf nL q lv (.int v :: st) σ) : go p l e R s m args below meth c D w A cells slots Qf nL pc lv st σ := by
  subst hq; exact fun H locs ls hP hS hl => lv_ldc X.1.1 X.1.2.1 X.1.2.2.2.1 (X.1.2.2.2.2 _ hc) hdg (kk H locs ls hP hS hl)

theorem r_ldcw (X : cx p s m args c cc nL own D w A tys) {index : Nat} {v : Int32} (q : Nat) (hdg : decode cc pc = .ok (.ldc_w index, 3)) (hc : Cond.constant own index v ∈ lw_G) (hq : pc + 3 = q) (kk : go p l e R s m args below meth c D w A cells slots Qf nL q lv (.int v :: st) σ) : go p l e R s m args below meth c D w A cells slots Qf nL pc lv st σ := by
  subst hq; exact fun H locs ls hP hS hl => lv_ldcw X.1.1 X.1.2.1 X.1.2.2.2.1 (X.1.2.2.2.2 _ hc) hdg (kk H locs ls hP hS hl)

theorem r_iload_n (X : cx p s m args c cc nL own D w A tys) {k : Fin 4} {i : Nat} {x : Int32} (j : Nat) (q : Nat) (hdg : decode cc pc = .ok (.iload_n k, 1)) (hi : (k : Nat) = i) (hj : lv[j]? = some (i, .int x)) (hq : pc + 1 = q) (kk : go p l e R s m args below meth c D w A cells slots Qf nL q lv (.int x :: st) σ) : go p l e R s m args below meth c D w A cells slots Qf nL pc lv st σ := by
  subst hq; exact fun H locs ls hP hS hl => lv_iload_n X.1.1 X.1.2.1 hdg hi (lv_at hl j hj) (kk H locs ls hP hS hl)

theorem r_iload (X : cx p s m args c cc nL own D w A tys) {i : Nat} {x : Int32} (j : Nat) (q : Nat) (hdg : decode cc pc = .ok (.iload i, 2)) (hj : lv[j]? = some (i, .int x)) (hq : pc + 2 = q) (kk : go p l e R s m args below meth c D w A cells slots Qf nL q lv (.int x :: st) σ) : go p l e R s m args below meth c D w A cells slots Qf nL pc lv st σ := by
  subst hq; exact fun H locs ls hP hS hl => lv_iload X.1.1 X.1.2.1 hdg (lv_at hl j hj) (kk H locs ls hP hS hl)

theorem r_aload_n (X : cx p s m args c cc nL own D w A tys) {k : Fin 4} {i : Nat} {x : Nat} (j : Nat) (q : Nat) (hdg : decode cc pc = .ok (.aload_n k, 1)) (hi : (k : Nat) = i) (hj : lv[j]? = some (i, .ref x)) (hq : pc + 1 = q) (kk : go p l e R s m args below meth c D w A cells slots Qf nL q lv (.ref x :: st) σ) : go p l e R s m args below meth c D w A cells slots Qf nL pc lv st σ := by
  subst hq; exact fun H locs ls hP hS hl => lv_aload_n X.1.1 X.1.2.1 hdg hi (lv_at hl j hj) (kk H locs ls hP hS hl)

theorem r_aload (X : cx p s m args c cc nL own D w A tys) {i : Nat} {x : Nat} (j : Nat) (q : Nat) (hdg : decode cc pc = .ok (.aload i, 2)) (hj : lv[j]? = some (i, .ref x)) (hq : pc + 2 = q) (kk : go p l e R s m args below meth c D w A cells slots Qf nL q lv (.ref x :: st) σ) : go p l e R s m args below meth c D w A cells slots Qf nL pc lv st σ := by
  subst hq; exact fun H locs ls hP hS hl => lv_aload X.1.1 X.1.2.1 hdg (lv_at hl j hj) (kk H locs ls hP hS hl)

theorem r_istore_n (X : cx p s m args c cc nL own D w A tys) {k : Fin 4} {i : Nat} {x : Int32} (q : Nat) (lv' : List (Nat × Value)) (hdg : decode cc pc = .ok (.istore_n k, 1)) (hi : (k : Nat) = i) (hn : i < nL) (hf : (i, Value.int x) :: lv.filter (fun q => !(q.1 == i) && !(q.1 + 1 == i && q.2.category == 2)) = lv') (hq : pc + 1 = q) (kk : go p l e R s m args below meth c D w A cells slots Qf nL q (lv') st σ) : go p l e R s m args below meth c D w A cells slots Qf nL pc lv (.int x :: st) σ := by
  subst hq; exact fun H locs ls hP hS hl => lv_istore_n X.1.1 X.1.2.1 hdg hi hl hn hf (fun ls' hl' => kk H locs ls' hP hS hl')

theorem r_istore (X : cx p s m args c cc nL own D w A tys) {i : Nat} {x : Int32} (q : Nat) (lv' : List (Nat × Value)) (hdg : decode cc pc = .ok (.istore i, 2)) (hn : i < nL) (hf : (i, Value.int x) :: lv.filter (fun q => !(q.1 == i) && !(q.1 + 1 == i && q.2.category == 2)) = lv') (hq : pc + 2 = q) (kk : go p l e R s m args below meth c D w A cells slots Qf nL q (lv') st σ) : go p l e R s m args below meth c D w A cells slots Qf nL pc lv (.int x :: st) σ := by
  subst hq; exact fun H locs ls hP hS hl => lv_istore X.1.1 X.1.2.1 hdg hl hn hf (fun ls' hl' => kk H locs ls' hP hS hl')

theorem r_astore_n (X : cx p s m args c cc nL own D w A tys) {k : Fin 4} {i : Nat} {x : Nat} (q : Nat) (lv' : List (Nat × Value)) (hdg : decode cc pc = .ok (.astore_n k, 1)) (hi : (k : Nat) = i) (hn : i < nL) (hf : (i, Value.ref x) :: lv.filter (fun q => !(q.1 == i) && !(q.1 + 1 == i && q.2.category == 2)) = lv') (hq : pc + 1 = q) (kk : go p l e R s m args below meth c D w A cells slots Qf nL q (lv') st σ) : go p l e R s m args below meth c D w A cells slots Qf nL pc lv (.ref x :: st) σ := by
  subst hq; exact fun H locs ls hP hS hl => lv_astore_n X.1.1 X.1.2.1 hdg hi hl hn hf (fun ls' hl' => kk H locs ls' hP hS hl')

theorem r_astore (X : cx p s m args c cc nL own D w A tys) {i : Nat} {x : Nat} (q : Nat) (lv' : List (Nat × Value)) (hdg : decode cc pc = .ok (.astore i, 2)) (hn : i < nL) (hf : (i, Value.ref x) :: lv.filter (fun q => !(q.1 == i) && !(q.1 + 1 == i && q.2.category == 2)) = lv') (hq : pc + 2 = q) (kk : go p l e R s m args below meth c D w A cells slots Qf nL q (lv') st σ) : go p l e R s m args below meth c D w A cells slots Qf nL pc lv (.ref x :: st) σ := by
  subst hq; exact fun H locs ls hP hS hl => lv_astore X.1.1 X.1.2.1 hdg hl hn hf (fun ls' hl' => kk H locs ls' hP hS hl')

theorem r_iinc (X : cx p s m args c cc nL own D w A tys) {i : Nat} {n : Int} {x d : Int32} (j q : Nat) (lv' : List (Nat × Value)) (hdg : decode cc pc = .ok (.iinc i n, 3)) (hj : lv[j]? = some (i, .int x)) (hd : Int32.ofInt n = d) (hn : i < nL) (hf : (i, Value.int (x + d)) :: lv.filter (fun q => !(q.1 == i) && !(q.1 + 1 == i && q.2.category == 2)) = lv') (hq : pc + 3 = q) (kk : go p l e R s m args below meth c D w A cells slots Qf nL q (lv') st σ) : go p l e R s m args below meth c D w A cells slots Qf nL pc lv st σ := by
  subst hq; subst hd; exact fun H locs ls hP hS hl => lv_iinc X.1.1 X.1.2.1 hdg hl hj rfl hn hf (fun ls' hl' => kk H locs ls' hP hS hl')

theorem r_iadd (X : cx p s m args c cc nL own D w A tys) {x y : Int32} (q : Nat) (hdg : decode cc pc = .ok (.iadd, 1))  (hq : pc + 1 = q) (kk : go p l e R s m args below meth c D w A cells slots Qf nL q lv (.int (x + y) :: st) σ) : go p l e R s m args below meth c D w A cells slots Qf nL pc lv (.int y :: .int x :: st) σ := by
  subst hq; exact fun H locs ls hP hS hl => lv_iadd X.1.1 X.1.2.1 hdg (kk H locs ls hP hS hl)

theorem r_isub (X : cx p s m args c cc nL own D w A tys) {x y : Int32} (q : Nat) (hdg : decode cc pc = .ok (.isub, 1))  (hq : pc + 1 = q) (kk : go p l e R s m args below meth c D w A cells slots Qf nL q lv (.int (x - y) :: st) σ) : go p l e R s m args below meth c D w A cells slots Qf nL pc lv (.int y :: .int x :: st) σ := by
  subst hq; exact fun H locs ls hP hS hl => lv_isub X.1.1 X.1.2.1 hdg (kk H locs ls hP hS hl)

theorem r_imul (X : cx p s m args c cc nL own D w A tys) {x y : Int32} (q : Nat) (hdg : decode cc pc = .ok (.imul, 1))  (hq : pc + 1 = q) (kk : go p l e R s m args below meth c D w A cells slots Qf nL q lv (.int (x * y) :: st) σ) : go p l e R s m args below meth c D w A cells slots Qf nL pc lv (.int y :: .int x :: st) σ := by
  subst hq; exact fun H locs ls hP hS hl => lv_imul X.1.1 X.1.2.1 hdg (kk H locs ls hP hS hl)

theorem r_iand (X : cx p s m args c cc nL own D w A tys) {x y : Int32} (q : Nat) (hdg : decode cc pc = .ok (.iand, 1))  (hq : pc + 1 = q) (kk : go p l e R s m args below meth c D w A cells slots Qf nL q lv (.int (x &&& y) :: st) σ) : go p l e R s m args below meth c D w A cells slots Qf nL pc lv (.int y :: .int x :: st) σ := by
  subst hq; exact fun H locs ls hP hS hl => lv_iand X.1.1 X.1.2.1 hdg (kk H locs ls hP hS hl)

theorem r_ior (X : cx p s m args c cc nL own D w A tys) {x y : Int32} (q : Nat) (hdg : decode cc pc = .ok (.ior, 1))  (hq : pc + 1 = q) (kk : go p l e R s m args below meth c D w A cells slots Qf nL q lv (.int (x ||| y) :: st) σ) : go p l e R s m args below meth c D w A cells slots Qf nL pc lv (.int y :: .int x :: st) σ := by
  subst hq; exact fun H locs ls hP hS hl => lv_ior X.1.1 X.1.2.1 hdg (kk H locs ls hP hS hl)

theorem r_ixor (X : cx p s m args c cc nL own D w A tys) {x y : Int32} (q : Nat) (hdg : decode cc pc = .ok (.ixor, 1))  (hq : pc + 1 = q) (kk : go p l e R s m args below meth c D w A cells slots Qf nL q lv (.int (x ^^^ y) :: st) σ) : go p l e R s m args below meth c D w A cells slots Qf nL pc lv (.int y :: .int x :: st) σ := by
  subst hq; exact fun H locs ls hP hS hl => lv_ixor X.1.1 X.1.2.1 hdg (kk H locs ls hP hS hl)

theorem r_ishl (X : cx p s m args c cc nL own D w A tys) {x y : Int32} (q : Nat) (hdg : decode cc pc = .ok (.ishl, 1))  (hq : pc + 1 = q) (kk : go p l e R s m args below meth c D w A cells slots Qf nL q lv (.int (x <<< (y &&& 31)) :: st) σ) : go p l e R s m args below meth c D w A cells slots Qf nL pc lv (.int y :: .int x :: st) σ := by
  subst hq; exact fun H locs ls hP hS hl => lv_ishl X.1.1 X.1.2.1 hdg (kk H locs ls hP hS hl)

theorem r_ishr (X : cx p s m args c cc nL own D w A tys) {x y : Int32} (q : Nat) (hdg : decode cc pc = .ok (.ishr, 1))  (hq : pc + 1 = q) (kk : go p l e R s m args below meth c D w A cells slots Qf nL q lv (.int (x >>> (y &&& 31)) :: st) σ) : go p l e R s m args below meth c D w A cells slots Qf nL pc lv (.int y :: .int x :: st) σ := by
  subst hq; exact fun H locs ls hP hS hl => lv_ishr X.1.1 X.1.2.1 hdg (kk H locs ls hP hS hl)

theorem r_idiv (X : cx p s m args c cc nL own D w A tys) {x y : Int32} (q : Nat) (hdg : decode cc pc = .ok (.idiv, 1)) (hne : ¬ y = 0) (hq : pc + 1 = q) (kk : go p l e R s m args below meth c D w A cells slots Qf nL q lv (.int (x / y) :: st) σ) : go p l e R s m args below meth c D w A cells slots Qf nL pc lv (.int y :: .int x :: st) σ := by
  subst hq; exact fun H locs ls hP hS hl => lv_idiv X.1.1 X.1.2.1 hdg hne (kk H locs ls hP hS hl)

theorem r_irem (X : cx p s m args c cc nL own D w A tys) {x y : Int32} (q : Nat) (hdg : decode cc pc = .ok (.irem, 1)) (hne : ¬ y = 0) (hq : pc + 1 = q) (kk : go p l e R s m args below meth c D w A cells slots Qf nL q lv (.int (x - x / y * y) :: st) σ) : go p l e R s m args below meth c D w A cells slots Qf nL pc lv (.int y :: .int x :: st) σ := by
  subst hq; exact fun H locs ls hP hS hl => lv_irem X.1.1 X.1.2.1 hdg hne (kk H locs ls hP hS hl)

theorem r_iushr (X : cx p s m args c cc nL own D w A tys) {x y : Int32} (q : Nat) (hdg : decode cc pc = .ok (.iushr, 1))  (hq : pc + 1 = q) (kk : go p l e R s m args below meth c D w A cells slots Qf nL q lv (.int ((x.toUInt32 >>> (y.toUInt32 &&& Int32.toUInt32 31)).toInt32) :: st) σ) : go p l e R s m args below meth c D w A cells slots Qf nL pc lv (.int y :: .int x :: st) σ := by
  subst hq; exact fun H locs ls hP hS hl => lv_iushr X.1.1 X.1.2.1 hdg rfl (kk H locs ls hP hS hl)

theorem r_dup (X : cx p s m args c cc nL own D w A tys) {va : Value} (q : Nat) (hdg : decode cc pc = .ok (.dup, 1)) (hva : va.category = 1) (hq : pc + 1 = q) (kk : go p l e R s m args below meth c D w A cells slots Qf nL q lv (va :: va :: st) σ) : go p l e R s m args below meth c D w A cells slots Qf nL pc lv (va :: st) σ := by
  subst hq; exact fun H locs ls hP hS hl => lv_dup X.1.1 X.1.2.1 hdg hva (kk H locs ls hP hS hl)

theorem r_pop (X : cx p s m args c cc nL own D w A tys) {va : Value} (q : Nat) (hdg : decode cc pc = .ok (.pop, 1)) (hva : va.category = 1) (hq : pc + 1 = q) (kk : go p l e R s m args below meth c D w A cells slots Qf nL q lv st σ) : go p l e R s m args below meth c D w A cells slots Qf nL pc lv (va :: st) σ := by
  subst hq; exact fun H locs ls hP hS hl => lv_pop X.1.1 X.1.2.1 hdg hva (kk H locs ls hP hS hl)

theorem r_dup2 (X : cx p s m args c cc nL own D w A tys) {va vb : Value} (q : Nat) (hdg : decode cc pc = .ok (.dup2, 1)) (hva : va.category = 1) (hvb : vb.category = 1) (hq : pc + 1 = q) (kk : go p l e R s m args below meth c D w A cells slots Qf nL q lv (va :: vb :: va :: vb :: st) σ) : go p l e R s m args below meth c D w A cells slots Qf nL pc lv (va :: vb :: st) σ := by
  subst hq; exact fun H locs ls hP hS hl => lv_dup2_11 X.1.1 X.1.2.1 hdg hva hvb (kk H locs ls hP hS hl)

theorem r_dup_x1 (X : cx p s m args c cc nL own D w A tys) {va vb : Value} (q : Nat) (hdg : decode cc pc = .ok (.dup_x1, 1)) (hva : va.category = 1) (hvb : vb.category = 1) (hq : pc + 1 = q) (kk : go p l e R s m args below meth c D w A cells slots Qf nL q lv (va :: vb :: va :: st) σ) : go p l e R s m args below meth c D w A cells slots Qf nL pc lv (va :: vb :: st) σ := by
  subst hq; exact fun H locs ls hP hS hl => lv_dup_x1 X.1.1 X.1.2.1 hdg hva hvb (kk H locs ls hP hS hl)

theorem r_dup_x2 (X : cx p s m args c cc nL own D w A tys) {va vb vd : Value} (q : Nat) (hdg : decode cc pc = .ok (.dup_x2, 1)) (hva : va.category = 1) (hvb : vb.category = 1) (hvd : vd.category = 1) (hq : pc + 1 = q) (kk : go p l e R s m args below meth c D w A cells slots Qf nL q lv (va :: vb :: vd :: va :: st) σ) : go p l e R s m args below meth c D w A cells slots Qf nL pc lv (va :: vb :: vd :: st) σ := by
  subst hq; exact fun H locs ls hP hS hl => lv_dup_x2 X.1.1 X.1.2.1 hdg hva hvb hvd (kk H locs ls hP hS hl)

theorem r_goto (X : cx p s m args c cc nL own D w A tys) {off : Int} (q : Nat) (hdg : decode cc pc = .ok (.goto off, 3)) (ht : (pc : Int) + off = (q : Int)) (kk : go p l e R s m args below meth c D w A cells slots Qf nL q lv st σ) : go p l e R s m args below meth c D w A cells slots Qf nL pc lv st σ := by
  exact fun H locs ls hP hS hl => lv_goto X.1.1 X.1.2.1 hdg ht (kk H locs ls hP hS hl)

theorem r_if_eq (X : cx p s m args c cc nL own D w A tys) {x : Int32} {off : Int} {P1 P2 : Prop} (t q : Nat) (h : if x = 0 then P1 else P2) (hdg : decode cc pc = .ok (.ifCond .eq off, 3)) (ht : (pc : Int) + off = (t : Int)) (hq : pc + 3 = q) (kt : P1 → go p l e R s m args below meth c D w A cells slots Qf nL t lv st σ) (kf : P2 → go p l e R s m args below meth c D w A cells slots Qf nL q lv st σ) : go p l e R s m args below meth c D w A cells slots Qf nL pc lv (.int x :: st) σ := by
  subst hq; exact fun H locs ls hP hS hl => lv_if_eq X.1.1 X.1.2.1 hdg ht (fun hc => kt (by rw [if_pos hc] at h; exact h) H locs ls hP hS hl) (fun hc => kf (by rw [if_neg hc] at h; exact h) H locs ls hP hS hl)

theorem r_icmp_eq (X : cx p s m args c cc nL own D w A tys) {x y : Int32} {off : Int} {P1 P2 : Prop} (t q : Nat) (h : if x = y then P1 else P2) (hdg : decode cc pc = .ok (.if_icmp .eq off, 3)) (ht : (pc : Int) + off = (t : Int)) (hq : pc + 3 = q) (kt : P1 → go p l e R s m args below meth c D w A cells slots Qf nL t lv st σ) (kf : P2 → go p l e R s m args below meth c D w A cells slots Qf nL q lv st σ) : go p l e R s m args below meth c D w A cells slots Qf nL pc lv (.int y :: .int x :: st) σ := by
  subst hq; exact fun H locs ls hP hS hl => lv_icmp_eq X.1.1 X.1.2.1 hdg ht (fun hc => kt (by rw [if_pos hc] at h; exact h) H locs ls hP hS hl) (fun hc => kf (by rw [if_neg hc] at h; exact h) H locs ls hP hS hl)

theorem r_if_ne (X : cx p s m args c cc nL own D w A tys) {x : Int32} {off : Int} {P1 P2 : Prop} (t q : Nat) (h : if x = 0 then P2 else P1) (hdg : decode cc pc = .ok (.ifCond .ne off, 3)) (ht : (pc : Int) + off = (t : Int)) (hq : pc + 3 = q) (kt : P1 → go p l e R s m args below meth c D w A cells slots Qf nL t lv st σ) (kf : P2 → go p l e R s m args below meth c D w A cells slots Qf nL q lv st σ) : go p l e R s m args below meth c D w A cells slots Qf nL pc lv (.int x :: st) σ := by
  subst hq; exact fun H locs ls hP hS hl => lv_if_ne X.1.1 X.1.2.1 hdg ht (fun hc => kt (by rw [if_neg hc] at h; exact h) H locs ls hP hS hl) (fun hc => kf (by rw [if_pos hc] at h; exact h) H locs ls hP hS hl)

theorem r_icmp_ne (X : cx p s m args c cc nL own D w A tys) {x y : Int32} {off : Int} {P1 P2 : Prop} (t q : Nat) (h : if x = y then P2 else P1) (hdg : decode cc pc = .ok (.if_icmp .ne off, 3)) (ht : (pc : Int) + off = (t : Int)) (hq : pc + 3 = q) (kt : P1 → go p l e R s m args below meth c D w A cells slots Qf nL t lv st σ) (kf : P2 → go p l e R s m args below meth c D w A cells slots Qf nL q lv st σ) : go p l e R s m args below meth c D w A cells slots Qf nL pc lv (.int y :: .int x :: st) σ := by
  subst hq; exact fun H locs ls hP hS hl => lv_icmp_ne X.1.1 X.1.2.1 hdg ht (fun hc => kt (by rw [if_neg hc] at h; exact h) H locs ls hP hS hl) (fun hc => kf (by rw [if_pos hc] at h; exact h) H locs ls hP hS hl)

theorem r_if_lt (X : cx p s m args c cc nL own D w A tys) {x : Int32} {off : Int} {P1 P2 : Prop} (t q : Nat) (h : if x < 0 then P1 else P2) (hdg : decode cc pc = .ok (.ifCond .lt off, 3)) (ht : (pc : Int) + off = (t : Int)) (hq : pc + 3 = q) (kt : P1 → go p l e R s m args below meth c D w A cells slots Qf nL t lv st σ) (kf : P2 → go p l e R s m args below meth c D w A cells slots Qf nL q lv st σ) : go p l e R s m args below meth c D w A cells slots Qf nL pc lv (.int x :: st) σ := by
  subst hq; exact fun H locs ls hP hS hl => lv_if_lt X.1.1 X.1.2.1 hdg ht (fun hc => kt (by rw [if_pos hc] at h; exact h) H locs ls hP hS hl) (fun hc => kf (by rw [if_neg hc] at h; exact h) H locs ls hP hS hl)

theorem r_icmp_lt (X : cx p s m args c cc nL own D w A tys) {x y : Int32} {off : Int} {P1 P2 : Prop} (t q : Nat) (h : if x < y then P1 else P2) (hdg : decode cc pc = .ok (.if_icmp .lt off, 3)) (ht : (pc : Int) + off = (t : Int)) (hq : pc + 3 = q) (kt : P1 → go p l e R s m args below meth c D w A cells slots Qf nL t lv st σ) (kf : P2 → go p l e R s m args below meth c D w A cells slots Qf nL q lv st σ) : go p l e R s m args below meth c D w A cells slots Qf nL pc lv (.int y :: .int x :: st) σ := by
  subst hq; exact fun H locs ls hP hS hl => lv_icmp_lt X.1.1 X.1.2.1 hdg ht (fun hc => kt (by rw [if_pos hc] at h; exact h) H locs ls hP hS hl) (fun hc => kf (by rw [if_neg hc] at h; exact h) H locs ls hP hS hl)

theorem r_if_ge (X : cx p s m args c cc nL own D w A tys) {x : Int32} {off : Int} {P1 P2 : Prop} (t q : Nat) (h : if x < 0 then P2 else P1) (hdg : decode cc pc = .ok (.ifCond .ge off, 3)) (ht : (pc : Int) + off = (t : Int)) (hq : pc + 3 = q) (kt : P1 → go p l e R s m args below meth c D w A cells slots Qf nL t lv st σ) (kf : P2 → go p l e R s m args below meth c D w A cells slots Qf nL q lv st σ) : go p l e R s m args below meth c D w A cells slots Qf nL pc lv (.int x :: st) σ := by
  subst hq; exact fun H locs ls hP hS hl => lv_if_ge X.1.1 X.1.2.1 hdg ht (fun hc => kt (by rw [if_neg (Int32.not_lt.mpr hc)] at h; exact h) H locs ls hP hS hl) (fun hc => kf (by rw [if_pos (Int32.not_le.mp hc)] at h; exact h) H locs ls hP hS hl)

theorem r_icmp_ge (X : cx p s m args c cc nL own D w A tys) {x y : Int32} {off : Int} {P1 P2 : Prop} (t q : Nat) (h : if x < y then P2 else P1) (hdg : decode cc pc = .ok (.if_icmp .ge off, 3)) (ht : (pc : Int) + off = (t : Int)) (hq : pc + 3 = q) (kt : P1 → go p l e R s m args below meth c D w A cells slots Qf nL t lv st σ) (kf : P2 → go p l e R s m args below meth c D w A cells slots Qf nL q lv st σ) : go p l e R s m args below meth c D w A cells slots Qf nL pc lv (.int y :: .int x :: st) σ := by
  subst hq; exact fun H locs ls hP hS hl => lv_icmp_ge X.1.1 X.1.2.1 hdg ht (fun hc => kt (by rw [if_neg (Int32.not_lt.mpr hc)] at h; exact h) H locs ls hP hS hl) (fun hc => kf (by rw [if_pos (Int32.not_le.mp hc)] at h; exact h) H locs ls hP hS hl)

theorem r_if_gt (X : cx p s m args c cc nL own D w A tys) {x : Int32} {off : Int} {P1 P2 : Prop} (t q : Nat) (h : if 0 < x then P1 else P2) (hdg : decode cc pc = .ok (.ifCond .gt off, 3)) (ht : (pc : Int) + off = (t : Int)) (hq : pc + 3 = q) (kt : P1 → go p l e R s m args below meth c D w A cells slots Qf nL t lv st σ) (kf : P2 → go p l e R s m args below meth c D w A cells slots Qf nL q lv st σ) : go p l e R s m args below meth c D w A cells slots Qf nL pc lv (.int x :: st) σ := by
  subst hq; exact fun H locs ls hP hS hl => lv_if_gt X.1.1 X.1.2.1 hdg ht (fun hc => kt (by rw [if_pos hc] at h; exact h) H locs ls hP hS hl) (fun hc => kf (by rw [if_neg hc] at h; exact h) H locs ls hP hS hl)

theorem r_icmp_gt (X : cx p s m args c cc nL own D w A tys) {x y : Int32} {off : Int} {P1 P2 : Prop} (t q : Nat) (h : if y < x then P1 else P2) (hdg : decode cc pc = .ok (.if_icmp .gt off, 3)) (ht : (pc : Int) + off = (t : Int)) (hq : pc + 3 = q) (kt : P1 → go p l e R s m args below meth c D w A cells slots Qf nL t lv st σ) (kf : P2 → go p l e R s m args below meth c D w A cells slots Qf nL q lv st σ) : go p l e R s m args below meth c D w A cells slots Qf nL pc lv (.int y :: .int x :: st) σ := by
  subst hq; exact fun H locs ls hP hS hl => lv_icmp_gt X.1.1 X.1.2.1 hdg ht (fun hc => kt (by rw [if_pos hc] at h; exact h) H locs ls hP hS hl) (fun hc => kf (by rw [if_neg hc] at h; exact h) H locs ls hP hS hl)

theorem r_if_le (X : cx p s m args c cc nL own D w A tys) {x : Int32} {off : Int} {P1 P2 : Prop} (t q : Nat) (h : if 0 < x then P2 else P1) (hdg : decode cc pc = .ok (.ifCond .le off, 3)) (ht : (pc : Int) + off = (t : Int)) (hq : pc + 3 = q) (kt : P1 → go p l e R s m args below meth c D w A cells slots Qf nL t lv st σ) (kf : P2 → go p l e R s m args below meth c D w A cells slots Qf nL q lv st σ) : go p l e R s m args below meth c D w A cells slots Qf nL pc lv (.int x :: st) σ := by
  subst hq; exact fun H locs ls hP hS hl => lv_if_le X.1.1 X.1.2.1 hdg ht (fun hc => kt (by rw [if_neg (Int32.not_lt.mpr hc)] at h; exact h) H locs ls hP hS hl) (fun hc => kf (by rw [if_pos (Int32.not_le.mp hc)] at h; exact h) H locs ls hP hS hl)

theorem r_icmp_le (X : cx p s m args c cc nL own D w A tys) {x y : Int32} {off : Int} {P1 P2 : Prop} (t q : Nat) (h : if y < x then P2 else P1) (hdg : decode cc pc = .ok (.if_icmp .le off, 3)) (ht : (pc : Int) + off = (t : Int)) (hq : pc + 3 = q) (kt : P1 → go p l e R s m args below meth c D w A cells slots Qf nL t lv st σ) (kf : P2 → go p l e R s m args below meth c D w A cells slots Qf nL q lv st σ) : go p l e R s m args below meth c D w A cells slots Qf nL pc lv (.int y :: .int x :: st) σ := by
  subst hq; exact fun H locs ls hP hS hl => lv_icmp_le X.1.1 X.1.2.1 hdg ht (fun hc => kt (by rw [if_neg (Int32.not_lt.mpr hc)] at h; exact h) H locs ls hP hS hl) (fun hc => kf (by rw [if_pos (Int32.not_le.mp hc)] at h; exact h) H locs ls hP hS hl)

theorem r_ifs {c : Prop} {i : Decidable c} {P1 P2 G : Prop} (h : @ite Prop c i P1 P2) (kt : c → P1 → G) (kf : ¬ c → P2 → G) : G := by
  by_cases hc : c
  · rw [if_pos hc] at h; exact kt hc h
  · rw [if_neg hc] at h; exact kf hc h

theorem r_tabIn (X : cx p s m args c cc nL own D w A tys) {dflt lo hi : Int} {offs : Array Int} {len : Nat} {x v : Int32} {off : Int} (t : Nat) (hdg : decode cc pc = .ok (.tableswitch dflt lo hi offs, len)) (hv : x = v) (h1 : ¬ v.toInt < lo) (h2 : ¬ hi < v.toInt) (ho : offs[(v.toInt - lo).toNat]? = some off) (ht : (pc : Int) + off = (t : Int)) (kk : go p l e R s m args below meth c D w A cells slots Qf nL t lv st σ) : go p l e R s m args below meth c D w A cells slots Qf nL pc lv (.int x :: st) σ := by
  subst hv; exact fun H locs ls hP hS hl => lv_tableIn X.1.1 X.1.2.1 hdg h1 h2 ho ht (kk H locs ls hP hS hl)

theorem r_tabOut (X : cx p s m args c cc nL own D w A tys) {dflt lo hi : Int} {offs : Array Int} {len : Nat} {x : Int32} (t : Nat) (hdg : decode cc pc = .ok (.tableswitch dflt lo hi offs, len)) (h : x.toInt < lo ∨ hi < x.toInt) (ht : (pc : Int) + dflt = (t : Int)) (kk : go p l e R s m args below meth c D w A cells slots Qf nL t lv st σ) : go p l e R s m args below meth c D w A cells slots Qf nL pc lv (.int x :: st) σ := by
  exact fun H locs ls hP hS hl => lv_tableOut X.1.1 X.1.2.1 hdg h ht (kk H locs ls hP hS hl)

theorem r_lookup (X : cx p s m args c cc nL own D w A tys) {dflt : Int} {ps : Array (Int × Int)} {len : Nat} {x : Int32} {off : Int} (t : Nat) (hdg : decode cc pc = .ok (.lookupswitch dflt ps, len)) (hp : (ps.toList.zip (ps.toList.drop 1)).all (fun (a, next) => a.1 < next.1) = true) (ho : Op.lookupswitch.offset ps.toList dflt x.toInt = off) (ht : (pc : Int) + off = (t : Int)) (kk : go p l e R s m args below meth c D w A cells slots Qf nL t lv st σ) : go p l e R s m args below meth c D w A cells slots Qf nL pc lv (.int x :: st) σ := by
  exact fun H locs ls hP hS hl => lv_lookup X.1.1 X.1.2.1 hdg hp ho ht (kk H locs ls hP hS hl)

theorem r_get (X : cx p s m args c cc nL own D w A tys) {q0 ci k b N index : Nat} {fs : List Value} {C : String} {T : u_T} {v : Value} (q : Nat) (he : (w σ)[q0]? = some (b, .inr (ci, fs))) (hc : vwCl[ci]? = some (C, T, N)) (hin : ∀ w ∈ u_ws C T N, w ∈ lw_G) (hk : k < N) (hv : fs[k]? = some v) (hlk : Cond.fieldLink own index (T k).1 (T k).2.1 (T k).2.2.1 ∈ lw_G) (hdg : decode cc pc = .ok (.getfield index, 3)) (hq : pc + 3 = q) (kk : go p l e R s m args below meth c D w A cells slots Qf nL q lv (v :: st) σ) : go p l e R s m args below meth c D w A cells slots Qf nL pc lv (.ref b :: st) σ := by
  subst hq; exact fun H locs ls hP hS hl => va_get X.1.1 X.1.2.1 X.1.2.2.2.2 hin X.1.2.2.2.1 X.2.1 hP q0 he hc k hk (X.1.2.2.2.2 _ hlk) (fun _ h9 => h9) hv hdg (kk H locs ls hP hS hl)

theorem r_put (X : cx p s m args c cc nL own D w A tys) {q0 ci k b N index : Nat} {fs : List Value} {C : String} {T : u_T} {v : Value} {ty : FieldType} {ty0 : Nat → FieldType} {σ' : St} (q : Nat) (he : (w σ)[q0]? = some (b, .inr (ci, fs))) (hc : vwCl[ci]? = some (C, T, N)) (hin : ∀ w ∈ u_ws C T N, w ∈ lw_G) (hty : ∀ k, k < N → parseFieldDescriptor (T k).2.2.1 = some (ty0 k)) (hnm : ∀ a, a < N → ∀ b, b < N → a ≠ b → (T a).2.1 ≠ (T b).2.1) (hk : k < N) (hlk : Cond.fieldLink own index (T k).1 (T k).2.1 (T k).2.2.1 ∈ lw_G) (hfin : (T k).2.2.2 = false) (hd : parseFieldDescriptor (T k).2.2.1 = some ty) (hn : narrow ty v = v) (hfit : fits ty v = true) (hl9 : k < fs.length) (hset : (w σ).set q0 (b, .inr (ci, fs.set k v)) = w σ') (hdg : decode cc pc = .ok (.putfield index, 3)) (hq : pc + 3 = q) (kk : go p l e R s m args below meth c D w A cells slots Qf nL q lv st σ') : go p l e R s m args below meth c D w A cells slots Qf nL pc lv (v :: .ref b :: st) σ := by
  subst hq; exact fun H locs ls hP hS hl => va_put X.1.1 X.1.2.1 X.1.2.2.2.2 hin ty0 hty hnm X.1.2.2.2.1 X.2.1 hP (X.2.2.1 σ) hS q0 he hc k hk (X.1.2.2.2.2 _ hlk) (fun _ h9 => h9) hfin hd hn hfit hl9 hdg (fun H1 locs1 hP1 _ hS1 => kk H1 locs1 ls (by rw [← hset]; exact hP1) hS1 hl)

theorem r_getN (X : cx p s m args c cc nL own D w A tys) {host : String} {q0 ci k b N index : Nat} {fs : List Value} {C : String} {T : u_T} {v : Value} (q : Nat) (he : (w σ)[q0]? = some (b, .inr (ci, fs))) (hc : vwCl[ci]? = some (C, T, N)) (hin : ∀ w ∈ u_ws C T N, w ∈ lw_G) (hk : k < N) (hv : fs[k]? = some v) (hlk : Cond.fieldLinkNest own index (T k).1 (T k).2.1 (T k).2.2.1 host ∈ lw_N) (hdg : decode cc pc = .ok (.getfield index, 3)) (hq : pc + 3 = q) (kk : go p l e R s m args below meth c D w A cells slots Qf nL q lv (v :: st) σ) : go p l e R s m args below meth c D w A cells slots Qf nL pc lv (.ref b :: st) σ := by
  subst hq; exact fun H locs ls hP hS hl => va_getN X.1.1 X.1.2.1 X.1.2.2.2.2 hin X.1.2.2.2.1 X.2.1 hP q0 he hc k hk (va_Nw.use rfl (X.2.2.2.2 _ hlk)) (fun _ h9 => h9) hv hdg (kk H locs ls hP hS hl)

theorem r_putN (X : cx p s m args c cc nL own D w A tys) {host : String} {q0 ci k b N index : Nat} {fs : List Value} {C : String} {T : u_T} {v : Value} {ty : FieldType} {ty0 : Nat → FieldType} {σ' : St} (q : Nat) (he : (w σ)[q0]? = some (b, .inr (ci, fs))) (hc : vwCl[ci]? = some (C, T, N)) (hin : ∀ w ∈ u_ws C T N, w ∈ lw_G) (hty : ∀ k, k < N → parseFieldDescriptor (T k).2.2.1 = some (ty0 k)) (hnm : ∀ a, a < N → ∀ b, b < N → a ≠ b → (T a).2.1 ≠ (T b).2.1) (hk : k < N) (hlk : Cond.fieldLinkNest own index (T k).1 (T k).2.1 (T k).2.2.1 host ∈ lw_N) (hfin : (T k).2.2.2 = false) (hd : parseFieldDescriptor (T k).2.2.1 = some ty) (hn : narrow ty v = v) (hfit : fits ty v = true) (hl9 : k < fs.length) (hset : (w σ).set q0 (b, .inr (ci, fs.set k v)) = w σ') (hdg : decode cc pc = .ok (.putfield index, 3)) (hq : pc + 3 = q) (kk : go p l e R s m args below meth c D w A cells slots Qf nL q lv st σ') : go p l e R s m args below meth c D w A cells slots Qf nL pc lv (v :: .ref b :: st) σ := by
  subst hq; exact fun H locs ls hP hS hl => va_putN X.1.1 X.1.2.1 X.1.2.2.2.2 hin ty0 hty hnm X.1.2.2.2.1 X.2.1 hP (X.2.2.1 σ) hS q0 he hc k hk (va_Nw.use rfl (X.2.2.2.2 _ hlk)) (fun _ h9 => h9) hfin hd hn hfit hl9 hdg (fun H1 locs1 hP1 _ hS1 => kk H1 locs1 ls (by rw [← hset]; exact hP1) hS1 hl)

theorem r_iald (X : cx p s m args c cc nL own D w A tys) {q0 t0 b N : Nat} {cA : ClassId} {f : Nat → Int32} {i : Int32} (q : Nat) (he : (w σ)[q0]? = some (b, .inl (cA, N, .inl f))) (ht : tys[t0]? = some (cA, .int)) (hin : vp_in i N) (hdg : decode cc pc = .ok (.iaload, 1)) (hq : pc + 1 = q) (kk : go p l e R s m args below meth c D w A cells slots Qf nL q lv (.int (f (ix i)) :: st) σ) : go p l e R s m args below meth c D w A cells slots Qf nL pc lv (.int i :: .ref b :: st) σ := by
  subst hq; exact fun H locs ls hP hS hl => va_iald X.1.1 X.1.2.1 X.2.1 hP q0 t0 he ht hin hdg (kk H locs ls hP hS hl)

theorem r_zald (X : cx p s m args c cc nL own D w A tys) {q0 t0 b N : Nat} {cA : ClassId} {f : Nat → Int32} {i : Int32} (q : Nat) (he : (w σ)[q0]? = some (b, .inl (cA, N, .inl f))) (ht : tys[t0]? = some (cA, .boolean)) (hin : vp_in i N) (hdg : decode cc pc = .ok (.baload, 1)) (hq : pc + 1 = q) (kk : go p l e R s m args below meth c D w A cells slots Qf nL q lv (.int (f (ix i)) :: st) σ) : go p l e R s m args below meth c D w A cells slots Qf nL pc lv (.int i :: .ref b :: st) σ := by
  subst hq; exact fun H locs ls hP hS hl => va_zald X.1.1 X.1.2.1 X.2.1 hP q0 t0 he ht hin hdg (kk H locs ls hP hS hl)

theorem r_iast (X : cx p s m args c cc nL own D w A tys) {q0 t0 b N : Nat} {cA : ClassId} {f : Nat → Int32} {i x : Int32} {σ' : St} (q : Nat) (he : (w σ)[q0]? = some (b, .inl (cA, N, .inl f))) (ht : tys[t0]? = some (cA, .int)) (hin : vp_in i N) (hset : (w σ).set q0 (b, .inl (cA, N, .inl (upd f (ix i) x))) = w σ') (hdg : decode cc pc = .ok (.iastore, 1)) (hq : pc + 1 = q) (kk : go p l e R s m args below meth c D w A cells slots Qf nL q lv st σ') : go p l e R s m args below meth c D w A cells slots Qf nL pc lv (.int x :: .int i :: .ref b :: st) σ := by
  subst hq; exact fun H locs ls hP hS hl => va_iast X.1.1 X.1.2.1 X.2.1 hP (X.2.2.1 σ) hS q0 t0 he ht hin hdg (fun H1 locs1 hP1 _ hS1 => kk H1 locs1 ls (by rw [← hset]; exact hP1) hS1 hl)

theorem r_zast (X : cx p s m args c cc nL own D w A tys) {q0 t0 b N : Nat} {cA : ClassId} {f : Nat → Int32} {i x x' : Int32} {σ' : St} (q : Nat) (he : (w σ)[q0]? = some (b, .inl (cA, N, .inl f))) (ht : tys[t0]? = some (cA, .boolean)) (hin : vp_in i N) (hb9 : vp_nar .boolean x = x') (hset : (w σ).set q0 (b, .inl (cA, N, .inl (upd f (ix i) x'))) = w σ') (hdg : decode cc pc = .ok (.bastore, 1)) (hq : pc + 1 = q) (kk : go p l e R s m args below meth c D w A cells slots Qf nL q lv st σ') : go p l e R s m args below meth c D w A cells slots Qf nL pc lv (.int x :: .int i :: .ref b :: st) σ := by
  subst hq; subst hb9; exact fun H locs ls hP hS hl => va_zast X.1.1 X.1.2.1 X.2.1 hP (X.2.2.1 σ) hS q0 t0 he ht hin hdg (fun H1 locs1 hP1 _ hS1 => kk H1 locs1 ls (by rw [← hset]; exact hP1) hS1 hl)

theorem r_alen (X : cx p s m args c cc nL own D w A tys) {q0 t0 b N : Nat} {cA : ClassId} {f : Nat → Int32} {ty : FieldType} {v : Int32} (q : Nat) (he : (w σ)[q0]? = some (b, .inl (cA, N, .inl f))) (ht : tys[t0]? = some (cA, ty)) (hv : Int32.ofNat N = v) (hdg : decode cc pc = .ok (.arraylength, 1)) (hq : pc + 1 = q) (kk : go p l e R s m args below meth c D w A cells slots Qf nL q lv (.int v :: st) σ) : go p l e R s m args below meth c D w A cells slots Qf nL pc lv (.ref b :: st) σ := by
  subst hq; exact fun H locs ls hP hS hl => va_alen X.1.1 X.1.2.1 X.2.1 hP q0 t0 he ht hv hdg (kk H locs ls hP hS hl)

theorem r_copyi (X : cx p s m args c cc nL own D w A tys) {q0 q1 t0 b0 b1 N0 N1 index : Nat} {cA : ClassId} {f g : Nat → Int32} {sp dp n : Int32} {σ' : St} (q : Nat) (ha0 : (w σ)[q0]? = some (b0, .inl (cA, N0, .inl f))) (ha1 : (w σ)[q1]? = some (b1, .inl (cA, N1, .inl g))) (ht : tys[t0]? = some (cA, .int)) (h1 : ¬ sp < 0) (h2 : ¬ dp < 0) (h3 : ¬ n < 0) (h4 : ix sp + ix n ≤ N0) (h5 : ix dp + ix n ≤ N1) (hlk : Cond.methodLink own index arraycopyName ∈ lw_G) (hnat : Cond.native arraycopyName ∈ lw_G) (hstat : Cond.static arraycopyName ∈ lw_G) (hini : Cond.initialized "java/lang/System" ∈ lw_G) (hframes : 1 ≤ R.frames) (hlocals : (st.map fun v => v.category).sum + (nativeFrameWords "java/lang/System" "arraycopy" 5 + 11) ≤ R.locals) (hset : (w σ).set q1 (b1, .inl (cA, N1, .inl (va_cpy f g (ix sp) (ix dp) (ix n)))) = w σ') (hdg : decode cc pc = .ok (.invokestatic index, 3)) (hq : pc + 3 = q) (kk : go p l e R s m args below meth c D w A cells slots Qf nL q lv st σ') : go p l e R s m args below meth c D w A cells slots Qf nL pc lv (.int n :: .int dp :: .ref b1 :: .int sp :: .ref b0 :: st) σ := by
  subst hq; exact fun H locs ls hP hS hl => va_copyi X.1.1 X.1.2.1 (by rw [hl.1]; exact X.1.2.2.1) X.1.2.2.2.1 (X.1.2.2.2.2 _ hlk) (X.1.2.2.2.2 _ hnat) (X.1.2.2.2.2 _ hstat) (X.1.2.2.2.2 _ hini) X.2.1 hP (X.2.2.1 σ) hS q0 q1 t0 t0 ha0 ha1 ht ht rfl h1 h2 h3 h4 h5 (fun _ _ => rfl) hframes hlocals hdg (fun H1 locs1 hP1 _ hS1 => kk H1 locs1 ls (by rw [← hset]; exact hP1) hS1 hl)

theorem r_mmax (X : cx p s m args c cc nL own D w A tys) {x y : Int32} {index : Nat} (q : Nat) (hlk : Cond.methodLink own index Lib.Math.max.name ∈ lw_G) (hstat : Cond.static Lib.Math.max.name ∈ lw_G) (hini : Cond.initialized "java/lang/Math" ∈ lw_G) (hcode : Cond.code Lib.Math.max.name Lib.Math.max.code 2 (some .int) ∈ lw_G) (hframes : 1 ≤ R.frames) (hlocals : (st.map fun v => v.category).sum + 13 ≤ R.locals) (hc : cells ≤ R.cells) (hs : slots ≤ R.slots) (hdg : decode cc pc = .ok (.invokestatic index, 3)) (hq : pc + 3 = q) (kk : go p l e R s m args below meth c D w A cells slots Qf nL q lv (.int (if x < y then y else x) :: st) σ) : go p l e R s m args below meth c D w A cells slots Qf nL pc lv (.int y :: .int x :: st) σ := by
  subst hq; exact fun H locs ls hP hS hl => va_mmax X.1.1 X.1.2.1 (by rw [hl.1]; exact X.1.2.2.1) X.1.2.2.2.1 (X.1.2.2.2.2 _ hlk) (X.1.2.2.2.2 _ hstat) (X.1.2.2.2.2 _ hini) (X.1.2.2.2.2 _ hcode) hframes hlocals hc hs hdg (kk H locs ls hP hS hl)

theorem r_iret (X : cx p s m args c cc nL own D w A tys) (hr : meth.sig.returnType = some .int) (hlk : meth.locks = false) {Q : Int32 → St → Prop} {v : Int32} (h : Q v σ) (hdg : decode cc pc = .ok (.ireturn, 1)) : go p l e R s m args below meth c D w A 0 0 (MQ below (va_Qi Q (atw D w tys A) A) args s 0 0 A) nL pc lv [.int v] σ :=
  fun H locs ls hP hS hl => W.iret X.1.1 X.1.2.1 hr (fun t ht hW => ⟨⟨v, σ, rfl, h, by rw [ht]; exact hP, va_K.moved hW.alike X.2.1, X.2.2.1 σ⟩, hS.F ht⟩) hS.2.2 hdg hlk

theorem r_zret (X : cx p s m args c cc nL own D w A tys) (hr : meth.sig.returnType = some .boolean) (hlk : meth.locks = false) {Q : Int32 → St → Prop} {v : Int32} (hb9 : isB v) (h : Q v σ) (hdg : decode cc pc = .ok (.ireturn, 1)) : go p l e R s m args below meth c D w A 0 0 (MQ below (va_Qi (fun r u => isB r ∧ Q r u) (atw D w tys A) A) args s 0 0 A) nL pc lv [.int v] σ :=
  fun H locs ls hP hS hl => W.zret X.1.1 X.1.2.1 hr (isB_nar hb9) (fun t ht hW => ⟨⟨v, σ, rfl, ⟨hb9, h⟩, by rw [ht]; exact hP, va_K.moved hW.alike X.2.1, X.2.2.1 σ⟩, hS.F ht⟩) hS.2.2 hdg hlk

theorem r_vret (X : cx p s m args c cc nL own D w A tys) (hr : meth.sig.returnType = none) (hlk : meth.locks = false) {Q : St → Prop} (h : Q σ) (hdg : decode cc pc = .ok (.return_, 1)) : go p l e R s m args below meth c D w A 0 0 (MQ below (va_Qv Q (atw D w tys A) A) args s 0 0 A) nL pc lv [] σ :=
  fun H locs ls hP hS hl => W.vret X.1.1 X.1.2.1 hr (fun t ht hW => ⟨⟨σ, rfl, h, by rw [ht]; exact hP, va_K.moved hW.alike X.2.1, X.2.2.1 σ⟩, hS.F ht⟩) hS.2.2 hdg hlk

/-- a callee's own words -/
def lkG (y : MethodName) (bytes : ByteArray) (maxL : Nat) (ret : Option FieldType) (n : Nat) : Prop := Cond.code y bytes maxL ret ∈ lw_G ∧ Cond.initialized y.cls ∈ lw_G ∧ (y.cls ≠ "java/lang/invoke/MethodHandle" ∧ y.cls ≠ "java/lang/invoke/VarHandle" ∧ (parseMethodDescriptor y.desc).map (fun d => d.parameters.length) = some n)
def lkI (y : MethodName) (bytes : ByteArray) (maxL : Nat) (ret : Option FieldType) (n : Nat) : Prop := lkG y bytes maxL ret n ∧ Cond.instanceMethod y ∈ lw_G ∧ Cond.selects y.cls y y ∈ lw_G
abbrev lkR (R rm : Room) (maxL cells slots : Nat) : Prop := rm.cells = 0 ∧ rm.slots = 0 ∧ (rm.frames + 1 ≤ R.frames ∧ 8 + (maxL + 11) + rm.locals ≤ R.locals) ∧ cells ≤ R.cells ∧ slots ≤ R.slots
theorem lkG_in {y : MethodName} {bytes : ByteArray} {maxL : Nat} {ret : Option FieldType} {n : Nat} (h : lkG y bytes maxL ret n) : GoodIn lw_G (.code y bytes maxL ret :: lw_G) := by
  intro w hw
  rcases List.mem_cons.mp hw with e | hw
  · subst e; exact ⟨h.1, lw_G_good h.1⟩
  · exact ⟨hw, lw_G_good hw⟩

theorem go_free (X : cx p s m args c cc nL own D w A tys) {H : Heap} {locs : List Loc} (hS : va_S A s.heap H locs) : ∀ q, va_A (w σ) H.size q → A q := by
  intro q h
  rcases h with ⟨k, e, h⟩ | h
  · exact (X.2.2.1 σ).2 k _ h
  · exact X.2.2.2.1 q (Nat.le_trans hS.1 h)

set_option maxHeartbeats 1000000 in
theorem r_callI (X : cx p s m args c cc nL own D w A tys) {y : MethodName} {bytes : ByteArray} {maxL n index b : Nat} {ret : Option FieldType} {rm : Room} {As rest : List Value} {Q' : Int32 → St → Prop} {q0 ci N : Nat} {fs : List Value} {T : u_T} (q : Nat) (hM : ctI l y bytes maxL ret rm D w tys (.ref b :: As) σ Q') (hlk : Cond.methodLink own index y ∈ lw_G) (L : lkI y bytes maxL ret n) (he : (w σ)[q0]? = some (b, .inr (ci, fs))) (hc : vwCl[ci]? = some (y.cls, T, N)) (hn : As.length = n) (hst : st = As.reverse ++ .ref b :: rest) (hW : (rest.map fun v => v.category).sum ≤ 8) (hR : lkR R rm maxL cells slots) (hdg : decode cc pc = .ok (.invokevirtual index, 3)) (hq : pc + 3 = q) (kk : ∀ (r : Int32) (σ' : St), Q' r σ' → go p l e R s m args below meth c D w A cells slots Qf nL q lv (.int r :: rest) σ') : go p l e R s m args below meth c D w A cells slots Qf nL pc lv st σ := by
  subst hq
  intro H locs ls hP hS hl
  have hFc := go_free (σ := σ) X hS
  refine va_calli (va_runV (As := As) (rest := rest) X.1 (hM H.size) ⟨callB_of n X.1.2.2.2.2 (lkG_in L.1) rfl hR.1 hR.2.1 (X.1.2.2.2.2 _ L.1.2.1) (X.1.2.2.2.2 _ hlk) L.1.2.2 hR.2.2.1, X.1.2.2.2.2 _ L.2.1, X.1.2.2.2.2 _ L.2.2⟩ ⟨preW_blind, va_recv X.2.1 hP hc he, fun U hU hW => ⟨rfl, by rw [hU], by rw [hU]; exact hP, va_K.moved hW.alike X.2.1, (X.2.2.1 σ).weaken (fun _ _ _ _ => trivial), nst_warm hW X.2.2.2.2⟩⟩ rfl hn hl.1 hst (lv_room hW) hdg ⟨hR.2.2.2.1, hR.2.2.2.2⟩) hS (fun q _ h => hFc q h) hFc (fun r u t H1 locs1 ht hvm hw hB hz1 hk1 hS1 => ?_)
  obtain ⟨hP1, hK1, hD1⟩ := hB
  rw [ht] at hP1
  exact kk r u hw H1 locs1 ls hP1 hS1 hl

set_option maxHeartbeats 1000000 in
theorem r_callNI (X : cx p s m args c cc nL own D w A tys) {host : String} {y : MethodName} {bytes : ByteArray} {maxL n index b : Nat} {ret : Option FieldType} {rm : Room} {As rest : List Value} {Q' : Int32 → St → Prop} {q0 ci N : Nat} {fs : List Value} {T : u_T} (q : Nat) (hM : ctI l y bytes maxL ret rm D w tys (.ref b :: As) σ Q') (hlk : Cond.methodLinkNest own index y host ∈ lw_N) (L : lkI y bytes maxL ret n) (he : (w σ)[q0]? = some (b, .inr (ci, fs))) (hc : vwCl[ci]? = some (y.cls, T, N)) (hn : As.length = n) (hst : st = As.reverse ++ .ref b :: rest) (hW : (rest.map fun v => v.category).sum ≤ 8) (hR : lkR R rm maxL cells slots) (hdg : decode cc pc = .ok (.invokevirtual index, 3)) (hq : pc + 3 = q) (kk : ∀ (r : Int32) (σ' : St), Q' r σ' → go p l e R s m args below meth c D w A cells slots Qf nL q lv (.int r :: rest) σ') : go p l e R s m args below meth c D w A cells slots Qf nL pc lv st σ := by
  subst hq
  intro H locs ls hP hS hl
  have hFc := go_free (σ := σ) X hS
  refine va_calli (va_runVN (As := As) (rest := rest) X.1 (hM H.size) ⟨va_cnB n X.1.2.2.2.2 (lkG_in L.1) rfl hR.1 hR.2.1 (X.2.2.2.2 _ hlk) (X.1.2.2.2.2 _ L.1.2.1) L.1.2.2 hR.2.2.1, X.1.2.2.2.2 _ L.2.1, X.1.2.2.2.2 _ L.2.2⟩ ⟨preW_blind, va_recv X.2.1 hP hc he, fun U hU hW => ⟨rfl, by rw [hU], by rw [hU]; exact hP, va_K.moved hW.alike X.2.1, (X.2.2.1 σ).weaken (fun _ _ _ _ => trivial), nst_warm hW X.2.2.2.2⟩⟩ rfl hn hl.1 hst (lv_room hW) hdg ⟨hR.2.2.2.1, hR.2.2.2.2⟩) hS (fun q _ h => hFc q h) hFc (fun r u t H1 locs1 ht hvm hw hB hz1 hk1 hS1 => ?_)
  obtain ⟨hP1, hK1, hD1⟩ := hB
  rw [ht] at hP1
  exact kk r u hw H1 locs1 ls hP1 hS1 hl

set_option maxHeartbeats 1000000 in
theorem r_callSI (X : cx p s m args c cc nL own D w A tys) {y : MethodName} {bytes : ByteArray} {maxL n index : Nat} {ret : Option FieldType} {rm : Room} {As rest : List Value} {Q' : Int32 → St → Prop} (q : Nat) (hM : ctI l y bytes maxL ret rm D w tys As σ Q') (hlk : Cond.methodLink own index y ∈ lw_G) (L : lkG y bytes maxL ret n) (hsy : Cond.static y ∈ lw_G) (hn : As.length = n) (hst : st = As.reverse ++ rest) (hW : (rest.map fun v => v.category).sum ≤ 8) (hR : lkR R rm maxL cells slots) (hdg : decode cc pc = .ok (.invokestatic index, 3)) (hq : pc + 3 = q) (kk : ∀ (r : Int32) (σ' : St), Q' r σ' → go p l e R s m args below meth c D w A cells slots Qf nL q lv (.int r :: rest) σ') : go p l e R s m args below meth c D w A cells slots Qf nL pc lv st σ := by
  subst hq
  intro H locs ls hP hS hl
  have hFc := go_free (σ := σ) X hS
  refine va_calli (va_runS (As := As) (rest := rest) X.1 (hM H.size) ⟨callB_of n X.1.2.2.2.2 (lkG_in L) rfl hR.1 hR.2.1 (X.1.2.2.2.2 _ L.2.1) (X.1.2.2.2.2 _ hlk) L.2.2 hR.2.2.1, X.1.2.2.2.2 _ hsy⟩ ⟨preW_blind, fun U hU hW => ⟨rfl, by rw [hU], by rw [hU]; exact hP, va_K.moved hW.alike X.2.1, (X.2.2.1 σ).weaken (fun _ _ _ _ => trivial), nst_warm hW X.2.2.2.2⟩⟩ rfl hn hl.1 hst (lv_room hW) hdg ⟨hR.2.2.2.1, hR.2.2.2.2⟩) hS (fun q _ h => hFc q h) hFc (fun r u t H1 locs1 ht hvm hw hB hz1 hk1 hS1 => ?_)
  obtain ⟨hP1, hK1, hD1⟩ := hB
  rw [ht] at hP1
  exact kk r u hw H1 locs1 ls hP1 hS1 hl

set_option maxHeartbeats 1000000 in
theorem r_callV (X : cx p s m args c cc nL own D w A tys) {y : MethodName} {bytes : ByteArray} {maxL n index b : Nat} {ret : Option FieldType} {rm : Room} {As rest : List Value} {Q' : St → Prop} {q0 ci N : Nat} {fs : List Value} {T : u_T} (q : Nat) (hM : ctV l y bytes maxL ret rm D w tys (.ref b :: As) σ Q') (hlk : Cond.methodLink own index y ∈ lw_G) (L : lkI y bytes maxL ret n) (he : (w σ)[q0]? = some (b, .inr (ci, fs))) (hc : vwCl[ci]? = some (y.cls, T, N)) (hn : As.length = n) (hst : st = As.reverse ++ .ref b :: rest) (hW : (rest.map fun v => v.category).sum ≤ 8) (hR : lkR R rm maxL cells slots) (hdg : decode cc pc = .ok (.invokevirtual index, 3)) (hq : pc + 3 = q) (kk : ∀ (σ' : St), Q' σ' → go p l e R s m args below meth c D w A cells slots Qf nL q lv rest σ') : go p l e R s m args below meth c D w A cells slots Qf nL pc lv st σ := by
  subst hq
  intro H locs ls hP hS hl
  have hFc := go_free (σ := σ) X hS
  refine va_callv (va_runV (As := As) (rest := rest) X.1 (hM H.size) ⟨callB_of n X.1.2.2.2.2 (lkG_in L.1) rfl hR.1 hR.2.1 (X.1.2.2.2.2 _ L.1.2.1) (X.1.2.2.2.2 _ hlk) L.1.2.2 hR.2.2.1, X.1.2.2.2.2 _ L.2.1, X.1.2.2.2.2 _ L.2.2⟩ ⟨preW_blind, va_recv X.2.1 hP hc he, fun U hU hW => ⟨rfl, by rw [hU], by rw [hU]; exact hP, va_K.moved hW.alike X.2.1, (X.2.2.1 σ).weaken (fun _ _ _ _ => trivial), nst_warm hW X.2.2.2.2⟩⟩ rfl hn hl.1 hst (lv_room hW) hdg ⟨hR.2.2.2.1, hR.2.2.2.2⟩) hS (fun q _ h => hFc q h) hFc (fun u t H1 locs1 ht hvm hw hB hz1 hk1 hS1 => ?_)
  obtain ⟨hP1, hK1, hD1⟩ := hB
  rw [ht] at hP1
  exact kk u hw H1 locs1 ls hP1 hS1 hl

set_option maxHeartbeats 1000000 in
theorem r_callNV (X : cx p s m args c cc nL own D w A tys) {host : String} {y : MethodName} {bytes : ByteArray} {maxL n index b : Nat} {ret : Option FieldType} {rm : Room} {As rest : List Value} {Q' : St → Prop} {q0 ci N : Nat} {fs : List Value} {T : u_T} (q : Nat) (hM : ctV l y bytes maxL ret rm D w tys (.ref b :: As) σ Q') (hlk : Cond.methodLinkNest own index y host ∈ lw_N) (L : lkI y bytes maxL ret n) (he : (w σ)[q0]? = some (b, .inr (ci, fs))) (hc : vwCl[ci]? = some (y.cls, T, N)) (hn : As.length = n) (hst : st = As.reverse ++ .ref b :: rest) (hW : (rest.map fun v => v.category).sum ≤ 8) (hR : lkR R rm maxL cells slots) (hdg : decode cc pc = .ok (.invokevirtual index, 3)) (hq : pc + 3 = q) (kk : ∀ (σ' : St), Q' σ' → go p l e R s m args below meth c D w A cells slots Qf nL q lv rest σ') : go p l e R s m args below meth c D w A cells slots Qf nL pc lv st σ := by
  subst hq
  intro H locs ls hP hS hl
  have hFc := go_free (σ := σ) X hS
  refine va_callv (va_runVN (As := As) (rest := rest) X.1 (hM H.size) ⟨va_cnB n X.1.2.2.2.2 (lkG_in L.1) rfl hR.1 hR.2.1 (X.2.2.2.2 _ hlk) (X.1.2.2.2.2 _ L.1.2.1) L.1.2.2 hR.2.2.1, X.1.2.2.2.2 _ L.2.1, X.1.2.2.2.2 _ L.2.2⟩ ⟨preW_blind, va_recv X.2.1 hP hc he, fun U hU hW => ⟨rfl, by rw [hU], by rw [hU]; exact hP, va_K.moved hW.alike X.2.1, (X.2.2.1 σ).weaken (fun _ _ _ _ => trivial), nst_warm hW X.2.2.2.2⟩⟩ rfl hn hl.1 hst (lv_room hW) hdg ⟨hR.2.2.2.1, hR.2.2.2.2⟩) hS (fun q _ h => hFc q h) hFc (fun u t H1 locs1 ht hvm hw hB hz1 hk1 hS1 => ?_)
  obtain ⟨hP1, hK1, hD1⟩ := hB
  rw [ht] at hP1
  exact kk u hw H1 locs1 ls hP1 hS1 hl

set_option maxHeartbeats 1000000 in
theorem r_callSV (X : cx p s m args c cc nL own D w A tys) {y : MethodName} {bytes : ByteArray} {maxL n index : Nat} {ret : Option FieldType} {rm : Room} {As rest : List Value} {Q' : St → Prop} (q : Nat) (hM : ctV l y bytes maxL ret rm D w tys As σ Q') (hlk : Cond.methodLink own index y ∈ lw_G) (L : lkG y bytes maxL ret n) (hsy : Cond.static y ∈ lw_G) (hn : As.length = n) (hst : st = As.reverse ++ rest) (hW : (rest.map fun v => v.category).sum ≤ 8) (hR : lkR R rm maxL cells slots) (hdg : decode cc pc = .ok (.invokestatic index, 3)) (hq : pc + 3 = q) (kk : ∀ (σ' : St), Q' σ' → go p l e R s m args below meth c D w A cells slots Qf nL q lv rest σ') : go p l e R s m args below meth c D w A cells slots Qf nL pc lv st σ := by
  subst hq
  intro H locs ls hP hS hl
  have hFc := go_free (σ := σ) X hS
  refine va_callv (va_runS (As := As) (rest := rest) X.1 (hM H.size) ⟨callB_of n X.1.2.2.2.2 (lkG_in L) rfl hR.1 hR.2.1 (X.1.2.2.2.2 _ L.2.1) (X.1.2.2.2.2 _ hlk) L.2.2 hR.2.2.1, X.1.2.2.2.2 _ hsy⟩ ⟨preW_blind, fun U hU hW => ⟨rfl, by rw [hU], by rw [hU]; exact hP, va_K.moved hW.alike X.2.1, (X.2.2.1 σ).weaken (fun _ _ _ _ => trivial), nst_warm hW X.2.2.2.2⟩⟩ rfl hn hl.1 hst (lv_room hW) hdg ⟨hR.2.2.2.1, hR.2.2.2.2⟩) hS (fun q _ h => hFc q h) hFc (fun u t H1 locs1 ht hvm hw hB hz1 hk1 hS1 => ?_)
  obtain ⟨hP1, hK1, hD1⟩ := hB
  rw [ht] at hP1
  exact kk u hw H1 locs1 ls hP1 hS1 hl

end ROWS
