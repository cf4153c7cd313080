section ROWSQ
variable {p : Program} {l : Launch} {e : Env} {R : Room} {s : State} {m : MethodId} {args : Array Value} {below : List Frame} {meth : Method} {c : Code} {D : va_G} {w : St → va_W} {A : Nat → Prop} {cells slots : Nat} {Qf : State → Prop} {nL : Nat} {tys : List (ClassId × FieldType)} {cc : ByteArray} {own : String} {pc : Nat} {lv lv' : List (Nat × Value)} {st : List Value} {σ : St}
def ctQ (l : Launch) (y : MethodName) (bytes : ByteArray) (maxL : Nat) (ret : Option FieldType) (rm : Room) (D : va_G) (w : St → va_W) (tys : List (ClassId × FieldType)) (av : List Value) (σ : St) (Q : Option Nat → St → Prop) : Prop :=
  ∀ sz : Nat, Met l y (.code y bytes maxL ret :: lw_G) rm (va_Pc av (preW D w tys σ sz)) (va_Qq Q (atw D w tys (va_A (w σ) sz)) (va_A (w σ) sz)) 0 0 (va_A (w σ) sz)
set_option maxHeartbeats 1000000 in
theorem mk_Q {l : Launch} {y : MethodName} {bytes : ByteArray} {maxL : Nat} {ret : Option FieldType} {rm : Room} {D : va_G} {w : St → va_W} {tys : List (ClassId × FieldType)} {av : List Value} {σ : St} {Q : Option Nat → St → Prop} (hw : wOk w) (hy : plainName y.cls = true) (hlen : (lg_sl av).length ≤ maxL)
    (body : ∀ (p : Program) (e : Env) (s : State) (m : MethodId) (args : Array Value) (below : List Frame) (meth : Method) (c : Code) (A : Nat → Prop), cx p s m args c bytes maxL y.cls D w A tys → meth.sig.returnType = ret → meth.locks = false →
      go p l e rm s m args below meth c D w A 0 0 (MQ below (va_Qq Q (atw D w tys A) A) args s 0 0 A) maxL 0 (lv_args 0 av) [] σ) : ctQ l y bytes maxL ret rm D w tys av σ Q := by
  intro sz
  refine Met.ofW (cc := bytes) (maxL := maxL) (ret := ret) hy rfl ?_
  intro p e s m args below meth c s₁ B hml hv
  obtain ⟨rfl, hsz, hP, hK, hD0, hN0⟩ := hv
  subst hsz
  have hts := atoms_spec (ws := .code y bytes maxL ret :: lw_G) B.pre
  rw [lg_entry_eq]
  exact body p e s m av.toArray below meth c _ ⟨⟨B.exec, B.bytes, hml, findClass_of_methodNamed B.named, fun w h => hts w (List.mem_cons_of_mem _ h)⟩, hK, fun τ => va_D_addr (hw σ τ) hD0.self, fun q h => Or.inr h, hN0⟩ B.returns B.notSynchronized s.heap [] _ hP va_S.rf (lv_entry av hlen)
set_option maxHeartbeats 1000000 in
theorem r_callQ (X : cx p s m args c cc nL own D w A tys) {y : MethodName} {bytes : ByteArray} {maxL n index b : Nat} {ret : Option FieldType} {rm : Room} {As rest : List Value} {Q' : Option Nat → St → Prop} {q0 ci N : Nat} {fs : List Value} {T : u_T} (q : Nat) (hM : ctQ l y bytes maxL ret rm D w tys (.ref b :: As) σ Q') (hlk : Cond.methodLink own index y ∈ lw_G) (L : lkI y bytes maxL ret n) (he : (w σ)[q0]? = some (b, .inr (ci, fs))) (hc : vwCl[ci]? = some (y.cls, T, N)) (hn : As.length = n) (hst : st = As.reverse ++ .ref b :: rest) (hW : (rest.map fun v => v.category).sum ≤ 8) (hR : lkR R rm maxL cells slots) (hdg : decode cc pc = .ok (.invokevirtual index, 3)) (hq : pc + 3 = q) (kk : ∀ (r : Option Nat) (σ' : St), Q' r σ' → go p l e R s m args below meth c D w A cells slots Qf nL q lv (va_rf r :: rest) σ') : go p l e R s m args below meth c D w A cells slots Qf nL pc lv st σ := by
  subst hq
  intro H locs ls hP hS hl
  have hFc := go_free (σ := σ) X hS
  refine va_callq (va_runV (As := As) (rest := rest) X.1 (hM H.size) ⟨callB_of n X.1.2.2.2.2 (lkG_in L.1) rfl hR.1 hR.2.1 (X.1.2.2.2.2 _ L.1.2.1) (X.1.2.2.2.2 _ hlk) L.1.2.2 hR.2.2.1, X.1.2.2.2.2 _ L.2.1, X.1.2.2.2.2 _ L.2.2⟩ ⟨preW_blind, va_recv X.2.1 hP hc he, fun U hU hW => ⟨rfl, by rw [hU], by rw [hU]; exact hP, va_K.moved hW.alike X.2.1, (X.2.2.1 σ).weaken (fun _ _ _ _ => trivial), nst_warm hW X.2.2.2.2⟩⟩ rfl hn hl.1 hst (lv_room hW) hdg ⟨hR.2.2.2.1, hR.2.2.2.2⟩) hS (fun q _ h => hFc q h) hFc (fun r u t H1 locs1 ht hvm hw hB hz1 hk1 hS1 => ?_)
  obtain ⟨hP1, hK1, hD1⟩ := hB
  rw [ht] at hP1
  exact kk r u hw H1 locs1 ls hP1 hS1 hl
theorem r_aret (X : cx p s m args c cc nL own D w A tys) {C : String} (hr : meth.sig.returnType = some (.object C)) (hlk : meth.locks = false) {Q : Option Nat → St → Prop} {r : Option Nat} (h : Q r σ) (hdg : decode cc pc = .ok (.areturn, 1)) : go p l e R s m args below meth c D w A 0 0 (MQ below (va_Qq Q (atw D w tys A) A) args s 0 0 A) nL pc lv [va_rf r] σ :=
  fun H locs ls hP hS hl => W.aret X.1.1 X.1.2.1 hr (Or.inl ⟨C, rfl⟩) (va_rf_or r) (fun t ht hW => ⟨⟨r, σ, rfl, h, by rw [ht]; exact hP, va_K.moved hW.alike X.2.1, X.2.2.1 σ⟩, hS.F ht⟩) hS.2.2 hdg hlk
theorem r_null (X : cx p s m args c cc nL own D w A tys) (q : Nat) (hdg : decode cc pc = .ok (.aconst_null, 1)) (hq : pc + 1 = q) (kk : go p l e R s m args below meth c D w A cells slots Qf nL q lv (.null :: st) σ) : go p l e R s m args below meth c D w A cells slots Qf nL pc lv st σ := by
  subst hq; exact fun H locs ls hP hS hl => lv_null X.1.1 X.1.2.1 hdg (kk H locs ls hP hS hl)
theorem r_aload_nN (X : cx p s m args c cc nL own D w A tys) {k : Fin 4} {i : Nat} (j : Nat) (q : Nat) (hdg : decode cc pc = .ok (.aload_n k, 1)) (hi : (k : Nat) = i) (hj : lv[j]? = some (i, .null)) (hq : pc + 1 = q) (kk : go p l e R s m args below meth c D w A cells slots Qf nL q lv (.null :: st) σ) : go p l e R s m args below meth c D w A cells slots Qf nL pc lv st σ := by
  subst hq; exact fun H locs ls hP hS hl => lv_aload_nN X.1.1 X.1.2.1 hdg hi (lv_at hl j hj) (kk H locs ls hP hS hl)
theorem r_aloadN (X : cx p s m args c cc nL own D w A tys) {i : Nat} (j : Nat) (q : Nat) (hdg : decode cc pc = .ok (.aload i, 2)) (hj : lv[j]? = some (i, .null)) (hq : pc + 2 = q) (kk : go p l e R s m args below meth c D w A cells slots Qf nL q lv (.null :: st) σ) : go p l e R s m args below meth c D w A cells slots Qf nL pc lv st σ := by
  subst hq; exact fun H locs ls hP hS hl => lv_aloadN X.1.1 X.1.2.1 hdg (lv_at hl j hj) (kk H locs ls hP hS hl)
theorem r_astore_nN (X : cx p s m args c cc nL own D w A tys) {k : Fin 4} {i : Nat} (q : Nat) (lv' : List (Nat × Value)) (hdg : decode cc pc = .ok (.astore_n k, 1)) (hi : (k : Nat) = i) (hn : i < nL) (hf : (i, Value.null) :: lv.filter (fun q => !(q.1 == i) && !(q.1 + 1 == i && q.2.category == 2)) = lv') (hq : pc + 1 = q) (kk : go p l e R s m args below meth c D w A cells slots Qf nL q (lv') st σ) : go p l e R s m args below meth c D w A cells slots Qf nL pc lv (.null :: st) σ := by
  subst hq; exact fun H locs ls hP hS hl => lv_astore_nN X.1.1 X.1.2.1 hdg hi hl hn hf (fun ls' hl' => kk H locs ls' hP hS hl')
theorem r_astoreN (X : cx p s m args c cc nL own D w A tys) {i : Nat} (q : Nat) (lv' : List (Nat × Value)) (hdg : decode cc pc = .ok (.astore i, 2)) (hn : i < nL) (hf : (i, Value.null) :: lv.filter (fun q => !(q.1 == i) && !(q.1 + 1 == i && q.2.category == 2)) = lv') (hq : pc + 2 = q) (kk : go p l e R s m args below meth c D w A cells slots Qf nL q (lv') st σ) : go p l e R s m args below meth c D w A cells slots Qf nL pc lv (.null :: st) σ := by
  subst hq; exact fun H locs ls hP hS hl => lv_astoreN X.1.1 X.1.2.1 hdg hl hn hf (fun ls' hl' => kk H locs ls' hP hS hl')
theorem r_ifnull (X : cx p s m args c cc nL own D w A tys) {x : Nat} {off : Int} (q : Nat) (hdg : decode cc pc = .ok (.ifnull off, 3)) (hq : pc + 3 = q) (kk : go p l e R s m args below meth c D w A cells slots Qf nL q lv st σ) : go p l e R s m args below meth c D w A cells slots Qf nL pc lv (.ref x :: st) σ := by
  subst hq; exact fun H locs ls hP hS hl => lv_ifnull X.1.1 X.1.2.1 hdg (kk H locs ls hP hS hl)
theorem r_ifnullN (X : cx p s m args c cc nL own D w A tys) {off : Int} (t : Nat) (hdg : decode cc pc = .ok (.ifnull off, 3)) (ht : (pc : Int) + off = (t : Int)) (kk : go p l e R s m args below meth c D w A cells slots Qf nL t lv st σ) : go p l e R s m args below meth c D w A cells slots Qf nL pc lv (.null :: st) σ :=
  fun H locs ls hP hS hl => lv_ifnullN X.1.1 X.1.2.1 hdg ht (kk H locs ls hP hS hl)
theorem r_aldq (X : cx p s m args c cc nL own D w A tys) {q0 t0 b N : Nat} {cA : ClassId} {C : String} {f : Nat → Option Nat} {i : Int32} (q : Nat) (he : (w σ)[q0]? = some (b, .inl (cA, N, .inr (.inr (.inr (.inr f)))))) (ht : tys[t0]? = some (cA, .object C)) (hin : vp_in i N) (hdg : decode cc pc = .ok (.aaload, 1)) (hq : pc + 1 = q) (kk : go p l e R s m args below meth c D w A cells slots Qf nL q lv (va_rf (f (ix i)) :: st) σ) : go p l e R s m args below meth c D w A cells slots Qf nL pc lv (.int i :: .ref b :: st) σ := by
  subst hq; exact fun H locs ls hP hS hl => va_aldq X.1.1 X.1.2.1 X.2.1 hP q0 t0 he ht hin hdg (kk H locs ls hP hS hl)
end ROWSQ
section WALK
variable {p : Program} {l : Launch} {e : Env} {s : State} {m : MethodId} {args : Array Value} {below : List Frame} {meth : Method} {c : Code} {D : va_G} {A : Nat → Prop} {cI cZ cH : ClassId} {a : Nat → Nat} {n : Nat}
theorem dX5_findHanding_0 : decode cX5_findHanding 0 = .ok (.iload_n 1, 1) := by decide +kernel
theorem dX5_findHanding_1 : decode cX5_findHanding 1 = .ok (.ifCond .lt 11, 3) := by decide +kernel
theorem dX5_findHanding_4 : decode cX5_findHanding 4 = .ok (.iload_n 1, 1) := by decide +kernel
theorem dX5_findHanding_5 : decode cX5_findHanding 5 = .ok (.aload_n 0, 1) := by decide +kernel
theorem dX5_findHanding_6 : decode cX5_findHanding 6 = .ok (.getfield 97, 3) := by decide +kernel
theorem dX5_findHanding_9 : decode cX5_findHanding 9 = .ok (.if_icmp .lt 7, 3) := by decide +kernel
theorem dX5_findHanding_12 : decode cX5_findHanding 12 = .ok (.aconst_null, 1) := by decide +kernel
theorem dX5_findHanding_13 : decode cX5_findHanding 13 = .ok (.goto 9, 3) := by decide +kernel
theorem dX5_findHanding_16 : decode cX5_findHanding 16 = .ok (.aload_n 0, 1) := by decide +kernel
theorem dX5_findHanding_17 : decode cX5_findHanding 17 = .ok (.getfield 46, 3) := by decide +kernel
theorem dX5_findHanding_20 : decode cX5_findHanding 20 = .ok (.iload_n 1, 1) := by decide +kernel
theorem dX5_findHanding_21 : decode cX5_findHanding 21 = .ok (.aaload, 1) := by decide +kernel
theorem dX5_findHanding_22 : decode cX5_findHanding 22 = .ok (.areturn, 1) := by decide +kernel
def rm_X5_findHanding : Room := { frames := 0, cells := 0, slots := 0, locals := 0 }
/-- what findHanding gives */ -/
def fnd (a : Nat → Nat) (n : Nat) (x : Int32) (r : Option Nat) : Prop := (∃ i, i < n ∧ x = nI i ∧ r = some (a (30 + i))) ∨ (¬ rg (nI n) x ∧ r = none)
theorem c_X5_findHanding {σ : St} {x1 : Int32} (hn : n ≤ 60) (h7 : σ 0 7 = nI n) : ctQ l yX5_findHanding cX5_findHanding 2 (some (.object "CustodyRoom$Handing")) rm_X5_findHanding D (wC cI cZ cH a n) (tyW cI cZ cH) [.ref (a 0), .int x1] σ (fun r u => fnd a n x1 r ∧ u = σ) := by
  refine mk_Q (wC_ok cI cZ cH a n) (by decide +kernel) (Nat.le_of_ble_eq_true rfl) (fun p e s m args below meth c A X hr9 hlk9 => ?_)
  refine r_pick (lv' := [(0, .ref (a 0)), (1, .int x1)]) [0, 1] rfl ?_
  have N : ¬ rg (nI n) x1 → go p l e rm_X5_findHanding s m args below meth c D (wC cI cZ cH a n) A 0 0 (MQ below (va_Qq (fun r u => fnd a n x1 r ∧ u = σ) (atw D (wC cI cZ cH a n) (tyW cI cZ cH) A) A) args s 0 0 A) 2 12 [(0, .ref (a 0)), (1, .int x1)] [] σ := by
    intro hr
    refine r_null X 13 dX5_findHanding_12 rfl ?_
    refine r_goto X 22 dX5_findHanding_13 rfl ?_
    exact r_aret (r := none) X hr9 hlk9 ⟨Or.inr ⟨hr, rfl⟩, rfl⟩ dX5_findHanding_22
  refine r_iload_n X 1 1 dX5_findHanding_0 rfl rfl rfl ?_
  refine r_if_lt (P1 := x1 < 0) (P2 := ¬ x1 < 0) X 12 4 (by by_cases hc : x1 < 0 <;> simp [hc]) dX5_findHanding_1 rfl rfl (fun g1 => N (fun q => q.1 g1)) (fun g1 => ?_)
  refine r_iload_n X 1 5 dX5_findHanding_4 rfl rfl rfl ?_
  refine r_aload_n X 0 6 dX5_findHanding_5 rfl rfl rfl ?_
  refine g_X5_97 X 9 dX5_findHanding_6 rfl ?_
  refine r_icmp_lt (P1 := x1 < σ 0 7) (P2 := ¬ x1 < σ 0 7) X 16 12 (by by_cases hc : x1 < σ 0 7 <;> simp [hc]) dX5_findHanding_9 rfl rfl (fun g2 => ?_) (fun g2 => N (fun q => g2 (by rw [h7]; exact q.2)))
  rw [h7] at g2
  have hr : rg (nI n) x1 := ⟨g1, g2⟩
  have hi0 := (rg_i.mp hr).1
  have ei := z_of hi0
  have li : ix x1 < n := by
    have q1 := (rg_i.mp hr).2
    rw [nI_toInt (by omega)] at q1
    have q2 := ixI hi0
    omega
  refine r_aload_n X 0 17 dX5_findHanding_16 rfl rfl rfl ?_
  refine g_X5_46 X 20 dX5_findHanding_17 rfl ?_
  refine r_iload_n X 1 21 dX5_findHanding_20 rfl rfl rfl ?_
  refine r_aldq (q0 := 28) (t0 := 2) X 22 (show (wC cI cZ cH a n σ)[28]? = some (a 28, .inl (cH, 60, .inr (.inr (.inr (.inr (fun i => if i < n then some (a (30 + i)) else none)))))) from rfl) rfl (by rw [ei]; exact vin_n (by omega) (by decide)) dX5_findHanding_21 rfl ?_
  exact r_aret X hr9 hlk9 ⟨Or.inl ⟨ix x1, li, ei, if_pos li⟩, rfl⟩ dX5_findHanding_22

def rm_X5_no : Room := { frames := 1, cells := 0, slots := 0, locals := 21 }
theorem dX5_no_0 : decode cX5_no 0 = .ok (.aload_n 0, 1) := by decide +kernel
theorem dX5_no_1 : decode cX5_no 1 = .ok (.iload_n 1, 1) := by decide +kernel
theorem dX5_no_2 : decode cX5_no 2 = .ok (.invokevirtual 103, 3) := by decide +kernel
theorem dX5_no_5 : decode cX5_no 5 = .ok (.astore_n 3, 1) := by decide +kernel
theorem dX5_no_6 : decode cX5_no 6 = .ok (.aload_n 3, 1) := by decide +kernel
theorem dX5_no_7 : decode cX5_no 7 = .ok (.ifnull 18, 3) := by decide +kernel
theorem dX5_no_10 : decode cX5_no 10 = .ok (.aload_n 3, 1) := by decide +kernel
theorem dX5_no_11 : decode cX5_no 11 = .ok (.getfield 136, 3) := by decide +kernel
theorem dX5_no_14 : decode cX5_no 14 = .ok (.ifCond .ne 11, 3) := by decide +kernel
theorem dX5_no_17 : decode cX5_no 17 = .ok (.aload_n 3, 1) := by decide +kernel
theorem dX5_no_18 : decode cX5_no 18 = .ok (.iload_n 2, 1) := by decide +kernel
theorem dX5_no_19 : decode cX5_no 19 = .ok (.invokevirtual 140, 3) := by decide +kernel
theorem dX5_no_22 : decode cX5_no 22 = .ok (.ifCond .ne 5, 3) := by decide +kernel
theorem dX5_no_25 : decode cX5_no 25 = .ok (.iconst 0, 1) := by decide +kernel
theorem dX5_no_26 : decode cX5_no 26 = .ok (.ireturn, 1) := by decide +kernel
theorem dX5_no_27 : decode cX5_no 27 = .ok (.aload_n 3, 1) := by decide +kernel
theorem dX5_no_28 : decode cX5_no 28 = .ok (.iconst 1, 1) := by decide +kernel
theorem dX5_no_29 : decode cX5_no 29 = .ok (.putfield 136, 3) := by decide +kernel
theorem dX5_no_32 : decode cX5_no 32 = .ok (.iconst 1, 1) := by decide +kernel
theorem dX5_no_33 : decode cX5_no 33 = .ok (.ireturn, 1) := by decide +kernel
def wf_X5_no (i : Nat) (σ : St) (x1 : Int32) (x2 : Int32) (Q : Int32 → St → Prop) : Prop :=
  if (σ 30 (7 * i + 6)) = 0 then
  (wp_X0_isBetween i σ x2 (fun y2 σ1 =>
  if y2 = 0 then
  (Q 0 σ1)
  else (nmS (up2 σ1 30 (7 * i + 6) 1) (fun σ3 =>
  Q 1 σ3))))
  else (Q 0 σ)
def wp_X5_no (n : Nat) (σ : St) (x1 : Int32) (x2 : Int32) (Q : Int32 → St → Prop) : Prop :=
  (n ≤ 60 ∧ σ 0 7 = nI n) ∧ (∀ i, i < n → x1 = nI i → wf_X5_no i σ x1 x2 Q) ∧ (¬ rg (nI n) x1 → Q 0 σ)
theorem c_X5_no {σ : St} {x1 : Int32} {x2 : Int32} {Q : Int32 → St → Prop} (h : wp_X5_no n σ x1 x2 Q) : ctI l yX5_no cX5_no 4 (some .boolean) rm_X5_no D (wC cI cZ cH a n) (tyW cI cZ cH) [.ref (a 0), .int x1, .int x2] σ (fun r9 u9 => isB r9 ∧ Q r9 u9) := by
  refine mk_I (wC_ok cI cZ cH a n) (by decide +kernel) (Nat.le_of_ble_eq_true rfl) (fun p e s m args below meth c A X hr9 hlk9 => ?_)
  refine r_pick (lv' := [(0, .ref (a 0)), (1, .int x1), (2, .int x2)]) [0, 1, 2] rfl ?_
  obtain ⟨⟨hn6, h7⟩, h1, h0⟩ := h
  refine r_aload_n X 0 1 dX5_no_0 rfl rfl rfl ?_
  refine r_iload_n X 1 2 dX5_no_1 rfl rfl rfl ?_
  refine r_callQ (As := [.int x1]) (rest := []) X 5 (c_X5_findHanding hn6 h7) ml_X5_103 lk_X5_findHanding wC_at_0 rfl rfl rfl (Nat.le_of_ble_eq_true rfl) ⟨rfl, rfl, ⟨Nat.le_of_ble_eq_true rfl, Nat.le_of_ble_eq_true rfl⟩, Nat.le_of_ble_eq_true rfl, Nat.le_of_ble_eq_true rfl⟩ dX5_no_2 rfl (fun r τ hr => ?_)
  obtain ⟨hr, rfl⟩ := hr
  rcases hr with ⟨i, hi, ex, rfl⟩ | ⟨hr, rfl⟩
  · have h := h1 i hi ex
    unfold wf_X5_no at h
    refine r_astore_n (x := a (30 + i)) X 6 [(3, .ref (a (30 + i))), (0, .ref (a 0)), (1, .int x1), (2, .int x2)] dX5_no_5 rfl (by decide) rfl rfl ?_
    refine r_aload_n X 0 7 dX5_no_6 rfl rfl rfl ?_
    refine r_ifnull X 10 dX5_no_7 rfl ?_
    refine r_aload_n X 0 11 dX5_no_10 rfl rfl rfl ?_
    refine g_X5_136 X hi 14 dX5_no_11 rfl ?_
    refine r_if_ne X 25 17 h dX5_no_14 rfl rfl (fun h => ?_) (fun h => ?_)
    · refine r_iconst (v := 0) X 26 dX5_no_25 (by decide) rfl ?_
      exact r_zret X hr9 hlk9 isB_0 h dX5_no_26
    · refine r_aload_n X 0 18 dX5_no_17 rfl rfl rfl ?_
      refine r_iload_n X 3 19 dX5_no_18 rfl rfl rfl ?_
      refine r_callNI (As := [.int x2]) (rest := []) X 22 (c_X0_isBetween hi h) ml_X5_140 lk_X0_isBetween (wC_at_i hi) rfl rfl rfl (Nat.le_of_ble_eq_true rfl) ⟨rfl, rfl, ⟨Nat.le_of_ble_eq_true rfl, Nat.le_of_ble_eq_true rfl⟩, Nat.le_of_ble_eq_true rfl, Nat.le_of_ble_eq_true rfl⟩ dX5_no_19 rfl (fun y2 σ1 h => ?_)
      obtain ⟨hb_y2, h⟩ := h
      refine r_if_ne X 27 25 h dX5_no_22 rfl rfl (fun h => ?_) (fun h => ?_)
      · refine r_aload_n X 0 28 dX5_no_27 rfl rfl rfl ?_
        refine r_iconst (v := 1) X 29 dX5_no_28 (by decide) rfl ?_
        refine u_X5_136 X hi isB_1 32 dX5_no_29 rfl ?_
        refine r_nmS h (fun σ3 h => ?_)
        refine r_iconst (v := 1) X 33 dX5_no_32 (by decide) rfl ?_
        exact r_zret X hr9 hlk9 isB_1 h dX5_no_33
      · refine r_iconst (v := 0) X 26 dX5_no_25 (by decide) rfl ?_
        exact r_zret X hr9 hlk9 isB_0 h dX5_no_26
  · have h := h0 hr
    refine r_astore_nN X 6 [(3, .null), (0, .ref (a 0)), (1, .int x1), (2, .int x2)] dX5_no_5 rfl (by decide) rfl rfl ?_
    refine r_aload_nN X 0 7 dX5_no_6 rfl rfl rfl ?_
    refine r_ifnullN X 25 dX5_no_7 rfl ?_
    refine r_iconst (v := 0) X 26 dX5_no_25 (by decide) rfl ?_
    exact r_zret X hr9 hlk9 isB_0 h dX5_no_26
def rm_X5_yes : Room := { frames := 7, cells := 0, slots := 0, locals := 164 }
theorem dX5_yes_0 : decode cX5_yes 0 = .ok (.aload_n 0, 1) := by decide +kernel
theorem dX5_yes_1 : decode cX5_yes 1 = .ok (.iload_n 1, 1) := by decide +kernel
theorem dX5_yes_2 : decode cX5_yes 2 = .ok (.invokevirtual 103, 3) := by decide +kernel
theorem dX5_yes_5 : decode cX5_yes 5 = .ok (.astore 4, 2) := by decide +kernel
theorem dX5_yes_7 : decode cX5_yes 7 = .ok (.aload 4, 2) := by decide +kernel
theorem dX5_yes_9 : decode cX5_yes 9 = .ok (.ifnull 29, 3) := by decide +kernel
theorem dX5_yes_12 : decode cX5_yes 12 = .ok (.aload 4, 2) := by decide +kernel
theorem dX5_yes_14 : decode cX5_yes 14 = .ok (.iload_n 2, 1) := by decide +kernel
theorem dX5_yes_15 : decode cX5_yes 15 = .ok (.invokevirtual 107, 3) := by decide +kernel
theorem dX5_yes_18 : decode cX5_yes 18 = .ok (.ifCond .eq 20, 3) := by decide +kernel
theorem dX5_yes_21 : decode cX5_yes 21 = .ok (.iload_n 3, 1) := by decide +kernel
theorem dX5_yes_22 : decode cX5_yes 22 = .ok (.aload 4, 2) := by decide +kernel
theorem dX5_yes_24 : decode cX5_yes 24 = .ok (.getfield 110, 3) := by decide +kernel
theorem dX5_yes_27 : decode cX5_yes 27 = .ok (.if_icmp .lt 11, 3) := by decide +kernel
theorem dX5_yes_30 : decode cX5_yes 30 = .ok (.iload_n 3, 1) := by decide +kernel
theorem dX5_yes_31 : decode cX5_yes 31 = .ok (.aload_n 0, 1) := by decide +kernel
theorem dX5_yes_32 : decode cX5_yes 32 = .ok (.getfield 83, 3) := by decide +kernel
theorem dX5_yes_35 : decode cX5_yes 35 = .ok (.if_icmp .le 5, 3) := by decide +kernel
theorem dX5_yes_38 : decode cX5_yes 38 = .ok (.iconst (-1), 1) := by decide +kernel
theorem dX5_yes_39 : decode cX5_yes 39 = .ok (.ireturn, 1) := by decide +kernel
theorem dX5_yes_40 : decode cX5_yes 40 = .ok (.aload 4, 2) := by decide +kernel
theorem dX5_yes_42 : decode cX5_yes 42 = .ok (.iload_n 2, 1) := by decide +kernel
theorem dX5_yes_43 : decode cX5_yes 43 = .ok (.iload_n 3, 1) := by decide +kernel
theorem dX5_yes_44 : decode cX5_yes 44 = .ok (.invokevirtual 113, 3) := by decide +kernel
theorem dX5_yes_47 : decode cX5_yes 47 = .ok (.aload 4, 2) := by decide +kernel
theorem dX5_yes_49 : decode cX5_yes 49 = .ok (.invokevirtual 116, 3) := by decide +kernel
theorem dX5_yes_52 : decode cX5_yes 52 = .ok (.ifCond .ne 5, 3) := by decide +kernel
theorem dX5_yes_55 : decode cX5_yes 55 = .ok (.iconst 0, 1) := by decide +kernel
theorem dX5_yes_56 : decode cX5_yes 56 = .ok (.ireturn, 1) := by decide +kernel
theorem dX5_yes_57 : decode cX5_yes 57 = .ok (.aload 4, 2) := by decide +kernel
theorem dX5_yes_59 : decode cX5_yes 59 = .ok (.invokevirtual 120, 3) := by decide +kernel
theorem dX5_yes_62 : decode cX5_yes 62 = .ok (.istore 5, 2) := by decide +kernel
theorem dX5_yes_64 : decode cX5_yes 64 = .ok (.iload 5, 2) := by decide +kernel
theorem dX5_yes_66 : decode cX5_yes 66 = .ok (.ifCond .eq 11, 3) := by decide +kernel
theorem dX5_yes_69 : decode cX5_yes 69 = .ok (.aload 4, 2) := by decide +kernel
theorem dX5_yes_71 : decode cX5_yes 71 = .ok (.invokevirtual 123, 3) := by decide +kernel
theorem dX5_yes_74 : decode cX5_yes 74 = .ok (.goto 8, 3) := by decide +kernel
theorem dX5_yes_77 : decode cX5_yes 77 = .ok (.aload 4, 2) := by decide +kernel
theorem dX5_yes_79 : decode cX5_yes 79 = .ok (.getfield 110, 3) := by decide +kernel
theorem dX5_yes_82 : decode cX5_yes 82 = .ok (.istore 6, 2) := by decide +kernel
theorem dX5_yes_84 : decode cX5_yes 84 = .ok (.aload_n 0, 1) := by decide +kernel
theorem dX5_yes_85 : decode cX5_yes 85 = .ok (.iconst 3, 1) := by decide +kernel
theorem dX5_yes_86 : decode cX5_yes 86 = .ok (.aload 4, 2) := by decide +kernel
theorem dX5_yes_88 : decode cX5_yes 88 = .ok (.getfield 127, 3) := by decide +kernel
theorem dX5_yes_91 : decode cX5_yes 91 = .ok (.iconst (-1), 1) := by decide +kernel
theorem dX5_yes_92 : decode cX5_yes 92 = .ok (.iconst (-1), 1) := by decide +kernel
theorem dX5_yes_93 : decode cX5_yes 93 = .ok (.aload 4, 2) := by decide +kernel
theorem dX5_yes_95 : decode cX5_yes 95 = .ok (.getfield 130, 3) := by decide +kernel
theorem dX5_yes_98 : decode cX5_yes 98 = .ok (.aload 4, 2) := by decide +kernel
theorem dX5_yes_100 : decode cX5_yes 100 = .ok (.getfield 133, 3) := by decide +kernel
theorem dX5_yes_103 : decode cX5_yes 103 = .ok (.iload 6, 2) := by decide +kernel
theorem dX5_yes_105 : decode cX5_yes 105 = .ok (.invokevirtual 86, 3) := by decide +kernel
theorem dX5_yes_108 : decode cX5_yes 108 = .ok (.iconst (-1), 1) := by decide +kernel
theorem dX5_yes_109 : decode cX5_yes 109 = .ok (.if_icmp .ne 12, 3) := by decide +kernel
theorem dX5_yes_112 : decode cX5_yes 112 = .ok (.aload 4, 2) := by decide +kernel
theorem dX5_yes_114 : decode cX5_yes 114 = .ok (.iload_n 2, 1) := by decide +kernel
theorem dX5_yes_115 : decode cX5_yes 115 = .ok (.iconst (-1), 1) := by decide +kernel
theorem dX5_yes_116 : decode cX5_yes 116 = .ok (.invokevirtual 113, 3) := by decide +kernel
theorem dX5_yes_119 : decode cX5_yes 119 = .ok (.iconst 3, 1) := by decide +kernel
theorem dX5_yes_120 : decode cX5_yes 120 = .ok (.ireturn, 1) := by decide +kernel
theorem dX5_yes_121 : decode cX5_yes 121 = .ok (.aload 4, 2) := by decide +kernel
theorem dX5_yes_123 : decode cX5_yes 123 = .ok (.iconst 1, 1) := by decide +kernel
theorem dX5_yes_124 : decode cX5_yes 124 = .ok (.putfield 136, 3) := by decide +kernel
theorem dX5_yes_127 : decode cX5_yes 127 = .ok (.iload 5, 2) := by decide +kernel
theorem dX5_yes_129 : decode cX5_yes 129 = .ok (.ifCond .eq 7, 3) := by decide +kernel
theorem dX5_yes_132 : decode cX5_yes 132 = .ok (.iconst 2, 1) := by decide +kernel
theorem dX5_yes_133 : decode cX5_yes 133 = .ok (.goto 4, 3) := by decide +kernel
theorem dX5_yes_136 : decode cX5_yes 136 = .ok (.iconst 1, 1) := by decide +kernel
theorem dX5_yes_137 : decode cX5_yes 137 = .ok (.ireturn, 1) := by decide +kernel
def j_X5_yes_82 (i : Nat) (Q : Int32 → St → Prop) (v2 : Int32) (v5 : Int32) (s0 : Int32) (σ : St) : Prop :=
  wp_X5_write σ 3 (σ 30 (7 * i)) (-1) (-1) (σ 30 (7 * i + 1)) (σ 30 (7 * i + 2)) s0 (fun y9 σ8 =>
  if y9 = (-1) then
  (wp_X0_setYes i σ8 v2 (-1) (fun σ11 =>
  Q 3 σ11))
  else (nmS (up2 σ8 30 (7 * i + 6) 1) (fun σ10 =>
  if v5 = 0 then
  (Q 1 σ10)
  else (Q 2 σ10))))
theorem wk_X5_yes_82 {i : Nat} (X : cx p s m args c cX5_yes 7 RX5 D (wC cI cZ cH a n) A (tyW cI cZ cH)) (hr9 : meth.sig.returnType = (some .int)) (hlk9 : meth.locks = false) (hi : i < n) {Q : Int32 → St → Prop} {v2 : Int32} {v5 : Int32} {s0 : Int32} {σ : St} (h : j_X5_yes_82 i Q v2 v5 s0 σ) : go p l e rm_X5_yes s m args below meth c D (wC cI cZ cH a n) A 0 0 (MQ below (va_Qi Q (atw D (wC cI cZ cH a n) (tyW cI cZ cH) A) A) args s 0 0 A) 7 82 [(0, .ref (a 0)), (2, .int v2), (4, .ref (a (30 + i))), (5, .int v5)] [.int s0] σ := by
  delta j_X5_yes_82 at h
  refine r_istore X 84 [(6, .int s0), (0, .ref (a 0)), (2, .int v2), (4, .ref (a (30 + i))), (5, .int v5)] dX5_yes_82 (by decide) rfl rfl ?_
  refine r_aload_n X 1 85 dX5_yes_84 rfl rfl rfl ?_
  refine r_iconst (v := 3) X 86 dX5_yes_85 (by decide) rfl ?_
  refine r_aload X 3 88 dX5_yes_86 rfl rfl ?_
  refine g_X5_127 X hi 91 dX5_yes_88 rfl ?_
  refine r_iconst (v := (-1)) X 92 dX5_yes_91 (by decide) rfl ?_
  refine r_iconst (v := (-1)) X 93 dX5_yes_92 (by decide) rfl ?_
  refine r_aload X 3 95 dX5_yes_93 rfl rfl ?_
  refine g_X5_130 X hi 98 dX5_yes_95 rfl ?_
  refine r_aload X 3 100 dX5_yes_98 rfl rfl ?_
  refine g_X5_133 X hi 103 dX5_yes_100 rfl ?_
  refine r_iload X 0 105 dX5_yes_103 rfl rfl ?_
  refine r_callI (As := [.int 3, .int (σ 30 (7 * i)), .int (-1), .int (-1), .int (σ 30 (7 * i + 1)), .int (σ 30 (7 * i + 2)), .int s0]) (rest := []) X 108 (c_X5_write h) ml_X5_86 lk_X5_write wC_at_0 rfl rfl rfl (Nat.le_of_ble_eq_true rfl) ⟨rfl, rfl, ⟨Nat.le_of_ble_eq_true rfl, Nat.le_of_ble_eq_true rfl⟩, Nat.le_of_ble_eq_true rfl, Nat.le_of_ble_eq_true rfl⟩ dX5_yes_105 rfl (fun y9 σ8 h => ?_)
  refine r_iconst (v := (-1)) X 109 dX5_yes_108 (by decide) rfl ?_
  refine r_icmp_ne X 121 112 h dX5_yes_109 rfl rfl (fun h => ?_) (fun h => ?_)
  · refine r_aload X 3 123 dX5_yes_121 rfl rfl ?_
    refine r_iconst (v := 1) X 124 dX5_yes_123 (by decide) rfl ?_
    refine u_X5_136 X hi isB_1 127 dX5_yes_124 rfl ?_
    refine r_nmS h (fun σ10 h => ?_)
    refine r_iload X 4 129 dX5_yes_127 rfl rfl ?_
    refine r_if_eq X 136 132 h dX5_yes_129 rfl rfl (fun h => ?_) (fun h => ?_)
    · refine r_iconst (v := 1) X 137 dX5_yes_136 (by decide) rfl ?_
      exact r_iret X hr9 hlk9 h dX5_yes_137
    · refine r_iconst (v := 2) X 133 dX5_yes_132 (by decide) rfl ?_
      refine r_goto X 137 dX5_yes_133 rfl ?_
      exact r_iret X hr9 hlk9 h dX5_yes_137
  · refine r_aload X 3 114 dX5_yes_112 rfl rfl ?_
    refine r_iload_n X 2 115 dX5_yes_114 rfl rfl rfl ?_
    refine r_iconst (v := (-1)) X 116 dX5_yes_115 (by decide) rfl ?_
    refine r_callNV (As := [.int v2, .int (-1)]) (rest := []) X 119 (c_X0_setYes hi h) ml_X5_113 lk_X0_setYes (wC_at_i hi) rfl rfl rfl (Nat.le_of_ble_eq_true rfl) ⟨rfl, rfl, ⟨Nat.le_of_ble_eq_true rfl, Nat.le_of_ble_eq_true rfl⟩, Nat.le_of_ble_eq_true rfl, Nat.le_of_ble_eq_true rfl⟩ dX5_yes_116 rfl (fun σ11 h => ?_)
    refine r_iconst (v := 3) X 120 dX5_yes_119 (by decide) rfl ?_
    exact r_iret X hr9 hlk9 h dX5_yes_120
def wf_X5_yes (i : Nat) (σ : St) (x1 : Int32) (x2 : Int32) (x3 : Int32) (Q : Int32 → St → Prop) : Prop :=
  wp_X0_awaits i σ x2 (fun y2 σ1 =>
  if y2 = 0 then
  (Q (-1) σ1)
  else (if x3 < (σ1 30 (7 * i + 3)) then
  (Q (-1) σ1)
  else (if (σ1 0 9) < x3 then
  (Q (-1) σ1)
  else (wp_X0_setYes i σ1 x2 x3 (fun σ3 =>
  wp_X0_isAgreed i σ3 (fun y5 σ4 =>
  if y5 = 0 then
  (Q 0 σ4)
  else (wp_X0_isLate i σ4 (fun y7 σ6 =>
  if y7 = 0 then
  (j_X5_yes_82 i Q x2 y7 (σ6 30 (7 * i + 3)) σ6)
  else (wp_X0_laterYes i σ6 (fun y13 σ12 =>
  j_X5_yes_82 i Q x2 y7 y13 σ12))))))))))
def wp_X5_yes (n : Nat) (σ : St) (x1 : Int32) (x2 : Int32) (x3 : Int32) (Q : Int32 → St → Prop) : Prop :=
  (n ≤ 60 ∧ σ 0 7 = nI n) ∧ (∀ i, i < n → x1 = nI i → wf_X5_yes i σ x1 x2 x3 Q) ∧ (¬ rg (nI n) x1 → Q (-1) σ)
theorem c_X5_yes {σ : St} {x1 : Int32} {x2 : Int32} {x3 : Int32} {Q : Int32 → St → Prop} (h : wp_X5_yes n σ x1 x2 x3 Q) : ctI l yX5_yes cX5_yes 7 (some .int) rm_X5_yes D (wC cI cZ cH a n) (tyW cI cZ cH) [.ref (a 0), .int x1, .int x2, .int x3] σ Q := by
  refine mk_I (wC_ok cI cZ cH a n) (by decide +kernel) (Nat.le_of_ble_eq_true rfl) (fun p e s m args below meth c A X hr9 hlk9 => ?_)
  refine r_pick (lv' := [(0, .ref (a 0)), (1, .int x1), (2, .int x2), (3, .int x3)]) [0, 1, 2, 3] rfl ?_
  obtain ⟨⟨hn6, h7⟩, h1, h0⟩ := h
  refine r_aload_n X 0 1 dX5_yes_0 rfl rfl rfl ?_
  refine r_iload_n X 1 2 dX5_yes_1 rfl rfl rfl ?_
  refine r_callQ (As := [.int x1]) (rest := []) X 5 (c_X5_findHanding hn6 h7) ml_X5_103 lk_X5_findHanding wC_at_0 rfl rfl rfl (Nat.le_of_ble_eq_true rfl) ⟨rfl, rfl, ⟨Nat.le_of_ble_eq_true rfl, Nat.le_of_ble_eq_true rfl⟩, Nat.le_of_ble_eq_true rfl, Nat.le_of_ble_eq_true rfl⟩ dX5_yes_2 rfl (fun r τ hr => ?_)
  obtain ⟨hr, rfl⟩ := hr
  rcases hr with ⟨i, hi, ex, rfl⟩ | ⟨hr, rfl⟩
  · have h := h1 i hi ex
    unfold wf_X5_yes at h
    refine r_astore (x := a (30 + i)) X 7 [(4, .ref (a (30 + i))), (0, .ref (a 0)), (1, .int x1), (2, .int x2), (3, .int x3)] dX5_yes_5 (by decide) rfl rfl ?_
    refine r_aload X 0 9 dX5_yes_7 rfl rfl ?_
    refine r_ifnull X 12 dX5_yes_9 rfl ?_
    refine r_aload X 0 14 dX5_yes_12 rfl rfl ?_
    refine r_iload_n X 3 15 dX5_yes_14 rfl rfl rfl ?_
    refine r_callNI (As := [.int x2]) (rest := []) X 18 (c_X0_awaits hi h) ml_X5_107 lk_X0_awaits (wC_at_i hi) rfl rfl rfl (Nat.le_of_ble_eq_true rfl) ⟨rfl, rfl, ⟨Nat.le_of_ble_eq_true rfl, Nat.le_of_ble_eq_true rfl⟩, Nat.le_of_ble_eq_true rfl, Nat.le_of_ble_eq_true rfl⟩ dX5_yes_15 rfl (fun y2 σ1 h => ?_)
    obtain ⟨hb_y2, h⟩ := h
    refine r_if_eq X 38 21 h dX5_yes_18 rfl rfl (fun h => ?_) (fun h => ?_)
    · refine r_iconst (v := (-1)) X 39 dX5_yes_38 (by decide) rfl ?_
      exact r_iret X hr9 hlk9 h dX5_yes_39
    · refine r_iload_n X 4 22 dX5_yes_21 rfl rfl rfl ?_
      refine r_aload X 0 24 dX5_yes_22 rfl rfl ?_
      refine g_X5_110 X hi 27 dX5_yes_24 rfl ?_
      refine r_icmp_lt X 38 30 h dX5_yes_27 rfl rfl (fun h => ?_) (fun h => ?_)
      · refine r_iconst (v := (-1)) X 39 dX5_yes_38 (by decide) rfl ?_
        exact r_iret X hr9 hlk9 h dX5_yes_39
      · refine r_iload_n X 4 31 dX5_yes_30 rfl rfl rfl ?_
        refine r_aload_n X 1 32 dX5_yes_31 rfl rfl rfl ?_
        refine g_X5_83 X 35 dX5_yes_32 rfl ?_
        refine r_icmp_le X 40 38 h dX5_yes_35 rfl rfl (fun h => ?_) (fun h => ?_)
        · refine r_aload X 0 42 dX5_yes_40 rfl rfl ?_
          refine r_iload_n X 3 43 dX5_yes_42 rfl rfl rfl ?_
          refine r_iload_n X 4 44 dX5_yes_43 rfl rfl rfl ?_
          refine r_callNV (As := [.int x2, .int x3]) (rest := []) X 47 (c_X0_setYes hi h) ml_X5_113 lk_X0_setYes (wC_at_i hi) rfl rfl rfl (Nat.le_of_ble_eq_true rfl) ⟨rfl, rfl, ⟨Nat.le_of_ble_eq_true rfl, Nat.le_of_ble_eq_true rfl⟩, Nat.le_of_ble_eq_true rfl, Nat.le_of_ble_eq_true rfl⟩ dX5_yes_44 rfl (fun σ3 h => ?_)
          refine r_aload X 0 49 dX5_yes_47 rfl rfl ?_
          refine r_callNI (As := []) (rest := []) X 52 (c_X0_isAgreed hi h) ml_X5_116 lk_X0_isAgreed (wC_at_i hi) rfl rfl rfl (Nat.le_of_ble_eq_true rfl) ⟨rfl, rfl, ⟨Nat.le_of_ble_eq_true rfl, Nat.le_of_ble_eq_true rfl⟩, Nat.le_of_ble_eq_true rfl, Nat.le_of_ble_eq_true rfl⟩ dX5_yes_49 rfl (fun y5 σ4 h => ?_)
          obtain ⟨hb_y5, h⟩ := h
          refine r_if_ne X 57 55 h dX5_yes_52 rfl rfl (fun h => ?_) (fun h => ?_)
          · refine r_aload X 0 59 dX5_yes_57 rfl rfl ?_
            refine r_callNI (As := []) (rest := []) X 62 (c_X0_isLate hi h) ml_X5_120 lk_X0_isLate (wC_at_i hi) rfl rfl rfl (Nat.le_of_ble_eq_true rfl) ⟨rfl, rfl, ⟨Nat.le_of_ble_eq_true rfl, Nat.le_of_ble_eq_true rfl⟩, Nat.le_of_ble_eq_true rfl, Nat.le_of_ble_eq_true rfl⟩ dX5_yes_59 rfl (fun y7 σ6 h => ?_)
            obtain ⟨hb_y7, h⟩ := h
            refine r_istore X 64 [(5, .int y7), (4, .ref (a (30 + i))), (0, .ref (a 0)), (1, .int x1), (2, .int x2), (3, .int x3)] dX5_yes_62 (by decide) rfl rfl ?_
            refine r_iload X 0 66 dX5_yes_64 rfl rfl ?_
            refine r_if_eq X 77 69 h dX5_yes_66 rfl rfl (fun h => ?_) (fun h => ?_)
            · refine r_aload X 1 79 dX5_yes_77 rfl rfl ?_
              refine g_X5_110 X hi 82 dX5_yes_79 rfl ?_
              refine r_pick (lv' := [(0, .ref (a 0)), (2, .int x2), (4, .ref (a (30 + i))), (5, .int y7)]) [2, 4, 1, 0] rfl ?_
              exact wk_X5_yes_82 X hr9 hlk9 hi h
            · refine r_aload X 1 71 dX5_yes_69 rfl rfl ?_
              refine r_callNI (As := []) (rest := []) X 74 (c_X0_laterYes hi h) ml_X5_123 lk_X0_laterYes (wC_at_i hi) rfl rfl rfl (Nat.le_of_ble_eq_true rfl) ⟨rfl, rfl, ⟨Nat.le_of_ble_eq_true rfl, Nat.le_of_ble_eq_true rfl⟩, Nat.le_of_ble_eq_true rfl, Nat.le_of_ble_eq_true rfl⟩ dX5_yes_71 rfl (fun y13 σ12 h => ?_)
              refine r_goto X 82 dX5_yes_74 rfl ?_
              refine r_pick (lv' := [(0, .ref (a 0)), (2, .int x2), (4, .ref (a (30 + i))), (5, .int y7)]) [2, 4, 1, 0] rfl ?_
              exact wk_X5_yes_82 X hr9 hlk9 hi h
          · refine r_iconst (v := 0) X 56 dX5_yes_55 (by decide) rfl ?_
            exact r_iret X hr9 hlk9 h dX5_yes_56
        · refine r_iconst (v := (-1)) X 39 dX5_yes_38 (by decide) rfl ?_
          exact r_iret X hr9 hlk9 h dX5_yes_39
  · have h := h0 hr
    refine r_astoreN X 7 [(4, .null), (0, .ref (a 0)), (1, .int x1), (2, .int x2), (3, .int x3)] dX5_yes_5 (by decide) rfl rfl ?_
    refine r_aloadN X 0 9 dX5_yes_7 rfl rfl ?_
    refine r_ifnullN X 38 dX5_yes_9 rfl ?_
    refine r_iconst (v := (-1)) X 39 dX5_yes_38 (by decide) rfl ?_
    exact r_iret X hr9 hlk9 h dX5_yes_39
end WALK
