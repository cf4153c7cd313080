/-- a number, or a state, with a name -/
def nm (x : Int32) (f : Int32 → Prop) : Prop := f x
def nmS (σ : St) (f : St → Prop) : Prop := f σ
theorem tn_ {x v : Int32} {k : Int} (h : ¬ x = v) (hk : v.toInt = k) : x.toInt ≠ k := fun e => h (Int32.toInt_inj.mp (e.trans hk.symm))
def fillA (N : Nat) (v : Int32) (f : Nat → Int32) : Nat → Int32 := fun j => if j < N then v else f j
section R6
variable {p : Program} {l : Launch} {e : Env} {R : Room} {s : State} {m : MethodId} {args : Array Value} {below : List Frame} {meth : Method} {c : Code} {D : va_G} {w : St → va_W} {A : Nat → Prop} {cells slots : Nat} {Qf : State → Prop} {nL : Nat} {tys : List (ClassId × FieldType)} {cc : ByteArray} {own : String} {pc : Nat} {lv : List (Nat × Value)} {st : List Value} {σ : St}
theorem r_nmS {f : St → Prop} (h : nmS σ f) (kk : ∀ τ, f τ → go p l e R s m args below meth c D w A cells slots Qf nL pc lv st τ) : go p l e R s m args below meth c D w A cells slots Qf nL pc lv st σ := kk σ h
theorem r_istore_nN (X : cx p s m args c cc nL own D w A tys) {k : Fin 4} {i : Nat} {x : Int32} {f : Int32 → Prop} (q : Nat) (lv' : Int32 → List (Nat × Value)) (h : nm x f) (hdg : decode cc pc = .ok (.istore_n k, 1)) (hi : (k : Nat) = i) (hn : i < nL) (hf : ∀ v, (i, Value.int v) :: lv.filter (fun q => !(q.1 == i) && !(q.1 + 1 == i && q.2.category == 2)) = lv' v) (hq : pc + 1 = q) (kk : ∀ v, f v → go p l e R s m args below meth c D w A cells slots Qf nL q (lv' v) st σ) : go p l e R s m args below meth c D w A cells slots Qf nL pc lv (.int x :: st) σ := r_istore_n X q (lv' x) hdg hi hn (hf x) hq (kk x h)
theorem r_istoreN (X : cx p s m args c cc nL own D w A tys) {i : Nat} {x : Int32} {f : Int32 → Prop} (q : Nat) (lv' : Int32 → List (Nat × Value)) (h : nm x f) (hdg : decode cc pc = .ok (.istore i, 2)) (hn : i < nL) (hf : ∀ v, (i, Value.int v) :: lv.filter (fun q => !(q.1 == i) && !(q.1 + 1 == i && q.2.category == 2)) = lv' v) (hq : pc + 2 = q) (kk : ∀ v, f v → go p l e R s m args below meth c D w A cells slots Qf nL q (lv' v) st σ) : go p l e R s m args below meth c D w A cells slots Qf nL pc lv (.int x :: st) σ := r_istore X q (lv' x) hdg hn (hf x) hq (kk x h)
end R6
theorem dJ7_fill_53178_0 : decode cJ7_fill_53178 0 = .ok (.iconst 0, 1) := by decide +kernel
theorem dJ7_fill_53178_1 : decode cJ7_fill_53178 1 = .ok (.istore_n 2, 1) := by decide +kernel
theorem dJ7_fill_53178_2 : decode cJ7_fill_53178 2 = .ok (.aload_n 0, 1) := by decide +kernel
theorem dJ7_fill_53178_3 : decode cJ7_fill_53178 3 = .ok (.arraylength, 1) := by decide +kernel
theorem dJ7_fill_53178_4 : decode cJ7_fill_53178 4 = .ok (.istore_n 3, 1) := by decide +kernel
theorem dJ7_fill_53178_5 : decode cJ7_fill_53178 5 = .ok (.iload_n 2, 1) := by decide +kernel
theorem dJ7_fill_53178_6 : decode cJ7_fill_53178 6 = .ok (.iload_n 3, 1) := by decide +kernel
theorem dJ7_fill_53178_7 : decode cJ7_fill_53178 7 = .ok (.if_icmp .ge 13, 3) := by decide +kernel
theorem dJ7_fill_53178_10 : decode cJ7_fill_53178 10 = .ok (.aload_n 0, 1) := by decide +kernel
theorem dJ7_fill_53178_11 : decode cJ7_fill_53178 11 = .ok (.iload_n 2, 1) := by decide +kernel
theorem dJ7_fill_53178_12 : decode cJ7_fill_53178 12 = .ok (.iload_n 1, 1) := by decide +kernel
theorem dJ7_fill_53178_13 : decode cJ7_fill_53178 13 = .ok (.iastore, 1) := by decide +kernel
theorem dJ7_fill_53178_14 : decode cJ7_fill_53178 14 = .ok (.iinc 2 1, 3) := by decide +kernel
theorem dJ7_fill_53178_17 : decode cJ7_fill_53178 17 = .ok (.goto (-12), 3) := by decide +kernel
theorem dJ7_fill_53178_20 : decode cJ7_fill_53178 20 = .ok (.return_, 1) := by decide +kernel
def rm_J7_fill_53178 : Room := { frames := 0, cells := 0, slots := 0, locals := 0 }
theorem fillA_up (N : Nat) (v : Int32) (f : Nat → Int32) : upd (fillA N v f) N v = fillA (N + 1) v f := by
  funext j
  simp only [upd, fillA]
  by_cases h1 : j = N
  · subst h1; simp
  · by_cases h2 : j < N
    · simp [h1, h2, Nat.lt_succ_of_lt h2]
    · have h3 : ¬ j < N + 1 := by omega
      simp [h1, h2, h3]
theorem fillA_0 (v : Int32) (f : Nat → Int32) : fillA 0 v f = f := by
  funext j
  simp [fillA]
theorem upr_same (σ : St) (k : Nat) : upr σ k (σ k) = σ := by
  funext j
  simp only [upr]
  by_cases h : j = k
  · subst h; simp
  · simp [h]
theorem upr_upr (σ : St) (k : Nat) (f g : Nat → Int32) : upr (upr σ k f) k g = upr σ k g := by
  funext j
  simp only [upr]
  by_cases h : j = k
  · simp [h]
  · simp [h]
theorem upr_at (σ : St) (k : Nat) (f : Nat → Int32) : upr σ k f k = f := by simp [upr]
section FILL
variable {l : Launch} {D : va_G} {w : St → va_W} {tys : List (ClassId × FieldType)} {cI : ClassId}
set_option maxHeartbeats 1000000 in
theorem c_fill {q0 k N b t0 : Nat} (hw : wOk w) (hat : ∀ σ, (w σ)[q0]? = some (b, .inl (cI, N, .inl (σ k)))) (hset : ∀ (σ : St) (f : Nat → Int32), (w σ).set q0 (b, .inl (cI, N, .inl f)) = w (upr σ k f)) (ht : tys[t0]? = some (cI, .int)) (hN : N < 2 ^ 31) {σ : St} {v : Int32} {Q : St → Prop} (h : nmS (upr σ k (fillA N v (σ k))) Q) : ctV l yJ7_fill_53178 cJ7_fill_53178 4 none rm_J7_fill_53178 D w tys [.ref b, .int v] σ Q := by
  refine mk_V hw (by decide +kernel) (Nat.le_of_ble_eq_true rfl) (fun p e s m args below meth c A X hr9 hlk9 => ?_)
  refine r_pick (lv' := [(0, .ref b), (1, .int v)]) [0, 1] rfl ?_
  refine r_iconst (v := 0) X 1 dJ7_fill_53178_0 (by decide) rfl ?_
  refine r_istore_n X 2 [(2, .int 0), (0, .ref b), (1, .int v)] dJ7_fill_53178_1 rfl (by decide) rfl rfl ?_
  refine r_aload_n X 1 3 dJ7_fill_53178_2 rfl rfl rfl ?_
  refine r_alen (v := Int32.ofNat N) X (q0 := q0) (t0 := t0) 4 (hat σ) ht rfl dJ7_fill_53178_3 rfl ?_
  refine r_istore_n X 5 [(3, .int (nI N)), (2, .int 0), (0, .ref b), (1, .int v)] dJ7_fill_53178_4 rfl (by decide) rfl rfl ?_
  refine r_pick (lv' := [(0, .ref b), (1, .int v), (2, .int (nI 0)), (3, .int (nI N))]) [2, 3, 1, 0] rfl ?_
  have key : ∀ (g i : Nat), i ≤ N → N - i < g → go p l e rm_J7_fill_53178 s m args below meth c D w A 0 0 (MQ below (va_Qv Q (atw D w tys A) A) args s 0 0 A) 4 5 [(0, .ref b), (1, .int v), (2, .int (nI i)), (3, .int (nI N))] [] (upr σ k (fillA i v (σ k))) := by
    intro g
    induction g with
    | zero => intro i _ hi; exact absurd hi (Nat.not_lt_zero _)
    | succ g ih =>
      intro i hi hg
      refine r_iload_n X 2 6 dJ7_fill_53178_5 rfl rfl rfl ?_
      refine r_iload_n X 3 7 dJ7_fill_53178_6 rfl rfl rfl ?_
      refine r_icmp_ge (P1 := ¬ nI i < nI N) (P2 := nI i < nI N) X 20 10 (by by_cases hc : nI i < nI N <;> simp [hc]) dJ7_fill_53178_7 rfl rfl (fun hc => ?_) (fun hc => ?_)
      · have e1 : i = N := by
          rcases Nat.lt_or_ge i N with q | q
          · exact absurd (nI_lt q hN) hc
          · omega
        subst e1
        exact r_vret X hr9 hlk9 h dJ7_fill_53178_20
      · have hlt : i < N := by
          rcases Nat.lt_or_ge i N with q | q
          · exact q
          · exact absurd hc (nI_nlt q (by omega))
        refine r_aload_n X 0 11 dJ7_fill_53178_10 rfl rfl rfl ?_
        refine r_iload_n X 2 12 dJ7_fill_53178_11 rfl rfl rfl ?_
        refine r_iload_n X 1 13 dJ7_fill_53178_12 rfl rfl rfl ?_
        refine r_iast (σ' := upr σ k (fillA (i + 1) v (σ k))) X (q0 := q0) (t0 := t0) 14 (hat _) ht (vp_in_nI hlt hN) ?_ dJ7_fill_53178_13 rfl ?_
        · rw [hset, upr_upr, upr_at, show ix (nI i) = i from nI_clamp (by omega), fillA_up]
        · refine r_iinc (d := 1) X 2 17 [(2, .int (nI i + 1)), (0, .ref b), (1, .int v), (3, .int (nI N))] dJ7_fill_53178_14 rfl (by decide) (by decide) rfl rfl ?_
          refine r_goto X 5 dJ7_fill_53178_17 rfl ?_
          rw [nI_1]
          refine r_pick (lv' := [(0, .ref b), (1, .int v), (2, .int (nI (i + 1))), (3, .int (nI N))]) [1, 2, 0, 3] rfl ?_
          exact ih (i + 1) hlt (by omega)
  have k0 := key (N + 1) 0 (Nat.zero_le _) (by omega)
  rw [fillA_0, upr_same] at k0
  exact k0
end FILL
