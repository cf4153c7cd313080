section NEWARR
variable {p : Program} {l : Launch} {e : Env} {R : Room} {s : State} {m : MethodId} {args : Array Value} {below : List Frame} {meth : Method} {c : Code} {D : va_G} {w : St → va_W} {A : Nat → Prop} {cells slots : Nat} {Qf : State → Prop} {nL : Nat} {tys : List (ClassId × FieldType)} {cc : ByteArray} {own : String} {pc : Nat} {lv : List (Nat × Value)} {st : List Value} {σ σ' : St}
set_option maxHeartbeats 1000000 in
/-- a new array: its class is the one that is known -/
theorem r_newarr (X : cx p s m args c cc nL own D w A tys) {w2 : Nat → St → va_W} {atype : ArrayType} {ty : FieldType} {S : String} {cA : ClassId} {t0 N' : Nat} {n : Int32} {a0 : vp_A} (q : Nat) (hw2 : ∀ b, wOk (w2 b)) (ht : tys[t0]? = some (cA, ty)) (hta : newarray.typeOf atype = ty) (hS : ∀ (U : State) (k : ClassId), va_RA U k ty → U.vm.findClass S = some k) (harr : Cond.arrayClass (newarray.typeOf atype) ∈ lw_G) (ha : ∀ k : ClassId, vp_cell k a0 = arrV k N' (fun _ => defaultValue ty)) (hn : ¬ n < 0) (hN : n.toNatClampNeg = N') (hby : N' * componentBytes ty ≤ 536870912) (hcl : cells + 1 ≤ R.cells) (hsl : slots + N' ≤ R.slots) (hdg : decode cc pc = .ok (.newarray atype, 2)) (hq : pc + 2 = q) (hset : ∀ b, w σ ++ [(b, .inl (cA, a0))] = w2 b σ') (kk : ∀ b : Nat, cx p s m args c cc nL own D (w2 b) A tys → go p l e R s m args below meth c D (w2 b) A (cells + 1) (slots + N') Qf nL q lv (.ref b :: st) σ') : go p l e R s m args below meth c D w A cells slots Qf nL pc lv (.int n :: st) σ := by
  subst hq
  intro H locs ls hP hSS hl
  refine va_newa X.1.1 X.1.2.1 (X.1.2.2.2.2 _ harr) hta X.2.1 hP (X.2.2.1 σ) hSS X.2.2.2.1 ha hn hN hby hcl hsl hdg (fun b k H1 hK1 hP1 hD1 hS1 => ?_)
  have e1 := hS s k (hK1.2 tys.length (k, ty) (by rw [List.getElem?_append_right (Nat.le_refl _), Nat.sub_self]; rfl)).2
  have e2 := hS s cA (X.2.1.2 t0 (cA, ty) ht).2
  have ek : k = cA := Option.some.inj (e1.symm.trans e2)
  subst ek
  rw [hset b] at hP1 hD1
  exact kk b ⟨X.1, X.2.1, fun τ => va_D_addr (hw2 b σ' τ) hD1, X.2.2.2.1, X.2.2.2.2⟩ H1 locs ls hP1 hS1 hl
end NEWARR
