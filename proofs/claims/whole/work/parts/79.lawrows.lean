section LAWROWS
/-- two sides in one state -/
def mix (σ s : St) : St := fun k => if k < 40 then σ k else s (k - 40)
def wR (cI cZ : ClassId) (a' : Nat → Nat) (τ : St) : va_W := wM cI cZ a' (fun k => τ (40 + k))
def wL (cI cZ cH : ClassId) (a a' : Nat → Nat) (n : Nat) (τ : St) : va_W := wC cI cZ cH a n τ ++ wR cI cZ a' τ
theorem wC_mix (cI cZ cH : ClassId) (a : Nat → Nat) (n : Nat) (σ s : St) : wC cI cZ cH a n (mix σ s) = wC cI cZ cH a n σ := rfl
theorem wR_mix (cI cZ : ClassId) (a' : Nat → Nat) (σ s : St) : wR cI cZ a' (mix σ s) = wM cI cZ a' s := rfl
theorem wL_mix (cI cZ cH : ClassId) (a a' : Nat → Nat) (n : Nat) (σ s : St) : wL cI cZ cH a a' n (mix σ s) = wC cI cZ cH a n σ ++ (wM cI cZ a' s) := rfl
theorem wL_ok (cI cZ cH : ClassId) (a a' : Nat → Nat) (n : Nat) : wOk (wL cI cZ cH a a' n) := by
  intro σ τ
  unfold wL
  rw [List.map_append, List.map_append, wC_ok cI cZ cH a n σ τ]
  rfl
variable {p : Program} {l : Launch} {e : Env} {R : Room} {s : State} {m : MethodId} {args : Array Value} {below : List Frame} {meth : Method} {c : Code} {D : va_G} {A : Nat → Prop} {cells slots : Nat} {Qf : State → Prop} {nL : Nat} {tys : List (ClassId × FieldType)} {cc : ByteArray} {own : String} {pc : Nat} {lv : List (Nat × Value)} {st : List Value} {cI cZ cH : ClassId} {a a' : Nat → Nat} {n : Nat} {σ μ : St}
set_option maxHeartbeats 1000000 in
theorem r_callLC (X : cx p s m args c cc nL own D (wL cI cZ cH a a' n) A tys) {y : MethodName} {bytes : ByteArray} {maxL k index b : Nat} {ret : Option FieldType} {rm : Room} {As rest : List Value} {Q' : Int32 → St → Prop} {q0 ci M : Nat} {fs : List Value} {T : u_T} (q : Nat) (hM : ctI l y bytes maxL ret rm D (wC cI cZ cH a n) tys (.ref b :: As) σ Q') (hlk : Cond.methodLink own index y ∈ lw_G) (L : lkI y bytes maxL ret k) (he : (wC cI cZ cH a n σ)[q0]? = some (b, .inr (ci, fs))) (hc : vwCl[ci]? = some (y.cls, T, M)) (hn : As.length = k) (hst : st = As.reverse ++ .ref b :: rest) (hW : (rest.map fun v => v.category).sum ≤ 8) (hR : lkR R rm maxL cells slots) (hdg : decode cc pc = .ok (.invokevirtual index, 3)) (hq : pc + 3 = q) (kk : ∀ (r : Int32) (σ' : St), Q' r σ' → go p l e R s m args below meth c D (wL cI cZ cH a a' n) A cells slots Qf nL q lv (.int r :: rest) (mix σ' μ)) : go p l e R s m args below meth c D (wL cI cZ cH a a' n) A cells slots Qf nL pc lv st (mix σ μ) := by
  subst hq
  intro H locs ls hP hS hl
  rw [wL_mix] at hP
  have hDm := X.2.2.1 (mix σ μ)
  rw [wL_mix] at hDm
  have hPc := fr_P hP
  have hDc := fr_D hDm
  have hFc : ∀ q, va_A (wC cI cZ cH a n σ) H.size q → A q := fun q h => by
    rcases h with ⟨k, e, h⟩ | h
    · exact hDc.2 k _ h
    · exact X.2.2.2.1 q (Nat.le_trans hS.1 h)
  refine va_calli (va_runV (As := As) (rest := rest) X.1 (hM H.size) ⟨callB_of k X.1.2.2.2.2 (lkG_in L.1) rfl hR.1 hR.2.1 (X.1.2.2.2.2 _ L.1.2.1) (X.1.2.2.2.2 _ hlk) L.1.2.2 hR.2.2.1, X.1.2.2.2.2 _ L.2.1, X.1.2.2.2.2 _ L.2.2⟩ ⟨preW_blind, va_recv X.2.1 hPc hc he, fun U hU hW => ⟨rfl, by rw [hU], by rw [hU]; exact hPc, va_K.moved hW.alike X.2.1, hDc.weaken (fun _ _ _ _ => trivial), nst_warm hW X.2.2.2.2⟩⟩ rfl hn hl.1 hst (lv_room hW) hdg ⟨hR.2.2.2.1, hR.2.2.2.2⟩) hS (fun q _ h => hFc q h) hFc (fun r u t H1 locs1 ht hvm hw hB hz1 hk1 hS1 => ?_)
  obtain ⟨hP1, hK1, hD1⟩ := hB
  rw [ht] at hP1
  exact kk r u hw H1 locs1 ls (fr_join hP hDm hk1 hFc hP1 hD1).1 hS1 hl
set_option maxHeartbeats 1000000 in
theorem r_callLM (X : cx p s m args c cc nL own D (wL cI cZ cH a a' n) A tys) {y : MethodName} {bytes : ByteArray} {maxL k index b : Nat} {ret : Option FieldType} {rm : Room} {As rest : List Value} {Q' : Int32 → St → Prop} {q0 ci M : Nat} {fs : List Value} {T : u_T} (q : Nat) (hM : ctI l y bytes maxL ret rm D (wM cI cZ a') tys (.ref b :: As) μ Q') (hlk : Cond.methodLink own index y ∈ lw_G) (L : lkI y bytes maxL ret k) (he : (wM cI cZ a' μ)[q0]? = some (b, .inr (ci, fs))) (hc : vwCl[ci]? = some (y.cls, T, M)) (hn : As.length = k) (hst : st = As.reverse ++ .ref b :: rest) (hW : (rest.map fun v => v.category).sum ≤ 8) (hR : lkR R rm maxL cells slots) (hdg : decode cc pc = .ok (.invokevirtual index, 3)) (hq : pc + 3 = q) (kk : ∀ (r : Int32) (μ' : St), Q' r μ' → go p l e R s m args below meth c D (wL cI cZ cH a a' n) A cells slots Qf nL q lv (.int r :: rest) (mix σ μ')) : go p l e R s m args below meth c D (wL cI cZ cH a a' n) A cells slots Qf nL pc lv st (mix σ μ) := by
  subst hq
  intro H locs ls hP hS hl
  rw [wL_mix] at hP
  have hDm := X.2.2.1 (mix σ μ)
  rw [wL_mix] at hDm
  have hP2 := va_P_swap hP
  have hD2 := va_D_swap hDm
  have hPc := fr_P hP2
  have hDc := fr_D hD2
  have hFc : ∀ q, va_A (wM cI cZ a' μ) H.size q → A q := fun q h => by
    rcases h with ⟨k, e, h⟩ | h
    · exact hDc.2 k _ h
    · exact X.2.2.2.1 q (Nat.le_trans hS.1 h)
  refine va_calli (va_runV (As := As) (rest := rest) X.1 (hM H.size) ⟨callB_of k X.1.2.2.2.2 (lkG_in L.1) rfl hR.1 hR.2.1 (X.1.2.2.2.2 _ L.1.2.1) (X.1.2.2.2.2 _ hlk) L.1.2.2 hR.2.2.1, X.1.2.2.2.2 _ L.2.1, X.1.2.2.2.2 _ L.2.2⟩ ⟨preW_blind, va_recv X.2.1 hPc hc he, fun U hU hW => ⟨rfl, by rw [hU], by rw [hU]; exact hPc, va_K.moved hW.alike X.2.1, hDc.weaken (fun _ _ _ _ => trivial), nst_warm hW X.2.2.2.2⟩⟩ rfl hn hl.1 hst (lv_room hW) hdg ⟨hR.2.2.2.1, hR.2.2.2.2⟩) hS (fun q _ h => hFc q h) hFc (fun r u t H1 locs1 ht hvm hw hB hz1 hk1 hS1 => ?_)
  obtain ⟨hP1, hK1, hD1⟩ := hB
  rw [ht] at hP1
  have J := (fr_join hP2 hD2 hk1 hFc hP1 hD1).1
  exact kk r u hw H1 locs1 ls (va_P_swap J) hS1 hl
end LAWROWS
