theorem cl_X5_44 : Cond.classLink RX5 44 RX0 ∈ lw_G := lw_G_t1 (List.mem_of_getElem? (i := 160) rfl) rfl
theorem in_X0 : Cond.instantiable RX0 7 ∈ lw_G := lw_G_t3 (List.mem_of_getElem? (i := 7) rfl) rfl
def aN (a : Nat → Nat) (n q : Nat) : Nat → Nat := fun k => if k = 30 + n then q else a k
theorem wX_new (cI cZ cH : ClassId) (a : Nat → Nat) (n q : Nat) (σ : St) {x1 x2 x3 x4 : Int32} (h0 : σ 31 0 = x1) (h1 : σ 31 1 = x2) (h2 : σ 31 2 = x3) (h3 : σ 31 3 = x4) (h4 : σ 31 4 = -1) (h5 : σ 31 5 = -1) (h6 : σ 31 6 = 0) : (wX cI cZ cH a n q σ).set 28 (a 28, .inl (cH, 60, .inr (.inr (.inr (.inr (va_up (fun i => if i < n then some (a (30 + i)) else none) n (some q))))))) = wC cI cZ cH (aN a n q) (n + 1) (upr σ 30 (nh (σ 30) n x1 x2 x3 x4)) := by
  have e0 : aN a n q 0 = a 0 := if_neg (by omega)
  have e1 : aN a n q 1 = a 1 := if_neg (by omega)
  have e2 : aN a n q 2 = a 2 := if_neg (by omega)
  have e3 : aN a n q 3 = a 3 := if_neg (by omega)
  have e4 : aN a n q 4 = a 4 := if_neg (by omega)
  have e5 : aN a n q 5 = a 5 := if_neg (by omega)
  have e6 : aN a n q 6 = a 6 := if_neg (by omega)
  have e7 : aN a n q 7 = a 7 := if_neg (by omega)
  have e8 : aN a n q 8 = a 8 := if_neg (by omega)
  have e9 : aN a n q 9 = a 9 := if_neg (by omega)
  have e10 : aN a n q 10 = a 10 := if_neg (by omega)
  have e11 : aN a n q 11 = a 11 := if_neg (by omega)
  have e12 : aN a n q 12 = a 12 := if_neg (by omega)
  have e13 : aN a n q 13 = a 13 := if_neg (by omega)
  have e14 : aN a n q 14 = a 14 := if_neg (by omega)
  have e15 : aN a n q 15 = a 15 := if_neg (by omega)
  have e16 : aN a n q 16 = a 16 := if_neg (by omega)
  have e17 : aN a n q 17 = a 17 := if_neg (by omega)
  have e18 : aN a n q 18 = a 18 := if_neg (by omega)
  have e19 : aN a n q 19 = a 19 := if_neg (by omega)
  have e20 : aN a n q 20 = a 20 := if_neg (by omega)
  have e21 : aN a n q 21 = a 21 := if_neg (by omega)
  have e22 : aN a n q 22 = a 22 := if_neg (by omega)
  have e23 : aN a n q 23 = a 23 := if_neg (by omega)
  have e24 : aN a n q 24 = a 24 := if_neg (by omega)
  have e25 : aN a n q 25 = a 25 := if_neg (by omega)
  have e26 : aN a n q 26 = a 26 := if_neg (by omega)
  have e27 : aN a n q 27 = a 27 := if_neg (by omega)
  have e28 : aN a n q 28 = a 28 := if_neg (by omega)
  have e29 : aN a n q 29 = a 29 := if_neg (by omega)
  have ef : (va_up (fun i => if i < n then some (a (30 + i)) else none) n (some q)) = (fun i => if i < n + 1 then some (aN a n q (30 + i)) else none) := by
    funext i
    unfold va_up aN
    by_cases z : i = n
    · subst z; simp
    · by_cases z2 : i < n
      · simp [z, z2, Nat.lt_succ_of_lt z2]
      · have : ¬ i < n + 1 := by omega
        simp [z, z2, this]
  have ep : (List.range (n + 1)).map (plC (aN a n q) (upr σ 30 (nh (σ 30) n x1 x2 x3 x4))) = (List.range n).map (plC a σ) ++ [(q, .inr (0, hfs σ))] := by
    rw [List.range_succ, List.map_append]
    congr 1
    · apply List.map_congr_left
      intro i hi
      have hi := List.mem_range.mp hi
      unfold plC
      rw [upr_at, show aN a n q (30 + i) = a (30 + i) from if_neg (by omega)]
      have w : ∀ f, f < 7 → nh (σ 30) n x1 x2 x3 x4 (7 * i + f) = σ 30 (7 * i + f) := fun f hf => nh_o _ _ _ _ _ _ (by omega)
      have w0 := w 0 (by decide)
      rw [Nat.add_zero] at w0
      rw [w0, w 1 (by decide), w 2 (by decide), w 3 (by decide), w 4 (by decide), w 5 (by decide), w 6 (by decide)]
    · simp only [List.map_cons, List.map_nil, plC, hfs]
      rw [upr_at, show aN a n q (30 + n) = q from if_pos rfl, h0, h1, h2, h3, h4, h5, h6]
      unfold nh
      simp [upd]
  rw [ef]
  unfold wX wC
  rw [ep]
  simp only [e0, e1, e2, e3, e4, e5, e6, e7, e8, e9, e10, e11, e12, e13, e14, e15, e16, e17, e18, e19, e20, e21, e22, e23, e24, e25, e26, e27, e28, e29]
  rw [← List.append_assoc]
  rfl
section WALK
variable {p : Program} {l : Launch} {e : Env} {s : State} {m : MethodId} {args : Array Value} {below : List Frame} {meth : Method} {c : Code} {D : va_G} {A : Nat → Prop} {cI cZ cH : ClassId} {a : Nat → Nat} {n : Nat}
variable {R : Room} {Qf : State → Prop} {nL : Nat} {cc : ByteArray} {own : String} {pc : Nat} {lv : List (Nat × Value)} {st : List Value} {σ : St}
set_option maxHeartbeats 1000000 in
theorem r_newX (X : cx p s m args c cc nL RX5 D (wC cI cZ cH a n) A (tyW cI cZ cH)) (q : Nat) (hcells : 0 + 1 ≤ R.cells) (hslots : 0 + 7 ≤ R.slots) (hdg : decode cc pc = .ok (.new 44, 3)) (hq : pc + 3 = q) (kk : ∀ b : Nat, cx p s m args c cc nL RX5 D (wX cI cZ cH a n b) A (tyW cI cZ cH) → go p l e R s m args below meth c D (wX cI cZ cH a n b) A 1 7 Qf nL q lv (.ref b :: st) (upr σ 31 (fun _ => 0))) : go p l e R s m args below meth c D (wC cI cZ cH a n) A 0 0 Qf nL pc lv st σ := by
  subst hq
  intro H locs ls hP hS hl
  refine va_new (ci := 0) (fs := [.int 0, .int 0, .int 0, .int 0, .int 0, .int 0, .int 0]) (C := RX0) (T := TX0) (N := 7) X.1.1 X.1.2.1 X.1.2.2.2.2 inX0 tyX0 tyX0_ok X.1.2.2.2.1 (X.1.2.2.2.2 _ cl_X5_44) (X.1.2.2.2.2 _ in_X0) (X.1.2.2.2.2 _ ini_X0) X.2.1 hP (X.2.2.1 σ) hS X.2.2.2.1 rfl (fun j hj => by rcases (show j = 0 ∨ j = 1 ∨ j = 2 ∨ j = 3 ∨ j = 4 ∨ j = 5 ∨ j = 6 by omega) with rfl | rfl | rfl | rfl | rfl | rfl | rfl <;> rfl) hcells hslots hdg (fun b H1 hP1 hD1 hS1 => ?_)
  exact kk b ⟨X.1, X.2.1, fun τ => va_D_addr (wX_ok cI cZ cH a n b (upr σ 31 (fun _ => 0)) τ) hD1, X.2.2.2.1, X.2.2.2.2⟩ H1 locs ls hP1 hS1 hl
set_option maxHeartbeats 1000000 in
theorem r_callIN {w : St → va_W} {tys : List (ClassId × FieldType)} {cells slots : Nat} (X : cx p s m args c cc nL own D w A tys) {host : String} {y : MethodName} {bytes : ByteArray} {maxL k index b : Nat} {rm : Room} {As rest : List Value} {Q' : St → Prop} (q : Nat) (hM : ctV l y bytes maxL none rm D w tys (.ref b :: As) σ Q') (hlk : Cond.methodLinkNest own index y host ∈ lw_N) (L : lkG y bytes maxL none k) (him : Cond.instanceMethod y ∈ lw_G) (hnm : y.name = "<init>") (hn : As.length = k) (hst : st = As.reverse ++ .ref b :: rest) (hW : (rest.map fun v => v.category).sum ≤ 8) (hR : lkR R rm maxL cells slots) (hdg : decode cc pc = .ok (.invokespecial index, 3)) (hq : pc + 3 = q) (kk : ∀ (σ' : St), Q' σ' → go p l e R s m args below meth c D w A cells slots Qf nL q lv rest σ') : go p l e R s m args below meth c D w A cells slots Qf nL pc lv st σ := by
  subst hq
  intro H locs ls hP hS hl
  have hFc := go_free (σ := σ) X hS
  refine va_callv (va_runIN (As := As) (rest := rest) X.1 (hM H.size) ⟨va_cnB k X.1.2.2.2.2 (lkG_in L) rfl hR.1 hR.2.1 (X.2.2.2.2 _ hlk) (X.1.2.2.2.2 _ L.2.1) L.2.2 hR.2.2.1, hnm, X.1.2.2.2.2 _ him⟩ ⟨preW_blind, fun U hU hW => ⟨rfl, by rw [hU], by rw [hU]; exact hP, va_K.moved hW.alike X.2.1, (X.2.2.1 σ).weaken (fun _ _ _ _ => trivial), nst_warm hW X.2.2.2.2⟩⟩ rfl hn hl.1 hst (lv_room hW) hdg ⟨hR.2.2.2.1, hR.2.2.2.2⟩) hS (fun q _ h => hFc q h) hFc (fun u t H1 locs1 ht hvm hw hB hz1 hk1 hS1 => ?_)
  obtain ⟨hP1, hK1, hD1⟩ := hB
  rw [ht] at hP1
  exact kk u hw H1 locs1 ls hP1 hS1 hl
set_option maxHeartbeats 1000000 in
theorem r_astX {b cells slots : Nat} (X : cx p s m args c cc nL RX5 D (wX cI cZ cH a n b) A (tyW cI cZ cH)) {x1 x2 x3 x4 : Int32} (hn : n < 60) (h0 : σ 31 0 = x1) (h1 : σ 31 1 = x2) (h2 : σ 31 2 = x3) (h3 : σ 31 3 = x4) (h4 : σ 31 4 = -1) (h5 : σ 31 5 = -1) (h6 : σ 31 6 = 0) (q : Nat) (hdg : decode cc pc = .ok (.aastore, 1)) (hq : pc + 1 = q) (kk : cx p s m args c cc nL RX5 D (wC cI cZ cH (aN a n b) (n + 1)) A (tyW cI cZ cH) → go p l e R s m args below meth c D (wC cI cZ cH (aN a n b) (n + 1)) A cells slots Qf nL q lv st (upr σ 30 (nh (σ 30) n x1 x2 x3 x4))) : go p l e R s m args below meth c D (wX cI cZ cH a n b) A cells slots Qf nL pc lv (.ref b :: .int (nI n) :: .ref (a 28) :: st) σ := by
  subst hq
  intro H locs ls hP hS hl
  refine va_astq X.1.1 X.1.2.1 X.2.1 hP (X.2.2.1 σ) hS 28 2 (30 + n) 0 (r := (RX0, TX0, 7)) (show (wX cI cZ cH a n b σ)[28]? = some (a 28, .inl (cH, 60, .inr (.inr (.inr (.inr (fun i => if i < n then some (a (30 + i)) else none)))))) from rfl) rfl (wX_at cI cZ cH a n b σ) rfl (vin_n hn (by decide)) hdg (fun H1 locs1 hP1 hD1 hS1 => ?_)
  rw [show (nI n).toNatClampNeg = n from ix_nI (by omega), wX_new cI cZ cH a n b σ h0 h1 h2 h3 h4 h5 h6] at hP1 hD1
  exact kk ⟨X.1, X.2.1, fun τ => va_D_addr (wC_ok cI cZ cH (aN a n b) (n + 1) _ τ) hD1, X.2.2.2.1, X.2.2.2.2⟩ H1 locs1 ls hP1 hS1 hl
end WALK
