section LAWNEW
variable {p : Program} {l : Launch} {e : Env} {R : Room} {s : State} {m : MethodId} {args : Array Value} {below : List Frame} {meth : Method} {c : Code} {D : va_G} {A : Nat → Prop} {cells slots : Nat} {Qf : State → Prop} {nL : Nat} {cc : ByteArray} {own : String} {pc : Nat} {lv : List (Nat × Value)} {st : List Value} {cI cZ cH : ClassId} {a a' : Nat → Nat} {n : Nat} {σ μ : St}
set_option maxHeartbeats 1000000 in
theorem r_callLH (X : cx p s m args c cc nL own D (wL cI cZ cH a a' n) A (tyW cI cZ cH)) {index : Nat} {rest : List Value} {x1 x2 x3 x4 : Int32} (q : Nat) (hn9 : n < 60) (h7 : σ 0 7 = nI n) (h : wp_X5_handing σ x1 x2 x3 x4 (fun _ _ => False) (fun τ => τ = σ)) (hlk : Cond.methodLink own index yX5_handing ∈ lw_G) (hst : st = .int x4 :: .int x3 :: .int x2 :: .int x1 :: .ref (a 0) :: rest) (hW : (rest.map fun v => v.category).sum ≤ 8) (hR : rm_X5_handing1.frames + 1 ≤ R.frames ∧ 8 + (5 + 11) + rm_X5_handing1.locals ≤ R.locals) (hcl : cells + 1 ≤ R.cells) (hsl : slots + 7 ≤ R.slots) (hdg : decode cc pc = .ok (.invokevirtual index, 3)) (hq : pc + 3 = q) (kk : ∀ b : Nat, cx p s m args c cc nL own D (wL cI cZ cH (aN a n b) a' (n + 1)) A (tyW cI cZ cH) → go p l e R s m args below meth c D (wL cI cZ cH (aN a n b) a' (n + 1)) A (cells + 1) (slots + 7) Qf nL q lv (.int (nI n) :: rest) (mix (newH σ n x1 x2 x3 x4) μ)) : go p l e R s m args below meth c D (wL cI cZ cH a a' n) A cells slots Qf nL pc lv st (mix σ μ) := by
  subst hq
  intro H locs ls hP hS hl
  rw [wL_mix] at hP
  have hDm := X.2.2.1 (mix σ μ)
  rw [wL_mix] at hDm
  have hPc := fr_P hP
  have hDc := fr_D hDm
  have hFc : ∀ q, va_A (wC cI cZ cH a n σ) H.size q → A q := fun q h => by
    rcases h with ⟨k, e, h⟩ | h
    · exact hDc.2 k _ h
    · exact X.2.2.2.1 q (Nat.le_trans hS.1 h)
  have L := lk_X5_handing
  refine va_calli (va_runV (As := [.int x1, .int x2, .int x3, .int x4]) (rest := rest) X.1 (c_X5_handing_yes hn9 h7 h H.size) ⟨callB_of 4 X.1.2.2.2.2 (lkG_in L.1) rfl rfl rfl (X.1.2.2.2.2 _ L.1.2.1) (X.1.2.2.2.2 _ hlk) L.1.2.2 hR, X.1.2.2.2.2 _ L.2.1, X.1.2.2.2.2 _ L.2.2⟩ ⟨preW_blind, va_recv X.2.1 hPc (ci := 5) rfl wC_at_0, fun U hU hW => ⟨rfl, by rw [hU], by rw [hU]; exact hPc, va_K.moved hW.alike X.2.1, hDc.weaken (fun _ _ _ _ => trivial), nst_warm hW X.2.2.2.2⟩⟩ rfl rfl hl.1 hst (lv_room hW) hdg ⟨hcl, hsl⟩) hS (fun q _ h => hFc q h) hFc (fun r b t H1 locs1 ht hvm hw hB hz1 hk1 hS1 => ?_)
  obtain ⟨hP1, hK1, hD1⟩ := hB
  rw [ht] at hP1
  subst hw
  obtain ⟨J1, J2⟩ := fr_join hP hDm hk1 hFc hP1 hD1
  exact kk b ⟨X.1, X.2.1, fun τ => va_D_addr (wL_ok cI cZ cH (aN a n b) a' (n + 1) (mix (newH σ n x1 x2 x3 x4) μ) τ) J2, X.2.2.2.1, X.2.2.2.2⟩ H1 locs1 ls J1 hS1 hl
end LAWNEW
