theorem and31 (x : Int32) : ∃ k, k < 32 ∧ x &&& 31 = nI k := by
  refine ⟨(x &&& 31).toBitVec.toNat, ?_, ?_⟩
  · rw [Int32.toBitVec_and, BitVec.toNat_and]
    exact Nat.lt_of_le_of_lt Nat.and_le_right (by decide)
  · apply Int32.toBitVec_inj.mp
    show (x &&& 31).toBitVec = BitVec.ofNat 32 (x &&& 31).toBitVec.toNat
    rw [BitVec.ofNat_toNat, BitVec.setWidth_eq]
theorem len_gt {L i : Nat} (hL : L ≤ 4096) (hi : i ≤ 4096) : (Int32.ofNat L - 8 < nI i) ↔ L < i + 8 := by
  by_cases h : 8 ≤ L
  · obtain ⟨j, rfl⟩ : ∃ j, L = j + 8 := ⟨L - 8, by omega⟩
    have e : Int32.ofNat (j + 8) - 8 = nI j := by
      have e1 : Int32.ofNat (j + 8) = nI j + 8 := (nI_add j 8).symm
      rw [e1, Int32.add_sub_cancel]
    rw [e, nI_ltI (by omega) (by omega)]
    omega
  · have hz : Int32.ofNat L - 8 < 0 := by
      rcases (show L = 0 ∨ L = 1 ∨ L = 2 ∨ L = 3 ∨ L = 4 ∨ L = 5 ∨ L = 6 ∨ L = 7 by omega) with rfl | rfl | rfl | rfl | rfl | rfl | rfl | rfl <;> decide
    have h0 : (0 : Int32) ≤ nI i := nI_pos' (by omega)
    constructor
    · intro _; omega
    · intro _
      exact Int32.lt_of_lt_of_le hz h0
theorem RI_n {n : Nat} {σ s : St} (h : RI n σ s) : n ≤ 60 := h.2.2.2.2.2.2.1
section LAWBASE
variable {p : Program} {l : Launch} {e : Env} {R : Room} {s : State} {m : MethodId} {args : Array Value} {below : List Frame} {meth : Method} {c : Code} {D : va_G} {w : St → va_W} {A : Nat → Prop} {cells slots : Nat} {Qf : State → Prop} {nL : Nat} {tys : List (ClassId × FieldType)} {cc : ByteArray} {own : String} {pc : Nat} {lv : List (Nat × Value)} {st : List Value} {σ : St} {b L i : Nat} {xs : Nat → Int32}
theorem r_sld (X : cx p s m args c cc nL own D w A tys) (hX : va_X b L xs s s.heap) (hbl : b < s.heap.size) (hbA : ¬ A b) {j : Int32} (q : Nat) (hin : vp_in j L) (hdg : decode cc pc = .ok (.iaload, 1)) (hq : pc + 1 = q) (kk : go p l e R s m args below meth c D w A cells slots Qf nL q lv (.int (xs (ix j)) :: st) σ) : go p l e R s m args below meth c D w A cells slots Qf nL pc lv (.int j :: .ref b :: st) σ := by
  subst hq; exact fun H locs ls hP hS hl => va_sld X.1.1 X.1.2.1 hX hbl hbA hS hin hdg (kk H locs ls hP hS hl)
theorem r_slen (X : cx p s m args c cc nL own D w A tys) (hX : va_X b L xs s s.heap) (hbl : b < s.heap.size) (hbA : ¬ A b) (q : Nat) (hdg : decode cc pc = .ok (.arraylength, 1)) (hq : pc + 1 = q) (kk : go p l e R s m args below meth c D w A cells slots Qf nL q lv (.int (Int32.ofNat L) :: st) σ) : go p l e R s m args below meth c D w A cells slots Qf nL pc lv (.ref b :: st) σ := by
  subst hq; exact fun H locs ls hP hS hl => va_slen X.1.1 X.1.2.1 hX hbl hbA hS hdg (kk H locs ls hP hS hl)
/-- a number of the script, by a small place -/
theorem r_arg (X : cx p s m args c cc nL own D w A tys) (hX : va_X b L xs s s.heap) (hbl : b < s.heap.size) (hbA : ¬ A b) (hL : L ≤ 4096) (j q : Nat) (hj : i + j < L) (h0 : lv[0]? = some (0, .ref b)) (h3 : lv[3]? = some (3, .int (nI i))) {k : Int} (hk : Int32.ofInt k = nI j) (d0 : decode cc pc = .ok (.aload_n 0, 1)) (d1 : decode cc (pc + 1) = .ok (.iload_n 3, 1)) (d2 : decode cc (pc + 2) = .ok (.iconst k, 1)) (d3 : decode cc (pc + 3) = .ok (.iadd, 1)) (d4 : decode cc (pc + 4) = .ok (.iaload, 1)) (hq : pc + 5 = q) (kk : go p l e R s m args below meth c D w A cells slots Qf nL q lv (.int (xs (i + j)) :: st) σ) : go p l e R s m args below meth c D w A cells slots Qf nL pc lv st σ := by
  refine r_aload_n X 0 (pc + 1) d0 rfl h0 rfl ?_
  refine r_iload_n X 3 (pc + 2) d1 rfl h3 rfl ?_
  refine r_iconst (v := nI j) X (pc + 3) d2 hk rfl ?_
  refine r_iadd X (pc + 4) d3 rfl ?_
  rw [nI_add]
  refine r_sld X hX hbl hbA q (vp_in_nI hj (by omega)) d4 hq ?_
  rw [show ix (nI (i + j)) = i + j from nI_clamp (by omega)]
  exact kk
theorem r_argB (X : cx p s m args c cc nL own D w A tys) (hX : va_X b L xs s s.heap) (hbl : b < s.heap.size) (hbA : ¬ A b) (hL : L ≤ 4096) (j q : Nat) (hj : i + j < L) (h0 : lv[0]? = some (0, .ref b)) (h3 : lv[3]? = some (3, .int (nI i))) {k : Int} (hk : (Int8.ofInt k).toInt32 = nI j) (d0 : decode cc pc = .ok (.aload_n 0, 1)) (d1 : decode cc (pc + 1) = .ok (.iload_n 3, 1)) (d2 : decode cc (pc + 2) = .ok (.bipush k, 2)) (d3 : decode cc (pc + 4) = .ok (.iadd, 1)) (d4 : decode cc (pc + 5) = .ok (.iaload, 1)) (hq : pc + 6 = q) (kk : go p l e R s m args below meth c D w A cells slots Qf nL q lv (.int (xs (i + j)) :: st) σ) : go p l e R s m args below meth c D w A cells slots Qf nL pc lv st σ := by
  refine r_aload_n X 0 (pc + 1) d0 rfl h0 rfl ?_
  refine r_iload_n X 3 (pc + 2) d1 rfl h3 rfl ?_
  refine r_bipush (v := nI j) X (pc + 4) d2 hk rfl ?_
  refine r_iadd X (pc + 5) d3 rfl ?_
  rw [nI_add]
  refine r_sld X hX hbl hbA q (vp_in_nI hj (by omega)) d4 hq ?_
  rw [show ix (nI (i + j)) = i + j from nI_clamp (by omega)]
  exact kk
end LAWBASE
