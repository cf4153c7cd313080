section BITS
theorem i_ext {x y : Int32} (h : x.toBitVec = y.toBitVec) : x = y := by
  cases x; cases y
  simp only [Int32.toBitVec] at h
  rename_i a b
  cases a; cases b
  simp only at h
  subst h
  rfl
theorem sh1 : ∀ l, l < 32 → ((1 : Int32) <<< (nI l &&& 31)).toBitVec = BitVec.twoPow 32 l := by decide +kernel
theorem shA : ∀ l, l < 32 → (nI l &&& 31) = nI l := by decide +kernel
theorem or_xor {x m : Int32} (h : x &&& m = 0) : x ||| m = x ^^^ m := by
  apply i_ext
  have h1 : x.toBitVec &&& m.toBitVec = 0#32 := by
    have := congrArg Int32.toBitVec h
    simpa using this
  simp only [Int32.toBitVec_or, Int32.toBitVec_xor]
  apply BitVec.eq_of_getLsbD_eq
  intro i hi
  have h2 := congrArg (fun v => BitVec.getLsbD v i) h1
  simp only [BitVec.getLsbD_and, BitVec.getLsbD_zero] at h2
  simp only [BitVec.getLsbD_or, BitVec.getLsbD_xor]
  cases hx : x.toBitVec.getLsbD i <;> cases hm : m.toBitVec.getLsbD i <;> simp_all
theorem andn_xor {x m : Int32} (h : x &&& m = m) : x &&& (m ^^^ (-1)) = x ^^^ m := by
  apply i_ext
  have h1 : x.toBitVec &&& m.toBitVec = m.toBitVec := by
    have := congrArg Int32.toBitVec h
    simpa using this
  have hm1 : (-1 : Int32).toBitVec = BitVec.allOnes 32 := by decide
  simp only [Int32.toBitVec_and, Int32.toBitVec_xor, hm1]
  apply BitVec.eq_of_getLsbD_eq
  intro i hi
  have h2 := congrArg (fun v => BitVec.getLsbD v i) h1
  simp only [BitVec.getLsbD_and] at h2
  simp only [BitVec.getLsbD_and, BitVec.getLsbD_xor, BitVec.getLsbD_allOnes, hi, decide_true]
  cases hx : x.toBitVec.getLsbD i <;> cases hm : m.toBitVec.getLsbD i <;> simp_all
/-- one bit: asked with a mask -/
theorem bit_mask {x : Int32} {l : Nat} (hl : l < 32) : (x &&& ((1 : Int32) <<< (nI l &&& 31)) = 0 ↔ x.toBitVec.getLsbD l = false) ∧ (x.toBitVec.getLsbD l = true → x &&& ((1 : Int32) <<< (nI l &&& 31)) = ((1 : Int32) <<< (nI l &&& 31))) := by
  have hs := sh1 l hl
  have key : (x &&& ((1 : Int32) <<< (nI l &&& 31))).toBitVec = x.toBitVec &&& BitVec.twoPow 32 l := by
    rw [Int32.toBitVec_and, hs]
  constructor
  · constructor
    · intro h
      have h1 := congrArg Int32.toBitVec h
      rw [key] at h1
      have h2 := congrArg (fun v => BitVec.getLsbD v l) h1
      simp only [BitVec.getLsbD_and, BitVec.getLsbD_twoPow, hl, decide_true] at h2
      simpa using h2
    · intro h
      apply i_ext
      rw [key]
      apply BitVec.eq_of_getLsbD_eq
      intro i hi
      simp only [BitVec.getLsbD_and, BitVec.getLsbD_twoPow]
      by_cases e : l = i
      · subst e; simp [h]
      · simp [e]
  · intro h
    apply i_ext
    rw [key, hs]
    apply BitVec.eq_of_getLsbD_eq
    intro i hi
    simp only [BitVec.getLsbD_and, BitVec.getLsbD_twoPow]
    by_cases e : l = i
    · subst e; simp [h]
    · simp [e]
/-- one bit: asked with a shift -/
theorem bit_shr {x : Int32} {l : Nat} (hl : l < 32) : (x >>> (nI l &&& 31)) &&& 1 = if x.toBitVec.getLsbD l then 1 else 0 := by
  apply i_ext
  have hk : ((nI l &&& 31).toBitVec.smod 32).toNat = l := by
    have : ∀ l, l < 32 → ((nI l &&& 31).toBitVec.smod 32).toNat = l := by decide +kernel
    exact this l hl
  have e1 : (x >>> (nI l &&& 31)).toBitVec = x.toBitVec.sshiftRight l := by
    rw [Int32.toBitVec_shiftRight]
    show x.toBitVec.sshiftRight ((nI l &&& 31).toBitVec.smod 32).toNat = _
    rw [hk]
  have e2 : (1 : Int32).toBitVec = 1#32 := rfl
  rw [Int32.toBitVec_and, e1, e2]
  apply BitVec.eq_of_getLsbD_eq
  intro i hi
  simp only [BitVec.getLsbD_and, BitVec.getLsbD_sshiftRight, BitVec.getLsbD_one]
  by_cases h : x.toBitVec.getLsbD l = true
  · rw [if_pos h]
    by_cases e : i = 0
    · subst e; simp [h, hl]
    · simp [e]
  · rw [if_neg h]
    have h' : x.toBitVec.getLsbD l = false := by simpa using h
    by_cases e : i = 0
    · subst e; simp [h', hl]; rw [← BitVec.getLsbD_eq_getElem]; exact h'
    · simp [e]
end BITS
