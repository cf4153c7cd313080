section BITS2
theorem and16 (x a y b : Nat) (hx : x < 16) (hy : y < 16) : (x + 16 * a) &&& (y + 16 * b) = (x &&& y) + 16 * (a &&& b) := by
  have h1 : ((x + 16 * a) &&& (y + 16 * b)) % 2 ^ 4 = x &&& y := by
    rw [Nat.and_mod_two_pow]
    congr 1 <;> omega
  have h2 : ((x + 16 * a) &&& (y + 16 * b)) / 2 ^ 4 = a &&& b := by
    rw [Nat.and_div_two_pow]
    congr 1 <;> omega
  omega
theorem and256 (x a y b : Nat) (hx : x < 256) (hy : y < 256) : (x + 256 * a) &&& (y + 256 * b) = (x &&& y) + 256 * (a &&& b) := by
  have h1 : ((x + 256 * a) &&& (y + 256 * b)) % 2 ^ 8 = x &&& y := by
    rw [Nat.and_mod_two_pow]
    congr 1 <;> omega
  have h2 : ((x + 256 * a) &&& (y + 256 * b)) / 2 ^ 8 = a &&& b := by
    rw [Nat.and_div_two_pow]
    congr 1 <;> omega
  omega
def msk (v : Nat) : Nat → Nat
  | 0 => 0
  | d + 1 => v + 16 * msk v d
def mapD (f : Nat → Nat) : Nat → Nat → Nat
  | 0, _ => 0
  | d + 1, M => f (M % 16) + 16 * mapD f d (M / 16)
def gN (h : Nat) : Nat := h - ((h / 2) &&& 5)
def pN (h : Nat) : Nat := (gN h &&& 3) + ((gN h / 4) &&& 3)
theorem g_facts : ∀ h, h < 16 → ((h / 2) &&& 5) ≤ h ∧ gN h < 16 ∧ pN h ≤ 4 ∧ pN h = h % 2 + h / 2 % 2 + h / 4 % 2 + h / 8 % 2 := by decide +kernel
theorem f5 : ∀ h, h < 8 → ∀ e, e < 2 → (h + 8 * e) &&& 5 = h &&& 5 := by decide +kernel
theorem f3 : ∀ h, h < 4 → ∀ e, e < 4 → (h + 4 * e) &&& 3 = h &&& 3 := by decide +kernel
theorem step1 : ∀ (d M : Nat), M < 16 ^ d → ((M / 2) &&& msk 5 d) ≤ M ∧ M - ((M / 2) &&& msk 5 d) = mapD gN d M := by
  intro d
  induction d with
  | zero => intro M h; simp [msk, mapD] at h ⊢; omega
  | succ d ih =>
    intro M h
    rw [Nat.pow_succ] at h
    obtain ⟨i1, i2⟩ := ih (M / 16) (by omega)
    have e : M / 2 = (M % 16 / 2 + 8 * (M / 16 % 2)) + 16 * (M / 16 / 2) := by omega
    simp only [msk, mapD]
    rw [e, and16 _ _ _ _ (by omega) (by decide), f5 _ (by omega) _ (by omega), ← i2]
    have := (g_facts (M % 16) (by omega)).1
    unfold gN
    omega
theorem step2 : ∀ (d M : Nat), (mapD gN d M &&& msk 3 d) + ((mapD gN d M / 4) &&& msk 3 d) = mapD pN d M := by
  intro d
  induction d with
  | zero => intro M; simp [msk, mapD]
  | succ d ih =>
    intro M
    have i1 := ih (M / 16)
    have hg := (g_facts (M % 16) (by omega)).2.1
    simp only [msk, mapD]
    have e : (gN (M % 16) + 16 * mapD gN d (M / 16)) / 4 = (gN (M % 16) / 4 + 4 * (mapD gN d (M / 16) % 4)) + 16 * (mapD gN d (M / 16) / 4) := by omega
    rw [and16 _ _ _ _ hg (by decide), e, and16 _ _ _ _ (by omega) (by decide), f3 _ (by omega) _ (by omega)]
    have ep : pN (M % 16) = (gN (M % 16) &&& 3) + ((gN (M % 16) / 4) &&& 3) := rfl
    omega
/-- the number of bits, of the lowest n -/
def sN : Nat → Nat → Nat
  | 0, _ => 0
  | n + 1, M => M % 2 + sN n (M / 2)
theorem sN_snoc : ∀ (n M : Nat), sN (n + 1) M = sN n M + M / 2 ^ n % 2 := by
  intro n
  induction n with
  | zero => intro M; simp [sN]
  | succ n ih =>
    intro M
    have h := ih (M / 2)
    rw [show sN (n + 1 + 1) M = M % 2 + sN (n + 1) (M / 2) from rfl, h, show sN (n + 1) M = M % 2 + sN n (M / 2) from rfl, Nat.div_div_eq_div_mul, Nat.pow_succ, Nat.mul_comm 2 (2 ^ n)]
    omega
def sD (f : Nat → Nat) : Nat → Nat → Nat
  | 0, _ => 0
  | d + 1, M => f (M % 16) + sD f d (M / 16)
theorem sD_sN : ∀ (d M : Nat), sD pN d M = sN (4 * d) M := by
  intro d
  induction d with
  | zero => intro M; rfl
  | succ d ih =>
    intro M
    have h := ih (M / 16)
    rw [show 4 * (d + 1) = 4 * d + 1 + 1 + 1 + 1 by omega]
    simp only [sD, sN]
    rw [h, (g_facts (M % 16) (by omega)).2.2.2, show M / 2 / 2 / 2 / 2 = M / 16 by omega]
    omega
theorem sN_le : ∀ (n M : Nat), sN n M ≤ n := by
  intro n
  induction n with
  | zero => intro M; exact Nat.le_refl _
  | succ n ih => intro M; simp only [sN]; have := ih (M / 2); omega
theorem fin4 (b0 b1 b2 b3 : Nat) (h0 : b0 ≤ 8) (h1 : b1 ≤ 8) (h2 : b2 ≤ 8) (h3 : b3 ≤ 8) : ((b0 + 256 * (b1 + 256 * (b2 + 256 * b3)) + (b0 + 256 * (b1 + 256 * (b2 + 256 * b3))) / 256) + (b0 + 256 * (b1 + 256 * (b2 + 256 * b3)) + (b0 + 256 * (b1 + 256 * (b2 + 256 * b3))) / 256) / 65536) % 64 = b0 + b1 + b2 + b3 := by
  have e1 : (b0 + 256 * (b1 + 256 * (b2 + 256 * b3))) / 256 = b1 + 256 * (b2 + 256 * b3) := by omega
  rw [e1]
  have e2 : b0 + 256 * (b1 + 256 * (b2 + 256 * b3)) + (b1 + 256 * (b2 + 256 * b3)) = (b0 + b1) + 256 * (b1 + b2) + 65536 * ((b2 + b3) + 256 * b3) := by omega
  rw [e2]
  have e3 : ((b0 + b1) + 256 * (b1 + b2) + 65536 * ((b2 + b3) + 256 * b3)) / 65536 = (b2 + b3) + 256 * b3 := by omega
  rw [e3]
  omega
theorem swar (N : Nat) (h : N < 2 ^ 31) : ∃ z1 z2 z3 : Nat, ((N / 2) &&& 1431655765) ≤ N ∧ z1 = N - ((N / 2) &&& 1431655765) ∧ z1 < 2 ^ 32 ∧ z2 = (z1 &&& 858993459) + ((z1 / 4) &&& 858993459) ∧ z2 < 2 ^ 31 ∧ z3 = (z2 + z2 / 16) &&& 252645135 ∧ z3 + z3 / 256 < 2 ^ 31 ∧ z3 < 2 ^ 31 ∧ ((z3 + z3 / 256) + (z3 + z3 / 256) / 65536) &&& 63 = sN 31 N := by
  have m5 : msk 5 8 = 1431655765 := rfl
  have m3 : msk 3 8 = 858993459 := rfl
  obtain ⟨s1, s2⟩ := step1 8 N (by have : (16 : Nat) ^ 8 = 2 ^ 32 := by decide
                                   rw [this]; omega)
  have s3 := step2 8 N
  have hs := sD_sN 8 N
  rw [m5] at s1 s2
  rw [m3] at s3
  have p : ∀ x, pN (x % 16) ≤ 4 := fun x => (g_facts (x % 16) (by omega)).2.2.1
  have g : ∀ x, gN (x % 16) < 16 := fun x => (g_facts (x % 16) (by omega)).2.1
  have hz1 : mapD gN 8 N < 2 ^ 32 := by
    simp only [mapD]
    have g0 := g N
    have g1 := g (N / 16)
    have g2 := g (N / 16 / 16)
    have g3 := g (N / 16 / 16 / 16)
    have g4 := g (N / 16 / 16 / 16 / 16)
    have g5 := g (N / 16 / 16 / 16 / 16 / 16)
    have g6 := g (N / 16 / 16 / 16 / 16 / 16 / 16)
    have g7 := g (N / 16 / 16 / 16 / 16 / 16 / 16 / 16)
    omega
  refine ⟨mapD gN 8 N, mapD pN 8 N, (mapD pN 8 N + mapD pN 8 N / 16) &&& 252645135, s1, s2.symm, hz1, s3.symm, ?_⟩
  simp only [mapD, sD] at hs ⊢
  have p0 := p N
  have p1 := p (N / 16)
  have p2 := p (N / 16 / 16)
  have p3 := p (N / 16 / 16 / 16)
  have p4 := p (N / 16 / 16 / 16 / 16)
  have p5 := p (N / 16 / 16 / 16 / 16 / 16)
  have p6 := p (N / 16 / 16 / 16 / 16 / 16 / 16)
  have p7 := p (N / 16 / 16 / 16 / 16 / 16 / 16 / 16)
  generalize pN (N % 16) = a0 at *
  generalize pN (N / 16 % 16) = a1 at *
  generalize pN (N / 16 / 16 % 16) = a2 at *
  generalize pN (N / 16 / 16 / 16 % 16) = a3 at *
  generalize pN (N / 16 / 16 / 16 / 16 % 16) = a4 at *
  generalize pN (N / 16 / 16 / 16 / 16 / 16 % 16) = a5 at *
  generalize pN (N / 16 / 16 / 16 / 16 / 16 / 16 % 16) = a6 at *
  generalize pN (N / 16 / 16 / 16 / 16 / 16 / 16 / 16 % 16) = a7 at *
  have hW : (a0 + 16 * (a1 + 16 * (a2 + 16 * (a3 + 16 * (a4 + 16 * (a5 + 16 * (a6 + 16 * (a7 + 16 * 0)))))))) + (a0 + 16 * (a1 + 16 * (a2 + 16 * (a3 + 16 * (a4 + 16 * (a5 + 16 * (a6 + 16 * (a7 + 16 * 0)))))))) / 16 = ((a0 + a1) + 16 * (a1 + a2)) + 256 * (((a2 + a3) + 16 * (a3 + a4)) + 256 * (((a4 + a5) + 16 * (a5 + a6)) + 256 * ((a6 + a7) + 16 * a7))) := by omega
  have l : ∀ x y : Nat, x < 16 → y < 16 → (x + 16 * y) &&& 15 = x := by
    intro x y hx hy
    have : (15 : Nat) = 2 ^ 4 - 1 := by decide
    rw [this, Nat.and_two_pow_sub_one_eq_mod]
    omega
  have hm : (252645135 : Nat) = 15 + 256 * (15 + 256 * (15 + 256 * 15)) := by decide
  have hz3 : ((a0 + 16 * (a1 + 16 * (a2 + 16 * (a3 + 16 * (a4 + 16 * (a5 + 16 * (a6 + 16 * (a7 + 16 * 0)))))))) + (a0 + 16 * (a1 + 16 * (a2 + 16 * (a3 + 16 * (a4 + 16 * (a5 + 16 * (a6 + 16 * (a7 + 16 * 0)))))))) / 16) &&& 252645135 = (a0 + a1) + 256 * ((a2 + a3) + 256 * ((a4 + a5) + 256 * (a6 + a7))) := by
    rw [hW, hm, and256 _ _ _ _ (by omega) (by decide), and256 _ _ _ _ (by omega) (by decide), and256 _ _ _ _ (by omega) (by decide), l _ _ (by omega) (by omega), l _ _ (by omega) (by omega), l _ _ (by omega) (by omega), l _ _ (by omega) (by omega)]
  rw [hz3]
  have h63 : (63 : Nat) = 2 ^ 6 - 1 := by decide
  rw [h63, Nat.and_two_pow_sub_one_eq_mod]
  have e31 : sN (4 * 8) N = sN 31 N := by
    rw [show 4 * 8 = 31 + 1 from rfl, sN_snoc]
    have : N / 2 ^ 31 = 0 := Nat.div_eq_of_lt h
    rw [this, Nat.zero_mod, Nat.add_zero]
  rw [e31] at hs
  refine ⟨by omega, trivial, by omega, by omega, ?_⟩
  rw [← hs]
  have f4 := fin4 (a0 + a1) (a2 + a3) (a4 + a5) (a6 + a7) (by omega) (by omega) (by omega) (by omega)
  rw [show (2 : Nat) ^ 6 = 64 from rfl, f4]
  omega
theorem nI_and (a b : Nat) : nI a &&& nI b = nI (a &&& b) := by
  apply i_ext
  rw [Int32.toBitVec_and]
  show BitVec.ofNat 32 a &&& BitVec.ofNat 32 b = BitVec.ofNat 32 (a &&& b)
  apply BitVec.eq_of_toNat_eq
  simp only [BitVec.toNat_and, BitVec.toNat_ofNat]
  rw [Nat.and_mod_two_pow]
theorem bit_N {N k : Nat} (hN : N < 2 ^ 31) : (nI N).toBitVec.getLsbD k = decide (N / 2 ^ k % 2 = 1) := by
  show (BitVec.ofNat 32 N).getLsbD k = _
  rw [BitVec.getLsbD_ofNat]
  by_cases hk : k < 32
  · simp only [hk, decide_true, Bool.true_and]
    rw [Nat.testBit_eq_decide_div_mod_eq]
  · have : N / 2 ^ k = 0 := Nat.div_eq_of_lt (Nat.lt_of_lt_of_le (show N < 2 ^ 32 by omega) (Nat.pow_le_pow_right (by decide) (by omega)))
    simp [hk, this]
variable {σ : St} {Q : Int32 → St → Prop}
theorem c_bitCount {N : Nat} (hN : N < 2 ^ 31) (k9 : Q (nI (sN 31 N)) σ) : wp_J6_bitCount_0f7a4 σ (nI N) Q := by
  obtain ⟨z1, z2, z3, h1, h2, h3, h4, h5, h6, h7, h8, h9⟩ := swar N hN
  unfold wp_J6_bitCount_0f7a4
  simp only [nm]
  rw [pk_ushrN (by omega) 1 1 (by decide), show (1431655765 : Int32) = nI 1431655765 from rfl, nI_and, show 2 ^ 1 = 2 from rfl, pk_sub h1, ← h2]
  rw [pk_ushrN h3 2 2 (by decide), show (858993459 : Int32) = nI 858993459 from rfl, nI_and, nI_and, nI_add, show 2 ^ 2 = 4 from rfl, ← h4]
  rw [pk_ushrN (by omega) 4 4 (by decide), show (252645135 : Int32) = nI 252645135 from rfl, nI_add, nI_and, show 2 ^ 4 = 16 from rfl, ← h6]
  rw [pk_ushrN (by omega) 8 8 (by decide), nI_add, show 2 ^ 8 = 256 from rfl]
  rw [pk_ushrN (by omega) 16 16 (by decide), nI_add, show (63 : Int32) = nI 63 from rfl, nI_and, show 2 ^ 16 = 65536 from rfl, h9]
  exact k9
theorem lpBt {N : Nat} (hN : N < 2 ^ 31) (k9 : Q (nI (sN 31 N)) σ) : ∀ (g k : Nat), k ≤ 31 → 31 - k < g → lp_X6_bits_4 Q g (nI N) (nI (sN k N)) (nI k) σ := by
  intro g
  induction g with
  | zero => intro k _ h; exact absurd h (Nat.not_lt_zero _)
  | succ g ih =>
    intro k hk hg
    show b_X6_bits_4 Q (lp_X6_bits_4 Q g) (nI N) (nI (sN k N)) (nI k) σ
    unfold b_X6_bits_4
    by_cases h : k < 31
    · rw [if_pos (by rw [show (31 : Int32) = nI 31 from rfl, nI_ltI (by omega) (by decide)]; exact h)]
      simp only [nm]
      rw [bit_shr (by omega), bit_N hN, nI_1]
      have := ih (k + 1) h (by omega)
      rw [sN_snoc] at this
      by_cases e : N / 2 ^ k % 2 = 1
      · rw [e] at this
        simp only [e, decide_true, if_true]
        rw [nI_1]; exact this
      · have e0 : N / 2 ^ k % 2 = 0 := by omega
        rw [e0] at this
        simp only [e0, if_false, show (decide ((0 : Nat) = 1)) = false from rfl]
        rw [show (0 : Int32) = nI 0 from rfl]
        simp only [Bool.false_eq_true, if_false]
        rw [nI_add]; exact this
    · have e : k = 31 := by omega
      rw [if_neg (by rw [show (31 : Int32) = nI 31 from rfl, nI_ltI (by omega) (by decide)]; exact h), e]
      exact k9
theorem m_bits {N : Nat} (hN : N < 2 ^ 31) (k9 : Q (nI (sN 31 N)) σ) : wp_X6_bits σ (nI N) Q := by
  unfold wp_X6_bits
  exact ⟨32, lpBt hN k9 32 0 (Nat.zero_le _) (by omega)⟩
end BITS2
