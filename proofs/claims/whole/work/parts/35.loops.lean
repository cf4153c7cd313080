section LOOPS
variable {σ s : St} {Q : Int32 → St → Prop}
theorem up_in (hS : SI s) {x : Nat} (hx : x < 60) (h : s 9 x = 3) : rg (s 0 2) (s 10 x) ∧ vp_in (s 10 x) 60 ∧ upx s x < 60 := by
  obtain ⟨hK, -, -, -, hbag, -⟩ := hS
  have h1 := (hbag x hx h).1
  exact ⟨h1, (th_lt hK h1).2, (th_lt hK h1).1⟩
theorem not_rg_m1 (n : Int32) : ¬ rg n (-1) := fun h => h.1 (by decide)
/-- the place above, as the class has it -/
def abv (s : St) (x : Nat) : Int32 := if s 9 x = 3 then s 10 x else -1
theorem i4 {n : Nat} (hn : n ≤ 4) : nI n < 4 ↔ n < 4 := by
  have : (4 : Int32) = nI 4 := rfl
  rw [this, nI_ltI (by omega) (by decide)]
theorem lpF (hT : TR σ s) (hS : SI s) : ∀ (g m x : Nat), m ≤ 4 → 4 - m < g → x < 60 → Q (bI (frN s (4 - m) x)) σ → lp_X3_isFree_8 Q g (abv s x) (nI m) σ := by
  intro g
  induction g with
  | zero => intro m x _ h; exact absurd h (Nat.not_lt_zero _)
  | succ g ih =>
    intro m x hm hg hx hq
    show b_X3_isFree_8 Q (lp_X3_isFree_8 Q g) (abv s x) (nI m) σ
    unfold b_X3_isFree_8
    by_cases h4 : m < 4
    · rw [if_pos ((i4 hm).mpr h4), s_isThing, hT.1.2.2.1]
      have e4 : 4 - m = (4 - (m + 1)) + 1 := by omega
      rw [e4] at hq
      simp only [frN] at hq
      by_cases h3 : s 9 x = 3
      · obtain ⟨u1, u2, u3⟩ := up_in hS hx h3
        simp only [abv, if_pos h3]
        rw [bI_t u1, if_neg (by decide), hT.2.2.2.2.1]
        refine ⟨u2, ?_⟩
        by_cases h5 : s 12 (upx s x) = -1
        · rw [if_pos h5, s_bagAround hT u2, nI_1]
          refine ih (m + 1) (upx s x) (by omega) (by omega) u3 ?_
          have : (s 9 x = 3 → s 12 (upx s x) = -1 ∧ frN s (4 - (m + 1)) (upx s x)) = frN s (4 - (m + 1)) (upx s x) := propext ⟨fun k => (k h3).2, fun k _ => ⟨h5, k⟩⟩
          rw [this] at hq
          exact hq
        · rw [if_neg h5]
          rw [bI_f (fun k => h5 (k h3).1)] at hq
          exact hq
      · simp only [abv, if_neg h3]
        rw [bI_f (not_rg_m1 _), if_pos rfl]
        rw [bI_t (fun k => absurd k h3)] at hq
        exact hq
    · rw [if_neg (fun k => h4 ((i4 hm).mp k))]
      have e4 : 4 - m = 0 := by omega
      rw [e4] at hq
      simp only [frN] at hq
      rw [bI_t trivial] at hq
      exact hq
theorem c_isFree (hT : TR σ s) (hS : SI s) {x : Int32} (hx : vp_in x 60) (k : Q (bI (frN s 4 (ix x))) σ) : wp_X3_isFree σ x Q := by
  unfold wp_X3_isFree
  rw [s_bagAround hT hx]
  exact ⟨5, lpF hT hS 5 0 (ix x) (by omega) (by omega) (vin_lt hx) k⟩
theorem lpO (hT : TR σ s) (hS : SI s) : ∀ (g m x : Nat), m ≤ 4 → 4 - m < g → x < 60 → Q (nI (otN s (4 - m) x)) σ → lp_X3_outermost_11 Q g (nI x) (abv s x) (nI m) σ := by
  intro g
  induction g with
  | zero => intro m x _ h; exact absurd h (Nat.not_lt_zero _)
  | succ g ih =>
    intro m x hm hg hx hq
    show b_X3_outermost_11 Q (lp_X3_outermost_11 Q g) (nI x) (abv s x) (nI m) σ
    unfold b_X3_outermost_11
    by_cases h4 : m < 4
    · rw [if_pos ((i4 hm).mpr h4), s_isThing, hT.1.2.2.1]
      have e4 : 4 - m = (4 - (m + 1)) + 1 := by omega
      rw [e4] at hq
      simp only [otN] at hq
      by_cases h3 : s 9 x = 3
      · obtain ⟨u1, u2, u3⟩ := up_in hS hx h3
        simp only [abv, if_pos h3]
        rw [bI_t u1, if_neg (by decide), s_bagAround hT u2, nI_1]
        rw [if_pos h3] at hq
        have := ih (m + 1) (upx s x) (by omega) (by omega) u3 hq
        rw [← vin_nI u2] at this
        exact this
      · simp only [abv, if_neg h3]
        rw [bI_f (not_rg_m1 _), if_pos rfl]
        rw [if_neg h3] at hq
        exact hq
    · rw [if_neg (fun k => h4 ((i4 hm).mp k))]
      have e4 : 4 - m = 0 := by omega
      rw [e4] at hq
      exact hq
theorem c_outermost (hT : TR σ s) (hS : SI s) {x : Int32} (hx : vp_in x 60) (k : Q (nI (otN s 4 (ix x))) σ) : wp_X3_outermost σ x Q := by
  unfold wp_X3_outermost
  rw [s_bagAround hT hx]
  refine ⟨5, ?_⟩
  have := lpO hT hS 5 0 (ix x) (by omega) (by omega) (vin_lt hx) k
  rw [← vin_nI hx] at this
  exact this
theorem otN_lt (hS : SI s) : ∀ (n x : Nat), x < 60 → otN s n x < 60 := by
  intro n
  induction n with
  | zero => intro x h; exact h
  | succ n ih =>
    intro x h
    simp only [otN]
    by_cases h3 : s 9 x = 3
    · rw [if_pos h3]; exact ih _ (up_in hS h h3).2.2
    · rw [if_neg h3]; exact h
/-- how many steps lead up from x to y, at most so many -/
def stU (s : St) (y : Nat) : Nat → Nat → Nat → Nat
  | 0, _, _ => 0
  | n + 1, m, x => if s 9 x = 3 then (if upx s x = y then m else stU s y n (m + 1) (upx s x)) else 0
theorem i4' {n : Nat} (hn : n ≤ 5) : (4 : Int32) < nI n ↔ 4 < n := by
  have : (4 : Int32) = nI 4 := rfl
  rw [this, nI_ltI (by decide) (by omega)]
theorem lpU (hT : TR σ s) (hS : SI s) {y : Nat} (hy : y < 60) : ∀ (g m x : Nat), 1 ≤ m → m ≤ 5 → 5 - m < g → x < 60 → Q (nI (stU s y (5 - m) m x)) σ → lp_X3_stepsUpTo_9 Q g (nI y) (abv s x) (nI m) σ := by
  intro g
  induction g with
  | zero => intro m x _ _ h; exact absurd h (Nat.not_lt_zero _)
  | succ g ih =>
    intro m x hm0 hm hg hx hq
    show b_X3_stepsUpTo_9 Q (lp_X3_stepsUpTo_9 Q g) (nI y) (abv s x) (nI m) σ
    unfold b_X3_stepsUpTo_9
    by_cases h4 : 4 < m
    · rw [if_pos ((i4' hm).mpr h4)]
      have e4 : 5 - m = 0 := by omega
      rw [e4] at hq
      exact hq
    · rw [if_neg (fun k => h4 ((i4' hm).mp k)), s_isThing, hT.1.2.2.1]
      have e4 : 5 - m = (5 - (m + 1)) + 1 := by omega
      rw [e4] at hq
      simp only [stU] at hq
      by_cases h3 : s 9 x = 3
      · obtain ⟨u1, u2, u3⟩ := up_in hS hx h3
        simp only [abv, if_pos h3]
        rw [bI_t u1, if_neg (by decide)]
        rw [if_pos h3] at hq
        by_cases h5 : upx s x = y
        · rw [if_pos (by rw [← h5]; exact vin_nI u2)]
          rw [if_pos h5] at hq
          exact hq
        · rw [if_neg (fun k => h5 (by rw [upx, k, ix_nI (by omega)])), s_bagAround hT u2, nI_1]
          rw [if_neg h5] at hq
          exact ih (m + 1) (upx s x) (by omega) (by omega) (by omega) u3 hq
      · simp only [abv, if_neg h3]
        rw [bI_f (not_rg_m1 _), if_pos rfl]
        rw [if_neg h3] at hq
        exact hq
theorem c_stepsUpTo (hT : TR σ s) (hS : SI s) {x y : Nat} (hx : x < 60) (hy : y < 60) (k : Q (nI (stU s y 4 1 x)) σ) : wp_X3_stepsUpTo σ (nI x) (nI y) Q := by
  unfold wp_X3_stepsUpTo
  have hv : vp_in (nI x) 60 := vp_in_nI hx (by decide)
  rw [s_bagAround hT hv, ix_nI (by omega)]
  exact ⟨5, lpU hT hS hy 5 1 x (by omega) (by omega) (by omega) hx k⟩
theorem stU_le (s : St) (y : Nat) : ∀ (n m x : Nat), stU s y n m x ≤ n + m := by
  intro n
  induction n with
  | zero => intro m x; simp [stU]
  | succ n ih =>
    intro m x
    simp only [stU]
    by_cases h3 : s 9 x = 3
    · rw [if_pos h3]
      by_cases h5 : upx s x = y
      · rw [if_pos h5]; omega
      · rw [if_neg h5]
        have := ih (m + 1) (upx s x)
        omega
    · rw [if_neg h3]; omega
theorem stU_le4 (s : St) (y x : Nat) : stU s y 4 1 x ≤ 4 := by
  simp only [stU]
  repeat' split
  all_goals omega
/-- with 4 as the limit: the last step is reached just where four steps lead there -/
theorem stU_4 {y : Nat} (hy : ¬ s 9 y = 3) (x : Nat) : 4 ≤ stU s y 4 1 x ↔ upN s 4 x y := by
  simp only [stU, upN]
  by_cases h1 : s 9 x = 3
  · simp only [h1, if_true, true_and]
    by_cases e1 : upx s x = y
    · simp only [e1, if_true, hy, false_and]
      constructor
      · intro h; omega
      · intro h; exact h.elim
    · simp only [e1, if_false]
      by_cases h2 : s 9 (upx s x) = 3
      · simp only [h2, if_true, true_and]
        by_cases e2 : upx s (upx s x) = y
        · simp only [e2, if_true, hy, false_and]
          constructor
          · intro h; omega
          · intro h; exact h.elim
        · simp only [e2, if_false]
          by_cases h3 : s 9 (upx s (upx s x)) = 3
          · simp only [h3, if_true, true_and]
            by_cases e3 : upx s (upx s (upx s x)) = y
            · simp only [e3, if_true, hy, false_and]
              constructor
              · intro h; omega
              · intro h; exact h.elim
            · simp only [e3, if_false]
              by_cases h4 : s 9 (upx s (upx s (upx s x))) = 3
              · simp only [h4, if_true, true_and]
                by_cases e4 : upx s (upx s (upx s (upx s x))) = y
                · simp [e4]
                · simp [e4]
              · simp only [h4, if_false, false_and]
                constructor
                · intro h; omega
                · intro h; exact h.elim
          · simp only [h3, if_false, false_and]
            constructor
            · intro h; omega
            · intro h; exact h.elim
      · simp only [h2, if_false, false_and]
        constructor
        · intro h; omega
        · intro h; exact h.elim
  · simp only [h1, if_false, false_and]
    constructor
    · intro h; omega
    · intro h; exact h.elim
/-- the most of f below n -/
def mxN (f : Nat → Nat) : Nat → Nat
  | 0 => 0
  | n + 1 => if mxN f n < f n then f n else mxN f n
theorem mxN_le {f : Nat → Nat} {B : Nat} (h : ∀ x, f x ≤ B) : ∀ n, mxN f n ≤ B := by
  intro n
  induction n with
  | zero => exact Nat.zero_le _
  | succ n ih =>
    simp only [mxN]
    split
    · exact h n
    · exact ih
theorem mxN_ge {f : Nat → Nat} {B : Nat} (hB : 0 < B) : ∀ n, B ≤ mxN f n ↔ ∃ x, x < n ∧ B ≤ f x := by
  intro n
  induction n with
  | zero =>
    simp only [mxN]
    constructor
    · intro h; omega
    · intro ⟨x, h, _⟩; exact absurd h (Nat.not_lt_zero _)
  | succ n ih =>
    simp only [mxN]
    constructor
    · intro h
      split at h
      · exact ⟨n, Nat.lt_succ_self n, h⟩
      · obtain ⟨x, h1, h2⟩ := ih.mp h
        exact ⟨x, Nat.lt_succ_of_lt h1, h2⟩
    · intro ⟨x, h1, h2⟩
      split
      · next hh =>
        rcases Nat.lt_or_ge x n with q | q
        · have := ih.mpr ⟨x, q, h2⟩; omega
        · have : x = n := by omega
          subst this; exact h2
      · next hh =>
        rcases Nat.lt_or_ge x n with q | q
        · exact ih.mpr ⟨x, q, h2⟩
        · have : x = n := by omega
          subst this; omega
/-- so many things there are -/
def thN (s : St) : Nat := ix (s 0 2)
theorem thN_le (hK : SK s) : thN s ≤ 60 ∧ s 0 2 = nI (thN s) := by
  have h := hK.2.2.1
  have := ixI h.1
  unfold thN
  exact ⟨by omega, z_of h.1⟩
theorem lpD (hT : TR σ s) (hS : SI s) {y : Nat} (hy : y < 60) : ∀ (g n : Nat), n ≤ thN s → thN s - n < g → Q (nI (mxN (fun x => stU s y 4 1 x) (thN s))) σ → lp_X3_deepestIn_4 Q g (nI y) (nI (mxN (fun x => stU s y 4 1 x) n)) (nI n) σ := by
  intro g
  induction g with
  | zero => intro n _ h; exact absurd h (Nat.not_lt_zero _)
  | succ g ih =>
    intro n hn hg hq
    obtain ⟨t1, t2⟩ := thN_le hS.1
    show b_X3_deepestIn_4 Q (lp_X3_deepestIn_4 Q g) (nI y) _ (nI n) σ
    unfold b_X3_deepestIn_4
    rw [hT.1.2.2.1, t2]
    have hb : ∀ n, mxN (fun x => stU s y 4 1 x) n ≤ 5 := mxN_le (fun x => stU_le s y 4 1 x)
    by_cases h : n < thN s
    · rw [if_pos ((nI_ltI (by omega) (by omega)).mpr h)]
      refine c_stepsUpTo hT hS (by omega) hy ?_
      simp only [nm]
      have e1 := hb n
      have e2 := stU_le s y 4 1 n
      have key : (if nI (mxN (fun x => stU s y 4 1 x) n) < nI (stU s y 4 1 n) then nI (stU s y 4 1 n) else nI (mxN (fun x => stU s y 4 1 x) n)) = nI (mxN (fun x => stU s y 4 1 x) (n + 1)) := by
        simp only [mxN, nI_ltI (show mxN (fun x => stU s y 4 1 x) n < 2 ^ 31 by omega) (show stU s y 4 1 n < 2 ^ 31 by omega)]
        split <;> rfl
      rw [key, nI_1]
      exact ih (n + 1) h (by omega) hq
    · have e : n = thN s := by omega
      rw [if_neg (fun k => h ((nI_ltI (by omega) (by omega)).mp k)), e]
      exact hq
theorem c_deepestIn (hT : TR σ s) (hS : SI s) {y : Int32} (hy : vp_in y 60) (k : Q (nI (mxN (fun x => stU s (ix y) 4 1 x) (thN s))) σ) : wp_X3_deepestIn σ y Q := by
  unfold wp_X3_deepestIn
  refine ⟨thN s + 1, ?_⟩
  have := lpD hT hS (vin_lt hy) (thN s + 1) 0 (Nat.zero_le _) (by omega) k
  rw [← vin_nI hy] at this
  exact this
end LOOPS
