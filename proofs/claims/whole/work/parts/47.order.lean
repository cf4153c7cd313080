/-! the ORDER: one insertion, and all of them -/
def insL (mn : Nat → Int32) (m : Int32) (i : Nat) : Nat → (Nat → Int32) → (Nat → Int32)
  | 0, o => upd o 0 (nI i)
  | j + 1, o => if m < mn (ix (o j)) then insL mn m i j (upd o (j + 1) (o j)) else upd o (j + 1) (nI i)
def ins (mn : Nat → Int32) (i : Nat) (o : Nat → Int32) : Nat → Int32 := insL mn (mn i) i i o
def ordN (mn : Nat → Int32) (o : Nat → Int32) : Nat → (Nat → Int32)
  | 0 => o
  | n + 1 => ins mn n (ordN mn o n)
section ORD
variable {mn : Nat → Int32}
/-- where it is put -/
theorem insL_at (m : Int32) (i : Nat) : ∀ (j : Nat) (o : Nat → Int32), ∃ p, p ≤ j ∧ insL mn m i j o p = nI i ∧ (∀ k, k < p → insL mn m i j o k = o k) ∧ (∀ k, p < k → k ≤ j → insL mn m i j o k = o (k - 1)) ∧ (∀ k, j < k → insL mn m i j o k = o k) := by
  intro j
  induction j with
  | zero =>
    intro o
    refine ⟨0, Nat.le_refl _, ?_, fun k h => absurd h (Nat.not_lt_zero _), fun k h1 h2 => by omega, fun k h => ?_⟩
    · simp only [insL]; rw [upd_s]
    · simp only [insL]; rw [upd_n _ _ (by omega)]
  | succ j ih =>
    intro o
    by_cases h : m < mn (ix (o j))
    · obtain ⟨p, h1, h2, h3, h4, h5⟩ := ih (upd o (j + 1) (o j))
      have e : insL mn m i (j + 1) o = insL mn m i j (upd o (j + 1) (o j)) := by simp only [insL, if_pos h]
      rw [e]
      refine ⟨p, by omega, h2, fun k hk => ?_, fun k hk1 hk2 => ?_, fun k hk => ?_⟩
      · rw [h3 k hk, upd_n _ _ (by omega)]
      · by_cases e2 : k = j + 1
        · rw [e2, h5 _ (by omega), upd_s]; rfl
        · rw [h4 k hk1 (by omega), upd_n _ _ (by omega)]
      · rw [h5 k (by omega), upd_n _ _ (by omega)]
    · have e : insL mn m i (j + 1) o = upd o (j + 1) (nI i) := by simp only [insL, if_neg h]
      rw [e]
      refine ⟨j + 1, Nat.le_refl _, upd_s _ _ _, fun k hk => upd_n _ _ (by omega), fun k h1 h2 => by omega, fun k hk => upd_n _ _ (by omega)⟩
theorem ins_at (i : Nat) (o : Nat → Int32) : ∃ p, p ≤ i ∧ ins mn i o p = nI i ∧ (∀ k, k < p → ins mn i o k = o k) ∧ (∀ k, p < k → k ≤ i → ins mn i o k = o (k - 1)) ∧ (∀ k, i < k → ins mn i o k = o k) := insL_at (mn i) i i o
/-- it depends on what stands below alone -/
theorem insL_agree (m : Int32) (i : Nat) : ∀ (j : Nat) (o o' : Nat → Int32), j ≤ i → (∀ k, k < j → o k = o' k) → (∀ k, j < k → k ≤ i → o k = o' k) → ∀ k, k ≤ i → insL mn m i j o k = insL mn m i j o' k := by
  intro j
  induction j with
  | zero =>
    intro o o' _ h1 h2 k hk
    simp only [insL]
    by_cases e : k = 0
    · rw [e, upd_s, upd_s]
    · rw [upd_n _ _ e, upd_n _ _ e]; exact h2 k (by omega) hk
  | succ j ih =>
    intro o o' hj h1 h2 k hk
    simp only [insL]
    rw [h1 j (by omega)]
    by_cases h : m < mn (ix (o' j))
    · rw [if_pos h, if_pos h]
      refine ih _ _ (by omega) (fun q hq => ?_) (fun q hq1 hq2 => ?_) k hk
      · rw [upd_n _ _ (by omega), upd_n _ _ (by omega)]; exact h1 q (by omega)
      · by_cases e : q = j + 1
        · rw [e, upd_s, upd_s]
        · rw [upd_n _ _ e, upd_n _ _ e]; exact h2 q (by omega) hq2
    · rw [if_neg h, if_neg h]
      by_cases e : k = j + 1
      · rw [e, upd_s, upd_s]
      · rw [upd_n _ _ e, upd_n _ _ e]
        rcases Nat.lt_or_ge k (j + 1) with q | q
        · exact h1 k q
        · exact h2 k (by omega) hk
theorem ins_agree (i : Nat) {o o' : Nat → Int32} (h : ∀ k, k < i → o k = o' k) : ∀ k, k < i + 1 → ins mn i o k = ins mn i o' k := fun k hk => insL_agree (mn i) i i o o' (Nat.le_refl _) h (fun k h1 h2 => by omega) k (by omega)
theorem ordN_agree {o o' : Nat → Int32} : ∀ (n k : Nat), k < n → ordN mn o n k = ordN mn o' n k := by
  intro n
  induction n with
  | zero => intro k h; exact absurd h (Nat.not_lt_zero _)
  | succ n ih => intro k h; exact ins_agree n (ih) k h
theorem ins_rng (i n : Nat) (hi : i < n) {o : Nat → Int32} (h : ∀ k, k < i → ∃ v, v < n ∧ o k = nI v) : ∀ k, k < i + 1 → ∃ v, v < n ∧ ins mn i o k = nI v := by
  intro k hk
  obtain ⟨p, h1, h2, h3, h4, h5⟩ := ins_at (mn := mn) i o
  rcases Nat.lt_trichotomy k p with q | q | q
  · rw [h3 k q]; exact h k (by omega)
  · rw [q, h2]; exact ⟨i, hi, rfl⟩
  · rw [h4 k q (by omega)]; exact h (k - 1) (by omega)
theorem ordN_rng (o : Nat → Int32) : ∀ (n k : Nat), k < n → ∃ v, v < n ∧ ordN mn o n k = nI v := by
  intro n
  induction n with
  | zero => intro k h; exact absurd h (Nat.not_lt_zero _)
  | succ n ih =>
    intro k h
    exact ins_rng n (n + 1) (by omega) (fun k hk => by obtain ⟨v, h1, h2⟩ := ih k hk; exact ⟨v, by omega, h2⟩) k h
theorem insL_congr {mn mn' : Nat → Int32} (m : Int32) (i : Nat) : ∀ (j : Nat) (o : Nat → Int32), (∀ k, k < j → mn (ix (o k)) = mn' (ix (o k))) → insL mn m i j o = insL mn' m i j o := by
  intro j
  induction j with
  | zero => intro o _; rfl
  | succ j ih =>
    intro o h
    simp only [insL]
    rw [h j (by omega)]
    by_cases q : m < mn' (ix (o j))
    · rw [if_pos q, if_pos q]
      exact ih _ (fun k hk => by rw [upd_n _ _ (by omega)]; exact h k (by omega))
    · rw [if_neg q, if_neg q]
theorem ordN_congr {mn mn' : Nat → Int32} (o : Nat → Int32) : ∀ (n : Nat), n < 2 ^ 31 → (∀ k, k < n → mn k = mn' k) → ordN mn o n = ordN mn' o n := by
  intro n
  induction n with
  | zero => intro _ _; rfl
  | succ n ih =>
    intro hn h
    simp only [ordN]
    rw [ih (by omega) (fun k hk => h k (by omega))]
    unfold ins
    rw [h n (by omega)]
    refine insL_congr _ _ _ _ (fun k hk => ?_)
    obtain ⟨v, h1, h2⟩ := ordN_rng (mn := mn') o n k hk
    rw [h2, ix_nI (by omega)]
    exact h v (by omega)
end ORD
section PIO
variable {σ : St} {r : Nat} {Q : St → Prop}
theorem upr2 (σ : St) (k : Nat) (f : Nat → Int32) (j : Nat) (v : Int32) : up2 (upr σ k f) k j v = upr σ k (upd f j v) := by
  unfold up2
  rw [upr_upr, upr_at]
theorem vin_n {k N : Nat} (h : k < N) (hN : N < 2 ^ 31) : vp_in (nI k) N := vp_in_nI h hN
theorem lpP (hr : r = 7 ∨ r = 10) {n i : Nat} (hn : σ r 2 = nI n) (hn4 : n ≤ 400) (hi : i < n) {m : Int32} : ∀ (g j : Nat) (o : Nat → Int32), j < g → j ≤ i → (∀ k, k < j → ∃ v, v < n ∧ o k = nI v) → Q (upr σ (r + 2) (insL (fun k => σ (r + 1) (8 * k + 6)) m i j o)) → lp_X2_putInOrder_19 r Q g (nI i) m (nI j) (upr σ (r + 2) o) := by
  intro g
  induction g with
  | zero => intro j o h; exact absurd h (Nat.not_lt_zero _)
  | succ g ih =>
    intro j o hg hj hv hq
    show b_X2_putInOrder_19 r Q (lp_X2_putInOrder_19 r Q g) (nI i) m (nI j) _
    unfold b_X2_putInOrder_19 j_X2_putInOrder_61
    have ez : (0 : Int32) = nI 0 := rfl
    cases j with
    | zero =>
      rw [if_neg (by rw [ez, nI_ltI (by decide) (by decide)]; omega)]
      refine ⟨vin_n (by omega) (by decide), ?_⟩
      simp only [nmS]
      rw [upr2, ix_nI (by decide)]
      exact hq
    | succ j =>
      rw [if_pos (by rw [ez, nI_ltI (by decide) (by omega)]; omega), nI_pred, pk_m1]
      have v1 : vp_in (nI j) 400 := vin_n (by omega) (by decide)
      have v2 : vp_in (nI (j + 1)) 400 := vin_n (by omega) (by decide)
      refine ⟨v1, ?_⟩
      rw [upr_at, ix_nI (by omega)]
      obtain ⟨v, w1, w2⟩ := hv j (by omega)
      have er : upr σ (r + 2) o r = σ r := upr_ne (by omega)
      have er1 : upr σ (r + 2) o (r + 1) = σ (r + 1) := upr_ne (by omega)
      have hrg : rg (σ r 2) (o j) := by rw [hn, w2, rg_i, nI_toInt (by omega), nI_toInt (by omega)]; omega
      rw [s_cellR (σ := σ) er er1 hrg (by rw [hn, nI_toInt (by omega)]; omega) 6 rfl (by decide) (by decide)]
      simp only [nmS, v1, v2, true_and]
      rw [upr_at, upr2, upr2, ix_nI (by omega)]
      by_cases q : m < σ (r + 1) (8 * ix (o j) + 6)
      · rw [if_pos q]
        simp only [insL, if_pos q] at hq
        exact ih j _ (by omega) (by omega) (fun k hk => by rw [upd_n _ _ (by omega)]; exact hv k (by omega)) hq
      · rw [if_neg q]
        simp only [insL, if_neg q] at hq
        exact hq
theorem c_putInOrder (hr : r = 7 ∨ r = 10) {n i : Nat} (hn : σ r 2 = nI n) (hn4 : n ≤ 400) (hi : i < n) (hv : ∀ k, k < i → ∃ v, v < n ∧ σ (r + 2) k = nI v) (k : Q (upr σ (r + 2) (ins (fun k => σ (r + 1) (8 * k + 6)) i (σ (r + 2))))) : wp_X2_putInOrder r σ (nI i) Q := by
  unfold wp_X2_putInOrder
  have hrg : rg (σ r 2) (nI i) := by rw [hn, rg_i, nI_toInt (by omega), nI_toInt (by omega)]; omega
  rw [s_has, bI_t hrg, if_neg (by decide), s_cellR (σ := σ) rfl rfl hrg (by rw [hn, nI_toInt (by omega)]; omega) 6 rfl (by decide) (by decide), ix_nI (by omega)]
  refine ⟨i + 1, ?_⟩
  have := lpP hr hn hn4 hi (Q := Q) (m := σ (r + 1) (8 * i + 6)) (i + 1) i (σ (r + 2)) (by omega) (Nat.le_refl _) hv k
  rw [upr_same] at this
  exact this
end PIO
