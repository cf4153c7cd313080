section STOCK
variable {σ : St} {Q : Int32 → St → Prop}
theorem s_rg {A B : Prop} {n x : Int32} : (if x < 0 then B else if x < n then A else B) ↔ ((rg n x ∧ A) ∨ (¬ rg n x ∧ B)) := by
  unfold rg
  by_cases h1 : x < 0
  · simp only [if_true, if_false, if_pos h1, h1, not_true_eq_false, false_and, not_false_eq_true, true_and, false_or]
  · by_cases h2 : x < n
    · simp only [if_true, if_false, h1, h2, not_true_eq_false, false_and, not_false_eq_true, true_and, or_false, and_self]
    · simp only [if_true, if_false, h1, h2, not_false_eq_true, and_false, false_and, true_and, false_or]
theorem s_isThing (x : Int32) : wp_X4_isThing σ x Q ↔ Q (bI (rg (σ 1 7) x)) σ := by
  unfold wp_X4_isThing
  rw [s_rg]
  by_cases h : rg (σ 1 7) x <;> simp [bI, h]
theorem s_isHand (x : Int32) : wp_X4_isHand σ x Q ↔ Q (bI (rg (σ 1 5) x)) σ := by
  unfold wp_X4_isHand
  rw [s_rg]
  by_cases h : rg (σ 1 5) x <;> simp [bI, h]
theorem s_isOfKind (hI : SC σ) (x k : Int32) : wp_X4_isOfKind σ x k Q ↔ Q (bI (rg (σ 1 7) x ∧ σ 5 (ix x) = k)) σ := by
  unfold wp_X4_isOfKind
  rw [s_rg]
  by_cases h : rg (σ 1 7) x <;> simp [bI, h]
  have := rg_in h (N := 60) hI.2.2.2
  by_cases h3 : σ 5 (ix x) = k <;> simp [h3, this]
theorem s_isKeeper (hI : SC σ) (x : Int32) : wp_X4_isKeeper σ x Q ↔ Q (bI (rg (σ 1 5) x ∧ ¬ σ 2 (ix x) = 0)) σ := by
  unfold wp_X4_isKeeper
  rw [s_rg]
  by_cases h : rg (σ 1 5) x <;> simp [bI, h]
  have := rg_in h (N := 20) hI.1.2
  by_cases h3 : σ 2 (ix x) = 0 <;> simp [h3, this]
theorem s_isPlace (x : Int32) : wp_X4_isPlace σ x Q ↔ Q (bI (rg (σ 1 6 * 12) x)) σ := by
  unfold wp_X4_isPlace
  rw [s_rg]
  by_cases h : rg (σ 1 6 * 12) x <;> simp [bI, h]
theorem pl_96 {n x : Int32} (hn : 0 ≤ n.toInt ∧ n.toInt ≤ 8) (h : rg (n * 12) x) : 0 ≤ x.toInt ∧ x.toInt < 96 := by
  rw [rg_i] at h
  have e := mul_i (x := n) (m := 12) (k := 12) (N := 8) rfl hn.1 hn.2 (by decide)
  rw [e] at h
  omega
theorem s_isColdPlace (hI : SC σ) (x : Int32) : wp_X4_isColdPlace σ x Q ↔ Q (bI (rg (σ 1 6 * 12) x ∧ ¬ σ 3 (ix (x / 12)) = 0)) σ := by
  unfold wp_X4_isColdPlace
  rw [s_rg]
  by_cases h : rg (σ 1 6 * 12) x <;> simp [bI, h]
  obtain ⟨a0, a1⟩ := pl_96 hI.2.1 h
  have := (div_in (x := x) (m := 12) (k := 12) (n := 8) rfl (by decide) a0 a1).2
  by_cases h3 : σ 3 (ix (x / 12)) = 0 <;> simp [h3, this]
theorem s_isBag (hI : SC σ) (x : Int32) : wp_X4_isBag σ x Q ↔ Q (bI (rg (σ 1 7) x ∧ (σ 5 (ix x) = 1 ∨ σ 5 (ix x) = 4 ∨ σ 5 (ix x) = 5))) σ := by
  unfold wp_X4_isBag
  simp only [s_isOfKind hI, bI_0]
  by_cases h0 : rg (σ 1 7) x
  · by_cases h1 : σ 5 (ix x) = 1
    · simp [bI, h0, h1]
    · by_cases h2 : σ 5 (ix x) = 4
      · simp [bI, h0, h2]
      · by_cases h3 : σ 5 (ix x) = 5
        · simp [bI, h0, h3]
        · simp [bI, h0, h1, h2, h3]
  · simp [bI, h0]
theorem s_isGivenOut (x : Int32) : wp_X4_isGivenOut σ x Q ↔ Q (bI (rg 600 x ∧ x - x / 100 * 100 < σ 4 (ix (x / 100)))) σ := by
  unfold wp_X4_isGivenOut
  rw [s_rg]
  by_cases h : rg 600 x <;> simp [bI, h]
  have a := rg_i.mp h
  have := (div_in (x := x) (m := 100) (k := 100) (n := 6) rfl (by decide) a.1 a.2).2
  by_cases h3 : x - x / 100 * 100 < σ 4 (ix (x / 100)) <;> simp [h3, this]
theorem s_has (r : Nat) (x : Int32) : wp_X2_has r σ x Q ↔ Q (bI (rg (σ r 2) x)) σ := by
  unfold wp_X2_has
  rw [s_rg]
  by_cases h : rg (σ r 2) x <;> simp [bI, h]
theorem s_cell {r : Nat} {x w : Int32} (h : rg (σ r 2) x) (hc : (σ r 2).toInt ≤ 400) (w0 : 0 ≤ w.toInt) (w1 : w.toInt < 8) : wp_X2_cell r σ x w Q ↔ Q (σ (r + 1) (8 * ix x + ix w)) σ := by
  unfold wp_X2_cell
  have a := rg_i.mp h
  have e := mul_i (x := x) (m := 8) (k := 8) (N := 400) rfl a.1 (by omega) (by decide)
  have e2 : (x * 8 + w).toInt = x.toInt * 8 + w.toInt := by
    rw [add_i, e]
    · rfl
    · rw [e]; omega
    · rw [e]; omega
  have hw0 : ¬ w < 0 := by rw [ltI, t0_]; omega
  have hw1 : w < 8 := by rw [ltI]; exact w1
  have hv : vp_in (x * 8 + w) 3200 := vin2 (by rw [e2]; omega) (by rw [e2]; omega)
  have hx : ix (x * 8 + w) = 8 * ix x + ix w := by
    have q1 := ixI (x := x * 8 + w) (by rw [e2]; omega)
    have q2 := ixI a.1
    have q3 := ixI w0
    rw [e2] at q1
    omega
  rw [s_has, bI_t h]
  simp only [hw0, hw1, if_true, if_false, hv, true_and, hx, one_ne_0]
theorem s_cellOut {r : Nat} {x w : Int32} (h : ¬ rg (σ r 2) x) : wp_X2_cell r σ x w Q ↔ Q (-1) σ := by
  unfold wp_X2_cell
  rw [s_has, bI_f h]
  simp only [if_true]
theorem s_inOrder {r : Nat} {x : Int32} (h : rg (σ r 2) x) (hc : (σ r 2).toInt ≤ 400) : wp_X2_inOrder r σ x Q ↔ Q (σ (r + 2) (ix x)) σ := by
  unfold wp_X2_inOrder
  rw [s_has, bI_t h]
  have := rg_in h (N := 400) hc
  simp only [one_ne_0, if_false, this, true_and]
theorem s_isMoneyBag (hI : SC σ) (x : Int32) : wp_X3_isMoneyBag σ x Q ↔ Q (bI (rg (σ 1 7) x ∧ σ 5 (ix x) = 5)) σ := by
  unfold wp_X3_isMoneyBag
  rw [s_isOfKind hI]
theorem s_isDay (x : Int32) : wp_X3_isDay σ x Q ↔ Q (bI (¬ x < 0 ∧ ¬ 100000 < x)) σ := by
  unfold wp_X3_isDay
  by_cases h1 : x < 0 <;> by_cases h2 : 100000 < x <;> simp only [h1, h2, if_true, if_false, bI_t, bI_f, not_true_eq_false, not_false_eq_true, false_and, and_false, and_self]
end STOCK
