section KINDS
variable {σ s : St} {Q : Int32 → St → Prop} {t a b c d dy : Int32}
theorem lpOf (hT : TR σ s) (hS : SI s) {y : Int32} : ∀ (g m x : Nat), m ≤ 60 → 60 - m < g → x < 60 → Q (bI (ofN s (60 - m) x y)) σ → lp_X3_isOf_10 Q g y (s 17 x) (nI m) σ := by
  intro g
  induction g with
  | zero => intro m x _ h; exact absurd h (Nat.not_lt_zero _)
  | succ g ih =>
    intro m x hm hg hx hq
    show b_X3_isOf_10 Q (lp_X3_isOf_10 Q g) y (s 17 x) (nI m) σ
    unfold b_X3_isOf_10
    have i60 : nI m < 60 ↔ m < 60 := by
      have : (60 : Int32) = nI 60 := rfl
      rw [this, nI_ltI (by omega) (by decide)]
    by_cases h4 : m < 60
    · rw [if_pos (i60.mpr h4), s_isThing, hT.1.2.2.1]
      have e4 : 60 - m = (60 - (m + 1)) + 1 := by omega
      rw [e4] at hq
      simp only [ofN] at hq
      by_cases h3 : rg (s 0 2) (s 17 x)
      · rw [bI_t h3, if_neg (by decide)]
        by_cases h5 : s 17 x = y
        · rw [if_pos h5]
          rw [bI_t ⟨h3, Or.inl h5⟩] at hq
          exact hq
        · rw [if_neg h5, hT.2.2.2.2.2.2.2.2.2.1]
          obtain ⟨v1, v2⟩ := th_lt hS.1 h3
          refine ⟨v2, ?_⟩
          simp only [nm]
          rw [nI_1]
          refine ih (m + 1) (ix (s 17 x)) (by omega) (by omega) v1 ?_
          have : (rg (s 0 2) (s 17 x) ∧ (s 17 x = y ∨ ofN s (60 - (m + 1)) (ix (s 17 x)) y)) = ofN s (60 - (m + 1)) (ix (s 17 x)) y := propext ⟨fun k => k.2.resolve_left h5, fun k => ⟨h3, Or.inr k⟩⟩
          rw [this] at hq
          exact hq
      · rw [bI_f h3, if_pos rfl]
        rw [bI_f (fun k => h3 k.1)] at hq
        exact hq
    · rw [if_neg (fun k => h4 (i60.mp k))]
      have e4 : 60 - m = 0 := by omega
      rw [e4] at hq
      simp only [ofN] at hq
      rw [bI_f not_false] at hq
      exact hq
theorem c_isOf (hT : TR σ s) (hS : SI s) {x y : Int32} (hx : vp_in x 60) (k : Q (bI (ofN s 60 (ix x) y)) σ) : wp_X3_isOf σ x y Q := by
  unfold wp_X3_isOf
  rw [hT.2.2.2.2.2.2.2.2.2.1]
  refine ⟨hx, ?_⟩
  simp only [nm]
  exact ⟨61, lpOf hT hS 61 0 (ix x) (by omega) (by omega) (vin_lt hx) k⟩
def anyH (s : St) (t : Int32) (n : Nat) : Prop := ∃ x, x < n ∧ s 9 x = 2 ∧ ofN s 60 x t
theorem lpA (hT : TR σ s) (hS : SI s) (hF : σ 13 13 = t) : ∀ (g n : Nat), n ≤ thN s → thN s - n < g → ¬ anyH s t n → Q (bI (anyH s t (thN s))) σ → lp_X3_isAnyOfItInHand_2 Q g (nI n) σ := by
  intro g
  induction g with
  | zero => intro n _ h; exact absurd h (Nat.not_lt_zero _)
  | succ g ih =>
    intro n hn hg ha hq
    obtain ⟨t1, t2⟩ := thN_le hS.1
    show b_X3_isAnyOfItInHand_2 Q (lp_X3_isAnyOfItInHand_2 Q g) (nI n) σ
    unfold b_X3_isAnyOfItInHand_2 j_X3_isAnyOfItInHand_37
    rw [hT.1.2.2.1, t2, hF, hT.2.1]
    by_cases h : n < thN s
    · rw [if_pos ((nI_ltI (by omega) (by omega)).mpr h)]
      have hv : vp_in (nI n) 60 := vp_in_nI (by omega) (by decide)
      refine ⟨hv, ?_⟩
      rw [ix_nI (by omega), nI_1]
      have stp : ¬ (s 9 n = 2 ∧ ofN s 60 n t) → ¬ anyH s t (n + 1) := by
        intro k ⟨x, h1, h2⟩
        rcases Nat.lt_or_ge x n with q | q
        · exact ha ⟨x, q, h2⟩
        · have : x = n := by omega
          subst this; exact k h2
      by_cases h2 : s 9 n = 2
      · rw [if_pos h2]
        refine c_isOf hT hS hv ?_
        rw [ix_nI (by omega)]
        by_cases h5 : ofN s 60 n t
        · rw [bI_t h5, if_neg (by decide)]
          rw [bI_t ⟨n, h, h2, h5⟩] at hq
          exact hq
        · rw [bI_f h5, if_pos rfl]
          exact ih (n + 1) h (by omega) (stp (fun k => h5 k.2)) hq
      · rw [if_neg h2]
        exact ih (n + 1) h (by omega) (stp (fun k => h2 k.1)) hq
    · have e : n = thN s := by omega
      rw [if_neg (fun k => h ((nI_ltI (by omega) (by omega)).mp k))]
      rw [← e, bI_f ha] at hq
      exact hq
theorem c_anyH (hT : TR σ s) (hS : SI s) (hF : σ 13 13 = t) (k : Q (bI (∃ x, x < 60 ∧ s 9 x = 2 ∧ ofN s 60 x t)) σ) : wp_X3_isAnyOfItInHand σ Q := by
  unfold wp_X3_isAnyOfItInHand
  refine ⟨thN s + 1, lpA hT hS hF (thN s + 1) 0 (Nat.zero_le _) (by omega) (fun ⟨x, h, _⟩ => absurd h (Nat.not_lt_zero _)) ?_⟩
  have e : anyH s t (thN s) = ∃ x, x < 60 ∧ s 9 x = 2 ∧ ofN s 60 x t := by
    obtain ⟨t1, t2⟩ := thN_le hS.1
    refine propext ⟨fun ⟨x, h1, h2⟩ => ⟨x, by omega, h2⟩, fun ⟨x, h1, h2⟩ => ⟨x, ?_, h2⟩⟩
    have := hS.2.2.1 x h1 (by rw [h2.1]; decide)
    have h3 := ixI hS.1.2.2.1.1
    unfold thN
    omega
  rw [e]
  exact k
def KH (σ s : St) (t a b c d dy : Int32) : Prop := TR σ s ∧ SI s ∧ CI σ s ∧ FL σ t a b c d dy ∧ rg (s 0 2) t
/-- done: the class is beside the reference again -/
def OKs (σ s : St) (Q : Int32 → St → Prop) : Prop := ∀ σ', TR σ' s → CI σ' s → FR σ σ' → Q 1 σ'
theorem CI_same {σ σ' s s' : St} (h : CI σ s) (h1 : σ' 24 = σ 24) (h2 : σ' 22 = σ 22) (h3 : s' 9 = s 9) (h4 : s' 10 = s 10) : CI σ' s' := by
  unfold CI cnB at h ⊢
  rw [h1, h2, h3, h4]
  exact h
theorem TR_14 (hT : TR σ s) {j : Nat} {v : Int32} : TR (up2 σ 14 j v) (up2 s 9 j v) := by
  obtain ⟨⟨a1, a2, a3, a4, a5, a6, a7, a8⟩, b1, b2, b3, b4, b5, b6, b7, b8, b9, b10⟩ := hT
  refine ⟨⟨?_, ?_, ?_, ?_, ?_, ?_, ?_, ?_⟩, ?_, ?_, ?_, ?_, ?_, ?_, ?_, ?_, ?_, ?_⟩
  · rw [up2_ne (by decide), up2_ne (by decide)]; exact a1
  · rw [up2_ne (by decide), up2_ne (by decide)]; exact a2
  · rw [up2_ne (by decide), up2_ne (by decide)]; exact a3
  · rw [up2_ne (by decide), up2_ne (by decide)]; exact a4
  · rw [up2_ne (by decide), up2_ne (by decide)]; exact a5
  · rw [up2_ne (by decide), up2_ne (by decide)]; exact a6
  · rw [up2_ne (by decide), up2_ne (by decide)]; exact a7
  · rw [up2_ne (by decide), up2_ne (by decide)]; exact a8
  · rw [up2_eq, up2_eq, b1]
  · rw [up2_ne (by decide), up2_ne (by decide)]; exact b2
  · rw [up2_ne (by decide), up2_ne (by decide)]; exact b3
  · rw [up2_ne (by decide), up2_ne (by decide)]; exact b4
  · rw [up2_ne (by decide), up2_ne (by decide)]; exact b5
  · rw [up2_ne (by decide), up2_ne (by decide)]; exact b6
  · rw [up2_ne (by decide), up2_ne (by decide)]; exact b7
  · rw [up2_ne (by decide), up2_ne (by decide)]; exact b8
  · rw [up2_ne (by decide), up2_ne (by decide)]; exact b9
  · rw [up2_ne (by decide), up2_ne (by decide)]; exact b10

theorem TR_15 (hT : TR σ s) {j : Nat} {v : Int32} : TR (up2 σ 15 j v) (up2 s 10 j v) := by
  obtain ⟨⟨a1, a2, a3, a4, a5, a6, a7, a8⟩, b1, b2, b3, b4, b5, b6, b7, b8, b9, b10⟩ := hT
  refine ⟨⟨?_, ?_, ?_, ?_, ?_, ?_, ?_, ?_⟩, ?_, ?_, ?_, ?_, ?_, ?_, ?_, ?_, ?_, ?_⟩
  · rw [up2_ne (by decide), up2_ne (by decide)]; exact a1
  · rw [up2_ne (by decide), up2_ne (by decide)]; exact a2
  · rw [up2_ne (by decide), up2_ne (by decide)]; exact a3
  · rw [up2_ne (by decide), up2_ne (by decide)]; exact a4
  · rw [up2_ne (by decide), up2_ne (by decide)]; exact a5
  · rw [up2_ne (by decide), up2_ne (by decide)]; exact a6
  · rw [up2_ne (by decide), up2_ne (by decide)]; exact a7
  · rw [up2_ne (by decide), up2_ne (by decide)]; exact a8
  · rw [up2_ne (by decide), up2_ne (by decide)]; exact b1
  · rw [up2_eq, up2_eq, b2]
  · rw [up2_ne (by decide), up2_ne (by decide)]; exact b3
  · rw [up2_ne (by decide), up2_ne (by decide)]; exact b4
  · rw [up2_ne (by decide), up2_ne (by decide)]; exact b5
  · rw [up2_ne (by decide), up2_ne (by decide)]; exact b6
  · rw [up2_ne (by decide), up2_ne (by decide)]; exact b7
  · rw [up2_ne (by decide), up2_ne (by decide)]; exact b8
  · rw [up2_ne (by decide), up2_ne (by decide)]; exact b9
  · rw [up2_ne (by decide), up2_ne (by decide)]; exact b10

theorem TR_16 (hT : TR σ s) {j : Nat} {v : Int32} : TR (up2 σ 16 j v) (up2 s 11 j v) := by
  obtain ⟨⟨a1, a2, a3, a4, a5, a6, a7, a8⟩, b1, b2, b3, b4, b5, b6, b7, b8, b9, b10⟩ := hT
  refine ⟨⟨?_, ?_, ?_, ?_, ?_, ?_, ?_, ?_⟩, ?_, ?_, ?_, ?_, ?_, ?_, ?_, ?_, ?_, ?_⟩
  · rw [up2_ne (by decide), up2_ne (by decide)]; exact a1
  · rw [up2_ne (by decide), up2_ne (by decide)]; exact a2
  · rw [up2_ne (by decide), up2_ne (by decide)]; exact a3
  · rw [up2_ne (by decide), up2_ne (by decide)]; exact a4
  · rw [up2_ne (by decide), up2_ne (by decide)]; exact a5
  · rw [up2_ne (by decide), up2_ne (by decide)]; exact a6
  · rw [up2_ne (by decide), up2_ne (by decide)]; exact a7
  · rw [up2_ne (by decide), up2_ne (by decide)]; exact a8
  · rw [up2_ne (by decide), up2_ne (by decide)]; exact b1
  · rw [up2_ne (by decide), up2_ne (by decide)]; exact b2
  · rw [up2_eq, up2_eq, b3]
  · rw [up2_ne (by decide), up2_ne (by decide)]; exact b4
  · rw [up2_ne (by decide), up2_ne (by decide)]; exact b5
  · rw [up2_ne (by decide), up2_ne (by decide)]; exact b6
  · rw [up2_ne (by decide), up2_ne (by decide)]; exact b7
  · rw [up2_ne (by decide), up2_ne (by decide)]; exact b8
  · rw [up2_ne (by decide), up2_ne (by decide)]; exact b9
  · rw [up2_ne (by decide), up2_ne (by decide)]; exact b10

theorem TR_17 (hT : TR σ s) {j : Nat} {v : Int32} : TR (up2 σ 17 j v) (up2 s 12 j v) := by
  obtain ⟨⟨a1, a2, a3, a4, a5, a6, a7, a8⟩, b1, b2, b3, b4, b5, b6, b7, b8, b9, b10⟩ := hT
  refine ⟨⟨?_, ?_, ?_, ?_, ?_, ?_, ?_, ?_⟩, ?_, ?_, ?_, ?_, ?_, ?_, ?_, ?_, ?_, ?_⟩
  · rw [up2_ne (by decide), up2_ne (by decide)]; exact a1
  · rw [up2_ne (by decide), up2_ne (by decide)]; exact a2
  · rw [up2_ne (by decide), up2_ne (by decide)]; exact a3
  · rw [up2_ne (by decide), up2_ne (by decide)]; exact a4
  · rw [up2_ne (by decide), up2_ne (by decide)]; exact a5
  · rw [up2_ne (by decide), up2_ne (by decide)]; exact a6
  · rw [up2_ne (by decide), up2_ne (by decide)]; exact a7
  · rw [up2_ne (by decide), up2_ne (by decide)]; exact a8
  · rw [up2_ne (by decide), up2_ne (by decide)]; exact b1
  · rw [up2_ne (by decide), up2_ne (by decide)]; exact b2
  · rw [up2_ne (by decide), up2_ne (by decide)]; exact b3
  · rw [up2_eq, up2_eq, b4]
  · rw [up2_ne (by decide), up2_ne (by decide)]; exact b5
  · rw [up2_ne (by decide), up2_ne (by decide)]; exact b6
  · rw [up2_ne (by decide), up2_ne (by decide)]; exact b7
  · rw [up2_ne (by decide), up2_ne (by decide)]; exact b8
  · rw [up2_ne (by decide), up2_ne (by decide)]; exact b9
  · rw [up2_ne (by decide), up2_ne (by decide)]; exact b10

theorem TR_18 (hT : TR σ s) {j : Nat} {v : Int32} : TR (up2 σ 18 j v) (up2 s 13 j v) := by
  obtain ⟨⟨a1, a2, a3, a4, a5, a6, a7, a8⟩, b1, b2, b3, b4, b5, b6, b7, b8, b9, b10⟩ := hT
  refine ⟨⟨?_, ?_, ?_, ?_, ?_, ?_, ?_, ?_⟩, ?_, ?_, ?_, ?_, ?_, ?_, ?_, ?_, ?_, ?_⟩
  · rw [up2_ne (by decide), up2_ne (by decide)]; exact a1
  · rw [up2_ne (by decide), up2_ne (by decide)]; exact a2
  · rw [up2_ne (by decide), up2_ne (by decide)]; exact a3
  · rw [up2_ne (by decide), up2_ne (by decide)]; exact a4
  · rw [up2_ne (by decide), up2_ne (by decide)]; exact a5
  · rw [up2_ne (by decide), up2_ne (by decide)]; exact a6
  · rw [up2_ne (by decide), up2_ne (by decide)]; exact a7
  · rw [up2_ne (by decide), up2_ne (by decide)]; exact a8
  · rw [up2_ne (by decide), up2_ne (by decide)]; exact b1
  · rw [up2_ne (by decide), up2_ne (by decide)]; exact b2
  · rw [up2_ne (by decide), up2_ne (by decide)]; exact b3
  · rw [up2_ne (by decide), up2_ne (by decide)]; exact b4
  · rw [up2_eq, up2_eq, b5]
  · rw [up2_ne (by decide), up2_ne (by decide)]; exact b6
  · rw [up2_ne (by decide), up2_ne (by decide)]; exact b7
  · rw [up2_ne (by decide), up2_ne (by decide)]; exact b8
  · rw [up2_ne (by decide), up2_ne (by decide)]; exact b9
  · rw [up2_ne (by decide), up2_ne (by decide)]; exact b10

theorem TR_19 (hT : TR σ s) {j : Nat} {v : Int32} : TR (up2 σ 19 j v) (up2 s 14 j v) := by
  obtain ⟨⟨a1, a2, a3, a4, a5, a6, a7, a8⟩, b1, b2, b3, b4, b5, b6, b7, b8, b9, b10⟩ := hT
  refine ⟨⟨?_, ?_, ?_, ?_, ?_, ?_, ?_, ?_⟩, ?_, ?_, ?_, ?_, ?_, ?_, ?_, ?_, ?_, ?_⟩
  · rw [up2_ne (by decide), up2_ne (by decide)]; exact a1
  · rw [up2_ne (by decide), up2_ne (by decide)]; exact a2
  · rw [up2_ne (by decide), up2_ne (by decide)]; exact a3
  · rw [up2_ne (by decide), up2_ne (by decide)]; exact a4
  · rw [up2_ne (by decide), up2_ne (by decide)]; exact a5
  · rw [up2_ne (by decide), up2_ne (by decide)]; exact a6
  · rw [up2_ne (by decide), up2_ne (by decide)]; exact a7
  · rw [up2_ne (by decide), up2_ne (by decide)]; exact a8
  · rw [up2_ne (by decide), up2_ne (by decide)]; exact b1
  · rw [up2_ne (by decide), up2_ne (by decide)]; exact b2
  · rw [up2_ne (by decide), up2_ne (by decide)]; exact b3
  · rw [up2_ne (by decide), up2_ne (by decide)]; exact b4
  · rw [up2_ne (by decide), up2_ne (by decide)]; exact b5
  · rw [up2_eq, up2_eq, b6]
  · rw [up2_ne (by decide), up2_ne (by decide)]; exact b7
  · rw [up2_ne (by decide), up2_ne (by decide)]; exact b8
  · rw [up2_ne (by decide), up2_ne (by decide)]; exact b9
  · rw [up2_ne (by decide), up2_ne (by decide)]; exact b10

theorem TR_20 (hT : TR σ s) {j : Nat} {v : Int32} : TR (up2 σ 20 j v) (up2 s 15 j v) := by
  obtain ⟨⟨a1, a2, a3, a4, a5, a6, a7, a8⟩, b1, b2, b3, b4, b5, b6, b7, b8, b9, b10⟩ := hT
  refine ⟨⟨?_, ?_, ?_, ?_, ?_, ?_, ?_, ?_⟩, ?_, ?_, ?_, ?_, ?_, ?_, ?_, ?_, ?_, ?_⟩
  · rw [up2_ne (by decide), up2_ne (by decide)]; exact a1
  · rw [up2_ne (by decide), up2_ne (by decide)]; exact a2
  · rw [up2_ne (by decide), up2_ne (by decide)]; exact a3
  · rw [up2_ne (by decide), up2_ne (by decide)]; exact a4
  · rw [up2_ne (by decide), up2_ne (by decide)]; exact a5
  · rw [up2_ne (by decide), up2_ne (by decide)]; exact a6
  · rw [up2_ne (by decide), up2_ne (by decide)]; exact a7
  · rw [up2_ne (by decide), up2_ne (by decide)]; exact a8
  · rw [up2_ne (by decide), up2_ne (by decide)]; exact b1
  · rw [up2_ne (by decide), up2_ne (by decide)]; exact b2
  · rw [up2_ne (by decide), up2_ne (by decide)]; exact b3
  · rw [up2_ne (by decide), up2_ne (by decide)]; exact b4
  · rw [up2_ne (by decide), up2_ne (by decide)]; exact b5
  · rw [up2_ne (by decide), up2_ne (by decide)]; exact b6
  · rw [up2_eq, up2_eq, b7]
  · rw [up2_ne (by decide), up2_ne (by decide)]; exact b8
  · rw [up2_ne (by decide), up2_ne (by decide)]; exact b9
  · rw [up2_ne (by decide), up2_ne (by decide)]; exact b10

theorem TR_21 (hT : TR σ s) {j : Nat} {v : Int32} : TR (up2 σ 21 j v) (up2 s 16 j v) := by
  obtain ⟨⟨a1, a2, a3, a4, a5, a6, a7, a8⟩, b1, b2, b3, b4, b5, b6, b7, b8, b9, b10⟩ := hT
  refine ⟨⟨?_, ?_, ?_, ?_, ?_, ?_, ?_, ?_⟩, ?_, ?_, ?_, ?_, ?_, ?_, ?_, ?_, ?_, ?_⟩
  · rw [up2_ne (by decide), up2_ne (by decide)]; exact a1
  · rw [up2_ne (by decide), up2_ne (by decide)]; exact a2
  · rw [up2_ne (by decide), up2_ne (by decide)]; exact a3
  · rw [up2_ne (by decide), up2_ne (by decide)]; exact a4
  · rw [up2_ne (by decide), up2_ne (by decide)]; exact a5
  · rw [up2_ne (by decide), up2_ne (by decide)]; exact a6
  · rw [up2_ne (by decide), up2_ne (by decide)]; exact a7
  · rw [up2_ne (by decide), up2_ne (by decide)]; exact a8
  · rw [up2_ne (by decide), up2_ne (by decide)]; exact b1
  · rw [up2_ne (by decide), up2_ne (by decide)]; exact b2
  · rw [up2_ne (by decide), up2_ne (by decide)]; exact b3
  · rw [up2_ne (by decide), up2_ne (by decide)]; exact b4
  · rw [up2_ne (by decide), up2_ne (by decide)]; exact b5
  · rw [up2_ne (by decide), up2_ne (by decide)]; exact b6
  · rw [up2_ne (by decide), up2_ne (by decide)]; exact b7
  · rw [up2_eq, up2_eq, b8]
  · rw [up2_ne (by decide), up2_ne (by decide)]; exact b9
  · rw [up2_ne (by decide), up2_ne (by decide)]; exact b10

theorem TR_23 (hT : TR σ s) {j : Nat} {v : Int32} : TR (up2 σ 23 j v) (up2 s 17 j v) := by
  obtain ⟨⟨a1, a2, a3, a4, a5, a6, a7, a8⟩, b1, b2, b3, b4, b5, b6, b7, b8, b9, b10⟩ := hT
  refine ⟨⟨?_, ?_, ?_, ?_, ?_, ?_, ?_, ?_⟩, ?_, ?_, ?_, ?_, ?_, ?_, ?_, ?_, ?_, ?_⟩
  · rw [up2_ne (by decide), up2_ne (by decide)]; exact a1
  · rw [up2_ne (by decide), up2_ne (by decide)]; exact a2
  · rw [up2_ne (by decide), up2_ne (by decide)]; exact a3
  · rw [up2_ne (by decide), up2_ne (by decide)]; exact a4
  · rw [up2_ne (by decide), up2_ne (by decide)]; exact a5
  · rw [up2_ne (by decide), up2_ne (by decide)]; exact a6
  · rw [up2_ne (by decide), up2_ne (by decide)]; exact a7
  · rw [up2_ne (by decide), up2_ne (by decide)]; exact a8
  · rw [up2_ne (by decide), up2_ne (by decide)]; exact b1
  · rw [up2_ne (by decide), up2_ne (by decide)]; exact b2
  · rw [up2_ne (by decide), up2_ne (by decide)]; exact b3
  · rw [up2_ne (by decide), up2_ne (by decide)]; exact b4
  · rw [up2_ne (by decide), up2_ne (by decide)]; exact b5
  · rw [up2_ne (by decide), up2_ne (by decide)]; exact b6
  · rw [up2_ne (by decide), up2_ne (by decide)]; exact b7
  · rw [up2_ne (by decide), up2_ne (by decide)]; exact b8
  · rw [up2_eq, up2_eq, b9]
  · rw [up2_ne (by decide), up2_ne (by decide)]; exact b10

theorem TR_25 (hT : TR σ s) {j : Nat} {v : Int32} : TR (up2 σ 25 j v) (up2 s 19 j v) := by
  obtain ⟨⟨a1, a2, a3, a4, a5, a6, a7, a8⟩, b1, b2, b3, b4, b5, b6, b7, b8, b9, b10⟩ := hT
  refine ⟨⟨?_, ?_, ?_, ?_, ?_, ?_, ?_, ?_⟩, ?_, ?_, ?_, ?_, ?_, ?_, ?_, ?_, ?_, ?_⟩
  · rw [up2_ne (by decide), up2_ne (by decide)]; exact a1
  · rw [up2_ne (by decide), up2_ne (by decide)]; exact a2
  · rw [up2_ne (by decide), up2_ne (by decide)]; exact a3
  · rw [up2_ne (by decide), up2_ne (by decide)]; exact a4
  · rw [up2_ne (by decide), up2_ne (by decide)]; exact a5
  · rw [up2_ne (by decide), up2_ne (by decide)]; exact a6
  · rw [up2_ne (by decide), up2_ne (by decide)]; exact a7
  · rw [up2_ne (by decide), up2_ne (by decide)]; exact a8
  · rw [up2_ne (by decide), up2_ne (by decide)]; exact b1
  · rw [up2_ne (by decide), up2_ne (by decide)]; exact b2
  · rw [up2_ne (by decide), up2_ne (by decide)]; exact b3
  · rw [up2_ne (by decide), up2_ne (by decide)]; exact b4
  · rw [up2_ne (by decide), up2_ne (by decide)]; exact b5
  · rw [up2_ne (by decide), up2_ne (by decide)]; exact b6
  · rw [up2_ne (by decide), up2_ne (by decide)]; exact b7
  · rw [up2_ne (by decide), up2_ne (by decide)]; exact b8
  · rw [up2_ne (by decide), up2_ne (by decide)]; exact b9
  · rw [up2_eq, up2_eq, b10]

theorem TR_was (hT : TR σ s) {j : Nat} {v : Int32} : TR σ (up2 s 18 j v) := by
  obtain ⟨⟨a1, a2, a3, a4, a5, a6, a7, a8⟩, b1, b2, b3, b4, b5, b6, b7, b8, b9, b10⟩ := hT
  refine ⟨⟨?_, ?_, ?_, ?_, ?_, ?_, ?_, ?_⟩, ?_, ?_, ?_, ?_, ?_, ?_, ?_, ?_, ?_, ?_⟩
  · rw [up2_ne (by decide)]; exact a1
  · rw [up2_ne (by decide)]; exact a2
  · rw [up2_ne (by decide)]; exact a3
  · rw [up2_ne (by decide)]; exact a4
  · rw [up2_ne (by decide)]; exact a5
  · rw [up2_ne (by decide)]; exact a6
  · rw [up2_ne (by decide)]; exact a7
  · rw [up2_ne (by decide)]; exact a8
  · rw [up2_ne (by decide)]; exact b1
  · rw [up2_ne (by decide)]; exact b2
  · rw [up2_ne (by decide)]; exact b3
  · rw [up2_ne (by decide)]; exact b4
  · rw [up2_ne (by decide)]; exact b5
  · rw [up2_ne (by decide)]; exact b6
  · rw [up2_ne (by decide)]; exact b7
  · rw [up2_ne (by decide)]; exact b8
  · rw [up2_ne (by decide)]; exact b9
  · rw [up2_ne (by decide)]; exact b10

theorem TR_f (hT : TR σ s) {j : Nat} {v : Int32} : TR (up2 σ 13 j v) s := by
  obtain ⟨⟨a1, a2, a3, a4, a5, a6, a7, a8⟩, b1, b2, b3, b4, b5, b6, b7, b8, b9, b10⟩ := hT
  refine ⟨⟨?_, ?_, ?_, ?_, ?_, ?_, ?_, ?_⟩, ?_, ?_, ?_, ?_, ?_, ?_, ?_, ?_, ?_, ?_⟩
  · rw [up2_ne (by decide)]; exact a1
  · rw [up2_ne (by decide)]; exact a2
  · rw [up2_ne (by decide)]; exact a3
  · rw [up2_ne (by decide)]; exact a4
  · rw [up2_ne (by decide)]; exact a5
  · rw [up2_ne (by decide)]; exact a6
  · rw [up2_ne (by decide)]; exact a7
  · rw [up2_ne (by decide)]; exact a8
  · rw [up2_ne (by decide)]; exact b1
  · rw [up2_ne (by decide)]; exact b2
  · rw [up2_ne (by decide)]; exact b3
  · rw [up2_ne (by decide)]; exact b4
  · rw [up2_ne (by decide)]; exact b5
  · rw [up2_ne (by decide)]; exact b6
  · rw [up2_ne (by decide)]; exact b7
  · rw [up2_ne (by decide)]; exact b8
  · rw [up2_ne (by decide)]; exact b9
  · rw [up2_ne (by decide)]; exact b10

theorem mvE_up18 (s : St) (x u w : Int32) (j : Nat) (v : Int32) : up2 (mvE s x u w) 18 j v = mvE (up2 s 18 j v) x u w := by
  funext k
  by_cases h9 : k = 9
  · subst h9; rw [up2_ne (by decide), mvE_9, mvE_9, up2_ne (by decide)]
  · by_cases h10 : k = 10
    · subst h10; rw [up2_ne (by decide), mvE_10, mvE_10, up2_ne (by decide)]
    · rw [mvE_o _ _ _ _ h9 h10]
      by_cases h : k = 18
      · subst h; rw [up2_eq, up2_eq, mvE_o _ _ _ _ (by decide) (by decide)]
      · rw [up2_ne h, up2_ne h, mvE_o _ _ _ _ h9 h10]
theorem dE_1 : dE s 1 t a c d = mvE (up2 s 18 (ix t) 1) t 1 c := rfl
theorem dE_2 : dE s 2 t a c d = up2 (mvE s t 2 c) 13 (ix t) d := rfl
theorem dE_3 : dE s 3 t a c d = mvE s t 2 d := rfl
theorem dE_4 : dE s 4 t a c d = up2 (mvE s t 1 c) 13 (ix t) (-1) := rfl
theorem dE_5 : dE s 5 t a c d = mvE s t 1 c := rfl
theorem dE_6 : dE s 6 t a c d = mvE s t 3 c := rfl
theorem dE_7 : dE s 7 t a c d = (if s 9 (upx s (ix t)) = 2 then mvE s t 2 (s 10 (upx s (ix t))) else mvE s t 1 c) := rfl
theorem dE_8 : dE s 8 t a c d = up2 (up2 s 12 (ix t) c) 19 (ix c) 1 := rfl
theorem dE_9 : dE s 9 t a c d = up2 s 12 (ix t) (-1) := rfl
theorem dE_10 : dE s 10 t a c d = s := rfl
theorem dE_11 : dE s 11 t a c d = up2 (up2 (mvE (up2 (up2 s 18 (ix c) 1) 17 (ix c) t) c 2 a) 11 (ix c) d) 11 (ix t) (s 11 (ix t) - d) := rfl
theorem dE_12 : dE s 12 t a c d = mvE (up2 (up2 s 18 (ix c) 1) 17 (ix c) t) c 2 a := rfl
theorem dE_13 : dE s 13 t a c d = up2 s 11 (ix t) (s 11 (ix t) - d) := rfl
theorem dE_14 : dE s 14 t a c d = up2 s 14 (ix t) c := rfl
theorem dE_15 : dE s 15 t a c d = up2 s 15 (ix t) 1 := rfl
theorem dE_16 : dE s 16 t a c d = up2 s 16 (ix t) (s 16 (ix t) ^^^ ((1 : Int32) <<< (c &&& 31))) := rfl
theorem dE_17 : dE s 17 t a c d = up2 s 16 (ix t) (s 16 (ix t) ^^^ ((1 : Int32) <<< (c &&& 31))) := rfl
theorem dE_18 : dE s 18 t a c d = mvE s t 4 (-1) := rfl
theorem dE_19 : dE s 19 t a c d = (if d = -1 then mvE s t 1 c else mvE s t 2 d) := rfl
theorem k_comeIn (H : KH σ s t a b c d dy) (h1 : q1 s t a b c d → OKs σ (dE s 1 t a c d) Q) (h0 : ¬ q1 s t a b c d → Q 0 σ) : wp_X3_comeIn σ Q := by
  obtain ⟨hT, hS, hC, hF, ht⟩ := H
  have hI := SC_of hT hS.1
  have hv := (th_lt hS.1 ht).2
  have em : ∀ x, (s 4 (ix x) = 5) = mny s x := fun _ => rfl
  have ed : ∀ x : Int32, (¬ x < 0 ∧ ¬ 100000 < x) = day_ x := fun _ => rfl
  unfold wp_X3_comeIn 
  simp only [hF.1, hF.2.1, hF.2.2.1, hF.2.2.2.1, hF.2.2.2.2.1, hF.2.2.2.2.2, hv, true_and, s_isMoneyBag hI, s_keepersServe hT hS.1 hF, s_keepersServe1 hT hS.1 hF, s_keepersServe0 hT hS.1 hF, s_isHand, s_isDay, s_isThing, s_isBag hI, s_isOfKind hI, s_isGivenOut, s_mayLieAt hT hS.1 hC hF ht, s_isAt hT hv, s_bagAround hT hv, ifc, bI_0, nmS]
  try simp only [hT.1.1, hT.1.2.2.1, hT.1.2.2.2.2.2.1, hT.1.2.2.2.2.2.2.1, hT.2.1, hT.2.2.1, hT.2.2.2.1, hT.2.2.2.2.1, hT.2.2.2.2.2.1, hT.2.2.2.2.2.2.1, hT.2.2.2.2.2.2.2.1, hT.2.2.2.2.2.2.2.2.1, hT.2.2.2.2.2.2.2.2.2.1, hT.2.2.2.2.2.2.2.2.2.2, ht, true_and, Classical.not_not, em, ed]
  by_cases hc : q1 s t a b c d
  · have hp := h1 hc
    rw [dE_1] at hp
    obtain ⟨c1, c2, c3, c4, c5, c6⟩ := hc
    simp only [c1, c2, c3, c4, c5, c6, true_implies, not_true_eq_false, false_implies, and_true, true_and, not_false_eq_true, and_self, or_true, true_or]
    refine c_move hT hS hC hv (fun _ => c6.1) (fun e => absurd e (by decide)) (fun σ1 T1 C1 F1 e13 => ?_)
    refine hp σ1 ?_ (CI_same C1 rfl rfl ?_ ?_) F1
    · have := TR_was T1 (j := ix t) (v := 1)
      have e : up2 (mvE s t 1 c) 18 (ix t) 1 = mvE (up2 s 18 (ix t) 1) t 1 c := mvE_up18 s t 1 c (ix t) 1
      rw [← e]; exact this
    · rw [mvE_9, mvE_9, up2_ne (by decide)]
    · rw [mvE_10, mvE_10, up2_ne (by decide)]
  · have hq := h0 hc
    simp only [hq, implies_true, true_and, and_true]
    intro g0 g1 g2 g3 g4 g5
    exact absurd ⟨g0, g1, g2, g3, g4, g5⟩ hc

theorem k_goOut (H : KH σ s t a b c d dy) (h1 : q2 s t a b c d → OKs σ (dE s 2 t a c d) Q) (h0 : ¬ q2 s t a b c d → Q 0 σ) : wp_X3_goOut σ Q := by
  obtain ⟨hT, hS, hC, hF, ht⟩ := H
  have hI := SC_of hT hS.1
  have hv := (th_lt hS.1 ht).2
  have em : ∀ x, (s 4 (ix x) = 5) = mny s x := fun _ => rfl
  have ed : ∀ x : Int32, (¬ x < 0 ∧ ¬ 100000 < x) = day_ x := fun _ => rfl
  unfold wp_X3_goOut 
  simp only [hF.1, hF.2.1, hF.2.2.1, hF.2.2.2.1, hF.2.2.2.2.1, hF.2.2.2.2.2, hv, true_and, s_isMoneyBag hI, s_keepersServe hT hS.1 hF, s_keepersServe1 hT hS.1 hF, s_keepersServe0 hT hS.1 hF, s_isHand, s_isDay, s_isThing, s_isBag hI, s_isOfKind hI, s_isGivenOut, s_mayLieAt hT hS.1 hC hF ht, s_isAt hT hv, s_bagAround hT hv, ifc, bI_0, nmS]
  try simp only [hT.1.1, hT.1.2.2.1, hT.1.2.2.2.2.2.1, hT.1.2.2.2.2.2.2.1, hT.2.1, hT.2.2.1, hT.2.2.2.1, hT.2.2.2.2.1, hT.2.2.2.2.2.1, hT.2.2.2.2.2.2.1, hT.2.2.2.2.2.2.2.1, hT.2.2.2.2.2.2.2.2.1, hT.2.2.2.2.2.2.2.2.2.1, hT.2.2.2.2.2.2.2.2.2.2, ht, true_and, Classical.not_not, em, ed]
  by_cases hc : q2 s t a b c d
  · have hp := h1 hc
    rw [dE_2] at hp
    obtain ⟨c1, c2, c3, c4⟩ := hc
    simp only [c1, c2, c3, c4, true_implies, not_true_eq_false, false_implies, and_true, true_and, not_false_eq_true, and_self, or_true, true_or]
    refine c_move hT hS hC hv (fun e => absurd e (by decide)) (fun e => absurd e (by decide)) (fun σ1 T1 C1 F1 e13 => ?_)
    rw [e13, hF.1, hF.2.2.2.2.1]
    exact ⟨hv, hp _ (TR_18 T1) (CI_same C1 (up2_ne (by decide)) (up2_ne (by decide)) (up2_ne (by decide)) (up2_ne (by decide))) (F1.up (by decide) (by decide))⟩
  · have hq := h0 hc
    simp only [hq, implies_true, true_and, and_true]
    intro g0 g1 g2 g3
    exact absurd ⟨g0, g1, g2, g3⟩ hc

theorem k_goOn (H : KH σ s t a b c d dy) (h1 : q3 s t c d → OKs σ (dE s 3 t a c d) Q) (h0 : ¬ q3 s t c d → Q 0 σ) : wp_X3_goOn σ Q := by
  obtain ⟨hT, hS, hC, hF, ht⟩ := H
  have hI := SC_of hT hS.1
  have hv := (th_lt hS.1 ht).2
  have em : ∀ x, (s 4 (ix x) = 5) = mny s x := fun _ => rfl
  have ed : ∀ x : Int32, (¬ x < 0 ∧ ¬ 100000 < x) = day_ x := fun _ => rfl
  unfold wp_X3_goOn 
  simp only [hF.1, hF.2.1, hF.2.2.1, hF.2.2.2.1, hF.2.2.2.2.1, hF.2.2.2.2.2, hv, true_and, s_isMoneyBag hI, s_keepersServe hT hS.1 hF, s_keepersServe1 hT hS.1 hF, s_keepersServe0 hT hS.1 hF, s_isHand, s_isDay, s_isThing, s_isBag hI, s_isOfKind hI, s_isGivenOut, s_mayLieAt hT hS.1 hC hF ht, s_isAt hT hv, s_bagAround hT hv, ifc, bI_0, nmS]
  try simp only [hT.1.1, hT.1.2.2.1, hT.1.2.2.2.2.2.1, hT.1.2.2.2.2.2.2.1, hT.2.1, hT.2.2.1, hT.2.2.2.1, hT.2.2.2.2.1, hT.2.2.2.2.2.1, hT.2.2.2.2.2.2.1, hT.2.2.2.2.2.2.2.1, hT.2.2.2.2.2.2.2.2.1, hT.2.2.2.2.2.2.2.2.2.1, hT.2.2.2.2.2.2.2.2.2.2, ht, true_and, Classical.not_not, em, ed]
  by_cases hc : q3 s t c d
  · have hp := h1 hc
    rw [dE_3] at hp
    obtain ⟨c1, c2, c3⟩ := hc
    simp only [c1, c2, c3, true_implies, not_true_eq_false, false_implies, and_true, true_and, not_false_eq_true, and_self, or_true, true_or]
    refine c_move hT hS hC hv (fun e => absurd e (by decide)) (fun e => absurd e (by decide)) (fun σ1 T1 C1 F1 e13 => ?_)
    exact hp σ1 T1 C1 F1
  · have hq := h0 hc
    simp only [hq, implies_true, true_and, and_true]
    intro g0 g1 g2
    exact absurd ⟨g0, g1, g2⟩ hc

theorem k_comeBack (H : KH σ s t a b c d dy) (h1 : q4 s t a b c d → OKs σ (dE s 4 t a c d) Q) (h0 : ¬ q4 s t a b c d → Q 0 σ) : wp_X3_comeBack σ Q := by
  obtain ⟨hT, hS, hC, hF, ht⟩ := H
  have hI := SC_of hT hS.1
  have hv := (th_lt hS.1 ht).2
  have em : ∀ x, (s 4 (ix x) = 5) = mny s x := fun _ => rfl
  have ed : ∀ x : Int32, (¬ x < 0 ∧ ¬ 100000 < x) = day_ x := fun _ => rfl
  unfold wp_X3_comeBack 
  simp only [hF.1, hF.2.1, hF.2.2.1, hF.2.2.2.1, hF.2.2.2.2.1, hF.2.2.2.2.2, hv, true_and, s_isMoneyBag hI, s_keepersServe hT hS.1 hF, s_keepersServe1 hT hS.1 hF, s_keepersServe0 hT hS.1 hF, s_isHand, s_isDay, s_isThing, s_isBag hI, s_isOfKind hI, s_isGivenOut, s_mayLieAt hT hS.1 hC hF ht, s_isAt hT hv, s_bagAround hT hv, ifc, bI_0, nmS]
  try simp only [hT.1.1, hT.1.2.2.1, hT.1.2.2.2.2.2.1, hT.1.2.2.2.2.2.2.1, hT.2.1, hT.2.2.1, hT.2.2.2.1, hT.2.2.2.2.1, hT.2.2.2.2.2.1, hT.2.2.2.2.2.2.1, hT.2.2.2.2.2.2.2.1, hT.2.2.2.2.2.2.2.2.1, hT.2.2.2.2.2.2.2.2.2.1, hT.2.2.2.2.2.2.2.2.2.2, ht, true_and, Classical.not_not, em, ed]
  by_cases hc : q4 s t a b c d
  · have hp := h1 hc
    rw [dE_4] at hp
    obtain ⟨c1, c2, c3⟩ := hc
    simp only [c1, c2, c3, true_implies, not_true_eq_false, false_implies, and_true, true_and, not_false_eq_true, and_self, or_true, true_or]
    refine c_move hT hS hC hv (fun _ => c3.1) (fun e => absurd e (by decide)) (fun σ1 T1 C1 F1 e13 => ?_)
    rw [e13, hF.1]
    exact ⟨hv, hp _ (TR_18 T1) (CI_same C1 (up2_ne (by decide)) (up2_ne (by decide)) (up2_ne (by decide)) (up2_ne (by decide))) (F1.up (by decide) (by decide))⟩
  · have hq := h0 hc
    simp only [hq, implies_true, true_and, and_true]
    intro g0 g1 g2
    exact absurd ⟨g0, g1, g2⟩ hc

theorem k_putElsewhere (H : KH σ s t a b c d dy) (h1 : q5 s t a b c → OKs σ (dE s 5 t a c d) Q) (h0 : ¬ q5 s t a b c → Q 0 σ) : wp_X3_putElsewhere σ Q := by
  obtain ⟨hT, hS, hC, hF, ht⟩ := H
  have hI := SC_of hT hS.1
  have hv := (th_lt hS.1 ht).2
  have em : ∀ x, (s 4 (ix x) = 5) = mny s x := fun _ => rfl
  have ed : ∀ x : Int32, (¬ x < 0 ∧ ¬ 100000 < x) = day_ x := fun _ => rfl
  unfold wp_X3_putElsewhere 
  simp only [hF.1, hF.2.1, hF.2.2.1, hF.2.2.2.1, hF.2.2.2.2.1, hF.2.2.2.2.2, hv, true_and, s_isMoneyBag hI, s_keepersServe hT hS.1 hF, s_keepersServe1 hT hS.1 hF, s_keepersServe0 hT hS.1 hF, s_isHand, s_isDay, s_isThing, s_isBag hI, s_isOfKind hI, s_isGivenOut, s_mayLieAt hT hS.1 hC hF ht, s_isAt hT hv, s_bagAround hT hv, ifc, bI_0, nmS]
  try simp only [hT.1.1, hT.1.2.2.1, hT.1.2.2.2.2.2.1, hT.1.2.2.2.2.2.2.1, hT.2.1, hT.2.2.1, hT.2.2.2.1, hT.2.2.2.2.1, hT.2.2.2.2.2.1, hT.2.2.2.2.2.2.1, hT.2.2.2.2.2.2.2.1, hT.2.2.2.2.2.2.2.2.1, hT.2.2.2.2.2.2.2.2.2.1, hT.2.2.2.2.2.2.2.2.2.2, ht, true_and, Classical.not_not, em, ed]
  by_cases hc : q5 s t a b c
  · have hp := h1 hc
    rw [dE_5] at hp
    obtain ⟨c1, c2, c3⟩ := hc
    simp only [c1, c2, c3, true_implies, not_true_eq_false, false_implies, and_true, true_and, not_false_eq_true, and_self, or_true, true_or]
    refine c_move hT hS hC hv (fun _ => c3.1) (fun e => absurd e (by decide)) (fun σ1 T1 C1 F1 e13 => ?_)
    exact hp σ1 T1 C1 F1
  · have hq := h0 hc
    simp only [hq, implies_true, true_and, and_true]
    intro g0 g1 g2
    exact absurd ⟨g0, g1, g2⟩ hc

end KINDS
