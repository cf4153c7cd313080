section MOD2
variable {s : St} {Q : Int32 → St → Prop} {t a b c d dy : Int32}
theorem lpMf (hS : SI s) {o : Nat → Nat} (o1 : ∀ x, x < 60 → ¬ s 17 x = -1 → rg (s 0 2) (s 17 x) ∧ ¬ s 9 (ix (s 17 x)) = 0 ∧ o (ix (s 17 x)) < o x) {y : Int32} (hy : vp_in y 60) : ∀ (g n x : Nat), x < 60 → o x + 1 < g → o x < n → Q (bI (x = ix y ∨ ofN s n x y)) s → lp_X6_isOf_2 Q g y (nI x) s := by
  intro g
  induction g with
  | zero => intro n x _ h; exact absurd h (Nat.not_lt_zero _)
  | succ g ih =>
    intro n x hx hg hn hq
    show b_X6_isOf_2 Q (lp_X6_isOf_2 Q g) y (nI x) s
    unfold b_X6_isOf_2 j_X6_isOf_21
    have hv : vp_in (nI x) 60 := vp_in_nI hx (by decide)
    have ey : y = nI (ix y) := vin_nI hy
    have hyl := vin_lt hy
    rw [if_neg (nI_pos (by omega))]
    by_cases e : x = ix y
    · have e2 : nI x = y := by rw [ey, e]
      rw [if_pos e2, if_pos e2]
      rw [bI_t (Or.inl e)] at hq
      exact hq
    · have ne : ¬ nI x = y := fun q => e (by rw [← q, ix_nI (by omega)])
      rw [if_neg ne]
      simp only [hv, true_and, nm, ix_nI (show x < 2 ^ 31 by omega)]
      cases n with
      | zero => omega
      | succ n =>
        simp only [ofN] at hq
        by_cases h1 : s 17 x = -1
        · rw [h1]
          cases g with
          | zero => omega
          | succ g =>
            show b_X6_isOf_2 Q (lp_X6_isOf_2 Q g) y (-1) s
            unfold b_X6_isOf_2 j_X6_isOf_21
            rw [if_pos (by decide)]
            have ne2 : ¬ (-1 : Int32) = y := fun q => by
              have := (vp_in_iff.mp hy).1
              rw [← q, tm1_] at this
              omega
            rw [if_neg ne2]
            rw [bI_f (fun k => by
              rcases k with k | k
              · exact e k
              · rw [h1] at k; exact not_rg_m1 _ k.1)] at hq
            exact hq
        · obtain ⟨k1, k2, k3⟩ := o1 x hx h1
          obtain ⟨v1, v2⟩ := th_lt hS.1 k1
          have e3 : (x = ix y ∨ (rg (s 0 2) (s 17 x) ∧ (s 17 x = y ∨ ofN s n (ix (s 17 x)) y))) ↔ (ix (s 17 x) = ix y ∨ ofN s n (ix (s 17 x)) y) := by
            constructor
            · rintro (k | ⟨-, k | k⟩)
              · exact absurd k e
              · exact Or.inl (by rw [k])
              · exact Or.inr k
            · rintro (k | k)
              · exact Or.inr ⟨k1, Or.inl (by rw [vin_nI v2, k, ← ey])⟩
              · exact Or.inr ⟨k1, Or.inr k⟩
          rw [bI_congr e3] at hq
          have := ih n (ix (s 17 x)) v1 (by omega) (by omega) hq
          rw [← vin_nI v2] at this
          exact this
theorem m_isOf (hS : SI s) {x : Nat} (hx : x < 60) (h0 : ¬ s 9 x = 0) {y : Int32} (hy : vp_in y 60) (hne : x ≠ ix y) (k : Q (bI (ofN s 60 x y)) s) : wp_X6_isOf s (nI x) y Q := by
  unfold wp_X6_isOf
  obtain ⟨o, o1, o2, o3⟩ := hS.2.2.2.2.2.2.1
  have hlt := o2 x hx h0
  have hle := cntP_le (fun y => ¬ s 9 y = 0) 60
  refine ⟨62, lpMf hS o1 hy 62 60 x hx (by omega) (by omega) ?_⟩
  have e : (x = ix y ∨ ofN s 60 x y) ↔ ofN s 60 x y := ⟨fun q => q.resolve_left hne, Or.inr⟩
  rw [bI_congr e]
  exact k
theorem lpDe (hS : SI s) (ht : vp_in t 60) (ht1 : s 9 (ix t) = 1) (hq1 : (∀ x, x < 60 → s 9 x = 2 → ¬ ofN s 60 x t) → Q 1 (mvE s t 4 (-1))) (hq0 : ¬ (∀ x, x < 60 → s 9 x = 2 → ¬ ofN s 60 x t) → Q 0 s) : ∀ (g n : Nat), n ≤ thN s → thN s - n < g → (∀ x, x < n → s 9 x = 2 → ¬ ofN s 60 x t) → lp_X6_isDestroyed_85 Q g t (nI n) s := by
  intro g
  induction g with
  | zero => intro n _ h; exact absurd h (Nat.not_lt_zero _)
  | succ g ih =>
    intro n hn hg ha
    obtain ⟨t1, t2⟩ := thN_le hS.1
    show b_X6_isDestroyed_85 Q (lp_X6_isDestroyed_85 Q g) t (nI n) s
    unfold b_X6_isDestroyed_85 j_X6_isDestroyed_123
    rw [t2]
    by_cases h : n < thN s
    · rw [if_pos ((nI_ltI (by omega) (by omega)).mpr h), nI_1]
      have stp : ¬ (s 9 n = 2 ∧ ofN s 60 n t) → ∀ x, x < n + 1 → s 9 x = 2 → ¬ ofN s 60 x t := by
        intro k x h1 h2 h3
        rcases Nat.lt_or_ge x n with q | q
        · exact ha x q h2 h3
        · have : x = n := by omega
          subst this; exact k ⟨h2, h3⟩
      by_cases e : nI n = t
      · rw [if_pos e]
        have e2 : n = ix t := by rw [← e, ix_nI (by omega)]
        exact ih (n + 1) h (by omega) (stp (fun k => by rw [e2, ht1] at k; exact absurd k.1 (by decide)))
      · rw [if_neg e]
        have hv : vp_in (nI n) 60 := vp_in_nI (by omega) (by decide)
        refine ⟨hv, ?_⟩
        rw [ix_nI (by omega)]
        by_cases h2 : s 9 n = 2
        · rw [if_pos h2]
          refine m_isOf hS (by omega) (by rw [h2]; decide) ht (fun q => e (by rw [q, ← vin_nI ht])) ?_
          by_cases h5 : ofN s 60 n t
          · rw [bI_t h5, if_neg (by decide)]
            exact hq0 (fun k => k n (by omega) h2 h5)
          · rw [bI_f h5, if_pos rfl]
            exact ih (n + 1) h (by omega) (stp (fun k => h5 k.2))
        · rw [if_neg h2]
          exact ih (n + 1) h (by omega) (stp (fun k => h2 k.1))
    · have e : n = thN s := by omega
      rw [if_neg (fun k => h ((nI_ltI (by omega) (by omega)).mp k)), m_go ht]
      refine hq1 (fun x hx h2 => ?_)
      exact ha x (by rw [e]; exact th_of hS hx (by rw [h2]; decide)) h2
theorem n_destroy (hS : SI s) (ht : rg (s 0 2) t) (h1 : q18 s t a b c dy → Q 1 (dE s 18 t a c d)) (h0 : ¬ q18 s t a b c dy → Q 0 s) : wp_X6_isDestroyed s t a b c dy Q := by
  obtain ⟨hl, hv⟩ := th_lt hS.1 ht
  unfold wp_X6_isDestroyed
  rw [dE_18] at h1
  simp only [m_hasK1 hS.1, m_isHand hS.1, ifc, bI_0, Classical.not_not, hv, true_and]
  refine ⟨fun g => h0 (fun q => g q.1), fun g1 => ⟨fun g => h0 (fun q => g q.2.1), fun g2 => ⟨fun g => h0 (fun q => q.2.2.1 g), fun g3 => ⟨fun g => h0 (fun q => q.2.2.2.1 g), fun g4 => ⟨fun g5 => ⟨fun g => h0 (fun q => q.2.2.2.2.2.1 g), fun g6 => ⟨fun g => h0 (fun q => q.2.2.2.2.2.2.1 g), fun g7 => ⟨fun g8 => m_inside hS ?_, fun g => h0 (fun q => g q.2.2.2.2.2.2.2.1)⟩⟩⟩, fun g => h0 (fun q => g q.2.2.2.2.1)⟩⟩⟩⟩⟩
  have hle : cnB s t ≤ 60 := cntP_le _ _
  have e0 : (0 < nI (cnB s t)) ↔ ¬ cnB s t = 0 := by
    rw [show (0 : Int32) = nI 0 from rfl, nI_ltI (by decide) (by omega)]
    omega
  refine ⟨fun g => h0 (fun q => e0.mp g q.2.2.2.2.2.2.2.2.1), fun g => ?_⟩
  have g9 : cnB s t = 0 := Classical.not_not.mp (fun q => g (e0.mpr q))
  refine ⟨thN s + 1, lpDe hS hv g5 (fun q => h1 ⟨g1, g2, g3, g4, g5, g6, g7, g8, g9, q⟩) (fun q => h0 (fun z => q z.2.2.2.2.2.2.2.2.2)) (thN s + 1) 0 (Nat.zero_le _) (by omega) (fun x h => absurd h (Nat.not_lt_zero _))⟩
theorem n_found (hS : SI s) (ht : rg (s 0 2) t) (hk : kpt s t) (h1 : (q19a s t c d ∨ q19b s t c d) → Q 1 (dE s 19 t a c d)) (h0 : ¬ (q19a s t c d ∨ q19b s t c d) → Q 0 s) : wp_X6_isFound s t c d Q := by
  obtain ⟨hl, hv⟩ := th_lt hS.1 ht
  rw [dE_19] at h1
  have P50 : ¬ q19a s t c d → j_X6_isFound_50 Q t c d s := by
    intro na
    unfold j_X6_isFound_50 j_X6_isFound_85
    simp only [m_isHand hS.1, ifc, bI_0, Classical.not_not, hv, true_and, m_go hv]
    have tl : rg (s 0 0) d → c = -1 → ¬ (s 9 (ix t) = 2 ∧ s 10 (ix t) = d) → Q 1 (mvE s t 2 d) := by
      intro g1 g2 g3
      have := h1 (Or.inr ⟨g2, g1, g3⟩)
      rw [if_neg (fun e => not_rg_m1 (s 0 0) (by rw [← e]; exact g1))] at this
      exact this
    have no : ∀ P : Prop, (q19b s t c d → ¬ P) → P → Q 0 s := fun P h p => h0 (fun q => q.elim na (fun q => h q p))
    refine ⟨fun g1 => ⟨no _ (fun q n => n q.2.1), fun g2 => ⟨fun g3 => ⟨fun g4 => no _ (fun q n => q.2.2 n) ⟨g3, g4⟩, fun g4 => tl g2 g1 (fun q => g4 q.2)⟩, fun g3 => tl g2 g1 (fun q => g3 q.1)⟩⟩, no _ (fun q n => n q.1)⟩
  unfold wp_X6_isFound
  simp only [ifc, hv, true_and]
  have nm1 : c = -1 → ¬ fts s t c := fun e f => not_rg_m1 _ (by rw [← e]; exact f.1.1)
  refine ⟨fun g => P50 (fun q => nm1 g q.2), fun g1 => ⟨fun g2 => ?_, fun g2 => P50 (fun q => g2 q.1)⟩⟩
  have P30 : ¬ (s 9 (ix t) = 1 ∧ s 10 (ix t) = c) → j_X6_isFound_30 Q t c s := by
    intro nn
    unfold j_X6_isFound_30
    refine m_fits hS hv ?_
    by_cases f : fts s t c
    · rw [bI_t f, if_neg (by decide), m_go hv]
      have := h1 (Or.inl ⟨g2, f⟩)
      rw [if_pos g2] at this
      exact this
    · rw [bI_f f, if_pos rfl]
      refine h0 (fun q => ?_)
      rcases q with q | q
      · exact f q.2
      · exact g1 q.1
  refine ⟨fun g3 => ⟨fun g4 => h0 (fun q => ?_), fun g4 => P30 (fun q => g4 q.2)⟩, fun g3 => P30 (fun q => g3 q.1)⟩
  rcases q with q | q
  · exact q.2.1.2 _ hl ⟨g3, g4⟩
  · exact g1 q.1
theorem n_come (hS : SI s) (ht : rg (s 0 2) t) (h1 : q1 s t a b c d → Q 1 (dE s 1 t a c d)) (h0 : ¬ q1 s t a b c d → Q 0 s) : wp_X6_comesIn s t a b c d Q := by
  obtain ⟨hl, hv⟩ := th_lt hS.1 ht
  rw [dE_1] at h1
  have hw : (s 18 (ix t) = 0) ↔ s 9 (ix t) = 0 := by
    rw [hS.2.2.2.1 _ hl]
    by_cases e : s 9 (ix t) = 0
    · simp [e]
    · simp [e]
  have P : ∀ two : Prop, (two ↔ mny s t) → s 9 (ix t) = 0 → ¬ s 4 (ix t) = 2 → ¬ s 4 (ix t) = 3 → j_X6_comesIn_47 Q t c d (bI two) b a s := by
    intro two e g1 g2 g3
    unfold j_X6_comesIn_47
    simp only [m_hasK hS.1, m_isHand hS.1, ifc, bI_0, Classical.not_not, hv, true_and]
    rw [hasK_congr e]
    refine ⟨fun g => h0 (fun q => g q.2.2.2.1), fun g4 => ⟨fun g => h0 (fun q => g q.2.2.2.2.1), fun g5 => m_fits hS hv ?_⟩⟩
    by_cases f : fts s t c
    · rw [bI_t f]
      simp only [nmS]
      refine ⟨fun q => absurd q (by decide), fun _ => ?_⟩
      rw [m_go hv]
      exact h1 ⟨g1, g2, g3, g4, g5, f⟩
    · rw [bI_f f]
      exact ⟨fun _ => h0 (fun q => f q.2.2.2.2.2), fun q => absurd rfl q⟩
  unfold wp_X6_comesIn
  simp only [ifc, hv, true_and, hw]
  refine ⟨fun g1 => ⟨fun g => h0 (fun q => q.2.1 g), fun g2 => ⟨fun g => h0 (fun q => q.2.2.1 g), fun g3 => ⟨fun m => ?_, fun m => ?_⟩⟩⟩, fun g => h0 (fun q => g q.1)⟩
  · have := P True ⟨fun _ => m, fun _ => trivial⟩ g1 g2 g3
    rw [bI_t trivial] at this; exact this
  · have := P False ⟨fun q => q.elim, fun q => m q⟩ g1 g2 g3
    rw [bI_f not_false] at this; exact this
theorem n_from (hS : SI s) (ht : rg (s 0 2) t) (h1 : q7 s t a b c → Q 1 (dE s 7 t a c d)) (h0 : ¬ q7 s t a b c → Q 0 s) : wp_X6_goesFrom s t a b c Q := by
  obtain ⟨hl, hv⟩ := th_lt hS.1 ht
  rw [dE_7] at h1
  unfold wp_X6_goesFrom
  by_cases h3 : s 9 (ix t) = 3
  · obtain ⟨u1, u2, u3⟩ := up_in hS hl h3
    have hg := (hS.2.2.2.2.1 (ix t) hl h3).2
    have P : ∀ two : Prop, (two ↔ (mny s t ∨ mny s (s 10 (ix t)))) → s 12 (upx s (ix t)) = -1 → ¬ s 9 (upx s (ix t)) = 3 → j_X6_goesFrom_71 Q t c (s 10 (ix t)) (bI two) b a s := by
      intro two e g1 g2
      unfold j_X6_goesFrom_71
      simp only [m_hasK hS.1, ifc, bI_0, Classical.not_not, hv, u2, true_and, m_go hv]
      rw [hasK_congr e]
      refine ⟨fun g => h0 (fun q => g q.2.2.1), fun g3 => ⟨fun g4 => ?_, fun g4 => m_fits hS hv ?_⟩⟩
      · have := h1 ⟨h3, g1, g3, Or.inl g4⟩
        rw [if_pos g4] at this; exact this
      · have g5 : s 9 (upx s (ix t)) = 1 := by
          rcases hg with q | q | q
          · exact q
          · exact absurd q g4
          · exact absurd q g2
        by_cases f : fts s t c
        · rw [bI_t f]
          refine ⟨fun q => absurd q (by decide), fun _ => ?_⟩
          have := h1 ⟨h3, g1, g3, Or.inr ⟨g5, f⟩⟩
          rw [if_neg g4] at this; exact this
        · rw [bI_f f]
          refine ⟨fun _ => h0 (fun q => ?_), fun q => absurd rfl q⟩
          rcases q.2.2.2 with q | q
          · exact g4 q
          · exact f q.2
    simp only [ifc, hv, true_and, nm, h3, u2, j_X6_goesFrom_66, not_true_eq_false, false_implies, and_true, true_implies]
    refine ⟨fun g1 => ⟨fun g => h0 (fun q => ?_), fun g2 => ⟨fun m => ?_, fun m => ⟨fun m2 => ?_, fun m2 => ?_⟩⟩⟩, fun g => h0 (fun q => g q.2.1)⟩
    · rcases q.2.2.2 with q | q
      · rw [g] at q; exact absurd q (by decide)
      · rw [g] at q; exact absurd q.1 (by decide)
    · have := P True ⟨fun _ => Or.inl m, fun _ => trivial⟩ g1 g2
      rw [bI_t trivial] at this; exact this
    · have := P True ⟨fun _ => Or.inr m2, fun _ => trivial⟩ g1 g2
      rw [bI_t trivial] at this; exact this
    · have := P False ⟨fun q => q.elim, fun q => q.elim m m2⟩ g1 g2
      rw [bI_f not_false] at this; exact this
  · rw [if_neg h3]
    exact ⟨hv, h0 (fun q => h3 q.1)⟩
end MOD2
