section MOD4
variable {s : St} {Q : Int32 → St → Prop} {t a b c d dy : Int32}
theorem n_seal (hS : SI s) (ht : rg (s 0 2) t) {k : Int32} (hk10 : ¬ k = 10) (h0 : ¬ bg s t → Q 0 s) (h2 : bg s t → mny s t → ¬ hasK s a b True → Q 0 s) (h1 : bg s t → (mny s t → hasK s a b True) → j_X6_isSealing_49 Q k t c s) : wp_X6_isSealing s k t a b c Q := by
  obtain ⟨hl, hv⟩ := th_lt hS.1 ht
  unfold wp_X6_isSealing
  rw [m_isBag hS.1 hv]
  by_cases g1 : bg s t
  · rw [bI_t g1, if_neg (by decide), if_neg hk10]
    refine ⟨hv, ?_⟩
    by_cases m : s 4 (ix t) = 5
    · rw [if_pos m, m_hasK1 hS.1]
      by_cases g2 : hasK s a b True
      · rw [bI_t g2, if_neg (by decide)]; exact h1 g1 (fun _ => g2)
      · rw [bI_f g2, if_pos rfl]; exact h2 g1 m g2
    · rw [if_neg m]; exact h1 g1 (fun q => absurd q m)
  · rw [bI_f g1, if_pos rfl]; exact h0 g1
theorem n_8 (hS : SI s) (ht : rg (s 0 2) t) (h1 : q8 s t a b c → Q 1 (dE s 8 t a c d)) (h0 : ¬ q8 s t a b c → Q 0 s) : wp_X6_isSealing s 8 t a b c Q := by
  obtain ⟨hl, hv⟩ := th_lt hS.1 ht
  rw [dE_8] at h1
  refine n_seal hS ht (by decide) (fun g => h0 (fun q => g q.1)) (fun _ m g => h0 (fun q => g (q.2.2.2.2 m))) (fun g1 g5 => ?_)
  unfold j_X6_isSealing_49
  rw [if_neg (by decide)]
  refine ⟨hv, ?_⟩
  by_cases g2 : s 12 (ix t) = -1
  · rw [if_pos g2, m_isSeal]
    by_cases g3 : isSl s c
    · have hvc : vp_in c 600 := rg_in g3.1 (by decide)
      rw [bI_t g3, if_neg (by decide)]
      refine ⟨hvc, ?_⟩
      by_cases g4 : s 19 (ix c) = 0
      · rw [if_pos g4]
        exact ⟨hv, hvc, h1 ⟨g1, g2, g3, g4, g5⟩⟩
      · rw [if_neg g4]; exact h0 (fun q => g4 q.2.2.2.1)
    · rw [bI_f g3, if_pos rfl]; exact h0 (fun q => g3 q.2.2.1)
  · rw [if_neg g2]; exact h0 (fun q => g2 q.2.1)
theorem n_9 (hS : SI s) (ht : rg (s 0 2) t) (h1 : q9 s t a b c → Q 1 (dE s 9 t a c d)) (h0 : ¬ q9 s t a b c → Q 0 s) : wp_X6_isSealing s 9 t a b c Q := by
  obtain ⟨hl, hv⟩ := th_lt hS.1 ht
  rw [dE_9] at h1
  refine n_seal hS ht (by decide) (fun g => h0 (fun q => g q.1)) (fun _ m g => h0 (fun q => g (q.2.2.2.2 m))) (fun g1 g5 => ?_)
  unfold j_X6_isSealing_49
  rw [if_pos rfl]
  refine ⟨hv, ?_⟩
  by_cases g2 : s 12 (ix t) = -1
  · rw [if_pos g2]; exact h0 (fun q => q.2.1 g2)
  · rw [if_neg g2, m_isIn]
    by_cases g3 : ¬ c < 0 ∧ ¬ 999 < c
    · rw [bI_t g3, if_neg (by decide)]
      exact ⟨hv, h1 ⟨g1, g2, g3.1, g3.2, g5⟩⟩
    · rw [bI_f g3, if_pos rfl]; exact h0 (fun q => g3 ⟨q.2.2.1, q.2.2.2.1⟩)
theorem n_10 (hS : SI s) (ht : rg (s 0 2) t) (h1 : q10 s t c → Q 1 (dE s 10 t a c d)) (h0 : ¬ q10 s t c → Q 0 s) : wp_X6_isSealing s 10 t a b c Q := by
  obtain ⟨hl, hv⟩ := th_lt hS.1 ht
  rw [dE_10] at h1
  unfold wp_X6_isSealing
  rw [m_isBag hS.1 hv]
  by_cases g1 : bg s t
  · rw [bI_t g1, if_neg (by decide), if_pos rfl, m_isIn]
    by_cases g3 : ¬ c < -1 ∧ ¬ 999 < c
    · rw [bI_t g3]; exact h1 ⟨g1, g3⟩
    · rw [bI_f g3]; exact h0 (fun q => g3 q.2)
  · rw [bI_f g1, if_pos rfl]; exact h0 (fun q => g1 q.1)
theorem n_13 (hS : SI s) (ht : rg (s 0 2) t) (hk : kpt s t) (h1 : q13 s t d → Q 1 (dE s 13 t a c d)) (h0 : ¬ q13 s t d → Q 0 s) : wp_X6_takes s 13 t a b c d Q := by
  obtain ⟨hl, hv⟩ := th_lt hS.1 ht
  rw [dE_13] at h1
  unfold wp_X6_takes
  refine m_isFree hS ht hk ?_
  by_cases g1 : frN s 4 (ix t)
  · rw [bI_t g1, if_neg (by decide), if_pos rfl, m_isIn]
    refine ⟨hv, ?_⟩
    by_cases g2 : ¬ d < 0 ∧ ¬ s 11 (ix t) < d
    · rw [bI_t g2, if_neg (by decide)]
      exact ⟨hv, hv, h1 ⟨g1, g2⟩⟩
    · rw [bI_f g2, if_pos rfl]; exact h0 (fun q => g2 q.2)
  · rw [bI_f g1, if_pos rfl]; exact h0 (fun q => g1 q.1)
theorem n_take (hS : SI s) (ht : rg (s 0 2) t) (hk : kpt s t) {k kd : Int32} (hk13 : ¬ k = 13) (hkd : kd = if k = 11 then 2 else 3) (h0 : ¬ qT s t a b c kd → Q 0 s) (h1 : qT s t a b c kd → (if k = 11 then (vp_in t 60 ∧ wp_X6_isIn s d 1 (s 11 (ix t)) (fun y13 σ12 => if y13 = 0 then Q 0 σ12 else j_X6_takes_142 Q k t a c d σ12)) else j_X6_takes_142 Q k t a c d s)) : wp_X6_takes s k t a b c d Q := by
  obtain ⟨hl, hv⟩ := th_lt hS.1 ht
  unfold wp_X6_takes
  refine m_isFree hS ht hk ?_
  by_cases g1 : frN s 4 (ix t)
  · rw [bI_t g1, if_neg (by decide), if_neg hk13]
    refine ⟨hv, ?_⟩
    have P : ∀ two : Prop, (two ↔ mny s t) → j_X6_takes_65 Q k t a c d (bI two) b a s := by
      intro two e
      unfold j_X6_takes_65
      rw [m_hasK hS.1, hasK_congr e]
      by_cases g2 : hasK s a b (mny s t)
      · rw [bI_t g2, if_neg (by decide), m_isIn0 hS.1.2.2.1.1]
        by_cases g3 : rg (s 0 2) c
        · obtain ⟨hcl, hvc⟩ := th_lt hS.1 g3
          rw [bI_t g3, if_neg (by decide)]
          refine ⟨hvc, ?_⟩
          have hw : (s 18 (ix c) = 0) ↔ s 9 (ix c) = 0 := by
            rw [hS.2.2.2.1 _ hcl]
            by_cases e : s 9 (ix c) = 0
            · simp [e]
            · simp [e]
          by_cases g4 : s 9 (ix c) = 0
          · rw [if_pos (hw.mpr g4)]
            refine ⟨hvc, ?_⟩
            have tl : j_X6_takes_114 Q k t a c d kd (s 4 (ix c)) s := by
              unfold j_X6_takes_114
              by_cases g5 : s 4 (ix c) = kd
              · rw [if_pos g5]
                exact h1 ⟨⟨g3, g5⟩, g4, g1, g2⟩
              · rw [if_neg g5]
                exact h0 (fun q => g5 q.1.2)
            by_cases e11 : k = 11
            · rw [if_pos e11]; rw [if_pos e11] at hkd; rw [← hkd]; exact tl
            · rw [if_neg e11]; rw [if_neg e11] at hkd; rw [← hkd]; exact tl
          · rw [if_neg (fun q => g4 (hw.mp q))]
            exact h0 (fun q => g4 q.2.1)
        · rw [bI_f g3, if_pos rfl]; exact h0 (fun q => g3 q.1.1)
      · rw [bI_f g2, if_pos rfl]; exact h0 (fun q => g2 q.2.2.2)
    by_cases m : s 4 (ix t) = 5
    · rw [if_pos m]
      have := P True ⟨fun _ => m, fun _ => trivial⟩
      rw [bI_t trivial] at this; exact this
    · rw [if_neg m]
      have := P False ⟨fun q => q.elim, fun q => m q⟩
      rw [bI_f not_false] at this; exact this
  · rw [bI_f g1, if_pos rfl]; exact h0 (fun q => g1 q.2.2.1)
theorem n_12 (hS : SI s) (ht : rg (s 0 2) t) (hk : kpt s t) (h1 : qT s t a b c 3 → Q 1 (dE s 12 t a c d)) (h0 : ¬ qT s t a b c 3 → Q 0 s) : wp_X6_takes s 12 t a b c d Q := by
  rw [dE_12] at h1
  refine n_take hS ht hk (kd := 3) (by decide) (by decide) h0 (fun q => ?_)
  rw [if_neg (by decide)]
  unfold j_X6_takes_142
  have hvc := (th_lt hS.1 q.1.1).2
  refine ⟨hvc, hvc, ?_⟩
  simp only [nmS]
  rw [m_go hvc, if_neg (by decide)]
  exact h1 q
theorem n_11 (hS : SI s) (ht : rg (s 0 2) t) (hk : kpt s t) (h1 : q11 s t a b c d → Q 1 (dE s 11 t a c d)) (h0 : ¬ q11 s t a b c d → Q 0 s) : wp_X6_takes s 11 t a b c d Q := by
  obtain ⟨hl, hv⟩ := th_lt hS.1 ht
  rw [dE_11] at h1
  refine n_take hS ht hk (kd := 2) (by decide) (by decide) (fun g => h0 (fun q => g q.1)) (fun q => ?_)
  have hvc := (th_lt hS.1 q.1.1).2
  have hne : ix t ≠ ix c := by
    intro e
    have g0 := q.2.1
    rw [← e] at g0
    rcases hk with k | k | k <;> · rw [g0] at k; exact absurd k (by decide)
  rw [if_pos rfl, m_isIn]
  refine ⟨hv, ?_⟩
  by_cases g2 : ¬ d < 1 ∧ ¬ s 11 (ix t) < d
  · rw [bI_t g2, if_neg (by decide)]
    unfold j_X6_takes_142
    refine ⟨hvc, hvc, ?_⟩
    simp only [nmS]
    rw [m_go hvc, if_pos trivial]
    refine ⟨hvc, hv, hv, ?_⟩
    have e : up2 (mvE (up2 (up2 s 18 (ix c) 1) 17 (ix c) t) c 2 a) 11 (ix c) d 11 (ix t) = s 11 (ix t) := by
      rw [up2_eq, upd_n _ _ hne, mvE_o _ _ _ _ (by decide) (by decide), up2_ne (by decide), up2_ne (by decide)]
    rw [e]
    exact h1 ⟨q, g2⟩
  · rw [bI_f g2, if_pos rfl]; exact h0 (fun q => g2 q.2)
theorem n_14 (hS : SI s) (ht : rg (s 0 2) t) (h1 : day_ c → Q 1 (dE s 14 t a c d)) (h0 : ¬ day_ c → Q 0 s) : wp_X6_orders s 14 t c Q := by
  obtain ⟨hl, hv⟩ := th_lt hS.1 ht
  rw [dE_14] at h1
  unfold wp_X6_orders
  rw [if_pos rfl, m_isIn]
  by_cases g : ¬ c < 0 ∧ ¬ 100000 < c
  · rw [bI_t g, if_neg (by decide)]; exact ⟨hv, h1 g⟩
  · rw [bI_f g, if_pos rfl]; exact h0 g
theorem n_15 (hS : SI s) (ht : rg (s 0 2) t) (h1 : Q 1 (dE s 15 t a c d)) : wp_X6_orders s 15 t c Q := by
  obtain ⟨hl, hv⟩ := th_lt hS.1 ht
  rw [dE_15] at h1
  unfold wp_X6_orders
  rw [if_neg (by decide), if_pos rfl]
  exact ⟨hv, h1⟩
theorem n_16 (hS : SI s) (ht : rg (s 0 2) t) {k : Int32} (hk : k = 16 ∨ k = 17) (h1 : (tri c ∧ (k = 16 ↔ ¬ bit s t c)) → Q 1 (up2 s 16 (ix t) (s 16 (ix t) ^^^ ((1 : Int32) <<< (c &&& 31))))) (h0 : ¬ (tri c ∧ (k = 16 ↔ ¬ bit s t c)) → Q 0 s) : wp_X6_orders s k t c Q := by
  obtain ⟨hl, hv⟩ := th_lt hS.1 ht
  unfold wp_X6_orders
  have n14 : ¬ k = 14 := by rcases hk with e | e <;> (rw [e]; decide)
  have n15 : ¬ k = 15 := by rcases hk with e | e <;> (rw [e]; decide)
  rw [if_neg n14, if_neg n15, m_isIn]
  by_cases g : ¬ c < 0 ∧ ¬ 30 < c
  · rw [bI_t g, if_neg (by decide)]
    refine ⟨hv, ?_⟩
    have hc : c = nI (ix c) ∧ ix c < 32 := by
      have h0 : 0 ≤ c.toInt := by have := g.1; rw [ltI, t0_] at this; omega
      have h9 : c.toInt ≤ 30 := by have := g.2; rw [ltI, show (30 : Int32).toInt = 30 from rfl] at this; omega
      have := ixI h0
      exact ⟨z_of h0, by omega⟩
    have eb := bit_shr (x := s 16 (ix t)) hc.2
    have em := bit_mask (x := s 16 (ix t)) hc.2
    rw [← hc.1] at eb em
    rw [eb]
    have hb : bit s t c ↔ (s 16 (ix t)).toBitVec.getLsbD (ix c) = true := by
      unfold bit
      rw [em.1]
      simp
    have J : ∀ v : Int32, (v = if (s 16 (ix t)).toBitVec.getLsbD (ix c) then 1 else 0) → ∀ u : Int32, (v = u ↔ ¬ (k = 16 ↔ ¬ bit s t c)) → j_X6_orders_75 Q t c u v s := by
      intro v _ u hu
      unfold j_X6_orders_75
      by_cases e : v = u
      · rw [if_pos e]; exact h0 (fun q => hu.mp e q.2)
      · rw [if_neg e]
        exact ⟨hv, hv, h1 ⟨g, Classical.not_not.mp (fun q => e (hu.mpr q))⟩⟩
    by_cases e16 : k = 16
    · rw [if_pos e16]
      refine J _ rfl 1 ?_
      by_cases x : (s 16 (ix t)).toBitVec.getLsbD (ix c) = true
      · simp [x, hb, e16]
      · simp [x, hb, e16]
    · rw [if_neg e16]
      refine J _ rfl 0 ?_
      by_cases x : (s 16 (ix t)).toBitVec.getLsbD (ix c) = true
      · simp [x, hb, e16]
      · simp [x, hb, e16]
  · rw [bI_f g, if_pos rfl]
    exact h0 (fun q => g q.1)
end MOD4
