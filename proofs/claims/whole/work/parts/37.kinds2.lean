section KINDS2
variable {σ s : St} {Q : Int32 → St → Prop} {t a b c d dy : Int32}
theorem k_close (H : KH σ s t a b c d dy) (h1 : q8 s t a b c → OKs σ (dE s 8 t a c d) Q) (h0 : ¬ q8 s t a b c → Q 0 σ) : wp_X3_close σ Q := by
  obtain ⟨hT, hS, hC, hF, ht⟩ := H
  have hI := SC_of hT hS.1
  have hv := (th_lt hS.1 ht).2
  have em : ∀ x, (s 4 (ix x) = 5) = mny s x := fun _ => rfl
  have ed : ∀ x : Int32, (¬ x < 0 ∧ ¬ 100000 < x) = day_ x := fun _ => rfl
  have eb : ∀ x, (s 4 (ix x) = 1 ∨ s 4 (ix x) = 4 ∨ mny s x) = bg s x := fun _ => rfl
  have es : ∀ x, (rg 600 x ∧ x - x / 100 * 100 < s 3 (ix (x / 100))) = isSl s x := fun _ => rfl
  have f17 : ∀ (j : Nat) (v : Int32), up2 σ 17 j v 13 = σ 13 := fun _ _ => up2_ne (by decide)
  have f16 : ∀ (j : Nat) (v : Int32), up2 σ 16 j v 13 = σ 13 := fun _ _ => up2_ne (by decide)
  unfold wp_X3_close j_X3_close_76
  simp only [f17, f16, hF.1, hF.2.1, hF.2.2.1, hF.2.2.2.1, hF.2.2.2.2.1, hF.2.2.2.2.2, hv, true_and, s_isMoneyBag hI, s_keepersServe hT hS.1 hF, s_keepersServe1 hT hS.1 hF, s_keepersServe0 hT hS.1 hF, s_isHand, s_isDay, s_isThing, s_isBag hI, s_isOfKind hI, s_isGivenOut, s_mayLieAt hT hS.1 hC hF ht, s_isAt hT hv, s_bagAround hT hv, ifc, bI_0, nmS]
  try simp only [eb, es, hT.1.1, hT.1.2.2.1, hT.1.2.2.2.2.2.1, hT.1.2.2.2.2.2.2.1, hT.2.1, hT.2.2.1, hT.2.2.2.1, hT.2.2.2.2.1, hT.2.2.2.2.2.1, hT.2.2.2.2.2.2.1, hT.2.2.2.2.2.2.2.1, hT.2.2.2.2.2.2.2.2.1, hT.2.2.2.2.2.2.2.2.2.1, hT.2.2.2.2.2.2.2.2.2.2, ht, true_and, Classical.not_not, em, ed]
  by_cases hc : q8 s t a b c
  · have hp := h1 hc
    rw [dE_8] at hp
    obtain ⟨c1, c2, c3, c4, c5⟩ := hc
    have hvc : vp_in c 600 := rg_in c3.1 (by decide)
    have lf : Q 1 (up2 (up2 σ 17 (ix t) c) 25 (ix c) 1) := hp _ (TR_25 (TR_17 hT)) (CI_same hC (by rw [up2_ne (by decide), up2_ne (by decide)]) (by rw [up2_ne (by decide), up2_ne (by decide)]) (by rw [up2_ne (by decide), up2_ne (by decide)]) (by rw [up2_ne (by decide), up2_ne (by decide)])) ((FR.rf.up (by decide) (by decide)).up (by decide) (by decide))
    simp only [c1, c2, c3, c4, hvc, lf, true_implies, not_true_eq_false, false_implies, and_true, true_and, not_false_eq_true, and_self, or_true, true_or]
    by_cases m : mny s t
    · simp only [m, c5 m, true_implies, not_true_eq_false, false_implies, and_true, true_and, not_false_eq_true, and_self, or_true, true_or, implies_true]
    · simp only [m, true_implies, not_true_eq_false, false_implies, and_true, true_and, not_false_eq_true, and_self, or_true, true_or, implies_true]
  · have hq := h0 hc
    simp only [hq, implies_true, true_and, and_true]
    refine fun g1 g2 g3 => ⟨rg_in g3.1 (by decide), fun g4 => ⟨fun g5 => absurd ⟨g1, g2, g3, g4, fun m => absurd m g5⟩ hc, fun g5 g6 => absurd ⟨g1, g2, g3, g4, fun _ => g6⟩ hc⟩⟩

theorem k_unseal (H : KH σ s t a b c d dy) (h1 : q9 s t a b c → OKs σ (dE s 9 t a c d) Q) (h0 : ¬ q9 s t a b c → Q 0 σ) : wp_X3_unseal σ Q := by
  obtain ⟨hT, hS, hC, hF, ht⟩ := H
  have hI := SC_of hT hS.1
  have hv := (th_lt hS.1 ht).2
  have em : ∀ x, (s 4 (ix x) = 5) = mny s x := fun _ => rfl
  have ed : ∀ x : Int32, (¬ x < 0 ∧ ¬ 100000 < x) = day_ x := fun _ => rfl
  have eb : ∀ x, (s 4 (ix x) = 1 ∨ s 4 (ix x) = 4 ∨ mny s x) = bg s x := fun _ => rfl
  have es : ∀ x, (rg 600 x ∧ x - x / 100 * 100 < s 3 (ix (x / 100))) = isSl s x := fun _ => rfl
  have f17 : ∀ (j : Nat) (v : Int32), up2 σ 17 j v 13 = σ 13 := fun _ _ => up2_ne (by decide)
  have f16 : ∀ (j : Nat) (v : Int32), up2 σ 16 j v 13 = σ 13 := fun _ _ => up2_ne (by decide)
  unfold wp_X3_unseal j_X3_unseal_67
  simp only [f17, f16, hF.1, hF.2.1, hF.2.2.1, hF.2.2.2.1, hF.2.2.2.2.1, hF.2.2.2.2.2, hv, true_and, s_isMoneyBag hI, s_keepersServe hT hS.1 hF, s_keepersServe1 hT hS.1 hF, s_keepersServe0 hT hS.1 hF, s_isHand, s_isDay, s_isThing, s_isBag hI, s_isOfKind hI, s_isGivenOut, s_mayLieAt hT hS.1 hC hF ht, s_isAt hT hv, s_bagAround hT hv, ifc, bI_0, nmS]
  try simp only [eb, es, hT.1.1, hT.1.2.2.1, hT.1.2.2.2.2.2.1, hT.1.2.2.2.2.2.2.1, hT.2.1, hT.2.2.1, hT.2.2.2.1, hT.2.2.2.2.1, hT.2.2.2.2.2.1, hT.2.2.2.2.2.2.1, hT.2.2.2.2.2.2.2.1, hT.2.2.2.2.2.2.2.2.1, hT.2.2.2.2.2.2.2.2.2.1, hT.2.2.2.2.2.2.2.2.2.2, ht, true_and, Classical.not_not, em, ed]
  by_cases hc : q9 s t a b c
  · have hp := h1 hc
    rw [dE_9] at hp
    obtain ⟨c1, c2, c3, c4, c5⟩ := hc
    have lf : Q 1 (up2 σ 17 (ix t) (-1)) := hp _ (TR_17 hT) (CI_same hC (up2_ne (by decide)) (up2_ne (by decide)) (up2_ne (by decide)) (up2_ne (by decide))) (FR.rf.up (by decide) (by decide))
    simp only [c1, c2, c3, c4, lf, true_implies, not_true_eq_false, false_implies, and_true, true_and, not_false_eq_true, and_self, or_true, true_or]
    by_cases m : mny s t
    · simp only [m, c5 m, true_implies, not_true_eq_false, false_implies, and_true, true_and, not_false_eq_true, and_self, or_true, true_or, implies_true]
    · simp only [m, true_implies, not_true_eq_false, false_implies, and_true, true_and, not_false_eq_true, and_self, or_true, true_or, implies_true]
  · have hq := h0 hc
    simp only [hq, implies_true, true_and, and_true]
    refine fun g1 g2 g3 g4 => ⟨fun g5 => absurd ⟨g1, g2, g3, g4, fun m => absurd m g5⟩ hc, fun g5 g6 => absurd ⟨g1, g2, g3, g4, fun _ => g6⟩ hc⟩

theorem k_look (H : KH σ s t a b c d dy) (h1 : q10 s t c → OKs σ (dE s 10 t a c d) Q) (h0 : ¬ q10 s t c → Q 0 σ) : wp_X3_look σ Q := by
  obtain ⟨hT, hS, hC, hF, ht⟩ := H
  have hI := SC_of hT hS.1
  have hv := (th_lt hS.1 ht).2
  have em : ∀ x, (s 4 (ix x) = 5) = mny s x := fun _ => rfl
  have ed : ∀ x : Int32, (¬ x < 0 ∧ ¬ 100000 < x) = day_ x := fun _ => rfl
  have eb : ∀ x, (s 4 (ix x) = 1 ∨ s 4 (ix x) = 4 ∨ mny s x) = bg s x := fun _ => rfl
  have es : ∀ x, (rg 600 x ∧ x - x / 100 * 100 < s 3 (ix (x / 100))) = isSl s x := fun _ => rfl
  have f17 : ∀ (j : Nat) (v : Int32), up2 σ 17 j v 13 = σ 13 := fun _ _ => up2_ne (by decide)
  have f16 : ∀ (j : Nat) (v : Int32), up2 σ 16 j v 13 = σ 13 := fun _ _ => up2_ne (by decide)
  unfold wp_X3_look 
  simp only [f17, f16, hF.1, hF.2.1, hF.2.2.1, hF.2.2.2.1, hF.2.2.2.2.1, hF.2.2.2.2.2, hv, true_and, s_isMoneyBag hI, s_keepersServe hT hS.1 hF, s_keepersServe1 hT hS.1 hF, s_keepersServe0 hT hS.1 hF, s_isHand, s_isDay, s_isThing, s_isBag hI, s_isOfKind hI, s_isGivenOut, s_mayLieAt hT hS.1 hC hF ht, s_isAt hT hv, s_bagAround hT hv, ifc, bI_0, nmS]
  try simp only [eb, es, hT.1.1, hT.1.2.2.1, hT.1.2.2.2.2.2.1, hT.1.2.2.2.2.2.2.1, hT.2.1, hT.2.2.1, hT.2.2.2.1, hT.2.2.2.2.1, hT.2.2.2.2.2.1, hT.2.2.2.2.2.2.1, hT.2.2.2.2.2.2.2.1, hT.2.2.2.2.2.2.2.2.1, hT.2.2.2.2.2.2.2.2.2.1, hT.2.2.2.2.2.2.2.2.2.2, ht, true_and, Classical.not_not, em, ed]
  by_cases hc : q10 s t c
  · have hp := h1 hc
    rw [dE_10] at hp
    obtain ⟨c1, c2, c3⟩ := hc
    have lf : Q 1 σ := hp _ hT hC FR.rf
    simp only [c1, c2, c3, lf, true_implies, not_true_eq_false, false_implies, and_true, true_and, not_false_eq_true, and_self, or_true, true_or, implies_true]
  · have hq := h0 hc
    simp only [hq, implies_true, true_and, and_true]
    exact fun g1 g2 g3 => absurd ⟨g1, g2, g3⟩ hc

theorem k_keep (H : KH σ s t a b c d dy) (h1 : day_ c → OKs σ (dE s 14 t a c d) Q) (h0 : ¬ day_ c → Q 0 σ) : wp_X3_keep σ Q := by
  obtain ⟨hT, hS, hC, hF, ht⟩ := H
  have hI := SC_of hT hS.1
  have hv := (th_lt hS.1 ht).2
  have em : ∀ x, (s 4 (ix x) = 5) = mny s x := fun _ => rfl
  have ed : ∀ x : Int32, (¬ x < 0 ∧ ¬ 100000 < x) = day_ x := fun _ => rfl
  have eb : ∀ x, (s 4 (ix x) = 1 ∨ s 4 (ix x) = 4 ∨ mny s x) = bg s x := fun _ => rfl
  have es : ∀ x, (rg 600 x ∧ x - x / 100 * 100 < s 3 (ix (x / 100))) = isSl s x := fun _ => rfl
  have f17 : ∀ (j : Nat) (v : Int32), up2 σ 17 j v 13 = σ 13 := fun _ _ => up2_ne (by decide)
  have f16 : ∀ (j : Nat) (v : Int32), up2 σ 16 j v 13 = σ 13 := fun _ _ => up2_ne (by decide)
  unfold wp_X3_keep 
  simp only [f17, f16, hF.1, hF.2.1, hF.2.2.1, hF.2.2.2.1, hF.2.2.2.2.1, hF.2.2.2.2.2, hv, true_and, s_isMoneyBag hI, s_keepersServe hT hS.1 hF, s_keepersServe1 hT hS.1 hF, s_keepersServe0 hT hS.1 hF, s_isHand, s_isDay, s_isThing, s_isBag hI, s_isOfKind hI, s_isGivenOut, s_mayLieAt hT hS.1 hC hF ht, s_isAt hT hv, s_bagAround hT hv, ifc, bI_0, nmS]
  try simp only [eb, es, hT.1.1, hT.1.2.2.1, hT.1.2.2.2.2.2.1, hT.1.2.2.2.2.2.2.1, hT.2.1, hT.2.2.1, hT.2.2.2.1, hT.2.2.2.2.1, hT.2.2.2.2.2.1, hT.2.2.2.2.2.2.1, hT.2.2.2.2.2.2.2.1, hT.2.2.2.2.2.2.2.2.1, hT.2.2.2.2.2.2.2.2.2.1, hT.2.2.2.2.2.2.2.2.2.2, ht, true_and, Classical.not_not, em, ed]
  refine ⟨fun g => h0 g, fun g => h1 g _ ?_ ?_ ?_⟩
  · rw [dE_14]; exact TR_19 hT
  · rw [dE_14]; exact (CI_same hC (up2_ne (by decide)) (up2_ne (by decide)) (up2_ne (by decide)) (up2_ne (by decide)))
  · exact FR.rf.up (by decide) (by decide)

theorem k_doom (H : KH σ s t a b c d dy) (h1 : True → OKs σ (dE s 15 t a c d) Q) (h0 : ¬ True → Q 0 σ) : wp_X3_doom σ Q := by
  obtain ⟨hT, hS, hC, hF, ht⟩ := H
  have hI := SC_of hT hS.1
  have hv := (th_lt hS.1 ht).2
  have em : ∀ x, (s 4 (ix x) = 5) = mny s x := fun _ => rfl
  have ed : ∀ x : Int32, (¬ x < 0 ∧ ¬ 100000 < x) = day_ x := fun _ => rfl
  have eb : ∀ x, (s 4 (ix x) = 1 ∨ s 4 (ix x) = 4 ∨ mny s x) = bg s x := fun _ => rfl
  have es : ∀ x, (rg 600 x ∧ x - x / 100 * 100 < s 3 (ix (x / 100))) = isSl s x := fun _ => rfl
  have f17 : ∀ (j : Nat) (v : Int32), up2 σ 17 j v 13 = σ 13 := fun _ _ => up2_ne (by decide)
  have f16 : ∀ (j : Nat) (v : Int32), up2 σ 16 j v 13 = σ 13 := fun _ _ => up2_ne (by decide)
  unfold wp_X3_doom 
  simp only [f17, f16, hF.1, hF.2.1, hF.2.2.1, hF.2.2.2.1, hF.2.2.2.2.1, hF.2.2.2.2.2, hv, true_and, s_isMoneyBag hI, s_keepersServe hT hS.1 hF, s_keepersServe1 hT hS.1 hF, s_keepersServe0 hT hS.1 hF, s_isHand, s_isDay, s_isThing, s_isBag hI, s_isOfKind hI, s_isGivenOut, s_mayLieAt hT hS.1 hC hF ht, s_isAt hT hv, s_bagAround hT hv, ifc, bI_0, nmS]
  try simp only [eb, es, hT.1.1, hT.1.2.2.1, hT.1.2.2.2.2.2.1, hT.1.2.2.2.2.2.2.1, hT.2.1, hT.2.2.1, hT.2.2.2.1, hT.2.2.2.2.1, hT.2.2.2.2.2.1, hT.2.2.2.2.2.2.1, hT.2.2.2.2.2.2.2.1, hT.2.2.2.2.2.2.2.2.1, hT.2.2.2.2.2.2.2.2.2.1, hT.2.2.2.2.2.2.2.2.2.2, ht, true_and, Classical.not_not, em, ed]
  refine h1 trivial _ ?_ ?_ ?_
  · rw [dE_15]; exact TR_20 hT
  · rw [dE_15]; exact (CI_same hC (up2_ne (by decide)) (up2_ne (by decide)) (up2_ne (by decide)) (up2_ne (by decide)))
  · exact FR.rf.up (by decide) (by decide)

theorem k_beginTrial (H : KH σ s t a b c d dy) (h1 : (tri c ∧ ¬ bit s t c) → OKs σ (dE s 16 t a c d) Q) (h0 : ¬ (tri c ∧ ¬ bit s t c) → Q 0 σ) : wp_X3_beginTrial σ Q := by
  obtain ⟨hT, hS, hC, hF, ht⟩ := H
  have hI := SC_of hT hS.1
  have hv := (th_lt hS.1 ht).2
  have em : ∀ x, (s 4 (ix x) = 5) = mny s x := fun _ => rfl
  have ed : ∀ x : Int32, (¬ x < 0 ∧ ¬ 100000 < x) = day_ x := fun _ => rfl
  have eb : ∀ x, (s 4 (ix x) = 1 ∨ s 4 (ix x) = 4 ∨ mny s x) = bg s x := fun _ => rfl
  have es : ∀ x, (rg 600 x ∧ x - x / 100 * 100 < s 3 (ix (x / 100))) = isSl s x := fun _ => rfl
  have f17 : ∀ (j : Nat) (v : Int32), up2 σ 17 j v 13 = σ 13 := fun _ _ => up2_ne (by decide)
  have f16 : ∀ (j : Nat) (v : Int32), up2 σ 16 j v 13 = σ 13 := fun _ _ => up2_ne (by decide)
  have go_ : ∀ R : Int32 → St → Prop, wp_X3_goesOn σ R ↔ R (bI (bit s t c)) σ := by
    intro R
    unfold wp_X3_goesOn bit
    simp only [hF.1, hF.2.2.2.1, hv, true_and, hT.2.2.2.2.2.2.2.2.1]
    by_cases h : s 16 (ix t) &&& ((1 : Int32) <<< (c &&& 31)) = 0
    · rw [if_pos h, bI_f (fun k => k h)]
    · rw [if_neg h, bI_t h]
  unfold wp_X3_beginTrial 
  simp only [go_, f17, f16, hF.1, hF.2.1, hF.2.2.1, hF.2.2.2.1, hF.2.2.2.2.1, hF.2.2.2.2.2, hv, true_and, s_isMoneyBag hI, s_keepersServe hT hS.1 hF, s_keepersServe1 hT hS.1 hF, s_keepersServe0 hT hS.1 hF, s_isHand, s_isDay, s_isThing, s_isBag hI, s_isOfKind hI, s_isGivenOut, s_mayLieAt hT hS.1 hC hF ht, s_isAt hT hv, s_bagAround hT hv, ifc, bI_0, nmS]
  try simp only [eb, es, hT.1.1, hT.1.2.2.1, hT.1.2.2.2.2.2.1, hT.1.2.2.2.2.2.2.1, hT.2.1, hT.2.2.1, hT.2.2.2.1, hT.2.2.2.2.1, hT.2.2.2.2.2.1, hT.2.2.2.2.2.2.1, hT.2.2.2.2.2.2.2.1, hT.2.2.2.2.2.2.2.2.1, hT.2.2.2.2.2.2.2.2.2.1, hT.2.2.2.2.2.2.2.2.2.2, ht, true_and, Classical.not_not, em, ed]
  by_cases hc : (tri c ∧ ¬ bit s t c)
  · have hp := h1 hc
    rw [dE_16] at hp
    obtain ⟨c1, c2⟩ := hc
    have hl : c = nI (ix c) ∧ ix c < 32 := by
      have h0 : 0 ≤ c.toInt := by have := c1.1; rw [ltI, t0_] at this; omega
      have h9 : c.toInt ≤ 30 := by have := c1.2; rw [ltI, show (30 : Int32).toInt = 30 from rfl] at this; omega
      have := ixI h0
      exact ⟨z_of h0, by omega⟩
    have ex := bit_mask (x := s 16 (ix t)) hl.2
    rw [← hl.1] at ex
    have e0 : s 16 (ix t) &&& ((1 : Int32) <<< (c &&& 31)) = 0 := Classical.not_not.mp c2
    have e1 := or_xor e0
    simp only [c1.1, c1.2, c2, e1, true_implies, not_true_eq_false, false_implies, and_true, true_and, not_false_eq_true, and_self, or_true, true_or]
    exact hp _ (TR_21 hT) (CI_same hC (up2_ne (by decide)) (up2_ne (by decide)) (up2_ne (by decide)) (up2_ne (by decide))) (FR.rf.up (by decide) (by decide))
  · have hq := h0 hc
    simp only [hq, implies_true, true_and, and_true]
    exact fun g1 g2 g3 => absurd ⟨⟨g1, g2⟩, g3⟩ hc

theorem k_endTrial (H : KH σ s t a b c d dy) (h1 : (tri c ∧ bit s t c) → OKs σ (dE s 17 t a c d) Q) (h0 : ¬ (tri c ∧ bit s t c) → Q 0 σ) : wp_X3_endTrial σ Q := by
  obtain ⟨hT, hS, hC, hF, ht⟩ := H
  have hI := SC_of hT hS.1
  have hv := (th_lt hS.1 ht).2
  have em : ∀ x, (s 4 (ix x) = 5) = mny s x := fun _ => rfl
  have ed : ∀ x : Int32, (¬ x < 0 ∧ ¬ 100000 < x) = day_ x := fun _ => rfl
  have eb : ∀ x, (s 4 (ix x) = 1 ∨ s 4 (ix x) = 4 ∨ mny s x) = bg s x := fun _ => rfl
  have es : ∀ x, (rg 600 x ∧ x - x / 100 * 100 < s 3 (ix (x / 100))) = isSl s x := fun _ => rfl
  have f17 : ∀ (j : Nat) (v : Int32), up2 σ 17 j v 13 = σ 13 := fun _ _ => up2_ne (by decide)
  have f16 : ∀ (j : Nat) (v : Int32), up2 σ 16 j v 13 = σ 13 := fun _ _ => up2_ne (by decide)
  have go_ : ∀ R : Int32 → St → Prop, wp_X3_goesOn σ R ↔ R (bI (bit s t c)) σ := by
    intro R
    unfold wp_X3_goesOn bit
    simp only [hF.1, hF.2.2.2.1, hv, true_and, hT.2.2.2.2.2.2.2.2.1]
    by_cases h : s 16 (ix t) &&& ((1 : Int32) <<< (c &&& 31)) = 0
    · rw [if_pos h, bI_f (fun k => k h)]
    · rw [if_neg h, bI_t h]
  unfold wp_X3_endTrial 
  simp only [go_, f17, f16, hF.1, hF.2.1, hF.2.2.1, hF.2.2.2.1, hF.2.2.2.2.1, hF.2.2.2.2.2, hv, true_and, s_isMoneyBag hI, s_keepersServe hT hS.1 hF, s_keepersServe1 hT hS.1 hF, s_keepersServe0 hT hS.1 hF, s_isHand, s_isDay, s_isThing, s_isBag hI, s_isOfKind hI, s_isGivenOut, s_mayLieAt hT hS.1 hC hF ht, s_isAt hT hv, s_bagAround hT hv, ifc, bI_0, nmS]
  try simp only [eb, es, hT.1.1, hT.1.2.2.1, hT.1.2.2.2.2.2.1, hT.1.2.2.2.2.2.2.1, hT.2.1, hT.2.2.1, hT.2.2.2.1, hT.2.2.2.2.1, hT.2.2.2.2.2.1, hT.2.2.2.2.2.2.1, hT.2.2.2.2.2.2.2.1, hT.2.2.2.2.2.2.2.2.1, hT.2.2.2.2.2.2.2.2.2.1, hT.2.2.2.2.2.2.2.2.2.2, ht, true_and, Classical.not_not, em, ed]
  by_cases hc : (tri c ∧ bit s t c)
  · have hp := h1 hc
    rw [dE_17] at hp
    obtain ⟨c1, c2⟩ := hc
    have hl : c = nI (ix c) ∧ ix c < 32 := by
      have h0 : 0 ≤ c.toInt := by have := c1.1; rw [ltI, t0_] at this; omega
      have h9 : c.toInt ≤ 30 := by have := c1.2; rw [ltI, show (30 : Int32).toInt = 30 from rfl] at this; omega
      have := ixI h0
      exact ⟨z_of h0, by omega⟩
    have ex := bit_mask (x := s 16 (ix t)) hl.2
    rw [← hl.1] at ex
    have e0 : (s 16 (ix t)).toBitVec.getLsbD (ix c) = true := by
      cases h : (s 16 (ix t)).toBitVec.getLsbD (ix c) with
      | true => rfl
      | false => exact absurd (ex.1.mpr h) c2
    have e1 := andn_xor (ex.2 e0)
    simp only [c1.1, c1.2, c2, e1, true_implies, not_true_eq_false, false_implies, and_true, true_and, not_false_eq_true, and_self, or_true, true_or]
    exact hp _ (TR_21 hT) (CI_same hC (up2_ne (by decide)) (up2_ne (by decide)) (up2_ne (by decide)) (up2_ne (by decide))) (FR.rf.up (by decide) (by decide))
  · have hq := h0 hc
    simp only [hq, implies_true, true_and, and_true]
    exact fun g1 g2 g3 => absurd ⟨⟨g1, g2⟩, g3⟩ hc

theorem k_weigh (H : KH σ s t a b c d dy) (h1 : q13 s t d → OKs σ (dE s 13 t a c d) Q) (h0 : ¬ q13 s t d → Q 0 σ) : wp_X3_weigh σ Q := by
  obtain ⟨hT, hS, hC, hF, ht⟩ := H
  have hI := SC_of hT hS.1
  have hv := (th_lt hS.1 ht).2
  have em : ∀ x, (s 4 (ix x) = 5) = mny s x := fun _ => rfl
  have ed : ∀ x : Int32, (¬ x < 0 ∧ ¬ 100000 < x) = day_ x := fun _ => rfl
  have eb : ∀ x, (s 4 (ix x) = 1 ∨ s 4 (ix x) = 4 ∨ mny s x) = bg s x := fun _ => rfl
  have es : ∀ x, (rg 600 x ∧ x - x / 100 * 100 < s 3 (ix (x / 100))) = isSl s x := fun _ => rfl
  have f17 : ∀ (j : Nat) (v : Int32), up2 σ 17 j v 13 = σ 13 := fun _ _ => up2_ne (by decide)
  have f16 : ∀ (j : Nat) (v : Int32), up2 σ 16 j v 13 = σ 13 := fun _ _ => up2_ne (by decide)
  unfold wp_X3_weigh 
  simp only [f17, f16, hF.1, hF.2.1, hF.2.2.1, hF.2.2.2.1, hF.2.2.2.2.1, hF.2.2.2.2.2, hv, true_and, s_isMoneyBag hI, s_keepersServe hT hS.1 hF, s_keepersServe1 hT hS.1 hF, s_keepersServe0 hT hS.1 hF, s_isHand, s_isDay, s_isThing, s_isBag hI, s_isOfKind hI, s_isGivenOut, s_mayLieAt hT hS.1 hC hF ht, s_isAt hT hv, s_bagAround hT hv, ifc, bI_0, nmS]
  try simp only [eb, es, hT.1.1, hT.1.2.2.1, hT.1.2.2.2.2.2.1, hT.1.2.2.2.2.2.2.1, hT.2.1, hT.2.2.1, hT.2.2.2.1, hT.2.2.2.2.1, hT.2.2.2.2.2.1, hT.2.2.2.2.2.2.1, hT.2.2.2.2.2.2.2.1, hT.2.2.2.2.2.2.2.2.1, hT.2.2.2.2.2.2.2.2.2.1, hT.2.2.2.2.2.2.2.2.2.2, ht, true_and, Classical.not_not, em, ed]
  refine c_isFree hT hS hv ?_
  simp only [ifc, bI_0, Classical.not_not, hF.1, hF.2.2.2.2.1, hv, true_and, hT.1.1, hT.1.2.2.1, hT.1.2.2.2.2.2.1, hT.1.2.2.2.2.2.2.1, hT.2.1, hT.2.2.1, hT.2.2.2.1, hT.2.2.2.2.1, hT.2.2.2.2.2.1, hT.2.2.2.2.2.2.1, hT.2.2.2.2.2.2.2.1, hT.2.2.2.2.2.2.2.2.1, hT.2.2.2.2.2.2.2.2.2.1, hT.2.2.2.2.2.2.2.2.2.2, ht, true_and, Classical.not_not, em, ed, nmS]
  by_cases hc : q13 s t d
  · have hp := h1 hc
    rw [dE_13] at hp
    obtain ⟨c1, c2, c3⟩ := hc
    simp only [c1, c2, c3, true_implies, not_true_eq_false, false_implies, and_true, true_and, not_false_eq_true, and_self, or_true, true_or]
    exact hp _ (TR_16 hT) (CI_same hC (up2_ne (by decide)) (up2_ne (by decide)) (up2_ne (by decide)) (up2_ne (by decide))) (FR.rf.up (by decide) (by decide))
  · have hq := h0 hc
    simp only [hq, implies_true, true_and, and_true]
    exact fun g1 g2 g3 => absurd ⟨g1, g2, g3⟩ hc

theorem k_destroy (H : KH σ s t a b c d dy) (h1 : q18 s t a b c dy → OKs σ (dE s 18 t a c d) Q) (h0 : ¬ q18 s t a b c dy → Q 0 σ) : wp_X3_destroy σ Q := by
  obtain ⟨hT, hS, hC, hF, ht⟩ := H
  have hI := SC_of hT hS.1
  have hv := (th_lt hS.1 ht).2
  have em : ∀ x, (s 4 (ix x) = 5) = mny s x := fun _ => rfl
  have ed : ∀ x : Int32, (¬ x < 0 ∧ ¬ 100000 < x) = day_ x := fun _ => rfl
  have eb : ∀ x, (s 4 (ix x) = 1 ∨ s 4 (ix x) = 4 ∨ mny s x) = bg s x := fun _ => rfl
  have es : ∀ x, (rg 600 x ∧ x - x / 100 * 100 < s 3 (ix (x / 100))) = isSl s x := fun _ => rfl
  have f17 : ∀ (j : Nat) (v : Int32), up2 σ 17 j v 13 = σ 13 := fun _ _ => up2_ne (by decide)
  have f16 : ∀ (j : Nat) (v : Int32), up2 σ 16 j v 13 = σ 13 := fun _ _ => up2_ne (by decide)
  unfold wp_X3_destroy 
  simp only [f17, f16, hF.1, hF.2.1, hF.2.2.1, hF.2.2.2.1, hF.2.2.2.2.1, hF.2.2.2.2.2, hv, true_and, s_isMoneyBag hI, s_keepersServe hT hS.1 hF, s_keepersServe1 hT hS.1 hF, s_keepersServe0 hT hS.1 hF, s_isHand, s_isDay, s_isThing, s_isBag hI, s_isOfKind hI, s_isGivenOut, s_mayLieAt hT hS.1 hC hF ht, s_isAt hT hv, s_bagAround hT hv, ifc, bI_0, nmS]
  try simp only [eb, es, hT.1.1, hT.1.2.2.1, hT.1.2.2.2.2.2.1, hT.1.2.2.2.2.2.2.1, hT.2.1, hT.2.2.1, hT.2.2.2.1, hT.2.2.2.2.1, hT.2.2.2.2.2.1, hT.2.2.2.2.2.2.1, hT.2.2.2.2.2.2.2.1, hT.2.2.2.2.2.2.2.2.1, hT.2.2.2.2.2.2.2.2.2.1, hT.2.2.2.2.2.2.2.2.2.2, ht, true_and, Classical.not_not, em, ed]
  have an : (∀ x, x < 60 → s 9 x = 2 → ¬ ofN s 60 x t) ↔ ¬ ∃ x, x < 60 ∧ s 9 x = 2 ∧ ofN s 60 x t := ⟨fun h ⟨x, q1, q2, q3⟩ => h x q1 q2 q3, fun h x q1 q2 q3 => h ⟨x, q1, q2, q3⟩⟩
  have ins : (σ 22 (ix t) = 0) = (cnB s t = 0) := by
    rw [hC.2 (ix t) (vin_lt hv), ← vin_nI hv]
    have hle : cnB s t ≤ 60 := cntP_le _ _
    refine propext ⟨fun h => ?_, fun h => by rw [h]; rfl⟩
    exact (nI_eq (by omega) (by decide)).mp h
  simp only [ins]
  by_cases hc : q18 s t a b c dy
  · have hp := h1 hc
    rw [dE_18] at hp
    obtain ⟨c1, c2, c3, c4, c5, c6, c7, c8, c9, c10⟩ := hc
    simp only [c1, c2, c3, c4, c5, c6, c7, c8, c9, true_implies, not_true_eq_false, false_implies, and_true, true_and, not_false_eq_true, and_self, or_true, true_or]
    refine c_anyH hT hS hF.1 ?_
    rw [bI_f (an.mp c10)]
    refine ⟨fun _ => ?_, fun h => absurd rfl h⟩
    rw [hF.1]
    refine c_move hT hS hC hv (fun e => absurd e (by decide)) (fun e => absurd e (by decide)) (fun σ1 T1 C1 F1 e13 => ?_)
    exact hp σ1 T1 C1 F1
  · have hq := h0 hc
    simp only [hq, implies_true, true_and, and_true]
    refine fun g1 g2 g3 g4 g5 g6 g7 g8 g9 => c_anyH hT hS hF.1 ?_
    by_cases g10 : ∃ x, x < 60 ∧ s 9 x = 2 ∧ ofN s 60 x t
    · rw [bI_t g10]
      exact ⟨fun e => absurd e (by decide), fun _ => hq⟩
    · exact absurd ⟨g1, g2, g3, g4, g5, g6, g7, g8, g9, an.mpr g10⟩ hc

theorem k_find (H : KH σ s t a b c d dy) (h1 : (q19a s t c d ∨ q19b s t c d) → OKs σ (dE s 19 t a c d) Q) (h0 : ¬ (q19a s t c d ∨ q19b s t c d) → Q 0 σ) : wp_X3_find σ Q := by
  obtain ⟨hT, hS, hC, hF, ht⟩ := H
  have hI := SC_of hT hS.1
  have hv := (th_lt hS.1 ht).2
  have em : ∀ x, (s 4 (ix x) = 5) = mny s x := fun _ => rfl
  have ed : ∀ x : Int32, (¬ x < 0 ∧ ¬ 100000 < x) = day_ x := fun _ => rfl
  have eb : ∀ x, (s 4 (ix x) = 1 ∨ s 4 (ix x) = 4 ∨ mny s x) = bg s x := fun _ => rfl
  have es : ∀ x, (rg 600 x ∧ x - x / 100 * 100 < s 3 (ix (x / 100))) = isSl s x := fun _ => rfl
  have f17 : ∀ (j : Nat) (v : Int32), up2 σ 17 j v 13 = σ 13 := fun _ _ => up2_ne (by decide)
  have f16 : ∀ (j : Nat) (v : Int32), up2 σ 16 j v 13 = σ 13 := fun _ _ => up2_ne (by decide)
  unfold wp_X3_find j_X3_find_34
  simp only [f17, f16, hF.1, hF.2.1, hF.2.2.1, hF.2.2.2.1, hF.2.2.2.2.1, hF.2.2.2.2.2, hv, true_and, s_isMoneyBag hI, s_keepersServe hT hS.1 hF, s_keepersServe1 hT hS.1 hF, s_keepersServe0 hT hS.1 hF, s_isHand, s_isDay, s_isThing, s_isBag hI, s_isOfKind hI, s_isGivenOut, s_mayLieAt hT hS.1 hC hF ht, s_isAt hT hv, s_bagAround hT hv, ifc, bI_0, nmS]
  try simp only [eb, es, hT.1.1, hT.1.2.2.1, hT.1.2.2.2.2.2.1, hT.1.2.2.2.2.2.2.1, hT.2.1, hT.2.2.1, hT.2.2.2.1, hT.2.2.2.2.1, hT.2.2.2.2.2.1, hT.2.2.2.2.2.2.1, hT.2.2.2.2.2.2.2.1, hT.2.2.2.2.2.2.2.2.1, hT.2.2.2.2.2.2.2.2.2.1, hT.2.2.2.2.2.2.2.2.2.2, ht, true_and, Classical.not_not, em, ed]
  by_cases ha : q19a s t c d
  · have hp := h1 (Or.inl ha)
    rw [dE_19, if_pos ha.1] at hp
    obtain ⟨c1, c2⟩ := ha
    simp only [c1, c2, true_implies, not_true_eq_false, false_implies, and_true, true_and, not_false_eq_true, and_self, or_true, true_or]
    refine c_move hT hS hC hv (fun _ => c2.1) (fun e => absurd e (by decide)) (fun σ1 T1 C1 F1 e13 => ?_)
    exact hp σ1 T1 C1 F1
  · have n1 : d = -1 → ¬ fts s t c := fun e f => ha ⟨e, f⟩
    have tl : (c = -1 → (¬ rg (s 0 0) d → Q 0 σ) ∧ (rg (s 0 0) d → (¬ (s 9 (ix t) = 2 ∧ s 10 (ix t) = d) → wp_X3_move σ t 2 d (fun σ' => Q 1 σ')) ∧ (s 9 (ix t) = 2 ∧ s 10 (ix t) = d → Q 0 σ))) ∧ (¬ c = -1 → Q 0 σ) := by
      refine ⟨fun g1 => ⟨fun g2 => h0 ?_, fun g2 => ⟨fun g3 => ?_, fun g3 => h0 ?_⟩⟩, fun g1 => h0 ?_⟩
      · rintro (h | h)
        · exact ha h
        · exact g2 h.2.1
      · have hp := h1 (Or.inr ⟨g1, g2, g3⟩)
        rw [dE_19, if_neg (fun e => not_rg_m1 (s 0 0) (by rw [← e]; exact g2))] at hp
        refine c_move hT hS hC hv (fun e => absurd e (by decide)) (fun e => absurd e (by decide)) (fun σ1 T1 C1 F1 e13 => ?_)
        exact hp σ1 T1 C1 F1
      · rintro (h | h)
        · exact ha h
        · exact h.2.2 g3
      · rintro (h | h)
        · exact ha h
        · exact g1 h.1
    exact ⟨fun e => ⟨fun _ => tl, fun f => absurd f (n1 e)⟩, fun _ => tl⟩

end KINDS2
