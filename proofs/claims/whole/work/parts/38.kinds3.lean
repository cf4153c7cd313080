section KINDS3
variable {σ s : St} {Q : Int32 → St → Prop} {t a b c d dy : Int32}
theorem hasK_congr {P P' : Prop} (h : P ↔ P') : hasK s a b P = hasK s a b P' := by rw [propext h]
theorem k_comeFrom (H : KH σ s t a b c d dy) (h1 : q7 s t a b c → OKs σ (dE s 7 t a c d) Q) (h0 : ¬ q7 s t a b c → Q 0 σ) : wp_X3_comeFrom σ Q := by
  obtain ⟨hT, hS, hC, hF, ht⟩ := H
  have hI := SC_of hT hS.1
  have hv := (th_lt hS.1 ht).2
  have em : ∀ x, (s 4 (ix x) = 5) = mny s x := fun _ => rfl
  have eb : ∀ x, (s 4 (ix x) = 1 ∨ s 4 (ix x) = 4 ∨ mny s x) = bg s x := fun _ => rfl
  unfold wp_X3_comeFrom j_X3_comeFrom_50 j_X3_comeFrom_55
  rw [hF.1, s_bagAround hT hv]
  by_cases h3 : s 9 (ix t) = 3
  · rw [if_pos h3]
    obtain ⟨u1, u2, u3⟩ := up_in hS (vin_lt hv) h3
    have hg := (hS.2.2.2.2.1 (ix t) (vin_lt hv) h3).2
    simp only [u2, hF.1, hF.2.1, hF.2.2.1, hF.2.2.2.1, hF.2.2.2.2.1, hF.2.2.2.2.2, hv, true_and, s_isMoneyBag hI, s_keepersServe hT hS.1 hF, s_keepersServe1 hT hS.1 hF, s_keepersServe0 hT hS.1 hF, s_isHand, s_isDay, s_isThing, s_isBag hI, s_isOfKind hI, s_isGivenOut, s_mayLieAt hT hS.1 hC hF ht, s_isAt hT hv, s_bagAround hT hv, ifc, bI_0, nmS]
    simp only [u1, hT.1.1, hT.1.2.2.1, hT.1.2.2.2.2.2.1, hT.1.2.2.2.2.2.2.1, hT.2.1, hT.2.2.1, hT.2.2.2.1, hT.2.2.2.2.1, hT.2.2.2.2.2.1, hT.2.2.2.2.2.2.1, hT.2.2.2.2.2.2.2.1, hT.2.2.2.2.2.2.2.2.1, hT.2.2.2.2.2.2.2.2.2.1, hT.2.2.2.2.2.2.2.2.2.2, ht, true_and, Classical.not_not, em, not_true_eq_false, not_false_eq_true, false_implies, true_implies]
    have KS : ∀ two : Prop, (two ↔ (mny s t ∨ mny s (s 10 (ix t)))) → s 12 (upx s (ix t)) = -1 → ((¬ hasK s a b two → Q 0 σ) ∧ (hasK s a b two → (s 9 (ix (s 10 (ix t))) = 2 → wp_X3_move σ t 2 (s 10 (ix (s 10 (ix t)))) fun σ12 => Q 1 σ12) ∧ (¬ s 9 (ix (s 10 (ix t))) = 2 → (s 9 (ix (s 10 (ix t))) = 1 → (¬ fts s t c → Q 0 σ) ∧ (fts s t c → wp_X3_move σ t 1 c fun σ11 => Q 1 σ11)) ∧ (¬ s 9 (ix (s 10 (ix t))) = 1 → Q 0 σ)))) := by
      intro two ht2 hs
      rw [hasK_congr ht2]
      refine ⟨fun g => h0 (fun q => g q.2.2.1), fun g => ⟨fun g2 => ?_, fun g2 => ⟨fun g3 => ⟨fun g4 => h0 (fun q => ?_), fun g4 => ?_⟩, fun g3 => h0 (fun q => ?_)⟩⟩⟩
      · have hp := h1 ⟨h3, hs, g, Or.inl g2⟩
        rw [dE_7, if_pos g2] at hp
        refine c_move hT hS hC hv (fun e => absurd e (by decide)) (fun e => absurd e (by decide)) (fun σ1 T1 C1 F1 e13 => ?_)
        exact hp σ1 T1 C1 F1
      · rcases q.2.2.2 with k | k
        · exact g2 k
        · exact g4 k.2
      · have hp := h1 ⟨h3, hs, g, Or.inr ⟨g3, g4⟩⟩
        rw [dE_7, if_neg g2] at hp
        refine c_move hT hS hC hv (fun _ => g4.1) (fun e => absurd e (by decide)) (fun σ1 T1 C1 F1 e13 => ?_)
        exact hp σ1 T1 C1 F1
      · rcases q.2.2.2 with k | k
        · exact g2 k
        · exact g3 k.1
    refine ⟨fun g1 => ⟨fun g2 => ⟨fun g3 => ?_, fun g3 => ?_⟩, fun g2 => ?_⟩, fun g1 => h0 (fun q => g1 q.2.1)⟩
    · exact KS False ⟨fun q => q.elim, fun q => q.elim g2 g3⟩ g1
    · exact KS True ⟨fun _ => Or.inr g3, fun _ => trivial⟩ g1
    · exact KS True ⟨fun _ => Or.inl g2, fun _ => trivial⟩ g1
  · rw [if_neg h3, s_isThing, bI_f (not_rg_m1 _), if_pos rfl]
    exact h0 (fun q => h3 q.1)
theorem gi_149 (H : KH σ s t a b c d dy) (hvc : vp_in c 60) (ht3 : ¬ s 9 (ix t) = 3) (two : Prop) (k1 : hasK s a b two → cnB s c < 8 → dpO s t → wp_X3_move σ t 3 c (fun σ' => Q 1 σ')) (k0 : ¬ (hasK s a b two ∧ cnB s c < 8 ∧ dpO s t) → Q 0 σ) : j_X3_goInto_149 Q (bI two) σ := by
  obtain ⟨hT, hS, hC, hF, ht⟩ := H
  have hI := SC_of hT hS.1
  have hv := (th_lt hS.1 ht).2
  have em : ∀ x, (s 4 (ix x) = 5) = mny s x := fun _ => rfl
  have eb : ∀ x, (s 4 (ix x) = 1 ∨ s 4 (ix x) = 4 ∨ mny s x) = bg s x := fun _ => rfl
  unfold j_X3_goInto_149
  have ins : (σ 22 (ix c) < 8) = (cnB s c < 8) := by
    rw [hC.2 (ix c) (vin_lt hvc), ← vin_nI hvc]
    have hle : cnB s c ≤ 60 := cntP_le _ _
    have e8 : (8 : Int32) = nI 8 := rfl
    rw [e8, propext (nI_ltI (by omega) (by decide))]
  simp only [hF.1, hF.2.2.2.1, hvc, true_and, s_keepersServe hT hS.1 hF, ifc, bI_0, ins, Classical.not_not]
  refine ⟨fun g => k0 (fun q => g q.1), fun g => ⟨fun g2 => ?_, fun g2 => k0 (fun q => g2 q.2.1)⟩⟩
  refine c_deepestIn hT hS hv ?_
  obtain ⟨t1, t2⟩ := thN_le hS.1
  have hb : mxN (fun x => stU s (ix t) 4 1 x) (thN s) ≤ 5 := mxN_le (fun x => stU_le s (ix t) 4 1 x) _
  have dp : (4 < nI (mxN (fun x => stU s (ix t) 4 1 x) (thN s)) + 1) ↔ ¬ dpO s t := by
    rw [nI_1, i4' (by
      have h9 : mxN (fun x => stU s (ix t) 4 1 x) (thN s) ≤ 4 := mxN_le (fun x => ?_) _
      · omega
      · exact stU_le4 s (ix t) x)]
    have e : 4 < mxN (fun x => stU s (ix t) 4 1 x) (thN s) + 1 ↔ 4 ≤ mxN (fun x => stU s (ix t) 4 1 x) (thN s) := by omega
    rw [e, mxN_ge (by decide)]
    constructor
    · intro ⟨x, q1, q2⟩ q3
      exact q3 x (by omega) ((stU_4 ht3 x).mp q2)
    · intro q
      refine Classical.byContradiction (fun n => q (fun x hx q2 => n ⟨x, ?_, (stU_4 ht3 x).mpr q2⟩))
      have h3 : s 9 x = 3 := q2.1
      have := hS.2.2.1 x hx (by rw [h3]; decide)
      have h4 := ixI hS.1.2.2.1.1
      unfold thN
      omega
  refine ⟨fun q => k0 (fun k => dp.mp q k.2.2), fun q => ?_⟩
  rw [hF.1, hF.2.2.2.1]
  exact k1 g g2 (Classical.not_not.mp (fun n => q (dp.mpr n)))
theorem k_goInto (H : KH σ s t a b c d dy) (h1 : q6 s t a b c → OKs σ (dE s 6 t a c d) Q) (h0 : ¬ q6 s t a b c → Q 0 σ) : wp_X3_goInto σ Q := by
  have H' := H
  obtain ⟨hT, hS, hC, hF, ht⟩ := H
  have hI := SC_of hT hS.1
  have hv := (th_lt hS.1 ht).2
  have em : ∀ x, (s 4 (ix x) = 5) = mny s x := fun _ => rfl
  have eb : ∀ x, (s 4 (ix x) = 1 ∨ s 4 (ix x) = 4 ∨ mny s x) = bg s x := fun _ => rfl
  unfold wp_X3_goInto j_X3_goInto_77 j_X3_goInto_111 j_X3_goInto_115 j_X3_goInto_116
  rw [hF.2.2.2.1, s_isBag hI]
  simp only [hT.1.2.2.1, hT.1.2.2.2.2.2.2.1, em, eb]
  by_cases hb : rg (s 0 2) c ∧ bg s c
  · have hvc := (th_lt hS.1 hb.1).2
    rw [bI_t hb, if_neg (by decide), hF.2.2.2.1, s_isKept hT hvc]
    simp only [hF.1, hF.2.2.2.1, hT.2.1, hT.2.2.1, hT.2.2.2.2.1, hv, hvc, true_and, s_isAt hT hv, s_isMoneyBag hI, ifc, bI_0, Classical.not_not, hT.1.2.2.1, hT.1.2.2.2.2.2.2.1, ht, hb.1, em, one_ne_0, not_false_eq_true, not_true_eq_false, false_implies, true_implies]
    have KS : ∀ two : Prop, (two ↔ (mny s t ∨ mny s c)) → kpt s c → ¬ c = t → s 12 (ix c) = -1 → ((s 9 (ix t) = 1 ∧ s 9 (ix c) = 1) ∨ (s 9 (ix c) = 2 ∧ s 9 (ix t) = 2 ∧ s 10 (ix t) = s 10 (ix c))) → j_X3_goInto_149 Q (bI two) σ := by
      intro two ht2 g1 g2 g3 g4
      have ht3 : ¬ s 9 (ix t) = 3 := by
        rcases g4 with k | k
        · rw [k.1]; decide
        · rw [k.2.1]; decide
      refine gi_149 H' hvc ht3 two (fun k1 k2 k3 => ?_) (fun k => h0 (fun q => k ?_))
      · rw [hasK_congr ht2] at k1
        have hp := h1 ⟨hb, g1, g2, g3, g4, k1, k2, k3⟩
        rw [dE_6] at hp
        refine c_move hT hS hC hv (fun e => absurd e (by decide)) (fun _ => hb.1) (fun σ1 T1 C1 F1 e13 => ?_)
        exact hp σ1 T1 C1 F1
      · rw [hasK_congr ht2]; exact q.2.2.2.2.2
    have KT : kpt s c → ¬ c = t → s 12 (ix c) = -1 → ((s 9 (ix t) = 1 ∧ s 9 (ix c) = 1) ∨ (s 9 (ix c) = 2 ∧ s 9 (ix t) = 2 ∧ s 10 (ix t) = s 10 (ix c))) → ((¬ mny s t → (¬ mny s c → j_X3_goInto_149 Q 0 σ) ∧ (mny s c → j_X3_goInto_144 Q σ)) ∧ (mny s t → j_X3_goInto_144 Q σ)) := by
      intro g1 g2 g3 g4
      unfold j_X3_goInto_144
      rw [← bI_f not_false, ← bI_t trivial]
      exact ⟨fun q => ⟨fun q2 => KS False ⟨fun k => k.elim, fun k => k.elim q q2⟩ g1 g2 g3 g4, fun q2 => KS True ⟨fun _ => Or.inr q2, fun _ => trivial⟩ g1 g2 g3 g4⟩, fun q => KS True ⟨fun _ => Or.inl q, fun _ => trivial⟩ g1 g2 g3 g4⟩
    have KB : kpt s c → ¬ c = t → s 12 (ix c) = -1 → ¬ (s 9 (ix t) = 1 ∧ s 9 (ix c) = 1) → (s 9 (ix c) = 2 → (¬ (s 9 (ix t) = 2 ∧ s 10 (ix t) = s 10 (ix c)) → Q 0 σ ∧ True) ∧ (s 9 (ix t) = 2 ∧ s 10 (ix t) = s 10 (ix c) → ((¬ mny s t → (¬ mny s c → j_X3_goInto_149 Q 0 σ) ∧ (mny s c → j_X3_goInto_144 Q σ)) ∧ (mny s t → j_X3_goInto_144 Q σ)))) ∧ (¬ s 9 (ix c) = 2 → Q 0 σ ∧ True) := by
      intro g1 g2 g3 g5
      exact ⟨fun e => ⟨fun n => ⟨h0 (fun q => q.2.2.2.2.1.elim g5 (fun k => n k.2)), trivial⟩, fun k => KT g1 g2 g3 (Or.inr ⟨e, k⟩)⟩, fun n => ⟨h0 (fun q => q.2.2.2.2.1.elim g5 (fun k => n k.1)), trivial⟩⟩
    exact ⟨fun g => h0 (fun q => g q.2.1), fun g1 => ⟨fun g => h0 (fun q => q.2.2.1 g), fun g2 => ⟨fun g3 => ⟨fun g4 => ⟨fun g5 => KT g1 g2 g3 (Or.inl ⟨g4, g5⟩), fun g5 => KB g1 g2 g3 (fun k => g5 k.2)⟩, fun g4 => KB g1 g2 g3 (fun k => g4 k.1)⟩, fun g => h0 (fun q => g q.2.2.2.1)⟩⟩⟩
  · rw [bI_f hb, if_pos rfl]
    exact h0 (fun q => hb q.1)
theorem c_mayBeTaken (H : KH σ s t a b c d dy) (kd : Int32) (k : Q (bI (qT s t a b c kd)) σ) : wp_X3_mayBeTaken σ kd Q := by
  obtain ⟨hT, hS, hC, hF, ht⟩ := H
  have hI := SC_of hT hS.1
  have hv := (th_lt hS.1 ht).2
  have em : ∀ x, (s 4 (ix x) = 5) = mny s x := fun _ => rfl
  have eb : ∀ x, (s 4 (ix x) = 1 ∨ s 4 (ix x) = 4 ∨ mny s x) = bg s x := fun _ => rfl
  unfold wp_X3_mayBeTaken
  rw [hF.2.2.2.1, s_isOfKind hI, hT.1.2.2.1, hT.1.2.2.2.2.2.2.1]
  by_cases g1 : rg (s 0 2) c ∧ s 4 (ix c) = kd
  · have hvc := (th_lt hS.1 g1.1).2
    rw [bI_t g1, if_neg (by decide), hF.2.2.2.1, hT.2.1]
    refine ⟨hvc, ?_⟩
    by_cases g2 : s 9 (ix c) = 0
    · rw [if_pos g2, hF.1]
      refine c_isFree hT hS hv ?_
      by_cases g3 : frN s 4 (ix t)
      · rw [bI_t g3, if_neg (by decide), hF.1, s_isMoneyBag hI, s_keepersServe hT hS.1 hF, hT.1.2.2.1, hT.1.2.2.2.2.2.2.1]
        have e : (rg (s 0 2) t ∧ s 4 (ix t) = 5) = mny s t := propext ⟨fun q => q.2, fun q => ⟨ht, q⟩⟩
        rw [e]
        by_cases g4 : hasK s a b (mny s t)
        · rw [bI_t g4, if_neg (by decide)]
          rw [bI_t ⟨g1, g2, g3, g4⟩] at k
          exact k
        · rw [bI_f g4, if_pos rfl]
          rw [bI_f (fun q => g4 q.2.2.2)] at k
          exact k
      · rw [bI_f g3, if_pos rfl]
        rw [bI_f (fun q => g3 q.2.2.1)] at k
        exact k
    · rw [if_neg g2]
      rw [bI_f (fun q => g2 q.2.1)] at k
      exact k
  · rw [bI_f g1, if_pos rfl]
    rw [bI_f (fun q => g1 q.1)] at k
    exact k
theorem c_bring {σ0 s0 : St} {Q : St → Prop} (hT : TR σ0 s0) (hS : SJ s0) (hC : CI σ0 s0) (hF : FL σ0 t a b c d dy) (hvc : vp_in c 60) (k : ∀ σ', TR σ' (mvE (up2 (up2 s0 18 (ix c) 1) 17 (ix c) t) c 2 a) → CI σ' (mvE (up2 (up2 s0 18 (ix c) 1) 17 (ix c) t) c 2 a) → FR σ0 σ' → Q σ') : wp_X3_bringToHand σ0 Q := by
  unfold wp_X3_bringToHand
  simp only [nmS]
  rw [hF.2.2.2.1, hF.1, up2_ne (by decide), hF.2.2.2.1, hF.2.1]
  refine ⟨hvc, ?_⟩
  have e9 : up2 (up2 s0 18 (ix c) 1) 17 (ix c) t 9 = s0 9 := by rw [up2_ne (by decide), up2_ne (by decide)]
  have e10 : up2 (up2 s0 18 (ix c) 1) 17 (ix c) t 10 = s0 10 := by rw [up2_ne (by decide), up2_ne (by decide)]
  refine c_moveJ (TR_23 (TR_was hT)) (SJ_same hS (by rw [up2_ne (by decide), up2_ne (by decide)]) (by rw [up2_ne (by decide), up2_ne (by decide)]) e9 e10) (CI_same hC (up2_ne (by decide)) (up2_ne (by decide)) e9 e10) hvc (fun e => absurd e (by decide)) (fun e => absurd e (by decide)) (fun σ1 T1 C1 F1 e13 => ?_)
  exact k σ1 T1 C1 ((FR.rf.up (by decide) (by decide)).tr F1)
theorem k_takeCopy (H : KH σ s t a b c d dy) (h1 : qT s t a b c 3 → OKs σ (dE s 12 t a c d) Q) (h0 : ¬ qT s t a b c 3 → Q 0 σ) : wp_X3_takeCopy σ Q := by
  unfold wp_X3_takeCopy
  refine c_mayBeTaken H 3 ?_
  obtain ⟨hT, hS, hC, hF, ht⟩ := H
  have hI := SC_of hT hS.1
  have hv := (th_lt hS.1 ht).2
  have em : ∀ x, (s 4 (ix x) = 5) = mny s x := fun _ => rfl
  have eb : ∀ x, (s 4 (ix x) = 1 ∨ s 4 (ix x) = 4 ∨ mny s x) = bg s x := fun _ => rfl
  by_cases g : qT s t a b c 3
  · rw [bI_t g, if_neg (by decide)]
    have hp := h1 g
    rw [dE_12] at hp
    exact c_bring hT (SI_J hS) hC hF (th_lt hS.1 g.1.1).2 (fun σ1 T1 C1 F1 => hp σ1 T1 C1 F1)
  · rw [bI_f g, if_pos rfl]
    exact h0 g
theorem upd_comm (f : Nat → Int32) {i j : Nat} (u v : Int32) (h : i ≠ j) : upd (upd f i u) j v = upd (upd f j v) i u := by
  funext k
  simp only [upd]
  by_cases h1 : k = i
  · subst h1; simp [h]
  · by_cases h2 : k = j
    · rw [if_pos h2, if_neg h1, if_pos h2]
    · simp [h1, h2]
theorem mvE_up (s : St) (x u w : Int32) {r : Nat} (j : Nat) (v : Int32) (h9 : r ≠ 9) (h10 : r ≠ 10) : up2 (mvE s x u w) r j v = mvE (up2 s r j v) x u w := by
  funext k
  by_cases e9 : k = 9
  · subst e9; rw [up2_ne (Ne.symm h9), mvE_9, mvE_9, up2_ne (Ne.symm h9)]
  · by_cases e10 : k = 10
    · subst e10; rw [up2_ne (Ne.symm h10), mvE_10, mvE_10, up2_ne (Ne.symm h10)]
    · rw [mvE_o _ _ _ _ e9 e10]
      by_cases h : k = r
      · subst h; rw [up2_eq, up2_eq, mvE_o _ _ _ _ h9 h10]
      · rw [up2_ne h, up2_ne h, mvE_o _ _ _ _ e9 e10]
theorem up2_comm (s : St) {r q : Nat} (i j : Nat) (u v : Int32) (h : r ≠ q) : up2 (up2 s r i u) q j v = up2 (up2 s q j v) r i u := by
  funext k
  by_cases e1 : k = q
  · subst e1; rw [up2_eq, up2_ne (Ne.symm h), up2_ne (Ne.symm h), up2_eq]
  · rw [up2_ne e1]
    by_cases e2 : k = r
    · subst e2; rw [up2_eq, up2_eq, up2_ne h]
    · rw [up2_ne e2, up2_ne e2, up2_ne e1]
theorem up2_comm2 (s : St) {r i j : Nat} (u v : Int32) (h : i ≠ j) : up2 (up2 s r i u) r j v = up2 (up2 s r j v) r i u := by
  funext k
  by_cases e1 : k = r
  · subst e1; rw [up2_eq, up2_eq, up2_eq, up2_eq, upd_comm _ _ _ h]
  · rw [up2_ne e1, up2_ne e1, up2_ne e1, up2_ne e1]
theorem k_takePart (H : KH σ s t a b c d dy) (h1 : q11 s t a b c d → OKs σ (dE s 11 t a c d) Q) (h0 : ¬ q11 s t a b c d → Q 0 σ) (hk : kpt s t) : wp_X3_takePart σ Q := by
  unfold wp_X3_takePart
  refine c_mayBeTaken H 2 ?_
  obtain ⟨hT, hS, hC, hF, ht⟩ := H
  have hI := SC_of hT hS.1
  have hv := (th_lt hS.1 ht).2
  have em : ∀ x, (s 4 (ix x) = 5) = mny s x := fun _ => rfl
  have eb : ∀ x, (s 4 (ix x) = 1 ∨ s 4 (ix x) = 4 ∨ mny s x) = bg s x := fun _ => rfl
  by_cases g : qT s t a b c 2
  · rw [bI_t g, if_neg (by decide)]
    have hvc := (th_lt hS.1 g.1.1).2
    have hne : ix t ≠ ix c := by
      intro e
      have g0 := g.2.1
      rw [← e] at g0
      rcases hk with k | k | k <;> · rw [g0] at k; exact absurd k (by decide)
    have f16 : ∀ (j : Nat) (v : Int32), up2 σ 16 j v 13 = σ 13 := fun _ _ => up2_ne (by decide)
    simp only [f16, hF.1, hF.2.2.2.1, hF.2.2.2.2.1, hv, hvc, true_and, ifc, nmS, hT.2.2.2.1]
    refine ⟨fun g1 => h0 (fun q => q.2.1 g1), fun g1 => ⟨fun g2 => h0 (fun q => q.2.2 g2), fun g2 => ?_⟩⟩
    have hp := h1 ⟨g, g1, g2⟩
    rw [dE_11] at hp
    have T0 : TR (up2 (up2 σ 16 (ix t) (s 11 (ix t) - d)) 16 (ix c) d) (up2 (up2 s 11 (ix t) (s 11 (ix t) - d)) 11 (ix c) d) := TR_16 (TR_16 hT)
    have e9 : (up2 (up2 s 11 (ix t) (s 11 (ix t) - d)) 11 (ix c) d) 9 = s 9 := by rw [up2_ne (by decide), up2_ne (by decide)]
    have e10 : (up2 (up2 s 11 (ix t) (s 11 (ix t) - d)) 11 (ix c) d) 10 = s 10 := by rw [up2_ne (by decide), up2_ne (by decide)]
    have J0 : SJ (up2 (up2 s 11 (ix t) (s 11 (ix t) - d)) 11 (ix c) d) := SJ_same (SI_J hS) (by rw [up2_ne (by decide), up2_ne (by decide)]) (by rw [up2_ne (by decide), up2_ne (by decide)]) e9 e10
    have C0 : CI (up2 (up2 σ 16 (ix t) (s 11 (ix t) - d)) 16 (ix c) d) (up2 (up2 s 11 (ix t) (s 11 (ix t) - d)) 11 (ix c) d) := CI_same hC (by rw [up2_ne (by decide), up2_ne (by decide)]) (by rw [up2_ne (by decide), up2_ne (by decide)]) e9 e10
    have F0 : FL (up2 (up2 σ 16 (ix t) (s 11 (ix t) - d)) 16 (ix c) d) t a b c d dy := by
      unfold FL
      rw [up2_ne (by decide), up2_ne (by decide)]
      exact hF
    refine c_bring T0 J0 C0 F0 hvc (fun σ1 T1 C1 F1 => ?_)
    have e : mvE (up2 (up2 (up2 (up2 s 11 (ix t) (s 11 (ix t) - d)) 11 (ix c) d) 18 (ix c) 1) 17 (ix c) t) c 2 a = up2 (up2 (mvE (up2 (up2 s 18 (ix c) 1) 17 (ix c) t) c 2 a) 11 (ix c) d) 11 (ix t) (s 11 (ix t) - d) := by
      funext k
      by_cases h : k = 11
      · subst h
        simp [mvE, up2_at, upd_comm _ _ _ hne]
      · simp [mvE, up2_at, h]
    rw [e] at T1 C1
    exact hp σ1 T1 C1 (((FR.rf.up (by decide) (by decide)).up (by decide) (by decide)).tr F1)
  · rw [bI_f g, if_pos rfl]
    exact h0 (fun q => g q.1)

end KINDS3
