section CLS1
variable {σ s : St} {Q : Int32 → St → Prop} {t a b c d dy : Int32}
theorem th_lt (hS : SK s) {x : Int32} (h : rg (s 0 2) x) : ix x < 60 ∧ vp_in x 60 := ⟨rg_lt h hS.2.2.1.2, rg_in h hS.2.2.1.2⟩
theorem vin_lt {x : Int32} {N : Nat} (h : vp_in x N) : ix x < N := by
  have h1 := vp_in_iff.mp h
  have := ixI h1.1
  omega
theorem vin_nI {x : Int32} {N : Nat} (h : vp_in x N) : x = nI (ix x) := z_of (vp_in_iff.mp h).1
theorem s_isKept (hT : TR σ s) {x : Int32} (hx : vp_in x 60) : wp_X3_isKept σ x Q ↔ Q (bI (kpt s x)) σ := by
  unfold wp_X3_isKept kpt
  rw [hT.2.1]
  by_cases h1 : s 9 (ix x) = 1
  · simp only [h1, hx, true_and, if_true, true_or, bI_t]
  · by_cases h2 : s 9 (ix x) = 2
    · simp only [h1, h2, hx, true_and, if_true, if_false, true_or, or_true, bI_t]
      simp
    · by_cases h3 : s 9 (ix x) = 3
      · simp only [h3, hx, true_and, if_true, or_true, bI_t]
        simp
      · simp only [h1, h2, h3, hx, true_and, if_false, or_self, bI_f, not_false_eq_true]
theorem s_isAt (hT : TR σ s) {x u v : Int32} (hx : vp_in x 60) : wp_X3_isAt σ x u v Q ↔ Q (bI (s 9 (ix x) = u ∧ s 10 (ix x) = v)) σ := by
  unfold wp_X3_isAt
  rw [hT.2.1, hT.2.2.1]
  by_cases h1 : s 9 (ix x) = u
  · by_cases h2 : s 10 (ix x) = v
    · simp only [h1, h2, hx, true_and, if_true, bI_t]
    · simp only [h1, h2, hx, true_and, if_true, if_false, and_false, bI_f, not_false_eq_true]
  · simp only [h1, hx, true_and, if_false, false_and, bI_f, not_false_eq_true]
theorem s_bagAround (hT : TR σ s) {x : Int32} (hx : vp_in x 60) : wp_X3_bagAround σ x Q ↔ Q (if s 9 (ix x) = 3 then s 10 (ix x) else -1) σ := by
  unfold wp_X3_bagAround
  rw [hT.2.1, hT.2.2.1]
  by_cases h1 : s 9 (ix x) = 3
  · simp only [h1, hx, true_and, if_true]
  · simp only [h1, hx, true_and, if_false]
theorem s_keepersServe (hT : TR σ s) (hS : SK s) (hF : FL σ t a b c d dy) (two : Prop) : wp_X3_keepersServe σ (bI two) Q ↔ Q (bI (hasK s a b two)) σ := by
  have hI := SC_of hT hS
  unfold wp_X3_keepersServe hasK isKp
  simp only [s_isKeeper hI, ifc, bI_0, hF.2.1, hF.2.2.1, hT.1.1, hT.1.2.2.2.1]
  by_cases h1 : rg (s 0 0) a ∧ ¬ s 1 (ix a) = 0
  · by_cases h2 : two
    · by_cases h3 : b = a
      · simp [h1, h2, h3, bI_f]
      · by_cases h4 : rg (s 0 0) b ∧ ¬ s 1 (ix b) = 0
        · simp [h1, h2, h3, h4, bI_t]
        · simp [h1, h2, h3, h4, bI_f]
    · simp [h1, h2, bI_t]
  · simp [h1, bI_f]
theorem s_keepersServe1 (hT : TR σ s) (hS : SK s) (hF : FL σ t a b c d dy) : wp_X3_keepersServe σ 1 Q ↔ Q (bI (hasK s a b True)) σ := by
  rw [← bI_t trivial]
  exact s_keepersServe hT hS hF True
theorem s_keepersServe0 (hT : TR σ s) (hS : SK s) (hF : FL σ t a b c d dy) : wp_X3_keepersServe σ 0 Q ↔ Q (bI (hasK s a b False)) σ := by
  rw [← bI_f not_false]
  exact s_keepersServe hT hS hF False
theorem emp_iff (hT : TR σ s) (hS : SK s) (hC : CI σ s) {p : Int32} (hp : rg (s 0 1 * 12) p) : vp_in p 96 ∧ (σ 24 (ix p) = -1 ↔ emp s p) := by
  have h1 := pl_96 hS.2.1 hp
  have hv : vp_in p 96 := vin2 h1.1 h1.2
  have h2 := hC.1 (ix p) (vin_lt hv)
  rw [← vin_nI hv] at h2
  refine ⟨hv, h2.trans ⟨fun h => ⟨hp, h⟩, fun h => h.2⟩⟩
theorem s_mayLieAt (hT : TR σ s) (hS : SK s) (hC : CI σ s) (hF : FL σ t a b c d dy) (ht : rg (s 0 2) t) (p : Int32) : wp_X3_mayLieAt σ p Q ↔ Q (bI (fts s t p)) σ := by
  have hI := SC_of hT hS
  unfold wp_X3_mayLieAt
  simp only [s_isPlace, s_isOfKind hI, s_isColdPlace hI, ifc, bI_0, hF.1, hT.1.2.1, hT.1.2.2.1, hT.1.2.2.2.2.1, hT.1.2.2.2.2.2.2.1]
  by_cases h1 : rg (s 0 1 * 12) p
  · obtain ⟨hv, he⟩ := emp_iff hT hS hC h1
    by_cases h2 : σ 24 (ix p) = -1
    · have h3 := he.mp h2
      by_cases h4 : s 4 (ix t) = 4
      · by_cases h5 : s 2 (ix (p / 12)) = 0
        · simp [h1, hv, h2, ht, h4, h5, h3, fts, bI_f]
        · simp [h1, hv, h2, ht, h4, h5, h3, fts, bI_t]
      · simp [h1, hv, h2, ht, h4, h3, fts, bI_t]
    · have h3 : ¬ emp s p := fun h => h2 (he.mpr h)
      simp [h1, hv, h2, h3, fts, bI_f]
  · have h3 : ¬ emp s p := fun h => h1 h.1
    simp [h1, h3, fts, bI_f]
theorem reg_1 {Q : St → Prop} {w v : Int32} (h : rg 96 w) : wp_X3_register σ 1 w v Q ↔ Q (up2 σ 24 (ix w) v) := by
  unfold wp_X3_register
  have hv : vp_in w 96 := rg_in h (by decide)
  simp only [if_true, h.1, h.2, if_false, hv, true_and, nmS]
theorem reg_3 {Q : St → Prop} {w v : Int32} (h : rg 60 w) : wp_X3_register σ 3 w v Q ↔ Q (up2 σ 22 (ix w) (σ 22 (ix w) + (if v = -1 then -1 else 1))) := by
  have hv : vp_in w 60 := rg_in h (by decide)
  have e : ((3 : Int32) = 1) = False := by decide
  unfold wp_X3_register j_X3_register_28 j_X3_register_63
  by_cases hq : v = -1
  · simp only [e, if_true, h.1, h.2, if_false, hv, true_and, nmS, hq]
  · simp only [e, if_true, h.1, h.2, if_false, hv, true_and, nmS, hq]
theorem reg_o {Q : St → Prop} {k w v : Int32} (h1 : ¬ k = 1) (h3 : ¬ k = 3) : wp_X3_register σ k w v Q ↔ Q σ := by
  unfold wp_X3_register j_X3_register_28
  simp only [h1, h3, if_false]
end CLS1
