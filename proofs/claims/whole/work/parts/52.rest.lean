/-! between calls: class and reference side by side -/
abbrev mnF (f : Nat → Int32) : Nat → Int32 := fun q => f (8 * q + 6)
abbrev oD (f : Nat → Int32) (c : Nat) : Nat → Int32 := ordN (mnF f) (fun _ => 0) c
def AD (c : Nat) (s : St) : Prop := (fU (s 6) (oD (s 6) c) c 0 (beg s)).1 = -1
theorem oD_rng (f : Nat → Int32) (c : Nat) : ∀ k, k < c → ∃ v, v < c ∧ oD f c k = nI v := fun k hk => ordN_rng (mn := mnF f) (fun _ => 0) c k hk
theorem oD_congr {f g : Nat → Int32} {c : Nat} (hc : c < 2 ^ 31) (h : ∀ j, j < 8 * c → f j = g j) : oD f c = oD g c := ordN_congr _ c hc (fun k hk => h _ (by omega))
section REST
variable {n : Nat} {σ s σ' s' : St}
theorem RW_beg {n0 : Nat} (hn : n0 ≤ 60) (h : TA s s') (h5 : ∀ x, x < n0 → s' 5 x = s 5 x) : RW n0 (beg s) (beg s') := by
  obtain ⟨b9, b10, b11, b12, b13, b14, b15, b16, b17, b18, b19⟩ := beg_r s
  obtain ⟨c9, c10, c11, c12, c13, c14, c15, c16, c17, c18, c19⟩ := beg_r s'
  refine ⟨fun q a b e => ?_, fun x hx => ?_⟩
  · have hk : q = 9 ∨ q = 10 ∨ q = 12 ∨ q = 13 ∨ q = 14 ∨ q = 15 ∨ q = 16 ∨ q = 17 ∨ q = 18 ∨ q = 19 := by omega
    rcases hk with e | e | e | e | e | e | e | e | e | e <;> subst e
    · rw [b9, c9]; exact fillA_tl (fun j hj => h.1 9 (by decide) (by decide) j hj)
    · rw [b10, c10]; exact fillA_tl (fun j hj => h.1 10 (by decide) (by decide) j hj)
    · rw [b12, c12]; exact fillA_tl (fun j hj => h.1 12 (by decide) (by decide) j hj)
    · rw [b13, c13]; exact fillA_tl (fun j hj => h.1 13 (by decide) (by decide) j hj)
    · rw [b14, c14]; exact fillA_tl (fun j hj => h.1 14 (by decide) (by decide) j hj)
    · rw [b15, c15]; exact fillA_tl (fun j hj => h.1 15 (by decide) (by decide) j hj)
    · rw [b16, c16]; exact fillA_tl (fun j hj => h.1 16 (by decide) (by decide) j hj)
    · rw [b17, c17]; exact fillA_tl (fun j hj => h.1 17 (by decide) (by decide) j hj)
    · rw [b18, c18]; exact fillA_tl (fun j hj => h.1 18 (by decide) (by decide) j hj)
    · rw [b19, c19]; exact fillA_tl (fun j hj => h.2 j hj)
  · rw [b11, c11]
    simp only [show x < 60 by omega, if_true]
    exact h5 x hx
theorem MO_beg (h : MO s s') : MO (beg s) (beg s') := by
  unfold MO
  rw [beg_o s (show 0 < 9 ∨ 19 < 0 by omega), beg_o s (show 1 < 9 ∨ 19 < 1 by omega), beg_o s (show 2 < 9 ∨ 19 < 2 by omega), beg_o s (show 4 < 9 ∨ 19 < 4 by omega), beg_o s' (show 0 < 9 ∨ 19 < 0 by omega), beg_o s' (show 1 < 9 ∨ 19 < 1 by omega), beg_o s' (show 2 < 9 ∨ 19 < 2 by omega), beg_o s' (show 4 < 9 ∨ 19 < 4 by omega)]
  exact h
theorem fU_keep {f o : Nat → Int32} {c : Nat} (hc : c < 2 ^ 31) (ho : ∀ k, k < c → ∃ v, v < c ∧ o k = nI v) (hK : SK s) (hK' : SK s') (h : MO s s') (h5 : ∀ x, x < ix (s 0 2) → s' 5 x = s 5 x) (hT : TA s s') (hs : ∀ i, i < c → f (8 * i) = 8 → isSl s (f (8 * i + 4)) → isSl s' (f (8 * i + 4))) (hq : (fU f o c 0 (beg s)).1 = -1) : (fU f o c 0 (beg s')).1 = -1 := by
  have hl : ix (s 0 2) ≤ 60 := by
    have h0 := hK.2.2.1
    have := ixI h0.1
    omega
  refine fU_mono hc ho c 0 (beg s) (beg s') (by omega) (SI_beg hK) (SI_beg hK').1 (MO_beg h) ?_ (fun i hi e q => ?_) hq
  · rw [beg_o s (show 0 < 9 ∨ 19 < 0 by omega)]; exact RW_beg hl hT h5
  · unfold isSl at q ⊢
    rw [beg_o s (show 3 < 9 ∨ 19 < 3 by omega)] at q
    rw [beg_o s' (show 3 < 9 ∨ 19 < 3 by omega)]
    exact hs i hi e q
theorem AD_keep {c : Nat} (hc : c ≤ 400) (hK : SK s) (hK' : SK s') (h : MO s s') (h5 : ∀ x, x < ix (s 0 2) → s' 5 x = s 5 x) (hT : TA s s') (hs : ∀ i, i < c → s 6 (8 * i) = 8 → isSl s (s 6 (8 * i + 4)) → isSl s' (s 6 (8 * i + 4))) (h6 : ∀ j, j < 8 * c → s' 6 j = s 6 j) (hq : AD c s) : AD c s' := by
  unfold AD at hq ⊢
  rw [oD_congr (by omega) h6, fU_congr (f := s' 6) (g := s 6) (o := oD (s 6) c) (q := oD (s 6) c) (n := c) (by omega) h6 (fun k hk => ⟨rfl, oD_rng _ _ k hk⟩) c 0 _ (by omega)]
  exact fU_keep (by omega) (oD_rng (s 6) c) hK hK' h h5 hT hs hq
theorem MO_rf (h0 : s' 0 0 = s 0 0) (h1 : s' 0 1 = s 0 1) (h2 : s' 0 2 = s 0 2) (r1 : s' 1 = s 1) (r2 : s' 2 = s 2) (r4 : s' 4 = s 4) : MO s s' := by
  unfold MO
  rw [h0, h1, h2, r1, r2, r4]
  exact ⟨⟨Int.le_refl _, fun _ _ => rfl⟩, ⟨Int.le_refl _, fun _ _ => rfl⟩, ⟨Int.le_refl _, fun _ _ => rfl⟩⟩
def R_slips (c : Nat) (σ s : St) : Prop := c ≤ 400 ∧ σ 7 2 = nI c ∧ s 0 3 = nI c ∧ (∀ j, j < 8 * c → σ 8 j = s 6 j) ∧ ∀ k, k < c → σ 9 k = oD (s 6) c k
def R_img (σ s : St) : Prop := (σ 0 8 = 0 ∧ s 0 6 = -1) ∨ ∃ e, e ≤ 400 ∧ ¬ σ 0 8 = 0 ∧ σ 10 2 = nI e ∧ s 0 6 = nI e ∧ (∀ j, j < 8 * e → σ 11 j = s 7 j) ∧ ∀ k, k < e → σ 12 k = oD (s 7) e k
def R_misc (σ s : St) : Prop := σ 0 9 = s 0 4 ∧ (0 ≤ (s 0 4).toInt ∧ (s 0 4).toInt ≤ 100000000) ∧ σ 0 10 = s 0 15 ∧ σ 0 11 = s 0 16
def okH (s : St) (i : Nat) : Prop := rg (s 0 2) (s 8 (7 * i)) ∧ ¬ s 8 (7 * i + 1) = s 8 (7 * i + 2) ∧ (0 ≤ (s 8 (7 * i + 3)).toInt ∧ (s 8 (7 * i + 3)).toInt ≤ (s 0 4).toInt) ∧ (s 8 (7 * i + 4) = -1 ∨ (0 ≤ (s 8 (7 * i + 4)).toInt ∧ (s 8 (7 * i + 4)).toInt ≤ (s 0 4).toInt)) ∧ (s 8 (7 * i + 5) = -1 ∨ (0 ≤ (s 8 (7 * i + 5)).toInt ∧ (s 8 (7 * i + 5)).toInt ≤ (s 0 4).toInt))
def R_hd (n : Nat) (σ s : St) : Prop := n ≤ 60 ∧ σ 0 7 = nI n ∧ s 0 5 = nI n ∧ (∀ j, j < 7 * n → σ 30 j = s 8 j) ∧ ∀ i, i < n → okH s i
def RI (n : Nat) (σ s : St) : Prop := STK σ s ∧ SK s ∧ TL σ s ∧ (∃ c, R_slips c σ s ∧ AD c s) ∧ R_img σ s ∧ R_misc σ s ∧ R_hd n σ s
theorem R_img_same (h : R_img σ s) (h0 : σ' 0 8 = σ 0 8) (h10 : σ' 10 = σ 10) (h11 : σ' 11 = σ 11) (h12 : σ' 12 = σ 12) (g6 : s' 0 6 = s 0 6) (g7 : s' 7 = s 7) : R_img σ' s' := by
  unfold R_img at h ⊢
  rw [h0, h10, h11, h12, g6, g7]
  exact h
theorem okH_mono {i : Nat} (h : okH s i) (h8 : s' 8 = s 8) (h4 : (s 0 4).toInt ≤ (s' 0 4).toInt) (h2 : (s 0 2).toInt ≤ (s' 0 2).toInt) : okH s' i := by
  unfold okH at h ⊢
  rw [h8]
  obtain ⟨q1, q2, q3, q4, q5⟩ := h
  exact ⟨rg_mono h2 q1, q2, ⟨q3.1, Int.le_trans q3.2 h4⟩, q4.imp id (fun z => ⟨z.1, Int.le_trans z.2 h4⟩), q5.imp id (fun z => ⟨z.1, Int.le_trans z.2 h4⟩)⟩
/-- the stock grows -/
theorem RI_stock (h : RI n σ s) (a : ∀ k, k = 0 ∨ 7 ≤ k → σ' k = σ k) (b : ∀ k, 6 ≤ k → s' k = s k) (b0 : ∀ j, 3 ≤ j → s' 0 j = s 0 j) (hK : STK σ' s') (hSK : SK s') (hM : MO s s') (h5 : ∀ x, x < ix (s 0 2) → s' 5 x = s 5 x) (hs : ∀ c, s 0 3 = nI c → c ≤ 400 → ∀ i, i < c → s 6 (8 * i) = 8 → isSl s (s 6 (8 * i + 4)) → isSl s' (s 6 (8 * i + 4))) : RI n σ' s' := by
  obtain ⟨k1, k2, k3, ⟨c, k4, k5⟩, k6, k7, k8⟩ := h
  have hT : TA s s' := TA.same (fun k h1 h2 => b k (by omega))
  refine ⟨hK, hSK, ?_, ⟨c, ?_, ?_⟩, ?_, ?_, ?_⟩
  · have : TL σ' s := by
      unfold TL at k3 ⊢
      rw [a 14 (by omega), a 15 (by omega), a 16 (by omega), a 17 (by omega), a 18 (by omega), a 19 (by omega), a 20 (by omega), a 21 (by omega), a 23 (by omega), a 25 (by omega)]
      exact k3
    exact TL_TA this hT
  · unfold R_slips at k4 ⊢
    rw [a 7 (by omega), a 8 (by omega), a 9 (by omega), b 6 (by omega), b0 3 (by omega)]
    exact k4
  · exact AD_keep k4.1 k2 hSK hM h5 hT (hs c k4.2.2.1 k4.1) (fun j _ => by rw [b 6 (by omega)]) k5
  · exact R_img_same k6 (by rw [a 0 (by omega)]) (a 10 (by omega)) (a 11 (by omega)) (a 12 (by omega)) (b0 6 (by omega)) (b 7 (by omega))
  · unfold R_misc at k7 ⊢
    rw [a 0 (by omega), b0 4 (by omega), b0 15 (by omega), b0 16 (by omega)]
    exact k7
  · obtain ⟨q1, q2, q3, q4, q5⟩ := k8
    refine ⟨q1, by rw [a 0 (by omega)]; exact q2, by rw [b0 5 (by omega)]; exact q3, by rw [a 30 (by omega), b 8 (by omega)]; exact q4, fun i hi => okH_mono (q5 i hi) (b 8 (by omega)) (by rw [b0 4 (by omega)]; exact Int.le_refl _) hM.2.2.1⟩
/-- slips were told, a chain was made: nothing of it stays -/
theorem RI_tell (h : RI n σ s) (a : ∀ k, k < 13 → σ' k = σ k) (a30 : σ' 30 = σ 30) (b : ∀ k, 1 ≤ k → k < 9 → s' k = s k) (b0 : ∀ j, j < 17 → s' 0 j = s 0 j) (hL : TL σ' s') (hT : TA s s') : RI n σ' s' := by
  obtain ⟨k1, k2, k3, ⟨c, k4, k5⟩, k6, k7, k8⟩ := h
  have hSK : SK s' := by unfold SK; rw [b0 0 (by omega), b0 1 (by omega), b0 2 (by omega), b 4 (by omega) (by omega)]; exact k2
  refine ⟨?_, hSK, hL, ⟨c, ?_, ?_⟩, ?_, ?_, ?_⟩
  · unfold STK at k1 ⊢
    rw [a 1 (by omega), a 2 (by omega), a 3 (by omega), a 4 (by omega), a 5 (by omega), a 6 (by omega), b0 0 (by omega), b0 1 (by omega), b0 2 (by omega), b 1 (by omega) (by omega), b 2 (by omega) (by omega), b 3 (by omega) (by omega), b 4 (by omega) (by omega), b 5 (by omega) (by omega)]
    exact k1
  · unfold R_slips at k4 ⊢
    rw [a 7 (by omega), a 8 (by omega), a 9 (by omega), b 6 (by omega) (by omega), b0 3 (by omega)]
    exact k4
  · refine AD_keep k4.1 k2 hSK (MO_rf (b0 0 (by omega)) (b0 1 (by omega)) (b0 2 (by omega)) (b 1 (by omega) (by omega)) (b 2 (by omega) (by omega)) (b 4 (by omega) (by omega))) (fun x _ => by rw [b 5 (by omega) (by omega)]) hT (fun i _ _ q => ?_) (fun j _ => by rw [b 6 (by omega) (by omega)]) k5
    unfold isSl at q ⊢
    rw [b 3 (by omega) (by omega)]
    exact q
  · exact R_img_same k6 (by rw [a 0 (by omega)]) (a 10 (by omega)) (a 11 (by omega)) (a 12 (by omega)) (b0 6 (by omega)) (b 7 (by omega) (by omega))
  · unfold R_misc at k7 ⊢
    rw [a 0 (by omega), b0 4 (by omega), b0 15 (by omega), b0 16 (by omega)]
    exact k7
  · obtain ⟨q1, q2, q3, q4, q5⟩ := k8
    refine ⟨q1, by rw [a 0 (by omega)]; exact q2, by rw [b0 5 (by omega)]; exact q3, by rw [a30, b 8 (by omega) (by omega)]; exact q4, fun i hi => okH_mono (q5 i hi) (b 8 (by omega) (by omega)) (by rw [b0 4 (by omega)]; exact Int.le_refl _) (by rw [b0 2 (by omega)]; exact Int.le_refl _)⟩
end REST
