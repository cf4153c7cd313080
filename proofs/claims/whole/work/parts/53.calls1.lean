section CALLS1
variable {n : Nat} {σ s σ' s' : St}
theorem RI_fields (h : RI n σ s) (a : ∀ k, k ≠ 0 → σ' k = σ k) (a7 : σ' 0 7 = σ 0 7) (a8 : σ' 0 8 = σ 0 8) (b : ∀ k, k ≠ 0 → s' k = s k) (b0 : ∀ j, j < 7 → j ≠ 4 → s' 0 j = s 0 j) (hm : R_misc σ' s') (hn : (s 0 4).toInt ≤ (s' 0 4).toInt) : RI n σ' s' := by
  obtain ⟨k1, k2, k3, ⟨c, k4, k5⟩, k6, k7, k8⟩ := h
  have hT : TA s s' := TA.same (fun k h1 h2 => b k (by omega))
  have hSK : SK s' := by unfold SK; rw [b0 0 (by omega) (by omega), b0 1 (by omega) (by omega), b0 2 (by omega) (by omega), b 4 (by omega)]; exact k2
  refine ⟨?_, hSK, ?_, ⟨c, ?_, ?_⟩, ?_, hm, ?_⟩
  · unfold STK at k1 ⊢
    rw [a 1 (by omega), a 2 (by omega), a 3 (by omega), a 4 (by omega), a 5 (by omega), a 6 (by omega), b0 0 (by omega) (by omega), b0 1 (by omega) (by omega), b0 2 (by omega) (by omega), b 1 (by omega), b 2 (by omega), b 3 (by omega), b 4 (by omega), b 5 (by omega)]
    exact k1
  · have : TL σ' s := by
      unfold TL at k3 ⊢
      rw [a 14 (by omega), a 15 (by omega), a 16 (by omega), a 17 (by omega), a 18 (by omega), a 19 (by omega), a 20 (by omega), a 21 (by omega), a 23 (by omega), a 25 (by omega)]
      exact k3
    exact TL_TA this hT
  · unfold R_slips at k4 ⊢
    rw [a 7 (by omega), a 8 (by omega), a 9 (by omega), b 6 (by omega), b0 3 (by omega) (by omega)]
    exact k4
  · refine AD_keep k4.1 k2 hSK (MO_rf (b0 0 (by omega) (by omega)) (b0 1 (by omega) (by omega)) (b0 2 (by omega) (by omega)) (b 1 (by omega)) (b 2 (by omega)) (b 4 (by omega))) (fun x _ => by rw [b 5 (by omega)]) hT (fun i _ _ q => ?_) (fun j _ => by rw [b 6 (by omega)]) k5
    unfold isSl at q ⊢
    rw [b 3 (by omega)]
    exact q
  · exact R_img_same k6 a8 (a 10 (by omega)) (a 11 (by omega)) (a 12 (by omega)) (b0 6 (by omega) (by omega)) (b 7 (by omega))
  · obtain ⟨q1, q2, q3, q4, q5⟩ := k8
    refine ⟨q1, by rw [a7]; exact q2, by rw [b0 5 (by omega) (by omega)]; exact q3, by rw [a 30 (by omega), b 8 (by omega)]; exact q4, fun i hi => okH_mono (q5 i hi) (b 8 (by omega)) hn (by rw [b0 2 (by omega) (by omega)]; exact Int.le_refl _)⟩
theorem lt_ne {x : Int32} {N : Int32} (h : x.toInt ≤ N.toInt) : (x < N) ↔ ¬ x = N := by
  rw [ltI, eqI]
  omega
theorem up_pred (x : Int32) : x + 1 - 1 = x := by
  rw [Int32.add_sub_cancel]
theorem suc_i {x : Int32} {N : Nat} (h0 : 0 ≤ x.toInt) (h1 : x.toInt < N) (hN : N < 2 ^ 31) : (x + 1).toInt = x.toInt + 1 := by
  rw [add_i] <;> rw [t1_] <;> omega
theorem J_hand (h : RI n σ s) (x : Int32) : wp_X5_hand σ x (fun r σ' => wp_X6_hand s x (fun r' s' => r = r' ∧ RI n σ' s')) := by
  have hk := h.1
  have hK := h.2.1
  unfold wp_X5_hand wp_X4_addHand wp_X6_hand
  dsimp only
  rw [hk.1]
  have hb := hK.1
  by_cases e : s 0 0 = 20
  · rw [if_neg (fun q => (lt_ne (N := 20) hb.2).mp q e), if_pos e]
    exact ⟨rfl, h⟩
  · have hl := (lt_ne (N := 20) hb.2).mpr e
    have hl' : (s 0 0).toInt < 20 := by rw [ltI] at hl; exact hl
    have hv : vp_in (s 0 0) 20 := vin2 hb.1 hl'
    rw [if_pos hl]
    simp only [nmS]
    rw [if_neg e]
    refine ⟨hv, hv, ?_⟩
    have e1 : up2 σ 2 (ix (s 0 0)) (vp_nar .boolean x) 1 5 = s 0 0 := by rw [up2_ne (by decide)]; exact hk.1
    have e2 : up2 s 1 (ix (s 0 0)) (vp_nar .boolean x) 0 0 = s 0 0 := by rw [up2_ne (by decide)]
    rw [e1, e2, up2_eq, up2_eq, upd_s, upd_s]
    have hs1 := suc_i hb.1 hl' (by decide)
    refine ⟨rfl, RI_stock h (fun k hk => ?_) (fun k hk => ?_) (fun j hj => ?_) ⟨?_, ?_, ?_, ?_, ?_, ?_, ?_, ?_⟩ ?_ ⟨⟨?_, fun y hy => ?_⟩, ⟨?_, fun y hy => ?_⟩, ?_, fun y hy => ?_⟩ (fun y hy => ?_) (fun c _ _ i _ _ q => ?_)⟩
    · rw [up2_ne (by omega), up2_ne (by omega)]
    · rw [up2_ne (by omega), up2_ne (by omega)]
    · rw [up2_eq, upd_n _ _ (by omega), up2_ne (by decide)]
    · rw [up2_eq, up2_eq, upd_s, upd_s]
    · rw [up2_eq, up2_eq, upd_n _ _ (by decide), upd_n _ _ (by decide), up2_ne (by decide), up2_ne (by decide)]; exact hk.2.1
    · rw [up2_eq, up2_eq, upd_n _ _ (by decide), upd_n _ _ (by decide), up2_ne (by decide), up2_ne (by decide)]; exact hk.2.2.1
    · rw [up2_ne (by decide), up2_eq, up2_ne (by decide), up2_eq, hk.2.2.2.1]
    · rw [up2_ne (by decide), up2_ne (by decide), up2_ne (by decide), up2_ne (by decide)]; exact hk.2.2.2.2.1
    · rw [up2_ne (by decide), up2_ne (by decide), up2_ne (by decide), up2_ne (by decide)]; exact hk.2.2.2.2.2.1
    · rw [up2_ne (by decide), up2_ne (by decide), up2_ne (by decide), up2_ne (by decide)]; exact hk.2.2.2.2.2.2.1
    · rw [up2_ne (by decide), up2_ne (by decide), up2_ne (by decide), up2_ne (by decide)]; exact hk.2.2.2.2.2.2.2
    · unfold SK
      rw [up2_ne (show (4 : Nat) ≠ 0 by decide), up2_ne (show (4 : Nat) ≠ 1 by decide), up2_eq, upd_s, upd_n _ _ (by decide), upd_n _ _ (by decide), up2_ne (by decide), hs1]
      exact ⟨⟨by omega, by omega⟩, hK.2⟩
    · rw [up2_eq, upd_s, hs1]; omega
    · rw [up2_ne (by decide), up2_eq, upd_n _ _ (by omega)]
    · rw [up2_eq, upd_n _ _ (by decide), up2_ne (by decide)]; exact Int.le_refl _
    · rw [up2_ne (by decide), up2_ne (by decide)]
    · rw [up2_eq, upd_n _ _ (by decide), up2_ne (by decide)]; exact Int.le_refl _
    · rw [up2_ne (by decide), up2_ne (by decide)]
    · rw [up2_ne (by decide), up2_ne (by decide)]
    · unfold isSl at q ⊢
      rw [up2_ne (by decide), up2_ne (by decide)]; exact q
theorem J_shelf (h : RI n σ s) (x : Int32) : wp_X5_shelf σ x (fun r σ' => wp_X6_shelf s x (fun r' s' => r = r' ∧ RI n σ' s')) := by
  have hk := h.1
  have hK := h.2.1
  unfold wp_X5_shelf wp_X4_addShelf wp_X6_shelf
  dsimp only
  rw [hk.2.1]
  have hb := hK.2.1
  by_cases e : s 0 1 = 8
  · rw [if_neg (fun q => (lt_ne (N := 8) hb.2).mp q e), if_pos e]
    exact ⟨rfl, h⟩
  · have hl := (lt_ne (N := 8) hb.2).mpr e
    have hl' : (s 0 1).toInt < 8 := by rw [ltI] at hl; exact hl
    have hv : vp_in (s 0 1) 8 := vin2 hb.1 hl'
    rw [if_pos hl]
    simp only [nmS]
    rw [if_neg e]
    refine ⟨hv, hv, ?_⟩
    have e1 : up2 σ 3 (ix (s 0 1)) (vp_nar .boolean x) 1 6 = s 0 1 := by rw [up2_ne (by decide)]; exact hk.2.1
    have e2 : up2 s 2 (ix (s 0 1)) (vp_nar .boolean x) 0 1 = s 0 1 := by rw [up2_ne (by decide)]
    rw [e1, e2, up2_eq, up2_eq, upd_s, upd_s]
    have hs1 := suc_i hb.1 hl' (by decide)
    refine ⟨rfl, RI_stock h (fun k hk => ?_) (fun k hk => ?_) (fun j hj => ?_) ⟨?_, ?_, ?_, ?_, ?_, ?_, ?_, ?_⟩ ?_ ⟨⟨?_, fun y hy => ?_⟩, ⟨?_, fun y hy => ?_⟩, ?_, fun y hy => ?_⟩ (fun y hy => ?_) (fun c _ _ i _ _ q => ?_)⟩
    · rw [up2_ne (by omega), up2_ne (by omega)]
    · rw [up2_ne (by omega), up2_ne (by omega)]
    · rw [up2_eq, upd_n _ _ (by omega), up2_ne (by decide)]
    · rw [up2_eq, up2_eq, upd_n _ _ (by decide), upd_n _ _ (by decide), up2_ne (by decide), up2_ne (by decide)]; exact hk.1
    · rw [up2_eq, up2_eq, upd_s, upd_s]
    · rw [up2_eq, up2_eq, upd_n _ _ (by decide), upd_n _ _ (by decide), up2_ne (by decide), up2_ne (by decide)]; exact hk.2.2.1
    · rw [up2_ne (by decide), up2_ne (by decide), up2_ne (by decide), up2_ne (by decide)]; exact hk.2.2.2.1
    · rw [up2_ne (by decide), up2_eq, up2_ne (by decide), up2_eq, hk.2.2.2.2.1]
    · rw [up2_ne (by decide), up2_ne (by decide), up2_ne (by decide), up2_ne (by decide)]; exact hk.2.2.2.2.2.1
    · rw [up2_ne (by decide), up2_ne (by decide), up2_ne (by decide), up2_ne (by decide)]; exact hk.2.2.2.2.2.2.1
    · rw [up2_ne (by decide), up2_ne (by decide), up2_ne (by decide), up2_ne (by decide)]; exact hk.2.2.2.2.2.2.2
    · unfold SK
      rw [up2_ne (show (4 : Nat) ≠ 0 by decide), up2_ne (show (4 : Nat) ≠ 2 by decide), up2_eq, upd_s, upd_n _ _ (by decide), upd_n _ _ (by decide), up2_ne (by decide), hs1]
      exact ⟨hK.1, ⟨by omega, by omega⟩, hK.2.2⟩
    · rw [up2_eq, upd_n _ _ (by decide), up2_ne (by decide)]; exact Int.le_refl _
    · rw [up2_ne (by decide), up2_ne (by decide)]
    · rw [up2_eq, upd_s, hs1]; omega
    · rw [up2_ne (by decide), up2_eq, upd_n _ _ (by omega)]
    · rw [up2_eq, upd_n _ _ (by decide), up2_ne (by decide)]; exact Int.le_refl _
    · rw [up2_ne (by decide), up2_ne (by decide)]
    · rw [up2_ne (by decide), up2_ne (by decide)]
    · unfold isSl at q ⊢
      rw [up2_ne (by decide), up2_ne (by decide)]; exact q
theorem J_pass (h : RI n σ s) (x : Int32) : wp_X5_pass σ x (fun r σ' => wp_X6_pass s x (fun r' s' => r = r' ∧ RI n σ' s')) := by
  obtain ⟨m1, m2, m3, m4⟩ := h.2.2.2.2.2.1
  have M : wp_X6_pass s x (fun r' s' => (-1 : Int32) = r' ∧ RI n σ s') ∨ (¬ x < 0 ∧ ¬ 100000 < x ∧ ¬ (100000000 : Int32) < s 0 4 + x) := by
    by_cases g : ¬ x < 0 ∧ ¬ 100000 < x
    · by_cases g3 : (100000000 : Int32) < s 0 4 + x
      · refine Or.inl ?_
        unfold wp_X6_pass
        rw [m_isIn, bI_t g, if_neg (by decide), if_pos g3]
        exact ⟨rfl, h⟩
      · exact Or.inr ⟨g.1, g.2, g3⟩
    · refine Or.inl ?_
      unfold wp_X6_pass
      rw [m_isIn, bI_f g, if_pos rfl]
      exact ⟨rfl, h⟩
  unfold wp_X5_pass
  by_cases g1 : x < 0
  · rw [if_pos g1]; exact M.resolve_right (fun q => q.1 g1)
  rw [if_neg g1]
  by_cases g2 : 100000 < x
  · rw [if_pos g2]; exact M.resolve_right (fun q => q.2.1 g2)
  rw [if_neg g2, m1]
  have x0 : 0 ≤ x.toInt ∧ x.toInt ≤ 100000 := by
    rw [ltI, t0_] at g1
    rw [ltI, show (100000 : Int32).toInt = 100000 from rfl] at g2
    omega
  have ea : (s 0 4 + x).toInt = (s 0 4).toInt + x.toInt := add_i (by omega) (by omega)
  have es : ((100000000 : Int32) - s 0 4).toInt = 100000000 - (s 0 4).toInt := by
    rw [sub_i] <;> rw [show (100000000 : Int32).toInt = 100000000 from rfl] <;> omega
  have ec : ((100000000 : Int32) - s 0 4 < x) ↔ (100000000 < s 0 4 + x) := by
    rw [ltI, ltI, ea, es, show (100000000 : Int32).toInt = 100000000 from rfl]
    omega
  by_cases g3 : (100000000 : Int32) < s 0 4 + x
  · rw [if_pos (ec.mpr g3)]; exact M.resolve_right (fun q => q.2.2 g3)
  rw [if_neg (fun q => g3 (ec.mp q))]
  unfold wp_X6_pass
  simp only [nmS]
  rw [m_isIn, bI_t ⟨g1, g2⟩, if_neg (by decide), if_neg g3]
  rw [up2_eq, up2_eq, upd_s, upd_s]
  have g3' : (s 0 4).toInt + x.toInt ≤ 100000000 := by
    rw [ltI, ea, show (100000000 : Int32).toInt = 100000000 from rfl] at g3
    omega
  refine ⟨rfl, RI_fields h (fun k hk => up2_ne hk) (by rw [up2_eq, upd_n _ _ (by decide)]) (by rw [up2_eq, upd_n _ _ (by decide)]) (fun k hk => up2_ne hk) (fun j _ hj => by rw [up2_eq, upd_n _ _ hj]) ⟨?_, ?_, ?_, ?_⟩ ?_⟩
  · rw [up2_eq, up2_eq, upd_s, upd_s]
  · rw [up2_eq, upd_s, ea]; omega
  · rw [up2_eq, up2_eq, upd_n _ _ (by decide), upd_n _ _ (by decide)]; exact m3
  · rw [up2_eq, up2_eq, upd_n _ _ (by decide), upd_n _ _ (by decide)]; exact m4
  · rw [up2_eq, upd_s, ea]; omega
theorem J_fault (h : RI n σ s) (x : Int32) : wp_X5_fault σ x (fun r σ' => wp_X6_fault s x (fun r' s' => r = r' ∧ RI n σ' s')) := by
  obtain ⟨m1, m2, m3, m4⟩ := h.2.2.2.2.2.1
  unfold wp_X5_fault wp_X6_fault
  dsimp only
  by_cases g0 : x = 0
  · simp only [if_pos g0]; exact ⟨m3, h⟩
  · by_cases g1 : x = 1
    · simp only [if_neg g0, if_pos g1]; exact ⟨m4, h⟩
    · simp only [if_neg g0, if_neg g1]; exact ⟨trivial, h⟩
theorem J_about (h : RI n σ s) (x : Int32) : wp_X5_about σ x (fun r σ' => wp_X6_about s x (fun r' s' => r = r' ∧ RI n σ' s')) := by
  obtain ⟨m1, m2, m3, m4⟩ := h.2.2.2.2.2.1
  have hk := h.1
  obtain ⟨c, hc, -⟩ := h.2.2.2.1
  have hi := h.2.2.2.2.1
  have hh := h.2.2.2.2.2.2
  unfold wp_X5_about wp_X6_about
  dsimp only
  by_cases g0 : x = 0
  · simp only [if_pos g0]; exact ⟨hk.1, h⟩
  by_cases g1 : x = 1
  · simp only [if_neg g0, if_pos g1]; exact ⟨hk.2.1, h⟩
  by_cases g2 : x = 2
  · simp only [if_neg g0, if_neg g1, if_pos g2]; exact ⟨hk.2.2.1, h⟩
  by_cases g3 : x = 3
  · simp only [if_neg g0, if_neg g1, if_neg g2, if_pos g3]; exact ⟨hc.2.1.trans hc.2.2.1.symm, h⟩
  by_cases g4 : x = 4
  · simp only [if_neg g0, if_neg g1, if_neg g2, if_neg g3, if_pos g4]; exact ⟨m1, h⟩
  by_cases g5 : x = 5
  · simp only [if_neg g0, if_neg g1, if_neg g2, if_neg g3, if_neg g4, if_pos g5]; exact ⟨hh.2.1.trans hh.2.2.1.symm, h⟩
  by_cases g6 : x = 6
  · simp only [if_neg g0, if_neg g1, if_neg g2, if_neg g3, if_neg g4, if_neg g5, if_pos g6]
    rcases hi with ⟨i1, i2⟩ | ⟨e, i1, i2, i3, i4, -⟩
    · rw [if_pos i1]; exact ⟨i2.symm, h⟩
    · rw [if_neg i2]; exact ⟨i3.trans i4.symm, h⟩
  · simp only [if_neg g0, if_neg g1, if_neg g2, if_neg g3, if_neg g4, if_neg g5, if_neg g6]; exact ⟨trivial, h⟩
end CALLS1
