section HANDING2
variable {n : Nat} {σ s σ' s' : St}
def nh (g : Nat → Int32) (n : Nat) (x1 x2 x3 x4 : Int32) : Nat → Int32 := upd (upd (upd (upd (upd (upd (upd g (7 * n) x1) (7 * n + 1) x2) (7 * n + 2) x3) (7 * n + 3) x4) (7 * n + 4) (-1)) (7 * n + 5) (-1)) (7 * n + 6) 0
theorem nh_o (g : Nat → Int32) (n : Nat) (x1 x2 x3 x4 : Int32) {j : Nat} (hj : j < 7 * n) : nh g n x1 x2 x3 x4 j = g j := by
  unfold nh
  rw [upd_n _ _ (by omega), upd_n _ _ (by omega), upd_n _ _ (by omega), upd_n _ _ (by omega), upd_n _ _ (by omega), upd_n _ _ (by omega), upd_n _ _ (by omega)]
theorem nh_eq {g g' : Nat → Int32} (n : Nat) (x1 x2 x3 x4 : Int32) (h : ∀ j, j < 7 * n → g j = g' j) : ∀ j, j < 7 * (n + 1) → nh g n x1 x2 x3 x4 j = nh g' n x1 x2 x3 x4 j := by
  intro j hj
  by_cases e : j < 7 * n
  · rw [nh_o _ _ _ _ _ _ e, nh_o _ _ _ _ _ _ e]; exact h j e
  · unfold nh
    simp only [upd_at]
    rcases (by omega : j = 7 * n ∨ j = 7 * n + 1 ∨ j = 7 * n + 2 ∨ j = 7 * n + 3 ∨ j = 7 * n + 4 ∨ j = 7 * n + 5 ∨ j = 7 * n + 6) with z | z | z | z | z | z | z <;> simp [z]
/-- the class's state after a new handing -/
def newH (σ : St) (n : Nat) (x1 x2 x3 x4 : Int32) : St := up2 (upr σ 30 (nh (σ 30) n x1 x2 x3 x4)) 0 7 (nI (n + 1))
def newM (s : St) (n : Nat) (x1 x2 x3 x4 : Int32) : St := up2 (upr s 8 (nh (s 8) n x1 x2 x3 x4)) 0 5 (nI (n + 1))
theorem RI_new (h : RI n σ s) (hn : n < 60) {x1 x2 x3 x4 : Int32} (g1 : rg (s 0 2) x1) (g2 : ¬ x2 = x3) (g3 : 0 ≤ x4.toInt ∧ x4.toInt ≤ (s 0 4).toInt) : RI (n + 1) (newH σ n x1 x2 x3 x4) (newM s n x1 x2 x3 x4) := by
  obtain ⟨k1, k2, k3, ⟨c, ⟨c4, cn, cm, cc, co⟩, hA⟩, k6, k7, q1, q2, q3, q4, q5⟩ := h
  have E : ∀ k, k ≠ 30 → k ≠ 0 → newH σ n x1 x2 x3 x4 k = σ k := fun k a b => by unfold newH; rw [up2_ne b, upr_ne a]
  have F : ∀ k, k ≠ 8 → k ≠ 0 → newM s n x1 x2 x3 x4 k = s k := fun k a b => by unfold newM; rw [up2_ne b, upr_ne a]
  have E0 : ∀ j, j ≠ 7 → newH σ n x1 x2 x3 x4 0 j = σ 0 j := fun j a => by unfold newH; rw [up2_eq, upd_n _ _ a, upr_ne (by decide)]
  have F0 : ∀ j, j ≠ 5 → newM s n x1 x2 x3 x4 0 j = s 0 j := fun j a => by unfold newM; rw [up2_eq, upd_n _ _ a, upr_ne (by decide)]
  have E30 : newH σ n x1 x2 x3 x4 30 = nh (σ 30) n x1 x2 x3 x4 := by unfold newH; rw [up2_ne (by decide), upr_at]
  have F8 : newM s n x1 x2 x3 x4 8 = nh (s 8) n x1 x2 x3 x4 := by unfold newM; rw [up2_ne (by decide), upr_at]
  have E7 : newH σ n x1 x2 x3 x4 0 7 = nI (n + 1) := by unfold newH; rw [up2_eq, upd_s]
  have F5 : newM s n x1 x2 x3 x4 0 5 = nI (n + 1) := by unfold newM; rw [up2_eq, upd_s]
  generalize newH σ n x1 x2 x3 x4 = σ1 at *
  generalize newM s n x1 x2 x3 x4 = s1 at *
  have hSK : SK s1 := by unfold SK; rw [F0 0 (by decide), F0 1 (by decide), F0 2 (by decide), F 4 (by decide) (by decide)]; exact k2
  have hTA : TA s s1 := TA.same (fun k a b => F k (by omega) (by omega))
  refine ⟨?_, hSK, ?_, ⟨c, ⟨c4, ?_, ?_, ?_, ?_⟩, ?_⟩, ?_, ?_, by omega, E7, F5, ?_, ?_⟩
  · unfold STK at k1 ⊢
    rw [E 1 (by decide) (by decide), E 2 (by decide) (by decide), E 3 (by decide) (by decide), E 4 (by decide) (by decide), E 5 (by decide) (by decide), E 6 (by decide) (by decide), F0 0 (by decide), F0 1 (by decide), F0 2 (by decide), F 1 (by decide) (by decide), F 2 (by decide) (by decide), F 3 (by decide) (by decide), F 4 (by decide) (by decide), F 5 (by decide) (by decide)]
    exact k1
  · refine TL_TA ?_ hTA
    unfold TL at k3 ⊢
    rw [E 14 (by decide) (by decide), E 15 (by decide) (by decide), E 16 (by decide) (by decide), E 17 (by decide) (by decide), E 18 (by decide) (by decide), E 19 (by decide) (by decide), E 20 (by decide) (by decide), E 21 (by decide) (by decide), E 23 (by decide) (by decide), E 25 (by decide) (by decide)]
    exact k3
  · rw [E 7 (by decide) (by decide)]; exact cn
  · rw [F0 3 (by decide)]; exact cm
  · rw [E 8 (by decide) (by decide), F 6 (by decide) (by decide)]; exact cc
  · rw [E 9 (by decide) (by decide), F 6 (by decide) (by decide)]; exact co
  · refine AD_keep c4 k2 hSK (MO_rf (F0 0 (by decide)) (F0 1 (by decide)) (F0 2 (by decide)) (F 1 (by decide) (by decide)) (F 2 (by decide) (by decide)) (F 4 (by decide) (by decide))) (fun x _ => by rw [F 5 (by decide) (by decide)]) hTA (fun i _ _ q => ?_) (fun j _ => by rw [F 6 (by decide) (by decide)]) hA
    unfold isSl at q ⊢
    rw [F 3 (by decide) (by decide)]; exact q
  · exact R_img_same k6 (E0 8 (by decide)) (E 10 (by decide) (by decide)) (E 11 (by decide) (by decide)) (E 12 (by decide) (by decide)) (F0 6 (by decide)) (F 7 (by decide) (by decide))
  · unfold R_misc at k7 ⊢
    rw [E0 9 (by decide), E0 10 (by decide), E0 11 (by decide), F0 4 (by decide), F0 15 (by decide), F0 16 (by decide)]; exact k7
  · intro j hj
    rw [E30, F8]
    exact nh_eq n x1 x2 x3 x4 q4 j hj
  · intro i hi
    unfold okH
    rw [F0 2 (by decide), F0 4 (by decide), F8]
    by_cases e : i = n
    · subst e
      unfold nh
      simp only [upd_at]
      simp
      exact ⟨g1, g2, g3⟩
    · have w : ∀ f, f < 7 → nh (s 8) n x1 x2 x3 x4 (7 * i + f) = s 8 (7 * i + f) := fun f hf => nh_o _ _ _ _ _ _ (by omega)
      have w0 := w 0 (by decide)
      rw [Nat.add_zero] at w0
      rw [w0, w 1 (by decide), w 2 (by decide), w 3 (by decide), w 4 (by decide), w 5 (by decide)]
      exact q5 i (by omega)
theorem J_handing (h : RI n σ s) (x1 x2 x3 x4 : Int32) : wp_X5_handing σ x1 x2 x3 x4 (fun r σ' => wp_X6_handing s x1 x2 x3 x4 (fun r' s' => r = r' ∧ RI n σ' s')) (fun _ => False) ∨ ((n < 60 ∧ σ 0 7 = nI n) ∧ wp_X5_handing σ x1 x2 x3 x4 (fun _ _ => False) (fun τ => τ = σ) ∧ wp_X6_handing s x1 x2 x3 x4 (fun r' s' => r' = nI n ∧ RI (n + 1) (newH σ n x1 x2 x3 x4) s')) := by
  obtain ⟨q1, q2, q3, q4, q5⟩ := h.2.2.2.2.2.2
  have hnow : σ 0 9 = s 0 4 := h.2.2.2.2.2.1.1
  have k1 := h.1
  have k2 := h.2.1
  have CC : ∀ (Q : Int32 → St → Prop) (N : St → Prop), wp_X5_handing σ x1 x2 x3 x4 Q N ↔ (if bI (rg (s 0 2) x1) = 0 then Q (-1) σ else if bI (rg (s 0 0) x2) = 0 then Q (-1) σ else if bI (rg (s 0 0) x3) = 0 then Q (-1) σ else if x2 = x3 then Q (-1) σ else if x4 < 0 then Q (-1) σ else if s 0 4 < x4 then Q (-1) σ else if nI n < 60 then N σ else Q (-1) σ) := by
    intro Q N
    unfold wp_X5_handing
    simp only [s_isThing, s_isHand, k1.1, k1.2.2.1, hnow, q2]
  have MM : ∀ (Q : Int32 → St → Prop), wp_X6_handing s x1 x2 x3 x4 Q ↔ (if bI (rg (s 0 2) x1) = 0 then Q (-1) s else if bI (rg (s 0 0) x2) = 0 then Q (-1) s else if bI (rg (s 0 0) x3) = 0 then Q (-1) s else if x2 = x3 then Q (-1) s else if bI (¬ x4 < 0 ∧ ¬ s 0 4 < x4) = 0 then Q (-1) s else if nI n = 60 then Q (-1) s else Q (nI n) (newM s n x1 x2 x3 x4)) := by
    intro Q
    unfold wp_X6_handing nm nmS
    simp only [m_isIn0 k2.2.2.1.1, m_isHand k2, m_isIn, q3]
    by_cases e60 : nI n = 60
    · simp only [if_pos e60]
    · have hlt : n < 60 := by
        rcases Nat.lt_or_ge n 60 with z | z
        · exact z
        · exact absurd (show nI n = nI 60 by rw [show n = 60 by omega]) e60
      have vv : ∀ f, f < 7 → vp_in (nI (7 * n + f)) 420 := fun f hf => vin_n (by omega) (by decide)
      have v0 : vp_in (nI (7 * n)) 420 := vin_n (by omega) (by decide)
      have eS : up2 (up2 (up2 (up2 (up2 (up2 (up2 (up2 s 8 (7 * n) x1) 8 (7 * n + 1) x2) 8 (7 * n + 2) x3) 8 (7 * n + 3) x4) 8 (7 * n + 4) (-1)) 8 (7 * n + 5) (-1)) 8 (7 * n + 6) 0) 0 5 (nI (n + 1)) = newM s n x1 x2 x3 x4 := by
        unfold newM nh up2
        simp only [upr_upr, upr_at]
      simp only [if_neg e60, nI_7, n7 n 1 (show (1 : Int32) = nI 1 from rfl), nI_add' (7 * n) 1 (show (1 : Int32) = nI 1 from rfl), nI_add' (7 * n) 2 (show (2 : Int32) = nI 2 from rfl), nI_add' (7 * n) 3 (show (3 : Int32) = nI 3 from rfl), nI_add' (7 * n) 4 (show (4 : Int32) = nI 4 from rfl), nI_add' (7 * n) 5 (show (5 : Int32) = nI 5 from rfl), nI_add' (7 * n) 6 (show (6 : Int32) = nI 6 from rfl), ix_nI (show 7 * n < 2 ^ 31 by omega), ix_nI (show 7 * n + 1 < 2 ^ 31 by omega), ix_nI (show 7 * n + 2 < 2 ^ 31 by omega), ix_nI (show 7 * n + 3 < 2 ^ 31 by omega), ix_nI (show 7 * n + 4 < 2 ^ 31 by omega), ix_nI (show 7 * n + 5 < 2 ^ 31 by omega), ix_nI (show 7 * n + 6 < 2 ^ 31 by omega), v0, vv 1 (by decide), vv 2 (by decide), vv 3 (by decide), vv 4 (by decide), vv 5 (by decide), vv 6 (by decide), true_and, up2_ne (show (0 : Nat) ≠ 8 by decide), q3, nI_1, eS]
      rw [show newM s n x1 x2 x3 x4 0 5 = nI (n + 1) by unfold newM; rw [up2_eq, upd_s], nI_p1]
  have e6 : (nI n < 60) ↔ n < 60 := nI_ltI (b := 60) (by omega) (by decide)
  by_cases t1 : rg (s 0 2) x1
  · by_cases t2 : rg (s 0 0) x2
    · by_cases t3 : rg (s 0 0) x3
      · by_cases t4 : x2 = x3
        · refine Or.inl ((CC _ _).mpr ?_)
          rw [bI_t t1, bI_t t2, bI_t t3, if_neg (by decide), if_neg (by decide), if_neg (by decide), if_pos t4, MM]
          rw [bI_t t1, bI_t t2, bI_t t3, if_neg (by decide), if_neg (by decide), if_neg (by decide), if_pos t4]
          exact ⟨rfl, h⟩
        · by_cases t5 : ¬ x4 < 0 ∧ ¬ s 0 4 < x4
          · by_cases t6 : n < 60
            · refine Or.inr ⟨⟨t6, q2⟩, (CC _ _).mpr ?_, (MM _).mpr ?_⟩
              · rw [bI_t t1, bI_t t2, bI_t t3, if_neg (by decide), if_neg (by decide), if_neg (by decide), if_neg t4, if_neg t5.1, if_neg t5.2, if_pos (e6.mpr t6)]
              · rw [bI_t t1, bI_t t2, bI_t t3, bI_t t5, if_neg (by decide), if_neg (by decide), if_neg (by decide), if_neg t4, if_neg (by decide), if_neg (fun z => by have := nI_inj (b := 60) (by omega) (by decide) z; omega)]
                refine ⟨rfl, RI_new h t6 t1 t4 ?_⟩
                have a := t5.1
                have b := t5.2
                rw [ltI, t0_] at a
                rw [ltI] at b
                omega
            · have e60 : n = 60 := by omega
              refine Or.inl ((CC _ _).mpr ?_)
              rw [bI_t t1, bI_t t2, bI_t t3, if_neg (by decide), if_neg (by decide), if_neg (by decide), if_neg t4, if_neg t5.1, if_neg t5.2, if_neg (fun z => t6 (e6.mp z)), MM]
              rw [bI_t t1, bI_t t2, bI_t t3, bI_t t5, if_neg (by decide), if_neg (by decide), if_neg (by decide), if_neg t4, if_neg (by decide), if_pos (by rw [e60]; rfl)]
              exact ⟨rfl, h⟩
          · refine Or.inl ((CC _ _).mpr ?_)
            have MQ' : wp_X6_handing s x1 x2 x3 x4 (fun r' s' => (-1 : Int32) = r' ∧ RI n σ s') := by
              rw [MM, bI_t t1, bI_t t2, bI_t t3, bI_f t5, if_neg (by decide), if_neg (by decide), if_neg (by decide), if_neg t4, if_pos rfl]
              exact ⟨rfl, h⟩
            rw [bI_t t1, bI_t t2, bI_t t3, if_neg (by decide), if_neg (by decide), if_neg (by decide), if_neg t4]
            by_cases t7 : x4 < 0
            · rw [if_pos t7]; exact MQ'
            · rw [if_neg t7, if_pos (Classical.byContradiction (fun z => t5 ⟨t7, z⟩))]; exact MQ'
      · refine Or.inl ((CC _ _).mpr ?_)
        rw [bI_t t1, bI_t t2, bI_f t3, if_neg (by decide), if_neg (by decide), if_pos rfl, MM]
        rw [bI_t t1, bI_t t2, bI_f t3, if_neg (by decide), if_neg (by decide), if_pos rfl]
        exact ⟨rfl, h⟩
    · refine Or.inl ((CC _ _).mpr ?_)
      rw [bI_t t1, bI_f t2, if_neg (by decide), if_pos rfl, MM]
      rw [bI_t t1, bI_f t2, if_neg (by decide), if_pos rfl]
      exact ⟨rfl, h⟩
  · refine Or.inl ((CC _ _).mpr ?_)
    rw [bI_f t1, if_pos rfl, MM]
    rw [bI_f t1, if_pos rfl]
    exact ⟨rfl, h⟩
end HANDING2
