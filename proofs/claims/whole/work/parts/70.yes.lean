section YES
variable {n : Nat} {σ s σ' s' σ1 s1 : St}
theorem up2_flt (y : Int32) : up2 (up2 (up2 s 0 15 0) 0 16 (-1)) 0 15 y = up2 (up2 s 0 16 (-1)) 0 15 y := by
  funext k
  by_cases e : k = 0
  · subst e
    rw [up2_eq, up2_eq, up2_eq, up2_eq, up2_eq]
    funext j
    rw [upd_at, upd_at, upd_at, upd_at, upd_at]
    by_cases e1 : j = 15
    · rw [if_pos e1, if_pos e1]
    · simp only [if_neg e1]
  · rw [up2_ne e, up2_ne e, up2_ne e, up2_ne e, up2_ne e]
theorem up2_flt0 : up2 (up2 s 0 15 0) 0 16 (-1) = up2 (up2 s 0 16 (-1)) 0 15 0 := up2_comm2 s 0 (-1) (by decide)
/-- the end of yes: both have said it -/
theorem y_end (h : RI n σ s) {i p : Nat} (hi : i < n) (hp : p = 4 ∨ p = 5) {x2 v8 told : Int32} (hx2 : (p = 4 ∧ x2 = σ 30 (7 * i + 1)) ∨ (p = 5 ∧ ¬ x2 = σ 30 (7 * i + 1))) (ht : ¬ told < 0 ∧ ¬ s 0 4 < told) {K : Int32 → St → Prop} (hK : ∀ r σ', (∀ Qm : Int32 → St → Prop, (∀ s', RI n σ' s' → Qm r s') → (if s 0 3 = 400 then j_X6_yes_214 Qm (nI (7 * i + p)) (nI (7 * i)) v8 (up2 (up2 (up2 s 0 15 0) 0 16 (-1)) 0 15 1) else wp_X6_written (up2 (up2 s 0 15 0) 0 16 (-1)) 3 (s 8 (7 * i)) (-1) (-1) (s 8 (7 * i + 1)) (s 8 (7 * i + 2)) told (fun _ s10 => j_X6_yes_214 Qm (nI (7 * i + p)) (nI (7 * i)) v8 s10))) → K r σ') : j_X5_yes_82 i K x2 v8 told σ := by
  obtain ⟨q1, q2, q3, q4, q5⟩ := h.2.2.2.2.2.2
  obtain ⟨c, ⟨c4, cn, cm, -, -⟩, -⟩ := h.2.2.2.1
  have hR : ∀ g, g < 7 → σ 30 (7 * i + g) = s 8 (7 * i + g) := fun g hg => q4 _ (by omega)
  have hR0 : σ 30 (7 * i) = s 8 (7 * i) := q4 _ (by omega)
  have e400 : (s 0 3 = 400) ↔ ¬ c < 400 := by
    rw [cm, show (400 : Int32) = nI 400 from rfl, nI_eq (by omega) (by decide)]
    omega
  have v6 : vp_in (nI (7 * i) + 6) 420 ∧ ix (nI (7 * i) + 6) = 7 * i + 6 := by
    rw [show (6 : Int32) = nI 6 from rfl, nI_add, ix_nI (by omega)]
    exact ⟨vin_n (by omega) (by decide), rfl⟩
  have vp : vp_in (nI (7 * i + p)) 420 := vin_n (by omega) (by decide)
  have ip : ix (nI (7 * i + p)) = 7 * i + p := ix_nI (by omega)
  -- a yes is taken back
  have BK : ∀ (σ2 : St) (Q' : St → Prop), σ2 30 = σ 30 → Q' (up2 σ2 30 (7 * i + p) (-1)) → wp_X0_setYes i σ2 x2 (-1) Q' := by
    intro σ2 Q' e hq
    unfold wp_X0_setYes nmS
    rw [e]
    rcases hx2 with ⟨a, b⟩ | ⟨a, b⟩
    · rw [if_pos b]; rw [a] at hq; exact hq
    · rw [if_neg b]; rw [a] at hq; exact hq
  have NF : ∀ (σ2 s2 : St), RI n σ2 s2 → ¬ s2 0 15 = 0 → ∀ Qm : Int32 → St → Prop, (∀ s', RI n (up2 σ2 30 (7 * i + p) (-1)) s' → Qm 3 s') → j_X6_yes_214 Qm (nI (7 * i + p)) (nI (7 * i)) v8 s2 := by
    intro σ2 s2 R2 ne Qm hQ
    unfold j_X6_yes_214 nmS
    rw [if_neg ne, ip]
    exact ⟨vp, hQ _ (RI_h R2 hi (by omega) (okH_up (R2.2.2.2.2.2.2.2.2.2.2 i hi) (Or.inr ⟨hp, Or.inl rfl⟩)))⟩
  unfold j_X5_yes_82
  have okHi := q5 i hi
  refine a_write h c4 cn (fun y hy hcase => ?_) (fun t1 t2 t3 t4 => ?_)
  · have hy1 : ¬ c < 400 ∧ y = 1 := by
      rcases hcase with q | q | q | q
      · exact q
      · exact absurd (by decide) q.2.1
      · exact absurd (by rw [hR0]; exact okHi.1) q.2.2.1
      · exact absurd ht q.2.2.2.1
    rw [if_pos rfl]
    refine BK _ _ (by rw [up2_ne (by decide), up2_ne (by decide)]) (hK 3 _ (fun Qm hQ => ?_))
    rw [if_pos (e400.mpr hy1.1), up2_flt]
    have R2 := RI_flt h 1
    rw [hy1.2] at hQ
    exact NF _ _ R2 (by rw [up2_eq, upd_s]; decide) Qm hQ
  · have R2 := RI_flt h 0
    refine J_wr R2 (c := c) t1 ?_ ?_ ?_ ?_ (fun r σ2 e30 hw => ?_)
    · rw [up2_eq, upd_n _ _ (by decide), up2_eq, upd_n _ _ (by decide)]; exact cm
    · rw [up2_eq, upd_s]
    · rw [up2_eq, upd_s]
    · rw [up2_eq, upd_n _ _ (by decide), up2_eq, upd_s]
    have ne400 : ¬ s 0 3 = 400 := fun q => e400.mp q t1
    by_cases er : r = -1
    · rw [if_pos er]
      have key : σ2 30 = σ 30 ∧ K 3 (up2 σ2 30 (7 * i + p) (-1)) := by
        refine ⟨?_, hK 3 _ (fun Qm hQ => ?_)⟩
        · rw [e30, up2_ne (by decide), up2_ne (by decide)]
        · rw [if_neg ne400, up2_flt0, ← hR0, ← hR 1 (by decide), ← hR 2 (by decide)]
          exact hw _ (fun s' z => NF _ _ z.1 (z.2.1.mp er) Qm hQ)
      exact BK _ _ key.1 key.2
    · rw [if_neg er]
      unfold nmS
      dsimp only
      have F : ∀ r', (v8 = 0 → r' = 1) → (¬ v8 = 0 → r' = 2) → K r' (up2 σ2 30 (7 * i + 6) 1) := by
        intro r' a b
        refine hK r' _ (fun Qm hQ => ?_)
        rw [if_neg ne400, up2_flt0, ← hR0, ← hR 1 (by decide), ← hR 2 (by decide)]
        refine hw _ (fun s' z => ?_)
        have e0 : s' 0 15 = 0 := Classical.byContradiction (fun q => er (z.2.1.mpr q))
        unfold j_X6_yes_214 nmS
        rw [if_pos e0, v6.2]
        refine ⟨v6.1, ?_⟩
        have R3 := RI_h z.1 hi (by decide) (f := 6) (v := 1) (okH_up (z.1.2.2.2.2.2.2.2.2.2.2 i hi) (Or.inl rfl))
        dsimp only
        by_cases e8 : v8 = 0
        · rw [if_pos e8]; rw [a e8] at hQ; exact hQ _ R3
        · rw [if_neg e8]; rw [b e8] at hQ; exact hQ _ R3
      by_cases e8 : v8 = 0
      · rw [if_pos e8]; exact F 1 (fun _ => rfl) (fun q => absurd e8 q)
      · rw [if_neg e8]; exact F 2 (fun q => absurd q e8) (fun _ => rfl)
end YES
