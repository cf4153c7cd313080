section YES2
variable {n : Nat} {σ s σ' s' σ1 s1 : St}
theorem nI_add' (a b : Nat) {w : Int32} (hw : w = nI b) : nI a + w = nI (a + b) := by rw [hw, nI_add]
theorem m_85 {Qm : Int32 → St → Prop} {i p : Nat} (hi : i < 60) (hp : p = 4 ∨ p = 5) {x3 L v8 told : Int32} (hz : ¬ s 8 (7 * i + (9 - p)) = -1) (hL : L = if x3 < s 8 (7 * i + (9 - p)) then s 8 (7 * i + (9 - p)) else x3) (h8 : (30 < L - s 8 (7 * i + 3) ∧ v8 = 1 ∧ told = L) ∨ (¬ 30 < L - s 8 (7 * i + 3) ∧ v8 = 0 ∧ told = s 8 (7 * i + 3))) (hk : if s 0 3 = 400 then j_X6_yes_214 Qm (nI (7 * i + p)) (nI (7 * i)) v8 (up2 (up2 (up2 s 0 15 0) 0 16 (-1)) 0 15 1) else wp_X6_written (up2 (up2 s 0 15 0) 0 16 (-1)) 3 (s 8 (7 * i)) (-1) (-1) (s 8 (7 * i + 1)) (s 8 (7 * i + 2)) told (fun _ s10 => j_X6_yes_214 Qm (nI (7 * i + p)) (nI (7 * i)) v8 s10)) : j_X6_yes_85 Qm x3 (nI (7 * i + p)) (nI (7 * i)) (nI (7 * i + (9 - p))) s := by
  have f8 : (up2 (up2 s 0 15 0) 0 16 (-1)) 8 = s 8 := by rw [up2_ne (by decide), up2_ne (by decide)]
  have f3 : (up2 (up2 s 0 15 0) 0 16 (-1)) 0 3 = s 0 3 := by rw [up2_eq, upd_n _ _ (by decide), up2_eq, upd_n _ _ (by decide)]
  have vv : ∀ f, f < 7 → vp_in (nI (7 * i + f)) 420 := fun f hf => vin_n (by omega) (by decide)
  have v0 : vp_in (nI (7 * i)) 420 := vin_n (by omega) (by decide)
  have G : j_X6_yes_118 Qm (nI (7 * i + p)) (nI (7 * i)) L (up2 (up2 s 0 15 0) 0 16 (-1)) := by
    unfold j_X6_yes_118 j_X6_yes_142 j_X6_yes_210 nmS
    rw [nI_add' (7 * i) 3 (show (3 : Int32) = nI 3 from rfl), nI_add' (7 * i) 2 (show (2 : Int32) = nI 2 from rfl), nI_add' (7 * i) 1 (show (1 : Int32) = nI 1 from rfl), ix_nI (show 7 * i + 3 < 2 ^ 31 by omega), ix_nI (show 7 * i + 2 < 2 ^ 31 by omega), ix_nI (show 7 * i + 1 < 2 ^ 31 by omega), ix_nI (show 7 * i < 2 ^ 31 by omega), f8, f3]
    refine ⟨vv 3 (by decide), ?_⟩
    rcases h8 with ⟨a, b, d⟩ | ⟨a, b, d⟩
    · rw [if_pos a]
      rw [b, d] at hk
      by_cases e : s 0 3 = 400
      · rw [if_pos e] at hk ⊢; exact hk
      · rw [if_neg e] at hk ⊢
        exact ⟨v0, vv 1 (by decide), vv 2 (by decide), by rw [if_neg (by decide)]; exact hk⟩
    · rw [if_neg a]
      rw [b, d] at hk
      by_cases e : s 0 3 = 400
      · rw [if_pos e] at hk ⊢; exact hk
      · rw [if_neg e] at hk ⊢
        exact ⟨v0, vv 1 (by decide), vv 2 (by decide), by rw [if_pos rfl]; exact ⟨vv 3 (by decide), hk⟩⟩
  unfold j_X6_yes_85 nm nmS
  dsimp only
  rw [ix_nI (show 7 * i + (9 - p) < 2 ^ 31 by omega), if_neg hz]
  refine ⟨vv (9 - p) (by omega), ?_⟩
  by_cases e : x3 < s 8 (7 * i + (9 - p))
  · rw [if_pos e] at hL ⊢; rw [← hL]; exact G
  · rw [if_neg e] at hL ⊢; rw [← hL]; exact G
theorem y_mid (h : RI n σ s) {i p : Nat} (hi : i < n) (hp : p = 4 ∨ p = 5) {x2 x3 : Int32} (hx2 : (p = 4 ∧ x2 = σ 30 (7 * i + 1)) ∨ (p = 5 ∧ ¬ x2 = σ 30 (7 * i + 1))) (own : s 8 (7 * i + p) = x3) (r3 : 0 ≤ x3.toInt ∧ x3.toInt ≤ (s 0 4).toInt) {K : Int32 → St → Prop} (hK : ∀ r σ', j_X6_yes_85 (fun r' s' => r = r' ∧ RI n σ' s') x3 (nI (7 * i + p)) (nI (7 * i)) (nI (7 * i + (9 - p))) s → K r σ') : wp_X0_isAgreed i σ (fun y5 σ4 => if y5 = 0 then K 0 σ4 else wp_X0_isLate i σ4 (fun y7 σ6 => if y7 = 0 then j_X5_yes_82 i K x2 y7 (σ6 30 (7 * i + 3)) σ6 else wp_X0_laterYes i σ6 (fun y13 σ12 => j_X5_yes_82 i K x2 y7 y13 σ12))) := by
  obtain ⟨q1, q2, q3, q4, q5⟩ := h.2.2.2.2.2.2
  have hR : ∀ g, g < 7 → σ 30 (7 * i + g) = s 8 (7 * i + g) := fun g hg => q4 _ (by omega)
  obtain ⟨o1, o2, o3, o4, o5⟩ := q5 i hi
  have nx3 : ¬ x3 = -1 := fun q => by
    have := r3.1
    rw [q, tm1_] at this
    omega
  have zr : s 8 (7 * i + (9 - p)) = -1 ∨ (0 ≤ (s 8 (7 * i + (9 - p))).toInt ∧ (s 8 (7 * i + (9 - p))).toInt ≤ (s 0 4).toInt) := by
    rcases hp with e | e
    · subst e; exact o5
    · subst e; exact o4
  have agr : ¬ s 8 (7 * i + (9 - p)) = -1 → ¬ s 8 (7 * i + 4) = -1 ∧ ¬ s 8 (7 * i + 5) = -1 := by
    intro z
    rcases hp with e | e
    · subst e; exact ⟨by rw [own]; exact nx3, z⟩
    · subst e; exact ⟨z, by rw [own]; exact nx3⟩
  have dis : s 8 (7 * i + (9 - p)) = -1 → s 8 (7 * i + 4) = -1 ∨ s 8 (7 * i + 5) = -1 := by
    intro z
    rcases hp with e | e
    · subst e; exact Or.inr z
    · subst e; exact Or.inl z
  unfold wp_X0_isAgreed wp_X0_isLate wp_X0_laterYes
  dsimp only
  rw [hR 4 (by decide), hR 5 (by decide), hR 3 (by decide)]
  by_cases z : s 8 (7 * i + (9 - p)) = -1
  · have A : K 0 σ := by
      refine hK 0 σ ?_
      unfold j_X6_yes_85 nm
      dsimp only
      rw [ix_nI (show 7 * i + (9 - p) < 2 ^ 31 by omega), if_pos z]
      exact ⟨vin_n (by omega) (by decide), rfl, h⟩
    rcases dis z with e | e
    · rw [if_pos e, if_pos rfl]; exact A
    · by_cases e4 : s 8 (7 * i + 4) = -1
      · rw [if_pos e4, if_pos rfl]; exact A
      · rw [if_neg e4, if_pos e, if_pos rfl]; exact A
  · obtain ⟨a4, a5⟩ := agr z
    rw [if_neg a4, if_neg a5, if_neg (by decide)]
    have eL : (if s 8 (7 * i + 4) < s 8 (7 * i + 5) then s 8 (7 * i + 5) else s 8 (7 * i + 4)) = if x3 < s 8 (7 * i + (9 - p)) then s 8 (7 * i + (9 - p)) else x3 := by
      rcases hp with e | e
      · subst e; rw [← own]
      · subst e
        rw [← own]
        show (if s 8 (7 * i + 4) < s 8 (7 * i + 5) then s 8 (7 * i + 5) else s 8 (7 * i + 4)) = if s 8 (7 * i + 5) < s 8 (7 * i + 4) then s 8 (7 * i + 4) else s 8 (7 * i + 5)
        by_cases e1 : s 8 (7 * i + 4) < s 8 (7 * i + 5)
        · rw [if_pos e1]
          by_cases e2 : s 8 (7 * i + 5) < s 8 (7 * i + 4)
          · rw [ltI] at e1 e2; omega
          · rw [if_neg e2]
        · rw [if_neg e1]
          by_cases e2 : s 8 (7 * i + 5) < s 8 (7 * i + 4)
          · rw [if_pos e2]
          · rw [if_neg e2, eqI]; rw [ltI] at e1 e2; omega
    rw [eL]
    have rL : ¬ (if x3 < s 8 (7 * i + (9 - p)) then s 8 (7 * i + (9 - p)) else x3) < 0 ∧ ¬ s 0 4 < (if x3 < s 8 (7 * i + (9 - p)) then s 8 (7 * i + (9 - p)) else x3) := by
      have zr' := zr.resolve_left z
      by_cases e : x3 < s 8 (7 * i + (9 - p))
      · rw [if_pos e, ltI, ltI, t0_]; omega
      · rw [if_neg e, ltI, ltI, t0_]; omega
    have rm : ¬ s 8 (7 * i + 3) < 0 ∧ ¬ s 0 4 < s 8 (7 * i + 3) := by
      rw [ltI, ltI, t0_]; omega
    generalize hLL : (if x3 < s 8 (7 * i + (9 - p)) then s 8 (7 * i + (9 - p)) else x3) = L at rL ⊢
    by_cases e : 30 < L - s 8 (7 * i + 3)
    · rw [if_pos e, if_neg (by decide)]
      exact y_end h hi hp hx2 rL (fun r σ' hw => hK r σ' (m_85 (by omega) hp z hLL.symm (Or.inl ⟨e, rfl, rfl⟩) (hw _ (fun s' R => ⟨rfl, R⟩))))
    · rw [if_neg e, if_pos rfl]
      exact y_end h hi hp hx2 rm (fun r σ' hw => hK r σ' (m_85 (by omega) hp z hLL.symm (Or.inr ⟨e, rfl, rfl⟩) (hw _ (fun s' R => ⟨rfl, R⟩))))
theorem J_yes (h : RI n σ s) (x1 x2 x3 : Int32) : wp_X5_yes n σ x1 x2 x3 (fun r σ' => wp_X6_yes s x1 x2 x3 (fun r' s' => r = r' ∧ RI n σ' s')) := by
  obtain ⟨q1, q2, q3, q4, q5⟩ := h.2.2.2.2.2.2
  have hnow := h.2.2.2.2.2.1.1
  refine ⟨⟨q1, q2⟩, fun i hi ex => ?_, fun hr => ?_⟩
  · have hR : ∀ g, g < 7 → σ 30 (7 * i + g) = s 8 (7 * i + g) := fun g hg => q4 _ (by omega)
    have S : ∀ {Q : Int32 → St → Prop}, (if s 8 (7 * i + 6) = 0 then (if s 8 (7 * i + 1) = x2 then Q (nI (7 * i + 4)) s else if s 8 (7 * i + 2) = x2 then Q (nI (7 * i + 5)) s else Q (-1) s) else Q (-1) s) → wp_X6_sayer s x1 x2 Q := by
      intro Q hQ
      refine m_sayer q1 q3 (fun g => ?_) (fun j hj ej => ?_)
      · exact absurd (by rw [ex, rg_i, nI_toInt (by omega), nI_toInt (by omega)]; omega) g
      · have : j = i := nI_inj (by omega) (by omega) (ej.symm.trans ex)
        rw [this]; exact hQ
    have vv : ∀ f, f < 7 → vp_in (nI (7 * i + f)) 420 := fun f hf => vin_n (by omega) (by decide)
    obtain ⟨o1, o2, o3, o4, o5⟩ := q5 i hi
    have ne1 : ∀ p, p < 1000 → ¬ nI p = (-1 : Int32) := fun p hp q => by
      have := congrArg Int32.toInt q
      rw [nI_toInt (by omega), tm1_] at this
      omega
    -- the reference, when that hand's yes can't be taken
    have N0 : (¬ s 8 (7 * i + 6) = 0 ∨ (¬ s 8 (7 * i + 1) = x2 ∧ ¬ s 8 (7 * i + 2) = x2)) → ∀ Q : Int32 → St → Prop, Q (-1) s → wp_X6_yes s x1 x2 x3 Q := by
      intro hc Q hQ
      unfold wp_X6_yes nm
      dsimp only
      refine S ?_
      by_cases e6 : s 8 (7 * i + 6) = 0
      · have := hc.resolve_left (fun z => z e6)
        rw [if_pos e6, if_neg this.1, if_neg this.2, if_pos rfl]; exact hQ
      · rw [if_neg e6, if_pos rfl]; exact hQ
    have M : ∀ p, (p = 4 ∨ p = 5) → s 8 (7 * i + 6) = 0 → ((p = 4 ∧ s 8 (7 * i + 1) = x2) ∨ (p = 5 ∧ ¬ s 8 (7 * i + 1) = x2 ∧ s 8 (7 * i + 2) = x2)) → ∀ Q : Int32 → St → Prop, ((¬ s 8 (7 * i + p) = -1 → Q (-1) s) ∧ (s 8 (7 * i + p) = -1 → ¬ (¬ x3 < s 8 (7 * i + 3) ∧ ¬ s 0 4 < x3) → Q (-1) s) ∧ (s 8 (7 * i + p) = -1 → (¬ x3 < s 8 (7 * i + 3) ∧ ¬ s 0 4 < x3) → j_X6_yes_85 Q x3 (nI (7 * i + p)) (nI (7 * i)) (nI (7 * i + (9 - p))) (up2 s 8 (7 * i + p) x3))) → wp_X6_yes s x1 x2 x3 Q := by
      intro p hp e6 hc Q ⟨a1, a2, a3⟩
      unfold wp_X6_yes nm nmS
      dsimp only
      have T : (if nI (7 * i + p) = (-1 : Int32) then Q (-1) s else vp_in (nI (7 * i + p)) 420 ∧ (if s 8 (ix (nI (7 * i + p))) = (-1 : Int32) then vp_in (7 * x1 + 3) 420 ∧ wp_X6_isIn s x3 (s 8 (ix (7 * x1 + 3))) (s 0 4) (fun y5 σ4 => if y5 = 0 then Q (-1) σ4 else vp_in (nI (7 * i + p)) 420 ∧ (if nI (7 * i + p) = 7 * x1 + 4 then j_X6_yes_85 Q x3 (nI (7 * i + p)) (7 * x1) (7 * x1 + 5) (up2 σ4 8 (ix (nI (7 * i + p))) x3) else j_X6_yes_85 Q x3 (nI (7 * i + p)) (7 * x1) (7 * x1 + 4) (up2 σ4 8 (ix (nI (7 * i + p))) x3))) else Q (-1) s)) := by
        rw [if_neg (ne1 _ (by omega)), ix_nI (by omega), ex, n7 i 3 (show (3 : Int32) = nI 3 from rfl), n7 i 4 (show (4 : Int32) = nI 4 from rfl), n7 i 5 (show (5 : Int32) = nI 5 from rfl), nI_7, ix_nI (show 7 * i + 3 < 2 ^ 31 by omega), m_isIn]
        refine ⟨vv p (by omega), ?_⟩
        by_cases e : s 8 (7 * i + p) = -1
        · rw [if_pos e]
          refine ⟨vv 3 (by decide), ?_⟩
          by_cases g : ¬ x3 < s 8 (7 * i + 3) ∧ ¬ s 0 4 < x3
          · rw [bI_t g, if_neg (by decide)]
            refine ⟨vv p (by omega), ?_⟩
            have := a3 e g
            rcases hp with w | w
            · subst w; rw [if_pos rfl]; exact this
            · subst w
              rw [if_neg (fun q => by have := nI_inj (by omega) (by omega) q; omega)]; exact this
          · rw [bI_f g, if_pos rfl]; exact a2 e g
        · rw [if_neg e]; exact a1 e
      refine S ?_
      rw [if_pos e6]
      rcases hc with ⟨w, c1⟩ | ⟨w, c1, c2⟩
      · rw [if_pos c1]; rw [w] at T; exact T
      · rw [if_neg c1, if_pos c2]; rw [w] at T; exact T
    have now9 : σ 0 9 = s 0 4 := hnow
    -- the class, when it can
    have C : ∀ p, (p = 4 ∨ p = 5) → s 8 (7 * i + 6) = 0 → ((p = 4 ∧ s 8 (7 * i + 1) = x2) ∨ (p = 5 ∧ ¬ s 8 (7 * i + 1) = x2 ∧ s 8 (7 * i + 2) = x2)) → s 8 (7 * i + p) = -1 → (if x3 < σ 30 (7 * i + 3) then (fun (r : Int32) (σ' : St) => wp_X6_yes s x1 x2 x3 (fun r' s' => r = r' ∧ RI n σ' s')) (-1) σ else if σ 0 9 < x3 then (fun (r : Int32) (σ' : St) => wp_X6_yes s x1 x2 x3 (fun r' s' => r = r' ∧ RI n σ' s')) (-1) σ else wp_X0_setYes i σ x2 x3 (fun σ3 => wp_X0_isAgreed i σ3 (fun y5 σ4 => if y5 = 0 then (fun (r : Int32) (σ' : St) => wp_X6_yes s x1 x2 x3 (fun r' s' => r = r' ∧ RI n σ' s')) 0 σ4 else wp_X0_isLate i σ4 (fun y7 σ6 => if y7 = 0 then j_X5_yes_82 i (fun (r : Int32) (σ' : St) => wp_X6_yes s x1 x2 x3 (fun r' s' => r = r' ∧ RI n σ' s')) x2 y7 (σ6 30 (7 * i + 3)) σ6 else wp_X0_laterYes i σ6 (fun y13 σ12 => j_X5_yes_82 i (fun (r : Int32) (σ' : St) => wp_X6_yes s x1 x2 x3 (fun r' s' => r = r' ∧ RI n σ' s')) x2 y7 y13 σ12))))) := by
      intro p hp e6 hc e
      rw [hR 3 (by decide), now9]
      have bad : ¬ (¬ x3 < s 8 (7 * i + 3) ∧ ¬ s 0 4 < x3) → (fun (r : Int32) (σ' : St) => wp_X6_yes s x1 x2 x3 (fun r' s' => r = r' ∧ RI n σ' s')) (-1) σ := fun g => M p hp e6 hc _ ⟨fun z => absurd e z, fun _ _ => ⟨rfl, h⟩, fun _ z => absurd z g⟩
      by_cases g1 : x3 < s 8 (7 * i + 3)
      · rw [if_pos g1]; exact bad (fun z => z.1 g1)
      rw [if_neg g1]
      by_cases g2 : s 0 4 < x3
      · rw [if_pos g2]; exact bad (fun z => z.2 g2)
      rw [if_neg g2]
      have r3 : 0 ≤ x3.toInt ∧ x3.toInt ≤ (s 0 4).toInt := by
        rw [ltI] at g1 g2
        have := o3.1
        omega
      have R1 : RI n (up2 σ 30 (7 * i + p) x3) (up2 s 8 (7 * i + p) x3) := RI_h h hi (by omega) (okH_up (q5 i hi) (Or.inr ⟨hp, Or.inr r3⟩))
      have e1 : (up2 σ 30 (7 * i + p) x3) 30 (7 * i + 1) = s 8 (7 * i + 1) := by rw [up2_eq, upd_n _ _ (by omega)]; exact hR 1 (by decide)
      have Y := y_mid (x2 := x2) (x3 := x3) R1 hi hp (by
        rw [e1]
        rcases hc with ⟨w, c1⟩ | ⟨w, c1, c2⟩
        · exact Or.inl ⟨w, c1.symm⟩
        · exact Or.inr ⟨w, fun z => c1 z.symm⟩) (by rw [up2_eq, upd_s]) (by rw [up2_ne (by decide)]; exact r3) (K := fun (r : Int32) (σ' : St) => wp_X6_yes s x1 x2 x3 (fun r' s' => r = r' ∧ RI n σ' s')) (fun r σ' hj => M p hp e6 hc _ ⟨fun z => absurd e z, fun _ z => absurd ⟨g1, g2⟩ z, fun _ _ => hj⟩)
      unfold wp_X0_setYes nmS
      rw [hR 1 (by decide)]
      rcases hc with ⟨w, c1⟩ | ⟨w, c1, c2⟩
      · rw [if_pos c1.symm]; rw [w] at Y; exact Y
      · rw [if_neg (fun z => c1 z.symm)]; rw [w] at Y; exact Y
    unfold wf_X5_yes wp_X0_awaits j_X0_awaits_23
    dsimp only
    rw [hR 6 (by decide), hR 1 (by decide), hR 4 (by decide), hR 2 (by decide), hR 5 (by decide)]
    by_cases e6 : s 8 (7 * i + 6) = 0
    · rw [if_pos e6]
      by_cases e1 : x2 = s 8 (7 * i + 1)
      · rw [if_pos e1]
        by_cases e4 : s 8 (7 * i + 4) = -1
        · rw [if_pos e4, if_neg (show ¬ (1 : Int32) = 0 by decide)]
          exact C 4 (Or.inl rfl) e6 (Or.inl ⟨rfl, e1.symm⟩) e4
        · rw [if_neg e4, if_neg (show ¬ x2 = s 8 (7 * i + 2) from fun z => o2 (e1.symm.trans z)), if_pos rfl]
          exact M 4 (Or.inl rfl) e6 (Or.inl ⟨rfl, e1.symm⟩) _ ⟨fun _ => ⟨rfl, h⟩, fun z => absurd z e4, fun z => absurd z e4⟩
      · rw [if_neg e1]
        by_cases e2 : x2 = s 8 (7 * i + 2)
        · rw [if_pos e2]
          by_cases e5 : s 8 (7 * i + 5) = -1
          · rw [if_pos e5, if_neg (show ¬ (1 : Int32) = 0 by decide)]
            exact C 5 (Or.inr rfl) e6 (Or.inr ⟨rfl, fun z => e1 z.symm, e2.symm⟩) e5
          · rw [if_neg e5, if_pos rfl]
            exact M 5 (Or.inr rfl) e6 (Or.inr ⟨rfl, fun z => e1 z.symm, e2.symm⟩) _ ⟨fun _ => ⟨rfl, h⟩, fun z => absurd z e5, fun z => absurd z e5⟩
        · rw [if_neg e2, if_pos rfl]
          exact N0 (Or.inr ⟨fun z => e1 z.symm, fun z => e2 z.symm⟩) _ ⟨rfl, h⟩
    · rw [if_neg e6, if_pos rfl]
      exact N0 (Or.inl e6) _ ⟨rfl, h⟩
  · unfold wp_X6_yes nm
    dsimp only
    refine m_sayer q1 q3 (fun _ => ?_) (fun i hi ei => absurd (by rw [ei, rg_i, nI_toInt (by omega), nI_toInt (by omega)]; omega) hr)
    rw [if_pos rfl]
    exact ⟨rfl, h⟩
end YES2
