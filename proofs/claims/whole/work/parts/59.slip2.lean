section SLIP2
variable {n : Nat} {σ s σ' s' : St}
theorem a_fault {σ : St} {c : Nat} (hc4 : c ≤ 400) (hc : σ 7 2 = nI c) {th now x1 x2 x7 : Int32} (hth : σ 1 7 = th) (hnow : σ 0 9 = now) {Q : Int32 → St → Prop} (k1 : ¬ c < 400 → Q 1 σ) (k2 : c < 400 → ¬ (¬ x1 < 1 ∧ ¬ 19 < x1) → Q 2 σ) (k3 : c < 400 → (¬ x1 < 1 ∧ ¬ 19 < x1) → ¬ rg th x2 → Q 3 σ) (k4 : c < 400 → (¬ x1 < 1 ∧ ¬ 19 < x1) → rg th x2 → ¬ (¬ x7 < 0 ∧ ¬ now < x7) → Q 4 σ) (k0 : c < 400 → (¬ x1 < 1 ∧ ¬ 19 < x1) → rg th x2 → (¬ x7 < 0 ∧ ¬ now < x7) → Q 0 σ) : wp_X5_faultAhead σ x1 x2 x7 Q := by
  unfold wp_X5_faultAhead
  have e : (nI c < 400) ↔ c < 400 := by rw [show (400 : Int32) = nI 400 from rfl, nI_ltI (by omega) (by decide)]
  rw [hc]
  by_cases t1 : c < 400
  · rw [if_pos (e.mpr t1)]
    by_cases g1 : x1 < 1
    · rw [if_pos g1]; exact k2 t1 (fun q => q.1 g1)
    rw [if_neg g1]
    by_cases g2 : 19 < x1
    · rw [if_pos g2]; exact k2 t1 (fun q => q.2 g2)
    rw [if_neg g2, s_isThing, hth]
    by_cases g3 : rg th x2
    · rw [bI_t g3, if_neg (by decide)]
      by_cases g4 : x7 < 0
      · rw [if_pos g4]; exact k4 t1 ⟨g1, g2⟩ g3 (fun q => q.1 g4)
      rw [if_neg g4, hnow]
      by_cases g5 : now < x7
      · rw [if_pos g5]; exact k4 t1 ⟨g1, g2⟩ g3 (fun q => q.2 g5)
      rw [if_neg g5]; exact k0 t1 ⟨g1, g2⟩ g3 ⟨g4, g5⟩
    · rw [bI_f g3, if_pos rfl]; exact k3 t1 ⟨g1, g2⟩ g3
  · rw [if_neg (fun q => t1 (e.mp q))]; exact k1 t1
/-- the fault's two numbers set, on both sides -/
theorem RI_flt (h : RI n σ s) (y : Int32) : RI n (up2 (up2 σ 0 11 (-1)) 0 10 y) (up2 (up2 s 0 16 (-1)) 0 15 y) := by
  obtain ⟨m1, m2, m3, m4⟩ := h.2.2.2.2.2.1
  refine RI_fields h (fun k hk => by rw [up2_ne hk, up2_ne hk]) ?_ ?_ (fun k hk => by rw [up2_ne hk, up2_ne hk]) (fun j hj _ => ?_) ⟨?_, ?_, ?_, ?_⟩ ?_
  · rw [up2_eq, upd_n _ _ (by decide), up2_eq, upd_n _ _ (by decide)]
  · rw [up2_eq, upd_n _ _ (by decide), up2_eq, upd_n _ _ (by decide)]
  · rw [up2_eq, upd_n _ _ (by omega), up2_eq, upd_n _ _ (by omega)]
  · rw [up2_eq, upd_n _ _ (by decide), up2_eq, upd_n _ _ (by decide), up2_eq, upd_n _ _ (by decide), up2_eq, upd_n _ _ (by decide)]; exact m1
  · rw [up2_eq, upd_n _ _ (by decide), up2_eq, upd_n _ _ (by decide)]; exact m2
  · rw [up2_eq, upd_s, up2_eq, upd_s]
  · rw [up2_eq, upd_n _ _ (by decide), up2_eq, upd_s, up2_eq, upd_n _ _ (by decide), up2_eq, upd_s]
  · rw [up2_eq, upd_n _ _ (by decide), up2_eq, upd_n _ _ (by decide)]; exact Int.le_refl _
/-- the class's write: the tests ahead, then the writing -/
theorem a_write {c : Nat} (h : RI n σ s) (hc4 : c ≤ 400) (hc : σ 7 2 = nI c) {x1 x2 x3 x4 x5 x6 x7 : Int32} {Q : Int32 → St → Prop} (kn : ∀ y : Int32, ¬ y = 0 → (¬ c < 400 ∧ y = 1) ∨ (c < 400 ∧ ¬ (¬ x1 < 1 ∧ ¬ 19 < x1) ∧ y = 2) ∨ (c < 400 ∧ (¬ x1 < 1 ∧ ¬ 19 < x1) ∧ ¬ rg (s 0 2) x2 ∧ y = 3) ∨ (c < 400 ∧ (¬ x1 < 1 ∧ ¬ 19 < x1) ∧ rg (s 0 2) x2 ∧ ¬ (¬ x7 < 0 ∧ ¬ s 0 4 < x7) ∧ y = 4) → Q (-1) (up2 (up2 σ 0 11 (-1)) 0 10 y)) (k0 : c < 400 → (¬ x1 < 1 ∧ ¬ 19 < x1) → rg (s 0 2) x2 → (¬ x7 < 0 ∧ ¬ s 0 4 < x7) → wrC (up2 (up2 σ 0 11 (-1)) 0 10 0) x1 x2 x3 x4 x5 x6 x7 Q) : wp_X5_write σ x1 x2 x3 x4 x5 x6 x7 Q := by
  unfold wp_X5_write
  simp only [nmS]
  have z : ∀ y, up2 (up2 σ 0 11 (-1)) 0 10 y 0 10 = y := fun y => by rw [up2_eq, upd_s]
  have no : ∀ y : Int32, ¬ y = 0 → Q (-1) (up2 (up2 σ 0 11 (-1)) 0 10 y) → (if up2 (up2 σ 0 11 (-1)) 0 10 y 0 10 = 0 then wrC (up2 (up2 σ 0 11 (-1)) 0 10 y) x1 x2 x3 x4 x5 x6 x7 Q else Q (-1) (up2 (up2 σ 0 11 (-1)) 0 10 y)) := by
    intro y hy hq
    rw [z, if_neg hy]; exact hq
  have W : ∀ y, wrC (up2 (up2 σ 0 11 (-1)) 0 10 y) x1 x2 x3 x4 x5 x6 x7 Q = wrC (up2 (up2 σ 0 11 (-1)) 0 10 y) x1 x2 x3 x4 x5 x6 x7 Q := fun _ => rfl
  refine a_fault hc4 (th := s 0 2) (now := s 0 4) (by rw [up2_ne (by decide)]; exact hc) (by rw [up2_ne (by decide)]; exact h.1.2.2.1) (by rw [up2_eq, upd_n _ _ (by decide)]; exact h.2.2.2.2.2.1.1) (fun t1 => ?_) (fun t1 t2 => ?_) (fun t1 t2 t3 => ?_) (fun t1 t2 t3 t4 => ?_) (fun t1 t2 t3 t4 => ?_)
  · exact no 1 (by decide) (kn 1 (by decide) (Or.inl ⟨t1, rfl⟩))
  · exact no 2 (by decide) (kn 2 (by decide) (Or.inr (Or.inl ⟨t1, t2, rfl⟩)))
  · exact no 3 (by decide) (kn 3 (by decide) (Or.inr (Or.inr (Or.inl ⟨t1, t2, t3, rfl⟩))))
  · exact no 4 (by decide) (kn 4 (by decide) (Or.inr (Or.inr (Or.inr ⟨t1, t2, t3, t4, rfl⟩))))
  · have := k0 t1 t2 t3 t4
    have e : (if up2 (up2 σ 0 11 (-1)) 0 10 0 0 10 = 0 then wrC (up2 (up2 σ 0 11 (-1)) 0 10 0) x1 x2 x3 x4 x5 x6 x7 Q else Q (-1) (up2 (up2 σ 0 11 (-1)) 0 10 0)) := by
      rw [z, if_pos rfl]; exact this
    exact e
theorem J_slip (h : RI n σ s) (x1 x2 x3 x4 x5 x6 x7 : Int32) : wp_X5_slip σ x1 x2 x3 x4 x5 x6 x7 (fun r σ' => wp_X6_slip s x1 x2 x3 x4 x5 x6 x7 (fun r' s' => r = r' ∧ RI n σ' s')) := by
  obtain ⟨c, ⟨c4, cn, cm, cc, co⟩, hA⟩ := h.2.2.2.1
  have e400 : (s 0 3 = 400) ↔ ¬ c < 400 := by
    rw [cm, show (400 : Int32) = nI 400 from rfl, nI_eq (by omega) (by decide)]
    omega
  have hK := h.2.1
  have Z : ∀ {Q : Int32 → St → Prop} (y : Int32), (¬ y = 0 → Q (-1) (up2 (up2 s 0 16 (-1)) 0 15 y)) → (y = 0 → wp_X6_written (up2 (up2 s 0 16 (-1)) 0 15 y) x1 x2 x3 x4 x5 x6 x7 Q) → j_X6_slip_70 Q x1 x2 x3 x4 x5 x6 x7 y (up2 s 0 16 (-1)) := by
    intro Q y a b
    unfold j_X6_slip_70
    simp only [nmS]
    have : up2 (up2 s 0 16 (-1)) 0 15 y 0 15 = y := by rw [up2_eq, upd_s]
    rw [this]
    by_cases hy : y = 0
    · rw [if_pos hy]; exact b hy
    · rw [if_neg hy]; exact a hy
  have M : ∀ {Q : Int32 → St → Prop}, (¬ c < 400 → j_X6_slip_70 Q x1 x2 x3 x4 x5 x6 x7 1 (up2 s 0 16 (-1))) → (c < 400 → ¬ (¬ x1 < 1 ∧ ¬ 19 < x1) → j_X6_slip_70 Q x1 x2 x3 x4 x5 x6 x7 2 (up2 s 0 16 (-1))) → (c < 400 → (¬ x1 < 1 ∧ ¬ 19 < x1) → ¬ rg (s 0 2) x2 → j_X6_slip_70 Q x1 x2 x3 x4 x5 x6 x7 3 (up2 s 0 16 (-1))) → (c < 400 → (¬ x1 < 1 ∧ ¬ 19 < x1) → rg (s 0 2) x2 → ¬ (¬ x7 < 0 ∧ ¬ s 0 4 < x7) → j_X6_slip_70 Q x1 x2 x3 x4 x5 x6 x7 4 (up2 s 0 16 (-1))) → (c < 400 → (¬ x1 < 1 ∧ ¬ 19 < x1) → rg (s 0 2) x2 → (¬ x7 < 0 ∧ ¬ s 0 4 < x7) → j_X6_slip_70 Q x1 x2 x3 x4 x5 x6 x7 0 (up2 s 0 16 (-1))) → wp_X6_slip s x1 x2 x3 x4 x5 x6 x7 Q := by
    intro Q a1 a2 a3 a4 a0
    unfold wp_X6_slip
    simp only [nmS]
    have f : ∀ j, j ≠ 16 → up2 s 0 16 (-1) 0 j = s 0 j := fun j hj => by rw [up2_eq, upd_n _ _ hj]
    rw [f 3 (by decide)]
    by_cases t1 : c < 400
    · rw [if_neg (fun q => e400.mp q t1), m_isIn]
      by_cases t2 : ¬ x1 < 1 ∧ ¬ 19 < x1
      · rw [bI_t t2, if_neg (by decide), f 2 (by decide), m_isIn0 hK.2.2.1.1]
        by_cases t3 : rg (s 0 2) x2
        · rw [bI_t t3, if_neg (by decide), f 4 (by decide), m_isIn]
          by_cases t4 : ¬ x7 < 0 ∧ ¬ s 0 4 < x7
          · rw [bI_t t4, if_neg (by decide)]; exact a0 t1 t2 t3 t4
          · rw [bI_f t4, if_pos rfl]; exact a4 t1 t2 t3 t4
        · rw [bI_f t3, if_pos rfl]; exact a3 t1 t2 t3
      · rw [bI_f t2, if_pos rfl]; exact a2 t1 t2
    · rw [if_pos (e400.mpr t1)]; exact a1 t1
  unfold wp_X5_slip
  refine a_write h c4 cn (fun y hy hcase => ?_) (fun t1 t2 t3 t4 => ?_)
  · have fin : ∀ y', y = y' → ¬ y' = 0 → j_X6_slip_70 (fun r' s' => (-1 : Int32) = r' ∧ RI n (up2 (up2 σ 0 11 (-1)) 0 10 y) s') x1 x2 x3 x4 x5 x6 x7 y' (up2 s 0 16 (-1)) := by
      intro y' e hy'
      subst e
      exact Z y (fun _ => ⟨rfl, RI_flt h y⟩) (fun q => absurd q hy')
    refine M (fun t1 => ?_) (fun t1 t2 => ?_) (fun t1 t2 t3 => ?_) (fun t1 t2 t3 t4 => ?_) (fun t1 t2 t3 t4 => ?_)
    · rcases hcase with q | q | q | q
      · exact fin 1 q.2 (by decide)
      · exact absurd q.1 t1
      · exact absurd q.1 t1
      · exact absurd q.1 t1
    · rcases hcase with q | q | q | q
      · exact absurd t1 q.1
      · exact fin 2 q.2.2 (by decide)
      · exact absurd q.2.1 t2
      · exact absurd q.2.1 t2
    · rcases hcase with q | q | q | q
      · exact absurd t1 q.1
      · exact absurd t2 q.2.1
      · exact fin 3 q.2.2.2 (by decide)
      · exact absurd q.2.2.1 t3
    · rcases hcase with q | q | q | q
      · exact absurd t1 q.1
      · exact absurd t2 q.2.1
      · exact absurd t3 q.2.2.1
      · exact fin 4 q.2.2.2.2 (by decide)
    · rcases hcase with q | q | q | q
      · exact absurd t1 q.1
      · exact absurd t2 q.2.1
      · exact absurd t3 q.2.2.1
      · exact absurd t4 q.2.2.2.1
  · have hR := RI_flt h 0
    refine J_wr hR t1 (by rw [up2_eq, upd_n _ _ (by decide), up2_eq, upd_n _ _ (by decide)]; exact cm) (by rw [up2_eq, upd_s]) (by rw [up2_eq, upd_s]) (by rw [up2_eq, upd_n _ _ (by decide), up2_eq, upd_s]) (fun r σ' _ hw => ?_)
    exact M (fun q => absurd t1 q) (fun _ q => absurd t2 q) (fun _ _ q => absurd t3 q) (fun _ _ _ q => absurd t4 q) (fun _ _ _ _ => Z 0 (fun q => absurd rfl q) (fun _ => hw _ (fun s' hs' => ⟨rfl, hs'.1⟩)))
end SLIP2
