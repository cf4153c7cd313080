section CALLS2
variable {n : Nat} {σ s σ' s' : St}
def thC (x y : Int32) : Prop := (¬ x < 0 ∧ ¬ 5 < x) ∧ (¬ y < 0 ∧ ¬ 1000000 < y) ∧ (x = 2 ∨ x = 3 → y = 0)
theorem a_thing {x y : Int32} {Q : Int32 → St → Prop} (k1 : thC x y → wp_X4_addThing σ x y Q) (k0 : ¬ thC x y → Q (-1) σ) : wp_X5_thing σ x y Q := by
  unfold wp_X5_thing j_X5_thing_31 j_X5_thing_36 j_X5_thing_47
  simp only [ifc, one_ne_0, not_true_eq_false, not_false_eq_true, false_implies, true_implies, true_and, and_true]
  refine ⟨fun g => k0 (fun q => q.1.1 g), fun g1 => ⟨fun g => k0 (fun q => q.1.2 g), fun g2 => ⟨fun g => k0 (fun q => q.2.1.1 g), fun g3 => ⟨fun g => k0 (fun q => q.2.1.2 g), fun g4 => ⟨fun g5 => ⟨fun g6 => k1 ⟨⟨g1, g2⟩, ⟨g3, g4⟩, fun _ => g6⟩, fun g6 => k0 (fun q => g6 (q.2.2 (Or.inl g5)))⟩, fun g5 => ⟨fun g6 => ⟨fun g7 => k1 ⟨⟨g1, g2⟩, ⟨g3, g4⟩, fun _ => g7⟩, fun g7 => k0 (fun q => g7 (q.2.2 (Or.inr g6)))⟩, fun g6 => k1 ⟨⟨g1, g2⟩, ⟨g3, g4⟩, fun q => q.elim (fun z => absurd z g5) (fun z => absurd z g6)⟩⟩⟩⟩⟩⟩⟩
def mAdd (s : St) (x y : Int32) (Q : Int32 → St → Prop) : Prop := if s 0 2 = 60 then Q (-1) s else (vp_in (s 0 2) 60 ∧ nmS (up2 s 4 (ix (s 0 2)) x) (fun σ5 => vp_in (σ5 0 2) 60 ∧ nmS (up2 σ5 5 (ix (σ5 0 2)) y) (fun σ6 => nmS (up2 σ6 0 2 ((σ6 0 2) + 1)) (fun σ7 => Q ((σ7 0 2) - 1) σ7))))
theorem b_thing {x y : Int32} {Q : Int32 → St → Prop} (k1 : thC x y → mAdd s x y Q) (k0 : ¬ thC x y → Q (-1) s) : wp_X6_thing s x y Q := by
  have J : ∀ hi : Int32, ((¬ y < 0 ∧ ¬ hi < y) ↔ ((¬ y < 0 ∧ ¬ 1000000 < y) ∧ (x = 2 ∨ x = 3 → y = 0))) → (¬ x < 0 ∧ ¬ 5 < x) → j_X6_thing_27 Q x y hi 0 y s := by
    intro hi e g
    unfold j_X6_thing_27
    rw [m_isIn]
    by_cases q : ¬ y < 0 ∧ ¬ hi < y
    · rw [bI_t q, if_neg (by decide)]
      exact k1 ⟨g, e.mp q⟩
    · rw [bI_f q, if_pos rfl]
      exact k0 (fun z => q (e.mpr z.2))
  have z0 : x = 2 ∨ x = 3 → ((¬ y < 0 ∧ ¬ (0 : Int32) < y) ↔ ((¬ y < 0 ∧ ¬ 1000000 < y) ∧ (x = 2 ∨ x = 3 → y = 0))) := by
    intro hx
    have e : y = 0 ↔ y.toInt = 0 := eqI y 0
    rw [ltI, ltI, ltI, t0_, show (1000000 : Int32).toInt = 1000000 from rfl]
    constructor
    · intro q; exact ⟨by omega, fun _ => e.mpr (by omega)⟩
    · intro q; have := e.mp (q.2 hx); omega
  unfold wp_X6_thing j_X6_thing_21
  rw [m_isIn]
  by_cases g : ¬ x < 0 ∧ ¬ 5 < x
  · rw [bI_t g, if_neg (by decide)]
    by_cases g2 : x = 2
    · rw [if_pos g2]; exact J 0 (z0 (Or.inl g2)) g
    · rw [if_neg g2]
      by_cases g3 : x = 3
      · rw [if_pos g3]; exact J 0 (z0 (Or.inr g3)) g
      · rw [if_neg g3]
        exact J 1000000 ⟨fun q => ⟨q, fun z => z.elim (fun w => absurd w g2) (fun w => absurd w g3)⟩, fun q => q.1⟩ g
  · rw [bI_f g, if_pos rfl]
    exact k0 (fun z => g z.1)
theorem J_thing (h : RI n σ s) (x y : Int32) : wp_X5_thing σ x y (fun r σ' => wp_X6_thing s x y (fun r' s' => r = r' ∧ RI n σ' s')) := by
  have hk := h.1
  have hK := h.2.1
  refine a_thing (fun tc => ?_) (fun tc => b_thing (fun q => absurd q tc) (fun _ => ⟨rfl, h⟩))
  unfold wp_X4_addThing
  rw [hk.2.2.1]
  have hb := hK.2.2.1
  by_cases e : s 0 2 = 60
  · rw [if_neg (fun q => (lt_ne (N := 60) hb.2).mp q e)]
    refine b_thing (fun _ => ?_) (fun q => absurd tc q)
    unfold mAdd
    rw [if_pos e]
    exact ⟨rfl, h⟩
  · have hl := (lt_ne (N := 60) hb.2).mpr e
    have hl' : (s 0 2).toInt < 60 := by rw [ltI] at hl; exact hl
    have hv : vp_in (s 0 2) 60 := vin2 hb.1 hl'
    rw [if_pos hl]
    have e0 : up2 σ 5 (ix (s 0 2)) x 1 7 = s 0 2 := by rw [up2_ne (by decide)]; exact hk.2.2.1
    have e1 : up2 (up2 σ 5 (ix (s 0 2)) x) 6 (ix (s 0 2)) y 1 7 = s 0 2 := by rw [up2_ne (by decide)]; exact e0
    simp only [nmS, e0, e1]
    refine ⟨hv, hv, b_thing (fun _ => ?_) (fun q => absurd tc q)⟩
    unfold mAdd
    have f0 : up2 s 4 (ix (s 0 2)) x 0 2 = s 0 2 := by rw [up2_ne (by decide)]
    have f1 : up2 (up2 s 4 (ix (s 0 2)) x) 5 (ix (s 0 2)) y 0 2 = s 0 2 := by rw [up2_ne (by decide)]; exact f0
    simp only [nmS, f0, f1]
    rw [if_neg e, up2_eq, up2_eq, upd_s, upd_s]
    refine ⟨hv, hv, rfl, ?_⟩
    have hs1 := suc_i hb.1 hl' (by decide)
    refine RI_stock h (fun k hk => ?_) (fun k hk => ?_) (fun j hj => ?_) ⟨?_, ?_, ?_, ?_, ?_, ?_, ?_, ?_⟩ ?_ ⟨⟨?_, fun y hy => ?_⟩, ⟨?_, fun y hy => ?_⟩, ?_, fun y hy => ?_⟩ (fun y hy => ?_) (fun c _ _ i _ _ q => ?_)
    · rw [up2_ne (by omega), up2_ne (by omega), up2_ne (by omega)]
    · rw [up2_ne (by omega), up2_ne (by omega), up2_ne (by omega)]
    · rw [up2_eq, upd_n _ _ (by omega), up2_ne (by decide), up2_ne (by decide)]
    · rw [up2_eq, up2_eq, upd_n _ _ (by decide), upd_n _ _ (by decide), up2_ne (by decide), up2_ne (by decide), up2_ne (by decide), up2_ne (by decide)]; exact hk.1
    · rw [up2_eq, up2_eq, upd_n _ _ (by decide), upd_n _ _ (by decide), up2_ne (by decide), up2_ne (by decide), up2_ne (by decide), up2_ne (by decide)]; exact hk.2.1
    · rw [up2_eq, up2_eq, upd_s, upd_s]
    · simp only [up2_at]; simp; exact hk.2.2.2.1
    · simp only [up2_at]; simp; exact hk.2.2.2.2.1
    · simp only [up2_at]; simp; exact hk.2.2.2.2.2.1
    · simp only [up2_at]; simp; rw [hk.2.2.2.2.2.2.1]
    · simp only [up2_at]; simp; rw [hk.2.2.2.2.2.2.2]
    · unfold SK
      rw [up2_eq, upd_s, upd_n _ _ (by decide), upd_n _ _ (by decide), up2_ne (show (4 : Nat) ≠ 0 by decide), up2_ne (show (4 : Nat) ≠ 5 by decide), up2_eq, up2_ne (by decide), up2_ne (by decide), hs1]
      refine ⟨hK.1, hK.2.1, ⟨by omega, by omega⟩, fun z hz => ?_⟩
      by_cases ez : z = ix (s 0 2)
      · rw [ez, upd_s]
        have t1 := tc.1.1
        have t2 := tc.1.2
        rw [ltI, t0_] at t1
        rw [ltI, show (5 : Int32).toInt = 5 from rfl] at t2
        omega
      · rw [upd_n _ _ ez]; exact hK.2.2.2 z hz
    · rw [up2_eq, upd_n _ _ (by decide), up2_ne (by decide), up2_ne (by decide)]; exact Int.le_refl _
    · rw [up2_ne (by decide), up2_ne (by decide), up2_ne (by decide)]
    · rw [up2_eq, upd_n _ _ (by decide), up2_ne (by decide), up2_ne (by decide)]; exact Int.le_refl _
    · rw [up2_ne (by decide), up2_ne (by decide), up2_ne (by decide)]
    · rw [up2_eq, upd_s, hs1]; omega
    · rw [up2_ne (by decide), up2_ne (by decide), up2_eq, upd_n _ _ (by omega)]
    · rw [up2_ne (by decide), up2_eq, upd_n _ _ (by omega), up2_ne (by decide)]
    · unfold isSl at q ⊢
      rw [up2_ne (by decide), up2_ne (by decide), up2_ne (by decide)]; exact q
theorem lpMs {c : Nat} (hc4 : c ≤ 400) (hn : s 0 3 = nI c) {row many : Int32} (hr : vp_in row 6) {Q : Int32 → St → Prop} (k1 : (¬ ∃ k, k < c ∧ beyond (s 6) row many k) → Q 1 (up2 s 3 (ix row) many)) (k0 : (∃ k, k < c ∧ beyond (s 6) row many k) → Q 0 s) : ∀ (g m : Nat), m ≤ c → c - m < g → (∀ k, k < m → ¬ beyond (s 6) row many k) → lp_X6_seals_23 Q g row many (nI m) s := by
  intro g
  induction g with
  | zero => intro m _ h; exact absurd h (Nat.not_lt_zero _)
  | succ g ih =>
    intro m hm hg ha
    show b_X6_seals_23 Q (lp_X6_seals_23 Q g) row many (nI m) s
    unfold b_X6_seals_23 j_X6_seals_83
    rw [hn]
    by_cases h : m < c
    · rw [if_pos ((nI_ltI (by omega) (by omega)).mpr h)]
      have x0 : 0 ≤ (nI m).toInt ∧ (nI m).toInt ≤ 400 := by rw [nI_toInt (by omega)]; omega
      obtain ⟨a0, b0⟩ := idx80 x0.1 x0.2
      obtain ⟨a4, b4⟩ := idx8 x0.1 x0.2 (w := 4) (n := 4) rfl (by decide)
      rw [ix_nI (by omega)] at b0 b4
      simp only [a0, a4, b0, b4, true_and, nI_1]
      have nx : ¬ beyond (s 6) row many m → lp_X6_seals_23 Q g row many (nI (m + 1)) s := fun q => ih (m + 1) h (by omega) (fun k hk => by
        by_cases e : k = m
        · rw [e]; exact q
        · exact ha k (by omega))
      by_cases q1 : s 6 (8 * m) = 8
      · rw [if_pos q1]
        by_cases q2 : s 6 (8 * m + 4) / 100 = row
        · rw [if_pos q2]
          by_cases q3 : s 6 (8 * m + 4) - s 6 (8 * m + 4) / 100 * 100 < many
          · rw [if_pos q3]; exact nx (fun z => z.2.2 q3)
          · rw [if_neg q3]; exact k0 ⟨m, h, q1, q2, q3⟩
        · rw [if_neg q2]; exact nx (fun z => q2 z.2.1)
      · rw [if_neg q1]; exact nx (fun z => q1 z.1)
    · rw [if_neg (fun q => h ((nI_ltI (by omega) (by omega)).mp q))]
      exact ⟨hr, k1 (fun ⟨k, h1, h2⟩ => ha k (by omega) h2)⟩
theorem J_seals (h : RI n σ s) (x y : Int32) : wp_X5_seals σ x y (fun r σ' => wp_X6_seals s x y (fun r' s' => r = r' ∧ RI n σ' s')) := by
  have hk := h.1
  have hK := h.2.1
  obtain ⟨c, hc, hA⟩ := h.2.2.2.1
  obtain ⟨c4, cn, cm, cc, co⟩ := hc
  have P0 : ¬ ((¬ x < 0 ∧ ¬ 5 < x) ∧ (¬ y < -1 ∧ ¬ 50 < y)) → wp_X6_seals s x y (fun r' s' => (0 : Int32) = r' ∧ RI n σ s') := by
    intro g
    unfold wp_X6_seals
    rw [m_isIn]
    by_cases g1 : ¬ x < 0 ∧ ¬ 5 < x
    · rw [bI_t g1, if_neg (by decide), m_isIn, bI_f (fun q => g ⟨g1, q⟩), if_pos rfl]; exact ⟨rfl, h⟩
    · rw [bI_f g1, if_pos rfl]; exact ⟨rfl, h⟩
  have e6 : (x < 6) ↔ ¬ 5 < x := by rw [ltI, ltI, show (6 : Int32).toInt = 6 from rfl, show (5 : Int32).toInt = 5 from rfl]; omega
  unfold wp_X5_seals
  by_cases g1 : x < 0
  · rw [if_pos g1]; exact P0 (fun q => q.1.1 g1)
  rw [if_neg g1]
  by_cases g2 : 5 < x
  · rw [if_neg (fun q => e6.mp q g2)]; exact P0 (fun q => q.1.2 g2)
  rw [if_pos (e6.mpr g2)]
  by_cases g3 : y < -1
  · rw [if_pos g3]; exact P0 (fun q => q.2.1 g3)
  rw [if_neg g3]
  by_cases g4 : 50 < y
  · rw [if_pos g4]; exact P0 (fun q => q.2.2 g4)
  rw [if_neg g4]
  have hx : vp_in x 6 := by
    rw [ltI, t0_] at g1
    rw [ltI, show (5 : Int32).toInt = 5 from rfl] at g2
    exact vin2 (by omega) (by omega)
  have eB : (∃ k, k < c ∧ beyond (σ (7 + 1)) x y k) ↔ (∃ k, k < c ∧ beyond (s 6) x y k) := by
    have : ∀ k, k < c → (beyond (σ (7 + 1)) x y k ↔ beyond (s 6) x y k) := by
      intro k hk
      unfold beyond
      rw [show σ (7 + 1) = σ 8 from rfl, cc _ (by omega), cc _ (by omega)]
    exact ⟨fun ⟨k, a, b⟩ => ⟨k, a, (this k a).mp b⟩, fun ⟨k, a, b⟩ => ⟨k, a, (this k a).mpr b⟩⟩
  have M : ∀ r σ', ((¬ ∃ k, k < c ∧ beyond (s 6) x y k) → r = 1 ∧ RI n σ' (up2 s 3 (ix x) y)) → ((∃ k, k < c ∧ beyond (s 6) x y k) → r = 0 ∧ RI n σ' s) → wp_X6_seals s x y (fun r' s' => r = r' ∧ RI n σ' s') := by
    intro r σ' k1 k0
    unfold wp_X6_seals
    rw [m_isIn, bI_t ⟨g1, g2⟩, if_neg (by decide), m_isIn, bI_t ⟨g3, g4⟩, if_neg (by decide)]
    exact ⟨c + 1, lpMs c4 cm hx k1 k0 (c + 1) 0 (Nat.zero_le _) (by omega) (fun k hk => absurd hk (Nat.not_lt_zero _))⟩
  refine c_useSeal (r := 7) cn c4 ?_
  rw [bI_congr eB]
  by_cases q : ∃ k, k < c ∧ beyond (s 6) x y k
  · rw [bI_t q, if_neg (by decide)]
    exact M _ _ (fun z => absurd q z) (fun _ => ⟨rfl, h⟩)
  · rw [bI_f q, if_pos rfl]
    unfold wp_X4_giveOut
    rw [if_neg g1, if_pos (e6.mpr g2)]
    refine ⟨hx, M _ _ (fun _ => ⟨rfl, ?_⟩) (fun z => absurd z q)⟩
    refine RI_stock h (fun k hk => up2_ne (by omega)) (fun k hk => up2_ne (by omega)) (fun j hj => by rw [up2_ne (by decide)]) ⟨?_, ?_, ?_, ?_, ?_, ?_, ?_, ?_⟩ ?_ ?_ (fun z hz => by rw [up2_ne (by decide)]) (fun c' hc' hc4' i hi e8 q2 => ?_)
    · rw [up2_ne (by decide), up2_ne (by decide)]; exact hk.1
    · rw [up2_ne (by decide), up2_ne (by decide)]; exact hk.2.1
    · rw [up2_ne (by decide), up2_ne (by decide)]; exact hk.2.2.1
    · rw [up2_ne (by decide), up2_ne (by decide)]; exact hk.2.2.2.1
    · rw [up2_ne (by decide), up2_ne (by decide)]; exact hk.2.2.2.2.1
    · rw [up2_eq, up2_eq, hk.2.2.2.2.2.1]
    · rw [up2_ne (by decide), up2_ne (by decide)]; exact hk.2.2.2.2.2.2.1
    · rw [up2_ne (by decide), up2_ne (by decide)]; exact hk.2.2.2.2.2.2.2
    · unfold SK; rw [up2_ne (by decide), up2_ne (by decide)]; exact hK
    · exact MO_rf (by rw [up2_ne (by decide)]) (by rw [up2_ne (by decide)]) (by rw [up2_ne (by decide)]) (by rw [up2_ne (by decide)]) (by rw [up2_ne (by decide)]) (by rw [up2_ne (by decide)])
    · have ec : c' = c := nI_inj (by omega) (by omega) (hc'.symm.trans cm)
      unfold isSl at q2 ⊢
      rw [up2_eq]
      refine ⟨q2.1, ?_⟩
      by_cases e : ix (s 6 (8 * i + 4) / 100) = ix x
      · rw [e, upd_s]
        have a := rg_i.mp q2.1
        have hd := (div_in (x := s 6 (8 * i + 4)) (m := 100) (k := 100) (n := 6) rfl (by decide) a.1 a.2).2
        have ex : s 6 (8 * i + 4) / 100 = x := by rw [vin_nI hd, vin_nI hx, e]
        exact Classical.not_not.mp (fun w => q ⟨i, by omega, e8, ex, w⟩)
      · rw [upd_n _ _ e]; exact q2.2
theorem lpMl {c i : Nat} (hc4 : c ≤ 400) (hi : i < c) {Q : Int32 → St → Prop} (k9 : Q (bI (∃ k, k < i ∧ s 6 (8 * i + 6) < s 6 (8 * k + 6))) s) : ∀ (g m : Nat), m ≤ i → i - m < g → (∀ k, k < m → ¬ s 6 (8 * i + 6) < s 6 (8 * k + 6)) → lp_X6_slipOf_46 Q g (nI i) (nI m) s := by
  intro g
  induction g with
  | zero => intro m _ h; exact absurd h (Nat.not_lt_zero _)
  | succ g ih =>
    intro m hm hg ha
    show b_X6_slipOf_46 Q (lp_X6_slipOf_46 Q g) (nI i) (nI m) s
    unfold b_X6_slipOf_46
    by_cases h : m < i
    · rw [if_pos ((nI_ltI (by omega) (by omega)).mpr h)]
      have v1 : vp_in (nI (8 * m + 6)) 3208 := vin_n (by omega) (by decide)
      have v2 : vp_in (nI (8 * i + 6)) 3208 := vin_n (by omega) (by decide)
      simp only [nI8_6, v1, v2, true_and, ix_nI (show 8 * m + 6 < 2 ^ 31 by omega), ix_nI (show 8 * i + 6 < 2 ^ 31 by omega), nI_1]
      by_cases q : s 6 (8 * i + 6) < s 6 (8 * m + 6)
      · rw [if_pos q]
        rw [bI_t ⟨m, h, q⟩] at k9
        exact k9
      · rw [if_neg q]
        refine ih (m + 1) h (by omega) (fun k hk => ?_)
        by_cases e : k = m
        · rw [e]; exact q
        · exact ha k (by omega)
    · rw [if_neg (fun q => h ((nI_ltI (by omega) (by omega)).mp q))]
      rw [bI_f (fun ⟨k, h1, h2⟩ => ha k (by omega) h2)] at k9
      exact k9
theorem J_slipOf (h : RI n σ s) (x y : Int32) : wp_X5_slipOf σ x y (fun r σ' => wp_X6_slipOf s x y (fun r' s' => r = r' ∧ RI n σ' s')) := by
  obtain ⟨c, hc, hA⟩ := h.2.2.2.1
  obtain ⟨c4, cn, cm, cc, co⟩ := hc
  have cb : 0 ≤ (s 0 3).toInt := by rw [cm, nI_toInt (by omega)]; omega
  unfold wp_X5_slipOf
  rw [s_has, cn, ← cm]
  by_cases g1 : rg (s 0 3) x
  · rw [bI_t g1, if_neg (by decide)]
    have hr := rg_i.mp g1
    rw [cm, nI_toInt (by omega)] at hr
    have ex := rg_nI g1
    have hil : ix x < c := by have := ixI hr.1; omega
    have hrs : rg (σ 7 2) x := by rw [cn, ← cm]; exact g1
    by_cases g2 : y = 8
    · rw [if_pos g2, ex]
      refine c_isLate (r := 7) cn c4 hil ?_
      have eL : (∃ k, k < ix x ∧ σ (7 + 1) (8 * ix x + 6) < σ (7 + 1) (8 * k + 6)) ↔ (∃ k, k < ix x ∧ s 6 (8 * ix x + 6) < s 6 (8 * k + 6)) := by
        have : ∀ k, k ≤ ix x → σ (7 + 1) (8 * k + 6) = s 6 (8 * k + 6) := fun k hk => cc _ (by omega)
        exact ⟨fun ⟨k, a, b⟩ => ⟨k, a, by rw [← this k (by omega), ← this _ (Nat.le_refl _)]; exact b⟩, fun ⟨k, a, b⟩ => ⟨k, a, by rw [this k (by omega), this _ (Nat.le_refl _)]; exact b⟩⟩
      rw [bI_congr eL, ← ex]
      have M : ∀ v : Int32, v = bI (∃ k, k < ix x ∧ s 6 (8 * ix x + 6) < s 6 (8 * k + 6)) → wp_X6_slipOf s x y (fun r' s' => v = r' ∧ RI n σ s') := by
        intro v ev
        unfold wp_X6_slipOf
        rw [m_isIn0 cb, bI_t g1, if_neg (by decide), m_isIn, bI_t (by rw [g2]; decide), if_neg (by decide), if_neg (by rw [g2]; decide)]
        refine ⟨ix x + 1, ?_⟩
        have := lpMl (s := s) c4 hil (Q := fun r' s' => v = r' ∧ RI n σ s') ⟨ev, h⟩ (ix x + 1) 0 (Nat.zero_le _) (by omega) (fun k hk => absurd hk (Nat.not_lt_zero _))
        rw [← ex] at this
        exact this
      by_cases q : ∃ k, k < ix x ∧ s 6 (8 * ix x + 6) < s 6 (8 * k + 6)
      · rw [bI_t q, if_neg (by decide)]; exact M 1 (by rw [bI_t q])
      · rw [bI_f q, if_pos rfl]; exact M 0 (by rw [bI_f q])
    · rw [if_neg g2]
      by_cases g3 : rg 8 y
      · have hy := rg_i.mp g3
        have hy8 : y.toInt < 8 := hy.2
        rw [s_cell hrs (by rw [cn, nI_toInt (by omega)]; omega) hy.1 hy8]
        unfold wp_X6_slipOf
        dsimp only
        have e1 : ¬ y < 0 ∧ ¬ 8 < y := ⟨g3.1, by rw [ltI, show (8 : Int32).toInt = 8 from rfl]; omega⟩
        rw [m_isIn0 cb, bI_t g1, if_neg (by decide), m_isIn, bI_t e1, if_neg (by decide), if_pos g3.2]
        have hyl := ixI hy.1
        obtain ⟨a1, b1⟩ := idx8 (x := x) hr.1 (by omega) (w := y) (n := ix y) (by omega) (by omega)
        rw [b1]
        exact ⟨a1, cc _ (by omega), h⟩
      · have hbad : wp_X2_cell 7 σ x y (fun y4 σ3 => wp_X6_slipOf s x y (fun r' s' => y4 = r' ∧ RI n σ3 s')) ↔ wp_X6_slipOf s x y (fun r' s' => (-1 : Int32) = r' ∧ RI n σ s') := by
          unfold wp_X2_cell
          rw [s_has, bI_t hrs, if_neg (by decide)]
          by_cases w : y < 0
          · rw [if_pos w]
          · rw [if_neg w, if_neg (fun q => g3 ⟨w, q⟩)]
        rw [hbad]
        unfold wp_X6_slipOf
        rw [m_isIn0 cb, bI_t g1, if_neg (by decide), m_isIn, bI_f (fun q => ?_), if_pos rfl]
        · exact ⟨rfl, h⟩
        · have := q.2
          have q1 := q.1
          have n8 : ¬ y.toInt = 8 := fun e => g2 ((eqI y 8).mpr e)
          rw [ltI, show (8 : Int32).toInt = 8 from rfl] at this
          rw [ltI, t0_] at q1
          exact g3 (rg_i.mpr ⟨by omega, by show y.toInt < 8; omega⟩)
  · rw [bI_f g1, if_pos rfl]
    unfold wp_X6_slipOf
    dsimp only
    rw [m_isIn0 cb, bI_f g1, if_pos rfl]
    exact ⟨rfl, h⟩
end CALLS2
