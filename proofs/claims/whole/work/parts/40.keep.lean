section KEEP
variable {s s' : St}
theorem SI_same (h : SI s) (h0 : s' 0 = s 0) (h4 : s' 4 = s 4) (h9 : s' 9 = s 9) (h10 : s' 10 = s 10) (h16 : s' 16 = s 16) (h17 : s' 17 = s 17) (h18 : s' 18 = s 18) : SI s' := by
  unfold SI SK I_how I_th I_was I_bag I_dep I_of I_tri I_pl I_un upx at h ⊢
  rw [h0, h4, h9, h10, h16, h17, h18]
  exact h
theorem upN_step {n x y : Nat} (h : upN s (n + 1) x y) : s 9 x = 3 ∧ upN s n (upx s x) y := h
/-- x is in y, however deep, or is y -/
def wi (s : St) (x y : Nat) : Prop := ∃ n, upN s n x y
theorem wi_up {x y : Nat} (hne : x ≠ y) (h3 : s 9 x = 3) : wi s x y ↔ wi s (upx s x) y := by
  constructor
  · rintro ⟨n, h⟩
    cases n with
    | zero => exact absurd h hne
    | succ n => exact ⟨n, h.2⟩
  · rintro ⟨n, h⟩
    exact ⟨n + 1, h3, h⟩
theorem wi_no {x y : Nat} (hne : x ≠ y) (h3 : ¬ s 9 x = 3) : ¬ wi s x y := by
  rintro ⟨n, h⟩
  cases n with
  | zero => exact hne h
  | succ n => exact h3 h.1
theorem wi_dep {dp : Nat → Nat} (hb : I_bag s) (hK : SK s) (hd : ∀ x, x < 60 → dp x ≤ 4 ∧ (s 9 x = 3 → dp x = dp (upx s x) + 1) ∧ (¬ s 9 x = 3 → dp x = 0)) : ∀ (n x y : Nat), x < 60 → upN s n x y → dp x = dp y + n := by
  intro n
  induction n with
  | zero => intro x y _ h; rw [show x = y from h]; rfl
  | succ n ih =>
    intro x y hx h
    have h1 := (hd x hx).2.1 h.1
    have h2 := ih (upx s x) y (th_lt hK (hb x hx h.1).1).1 h.2
    omega
set_option maxHeartbeats 1000000 in
/-- a thing that is KEPT goes elsewhere -/
theorem SI_mv (h : SI s) {x u w : Int32} (hx : rg (s 0 2) x) (hk : s 9 (ix x) = 1 ∨ s 9 (ix x) = 2 ∨ s 9 (ix x) = 3) (hu : u = 1 ∨ u = 2 ∨ u = 3 ∨ u = 4) (h1 : u = 1 → emp s w) (h3 : u = 3 → rg (s 0 2) w ∧ ¬ w = x ∧ (s 9 (ix w) = 1 ∨ s 9 (ix w) = 2) ∧ (s 9 (ix x) = 1 ∨ s 9 (ix x) = 2) ∧ dpO s x) (h4 : u = 4 → cnB s x = 0) (g0 : s' 0 = s 0) (g4 : s' 4 = s 4) (g9 : s' 9 = upd (s 9) (ix x) u) (g10 : s' 10 = upd (s 10) (ix x) w) (g16 : s' 16 = s 16) (g17 : s' 17 = s 17) (g18 : s' 18 = s 18) : SI s' := by
  obtain ⟨hK, i1, i2, i3, i4, i5, i6, i7, i8, i9⟩ := h
  have hl := (th_lt hK hx).1
  have hk0 : ¬ s 9 (ix x) = 0 := by rcases hk with k | k | k <;> (rw [k]; decide)
  have hu0 : ¬ u = 0 := by rcases hu with k | k | k | k <;> (rw [k]; decide)
  have a9 : s' 9 (ix x) = u := by rw [g9, upd_s]
  have b9 : ∀ y, y ≠ ix x → s' 9 y = s 9 y := fun y h => by rw [g9, upd_n _ _ h]
  have a10 : s' 10 (ix x) = w := by rw [g10, upd_s]
  have b10 : ∀ y, y ≠ ix x → s' 10 y = s 10 y := fun y h => by rw [g10, upd_n _ _ h]
  have z9 : ∀ y, (s' 9 y = 0) = (s 9 y = 0) := fun y => by
    by_cases e : y = ix x
    · subst e; rw [a9]; exact propext ⟨fun k => absurd k hu0, fun k => absurd k hk0⟩
    · rw [b9 y e]
  refine ⟨?_, ?_, ?_, ?_, ?_, ?_, ?_, ?_, ?_, ?_⟩
  · unfold SK; rw [g0, g4]; exact hK
  · intro y hy
    by_cases e : y = ix x
    · subst e; rw [a9]; rcases hu with k | k | k | k <;> simp [k]
    · rw [b9 y e]; exact i1 y hy
  · intro y hy hq
    rw [z9] at hq
    rw [g0]; exact i2 y hy hq
  · intro y hy
    rw [g18, i3 y hy]
    by_cases e : s 9 y = 0
    · have e' : s' 9 y = 0 := by rw [z9]; exact e
      rw [if_pos e, if_pos e']
    · have e' : ¬ s' 9 y = 0 := by rw [z9]; exact e
      rw [if_neg e, if_neg e']
  · intro y hy hq
    rw [g0]
    by_cases e : y = ix x
    · subst e
      rw [a9] at hq
      obtain ⟨k1, k2, k3, -⟩ := h3 hq
      unfold upx
      rw [a10]
      refine ⟨k1, ?_⟩
      have hne : ix w ≠ ix x := fun e => k2 (by rw [rg_nI k1, rg_nI hx, e])
      rw [b9 _ hne]
      rcases k3 with k | k
      · exact Or.inl k
      · exact Or.inr (Or.inl k)
    · rw [b9 y e] at hq
      unfold upx
      rw [b10 y e]
      have := i4 y hy hq
      refine ⟨this.1, ?_⟩
      by_cases e2 : ix (s 10 y) = ix x
      · rw [e2, a9]
        rcases hu with k | k | k | k
        · exact Or.inl k
        · exact Or.inr (Or.inl k)
        · exact Or.inr (Or.inr k)
        · have hz := h4 k
          unfold cnB at hz
          rw [cntP_zero] at hz
          exact absurd ⟨hq, by rw [rg_nI this.1, rg_nI hx, e2]⟩ (hz y hy)
      · rw [b9 _ e2]; exact this.2
  · obtain ⟨dp, hd⟩ := i5
    have wd := wi_dep i4 hK hd
    have upe : ∀ y, y ≠ ix x → upx s' y = upx s y := fun y e => by unfold upx; rw [b10 y e]
    by_cases e3 : u = 3
    · obtain ⟨k1, k2, k3, k4, k5⟩ := h3 e3
      have dx : dp (ix x) = 0 := (hd _ hl).2.2 (by rcases k4 with k | k <;> (rw [k]; decide))
      have hne : ix w ≠ ix x := fun e => k2 (by rw [rg_nI k1, rg_nI hx, e])
      have hw3 : ¬ s 9 (ix w) = 3 := by rcases k3 with k | k <;> (rw [k]; decide)
      refine ⟨fun y => @ite _ (wi s y (ix x)) (Classical.propDecidable _) (dp y + 1) (dp y), fun y hy => ?_⟩
      have q1 : wi s y (ix x) → dp y ≤ 3 := by
        rintro ⟨n, hn⟩
        have e1 := wd n y _ hy hn
        have e2 := (hd y hy).1
        have e4 : n ≠ 4 := fun e => k5 y hy (by rw [← e]; exact hn)
        omega
      refine ⟨?_, fun hq => ?_, fun hq => ?_⟩
      · by_cases e : wi s y (ix x)
        · simp only [e, if_true]; have := q1 e; omega
        · simp only [e, if_false]; exact (hd y hy).1
      · by_cases e : y = ix x
        · subst e
          have e1 : wi s (ix x) (ix x) := ⟨0, rfl⟩
          have e2 : ¬ wi s (upx s' (ix x)) (ix x) := by unfold upx; rw [a10]; exact wi_no hne hw3
          have e4 : dp (upx s' (ix x)) = 0 := by unfold upx; rw [a10]; exact (hd _ (th_lt hK k1).1).2.2 hw3
          simp only [e1, e2, if_true, if_false]
          omega
        · rw [b9 y e] at hq
          rw [upe y e]
          have e1 := (hd y hy).2.1 hq
          have e2 := propext (wi_up (s := s) e hq)
          by_cases e5 : wi s (upx s y) (ix x)
          · have e6 : wi s y (ix x) := by rw [e2]; exact e5
            simp only [e5, e6, if_true]; omega
          · have e6 : ¬ wi s y (ix x) := by rw [e2]; exact e5
            simp only [e5, e6, if_false]; omega
      · by_cases e : y = ix x
        · subst e; rw [a9] at hq; exact absurd e3 hq
        · rw [b9 y e] at hq
          have e6 := wi_no (s := s) e hq
          simp only [e6, if_false]
          exact (hd y hy).2.2 hq
    · refine ⟨fun y => @ite _ (wi s y (ix x)) (Classical.propDecidable _) (dp y - dp (ix x)) (dp y), fun y hy => ?_⟩
      have q1 : wi s y (ix x) → dp (ix x) ≤ dp y := by
        rintro ⟨n, hn⟩
        have e1 := wd n y _ hy hn
        omega
      have d4 := (hd y hy).1
      refine ⟨?_, fun hq => ?_, fun hq => ?_⟩
      · by_cases e : wi s y (ix x)
        · simp only [e, if_true]; omega
        · simp only [e, if_false]; exact d4
      · by_cases e : y = ix x
        · subst e; rw [a9] at hq; exact absurd hq e3
        · rw [b9 y e] at hq
          rw [upe y e]
          have e1 := (hd y hy).2.1 hq
          have e2 := propext (wi_up (s := s) e hq)
          by_cases e5 : wi s (upx s y) (ix x)
          · have e6 : wi s y (ix x) := by rw [e2]; exact e5
            obtain ⟨n, hn⟩ := e5
            have e7 : dp (upx s y) = dp (ix x) + n := wd n _ _ (th_lt hK (i4 y hy hq).1).1 hn
            have e5 : wi s (upx s y) (ix x) := ⟨n, hn⟩
            simp only [e5, e6, if_true]
            omega
          · have e6 : ¬ wi s y (ix x) := by rw [e2]; exact e5
            simp only [e5, e6, if_false]; omega
      · by_cases e : y = ix x
        · subst e
          have e1 : wi s (ix x) (ix x) := ⟨0, rfl⟩
          simp only [e1, if_true]; omega
        · rw [b9 y e] at hq
          have e6 := wi_no (s := s) e hq
          simp only [e6, if_false]
          exact (hd y hy).2.2 hq
  · obtain ⟨o, o1, o2, o3⟩ := i6
    refine ⟨o, fun y hy hq => ?_, fun y hy hq => ?_, fun y hy hq => ?_⟩
    · rw [g17] at hq ⊢
      rw [g0, z9]
      exact o1 y hy hq
    · rw [z9] at hq
      simp only [z9]
      exact o2 y hy hq
    · rw [z9] at hq
      rw [g17]; exact o3 y hy hq
  · intro y hy; rw [g16]; exact i7 y hy
  · intro y hy hq
    by_cases e : y = ix x
    · subst e
      rw [a9] at hq
      rw [a10]
      exact pl_96 hK.2.1 (h1 hq).1
    · rw [b9 y e] at hq
      rw [b10 y e]; exact i8 y hy hq
  · intro y z hy hz q1 q2 q3
    by_cases e : y = ix x
    · by_cases e2 : z = ix x
      · rw [e, e2]
      · rw [e, a9] at q1
        rw [b9 z e2] at q2
        rw [e, a10, b10 z e2] at q3
        exact absurd ⟨q2, q3.symm⟩ ((h1 q1).2 z hz)
    · by_cases e2 : z = ix x
      · rw [e2, a9] at q2
        rw [b9 y e] at q1
        rw [e2, a10, b10 y e] at q3
        exact absurd ⟨q1, q3⟩ ((h1 q2).2 y hy)
      · rw [b9 y e] at q1
        rw [b9 z e2] at q2
        rw [b10 y e, b10 z e2] at q3
        exact i9 y z hy hz q1 q2 q3
set_option maxHeartbeats 1000000 in
/-- a thing comes that never was KEPT -/
theorem SI_new (h : SI s) {x u w v : Int32} (hx : rg (s 0 2) x) (hk : s 9 (ix x) = 0) (hu : u = 1 ∨ u = 2) (h1 : u = 1 → emp s w) (hv : v = -1 ∨ (rg (s 0 2) v ∧ ¬ s 9 (ix v) = 0)) (g0 : s' 0 = s 0) (g4 : s' 4 = s 4) (g9 : s' 9 = upd (s 9) (ix x) u) (g10 : s' 10 = upd (s 10) (ix x) w) (g16 : s' 16 = s 16) (g17 : s' 17 = upd (s 17) (ix x) v) (g18 : s' 18 = upd (s 18) (ix x) 1) : SI s' := by
  obtain ⟨hK, i1, i2, i3, i4, i5, i6, i7, i8, i9⟩ := h
  have hl := (th_lt hK hx).1
  have hu0 : ¬ u = 0 := by rcases hu with k | k <;> (rw [k]; decide)
  have hu3 : ¬ u = 3 := by rcases hu with k | k <;> (rw [k]; decide)
  have a9 : s' 9 (ix x) = u := by rw [g9, upd_s]
  have b9 : ∀ y, y ≠ ix x → s' 9 y = s 9 y := fun y h => by rw [g9, upd_n _ _ h]
  have a10 : s' 10 (ix x) = w := by rw [g10, upd_s]
  have b10 : ∀ y, y ≠ ix x → s' 10 y = s 10 y := fun y h => by rw [g10, upd_n _ _ h]
  refine ⟨?_, ?_, ?_, ?_, ?_, ?_, ?_, ?_, ?_, ?_⟩
  · unfold SK; rw [g0, g4]; exact hK
  · intro y hy
    by_cases e : y = ix x
    · subst e; rw [a9]; rcases hu with k | k <;> simp [k]
    · rw [b9 y e]; exact i1 y hy
  · intro y hy hq
    rw [g0]
    by_cases e : y = ix x
    · subst e
      have := rg_i.mp hx
      have := ixI this.1
      omega
    · rw [b9 y e] at hq; exact i2 y hy hq
  · intro y hy
    by_cases e : y = ix x
    · subst e; rw [g18, upd_s, a9, if_neg hu0]
    · rw [g18, upd_n _ _ e, b9 y e]; exact i3 y hy
  · intro y hy hq
    rw [g0]
    by_cases e : y = ix x
    · subst e; rw [a9] at hq; exact absurd hq hu3
    · rw [b9 y e] at hq
      unfold upx
      rw [b10 y e]
      have := i4 y hy hq
      refine ⟨this.1, ?_⟩
      have e2 : ix (s 10 y) ≠ ix x := by
        intro e2
        have q := this.2
        unfold upx at q
        rw [e2, hk] at q
        rcases q with q | q | q <;> exact absurd q (by decide)
      rw [b9 _ e2]; exact this.2
  · obtain ⟨dp, hd⟩ := i5
    refine ⟨dp, fun y hy => ⟨(hd y hy).1, fun hq => ?_, fun hq => ?_⟩⟩
    · by_cases e : y = ix x
      · subst e; rw [a9] at hq; exact absurd hq hu3
      · rw [b9 y e] at hq
        unfold upx
        rw [b10 y e]; exact (hd y hy).2.1 hq
    · by_cases e : y = ix x
      · subst e; exact (hd _ hy).2.2 (by rw [hk]; decide)
      · rw [b9 y e] at hq; exact (hd y hy).2.2 hq
  · obtain ⟨o, o1, o2, o3⟩ := i6
    have hcn : cntP (fun y => ¬ s' 9 y = 0) 60 = cntP (fun y => ¬ s 9 y = 0) 60 + 1 := cntP_add (x := ix x) hl (by rw [a9]; exact hu0) (fun q => q hk) (fun y _ e => by rw [b9 y e])
    refine ⟨fun y => if y = ix x then cntP (fun y => ¬ s 9 y = 0) 60 else o y, fun y hy hq => ?_, fun y hy hq => ?_, fun y hy hq => ?_⟩
    · rw [g0]
      by_cases e : y = ix x
      · subst e
        rw [g17, upd_s] at hq ⊢
        obtain ⟨k1, k2⟩ := hv.resolve_left hq
        have hne : ix v ≠ ix x := fun e => k2 (by rw [e]; exact hk)
        refine ⟨k1, by rw [b9 _ hne]; exact k2, ?_⟩
        simp only [hne, if_true, if_false]
        exact o2 _ (th_lt hK k1).1 k2
      · rw [g17, upd_n _ _ e] at hq ⊢
        obtain ⟨k1, k2, k3⟩ := o1 y hy hq
        have hne : ix (s 17 y) ≠ ix x := fun e => k2 (by rw [e]; exact hk)
        refine ⟨k1, by rw [b9 _ hne]; exact k2, ?_⟩
        simp only [hne, e, if_false]
        exact k3
    · rw [hcn]
      by_cases e : y = ix x
      · simp only [e, if_true]; omega
      · rw [b9 y e] at hq
        simp only [e, if_false]
        have := o2 y hy hq
        omega
    · by_cases e : y = ix x
      · subst e; rw [a9] at hq; exact absurd hq hu0
      · rw [b9 y e] at hq
        rw [g17, upd_n _ _ e]; exact o3 y hy hq
  · intro y hy; rw [g16]; exact i7 y hy
  · intro y hy hq
    by_cases e : y = ix x
    · subst e
      rw [a9] at hq
      rw [a10]
      exact pl_96 hK.2.1 (h1 hq).1
    · rw [b9 y e] at hq
      rw [b10 y e]; exact i8 y hy hq
  · intro y z hy hz q1 q2 q3
    by_cases e : y = ix x
    · by_cases e2 : z = ix x
      · rw [e, e2]
      · rw [e, a9] at q1
        rw [b9 z e2] at q2
        rw [e, a10, b10 z e2] at q3
        exact absurd ⟨q2, q3.symm⟩ ((h1 q1).2 z hz)
    · by_cases e2 : z = ix x
      · rw [e2, a9] at q2
        rw [b9 y e] at q1
        rw [e2, a10, b10 y e] at q3
        exact absurd ⟨q1, q3⟩ ((h1 q2).2 y hy)
      · rw [b9 y e] at q1
        rw [b9 z e2] at q2
        rw [b10 y e, b10 z e2] at q3
        exact i9 y z hy hz q1 q2 q3
end KEEP
