section KEEP2
variable {s : St} {k t a b c d dy : Int32}
theorem upd_self (f : Nat → Int32) (k : Nat) : upd f k (f k) = f := by
  funext j
  simp only [upd]
  by_cases h : j = k
  · simp [h]
  · simp [h]
theorem SI_tri {s' : St} (h : SI s) (h0 : s' 0 = s 0) (h4 : s' 4 = s 4) (h9 : s' 9 = s 9) (h10 : s' 10 = s 10) (h16 : I_tri s') (h17 : s' 17 = s 17) (h18 : s' 18 = s 18) : SI s' := by
  have e : SI (up2 s' 16 0 (s' 16 0)) → True := fun _ => trivial
  obtain ⟨hK, i1, i2, i3, i4, i5, i6, i7, i8, i9⟩ := h
  refine ⟨?_, ?_, ?_, ?_, ?_, ?_, ?_, h16, ?_, ?_⟩
  · unfold SK at hK ⊢; rw [h0, h4]; exact hK
  · unfold I_how at i1 ⊢; rw [h9]; exact i1
  · unfold I_th at i2 ⊢; rw [h9, h0]; exact i2
  · unfold I_was at i3 ⊢; rw [h9, h18]; exact i3
  · unfold I_bag upx at i4 ⊢; rw [h9, h10, h0]; exact i4
  · unfold I_dep upx at i5 ⊢; rw [h9, h10]; exact i5
  · unfold I_of at i6 ⊢; rw [h9, h17, h0]; exact i6
  · unfold I_pl at i8 ⊢; rw [h9, h10]; exact i8
  · unfold I_un at i9 ⊢; rw [h9, h10]; exact i9
theorem neg_bit (x : Int32) : x < 0 ↔ x.toBitVec.getLsbD 31 = true := by
  rw [ltI, t0_]
  have e : x.toInt = x.toBitVec.toInt := rfl
  rw [e, show x.toBitVec.getLsbD 31 = x.toBitVec.msb from (BitVec.msb_eq_getLsbD_last _).symm, BitVec.msb_eq_toInt]
  simp

set_option maxHeartbeats 1000000 in
theorem SI_dE (hS : SI s) (h : dC s k t a b c d dy) : SI (dE s k t a c d) := by
  have h' := h
  obtain ⟨ht, hk0, h3⟩ := h
  rcases h3 with ⟨e, q⟩ | ⟨e, q⟩ | ⟨e, q⟩ | ⟨e, q⟩ | ⟨e, q⟩ | ⟨e, q⟩ | ⟨e, q⟩ | ⟨e, q⟩ | ⟨e, q⟩ | ⟨e, q⟩ | ⟨e, q⟩ | ⟨e, q⟩ | ⟨e, q⟩ | ⟨e, q⟩ | e | ⟨e, q⟩ | ⟨e, q⟩ | ⟨e, q⟩ | ⟨e, q⟩
  · subst e
    rw [dE_1]
    have e : s 17 (ix t) = -1 := by obtain ⟨o, o1, o2, o3⟩ := hS.2.2.2.2.2.2.1; exact o3 _ (th_lt hS.1 ht).1 q.1
    have e2 : s 17 = upd (s 17) (ix t) (-1) := by rw [← e, upd_self]
    exact SI_new hS (x := t) (u := 1) (w := c) (v := -1) ht q.1 (Or.inl rfl) (fun _ => q.2.2.2.2.2.1) (Or.inl rfl) (by simp [mvE, up2_at]) (by simp [mvE, up2_at]) (by simp [mvE, up2_at]) (by simp [mvE, up2_at]) (by simp [mvE, up2_at]) (by simp only [mvE, up2_at]; simpa using e2) (by simp [mvE, up2_at])
  · subst e
    have hk : kpt s t := hk0.resolve_left (by decide)
    rw [dE_2]
    exact SI_mv hS (x := t) (u := 2) (w := c) ht hk (Or.inr (Or.inl rfl)) (fun e => absurd e (by decide)) (fun e => absurd e (by decide)) (fun e => absurd e (by decide)) (by simp [mvE, up2_at]) (by simp [mvE, up2_at]) (by simp [mvE, up2_at]) (by simp [mvE, up2_at]) (by simp [mvE, up2_at]) (by simp [mvE, up2_at]) (by simp [mvE, up2_at])
  · subst e
    have hk : kpt s t := hk0.resolve_left (by decide)
    rw [dE_3]
    exact SI_mv hS (x := t) (u := 2) (w := d) ht hk (Or.inr (Or.inl rfl)) (fun e => absurd e (by decide)) (fun e => absurd e (by decide)) (fun e => absurd e (by decide)) (by simp [mvE, up2_at]) (by simp [mvE, up2_at]) (by simp [mvE, up2_at]) (by simp [mvE, up2_at]) (by simp [mvE, up2_at]) (by simp [mvE, up2_at]) (by simp [mvE, up2_at])
  · subst e
    have hk : kpt s t := hk0.resolve_left (by decide)
    rw [dE_4]
    exact SI_mv hS (x := t) (u := 1) (w := c) ht hk (Or.inl rfl) (fun _ => q.2.2.1) (fun e => absurd e (by decide)) (fun e => absurd e (by decide)) (by simp [mvE, up2_at]) (by simp [mvE, up2_at]) (by simp [mvE, up2_at]) (by simp [mvE, up2_at]) (by simp [mvE, up2_at]) (by simp [mvE, up2_at]) (by simp [mvE, up2_at])
  · subst e
    have hk : kpt s t := hk0.resolve_left (by decide)
    rw [dE_5]
    exact SI_mv hS (x := t) (u := 1) (w := c) ht hk (Or.inl rfl) (fun _ => q.2.2.1) (fun e => absurd e (by decide)) (fun e => absurd e (by decide)) (by simp [mvE, up2_at]) (by simp [mvE, up2_at]) (by simp [mvE, up2_at]) (by simp [mvE, up2_at]) (by simp [mvE, up2_at]) (by simp [mvE, up2_at]) (by simp [mvE, up2_at])
  · subst e
    have hk : kpt s t := hk0.resolve_left (by decide)
    rw [dE_6]
    obtain ⟨c1, c2, c3, c4, c5, c6, c7, c8⟩ := q
    have hc : s 9 (ix c) = 1 ∨ s 9 (ix c) = 2 := by rcases c5 with q | q; exact Or.inl q.2; exact Or.inr q.1
    have hh : s 9 (ix t) = 1 ∨ s 9 (ix t) = 2 := by rcases c5 with q | q; exact Or.inl q.1; exact Or.inr q.2.1
    exact SI_mv hS (x := t) (u := 3) (w := c) ht hk (Or.inr (Or.inr (Or.inl rfl))) (fun e => absurd e (by decide)) (fun _ => ⟨c1.1, c3, hc, hh, c8⟩) (fun e => absurd e (by decide)) (by simp [mvE, up2_at]) (by simp [mvE, up2_at]) (by simp [mvE, up2_at]) (by simp [mvE, up2_at]) (by simp [mvE, up2_at]) (by simp [mvE, up2_at]) (by simp [mvE, up2_at])
  · subst e
    have hk : kpt s t := hk0.resolve_left (by decide)
    rw [dE_7]
    by_cases g : s 9 (upx s (ix t)) = 2
    · rw [if_pos g]
      exact SI_mv hS (x := t) (u := 2) (w := s 10 (upx s (ix t))) ht hk (Or.inr (Or.inl rfl)) (fun e => absurd e (by decide)) (fun e => absurd e (by decide)) (fun e => absurd e (by decide)) (by simp [mvE, up2_at]) (by simp [mvE, up2_at]) (by simp [mvE, up2_at]) (by simp [mvE, up2_at]) (by simp [mvE, up2_at]) (by simp [mvE, up2_at]) (by simp [mvE, up2_at])
    · rw [if_neg g]
      exact SI_mv hS (x := t) (u := 1) (w := c) ht hk (Or.inl rfl) (fun _ => (q.2.2.2.resolve_left g).2.1) (fun e => absurd e (by decide)) (fun e => absurd e (by decide)) (by simp [mvE, up2_at]) (by simp [mvE, up2_at]) (by simp [mvE, up2_at]) (by simp [mvE, up2_at]) (by simp [mvE, up2_at]) (by simp [mvE, up2_at]) (by simp [mvE, up2_at])
  · subst e
    have hk : kpt s t := hk0.resolve_left (by decide)
    rw [dE_8]
    exact SI_same hS (by simp [up2_at]) (by simp [up2_at]) (by simp [up2_at]) (by simp [up2_at]) (by simp [up2_at]) (by simp [up2_at]) (by simp [up2_at])
  · subst e
    have hk : kpt s t := hk0.resolve_left (by decide)
    rw [dE_9]
    exact SI_same hS (by simp [up2_at]) (by simp [up2_at]) (by simp [up2_at]) (by simp [up2_at]) (by simp [up2_at]) (by simp [up2_at]) (by simp [up2_at])
  · subst e
    have hk : kpt s t := hk0.resolve_left (by decide)
    rw [dE_10]
    exact hS
  · subst e
    have hk : kpt s t := hk0.resolve_left (by decide)
    rw [dE_11]
    obtain ⟨⟨c1, c2, c3, c4⟩, c5, c6⟩ := q
    exact SI_new hS (x := c) (u := 2) (w := a) (v := t) c1.1 c2 (Or.inr rfl) (fun e => absurd e (by decide)) (Or.inr ⟨ht, (show ¬ s 9 (ix t) = 0 by rcases hk with z | z | z <;> (rw [z]; decide))⟩) (by simp [mvE, up2_at]) (by simp [mvE, up2_at]) (by simp [mvE, up2_at]) (by simp [mvE, up2_at]) (by simp [mvE, up2_at]) (by simp [mvE, up2_at]) (by simp [mvE, up2_at])
  · subst e
    have hk : kpt s t := hk0.resolve_left (by decide)
    rw [dE_12]
    obtain ⟨c1, c2, c3, c4⟩ := q
    exact SI_new hS (x := c) (u := 2) (w := a) (v := t) c1.1 c2 (Or.inr rfl) (fun e => absurd e (by decide)) (Or.inr ⟨ht, (show ¬ s 9 (ix t) = 0 by rcases hk with z | z | z <;> (rw [z]; decide))⟩) (by simp [mvE, up2_at]) (by simp [mvE, up2_at]) (by simp [mvE, up2_at]) (by simp [mvE, up2_at]) (by simp [mvE, up2_at]) (by simp [mvE, up2_at]) (by simp [mvE, up2_at])
  · subst e
    have hk : kpt s t := hk0.resolve_left (by decide)
    rw [dE_13]
    exact SI_same hS (by simp [up2_at]) (by simp [up2_at]) (by simp [up2_at]) (by simp [up2_at]) (by simp [up2_at]) (by simp [up2_at]) (by simp [up2_at])
  · subst e
    have hk : kpt s t := hk0.resolve_left (by decide)
    rw [dE_14]
    exact SI_same hS (by simp [up2_at]) (by simp [up2_at]) (by simp [up2_at]) (by simp [up2_at]) (by simp [up2_at]) (by simp [up2_at]) (by simp [up2_at])
  · subst e
    have hk : kpt s t := hk0.resolve_left (by decide)
    rw [dE_15]
    exact SI_same hS (by simp [up2_at]) (by simp [up2_at]) (by simp [up2_at]) (by simp [up2_at]) (by simp [up2_at]) (by simp [up2_at]) (by simp [up2_at])
  · subst e
    have hk : kpt s t := hk0.resolve_left (by decide)
    rw [dE_16]
    refine SI_tri hS (by simp [up2_at]) (by simp [up2_at]) (by simp [up2_at]) (by simp [up2_at]) (fun y hy => ?_) (by simp [up2_at]) (by simp [up2_at])
    rw [up2_eq]
    by_cases e : y = ix t
    · subst e
      rw [upd_s]
      have h0 := hS.2.2.2.2.2.2.2.1 _ hy
      have hl : c = nI (ix c) ∧ ix c < 31 := by
        have h0 : 0 ≤ c.toInt := by have := q.1.1; rw [ltI, t0_] at this; omega
        have h9 : c.toInt ≤ 30 := by have := q.1.2; rw [ltI, show (30 : Int32).toInt = 30 from rfl] at this; omega
        have := ixI h0
        exact ⟨z_of h0, by omega⟩
      rw [neg_bit] at h0 ⊢
      rw [Int32.toBitVec_xor, hl.1, sh1 _ (by omega)]
      simp only [BitVec.getLsbD_xor, BitVec.getLsbD_twoPow]
      have e31 : ¬ ix c = 31 := by omega
      simpa [e31] using h0
    · rw [upd_n _ _ e]; exact hS.2.2.2.2.2.2.2.1 y hy
  · subst e
    have hk : kpt s t := hk0.resolve_left (by decide)
    rw [dE_17]
    refine SI_tri hS (by simp [up2_at]) (by simp [up2_at]) (by simp [up2_at]) (by simp [up2_at]) (fun y hy => ?_) (by simp [up2_at]) (by simp [up2_at])
    rw [up2_eq]
    by_cases e : y = ix t
    · subst e
      rw [upd_s]
      have h0 := hS.2.2.2.2.2.2.2.1 _ hy
      have hl : c = nI (ix c) ∧ ix c < 31 := by
        have h0 : 0 ≤ c.toInt := by have := q.1.1; rw [ltI, t0_] at this; omega
        have h9 : c.toInt ≤ 30 := by have := q.1.2; rw [ltI, show (30 : Int32).toInt = 30 from rfl] at this; omega
        have := ixI h0
        exact ⟨z_of h0, by omega⟩
      rw [neg_bit] at h0 ⊢
      rw [Int32.toBitVec_xor, hl.1, sh1 _ (by omega)]
      simp only [BitVec.getLsbD_xor, BitVec.getLsbD_twoPow]
      have e31 : ¬ ix c = 31 := by omega
      simpa [e31] using h0
    · rw [upd_n _ _ e]; exact hS.2.2.2.2.2.2.2.1 y hy
  · subst e
    have hk : kpt s t := hk0.resolve_left (by decide)
    rw [dE_18]
    exact SI_mv hS (x := t) (u := 4) (w := -1) ht hk (Or.inr (Or.inr (Or.inr rfl))) (fun e => absurd e (by decide)) (fun e => absurd e (by decide)) (fun _ => q.2.2.2.2.2.2.2.2.1) (by simp [mvE, up2_at]) (by simp [mvE, up2_at]) (by simp [mvE, up2_at]) (by simp [mvE, up2_at]) (by simp [mvE, up2_at]) (by simp [mvE, up2_at]) (by simp [mvE, up2_at])
  · subst e
    have hk : kpt s t := hk0.resolve_left (by decide)
    rw [dE_19]
    by_cases g : d = -1
    · rw [if_pos g]
      have hf : fts s t c := by
        rcases q with q | q
        · exact q.2
        · exact absurd q.2.1 (by rw [g]; exact not_rg_m1 _)
      exact SI_mv hS (x := t) (u := 1) (w := c) ht hk (Or.inl rfl) (fun _ => hf.1) (fun e => absurd e (by decide)) (fun e => absurd e (by decide)) (by simp [mvE, up2_at]) (by simp [mvE, up2_at]) (by simp [mvE, up2_at]) (by simp [mvE, up2_at]) (by simp [mvE, up2_at]) (by simp [mvE, up2_at]) (by simp [mvE, up2_at])
    · rw [if_neg g]
      exact SI_mv hS (x := t) (u := 2) (w := d) ht hk (Or.inr (Or.inl rfl)) (fun e => absurd e (by decide)) (fun e => absurd e (by decide)) (fun e => absurd e (by decide)) (by simp [mvE, up2_at]) (by simp [mvE, up2_at]) (by simp [mvE, up2_at]) (by simp [mvE, up2_at]) (by simp [mvE, up2_at]) (by simp [mvE, up2_at]) (by simp [mvE, up2_at])

end KEEP2
