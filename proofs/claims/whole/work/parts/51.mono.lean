/-! rows' ends; what stays done when the stock grows -/
def TA (s s' : St) : Prop := (∀ k, 9 ≤ k → k ≤ 18 → ∀ j, 60 ≤ j → s' k j = s k j) ∧ ∀ j, 600 ≤ j → s' 19 j = s 19 j
section TAIL
variable {s s1 s2 : St}
theorem TA.rf : TA s s := ⟨fun _ _ _ _ _ => rfl, fun _ _ => rfl⟩
theorem TA.tr (h : TA s s1) (h2 : TA s1 s2) : TA s s2 := ⟨fun k a b j hj => (h2.1 k a b j hj).trans (h.1 k a b j hj), fun j hj => (h2.2 j hj).trans (h.2 j hj)⟩
theorem TA.up (h : TA s s1) {k j : Nat} {v : Int32} (hj : j < 60 ∨ (k = 19 ∧ j < 600)) : TA s (up2 s1 k j v) := by
  refine ⟨fun q a b i hi => ?_, fun i hi => ?_⟩
  · by_cases e : q = k
    · subst e; rw [up2_eq, upd_n _ _ (by omega)]; exact h.1 q a b i hi
    · rw [up2_ne e]; exact h.1 q a b i hi
  · by_cases e : k = 19
    · subst e; rw [up2_eq, upd_n _ _ (by omega)]; exact h.2 i hi
    · rw [up2_ne (Ne.symm e)]; exact h.2 i hi
theorem TA.mv (h : TA s s1) {x u w : Int32} (hx : ix x < 60) : TA s (mvE s1 x u w) := (h.up (Or.inl hx)).up (Or.inl hx)
theorem TA_ite {a b : St} {c : Prop} {i : Decidable c} (h1 : TA s a) (h2 : TA s b) : TA s (@ite _ c i a b) := by
  by_cases h : c
  · rw [if_pos h]; exact h1
  · rw [if_neg h]; exact h2
theorem TA.same (h : ∀ k, 9 ≤ k → k ≤ 19 → s1 k = s k) : TA s s1 := ⟨fun k a b j _ => by rw [h k a (by omega)], fun j _ => by rw [h 19 (by decide) (by decide)]⟩
theorem TA_dE (hK : SK s) {k t a b c d dy : Int32} (h : dC s k t a b c d dy) : TA s (dE s k t a c d) := by
  obtain ⟨ht, -, h3⟩ := h
  have hl := (th_lt hK ht).1
  have h8 : k = 8 → ix c < 600 := by
    intro e
    rcases h3 with ⟨e', q⟩ | ⟨e', q⟩ | ⟨e', q⟩ | ⟨e', q⟩ | ⟨e', q⟩ | ⟨e', q⟩ | ⟨e', q⟩ | ⟨e', q⟩ | ⟨e', q⟩ | ⟨e', q⟩ | ⟨e', q⟩ | ⟨e', q⟩ | ⟨e', q⟩ | ⟨e', q⟩ | e' | ⟨e', q⟩ | ⟨e', q⟩ | ⟨e', q⟩ | ⟨e', q⟩
    case inr.inr.inr.inr.inr.inr.inr.inl => exact rg_lt q.2.2.1.1 (by decide)
    all_goals (rw [e] at e'; exact absurd e' (by decide))
  have h11 : k = 11 ∨ k = 12 → ix c < 60 := by
    intro e
    rcases h3 with ⟨e', q⟩ | ⟨e', q⟩ | ⟨e', q⟩ | ⟨e', q⟩ | ⟨e', q⟩ | ⟨e', q⟩ | ⟨e', q⟩ | ⟨e', q⟩ | ⟨e', q⟩ | ⟨e', q⟩ | ⟨e', q⟩ | ⟨e', q⟩ | ⟨e', q⟩ | ⟨e', q⟩ | e' | ⟨e', q⟩ | ⟨e', q⟩ | ⟨e', q⟩ | ⟨e', q⟩
    case inr.inr.inr.inr.inr.inr.inr.inr.inr.inr.inl => exact (th_lt hK q.1.1.1).1
    case inr.inr.inr.inr.inr.inr.inr.inr.inr.inr.inr.inl => exact (th_lt hK q.1.1).1
    all_goals (rcases e with e | e <;> (rw [e] at e'; exact absurd e' (by decide)))
  unfold dE
  by_cases e8 : k = 8
  · subst e8
    exact (TA.rf.up (Or.inl hl)).up (Or.inr ⟨rfl, h8 rfl⟩)
  by_cases e11 : k = 11
  · subst e11
    have := h11 (Or.inl rfl)
    exact ((((TA.rf.up (k := 18) (Or.inl this)).up (k := 17) (Or.inl this)).mv this).up (Or.inl this)).up (Or.inl hl)
  by_cases e12 : k = 12
  · subst e12
    have := h11 (Or.inr rfl)
    exact ((TA.rf.up (k := 18) (Or.inl this)).up (k := 17) (Or.inl this)).mv this
  simp only [e8, e11, e12, if_false]
  repeat' (first | exact TA.rf | apply TA_ite | refine TA.mv ?_ hl | refine TA.up ?_ (Or.inl hl))
theorem TA_beg (s : St) : TA s (beg s) := by
  obtain ⟨b9, b10, b11, b12, b13, b14, b15, b16, b17, b18, b19⟩ := beg_r s
  refine ⟨fun k a b j hj => ?_, fun j hj => ?_⟩
  · have hk : k = 9 ∨ k = 10 ∨ k = 11 ∨ k = 12 ∨ k = 13 ∨ k = 14 ∨ k = 15 ∨ k = 16 ∨ k = 17 ∨ k = 18 := by omega
    have nj : ¬ j < 60 := by omega
    rcases hk with e | e | e | e | e | e | e | e | e | e <;> subst e
    · rw [b9]; simp [fillA, nj]
    · rw [b10]; simp [fillA, nj]
    · rw [b11]; simp [nj]
    · rw [b12]; simp [fillA, nj]
    · rw [b13]; simp [fillA, nj]
    · rw [b14]; simp [fillA, nj]
    · rw [b15]; simp [fillA, nj]
    · rw [b16]; simp [fillA, nj]
    · rw [b17]; simp [fillA, nj]
    · rw [b18]; simp [fillA, nj]
  · have nj : ¬ j < 600 := by omega
    rw [b19]; simp [fillA, nj]
theorem TA_fU (f o : Nat → Int32) : ∀ (m k : Nat) (s : St), SI s → TA s (fU f o m k s).2 := by
  intro m
  induction m with
  | zero => intro k s _; exact TA.rf
  | succ m ih =>
    intro k s hS
    by_cases h : okS f (ix (o k)) s
    · rw [fU_y h]; exact (TA_dE hS.1 h.2.2).tr (ih _ _ (SI_ef hS h))
    · rw [fU_n h]; exact TA.rf
theorem TA_stK {f : Nat → Int32} {mi kn : Int32} {i : Nat} (hS : SI s) : TA s (stK f mi kn i s) := by
  by_cases h : knS f mi kn i s
  · rw [stK_y h]; exact TA_dE hS.1 h.2.2.2
  · rw [stK_n h]; exact TA.rf
theorem TA_fK (f o : Nat → Int32) (mi kn : Int32) : ∀ (m k : Nat) (s : St), SI s → TA s (fK f o mi kn m k s) := by
  intro m
  induction m with
  | zero => intro k s _; exact TA.rf
  | succ m ih => intro k s hS; simp only [fK]; exact (TA_stK hS).tr (ih _ _ (SI_stK hS))
theorem TL_TA {σ : St} (h : TL σ s) (h2 : TA s s1) : TL σ s1 := by
  refine ⟨fun j hj => ?_, fun j hj => ?_⟩
  · obtain ⟨q1, q2, q3, q4, q5, q6, q7, q8, q9⟩ := h.1 j hj
    exact ⟨by rw [h2.1 9 (by decide) (by decide) j hj]; exact q1, by rw [h2.1 10 (by decide) (by decide) j hj]; exact q2, by rw [h2.1 11 (by decide) (by decide) j hj]; exact q3, by rw [h2.1 12 (by decide) (by decide) j hj]; exact q4, by rw [h2.1 13 (by decide) (by decide) j hj]; exact q5, by rw [h2.1 14 (by decide) (by decide) j hj]; exact q6, by rw [h2.1 15 (by decide) (by decide) j hj]; exact q7, by rw [h2.1 16 (by decide) (by decide) j hj]; exact q8, by rw [h2.1 17 (by decide) (by decide) j hj]; exact q9⟩
  · rw [h2.2 j hj]; exact h.2 j hj
theorem TL_TR {σ : St} (h : TR σ s) : TL σ s := by
  obtain ⟨-, b1, b2, b3, b4, b5, b6, b7, b8, b9, b10⟩ := h
  exact ⟨fun j _ => ⟨by rw [b1], by rw [b2], by rw [b3], by rw [b4], by rw [b5], by rw [b6], by rw [b7], by rw [b8], by rw [b9]⟩, fun j _ => by rw [b10]⟩
end TAIL
/-- rows alike, but for weights of things that there weren't -/
def RW (n0 : Nat) (s s' : St) : Prop := (∀ q, 9 ≤ q → q ≤ 19 → q ≠ 11 → s' q = s q) ∧ ∀ x, x < n0 → s' 11 x = s 11 x
section MONO
variable {n0 : Nat} {s s' : St}
theorem RW.up (h : RW n0 s s') {k j : Nat} {v : Int32} : RW n0 (up2 s k j v) (up2 s' k j v) := by
  refine ⟨fun q a b c => ?_, fun x hx => ?_⟩
  · by_cases e : q = k
    · subst e; rw [up2_eq, up2_eq, h.1 q a b c]
    · rw [up2_ne e, up2_ne e]; exact h.1 q a b c
  · by_cases e : k = 11
    · subst e; rw [up2_eq, up2_eq]; simp only [upd]; rw [h.2 x hx]
    · rw [up2_ne (Ne.symm e), up2_ne (Ne.symm e)]; exact h.2 x hx
theorem RW.mv (h : RW n0 s s') {x u w : Int32} : RW n0 (mvE s x u w) (mvE s' x u w) := h.up.up
theorem RW_ite {a b a' b' : St} {c : Prop} {i : Decidable c} (h1 : RW n0 a a') (h2 : RW n0 b b') : RW n0 (@ite _ c i a b) (@ite _ c i a' b') := by
  by_cases h : c
  · rw [if_pos h, if_pos h]; exact h1
  · rw [if_neg h, if_neg h]; exact h2
theorem RW_dE (h : RW n0 s s') {k t a c d : Int32} (ht : ix t < n0) : RW n0 (dE s k t a c d) (dE s' k t a c d) := by
  unfold dE
  have e9 : s' 9 = s 9 := h.1 9 (by decide) (by decide) (by decide)
  have e10 : s' 10 = s 10 := h.1 10 (by decide) (by decide) (by decide)
  have e16 : s' 16 = s 16 := h.1 16 (by decide) (by decide) (by decide)
  have e11 : s' 11 (ix t) = s 11 (ix t) := h.2 _ ht
  unfold upx
  rw [e9, e10, e16, e11]
  repeat' (first | exact h | apply RW_ite | apply RW.mv | apply RW.up)
/-- the stock has grown -/
def MO (s s' : St) : Prop := ((s 0 0).toInt ≤ (s' 0 0).toInt ∧ ∀ x, x < ix (s 0 0) → s' 1 x = s 1 x) ∧ ((s 0 1).toInt ≤ (s' 0 1).toInt ∧ ∀ x, x < ix (s 0 1) → s' 2 x = s 2 x) ∧ ((s 0 2).toInt ≤ (s' 0 2).toInt ∧ ∀ x, x < ix (s 0 2) → s' 4 x = s 4 x)
theorem rg_mono {n n' x : Int32} (h : n.toInt ≤ n'.toInt) (hx : rg n x) : rg n' x := by
  rw [rg_i] at hx ⊢
  omega
theorem rg_ix {n x : Int32} (h : rg n x) : ix x < ix n := by
  have := rg_i.mp h
  have h1 := ixI this.1
  have h2 := ixI (show 0 ≤ n.toInt by omega)
  omega
theorem isKp_mono (h : MO s s') {a : Int32} (q : isKp s a) : isKp s' a := ⟨rg_mono h.1.1 q.1, by rw [h.1.2 _ (rg_ix q.1)]; exact q.2⟩
theorem hasK_mono (h : MO s s') {a b : Int32} {P P' : Prop} (hP : P' → P) (q : hasK s a b P) : hasK s' a b P' := ⟨isKp_mono h q.1, fun p => ⟨(q.2 (hP p)).1, isKp_mono h (q.2 (hP p)).2⟩⟩
theorem mny_eq (h : MO s s') {t : Int32} (ht : rg (s 0 2) t) : mny s' t = mny s t := by unfold mny; rw [h.2.2.2 _ (rg_ix ht)]
theorem bg_eq (h : MO s s') {t : Int32} (ht : rg (s 0 2) t) : bg s' t = bg s t := by unfold bg; rw [h.2.2.2 _ (rg_ix ht)]
theorem emp_mono (h : MO s s') (hr : RW n0 s s') (hK : SK s) (hK' : SK s') {p : Int32} (q : emp s p) : emp s' p := by
  refine ⟨rg_mono ?_ q.1, fun x hx => ?_⟩
  · have e1 := mul_i (x := s 0 1) (m := 12) (k := 12) (N := 8) rfl hK.2.1.1 hK.2.1.2 (by decide)
    have e2 := mul_i (x := s' 0 1) (m := 12) (k := 12) (N := 8) rfl hK'.2.1.1 hK'.2.1.2 (by decide)
    have := h.2.1.1
    rw [e1, e2]
    omega
  · rw [hr.1 9 (by decide) (by decide) (by decide), hr.1 10 (by decide) (by decide) (by decide)]
    exact q.2 x hx
theorem fts_mono (h : MO s s') (hr : RW n0 s s') (hK : SK s) (hK' : SK s') {t p : Int32} (ht : rg (s 0 2) t) (q : fts s t p) : fts s' t p := by
  refine ⟨emp_mono h hr hK hK' q.1, fun e => ?_⟩
  rw [h.2.2.2 _ (rg_ix ht)] at e
  have hp := pl_96 hK.2.1 q.1.1
  have hd := div_in (x := p) (m := 12) (k := 12) (n := 8) rfl (by decide) hp.1 hp.2
  have e1 := mul_i (x := s 0 1) (m := 12) (k := 12) (N := 8) rfl hK.2.1.1 hK.2.1.2 (by decide)
  have hr1 := (rg_i.mp q.1.1).2
  rw [e1] at hr1
  have hlt : ix (p / 12) < ix (s 0 1) := by
    have a1 := ixI (x := p / 12) (by rw [hd.1]; exact Int.ediv_nonneg hp.1 (by decide))
    have a2 := ixI hK.2.1.1
    rw [hd.1] at a1
    have : p.toInt / 12 < (s 0 1).toInt := Int.ediv_lt_of_lt_mul (by decide) (by omega)
    omega
  rw [h.2.1.2 _ hlt]
  exact q.2 e
theorem ofN_eq (h : MO s s') (hr : RW n0 s s') (hS : SI s) : ∀ (n x : Nat) (y : Int32), x < 60 → (ofN s' n x y ↔ ofN s n x y) := by
  intro n
  induction n with
  | zero => intro x y _; exact Iff.rfl
  | succ n ih =>
    intro x y hx
    simp only [ofN]
    rw [hr.1 17 (by decide) (by decide) (by decide)]
    obtain ⟨o, o1, o2, o3⟩ := hS.2.2.2.2.2.2.1
    by_cases e : s 17 x = -1
    · rw [e]
      exact ⟨fun q => absurd q.1 (not_rg_m1 _), fun q => absurd q.1 (not_rg_m1 _)⟩
    · have h1 := (o1 x hx e).1
      rw [ih _ _ (th_lt hS.1 h1).1]
      exact ⟨fun q => ⟨h1, q.2⟩, fun q => ⟨rg_mono h.2.2.1 h1, q.2⟩⟩
theorem frN_eq (hr : RW n0 s s') : ∀ (n x : Nat), frN s' n x = frN s n x := by
  intro n
  induction n with
  | zero => intro x; rfl
  | succ n ih =>
    intro x
    simp only [frN, upx]
    rw [hr.1 9 (by decide) (by decide) (by decide), hr.1 10 (by decide) (by decide) (by decide), hr.1 12 (by decide) (by decide) (by decide), ih]
theorem upN_eq (hr : RW n0 s s') : ∀ (n x y : Nat), upN s' n x y = upN s n x y := by
  intro n
  induction n with
  | zero => intro x y; rfl
  | succ n ih =>
    intro x y
    simp only [upN, upx]
    rw [hr.1 9 (by decide) (by decide) (by decide), hr.1 10 (by decide) (by decide) (by decide), ih]
set_option maxHeartbeats 1000000 in
theorem dC_mono (h : MO s s') (hr : RW (ix (s 0 2)) s s') (hS : SI s) (hK' : SK s') {k t a b c d dy : Int32} (hs : k = 8 → isSl s c → isSl s' c) (q : dC s k t a b c d dy) : dC s' k t a b c d dy := by
  obtain ⟨ht, hk0, h3⟩ := q
  have hK := hS.1
  have e9 : s' 9 = s 9 := hr.1 9 (by decide) (by decide) (by decide)
  have e10 : s' 10 = s 10 := hr.1 10 (by decide) (by decide) (by decide)
  have e12 : s' 12 = s 12 := hr.1 12 (by decide) (by decide) (by decide)
  have e14 : s' 14 = s 14 := hr.1 14 (by decide) (by decide) (by decide)
  have e15 : s' 15 = s 15 := hr.1 15 (by decide) (by decide) (by decide)
  have e16 : s' 16 = s 16 := hr.1 16 (by decide) (by decide) (by decide)
  have e19 : s' 19 = s 19 := hr.1 19 (by decide) (by decide) (by decide)
  have et : s' 4 (ix t) = s 4 (ix t) := h.2.2.2 _ (rg_ix ht)
  have e11 : s' 11 (ix t) = s 11 (ix t) := hr.2 _ (rg_ix ht)
  have hm := mny_eq h ht
  have kp : ∀ x, kpt s' x = kpt s x := fun x => by unfold kpt; rw [e9]
  have HK : ∀ {P P' : Prop}, (P' → P) → hasK s a b P → hasK s' a b P' := fun hP q => hasK_mono h hP q
  have ht' := rg_mono h.2.2.1 ht
  have FT : fts s t c → fts s' t c := fts_mono h hr hK hK' ht
  refine ⟨ht', by rw [kp]; exact hk0, ?_⟩
  rcases h3 with ⟨e, q⟩ | ⟨e, q⟩ | ⟨e, q⟩ | ⟨e, q⟩ | ⟨e, q⟩ | ⟨e, q⟩ | ⟨e, q⟩ | ⟨e, q⟩ | ⟨e, q⟩ | ⟨e, q⟩ | ⟨e, q⟩ | ⟨e, q⟩ | ⟨e, q⟩ | ⟨e, q⟩ | e | ⟨e, q⟩ | ⟨e, q⟩ | ⟨e, q⟩ | ⟨e, q⟩
  · subst e
    refine (dC_1.mpr ⟨ht', ?_⟩).2.2
    obtain ⟨c1, c2, c3, c4, c5, c6⟩ := q
    exact ⟨by rw [e9]; exact c1, by rw [et]; exact c2, by rw [et]; exact c3, HK (by rw [hm]; exact id) c4, rg_mono h.1.1 c5, FT c6⟩
  · subst e
    refine (dC_2.mpr ⟨ht', by rw [kp]; exact hk0.resolve_left (by decide), ?_⟩).2.2
    obtain ⟨c1, c2, c3, c4⟩ := q
    exact ⟨by rw [e9]; exact c1, HK (by rw [hm]; exact id) c2, rg_mono h.1.1 c3, c4⟩
  · subst e
    refine (dC_3.mpr ⟨ht', by rw [kp]; exact hk0.resolve_left (by decide), ?_⟩).2.2
    obtain ⟨c1, c2, c3⟩ := q
    exact ⟨by rw [e9, e10]; exact c1, rg_mono h.1.1 c2, c3⟩
  · subst e
    refine (dC_4.mpr ⟨ht', by rw [kp]; exact hk0.resolve_left (by decide), ?_⟩).2.2
    obtain ⟨c1, c2, c3⟩ := q
    exact ⟨by rw [e9, e10]; exact c1, HK (by rw [hm]; exact id) c2, FT c3⟩
  · subst e
    refine (dC_5.mpr ⟨ht', by rw [kp]; exact hk0.resolve_left (by decide), ?_⟩).2.2
    obtain ⟨c1, c2, c3⟩ := q
    exact ⟨by rw [e9]; exact c1, HK (by rw [hm]; exact id) c2, FT c3⟩
  · subst e
    refine (dC_6.mpr ⟨ht', by rw [kp]; exact hk0.resolve_left (by decide), ?_⟩).2.2
    obtain ⟨c1, c2, c3, c4, c5, c6, c7, c8⟩ := q
    refine ⟨⟨rg_mono h.2.2.1 c1.1, by rw [bg_eq h c1.1]; exact c1.2⟩, by rw [kp]; exact c2, c3, by rw [e12]; exact c4, by rw [e9, e10]; exact c5, HK (by rw [hm, mny_eq h c1.1]; exact id) c6, ?_, fun x hx => ?_⟩
    · unfold cnB; rw [e9, e10]; exact c7
    · rw [upN_eq hr]; exact c8 x hx
  · subst e
    refine (dC_7.mpr ⟨ht', by rw [kp]; exact hk0.resolve_left (by decide), ?_⟩).2.2
    obtain ⟨c1, c2, c3, c4⟩ := q
    have hg := (up_in hS (th_lt hK ht).1 c1).1
    unfold q7 upx
    rw [e9, e10, e12]
    exact ⟨c1, c2, HK (by rw [hm, mny_eq h hg]; exact id) c3, c4.imp id (fun z => ⟨z.1, FT z.2⟩)⟩
  · subst e
    refine (dC_8.mpr ⟨ht', by rw [kp]; exact hk0.resolve_left (by decide), ?_⟩).2.2
    obtain ⟨c1, c2, c3, c4, c5⟩ := q
    exact ⟨by rw [bg_eq h ht]; exact c1, by rw [e12]; exact c2, hs rfl c3, by rw [e19]; exact c4, fun m => HK id (c5 (by rw [← hm]; exact m))⟩
  · subst e
    refine (dC_9.mpr ⟨ht', by rw [kp]; exact hk0.resolve_left (by decide), ?_⟩).2.2
    obtain ⟨c1, c2, c3, c4, c5⟩ := q
    exact ⟨by rw [bg_eq h ht]; exact c1, by rw [e12]; exact c2, c3, c4, fun m => HK id (c5 (by rw [← hm]; exact m))⟩
  · subst e
    refine (dC_10.mpr ⟨ht', by rw [kp]; exact hk0.resolve_left (by decide), ?_⟩).2.2
    exact ⟨by rw [bg_eq h ht]; exact q.1, q.2⟩
  · subst e
    refine (dC_11.mpr ⟨ht', by rw [kp]; exact hk0.resolve_left (by decide), ?_⟩).2.2
    obtain ⟨⟨c1, c2, c3, c4⟩, c5, c6⟩ := q
    exact ⟨⟨⟨rg_mono h.2.2.1 c1.1, by rw [h.2.2.2 _ (rg_ix c1.1)]; exact c1.2⟩, by rw [e9]; exact c2, by rw [frN_eq hr]; exact c3, HK (by rw [hm]; exact id) c4⟩, c5, by rw [e11]; exact c6⟩
  · subst e
    refine (dC_12.mpr ⟨ht', by rw [kp]; exact hk0.resolve_left (by decide), ?_⟩).2.2
    obtain ⟨c1, c2, c3, c4⟩ := q
    exact ⟨⟨rg_mono h.2.2.1 c1.1, by rw [h.2.2.2 _ (rg_ix c1.1)]; exact c1.2⟩, by rw [e9]; exact c2, by rw [frN_eq hr]; exact c3, HK (by rw [hm]; exact id) c4⟩
  · subst e
    refine (dC_13.mpr ⟨ht', by rw [kp]; exact hk0.resolve_left (by decide), ?_⟩).2.2
    obtain ⟨c1, c2, c3⟩ := q
    exact ⟨by rw [frN_eq hr]; exact c1, c2, by rw [e11]; exact c3⟩
  · subst e
    exact (dC_14.mpr ⟨ht', by rw [kp]; exact hk0.resolve_left (by decide), q⟩).2.2
  · subst e
    exact (dC_15.mpr ⟨ht', by rw [kp]; exact hk0.resolve_left (by decide), trivial⟩).2.2
  · subst e
    refine (dC_16.mpr ⟨ht', by rw [kp]; exact hk0.resolve_left (by decide), ?_⟩).2.2
    unfold bit; rw [e16]; exact q
  · subst e
    refine (dC_17.mpr ⟨ht', by rw [kp]; exact hk0.resolve_left (by decide), ?_⟩).2.2
    unfold bit; rw [e16]; exact q
  · subst e
    refine (dC_18.mpr ⟨ht', by rw [kp]; exact hk0.resolve_left (by decide), ?_⟩).2.2
    obtain ⟨c1, c2, c3, c4, c5, c6, c7, c8, c9, c10⟩ := q
    refine ⟨HK id c1, rg_mono h.1.1 c2, c3, c4, by rw [e9]; exact c5, by rw [e15]; exact c6, by rw [e14]; exact c7, by rw [e16]; exact c8, ?_, fun x hx z => ?_⟩
    · unfold cnB; rw [e9, e10]; exact c9
    · rw [e9] at z
      rw [ofN_eq h hr hS _ _ _ hx]
      exact c10 x hx z
  · subst e
    refine (dC_19.mpr ⟨ht', by rw [kp]; exact hk0.resolve_left (by decide), ?_⟩).2.2
    rcases q with q | q
    · exact Or.inl ⟨q.1, FT q.2⟩
    · exact Or.inr ⟨q.1, rg_mono h.1.1 q.2.1, by rw [e9, e10]; exact q.2.2⟩
theorem MO_same {s1 s1' : St} (h : MO s s') (h1 : FM s s1) (h2 : FM s' s1') : MO s1 s1' := by
  unfold MO
  rw [h1 0 (by decide), h1 1 (by decide), h1 2 (by decide), h1 4 (by decide), h2 0 (by decide), h2 1 (by decide), h2 2 (by decide), h2 4 (by decide)]
  exact h
theorem SK_same {s1 : St} (h : SK s) (h1 : FM s s1) : SK s1 := by
  unfold SK
  rw [h1 0 (by decide), h1 4 (by decide)]
  exact h
theorem fU_mono {f o : Nat → Int32} {c : Nat} (hc : c < 2 ^ 31) (ho : ∀ k, k < c → ∃ v, v < c ∧ o k = nI v) : ∀ (m k : Nat) (s s' : St), k + m ≤ c → SI s → SK s' → MO s s' → RW (ix (s 0 2)) s s' → (∀ i, i < c → f (8 * i) = 8 → isSl s (f (8 * i + 4)) → isSl s' (f (8 * i + 4))) → (fU f o m k s).1 = -1 → (fU f o m k s').1 = -1 := by
  intro m
  induction m with
  | zero => intro k s s' _ _ _ _ _ _ _; rfl
  | succ m ih =>
    intro k s s' hk hS hK' h hr hs hq
    obtain ⟨v, hv, ev⟩ := ho k (by omega)
    have hi : ix (o k) = v := by rw [ev, ix_nI (by omega)]
    by_cases g : okS f (ix (o k)) s
    · rw [fU_y g] at hq
      have g' : okS f (ix (o k)) s' := ⟨g.1, g.2.1, dC_mono h hr hS hK' (fun e => hs _ (by rw [hi]; exact hv) e) g.2.2⟩
      rw [fU_y g']
      have F1 := efS_FM f (ix (o k)) s
      have F2 := efS_FM f (ix (o k)) s'
      refine ih (k + 1) _ _ (by omega) (SI_ef hS g) (SK_same hK' F2) (MO_same h F1 F2) ?_ (fun i hi2 e q => ?_) hq
      · rw [F1 0 (by decide)]
        exact RW_dE hr (rg_ix g.2.2.1)
      · unfold isSl at q ⊢
        rw [F1 3 (by decide)] at q
        rw [F2 3 (by decide)]
        exact hs i hi2 e q
    · rw [fU_n g] at hq
      have : nI v = -1 := by rw [← ev]; exact hq
      have h2 := congrArg Int32.toInt this
      rw [nI_toInt (by omega), tm1_] at h2
      omega
end MONO
