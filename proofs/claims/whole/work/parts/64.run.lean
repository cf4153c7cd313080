section RUN
variable {s s' s0 : St} {f o : Nat → Int32}
def rn (f o : Nat → Int32) (s0 : St) : Nat → St
  | 0 => s0
  | j + 1 => efS f (ix (o j)) (rn f o s0 j)
theorem rn_ok {c : Nat} (hc : c < 2 ^ 31) (ho : ∀ k, k < c → ∃ v, v < c ∧ o k = nI v) : ∀ (m k : Nat), k + m ≤ c → (fU f o m k (rn f o s0 k)).1 = -1 → ∀ j, k ≤ j → j < k + m → okS f (ix (o j)) (rn f o s0 j) := by
  intro m
  induction m with
  | zero => intro k _ _ j a b; omega
  | succ m ih =>
    intro k hk hq j a b
    obtain ⟨p, q⟩ := fU_step hc ho (by omega) hq
    by_cases e : j = k
    · subst e; exact p
    · exact ih (k + 1) (by omega) q j (by omega) (by omega)
theorem rn_FM (j : Nat) : FM s0 (rn f o s0 j) := by
  induction j with
  | zero => exact FM.rf
  | succ j ih => exact ih.tr (efS_FM f _ _)
def N9 (s a : St) : Prop := ∀ x, ¬ s 9 x = 0 → ¬ a 9 x = 0
theorem N9.rf : N9 s s := fun _ h => h
theorem N9.up {s1 : St} (h : N9 s s1) {k j : Nat} {v : Int32} (hk : k ≠ 9 ∨ ¬ v = 0) : N9 s (up2 s1 k j v) := by
  intro x hx
  by_cases e : k = 9
  · subst e
    have hv : ¬ v = 0 := hk.resolve_left (fun q => q rfl)
    rw [up2_eq]
    by_cases e2 : x = j
    · rw [e2, upd_s]; exact hv
    · rw [upd_n _ _ e2]; exact h x hx
  · rw [up2_ne (Ne.symm e)]; exact h x hx
theorem N9.mv {s1 : St} (h : N9 s s1) {x u w : Int32} (hu : ¬ u = 0) : N9 s (mvE s1 x u w) := (h.up (Or.inr hu)).up (Or.inl (by decide))
theorem N9_ite {a b : St} {c : Prop} {i : Decidable c} (h1 : N9 s a) (h2 : N9 s b) : N9 s (@ite _ c i a b) := by
  by_cases h : c
  · rw [if_pos h]; exact h1
  · rw [if_neg h]; exact h2
theorem dE_N9 (s : St) (k t a c d : Int32) : N9 s (dE s k t a c d) := by
  unfold dE
  repeat' (first | exact N9.rf | apply N9_ite | refine N9.mv ?_ (by decide) | refine N9.up ?_ (Or.inl (by decide)))
theorem rn_al {x : Nat} {j : Nat} : ∀ (d : Nat), ¬ rn f o s0 j 9 x = 0 → ¬ rn f o s0 (j + d) 9 x = 0 := by
  intro d
  induction d with
  | zero => intro h; exact h
  | succ d ih => intro h; exact dE_N9 _ _ _ _ _ _ x (ih h)
theorem rn_al2 {x j j' : Nat} (hj : j ≤ j') (h : ¬ rn f o s0 j 9 x = 0) : ¬ rn f o s0 j' 9 x = 0 := by
  have := rn_al (f := f) (o := o) (s0 := s0) (x := x) (j := j) (j' - j) h
  rw [show j + (j' - j) = j' by omega] at this
  exact this
def thg (f o : Nat → Int32) (j : Nat) : Int32 := f (8 * ix (o j) + 1)
def bth (f o : Nat → Int32) (j : Nat) (t : Int32) : Prop := (f (8 * ix (o j)) = 11 ∨ f (8 * ix (o j)) = 12) ∧ f (8 * ix (o j) + 4) = t
def mvk (k : Int32) : Prop := (0 < k ∧ k < 8) ∨ 17 < k
def mov (f o : Nat → Int32) (j : Nat) (t : Int32) : Prop := f (8 * ix (o j) + 1) = t ∧ mvk (f (8 * ix (o j)))
theorem kpt_al {t : Int32} (h : kpt s t) : ¬ s 9 (ix t) = 0 := by
  rcases h with e | e | e <;> · rw [e]; decide
theorem bth_f {j : Nat} {t : Int32} (hok : okS f (ix (o j)) s) (h : bth f o j t) : (rg (s 0 2) t ∧ (s 4 (ix t) = 2 ∨ s 4 (ix t) = 3)) ∧ s 9 (ix t) = 0 ∧ ¬ efS f (ix (o j)) s 9 (ix t) = 0 ∧ rg (s 0 2) (thg f o j) ∧ ¬ s 9 (ix (thg f o j)) = 0 := by
  obtain ⟨hk, hc⟩ := h
  have hd := hok.2.2
  rw [hc] at hd
  unfold efS
  rw [hc]
  rcases hk with e | e
  · rw [e] at hd ⊢
    rw [dC_11] at hd
    obtain ⟨a1, a2, ⟨a3, a4, -⟩, -⟩ := hd
    refine ⟨⟨a3.1, Or.inl a3.2⟩, a4, ?_, a1, kpt_al a2⟩
    rw [dE_11, up2_ne (by decide), up2_ne (by decide)]
    unfold mvE
    rw [up2_ne (by decide), up2_eq, upd_s]
    decide
  · rw [e] at hd ⊢
    rw [dC_12] at hd
    obtain ⟨a1, a2, a3, a4, -⟩ := hd
    refine ⟨⟨a3.1, Or.inr a3.2⟩, a4, ?_, a1, kpt_al a2⟩
    rw [dE_12]
    unfold mvE
    rw [up2_ne (by decide), up2_eq, upd_s]
    decide
theorem mov_f {j : Nat} {t : Int32} (hok : okS f (ix (o j)) s) (h : mov f o j t) : ¬ s 9 (ix t) = 0 ∨ (¬ s 4 (ix t) = 2 ∧ ¬ s 4 (ix t) = 3) := by
  have hd := hok.2.2
  rw [h.1] at hd
  by_cases e : f (8 * ix (o j)) = 1
  · rw [e, dC_1] at hd
    exact Or.inr ⟨hd.2.2.1, hd.2.2.2.1⟩
  · exact Or.inl (kpt_al (hd.2.1.resolve_left e))
theorem cntP_mono {p q : Nat → Prop} {n : Nat} (h : ∀ y, y < n → p y → q y) : cntP p n ≤ cntP q n := by
  induction n with
  | zero => exact Nat.le_refl _
  | succ n ih =>
    have h1 := ih (fun y hy => h y (Nat.lt_succ_of_lt hy))
    simp only [cntP]
    by_cases e : p n
    · rw [cI_t e, cI_t (h n (Nat.lt_succ_self n) e)]; omega
    · rw [cI_f e]; omega
theorem cntP_lt {p q : Nat → Prop} {n x : Nat} (hx : x < n) (hp : ¬ p x) (hq : q x) (h : ∀ y, y < n → p y → q y) : cntP p n < cntP q n := by
  have a := cntP_add (p := p) (q := fun y => p y ∨ y = x) hx (Or.inr rfl) hp (fun y _ ne => ⟨fun z => z.resolve_right ne, Or.inl⟩)
  have b := cntP_mono (p := fun y => p y ∨ y = x) (q := q) (n := n) (fun y hy z => z.elim (h y hy) (fun e => by rw [e]; exact hq))
  omega
def CF (f o : Nat → Int32) (s : St) (c : Nat) : Prop :=
  (∀ j t, j < c → bth f o j t → (rg (s 0 2) t ∧ (s 4 (ix t) = 2 ∨ s 4 (ix t) = 3)) ∧ rg (s 0 2) (thg f o j)) ∧
  (∀ j j' t, j < c → j' < c → bth f o j t → bth f o j' t → j = j') ∧
  (∀ j j' t, j < c → j' < c → mov f o j t → bth f o j' t → j' < j) ∧
  (∀ j j' t, j < c → j' < c → bth f o j t → bth f o j' (thg f o j) → j' < j) ∧
  (∀ j, j < c → ¬ f (8 * ix (o j)) < 1 ∧ ¬ 19 < f (8 * ix (o j))) ∧
  ∃ A : Nat → Nat, (∀ j j', j ≤ j' → A j ≤ A j') ∧ A c ≤ 60 ∧ ∀ j t, j < c → bth f o j t → A j < A (j + 1) ∧ 0 < A j
theorem CF_of {c : Nat} (hc : c < 2 ^ 31) (hS : SK s0) (ho : ∀ k, k < c → ∃ v, v < c ∧ o k = nI v) (hq : (fU f o c 0 s0).1 = -1) : CF f o s0 c := by
  have hok : ∀ j, j < c → okS f (ix (o j)) (rn f o s0 j) := fun j hj => rn_ok hc ho c 0 (by omega) hq j (Nat.zero_le _) (by omega)
  have e4 : ∀ j, rn f o s0 j 4 = s0 4 := fun j => rn_FM j 4 (by decide)
  have e0 : ∀ j, rn f o s0 j 0 = s0 0 := fun j => rn_FM j 0 (by decide)
  have B : ∀ j t, j < c → bth f o j t → (rg (s0 0 2) t ∧ (s0 4 (ix t) = 2 ∨ s0 4 (ix t) = 3)) ∧ rn f o s0 j 9 (ix t) = 0 ∧ ¬ rn f o s0 (j + 1) 9 (ix t) = 0 ∧ rg (s0 0 2) (thg f o j) ∧ ¬ rn f o s0 j 9 (ix (thg f o j)) = 0 := by
    intro j t hj h
    have := bth_f (hok j hj) h
    rw [e4, e0] at this
    exact this
  refine ⟨fun j t hj h => ⟨(B j t hj h).1, (B j t hj h).2.2.2.1⟩, ?_, ?_, ?_, ?_, ?_⟩
  · intro j j' t hj hj' h h'
    have b := B j t hj h
    have b' := B j' t hj' h'
    rcases Nat.lt_trichotomy j j' with e | e | e
    · exact absurd b'.2.1 (rn_al2 e b.2.2.1)
    · exact e
    · exact absurd b.2.1 (rn_al2 e b'.2.2.1)
  · intro j j' t hj hj' h h'
    have b' := B j' t hj' h'
    rcases Nat.lt_or_ge j' j with e | e
    · exact e
    · rcases mov_f (hok j hj) h with q | q
      · exact absurd b'.2.1 (rn_al2 e q)
      · rw [e4] at q
        exact absurd b'.1.2 (fun z => z.elim q.1 q.2)
  · intro j j' t hj hj' h h'
    have b := B j t hj h
    have b' := B j' _ hj' h'
    rcases Nat.lt_or_ge j' j with e | e
    · exact e
    · exact absurd b'.2.1 (rn_al2 e b.2.2.2.2)
  · intro j hj
    have := dC_kind (hok j hj).2.2
    refine ⟨?_, ?_⟩
    · rw [ltI, show (1 : Int32).toInt = 1 from rfl]; omega
    · rw [ltI, show (19 : Int32).toInt = 19 from rfl]; omega
  · refine ⟨fun j => cntP (fun y => ¬ rn f o s0 j 9 y = 0) 60, fun j j' h => cntP_mono (fun y _ q => rn_al2 h q), cntP_le _ _, fun j t hj h => ?_⟩
    have b := B j t hj h
    have l1 := (th_lt hS b.1.1).1
    have l2 := (th_lt hS b.2.2.2.1).1
    refine ⟨cntP_lt (x := ix t) l1 (fun q => q b.2.1) b.2.2.1 (fun y _ q => rn_al2 (Nat.le_succ j) q), ?_⟩
    rcases Nat.eq_zero_or_pos (cntP (fun y => ¬ rn f o s0 j 9 y = 0) 60) with e | e
    · exact absurd b.2.2.2.2 (cntP_zero.mp e _ l2)
    · exact e
/-! the chain -/
noncomputable def mvl (f o : Nat → Int32) (t : Int32) : Nat → List Int32
  | 0 => []
  | j + 1 => @ite _ (mov f o j t) (Classical.propDecidable _) (mvl f o t j ++ [o j]) (mvl f o t j)
noncomputable def cl (f o : Nat → Int32) : Nat → Int32 → List Int32
  | 0, _ => []
  | m + 1, t => @ite _ (bth f o m t) (Classical.propDecidable _) (cl f o m (thg f o m) ++ [o m]) (@ite _ (mov f o m t) (Classical.propDecidable _) (cl f o m t ++ [o m]) (cl f o m t))
theorem mvl_y {t : Int32} {j : Nat} (h : mov f o j t) : mvl f o t (j + 1) = mvl f o t j ++ [o j] := by simp only [mvl, h, if_true]
theorem mvl_n {t : Int32} {j : Nat} (h : ¬ mov f o j t) : mvl f o t (j + 1) = mvl f o t j := by simp only [mvl, h, if_false]
theorem cl_b {t : Int32} {j : Nat} (h : bth f o j t) : cl f o (j + 1) t = cl f o j (thg f o j) ++ [o j] := by simp only [cl, h, if_true]
theorem cl_m {t : Int32} {j : Nat} (h : ¬ bth f o j t) (h2 : mov f o j t) : cl f o (j + 1) t = cl f o j t ++ [o j] := by simp only [cl, h, h2, if_true, if_false]
theorem cl_n {t : Int32} {j : Nat} (h : ¬ bth f o j t) (h2 : ¬ mov f o j t) : cl f o (j + 1) t = cl f o j t := by simp only [cl, h, h2, if_false]
theorem cl_len : ∀ (m : Nat) (t : Int32), (cl f o m t).length ≤ m := by
  intro m
  induction m with
  | zero => intro t; exact Nat.le_refl _
  | succ m ih =>
    intro t
    by_cases h : bth f o m t
    · rw [cl_b h, List.length_append]
      have := ih (thg f o m)
      simp only [List.length_cons, List.length_nil]; omega
    · by_cases h2 : mov f o m t
      · rw [cl_m h h2, List.length_append]
        have := ih t
        simp only [List.length_cons, List.length_nil]; omega
      · rw [cl_n h h2]
        have := ih t
        omega
theorem cl_mem {c : Nat} (ho : ∀ k, k < c → ∃ v, v < c ∧ o k = nI v) : ∀ (m : Nat) (t : Int32), m ≤ c → ∀ x, x ∈ cl f o m t → ∃ v, v < c ∧ x = nI v := by
  intro m
  induction m with
  | zero => intro t _ x hx; exact absurd hx (by simp only [cl]; exact List.not_mem_nil)
  | succ m ih =>
    intro t hm x hx
    have ap : ∀ u : Int32, x ∈ cl f o m u ++ [o m] → ∃ v, v < c ∧ x = nI v := by
      intro u hu
      rcases List.mem_append.mp hu with q | q
      · exact ih u (by omega) x q
      · rw [List.mem_singleton.mp q]; exact ho m (by omega)
    by_cases h : bth f o m t
    · rw [cl_b h] at hx; exact ap _ hx
    · by_cases h2 : mov f o m t
      · rw [cl_m h h2] at hx; exact ap _ hx
      · rw [cl_n h h2] at hx; exact ih t (by omega) x hx
theorem cl_1 {t : Int32} : ∀ (m : Nat), (∀ j, j < m → ¬ bth f o j t) → cl f o m t = mvl f o t m := by
  intro m
  induction m with
  | zero => intro _; rfl
  | succ m ih =>
    intro h
    have e := ih (fun j hj => h j (Nat.lt_succ_of_lt hj))
    have h1 := h m (Nat.lt_succ_self m)
    by_cases h2 : mov f o m t
    · rw [cl_m h1 h2, mvl_y h2, e]
    · rw [cl_n h1 h2, mvl_n h2, e]
theorem mvl_0 {t : Int32} : ∀ (m : Nat), (∀ j, j < m → ¬ mov f o j t) → mvl f o t m = [] := by
  intro m
  induction m with
  | zero => intro _; rfl
  | succ m ih =>
    intro h
    rw [mvl_n (h m (Nat.lt_succ_self m))]
    exact ih (fun j hj => h j (Nat.lt_succ_of_lt hj))
theorem bth_nm {j : Nat} {t u : Int32} (h : bth f o j t) : ¬ mov f o j u := by
  intro q
  have := q.2
  unfold mvk at this
  rcases h.1 with e | e <;> · rw [e] at this; revert this; decide
theorem cl_2 {t : Int32} {b c : Nat} {s : St} (hF : CF f o s c) (hb : bth f o b t) (hbc : b < c) : ∀ d, b + 1 + d ≤ c → cl f o (b + 1 + d) t = cl f o b (thg f o b) ++ [o b] ++ mvl f o t (b + 1 + d) := by
  intro d
  induction d with
  | zero =>
    intro _
    rw [Nat.add_zero, cl_b hb, mvl_n (bth_nm hb), mvl_0 b (fun j hj q => ?_), List.append_nil]
    have := hF.2.2.1 j b t (by omega) hbc q hb
    omega
  | succ d ih =>
    intro hd
    have e := ih (by omega)
    have h1 : ¬ bth f o (b + 1 + d) t := fun q => by
      have := hF.2.1 b (b + 1 + d) t hbc (by omega) hb q
      omega
    show cl f o ((b + 1 + d) + 1) t = _
    by_cases h2 : mov f o (b + 1 + d) t
    · rw [cl_m h1 h2, show b + 1 + (d + 1) = (b + 1 + d) + 1 from rfl, mvl_y h2, e, List.append_assoc _ (mvl f o t (b + 1 + d))]
    · rw [cl_n h1 h2, show b + 1 + (d + 1) = (b + 1 + d) + 1 from rfl, mvl_n h2, e]
/-- a row that begins with a list -/
def inA (g : Nat → Int32) (L : List Int32) : Prop := ∀ q v, L[q]? = some v → g q = v
theorem inA_nil {g : Nat → Int32} : inA g [] := fun q v h => by simp at h
theorem inA_push {g : Nat → Int32} {L : List Int32} (h : inA g L) (v : Int32) : inA (upd g L.length v) (L ++ [v]) := by
  intro q w hq
  rcases Nat.lt_trichotomy q L.length with e | e | e
  · rw [List.getElem?_append_left e] at hq
    rw [upd_n _ _ (Nat.ne_of_lt e)]; exact h q w hq
  · subst e
    rw [List.getElem?_append_right (Nat.le_refl _), Nat.sub_self] at hq
    rw [upd_s]
    exact Option.some.inj hq
  · rw [List.getElem?_eq_none (by rw [List.length_append]; exact e)] at hq
    exact absurd hq (fun z => nomatch z)
end RUN
