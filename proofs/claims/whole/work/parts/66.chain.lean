section CHAINM
variable {n : Nat} {σ s σ' s' s0 s1 : St} {f o : Nat → Int32}
theorem m_isMove {k : Int32} {Q : Int32 → St → Prop} : wp_X6_isMove s k Q ↔ Q (bI (mvk k)) s := by
  unfold wp_X6_isMove j_X6_isMove_10 mvk
  have T : (¬ (0 < k ∧ k < 8)) → ((if 17 < k then Q 1 s else Q 0 s) ↔ Q (bI ((0 < k ∧ k < 8) ∨ 17 < k)) s) := by
    intro h
    by_cases e : 17 < k
    · rw [if_pos e, bI_t (Or.inr e)]
    · rw [if_neg e, bI_f (fun q => q.elim h e)]
  by_cases e1 : 0 < k
  · rw [if_pos e1]
    by_cases e2 : k < 8
    · rw [if_pos e2, bI_t (Or.inl ⟨e1, e2⟩)]
    · rw [if_neg e2]; exact T (fun q => e2 q.2)
  · rw [if_neg e1]; exact T (fun q => e1 q.1)
def EP (s s' : St) : Prop := (∀ q, q ≠ 0 → q ≠ 21 → s' q = s q) ∧ ∀ j, j ≠ 30 → s' 0 j = s 0 j
theorem EP.rf : EP s s := ⟨fun _ _ _ => rfl, fun _ _ => rfl⟩
theorem EP.tr {s2 : St} (h : EP s s1) (h2 : EP s1 s2) : EP s s2 := ⟨fun q a b => (h2.1 q a b).trans (h.1 q a b), fun j a => (h2.2 j a).trans (h.2 j a)⟩
theorem m_put {Q : St → Prop} {L : List Int32} {x : Int32} (hl : L.length < 800) (h0 : s 0 30 = nI L.length) (h1 : inA (s 21) L) (k : ∀ s', EP s s' → s' 0 30 = nI (L ++ [x]).length → inA (s' 21) (L ++ [x]) → Q s') : wp_X6_put s x Q := by
  unfold wp_X6_put nmS
  rw [h0, ix_nI (by omega)]
  refine ⟨vin_n hl (by decide), k _ ⟨fun q a b => ?_, fun j a => ?_⟩ ?_ ?_⟩
  · rw [up2_ne a, up2_ne b]
  · rw [up2_eq, upd_n _ _ a, up2_ne (by decide)]
  · rw [up2_eq, upd_s, up2_ne (by decide), h0, nI_1, List.length_append]; rfl
  · rw [up2_ne (by decide), up2_eq]; exact inA_push h1 x
theorem mvl_len {t : Int32} (m : Nat) : (mvl f o t m).length ≤ m := by
  induction m with
  | zero => exact Nat.le_refl _
  | succ m ih =>
    by_cases h2 : mov f o m t
    · rw [mvl_y h2, List.length_append]
      simp only [List.length_cons, List.length_nil]; omega
    · rw [mvl_n h2]; omega
/-- what the reference's rows hold -/
def MB (f o : Nat → Int32) (c : Nat) (s : St) : Prop := s 0 3 = nI c ∧ s 6 = f ∧ s 20 = o
theorem MB_EP {c : Nat} (h : MB f o c s) (e : EP s s') : MB f o c s' := by
  unfold MB
  rw [e.2 3 (by decide), e.1 6 (by decide) (by decide), e.1 20 (by decide) (by decide)]
  exact h
theorem lp146 {Q : St → Prop} {rec89 : Int32 → St → Prop} {c : Nat} (hc4 : c ≤ 400) (ho : ∀ k, k < c → ∃ v, v < c ∧ o k = nI v) (hB : MB f o c s1) {k p : Nat} {u : Int32} (hk : k < 60) (hu : s1 22 k = u) (hp : p ≤ c) {L0 : List Int32} (hL0 : L0.length ≤ 400) (k9 : ∀ s', EP s1 s' → s' 0 30 = nI (L0 ++ mvl f o u p).length → inA (s' 21) (L0 ++ mvl f o u p) → rec89 (nI k + (-1)) s') : ∀ (g j : Nat) (s : St), j ≤ p → p - j < g → EP s1 s → s 0 30 = nI (L0 ++ mvl f o u j).length → inA (s 21) (L0 ++ mvl f o u j) → lp_X6_makeChain_146 Q rec89 g (nI k) (nI p) (nI j) s := by
  intro g
  induction g with
  | zero => intro j s _ h; exact absurd h (Nat.not_lt_zero _)
  | succ g ih =>
    intro j s hj hg hE h30 h21
    show b_X6_makeChain_146 Q rec89 (lp_X6_makeChain_146 Q rec89 g) (nI k) (nI p) (nI j) s
    unfold b_X6_makeChain_146 j_X6_makeChain_208
    obtain ⟨b1, b2, b3⟩ := MB_EP hB hE
    by_cases h : j < p
    · rw [if_pos ((nI_ltI (by omega) (by omega)).mpr h)]
      have v1 : vp_in (nI j) 401 := vin_n (by omega) (by decide)
      have vk : vp_in (nI k) 60 := vin_n hk (by decide)
      obtain ⟨v, hv, ev⟩ := ho j (by omega)
      have x0 : 0 ≤ (o j).toInt ∧ (o j).toInt ≤ 400 := by rw [ev, nI_toInt (by omega)]; omega
      obtain ⟨a0, d0⟩ := idx80 x0.1 x0.2
      obtain ⟨a1, d1⟩ := idx8 x0.1 x0.2 (w := 1) (n := 1) rfl (by decide)
      have e22 : s 22 k = u := by rw [hE.1 22 (by decide) (by decide)]; exact hu
      unfold nm
      simp only [ix_nI (show j < 2 ^ 31 by omega), ix_nI (show k < 2 ^ 31 by omega), b3, b2, v1, vk, a0, a1, d0, d1, e22, true_and, nI_1, m_isMove]
      by_cases g1 : f (8 * ix (o j) + 1) = u
      · rw [if_pos g1]
        by_cases g2 : mvk (f (8 * ix (o j)))
        · rw [bI_t g2, if_neg (by decide)]
          have hm : mov f o j u := ⟨g1, g2⟩
          have hlen := mvl_len (f := f) (o := o) (t := u) j
          refine m_put (L := L0 ++ mvl f o u j) (by rw [List.length_append]; omega) h30 h21 (fun s' E' q1 q2 => ?_)
          refine ih (j + 1) s' h (by omega) (hE.tr E') ?_ ?_
          · rw [mvl_y hm, ← List.append_assoc]; exact q1
          · rw [mvl_y hm, ← List.append_assoc]; exact q2
        · rw [bI_f g2, if_pos rfl]
          refine ih (j + 1) s h (by omega) hE ?_ ?_
          · rw [mvl_n (fun q => g2 q.2)]; exact h30
          · rw [mvl_n (fun q => g2 q.2)]; exact h21
      · rw [if_neg g1]
        refine ih (j + 1) s h (by omega) hE ?_ ?_
        · rw [mvl_n (fun q => g1 q.1)]; exact h30
        · rw [mvl_n (fun q => g1 q.1)]; exact h21
    · have e : j = p := by omega
      rw [if_neg (fun q => h ((nI_ltI (by omega) (by omega)).mp q))]
      rw [e] at h30 h21
      exact k9 s hE h30 h21
/-- the line of the things it came of -/
def LK (f o : Nat → Int32) (thing : Int32) (c : Nat) (g22 g23 : Nat → Int32) : Nat → Int32 → Nat → Prop
  | 0, t, m => t = thing ∧ m = c
  | n + 1, t, m => ∃ u p, LK f o thing c g22 g23 n u p ∧ g22 n = u ∧ g23 n = nI m ∧ m < p ∧ bth f o m u ∧ t = thg f o m
theorem LK_congr {thing : Int32} {c : Nat} {g22 g23 h22 h23 : Nat → Int32} : ∀ (n : Nat) (t : Int32) (m : Nat), (∀ i, i < n → h22 i = g22 i ∧ h23 i = g23 i) → LK f o thing c g22 g23 n t m → LK f o thing c h22 h23 n t m := by
  intro n
  induction n with
  | zero => intro t m _ h; exact h
  | succ n ih =>
    intro t m he h
    obtain ⟨u, p, q1, q2, q3, q4⟩ := h
    exact ⟨u, p, ih u p (fun i hi => he i (by omega)) q1, by rw [(he n (by omega)).1]; exact q2, by rw [(he n (by omega)).2]; exact q3, q4⟩
theorem LK_le {thing : Int32} {c : Nat} {g22 g23 : Nat → Int32} : ∀ (n : Nat) (t : Int32) (m : Nat), LK f o thing c g22 g23 n t m → m ≤ c := by
  intro n
  induction n with
  | zero => intro t m h; exact Nat.le_of_eq h.2
  | succ n ih =>
    intro t m h
    obtain ⟨u, p, q1, -, -, q4, -⟩ := h
    have := ih u p q1
    omega
theorem LK_to {thing : Int32} {c n m : Nat} {g22 g23 : Nat → Int32} {t : Int32} (h : LK f o thing c g22 g23 n t m) : (n = 0 ∧ m = c) ∨ (n ≠ 0 ∧ g23 (n - 1) = nI m) := by
  cases n with
  | zero => exact Or.inl ⟨rfl, h.2⟩
  | succ n =>
    obtain ⟨u, p, -, -, q3, -⟩ := h
    exact Or.inr ⟨by omega, q3⟩
theorem j120 {Q : St → Prop} {rec89 : Int32 → St → Prop} {c : Nat} (hc4 : c ≤ 400) (ho : ∀ k, k < c → ∃ v, v < c ∧ o k = nI v) (hB : MB f o c s) {thing u : Int32} {k p : Nat} (hk : k < 60) (hL : LK f o thing c (s 22) (s 23) k u p) (hu : s 22 k = u) {L0 : List Int32} (hL0 : L0.length ≤ 400) (h30 : s 0 30 = nI L0.length) (h21 : inA (s 21) L0) (k9 : ∀ s', EP s s' → s' 0 30 = nI (L0 ++ mvl f o u p).length → inA (s' 21) (L0 ++ mvl f o u p) → rec89 (nI k + (-1)) s') : j_X6_makeChain_120 Q rec89 (nI k) s := by
  have hp := LK_le k u p hL
  have R : j_X6_makeChain_141 Q rec89 (nI k) (nI p) s := by
    refine ⟨p + 1, ?_⟩
    have e : L0 ++ mvl f o u 0 = L0 := List.append_nil L0
    exact lp146 hc4 ho hB hk hu hp hL0 k9 (p + 1) 0 s (Nat.zero_le _) (by omega) EP.rf (by rw [e]; exact h30) (by rw [e]; exact h21)
  unfold j_X6_makeChain_120
  rcases LK_to hL with ⟨a, b⟩ | ⟨a, b⟩
  · rw [a, if_pos (show nI 0 = 0 from rfl), hB.1, ← b]
    rw [a] at R
    exact R
  · have ne : ¬ nI k = 0 := fun q => a (nI_inj (by omega) (by decide) (show nI k = nI 0 from q))
    have e : nI k - 1 = nI (k - 1) := by
      have := nI_p1 (k - 1)
      rw [show k - 1 + 1 = k by omega] at this
      exact this
    rw [if_neg ne, e, ix_nI (by omega), b]
    exact ⟨vin_n (by omega) (by decide), R⟩
theorem lp89 {Q : St → Prop} {c : Nat} {thing : Int32} (hc4 : c ≤ 400) (ho : ∀ k, k < c → ∃ v, v < c ∧ o k = nI v) (hF : CF f o s0 c) (hB : MB f o c s1) (k9 : ∀ s', EP s1 s' → s' 0 30 = nI (cl f o c thing).length → inA (s' 21) (cl f o c thing) → Q s') : ∀ (g k : Nat) (u : Int32) (m : Nat) (s : St), k ≤ 60 → k < g → EP s1 s → LK f o thing c (s1 22) (s1 23) k u m → s 0 30 = nI (cl f o m u).length → inA (s 21) (cl f o m u) → lp_X6_makeChain_89 Q g (pz k) s := by
  intro g
  induction g with
  | zero => intro k _ _ _ _ h; exact absurd h (Nat.not_lt_zero _)
  | succ g ih =>
    intro k u m s hk hg hE hL h30 h21
    show b_X6_makeChain_89 Q (lp_X6_makeChain_89 Q g) (pz k) s
    unfold b_X6_makeChain_89
    cases k with
    | zero =>
      rw [if_pos (by decide)]
      obtain ⟨e1, e2⟩ := hL
      rw [e1, e2] at h30 h21
      exact k9 s hE h30 h21
    | succ k =>
      obtain ⟨u', p, q1, q2, q3, q4, q5, q6⟩ := hL
      have hpc := LK_le k u' p q1
      have hB' := MB_EP hB hE
      have vk : vp_in (nI k) 60 := vin_n (by omega) (by decide)
      have e22 : s 22 = s1 22 := hE.1 22 (by decide) (by decide)
      have e23 : s 23 = s1 23 := hE.1 23 (by decide) (by decide)
      rw [pz_s, if_neg (nI_pos (by omega)), ix_nI (by omega), e23, q3, ix_nI (by omega), hB'.2.2]
      refine ⟨vk, ?_⟩
      rw [if_neg (nI_pos (by omega))]
      refine ⟨vk, vin_n (by omega) (by decide), ?_⟩
      rw [q6] at h30 h21
      have hlen := cl_len (f := f) (o := o) m (thg f o m)
      refine m_put (L := cl f o m (thg f o m)) (by omega) h30 h21 (fun s2 E2 w1 w2 => ?_)
      have hE2 := hE.tr E2
      have hl2 : (cl f o m (thg f o m) ++ [o m]).length ≤ 400 := by rw [List.length_append]; simp only [List.length_cons, List.length_nil]; omega
      refine j120 hc4 ho (MB_EP hB hE2) (thing := thing) (u := u') (k := k) (p := p) (by omega) ?_ ?_ hl2 w1 w2 (fun s3 E3 z1 z2 => ?_)
      · rw [hE2.1 22 (by decide) (by decide), hE2.1 23 (by decide) (by decide)]; exact q1
      · rw [hE2.1 22 (by decide) (by decide)]; exact q2
      · rw [pz_d]
        have ec := cl_2 hF q5 (by omega) (p - (m + 1)) (by omega)
        rw [show m + 1 + (p - (m + 1)) = p by omega] at ec
        rw [← ec] at z1 z2
        exact ih k u' p s3 (by omega) (by omega) (hE2.tr E3) q1 z1 z2
theorem m_cameAt {Q : Int32 → St → Prop} {c : Nat} (hc4 : c ≤ 400) (ho : ∀ k, k < c → ∃ v, v < c ∧ o k = nI v) (hF : ∀ j t, j < c → bth f o j t → s 4 (ix t) = 2 ∨ s 4 (ix t) = 3) (hB : MB f o c s) {t : Int32} (ht : vp_in t 60) (hy : ∀ b, b < c → bth f o b t → Q (nI b) s) (hn : (∀ j, j < c → ¬ bth f o j t) → Q (-1) s) : wp_X6_cameAt s t Q := by
  obtain ⟨b1, b2, b3⟩ := hB
  have lp : ∀ (g k : Nat), k ≤ c → c - k < g → (∀ j, j < k → ¬ bth f o j t) → lp_X6_cameAt_24 Q g t (nI k) s := by
    intro g
    induction g with
    | zero => intro k _ h; exact absurd h (Nat.not_lt_zero _)
    | succ g ih =>
      intro k hk hg hno
      show b_X6_cameAt_24 Q (lp_X6_cameAt_24 Q g) t (nI k) s
      unfold b_X6_cameAt_24 j_X6_cameAt_64 j_X6_cameAt_78
      rw [b1]
      by_cases h : k < c
      · rw [if_pos ((nI_ltI (by omega) (by omega)).mpr h)]
        have v1 : vp_in (nI k) 401 := vin_n (by omega) (by decide)
        obtain ⟨v, hv, ev⟩ := ho k h
        have x0 : 0 ≤ (o k).toInt ∧ (o k).toInt ≤ 400 := by rw [ev, nI_toInt (by omega)]; omega
        obtain ⟨a0, d0⟩ := idx80 x0.1 x0.2
        obtain ⟨a4, d4⟩ := idx8 x0.1 x0.2 (w := 4) (n := 4) rfl (by decide)
        unfold nm
        simp only [ix_nI (show k < 2 ^ 31 by omega), b3, b2, v1, a0, a4, d0, d4, true_and, nI_1]
        have nx : ¬ bth f o k t → lp_X6_cameAt_24 Q g t (nI (k + 1)) s := by
          intro q
          refine ih (k + 1) h (by omega) (fun j hj => ?_)
          by_cases e : j = k
          · rw [e]; exact q
          · exact hno j (by omega)
        have T : (f (8 * ix (o k)) = 11 ∨ f (8 * ix (o k)) = 12) → (if f (8 * ix (o k) + 4) = t then Q (nI k) s else lp_X6_cameAt_24 Q g t (nI (k + 1)) s) := by
          intro hk
          by_cases e : f (8 * ix (o k) + 4) = t
          · rw [if_pos e]; exact hy k h ⟨hk, e⟩
          · rw [if_neg e]; exact nx (fun q => e q.2)
        by_cases e1 : f (8 * ix (o k)) = 11
        · rw [if_pos e1]; exact T (Or.inl e1)
        · rw [if_neg e1]
          by_cases e2 : f (8 * ix (o k)) = 12
          · rw [if_pos e2]; exact T (Or.inr e2)
          · rw [if_neg e2]; exact nx (fun q => q.1.elim e1 e2)
      · have e : k = c := by omega
        rw [if_neg (fun q => h ((nI_ltI (by omega) (by omega)).mp q))]
        rw [e] at hno
        exact hn hno
  unfold wp_X6_cameAt j_X6_cameAt_22
  have go : ∃ n9 : Nat, lp_X6_cameAt_24 Q n9 t 0 s := ⟨c + 1, lp (c + 1) 0 (Nat.zero_le _) (by omega) (fun j hj => absurd hj (Nat.not_lt_zero _))⟩
  refine ⟨ht, ?_⟩
  by_cases e1 : s 4 (ix t) = 2
  · rw [if_pos e1]; exact go
  · rw [if_neg e1]
    refine ⟨ht, ?_⟩
    by_cases e2 : s 4 (ix t) = 3
    · rw [if_pos e2]; exact go
    · rw [if_neg e2]; exact hn (fun j hj q => (hF j t hj q).elim e1 e2)
def EM (s0 s : St) : Prop := (∀ q, q ≠ 21 → q ≠ 22 → q ≠ 23 → q ≠ 0 → s q = s0 q) ∧ ∀ j, j ≠ 30 → s 0 j = s0 0 j
theorem EM_EP (h : EM s0 s) (h2 : EP s s') : EM s0 s' := ⟨fun q a b c d => (h2.1 q d a).trans (h.1 q a b c d), fun j a => (h2.2 j a).trans (h.2 j a)⟩
theorem lp21 {Q : St → Prop} {c : Nat} {thing : Int32} {A : Nat → Nat} (hc4 : c ≤ 400) (ho : ∀ k, k < c → ∃ v, v < c ∧ o k = nI v) (hK : SK s0) (hF : CF f o s0 c) (hB : MB f o c s0) (hA1 : ∀ j j', j ≤ j' → A j ≤ A j') (hA3 : ∀ j t, j < c → bth f o j t → A j < A (j + 1) ∧ 0 < A j) (k9 : ∀ s', EM s0 s' → s' 0 30 = nI (cl f o c thing).length → inA (s' 21) (cl f o c thing) → Q s') : ∀ (g n : Nat) (t : Int32) (m : Nat) (s : St), m + 1 < g → EM s0 s → s 0 30 = 0 → LK f o thing c (s 22) (s 23) n t m → rg (s0 0 2) t → n + A m ≤ 60 → (n = 0 ∨ 0 < A m) → (∀ b, b < c → bth f o b t → b < m) → lp_X6_makeChain_21 Q g (nI n) t s := by
  intro g
  induction g with
  | zero => intro n t m s h; exact absurd h (Nat.not_lt_zero _)
  | succ g ih =>
    intro n t m s hg hE h30 hL ht hb1 hb2 hbm
    show b_X6_makeChain_21 Q (lp_X6_makeChain_21 Q g) (nI n) t s
    unfold b_X6_makeChain_21 j_X6_makeChain_77
    have hn60 : n < 60 := by rcases hb2 with e | e <;> omega
    obtain ⟨hl, hv⟩ := th_lt hK ht
    have vn : vp_in (nI n) 60 := vin_n hn60 (by decide)
    have hmc := LK_le n t m hL
    rw [if_neg ht.1]
    unfold nmS
    simp only [ix_nI (show n < 2 ^ 31 by omega), vn, true_and]
    obtain ⟨B1, B2, B3⟩ := hB
    have e0 : up2 s 22 n t 0 = s 0 := up2_ne (by decide)
    have hBm : MB f o c (up2 s 22 n t) := by
      refine ⟨?_, ?_, ?_⟩
      · rw [e0, hE.2 3 (by decide)]; exact B1
      · rw [up2_ne (by decide), hE.1 6 (by decide) (by decide) (by decide) (by decide)]; exact B2
      · rw [up2_ne (by decide), hE.1 20 (by decide) (by decide) (by decide) (by decide)]; exact B3
    have e4 : up2 s 22 n t 4 = s0 4 := by rw [up2_ne (by decide)]; exact hE.1 4 (by decide) (by decide) (by decide) (by decide)
    have W : ∀ y : Int32, EM s0 (up2 (up2 s 22 n t) 23 n y) ∧ up2 (up2 s 22 n t) 23 n y 0 30 = 0 ∧ MB f o c (up2 (up2 s 22 n t) 23 n y) ∧ LK f o thing c (up2 (up2 s 22 n t) 23 n y 22) (up2 (up2 s 22 n t) 23 n y 23) n t m ∧ up2 (up2 s 22 n t) 23 n y 22 n = t ∧ up2 (up2 s 22 n t) 23 n y 23 n = y ∧ up2 (up2 s 22 n t) 23 n y 21 = s 21 := by
      intro y
      refine ⟨⟨fun q a b d e => ?_, fun j hj => ?_⟩, ?_, ⟨?_, ?_, ?_⟩, LK_congr n t m (fun i hi => ⟨?_, ?_⟩) hL, ?_, ?_, ?_⟩
      · rw [up2_ne d, up2_ne b]; exact hE.1 q a b d e
      · rw [up2_ne (by decide), e0]; exact hE.2 j hj
      · rw [up2_ne (by decide), e0]; exact h30
      · rw [up2_ne (by decide)]; exact hBm.1
      · rw [up2_ne (by decide)]; exact hBm.2.1
      · rw [up2_ne (by decide)]; exact hBm.2.2
      · rw [up2_ne (by decide), up2_eq, upd_n _ _ (by omega)]
      · rw [up2_eq, upd_n _ _ (by omega), up2_ne (by decide)]
      · rw [up2_ne (by decide), up2_eq, upd_s]
      · rw [up2_eq, upd_s]
      · rw [up2_ne (by decide), up2_ne (by decide)]
    refine m_cameAt hc4 ho (fun j t' hj hb => by rw [e4]; exact (hF.1 j t' hj hb).1.2) hBm hv (fun b hbc hb => ?_) (fun hno => ?_)
    · obtain ⟨w1, w2, w3, w4, w5, w6, w7⟩ := W (nI b)
      generalize up2 (up2 s 22 n t) 23 n (nI b) = s2 at w1 w2 w3 w4 w5 w6 w7 ⊢
      have hbm' := hbm b hbc hb
      obtain ⟨v, hvv, ev⟩ := ho b hbc
      have x0 : 0 ≤ (o b).toInt ∧ (o b).toInt ≤ 400 := by rw [ev, nI_toInt (by omega)]; omega
      obtain ⟨a1, d1⟩ := idx8 x0.1 x0.2 (w := 1) (n := 1) rfl (by decide)
      have hA := hA3 b t hbc hb
      have hA' := hA1 (b + 1) m hbm'
      simp only [w6, w3.2.1, w3.2.2, ix_nI (show b < 2 ^ 31 by omega), a1, d1, true_and, nI_1]
      rw [if_neg (nI_pos (by omega))]
      refine ⟨vin_n (by omega) (by decide), ?_⟩
      refine ih (n + 1) (thg f o b) b s2 (by omega) w1 w2 ⟨t, m, w4, w5, w6, hbm', hb, rfl⟩ (hF.1 b t hbc hb).2 (by omega) (Or.inr hA.2) (fun b' hb' hbb => hF.2.2.2.1 b b' t hbc hb' hb hbb)
    · obtain ⟨w1, w2, w3, w4, w5, w6, w7⟩ := W (-1)
      generalize up2 (up2 s 22 n t) 23 n (-1) = s2 at w1 w2 w3 w4 w5 w6 w7 ⊢
      simp only [w6, nI_1]
      rw [if_pos (by decide)]
      cases g with
      | zero => omega
      | succ g =>
        show b_X6_makeChain_21 Q (lp_X6_makeChain_21 Q g) (nI (n + 1)) (-1) s2
        unfold b_X6_makeChain_21 nm
        rw [if_pos (by decide)]
        refine ⟨n + 2, ?_⟩
        show lp_X6_makeChain_89 Q (n + 2) (nI (n + 1) - 1) s2
        rw [nI_p1]
        show b_X6_makeChain_89 Q (lp_X6_makeChain_89 Q (n + 1)) (nI n) s2
        unfold b_X6_makeChain_89
        rw [if_neg (nI_pos (by omega)), ix_nI (by omega), w6, if_pos (by decide)]
        refine ⟨vn, ?_⟩
        refine j120 hc4 ho w3 (thing := thing) (u := t) (k := n) (p := m) hn60 w4 w5 (L0 := []) (Nat.zero_le _) w2 inA_nil (fun s3 E3 z1 z2 => ?_)
        rw [pz_d]
        rw [List.nil_append, ← cl_1 m (fun j hj => hno j (by omega))] at z1 z2
        refine lp89 hc4 ho hF w3 (fun s4 E4 y1 y2 => k9 s4 (EM_EP w1 E4) y1 y2) (n + 1) n t m s3 (by omega) (by omega) E3 w4 z1 z2
end CHAINM
