section MOD
variable {s : St} {Q : Int32 → St → Prop}
theorem m_isIn (v lo hi : Int32) : wp_X6_isIn s v lo hi Q ↔ Q (bI (¬ v < lo ∧ ¬ hi < v)) s := by
  unfold wp_X6_isIn
  by_cases h1 : v < lo
  · rw [if_pos h1, bI_f (fun k => k.1 h1)]
  · rw [if_neg h1]
    by_cases h2 : hi < v
    · rw [if_pos h2, bI_f (fun k => k.2 h2)]
    · rw [if_neg h2, bI_t ⟨h1, h2⟩]
theorem rg_pred {n v : Int32} (hn : 0 ≤ n.toInt) : (¬ v < 0 ∧ ¬ (n - 1) < v) ↔ rg n v := by
  rw [rg_i, ltI, ltI, t0_]
  have e : (n - 1).toInt = n.toInt - 1 := by
    have := bnd n
    rw [sub_i] <;> rw [t1_] <;> omega
  rw [e]
  omega
theorem m_isIn0 {n : Int32} (hn : 0 ≤ n.toInt) (v : Int32) : wp_X6_isIn s v 0 (n - 1) Q ↔ Q (bI (rg n v)) s := by
  rw [m_isIn, bI_congr (rg_pred hn)]
theorem m_isKept (hK : SK s) (hh : I_how s) (x : Int32) : wp_X6_isKept s x Q ↔ Q (bI (rg (s 0 2) x ∧ kpt s x)) s := by
  unfold wp_X6_isKept
  rw [m_isIn0 hK.2.2.1.1]
  by_cases h1 : rg (s 0 2) x
  · obtain ⟨hl, hv⟩ := th_lt hK h1
    rw [bI_t h1, if_neg (by decide)]
    unfold kpt
    rcases hh _ hl with k | k | k | k | k
    · simp only [hv, k, true_and, if_true]; rw [bI_f (by simp)]
    · simp only [hv, k, true_and, if_true]; rw [bI_t ⟨h1, Or.inl trivial⟩]; simp
    · simp only [hv, k, true_and, if_true]; rw [bI_t ⟨h1, Or.inr (Or.inl trivial)⟩]; simp
    · simp only [hv, k, true_and, if_true]; rw [bI_t ⟨h1, Or.inr (Or.inr trivial)⟩]; simp
    · simp only [hv, k, true_and, if_true]; rw [bI_f (by simp)]; simp
  · rw [bI_f h1, if_pos rfl, bI_f (fun k => h1 k.1)]
theorem m_isKeeper (hK : SK s) (x : Int32) : wp_X6_isKeeper s x Q ↔ Q (bI (isKp s x)) s := by
  unfold wp_X6_isKeeper isKp
  rw [m_isIn0 hK.1.1]
  by_cases h1 : rg (s 0 0) x
  · rw [bI_t h1, if_neg (by decide)]
    have hv := rg_in h1 (N := 20) hK.1.2
    by_cases h2 : s 1 (ix x) = 0
    · rw [if_pos h2, bI_f (fun k => k.2 h2)]; simp [hv]
    · rw [if_neg h2, bI_t ⟨h1, h2⟩]; simp [hv]
  · rw [bI_f h1, if_pos rfl, bI_f (fun k => h1 k.1)]
theorem m_isHand (hK : SK s) (x : Int32) : wp_X6_isHand s x Q ↔ Q (bI (rg (s 0 0) x)) s := by
  unfold wp_X6_isHand
  rw [m_isIn0 hK.1.1]
theorem m_hasK (hK : SK s) (a b : Int32) (two : Prop) : wp_X6_hasKeepers s a b (bI two) Q ↔ Q (bI (hasK s a b two)) s := by
  unfold wp_X6_hasKeepers hasK
  simp only [m_isKeeper hK, ifc, bI_0, Classical.not_not]
  by_cases h1 : isKp s a
  · by_cases h2 : two
    · by_cases h3 : b = a
      · simp [h1, h2, h3, bI_f]
      · by_cases h4 : isKp s b
        · simp [h1, h2, h3, h4, bI_t]
        · simp [h1, h2, h3, h4, bI_f]
    · simp [h1, h2, bI_t]
  · simp [h1, bI_f]
theorem m_hasK1 (hK : SK s) (a b : Int32) : wp_X6_hasKeepers s a b 1 Q ↔ Q (bI (hasK s a b True)) s := by
  rw [← bI_t trivial]; exact m_hasK hK a b True
theorem m_hasK0 (hK : SK s) (a b : Int32) : wp_X6_hasKeepers s a b 0 Q ↔ Q (bI (hasK s a b False)) s := by
  rw [← bI_f not_false]; exact m_hasK hK a b False
theorem m_isBag (hK : SK s) {x : Int32} (hx : vp_in x 60) : wp_X6_isBag s x Q ↔ Q (bI (bg s x)) s := by
  unfold wp_X6_isBag bg
  have hr := hK.2.2.2 _ (vin_lt hx)
  have e4 : (s 4 (ix x) = 4) ↔ (s 4 (ix x)).toInt = 4 := eqI _ _
  have e5 : (s 4 (ix x) = 5) ↔ (s 4 (ix x)).toInt = 5 := eqI _ _
  have e3 : (3 < s 4 (ix x)) ↔ 3 < (s 4 (ix x)).toInt := ltI _ _
  by_cases h1 : s 4 (ix x) = 1
  · rw [if_pos h1, bI_t (Or.inl h1)]; simp [hx]
  · rw [if_neg h1]
    by_cases h2 : 3 < s 4 (ix x)
    · rw [if_pos h2, bI_t (Or.inr (by rw [e4, e5]; have := e3.mp h2; omega))]; simp [hx]
    · rw [if_neg h2, bI_f (fun k => by
        rcases k with k | k | k
        · exact h1 k
        · exact h2 (e3.mpr (by have := e4.mp k; omega))
        · exact h2 (e3.mpr (by have := e5.mp k; omega)))]
      simp [hx]
theorem m_isSeal (x : Int32) : wp_X6_isSeal s x Q ↔ Q (bI (isSl s x)) s := by
  unfold wp_X6_isSeal isSl
  rw [m_isIn]
  have e : (¬ x < 0 ∧ ¬ 599 < x) ↔ rg 600 x := by
    rw [rg_i, ltI, ltI, t0_, show (599 : Int32).toInt = 599 from rfl, show (600 : Int32).toInt = 600 from rfl]
    omega
  rw [bI_congr e]
  by_cases h1 : rg 600 x
  · rw [bI_t h1, if_neg (by decide)]
    have a := rg_i.mp h1
    have hv := (div_in (x := x) (m := 100) (k := 100) (n := 6) rfl (by decide) a.1 a.2).2
    by_cases h2 : x - x / 100 * 100 < s 3 (ix (x / 100))
    · rw [if_pos h2, bI_t ⟨h1, h2⟩]; simp [hv]
    · rw [if_neg h2, bI_f (fun k => h2 k.2)]; simp [hv]
  · rw [bI_f h1, if_pos rfl, bI_f (fun k => h1 k.1)]
theorem m_go {Q : St → Prop} {x : Int32} (hx : vp_in x 60) (u w : Int32) : wp_X6_go s x u w Q ↔ Q (mvE s x u w) := by
  unfold wp_X6_go mvE
  simp only [hx, true_and, nmS]
theorem lpE (hS : SI s) {p : Int32} : ∀ (g n : Nat), n ≤ thN s → thN s - n < g → (∀ x, x < n → ¬ (s 9 x = 1 ∧ s 10 x = p)) → Q (bI (∀ x, x < thN s → ¬ (s 9 x = 1 ∧ s 10 x = p))) s → lp_X6_isEmpty_21 Q g p (nI n) s := by
  intro g
  induction g with
  | zero => intro n _ h; exact absurd h (Nat.not_lt_zero _)
  | succ g ih =>
    intro n hn hg ha hq
    obtain ⟨t1, t2⟩ := thN_le hS.1
    show b_X6_isEmpty_21 Q (lp_X6_isEmpty_21 Q g) p (nI n) s
    unfold b_X6_isEmpty_21 j_X6_isEmpty_51
    rw [t2]
    by_cases h : n < thN s
    · rw [if_pos ((nI_ltI (by omega) (by omega)).mpr h)]
      have hv : vp_in (nI n) 60 := vp_in_nI (by omega) (by decide)
      refine ⟨hv, ?_⟩
      rw [ix_nI (by omega), nI_1]
      have stp : ¬ (s 9 n = 1 ∧ s 10 n = p) → ∀ x, x < n + 1 → ¬ (s 9 x = 1 ∧ s 10 x = p) := by
        intro k x h1
        rcases Nat.lt_or_ge x n with q | q
        · exact ha x q
        · have : x = n := by omega
          subst this; exact k
      by_cases h2 : s 9 n = 1
      · rw [if_pos h2]
        refine ⟨hv, ?_⟩
        by_cases h5 : s 10 n = p
        · rw [if_pos h5]
          rw [bI_f (fun k => k n h ⟨h2, h5⟩)] at hq
          exact hq
        · rw [if_neg h5]
          exact ih (n + 1) h (by omega) (stp (fun k => h5 k.2)) hq
      · rw [if_neg h2]
        exact ih (n + 1) h (by omega) (stp (fun k => h2 k.1)) hq
    · have e : n = thN s := by omega
      rw [if_neg (fun k => h ((nI_ltI (by omega) (by omega)).mp k))]
      rw [← e, bI_t ha] at hq
      exact hq
theorem th_of (hS : SI s) {x : Nat} (hx : x < 60) (h : ¬ s 9 x = 0) : x < thN s := by
  have := hS.2.2.1 x hx h
  have h3 := ixI hS.1.2.2.1.1
  unfold thN
  omega
theorem m_isEmpty (hS : SI s) {p : Int32} (k : Q (bI (emp s p)) s) : wp_X6_isEmpty s p Q := by
  unfold wp_X6_isEmpty
  have hm : ((12 : Int32) * s 0 1).toInt = (s 0 1).toInt * 12 := mul_i' (k := 12) (N := 8) rfl hS.1.2.1.1 hS.1.2.1.2 (by decide)
  have e12 : (12 : Int32) * s 0 1 = s 0 1 * 12 := Int32.mul_comm _ _
  have h0 := hS.1.2.1
  rw [m_isIn0 (by rw [hm]; omega), e12]
  by_cases h1 : rg (s 0 1 * 12) p
  · rw [bI_t h1, if_neg (by decide)]
    refine ⟨thN s + 1, lpE hS (thN s + 1) 0 (Nat.zero_le _) (by omega) (fun x h => absurd h (Nat.not_lt_zero _)) ?_⟩
    have e : (∀ x, x < thN s → ¬ (s 9 x = 1 ∧ s 10 x = p)) ↔ emp s p := by
      have := (thN_le hS.1).1
      refine ⟨fun h => ⟨h1, fun x hx q => h x (th_of hS hx (by rw [q.1]; decide)) q⟩, fun h x hx => h.2 x (by omega)⟩
    rw [bI_congr e]
    exact k
  · rw [bI_f h1, if_pos rfl]
    rw [bI_f (fun q => h1 q.1)] at k
    exact k
theorem m_fits (hS : SI s) {t p : Int32} (ht : vp_in t 60) (k : Q (bI (fts s t p)) s) : wp_X6_fits s t p Q := by
  unfold wp_X6_fits
  refine m_isEmpty hS ?_
  unfold fts at k
  by_cases h1 : emp s p
  · rw [bI_t h1, if_neg (by decide)]
    refine ⟨ht, ?_⟩
    obtain ⟨a0, a1⟩ := pl_96 hS.1.2.1 h1.1
    have hv := (div_in (x := p) (m := 12) (k := 12) (n := 8) rfl (by decide) a0 a1).2
    by_cases h4 : s 4 (ix t) = 4
    · rw [if_pos h4]
      refine ⟨hv, ?_⟩
      by_cases h5 : s 2 (ix (p / 12)) = 0
      · rw [if_pos h5]
        rw [bI_f (fun q => q.2 h4 h5)] at k
        exact k
      · rw [if_neg h5]
        rw [bI_t ⟨h1, fun _ => h5⟩] at k
        exact k
    · rw [if_neg h4]
      rw [bI_t ⟨h1, fun q => absurd q h4⟩] at k
      exact k
  · rw [bI_f h1, if_pos rfl]
    rw [bI_f (fun q => h1 q.1)] at k
    exact k
theorem lpMF (hS : SI s) {dp : Nat → Nat} (hd : ∀ x, x < 60 → dp x ≤ 4 ∧ (s 9 x = 3 → dp x = dp (upx s x) + 1) ∧ (¬ s 9 x = 3 → dp x = 0)) : ∀ (g n x : Nat), x < 60 → dp x < g → dp x ≤ n → Q (bI (frN s n x)) s → lp_X6_isFree_12 Q g (nI x) s := by
  intro g
  induction g with
  | zero => intro n x _ h; exact absurd h (Nat.not_lt_zero _)
  | succ g ih =>
    intro n x hx hg hn hq
    show b_X6_isFree_12 Q (lp_X6_isFree_12 Q g) (nI x) s
    unfold b_X6_isFree_12
    have hv : vp_in (nI x) 60 := vp_in_nI hx (by decide)
    simp only [hv, true_and, nm, ix_nI (show x < 2 ^ 31 by omega)]
    by_cases h3 : s 9 x = 3
    · obtain ⟨u1, u2, u3⟩ := up_in hS hx h3
      have e1 := (hd x hx).2.1 h3
      rw [if_pos h3]
      refine ⟨u2, ?_⟩
      cases n with
      | zero => omega
      | succ n =>
        simp only [frN] at hq
        by_cases h5 : s 12 (upx s x) = -1
        · rw [if_pos h5]
          have : (s 9 x = 3 → s 12 (upx s x) = -1 ∧ frN s n (upx s x)) = frN s n (upx s x) := propext ⟨fun k => (k h3).2, fun k _ => ⟨h5, k⟩⟩
          rw [this] at hq
          have := ih n (upx s x) u3 (by omega) (by omega) hq
          rw [← vin_nI u2] at this
          exact this
        · rw [if_neg h5]
          rw [bI_f (fun k => h5 (k h3).1)] at hq
          exact hq
    · rw [if_neg h3]
      have : frN s n x := by
        cases n with
        | zero => trivial
        | succ n => exact fun k => absurd k h3
      rw [bI_t this] at hq
      exact hq
theorem m_isFree (hS : SI s) {x : Int32} (hr : rg (s 0 2) x) (hk : kpt s x) (k : Q (bI (frN s 4 (ix x))) s) : wp_X6_isFree s x Q := by
  unfold wp_X6_isFree
  rw [m_isKept hS.1 hS.2.1, bI_t ⟨hr, hk⟩, if_neg (by decide)]
  obtain ⟨dp, hd⟩ := hS.2.2.2.2.2.1
  obtain ⟨hl, hv⟩ := th_lt hS.1 hr
  refine ⟨5, ?_⟩
  have := lpMF hS hd 5 4 (ix x) hl (by have := (hd _ hl).1; omega) (hd _ hl).1 k
  rw [← vin_nI hv] at this
  exact this
theorem lpMO (hS : SI s) {dp : Nat → Nat} (hd : ∀ x, x < 60 → dp x ≤ 4 ∧ (s 9 x = 3 → dp x = dp (upx s x) + 1) ∧ (¬ s 9 x = 3 → dp x = 0)) : ∀ (g n x : Nat), x < 60 → dp x < g → dp x ≤ n → Q (nI (otN s n x)) s → lp_X6_outermost_2 Q g (nI x) s := by
  intro g
  induction g with
  | zero => intro n x _ h; exact absurd h (Nat.not_lt_zero _)
  | succ g ih =>
    intro n x hx hg hn hq
    show b_X6_outermost_2 Q (lp_X6_outermost_2 Q g) (nI x) s
    unfold b_X6_outermost_2
    have hv : vp_in (nI x) 60 := vp_in_nI hx (by decide)
    simp only [hv, true_and, nm, ix_nI (show x < 2 ^ 31 by omega)]
    by_cases h3 : s 9 x = 3
    · obtain ⟨u1, u2, u3⟩ := up_in hS hx h3
      have e1 := (hd x hx).2.1 h3
      rw [if_pos h3]
      cases n with
      | zero => omega
      | succ n =>
        simp only [otN, if_pos h3] at hq
        have := ih n (upx s x) u3 (by omega) (by omega) hq
        rw [← vin_nI u2] at this
        exact this
    · rw [if_neg h3]
      have : otN s n x = x := by
        cases n with
        | zero => rfl
        | succ n => simp only [otN, if_neg h3]
      rw [this] at hq
      exact hq
theorem m_outermost (hS : SI s) {x : Int32} (hr : rg (s 0 2) x) (k : Q (nI (otN s 4 (ix x))) s) : wp_X6_outermost s x Q := by
  unfold wp_X6_outermost
  obtain ⟨dp, hd⟩ := hS.2.2.2.2.2.1
  obtain ⟨hl, hv⟩ := th_lt hS.1 hr
  refine ⟨5, ?_⟩
  have := lpMO hS hd 5 4 (ix x) hl (by have := (hd _ hl).1; omega) (hd _ hl).1 k
  rw [← vin_nI hv] at this
  exact this
theorem lpMD (hS : SI s) {dp : Nat → Nat} (hd : ∀ x, x < 60 → dp x ≤ 4 ∧ (s 9 x = 3 → dp x = dp (upx s x) + 1) ∧ (¬ s 9 x = 3 → dp x = 0)) : ∀ (g n x : Nat), x < 60 → dp x < g → Q (nI (n + dp x)) s → lp_X6_depth_4 Q g (nI n) (nI x) s := by
  intro g
  induction g with
  | zero => intro n x _ h; exact absurd h (Nat.not_lt_zero _)
  | succ g ih =>
    intro n x hx hg hq
    show b_X6_depth_4 Q (lp_X6_depth_4 Q g) (nI n) (nI x) s
    unfold b_X6_depth_4
    have hv : vp_in (nI x) 60 := vp_in_nI hx (by decide)
    simp only [hv, true_and, nm, ix_nI (show x < 2 ^ 31 by omega)]
    by_cases h3 : s 9 x = 3
    · obtain ⟨u1, u2, u3⟩ := up_in hS hx h3
      have e1 := (hd x hx).2.1 h3
      rw [if_pos h3, nI_1]
      have := ih (n + 1) (upx s x) u3 (by omega) (by rw [e1] at hq; rw [show n + 1 + dp (upx s x) = n + (dp (upx s x) + 1) by omega]; exact hq)
      rw [← vin_nI u2] at this
      exact this
    · rw [if_neg h3]
      rw [(hd x hx).2.2 h3] at hq
      exact hq
theorem m_depth (hS : SI s) {dp : Nat → Nat} (hd : ∀ x, x < 60 → dp x ≤ 4 ∧ (s 9 x = 3 → dp x = dp (upx s x) + 1) ∧ (¬ s 9 x = 3 → dp x = 0)) {x : Int32} (hv : vp_in x 60) (k : Q (nI (dp (ix x))) s) : wp_X6_depth s x Q := by
  unfold wp_X6_depth
  have hl := vin_lt hv
  refine ⟨5, ?_⟩
  have := lpMD hS hd 5 0 (ix x) hl (by have := (hd _ hl).1; omega) (by rw [Nat.zero_add]; exact k)
  rw [← vin_nI hv] at this
  exact this
theorem lpMW (hS : SI s) {dp : Nat → Nat} (hd : ∀ x, x < 60 → dp x ≤ 4 ∧ (s 9 x = 3 → dp x = dp (upx s x) + 1) ∧ (¬ s 9 x = 3 → dp x = 0)) {y : Nat} (hy : y < 60) : ∀ (g x : Nat), x < 60 → dp x < g → Q (bI (wi s x y)) s → lp_X6_isWithin_2 Q g (nI y) (nI x) s := by
  intro g
  induction g with
  | zero => intro x _ h; exact absurd h (Nat.not_lt_zero _)
  | succ g ih =>
    intro x hx hg hq
    show b_X6_isWithin_2 Q (lp_X6_isWithin_2 Q g) (nI y) (nI x) s
    unfold b_X6_isWithin_2 j_X6_isWithin_27
    have hv : vp_in (nI x) 60 := vp_in_nI hx (by decide)
    by_cases e : x = y
    · rw [if_pos (by rw [e]), if_pos (by rw [e])]
      rw [bI_t ⟨0, e⟩] at hq
      exact hq
    · have ne : ¬ nI x = nI y := fun q => e (nI_inj (by omega) (by omega) q)
      rw [if_neg ne]
      simp only [hv, true_and, nm, ix_nI (show x < 2 ^ 31 by omega)]
      by_cases h3 : s 9 x = 3
      · obtain ⟨u1, u2, u3⟩ := up_in hS hx h3
        have e1 := (hd x hx).2.1 h3
        rw [if_pos h3]
        rw [bI_congr (wi_up e h3)] at hq
        have := ih (upx s x) u3 (by omega) hq
        rw [← vin_nI u2] at this
        exact this
      · rw [if_neg h3, if_neg ne]
        rw [bI_f (wi_no e h3)] at hq
        exact hq
theorem m_isWithin (hS : SI s) {x y : Int32} (hv : vp_in x 60) (hy : vp_in y 60) (k : Q (bI (wi s (ix x) (ix y))) s) : wp_X6_isWithin s x y Q := by
  unfold wp_X6_isWithin
  obtain ⟨dp, hd⟩ := hS.2.2.2.2.2.1
  have hl := vin_lt hv
  refine ⟨5, ?_⟩
  have := lpMW hS hd (vin_lt hy) 5 (ix x) hl (by have := (hd _ hl).1; omega) k
  rw [← vin_nI hv, ← vin_nI hy] at this
  exact this
theorem cntP_ext {p : Nat → Prop} : ∀ (n m : Nat), m ≤ n → (∀ y, m ≤ y → y < n → ¬ p y) → cntP p n = cntP p m := by
  intro n
  induction n with
  | zero => intro m hm _; have : m = 0 := by omega
            subst this; rfl
  | succ n ih =>
    intro m hm h
    by_cases e : m = n + 1
    · subst e; rfl
    · simp only [cntP]
      rw [ih m (by omega) (fun y h1 h2 => h y h1 (by omega)), cI_f (h n (by omega) (by omega)), Nat.add_zero]
theorem lpMI (hS : SI s) {b : Int32} : ∀ (g n : Nat), n ≤ thN s → thN s - n < g → Q (nI (cntP (fun y => s 9 y = 3 ∧ s 10 y = b) (thN s))) s → lp_X6_inside_4 Q g b (nI (cntP (fun y => s 9 y = 3 ∧ s 10 y = b) n)) (nI n) s := by
  intro g
  induction g with
  | zero => intro n _ h; exact absurd h (Nat.not_lt_zero _)
  | succ g ih =>
    intro n hn hg hq
    obtain ⟨t1, t2⟩ := thN_le hS.1
    show b_X6_inside_4 Q (lp_X6_inside_4 Q g) b _ (nI n) s
    unfold b_X6_inside_4 j_X6_inside_37 j_X6_inside_38
    rw [t2]
    by_cases h : n < thN s
    · rw [if_pos ((nI_ltI (by omega) (by omega)).mpr h)]
      have hv : vp_in (nI n) 60 := vp_in_nI (by omega) (by decide)
      have := ih (n + 1) h (by omega) hq
      simp only [cntP] at this
      simp only [hv, true_and, nm, ix_nI (show n < 2 ^ 31 by omega), nI_1]
      by_cases h2 : s 9 n = 3
      · rw [if_pos h2]
        by_cases h5 : s 10 n = b
        · rw [if_pos h5]
          rw [cI_t ⟨h2, h5⟩] at this
          exact this
        · rw [if_neg h5]
          rw [cI_f (fun k => h5 k.2)] at this
          rw [show (0 : Int32) = nI 0 from rfl, nI_add]
          exact this
      · rw [if_neg h2]
        rw [cI_f (fun k => h2 k.1)] at this
        rw [show (0 : Int32) = nI 0 from rfl, nI_add]
        exact this
    · have e : n = thN s := by omega
      rw [if_neg (fun k => h ((nI_ltI (by omega) (by omega)).mp k)), e]
      exact hq
theorem m_inside (hS : SI s) {b : Int32} (k : Q (nI (cnB s b)) s) : wp_X6_inside s b Q := by
  unfold wp_X6_inside
  refine ⟨thN s + 1, ?_⟩
  have e : cnB s b = cntP (fun y => s 9 y = 3 ∧ s 10 y = b) (thN s) := by
    unfold cnB
    refine cntP_ext 60 _ (thN_le hS.1).1 (fun y h1 h2 q => ?_)
    have := th_of hS h2 (by rw [q.1]; decide)
    omega
  rw [e] at k
  exact lpMI hS (thN s + 1) 0 (Nat.zero_le _) (by omega) k
end MOD
