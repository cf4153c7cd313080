section SLP
variable {σ : St} {r : Nat} {Q : St → Prop}
theorem nI8 {n : Nat} (h : n ≤ 400) : nI n * 8 = nI (8 * n) := by
  rw [show (8 : Int32) = nI 8 from rfl, pk_mul, Nat.mul_comm]
def addC (d f : Nat → Int32) (n : Nat) : Nat → Int32 := va_cpy d f 0 (8 * n) 8
theorem addC_in (d f : Nat → Int32) (n j : Nat) (h : j < 8) : addC d f n (8 * n + j) = d j := by
  unfold addC
  rw [pk_cpy_in (by omega) (by omega)]
  congr 1
  omega
theorem addC_out (d f : Nat → Int32) {n k : Nat} (h : k < 8 * n) : addC d f n k = f k := by
  unfold addC
  rw [pk_cpy_out (Or.inl h)]
theorem c_add (hr : r = 7 ∨ r = 10) {n : Nat} (hn : σ r 2 = nI n) (hn4 : n < 400) (hv : ∀ k, k < n → ∃ v, v < n ∧ σ (r + 2) k = nI v) (k : Q (upr (up2 (upr σ (r + 1) (addC (σ 29) (σ (r + 1)) n)) r 2 (nI (n + 1))) (r + 2) (ins (fun k => addC (σ 29) (σ (r + 1)) n (8 * k + 6)) n (σ (r + 2))))) : wp_X2_add r σ Q := by
  unfold wp_X2_add
  have e400 : nI n < 400 := by rw [show (400 : Int32) = nI 400 from rfl, nI_ltI (by omega) (by decide)]; omega
  rw [hn, if_pos e400, if_neg (by decide), nI8 (by omega)]
  have i8 : ix 8 = 8 := by decide
  have i0 : ix 0 = 0 := by decide
  rw [ix_nI (by omega), i8, i0]
  refine ⟨⟨by decide, nI_pos (by omega), by decide, by omega, by omega⟩, ?_⟩
  simp only [nmS]
  have e2 : upr σ (r + 1) (va_cpy (σ 29) (σ (r + 1)) 0 (8 * n) 8) r 2 = nI n := by rw [upr_ne (by omega)]; exact hn
  rw [e2, up2_eq, upd_s, nI_1, nI_pred]
  have hk : Q (upr (up2 (upr σ (r + 1) (va_cpy (σ 29) (σ (r + 1)) 0 (8 * n) 8)) r 2 (nI (n + 1))) (r + 2) (ins (fun k => (up2 (upr σ (r + 1) (va_cpy (σ 29) (σ (r + 1)) 0 (8 * n) 8)) r 2 (nI (n + 1))) (r + 1) (8 * k + 6)) n ((up2 (upr σ (r + 1) (va_cpy (σ 29) (σ (r + 1)) 0 (8 * n) 8)) r 2 (nI (n + 1))) (r + 2)))) := by
    rw [up2_ne (by omega), upr_at, up2_ne (by omega), upr_ne (by omega)]
    exact k
  refine c_putInOrder hr (n := n + 1) (i := n) ?_ (by omega) (by omega) (fun q hq => ?_) hk
  · rw [up2_eq, upd_s]
  · rw [up2_ne (by omega), upr_ne (by omega)]
    obtain ⟨v, h1, h2⟩ := hv q hq
    exact ⟨v, by omega, h2⟩
theorem lpDr {n p : Nat} {o o1 : Nat → Int32} (hn4 : n < 400) (hp : p ≤ n) (h1 : o1 p = nI n) (h2 : ∀ k, k < p → o1 k = o k) (h3 : ∀ k, p < k → k ≤ n → o1 k = o (k - 1)) (ho : ∀ k, k < n → ¬ o k = nI n) {τ : St} (ht : τ r 2 = nI n) (k9 : ∀ o' : Nat → Int32, (∀ k, k < n → o' k = o k) → Q (upr τ (r + 2) o')) : ∀ (g k : Nat) (f : Nat → Int32), k ≤ n → n - k < g → (∀ j, j < k → f j = o j) → (∀ j, k ≤ j → f j = o1 j) → lp_X2_dropLast_22 r Q g (bI (p < k)) (nI k) (upr τ (r + 2) f) := by
  intro g
  induction g with
  | zero => intro k f _ h; exact absurd h (Nat.not_lt_zero _)
  | succ g ih =>
    intro k f hk hg hf1 hf2
    show b_X2_dropLast_22 r Q (lp_X2_dropLast_22 r Q g) (bI (p < k)) (nI k) _
    unfold b_X2_dropLast_22 j_X2_dropLast_47 j_X2_dropLast_52 j_X2_dropLast_71
    have er : upr τ (r + 2) f r 2 = nI n := by rw [upr_ne (by omega)]; exact ht
    rw [er]
    by_cases h : k < n
    · rw [if_pos ((nI_ltI (by omega) (by omega)).mpr h)]
      have v1 : vp_in (nI k) 400 := vin_n (by omega) (by decide)
      have v2 : vp_in (nI (k + 1)) 400 := vin_n (by omega) (by decide)
      simp only [nmS, nI_1, upr_at, ix_nI (show k < 2 ^ 31 by omega), ix_nI (show k + 1 < 2 ^ 31 by omega), upr2, v1, v2, true_and]
      -- with the mark set the next one comes down
      have dn : p ≤ k → lp_X2_dropLast_22 r Q g 1 (nI (k + 1)) (upr τ (r + 2) (upd f k (f (k + 1)))) := by
        intro hpk
        have := ih (k + 1) (upd f k (f (k + 1))) h (by omega) (fun j hj => ?_) (fun j hj => ?_)
        · rw [bI_t (show p < k + 1 by omega)] at this; exact this
        · by_cases e : j = k
          · rw [e, upd_s, hf2 _ (by omega), h3 _ (by omega) (by omega)]; rfl
          · rw [upd_n _ _ e]; exact hf1 j (by omega)
        · rw [upd_n _ _ (by omega)]; exact hf2 j (by omega)
      have st : k < p → lp_X2_dropLast_22 r Q g 0 (nI (k + 1)) (upr τ (r + 2) f) := by
        intro hpk
        have := ih (k + 1) f h (by omega) (fun j hj => ?_) (fun j hj => hf2 j (by omega))
        · rw [bI_f (show ¬ p < k + 1 by omega)] at this; exact this
        · by_cases e : j = k
          · rw [e, hf2 _ (Nat.le_refl _), h2 _ hpk]
          · exact hf1 j (by omega)
      by_cases hpk : p < k
      · rw [bI_t hpk, if_neg (by decide), if_neg (by decide)]
        exact dn (by omega)
      · rw [bI_f hpk, if_pos rfl]
        by_cases e : k = p
        · rw [if_pos (by rw [hf2 k (Nat.le_refl _), e, h1]), if_neg (by decide)]
          exact dn (by omega)
        · rw [if_neg (by rw [hf2 k (Nat.le_refl _), h2 k (by omega)]; exact ho k h), if_pos trivial]
          exact st (by omega)
    · have e : k = n := by omega
      rw [if_neg (fun q => h ((nI_ltI (by omega) (by omega)).mp q))]
      exact k9 f (fun j hj => hf1 j (by omega))
theorem c_dropLast {n p : Nat} {o : Nat → Int32} (hn : σ r 2 = nI (n + 1)) (hn4 : n < 400) (hp : p ≤ n) (h1 : σ (r + 2) p = nI n) (h2 : ∀ k, k < p → σ (r + 2) k = o k) (h3 : ∀ k, p < k → k ≤ n → σ (r + 2) k = o (k - 1)) (ho : ∀ k, k < n → ¬ o k = nI n) (k9 : ∀ o' : Nat → Int32, (∀ k, k < n → o' k = o k) → Q (upr (up2 σ r 2 (nI n)) (r + 2) o')) : wp_X2_dropLast r σ Q := by
  unfold wp_X2_dropLast
  rw [hn, if_pos (by rw [show (0 : Int32) = nI 0 from rfl, nI_ltI (by decide) (by omega)]; omega), nI_pred]
  simp only [nmS]
  refine ⟨n + 1, ?_⟩
  have := lpDr (Q := Q) hn4 hp h1 h2 h3 ho (τ := up2 σ r 2 (nI n)) (by rw [up2_eq, upd_s]) k9 (n + 1) 0 (σ (r + 2)) (Nat.zero_le _) (by omega) (fun j hj => absurd hj (Nat.not_lt_zero _)) (fun j _ => rfl)
  rw [bI_f (Nat.not_lt_zero _)] at this
  have e : upr (up2 σ r 2 (nI n)) (r + 2) (σ (r + 2)) = up2 σ r 2 (nI n) := by
    have := upr_same (up2 σ r 2 (nI n)) (r + 2)
    rw [up2_ne (by omega)] at this
    exact this
  rw [e] at this
  exact this
theorem lpAl (hr : r = 7 ∨ r = 10) {τ : St} {n : Nat} (hn : τ r 2 = nI n) (hn4 : n ≤ 400) {o : Nat → Int32} (k9 : Q (upr τ (r + 2) (ordN (fun k => τ (r + 1) (8 * k + 6)) o n))) : ∀ (g m : Nat), m ≤ n → n - m < g → lp_X2_alterCell_40 r Q g (nI m) (upr τ (r + 2) (ordN (fun k => τ (r + 1) (8 * k + 6)) o m)) := by
  intro g
  induction g with
  | zero => intro m _ h; exact absurd h (Nat.not_lt_zero _)
  | succ g ih =>
    intro m hm hg
    show b_X2_alterCell_40 r Q (lp_X2_alterCell_40 r Q g) (nI m) _
    unfold b_X2_alterCell_40
    have er : upr τ (r + 2) (ordN (fun k => τ (r + 1) (8 * k + 6)) o m) r 2 = nI n := by rw [upr_ne (by omega)]; exact hn
    rw [er]
    by_cases h : m < n
    · rw [if_pos ((nI_ltI (by omega) (by omega)).mpr h)]
      refine c_putInOrder hr (n := n) er hn4 h (fun k hk => ?_) ?_
      · rw [upr_at]
        obtain ⟨v, h1, h2⟩ := ordN_rng (mn := fun k => τ (r + 1) (8 * k + 6)) o m k hk
        exact ⟨v, by omega, h2⟩
      · rw [upr_upr, upr_at, upr_ne (by omega), nI_1]
        exact ih (m + 1) h (by omega)
    · have e : m = n := by omega
      rw [if_neg (fun q => h ((nI_ltI (by omega) (by omega)).mp q)), e]
      exact k9
theorem c_alterCell (hr : r = 7 ∨ r = 10) {n i : Nat} (hn : σ r 2 = nI n) (hn4 : n ≤ 400) (hi : i < n) {w v : Int32} (hw0 : ¬ w < 0) (hw6 : ¬ 6 < w) (k6 : w = 6 → Q (upr (up2 σ (r + 1) (8 * i + 6) v) (r + 2) (ordN (fun k => upd (σ (r + 1)) (8 * i + 6) v (8 * k + 6)) (σ (r + 2)) n))) (k0 : ¬ w = 6 → Q (up2 σ (r + 1) (8 * i + ix w) v)) : wp_X2_alterCell r σ (nI i) w v Q := by
  unfold wp_X2_alterCell
  have hrg : rg (σ r 2) (nI i) := by rw [hn, rg_i, nI_toInt (by omega), nI_toInt (by omega)]; omega
  have wb : 0 ≤ w.toInt ∧ w.toInt ≤ 6 := by
    rw [ltI] at hw0 hw6
    rw [t0_] at hw0
    rw [show (6 : Int32).toInt = 6 from rfl] at hw6
    omega
  have w8 : w < 8 := by rw [ltI, show (8 : Int32).toInt = 8 from rfl]; omega
  rw [s_has, bI_t hrg, if_neg (by decide), if_neg hw0, if_pos w8, nI8 (by omega)]
  have hw : w = nI (ix w) := z_of wb.1
  have hwl := ixI wb.1
  have e1 : nI (8 * i) + w = nI (8 * i + ix w) := by rw [hw, nI_add, ix_nI (by omega)]
  rw [e1, ix_nI (by omega)]
  refine ⟨vin_n (by omega) (by decide), ?_⟩
  simp only [nmS]
  by_cases e : w = 6
  · rw [if_pos e]
    have e6 : ix w = 6 := by rw [e]; decide
    rw [e6]
    refine ⟨n + 1, ?_⟩
    have hk := k6 e
    have := lpAl hr (τ := up2 σ (r + 1) (8 * i + 6) v) (n := n) (by rw [up2_ne (by omega)]; exact hn) hn4 (o := σ (r + 2)) (Q := Q) (by
      rw [up2_eq]; exact hk) (n + 1) 0 (Nat.zero_le _) (by omega)
    have e2 : upr (up2 σ (r + 1) (8 * i + 6) v) (r + 2) (σ (r + 2)) = up2 σ (r + 1) (8 * i + 6) v := by
      have := upr_same (up2 σ (r + 1) (8 * i + 6) v) (r + 2)
      rw [up2_ne (by omega)] at this
      exact this
    simp only [ordN] at this
    rw [e2] at this
    exact this
  · rw [if_neg e]; exact k0 e
theorem c_copyFrom {r2 n : Nat} (hne : ∀ a b : Nat, a < 3 → b < 3 → r + a ≠ r2 + b) (hn : σ r2 2 = nI n) (hn4 : n ≤ 400) (k9 : Q (upr (upr (up2 σ r 2 (nI n)) (r + 1) (va_cpy (σ (r2 + 1)) (σ (r + 1)) 0 0 (8 * n))) (r + 2) (va_cpy (σ (r2 + 2)) (σ (r + 2)) 0 0 n))) : wp_X2_copyFrom r r2 σ Q := by
  unfold wp_X2_copyFrom
  simp only [nmS]
  have n0 := hne 0 1 (by decide) (by decide)
  have n1 := hne 0 2 (by decide) (by decide)
  have n2 := hne 1 2 (by decide) (by decide)
  have i0 : ix 0 = 0 := by decide
  rw [hn, up2_eq, upd_s, nI8 hn4, ix_nI (by omega), i0]
  rw [up2_ne (show r2 + 1 ≠ r by omega), up2_ne (show r + 1 ≠ r by omega)]
  rw [upr_ne (show r ≠ r + 1 by omega), up2_eq, upd_s, ix_nI (by omega)]
  rw [upr_ne (show r2 + 2 ≠ r + 1 by omega), up2_ne (show r2 + 2 ≠ r by omega), upr_ne (show r + 2 ≠ r + 1 by omega), up2_ne (show r + 2 ≠ r by omega)]
  exact ⟨⟨by decide, by decide, nI_pos (by omega), by omega, by omega⟩, ⟨by decide, by decide, nI_pos (by omega), by omega, by omega⟩, k9⟩
end SLP
section SLQ
variable {σ : St} {r : Nat} {Q : Int32 → St → Prop}
theorem lpLt {n i : Nat} (hn : σ r 2 = nI n) (hn4 : n ≤ 400) (hi : i < n) (k9 : Q (bI (∃ k, k < i ∧ σ (r + 1) (8 * i + 6) < σ (r + 1) (8 * k + 6))) σ) : ∀ (g m : Nat), m ≤ i → i - m < g → (∀ k, k < m → ¬ σ (r + 1) (8 * i + 6) < σ (r + 1) (8 * k + 6)) → lp_X2_isLate_2 r Q g (nI i) (nI m) σ := by
  intro g
  induction g with
  | zero => intro m _ h; exact absurd h (Nat.not_lt_zero _)
  | succ g ih =>
    intro m hm hg ha
    show b_X2_isLate_2 r Q (lp_X2_isLate_2 r Q g) (nI i) (nI m) σ
    unfold b_X2_isLate_2
    have hrg : ∀ k, k < n → rg (σ r 2) (nI k) := fun k hk => by rw [hn, rg_i, nI_toInt (by omega), nI_toInt (by omega)]; omega
    have hc : (σ r 2).toInt ≤ 400 := by rw [hn, nI_toInt (by omega)]; omega
    by_cases h : m < i
    · rw [if_pos ((nI_ltI (by omega) (by omega)).mpr h)]
      rw [s_cellR (σ := σ) rfl rfl (hrg m (by omega)) hc 6 rfl (by decide) (by decide), s_cellR (σ := σ) rfl rfl (hrg i hi) hc 6 rfl (by decide) (by decide), ix_nI (by omega), ix_nI (by omega), nI_1]
      by_cases q : σ (r + 1) (8 * i + 6) < σ (r + 1) (8 * m + 6)
      · rw [if_pos q]
        rw [bI_t ⟨m, h, q⟩] at k9
        exact k9
      · rw [if_neg q]
        refine ih (m + 1) h (by omega) (fun k hk => ?_)
        by_cases e : k = m
        · rw [e]; exact q
        · exact ha k (by omega)
    · rw [if_neg (fun q => h ((nI_ltI (by omega) (by omega)).mp q))]
      rw [bI_f (fun ⟨k, h1, h2⟩ => ha k (by omega) h2)] at k9
      exact k9
theorem c_isLate {n i : Nat} (hn : σ r 2 = nI n) (hn4 : n ≤ 400) (hi : i < n) (k9 : Q (bI (∃ k, k < i ∧ σ (r + 1) (8 * i + 6) < σ (r + 1) (8 * k + 6))) σ) : wp_X2_isLate r σ (nI i) Q := by
  unfold wp_X2_isLate
  exact ⟨i + 1, lpLt hn hn4 hi k9 (i + 1) 0 (Nat.zero_le _) (by omega) (fun k h => absurd h (Nat.not_lt_zero _))⟩
/-- a slip 8 whose seal the row would not have -/
def beyond (f : Nat → Int32) (row many : Int32) (i : Nat) : Prop := f (8 * i) = 8 ∧ f (8 * i + 4) / 100 = row ∧ ¬ f (8 * i + 4) - f (8 * i + 4) / 100 * 100 < many
theorem lpUs {n : Nat} (hn : σ r 2 = nI n) (hn4 : n ≤ 400) {row many : Int32} (k9 : Q (bI (∃ k, k < n ∧ beyond (σ (r + 1)) row many k)) σ) : ∀ (g m : Nat), m ≤ n → n - m < g → (∀ k, k < m → ¬ beyond (σ (r + 1)) row many k) → lp_X2_useSealBeyond_2 r Q g row many (nI m) σ := by
  intro g
  induction g with
  | zero => intro m _ h; exact absurd h (Nat.not_lt_zero _)
  | succ g ih =>
    intro m hm hg ha
    show b_X2_useSealBeyond_2 r Q (lp_X2_useSealBeyond_2 r Q g) row many (nI m) σ
    unfold b_X2_useSealBeyond_2 j_X2_useSealBeyond_42 j_X2_useSealBeyond_43 j_X2_useSealBeyond_61
    have hrg : ∀ k, k < n → rg (σ r 2) (nI k) := fun k hk => by rw [hn, rg_i, nI_toInt (by omega), nI_toInt (by omega)]; omega
    have hc : (σ r 2).toInt ≤ 400 := by rw [hn, nI_toInt (by omega)]; omega
    by_cases h : m < n
    · rw [if_pos (by rw [hn]; exact (nI_ltI (by omega) (by omega)).mpr h)]
      rw [s_cellR (σ := σ) rfl rfl (hrg m h) hc 4 rfl (by decide) (by decide), s_cellR (σ := σ) rfl rfl (hrg m h) hc 0 rfl (by decide) (by decide), ix_nI (by omega), nI_1, show 8 * m + 0 = 8 * m from rfl]
      have nx : ¬ beyond (σ (r + 1)) row many m → lp_X2_useSealBeyond_2 r Q g row many (nI (m + 1)) σ := fun q => ih (m + 1) h (by omega) (fun k hk => by
        by_cases e : k = m
        · rw [e]; exact q
        · exact ha k (by omega))
      by_cases q1 : σ (r + 1) (8 * m) = 8
      · rw [if_pos q1]
        by_cases q2 : σ (r + 1) (8 * m + 4) / 100 = row
        · rw [if_pos q2, if_neg (by decide)]
          by_cases q3 : σ (r + 1) (8 * m + 4) - σ (r + 1) (8 * m + 4) / 100 * 100 < many
          · rw [if_pos q3]; exact nx (fun z => z.2.2 q3)
          · rw [if_neg q3]
            rw [bI_t ⟨m, h, q1, q2, q3⟩] at k9
            exact k9
        · rw [if_neg q2, if_pos rfl]; exact nx (fun z => q2 z.2.1)
      · rw [if_neg q1, if_pos rfl]; exact nx (fun z => q1 z.1)
    · rw [if_neg (by rw [hn]; exact fun q => h ((nI_ltI (by omega) (by omega)).mp q))]
      rw [bI_f (fun ⟨k, h1, h2⟩ => ha k (by omega) h2)] at k9
      exact k9
theorem c_useSeal {n : Nat} (hn : σ r 2 = nI n) (hn4 : n ≤ 400) {row many : Int32} (k9 : Q (bI (∃ k, k < n ∧ beyond (σ (r + 1)) row many k)) σ) : wp_X2_useSealBeyond r σ row many Q := by
  unfold wp_X2_useSealBeyond
  exact ⟨n + 1, lpUs hn hn4 k9 (n + 1) 0 (Nat.zero_le _) (by omega) (fun k h => absurd h (Nat.not_lt_zero _))⟩
end SLQ
