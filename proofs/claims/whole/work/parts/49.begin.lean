section SRT
variable {s : St} {Q : St → Prop}
theorem nI8' {n : Nat} : (8 : Int32) * nI n = nI (8 * n) := by
  rw [show (8 : Int32) = nI 8 from rfl, pk_mul]
theorem nI8_6 {n : Nat} : (8 : Int32) * nI n + 6 = nI (8 * n + 6) := by
  rw [nI8', show (6 : Int32) = nI 6 from rfl, nI_add]
theorem lpSi {k : Nat} (hk20 : k ≠ 20) {rec2 : Int32 → Int32 → St → Prop} {n m : Nat} (hm : m ≤ 400) (k9 : ∀ o : Nat → Int32, True → rec2 (nI n) (nI (m + 1)) (upr s 20 o) → True) {mi : Int32} (hmi : mi = s k (8 * m + 6)) : ∀ (g j : Nat) (o : Nat → Int32), j < g → j ≤ m → (∀ q, q < j → ∃ v, v < 400 ∧ o q = nI v) → rec2 (nI n) (nI (m + 1)) (upr s 20 (insL (fun q => s k (8 * q + 6)) mi m j o)) → lp_X6_sort_10 k Q rec2 g (nI n) (nI m) (nI j) (upr s 20 o) := by
  intro g
  induction g with
  | zero => intro j o h; exact absurd h (Nat.not_lt_zero _)
  | succ g ih =>
    intro j o hg hj hv hq
    show b_X6_sort_10 k Q rec2 (lp_X6_sort_10 k Q rec2 g) (nI n) (nI m) (nI j) _
    unfold b_X6_sort_10 j_X6_sort_66
    have ez : (0 : Int32) = nI 0 := rfl
    have ek : upr s 20 o k = s k := upr_ne hk20
    cases j with
    | zero =>
      rw [if_neg (by rw [ez, nI_ltI (by decide) (by decide)]; omega)]
      refine ⟨vin_n (by omega) (by decide), ?_⟩
      simp only [nmS]
      rw [upr2, ix_nI (by decide), nI_1]
      exact hq
    | succ j =>
      rw [if_pos (by rw [ez, nI_ltI (by decide) (by omega)]; omega), nI_pred, pk_m1]
      have v1 : vp_in (nI j) 401 := vin_n (by omega) (by decide)
      have v2 : vp_in (nI (j + 1)) 401 := vin_n (by omega) (by decide)
      obtain ⟨v, w1, w2⟩ := hv j (by omega)
      simp only [nmS, v1, v2, true_and, upr_at, ek, upr2, nI8_6, ix_nI (show j < 2 ^ 31 by omega), ix_nI (show j + 1 < 2 ^ 31 by omega), ix_nI (show 8 * m + 6 < 2 ^ 31 by omega), nI_1]
      rw [w2, nI8_6, ix_nI (by omega)]
      refine ⟨vin_n (by omega) (by decide), vin_n (by omega) (by decide), ?_⟩
      simp only [insL] at hq
      rw [w2, ix_nI (show v < 2 ^ 31 by omega), hmi] at hq
      by_cases q : s k (8 * m + 6) < s k (8 * v + 6)
      · rw [if_pos q]
        rw [if_pos q] at hq
        rw [← hmi] at hq
        refine ih j _ (by omega) (by omega) (fun q hq => by rw [upd_n _ _ (by omega)]; exact hv q (by omega)) hq
      · rw [if_neg q]
        rw [if_neg q] at hq
        exact hq
theorem lpSo {k : Nat} (hk20 : k ≠ 20) {n : Nat} (hn : n ≤ 400) {o : Nat → Int32} (k9 : Q (upr s 20 (ordN (fun q => s k (8 * q + 6)) o n))) : ∀ (g m : Nat), m ≤ n → n - m < g → lp_X6_sort_2 k Q g (nI n) (nI m) (upr s 20 (ordN (fun q => s k (8 * q + 6)) o m)) := by
  intro g
  induction g with
  | zero => intro m _ h; exact absurd h (Nat.not_lt_zero _)
  | succ g ih =>
    intro m hm hg
    show b_X6_sort_2 k Q (lp_X6_sort_2 k Q g) (nI n) (nI m) _
    unfold b_X6_sort_2
    by_cases h : m < n
    · rw [if_pos ((nI_ltI (by omega) (by omega)).mpr h)]
      refine ⟨m + 1, lpSi hk20 (n := n) (m := m) (by omega) (fun _ _ _ => trivial) (mi := s k (8 * m + 6)) rfl (m + 1) m _ (by omega) (Nat.le_refl _) (fun q hq => ?_) ?_⟩
      · obtain ⟨v, h1, h2⟩ := ordN_rng (mn := fun q => s k (8 * q + 6)) o m q hq
        exact ⟨v, by omega, h2⟩
      · exact ih (m + 1) h (by omega)
    · have e : m = n := by omega
      rw [if_neg (fun q => h ((nI_ltI (by omega) (by omega)).mp q)), e]
      exact k9
theorem m_sort {k : Nat} (hk20 : k ≠ 20) {n : Nat} (hn : n ≤ 400) (k9 : Q (upr s 20 (ordN (fun q => s k (8 * q + 6)) (s 20) n))) : wp_X6_sort k s (nI n) Q := by
  unfold wp_X6_sort
  refine ⟨n + 1, ?_⟩
  have := lpSo hk20 hn (o := s 20) k9 (n + 1) 0 (Nat.zero_le _) (by omega)
  simp only [ordN] at this
  rw [upr_same] at this
  exact this
/-- an empty room -/
def begA (s : St) (n : Nat) : St := fun k => if k = 9 then fillA n 0 (s 9) else if k = 10 then fillA n (-1) (s 10) else if k = 11 then (fun j => if j < n then s 5 j else s 11 j) else if k = 12 then fillA n (-1) (s 12) else if k = 13 then fillA n (-1) (s 13) else if k = 14 then fillA n (-1) (s 14) else if k = 15 then fillA n 0 (s 15) else if k = 16 then fillA n 0 (s 16) else if k = 17 then fillA n (-1) (s 17) else if k = 18 then fillA n 0 (s 18) else s k
def beg (s : St) : St := upr (begA s 60) 19 (fillA 600 0 (s 19))
theorem begA_0 (s : St) : begA s 0 = s := by
  funext k
  simp only [begA, fillA_0, Nat.not_lt_zero, if_false]
  repeat' split
  all_goals simp_all
theorem cpy_up (n : Nat) (f g : Nat → Int32) : upd (fun j => if j < n then f j else g j) n (f n) = fun j => if j < n + 1 then f j else g j := by
  funext j
  simp only [upd]
  by_cases h1 : j = n
  · subst h1; simp
  · by_cases h2 : j < n
    · simp [h1, h2, Nat.lt_succ_of_lt h2]
    · have h3 : ¬ j < n + 1 := by omega
      simp [h1, h2, h3]
set_option maxHeartbeats 1000000 in
theorem begA_step (s : St) (n : Nat) : up2 (up2 (up2 (up2 (up2 (up2 (up2 (up2 (up2 (up2 (begA s n) 9 n 0) 10 n (-1)) 11 n ((up2 (up2 (begA s n) 9 n 0) 10 n (-1)) 5 n)) 12 n (-1)) 13 n (-1)) 14 n (-1)) 15 n 0) 16 n 0) 17 n (-1)) 18 n 0 = begA s (n + 1) := by
  have e5 : (up2 (up2 (begA s n) 9 n 0) 10 n (-1)) 5 n = s 5 n := by
    rw [up2_ne (by decide), up2_ne (by decide)]; rfl
  rw [e5]
  funext k
  by_cases h9 : k = 9
  · subst h9; simp [up2_at, begA, fillA_up]
  by_cases h10 : k = 10
  · subst h10; simp [up2_at, begA, fillA_up]
  by_cases h11 : k = 11
  · subst h11; simp [up2_at, begA, cpy_up]
  by_cases h12 : k = 12
  · subst h12; simp [up2_at, begA, fillA_up]
  by_cases h13 : k = 13
  · subst h13; simp [up2_at, begA, fillA_up]
  by_cases h14 : k = 14
  · subst h14; simp [up2_at, begA, fillA_up]
  by_cases h15 : k = 15
  · subst h15; simp [up2_at, begA, fillA_up]
  by_cases h16 : k = 16
  · subst h16; simp [up2_at, begA, fillA_up]
  by_cases h17 : k = 17
  · subst h17; simp [up2_at, begA, fillA_up]
  by_cases h18 : k = 18
  · subst h18; simp [up2_at, begA, fillA_up]
  simp [up2_at, begA, h9, h10, h11, h12, h13, h14, h15, h16, h17, h18]
theorem lpBg2 {τ : St} (k9 : Q (upr τ 19 (fillA 600 0 (τ 19)))) : ∀ (g n : Nat), n ≤ 600 → 600 - n < g → lp_X6_begin_91 Q g (nI n) (upr τ 19 (fillA n 0 (τ 19))) := by
  intro g
  induction g with
  | zero => intro n _ h; exact absurd h (Nat.not_lt_zero _)
  | succ g ih =>
    intro n hn hg
    show b_X6_begin_91 Q (lp_X6_begin_91 Q g) (nI n) _
    unfold b_X6_begin_91
    by_cases h : n < 600
    · rw [if_pos (by rw [show (600 : Int32) = nI 600 from rfl, nI_ltI (by omega) (by decide)]; exact h)]
      refine ⟨vin_n h (by decide), ?_⟩
      simp only [nmS]
      rw [upr2, ix_nI (by omega), fillA_up, nI_1]
      exact ih (n + 1) h (by omega)
    · have e : n = 600 := by omega
      rw [if_neg (by rw [show (600 : Int32) = nI 600 from rfl, nI_ltI (by omega) (by decide)]; exact h), e]
      exact k9
theorem lpBg1 (k9 : Q (beg s)) : ∀ (g n : Nat), n ≤ 60 → 60 - n < g → lp_X6_begin_2 Q g (nI n) (begA s n) := by
  intro g
  induction g with
  | zero => intro n _ h; exact absurd h (Nat.not_lt_zero _)
  | succ g ih =>
    intro n hn hg
    show b_X6_begin_2 Q (lp_X6_begin_2 Q g) (nI n) _
    unfold b_X6_begin_2
    by_cases h : n < 60
    · rw [if_pos (by rw [show (60 : Int32) = nI 60 from rfl, nI_ltI (by omega) (by decide)]; exact h)]
      have hv : vp_in (nI n) 60 := vin_n h (by decide)
      simp only [hv, true_and, nmS, ix_nI (show n < 2 ^ 31 by omega), nI_1]
      rw [begA_step]
      exact ih (n + 1) h (by omega)
    · have e : n = 60 := by omega
      rw [if_neg (by rw [show (60 : Int32) = nI 60 from rfl, nI_ltI (by omega) (by decide)]; exact h), e]
      refine ⟨601, ?_⟩
      have := lpBg2 (τ := begA s 60) (Q := Q) (by
        have e : begA s 60 19 = s 19 := rfl
        rw [e]; exact k9) 601 0 (Nat.zero_le _) (by omega)
      rw [fillA_0, upr_same] at this
      exact this
theorem m_begin (k9 : Q (beg s)) : wp_X6_begin s Q := by
  unfold wp_X6_begin
  refine ⟨61, ?_⟩
  have := lpBg1 k9 61 0 (Nat.zero_le _) (by omega)
  rw [begA_0] at this
  exact this
theorem beg_r (s : St) : beg s 9 = fillA 60 0 (s 9) ∧ beg s 10 = fillA 60 (-1) (s 10) ∧ beg s 11 = (fun j => if j < 60 then s 5 j else s 11 j) ∧ beg s 12 = fillA 60 (-1) (s 12) ∧ beg s 13 = fillA 60 (-1) (s 13) ∧ beg s 14 = fillA 60 (-1) (s 14) ∧ beg s 15 = fillA 60 0 (s 15) ∧ beg s 16 = fillA 60 0 (s 16) ∧ beg s 17 = fillA 60 (-1) (s 17) ∧ beg s 18 = fillA 60 0 (s 18) ∧ beg s 19 = fillA 600 0 (s 19) := ⟨rfl, rfl, rfl, rfl, rfl, rfl, rfl, rfl, rfl, rfl, rfl⟩
theorem beg_o (s : St) {k : Nat} (h : k < 9 ∨ 19 < k) : beg s k = s k := by
  unfold beg
  rw [upr_ne (by omega)]
  unfold begA
  rw [if_neg (by omega), if_neg (by omega), if_neg (by omega), if_neg (by omega), if_neg (by omega), if_neg (by omega), if_neg (by omega), if_neg (by omega), if_neg (by omega), if_neg (by omega)]
theorem fillA_in {N : Nat} {v : Int32} {f : Nat → Int32} {x : Nat} (h : x < N) : fillA N v f x = v := by simp [fillA, h]
theorem SI_beg (hK : SK s) : SI (beg s) := by
  have h9 : ∀ x, x < 60 → beg s 9 x = 0 := fun x hx => by rw [(beg_r s).1]; exact fillA_in hx
  have ne : ∀ x, x < 60 → ∀ v : Int32, ¬ v = 0 → ¬ beg s 9 x = v := fun x hx v hv q => hv (by rw [← q]; exact h9 x hx)
  refine ⟨?_, fun x hx => Or.inl (h9 x hx), fun x hx h => absurd (h9 x hx) h, fun x hx => ?_, fun x hx h => absurd h (ne x hx 3 (by decide)), ⟨fun _ => 0, fun x hx => ⟨Nat.zero_le _, fun h => absurd h (ne x hx 3 (by decide)), fun _ => rfl⟩⟩, ⟨fun _ => 0, fun x hx h => ?_, fun x hx h => absurd (h9 x hx) h, fun x hx _ => ?_⟩, fun x hx => ?_, fun x hx h => absurd h (ne x hx 1 (by decide)), fun x y hx hy h => absurd h (ne x hx 1 (by decide))⟩
  · unfold SK
    rw [beg_o s (Or.inl (by decide)), beg_o s (Or.inl (by decide))]
    exact hK
  · rw [h9 x hx, if_pos rfl, (beg_r s).2.2.2.2.2.2.2.2.2.1, fillA_in hx]
  · exact absurd (by rw [(beg_r s).2.2.2.2.2.2.2.2.1, fillA_in hx]) h
  · rw [(beg_r s).2.2.2.2.2.2.2.2.1, fillA_in hx]
  · rw [(beg_r s).2.2.2.2.2.2.2.1, fillA_in hx]; decide
end SRT
section CLR
variable {σ s : St} {Q : St → Prop}
def STK (σ s : St) : Prop := σ 1 5 = s 0 0 ∧ σ 1 6 = s 0 1 ∧ σ 1 7 = s 0 2 ∧ σ 2 = s 1 ∧ σ 3 = s 2 ∧ σ 4 = s 3 ∧ σ 5 = s 4 ∧ σ 6 = s 5
/-- behind the rows' ends both have the same -/
def TL (σ s : St) : Prop := (∀ j, 60 ≤ j → σ 14 j = s 9 j ∧ σ 15 j = s 10 j ∧ σ 16 j = s 11 j ∧ σ 17 j = s 12 j ∧ σ 18 j = s 13 j ∧ σ 19 j = s 14 j ∧ σ 20 j = s 15 j ∧ σ 21 j = s 16 j ∧ σ 23 j = s 17 j) ∧ ∀ j, 600 ≤ j → σ 25 j = s 19 j
theorem fillA_tl {N : Nat} {v : Int32} {f g : Nat → Int32} (h : ∀ j, N ≤ j → f j = g j) : fillA N v f = fillA N v g := by
  funext j
  simp only [fillA]
  by_cases e : j < N
  · simp [e]
  · simp [e]; exact h j (by omega)
set_option maxHeartbeats 1000000 in
theorem c_clear (hk : STK σ s) (hK : SK s) (hT : TL σ s) (k9 : ∀ σ', TR σ' (beg s) → CI σ' (beg s) → FR σ σ' → Q σ') : wp_X3_clear σ Q := by
  unfold wp_X3_clear
  simp only [nmS]
  have i60 : ix 60 = 60 := by decide
  have i0 : ix 0 = 0 := by decide
  rw [i60, i0]
  refine ⟨⟨by decide, by decide, by decide, by decide, by decide⟩, ?_⟩
  obtain ⟨a1, a2, a3, a4, a5, a6, a7, a8⟩ := hk
  obtain ⟨b9, b10, b11, b12, b13, b14, b15, b16, b17, b18, b19⟩ := beg_r s
  have o : ∀ k, (k < 9 ∨ 19 < k) → beg s k = s k := fun k h => beg_o s h
  refine k9 _ ⟨⟨?_, ?_, ?_, ?_, ?_, ?_, ?_, ?_⟩, ?_, ?_, ?_, ?_, ?_, ?_, ?_, ?_, ?_, ?_⟩ ⟨?_, ?_⟩ ?_
  · rw [o 0 (by omega)]; simp [upr]; exact a1
  · rw [o 0 (by omega)]; simp [upr]; exact a2
  · rw [o 0 (by omega)]; simp [upr]; exact a3
  · rw [o 1 (by omega)]; simp [upr]; exact a4
  · rw [o 2 (by omega)]; simp [upr]; exact a5
  · rw [o 3 (by omega)]; simp [upr]; exact a6
  · rw [o 4 (by omega)]; simp [upr]; exact a7
  · rw [o 5 (by omega)]; simp [upr]; exact a8
  · rw [b9]; simp [upr]; exact fillA_tl (fun j hj => (hT.1 j hj).1)
  · rw [b10]; simp [upr]; exact fillA_tl (fun j hj => (hT.1 j hj).2.1)
  · rw [b11]; simp [upr]
    funext j
    simp only [va_cpy]
    by_cases e : j < 60
    · simp [e]; rw [a8]
    · simp [e]; exact (hT.1 j (by omega)).2.2.1
  · rw [b12]; simp [upr]; exact fillA_tl (fun j hj => (hT.1 j hj).2.2.2.1)
  · rw [b13]; simp [upr]; exact fillA_tl (fun j hj => (hT.1 j hj).2.2.2.2.1)
  · rw [b14]; simp [upr]; exact fillA_tl (fun j hj => (hT.1 j hj).2.2.2.2.2.1)
  · rw [b15]; simp [upr]; exact fillA_tl (fun j hj => (hT.1 j hj).2.2.2.2.2.2.1)
  · rw [b16]; simp [upr]; exact fillA_tl (fun j hj => (hT.1 j hj).2.2.2.2.2.2.2.1)
  · rw [b17]; simp [upr]; exact fillA_tl (fun j hj => (hT.1 j hj).2.2.2.2.2.2.2.2)
  · rw [b19]; simp [upr]; exact fillA_tl (fun j hj => hT.2 j hj)
  · intro p hp
    simp only [upr]
    constructor
    · intro _ x hx q
      rw [b9, fillA_in hx] at q
      exact absurd q.1 (by decide)
    · intro _; simp [fillA_in hp]
  · intro b hb
    have e : cnB (beg s) (nI b) = 0 := by
      unfold cnB
      rw [cntP_zero]
      intro y hy q
      rw [b9, fillA_in hy] at q
      exact absurd q.1 (by decide)
    rw [e]
    simp [upr, fillA_in hb]
    rfl
  · intro k hk
    simp only [upr]
    rw [if_neg (by omega), if_neg (by omega), if_neg (by omega), if_neg (by omega), if_neg (by omega), if_neg (by omega), if_neg (by omega), if_neg (by omega), if_neg (by omega), if_neg (by omega), if_neg (by omega), if_neg (by omega)]
end CLR
