section MOD3
variable {s : St} {Q : Int32 → St → Prop} {t a b c d dy : Int32}
/-- the depth of what is in t */ -/
noncomputable def fD (s : St) (dp : Nat → Nat) (t : Nat) (x : Nat) : Nat := cI_ (wi s x t) * dp x
theorem wi_kpt (hS : SI s) {x : Nat} {t : Int32} (hx : x < 60) (hk : kpt s t) (h : wi s x (ix t)) : s 9 x = 1 ∨ s 9 x = 2 ∨ s 9 x = 3 := by
  by_cases e : x = ix t
  · rw [e]; exact hk
  · refine Classical.byContradiction (fun n => ?_)
    exact wi_no e (fun q => n (Or.inr (Or.inr q))) h
theorem lpGI (hS : SI s) (ht : rg (s 0 2) t) (hk : kpt s t) (hc : vp_in c 60) {dp : Nat → Nat} (hd : ∀ x, x < 60 → dp x ≤ 4 ∧ (s 9 x = 3 → dp x = dp (upx s x) + 1) ∧ (¬ s 9 x = 3 → dp x = 0)) (hq1 : mxN (fD s dp (ix t)) (thN s) + dp (ix c) + 1 ≤ 4 → Q 1 (mvE s t 3 c)) (hq0 : ¬ mxN (fD s dp (ix t)) (thN s) + dp (ix c) + 1 ≤ 4 → Q 0 s) : ∀ (g n : Nat), n ≤ thN s → thN s - n < g → lp_X6_goesInto_167 Q g t c (nI (mxN (fD s dp (ix t)) n)) (nI n) s := by
  have hb : ∀ n, n ≤ thN s → mxN (fD s dp (ix t)) n ≤ 4 := by
    intro n hn
    have h60 := (thN_le hS.1).1
    induction n with
    | zero => exact Nat.zero_le _
    | succ n ih =>
      simp only [mxN]
      split
      · have := (hd n (by omega)).1
        unfold fD
        by_cases e : wi s n (ix t)
        · rw [cI_t e]; omega
        · rw [cI_f e]; omega
      · exact ih (by omega)
  intro g
  induction g with
  | zero => intro n _ h; exact absurd h (Nat.not_lt_zero _)
  | succ g ih =>
    intro n hn hg
    obtain ⟨t1, t2⟩ := thN_le hS.1
    obtain ⟨hl, hv⟩ := th_lt hS.1 ht
    show b_X6_goesInto_167 Q (lp_X6_goesInto_167 Q g) t c _ (nI n) s
    unfold b_X6_goesInto_167 j_X6_goesInto_214
    rw [t2]
    have hbn := hb n hn
    by_cases h : n < thN s
    · have hn60 : n < 60 := by omega
      rw [if_pos ((nI_ltI (by omega) (by omega)).mpr h), m_isKept hS.1 hS.2.1]
      have hvn : vp_in (nI n) 60 := vp_in_nI hn60 (by decide)
      have nxt := ih (n + 1) h (by omega)
      simp only [mxN] at nxt
      rw [nI_1]
      have hdn := (hd n hn60).1
      by_cases hw : wi s n (ix t)
      · have hkn : rg (s 0 2) (nI n) ∧ kpt s (nI n) := by
          refine ⟨?_, ?_⟩
          · rw [t2, rg_i, nI_toInt (by omega), nI_toInt (by omega)]; omega
          · unfold kpt; rw [ix_nI (by omega)]; exact wi_kpt hS hn60 hk hw
        rw [bI_t hkn, if_neg (by decide)]
        refine m_isWithin hS hvn hv ?_
        rw [ix_nI (by omega), bI_t hw, if_neg (by decide)]
        refine m_depth hS hd hvn ?_
        rw [ix_nI (by omega)]
        have fe : fD s dp (ix t) n = dp n := by unfold fD; rw [cI_t hw, Nat.one_mul]
        rw [fe] at nxt
        have e : (nI (mxN (fD s dp (ix t)) n) < nI (dp n)) ↔ mxN (fD s dp (ix t)) n < dp n := nI_ltI (by omega) (by omega)
        by_cases q : mxN (fD s dp (ix t)) n < dp n
        · rw [if_pos (e.mpr q)]
          refine m_depth hS hd hvn ?_
          rw [ix_nI (by omega)]
          rw [if_pos q] at nxt
          exact nxt
        · rw [if_neg (fun k => q (e.mp k))]
          rw [if_neg q] at nxt
          exact nxt
      · have fe : fD s dp (ix t) n = 0 := by unfold fD; rw [cI_f hw, Nat.zero_mul]
        rw [fe, if_neg (Nat.not_lt_zero _)] at nxt
        by_cases q : rg (s 0 2) (nI n) ∧ kpt s (nI n)
        · rw [bI_t q, if_neg (by decide)]
          refine m_isWithin hS hvn hv ?_
          rw [ix_nI (by omega), bI_f hw, if_pos rfl]
          exact nxt
        · rw [bI_f q, if_pos rfl]
          exact nxt
    · have e : n = thN s := by omega
      rw [if_neg (fun k => h ((nI_ltI (by omega) (by omega)).mp k))]
      refine m_depth hS hd hc ?_
      have hdc := (hd _ (vin_lt hc)).1
      rw [nI_add, nI_1]
      have e4 : (4 : Int32) < nI (mxN (fD s dp (ix t)) n + dp (ix c) + 1) ↔ ¬ mxN (fD s dp (ix t)) (thN s) + dp (ix c) + 1 ≤ 4 := by
        rw [show (4 : Int32) = nI 4 from rfl, nI_ltI (by decide) (by omega), e]
        omega
      by_cases q : mxN (fD s dp (ix t)) (thN s) + dp (ix c) + 1 ≤ 4
      · rw [if_neg (fun k => e4.mp k q), m_go hv]
        exact hq1 q
      · rw [if_pos (e4.mpr q)]
        exact hq0 q
theorem n_into (hS : SI s) (ht : rg (s 0 2) t) (hk : kpt s t) (h1 : q6 s t a b c → Q 1 (dE s 6 t a c d)) (h0 : ¬ q6 s t a b c → Q 0 s) : wp_X6_goesInto s t a b c Q := by
  obtain ⟨hl, hv⟩ := th_lt hS.1 ht
  rw [dE_6] at h1
  unfold wp_X6_goesInto
  rw [m_isKept hS.1 hS.2.1]
  by_cases g1 : rg (s 0 2) c ∧ kpt s c
  · obtain ⟨hcl, hvc⟩ := th_lt hS.1 g1.1
    rw [bI_t g1, if_neg (by decide), m_isBag hS.1 hvc]
    by_cases g2 : bg s c
    · rw [bI_t g2, if_neg (by decide)]
      refine ⟨hvc, ?_⟩
      by_cases g3 : s 12 (ix c) = -1
      · rw [if_pos g3]
        refine m_isWithin hS hvc hv ?_
        by_cases g4 : wi s (ix c) (ix t)
        · rw [bI_t g4, if_neg (by decide)]
          refine h0 (fun q => ?_)
          by_cases e : ix c = ix t
          · exact q.2.2.1 (by rw [vin_nI hvc, vin_nI hv, e])
          · refine wi_no e ?_ g4
            rcases q.2.2.2.2.1 with k | k
            · rw [k.2]; decide
            · rw [k.1]; decide
        · rw [bI_f g4, if_pos rfl]
          have gne : ¬ c = t := fun e => g4 (by rw [e]; exact ⟨0, rfl⟩)
          have P : ∀ two : Prop, (two ↔ (mny s t ∨ mny s c)) → j_X6_goesInto_70 Q t c (bI two) b a s := by
            intro two e
            unfold j_X6_goesInto_70
            rw [m_hasK hS.1, hasK_congr e]
            by_cases g5 : hasK s a b (mny s t ∨ mny s c)
            · rw [bI_t g5, if_neg (by decide)]
              have K1 : ((s 9 (ix t) = 1 ∧ s 9 (ix c) = 1) ∨ (s 9 (ix c) = 2 ∧ s 9 (ix t) = 2 ∧ s 10 (ix t) = s 10 (ix c))) → j_X6_goesInto_136 Q t c s := by
                intro g6
                unfold j_X6_goesInto_136 j_X6_goesInto_141
                rw [if_neg (by decide)]
                refine m_inside hS ?_
                have hle : cnB s c ≤ 60 := cntP_le _ _
                have e7 : (7 < nI (cnB s c)) ↔ ¬ cnB s c < 8 := by
                  rw [show (7 : Int32) = nI 7 from rfl, nI_ltI (by decide) (by omega)]
                  omega
                by_cases g7 : cnB s c < 8
                · rw [if_neg (fun k => e7.mp k g7)]
                  obtain ⟨dp, hd⟩ := hS.2.2.2.2.2.1
                  have ht3 : ¬ s 9 (ix t) = 3 := by
                    rcases g6 with k | k
                    · rw [k.1]; decide
                    · rw [k.2.1]; decide
                  have hc3 : ¬ s 9 (ix c) = 3 := by
                    rcases g6 with k | k
                    · rw [k.2]; decide
                    · rw [k.1]; decide
                  have dt := (hd _ hl).2.2 ht3
                  have dc := (hd _ hcl).2.2 hc3
                  have wd := wi_dep hS.2.2.2.2.1 hS.1 hd
                  have h60 := (thN_le hS.1).1
                  have key : mxN (fD s dp (ix t)) (thN s) + dp (ix c) + 1 ≤ 4 ↔ dpO s t := by
                    rw [dc]
                    have e1 : mxN (fD s dp (ix t)) (thN s) + 0 + 1 ≤ 4 ↔ ¬ 4 ≤ mxN (fD s dp (ix t)) (thN s) := by omega
                    rw [e1, mxN_ge (by decide)]
                    constructor
                    · intro n x hx q
                      have e2 := wd 4 x _ hx q
                      refine n ⟨x, th_of hS hx (by rw [q.1]; decide), ?_⟩
                      unfold fD
                      rw [cI_t ⟨4, q⟩]
                      omega
                    · rintro n ⟨x, q1, q2⟩
                      unfold fD at q2
                      by_cases hw : wi s x (ix t)
                      · rw [cI_t hw] at q2
                        obtain ⟨m, hm⟩ := hw
                        have e2 := wd m x _ (by omega) hm
                        have e3 := (hd x (by omega)).1
                        have e4 : m = 4 := by omega
                        subst e4
                        exact n x (by omega) hm
                      · rw [cI_f hw] at q2
                        omega
                  refine ⟨thN s + 1, lpGI hS ht hk hvc hd (fun q => ?_) (fun q => h0 (fun z => q (key.mpr z.2.2.2.2.2.2.2))) (thN s + 1) 0 (Nat.zero_le _) (by omega)⟩
                  exact h1 ⟨⟨g1.1, g2⟩, g1.2, gne, g3, g6, g5, g7, key.mp q⟩
                · rw [if_pos (e7.mpr g7)]
                  exact h0 (fun q => g7 q.2.2.2.2.2.2.1)
              have K0 : ¬ ((s 9 (ix t) = 1 ∧ s 9 (ix c) = 1) ∨ (s 9 (ix c) = 2 ∧ s 9 (ix t) = 2 ∧ s 10 (ix t) = s 10 (ix c))) → j_X6_goesInto_140 Q t c s := by
                intro g6
                unfold j_X6_goesInto_140 j_X6_goesInto_141
                rw [if_pos rfl]
                exact h0 (fun q => g6 q.2.2.2.2.1)
              have K9 : ¬ (s 9 (ix t) = 1 ∧ s 9 (ix c) = 1) → j_X6_goesInto_99 Q t c s := by
                intro n1
                unfold j_X6_goesInto_99
                simp only [ifc, hv, hvc, true_and]
                refine ⟨fun q1 => ⟨fun q2 => ⟨fun q3 => K1 (Or.inr ⟨q2, q1, q3⟩), fun q3 => K0 (fun k => ?_)⟩, fun q2 => K0 (fun k => ?_)⟩, fun q1 => K0 (fun k => ?_)⟩
                · rcases k with k | k
                  · exact n1 k
                  · exact q3 k.2.2
                · rcases k with k | k
                  · exact n1 k
                  · exact q2 k.1
                · rcases k with k | k
                  · exact n1 k
                  · exact q1 k.2.1
              simp only [ifc, hv, hvc, true_and]
              exact ⟨fun q1 => ⟨fun q2 => K1 (Or.inl ⟨q1, q2⟩), fun q2 => K9 (fun k => q2 k.2)⟩, fun q1 => K9 (fun k => q1 k.1)⟩
            · rw [bI_f g5, if_pos rfl]
              exact h0 (fun q => g5 q.2.2.2.2.2.1)
          have P1 := P
          simp only [ifc, hv, hvc, true_and, j_X6_goesInto_65]
          refine ⟨fun m => ?_, fun m => ⟨fun m2 => ?_, fun m2 => ?_⟩⟩
          · have := P True ⟨fun _ => Or.inl m, fun _ => trivial⟩
            rw [bI_t trivial] at this; exact this
          · have := P True ⟨fun _ => Or.inr m2, fun _ => trivial⟩
            rw [bI_t trivial] at this; exact this
          · have := P False ⟨fun q => q.elim, fun q => q.elim m m2⟩
            rw [bI_f not_false] at this; exact this
      · rw [if_neg g3]
        exact h0 (fun q => g3 q.2.2.2.1)
    · rw [bI_f g2, if_pos rfl]
      exact h0 (fun q => g2 q.1.2)
  · rw [bI_f g1, if_pos rfl]
    exact h0 (fun q => g1 ⟨q.1.1, q.2.1⟩)
/-- the kinds 2 to 7 begin alike -/
theorem n_moves0 (hS : SI s) (ht : rg (s 0 2) t) {k : Int32} (h : ∀ two : Prop, (two ↔ mny s t) → j_X6_moves_15 Q k t a b c d (bI two) s) : wp_X6_moves s k t a b c d Q := by
  obtain ⟨hl, hv⟩ := th_lt hS.1 ht
  unfold wp_X6_moves
  refine ⟨hv, ?_⟩
  by_cases m : s 4 (ix t) = 5
  · rw [if_pos m]
    have := h True ⟨fun _ => m, fun _ => trivial⟩
    rw [bI_t trivial] at this; exact this
  · rw [if_neg m]
    have := h False ⟨fun q => q.elim, fun q => m q⟩
    rw [bI_f not_false] at this; exact this
theorem n_2 (hS : SI s) (ht : rg (s 0 2) t) (h1 : q2 s t a b c d → Q 1 (dE s 2 t a c d)) (h0 : ¬ q2 s t a b c d → Q 0 s) : wp_X6_moves s 2 t a b c d Q := by
  obtain ⟨hl, hv⟩ := th_lt hS.1 ht
  rw [dE_2] at h1
  refine n_moves0 hS ht (fun two e => ?_)
  unfold j_X6_moves_15
  rw [m_hasK hS.1, hasK_congr e, if_pos rfl]
  have ed : (¬ d < 0 ∧ ¬ 100000 < d) = day_ d := rfl
  simp only [m_isHand hS.1, m_isIn, ifc, bI_0, Classical.not_not, hv, true_and, m_go hv, nmS, ed]
  exact ⟨fun g => h0 (fun q => g q.2.1), fun g1 => ⟨fun g2 => ⟨fun g => h0 (fun q => g q.2.2.1), fun g3 => ⟨fun g => h0 (fun q => g q.2.2.2), fun g4 => h1 ⟨g2, g1, g3, g4⟩⟩⟩, fun g => h0 (fun q => g q.1)⟩⟩
theorem n_3 (hS : SI s) (ht : rg (s 0 2) t) (h1 : q3 s t c d → Q 1 (dE s 3 t a c d)) (h0 : ¬ q3 s t c d → Q 0 s) : wp_X6_moves s 3 t a b c d Q := by
  obtain ⟨hl, hv⟩ := th_lt hS.1 ht
  rw [dE_3] at h1
  refine n_moves0 hS ht (fun two e => ?_)
  unfold j_X6_moves_15
  rw [m_hasK hS.1, if_neg (by decide), if_pos rfl]
  simp only [m_isHand hS.1, ifc, bI_0, Classical.not_not, hv, true_and, m_go hv]
  exact ⟨fun g1 => ⟨fun g2 => ⟨fun g => h0 (fun q => g q.2.1), fun g3 => ⟨fun g => h0 (fun q => q.2.2 g), fun g4 => h1 ⟨⟨g1, g2⟩, g3, g4⟩⟩⟩, fun g => h0 (fun q => g q.1.2)⟩, fun g => h0 (fun q => g q.1.1)⟩
theorem n_4 (hS : SI s) (ht : rg (s 0 2) t) (h1 : q4 s t a b c d → Q 1 (dE s 4 t a c d)) (h0 : ¬ q4 s t a b c d → Q 0 s) : wp_X6_moves s 4 t a b c d Q := by
  obtain ⟨hl, hv⟩ := th_lt hS.1 ht
  rw [dE_4] at h1
  refine n_moves0 hS ht (fun two e => ?_)
  unfold j_X6_moves_15
  rw [m_hasK hS.1, hasK_congr e, if_neg (by decide), if_neg (by decide), if_pos rfl]
  simp only [ifc, bI_0, Classical.not_not, hv, true_and, nmS]
  refine ⟨fun g => h0 (fun q => g q.2.1), fun g1 => ⟨fun g2 => ⟨fun g3 => m_fits hS hv ?_, fun g => h0 (fun q => g q.1.2)⟩, fun g => h0 (fun q => g q.1.1)⟩⟩
  by_cases f : fts s t c
  · rw [bI_t f]
    refine ⟨fun q => absurd q (by decide), fun _ => ?_⟩
    rw [m_go hv]
    exact h1 ⟨⟨g2, g3⟩, g1, f⟩
  · rw [bI_f f]
    exact ⟨fun _ => h0 (fun q => f q.2.2), fun q => absurd rfl q⟩
theorem n_5 (hS : SI s) (ht : rg (s 0 2) t) (h1 : q5 s t a b c → Q 1 (dE s 5 t a c d)) (h0 : ¬ q5 s t a b c → Q 0 s) : wp_X6_moves s 5 t a b c d Q := by
  obtain ⟨hl, hv⟩ := th_lt hS.1 ht
  rw [dE_5] at h1
  refine n_moves0 hS ht (fun two e => ?_)
  unfold j_X6_moves_15
  rw [m_hasK hS.1, hasK_congr e, if_neg (by decide), if_neg (by decide), if_neg (by decide), if_pos rfl]
  simp only [ifc, bI_0, Classical.not_not, hv, true_and]
  refine ⟨fun g => h0 (fun q => g q.2.1), fun g1 => ⟨fun g2 => m_fits hS hv ?_, fun g => h0 (fun q => g q.1)⟩⟩
  by_cases f : fts s t c
  · rw [bI_t f]
    refine ⟨fun q => absurd q (by decide), fun _ => ?_⟩
    rw [m_go hv]
    exact h1 ⟨g2, g1, f⟩
  · rw [bI_f f]
    exact ⟨fun _ => h0 (fun q => f q.2.2), fun q => absurd rfl q⟩
theorem n_6 (hS : SI s) (ht : rg (s 0 2) t) (hk : kpt s t) (h1 : q6 s t a b c → Q 1 (dE s 6 t a c d)) (h0 : ¬ q6 s t a b c → Q 0 s) : wp_X6_moves s 6 t a b c d Q := by
  refine n_moves0 hS ht (fun two e => ?_)
  unfold j_X6_moves_15
  rw [m_hasK hS.1, if_neg (by decide), if_neg (by decide), if_neg (by decide), if_neg (by decide), if_pos rfl]
  exact n_into hS ht hk h1 h0
theorem n_7 (hS : SI s) (ht : rg (s 0 2) t) (h1 : q7 s t a b c → Q 1 (dE s 7 t a c d)) (h0 : ¬ q7 s t a b c → Q 0 s) : wp_X6_moves s 7 t a b c d Q := by
  refine n_moves0 hS ht (fun two e => ?_)
  unfold j_X6_moves_15
  rw [m_hasK hS.1, if_neg (by decide), if_neg (by decide), if_neg (by decide), if_neg (by decide), if_neg (by decide)]
  exact n_from hS ht h1 h0
end MOD3
