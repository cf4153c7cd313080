section CALLS4
variable {n : Nat} {σ s σ' s' : St}
theorem J_alter (h : RI n σ s) (x y v : Int32) : wp_X5_alter σ x y v (fun r σ' => wp_X6_alter s x y v (fun r' s' => r = r' ∧ RI n σ' s')) := by
  obtain ⟨k1, k2, k3, ⟨c, ⟨c4, cn, cm, cc, co⟩, hA⟩, k6, k7, k8⟩ := id h
  have m0 : ∀ e : Int32, s 0 6 = e → -1 ≤ e.toInt → ¬ (rg e x ∧ (¬ y < 0 ∧ ¬ 6 < y)) → wp_X6_alter s x y v (fun r' s' => (0 : Int32) = r' ∧ RI n σ s') := by
    intro e he hb g
    unfold wp_X6_alter
    rw [m_isIn, he]
    have er : (¬ x < 0 ∧ ¬ e - 1 < x) ↔ rg e x := by
      rw [rg_i, ltI, ltI, t0_]
      have : (e - 1).toInt = e.toInt - 1 := by
        have := bnd e
        rw [sub_i] <;> rw [t1_] <;> omega
      rw [this]; omega
    rw [bI_congr er]
    by_cases g1 : rg e x
    · rw [bI_t g1, if_neg (by decide), m_isIn, bI_f (fun q => g ⟨g1, q⟩), if_pos rfl]; exact ⟨rfl, h⟩
    · rw [bI_f g1, if_pos rfl]; exact ⟨rfl, h⟩
  unfold wp_X5_alter
  rcases k6 with ⟨i1, i2⟩ | ⟨e, e4, i2, i3, i4, i5, i6⟩
  · rw [if_pos i1]
    exact m0 (-1) i2 (by decide) (fun q => by
      have := rg_i.mp q.1
      rw [tm1_] at this; omega)
  · rw [if_neg i2, s_has, i3]
    have m0' := m0 (nI e) i4 (by rw [nI_toInt (by omega)]; omega)
    by_cases g1 : rg (nI e) x
    · rw [bI_t g1, if_neg (by decide)]
      by_cases g2 : y < 0
      · rw [if_pos g2]; exact m0' (fun q => q.2.1 g2)
      rw [if_neg g2]
      by_cases g3 : 6 < y
      · rw [if_pos g3]; exact m0' (fun q => q.2.2 g3)
      rw [if_neg g3]
      have ex := rg_nI g1
      have hr := rg_i.mp g1
      rw [nI_toInt (by omega)] at hr
      have hil : ix x < e := by have := ixI hr.1; omega
      have yb : 0 ≤ y.toInt ∧ y.toInt ≤ 6 := by
        rw [ltI, t0_] at g2
        rw [ltI, show (6 : Int32).toInt = 6 from rfl] at g3
        omega
      have hyl := ixI yb.1
      -- the reference's step
      have M : ∀ σ1, RI n σ1 (up2 s 7 (8 * ix x + ix y) v) → wp_X6_alter s x y v (fun r' s' => (1 : Int32) = r' ∧ RI n σ1 s') := by
        intro σ1 hR
        unfold wp_X6_alter
        rw [m_isIn0 (by rw [i4, nI_toInt (by omega)]; omega), i4, bI_t g1, if_neg (by decide), m_isIn, bI_t ⟨g2, g3⟩, if_neg (by decide)]
        obtain ⟨a1, b1⟩ := idx8 (x := x) hr.1 (by omega) (w := y) (n := ix y) (by omega) (by omega)
        simp only [nmS]
        rw [b1]
        exact ⟨a1, trivial, hR⟩
      -- what RI asks
      have R : ∀ σ1, (∀ k, k ≠ 11 → k ≠ 12 → σ1 k = σ k) → σ1 11 = upd (σ 11) (8 * ix x + ix y) v → (∀ k, k < e → σ1 12 k = oD (upd (s 7) (8 * ix x + ix y) v) e k) → RI n σ1 (up2 s 7 (8 * ix x + ix y) v) := by
        intro σ1 a a11 a12
        have b : ∀ k, k ≠ 7 → up2 s 7 (8 * ix x + ix y) v k = s k := fun k hk => up2_ne hk
        have hSK : SK (up2 s 7 (8 * ix x + ix y) v) := by unfold SK; rw [b 0 (by decide), b 4 (by decide)]; exact k2
        have hTA : TA s (up2 s 7 (8 * ix x + ix y) v) := TA.same (fun k _ _ => b k (by omega))
        refine ⟨?_, hSK, ?_, ⟨c, ⟨c4, ?_, ?_, ?_, ?_⟩, ?_⟩, Or.inr ⟨e, e4, ?_, ?_, ?_, ?_, ?_⟩, ?_, ?_⟩
        · unfold STK at k1 ⊢
          rw [a 1 (by decide) (by decide), a 2 (by decide) (by decide), a 3 (by decide) (by decide), a 4 (by decide) (by decide), a 5 (by decide) (by decide), a 6 (by decide) (by decide), b 0 (by decide), b 1 (by decide), b 2 (by decide), b 3 (by decide), b 4 (by decide), b 5 (by decide)]
          exact k1
        · have : TL σ1 s := by
            unfold TL at k3 ⊢
            rw [a 14 (by decide) (by decide), a 15 (by decide) (by decide), a 16 (by decide) (by decide), a 17 (by decide) (by decide), a 18 (by decide) (by decide), a 19 (by decide) (by decide), a 20 (by decide) (by decide), a 21 (by decide) (by decide), a 23 (by decide) (by decide), a 25 (by decide) (by decide)]
            exact k3
          exact TL_TA this hTA
        · rw [a 7 (by decide) (by decide)]; exact cn
        · rw [b 0 (by decide)]; exact cm
        · rw [a 8 (by decide) (by decide), b 6 (by decide)]; exact cc
        · rw [a 9 (by decide) (by decide), b 6 (by decide)]; exact co
        · refine AD_keep c4 k2 hSK (MO_rf (by rw [b 0 (by decide)]) (by rw [b 0 (by decide)]) (by rw [b 0 (by decide)]) (b 1 (by decide)) (b 2 (by decide)) (b 4 (by decide))) (fun x _ => by rw [b 5 (by decide)]) hTA (fun i _ _ q => ?_) (fun j _ => by rw [b 6 (by decide)]) hA
          unfold isSl at q ⊢
          rw [b 3 (by decide)]; exact q
        · rw [a 0 (by decide) (by decide)]; exact i2
        · rw [a 10 (by decide) (by decide)]; exact i3
        · rw [b 0 (by decide)]; exact i4
        · intro j hj
          rw [a11, up2_eq]
          simp only [upd]
          rw [i5 j hj]
        · rw [up2_eq]; exact a12
        · unfold R_misc at k7 ⊢
          rw [a 0 (by decide) (by decide), b 0 (by decide)]
          exact k7
        · obtain ⟨q1, q2, q3, q4, q5⟩ := k8
          refine ⟨q1, by rw [a 0 (by decide) (by decide)]; exact q2, by rw [b 0 (by decide)]; exact q3, by rw [a 30 (by decide) (by decide), b 8 (by decide)]; exact q4, fun i hi => okH_mono (q5 i hi) (b 8 (by decide)) (by rw [b 0 (by decide)]; exact Int.le_refl _) (by rw [b 0 (by decide)]; exact Int.le_refl _)⟩
      have eU : ∀ j, j < 8 * e → upd (σ 11) (8 * ix x + ix y) v j = upd (s 7) (8 * ix x + ix y) v j := by
        intro j hj
        simp only [upd]
        rw [i5 j hj]
      have goal : wp_X2_alterCell 10 σ (nI (ix x)) y v (fun σ3 => wp_X6_alter s x y v (fun r' s' => (1 : Int32) = r' ∧ RI n σ3 s')) := by
        refine c_alterCell (r := 10) (Or.inr rfl) i3 e4 hil g2 g3 (fun ey => ?_) (fun ey => ?_)
        · have ey6 : ix y = 6 := by rw [ey]; decide
          refine M _ (R _ (fun k a b => by rw [upr_ne b, up2_ne a]) ?_ (fun k hk => ?_))
          · rw [upr_ne (by decide), ey6]; exact up2_eq _ _ _ _
          · rw [upr_at, ey6]
            rw [ey6] at eU
            have e1 : oD (upd (s 7) (8 * ix x + 6) v) e = oD (upd (σ 11) (8 * ix x + 6) v) e := oD_congr (by omega) (fun j hj => (eU j hj).symm)
            rw [e1]
            exact ordN_agree (mn := mnF (upd (σ 11) (8 * ix x + 6) v)) e k hk
        · have ey6 : ix y ≠ 6 := by
            intro q
            apply ey
            rw [z_of yb.1, q]; rfl
          refine M _ (R _ (fun k a b => up2_ne a) (up2_eq _ _ _ _) (fun k hk => ?_))
          rw [up2_ne (by decide), i6 k hk]
          have e1 : oD (upd (s 7) (8 * ix x + ix y) v) e = oD (s 7) e := ordN_congr _ e (by omega) (fun q hq => by
            show upd (s 7) (8 * ix x + ix y) v (8 * q + 6) = s 7 (8 * q + 6)
            rw [upd_n _ _ (by omega)])
          rw [e1]
      rw [← ex] at goal
      exact goal
    · rw [bI_f g1, if_pos rfl]; exact m0' (fun q => g1 q.1)
theorem lpTh {e : Nat} (he : e ≤ 400) {τ : St} (hn : τ 0 3 = nI e) {Q : Int32 → St → Prop} (k9 : Q 1 (upr τ 6 (fun j => if j < 8 * e then τ 7 j else τ 6 j))) : ∀ (g m : Nat), m ≤ 8 * e → 8 * e - m < g → lp_X6_thaw_36 Q g (nI m) (upr τ 6 (fun j => if j < m then τ 7 j else τ 6 j)) := by
  intro g
  induction g with
  | zero => intro m _ h; exact absurd h (Nat.not_lt_zero _)
  | succ g ih =>
    intro m hm hg
    show b_X6_thaw_36 Q (lp_X6_thaw_36 Q g) (nI m) _
    unfold b_X6_thaw_36
    have e0 : upr τ 6 (fun j => if j < m then τ 7 j else τ 6 j) 0 3 = nI e := by rw [upr_ne (by decide)]; exact hn
    have e6 : upr τ 6 (fun j => if j < m then τ 7 j else τ 6 j) 7 = τ 7 := upr_ne (by decide)
    rw [e0, nI8', e6]
    by_cases h : m < 8 * e
    · rw [if_pos ((nI_ltI (by omega) (by omega)).mpr h)]
      have v1 : vp_in (nI m) 3208 := vin_n (by omega) (by decide)
      refine ⟨v1, v1, ?_⟩
      simp only [nmS]
      rw [upr2, ix_nI (by omega), cpy_up, nI_1]
      exact ih (m + 1) h (by omega)
    · have e : m = 8 * e := by omega
      rw [if_neg (fun q => h ((nI_ltI (by omega) (by omega)).mp q)), e]
      exact k9
theorem J_thaw (h : RI n σ s) : wp_X5_thaw σ (fun r σ' => wp_X6_thaw s (fun r' s' => r = r' ∧ RI n σ' s')) := by
  obtain ⟨k1, k2, k3, -, k6, k7, k8⟩ := id h
  unfold wp_X5_thaw
  rcases k6 with ⟨i1, i2⟩ | ⟨e, e4, i2, i3, i4, i5, i6⟩
  · rw [if_pos i1]
    unfold wp_X6_thaw
    dsimp only
    rw [if_pos i2]
    exact ⟨rfl, h⟩
  · rw [if_neg i2]
    have er := run_eq (k := 7) (f := σ 11) (o := σ 12) e4 i5 i6 (beg (srt 7 s e))
    have ne : ¬ s 0 6 = -1 := by
      rw [i4]; intro q
      have := congrArg Int32.toInt q
      rw [nI_toInt (by omega), tm1_] at this
      omega
    have hS1 := SI_beg (SK_srt k2 7 e)
    have hFM := fU_FM (s 7) (srt 7 s e 20) e 0 (beg (srt 7 s e))
    have hTA := TA_fU (s 7) (srt 7 s e 20) e 0 (beg (srt 7 s e)) hS1
    refine c_firstUndone (r := 10) (Or.inr rfl) e4 i3 (fun q hq => ?_) (STK_srt k1 7 e) (SK_srt k2 7 e) (TL_TA k3 (TA_srt 7 e)) (fun σ1 T1 F1 => ?_)
    · show ∃ v, v < e ∧ σ 12 q = nI v
      rw [i6 q hq]; exact oD_rng (s 7) e q hq
    · rw [show σ (10 + 1) = σ 11 from rfl, show σ (10 + 2) = σ 12 from rfl, er] at T1 ⊢
      have hq : (fU (s 7) (srt 7 s e 20) e 0 (beg (srt 7 s e))).1 = -1 ∨ ¬ (fU (s 7) (srt 7 s e 20) e 0 (beg (srt 7 s e))).1 = -1 := Classical.em _
      have R0 := RI_told h F1 hFM hTA (TL_TR T1)
      have MW : ∀ {Q : Int32 → St → Prop}, (if (fU (s 7) (srt 7 s e 20) e 0 (beg (srt 7 s e))).1 = -1 then (nmS (up2 (fU (s 7) (srt 7 s e 20) e 0 (beg (srt 7 s e))).2 0 3 ((fU (s 7) (srt 7 s e 20) e 0 (beg (srt 7 s e))).2 0 6)) (fun σ3 => ∃ n9 : Nat, lp_X6_thaw_36 Q n9 0 σ3)) else Q 0 (fU (s 7) (srt 7 s e 20) e 0 (beg (srt 7 s e))).2) → wp_X6_thaw s Q := by
        intro Q hk
        unfold wp_X6_thaw
        rw [if_neg ne, i4]
        exact m_firstWrong (Or.inr rfl) e4 k2 hk
      rcases hq with hq | hq
      · rw [hq, if_pos rfl]
        obtain ⟨r1, r2⟩ := told_rows hFM
        have hTAs := told_TA hTA
        generalize hsf : (fU (s 7) (srt 7 s e 20) e 0 (beg (srt 7 s e))).2 = sf at *
        refine c_copyFrom (r := 7) (r2 := 10) (fun a b ha hb => by omega) (n := e) (by rw [F1 10 (by omega)]; exact i3) e4 ?_
        refine MW ?_
        rw [if_pos hq]
        simp only [nmS]
        generalize hσ2 : upr (upr (up2 σ1 7 2 (nI e)) (7 + 1) (va_cpy (σ1 (10 + 1)) (σ1 (7 + 1)) 0 0 (8 * e))) (7 + 2) (va_cpy (σ1 (10 + 2)) (σ1 (7 + 2)) 0 0 e) = σ2
        have E1 : ∀ k, k ≠ 7 → k ≠ 8 → k ≠ 9 → σ2 k = σ1 k := fun k a b c => by rw [← hσ2, upr_ne c, upr_ne b, up2_ne a]
        have E7 : σ2 7 2 = nI e := by rw [← hσ2, upr_ne (by decide), upr_ne (by decide), up2_eq, upd_s]
        have E8 : ∀ j, j < 8 * e → σ2 8 j = σ 11 j := fun j hj => by
          rw [← hσ2, upr_ne (by decide), upr_at, pk_cpy_in (Nat.zero_le _) (by omega)]
          show σ1 11 (0 + (j - 0)) = σ 11 j
          rw [F1 11 (by omega)]; congr 1; omega
        have E9 : ∀ j, j < e → σ2 9 j = σ 12 j := fun j hj => by
          rw [← hσ2, upr_at, pk_cpy_in (Nat.zero_le _) (by omega)]
          show σ1 12 (0 + (j - 0)) = σ 12 j
          rw [F1 12 (by omega)]; congr 1; omega
        have g6 : sf 0 6 = nI e := by rw [r2]; exact i4
        rw [g6]
        refine ⟨8 * e + 1, ?_⟩
        have key := lpTh (τ := up2 sf 0 3 (nI e)) e4 (by rw [up2_eq, upd_s]) (Q := fun r' s' => (1 : Int32) = r' ∧ RI n σ2 s') ?_ (8 * e + 1) 0 (Nat.zero_le _) (by omega)
        · have eq0 : upr (up2 sf 0 3 (nI e)) 6 (fun j => if j < 0 then up2 sf 0 3 (nI e) 7 j else up2 sf 0 3 (nI e) 6 j) = up2 sf 0 3 (nI e) := by
            have : (fun j => if j < 0 then up2 sf 0 3 (nI e) 7 j else up2 sf 0 3 (nI e) 6 j) = up2 sf 0 3 (nI e) 6 := by funext j; simp
            rw [this, upr_same]
          rw [eq0] at key
          exact key
        · refine ⟨rfl, ?_⟩
          generalize hs2 : upr (up2 sf 0 3 (nI e)) 6 (fun j => if j < 8 * e then up2 sf 0 3 (nI e) 7 j else up2 sf 0 3 (nI e) 6 j) = s2
          have F0 : ∀ j, j ≠ 3 → s2 0 j = s 0 j := fun j hj => by rw [← hs2, upr_ne (by decide), up2_eq, upd_n _ _ hj, r2]
          have F3 : s2 0 3 = nI e := by rw [← hs2, upr_ne (by decide), up2_eq, upd_s]
          have F6 : ∀ j, j < 8 * e → s2 6 j = s 7 j := fun j hj => by
            rw [← hs2, upr_at]; simp only [hj, if_true]
            rw [up2_ne (by decide), r1 7 (by decide) (by decide)]
          have Fo : ∀ k, 1 ≤ k → k < 9 → k ≠ 6 → s2 k = s k := fun k a b c => by rw [← hs2, upr_ne c, up2_ne (by omega), r1 k a b]
          have Ft : ∀ k, 9 ≤ k → s2 k = sf k := fun k a => by rw [← hs2, upr_ne (by omega), up2_ne (by omega)]
          have hSK : SK s2 := by unfold SK; rw [F0 0 (by decide), F0 1 (by decide), F0 2 (by decide), Fo 4 (by decide) (by decide) (by decide)]; exact k2
          have hT2 : TA s s2 := hTAs.tr (TA.same (fun k a b => Ft k a))
          refine ⟨?_, hSK, ?_, ⟨e, ⟨e4, E7, F3, ?_, ?_⟩, ?_⟩, Or.inr ⟨e, e4, ?_, ?_, ?_, ?_, ?_⟩, ?_, ?_⟩
          · unfold STK at k1 ⊢
            rw [E1 1 (by decide) (by decide) (by decide), E1 2 (by decide) (by decide) (by decide), E1 3 (by decide) (by decide) (by decide), E1 4 (by decide) (by decide) (by decide), E1 5 (by decide) (by decide) (by decide), E1 6 (by decide) (by decide) (by decide), F1 1 (by omega), F1 2 (by omega), F1 3 (by omega), F1 4 (by omega), F1 5 (by omega), F1 6 (by omega), F0 0 (by decide), F0 1 (by decide), F0 2 (by decide), Fo 1 (by decide) (by decide) (by decide), Fo 2 (by decide) (by decide) (by decide), Fo 3 (by decide) (by decide) (by decide), Fo 4 (by decide) (by decide) (by decide), Fo 5 (by decide) (by decide) (by decide)]
            exact k1
          · have t1 := TL_TR T1
            have : TL σ2 sf := by
              unfold TL at t1 ⊢
              rw [E1 14 (by decide) (by decide) (by decide), E1 15 (by decide) (by decide) (by decide), E1 16 (by decide) (by decide) (by decide), E1 17 (by decide) (by decide) (by decide), E1 18 (by decide) (by decide) (by decide), E1 19 (by decide) (by decide) (by decide), E1 20 (by decide) (by decide) (by decide), E1 21 (by decide) (by decide) (by decide), E1 23 (by decide) (by decide) (by decide), E1 25 (by decide) (by decide) (by decide)]
              exact t1
            exact TL_TA this (TA.same (fun k a b => Ft k a))
          · intro j hj; rw [E8 j hj, F6 j hj]; exact i5 j hj
          · intro k hk; rw [E9 k hk, i6 k hk, oD_congr (f := s2 6) (g := s 7) (c := e) (by omega) F6]
          · unfold AD
            rw [oD_congr (f := s2 6) (g := s 7) (c := e) (by omega) F6, fU_congr (f := s2 6) (g := s 7) (o := oD (s 7) e) (q := oD (s 7) e) (n := e) (by omega) F6 (fun k hk => ⟨rfl, oD_rng _ _ k hk⟩) e 0 _ (by omega)]
            have hq2 : (fU (s 7) (oD (s 7) e) e 0 (beg (srt 7 s e))).1 = -1 := by
              rw [fU_congr (f := s 7) (g := s 7) (o := oD (s 7) e) (q := srt 7 s e 20) (n := e) (by omega) (fun _ _ => rfl) (fun k hk => ⟨(srt_agree 7 e (by omega) k hk).1.symm, oD_rng _ _ k hk⟩) e 0 _ (by omega)]
              exact hq
            refine fU_keep (s := srt 7 s e) (by omega) (oD_rng (s 7) e) (SK_srt k2 7 e) hSK (MO_rf ?_ ?_ ?_ ?_ ?_ ?_) (fun x _ => ?_) ?_ (fun i _ _ q => ?_) hq2
            · rw [srt_o 7 s e (by decide)]; exact F0 0 (by decide)
            · rw [srt_o 7 s e (by decide)]; exact F0 1 (by decide)
            · rw [srt_o 7 s e (by decide)]; exact F0 2 (by decide)
            · rw [srt_o 7 s e (by decide)]; exact Fo 1 (by decide) (by decide) (by decide)
            · rw [srt_o 7 s e (by decide)]; exact Fo 2 (by decide) (by decide) (by decide)
            · rw [srt_o 7 s e (by decide)]; exact Fo 4 (by decide) (by decide) (by decide)
            · rw [srt_o 7 s e (by decide), Fo 5 (by decide) (by decide) (by decide)]
            · exact ((TA_beg _).tr hTA).tr (TA.same (fun k a b => Ft k a))
            · unfold isSl at q ⊢
              rw [srt_o 7 s e (by decide)] at q
              rw [Fo 3 (by decide) (by decide) (by decide)]; exact q
          · rw [E1 0 (by decide) (by decide) (by decide), F1 0 (by omega)]; exact i2
          · rw [E1 10 (by decide) (by decide) (by decide), F1 10 (by omega)]; exact i3
          · rw [F0 6 (by decide)]; exact i4
          · rw [E1 11 (by decide) (by decide) (by decide), F1 11 (by omega), Fo 7 (by decide) (by decide) (by decide)]; exact i5
          · rw [E1 12 (by decide) (by decide) (by decide), F1 12 (by omega), Fo 7 (by decide) (by decide) (by decide)]; exact i6
          · unfold R_misc at k7 ⊢
            rw [E1 0 (by decide) (by decide) (by decide), F1 0 (by omega), F0 4 (by decide), F0 15 (by decide), F0 16 (by decide)]
            exact k7
          · obtain ⟨q1, q2, q3, q4, q5⟩ := k8
            refine ⟨q1, by rw [E1 0 (by decide) (by decide) (by decide), F1 0 (by omega)]; exact q2, by rw [F0 5 (by decide)]; exact q3, by rw [E1 30 (by decide) (by decide) (by decide), F1 30 (by omega), Fo 8 (by decide) (by decide) (by decide)]; exact q4, fun i hi => okH_mono (q5 i hi) (Fo 8 (by decide) (by decide) (by decide)) (by rw [F0 4 (by decide)]; exact Int.le_refl _) (by rw [F0 2 (by decide)]; exact Int.le_refl _)⟩
      · rw [if_neg hq]
        refine MW ?_
        rw [if_neg hq]
        exact ⟨rfl, R0⟩
end CALLS4
