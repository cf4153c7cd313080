section CALLS3
variable {n : Nat} {σ s σ' s' : St}
theorem STK_srt (h : STK σ s) (k c : Nat) : STK σ (srt k s c) := by
  unfold STK at h ⊢
  rw [srt_o k s c (show 0 ≠ 20 by decide), srt_o k s c (show 1 ≠ 20 by decide), srt_o k s c (show 2 ≠ 20 by decide), srt_o k s c (show 3 ≠ 20 by decide), srt_o k s c (show 4 ≠ 20 by decide), srt_o k s c (show 5 ≠ 20 by decide)]
  exact h
theorem SK_srt (h : SK s) (k c : Nat) : SK (srt k s c) := by
  unfold SK at h ⊢
  rw [srt_o k s c (show 0 ≠ 20 by decide), srt_o k s c (show 4 ≠ 20 by decide)]
  exact h
theorem TA_srt (k c : Nat) : TA s (srt k s c) := TA.same (fun q _ _ => srt_o k s c (by omega))
theorem TL_back (h : TL σ s') (h2 : TA s s') : TL σ s := by
  refine ⟨fun j hj => ?_, fun j hj => ?_⟩
  · obtain ⟨q1, q2, q3, q4, q5, q6, q7, q8, q9⟩ := h.1 j hj
    exact ⟨by rw [← h2.1 9 (by decide) (by decide) j hj]; exact q1, by rw [← h2.1 10 (by decide) (by decide) j hj]; exact q2, by rw [← h2.1 11 (by decide) (by decide) j hj]; exact q3, by rw [← h2.1 12 (by decide) (by decide) j hj]; exact q4, by rw [← h2.1 13 (by decide) (by decide) j hj]; exact q5, by rw [← h2.1 14 (by decide) (by decide) j hj]; exact q6, by rw [← h2.1 15 (by decide) (by decide) j hj]; exact q7, by rw [← h2.1 16 (by decide) (by decide) j hj]; exact q8, by rw [← h2.1 17 (by decide) (by decide) j hj]; exact q9⟩
  · rw [← h2.2 j hj]; exact h.2 j hj
/-- behind a telling, both sides -/
theorem told_rows {k c : Nat} (h : FM (beg (srt k s c)) s') : (∀ q, 1 ≤ q → q < 9 → s' q = s q) ∧ (s' 0 = s 0) := by
  have : ∀ q, q < 9 → s' q = s q := fun q hq => by rw [h q (by omega), beg_o _ (by omega), srt_o k s c (by omega)]
  exact ⟨fun q _ hq => this q hq, this 0 (by omega)⟩
theorem told_TA {k c : Nat} (h : TA (beg (srt k s c)) s') : TA s s' := ((TA_srt k c).tr (TA_beg _)).tr h
theorem RI_told {k c : Nat} (h : RI n σ s) (hF : FR σ σ') (hM : FM (beg (srt k s c)) s') (hT : TA (beg (srt k s c)) s') (hL : TL σ' s') : RI n σ' s' := by
  obtain ⟨r1, r2⟩ := told_rows hM
  exact RI_tell h (fun q hq => hF q (Or.inl hq)) (hF 30 (Or.inr (by decide))) r1 (fun j _ => by rw [r2]) hL (told_TA hT)
theorem srt_agree (k c : Nat) (hc : c < 2 ^ 31) : ∀ q, q < c → srt k s c 20 q = oD (s k) c q ∧ ∃ v, v < c ∧ srt k s c 20 q = nI v := by
  intro q hq
  rw [srt_20]
  exact ⟨ordN_agree (mn := mnF (s k)) c q hq, ordN_rng (mn := mnF (s k)) (s 20) c q hq⟩
/-- the class's run and the reference's are one -/
theorem run_eq {k c : Nat} {f o : Nat → Int32} (hc : c ≤ 400) (hf : ∀ j, j < 8 * c → f j = s k j) (ho : ∀ q, q < c → o q = oD (s k) c q) (τ : St) : fU f o c 0 τ = fU (s k) (srt k s c 20) c 0 τ := by
  refine fU_congr (n := c) (by omega) hf (fun q hq => ⟨?_, ?_⟩) c 0 τ (by omega)
  · rw [ho q hq, (srt_agree k c (by omega) q hq).1]
  · rw [ho q hq]; exact oD_rng (s k) c q hq
theorem runK_eq {c : Nat} {f o : Nat → Int32} {mi kn : Int32} (hc : c ≤ 400) (hf : ∀ j, j < 8 * c → f j = s 6 j) (ho : ∀ q, q < c → o q = oD (s 6) c q) (τ : St) : fK f o mi kn c 0 τ = fK (s 6) (srt 6 s c 20) mi kn c 0 τ := by
  refine fK_congr (n := c) (by omega) hf (fun q hq => ⟨?_, ?_⟩) c 0 τ (by omega)
  · rw [ho q hq, (srt_agree 6 c (by omega) q hq).1]
  · rw [ho q hq]; exact oD_rng (s 6) c q hq
theorem J_check (h : RI n σ s) : wp_X5_check σ (fun r σ' => wp_X6_check s (fun r' s' => r = r' ∧ RI n σ' s')) := by
  obtain ⟨k1, k2, k3, -, k6, -, -⟩ := id h
  unfold wp_X5_check
  rcases k6 with ⟨i1, i2⟩ | ⟨e, e4, i2, i3, i4, i5, i6⟩
  · rw [if_pos i1]
    unfold wp_X6_check
    dsimp only
    rw [if_pos i2]
    exact ⟨rfl, h⟩
  · rw [if_neg i2]
    have er := run_eq (k := 7) (f := σ 11) (o := σ 12) e4 i5 i6 (beg (srt 7 s e))
    refine c_firstUndone (r := 10) (Or.inr rfl) e4 i3 (fun q hq => ?_) (STK_srt k1 7 e) (SK_srt k2 7 e) (TL_TA k3 (TA_srt 7 e)) (fun σ1 T1 F1 => ?_)
    · show ∃ v, v < e ∧ σ 12 q = nI v
      rw [i6 q hq]; exact oD_rng (s 7) e q hq
    · rw [show σ (10 + 1) = σ 11 from rfl, show σ (10 + 2) = σ 12 from rfl, er] at T1 ⊢
      unfold wp_X6_check
      have ne : ¬ s 0 6 = -1 := by
        rw [i4]; intro q
        have := congrArg Int32.toInt q
        rw [nI_toInt (by omega), tm1_] at this
        omega
      rw [if_neg ne, i4]
      refine m_firstWrong (Or.inr rfl) e4 k2 ⟨rfl, ?_⟩
      exact RI_told h F1 (fU_FM _ _ _ _ _) (TA_fU _ _ _ _ _ (SI_beg (SK_srt k2 7 e))) (TL_TR T1)
theorem lpFz {c : Nat} (hc : c ≤ 400) {τ : St} (hn : τ 0 3 = nI c) {Q : Int32 → St → Prop} (k9 : Q (nI c) (up2 (upr τ 7 (fun j => if j < 8 * c then τ 6 j else τ 7 j)) 0 6 (nI c))) : ∀ (g m : Nat), m ≤ 8 * c → 8 * c - m < g → lp_X6_freeze_2 Q g (nI m) (upr τ 7 (fun j => if j < m then τ 6 j else τ 7 j)) := by
  intro g
  induction g with
  | zero => intro m _ h; exact absurd h (Nat.not_lt_zero _)
  | succ g ih =>
    intro m hm hg
    show b_X6_freeze_2 Q (lp_X6_freeze_2 Q g) (nI m) _
    unfold b_X6_freeze_2
    have e0 : upr τ 7 (fun j => if j < m then τ 6 j else τ 7 j) 0 3 = nI c := by rw [upr_ne (by decide)]; exact hn
    have e6 : upr τ 7 (fun j => if j < m then τ 6 j else τ 7 j) 6 = τ 6 := upr_ne (by decide)
    rw [e0, nI8', e6]
    by_cases h : m < 8 * c
    · rw [if_pos ((nI_ltI (by omega) (by omega)).mpr h)]
      have v1 : vp_in (nI m) 3208 := vin_n (by omega) (by decide)
      refine ⟨v1, v1, ?_⟩
      simp only [nmS]
      rw [upr2, ix_nI (by omega), cpy_up, nI_1]
      exact ih (m + 1) h (by omega)
    · have e : m = 8 * c := by omega
      rw [if_neg (fun q => h ((nI_ltI (by omega) (by omega)).mp q)), e]
      simp only [nmS]
      rw [up2_eq, upd_s]
      exact k9
theorem J_freeze (h : RI n σ s) : wp_X5_freeze σ (fun r σ' => wp_X6_freeze s (fun r' s' => r = r' ∧ RI n σ' s')) := by
  obtain ⟨k1, k2, k3, ⟨c, ⟨c4, cn, cm, cc, co⟩, hA⟩, k6, k7, k8⟩ := id h
  unfold wp_X5_freeze
  refine c_copyFrom (r := 10) (r2 := 7) (fun a b ha hb => by omega) cn c4 ?_
  simp only [nmS]
  unfold wp_X6_freeze
  have E1 : ∀ k, k ≠ 0 → k ≠ 10 → k ≠ 11 → k ≠ 12 → up2 (upr (upr (up2 σ 10 2 (nI c)) (10 + 1) (va_cpy (σ (7 + 1)) (σ (10 + 1)) 0 0 (8 * c))) (10 + 2) (va_cpy (σ (7 + 2)) (σ (10 + 2)) 0 0 c)) 0 8 1 k = σ k := by
    intro k a1 a2 a3 a4
    rw [up2_ne a1, upr_ne a4, upr_ne a3, up2_ne a2]
  have E0 : up2 (upr (upr (up2 σ 10 2 (nI c)) (10 + 1) (va_cpy (σ (7 + 1)) (σ (10 + 1)) 0 0 (8 * c))) (10 + 2) (va_cpy (σ (7 + 2)) (σ (10 + 2)) 0 0 c)) 0 8 1 0 = upd (σ 0) 8 1 := by
    rw [up2_eq, upr_ne (by decide), upr_ne (by decide), up2_ne (by decide)]
  have E10 : up2 (upr (upr (up2 σ 10 2 (nI c)) (10 + 1) (va_cpy (σ (7 + 1)) (σ (10 + 1)) 0 0 (8 * c))) (10 + 2) (va_cpy (σ (7 + 2)) (σ (10 + 2)) 0 0 c)) 0 8 1 10 2 = nI c := by
    rw [up2_ne (by decide), upr_ne (by decide), upr_ne (by decide), up2_eq, upd_s]
  have E11 : ∀ j, j < 8 * c → up2 (upr (upr (up2 σ 10 2 (nI c)) (10 + 1) (va_cpy (σ (7 + 1)) (σ (10 + 1)) 0 0 (8 * c))) (10 + 2) (va_cpy (σ (7 + 2)) (σ (10 + 2)) 0 0 c)) 0 8 1 11 j = σ 8 j := by
    intro j hj
    rw [up2_ne (by decide), upr_ne (by decide), upr_at, pk_cpy_in (Nat.zero_le _) (by omega)]
    congr 1; omega
  have E12 : ∀ j, j < c → up2 (upr (upr (up2 σ 10 2 (nI c)) (10 + 1) (va_cpy (σ (7 + 1)) (σ (10 + 1)) 0 0 (8 * c))) (10 + 2) (va_cpy (σ (7 + 2)) (σ (10 + 2)) 0 0 c)) 0 8 1 12 j = σ 9 j := by
    intro j hj
    rw [up2_ne (by decide), upr_at, pk_cpy_in (Nat.zero_le _) (by omega)]
    congr 1; omega
  rw [E10]
  generalize up2 (upr (upr (up2 σ 10 2 (nI c)) (10 + 1) (va_cpy (σ (7 + 1)) (σ (10 + 1)) 0 0 (8 * c))) (10 + 2) (va_cpy (σ (7 + 2)) (σ (10 + 2)) 0 0 c)) 0 8 1 = σ1 at *
  refine ⟨8 * c + 1, ?_⟩
  have key := lpFz (τ := s) c4 cm (Q := fun r' s' => nI c = r' ∧ RI n σ1 s') ?_ (8 * c + 1) 0 (Nat.zero_le _) (by omega)
  · have e : upr s 7 (fun j => if j < 0 then s 6 j else s 7 j) = s := by
      have : (fun j => if j < 0 then s 6 j else s 7 j) = s 7 := by funext j; simp
      rw [this, upr_same]
    rw [e] at key
    exact key
  · refine ⟨rfl, ?_⟩
    generalize hs' : up2 (upr s 7 (fun j => if j < 8 * c then s 6 j else s 7 j)) 0 6 (nI c) = s1
    have F0 : ∀ j, j ≠ 6 → s1 0 j = s 0 j := fun j hj => by rw [← hs', up2_eq, upd_n _ _ hj, upr_ne (by decide)]
    have F6 : s1 0 6 = nI c := by rw [← hs', up2_eq, upd_s]
    have F7 : ∀ j, j < 8 * c → s1 7 j = s 6 j := fun j hj => by rw [← hs', up2_ne (by decide), upr_at]; simp [hj]
    have Fo : ∀ k, k ≠ 0 → k ≠ 7 → s1 k = s k := fun k a b => by rw [← hs', up2_ne a, upr_ne b]
    have hSK : SK s1 := by unfold SK; rw [F0 0 (by decide), F0 1 (by decide), F0 2 (by decide), Fo 4 (by decide) (by decide)]; exact k2
    have hTA : TA s s1 := TA.same (fun k a b => Fo k (by omega) (by omega))
    refine ⟨?_, hSK, ?_, ⟨c, ⟨c4, ?_, ?_, ?_, ?_⟩, ?_⟩, Or.inr ⟨c, c4, ?_, ?_, F6, ?_, ?_⟩, ?_, ?_⟩
    · unfold STK at k1 ⊢
      rw [E1 1 (by decide) (by decide) (by decide) (by decide), E1 2 (by decide) (by decide) (by decide) (by decide), E1 3 (by decide) (by decide) (by decide) (by decide), E1 4 (by decide) (by decide) (by decide) (by decide), E1 5 (by decide) (by decide) (by decide) (by decide), E1 6 (by decide) (by decide) (by decide) (by decide), F0 0 (by decide), F0 1 (by decide), F0 2 (by decide), Fo 1 (by decide) (by decide), Fo 2 (by decide) (by decide), Fo 3 (by decide) (by decide), Fo 4 (by decide) (by decide), Fo 5 (by decide) (by decide)]
      exact k1
    · have : TL σ1 s := by
        unfold TL at k3 ⊢
        rw [E1 14 (by decide) (by decide) (by decide) (by decide), E1 15 (by decide) (by decide) (by decide) (by decide), E1 16 (by decide) (by decide) (by decide) (by decide), E1 17 (by decide) (by decide) (by decide) (by decide), E1 18 (by decide) (by decide) (by decide) (by decide), E1 19 (by decide) (by decide) (by decide) (by decide), E1 20 (by decide) (by decide) (by decide) (by decide), E1 21 (by decide) (by decide) (by decide) (by decide), E1 23 (by decide) (by decide) (by decide) (by decide), E1 25 (by decide) (by decide) (by decide) (by decide)]
        exact k3
      exact TL_TA this hTA
    · rw [E1 7 (by decide) (by decide) (by decide) (by decide)]; exact cn
    · rw [F0 3 (by decide)]; exact cm
    · rw [E1 8 (by decide) (by decide) (by decide) (by decide), Fo 6 (by decide) (by decide)]; exact cc
    · rw [E1 9 (by decide) (by decide) (by decide) (by decide), Fo 6 (by decide) (by decide)]; exact co
    · refine AD_keep c4 k2 hSK (MO_rf (F0 0 (by decide)) (F0 1 (by decide)) (F0 2 (by decide)) (Fo 1 (by decide) (by decide)) (Fo 2 (by decide) (by decide)) (Fo 4 (by decide) (by decide))) (fun x _ => by rw [Fo 5 (by decide) (by decide)]) hTA (fun i _ _ q => ?_) (fun j _ => by rw [Fo 6 (by decide) (by decide)]) hA
      unfold isSl at q ⊢
      rw [Fo 3 (by decide) (by decide)]; exact q
    · rw [E0, upd_s]; decide
    · exact E10
    · intro j hj; rw [E11 j hj, F7 j hj]; exact cc j hj
    · intro k hk
      rw [E12 k hk, co k hk, oD_congr (f := s1 7) (g := s 6) (c := c) (by omega) F7]
    · unfold R_misc at k7 ⊢
      rw [E0, upd_n _ _ (by decide), upd_n _ _ (by decide), upd_n _ _ (by decide), F0 4 (by decide), F0 15 (by decide), F0 16 (by decide)]
      exact k7
    · obtain ⟨q1, q2, q3, q4, q5⟩ := k8
      refine ⟨q1, by rw [E0, upd_n _ _ (by decide)]; exact q2, by rw [F0 5 (by decide)]; exact q3, by rw [E1 30 (by decide) (by decide) (by decide) (by decide), Fo 8 (by decide) (by decide)]; exact q4, fun i hi => okH_mono (q5 i hi) (Fo 8 (by decide) (by decide)) (by rw [F0 4 (by decide)]; exact Int.le_refl _) (by rw [F0 2 (by decide)]; exact Int.le_refl _)⟩
end CALLS3
