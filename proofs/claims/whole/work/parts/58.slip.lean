section SLIP
variable {n : Nat} {σ s σ' s' : St}
set_option maxHeartbeats 1000000 in
/-- class and reference write the same slip -/
theorem J_wr (h : RI n σ s) {c : Nat} (hc : c < 400) (hcn : s 0 3 = nI c) (hf0 : σ 0 10 = 0) (hf1 : s 0 15 = 0) (hb : σ 0 11 = -1) {x1 x2 x3 x4 x5 x6 x7 : Int32} {Qc : Int32 → St → Prop} (K : ∀ (r : Int32) (σ' : St), σ' 30 = σ 30 → (∀ Qm : Int32 → St → Prop, (∀ s', (RI n σ' s' ∧ (r = -1 ↔ ¬ s' 0 15 = 0) ∧ σ' 30 = σ 30 ∧ s' 8 = s 8 ∧ s' 0 4 = s 0 4) → Qm r s') → wp_X6_written s x1 x2 x3 x4 x5 x6 x7 Qm) → Qc r σ') : wrC σ x1 x2 x3 x4 x5 x6 x7 Qc := by
  obtain ⟨k1, k2, k3, ⟨c', ⟨c4, cn, cm, cc, co⟩, hA⟩, k6, k7, k8⟩ := id h
  have ec : c' = c := nI_inj (by omega) (by omega) (cm.symm.trans hcn)
  subst ec
  unfold wrC
  simp only [nmS]
  have v : vp_in 0 8 ∧ vp_in 1 8 ∧ vp_in 2 8 ∧ vp_in 3 8 ∧ vp_in 4 8 ∧ vp_in 5 8 ∧ vp_in 6 8 ∧ vp_in 7 8 := by
    refine ⟨vin_n (k := 0) ?_ ?_, vin_n (k := 1) ?_ ?_, vin_n (k := 2) ?_ ?_, vin_n (k := 3) ?_ ?_, vin_n (k := 4) ?_ ?_, vin_n (k := 5) ?_ ?_, vin_n (k := 6) ?_ ?_, vin_n (k := 7) ?_ ?_⟩ <;> decide
  obtain ⟨v0, v1, v2, v3, v4, v5, v6, v7⟩ := v
  obtain ⟨w0, w1, w2, w3, w4, w5, w6, w7⟩ := ixl
  simp only [v0, v1, v2, v3, v4, v5, v6, v7, w0, w1, w2, w3, w4, w5, w6, w7, true_and]
  have enow : (up2 (up2 (up2 (up2 (up2 (up2 (up2 σ 29 0 x1) 29 1 x2) 29 2 x3) 29 3 x4) 29 4 x5) 29 5 x6) 29 6 x7) 0 9 = s 0 4 := by
    simp only [up2_ne (show (0 : Nat) ≠ 29 by decide)]; exact k7.1
  rw [enow]
  generalize hσd : up2 (up2 (up2 (up2 (up2 (up2 (up2 (up2 σ 29 0 x1) 29 1 x2) 29 2 x3) 29 3 x4) 29 4 x5) 29 5 x6) 29 6 x7) 29 7 (s 0 4) = σd
  have D : ∀ k, k ≠ 29 → σd k = σ k := fun k hk => by
    rw [← hσd]; simp only [up2_ne hk]
  have D29 : σd 29 = dr8 (σ 29) x1 x2 x3 x4 x5 x6 x7 (s 0 4) := by
    rw [← hσd]; simp only [up2_eq]; rfl
  -- the new row
  generalize hsG : put8 s c' x1 x2 x3 x4 x5 x6 x7 (s 0 4) = sG
  have G : ∀ k, k ≠ 6 → sG k = s k := fun k hk => by rw [← hsG]; exact put8_o hk
  have Gold : ∀ j, j < 8 * c' → sG 6 j = s 6 j := fun j hj => by rw [← hsG]; exact put8_old hj
  have F8 : ∀ j, j < 8 * (c' + 1) → addC (σd 29) (σd 8) c' j = sG 6 j := by
    intro j hj
    rw [D29, D 8 (by decide), ← hsG]
    exact dr8_put cc j hj
  have hKG : SK sG := by unfold SK; rw [G 0 (by decide), G 4 (by decide)]; exact k2
  refine c_add (r := 7) (Or.inl rfl) (n := c') (by rw [D 7 (by decide)]; exact cn) hc (fun k hk => ?_) ?_
  · show ∃ v, v < c' ∧ σd 9 k = nI v
    rw [D 9 (by decide), co k hk]; exact oD_rng (s 6) c' k hk
  generalize hσa : upr (up2 (upr σd (7 + 1) (addC (σd 29) (σd (7 + 1)) c')) 7 2 (nI (c' + 1))) (7 + 2) (ins (fun k => addC (σd 29) (σd (7 + 1)) c' (8 * k + 6)) c' (σd (7 + 2))) = σa
  have A : ∀ k, k ≠ 7 → k ≠ 8 → k ≠ 9 → k ≠ 29 → σa k = σ k := fun k a b d e => by rw [← hσa, upr_ne d, up2_ne a, upr_ne b, D k e]
  have A7 : σa 7 2 = nI (c' + 1) := by rw [← hσa, upr_ne (by decide), up2_eq, upd_s]
  have A8 : σa 8 = addC (σd 29) (σd 8) c' := by rw [← hσa, upr_ne (by decide), up2_ne (by decide)]; exact upr_at _ _ _
  have A9 : σa 9 = ins (mnF (addC (σd 29) (σd 8) c')) c' (σ 9) := by
    rw [← hσa]
    have : σd (7 + 2) = σ 9 := D 9 (by decide)
    rw [this]
    exact upr_at _ _ _
  have F8' : ∀ j, j < 8 * (c' + 1) → σa 8 j = sG 6 j := fun j hj => by rw [A8]; exact F8 j hj
  have O9 : ∀ k, k < c' + 1 → σa 9 k = oD (sG 6) (c' + 1) k := by
    intro k hk
    rw [A9, ← oD_congr (f := addC (σd 29) (σd 8) c') (g := sG 6) (c := c' + 1) (by omega) F8]
    show _ = ins (mnF (addC (σd 29) (σd 8) c')) c' (oD (addC (σd 29) (σd 8) c') c') k
    refine ins_agree c' (fun q hq => ?_) k hk
    rw [co q hq, oD_congr (f := addC (σd 29) (σd 8) c') (g := s 6) (c := c') (by omega) (fun j hj => (F8 j (by omega)).trans (Gold j hj))]
  -- the run
  have hk' : STK σa sG := by
    unfold STK at k1 ⊢
    rw [A 1 (by decide) (by decide) (by decide) (by decide), A 2 (by decide) (by decide) (by decide) (by decide), A 3 (by decide) (by decide) (by decide) (by decide), A 4 (by decide) (by decide) (by decide) (by decide), A 5 (by decide) (by decide) (by decide) (by decide), A 6 (by decide) (by decide) (by decide) (by decide), G 0 (by decide), G 1 (by decide), G 2 (by decide), G 3 (by decide), G 4 (by decide), G 5 (by decide)]
    exact k1
  have hL' : TL σa sG := by
    have : TL σa s := by
      unfold TL at k3 ⊢
      rw [A 14 (by decide) (by decide) (by decide) (by decide), A 15 (by decide) (by decide) (by decide) (by decide), A 16 (by decide) (by decide) (by decide) (by decide), A 17 (by decide) (by decide) (by decide) (by decide), A 18 (by decide) (by decide) (by decide) (by decide), A 19 (by decide) (by decide) (by decide) (by decide), A 20 (by decide) (by decide) (by decide) (by decide), A 21 (by decide) (by decide) (by decide) (by decide), A 23 (by decide) (by decide) (by decide) (by decide), A 25 (by decide) (by decide) (by decide) (by decide)]
      exact k3
    exact TL_TA this (TA.same (fun k _ _ => G k (by omega)))
  have er := run_eq (s := sG) (k := 6) (f := σa 8) (o := σa 9) (c := c' + 1) (by omega) F8' O9 (beg (srt 6 sG (c' + 1)))
  refine c_firstUndone (r := 7) (Or.inl rfl) (n := c' + 1) (by omega) A7 (fun k hk => ?_) (STK_srt hk' 6 (c' + 1)) (SK_srt hKG 6 (c' + 1)) (TL_TA hL' (TA_srt 6 (c' + 1))) (fun σ1 T1 F1 => ?_)
  · show ∃ v, v < c' + 1 ∧ σa 9 k = nI v
    rw [O9 k hk]; exact oD_rng (sG 6) (c' + 1) k hk
  rw [show σa (7 + 1) = σa 8 from rfl, show σa (7 + 2) = σa 9 from rfl, er] at T1 ⊢
  have hFM := fU_FM (sG 6) (srt 6 sG (c' + 1) 20) (c' + 1) 0 (beg (srt 6 sG (c' + 1)))
  have hTA := TA_fU (sG 6) (srt 6 sG (c' + 1) 20) (c' + 1) 0 (beg (srt 6 sG (c' + 1))) (SI_beg (SK_srt hKG 6 (c' + 1)))
  have MW : ∀ {Q : Int32 → St → Prop}, (∀ p : Int32 × St, p = fU (sG 6) (srt 6 sG (c' + 1) 20) (c' + 1) 0 (beg (srt 6 sG (c' + 1))) → (p.1 = -1 → Q (nI c') (up2 (up2 p.2 0 16 p.1) 0 3 (nI (c' + 1)))) ∧ (¬ p.1 = -1 → Q (-1) (up2 (up2 p.2 0 16 p.1) 0 15 5))) → wp_X6_written s x1 x2 x3 x4 x5 x6 x7 Q := by
    intro Q hq
    refine m_written hc cm k2 (fun sG' sf y e1 e2 => ?_)
    rw [hsG] at e1
    subst e1
    exact hq (y, sf) e2
  have hqn : (fU (sG 6) (srt 6 sG (c' + 1) 20) (c' + 1) 0 (beg (srt 6 sG (c' + 1)))).1 = -1 → (fU (sG 6) (oD (sG 6) (c' + 1)) (c' + 1) 0 (beg (srt 6 sG (c' + 1)))).1 = -1 := by
    intro q
    rw [fU_congr (f := sG 6) (g := sG 6) (o := oD (sG 6) (c' + 1)) (q := srt 6 sG (c' + 1) 20) (n := c' + 1) (by omega) (fun _ _ => rfl) (fun k hk => ⟨(srt_agree 6 (c' + 1) (by omega) k hk).1.symm, oD_rng _ _ k hk⟩) (c' + 1) 0 _ (by omega)]
    exact q
  obtain ⟨r1, r2⟩ := told_rows hFM
  have hTAs := told_TA hTA
  have hTb := (TA_beg (srt 6 sG (c' + 1))).tr hTA
  generalize hp : fU (sG 6) (srt 6 sG (c' + 1) 20) (c' + 1) 0 (beg (srt 6 sG (c' + 1))) = p at *
  have r0 : ∀ j, p.2 0 j = s 0 j := fun j => by rw [r2, G 0 (by decide)]
  have rk : ∀ k, 1 ≤ k → k < 9 → k ≠ 6 → p.2 k = s k := fun k a b e => by rw [r1 k a b, G k e]
  have r6 : p.2 6 = sG 6 := r1 6 (by decide) (by decide)
  have B : ∀ k, (k < 13 ∨ 25 < k) → k ≠ 7 → k ≠ 8 → k ≠ 9 → k ≠ 29 → σ1 k = σ k := fun k a b d e f => by rw [F1 k a, A k b d e f]
  by_cases hy : p.1 = -1
  · rw [if_pos hy]
    have e7 : σ1 7 2 = nI (c' + 1) := by rw [F1 7 (by omega)]; exact A7
    rw [e7, nI_pred]
    refine K _ _ (B 30 (by omega) (by decide) (by decide) (by decide) (by decide)) (fun Qm hQ => MW (fun p' hp' => ?_))
    rw [hp']
    refine ⟨fun _ => hQ _ ?_, fun q => absurd hy q⟩
    generalize hs1 : up2 (up2 p.2 0 16 p.1) 0 3 (nI (c' + 1)) = s1
    have S0 : ∀ j, j ≠ 3 → j ≠ 16 → s1 0 j = s 0 j := fun j a b => by rw [← hs1, up2_eq, upd_n _ _ a, up2_eq, upd_n _ _ b, r0]
    have S3 : s1 0 3 = nI (c' + 1) := by rw [← hs1, up2_eq, upd_s]
    have S16 : s1 0 16 = -1 := by rw [← hs1, up2_eq, upd_n _ _ (by decide), up2_eq, upd_s]; exact hy
    have Sk : ∀ k, k ≠ 0 → s1 k = p.2 k := fun k a => by rw [← hs1, up2_ne a, up2_ne a]
    have hfld : s1 0 15 = 0 := by rw [S0 15 (by decide) (by decide)]; exact hf1
    refine ⟨?_, ?_, ?_, ?_, ?_⟩
    · refine RI_mk (c := c' + 1) h (fun k a b => B k (by omega) (by omega) (by omega) (by omega) (by omega)) (by rw [B 0 (by omega) (by decide) (by decide) (by decide) (by decide)]) (by rw [B 0 (by omega) (by decide) (by decide) (by decide) (by decide)]) (fun k a b => B k (by omega) (by omega) (by omega) (by omega) (by omega)) (B 30 (by omega) (by decide) (by decide) (by decide) (by decide)) (fun k a b d => by rw [Sk k (by omega)]; exact rk k a b d) (fun j a b => S0 j b (by omega)) ?_ ⟨by omega, e7, S3, ?_, ?_⟩ ?_ ⟨?_, ?_, ?_, ?_⟩
      · exact TL_TA (TL_TR T1) (TA.same (fun k a b => Sk k (by omega)))
      · intro j hj; rw [F1 8 (by omega), Sk 6 (by decide), r6]; exact F8' j hj
      · intro k hk; rw [F1 9 (by omega), Sk 6 (by decide), r6]; exact O9 k hk
      · unfold AD
        rw [Sk 6 (by decide), r6]
        refine fU_keep (s := srt 6 sG (c' + 1)) (by omega) (oD_rng (sG 6) (c' + 1)) (SK_srt hKG 6 (c' + 1)) ?_ (MO_rf ?_ ?_ ?_ ?_ ?_ ?_) (fun x _ => ?_) (hTb.tr (TA.same (fun k a b => Sk k (by omega)))) (fun i _ _ q => ?_) (hqn hy)
        · unfold SK; rw [S0 0 (by decide) (by decide), S0 1 (by decide) (by decide), S0 2 (by decide) (by decide), Sk 4 (by decide), rk 4 (by decide) (by decide) (by decide)]; exact k2
        · rw [srt_o 6 sG (c' + 1) (by decide), G 0 (by decide)]; exact S0 0 (by decide) (by decide)
        · rw [srt_o 6 sG (c' + 1) (by decide), G 0 (by decide)]; exact S0 1 (by decide) (by decide)
        · rw [srt_o 6 sG (c' + 1) (by decide), G 0 (by decide)]; exact S0 2 (by decide) (by decide)
        · rw [srt_o 6 sG (c' + 1) (by decide), Sk 1 (by decide)]; exact r1 1 (by decide) (by decide)
        · rw [srt_o 6 sG (c' + 1) (by decide), Sk 2 (by decide)]; exact r1 2 (by decide) (by decide)
        · rw [srt_o 6 sG (c' + 1) (by decide), Sk 4 (by decide)]; exact r1 4 (by decide) (by decide)
        · rw [srt_o 6 sG (c' + 1) (by decide), Sk 5 (by decide), r1 5 (by decide) (by decide)]
        · unfold isSl at q ⊢
          rw [srt_o 6 sG (c' + 1) (by decide)] at q
          rw [Sk 3 (by decide), r1 3 (by decide) (by decide)]; exact q
      · rw [B 0 (by omega) (by decide) (by decide) (by decide) (by decide), S0 4 (by decide) (by decide)]; exact k7.1
      · rw [S0 4 (by decide) (by decide)]; exact k7.2.1
      · rw [B 0 (by omega) (by decide) (by decide) (by decide) (by decide), hfld]; exact hf0
      · rw [B 0 (by omega) (by decide) (by decide) (by decide) (by decide), S16]; exact hb
    · constructor
      · intro q
        have := congrArg Int32.toInt q
        rw [nI_toInt (by omega), tm1_] at this
        omega
      · intro q; exact absurd hfld q
    · exact B 30 (by omega) (by decide) (by decide) (by decide) (by decide)
    · rw [Sk 8 (by decide)]; exact rk 8 (by decide) (by decide) (by decide)
    · exact S0 4 (by decide) (by decide)
  · rw [if_neg hy]
    obtain ⟨q, hq1, hq2, hq3, hq4, -⟩ := ins_at (mn := mnF (addC (σd 29) (σd 8) c')) c' (σ 9)
    have e9 : σ1 9 = ins (mnF (addC (σd 29) (σd 8) c')) c' (σ 9) := by rw [F1 9 (by omega)]; exact A9
    refine c_dropLast (r := 7) (n := c') (p := q) (o := σ 9) (by rw [F1 7 (by omega)]; exact A7) hc hq1 ?_ ?_ ?_ ?_ (fun o' ho' => ?_)
    · show σ1 9 q = nI c'
      rw [e9]; exact hq2
    · intro k hk
      show σ1 9 k = σ 9 k
      rw [e9]; exact hq3 k hk
    · intro k a b
      show σ1 9 k = σ 9 (k - 1)
      rw [e9]; exact hq4 k a b
    · intro k hk z
      obtain ⟨v, w1, w2⟩ := oD_rng (s 6) c' k hk
      rw [co k hk, w2] at z
      have := nI_inj (by omega) (by omega) z
      omega
    · refine K _ _ (by rw [up2_ne (by decide), up2_ne (by decide), upr_ne (by decide), up2_ne (by decide)]; exact B 30 (by omega) (by decide) (by decide) (by decide) (by decide)) (fun Qm hQ => MW (fun p' hp' => ?_))
      rw [hp']
      refine ⟨fun z => absurd z hy, fun _ => hQ _ ?_⟩
      generalize hs1 : up2 (up2 p.2 0 16 p.1) 0 15 5 = s1
      have S0 : ∀ j, j ≠ 15 → j ≠ 16 → s1 0 j = s 0 j := fun j a b => by rw [← hs1, up2_eq, upd_n _ _ a, up2_eq, upd_n _ _ b, r0]
      have S15 : s1 0 15 = 5 := by rw [← hs1, up2_eq, upd_s]
      have S16 : s1 0 16 = p.1 := by rw [← hs1, up2_eq, upd_n _ _ (by decide), up2_eq, upd_s]
      have Sk : ∀ k, k ≠ 0 → s1 k = p.2 k := fun k a => by rw [← hs1, up2_ne a, up2_ne a]
      generalize hσ3 : up2 (up2 (upr (up2 σ1 7 2 (nI c')) (7 + 2) o') 0 10 5) 0 11 p.1 = σ3
      have C0 : ∀ j, j ≠ 10 → j ≠ 11 → σ3 0 j = σ 0 j := fun j a b => by rw [← hσ3, up2_eq, upd_n _ _ b, up2_eq, upd_n _ _ a, upr_ne (by decide), up2_ne (by decide), B 0 (by omega) (by decide) (by decide) (by decide) (by decide)]
      have C10 : σ3 0 10 = 5 := by rw [← hσ3, up2_eq, upd_n _ _ (by decide), up2_eq, upd_s]
      have C11 : σ3 0 11 = p.1 := by rw [← hσ3, up2_eq, upd_s]
      have Ck : ∀ k, k ≠ 0 → k ≠ 7 → k ≠ 9 → σ3 k = σ1 k := fun k a b d => by rw [← hσ3, up2_ne a, up2_ne a, upr_ne d, up2_ne b]
      have C7 : σ3 7 2 = nI c' := by rw [← hσ3, up2_ne (by decide), up2_ne (by decide), upr_ne (by decide), up2_eq, upd_s]
      have C9 : σ3 9 = o' := by rw [← hσ3, up2_ne (by decide), up2_ne (by decide)]; exact upr_at _ _ _
      have hSK : SK s1 := by unfold SK; rw [S0 0 (by decide) (by decide), S0 1 (by decide) (by decide), S0 2 (by decide) (by decide), Sk 4 (by decide), rk 4 (by decide) (by decide) (by decide)]; exact k2
      have hTs : TA s s1 := ((TA.same (fun k _ _ => G k (by omega))).tr hTAs).tr (TA.same (fun k a b => Sk k (by omega)))
      refine ⟨?_, ⟨fun _ => by rw [S15]; decide, fun _ => rfl⟩, ?_, ?_, ?_⟩
      · refine RI_mk (c := c') h (fun k a b => by rw [Ck k (by omega) (by omega) (by omega)]; exact B k (by omega) (by omega) (by omega) (by omega) (by omega)) (C0 7 (by decide) (by decide)) (C0 8 (by decide) (by decide)) (fun k a b => by rw [Ck k (by omega) (by omega) (by omega)]; exact B k (by omega) (by omega) (by omega) (by omega) (by omega)) (by rw [Ck 30 (by decide) (by decide) (by decide)]; exact B 30 (by omega) (by decide) (by decide) (by decide) (by decide)) (fun k a b d => by rw [Sk k (by omega)]; exact rk k a b d) (fun j a b => S0 j (by omega) (by omega)) ?_ ⟨c4, C7, ?_, ?_, ?_⟩ ?_ ⟨?_, ?_, ?_, ?_⟩
        · have t1 := TL_TR T1
          have : TL σ3 p.2 := by
            unfold TL at t1 ⊢
            rw [Ck 14 (by decide) (by decide) (by decide), Ck 15 (by decide) (by decide) (by decide), Ck 16 (by decide) (by decide) (by decide), Ck 17 (by decide) (by decide) (by decide), Ck 18 (by decide) (by decide) (by decide), Ck 19 (by decide) (by decide) (by decide), Ck 20 (by decide) (by decide) (by decide), Ck 21 (by decide) (by decide) (by decide), Ck 23 (by decide) (by decide) (by decide), Ck 25 (by decide) (by decide) (by decide)]
            exact t1
          exact TL_TA this (TA.same (fun k a b => Sk k (by omega)))
        · rw [S0 3 (by decide) (by decide)]; exact cm
        · intro j hj
          rw [Ck 8 (by decide) (by decide) (by decide), F1 8 (by omega), Sk 6 (by decide), r6]; exact F8' j (by omega)
        · intro k hk
          rw [C9, ho' k hk, co k hk, Sk 6 (by decide), r6, oD_congr (f := sG 6) (g := s 6) (c := c') (by omega) Gold]
        · refine AD_keep c4 k2 hSK (MO_rf (S0 0 (by decide) (by decide)) (S0 1 (by decide) (by decide)) (S0 2 (by decide) (by decide)) ?_ ?_ ?_) (fun x _ => ?_) hTs (fun i _ _ z => ?_) (fun j hj => ?_) hA
          · rw [Sk 1 (by decide)]; exact rk 1 (by decide) (by decide) (by decide)
          · rw [Sk 2 (by decide)]; exact rk 2 (by decide) (by decide) (by decide)
          · rw [Sk 4 (by decide)]; exact rk 4 (by decide) (by decide) (by decide)
          · rw [Sk 5 (by decide), rk 5 (by decide) (by decide) (by decide)]
          · unfold isSl at z ⊢
            rw [Sk 3 (by decide), rk 3 (by decide) (by decide) (by decide)]; exact z
          · rw [Sk 6 (by decide), r6]; exact Gold j hj
        · rw [C0 9 (by decide) (by decide), S0 4 (by decide) (by decide)]; exact k7.1
        · rw [S0 4 (by decide) (by decide)]; exact k7.2.1
        · rw [C10, S15]
        · rw [C11, S16]
      · rw [Ck 30 (by decide) (by decide) (by decide)]; exact B 30 (by omega) (by decide) (by decide) (by decide) (by decide)
      · rw [Sk 8 (by decide)]; exact rk 8 (by decide) (by decide) (by decide)
      · exact S0 4 (by decide) (by decide)
end SLIP
