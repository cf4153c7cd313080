section BREAKS
variable {n : Nat} {σ s σ' s' : St}
def R12 (s a : St) : Prop := a 12 = s 12
theorem R12.rf : R12 s s := rfl
theorem R12.up {s1 : St} (h : R12 s s1) {k j : Nat} {v : Int32} (hk : k ≠ 12) : R12 s (up2 s1 k j v) := by
  unfold R12; rw [up2_ne (Ne.symm hk)]; exact h
theorem R12.mv {s1 : St} (h : R12 s s1) {x u w : Int32} : R12 s (mvE s1 x u w) := (h.up (by decide)).up (by decide)
theorem R12_ite {a b : St} {c : Prop} {i : Decidable c} (h1 : R12 s a) (h2 : R12 s b) : R12 s (@ite _ c i a b) := by
  by_cases h : c
  · rw [if_pos h]; exact h1
  · rw [if_neg h]; exact h2
theorem dE_r12 (s : St) {k t a c d : Int32} (h8 : ¬ k = 8) (h9 : ¬ k = 9) : R12 s (dE s k t a c d) := by
  unfold dE
  rw [if_neg h8, if_neg h9]
  repeat' (first | exact R12.rf | apply R12_ite | apply R12.mv | refine R12.up ?_ (by decide))
theorem rg_inj {m x y : Int32} (hx : rg m x) (hy : rg m y) (h : ix x = ix y) : x = y := by
  rw [rg_i] at hx hy
  rw [z_of hx.1, z_of hy.1, h]
noncomputable def s12 (f : Nat → Int32) (i : Nat) (b v : Int32) : Int32 := if f (8 * i + 1) = b then (if f (8 * i) = 8 then f (8 * i + 4) else if f (8 * i) = 9 then -1 else v) else v
theorem ef12 {f : Nat → Int32} {i : Nat} {b : Int32} (hb : rg (s 0 2) b) (hok : okS f i s) : efS f i s 12 (ix b) = s12 f i b (s 12 (ix b)) := by
  have ht := hok.2.2.1
  unfold efS s12
  by_cases h8 : f (8 * i) = 8
  · unfold dE
    simp only [h8, if_true]
    rw [if_neg (by decide), if_neg (by decide), if_neg (by decide), if_neg (by decide), if_neg (by decide), if_neg (by decide), if_neg (by decide), up2_ne (by decide), up2_eq]
    by_cases e : f (8 * i + 1) = b
    · rw [if_pos e, e, upd_s]
    · rw [if_neg e, upd_n _ _ (fun q => e (rg_inj ht hb q.symm))]
  · by_cases h9 : f (8 * i) = 9
    · unfold dE
      simp only [h9, if_true]
      rw [if_neg (by decide), if_neg (by decide), if_neg (by decide), if_neg (by decide), if_neg (by decide), if_neg (by decide), if_neg (by decide), if_neg (by decide), up2_eq]
      by_cases e : f (8 * i + 1) = b
      · rw [if_pos e, e, upd_s, if_neg (by decide)]
      · rw [if_neg e, upd_n _ _ (fun q => e (rg_inj ht hb q.symm))]
    · rw [dE_r12 s h8 h9, if_neg h8, if_neg h9]
      by_cases e : f (8 * i + 1) = b
      · rw [if_pos e]
      · rw [if_neg e]
def bkP (f : Nat → Int32) (i : Nat) (b v : Int32) : Prop := f (8 * i + 1) = b ∧ (f (8 * i) = 9 ∨ f (8 * i) = 10) ∧ ¬ f (8 * i + 4) = v
noncomputable def bV (f o : Nat → Int32) (b : Int32) : Nat → Nat → St → Int32 × St
  | 0, _, s => (-1, s)
  | m + 1, k, s => @ite _ (bkP f (ix (o k)) b (s 12 (ix b))) (Classical.propDecidable _) (o k, s) (bV f o b m (k + 1) (efS f (ix (o k)) s))
theorem bV_y {f o : Nat → Int32} {b : Int32} {m k : Nat} (h : bkP f (ix (o k)) b (s 12 (ix b))) : bV f o b (m + 1) k s = (o k, s) := by simp only [bV, h, if_true]
theorem bV_n {f o : Nat → Int32} {b : Int32} {m k : Nat} (h : ¬ bkP f (ix (o k)) b (s 12 (ix b))) : bV f o b (m + 1) k s = bV f o b m (k + 1) (efS f (ix (o k)) s) := by simp only [bV, h, if_false]
theorem fU_step {f o : Nat → Int32} {c m k : Nat} (hc : c < 2 ^ 31) (ho : ∀ k, k < c → ∃ v, v < c ∧ o k = nI v) (hk : k < c) (hq : (fU f o (m + 1) k s).1 = -1) : okS f (ix (o k)) s ∧ (fU f o m (k + 1) (efS f (ix (o k)) s)).1 = -1 := by
  by_cases g : okS f (ix (o k)) s
  · rw [fU_y g] at hq; exact ⟨g, hq⟩
  · rw [fU_n g] at hq
    obtain ⟨v, hv, ev⟩ := ho k hk
    rw [ev] at hq
    have h2 := congrArg Int32.toInt hq
    rw [nI_toInt (by omega), tm1_] at h2
    omega
theorem ite_in {A B : Prop} [Decidable A] [Decidable B] (P : Int32 → Prop) {a b c : Int32} (h : P (if A then a else if B then b else c)) : if A then P a else if B then P b else P c := by
  by_cases hA : A
  · rw [if_pos hA] at h ⊢; exact h
  · rw [if_neg hA] at h ⊢
    by_cases hB : B
    · rw [if_pos hB] at h ⊢; exact h
    · rw [if_neg hB] at h ⊢; exact h
theorem SC_STK (k1 : STK σ s) (k2 : SK s) : SC σ := by
  unfold SC
  obtain ⟨a, b, c, d, e, f, g, w⟩ := k1
  rw [a, b, c]
  exact ⟨k2.1, k2.2.1, k2.2.2.1⟩
theorem lpCB {Q : Int32 → St → Prop} {n : Nat} (hn4 : n ≤ 400) {f o : Nat → Int32} {b : Int32} (ho : ∀ k, k < n → ∃ v, v < n ∧ o k = nI v) (hn : σ 7 2 = nI n) (hf : ∀ j, j < 8 * n → σ 8 j = f j) (hor : ∀ k, k < n → σ 9 k = o k) : ∀ (g k : Nat) (s : St), k ≤ n → n - k < g → rg (s 0 2) b → (fU f o (n - k) k s).1 = -1 → Q (bV f o b (n - k) k s).1 σ → lp_X2_firstBreak_4 7 Q g b (s 12 (ix b)) (nI k) σ := by
  intro g
  induction g with
  | zero => intro k s _ h; exact absurd h (Nat.not_lt_zero _)
  | succ g ih =>
    intro k s hk hg hb hq k9
    show b_X2_firstBreak_4 7 Q (lp_X2_firstBreak_4 7 Q g) b (s 12 (ix b)) (nI k) σ
    unfold b_X2_firstBreak_4 j_X2_firstBreak_66 j_X2_firstBreak_75 j_X2_firstBreak_97
    rw [hn]
    by_cases h : k < n
    · rw [if_pos ((nI_ltI (by omega) (by omega)).mpr h)]
      have em : n - k = (n - (k + 1)) + 1 := by omega
      rw [em] at k9 hq
      obtain ⟨hok, hq1⟩ := fU_step (by omega) ho h hq
      obtain ⟨v, hv, ev⟩ := ho k h
      have hc : (σ 7 2).toInt ≤ 400 := by rw [hn, nI_toInt (by omega)]; omega
      have hro : rg (σ 7 2) (o k) := by rw [ev, hn, rg_i, nI_toInt (by omega), nI_toInt (by omega)]; omega
      have hi : ix (o k) = v := by rw [ev, ix_nI (by omega)]
      refine ⟨vin_n (by omega) (by decide), ?_⟩
      unfold nm
      rw [ix_nI (by omega), show σ (7 + 2) k = o k from hor k h]
      have eb : rg (efS f (ix (o k)) s 0 2) b := by rw [efS_FM f _ s 0 (by decide)]; exact hb
      have nx : ¬ bkP f (ix (o k)) b (s 12 (ix b)) → lp_X2_firstBreak_4 7 Q g b (s12 f (ix (o k)) b (s 12 (ix b))) (nI (k + 1)) σ := by
        intro nb
        rw [bV_n nb] at k9
        have := ih (k + 1) _ h (by omega) eb hq1 k9
        rw [ef12 hb hok] at this
        exact this
      have e0 : σ (7 + 1) (8 * ix (o k) + 0) = f (8 * ix (o k)) := hf _ (by rw [hi]; omega)
      have e1 : σ (7 + 1) (8 * ix (o k) + 1) = f (8 * ix (o k) + 1) := hf _ (by rw [hi]; omega)
      have e4 : σ (7 + 1) (8 * ix (o k) + 4) = f (8 * ix (o k) + 4) := hf _ (by rw [hi]; omega)
      simp only [s_cellR (σ := σ) (r := 7) rfl rfl hro hc 1 (show ix 1 = 1 from rfl) (by decide) (by decide), s_cellR (σ := σ) (r := 7) rfl rfl hro hc 0 (show ix 0 = 0 from rfl) (by decide) (by decide), s_cellR (σ := σ) (r := 7) rfl rfl hro hc 4 (show ix 4 = 4 from rfl) (by decide) (by decide), e0, e1, e4, nI_1]
      unfold s12 at nx
      by_cases g1 : f (8 * ix (o k) + 1) = b
      · simp only [if_pos g1] at nx ⊢
        by_cases g9 : f (8 * ix (o k)) = 9
        · rw [if_pos g9]
          by_cases gc : f (8 * ix (o k) + 4) = s 12 (ix b)
          · rw [if_pos gc]
            exact ite_in (fun z => lp_X2_firstBreak_4 7 Q g b z (nI (k + 1)) σ) (nx (fun q => q.2.2 gc))
          · rw [if_neg gc]
            rw [bV_y ⟨g1, Or.inl g9, gc⟩] at k9; exact k9
        · rw [if_neg g9]
          by_cases g10 : f (8 * ix (o k)) = 10
          · rw [if_pos g10]
            by_cases gc : f (8 * ix (o k) + 4) = s 12 (ix b)
            · rw [if_pos gc]
              exact ite_in (fun z => lp_X2_firstBreak_4 7 Q g b z (nI (k + 1)) σ) (nx (fun q => q.2.2 gc))
            · rw [if_neg gc]
              rw [bV_y ⟨g1, Or.inr g10, gc⟩] at k9; exact k9
          · rw [if_neg g10]
            exact ite_in (fun z => lp_X2_firstBreak_4 7 Q g b z (nI (k + 1)) σ) (nx (fun q => q.2.1.elim g9 g10))
      · simp only [if_neg g1] at nx ⊢
        exact nx (fun q => g1 q.1)
    · have e : n - k = 0 := by omega
      rw [if_neg (fun q => h ((nI_ltI (by omega) (by omega)).mp q))]
      rw [e] at k9
      exact k9
theorem lpMB {Q : Int32 → St → Prop} {n : Nat} (hn4 : n ≤ 400) {f o : Nat → Int32} {b : Int32} (ho : ∀ k, k < n → ∃ v, v < n ∧ o k = nI v) : ∀ (g k : Nat) (s : St), k ≤ n → n - k < g → SI s → s 0 3 = nI n → s 6 = f → s 20 = o → rg (s 0 2) b → (fU f o (n - k) k s).1 = -1 → (∀ s', s' = (bV f o b (n - k) k s).2 → SI s' → FM s s' → TA s s' → Q (bV f o b (n - k) k s).1 s') → lp_X6_breaks_42 Q g b (nI k) s := by
  intro g
  induction g with
  | zero => intro k s _ h; exact absurd h (Nat.not_lt_zero _)
  | succ g ih =>
    intro k s hk hg hS hn hf hor hb hq k9
    show b_X6_breaks_42 Q (lp_X6_breaks_42 Q g) b (nI k) s
    unfold b_X6_breaks_42 j_X6_breaks_94 j_X6_breaks_118
    rw [hn]
    by_cases h : k < n
    · rw [if_pos ((nI_ltI (by omega) (by omega)).mpr h)]
      have em : n - k = (n - (k + 1)) + 1 := by omega
      rw [em] at k9 hq
      obtain ⟨hok, hq1⟩ := fU_step (by omega) ho h hq
      obtain ⟨v, hv, ev⟩ := ho k h
      have v1 : vp_in (nI k) 401 := vin_n (by omega) (by decide)
      have x0 : 0 ≤ (o k).toInt ∧ (o k).toInt ≤ 400 := by rw [ev, nI_toInt (by omega)]; omega
      obtain ⟨hbl, hbv⟩ := th_lt hS.1 hb
      obtain ⟨a0, b0⟩ := idx80 x0.1 x0.2
      obtain ⟨a1, b1⟩ := idx8 x0.1 x0.2 (w := 1) (n := 1) rfl (by decide)
      obtain ⟨a4, b4⟩ := idx8 x0.1 x0.2 (w := 4) (n := 4) rfl (by decide)
      have hva := okS_va hok
      have nx : ¬ bkP f (ix (o k)) b (s 12 (ix b)) → wp_X6_isDone 6 s (o k) (fun _ s8 => lp_X6_breaks_42 Q g b (nI (k + 1)) s8) := by
        intro nb
        rw [bV_n nb] at k9
        refine m_isDone hS x0.1 x0.2 (by rw [hf]; exact hva.1) (fun q => ?_) (fun q => ?_)
        · rw [hf]
          have F := efS_FM f (ix (o k)) s
          have T := TA_dE hS.1 hok.2.2
          refine ih (k + 1) _ h (by omega) (SI_ef hS hok) ?_ ?_ ?_ ?_ hq1 (fun s' e S' F' T' => k9 s' e S' (F.tr F') (TA.tr T T'))
          · rw [F 0 (by decide)]; exact hn
          · rw [F 6 (by decide)]; exact hf
          · rw [F 20 (by decide)]; exact hor
          · rw [F 0 (by decide)]; exact hb
        · rw [hf] at q; exact absurd hok.2.2 q
      unfold nm
      simp only [ix_nI (show k < 2 ^ 31 by omega), hor, hf, v1, a0, a1, a4, b0, b1, b4, hbv, true_and, nI_1]
      have yy : bkP f (ix (o k)) b (s 12 (ix b)) → Q (o k) s := by
        intro p
        rw [bV_y p] at k9
        exact k9 s rfl hS FM.rf TA.rf
      by_cases g1 : f (8 * ix (o k) + 1) = b
      · rw [if_pos g1]
        by_cases g9 : f (8 * ix (o k)) = 9
        · rw [if_pos g9]
          by_cases gc : f (8 * ix (o k) + 4) = s 12 (ix b)
          · rw [if_pos gc]; exact nx (fun q => q.2.2 gc)
          · rw [if_neg gc]; exact yy ⟨g1, Or.inl g9, gc⟩
        · rw [if_neg g9]
          by_cases g10 : f (8 * ix (o k)) = 10
          · rw [if_pos g10]
            by_cases gc : f (8 * ix (o k) + 4) = s 12 (ix b)
            · rw [if_pos gc]; exact nx (fun q => q.2.2 gc)
            · rw [if_neg gc]; exact yy ⟨g1, Or.inr g10, gc⟩
          · rw [if_neg g10]; exact nx (fun q => q.2.1.elim g9 g10)
      · rw [if_neg g1]; exact nx (fun q => g1 q.1)
    · have e : n - k = 0 := by omega
      rw [if_neg (fun q => h ((nI_ltI (by omega) (by omega)).mp q))]
      rw [e] at k9
      exact k9 s rfl hS FM.rf TA.rf
/-- all slips told, in the reference's order -/
theorem AD_srt {c : Nat} (c4 : c ≤ 400) (k2 : SK s) (hA : AD c s) : (fU (s 6) (srt 6 s c 20) c 0 (beg (srt 6 s c))).1 = -1 := by
  rw [← fU_congr (f := s 6) (g := s 6) (o := oD (s 6) c) (q := srt 6 s c 20) (n := c) (by omega) (fun _ _ => rfl) (fun k hk => ⟨(srt_agree 6 c (by omega) k hk).1.symm, oD_rng _ _ k hk⟩) c 0 _ (by omega)]
  refine fU_keep (s := s) (by omega) (oD_rng (s 6) c) k2 (SK_srt k2 6 c) (MO_rf ?_ ?_ ?_ ?_ ?_ ?_) (fun x _ => ?_) (TA_srt 6 c) (fun i _ _ q => ?_) hA
  · rw [srt_o 6 s c (by decide)]
  · rw [srt_o 6 s c (by decide)]
  · rw [srt_o 6 s c (by decide)]
  · rw [srt_o 6 s c (by decide)]
  · rw [srt_o 6 s c (by decide)]
  · rw [srt_o 6 s c (by decide)]
  · rw [srt_o 6 s c (by decide)]
  · unfold isSl at q ⊢; rw [srt_o 6 s c (by decide)]; exact q
theorem J_breaks (h : RI n σ s) (b : Int32) : wp_X5_breaks σ b (fun r σ' => wp_X6_breaks s b (fun r' s' => r = r' ∧ RI n σ' s')) := by
  obtain ⟨k1, k2, k3, ⟨c, ⟨c4, cn, cm, cc, co⟩, hA⟩, k6, k7, k8⟩ := id h
  unfold wp_X5_breaks
  rw [s_isBag (SC_STK k1 k2), k1.2.2.1, k1.2.2.2.2.2.2.1]
  unfold wp_X6_breaks
  dsimp only
  simp only [m_isIn0 k2.2.2.1.1]
  by_cases g1 : rg (s 0 2) b
  · obtain ⟨hbl, hbv⟩ := th_lt k2 g1
    rw [bI_t g1]
    simp only [m_isBag k2 hbv]
    by_cases g2 : bg s b
    · rw [bI_t g2, bI_t ⟨g1, g2⟩, if_neg (by decide)]
      simp only [if_neg (show ¬ (1 : Int32) = 0 by decide)]
      have hq := AD_srt c4 k2 hA
      have hK' := SK_srt k2 6 c
      have hb0 : (beg (srt 6 s c)) 0 = s 0 := by rw [beg_o _ (by omega)]; exact srt_o 6 s c (by decide)
      have e12 : (beg (srt 6 s c)) 12 (ix b) = -1 := by rw [(beg_r _).2.2.2.1, fillA_in hbl]
      have C : ∀ {Q : Int32 → St → Prop}, Q (bV (s 6) (srt 6 s c 20) b c 0 (beg (srt 6 s c))).1 σ → wp_X2_firstBreak 7 σ b Q := by
        intro Q hQ
        refine ⟨c + 1, ?_⟩
        have := lpCB (Q := Q) c4 (f := s 6) (o := srt 6 s c 20) (b := b) (fun k hk => (srt_agree 6 c (by omega) k hk).2) cn cc (fun k hk => by rw [co k hk]; exact (srt_agree 6 c (by omega) k hk).1.symm) (c + 1) 0 (beg (srt 6 s c)) (Nat.zero_le _) (by omega) (by rw [hb0]; exact g1) hq hQ
        rw [e12] at this
        exact this
      refine C ?_
      rw [cm]
      refine m_sort (by omega) c4 (m_begin ⟨c + 1, ?_⟩)
      refine lpMB c4 (f := s 6) (o := srt 6 s c 20) (b := b) (fun k hk => (srt_agree 6 c (by omega) k hk).2) (c + 1) 0 (beg (srt 6 s c)) (Nat.zero_le _) (by omega) (SI_beg hK') (by rw [hb0]; exact cm) ?_ ?_ (by rw [hb0]; exact g1) hq (fun s' e S' F' T' => ⟨rfl, ?_⟩)
      · rw [beg_o _ (by omega)]; exact srt_o 6 s c (by omega)
      · exact beg_o _ (by omega)
      · exact RI_told h FR.rf F' T' (TL_TA k3 (told_TA T'))
    · rw [bI_f g2, bI_f (fun q => g2 q.2), if_pos rfl]
      simp only [if_neg (show ¬ (1 : Int32) = 0 by decide), if_true]
      exact ⟨trivial, h⟩
  · rw [bI_f g1, bI_f (fun q => g1 q.1), if_pos rfl]
    simp only [if_true]
    exact ⟨trivial, h⟩
end BREAKS
