section DUE
variable {n : Nat} {σ s σ' s' : St}
def PD (s : St) (day : Int32) (x : Nat) : Prop := (s 9 x = 1 ∨ s 9 x = 2 ∨ s 9 x = 3) ∧ (s 13 x = day ∨ s 14 x = day)
noncomputable def dV (s : St) (day : Int32) (I : Nat) : Nat → Nat → Int32
  | 0, _ => -1
  | m + 1, x => @ite _ (PD s day x ∧ cntP (PD s day) x = I) (Classical.propDecidable _) (nI x) (dV s day I m (x + 1))
theorem dV_y {day : Int32} {I m x : Nat} (h : PD s day x ∧ cntP (PD s day) x = I) : dV s day I (m + 1) x = nI x := by simp only [dV, h, and_self, if_true]
theorem dV_n {day : Int32} {I m x : Nat} (h : ¬ (PD s day x ∧ cntP (PD s day) x = I)) : dV s day I (m + 1) x = dV s day I m (x + 1) := by simp only [dV, h, if_false]
theorem lpCd (hT : TR σ s) (hS : SI s) {day : Int32} {I : Nat} (hI : I < 2 ^ 31) {Q : Int32 → St → Prop} : ∀ (g x : Nat), x ≤ thN s → thN s - x < g → cntP (PD s day) x ≤ I → Q (dV s day I (thN s - x) x) σ → lp_X3_thingOfDay_5 Q g day (nI (I - cntP (PD s day) x)) (nI x) σ := by
  intro g
  induction g with
  | zero => intro x _ h; exact absurd h (Nat.not_lt_zero _)
  | succ g ih =>
    intro x hx hg hc hq
    obtain ⟨t1, t2⟩ := thN_le hS.1
    show b_X3_thingOfDay_5 Q (lp_X3_thingOfDay_5 Q g) day _ (nI x) σ
    unfold b_X3_thingOfDay_5 j_X3_thingOfDay_48 j_X3_thingOfDay_58
    rw [hT.1.2.2.1, t2]
    by_cases h : x < thN s
    · have hv : vp_in (nI x) 60 := vin_n (by omega) (by decide)
      rw [if_pos ((nI_ltI (by omega) (by omega)).mpr h), s_isKept hT hv]
      have em : thN s - x = (thN s - (x + 1)) + 1 := by omega
      rw [em] at hq
      simp only [hT.2.2.2.2.2.1, hT.2.2.2.2.2.2.1, hv, true_and, ix_nI (show x < 2 ^ 31 by omega), nI_1]
      have sk : ¬ PD s day x → lp_X3_thingOfDay_5 Q g day (nI (I - cntP (PD s day) x)) (nI (x + 1)) σ := by
        intro np
        rw [dV_n (fun q => np q.1)] at hq
        have e : cntP (PD s day) (x + 1) = cntP (PD s day) x := by simp only [cntP]; rw [cI_f np, Nat.add_zero]
        have := ih (x + 1) h (by omega) (by rw [e]; exact hc) hq
        rw [e] at this
        exact this
      have tk : PD s day x → (if nI (I - cntP (PD s day) x) = 0 then Q (nI x) σ else lp_X3_thingOfDay_5 Q g day (nI (I - cntP (PD s day) x) + (-1)) (nI (x + 1)) σ) := by
        intro p
        by_cases e : cntP (PD s day) x = I
        · rw [dV_y ⟨p, e⟩] at hq
          rw [if_pos (by rw [e, Nat.sub_self]; rfl)]
          exact hq
        · rw [dV_n (fun q => e q.2)] at hq
          have hne : ¬ nI (I - cntP (PD s day) x) = 0 := fun q => by
            have := (nI_eq (a := I - cntP (PD s day) x) (b := 0) (by omega) (by decide)).mp q
            omega
          rw [if_neg hne]
          have e1 : cntP (PD s day) (x + 1) = cntP (PD s day) x + 1 := by simp only [cntP]; rw [cI_t p]
          have := ih (x + 1) h (by omega) (by rw [e1]; omega) hq
          rw [e1] at this
          have e2 : nI (I - cntP (PD s day) x) + (-1) = nI (I - (cntP (PD s day) x + 1)) := by
            have : I - cntP (PD s day) x = (I - (cntP (PD s day) x + 1)) + 1 := by omega
            rw [this, pk_m1]
          rw [e2]
          exact this
      unfold kpt
      rw [ix_nI (by omega)]
      by_cases g1 : s 9 x = 1 ∨ s 9 x = 2 ∨ s 9 x = 3
      · rw [bI_t g1, if_neg (by decide)]
        by_cases g2 : s 13 x = day
        · rw [if_pos g2]; exact tk ⟨g1, Or.inl g2⟩
        · rw [if_neg g2]
          by_cases g3 : s 14 x = day
          · rw [if_pos g3]; exact tk ⟨g1, Or.inr g3⟩
          · rw [if_neg g3]; exact sk (fun q => q.2.elim g2 g3)
      · rw [bI_f g1, if_pos rfl]; exact sk (fun q => g1 q.1)
    · have e : thN s - x = 0 := by omega
      rw [if_neg (fun k => h ((nI_ltI (by omega) (by omega)).mp k))]
      rw [e] at hq
      exact hq
theorem lpMd (hS : SI s) {day i : Int32} (hd : ¬ day < 0) {v : Int32} {Q : Int32 → St → Prop} : ∀ (g x : Nat), x ≤ thN s → thN s - x < g → ((∃ I, I < 2 ^ 31 ∧ i = nI I ∧ cntP (PD s day) x ≤ I ∧ v = dV s day I (thN s - x) x) ∨ (i < 0 ∧ v = -1)) → Q v s → lp_X6_due_9 Q g day i (nI (cntP (PD s day) x)) (nI x) s := by
  intro g
  induction g with
  | zero => intro x _ h; exact absurd h (Nat.not_lt_zero _)
  | succ g ih =>
    intro x hx hg hv9 hq
    obtain ⟨t1, t2⟩ := thN_le hS.1
    have hcx := cntP_le (PD s day) x
    show b_X6_due_9 Q (lp_X6_due_9 Q g) day i _ (nI x) s
    unfold b_X6_due_9 j_X6_due_56 j_X6_due_67
    rw [t2]
    by_cases h : x < thN s
    · have hv : vp_in (nI x) 60 := vin_n (by omega) (by decide)
      rw [if_pos ((nI_ltI (by omega) (by omega)).mpr h), if_neg hd, m_isKept hS.1 hS.2.1]
      have em : thN s - x = (thN s - (x + 1)) + 1 := by clear hv9; omega
      simp only [hv, true_and, ix_nI (show x < 2 ^ 31 by omega), nI_1]
      have sk : ¬ PD s day x → lp_X6_due_9 Q g day i (nI (cntP (PD s day) x)) (nI (x + 1)) s := by
        intro np
        have e : cntP (PD s day) (x + 1) = cntP (PD s day) x := by simp only [cntP]; rw [cI_f np, Nat.add_zero]
        have := ih (x + 1) h (by omega) ?_ hq
        · rw [e] at this; exact this
        · rcases hv9 with ⟨I, a, b, cI, d⟩ | q
          · refine Or.inl ⟨I, a, b, by rw [e]; exact cI, ?_⟩
            rw [em, dV_n (fun q => np q.1)] at d
            exact d
          · exact Or.inr q
      have tk : PD s day x → (if nI (cntP (PD s day) x) = i then Q (nI x) s else lp_X6_due_9 Q g day i (nI (cntP (PD s day) x + 1)) (nI (x + 1)) s) := by
        intro p
        have e1 : cntP (PD s day) (x + 1) = cntP (PD s day) x + 1 := by simp only [cntP]; rw [cI_t p]
        by_cases e : nI (cntP (PD s day) x) = i
        · rw [if_pos e]
          rcases hv9 with ⟨I, a, b, cI, d⟩ | q
          · have eI : cntP (PD s day) x = I := nI_inj (by omega) a (e.trans b)
            rw [em, dV_y ⟨p, eI⟩] at d
            rw [← d]; exact hq
          · have := q.1
            rw [← e] at this
            exact absurd this (nI_pos (by omega))
        · rw [if_neg e]
          have := ih (x + 1) h (by omega) ?_ hq
          · rw [e1] at this; exact this
          · rcases hv9 with ⟨I, a, b, cI, d⟩ | q
            · have ne : ¬ cntP (PD s day) x = I := fun z => e (by rw [z, b])
              refine Or.inl ⟨I, a, b, by rw [e1]; omega, ?_⟩
              rw [em, dV_n (fun q => ne q.2)] at d
              exact d
            · exact Or.inr q
      have hrx : rg (nI (thN s)) (nI x) := by rw [rg_i, nI_toInt (by omega), nI_toInt (by omega)]; omega
      unfold kpt
      rw [ix_nI (by omega), t2]
      by_cases g1 : s 9 x = 1 ∨ s 9 x = 2 ∨ s 9 x = 3
      · rw [bI_t ⟨hrx, g1⟩, if_neg (by decide)]
        by_cases g2 : s 13 x = day
        · rw [if_pos g2]; exact tk ⟨g1, Or.inl g2⟩
        · rw [if_neg g2]
          by_cases g3 : s 14 x = day
          · rw [if_pos g3]; exact tk ⟨g1, Or.inr g3⟩
          · rw [if_neg g3]; exact sk (fun q => q.2.elim g2 g3)
      · rw [bI_f (fun q => g1 q.2), if_pos rfl]; exact sk (fun q => g1 q.1)
    · have e : thN s - x = 0 := by omega
      rw [if_neg (fun k => h ((nI_ltI (by omega) (by omega)).mp k))]
      rcases hv9 with ⟨I, a, b, cI, d⟩ | q
      · rw [e] at d
        rw [show (-1 : Int32) = v from d.symm]; exact hq
      · rw [show (-1 : Int32) = v from q.2.symm]; exact hq
theorem fK_all {f o : Nat → Int32} {c : Nat} (hc : c < 2 ^ 31) (ho : ∀ k, k < c → ∃ v, v < c ∧ o k = nI v) : ∀ (m k : Nat) (s : St), k + m ≤ c → (fU f o m k s).1 = -1 → fK f o 2147483647 2147483647 m k s = (fU f o m k s).2 := by
  intro m
  induction m with
  | zero => intro k s _ _; rfl
  | succ m ih =>
    intro k s hk hq
    have mx : ∀ x : Int32, ¬ 2147483647 < x := fun x q => by
      rw [ltI, show (2147483647 : Int32).toInt = 2147483647 from rfl] at q
      have := bnd x
      omega
    by_cases g : okS f (ix (o k)) s
    · rw [fU_y g] at hq ⊢
      simp only [fK]
      rw [stK_y ⟨⟨mx _, mx _⟩, g⟩]
      exact ih _ _ (by omega) hq
    · rw [fU_n g] at hq
      obtain ⟨v, hv, ev⟩ := ho k (by omega)
      rw [ev] at hq
      have h2 := congrArg Int32.toInt hq
      rw [nI_toInt (by omega), tm1_] at h2
      omega
theorem J_due (h : RI n σ s) (day i : Int32) : wp_X5_due σ day i (fun r σ' => wp_X6_due s day i (fun r' s' => r = r' ∧ RI n σ' s')) := by
  obtain ⟨k1, k2, k3, ⟨c, ⟨c4, cn, cm, cc, co⟩, hA⟩, k6, k7, k8⟩ := id h
  have hq0 : (fU (s 6) (srt 6 s c 20) c 0 (beg (srt 6 s c))).1 = -1 := by
    rw [← fU_congr (f := s 6) (g := s 6) (o := oD (s 6) c) (q := srt 6 s c 20) (n := c) (by omega) (fun _ _ => rfl) (fun k hk => ⟨(srt_agree 6 c (by omega) k hk).1.symm, oD_rng _ _ k hk⟩) c 0 _ (by omega)]
    refine fU_keep (s := s) (by omega) (oD_rng (s 6) c) k2 (SK_srt k2 6 c) (MO_rf ?_ ?_ ?_ ?_ ?_ ?_) (fun x _ => ?_) (TA_srt 6 c) (fun i _ _ q => ?_) hA
    · rw [srt_o 6 s c (by decide)]
    · rw [srt_o 6 s c (by decide)]
    · rw [srt_o 6 s c (by decide)]
    · rw [srt_o 6 s c (by decide)]
    · rw [srt_o 6 s c (by decide)]
    · rw [srt_o 6 s c (by decide)]
    · rw [srt_o 6 s c (by decide)]
    · unfold isSl at q ⊢; rw [srt_o 6 s c (by decide)]; exact q
  have eK := fK_all (f := s 6) (o := srt 6 s c 20) (c := c) (by omega) (fun k hk => (srt_agree 6 c (by omega) k hk).2) c 0 (beg (srt 6 s c)) (by omega) hq0
  have hS := SI_fU (s 6) (srt 6 s c 20) c 0 (beg (srt 6 s c)) (SI_beg (SK_srt k2 6 c))
  have hFM := fU_FM (s 6) (srt 6 s c 20) c 0 (beg (srt 6 s c))
  have hTA := TA_fU (s 6) (srt 6 s c 20) c 0 (beg (srt 6 s c)) (SI_beg (SK_srt k2 6 c))
  have hva := AD_va c4 hA
  have MG : ∀ {Q : St → Prop}, Q (fU (s 6) (srt 6 s c 20) c 0 (beg (srt 6 s c))).2 → wp_X6_goOverAll s Q := by
    intro Q hq
    unfold wp_X6_goOverAll
    exact m_goOver c4 cm k2 hva (by rw [eK]; exact hq)
  have er := run_eq (k := 6) (f := σ 8) (o := σ 9) c4 cc co (beg (srt 6 s c))
  have R1 : ∀ σ1, FR σ σ1 → TL σ1 (fU (s 6) (srt 6 s c 20) c 0 (beg (srt 6 s c))).2 → RI n σ1 (fU (s 6) (srt 6 s c 20) c 0 (beg (srt 6 s c))).2 := fun σ1 F1 L1 => RI_told h F1 hFM hTA L1
  have R0 : RI n σ (fU (s 6) (srt 6 s c 20) c 0 (beg (srt 6 s c))).2 := R1 σ FR.rf (TL_TA k3 (told_TA hTA))
  have hqq := hq0
  have M : ∀ σ1 (v : Int32), RI n σ1 (fU (s 6) (srt 6 s c 20) c 0 (beg (srt 6 s c))).2 → (¬ day < 0 → (∃ I, I < 2 ^ 31 ∧ i = nI I ∧ v = dV (fU (s 6) (srt 6 s c 20) c 0 (beg (srt 6 s c))).2 day I (thN (fU (s 6) (srt 6 s c 20) c 0 (beg (srt 6 s c))).2) 0) ∨ (i < 0 ∧ v = -1)) → (day < 0 → v = -1) → wp_X6_due s day i (fun r' s' => v = r' ∧ RI n σ1 s') := by
    intro σ1 v hR hv hv0
    unfold wp_X6_due
    refine MG ?_
    generalize (fU (s 6) (srt 6 s c 20) c 0 (beg (srt 6 s c))).2 = sf at *
    by_cases gd : day < 0
    · refine ⟨1, ?_⟩
      show b_X6_due_9 _ _ day i 0 0 sf
      unfold b_X6_due_9
      by_cases q : (0 : Int32) < sf 0 2
      · rw [if_pos q, if_pos gd]; exact ⟨hv0 gd, hR⟩
      · rw [if_neg q]; exact ⟨hv0 gd, hR⟩
    · refine ⟨thN sf + 1, ?_⟩
      have := lpMd (s := sf) hS (i := i) gd (v := v) (Q := fun r' s' => v = r' ∧ RI n σ1 s') (thN sf + 1) 0 (Nat.zero_le _) (by omega) ?_ ⟨rfl, hR⟩
      · exact this
      · rcases hv gd with ⟨I, a, b, d⟩ | q
        · exact Or.inl ⟨I, a, b, Nat.zero_le _, d⟩
        · exact Or.inr q
  unfold wp_X5_due
  by_cases g1 : day < 0
  · rw [if_pos g1]; exact M σ (-1) R0 (fun q => absurd g1 q) (fun _ => rfl)
  rw [if_neg g1]
  by_cases g2 : i < 0
  · rw [if_pos g2]; exact M σ (-1) R0 (fun _ => Or.inr ⟨g2, rfl⟩) (fun _ => rfl)
  rw [if_neg g2]
  refine c_firstUndone (r := 7) (s := srt 6 s c) (Or.inl rfl) c4 cn (fun k hk => ?_) (STK_srt k1 6 c) (SK_srt k2 6 c) (TL_TA k3 (TA_srt 6 c)) (fun σ1 T1 F1 => ?_)
  · show ∃ v, v < c ∧ σ 9 k = nI v
    rw [co k hk]; exact oD_rng (s 6) c k hk
  rw [show σ (7 + 1) = σ 8 from rfl, show σ (7 + 2) = σ 9 from rfl, er] at T1
  obtain ⟨I, hI, ei⟩ := nI_of g2
  have R2 := R1 σ1 F1 (TL_TR T1)
  have M1 := M σ1
  generalize (fU (s 6) (srt 6 s c 20) c 0 (beg (srt 6 s c))).2 = sf at *
  unfold wp_X3_thingOfDay
  refine ⟨thN sf + 1, ?_⟩
  rw [ei] at M1 ⊢
  have := lpCd (Q := fun r σ' => wp_X6_due s day (nI I) (fun r' s' => r = r' ∧ RI n σ' s')) T1 hS hI (day := day) (thN sf + 1) 0 (Nat.zero_le _) (by omega) (Nat.zero_le _) (M1 _ R2 (fun _ => Or.inl ⟨I, hI, rfl, rfl⟩) (fun q => absurd q g1))
  exact this
end DUE
