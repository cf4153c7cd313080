section WHERE
variable {n : Nat} {σ s σ' s' : St}
theorem vaS_same {f : Nat → Int32} {i : Nat} (h : s' 0 2 = s 0 2) : vaS f i s' = vaS f i s := by unfold vaS; rw [h]
theorem fU_all {f o : Nat → Int32} {c : Nat} (hc : c < 2 ^ 31) (ho : ∀ k, k < c → ∃ v, v < c ∧ o k = nI v) : ∀ (m k : Nat) (s : St), k + m ≤ c → (fU f o m k s).1 = -1 → ∀ j, k ≤ j → j < k + m → vaS f (ix (o j)) s := by
  intro m
  induction m with
  | zero => intro k s _ _ j a b; omega
  | succ m ih =>
    intro k s hk hq j a b
    by_cases g : okS f (ix (o k)) s
    · rw [fU_y g] at hq
      by_cases e : j = k
      · rw [e]; exact okS_va g
      · have := ih (k + 1) _ (by omega) hq j (by omega) (by omega)
        rw [vaS_same (s := s) (by rw [efS_FM f _ s 0 (by decide)])] at this
        exact this
    · rw [fU_n g] at hq
      obtain ⟨v, hv, ev⟩ := ho k (by omega)
      rw [ev] at hq
      have h2 := congrArg Int32.toInt hq
      rw [nI_toInt (by omega), tm1_] at h2
      omega
theorem AD_va {c : Nat} (hc : c ≤ 400) (h : AD c s) : ∀ k, k < c → vaS (s 6) (ix (srt 6 s c 20 k)) s := by
  intro k hk
  have := fU_all (f := s 6) (by omega) (oD_rng (s 6) c) c 0 (beg s) (by omega) h k (by omega) (by omega)
  rw [vaS_same (s := s) (by rw [beg_o s (by omega)])] at this
  rw [(srt_agree 6 c (by omega) k hk).1]
  exact this
/-- whether it is to be destroyed: 0 or 1 -/
def P15 (s s1 : St) : Prop := ∀ x, x < 60 → s1 15 x = s 15 x ∨ s1 15 x = 1
theorem P15.rf : P15 s s := fun _ _ => Or.inl rfl
theorem P15.up {s1 : St} (h : P15 s s1) {k j : Nat} {v : Int32} (hk : k ≠ 15 ∨ v = 1) : P15 s (up2 s1 k j v) := by
  intro x hx
  by_cases e : k = 15
  · subst e
    have hv : v = 1 := hk.resolve_left (fun q => q rfl)
    rw [up2_eq]
    by_cases e2 : x = j
    · rw [e2, upd_s]; exact Or.inr hv
    · rw [upd_n _ _ e2]; exact h x hx
  · rw [up2_ne (Ne.symm e)]; exact h x hx
theorem P15.mv {s1 : St} (h : P15 s s1) {x u w : Int32} : P15 s (mvE s1 x u w) := (h.up (Or.inl (by decide))).up (Or.inl (by decide))
theorem P15_ite {a b : St} {c : Prop} {i : Decidable c} (h1 : P15 s a) (h2 : P15 s b) : P15 s (@ite _ c i a b) := by
  by_cases h : c
  · rw [if_pos h]; exact h1
  · rw [if_neg h]; exact h2
theorem P15_dE (s : St) (k t a c d : Int32) : P15 s (dE s k t a c d) := by
  unfold dE
  repeat' (first | exact P15.rf | apply P15_ite | apply P15.mv | refine P15.up ?_ (Or.inl (by decide)) | refine P15.up ?_ (Or.inr rfl))
theorem P15_fK (f o : Nat → Int32) (mi kn : Int32) : ∀ (m k : Nat) (s : St), (∀ x, x < 60 → isB (s 15 x)) → ∀ x, x < 60 → isB (fK f o mi kn m k s 15 x) := by
  intro m
  induction m with
  | zero => intro k s h; exact h
  | succ m ih =>
    intro k s h
    simp only [fK]
    refine ih _ _ (fun x hx => ?_)
    by_cases q : knS f mi kn (ix (o k)) s
    · rw [stK_y q]
      rcases P15_dE s (f (8 * ix (o k))) (f (8 * ix (o k) + 1)) (f (8 * ix (o k) + 2)) (f (8 * ix (o k) + 4)) (f (8 * ix (o k) + 5)) x hx with e | e
      · rw [show efS f (ix (o k)) s 15 x = s 15 x from e]; exact h x hx
      · exact Or.inr e
    · rw [stK_n q]; exact h x hx
noncomputable def ansV (s : St) (x w : Int32) : Int32 := if w = 0 then s 9 (ix x) else if w = 1 then s 10 (ix x) else if w = 2 then s 11 (ix x) else if w = 3 then s 12 (ix x) else if w = 4 then s 9 (otN s 4 (ix x)) else if w = 5 then s 10 (otN s 4 (ix x)) else if w = 6 then s 13 (ix x) else if w = 7 then s 14 (ix x) else if w = 8 then s 15 (ix x) else if w = 9 then nI (sN 31 (ix (s 16 (ix x)))) else if w = 10 then nI (cnB s x) else if w = 11 then s 17 (ix x) else -1
theorem tri_N (hS : SI s) {x : Nat} (hx : x < 60) : s 16 x = nI (ix (s 16 x)) ∧ ix (s 16 x) < 2 ^ 31 := by
  have h := hS.2.2.2.2.2.2.2.1 x hx
  have h0 : 0 ≤ (s 16 x).toInt := by rw [ltI, t0_] at h; omega
  have := ixI h0
  have := bnd (s 16 x)
  exact ⟨z_of h0, by omega⟩
theorem c_answer {Q : Int32 → St → Prop} (hT : TR σ s) (hS : SI s) (hC : CI σ s) {x w : Int32} (hx : rg (s 0 2) x) (k : Q (ansV s x w) σ) : wp_X3_answer σ x w Q := by
  obtain ⟨hl, hv⟩ := th_lt hS.1 hx
  unfold wp_X3_answer
  rw [s_isThing, hT.1.2.2.1, bI_t hx, if_neg (by decide)]
  obtain ⟨b1, b2, b3, b4, b5, b6, b7, b8, b9, b10⟩ := hT.2
  unfold ansV at k
  by_cases e0 : w = 0
  · rw [if_pos e0] at k ⊢; rw [b1]; exact ⟨hv, k⟩
  rw [if_neg e0] at k ⊢
  by_cases e1 : w = 1
  · rw [if_pos e1] at k ⊢; rw [b2]; exact ⟨hv, k⟩
  rw [if_neg e1] at k ⊢
  by_cases e2 : w = 2
  · rw [if_pos e2] at k ⊢; rw [b3]; exact ⟨hv, k⟩
  rw [if_neg e2] at k ⊢
  by_cases e3 : w = 3
  · rw [if_pos e3] at k ⊢; rw [b4]; exact ⟨hv, k⟩
  rw [if_neg e3] at k ⊢
  have ol := otN_lt hS 4 (ix x) hl
  by_cases e4 : w = 4
  · rw [if_pos e4] at k ⊢
    refine c_outermost hT hS hv ?_
    rw [b1, ix_nI (by omega)]; exact ⟨vin_n ol (by decide), k⟩
  rw [if_neg e4] at k ⊢
  by_cases e5 : w = 5
  · rw [if_pos e5] at k ⊢
    refine c_outermost hT hS hv ?_
    rw [b2, ix_nI (by omega)]; exact ⟨vin_n ol (by decide), k⟩
  rw [if_neg e5] at k ⊢
  by_cases e6 : w = 6
  · rw [if_pos e6] at k ⊢; rw [b5]; exact ⟨hv, k⟩
  rw [if_neg e6] at k ⊢
  by_cases e7 : w = 7
  · rw [if_pos e7] at k ⊢; rw [b6]; exact ⟨hv, k⟩
  rw [if_neg e7] at k ⊢
  by_cases e8 : w = 8
  · rw [if_pos e8] at k ⊢; rw [b7]; exact ⟨hv, k⟩
  rw [if_neg e8] at k ⊢
  by_cases e9 : w = 9
  · rw [if_pos e9] at k ⊢
    rw [b8]
    obtain ⟨t1, t2⟩ := tri_N hS hl
    refine ⟨hv, ?_⟩
    rw [t1]
    exact c_bitCount t2 k
  rw [if_neg e9] at k ⊢
  by_cases e10 : w = 10
  · rw [if_pos e10] at k ⊢
    rw [hC.2 _ hl, ← vin_nI hv]; exact ⟨hv, k⟩
  rw [if_neg e10] at k ⊢
  by_cases e11 : w = 11
  · rw [if_pos e11] at k ⊢; rw [b9]; exact ⟨hv, k⟩
  rw [if_neg e11] at k ⊢
  exact k
theorem J_where (h : RI n σ s) (x mi kn w : Int32) : wp_X5_where σ x mi kn w (fun r σ' => wp_X6_where s x mi kn w (fun r' s' => r = r' ∧ RI n σ' s')) := by
  obtain ⟨k1, k2, k3, ⟨c, ⟨c4, cn, cm, cc, co⟩, hA⟩, k6, k7, k8⟩ := id h
  unfold wp_X5_where
  rw [s_isThing, k1.2.2.1]
  by_cases g1 : rg (s 0 2) x
  · rw [bI_t g1, if_neg (by decide)]
    refine c_tellKnown (s := srt 6 s c) c4 cn (fun k hk => ?_) (STK_srt k1 6 c) (SK_srt k2 6 c) (TL_TA k3 (TA_srt 6 c)) (fun σ1 T1 C1 F1 => ?_)
    · rw [co k hk]; exact oD_rng (s 6) c k hk
    rw [runK_eq (s := s) c4 cc co (beg (srt 6 s c))] at T1 C1
    have hS := SI_fK (s 6) (srt 6 s c 20) mi kn c 0 (beg (srt 6 s c)) (SI_beg (SK_srt k2 6 c))
    have hFM := fK_FM (s 6) (srt 6 s c 20) mi kn c 0 (beg (srt 6 s c))
    have hTA := TA_fK (s 6) (srt 6 s c 20) mi kn c 0 (beg (srt 6 s c)) (SI_beg (SK_srt k2 6 c))
    have h15 := P15_fK (s 6) (srt 6 s c 20) mi kn c 0 (beg (srt 6 s c)) (fun x hx => by rw [(beg_r _).2.2.2.2.2.2.1, fillA_in hx]; exact isB_0)
    have hva := AD_va c4 hA
    have MG : ∀ {Q : St → Prop}, Q (fK (s 6) (srt 6 s c 20) mi kn c 0 (beg (srt 6 s c))) → wp_X6_goOver s mi kn Q := fun hq => m_goOver c4 cm k2 hva hq
    obtain ⟨r1, r2⟩ := told_rows hFM
    have hTs := told_TA hTA
    have Rb : RI n σ1 (fK (s 6) (srt 6 s c 20) mi kn c 0 (beg (srt 6 s c))) := RI_told h F1 hFM hTA (TL_TR T1)
    have Rn : RI n σ1 s := RI_tell h (fun q hq => F1 q (Or.inl hq)) (F1 30 (Or.inr (by decide))) (fun _ _ _ => rfl) (fun _ _ => rfl) (TL_back (TL_TR T1) hTs) TA.rf
    generalize fK (s 6) (srt 6 s c 20) mi kn c 0 (beg (srt 6 s c)) = sK at *
    have hx : rg (sK 0 2) x := by rw [r2]; exact g1
    obtain ⟨hl, hv⟩ := th_lt hS.1 hx
    refine c_answer T1 hS C1 hx ?_
    unfold wp_X6_where
    dsimp only
    rw [m_isIn0 k2.2.2.1.1, bI_t g1, if_neg (by decide), m_isIn]
    by_cases g2 : ¬ w < 0 ∧ ¬ 11 < w
    · rw [bI_t g2, if_neg (by decide)]
      refine MG ?_
      unfold ansV
      by_cases e0 : w = 0
      · simp only [if_pos e0]; exact ⟨hv, trivial, Rb⟩
      by_cases e1 : w = 1
      · simp only [if_neg e0, if_pos e1]; exact ⟨hv, trivial, Rb⟩
      by_cases e2 : w = 2
      · simp only [if_neg e0, if_neg e1, if_pos e2]; exact ⟨hv, trivial, Rb⟩
      by_cases e3 : w = 3
      · simp only [if_neg e0, if_neg e1, if_neg e2, if_pos e3]; exact ⟨hv, trivial, Rb⟩
      have ol := otN_lt hS 4 (ix x) hl
      by_cases e4 : w = 4
      · simp only [if_neg e0, if_neg e1, if_neg e2, if_neg e3, if_pos e4]
        refine m_outermost hS hx ?_
        rw [ix_nI (by omega)]; exact ⟨vin_n ol (by decide), rfl, Rb⟩
      by_cases e5 : w = 5
      · simp only [if_neg e0, if_neg e1, if_neg e2, if_neg e3, if_neg e4, if_pos e5]
        refine m_outermost hS hx ?_
        rw [ix_nI (by omega)]; exact ⟨vin_n ol (by decide), rfl, Rb⟩
      by_cases e6 : w = 6
      · simp only [if_neg e0, if_neg e1, if_neg e2, if_neg e3, if_neg e4, if_neg e5, if_pos e6]; exact ⟨hv, trivial, Rb⟩
      by_cases e7 : w = 7
      · simp only [if_neg e0, if_neg e1, if_neg e2, if_neg e3, if_neg e4, if_neg e5, if_neg e6, if_pos e7]; exact ⟨hv, trivial, Rb⟩
      by_cases e8 : w = 8
      · simp only [if_neg e0, if_neg e1, if_neg e2, if_neg e3, if_neg e4, if_neg e5, if_neg e6, if_neg e7, if_pos e8]
        refine ⟨hv, ?_⟩
        rcases h15 _ hl with q | q
        · rw [if_pos q]; exact ⟨q, Rb⟩
        · rw [if_neg (by rw [q]; decide)]; exact ⟨q, Rb⟩
      by_cases e9 : w = 9
      · simp only [if_neg e0, if_neg e1, if_neg e2, if_neg e3, if_neg e4, if_neg e5, if_neg e6, if_neg e7, if_neg e8, if_pos e9]
        obtain ⟨t1, t2⟩ := tri_N hS hl
        refine ⟨hv, ?_⟩
        rw [t1, ix_nI t2]
        exact m_bits t2 ⟨rfl, Rb⟩
      by_cases e10 : w = 10
      · simp only [if_neg e0, if_neg e1, if_neg e2, if_neg e3, if_neg e4, if_neg e5, if_neg e6, if_neg e7, if_neg e8, if_neg e9, if_pos e10]
        exact m_inside hS ⟨rfl, Rb⟩
      · have e11 : w = 11 := by
          have a1 := g2.1
          have a2 := g2.2
          rw [ltI, t0_] at a1
          rw [ltI, show (11 : Int32).toInt = 11 from rfl] at a2
          rw [eqI] at e0 e1 e2 e3 e4 e5 e6 e7 e8 e9 e10 ⊢
          change ¬ w.toInt = 0 at e0
          change ¬ w.toInt = 1 at e1
          change ¬ w.toInt = 2 at e2
          change ¬ w.toInt = 3 at e3
          change ¬ w.toInt = 4 at e4
          change ¬ w.toInt = 5 at e5
          change ¬ w.toInt = 6 at e6
          change ¬ w.toInt = 7 at e7
          change ¬ w.toInt = 8 at e8
          change ¬ w.toInt = 9 at e9
          change ¬ w.toInt = 10 at e10
          show w.toInt = 11
          omega
        simp only [if_neg e0, if_neg e1, if_neg e2, if_neg e3, if_neg e4, if_neg e5, if_neg e6, if_neg e7, if_neg e8, if_neg e9, if_neg e10, if_pos e11]
        exact ⟨hv, trivial, Rb⟩
    · rw [bI_f g2, if_pos rfl]
      refine ⟨?_, Rn⟩
      have ne : ∀ v : Int32, 0 ≤ v.toInt → v.toInt ≤ 11 → ¬ w = v := by
        intro v a b e
        apply g2
        rw [e]
        refine ⟨?_, ?_⟩
        · rw [ltI, t0_]; omega
        · rw [ltI, show (11 : Int32).toInt = 11 from rfl]; omega
      unfold ansV
      rw [if_neg (ne 0 (by decide) (by decide)), if_neg (ne 1 (by decide) (by decide)), if_neg (ne 2 (by decide) (by decide)), if_neg (ne 3 (by decide) (by decide)), if_neg (ne 4 (by decide) (by decide)), if_neg (ne 5 (by decide) (by decide)), if_neg (ne 6 (by decide) (by decide)), if_neg (ne 7 (by decide) (by decide)), if_neg (ne 8 (by decide) (by decide)), if_neg (ne 9 (by decide) (by decide)), if_neg (ne 10 (by decide) (by decide)), if_neg (ne 11 (by decide) (by decide))]
  · rw [bI_f g1, if_pos rfl]
    unfold wp_X6_where
    dsimp only
    rw [m_isIn0 k2.2.2.1.1, bI_f g1, if_pos rfl]
    exact ⟨rfl, h⟩
end WHERE
