section GAP
variable {n : Nat} {σ s σ' s' s0 s1 : St} {f o : Nat → Int32}
theorem CF_same {c : Nat} (h2 : s' 0 2 = s 0 2) (h4 : s' 4 = s 4) (h : CF f o s c) : CF f o s' c := by
  unfold CF
  rw [h2, h4]
  exact h
theorem m_makeChain {Q : St → Prop} {c : Nat} {t : Int32} (hc4 : c ≤ 400) (hK : SK s) (cm : s 0 3 = nI c) (hA : AD c s) (ht : rg (s 0 2) t) (k9 : ∀ s', EM (srt 6 s c) s' → s' 0 30 = nI (cl (s 6) (srt 6 s c 20) c t).length → inA (s' 21) (cl (s 6) (srt 6 s c 20) c t) → Q s') : wp_X6_makeChain s t Q := by
  have hq := AD_srt hc4 hK hA
  have ho := fun k hk => (srt_agree (s := s) 6 c (by omega) k hk).2
  have hb0 : (beg (srt 6 s c)) 0 = s 0 := by rw [beg_o _ (by omega)]; exact srt_o 6 s c (by decide)
  have hb4 : (beg (srt 6 s c)) 4 = s 4 := by rw [beg_o _ (by omega)]; exact srt_o 6 s c (by decide)
  have hF := CF_of (by omega) (SI_beg (SK_srt hK 6 c)).1 ho hq
  unfold wp_X6_makeChain
  rw [cm]
  refine m_sort (by omega) hc4 ?_
  show ∃ n9 : Nat, lp_X6_makeChain_21 Q n9 0 t (up2 (srt 6 s c) 0 30 0)
  have u0 : ∀ j, j ≠ 30 → up2 (srt 6 s c) 0 30 0 0 j = s 0 j := fun j hj => by rw [up2_eq, upd_n _ _ hj, srt_o 6 s c (by decide)]
  have uq : ∀ q, q ≠ 0 → up2 (srt 6 s c) 0 30 0 q = srt 6 s c q := fun q hq => up2_ne hq
  have hF2 : CF (s 6) (srt 6 s c 20) (up2 (srt 6 s c) 0 30 0) c := CF_same (by rw [u0 2 (by decide), hb0]) (by rw [uq 4 (by decide), hb4, srt_o 6 s c (by decide)]) hF
  have hSK : SK (up2 (srt 6 s c) 0 30 0) := by
    unfold SK
    rw [u0 0 (by decide), u0 1 (by decide), u0 2 (by decide), uq 4 (by decide), srt_o 6 s c (by decide)]
    exact hK
  obtain ⟨A, A1, A2, A3⟩ := hF.2.2.2.2.2
  refine ⟨c + 2, lp21 (s0 := up2 (srt 6 s c) 0 30 0) (A := A) (thing := t) hc4 ho hSK hF2 ⟨?_, ?_, ?_⟩ A1 A3 (fun s' E z1 z2 => k9 s' ⟨fun q a b c d => ?_, fun j hj => ?_⟩ z1 z2) (c + 2) 0 t c _ (by omega) ⟨fun _ _ _ _ _ => rfl, fun _ _ => rfl⟩ ?_ ⟨rfl, rfl⟩ ?_ (by omega) (Or.inl rfl) (fun b hb _ => hb)⟩
  · rw [u0 3 (by decide)]; exact cm
  · rw [uq 6 (by decide)]; exact srt_o 6 s c (by decide)
  · exact uq 20 (by decide)
  · rw [E.1 q a b c d]; exact uq q d
  · rw [E.2 j hj, up2_eq, upd_n _ _ hj]
  · rw [up2_eq, upd_s]
  · rw [u0 2 (by decide)]; exact ht
theorem RI_ch (h : RI n σ s) (a : ∀ q, q ≠ 26 → q ≠ 27 → σ' q = σ q) (b : ∀ q, 1 ≤ q → q < 20 → s' q = s q) (b0 : ∀ j, j < 17 → s' 0 j = s 0 j) : RI n σ' s' := by
  have hTA : TA s s' := TA.same (fun k x y => b k (by omega) (by omega))
  refine RI_tell h (fun k hk => a k (by omega) (by omega)) (a 30 (by decide) (by decide)) (fun k x y => b k x (by omega)) b0 ?_ hTA
  refine TL_TA ?_ hTA
  have k3 := h.2.2.1
  unfold TL at k3 ⊢
  rw [a 14 (by decide) (by decide), a 15 (by decide) (by decide), a 16 (by decide) (by decide), a 17 (by decide) (by decide), a 18 (by decide) (by decide), a 19 (by decide) (by decide), a 20 (by decide) (by decide), a 21 (by decide) (by decide), a 23 (by decide) (by decide), a 25 (by decide) (by decide)]
  exact k3
theorem RI_EM {c : Nat} (h : RI n σ s) (a : ∀ q, q ≠ 26 → q ≠ 27 → σ' q = σ q) (E : EM (srt 6 s c) s') : RI n σ' s' := by
  refine RI_ch h a (fun q x y => ?_) (fun j hj => ?_)
  · rw [E.1 q (by omega) (by omega) (by omega) (by omega)]; exact srt_o 6 s c (by omega)
  · rw [E.2 j (by omega), srt_o 6 s c (by decide)]
theorem inA_lk {g : Nat → Int32} {L : List Int32} (h : inA g L) (hl : L.length < 2 ^ 31) {q : Nat} (hq : q < L.length) : g q = lk L (nI q) := by
  rw [lk_y hl hq]
  exact h q _ (List.getElem?_eq_getElem hq)
theorem J_chain (h : RI n σ s) (t i : Int32) : wp_X5_chain σ t i (fun r σ' => wp_X6_chain s t i (fun r' s' => r = r' ∧ RI n σ' s')) := by
  obtain ⟨k1, k2, k3, ⟨c, ⟨c4, cn, cm, cc, co⟩, hA⟩, k6, k7, k8⟩ := id h
  unfold wp_X5_chain
  rw [s_isThing, k1.2.2.1]
  by_cases g1 : rg (s 0 2) t
  · rw [bI_t g1, if_neg (by decide)]
    have hq := AD_srt c4 k2 hA
    have ho := fun k hk => (srt_agree (s := s) 6 c (by omega) k hk).2
    have hF := CF_of (by omega) (SI_beg (SK_srt k2 6 c)).1 ho hq
    refine c_follow (f := s 6) (o := srt 6 s c 20) (thing := t) c4 ho hF.2.2.2.2.1 cn cc (fun k hk => by rw [co k hk]; exact (srt_agree 6 c (by omega) k hk).1.symm) (fun σ1 L E1 E2 E3 E4 => ?_)
    have hlen := cl_len (f := s 6) (o := srt 6 s c 20) c t
    rw [E4, List.length_reverse] at hlen
    refine c_link (L := L) (by omega) E2 E3 ?_
    unfold wp_X6_chain
    dsimp only
    rw [m_isIn0 k2.2.2.1.1, bI_t g1, if_neg (by decide)]
    refine m_makeChain c4 k2 cm hA g1 (fun s1 M1 M2 M3 => ?_)
    rw [E4] at M2 M3
    have hR : RI n σ1 s1 := RI_EM h E1 M1
    have hl2 : L.reverse.length ≤ 400 := by rw [List.length_reverse]; omega
    rw [M2, m_isIn0 (by rw [nI_toInt (by omega)]; omega)]
    by_cases g2 : rg (nI L.reverse.length) i
    · rw [bI_t g2, if_neg (by decide)]
      have hi0 := (rg_i.mp g2).1
      have ei := z_of hi0
      have li : ix i < L.reverse.length := by
        have := (rg_i.mp g2).2
        rw [nI_toInt (by omega)] at this
        have := ixI hi0
        omega
      refine ⟨by rw [ei]; exact vin_n (by omega) (by decide), ?_, hR⟩
      rw [inA_lk M3 (by omega) li, ← ei]
    · rw [bI_f g2, if_pos rfl]
      exact ⟨lk_n g2, hR⟩
  · rw [bI_f g1, if_pos rfl]
    unfold wp_X6_chain
    dsimp only
    rw [m_isIn0 k2.2.2.1.1, bI_f g1, if_pos rfl]
    exact ⟨rfl, h⟩
/-! the gap -/
noncomputable def gE (f : Nat → Int32) (L : List Int32) : Nat → Nat → Nat → Option Nat
  | 0, _, _ => none
  | m + 1, k, l => if f (8 * ix (lk L (nI k))) = 19 then (if l = 0 then some k else gE f L m (k + 1) (l - 1)) else gE f L m (k + 1) l
theorem gE_rng {L : List Int32} : ∀ (m k l K : Nat), gE f L m k l = some K → k ≤ K ∧ K < k + m := by
  intro m
  induction m with
  | zero => intro k l K h; exact absurd h (fun z => nomatch z)
  | succ m ih =>
    intro k l K h
    simp only [gE] at h
    by_cases e : f (8 * ix (lk L (nI k))) = 19
    · rw [if_pos e] at h
      by_cases e2 : l = 0
      · rw [if_pos e2] at h
        have := Option.some.inj h
        omega
      · rw [if_neg e2] at h
        have := ih _ _ _ h
        omega
    · rw [if_neg e] at h
      have := ih _ _ _ h
      omega
theorem lpCG {Q : Int32 → St → Prop} {c : Nat} {L : List Int32} (hc4 : c ≤ 400) (hl : L.length ≤ 400) (hn : σ 7 2 = nI c) (hf : ∀ j, j < 8 * c → σ 8 j = f j) (h0 : σ 26 2 = nI L.length) (h1 : inA (σ 27) L) (hM : ∀ x, x ∈ L.reverse → ∃ v, v < c ∧ x = nI v) : ∀ (g k l : Nat), L.length + 1 - k < g → l < 2 ^ 31 → k < 2 ^ 30 → (∀ K, gE f L.reverse (L.length - k) k l = some K → Q (nI K) σ) → (gE f L.reverse (L.length - k) k l = none → Q (-1) σ) → lp_X1_endOfGap_4 Q g (nI l) (nI k) σ := by
  intro g
  induction g with
  | zero => intro k l h; exact absurd h (Nat.not_lt_zero _)
  | succ g ih =>
    intro k l hg hl31 hk30 ky kn
    show b_X1_endOfGap_4 Q (lp_X1_endOfGap_4 Q g) (nI l) (nI k) σ
    unfold b_X1_endOfGap_4 j_X1_endOfGap_43
    rw [h0]
    by_cases h : k < L.length
    · rw [if_pos ((nI_ltI (by omega) (by omega)).mpr h), if_neg (nI_pos hl31)]
      refine c_link hl h0 h1 ?_
      have hk' : k < L.reverse.length := by rw [List.length_reverse]; exact h
      have hlk := lk_y (L := L.reverse) (by rw [List.length_reverse]; omega) hk'
      obtain ⟨v, hv, ev⟩ := hM _ (List.getElem_mem hk')
      rw [← hlk] at ev
      have hro : rg (σ 7 2) (lk L.reverse (nI k)) := by rw [ev, hn, rg_i, nI_toInt (by omega), nI_toInt (by omega)]; omega
      have hc : (σ 7 2).toInt ≤ 400 := by rw [hn, nI_toInt (by omega)]; omega
      have em : L.length - k = (L.length - (k + 1)) + 1 := by omega
      rw [em] at ky kn
      simp only [gE] at ky kn
      rw [s_cellR (σ := σ) (r := 7) rfl rfl hro hc 0 (show ix 0 = 0 from rfl) (by decide) (by decide), show σ (7 + 1) (8 * ix (lk L.reverse (nI k)) + 0) = f (8 * ix (lk L.reverse (nI k))) from hf _ (by rw [ev, ix_nI (by omega)]; omega), nI_1]
      by_cases e : f (8 * ix (lk L.reverse (nI k))) = 19
      · rw [if_pos e] at ky kn ⊢
        by_cases e2 : l = 0
        · rw [if_pos e2] at ky
          rw [e2, if_pos (show nI 0 = 0 from rfl)]
          exact ky k rfl
        · rw [if_neg e2] at ky kn
          have ne : ¬ nI l = 0 := fun q => e2 (nI_inj hl31 (by decide) (show nI l = nI 0 from q))
          rw [if_neg ne, pz_d, show l = (l - 1) + 1 by omega, pz_s]
          exact ih (k + 1) (l - 1) (by omega) (by omega) (by omega) ky kn
      · rw [if_neg e] at ky kn ⊢
        exact ih (k + 1) l (by omega) hl31 (by omega) ky kn
    · rw [if_neg (fun q => h ((nI_ltI (by omega) (by omega)).mp q))]
      rw [show L.length - k = 0 by omega] at kn
      exact kn rfl
noncomputable def gA (f : Nat → Int32) (M : List Int32) (w : Int32) (K : Nat) : Int32 := if w = 0 then f (8 * ix (lk M (nI (K - 1))) + 6) else if w = 1 then f (8 * ix (lk M (nI K)) + 6) else if w = 2 then lk M (nI (K - 1)) else lk M (nI K)
theorem lpMG {Q : Int32 → St → Prop} {c : Nat} {M : List Int32} {w : Int32} {I : Nat} (hI : I < 2 ^ 31) (hc4 : c ≤ 400) (hl : M.length ≤ 400) (hf : s 6 = f) (h0 : s 0 30 = nI M.length) (h1 : inA (s 21) M) (hM : ∀ x, x ∈ M → ∃ v, v < c ∧ x = nI v) : ∀ (g k l : Nat), M.length + 1 - k < g → l ≤ I → 1 ≤ k → k < 2 ^ 30 → (∀ K, gE f M (M.length - k) k l = some K → Q (gA f M w K) s) → (gE f M (M.length - k) k l = none → Q (-1) s) → lp_X6_gap_40 Q g (nI I) w (nI (I - l)) (nI k) s := by
  intro g
  induction g with
  | zero => intro k l h; exact absurd h (Nat.not_lt_zero _)
  | succ g ih =>
    intro k l hg hlI hk1 hk30 ky kn
    show b_X6_gap_40 Q (lp_X6_gap_40 Q g) (nI I) w (nI (I - l)) (nI k) s
    unfold b_X6_gap_40 j_X6_gap_159
    rw [h0]
    by_cases h : k < M.length
    · rw [if_pos ((nI_ltI (by omega) (by omega)).mpr h)]
      have X : ∀ q, q < M.length → vp_in (nI q) 800 ∧ s 21 q = lk M (nI q) ∧ 0 ≤ (lk M (nI q)).toInt ∧ (lk M (nI q)).toInt ≤ 400 := by
        intro q hq
        have hlk := lk_y (L := M) (by omega) hq
        obtain ⟨v, hv, ev⟩ := hM _ (List.getElem_mem hq)
        rw [← hlk] at ev
        refine ⟨vin_n (by omega) (by decide), inA_lk h1 (by omega) hq, ?_, ?_⟩
        · rw [ev, nI_toInt (by omega)]; omega
        · rw [ev, nI_toInt (by omega)]; omega
      obtain ⟨x1, x2, x3, x4⟩ := X k h
      obtain ⟨y1, y2, y3, y4⟩ := X (k - 1) (by omega)
      obtain ⟨a0, d0⟩ := idx80 x3 x4
      obtain ⟨a6, d6⟩ := idx8 x3 x4 (w := 6) (n := 6) rfl (by decide)
      obtain ⟨b6, e6⟩ := idx8 y3 y4 (w := 6) (n := 6) rfl (by decide)
      have ek : nI k - 1 = nI (k - 1) := by
        have := nI_p1 (k - 1)
        rw [show k - 1 + 1 = k by omega] at this
        exact this
      have em : M.length - k = (M.length - (k + 1)) + 1 := by omega
      rw [em] at ky kn
      simp only [gE] at ky kn
      simp only [ek, ix_nI (show k < 2 ^ 31 by omega), ix_nI (show k - 1 < 2 ^ 31 by omega), x1, x2, y1, y2, hf, a0, a6, b6, d0, d6, e6, true_and, nI_1]
      by_cases e : f (8 * ix (lk M (nI k))) = 19
      · rw [if_pos e] at ky kn ⊢
        by_cases e2 : l = 0
        · rw [if_pos e2] at ky
          rw [e2, Nat.sub_zero, if_pos rfl]
          have := ky k rfl
          unfold gA at this
          by_cases w0 : w = 0
          · rw [if_pos w0] at this ⊢; exact this
          · rw [if_neg w0] at this ⊢
            by_cases w1 : w = 1
            · rw [if_pos w1] at this ⊢; exact this
            · rw [if_neg w1] at this ⊢
              by_cases w2 : w = 2
              · rw [if_pos w2] at this ⊢; exact this
              · rw [if_neg w2] at this ⊢; exact this
        · rw [if_neg e2] at ky kn
          have ne : ¬ nI (I - l) = nI I := fun q => by
            have := nI_inj (by omega) hI q
            omega
          rw [if_neg ne, show I - l + 1 = I - (l - 1) by omega]
          exact ih (k + 1) (l - 1) (by omega) (by omega) (by omega) (by omega) ky kn
      · rw [if_neg e] at ky kn ⊢
        exact ih (k + 1) l (by omega) hlI (by omega) (by omega) ky kn
    · rw [if_neg (fun q => h ((nI_ltI (by omega) (by omega)).mp q))]
      rw [show M.length - k = 0 by omega] at kn
      exact kn rfl
theorem c_eog_neg {Q : Int32 → St → Prop} {i : Int32} (g2 : i < 0) (k : Q (-1) σ) : wp_X1_endOfGap σ i Q := by
  refine ⟨1, ?_⟩
  show b_X1_endOfGap_4 Q (lp_X1_endOfGap_4 Q 0) i 1 σ
  unfold b_X1_endOfGap_4
  rw [if_pos g2]
  by_cases e : 1 < σ 26 2
  · rw [if_pos e]; exact k
  · rw [if_neg e]; exact k
theorem J_gap (h : RI n σ s) (t i w : Int32) : wp_X5_gap σ t i w (fun r σ' => wp_X6_gap s t i w (fun r' s' => r = r' ∧ RI n σ' s')) := by
  obtain ⟨k1, k2, k3, ⟨c, ⟨c4, cn, cm, cc, co⟩, hA⟩, k6, k7, k8⟩ := id h
  unfold wp_X5_gap
  rw [s_isThing, k1.2.2.1]
  by_cases g1 : rg (s 0 2) t
  · rw [bI_t g1, if_neg (by decide)]
    have hq := AD_srt c4 k2 hA
    have ho := fun k hk => (srt_agree (s := s) 6 c (by omega) k hk).2
    have hF := CF_of (by omega) (SI_beg (SK_srt k2 6 c)).1 ho hq
    refine c_follow (f := s 6) (o := srt 6 s c 20) (thing := t) c4 ho hF.2.2.2.2.1 cn cc (fun k hk => by rw [co k hk]; exact (srt_agree 6 c (by omega) k hk).1.symm) (fun σ1 L E1 E2 E3 E4 => ?_)
    have hlen := cl_len (f := s 6) (o := srt 6 s c 20) c t
    have hmem := cl_mem (f := s 6) ho c t (Nat.le_refl _)
    rw [E4] at hmem hlen
    rw [List.length_reverse] at hlen
    have hlen := Nat.le_trans hlen c4
    have R0 : RI n σ1 s := RI_ch h E1 (fun _ _ _ => rfl) (fun _ _ => rfl)
    have D : (w = 0 ∨ w = 1 ∨ w = 2 ∨ w = 3) ↔ (¬ w < 0 ∧ ¬ 3 < w) := by
      simp only [eqI, ltI]
      rw [show (1 : Int32).toInt = 1 from rfl, show (2 : Int32).toInt = 2 from rfl, show (3 : Int32).toInt = 3 from rfl, t0_]
      omega
    have hn1 : σ1 7 2 = nI c := by rw [E1 7 (by decide) (by decide)]; exact cn
    have hf1 : ∀ j, j < 8 * c → σ1 8 j = s 6 j := fun j hj => by rw [E1 8 (by decide) (by decide)]; exact cc j hj
    unfold wp_X6_gap
    dsimp only
    simp only [m_isIn0 k2.2.2.1.1, bI_t g1, if_neg (show ¬ (1 : Int32) = 0 by decide), m_isIn]
    by_cases g2 : i < 0
    · refine c_eog_neg g2 ?_
      simp only [if_pos g2, if_true]
      by_cases g3 : ¬ w < 0 ∧ ¬ 3 < w
      · rw [bI_t g3]
        simp only [if_neg (show ¬ (1 : Int32) = 0 by decide), ite_self, true_and]; exact R0
      · rw [bI_f g3]
        simp only [if_true, ite_self, true_and]; exact R0
    · have hi0 : 0 ≤ i.toInt := by rw [ltI, t0_] at g2; omega
      have ei := z_of hi0
      have hI : ix i < 2 ^ 31 := by
        have := ixI hi0
        have := bnd i
        omega
      have hl2 : L.reverse.length ≤ 400 := by rw [List.length_reverse]; omega
      have MC : ∀ {Q : Int32 → St → Prop}, (∀ s1, RI n σ1 s1 → (∀ K, gE (s 6) L.reverse (L.length - 1) 1 (ix i) = some K → Q (gA (s 6) L.reverse w K) s1) ∧ (gE (s 6) L.reverse (L.length - 1) 1 (ix i) = none → Q (-1) s1)) → wp_X6_makeChain s t (fun σ5 => ∃ n9 : Nat, lp_X6_gap_40 Q n9 i w 0 1 σ5) := by
        intro Q hQ
        refine m_makeChain c4 k2 cm hA g1 (fun s1 M1 M2 M3 => ?_)
        rw [E4] at M2 M3
        obtain ⟨z1, z2⟩ := hQ s1 (RI_EM h E1 M1)
        refine ⟨L.reverse.length + 2, ?_⟩
        have e6 : s1 6 = s 6 := by rw [M1.1 6 (by decide) (by decide) (by decide) (by decide)]; exact srt_o 6 s c (by decide)
        have := lpMG (Q := Q) (w := w) (I := ix i) hI c4 hl2 e6 M2 M3 hmem (L.reverse.length + 2) 1 (ix i) (by omega) (Nat.le_refl _) (by decide) (by decide) (by rw [List.length_reverse]; exact z1) (by rw [List.length_reverse]; exact z2)
        rw [← ei, Nat.sub_self] at this
        exact this
      simp only [if_neg g2]
      refine ⟨L.length + 2, ?_⟩
      have CG := fun {Q : Int32 → St → Prop} => lpCG (Q := Q) (f := s 6) c4 hlen hn1 hf1 E2 E3 hmem (L.length + 2) 1 (ix i) (by omega) hI (by decide)
      rw [ei]
      refine CG (fun K hK => ?_) (fun hK => ?_)
      · obtain ⟨r1, r2⟩ := gE_rng _ _ _ _ hK
        have ne : ¬ nI K = -1 := fun q => by
          have := congrArg Int32.toInt q
          rw [nI_toInt (by omega), tm1_] at this
          omega
        have eK : nI K - 1 = nI (K - 1) := by
          have := nI_p1 (K - 1)
          rw [show K - 1 + 1 = K by omega] at this
          exact this
        rw [if_neg ne, eK]
        refine c_link hlen E2 E3 (c_link hlen E2 E3 ?_)
        have X : ∀ q, q < L.length → rg (σ1 7 2) (lk L.reverse (nI q)) ∧ σ1 8 (8 * ix (lk L.reverse (nI q)) + 6) = s 6 (8 * ix (lk L.reverse (nI q)) + 6) := by
          intro q hq
          have hq' : q < L.reverse.length := by rw [List.length_reverse]; exact hq
          have hlk := lk_y (L := L.reverse) (by omega) hq'
          obtain ⟨v, hv, ev⟩ := hmem _ (List.getElem_mem hq')
          rw [← hlk] at ev
          refine ⟨?_, hf1 _ ?_⟩
          · rw [ev, hn1, rg_i, nI_toInt (by omega), nI_toInt (by omega)]; omega
          · rw [ev, ix_nI (by omega)]; omega
        have hc : (σ1 7 2).toInt ≤ 400 := by rw [hn1, nI_toInt (by omega)]; omega
        obtain ⟨x1, x2⟩ := X K (by omega)
        obtain ⟨y1, y2⟩ := X (K - 1) (by omega)
        rw [s_cellR (σ := σ1) (r := 7) rfl rfl y1 hc 6 (show ix 6 = 6 from rfl) (by decide) (by decide), s_cellR (σ := σ1) (r := 7) rfl rfl x1 hc 6 (show ix 6 = 6 from rfl) (by decide) (by decide), show σ1 (7 + 1) (8 * ix (lk L.reverse (nI K)) + 6) = _ from x2, show σ1 (7 + 1) (8 * ix (lk L.reverse (nI (K - 1))) + 6) = _ from y2]
        have Y : (w = 0 ∨ w = 1 ∨ w = 2 ∨ w = 3) → ∀ v, v = gA (s 6) L.reverse w K → (if bI (¬ w < 0 ∧ ¬ 3 < w) = 0 then (v = -1 ∧ RI n σ1 s) else wp_X6_makeChain s t (fun σ5 => ∃ n9 : Nat, lp_X6_gap_40 (fun r' s' => v = r' ∧ RI n σ1 s') n9 (nI (ix i)) w 0 1 σ5)) := by
          intro hw v hv
          rw [bI_t (D.mp hw), if_neg (by decide), ← ei]
          refine MC (fun s1 R1 => ⟨fun K' hK' => ?_, fun hN => ?_⟩)
          · rw [hK] at hK'
            rw [← Option.some.inj hK']
            exact ⟨hv, R1⟩
          · rw [hK] at hN; exact absurd hN (fun z => nomatch z)
        by_cases w0 : w = 0
        · rw [if_pos w0]; exact Y (Or.inl w0) _ (by unfold gA; rw [if_pos w0])
        rw [if_neg w0]
        by_cases w1 : w = 1
        · rw [if_pos w1]; exact Y (Or.inr (Or.inl w1)) _ (by unfold gA; rw [if_neg w0, if_pos w1])
        rw [if_neg w1]
        by_cases w2 : w = 2
        · rw [if_pos w2]; exact Y (Or.inr (Or.inr (Or.inl w2))) _ (by unfold gA; rw [if_neg w0, if_neg w1, if_pos w2])
        rw [if_neg w2]
        by_cases w3 : w = 3
        · rw [if_pos w3]; exact Y (Or.inr (Or.inr (Or.inr w3))) _ (by unfold gA; rw [if_neg w0, if_neg w1, if_neg w2])
        rw [if_neg w3, bI_f (fun q => (D.mpr q).elim w0 (fun z => z.elim w1 (fun z => z.elim w2 w3))), if_pos rfl]
        exact ⟨trivial, R0⟩
      · rw [if_pos rfl]
        by_cases g3 : ¬ w < 0 ∧ ¬ 3 < w
        · rw [bI_t g3, if_neg (by decide), ← ei]
          refine MC (fun s1 R1 => ⟨fun K' hK' => ?_, fun hN => ⟨rfl, R1⟩⟩)
          rw [hK] at hK'; exact absurd hK' (fun z => nomatch z)
        · rw [bI_f g3, if_pos rfl]; exact ⟨trivial, R0⟩
  · rw [bI_f g1, if_pos rfl]
    unfold wp_X6_gap
    dsimp only
    rw [m_isIn0 k2.2.2.1.1, bI_f g1, if_pos rfl]
    exact ⟨rfl, h⟩
end GAP
