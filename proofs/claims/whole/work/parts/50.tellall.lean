/-! telling slips in a row -/
noncomputable def fU (f o : Nat → Int32) : Nat → Nat → St → Int32 × St
  | 0, _, s => (-1, s)
  | m + 1, k, s => @ite _ (okS f (ix (o k)) s) (Classical.propDecidable _) (fU f o m (k + 1) (efS f (ix (o k)) s)) (o k, s)
def knS (f : Nat → Int32) (mi kn : Int32) (i : Nat) (s : St) : Prop := (¬ mi < f (8 * i + 6) ∧ ¬ kn < f (8 * i + 7)) ∧ okS f i s
noncomputable def stK (f : Nat → Int32) (mi kn : Int32) (i : Nat) (s : St) : St := @ite _ (knS f mi kn i s) (Classical.propDecidable _) (efS f i s) s
noncomputable def fK (f o : Nat → Int32) (mi kn : Int32) : Nat → Nat → St → St
  | 0, _, s => s
  | m + 1, k, s => fK f o mi kn m (k + 1) (stK f mi kn (ix (o k)) s)
theorem fU_y {f o : Nat → Int32} {m k : Nat} {s : St} (h : okS f (ix (o k)) s) : fU f o (m + 1) k s = fU f o m (k + 1) (efS f (ix (o k)) s) := by simp only [fU, h, if_true]
theorem fU_n {f o : Nat → Int32} {m k : Nat} {s : St} (h : ¬ okS f (ix (o k)) s) : fU f o (m + 1) k s = (o k, s) := by simp only [fU, h, if_false]
theorem stK_y {f : Nat → Int32} {mi kn : Int32} {i : Nat} {s : St} (h : knS f mi kn i s) : stK f mi kn i s = efS f i s := by simp only [stK, h, if_true]
theorem stK_n {f : Nat → Int32} {mi kn : Int32} {i : Nat} {s : St} (h : ¬ knS f mi kn i s) : stK f mi kn i s = s := by simp only [stK, h, if_false]
def FM (s s' : St) : Prop := ∀ k, (k < 9 ∨ 19 < k) → s' k = s k
theorem FM.rf {s : St} : FM s s := fun _ _ => rfl
theorem FM.tr {s s1 s2 : St} (h : FM s s1) (h2 : FM s1 s2) : FM s s2 := fun k hk => (h2 k hk).trans (h k hk)
theorem FM.up {s s1 : St} (h : FM s s1) {k j : Nat} {v : Int32} (h1 : 9 ≤ k) (h2 : k ≤ 19) : FM s (up2 s1 k j v) := fun q hq => by
  rw [up2_ne (by omega)]; exact h q hq
theorem FM.mv {s s1 : St} (h : FM s s1) {x u w : Int32} : FM s (mvE s1 x u w) := (h.up (by decide) (by decide)).up (by decide) (by decide)
theorem FM_ite {s a b : St} {c : Prop} {i : Decidable c} (h1 : FM s a) (h2 : FM s b) : FM s (@ite _ c i a b) := by
  by_cases h : c
  · rw [if_pos h]; exact h1
  · rw [if_neg h]; exact h2
theorem dE_FM (s : St) (k t a c d : Int32) : FM s (dE s k t a c d) := by
  unfold dE
  repeat' (first | exact FM.rf | apply FM_ite | apply FM.mv | refine FM.up ?_ (by decide) (by decide))
theorem efS_FM (f : Nat → Int32) (i : Nat) (s : St) : FM s (efS f i s) := dE_FM _ _ _ _ _ _
theorem stK_FM (f : Nat → Int32) (mi kn : Int32) (i : Nat) (s : St) : FM s (stK f mi kn i s) := by
  by_cases h : knS f mi kn i s
  · rw [stK_y h]; exact efS_FM f i s
  · rw [stK_n h]; exact FM.rf
theorem fU_FM (f o : Nat → Int32) : ∀ (m k : Nat) (s : St), FM s (fU f o m k s).2 := by
  intro m
  induction m with
  | zero => intro k s; exact FM.rf
  | succ m ih =>
    intro k s
    by_cases h : okS f (ix (o k)) s
    · rw [fU_y h]; exact (efS_FM f _ s).tr (ih _ _)
    · rw [fU_n h]; exact FM.rf
theorem fK_FM (f o : Nat → Int32) (mi kn : Int32) : ∀ (m k : Nat) (s : St), FM s (fK f o mi kn m k s) := by
  intro m
  induction m with
  | zero => intro k s; exact FM.rf
  | succ m ih => intro k s; simp only [fK]; exact (stK_FM f mi kn _ s).tr (ih _ _)
theorem SI_ef {f : Nat → Int32} {i : Nat} {s : St} (hS : SI s) (h : okS f i s) : SI (efS f i s) := SI_dE hS h.2.2
theorem SI_stK {f : Nat → Int32} {mi kn : Int32} {i : Nat} {s : St} (hS : SI s) : SI (stK f mi kn i s) := by
  by_cases h : knS f mi kn i s
  · rw [stK_y h]; exact SI_ef hS h.2
  · rw [stK_n h]; exact hS
theorem SI_fU (f o : Nat → Int32) : ∀ (m k : Nat) (s : St), SI s → SI (fU f o m k s).2 := by
  intro m
  induction m with
  | zero => intro k s h; exact h
  | succ m ih =>
    intro k s hS
    by_cases h : okS f (ix (o k)) s
    · rw [fU_y h]; exact ih _ _ (SI_ef hS h)
    · rw [fU_n h]; exact hS
theorem SI_fK (f o : Nat → Int32) (mi kn : Int32) : ∀ (m k : Nat) (s : St), SI s → SI (fK f o mi kn m k s) := by
  intro m
  induction m with
  | zero => intro k s h; exact h
  | succ m ih => intro k s hS; simp only [fK]; exact ih _ _ (SI_stK hS)
section CLS
variable {r : Nat}
theorem okS_congr {f g : Nat → Int32} {i : Nat} (s : St) (h : ∀ j, j < 8 → f (8 * i + j) = g (8 * i + j)) : okS f i s = okS g i s ∧ efS f i s = efS g i s := by
  have h0 := h 0 (by decide)
  rw [Nat.add_zero] at h0
  unfold okS efS
  rw [h0, h 1 (by decide), h 2 (by decide), h 3 (by decide), h 4 (by decide), h 5 (by decide), h 6 (by decide), h 7 (by decide)]
  exact ⟨rfl, rfl⟩
/-- the same slips, the same order, as far as there are any -/
theorem fU_congr {f g o q : Nat → Int32} {n : Nat} (hn : n < 2 ^ 31) (hf : ∀ j, j < 8 * n → f j = g j) (ho : ∀ k, k < n → o k = q k ∧ ∃ v, v < n ∧ o k = nI v) : ∀ (m k : Nat) (s : St), k + m ≤ n → fU f o m k s = fU g q m k s := by
  intro m
  induction m with
  | zero => intro k s _; rfl
  | succ m ih =>
    intro k s hk
    obtain ⟨e, v, hv, ev⟩ := ho k (by omega)
    have hi : ix (o k) = v := by rw [ev, ix_nI (by omega)]
    obtain ⟨c1, c2⟩ := okS_congr (f := f) (g := g) (i := ix (o k)) s (fun j hj => hf _ (by rw [hi]; omega))
    by_cases h : okS f (ix (o k)) s
    · have h' : okS g (ix (q k)) s := by rw [← e, ← c1]; exact h
      rw [fU_y h, fU_y h', c2, e]
      exact ih _ _ (by omega)
    · have h' : ¬ okS g (ix (q k)) s := by rw [← e, ← c1]; exact h
      rw [fU_n h, fU_n h', e]
theorem fK_congr {f g o q : Nat → Int32} {mi kn : Int32} {n : Nat} (hn : n < 2 ^ 31) (hf : ∀ j, j < 8 * n → f j = g j) (ho : ∀ k, k < n → o k = q k ∧ ∃ v, v < n ∧ o k = nI v) : ∀ (m k : Nat) (s : St), k + m ≤ n → fK f o mi kn m k s = fK g q mi kn m k s := by
  intro m
  induction m with
  | zero => intro k s _; rfl
  | succ m ih =>
    intro k s hk
    obtain ⟨e, v, hv, ev⟩ := ho k (by omega)
    have hi : ix (o k) = v := by rw [ev, ix_nI (by omega)]
    have hj : ∀ j, j < 8 → f (8 * ix (o k) + j) = g (8 * ix (o k) + j) := fun j hj => hf _ (by rw [hi]; omega)
    obtain ⟨c1, c2⟩ := okS_congr (f := f) (g := g) (i := ix (o k)) s hj
    simp only [fK]
    have e2 : stK f mi kn (ix (o k)) s = stK g mi kn (ix (q k)) s := by
      have e3 : knS f mi kn (ix (o k)) s = knS g mi kn (ix (o k)) s := by
        unfold knS
        rw [c1, hj 6 (by decide), hj 7 (by decide)]
      rw [← e]
      by_cases h : knS f mi kn (ix (o k)) s
      · rw [stK_y h, stK_y (by rw [← e3]; exact h), c2]
      · rw [stK_n h, stK_n (by rw [← e3]; exact h)]
    rw [e2]
    exact ih _ _ (by omega)
theorem lpCU (hr : r = 7 ∨ r = 10) {Q : Int32 → St → Prop} {n : Nat} (hn4 : n ≤ 400) {f o : Nat → Int32} (ho : ∀ k, k < n → ∃ v, v < n ∧ o k = nI v) : ∀ (g k : Nat) (σ s : St), k ≤ n → n - k < g → TR σ s → SI s → CI σ s → σ r 2 = nI n → σ (r + 1) = f → σ (r + 2) = o → (∀ σ', TR σ' (fU f o (n - k) k s).2 → CI σ' (fU f o (n - k) k s).2 → FR σ σ' → Q (fU f o (n - k) k s).1 σ') → lp_X3_firstUndone_6 r Q g (nI k) σ := by
  intro g
  induction g with
  | zero => intro k σ s _ h; exact absurd h (Nat.not_lt_zero _)
  | succ g ih =>
    intro k σ s hk hg hT hS hC hn hf hor k9
    have r12 : r < 13 ∧ r + 1 < 13 ∧ r + 2 < 13 := by rcases hr with e | e <;> omega
    show b_X3_firstUndone_6 r Q (lp_X3_firstUndone_6 r Q g) (nI k) σ
    unfold b_X3_firstUndone_6
    rw [hn]
    by_cases h : k < n
    · rw [if_pos ((nI_ltI (by omega) (by omega)).mpr h)]
      have hc : (σ r 2).toInt ≤ 400 := by rw [hn, nI_toInt (by omega)]; omega
      have hrg : ∀ q, q < n → rg (σ r 2) (nI q) := fun q hq => by rw [hn, rg_i, nI_toInt (by omega), nI_toInt (by omega)]; omega
      rw [s_inOrder (hrg k h) hc, ix_nI (by omega), hor]
      obtain ⟨v, hv, ev⟩ := ho k h
      have em : n - k = (n - (k + 1)) + 1 := by omega
      rw [em] at k9
      refine c_tell hr hT hS hC (by rw [ev]; exact hrg v hv) hc (fun hok σ' T' C' F' => ?_) (fun hok σ' T' C' F' => ?_)
      · rw [hf] at hok T' C'
        rw [if_neg (by decide), nI_1]
        rw [fU_y hok] at k9
        refine ih (k + 1) σ' _ h (by omega) T' (SI_ef hS hok) C' ?_ ?_ ?_ (fun σ'' T'' C'' F'' => k9 σ'' T'' C'' (F'.tr F''))
        · rw [F' r (by omega)]; exact hn
        · rw [F' (r + 1) (by omega)]; exact hf
        · rw [F' (r + 2) (by omega)]; exact hor
      · rw [hf] at hok
        rw [if_pos rfl]
        rw [fU_n hok] at k9
        exact k9 σ' T' C' F'
    · have e : n - k = 0 := by omega
      rw [if_neg (fun q => h ((nI_ltI (by omega) (by omega)).mp q))]
      rw [e] at k9
      exact k9 σ hT hC FR.rf
theorem c_firstUndone {σ s : St} (hr : r = 7 ∨ r = 10) {Q : Int32 → St → Prop} {n : Nat} (hn4 : n ≤ 400) (hn : σ r 2 = nI n) (ho : ∀ k, k < n → ∃ v, v < n ∧ σ (r + 2) k = nI v) (hk : STK σ s) (hK : SK s) (hL : TL σ s) (k9 : ∀ σ', TR σ' (fU (σ (r + 1)) (σ (r + 2)) n 0 (beg s)).2 → FR σ σ' → Q (fU (σ (r + 1)) (σ (r + 2)) n 0 (beg s)).1 σ') : wp_X3_firstUndone r σ Q := by
  unfold wp_X3_firstUndone
  have r12 : r < 13 ∧ r + 1 < 13 ∧ r + 2 < 13 := by rcases hr with e | e <;> omega
  refine c_clear hk hK hL (fun σ1 T1 C1 F1 => ⟨n + 1, lpCU hr hn4 (f := σ (r + 1)) (o := σ (r + 2)) ho (n + 1) 0 σ1 (beg s) (Nat.zero_le _) (by omega) T1 (SI_beg hK) C1 ?_ ?_ ?_ (fun σ2 T2 C2 F2 => k9 σ2 T2 (F1.tr F2))⟩)
  · rw [F1 r (by omega)]; exact hn
  · exact F1 (r + 1) (by omega)
  · exact F1 (r + 2) (by omega)
theorem lpCK {Q : St → Prop} {n : Nat} (hn4 : n ≤ 400) {f o : Nat → Int32} {mi kn : Int32} (ho : ∀ k, k < n → ∃ v, v < n ∧ o k = nI v) : ∀ (g k : Nat) (σ s : St), k ≤ n → n - k < g → TR σ s → SI s → CI σ s → σ 7 2 = nI n → σ 8 = f → σ 9 = o → (∀ σ', TR σ' (fK f o mi kn (n - k) k s) → CI σ' (fK f o mi kn (n - k) k s) → FR σ σ' → Q σ') → lp_X3_tellKnown_7 7 Q g mi kn (nI k) σ := by
  intro g
  induction g with
  | zero => intro k σ s _ h; exact absurd h (Nat.not_lt_zero _)
  | succ g ih =>
    intro k σ s hk hg hT hS hC hn hf hor k9
    show b_X3_tellKnown_7 7 Q (lp_X3_tellKnown_7 7 Q g) mi kn (nI k) σ
    unfold b_X3_tellKnown_7 j_X3_tellKnown_56
    rw [hn]
    by_cases h : k < n
    · rw [if_pos ((nI_ltI (by omega) (by omega)).mpr h)]
      have hc : (σ 7 2).toInt ≤ 400 := by rw [hn, nI_toInt (by omega)]; omega
      have hrg : ∀ q, q < n → rg (σ 7 2) (nI q) := fun q hq => by rw [hn, rg_i, nI_toInt (by omega), nI_toInt (by omega)]; omega
      have hor' : σ (7 + 2) = o := hor
      rw [s_inOrder (hrg k h) hc, ix_nI (by omega), hor']
      obtain ⟨v, hv, ev⟩ := ho k h
      have hro : rg (σ 7 2) (o k) := by rw [ev]; exact hrg v hv
      have em : n - k = (n - (k + 1)) + 1 := by omega
      rw [em] at k9
      simp only [fK] at k9
      have hf' : σ (7 + 1) = f := hf
      rw [s_cellR (σ := σ) (r := 7) rfl rfl hro hc 6 rfl (by decide) (by decide), s_cellR (σ := σ) (r := 7) rfl rfl hro hc 7 rfl (by decide) (by decide), hf', nI_1]
      have sk : ¬ knS f mi kn (ix (o k)) s → lp_X3_tellKnown_7 7 Q g mi kn (nI (k + 1)) σ := by
        intro nk
        rw [stK_n nk] at k9
        exact ih (k + 1) σ s h (by omega) hT hS hC hn hf hor k9
      by_cases g1 : mi < f (8 * ix (o k) + 6)
      · rw [if_pos g1]; exact sk (fun q => q.1.1 g1)
      · rw [if_neg g1]
        by_cases g2 : kn < f (8 * ix (o k) + 7)
        · rw [if_pos g2]; exact sk (fun q => q.1.2 g2)
        · rw [if_neg g2]
          refine c_tell (Or.inl rfl) hT hS hC hro hc (fun hok σ' T' C' F' => ?_) (fun hok σ' T' C' F' => ?_)
          · rw [hf'] at hok T' C'
            rw [stK_y ⟨⟨g1, g2⟩, hok⟩] at k9
            refine ih (k + 1) σ' _ h (by omega) T' (SI_ef hS hok) C' ?_ ?_ ?_ (fun σ'' T'' C'' F'' => k9 σ'' T'' C'' (F'.tr F''))
            · rw [F' 7 (by decide)]; exact hn
            · rw [F' 8 (by decide)]; exact hf
            · rw [F' 9 (by decide)]; exact hor
          · rw [hf'] at hok
            rw [stK_n (fun q => hok q.2)] at k9
            refine ih (k + 1) σ' s h (by omega) T' hS C' ?_ ?_ ?_ (fun σ'' T'' C'' F'' => k9 σ'' T'' C'' (F'.tr F''))
            · rw [F' 7 (by decide)]; exact hn
            · rw [F' 8 (by decide)]; exact hf
            · rw [F' 9 (by decide)]; exact hor
    · have e : n - k = 0 := by omega
      rw [if_neg (fun q => h ((nI_ltI (by omega) (by omega)).mp q))]
      rw [e] at k9
      exact k9 σ hT hC FR.rf
theorem c_tellKnown {σ s : St} {Q : St → Prop} {n : Nat} {mi kn : Int32} (hn4 : n ≤ 400) (hn : σ 7 2 = nI n) (ho : ∀ k, k < n → ∃ v, v < n ∧ σ 9 k = nI v) (hk : STK σ s) (hK : SK s) (hL : TL σ s) (k9 : ∀ σ', TR σ' (fK (σ 8) (σ 9) mi kn n 0 (beg s)) → CI σ' (fK (σ 8) (σ 9) mi kn n 0 (beg s)) → FR σ σ' → Q σ') : wp_X3_tellKnown 7 σ mi kn Q := by
  unfold wp_X3_tellKnown
  refine c_clear hk hK hL (fun σ1 T1 C1 F1 => ⟨n + 1, lpCK hn4 (f := σ 8) (o := σ 9) ho (n + 1) 0 σ1 (beg s) (Nat.zero_le _) (by omega) T1 (SI_beg hK) C1 ?_ ?_ ?_ (fun σ2 T2 C2 F2 => k9 σ2 T2 C2 (F1.tr F2))⟩)
  · rw [F1 7 (by decide)]; exact hn
  · exact F1 8 (by decide)
  · exact F1 9 (by decide)
end CLS
section MDL
theorem lpMU {k : Nat} (hk : k = 6 ∨ k = 7) {Q : Int32 → St → Prop} {n : Nat} (hn4 : n ≤ 400) {f o : Nat → Int32} (ho : ∀ k, k < n → ∃ v, v < n ∧ o k = nI v) : ∀ (g m : Nat) (s : St), m ≤ n → n - m < g → SI s → s k = f → s 20 = o → Q (fU f o (n - m) m s).1 (fU f o (n - m) m s).2 → lp_X6_firstWrong_12 k Q g (nI n) (nI m) s := by
  intro g
  induction g with
  | zero => intro m s _ h; exact absurd h (Nat.not_lt_zero _)
  | succ g ih =>
    intro m s hm hg hS hf hor k9
    show b_X6_firstWrong_12 k Q (lp_X6_firstWrong_12 k Q g) (nI n) (nI m) s
    unfold b_X6_firstWrong_12 j_X6_firstWrong_45
    by_cases h : m < n
    · rw [if_pos ((nI_ltI (by omega) (by omega)).mpr h)]
      have v1 : vp_in (nI m) 401 := vin_n (by omega) (by decide)
      obtain ⟨v, hv, ev⟩ := ho m h
      have em : n - m = (n - (m + 1)) + 1 := by omega
      rw [em] at k9
      have x0 : 0 ≤ (o m).toInt ∧ (o m).toInt ≤ 400 := by rw [ev, nI_toInt (by omega)]; omega
      refine ⟨v1, ?_⟩
      rw [ix_nI (by omega), hor, m_isSlip hS.1 x0.1 x0.2, hf]
      by_cases hva : vaS f (ix (o m)) s
      · rw [bI_t hva, if_neg (by decide)]
        refine ⟨v1, ?_⟩
        rw [hor]
        refine m_isDone hS x0.1 x0.2 (by rw [hf]; exact hva.1) (fun q => ?_) (fun q => ?_)
        · rw [hf] at q ⊢
          have hok : okS f (ix (o m)) s := ⟨hva.2.2.1, hva.2.2.2, q⟩
          rw [fU_y hok] at k9
          rw [if_neg (by decide), nI_1]
          refine ih (m + 1) _ h (by omega) (SI_ef hS hok) ?_ ?_ k9
          · rw [efS_FM f _ s k (by omega)]; exact hf
          · rw [efS_FM f _ s 20 (by omega)]; exact hor
        · rw [hf] at q
          rw [fU_n (fun z => q z.2.2)] at k9
          rw [if_pos rfl, hor]
          exact ⟨v1, k9⟩
      · rw [bI_f hva, if_pos rfl, hor]
        rw [fU_n (fun z => hva (okS_va z))] at k9
        exact ⟨v1, k9⟩
    · have e : n - m = 0 := by omega
      rw [if_neg (fun q => h ((nI_ltI (by omega) (by omega)).mp q))]
      rw [e] at k9
      exact k9
/-- the reference, sorted */ -/
def srt (k : Nat) (s : St) (n : Nat) : St := upr s 20 (ordN (fun q => s k (8 * q + 6)) (s 20) n)
theorem srt_o (k : Nat) (s : St) (n : Nat) {q : Nat} (h : q ≠ 20) : srt k s n q = s q := upr_ne h
theorem srt_20 (k : Nat) (s : St) (n : Nat) : srt k s n 20 = ordN (fun q => s k (8 * q + 6)) (s 20) n := upr_at _ _ _
theorem m_firstWrong {k : Nat} (hk : k = 6 ∨ k = 7) {s : St} {Q : Int32 → St → Prop} {n : Nat} (hn4 : n ≤ 400) (hK : SK s) (k9 : Q (fU (s k) (srt k s n 20) n 0 (beg (srt k s n))).1 (fU (s k) (srt k s n 20) n 0 (beg (srt k s n))).2) : wp_X6_firstWrong k s (nI n) Q := by
  unfold wp_X6_firstWrong
  refine m_sort (by omega) hn4 (m_begin ⟨n + 1, ?_⟩)
  have hK' : SK (srt k s n) := by unfold SK; rw [srt_o k s n (by decide), srt_o k s n (by decide)]; exact hK
  refine lpMU hk hn4 (f := s k) (o := srt k s n 20) (fun q hq => ?_) (n + 1) 0 _ (Nat.zero_le _) (by omega) (SI_beg hK') ?_ ?_ k9
  · rw [srt_20]; exact ordN_rng (mn := fun q => s k (8 * q + 6)) (s 20) n q hq
  · rw [beg_o _ (by omega)]; exact srt_o k s n (by omega)
  · rw [beg_o _ (by omega)]; rfl
theorem lpMK {Q : St → Prop} {n : Nat} (hn4 : n ≤ 400) {f o : Nat → Int32} {mi kn : Int32} (ho : ∀ k, k < n → ∃ v, v < n ∧ o k = nI v) : ∀ (g m : Nat) (s : St), m ≤ n → n - m < g → SI s → s 0 3 = nI n → s 6 = f → s 20 = o → (∀ k, k < n → vaS f (ix (o k)) s) → Q (fK f o mi kn (n - m) m s) → lp_X6_goOver_18 Q g mi kn (nI m) s := by
  intro g
  induction g with
  | zero => intro m s _ h; exact absurd h (Nat.not_lt_zero _)
  | succ g ih =>
    intro m s hm hg hS hn hf hor hva k9
    show b_X6_goOver_18 Q (lp_X6_goOver_18 Q g) mi kn (nI m) s
    unfold b_X6_goOver_18 j_X6_goOver_83
    rw [hn]
    by_cases h : m < n
    · rw [if_pos ((nI_ltI (by omega) (by omega)).mpr h)]
      have v1 : vp_in (nI m) 401 := vin_n (by omega) (by decide)
      obtain ⟨v, hv, ev⟩ := ho m h
      have em : n - m = (n - (m + 1)) + 1 := by omega
      rw [em] at k9
      simp only [fK] at k9
      have x0 : 0 ≤ (o m).toInt ∧ (o m).toInt ≤ 400 := by rw [ev, nI_toInt (by omega)]; omega
      obtain ⟨a6, b6⟩ := idx8 x0.1 x0.2 (w := 6) (n := 6) rfl (by decide)
      obtain ⟨a7, b7⟩ := idx8 x0.1 x0.2 (w := 7) (n := 7) rfl (by decide)
      simp only [ix_nI (show m < 2 ^ 31 by omega), hor, hf, v1, a6, a7, b6, b7, true_and, nI_1]
      have nxt : ∀ s', SI s' → FM s s' → Q (fK f o mi kn (n - (m + 1)) (m + 1) s') → lp_X6_goOver_18 Q g mi kn (nI (m + 1)) s' := by
        intro s' S' F' kk
        refine ih (m + 1) s' h (by omega) S' ?_ ?_ ?_ (fun k hk => ?_) kk
        · rw [F' 0 (by decide)]; exact hn
        · rw [F' 6 (by decide)]; exact hf
        · rw [F' 20 (by decide)]; exact hor
        · unfold vaS; rw [F' 0 (by decide)]; exact hva k hk
      have sk : ¬ knS f mi kn (ix (o m)) s → lp_X6_goOver_18 Q g mi kn (nI (m + 1)) s := by
        intro nk
        rw [stK_n nk] at k9
        exact nxt s hS FM.rf k9
      by_cases g1 : mi < f (8 * ix (o m) + 6)
      · rw [if_pos g1]; exact sk (fun q => q.1.1 g1)
      · rw [if_neg g1]
        by_cases g2 : kn < f (8 * ix (o m) + 7)
        · rw [if_pos g2]; exact sk (fun q => q.1.2 g2)
        · rw [if_neg g2]
          refine m_isDone hS x0.1 x0.2 (by rw [hf]; exact (hva m h).1) (fun q => ?_) (fun q => ?_)
          · rw [hf] at q ⊢
            have hok : okS f (ix (o m)) s := ⟨(hva m h).2.2.1, (hva m h).2.2.2, q⟩
            rw [stK_y ⟨⟨g1, g2⟩, hok⟩] at k9
            exact nxt _ (SI_ef hS hok) (efS_FM f _ s) k9
          · rw [hf] at q
            exact sk (fun z => q z.2.2.2)
    · have e : n - m = 0 := by omega
      rw [if_neg (fun q => h ((nI_ltI (by omega) (by omega)).mp q))]
      rw [e] at k9
      exact k9
theorem m_goOver {s : St} {Q : St → Prop} {n : Nat} {mi kn : Int32} (hn4 : n ≤ 400) (hn : s 0 3 = nI n) (hK : SK s) (hva : ∀ k, k < n → vaS (s 6) (ix (srt 6 s n 20 k)) s) (k9 : Q (fK (s 6) (srt 6 s n 20) mi kn n 0 (beg (srt 6 s n)))) : wp_X6_goOver s mi kn Q := by
  unfold wp_X6_goOver
  rw [hn]
  refine m_sort (by omega) hn4 (m_begin ⟨n + 1, ?_⟩)
  have hK' : SK (srt 6 s n) := by unfold SK; rw [srt_o 6 s n (by decide), srt_o 6 s n (by decide)]; exact hK
  refine lpMK hn4 (f := s 6) (o := srt 6 s n 20) (fun q hq => ?_) (n + 1) 0 _ (Nat.zero_le _) (by omega) (SI_beg hK') ?_ ?_ ?_ (fun k hk => ?_) k9
  · rw [srt_20]; exact ordN_rng (mn := fun q => s 6 (8 * q + 6)) (s 20) n q hq
  · rw [beg_o _ (by omega)]; exact hn
  · rw [beg_o _ (by omega)]; exact srt_o 6 s n (by omega)
  · rw [beg_o _ (by omega)]; rfl
  · unfold vaS; rw [beg_o _ (by omega)]; exact hva k hk
end MDL
