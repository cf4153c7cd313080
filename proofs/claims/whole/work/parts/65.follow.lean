section FOLLOW
variable {n : Nat} {σ s σ' s' σ0 : St} {f o : Nat → Int32}
def pz (m : Nat) : Int32 := if m = 0 then -1 else nI (m - 1)
theorem nI_p1 (j : Nat) : nI (j + 1) - 1 = nI j := by
  rw [← nI_1]; exact Int32.add_sub_cancel _ _
theorem pz_s (j : Nat) : pz (j + 1) = nI j := by unfold pz; rw [if_neg (by omega)]; rfl
theorem pz_c (c : Nat) : nI c - 1 = pz c := by
  cases c with
  | zero => rfl
  | succ j => rw [nI_p1, pz_s]
theorem pz_d (j : Nat) : nI j + (-1) = pz j := by rw [← pz_c, Int32.sub_eq_add_neg]
theorem mvk_i {k : Int32} (h : ¬ k < 1 ∧ ¬ 19 < k) : mvk k ↔ (¬ k < 1 ∧ ¬ 7 < k) ∨ k = 18 ∨ k = 19 := by
  obtain ⟨a, b⟩ := h
  unfold mvk
  rw [ltI, show (1 : Int32).toInt = 1 from rfl] at a
  rw [ltI, show (19 : Int32).toInt = 19 from rfl] at b
  simp only [ltI, eqI]
  rw [show (1 : Int32).toInt = 1 from rfl, show (7 : Int32).toInt = 7 from rfl, show (8 : Int32).toInt = 8 from rfl, show (17 : Int32).toInt = 17 from rfl, show (18 : Int32).toInt = 18 from rfl, show (19 : Int32).toInt = 19 from rfl, t0_]
  omega
theorem s_isBirth {x t : Int32} {Q : Int32 → St → Prop} (hx : rg (σ 7 2) x) (hc : (σ 7 2).toInt ≤ 400) : wp_X2_isBirth 7 σ x t Q ↔ Q (bI ((σ 8 (8 * ix x) = 11 ∨ σ 8 (8 * ix x) = 12) ∧ σ 8 (8 * ix x + 4) = t)) σ := by
  unfold wp_X2_isBirth j_X2_isBirth_19
  simp only [s_cellR (σ := σ) (r := 7) rfl rfl hx hc 0 (show ix 0 = 0 from rfl) (by decide) (by decide), s_cellR (σ := σ) (r := 7) rfl rfl hx hc 4 (show ix 4 = 4 from rfl) (by decide) (by decide)]
  show (if σ 8 (8 * ix x) = 11 then (if σ 8 (8 * ix x + 4) = t then Q 1 σ else Q 0 σ) else if σ 8 (8 * ix x) = 12 then (if σ 8 (8 * ix x + 4) = t then Q 1 σ else Q 0 σ) else Q 0 σ) ↔ _
  by_cases e1 : σ 8 (8 * ix x) = 11
  · rw [if_pos e1]
    by_cases e3 : σ 8 (8 * ix x + 4) = t
    · rw [if_pos e3, bI_t ⟨Or.inl e1, e3⟩]
    · rw [if_neg e3, bI_f (fun q => e3 q.2)]
  · rw [if_neg e1]
    by_cases e2 : σ 8 (8 * ix x) = 12
    · rw [if_pos e2]
      by_cases e3 : σ 8 (8 * ix x + 4) = t
      · rw [if_pos e3, bI_t ⟨Or.inr e2, e3⟩]
      · rw [if_neg e3, bI_f (fun q => e3 q.2)]
    · rw [if_neg e2, bI_f (fun q => q.1.elim e1 e2)]
theorem s_isMoveOf {x t : Int32} {Q : Int32 → St → Prop} (hx : rg (σ 7 2) x) (hc : (σ 7 2).toInt ≤ 400) (hk : ¬ σ 8 (8 * ix x) < 1 ∧ ¬ 19 < σ 8 (8 * ix x)) : wp_X2_isMoveOf 7 σ x t Q ↔ Q (bI (σ 8 (8 * ix x + 1) = t ∧ mvk (σ 8 (8 * ix x)))) σ := by
  rw [mvk_i hk]
  unfold wp_X2_isMoveOf j_X2_isMoveOf_18 j_X2_isMoveOf_30 j_X2_isMoveOf_35
  simp only [s_cellR (σ := σ) (r := 7) rfl rfl hx hc 0 (show ix 0 = 0 from rfl) (by decide) (by decide), s_cellR (σ := σ) (r := 7) rfl rfl hx hc 1 (show ix 1 = 1 from rfl) (by decide) (by decide), if_neg (show ¬ (1 : Int32) = 0 by decide), if_true]
  have T : ∀ {P : Prop}, P → ((if σ (7 + 1) (8 * ix x + 1) = t then Q 1 σ else Q 0 σ) ↔ Q (bI (σ 8 (8 * ix x + 1) = t ∧ P)) σ) := by
    intro P hP
    by_cases e3 : σ 8 (8 * ix x + 1) = t
    · rw [if_pos e3, bI_t ⟨e3, hP⟩]
    · rw [if_neg e3, bI_f (fun q => e3 q.1)]
  show (if σ 8 (8 * ix x) < 1 then _ else _) ↔ _
  rw [if_neg hk.1]
  show (if 7 < σ 8 (8 * ix x) then (if σ 8 (8 * ix x) = 18 then _ else if σ 8 (8 * ix x) = 19 then _ else _) else _) ↔ _
  by_cases e1 : 7 < σ 8 (8 * ix x)
  · rw [if_pos e1]
    by_cases e2 : σ 8 (8 * ix x) = 18
    · rw [if_pos e2]; exact T (Or.inr (Or.inl e2))
    · rw [if_neg e2]
      by_cases e3 : σ 8 (8 * ix x) = 19
      · rw [if_pos e3]; exact T (Or.inr (Or.inr e3))
      · rw [if_neg e3, bI_f (fun q => q.2.elim (fun z => z.2 e1) (fun z => z.elim e2 e3))]
  · rw [if_neg e1]; exact T (Or.inl ⟨hk.1, e1⟩)
theorem c_append {Q : St → Prop} {L : List Int32} {x : Int32} (hl : L.length < 400) (h0 : σ 26 2 = nI L.length) (h1 : inA (σ 27) L) (k : ∀ σ', (∀ q, q ≠ 26 → q ≠ 27 → σ' q = σ q) → σ' 26 2 = nI (L ++ [x]).length → inA (σ' 27) (L ++ [x]) → Q σ') : wp_X1_append σ x Q := by
  unfold wp_X1_append nmS
  rw [h0, if_pos (by rw [ltI, nI_toInt (by omega), show (400 : Int32).toInt = 400 from rfl]; omega), ix_nI (by omega)]
  refine ⟨vin_n hl (by decide), k _ (fun q a b => ?_) ?_ ?_⟩
  · rw [up2_ne a, up2_ne b]
  · rw [up2_eq, upd_s, up2_ne (by decide), h0, nI_1, List.length_append]; rfl
  · rw [up2_ne (by decide), up2_eq]; exact inA_push h1 x
/-- what the class follows -/
theorem lpCF {Q : St → Prop} {c : Nat} {thing : Int32} (hc4 : c ≤ 400) (ho : ∀ k, k < c → ∃ v, v < c ∧ o k = nI v) (hF : ∀ j, j < c → ¬ f (8 * ix (o j)) < 1 ∧ ¬ 19 < f (8 * ix (o j))) (hn : σ0 7 2 = nI c) (hf : ∀ j, j < 8 * c → σ0 8 j = f j) (hor : ∀ k, k < c → σ0 9 k = o k) (k9 : ∀ σ' L, (∀ q, q ≠ 26 → q ≠ 27 → σ' q = σ0 q) → σ' 26 2 = nI L.length → inA (σ' 27) L → cl f o c thing = L.reverse → Q σ') : ∀ (g m : Nat) (u : Int32) (σ : St) (L : List Int32), m ≤ c → m < g → (∀ q, q ≠ 26 → q ≠ 27 → σ q = σ0 q) → σ 26 2 = nI L.length → inA (σ 27) L → L.length + m ≤ c → cl f o c thing = cl f o m u ++ L.reverse → lp_X1_follow_17 Q g u (pz m) σ := by
  intro g
  induction g with
  | zero => intro m _ _ _ _ h; exact absurd h (Nat.not_lt_zero _)
  | succ g ih =>
    intro m u σ L hm hg he h26 h27 hL hcl
    show b_X1_follow_17 Q (lp_X1_follow_17 Q g) u (pz m) σ
    unfold b_X1_follow_17 j_X1_follow_83
    cases m with
    | zero =>
      rw [if_pos (by decide)]
      exact k9 σ L he h26 h27 hcl
    | succ j =>
      rw [pz_s, if_neg (nI_pos (by omega)), pz_d]
      have e7 := he 7 (by decide) (by decide)
      have e8 := he 8 (by decide) (by decide)
      have e9 := he 9 (by decide) (by decide)
      have hcc : (σ 7 2).toInt ≤ 400 := by rw [e7, hn, nI_toInt (by omega)]; omega
      have hrj : rg (σ 7 2) (nI j) := by rw [e7, hn, rg_i, nI_toInt (by omega), nI_toInt (by omega)]; omega
      rw [s_inOrder hrj hcc, ix_nI (by omega), show σ (7 + 2) j = o j by rw [show 7 + 2 = 9 from rfl, e9]; exact hor j (by omega)]
      obtain ⟨v, hv, ev⟩ := ho j (by omega)
      have hi : ix (o j) = v := by rw [ev, ix_nI (by omega)]
      have hro : rg (σ 7 2) (o j) := by rw [ev, e7, hn, rg_i, nI_toInt (by omega), nI_toInt (by omega)]; omega
      have c0 : σ 8 (8 * ix (o j)) = f (8 * ix (o j)) := by rw [e8]; exact hf _ (by rw [hi]; omega)
      have c1 : σ 8 (8 * ix (o j) + 1) = f (8 * ix (o j) + 1) := by rw [e8]; exact hf _ (by rw [hi]; omega)
      have c4 : σ 8 (8 * ix (o j) + 4) = f (8 * ix (o j) + 4) := by rw [e8]; exact hf _ (by rw [hi]; omega)
      rw [s_isBirth hro hcc, c0, c4, show ((f (8 * ix (o j)) = 11 ∨ f (8 * ix (o j)) = 12) ∧ f (8 * ix (o j) + 4) = u) = bth f o j u from rfl]
      have rv : ∀ A : List Int32, A ++ [o j] ++ L.reverse = A ++ (L ++ [o j]).reverse := fun A => by
        rw [List.reverse_append, List.append_assoc]; rfl
      by_cases hb : bth f o j u
      · rw [bI_t hb, if_neg (by decide)]
        refine c_append (L := L) (by omega) h26 h27 (fun σ' E1 E2 E3 => ?_)
        have E : ∀ q, q ≠ 26 → q ≠ 27 → σ' q = σ0 q := fun q a b => (E1 q a b).trans (he q a b)
        rw [s_cellR (τ := σ') (σ := σ) (r := 7) (E1 7 (by decide) (by decide)) (E1 8 (by decide) (by decide)) hro hcc 1 (show ix 1 = 1 from rfl) (by decide) (by decide), show σ (7 + 1) (8 * ix (o j) + 1) = thg f o j from c1]
        refine ih j _ σ' (L ++ [o j]) (by omega) (by omega) E E2 E3 (by rw [List.length_append]; simp only [List.length_cons, List.length_nil]; omega) ?_
        rw [hcl, cl_b hb, rv]
      · rw [bI_f hb, if_pos rfl, s_isMoveOf hro hcc (by rw [c0]; exact hF j (by omega)), c0, c1, show (f (8 * ix (o j) + 1) = u ∧ mvk (f (8 * ix (o j)))) = mov f o j u from rfl]
        by_cases hm2 : mov f o j u
        · rw [bI_t hm2, if_neg (by decide)]
          refine c_append (L := L) (by omega) h26 h27 (fun σ' E1 E2 E3 => ?_)
          have E : ∀ q, q ≠ 26 → q ≠ 27 → σ' q = σ0 q := fun q a b => (E1 q a b).trans (he q a b)
          refine ih j u σ' (L ++ [o j]) (by omega) (by omega) E E2 E3 (by rw [List.length_append]; simp only [List.length_cons, List.length_nil]; omega) ?_
          rw [hcl, cl_m hb hm2, rv]
        · rw [bI_f hm2, if_pos rfl]
          refine ih j u σ L (by omega) (by omega) he h26 h27 (by omega) ?_
          rw [hcl, cl_n hb hm2]
theorem c_follow {Q : St → Prop} {c : Nat} {thing : Int32} (hc4 : c ≤ 400) (ho : ∀ k, k < c → ∃ v, v < c ∧ o k = nI v) (hF : ∀ j, j < c → ¬ f (8 * ix (o j)) < 1 ∧ ¬ 19 < f (8 * ix (o j))) (hn : σ 7 2 = nI c) (hf : ∀ j, j < 8 * c → σ 8 j = f j) (hor : ∀ k, k < c → σ 9 k = o k) (k9 : ∀ σ' L, (∀ q, q ≠ 26 → q ≠ 27 → σ' q = σ q) → σ' 26 2 = nI L.length → inA (σ' 27) L → cl f o c thing = L.reverse → Q σ') : wp_X1_follow σ thing Q := by
  unfold wp_X1_follow nmS nm
  dsimp only
  rw [up2_ne (by decide), hn, pz_c]
  refine ⟨c + 1, lpCF hc4 ho hF (σ0 := σ) hn hf hor k9 (c + 1) c thing _ [] (Nat.le_refl _) (by omega) (fun q a b => up2_ne a) ?_ inA_nil (by simp only [List.length_nil]; omega) (by rw [List.reverse_nil, List.append_nil])⟩
  rw [up2_eq, upd_s]; rfl
/-- the i-th of the chain -/
noncomputable def lk (L : List Int32) (x : Int32) : Int32 := @ite _ (rg (nI L.length) x) (Classical.propDecidable _) (L.getD (ix x) (-1)) (-1)
theorem lk_y {L : List Int32} {q : Nat} (hl : L.length < 2 ^ 31) (hq : q < L.length) : lk L (nI q) = L[q] := by
  have h : rg (nI L.length) (nI q) := by rw [rg_i, nI_toInt (by omega), nI_toInt (by omega)]; omega
  simp only [lk, h, if_true]
  rw [ix_nI (by omega), List.getD_eq_getElem?_getD, List.getElem?_eq_getElem hq]; rfl
theorem lk_n {L : List Int32} {x : Int32} (h : ¬ rg (nI L.length) x) : lk L x = -1 := by simp only [lk, h, if_false]
theorem c_link {Q : Int32 → St → Prop} {L : List Int32} {x : Int32} (hl : L.length ≤ 400) (h0 : σ 26 2 = nI L.length) (h1 : inA (σ 27) L) (k : Q (lk L.reverse x) σ) : wp_X1_link σ x Q := by
  unfold wp_X1_link
  rw [h0]
  by_cases g1 : x < 0
  · rw [if_pos g1]
    rw [lk_n (fun q => q.1 g1)] at k; exact k
  · rw [if_neg g1]
    by_cases g2 : x < nI L.length
    · rw [if_pos g2]
      have hx : 0 ≤ x.toInt := by rw [ltI, t0_] at g1; omega
      have ex := z_of hx
      have lx : ix x < L.length := by
        rw [ltI, nI_toInt (by omega)] at g2
        have := ixI hx
        omega
      have en : nI L.length - 1 - x = nI (L.length - 1 - ix x) := by
        have e1 : nI L.length - 1 = nI (L.length - 1 - ix x) + nI (ix x) := by
          rw [nI_add, show L.length - 1 - ix x + ix x = L.length - 1 by omega]
          have := nI_p1 (L.length - 1)
          rw [show L.length - 1 + 1 = L.length by omega] at this
          exact this
        rw [e1, ← ex, Int32.add_sub_cancel]
      rw [en, ix_nI (by omega)]
      refine ⟨vin_n (by omega) (by decide), ?_⟩
      rw [ex, lk_y (by rw [List.length_reverse]; omega) (by rw [List.length_reverse]; exact lx), List.getElem_reverse] at k
      rw [h1 _ _ (List.getElem?_eq_getElem (show L.length - 1 - ix x < L.length by omega))]
      exact k
    · rw [if_neg g2]
      rw [lk_n (fun q => g2 (by rw [List.length_reverse] at q; exact q.2))] at k; exact k
end FOLLOW
