section MOVE
variable {σ s : St}
/-- what moving needs of the rows -/
def SJ (s : St) : Prop := SK s ∧ I_bag s ∧ I_pl s ∧ I_un s
theorem SI_J (h : SI s) : SJ s := ⟨h.1, h.2.2.2.2.1, h.2.2.2.2.2.2.2.2.1, h.2.2.2.2.2.2.2.2.2⟩
theorem SJ_same {s' : St} (h : SJ s) (h0 : s' 0 = s 0) (h4 : s' 4 = s 4) (h9 : s' 9 = s 9) (h10 : s' 10 = s 10) : SJ s' := by
  unfold SJ SK I_bag I_pl I_un upx at h ⊢
  rw [h0, h4, h9, h10]
  exact h
theorem mvE_9 (s : St) (x u w : Int32) : mvE s x u w 9 = upd (s 9) (ix x) u := by
  simp only [mvE]
  rw [up2_ne (by decide), up2_eq]
theorem mvE_10 (s : St) (x u w : Int32) : mvE s x u w 10 = upd (s 10) (ix x) w := by
  simp only [mvE]
  rw [up2_eq, up2_ne (by decide)]
theorem mvE_o (s : St) (x u w : Int32) {k : Nat} (h9 : k ≠ 9) (h10 : k ≠ 10) : mvE s x u w k = s k := by
  simp only [mvE]
  rw [up2_ne h10, up2_ne h9]
theorem upd_s (f : Nat → Int32) (k : Nat) (v : Int32) : upd f k v k = v := by simp [upd]
theorem upd_n (f : Nat → Int32) {k j : Nat} (v : Int32) (h : j ≠ k) : upd f k v j = f j := by simp [upd, h]
def L1_ (σ s : St) (x : Nat) : Prop := ∀ p, p < 96 → (σ 24 p = -1 ↔ ∀ y, y < 60 → y ≠ x → ¬ (s 9 y = 1 ∧ s 10 y = nI p))
def N1_ (σ s : St) (x : Nat) : Prop := ∀ b, b < 60 → σ 22 b = nI (cntP (fun y => y ≠ x ∧ s 9 y = 3 ∧ s 10 y = nI b) 60)
theorem nI_inj {a b : Nat} (ha : a < 2 ^ 31) (hb : b < 2 ^ 31) (h : nI a = nI b) : a = b := (nI_eq ha hb).mp h
theorem L1_same (hC : CI σ s) {x : Nat} (h : ¬ s 9 x = 1) : L1_ σ s x := by
  intro p hp
  rw [hC.1 p hp]
  constructor
  · intro k y hy _; exact k y hy
  · intro k y hy
    by_cases e : y = x
    · subst e; exact fun q => h q.1
    · exact k y hy e
theorem N1_same (hC : CI σ s) {x : Nat} (h : ¬ s 9 x = 3) : N1_ σ s x := by
  intro b hb
  rw [hC.2 b hb]
  unfold cnB
  rw [cntP_congr (fun y _ => ?_)]
  constructor
  · intro k
    refine ⟨fun e => ?_, k⟩
    subst e; exact h k.1
  · exact fun k => k.2
set_option maxHeartbeats 1000000 in
theorem reg_out (hT : TR σ s) (hS : SJ s) (hC : CI σ s) {x : Int32} (hx : vp_in x 60) {Q : St → Prop} (k : ∀ σ1 : St, (∀ j, j ≠ 22 → j ≠ 24 → σ1 j = σ j) → L1_ σ1 s (ix x) → N1_ σ1 s (ix x) → Q σ1) : wp_X3_register σ (σ 14 (ix x)) (σ 15 (ix x)) (-1) Q := by
  have hlt := vin_lt hx
  obtain ⟨hK, hbag, hpl, hun⟩ := hS
  rw [hT.2.1, hT.2.2.1]
  by_cases h1 : s 9 (ix x) = 1
  · rw [h1]
    have hp := hpl _ hlt h1
    have hr : rg 96 (s 10 (ix x)) := rg_i.mpr hp
    rw [reg_1 hr]
    have hv : vp_in (s 10 (ix x)) 96 := vin2 hp.1 hp.2
    refine k _ (fun j _ h => up2_ne h) (fun p hp96 => ?_) (fun b hb => ?_)
    · rw [up2_eq]
      by_cases e : p = ix (s 10 (ix x))
      · rw [e, upd_s]
        constructor
        · intro _ y hy hne q
          rw [← vin_nI hv] at q
          exact hne (hun y (ix x) hy hlt q.1 h1 q.2)
        · intro _; rfl
      · rw [upd_n _ _ e, hC.1 p hp96]
        constructor
        · intro q y hy _; exact q y hy
        · intro q y hy
          by_cases e2 : y = ix x
          · subst e2
            intro q2
            apply e
            rw [q2.2, ix_nI (by omega)]
          · exact q y hy e2
    · rw [up2_ne (by decide)]
      exact N1_same hC (by rw [h1]; decide) b hb
  · by_cases h3 : s 9 (ix x) = 3
    · rw [h3]
      have hb := (hbag _ hlt h3).1
      have hv : vp_in (s 10 (ix x)) 60 := (th_lt hK hb).2
      have hr : rg 60 (s 10 (ix x)) := rg_i.mpr (vp_in_iff.mp hv)
      rw [reg_3 hr]
      have hb0 := vin_lt hv
      refine k _ (fun j h _ => up2_ne h) (fun p hp96 => ?_) (fun b hb => ?_)
      · rw [up2_ne (by decide)]
        exact L1_same hC h1 p hp96
      · rw [up2_eq, if_pos rfl]
        by_cases e : b = ix (s 10 (ix x))
        · rw [e, upd_s, hC.2 _ hb0, ← vin_nI hv]
          have := cntP_add (p := fun y => y ≠ ix x ∧ s 9 y = 3 ∧ s 10 y = s 10 (ix x)) (q := fun y => s 9 y = 3 ∧ s 10 y = s 10 (ix x)) (n := 60) hlt ⟨h3, rfl⟩ (fun q => q.1 rfl) (fun y _ hne => ⟨fun q => ⟨hne, q⟩, fun q => q.2⟩)
          unfold cnB
          rw [this, pk_m1]
        · rw [upd_n _ _ e, hC.2 b hb]
          unfold cnB
          rw [cntP_congr (fun y _ => ?_)]
          constructor
          · intro q
            refine ⟨fun e2 => ?_, q⟩
            subst e2
            apply e
            rw [q.2, ix_nI (by omega)]
          · exact fun q => q.2
    · rw [reg_o h1 h3]
      exact k _ (fun _ _ _ => rfl) (L1_same hC h1) (N1_same hC h3)
set_option maxHeartbeats 1000000 in
theorem reg_in {σ1 : St} {x u w : Int32} (hx : vp_in x 60) (hL : L1_ σ1 s (ix x)) (hN : N1_ σ1 s (ix x)) (h1 : u = 1 → 0 ≤ w.toInt ∧ w.toInt < 96) (h3 : u = 3 → vp_in w 60) {Q : St → Prop} (k : ∀ σ2 : St, (∀ j, j ≠ 22 → j ≠ 24 → σ2 j = σ1 j) → CI σ2 (mvE s x u w) → Q σ2) : wp_X3_register σ1 u w x Q := by
  have hlt := vin_lt hx
  have hxm : ¬ x = -1 := by
    intro e
    have := (vp_in_iff.mp hx).1
    rw [e, tm1_] at this
    omega
  have r9 : ∀ y, y ≠ ix x → mvE s x u w 9 y = s 9 y := fun y h => by rw [mvE_9, upd_n _ _ h]
  have r10 : ∀ y, y ≠ ix x → mvE s x u w 10 y = s 10 y := fun y h => by rw [mvE_10, upd_n _ _ h]
  have x9 : mvE s x u w 9 (ix x) = u := by rw [mvE_9, upd_s]
  have x10 : mvE s x u w 10 (ix x) = w := by rw [mvE_10, upd_s]
  -- the two tables where the new place doesn't count
  have lyO : ∀ p, p < 96 → ¬ (u = 1 ∧ w = nI p) → (σ1 24 p = -1 ↔ ∀ y, y < 60 → ¬ (mvE s x u w 9 y = 1 ∧ mvE s x u w 10 y = nI p)) := by
    intro p hp hno
    rw [hL p hp]
    constructor
    · intro q y hy
      by_cases e : y = ix x
      · subst e; rw [x9, x10]; exact hno
      · rw [r9 y e, r10 y e]; exact q y hy e
    · intro q y hy e
      have := q y hy
      rw [r9 y e, r10 y e] at this
      exact this
  have inO : ∀ b, b < 60 → ¬ (u = 3 ∧ w = nI b) → σ1 22 b = nI (cnB (mvE s x u w) (nI b)) := by
    intro b hb hno
    rw [hN b hb]
    unfold cnB
    rw [cntP_congr (fun y _ => ?_)]
    by_cases e : y = ix x
    · subst e; rw [x9, x10]; exact ⟨fun q => absurd rfl q.1, fun q => absurd q hno⟩
    · rw [r9 y e, r10 y e]; exact ⟨fun q => q.2, fun q => ⟨e, q⟩⟩
  by_cases e1 : u = 1
  · have hw := h1 e1
    have hr : rg 96 w := rg_i.mpr hw
    have hv : vp_in w 96 := vin2 hw.1 hw.2
    have hc := reg_1 (σ := σ1) (v := x) (Q := Q) hr
    rw [e1, hc]
    refine k _ (fun j _ h => up2_ne h) ⟨fun p hp => ?_, fun b hb => ?_⟩
    · rw [up2_eq]
      by_cases e : p = ix w
      · rw [e, upd_s, ← vin_nI hv]
        constructor
        · intro q; exact absurd q hxm
        · intro q; exact absurd ⟨x9.trans e1, x10⟩ (q (ix x) hlt)
      · rw [upd_n _ _ e]
        refine lyO p hp (fun q => e ?_)
        rw [q.2, ix_nI (by omega)]
    · rw [up2_ne (by decide)]
      exact inO b hb (fun q => by rw [e1] at q; exact absurd q.1 (by decide))
  · by_cases e3 : u = 3
    · have hv := h3 e3
      have hr : rg 60 w := rg_i.mpr (vp_in_iff.mp hv)
      have hwl := vin_lt hv
      have hc := reg_3 (σ := σ1) (v := x) (Q := Q) hr
      rw [if_neg hxm] at hc
      rw [e3, hc]
      refine k _ (fun j h _ => up2_ne h) ⟨fun p hp => ?_, fun b hb => ?_⟩
      · rw [up2_ne (by decide)]
        exact lyO p hp (fun q => e1 q.1)
      · rw [up2_eq]
        by_cases e : b = ix w
        · rw [e, upd_s, hN _ hwl, ← vin_nI hv, nI_1]
          have := cntP_add (p := fun y => y ≠ ix x ∧ s 9 y = 3 ∧ s 10 y = w) (q := fun y => mvE s x u w 9 y = 3 ∧ mvE s x u w 10 y = w) (n := 60) hlt ⟨x9.trans e3, x10⟩ (fun q => q.1 rfl) (fun y _ hne => by rw [r9 y hne, r10 y hne]; exact ⟨fun q => ⟨hne, q⟩, fun q => q.2⟩)
          unfold cnB
          rw [this]
        · rw [upd_n _ _ e]
          refine inO b hb (fun q => e ?_)
          rw [q.2, ix_nI (by omega)]
    · rw [reg_o e1 e3]
      exact k _ (fun _ _ _ => rfl) ⟨fun p hp => lyO p hp (fun q => e1 q.1), fun b hb => inO b hb (fun q => e3 q.1)⟩
theorem TR_mv (hT : TR σ s) {σ' : St} {x u w : Int32} (h : ∀ j, j ≠ 14 → j ≠ 15 → j ≠ 22 → j ≠ 24 → σ' j = σ j) (h14 : σ' 14 = upd (σ 14) (ix x) u) (h15 : σ' 15 = upd (σ 15) (ix x) w) : TR σ' (mvE s x u w) := by
  obtain ⟨⟨a1, a2, a3, a4, a5, a6, a7, a8⟩, b1, b2, b3, b4, b5, b6, b7, b8, b9, b10⟩ := hT
  have o : ∀ k, k ≠ 9 → k ≠ 10 → mvE s x u w k = s k := fun k h1 h2 => mvE_o s x u w h1 h2
  refine ⟨⟨?_, ?_, ?_, ?_, ?_, ?_, ?_, ?_⟩, ?_, ?_, ?_, ?_, ?_, ?_, ?_, ?_, ?_, ?_⟩
  · rw [h 1 (by decide) (by decide) (by decide) (by decide), o 0 (by decide) (by decide)]; exact a1
  · rw [h 1 (by decide) (by decide) (by decide) (by decide), o 0 (by decide) (by decide)]; exact a2
  · rw [h 1 (by decide) (by decide) (by decide) (by decide), o 0 (by decide) (by decide)]; exact a3
  · rw [h 2 (by decide) (by decide) (by decide) (by decide), o 1 (by decide) (by decide)]; exact a4
  · rw [h 3 (by decide) (by decide) (by decide) (by decide), o 2 (by decide) (by decide)]; exact a5
  · rw [h 4 (by decide) (by decide) (by decide) (by decide), o 3 (by decide) (by decide)]; exact a6
  · rw [h 5 (by decide) (by decide) (by decide) (by decide), o 4 (by decide) (by decide)]; exact a7
  · rw [h 6 (by decide) (by decide) (by decide) (by decide), o 5 (by decide) (by decide)]; exact a8
  · rw [h14, mvE_9, b1]
  · rw [h15, mvE_10, b2]
  · rw [h 16 (by decide) (by decide) (by decide) (by decide), o 11 (by decide) (by decide)]; exact b3
  · rw [h 17 (by decide) (by decide) (by decide) (by decide), o 12 (by decide) (by decide)]; exact b4
  · rw [h 18 (by decide) (by decide) (by decide) (by decide), o 13 (by decide) (by decide)]; exact b5
  · rw [h 19 (by decide) (by decide) (by decide) (by decide), o 14 (by decide) (by decide)]; exact b6
  · rw [h 20 (by decide) (by decide) (by decide) (by decide), o 15 (by decide) (by decide)]; exact b7
  · rw [h 21 (by decide) (by decide) (by decide) (by decide), o 16 (by decide) (by decide)]; exact b8
  · rw [h 23 (by decide) (by decide) (by decide) (by decide), o 17 (by decide) (by decide)]; exact b9
  · rw [h 25 (by decide) (by decide) (by decide) (by decide), o 19 (by decide) (by decide)]; exact b10
theorem c_moveJ (hT : TR σ s) (hS : SJ s) (hC : CI σ s) {x u w : Int32} (hx : vp_in x 60) (h1 : u = 1 → emp s w) (h3 : u = 3 → rg (s 0 2) w) {Q : St → Prop} (k : ∀ σ', TR σ' (mvE s x u w) → CI σ' (mvE s x u w) → FR σ σ' → σ' 13 = σ 13 → Q σ') : wp_X3_move σ x u w Q := by
  unfold wp_X3_move
  simp only [hx, true_and, nmS]
  refine reg_out hT hS hC hx (fun σ1 e1 hL hN => ?_)
  have hL' : L1_ (up2 (up2 σ1 14 (ix x) u) 15 (ix x) w) s (ix x) := fun p hp => by
    rw [up2_ne (by decide), up2_ne (by decide)]; exact hL p hp
  have hN' : N1_ (up2 (up2 σ1 14 (ix x) u) 15 (ix x) w) s (ix x) := fun b hb => by
    rw [up2_ne (by decide), up2_ne (by decide)]; exact hN b hb
  refine reg_in hx hL' hN' (fun e => pl_96 hS.1.2.1 (h1 e).1) (fun e => (th_lt hS.1 (h3 e)).2) (fun σ2 e2 hC2 => ?_)
  have e13 : σ2 13 = σ 13 := by
    rw [e2 13 (by decide) (by decide), up2_ne (by decide), up2_ne (by decide), e1 13 (by decide) (by decide)]
  refine k σ2 (TR_mv hT (fun j q1 q2 q3 q4 => ?_) ?_ ?_) hC2 (fun j hj => ?_) e13
  · rw [e2 j q3 q4, up2_ne q2, up2_ne q1, e1 j q3 q4]
  · rw [e2 14 (by decide) (by decide), up2_ne (by decide), up2_eq, e1 14 (by decide) (by decide)]
  · rw [e2 15 (by decide) (by decide), up2_eq, up2_ne (by decide), e1 15 (by decide) (by decide)]
  · rw [e2 j (by omega) (by omega), up2_ne (by omega), up2_ne (by omega), e1 j (by omega) (by omega)]
theorem c_move (hT : TR σ s) (hS : SI s) (hC : CI σ s) {x u w : Int32} (hx : vp_in x 60) (h1 : u = 1 → emp s w) (h3 : u = 3 → rg (s 0 2) w) {Q : St → Prop} (k : ∀ σ', TR σ' (mvE s x u w) → CI σ' (mvE s x u w) → FR σ σ' → σ' 13 = σ 13 → Q σ') : wp_X3_move σ x u w Q := c_moveJ hT (SI_J hS) hC hx h1 h3 k
end MOVE
