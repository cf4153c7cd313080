section WRITE
variable {n : Nat} {σ s σ' s' : St}
/-- RI out of its pieces, where slips, fields and rows of telling have changed -/
theorem RI_mk {c : Nat} (h : RI n σ s) (a : ∀ k, 1 ≤ k → k < 7 → σ' k = σ k) (a7 : σ' 0 7 = σ 0 7) (a8 : σ' 0 8 = σ 0 8) (ai : ∀ k, 10 ≤ k → k < 13 → σ' k = σ k) (a30 : σ' 30 = σ 30) (b : ∀ k, 1 ≤ k → k < 9 → k ≠ 6 → s' k = s k) (b0 : ∀ j, j < 7 → j ≠ 3 → s' 0 j = s 0 j) (hL : TL σ' s') (hS : R_slips c σ' s') (hA : AD c s') (hm : R_misc σ' s') : RI n σ' s' := by
  obtain ⟨k1, k2, k3, -, k6, k7, k8⟩ := h
  refine ⟨?_, ?_, hL, ⟨c, hS, hA⟩, ?_, hm, ?_⟩
  · unfold STK at k1 ⊢
    rw [a 1 (by omega) (by omega), a 2 (by omega) (by omega), a 3 (by omega) (by omega), a 4 (by omega) (by omega), a 5 (by omega) (by omega), a 6 (by omega) (by omega), b0 0 (by omega) (by omega), b0 1 (by omega) (by omega), b0 2 (by omega) (by omega), b 1 (by omega) (by omega) (by omega), b 2 (by omega) (by omega) (by omega), b 3 (by omega) (by omega) (by omega), b 4 (by omega) (by omega) (by omega), b 5 (by omega) (by omega) (by omega)]
    exact k1
  · unfold SK; rw [b0 0 (by omega) (by omega), b0 1 (by omega) (by omega), b0 2 (by omega) (by omega), b 4 (by omega) (by omega) (by omega)]; exact k2
  · exact R_img_same k6 a8 (ai 10 (by omega) (by omega)) (ai 11 (by omega) (by omega)) (ai 12 (by omega) (by omega)) (b0 6 (by omega) (by omega)) (b 7 (by omega) (by omega) (by omega))
  · obtain ⟨q1, q2, q3, q4, q5⟩ := k8
    refine ⟨q1, by rw [a7]; exact q2, by rw [b0 5 (by omega) (by omega)]; exact q3, by rw [a30, b 8 (by omega) (by omega) (by omega)]; exact q4, fun i hi => okH_mono (q5 i hi) (b 8 (by omega) (by omega) (by omega)) (by rw [b0 4 (by omega) (by omega)]; exact Int.le_refl _) (by rw [b0 2 (by omega) (by omega)]; exact Int.le_refl _)⟩
/-- the class's own writing, behind the tests ahead -/
def wrC (σ4 : St) (x1 x2 x3 x4 x5 x6 x7 : Int32) (Q : Int32 → St → Prop) : Prop :=
  (vp_in 0 8 ∧   nmS (up2 σ4 29 (ix 0) x1) (fun σ5 =>   vp_in 1 8 ∧   nmS (up2 σ5 29 (ix 1) x2) (fun σ6 =>   vp_in 2 8 ∧   nmS (up2 σ6 29 (ix 2) x3) (fun σ7 =>   vp_in 3 8 ∧   nmS (up2 σ7 29 (ix 3) x4) (fun σ8 =>   vp_in 4 8 ∧   nmS (up2 σ8 29 (ix 4) x5) (fun σ9 =>   vp_in 5 8 ∧   nmS (up2 σ9 29 (ix 5) x6) (fun σ10 =>   vp_in 6 8 ∧   nmS (up2 σ10 29 (ix 6) x7) (fun σ11 =>   vp_in 7 8 ∧   nmS (up2 σ11 29 (ix 7) (σ11 0 9)) (fun σ12 =>   wp_X2_add 7 σ12 (fun σ13 =>   wp_X3_firstUndone 7 σ13 (fun y15 σ14 =>   if y15 = (-1) then   (Q ((σ14 7 2) - 1) σ14)   else (wp_X2_dropLast 7 σ14 (fun σ16 =>   nmS (up2 σ16 0 10 5) (fun σ17 =>   nmS (up2 σ17 0 11 y15) (fun σ18 =>   Q (-1) σ18)))))))))))))))
/-- eight cells of the reference's row -/
def put8 (s : St) (c : Nat) (x1 x2 x3 x4 x5 x6 x7 x8 : Int32) : St := up2 (up2 (up2 (up2 (up2 (up2 (up2 (up2 s 6 (8 * c) x1) 6 (8 * c + 1) x2) 6 (8 * c + 2) x3) 6 (8 * c + 3) x4) 6 (8 * c + 4) x5) 6 (8 * c + 5) x6) 6 (8 * c + 6) x7) 6 (8 * c + 7) x8
theorem put8_o {c k : Nat} {x1 x2 x3 x4 x5 x6 x7 x8 : Int32} (h : k ≠ 6) : put8 s c x1 x2 x3 x4 x5 x6 x7 x8 k = s k := by
  unfold put8
  rw [up2_ne h, up2_ne h, up2_ne h, up2_ne h, up2_ne h, up2_ne h, up2_ne h, up2_ne h]
theorem put8_6 {c : Nat} {x1 x2 x3 x4 x5 x6 x7 x8 : Int32} : put8 s c x1 x2 x3 x4 x5 x6 x7 x8 6 = upd (upd (upd (upd (upd (upd (upd (upd (s 6) (8 * c) x1) (8 * c + 1) x2) (8 * c + 2) x3) (8 * c + 3) x4) (8 * c + 4) x5) (8 * c + 5) x6) (8 * c + 6) x7) (8 * c + 7) x8 := by
  unfold put8
  simp only [up2_eq]
def dr8 (f : Nat → Int32) (x1 x2 x3 x4 x5 x6 x7 x8 : Int32) : Nat → Int32 := upd (upd (upd (upd (upd (upd (upd (upd f 0 x1) 1 x2) 2 x3) 3 x4) 4 x5) 5 x6) 6 x7) 7 x8
theorem dr8_put {c : Nat} {x1 x2 x3 x4 x5 x6 x7 x8 : Int32} {f g : Nat → Int32} (hf : ∀ j, j < 8 * c → f j = s 6 j) : ∀ j, j < 8 * (c + 1) → addC (dr8 g x1 x2 x3 x4 x5 x6 x7 x8) f c j = put8 s c x1 x2 x3 x4 x5 x6 x7 x8 6 j := by
  intro j hj
  rw [put8_6]
  rcases Nat.lt_or_ge j (8 * c) with h | h
  · rw [addC_out _ _ h, hf j h]
    simp only [upd]
    rw [if_neg (by omega), if_neg (by omega), if_neg (by omega), if_neg (by omega), if_neg (by omega), if_neg (by omega), if_neg (by omega), if_neg (by omega)]
  · obtain ⟨i, hi⟩ : ∃ i, j = 8 * c + i := ⟨j - 8 * c, by omega⟩
    subst hi
    rw [addC_in _ _ _ _ (by omega)]
    have h8 : i = 0 ∨ i = 1 ∨ i = 2 ∨ i = 3 ∨ i = 4 ∨ i = 5 ∨ i = 6 ∨ i = 7 := by omega
    rcases h8 with e | e | e | e | e | e | e | e <;> (subst e; simp [dr8, upd])
theorem put8_old {c j : Nat} {x1 x2 x3 x4 x5 x6 x7 x8 : Int32} (h : j < 8 * c) : put8 s c x1 x2 x3 x4 x5 x6 x7 x8 6 j = s 6 j := by
  rw [put8_6]
  simp only [upd]
  rw [if_neg (by omega), if_neg (by omega), if_neg (by omega), if_neg (by omega), if_neg (by omega), if_neg (by omega), if_neg (by omega), if_neg (by omega)]
theorem m_written {c : Nat} (hc : c < 400) (hn : s 0 3 = nI c) (hK : SK s) {x1 x2 x3 x4 x5 x6 x7 : Int32} {Q : Int32 → St → Prop}
    (k9 : ∀ sG sf y, sG = put8 s c x1 x2 x3 x4 x5 x6 x7 (s 0 4) → (y, sf) = fU (sG 6) (srt 6 sG (c + 1) 20) (c + 1) 0 (beg (srt 6 sG (c + 1))) → (y = -1 → Q (nI c) (up2 (up2 sf 0 16 y) 0 3 (nI (c + 1)))) ∧ (¬ y = -1 → Q (-1) (up2 (up2 sf 0 16 y) 0 15 5))) : wp_X6_written s x1 x2 x3 x4 x5 x6 x7 Q := by
  unfold wp_X6_written
  simp only [nm, nmS]
  rw [hn, nI8']
  have p1 : nI (8 * c) + 1 = nI (8 * c + 1) := nI_1 _
  have p2 : nI (8 * c) + 2 = nI (8 * c + 2) := nI_add _ 2
  have p3 : nI (8 * c) + 3 = nI (8 * c + 3) := nI_add _ 3
  have p4 : nI (8 * c) + 4 = nI (8 * c + 4) := nI_add _ 4
  have p5 : nI (8 * c) + 5 = nI (8 * c + 5) := nI_add _ 5
  have p6 : nI (8 * c) + 6 = nI (8 * c + 6) := nI_add _ 6
  have p7 : nI (8 * c) + 7 = nI (8 * c + 7) := nI_add _ 7
  simp only [p1, p2, p3, p4, p5, p6, p7]
  have v : ∀ i, i < 8 → vp_in (nI (8 * c + i)) 3208 := fun i hi => vin_n (by omega) (by decide)
  have v0 : vp_in (nI (8 * c)) 3208 := v 0 (by decide)
  have x : ∀ i, i < 8 → ix (nI (8 * c + i)) = 8 * c + i := fun i hi => ix_nI (by omega)
  have x0 : ix (nI (8 * c)) = 8 * c := x 0 (by decide)
  simp only [v0, v 1 (by decide), v 2 (by decide), v 3 (by decide), v 4 (by decide), v 5 (by decide), v 6 (by decide), v 7 (by decide), true_and, x0, x 1 (by decide), x 2 (by decide), x 3 (by decide), x 4 (by decide), x 5 (by decide), x 6 (by decide), x 7 (by decide)]
  have e4 : (up2 (up2 (up2 (up2 (up2 (up2 (up2 s 6 (8 * c) x1) 6 (8 * c + 1) x2) 6 (8 * c + 2) x3) 6 (8 * c + 3) x4) 6 (8 * c + 4) x5) 6 (8 * c + 5) x6) 6 (8 * c + 6) x7) 0 4 = s 0 4 := by simp only [up2_ne (show (0 : Nat) ≠ 6 by decide)]
  rw [e4]
  have e3 : up2 (up2 (up2 (up2 (up2 (up2 (up2 (up2 s 6 (8 * c) x1) 6 (8 * c + 1) x2) 6 (8 * c + 2) x3) 6 (8 * c + 3) x4) 6 (8 * c + 4) x5) 6 (8 * c + 5) x6) 6 (8 * c + 6) x7) 6 (8 * c + 7) (s 0 4) 0 3 + 1 = nI (c + 1) := by
    simp only [up2_ne (show (0 : Nat) ≠ 6 by decide)]
    rw [hn, nI_1]
  rw [e3]
  have hG : put8 s c x1 x2 x3 x4 x5 x6 x7 (s 0 4) = put8 s c x1 x2 x3 x4 x5 x6 x7 (s 0 4) := rfl
  have hKG : SK (put8 s c x1 x2 x3 x4 x5 x6 x7 (s 0 4)) := by unfold SK; rw [put8_o (by decide), put8_o (by decide)]; exact hK
  have key0 : ∀ p : Int32 × St, p = fU (put8 s c x1 x2 x3 x4 x5 x6 x7 (s 0 4) 6) (srt 6 (put8 s c x1 x2 x3 x4 x5 x6 x7 (s 0 4)) (c + 1) 20) (c + 1) 0 (beg (srt 6 (put8 s c x1 x2 x3 x4 x5 x6 x7 (s 0 4)) (c + 1))) → (p.1 = -1 → Q (nI c) (up2 (up2 p.2 0 16 p.1) 0 3 (nI (c + 1)))) ∧ (¬ p.1 = -1 → Q (-1) (up2 (up2 p.2 0 16 p.1) 0 15 5)) := fun p hp => k9 _ p.2 p.1 rfl hp
  have key := key0 _ rfl
  refine m_firstWrong (s := put8 s c x1 x2 x3 x4 x5 x6 x7 (s 0 4)) (Or.inl rfl) (n := c + 1) (by omega) hKG ?_
  generalize (fU (put8 s c x1 x2 x3 x4 x5 x6 x7 (s 0 4) 6) (srt 6 (put8 s c x1 x2 x3 x4 x5 x6 x7 (s 0 4)) (c + 1) 20) (c + 1) 0 (beg (srt 6 (put8 s c x1 x2 x3 x4 x5 x6 x7 (s 0 4)) (c + 1)))).1 = y at *
  have hfm := fU_FM (put8 s c x1 x2 x3 x4 x5 x6 x7 (s 0 4) 6) (srt 6 (put8 s c x1 x2 x3 x4 x5 x6 x7 (s 0 4)) (c + 1) 20) (c + 1) 0 (beg (srt 6 (put8 s c x1 x2 x3 x4 x5 x6 x7 (s 0 4)) (c + 1)))
  obtain ⟨r1, r2⟩ := told_rows hfm
  generalize (fU (put8 s c x1 x2 x3 x4 x5 x6 x7 (s 0 4) 6) (srt 6 (put8 s c x1 x2 x3 x4 x5 x6 x7 (s 0 4)) (c + 1) 20) (c + 1) 0 (beg (srt 6 (put8 s c x1 x2 x3 x4 x5 x6 x7 (s 0 4)) (c + 1)))).2 = sf at *
  have z16 : up2 sf 0 16 y 0 16 = y := by rw [up2_eq, upd_s]
  have z3 : up2 sf 0 16 y 0 3 = nI c := by rw [up2_eq, upd_n _ _ (by decide), r2, put8_o (by decide)]; exact hn
  rw [z16]
  by_cases hy : y = -1
  · rw [if_pos hy, z3, nI_1, up2_eq, upd_s, nI_pred]
    exact key.1 hy
  · rw [if_neg hy]
    exact key.2 hy
end WRITE
