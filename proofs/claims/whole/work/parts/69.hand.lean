section HAND
variable {n : Nat} {σ s σ' s' : St}
theorem nI_7 (i : Nat) : (7 : Int32) * nI i = nI (7 * i) := by
  induction i with
  | zero => rfl
  | succ i ih => rw [← nI_1, Int32.mul_add, ih, show (7 : Int32) * 1 = nI 7 from rfl, nI_add]; rfl
theorem n7 (i f : Nat) {w : Int32} (hw : w = nI f) : (7 : Int32) * nI i + w = nI (7 * i + f) := by rw [nI_7, hw, nI_add]
theorem RI_h (h : RI n σ s) {i f : Nat} {v : Int32} (hi : i < n) (hf : f < 7) (ho : okH (up2 s 8 (7 * i + f) v) i) : RI n (up2 σ 30 (7 * i + f) v) (up2 s 8 (7 * i + f) v) := by
  obtain ⟨k1, k2, k3, ⟨c, ⟨c4, cn, cm, cc, co⟩, hA⟩, k6, k7, q1, q2, q3, q4, q5⟩ := h
  have E : ∀ k, k ≠ 30 → up2 σ 30 (7 * i + f) v k = σ k := fun k hk => up2_ne hk
  have F : ∀ k, k ≠ 8 → up2 s 8 (7 * i + f) v k = s k := fun k hk => up2_ne hk
  have hSK : SK (up2 s 8 (7 * i + f) v) := by unfold SK; rw [F 0 (by decide), F 4 (by decide)]; exact k2
  have hTA : TA s (up2 s 8 (7 * i + f) v) := TA.same (fun k a b => F k (by omega))
  refine ⟨?_, hSK, ?_, ⟨c, ⟨c4, ?_, ?_, ?_, ?_⟩, ?_⟩, ?_, ?_, q1, ?_, ?_, ?_, ?_⟩
  · unfold STK at k1 ⊢
    rw [E 1 (by decide), E 2 (by decide), E 3 (by decide), E 4 (by decide), E 5 (by decide), E 6 (by decide), F 0 (by decide), F 1 (by decide), F 2 (by decide), F 3 (by decide), F 4 (by decide), F 5 (by decide)]
    exact k1
  · refine TL_TA ?_ hTA
    unfold TL at k3 ⊢
    rw [E 14 (by decide), E 15 (by decide), E 16 (by decide), E 17 (by decide), E 18 (by decide), E 19 (by decide), E 20 (by decide), E 21 (by decide), E 23 (by decide), E 25 (by decide)]
    exact k3
  · rw [E 7 (by decide)]; exact cn
  · rw [F 0 (by decide)]; exact cm
  · rw [E 8 (by decide), F 6 (by decide)]; exact cc
  · rw [E 9 (by decide), F 6 (by decide)]; exact co
  · refine AD_keep c4 k2 hSK (MO_rf ?_ ?_ ?_ (F 1 (by decide)) (F 2 (by decide)) (F 4 (by decide))) (fun x _ => by rw [F 5 (by decide)]) hTA (fun i _ _ q => ?_) (fun j _ => by rw [F 6 (by decide)]) hA
    · rw [F 0 (by decide)]
    · rw [F 0 (by decide)]
    · rw [F 0 (by decide)]
    · unfold isSl at q ⊢
      rw [F 3 (by decide)]; exact q
  · exact R_img_same k6 (by rw [E 0 (by decide)]) (E 10 (by decide)) (E 11 (by decide)) (E 12 (by decide)) (by rw [F 0 (by decide)]) (F 7 (by decide))
  · unfold R_misc at k7 ⊢
    rw [E 0 (by decide), F 0 (by decide)]; exact k7
  · rw [E 0 (by decide)]; exact q2
  · rw [F 0 (by decide)]; exact q3
  · intro j hj
    rw [up2_eq, up2_eq, upd_at, upd_at]
    by_cases e : j = 7 * i + f
    · rw [if_pos e, if_pos e]
    · rw [if_neg e, if_neg e]; exact q4 j hj
  · intro k hk
    by_cases e : k = i
    · rw [e]; exact ho
    · have := q5 k hk
      unfold okH at this ⊢
      rw [F 0 (by decide), up2_eq]
      have w : ∀ g, g < 7 → upd (s 8) (7 * i + f) v (7 * k + g) = s 8 (7 * k + g) := fun g hg => upd_n _ _ (by omega)
      have w0 := w 0 (by decide)
      rw [Nat.add_zero] at w0
      rw [w0, w 1 (by decide), w 2 (by decide), w 3 (by decide), w 4 (by decide), w 5 (by decide)]
      exact this
theorem m_sayer {Q : Int32 → St → Prop} (hn : n ≤ 60) (h5 : s 0 5 = nI n) {x1 x2 : Int32} (k0 : ¬ rg (nI n) x1 → Q (-1) s) (k1 : ∀ i, i < n → x1 = nI i → (if s 8 (7 * i + 6) = 0 then (if s 8 (7 * i + 1) = x2 then Q (nI (7 * i + 4)) s else if s 8 (7 * i + 2) = x2 then Q (nI (7 * i + 5)) s else Q (-1) s) else Q (-1) s)) : wp_X6_sayer s x1 x2 Q := by
  unfold wp_X6_sayer
  rw [h5, m_isIn0 (by rw [nI_toInt (by omega)]; omega)]
  by_cases g : rg (nI n) x1
  · rw [bI_t g, if_neg (by decide)]
    have hi0 := (rg_i.mp g).1
    have ei := z_of hi0
    have li : ix x1 < n := by
      have q1 := (rg_i.mp g).2
      rw [nI_toInt (by omega)] at q1
      have q2 := ixI hi0
      omega
    have k := k1 (ix x1) li ei
    rw [ei]
    have hl : ∀ f, f < 7 → vp_in (nI (7 * ix x1 + f)) 420 := fun f hf => vin_n (by omega) (by decide)
    simp only [n7 _ 6 (show (6 : Int32) = nI 6 from rfl), n7 _ 1 (show (1 : Int32) = nI 1 from rfl), n7 _ 2 (show (2 : Int32) = nI 2 from rfl), n7 _ 4 (show (4 : Int32) = nI 4 from rfl), n7 _ 5 (show (5 : Int32) = nI 5 from rfl), ix_nI (show 7 * ix x1 + 6 < 2 ^ 31 by omega), ix_nI (show 7 * ix x1 + 1 < 2 ^ 31 by omega), ix_nI (show 7 * ix x1 + 2 < 2 ^ 31 by omega), hl 6 (by decide), hl 1 (by decide), hl 2 (by decide), true_and]
    exact k
  · rw [bI_f g, if_pos rfl]; exact k0 g
theorem okH_up {i f : Nat} {v : Int32} (h : okH s i) (hf : f = 6 ∨ ((f = 4 ∨ f = 5) ∧ (v = -1 ∨ (0 ≤ v.toInt ∧ v.toInt ≤ (s 0 4).toInt)))) : okH (up2 s 8 (7 * i + f) v) i := by
  unfold okH at h ⊢
  rw [up2_ne (show 0 ≠ 8 by decide), up2_eq]
  obtain ⟨a1, a2, a3, a4, a5⟩ := h
  have w : ∀ g, g ≠ f → upd (s 8) (7 * i + f) v (7 * i + g) = s 8 (7 * i + g) := fun g hg => upd_n _ _ (by omega)
  have w0 := w 0 (by omega)
  rw [Nat.add_zero] at w0
  rw [w0, w 1 (by omega), w 2 (by omega), w 3 (by omega)]
  refine ⟨a1, a2, a3, ?_, ?_⟩
  · by_cases e : f = 4
    · subst e; rw [upd_s]; rcases hf with q | q
      · omega
      · exact q.2
    · rw [w 4 (fun z => e z.symm)]; exact a4
  · by_cases e : f = 5
    · subst e; rw [upd_s]; rcases hf with q | q
      · omega
      · exact q.2
    · rw [w 5 (fun z => e z.symm)]; exact a5
theorem J_no (h : RI n σ s) (x1 x2 : Int32) : wp_X5_no n σ x1 x2 (fun r σ' => wp_X6_no s x1 x2 (fun r' s' => r = r' ∧ RI n σ' s')) := by
  obtain ⟨q1, q2, q3, q4, q5⟩ := h.2.2.2.2.2.2
  refine ⟨⟨q1, q2⟩, fun i hi ex => ?_, fun hr => ?_⟩
  · have hR : ∀ g, g < 7 → σ 30 (7 * i + g) = s 8 (7 * i + g) := fun g hg => q4 _ (by omega)
    have S : ∀ {Q : Int32 → St → Prop}, (if s 8 (7 * i + 6) = 0 then (if s 8 (7 * i + 1) = x2 then Q (nI (7 * i + 4)) s else if s 8 (7 * i + 2) = x2 then Q (nI (7 * i + 5)) s else Q (-1) s) else Q (-1) s) → wp_X6_sayer s x1 x2 Q := by
      intro Q hQ
      refine m_sayer q1 q3 (fun g => ?_) (fun j hj ej => ?_)
      · exact absurd (by rw [ex, rg_i, nI_toInt (by omega), nI_toInt (by omega)]; omega) g
      · have : j = i := nI_inj (by omega) (by omega) (ej.symm.trans ex)
        rw [this]; exact hQ
    unfold wf_X5_no wp_X0_isBetween nmS
    dsimp only
    rw [hR 6 (by decide), hR 1 (by decide), hR 2 (by decide)]
    have fin : ∀ p : Nat, p < 1000 → (if nI p = (-1 : Int32) then ((1 : Int32) = 0 ∧ RI n (up2 σ 30 (7 * i + 6) 1) s) else (vp_in ((7 : Int32) * x1 + 6) 420 ∧ nmS (up2 s 8 (ix ((7 : Int32) * x1 + 6)) 1) (fun s3 => (1 : Int32) = 1 ∧ RI n (up2 σ 30 (7 * i + 6) 1) s3))) := by
      intro p hp
      have ne : ¬ nI p = (-1 : Int32) := fun q => by
        have := congrArg Int32.toInt q
        rw [nI_toInt (by omega), tm1_] at this
        omega
      rw [if_neg ne, ex, n7 i 6 (show (6 : Int32) = nI 6 from rfl), ix_nI (by omega)]
      exact ⟨vin_n (by omega) (by decide), rfl, RI_h h hi (by decide) (okH_up (q5 i hi) (Or.inl rfl))⟩
    by_cases e6 : s 8 (7 * i + 6) = 0
    · rw [if_pos e6]
      by_cases e1 : x2 = s 8 (7 * i + 1)
      · rw [if_pos e1, if_neg (by decide)]
        unfold wp_X6_no
        refine S ?_
        rw [if_pos e6, if_pos e1.symm]
        exact fin _ (by omega)
      · rw [if_neg e1]
        by_cases e2 : x2 = s 8 (7 * i + 2)
        · rw [if_pos e2, if_neg (by decide)]
          unfold wp_X6_no
          refine S ?_
          rw [if_pos e6, if_neg (fun z => e1 z.symm), if_pos e2.symm]
          exact fin _ (by omega)
        · rw [if_neg e2, if_pos rfl]
          unfold wp_X6_no
          refine S ?_
          rw [if_pos e6, if_neg (fun z => e1 z.symm), if_neg (fun z => e2 z.symm), if_pos rfl]
          exact ⟨rfl, h⟩
    · rw [if_neg e6]
      unfold wp_X6_no
      refine S ?_
      rw [if_neg e6, if_pos rfl]
      exact ⟨rfl, h⟩
  · unfold wp_X6_no
    refine m_sayer q1 q3 (fun _ => ?_) (fun i hi ei => absurd (by rw [ei, rg_i, nI_toInt (by omega), nI_toInt (by omega)]; omega) hr)
    rw [if_pos rfl]
    exact ⟨rfl, h⟩
end HAND
