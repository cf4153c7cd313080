section DONE
variable {s : St} {Q : Int32 → St → Prop}
theorem idx8 {x : Int32} (h0 : 0 ≤ x.toInt) (h1 : x.toInt ≤ 400) {w : Int32} {n : Nat} (hw : w.toInt = (n : Int)) (hn : n < 8) : vp_in ((8 : Int32) * x + w) 3208 ∧ ix ((8 : Int32) * x + w) = 8 * ix x + n := by
  have e := mul_i' (x := x) (m := 8) (k := 8) (N := 400) rfl h0 h1 (by decide)
  have e2 : ((8 : Int32) * x + w).toInt = x.toInt * 8 + n := by
    rw [add_i, e, hw]
    · rfl
    · rw [e, hw]; omega
    · rw [e, hw]; omega
  have q1 := ixI (x := (8 : Int32) * x + w) (by rw [e2]; omega)
  have q2 := ixI h0
  rw [e2] at q1
  exact ⟨vin2 (by rw [e2]; omega) (by rw [e2]; omega), by omega⟩
theorem idx80 {x : Int32} (h0 : 0 ≤ x.toInt) (h1 : x.toInt ≤ 400) : vp_in ((8 : Int32) * x) 3208 ∧ ix ((8 : Int32) * x) = 8 * ix x := by
  have e := mul_i' (x := x) (m := 8) (k := 8) (N := 400) rfl h0 h1 (by decide)
  have q1 := ixI (x := (8 : Int32) * x) (by rw [e]; omega)
  have q2 := ixI h0
  rw [e] at q1
  exact ⟨vin2 (by rw [e]; omega) (by rw [e]; omega), by omega⟩
/-- kinds, things and minutes as they must be -/
def vaS (f : Nat → Int32) (i : Nat) (s : St) : Prop := (¬ f (8 * i) < 1 ∧ ¬ 19 < f (8 * i)) ∧ rg (s 0 2) (f (8 * i + 1)) ∧ (¬ f (8 * i + 6) < 0 ∧ ¬ f (8 * i + 7) < f (8 * i + 6))
theorem okS_va {f : Nat → Int32} {i : Nat} (h : okS f i s) : vaS f i s := by
  have hk := dC_kind h.2.2
  refine ⟨⟨?_, ?_⟩, h.2.2.1, h.1, h.2.1⟩
  · rw [ltI, t1_]; omega
  · rw [ltI, show (19 : Int32).toInt = 19 from rfl]; omega
theorem m_isSlip (hK : SK s) {k : Nat} {x : Int32} (h0 : 0 ≤ x.toInt) (h1 : x.toInt ≤ 400) : wp_X6_isSlip k s x Q ↔ Q (bI (vaS (s k) (ix x) s)) s := by
  obtain ⟨a0, b0⟩ := idx80 h0 h1
  obtain ⟨a1, b1⟩ := idx8 h0 h1 (w := 1) (n := 1) rfl (by decide)
  obtain ⟨a6, b6⟩ := idx8 h0 h1 (w := 6) (n := 6) rfl (by decide)
  obtain ⟨a7, b7⟩ := idx8 h0 h1 (w := 7) (n := 7) rfl (by decide)
  unfold wp_X6_isSlip vaS
  simp only [m_isIn, rg_pred (n := s 0 2) hK.2.2.1.1, a0, a1, a6, a7, b0, b1, b6, b7, true_and, ifc, bI_0, Classical.not_not]
  by_cases g1 : ¬ s k (8 * ix x) < 1 ∧ ¬ 19 < s k (8 * ix x)
  · by_cases g2 : rg (s 0 2) (s k (8 * ix x + 1))
    · by_cases g3 : ¬ s k (8 * ix x + 6) < 0 ∧ ¬ s k (8 * ix x + 7) < s k (8 * ix x + 6)
      · rw [bI_t ⟨g1, g2, g3⟩]
        exact ⟨fun h => (((h.2 g1).2 g2).2 g3), fun h => ⟨fun n => absurd g1 n, fun _ => ⟨fun n => absurd g2 n, fun _ => ⟨fun n => absurd g3 n, fun _ => h⟩⟩⟩⟩
      · rw [bI_f (fun q => g3 q.2.2)]
        exact ⟨fun h => (((h.2 g1).2 g2).1 g3), fun h => ⟨fun n => absurd g1 n, fun _ => ⟨fun n => absurd g2 n, fun _ => ⟨fun _ => h, fun n => absurd n g3⟩⟩⟩⟩
    · rw [bI_f (fun q => g2 q.2.1)]
      exact ⟨fun h => ((h.2 g1).1 g2), fun h => ⟨fun n => absurd g1 n, fun _ => ⟨fun _ => h, fun n => absurd n g2⟩⟩⟩
  · rw [bI_f (fun q => g1 q.1)]
    exact ⟨fun h => h.1 g1, fun h => ⟨fun _ => h, fun n => absurd n g1⟩⟩
set_option maxHeartbeats 1000000 in
theorem m_isDone (hS : SI s) {k : Nat} {x : Int32} (hx0 : 0 ≤ x.toInt) (hx1 : x.toInt ≤ 400) (hkd : ¬ s k (8 * ix x) < 1 ∧ ¬ 19 < s k (8 * ix x)) (h1 : dC s (s k (8 * ix x)) (s k (8 * ix x + 1)) (s k (8 * ix x + 2)) (s k (8 * ix x + 3)) (s k (8 * ix x + 4)) (s k (8 * ix x + 5)) (s k (8 * ix x + 6) / 1440) → Q 1 (efS (s k) (ix x) s)) (h0 : ¬ dC s (s k (8 * ix x)) (s k (8 * ix x + 1)) (s k (8 * ix x + 2)) (s k (8 * ix x + 3)) (s k (8 * ix x + 4)) (s k (8 * ix x + 5)) (s k (8 * ix x + 6) / 1440) → Q 0 s) : wp_X6_isDone k s x Q := by
  obtain ⟨a0, b0⟩ := idx80 hx0 hx1
  obtain ⟨a1, b1⟩ := idx8 hx0 hx1 (w := 1) (n := 1) rfl (by decide)
  obtain ⟨a2, b2⟩ := idx8 hx0 hx1 (w := 2) (n := 2) rfl (by decide)
  obtain ⟨a3, b3⟩ := idx8 hx0 hx1 (w := 3) (n := 3) rfl (by decide)
  obtain ⟨a4, b4⟩ := idx8 hx0 hx1 (w := 4) (n := 4) rfl (by decide)
  obtain ⟨a5, b5⟩ := idx8 hx0 hx1 (w := 5) (n := 5) rfl (by decide)
  obtain ⟨a6, b6⟩ := idx8 hx0 hx1 (w := 6) (n := 6) rfl (by decide)
  unfold wp_X6_isDone
  simp only [nm, a0, a1, a2, a3, a4, a5, b0, b1, b2, b3, b4, b5, true_and]
  unfold efS at h1
  rw [m_isIn0 hS.1.2.2.1.1]
  by_cases ht : rg (s 0 2) (s k (8 * ix x + 1))
  · rw [bI_t ht, if_neg (by decide)]
    have e6 : s k (ix ((8 : Int32) * x + 6)) = s k (8 * ix x + 6) := by rw [b6]
    rw [m_isKept hS.1 hS.2.1]
    generalize s k (8 * ix x) = kd at *
    generalize s k (8 * ix x + 1) = t at *
    generalize s k (8 * ix x + 2) = a at *
    generalize s k (8 * ix x + 3) = b at *
    generalize s k (8 * ix x + 4) = c at *
    generalize s k (8 * ix x + 5) = d at *
    have hr : 1 ≤ kd.toInt ∧ kd.toInt ≤ 19 := by
      have := hkd.1
      have h2 := hkd.2
      rw [ltI, t1_] at this
      rw [ltI, show (19 : Int32).toInt = 19 from rfl] at h2
      omega
    by_cases e1 : kd = 1
    · rw [if_pos e1]
      rw [e1] at h1 h0
      exact n_come hS ht (fun q => h1 (dC_1.mpr ⟨ht, q⟩)) (fun q => h0 (fun z => q (dC_1.mp z).2))
    · rw [if_neg e1]
      by_cases hk : kpt s t
      · rw [bI_t ⟨ht, hk⟩, if_neg (by decide)]
        have cases_ : kd = 2 ∨ kd = 3 ∨ kd = 4 ∨ kd = 5 ∨ kd = 6 ∨ kd = 7 ∨ kd = 8 ∨ kd = 9 ∨ kd = 10 ∨ kd = 11 ∨ kd = 12 ∨ kd = 13 ∨ kd = 14 ∨ kd = 15 ∨ kd = 16 ∨ kd = 17 ∨ kd = 18 ∨ kd = 19 := by
          have n1 : kd.toInt ≠ 1 := fun e => e1 ((eqI kd 1).mpr e)
          have key : ∀ m : Nat, m ≤ 19 → kd.toInt = (m : Int) → kd = nI m := fun m hm e => (eqI _ _).mpr (by rw [nI_toInt (by omega)]; exact e)
          have hz : kd.toInt = 2 ∨ kd.toInt = 3 ∨ kd.toInt = 4 ∨ kd.toInt = 5 ∨ kd.toInt = 6 ∨ kd.toInt = 7 ∨ kd.toInt = 8 ∨ kd.toInt = 9 ∨ kd.toInt = 10 ∨ kd.toInt = 11 ∨ kd.toInt = 12 ∨ kd.toInt = 13 ∨ kd.toInt = 14 ∨ kd.toInt = 15 ∨ kd.toInt = 16 ∨ kd.toInt = 17 ∨ kd.toInt = 18 ∨ kd.toInt = 19 := by omega
          rcases hz with z | z | z | z | z | z | z | z | z | z | z | z | z | z | z | z | z | z
          · exact Or.inl (key 2 (by decide) z)
          · exact Or.inr (Or.inl (key 3 (by decide) z))
          · exact Or.inr (Or.inr (Or.inl (key 4 (by decide) z)))
          · exact Or.inr (Or.inr (Or.inr (Or.inl (key 5 (by decide) z))))
          · exact Or.inr (Or.inr (Or.inr (Or.inr (Or.inl (key 6 (by decide) z)))))
          · exact Or.inr (Or.inr (Or.inr (Or.inr (Or.inr (Or.inl (key 7 (by decide) z))))))
          · exact Or.inr (Or.inr (Or.inr (Or.inr (Or.inr (Or.inr (Or.inl (key 8 (by decide) z)))))))
          · exact Or.inr (Or.inr (Or.inr (Or.inr (Or.inr (Or.inr (Or.inr (Or.inl (key 9 (by decide) z))))))))
          · exact Or.inr (Or.inr (Or.inr (Or.inr (Or.inr (Or.inr (Or.inr (Or.inr (Or.inl (key 10 (by decide) z)))))))))
          · exact Or.inr (Or.inr (Or.inr (Or.inr (Or.inr (Or.inr (Or.inr (Or.inr (Or.inr (Or.inl (key 11 (by decide) z))))))))))
          · exact Or.inr (Or.inr (Or.inr (Or.inr (Or.inr (Or.inr (Or.inr (Or.inr (Or.inr (Or.inr (Or.inl (key 12 (by decide) z)))))))))))
          · exact Or.inr (Or.inr (Or.inr (Or.inr (Or.inr (Or.inr (Or.inr (Or.inr (Or.inr (Or.inr (Or.inr (Or.inl (key 13 (by decide) z))))))))))))
          · exact Or.inr (Or.inr (Or.inr (Or.inr (Or.inr (Or.inr (Or.inr (Or.inr (Or.inr (Or.inr (Or.inr (Or.inr (Or.inl (key 14 (by decide) z)))))))))))))
          · exact Or.inr (Or.inr (Or.inr (Or.inr (Or.inr (Or.inr (Or.inr (Or.inr (Or.inr (Or.inr (Or.inr (Or.inr (Or.inr (Or.inl (key 15 (by decide) z))))))))))))))
          · exact Or.inr (Or.inr (Or.inr (Or.inr (Or.inr (Or.inr (Or.inr (Or.inr (Or.inr (Or.inr (Or.inr (Or.inr (Or.inr (Or.inr (Or.inl (key 16 (by decide) z)))))))))))))))
          · exact Or.inr (Or.inr (Or.inr (Or.inr (Or.inr (Or.inr (Or.inr (Or.inr (Or.inr (Or.inr (Or.inr (Or.inr (Or.inr (Or.inr (Or.inr (Or.inl (key 17 (by decide) z))))))))))))))))
          · exact Or.inr (Or.inr (Or.inr (Or.inr (Or.inr (Or.inr (Or.inr (Or.inr (Or.inr (Or.inr (Or.inr (Or.inr (Or.inr (Or.inr (Or.inr (Or.inr (Or.inl (key 18 (by decide) z)))))))))))))))))
          · exact Or.inr (Or.inr (Or.inr (Or.inr (Or.inr (Or.inr (Or.inr (Or.inr (Or.inr (Or.inr (Or.inr (Or.inr (Or.inr (Or.inr (Or.inr (Or.inr (Or.inr (key 19 (by decide) z)))))))))))))))))
        rcases cases_ with e | e | e | e | e | e | e | e | e | e | e | e | e | e | e | e | e | e <;> subst e
        · rw [if_pos (by decide)]; exact n_2 hS ht (fun q => h1 (dC_2.mpr ⟨ht, hk, q⟩)) (fun q => h0 (fun z => q (dC_2.mp z).2.2))
        · rw [if_pos (by decide)]; exact n_3 hS ht (fun q => h1 (dC_3.mpr ⟨ht, hk, q⟩)) (fun q => h0 (fun z => q (dC_3.mp z).2.2))
        · rw [if_pos (by decide)]; exact n_4 hS ht (fun q => h1 (dC_4.mpr ⟨ht, hk, q⟩)) (fun q => h0 (fun z => q (dC_4.mp z).2.2))
        · rw [if_pos (by decide)]; exact n_5 hS ht (fun q => h1 (dC_5.mpr ⟨ht, hk, q⟩)) (fun q => h0 (fun z => q (dC_5.mp z).2.2))
        · rw [if_pos (by decide)]; exact n_6 hS ht hk (fun q => h1 (dC_6.mpr ⟨ht, hk, q⟩)) (fun q => h0 (fun z => q (dC_6.mp z).2.2))
        · rw [if_pos (by decide)]; exact n_7 hS ht (fun q => h1 (dC_7.mpr ⟨ht, hk, q⟩)) (fun q => h0 (fun z => q (dC_7.mp z).2.2))
        · rw [if_neg (by decide), if_pos (by decide)]; exact n_8 hS ht (fun q => h1 (dC_8.mpr ⟨ht, hk, q⟩)) (fun q => h0 (fun z => q (dC_8.mp z).2.2))
        · rw [if_neg (by decide), if_pos (by decide)]; exact n_9 hS ht (fun q => h1 (dC_9.mpr ⟨ht, hk, q⟩)) (fun q => h0 (fun z => q (dC_9.mp z).2.2))
        · rw [if_neg (by decide), if_pos (by decide)]; exact n_10 hS ht (fun q => h1 (dC_10.mpr ⟨ht, hk, q⟩)) (fun q => h0 (fun z => q (dC_10.mp z).2.2))
        · rw [if_neg (by decide), if_neg (by decide), if_pos (by decide)]; exact n_11 hS ht hk (fun q => h1 (dC_11.mpr ⟨ht, hk, q⟩)) (fun q => h0 (fun z => q (dC_11.mp z).2.2))
        · rw [if_neg (by decide), if_neg (by decide), if_pos (by decide)]; exact n_12 hS ht hk (fun q => h1 (dC_12.mpr ⟨ht, hk, q⟩)) (fun q => h0 (fun z => q (dC_12.mp z).2.2))
        · rw [if_neg (by decide), if_neg (by decide), if_pos (by decide)]; exact n_13 hS ht hk (fun q => h1 (dC_13.mpr ⟨ht, hk, q⟩)) (fun q => h0 (fun z => q (dC_13.mp z).2.2))
        · rw [if_neg (by decide), if_neg (by decide), if_neg (by decide), if_pos (by decide)]; exact n_14 hS ht (fun q => h1 (dC_14.mpr ⟨ht, hk, q⟩)) (fun q => h0 (fun z => q (dC_14.mp z).2.2))
        · rw [if_neg (by decide), if_neg (by decide), if_neg (by decide), if_pos (by decide)]; exact n_15 hS ht (h1 (dC_15.mpr ⟨ht, hk, trivial⟩))
        · rw [if_neg (by decide), if_neg (by decide), if_neg (by decide), if_pos (by decide)]
          rw [dE_16] at h1
          exact n_16 hS ht (Or.inl rfl) (fun q => h1 (dC_16.mpr ⟨ht, hk, q.1, q.2.mp rfl⟩)) (fun q => h0 (fun z => q ⟨(dC_16.mp z).2.2.1, fun _ => (dC_16.mp z).2.2.2, fun _ => rfl⟩))
        · rw [if_neg (by decide), if_neg (by decide), if_neg (by decide), if_pos (by decide)]
          rw [dE_17] at h1
          exact n_16 hS ht (Or.inr rfl) (fun q => h1 (dC_17.mpr ⟨ht, hk, q.1, Classical.not_not.mp (fun n => absurd (q.2.mpr n) (by decide))⟩)) (fun q => h0 (fun z => q ⟨(dC_17.mp z).2.2.1, fun e => absurd e (by decide), fun n => absurd (dC_17.mp z).2.2.2 n⟩))
        · rw [if_neg (by decide), if_neg (by decide), if_neg (by decide), if_neg (by decide), if_pos rfl]
          refine ⟨a6, ?_⟩
          rw [e6]
          exact n_destroy hS ht (fun q => h1 (dC_18.mpr ⟨ht, hk, q⟩)) (fun q => h0 (fun z => q (dC_18.mp z).2.2))
        · rw [if_neg (by decide), if_neg (by decide), if_neg (by decide), if_neg (by decide), if_neg (by decide)]
          exact n_found hS ht hk (fun q => h1 (dC_19.mpr ⟨ht, hk, q⟩)) (fun q => h0 (fun z => q (dC_19.mp z).2.2))
      · rw [bI_f (fun q => hk q.2), if_pos rfl]
        exact h0 (fun q => q.2.1.elim e1 hk)
  · rw [bI_f ht, if_pos rfl]
    exact h0 (fun q => ht q.1)
end DONE
