section FRAME2
def mpx (x y : va_W) (i : Nat) : Nat := if i < y.length then x.length + i else i - y.length
theorem mpx_at {x y : va_W} {i : Nat} {p : Nat × va_E} (h : (y ++ x)[i]? = some p) : (x ++ y)[mpx x y i]? = some p ∧ i < y.length + x.length := by
  obtain ⟨hi, -⟩ := List.getElem?_eq_some_iff.mp h
  rw [List.length_append] at hi
  refine ⟨?_, hi⟩
  unfold mpx
  by_cases e : i < y.length
  · rw [if_pos e, List.getElem?_append_right (by omega), Nat.add_sub_cancel_left]
    rw [List.getElem?_append_left e] at h; exact h
  · rw [if_neg e, List.getElem?_append_left (by omega)]
    rw [List.getElem?_append_right (by omega)] at h; exact h
theorem va_D_swap {A : Nat → Prop} {x y : va_W} (h : va_D A (x ++ y)) : va_D A (y ++ x) := by
  refine ⟨fun i j p q hi hj e => ?_, fun k q hk => h.2 _ q (mpx_at hk).1⟩
  obtain ⟨a1, a2⟩ := mpx_at hi
  obtain ⟨b1, b2⟩ := mpx_at hj
  have := h.1 _ _ p q a1 b1 e
  unfold mpx at this
  by_cases c1 : i < y.length
  · rw [if_pos c1] at this
    by_cases c2 : j < y.length
    · rw [if_pos c2] at this; omega
    · rw [if_neg c2] at this; omega
  · rw [if_neg c1] at this
    by_cases c2 : j < y.length
    · rw [if_pos c2] at this; omega
    · rw [if_neg c2] at this; omega
theorem nd_shift (k : Nat) : ∀ (n b : Nat), va_nd ((List.range' b n).map (fun i => k + i)) = true := by
  intro n
  induction n with
  | zero => intro b; rfl
  | succ n ih =>
    intro b
    rw [List.range'_succ, List.map_cons]
    unfold va_nd
    rw [ih (b + 1), Bool.and_true, decide_eq_true_eq]
    intro hm
    obtain ⟨z, hz, e⟩ := List.mem_map.mp hm
    have := (List.mem_range'_1.mp hz).1
    omega
/-- a call that knows the first part of the world only -/
theorem fr_join {A0 : Nat → Prop} {D : va_G} {cl : List vw_C} {wc wr w1 : va_W} {H H1 : Heap} (hP : va_P D cl (wc ++ wr) H) (hD : va_D A0 (wc ++ wr)) (hk : ∀ q : Nat, q < H.size → ¬ va_A wc H.size q → H1[q]? = H[q]?) (hF : ∀ q, va_A wc H.size q → A0 q) (hP1 : va_P D cl w1 H1) (hD1 : va_D (va_A wc H.size) w1) : va_P D cl (w1 ++ wr) H1 ∧ va_D A0 (w1 ++ wr) := by
  obtain ⟨a, b⟩ := va_join hP hD (List.range wc.length) ((List.range wr.length).map (fun i => wc.length + i)) (rg_map wc wr) (rg_map2 wc wr) (by rw [List.range_eq_range']; exact nd_shift _ _ _) (fun i hi hc => by
    obtain ⟨z, -, e⟩ := List.mem_map.mp hi
    have := List.mem_range.mp hc
    omega) hk hF hP1 hD1
  exact ⟨va_P_swap a, va_D_swap b⟩
theorem fr_P {D : va_G} {cl : List vw_C} {x y : va_W} {H : Heap} (h : va_P D cl (x ++ y) H) : va_P D cl x H := by
  rw [va_P_mem] at h ⊢
  exact fun q hq => h q (List.mem_append_left _ hq)
theorem fr_D {A : Nat → Prop} {x y : va_W} (h : va_D A (x ++ y)) : va_D A x := by
  have g : ∀ (k : Nat) (q : Nat × va_E), x[k]? = some q → (x ++ y)[k]? = some q := fun k q hk => by
    obtain ⟨hi, -⟩ := List.getElem?_eq_some_iff.mp hk
    rw [List.getElem?_append_left hi]; exact hk
  exact ⟨fun i j p q hi hj e => h.1 i j p q (g i p hi) (g j q hj) e, fun k q hk => h.2 k q (g k q hk)⟩
end FRAME2
