section TELL
variable {σ s : St} {Q : Int32 → St → Prop} {k t a b c d dy : Int32}
theorem dC_1 : dC s 1 t a b c d dy ↔ rg (s 0 2) t ∧ q1 s t a b c d := by
  unfold dC
  constructor
  · rintro ⟨h1, h2, h3⟩
    rcases h3 with ⟨e, h⟩ | ⟨e, h⟩ | ⟨e, h⟩ | ⟨e, h⟩ | ⟨e, h⟩ | ⟨e, h⟩ | ⟨e, h⟩ | ⟨e, h⟩ | ⟨e, h⟩ | ⟨e, h⟩ | ⟨e, h⟩ | ⟨e, h⟩ | ⟨e, h⟩ | ⟨e, h⟩ | h | ⟨e, h⟩ | ⟨e, h⟩ | ⟨e, h⟩ | ⟨e, h⟩
    · exact ⟨h1, h⟩
    · exact absurd e (by decide)
    · exact absurd e (by decide)
    · exact absurd e (by decide)
    · exact absurd e (by decide)
    · exact absurd e (by decide)
    · exact absurd e (by decide)
    · exact absurd e (by decide)
    · exact absurd e (by decide)
    · exact absurd e (by decide)
    · exact absurd e (by decide)
    · exact absurd e (by decide)
    · exact absurd e (by decide)
    · exact absurd e (by decide)
    · exact absurd h (by decide)
    · exact absurd e (by decide)
    · exact absurd e (by decide)
    · exact absurd e (by decide)
    · exact absurd e (by decide)
  · exact fun ⟨h1, h⟩ => ⟨h1, Or.inl rfl, Or.inl (⟨rfl, h⟩)⟩
theorem dC_2 : dC s 2 t a b c d dy ↔ rg (s 0 2) t ∧ kpt s t ∧ q2 s t a b c d := by
  unfold dC
  constructor
  · rintro ⟨h1, h2, h3⟩
    rcases h3 with ⟨e, h⟩ | ⟨e, h⟩ | ⟨e, h⟩ | ⟨e, h⟩ | ⟨e, h⟩ | ⟨e, h⟩ | ⟨e, h⟩ | ⟨e, h⟩ | ⟨e, h⟩ | ⟨e, h⟩ | ⟨e, h⟩ | ⟨e, h⟩ | ⟨e, h⟩ | ⟨e, h⟩ | h | ⟨e, h⟩ | ⟨e, h⟩ | ⟨e, h⟩ | ⟨e, h⟩
    · exact absurd e (by decide)
    · exact ⟨h1, h2.resolve_left (by decide), h⟩
    · exact absurd e (by decide)
    · exact absurd e (by decide)
    · exact absurd e (by decide)
    · exact absurd e (by decide)
    · exact absurd e (by decide)
    · exact absurd e (by decide)
    · exact absurd e (by decide)
    · exact absurd e (by decide)
    · exact absurd e (by decide)
    · exact absurd e (by decide)
    · exact absurd e (by decide)
    · exact absurd e (by decide)
    · exact absurd h (by decide)
    · exact absurd e (by decide)
    · exact absurd e (by decide)
    · exact absurd e (by decide)
    · exact absurd e (by decide)
  · exact fun ⟨h1, h2, h⟩ => ⟨h1, Or.inr h2, Or.inr (Or.inl (⟨rfl, h⟩))⟩
theorem dC_3 : dC s 3 t a b c d dy ↔ rg (s 0 2) t ∧ kpt s t ∧ q3 s t c d := by
  unfold dC
  constructor
  · rintro ⟨h1, h2, h3⟩
    rcases h3 with ⟨e, h⟩ | ⟨e, h⟩ | ⟨e, h⟩ | ⟨e, h⟩ | ⟨e, h⟩ | ⟨e, h⟩ | ⟨e, h⟩ | ⟨e, h⟩ | ⟨e, h⟩ | ⟨e, h⟩ | ⟨e, h⟩ | ⟨e, h⟩ | ⟨e, h⟩ | ⟨e, h⟩ | h | ⟨e, h⟩ | ⟨e, h⟩ | ⟨e, h⟩ | ⟨e, h⟩
    · exact absurd e (by decide)
    · exact absurd e (by decide)
    · exact ⟨h1, h2.resolve_left (by decide), h⟩
    · exact absurd e (by decide)
    · exact absurd e (by decide)
    · exact absurd e (by decide)
    · exact absurd e (by decide)
    · exact absurd e (by decide)
    · exact absurd e (by decide)
    · exact absurd e (by decide)
    · exact absurd e (by decide)
    · exact absurd e (by decide)
    · exact absurd e (by decide)
    · exact absurd e (by decide)
    · exact absurd h (by decide)
    · exact absurd e (by decide)
    · exact absurd e (by decide)
    · exact absurd e (by decide)
    · exact absurd e (by decide)
  · exact fun ⟨h1, h2, h⟩ => ⟨h1, Or.inr h2, Or.inr (Or.inr (Or.inl (⟨rfl, h⟩)))⟩
theorem dC_4 : dC s 4 t a b c d dy ↔ rg (s 0 2) t ∧ kpt s t ∧ q4 s t a b c d := by
  unfold dC
  constructor
  · rintro ⟨h1, h2, h3⟩
    rcases h3 with ⟨e, h⟩ | ⟨e, h⟩ | ⟨e, h⟩ | ⟨e, h⟩ | ⟨e, h⟩ | ⟨e, h⟩ | ⟨e, h⟩ | ⟨e, h⟩ | ⟨e, h⟩ | ⟨e, h⟩ | ⟨e, h⟩ | ⟨e, h⟩ | ⟨e, h⟩ | ⟨e, h⟩ | h | ⟨e, h⟩ | ⟨e, h⟩ | ⟨e, h⟩ | ⟨e, h⟩
    · exact absurd e (by decide)
    · exact absurd e (by decide)
    · exact absurd e (by decide)
    · exact ⟨h1, h2.resolve_left (by decide), h⟩
    · exact absurd e (by decide)
    · exact absurd e (by decide)
    · exact absurd e (by decide)
    · exact absurd e (by decide)
    · exact absurd e (by decide)
    · exact absurd e (by decide)
    · exact absurd e (by decide)
    · exact absurd e (by decide)
    · exact absurd e (by decide)
    · exact absurd e (by decide)
    · exact absurd h (by decide)
    · exact absurd e (by decide)
    · exact absurd e (by decide)
    · exact absurd e (by decide)
    · exact absurd e (by decide)
  · exact fun ⟨h1, h2, h⟩ => ⟨h1, Or.inr h2, Or.inr (Or.inr (Or.inr (Or.inl (⟨rfl, h⟩))))⟩
theorem dC_5 : dC s 5 t a b c d dy ↔ rg (s 0 2) t ∧ kpt s t ∧ q5 s t a b c := by
  unfold dC
  constructor
  · rintro ⟨h1, h2, h3⟩
    rcases h3 with ⟨e, h⟩ | ⟨e, h⟩ | ⟨e, h⟩ | ⟨e, h⟩ | ⟨e, h⟩ | ⟨e, h⟩ | ⟨e, h⟩ | ⟨e, h⟩ | ⟨e, h⟩ | ⟨e, h⟩ | ⟨e, h⟩ | ⟨e, h⟩ | ⟨e, h⟩ | ⟨e, h⟩ | h | ⟨e, h⟩ | ⟨e, h⟩ | ⟨e, h⟩ | ⟨e, h⟩
    · exact absurd e (by decide)
    · exact absurd e (by decide)
    · exact absurd e (by decide)
    · exact absurd e (by decide)
    · exact ⟨h1, h2.resolve_left (by decide), h⟩
    · exact absurd e (by decide)
    · exact absurd e (by decide)
    · exact absurd e (by decide)
    · exact absurd e (by decide)
    · exact absurd e (by decide)
    · exact absurd e (by decide)
    · exact absurd e (by decide)
    · exact absurd e (by decide)
    · exact absurd e (by decide)
    · exact absurd h (by decide)
    · exact absurd e (by decide)
    · exact absurd e (by decide)
    · exact absurd e (by decide)
    · exact absurd e (by decide)
  · exact fun ⟨h1, h2, h⟩ => ⟨h1, Or.inr h2, Or.inr (Or.inr (Or.inr (Or.inr (Or.inl (⟨rfl, h⟩)))))⟩
theorem dC_6 : dC s 6 t a b c d dy ↔ rg (s 0 2) t ∧ kpt s t ∧ q6 s t a b c := by
  unfold dC
  constructor
  · rintro ⟨h1, h2, h3⟩
    rcases h3 with ⟨e, h⟩ | ⟨e, h⟩ | ⟨e, h⟩ | ⟨e, h⟩ | ⟨e, h⟩ | ⟨e, h⟩ | ⟨e, h⟩ | ⟨e, h⟩ | ⟨e, h⟩ | ⟨e, h⟩ | ⟨e, h⟩ | ⟨e, h⟩ | ⟨e, h⟩ | ⟨e, h⟩ | h | ⟨e, h⟩ | ⟨e, h⟩ | ⟨e, h⟩ | ⟨e, h⟩
    · exact absurd e (by decide)
    · exact absurd e (by decide)
    · exact absurd e (by decide)
    · exact absurd e (by decide)
    · exact absurd e (by decide)
    · exact ⟨h1, h2.resolve_left (by decide), h⟩
    · exact absurd e (by decide)
    · exact absurd e (by decide)
    · exact absurd e (by decide)
    · exact absurd e (by decide)
    · exact absurd e (by decide)
    · exact absurd e (by decide)
    · exact absurd e (by decide)
    · exact absurd e (by decide)
    · exact absurd h (by decide)
    · exact absurd e (by decide)
    · exact absurd e (by decide)
    · exact absurd e (by decide)
    · exact absurd e (by decide)
  · exact fun ⟨h1, h2, h⟩ => ⟨h1, Or.inr h2, Or.inr (Or.inr (Or.inr (Or.inr (Or.inr (Or.inl (⟨rfl, h⟩))))))⟩
theorem dC_7 : dC s 7 t a b c d dy ↔ rg (s 0 2) t ∧ kpt s t ∧ q7 s t a b c := by
  unfold dC
  constructor
  · rintro ⟨h1, h2, h3⟩
    rcases h3 with ⟨e, h⟩ | ⟨e, h⟩ | ⟨e, h⟩ | ⟨e, h⟩ | ⟨e, h⟩ | ⟨e, h⟩ | ⟨e, h⟩ | ⟨e, h⟩ | ⟨e, h⟩ | ⟨e, h⟩ | ⟨e, h⟩ | ⟨e, h⟩ | ⟨e, h⟩ | ⟨e, h⟩ | h | ⟨e, h⟩ | ⟨e, h⟩ | ⟨e, h⟩ | ⟨e, h⟩
    · exact absurd e (by decide)
    · exact absurd e (by decide)
    · exact absurd e (by decide)
    · exact absurd e (by decide)
    · exact absurd e (by decide)
    · exact absurd e (by decide)
    · exact ⟨h1, h2.resolve_left (by decide), h⟩
    · exact absurd e (by decide)
    · exact absurd e (by decide)
    · exact absurd e (by decide)
    · exact absurd e (by decide)
    · exact absurd e (by decide)
    · exact absurd e (by decide)
    · exact absurd e (by decide)
    · exact absurd h (by decide)
    · exact absurd e (by decide)
    · exact absurd e (by decide)
    · exact absurd e (by decide)
    · exact absurd e (by decide)
  · exact fun ⟨h1, h2, h⟩ => ⟨h1, Or.inr h2, Or.inr (Or.inr (Or.inr (Or.inr (Or.inr (Or.inr (Or.inl (⟨rfl, h⟩)))))))⟩
theorem dC_8 : dC s 8 t a b c d dy ↔ rg (s 0 2) t ∧ kpt s t ∧ q8 s t a b c := by
  unfold dC
  constructor
  · rintro ⟨h1, h2, h3⟩
    rcases h3 with ⟨e, h⟩ | ⟨e, h⟩ | ⟨e, h⟩ | ⟨e, h⟩ | ⟨e, h⟩ | ⟨e, h⟩ | ⟨e, h⟩ | ⟨e, h⟩ | ⟨e, h⟩ | ⟨e, h⟩ | ⟨e, h⟩ | ⟨e, h⟩ | ⟨e, h⟩ | ⟨e, h⟩ | h | ⟨e, h⟩ | ⟨e, h⟩ | ⟨e, h⟩ | ⟨e, h⟩
    · exact absurd e (by decide)
    · exact absurd e (by decide)
    · exact absurd e (by decide)
    · exact absurd e (by decide)
    · exact absurd e (by decide)
    · exact absurd e (by decide)
    · exact absurd e (by decide)
    · exact ⟨h1, h2.resolve_left (by decide), h⟩
    · exact absurd e (by decide)
    · exact absurd e (by decide)
    · exact absurd e (by decide)
    · exact absurd e (by decide)
    · exact absurd e (by decide)
    · exact absurd e (by decide)
    · exact absurd h (by decide)
    · exact absurd e (by decide)
    · exact absurd e (by decide)
    · exact absurd e (by decide)
    · exact absurd e (by decide)
  · exact fun ⟨h1, h2, h⟩ => ⟨h1, Or.inr h2, Or.inr (Or.inr (Or.inr (Or.inr (Or.inr (Or.inr (Or.inr (Or.inl (⟨rfl, h⟩))))))))⟩
theorem dC_9 : dC s 9 t a b c d dy ↔ rg (s 0 2) t ∧ kpt s t ∧ q9 s t a b c := by
  unfold dC
  constructor
  · rintro ⟨h1, h2, h3⟩
    rcases h3 with ⟨e, h⟩ | ⟨e, h⟩ | ⟨e, h⟩ | ⟨e, h⟩ | ⟨e, h⟩ | ⟨e, h⟩ | ⟨e, h⟩ | ⟨e, h⟩ | ⟨e, h⟩ | ⟨e, h⟩ | ⟨e, h⟩ | ⟨e, h⟩ | ⟨e, h⟩ | ⟨e, h⟩ | h | ⟨e, h⟩ | ⟨e, h⟩ | ⟨e, h⟩ | ⟨e, h⟩
    · exact absurd e (by decide)
    · exact absurd e (by decide)
    · exact absurd e (by decide)
    · exact absurd e (by decide)
    · exact absurd e (by decide)
    · exact absurd e (by decide)
    · exact absurd e (by decide)
    · exact absurd e (by decide)
    · exact ⟨h1, h2.resolve_left (by decide), h⟩
    · exact absurd e (by decide)
    · exact absurd e (by decide)
    · exact absurd e (by decide)
    · exact absurd e (by decide)
    · exact absurd e (by decide)
    · exact absurd h (by decide)
    · exact absurd e (by decide)
    · exact absurd e (by decide)
    · exact absurd e (by decide)
    · exact absurd e (by decide)
  · exact fun ⟨h1, h2, h⟩ => ⟨h1, Or.inr h2, Or.inr (Or.inr (Or.inr (Or.inr (Or.inr (Or.inr (Or.inr (Or.inr (Or.inl (⟨rfl, h⟩)))))))))⟩
theorem dC_10 : dC s 10 t a b c d dy ↔ rg (s 0 2) t ∧ kpt s t ∧ q10 s t c := by
  unfold dC
  constructor
  · rintro ⟨h1, h2, h3⟩
    rcases h3 with ⟨e, h⟩ | ⟨e, h⟩ | ⟨e, h⟩ | ⟨e, h⟩ | ⟨e, h⟩ | ⟨e, h⟩ | ⟨e, h⟩ | ⟨e, h⟩ | ⟨e, h⟩ | ⟨e, h⟩ | ⟨e, h⟩ | ⟨e, h⟩ | ⟨e, h⟩ | ⟨e, h⟩ | h | ⟨e, h⟩ | ⟨e, h⟩ | ⟨e, h⟩ | ⟨e, h⟩
    · exact absurd e (by decide)
    · exact absurd e (by decide)
    · exact absurd e (by decide)
    · exact absurd e (by decide)
    · exact absurd e (by decide)
    · exact absurd e (by decide)
    · exact absurd e (by decide)
    · exact absurd e (by decide)
    · exact absurd e (by decide)
    · exact ⟨h1, h2.resolve_left (by decide), h⟩
    · exact absurd e (by decide)
    · exact absurd e (by decide)
    · exact absurd e (by decide)
    · exact absurd e (by decide)
    · exact absurd h (by decide)
    · exact absurd e (by decide)
    · exact absurd e (by decide)
    · exact absurd e (by decide)
    · exact absurd e (by decide)
  · exact fun ⟨h1, h2, h⟩ => ⟨h1, Or.inr h2, Or.inr (Or.inr (Or.inr (Or.inr (Or.inr (Or.inr (Or.inr (Or.inr (Or.inr (Or.inl (⟨rfl, h⟩))))))))))⟩
theorem dC_11 : dC s 11 t a b c d dy ↔ rg (s 0 2) t ∧ kpt s t ∧ q11 s t a b c d := by
  unfold dC
  constructor
  · rintro ⟨h1, h2, h3⟩
    rcases h3 with ⟨e, h⟩ | ⟨e, h⟩ | ⟨e, h⟩ | ⟨e, h⟩ | ⟨e, h⟩ | ⟨e, h⟩ | ⟨e, h⟩ | ⟨e, h⟩ | ⟨e, h⟩ | ⟨e, h⟩ | ⟨e, h⟩ | ⟨e, h⟩ | ⟨e, h⟩ | ⟨e, h⟩ | h | ⟨e, h⟩ | ⟨e, h⟩ | ⟨e, h⟩ | ⟨e, h⟩
    · exact absurd e (by decide)
    · exact absurd e (by decide)
    · exact absurd e (by decide)
    · exact absurd e (by decide)
    · exact absurd e (by decide)
    · exact absurd e (by decide)
    · exact absurd e (by decide)
    · exact absurd e (by decide)
    · exact absurd e (by decide)
    · exact absurd e (by decide)
    · exact ⟨h1, h2.resolve_left (by decide), h⟩
    · exact absurd e (by decide)
    · exact absurd e (by decide)
    · exact absurd e (by decide)
    · exact absurd h (by decide)
    · exact absurd e (by decide)
    · exact absurd e (by decide)
    · exact absurd e (by decide)
    · exact absurd e (by decide)
  · exact fun ⟨h1, h2, h⟩ => ⟨h1, Or.inr h2, Or.inr (Or.inr (Or.inr (Or.inr (Or.inr (Or.inr (Or.inr (Or.inr (Or.inr (Or.inr (Or.inl (⟨rfl, h⟩)))))))))))⟩
theorem dC_12 : dC s 12 t a b c d dy ↔ rg (s 0 2) t ∧ kpt s t ∧ qT s t a b c 3 := by
  unfold dC
  constructor
  · rintro ⟨h1, h2, h3⟩
    rcases h3 with ⟨e, h⟩ | ⟨e, h⟩ | ⟨e, h⟩ | ⟨e, h⟩ | ⟨e, h⟩ | ⟨e, h⟩ | ⟨e, h⟩ | ⟨e, h⟩ | ⟨e, h⟩ | ⟨e, h⟩ | ⟨e, h⟩ | ⟨e, h⟩ | ⟨e, h⟩ | ⟨e, h⟩ | h | ⟨e, h⟩ | ⟨e, h⟩ | ⟨e, h⟩ | ⟨e, h⟩
    · exact absurd e (by decide)
    · exact absurd e (by decide)
    · exact absurd e (by decide)
    · exact absurd e (by decide)
    · exact absurd e (by decide)
    · exact absurd e (by decide)
    · exact absurd e (by decide)
    · exact absurd e (by decide)
    · exact absurd e (by decide)
    · exact absurd e (by decide)
    · exact absurd e (by decide)
    · exact ⟨h1, h2.resolve_left (by decide), h⟩
    · exact absurd e (by decide)
    · exact absurd e (by decide)
    · exact absurd h (by decide)
    · exact absurd e (by decide)
    · exact absurd e (by decide)
    · exact absurd e (by decide)
    · exact absurd e (by decide)
  · exact fun ⟨h1, h2, h⟩ => ⟨h1, Or.inr h2, Or.inr (Or.inr (Or.inr (Or.inr (Or.inr (Or.inr (Or.inr (Or.inr (Or.inr (Or.inr (Or.inr (Or.inl (⟨rfl, h⟩))))))))))))⟩
theorem dC_13 : dC s 13 t a b c d dy ↔ rg (s 0 2) t ∧ kpt s t ∧ q13 s t d := by
  unfold dC
  constructor
  · rintro ⟨h1, h2, h3⟩
    rcases h3 with ⟨e, h⟩ | ⟨e, h⟩ | ⟨e, h⟩ | ⟨e, h⟩ | ⟨e, h⟩ | ⟨e, h⟩ | ⟨e, h⟩ | ⟨e, h⟩ | ⟨e, h⟩ | ⟨e, h⟩ | ⟨e, h⟩ | ⟨e, h⟩ | ⟨e, h⟩ | ⟨e, h⟩ | h | ⟨e, h⟩ | ⟨e, h⟩ | ⟨e, h⟩ | ⟨e, h⟩
    · exact absurd e (by decide)
    · exact absurd e (by decide)
    · exact absurd e (by decide)
    · exact absurd e (by decide)
    · exact absurd e (by decide)
    · exact absurd e (by decide)
    · exact absurd e (by decide)
    · exact absurd e (by decide)
    · exact absurd e (by decide)
    · exact absurd e (by decide)
    · exact absurd e (by decide)
    · exact absurd e (by decide)
    · exact ⟨h1, h2.resolve_left (by decide), h⟩
    · exact absurd e (by decide)
    · exact absurd h (by decide)
    · exact absurd e (by decide)
    · exact absurd e (by decide)
    · exact absurd e (by decide)
    · exact absurd e (by decide)
  · exact fun ⟨h1, h2, h⟩ => ⟨h1, Or.inr h2, Or.inr (Or.inr (Or.inr (Or.inr (Or.inr (Or.inr (Or.inr (Or.inr (Or.inr (Or.inr (Or.inr (Or.inr (Or.inl (⟨rfl, h⟩)))))))))))))⟩
theorem dC_14 : dC s 14 t a b c d dy ↔ rg (s 0 2) t ∧ kpt s t ∧ day_ c := by
  unfold dC
  constructor
  · rintro ⟨h1, h2, h3⟩
    rcases h3 with ⟨e, h⟩ | ⟨e, h⟩ | ⟨e, h⟩ | ⟨e, h⟩ | ⟨e, h⟩ | ⟨e, h⟩ | ⟨e, h⟩ | ⟨e, h⟩ | ⟨e, h⟩ | ⟨e, h⟩ | ⟨e, h⟩ | ⟨e, h⟩ | ⟨e, h⟩ | ⟨e, h⟩ | h | ⟨e, h⟩ | ⟨e, h⟩ | ⟨e, h⟩ | ⟨e, h⟩
    · exact absurd e (by decide)
    · exact absurd e (by decide)
    · exact absurd e (by decide)
    · exact absurd e (by decide)
    · exact absurd e (by decide)
    · exact absurd e (by decide)
    · exact absurd e (by decide)
    · exact absurd e (by decide)
    · exact absurd e (by decide)
    · exact absurd e (by decide)
    · exact absurd e (by decide)
    · exact absurd e (by decide)
    · exact absurd e (by decide)
    · exact ⟨h1, h2.resolve_left (by decide), h⟩
    · exact absurd h (by decide)
    · exact absurd e (by decide)
    · exact absurd e (by decide)
    · exact absurd e (by decide)
    · exact absurd e (by decide)
  · exact fun ⟨h1, h2, h⟩ => ⟨h1, Or.inr h2, Or.inr (Or.inr (Or.inr (Or.inr (Or.inr (Or.inr (Or.inr (Or.inr (Or.inr (Or.inr (Or.inr (Or.inr (Or.inr (Or.inl (⟨rfl, h⟩))))))))))))))⟩
theorem dC_15 : dC s 15 t a b c d dy ↔ rg (s 0 2) t ∧ kpt s t ∧ True := by
  unfold dC
  constructor
  · rintro ⟨h1, h2, h3⟩
    rcases h3 with ⟨e, h⟩ | ⟨e, h⟩ | ⟨e, h⟩ | ⟨e, h⟩ | ⟨e, h⟩ | ⟨e, h⟩ | ⟨e, h⟩ | ⟨e, h⟩ | ⟨e, h⟩ | ⟨e, h⟩ | ⟨e, h⟩ | ⟨e, h⟩ | ⟨e, h⟩ | ⟨e, h⟩ | h | ⟨e, h⟩ | ⟨e, h⟩ | ⟨e, h⟩ | ⟨e, h⟩
    · exact absurd e (by decide)
    · exact absurd e (by decide)
    · exact absurd e (by decide)
    · exact absurd e (by decide)
    · exact absurd e (by decide)
    · exact absurd e (by decide)
    · exact absurd e (by decide)
    · exact absurd e (by decide)
    · exact absurd e (by decide)
    · exact absurd e (by decide)
    · exact absurd e (by decide)
    · exact absurd e (by decide)
    · exact absurd e (by decide)
    · exact absurd e (by decide)
    · exact ⟨h1, h2.resolve_left (by decide), trivial⟩
    · exact absurd e (by decide)
    · exact absurd e (by decide)
    · exact absurd e (by decide)
    · exact absurd e (by decide)
  · exact fun ⟨h1, h2, h⟩ => ⟨h1, Or.inr h2, Or.inr (Or.inr (Or.inr (Or.inr (Or.inr (Or.inr (Or.inr (Or.inr (Or.inr (Or.inr (Or.inr (Or.inr (Or.inr (Or.inr (Or.inl rfl))))))))))))))⟩
theorem dC_16 : dC s 16 t a b c d dy ↔ rg (s 0 2) t ∧ kpt s t ∧ (tri c ∧ ¬ bit s t c) := by
  unfold dC
  constructor
  · rintro ⟨h1, h2, h3⟩
    rcases h3 with ⟨e, h⟩ | ⟨e, h⟩ | ⟨e, h⟩ | ⟨e, h⟩ | ⟨e, h⟩ | ⟨e, h⟩ | ⟨e, h⟩ | ⟨e, h⟩ | ⟨e, h⟩ | ⟨e, h⟩ | ⟨e, h⟩ | ⟨e, h⟩ | ⟨e, h⟩ | ⟨e, h⟩ | h | ⟨e, h⟩ | ⟨e, h⟩ | ⟨e, h⟩ | ⟨e, h⟩
    · exact absurd e (by decide)
    · exact absurd e (by decide)
    · exact absurd e (by decide)
    · exact absurd e (by decide)
    · exact absurd e (by decide)
    · exact absurd e (by decide)
    · exact absurd e (by decide)
    · exact absurd e (by decide)
    · exact absurd e (by decide)
    · exact absurd e (by decide)
    · exact absurd e (by decide)
    · exact absurd e (by decide)
    · exact absurd e (by decide)
    · exact absurd e (by decide)
    · exact absurd h (by decide)
    · exact ⟨h1, h2.resolve_left (by decide), h⟩
    · exact absurd e (by decide)
    · exact absurd e (by decide)
    · exact absurd e (by decide)
  · exact fun ⟨h1, h2, h⟩ => ⟨h1, Or.inr h2, Or.inr (Or.inr (Or.inr (Or.inr (Or.inr (Or.inr (Or.inr (Or.inr (Or.inr (Or.inr (Or.inr (Or.inr (Or.inr (Or.inr (Or.inr (Or.inl (⟨rfl, h⟩))))))))))))))))⟩
theorem dC_17 : dC s 17 t a b c d dy ↔ rg (s 0 2) t ∧ kpt s t ∧ (tri c ∧ bit s t c) := by
  unfold dC
  constructor
  · rintro ⟨h1, h2, h3⟩
    rcases h3 with ⟨e, h⟩ | ⟨e, h⟩ | ⟨e, h⟩ | ⟨e, h⟩ | ⟨e, h⟩ | ⟨e, h⟩ | ⟨e, h⟩ | ⟨e, h⟩ | ⟨e, h⟩ | ⟨e, h⟩ | ⟨e, h⟩ | ⟨e, h⟩ | ⟨e, h⟩ | ⟨e, h⟩ | h | ⟨e, h⟩ | ⟨e, h⟩ | ⟨e, h⟩ | ⟨e, h⟩
    · exact absurd e (by decide)
    · exact absurd e (by decide)
    · exact absurd e (by decide)
    · exact absurd e (by decide)
    · exact absurd e (by decide)
    · exact absurd e (by decide)
    · exact absurd e (by decide)
    · exact absurd e (by decide)
    · exact absurd e (by decide)
    · exact absurd e (by decide)
    · exact absurd e (by decide)
    · exact absurd e (by decide)
    · exact absurd e (by decide)
    · exact absurd e (by decide)
    · exact absurd h (by decide)
    · exact absurd e (by decide)
    · exact ⟨h1, h2.resolve_left (by decide), h⟩
    · exact absurd e (by decide)
    · exact absurd e (by decide)
  · exact fun ⟨h1, h2, h⟩ => ⟨h1, Or.inr h2, Or.inr (Or.inr (Or.inr (Or.inr (Or.inr (Or.inr (Or.inr (Or.inr (Or.inr (Or.inr (Or.inr (Or.inr (Or.inr (Or.inr (Or.inr (Or.inr (Or.inl (⟨rfl, h⟩)))))))))))))))))⟩
theorem dC_18 : dC s 18 t a b c d dy ↔ rg (s 0 2) t ∧ kpt s t ∧ q18 s t a b c dy := by
  unfold dC
  constructor
  · rintro ⟨h1, h2, h3⟩
    rcases h3 with ⟨e, h⟩ | ⟨e, h⟩ | ⟨e, h⟩ | ⟨e, h⟩ | ⟨e, h⟩ | ⟨e, h⟩ | ⟨e, h⟩ | ⟨e, h⟩ | ⟨e, h⟩ | ⟨e, h⟩ | ⟨e, h⟩ | ⟨e, h⟩ | ⟨e, h⟩ | ⟨e, h⟩ | h | ⟨e, h⟩ | ⟨e, h⟩ | ⟨e, h⟩ | ⟨e, h⟩
    · exact absurd e (by decide)
    · exact absurd e (by decide)
    · exact absurd e (by decide)
    · exact absurd e (by decide)
    · exact absurd e (by decide)
    · exact absurd e (by decide)
    · exact absurd e (by decide)
    · exact absurd e (by decide)
    · exact absurd e (by decide)
    · exact absurd e (by decide)
    · exact absurd e (by decide)
    · exact absurd e (by decide)
    · exact absurd e (by decide)
    · exact absurd e (by decide)
    · exact absurd h (by decide)
    · exact absurd e (by decide)
    · exact absurd e (by decide)
    · exact ⟨h1, h2.resolve_left (by decide), h⟩
    · exact absurd e (by decide)
  · exact fun ⟨h1, h2, h⟩ => ⟨h1, Or.inr h2, Or.inr (Or.inr (Or.inr (Or.inr (Or.inr (Or.inr (Or.inr (Or.inr (Or.inr (Or.inr (Or.inr (Or.inr (Or.inr (Or.inr (Or.inr (Or.inr (Or.inr (Or.inl (⟨rfl, h⟩))))))))))))))))))⟩
theorem dC_19 : dC s 19 t a b c d dy ↔ rg (s 0 2) t ∧ kpt s t ∧ (q19a s t c d ∨ q19b s t c d) := by
  unfold dC
  constructor
  · rintro ⟨h1, h2, h3⟩
    rcases h3 with ⟨e, h⟩ | ⟨e, h⟩ | ⟨e, h⟩ | ⟨e, h⟩ | ⟨e, h⟩ | ⟨e, h⟩ | ⟨e, h⟩ | ⟨e, h⟩ | ⟨e, h⟩ | ⟨e, h⟩ | ⟨e, h⟩ | ⟨e, h⟩ | ⟨e, h⟩ | ⟨e, h⟩ | h | ⟨e, h⟩ | ⟨e, h⟩ | ⟨e, h⟩ | ⟨e, h⟩
    · exact absurd e (by decide)
    · exact absurd e (by decide)
    · exact absurd e (by decide)
    · exact absurd e (by decide)
    · exact absurd e (by decide)
    · exact absurd e (by decide)
    · exact absurd e (by decide)
    · exact absurd e (by decide)
    · exact absurd e (by decide)
    · exact absurd e (by decide)
    · exact absurd e (by decide)
    · exact absurd e (by decide)
    · exact absurd e (by decide)
    · exact absurd e (by decide)
    · exact absurd h (by decide)
    · exact absurd e (by decide)
    · exact absurd e (by decide)
    · exact absurd e (by decide)
    · exact ⟨h1, h2.resolve_left (by decide), h⟩
  · exact fun ⟨h1, h2, h⟩ => ⟨h1, Or.inr h2, Or.inr (Or.inr (Or.inr (Or.inr (Or.inr (Or.inr (Or.inr (Or.inr (Or.inr (Or.inr (Or.inr (Or.inr (Or.inr (Or.inr (Or.inr (Or.inr (Or.inr (Or.inr (⟨rfl, h⟩))))))))))))))))))⟩
theorem dC_kind (h : dC s k t a b c d dy) : 1 ≤ k.toInt ∧ k.toInt ≤ 19 := by
  obtain ⟨-, -, h3⟩ := h
  rcases h3 with ⟨e, -⟩ | ⟨e, -⟩ | ⟨e, -⟩ | ⟨e, -⟩ | ⟨e, -⟩ | ⟨e, -⟩ | ⟨e, -⟩ | ⟨e, -⟩ | ⟨e, -⟩ | ⟨e, -⟩ | ⟨e, -⟩ | ⟨e, -⟩ | ⟨e, -⟩ | ⟨e, -⟩ | e | ⟨e, -⟩ | ⟨e, -⟩ | ⟨e, -⟩ | ⟨e, -⟩
  all_goals (subst e; decide)
theorem c_chain (H : KH σ s t a b c d dy) (hk0 : k = 1 ∨ kpt s t) (h1 : dC s k t a b c d dy → OKs σ (dE s k t a c d) Q) (h0 : ¬ dC s k t a b c d dy → Q 0 σ) : if k = 1 then wp_X3_comeIn σ (fun y u => Q y u) else (if k = 2 then wp_X3_goOut σ (fun y u => Q y u) else (if k = 3 then wp_X3_goOn σ (fun y u => Q y u) else (if k = 4 then wp_X3_comeBack σ (fun y u => Q y u) else (if k = 5 then wp_X3_putElsewhere σ (fun y u => Q y u) else (if k = 6 then wp_X3_goInto σ (fun y u => Q y u) else (if k = 7 then wp_X3_comeFrom σ (fun y u => Q y u) else (if k = 8 then wp_X3_close σ (fun y u => Q y u) else (if k = 9 then wp_X3_unseal σ (fun y u => Q y u) else (if k = 10 then wp_X3_look σ (fun y u => Q y u) else (if k = 11 then wp_X3_takePart σ (fun y u => Q y u) else (if k = 12 then wp_X3_takeCopy σ (fun y u => Q y u) else (if k = 13 then wp_X3_weigh σ (fun y u => Q y u) else (if k = 14 then wp_X3_keep σ (fun y u => Q y u) else (if k = 15 then wp_X3_doom σ (fun y u => Q y u) else (if k = 16 then wp_X3_beginTrial σ (fun y u => Q y u) else (if k = 17 then wp_X3_endTrial σ (fun y u => Q y u) else (if k = 18 then wp_X3_destroy σ (fun y u => Q y u) else (if k = 19 then wp_X3_find σ (fun y u => Q y u) else (Q 0 σ))))))))))))))))))) := by
  have ht := H.2.2.2.2
  by_cases e1 : k = 1
  · rw [if_pos e1]
    rw [e1] at h1 h0
    exact k_comeIn H (fun q => h1 (dC_1.mpr ⟨ht, q⟩)) (fun q => h0 (fun x => q (dC_1.mp x).2))
  rw [if_neg e1]
  by_cases e2 : k = 2
  · rw [if_pos e2]
    have hk : kpt s t := hk0.resolve_left (by rw [e2]; decide)
    rw [e2] at h1 h0
    exact k_goOut H (fun q => h1 (dC_2.mpr ⟨ht, hk, q⟩)) (fun q => h0 (fun x => q (dC_2.mp x).2.2))
  rw [if_neg e2]
  by_cases e3 : k = 3
  · rw [if_pos e3]
    have hk : kpt s t := hk0.resolve_left (by rw [e3]; decide)
    rw [e3] at h1 h0
    exact k_goOn H (fun q => h1 (dC_3.mpr ⟨ht, hk, q⟩)) (fun q => h0 (fun x => q (dC_3.mp x).2.2))
  rw [if_neg e3]
  by_cases e4 : k = 4
  · rw [if_pos e4]
    have hk : kpt s t := hk0.resolve_left (by rw [e4]; decide)
    rw [e4] at h1 h0
    exact k_comeBack H (fun q => h1 (dC_4.mpr ⟨ht, hk, q⟩)) (fun q => h0 (fun x => q (dC_4.mp x).2.2))
  rw [if_neg e4]
  by_cases e5 : k = 5
  · rw [if_pos e5]
    have hk : kpt s t := hk0.resolve_left (by rw [e5]; decide)
    rw [e5] at h1 h0
    exact k_putElsewhere H (fun q => h1 (dC_5.mpr ⟨ht, hk, q⟩)) (fun q => h0 (fun x => q (dC_5.mp x).2.2))
  rw [if_neg e5]
  by_cases e6 : k = 6
  · rw [if_pos e6]
    have hk : kpt s t := hk0.resolve_left (by rw [e6]; decide)
    rw [e6] at h1 h0
    exact k_goInto H (fun q => h1 (dC_6.mpr ⟨ht, hk, q⟩)) (fun q => h0 (fun x => q (dC_6.mp x).2.2))
  rw [if_neg e6]
  by_cases e7 : k = 7
  · rw [if_pos e7]
    have hk : kpt s t := hk0.resolve_left (by rw [e7]; decide)
    rw [e7] at h1 h0
    exact k_comeFrom H (fun q => h1 (dC_7.mpr ⟨ht, hk, q⟩)) (fun q => h0 (fun x => q (dC_7.mp x).2.2))
  rw [if_neg e7]
  by_cases e8 : k = 8
  · rw [if_pos e8]
    have hk : kpt s t := hk0.resolve_left (by rw [e8]; decide)
    rw [e8] at h1 h0
    exact k_close H (fun q => h1 (dC_8.mpr ⟨ht, hk, q⟩)) (fun q => h0 (fun x => q (dC_8.mp x).2.2))
  rw [if_neg e8]
  by_cases e9 : k = 9
  · rw [if_pos e9]
    have hk : kpt s t := hk0.resolve_left (by rw [e9]; decide)
    rw [e9] at h1 h0
    exact k_unseal H (fun q => h1 (dC_9.mpr ⟨ht, hk, q⟩)) (fun q => h0 (fun x => q (dC_9.mp x).2.2))
  rw [if_neg e9]
  by_cases e10 : k = 10
  · rw [if_pos e10]
    have hk : kpt s t := hk0.resolve_left (by rw [e10]; decide)
    rw [e10] at h1 h0
    exact k_look H (fun q => h1 (dC_10.mpr ⟨ht, hk, q⟩)) (fun q => h0 (fun x => q (dC_10.mp x).2.2))
  rw [if_neg e10]
  by_cases e11 : k = 11
  · rw [if_pos e11]
    have hk : kpt s t := hk0.resolve_left (by rw [e11]; decide)
    rw [e11] at h1 h0
    exact k_takePart H (fun q => h1 (dC_11.mpr ⟨ht, hk, q⟩)) (fun q => h0 (fun x => q (dC_11.mp x).2.2)) hk
  rw [if_neg e11]
  by_cases e12 : k = 12
  · rw [if_pos e12]
    have hk : kpt s t := hk0.resolve_left (by rw [e12]; decide)
    rw [e12] at h1 h0
    exact k_takeCopy H (fun q => h1 (dC_12.mpr ⟨ht, hk, q⟩)) (fun q => h0 (fun x => q (dC_12.mp x).2.2))
  rw [if_neg e12]
  by_cases e13 : k = 13
  · rw [if_pos e13]
    have hk : kpt s t := hk0.resolve_left (by rw [e13]; decide)
    rw [e13] at h1 h0
    exact k_weigh H (fun q => h1 (dC_13.mpr ⟨ht, hk, q⟩)) (fun q => h0 (fun x => q (dC_13.mp x).2.2))
  rw [if_neg e13]
  by_cases e14 : k = 14
  · rw [if_pos e14]
    have hk : kpt s t := hk0.resolve_left (by rw [e14]; decide)
    rw [e14] at h1 h0
    exact k_keep H (fun q => h1 (dC_14.mpr ⟨ht, hk, q⟩)) (fun q => h0 (fun x => q (dC_14.mp x).2.2))
  rw [if_neg e14]
  by_cases e15 : k = 15
  · rw [if_pos e15]
    have hk : kpt s t := hk0.resolve_left (by rw [e15]; decide)
    rw [e15] at h1 h0
    exact k_doom H (fun q => h1 (dC_15.mpr ⟨ht, hk, q⟩)) (fun q => h0 (fun x => q (dC_15.mp x).2.2))
  rw [if_neg e15]
  by_cases e16 : k = 16
  · rw [if_pos e16]
    have hk : kpt s t := hk0.resolve_left (by rw [e16]; decide)
    rw [e16] at h1 h0
    exact k_beginTrial H (fun q => h1 (dC_16.mpr ⟨ht, hk, q⟩)) (fun q => h0 (fun x => q (dC_16.mp x).2.2))
  rw [if_neg e16]
  by_cases e17 : k = 17
  · rw [if_pos e17]
    have hk : kpt s t := hk0.resolve_left (by rw [e17]; decide)
    rw [e17] at h1 h0
    exact k_endTrial H (fun q => h1 (dC_17.mpr ⟨ht, hk, q⟩)) (fun q => h0 (fun x => q (dC_17.mp x).2.2))
  rw [if_neg e17]
  by_cases e18 : k = 18
  · rw [if_pos e18]
    have hk : kpt s t := hk0.resolve_left (by rw [e18]; decide)
    rw [e18] at h1 h0
    exact k_destroy H (fun q => h1 (dC_18.mpr ⟨ht, hk, q⟩)) (fun q => h0 (fun x => q (dC_18.mp x).2.2))
  rw [if_neg e18]
  by_cases e19 : k = 19
  · rw [if_pos e19]
    have hk : kpt s t := hk0.resolve_left (by rw [e19]; decide)
    rw [e19] at h1 h0
    exact k_find H (fun q => h1 (dC_19.mpr ⟨ht, hk, q⟩)) (fun q => h0 (fun x => q (dC_19.mp x).2.2))
  rw [if_neg e19]
  refine h0 (fun x => ?_)
  obtain ⟨-, -, h3⟩ := x
  rcases h3 with ⟨e, -⟩ | ⟨e, -⟩ | ⟨e, -⟩ | ⟨e, -⟩ | ⟨e, -⟩ | ⟨e, -⟩ | ⟨e, -⟩ | ⟨e, -⟩ | ⟨e, -⟩ | ⟨e, -⟩ | ⟨e, -⟩ | ⟨e, -⟩ | ⟨e, -⟩ | ⟨e, -⟩ | e | ⟨e, -⟩ | ⟨e, -⟩ | ⟨e, -⟩ | ⟨e, -⟩
  · exact e1 e
  · exact e2 e
  · exact e3 e
  · exact e4 e
  · exact e5 e
  · exact e6 e
  · exact e7 e
  · exact e8 e
  · exact e9 e
  · exact e10 e
  · exact e11 e
  · exact e12 e
  · exact e13 e
  · exact e14 e
  · exact e15 e
  · exact e16 e
  · exact e17 e
  · exact e18 e
  · exact e19 e

/-- slip i of a row: can it be DONE, and what it does -/
def okS (f : Nat → Int32) (i : Nat) (s : St) : Prop := ¬ f (8 * i + 6) < 0 ∧ ¬ f (8 * i + 7) < f (8 * i + 6) ∧ dC s (f (8 * i)) (f (8 * i + 1)) (f (8 * i + 2)) (f (8 * i + 3)) (f (8 * i + 4)) (f (8 * i + 5)) (f (8 * i + 6) / 1440)
def efS (f : Nat → Int32) (i : Nat) (s : St) : St := dE s (f (8 * i)) (f (8 * i + 1)) (f (8 * i + 2)) (f (8 * i + 4)) (f (8 * i + 5))
theorem ixl : ix 0 = 0 ∧ ix 1 = 1 ∧ ix 2 = 2 ∧ ix 3 = 3 ∧ ix 4 = 4 ∧ ix 5 = 5 ∧ ix 6 = 6 ∧ ix 7 = 7 := by decide
/-- a cell of the row, as the class reads it, its fields being written */ -/
theorem s_cellR {τ σ : St} {r : Nat} (h7 : τ r = σ r) (h8 : τ (r + 1) = σ (r + 1)) {x w : Int32} {Q : Int32 → St → Prop} (h : rg (σ r 2) x) (hc : (σ r 2).toInt ≤ 400) (n : Nat) (hn : ix w = n) (w0 : 0 ≤ w.toInt) (w1 : w.toInt < 8) : wp_X2_cell r τ x w Q ↔ Q (σ (r + 1) (8 * ix x + n)) τ := by
  rw [s_cell (by rw [h7]; exact h) (by rw [h7]; exact hc) w0 w1, h8, hn]
set_option maxHeartbeats 1000000 in
theorem c_tell {r : Nat} (hr : r = 7 ∨ r = 10) (hT : TR σ s) (hS : SI s) (hC : CI σ s) {x : Int32} (hx : rg (σ r 2) x) (hc : (σ r 2).toInt ≤ 400) (h1 : okS (σ (r + 1)) (ix x) s → ∀ σ', TR σ' (efS (σ (r + 1)) (ix x) s) → CI σ' (efS (σ (r + 1)) (ix x) s) → FR σ σ' → Q 1 σ') (h0 : ¬ okS (σ (r + 1)) (ix x) s → ∀ σ', TR σ' s → CI σ' s → FR σ σ' → Q 0 σ') : wp_X3_tell r σ x Q := by
  have n13 : r ≠ 13 ∧ r + 1 ≠ 13 := by rcases hr with rfl | rfl <;> decide
  unfold wp_X3_tell
  have e0 : σ r = σ r := rfl
  have u1 : ∀ (τ : St) (j : Nat) (v : Int32), up2 τ 13 j v r = τ r := fun τ j v => up2_ne n13.1
  have u2 : ∀ (τ : St) (j : Nat) (v : Int32), up2 τ 13 j v (r + 1) = τ (r + 1) := fun τ j v => up2_ne n13.2
  have R : ∀ (τ : St), τ r = σ r → τ (r + 1) = σ (r + 1) → ∀ (w : Int32) (Q : Int32 → St → Prop) (n : Nat), ix w = n → 0 ≤ w.toInt → w.toInt < 8 → (wp_X2_cell r τ x w Q ↔ Q (σ (r + 1) (8 * ix x + n)) τ) := fun τ h7 h8 w Q n hn w0 w1 => s_cellR h7 h8 hx hc n hn w0 w1
  rw [R σ rfl rfl 0 _ 0 rfl (by decide) (by decide), R σ rfl rfl 6 _ 6 rfl (by decide) (by decide), R σ rfl rfl 1 _ 1 rfl (by decide) (by decide)]
  simp only [nmS]
  rw [R _ (u1 _ _ _) (u2 _ _ _) 2 _ 2 rfl (by decide) (by decide)]
  rw [R _ (by rw [u1, u1]) (by rw [u2, u2]) 3 _ 3 rfl (by decide) (by decide)]
  rw [R _ (by rw [u1, u1, u1]) (by rw [u2, u2, u2]) 4 _ 4 rfl (by decide) (by decide)]
  rw [R _ (by rw [u1, u1, u1, u1]) (by rw [u2, u2, u2, u2]) 5 _ 5 rfl (by decide) (by decide)]
  rw [R _ (by rw [u1, u1, u1, u1, u1]) (by rw [u2, u2, u2, u2, u2]) 7 _ 7 rfl (by decide) (by decide)]
  simp only [Nat.add_zero]
  have hT5 := TR_f (j := 17) (v := σ (r + 1) (8 * ix x + 5)) (TR_f (j := 16) (v := σ (r + 1) (8 * ix x + 4)) (TR_f (j := 15) (v := σ (r + 1) (8 * ix x + 3)) (TR_f (j := 14) (v := σ (r + 1) (8 * ix x + 2)) (TR_f (j := 13) (v := σ (r + 1) (8 * ix x + 1)) hT))))
  have hF5 : FR σ (up2 (up2 (up2 (up2 (up2 σ 13 13 (σ (r + 1) (8 * ix x + 1))) 13 14 (σ (r + 1) (8 * ix x + 2))) 13 15 (σ (r + 1) (8 * ix x + 3))) 13 16 (σ (r + 1) (8 * ix x + 4))) 13 17 (σ (r + 1) (8 * ix x + 5))) := ((((FR.rf.up (by decide) (by decide)).up (by decide) (by decide)).up (by decide) (by decide)).up (by decide) (by decide)).up (by decide) (by decide)
  have hC5 : CI (up2 (up2 (up2 (up2 (up2 σ 13 13 (σ (r + 1) (8 * ix x + 1))) 13 14 (σ (r + 1) (8 * ix x + 2))) 13 15 (σ (r + 1) (8 * ix x + 3))) 13 16 (σ (r + 1) (8 * ix x + 4))) 13 17 (σ (r + 1) (8 * ix x + 5))) s := CI_same hC (by simp only [up2_ne (show (24 : Nat) ≠ 13 by decide)]) (by simp only [up2_ne (show (22 : Nat) ≠ 13 by decide)]) rfl rfl
  have f13 : ∀ dy, FL (up2 (up2 (up2 (up2 (up2 (up2 σ 13 13 (σ (r + 1) (8 * ix x + 1))) 13 14 (σ (r + 1) (8 * ix x + 2))) 13 15 (σ (r + 1) (8 * ix x + 3))) 13 16 (σ (r + 1) (8 * ix x + 4))) 13 17 (σ (r + 1) (8 * ix x + 5))) 13 18 dy) (σ (r + 1) (8 * ix x + 1)) (σ (r + 1) (8 * ix x + 2)) (σ (r + 1) (8 * ix x + 3)) (σ (r + 1) (8 * ix x + 4)) (σ (r + 1) (8 * ix x + 5)) dy := by
    intro dy
    unfold FL
    simp [up2_eq, upd]
  have f131 : (up2 (up2 (up2 (up2 (up2 σ 13 13 (σ (r + 1) (8 * ix x + 1))) 13 14 (σ (r + 1) (8 * ix x + 2))) 13 15 (σ (r + 1) (8 * ix x + 3))) 13 16 (σ (r + 1) (8 * ix x + 4))) 13 17 (σ (r + 1) (8 * ix x + 5))) 13 13 = σ (r + 1) (8 * ix x + 1) := by simp [up2_eq, upd]
  unfold okS efS at h1
  unfold okS at h0
  generalize (up2 (up2 (up2 (up2 (up2 σ 13 13 (σ (r + 1) (8 * ix x + 1))) 13 14 (σ (r + 1) (8 * ix x + 2))) 13 15 (σ (r + 1) (8 * ix x + 3))) 13 16 (σ (r + 1) (8 * ix x + 4))) 13 17 (σ (r + 1) (8 * ix x + 5))) = τ at *
  generalize σ (r + 1) (8 * ix x) = k at *
  generalize σ (r + 1) (8 * ix x + 1) = t at *
  generalize σ (r + 1) (8 * ix x + 2) = a at *
  generalize σ (r + 1) (8 * ix x + 3) = b at *
  generalize σ (r + 1) (8 * ix x + 4) = c at *
  generalize σ (r + 1) (8 * ix x + 5) = d at *
  generalize σ (r + 1) (8 * ix x + 6) = mi at *
  generalize σ (r + 1) (8 * ix x + 7) = wr at *
  by_cases g1 : mi < 0
  · rw [if_pos g1]; exact h0 (fun q => q.1 g1) τ hT5 hC5 hF5
  rw [if_neg g1]
  by_cases g2 : wr < mi
  · rw [if_pos g2]; exact h0 (fun q => q.2.1 g2) τ hT5 hC5 hF5
  rw [if_neg g2, s_isThing, hT5.1.2.2.1, f131]
  by_cases g3 : rg (s 0 2) t
  · rw [bI_t g3, if_neg (by decide)]
    have tl : (k = 1 ∨ kpt s t) → j_X3_tell_117 r Q k mi τ := by
      intro hk
      unfold j_X3_tell_117
      simp only [nmS]
      have H : KH (up2 τ 13 18 (mi / 1440)) s t a b c d (mi / 1440) := ⟨TR_f hT5, hS, CI_same hC5 (up2_ne (by decide)) (up2_ne (by decide)) rfl rfl, f13 _, g3⟩
      exact c_chain H hk (fun q σ' T' C' F' => h1 ⟨g1, g2, q⟩ σ' T' C' ((hF5.up (by decide) (by decide)).tr F')) (fun q => h0 (fun x => q x.2.2) _ (TR_f hT5) (CI_same hC5 (up2_ne (by decide)) (up2_ne (by decide)) rfl rfl) (hF5.up (by decide) (by decide)))
    by_cases g4 : k = 1
    · rw [if_pos g4]; exact tl (Or.inl g4)
    · rw [if_neg g4, s_isKept hT5 (th_lt hS.1 g3).2]
      by_cases g5 : kpt s t
      · rw [bI_t g5, if_neg (by decide)]; exact tl (Or.inr g5)
      · rw [bI_f g5, if_pos rfl]; exact h0 (fun q => q.2.2.2.1.elim g4 g5) τ hT5 hC5 hF5
  · rw [bI_f g3, if_pos rfl]; exact h0 (fun q => g3 q.2.2.1) τ hT5 hC5 hF5
end TELL
