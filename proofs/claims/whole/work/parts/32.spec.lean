/-! what a slip asks and does, said of the reference's rows -/
noncomputable def cI_ (p : Prop) : Nat := @ite _ p (Classical.propDecidable _) 1 0
theorem cI_t {p : Prop} (h : p) : cI_ p = 1 := by simp [cI_, h]
theorem cI_f {p : Prop} (h : ¬ p) : cI_ p = 0 := by simp [cI_, h]
noncomputable def cntP (p : Nat → Prop) : Nat → Nat
  | 0 => 0
  | n + 1 => cntP p n + cI_ (p n)
theorem cntP_congr {p q : Nat → Prop} {n : Nat} (h : ∀ y, y < n → (p y ↔ q y)) : cntP p n = cntP q n := by
  induction n with
  | zero => rfl
  | succ n ih =>
    have e := propext (h n (Nat.lt_succ_self n))
    simp only [cntP, ih (fun y hy => h y (Nat.lt_succ_of_lt hy)), e]
theorem cntP_le (p : Nat → Prop) (n : Nat) : cntP p n ≤ n := by
  induction n with
  | zero => exact Nat.le_refl _
  | succ n ih =>
    simp only [cntP]
    by_cases h : p n
    · rw [cI_t h]; omega
    · rw [cI_f h]; omega
theorem cntP_zero {p : Nat → Prop} {n : Nat} : cntP p n = 0 ↔ ∀ y, y < n → ¬ p y := by
  induction n with
  | zero => simp [cntP]
  | succ n ih =>
    simp only [cntP]
    by_cases h : p n
    · rw [cI_t h]
      constructor
      · intro e; omega
      · intro e; exact absurd h (e n (Nat.lt_succ_self n))
    · rw [cI_f h, Nat.add_zero, ih]
      constructor
      · intro e y hy
        rcases Nat.lt_or_ge y n with q | q
        · exact e y q
        · have : y = n := by omega
          subst this; exact h
      · intro e y hy; exact e y (Nat.lt_succ_of_lt hy)
/-- one place more -/
theorem cntP_add {p q : Nat → Prop} {n x : Nat} (hx : x < n) (hq : q x) (hp : ¬ p x) (h : ∀ y, y < n → y ≠ x → (q y ↔ p y)) : cntP q n = cntP p n + 1 := by
  induction n with
  | zero => exact absurd hx (Nat.not_lt_zero _)
  | succ n ih =>
    simp only [cntP]
    by_cases e : x = n
    · subst e
      rw [cntP_congr (fun y hy => h y (Nat.lt_succ_of_lt hy) (Nat.ne_of_lt hy))]
      rw [cI_t hq, cI_f hp]
    · have h1 := ih (by omega) (fun y hy => h y (Nat.lt_succ_of_lt hy))
      have h2 := propext (h n (Nat.lt_succ_self n) (Ne.symm e))
      rw [h1, h2]
      omega
def isKp (s : St) (x : Int32) : Prop := rg (s 0 0) x ∧ ¬ s 1 (ix x) = 0
def hasK (s : St) (a b : Int32) (two : Prop) : Prop := isKp s a ∧ (two → ¬ b = a ∧ isKp s b)
def emp (s : St) (p : Int32) : Prop := rg (s 0 1 * 12) p ∧ ∀ x, x < 60 → ¬ (s 9 x = 1 ∧ s 10 x = p)
def fts (s : St) (t p : Int32) : Prop := emp s p ∧ (s 4 (ix t) = 4 → ¬ s 2 (ix (p / 12)) = 0)
def kpt (s : St) (t : Int32) : Prop := s 9 (ix t) = 1 ∨ s 9 (ix t) = 2 ∨ s 9 (ix t) = 3
def bg (s : St) (t : Int32) : Prop := s 4 (ix t) = 1 ∨ s 4 (ix t) = 4 ∨ s 4 (ix t) = 5
def mny (s : St) (t : Int32) : Prop := s 4 (ix t) = 5
abbrev upx (s : St) (x : Nat) : Nat := ix (s 10 x)
def frN (s : St) : Nat → Nat → Prop
  | 0, _ => True
  | n + 1, x => s 9 x = 3 → (s 12 (upx s x) = -1 ∧ frN s n (upx s x))
def otN (s : St) : Nat → Nat → Nat
  | 0, x => x
  | n + 1, x => if s 9 x = 3 then otN s n (upx s x) else x
def upN (s : St) : Nat → Nat → Nat → Prop
  | 0, x, y => x = y
  | n + 1, x, y => s 9 x = 3 ∧ upN s n (upx s x) y
noncomputable def cnB (s : St) (b : Int32) : Nat := cntP (fun y => s 9 y = 3 ∧ s 10 y = b) 60
def dpO (s : St) (t : Int32) : Prop := ∀ x, x < 60 → ¬ upN s 4 x (ix t)
def ofN (s : St) : Nat → Nat → Int32 → Prop
  | 0, _, _ => False
  | n + 1, x, y => rg (s 0 2) (s 17 x) ∧ (s 17 x = y ∨ ofN s n (ix (s 17 x)) y)
def isSl (s : St) (c : Int32) : Prop := rg 600 c ∧ c - c / 100 * 100 < s 3 (ix (c / 100))
def bit (s : St) (t c : Int32) : Prop := ¬ (s 16 (ix t) &&& ((1 : Int32) <<< (c &&& 31))) = 0
def day_ (x : Int32) : Prop := ¬ x < 0 ∧ ¬ 100000 < x
def mvE (s : St) (x st w : Int32) : St := up2 (up2 s 9 (ix x) st) 10 (ix x) w
/-- what slips of each kind find -/
def q1 (s : St) (t a b c d : Int32) : Prop := s 9 (ix t) = 0 ∧ ¬ s 4 (ix t) = 2 ∧ ¬ s 4 (ix t) = 3 ∧ hasK s a b (mny s t) ∧ rg (s 0 0) d ∧ fts s t c
def q2 (s : St) (t a b c d : Int32) : Prop := s 9 (ix t) = 1 ∧ hasK s a b (mny s t) ∧ rg (s 0 0) c ∧ day_ d
def q3 (s : St) (t c d : Int32) : Prop := (s 9 (ix t) = 2 ∧ s 10 (ix t) = c) ∧ rg (s 0 0) d ∧ ¬ c = d
def q4 (s : St) (t a b c d : Int32) : Prop := (s 9 (ix t) = 2 ∧ s 10 (ix t) = d) ∧ hasK s a b (mny s t) ∧ fts s t c
def q5 (s : St) (t a b c : Int32) : Prop := s 9 (ix t) = 1 ∧ hasK s a b (mny s t) ∧ fts s t c
def q6 (s : St) (t a b c : Int32) : Prop := (rg (s 0 2) c ∧ bg s c) ∧ kpt s c ∧ ¬ c = t ∧ s 12 (ix c) = -1 ∧ ((s 9 (ix t) = 1 ∧ s 9 (ix c) = 1) ∨ (s 9 (ix c) = 2 ∧ s 9 (ix t) = 2 ∧ s 10 (ix t) = s 10 (ix c))) ∧ hasK s a b (mny s t ∨ mny s c) ∧ cnB s c < 8 ∧ dpO s t
def q7 (s : St) (t a b c : Int32) : Prop := s 9 (ix t) = 3 ∧ s 12 (upx s (ix t)) = -1 ∧ hasK s a b (mny s t ∨ mny s (s 10 (ix t))) ∧ (s 9 (upx s (ix t)) = 2 ∨ (s 9 (upx s (ix t)) = 1 ∧ fts s t c))
def q8 (s : St) (t a b c : Int32) : Prop := bg s t ∧ s 12 (ix t) = -1 ∧ isSl s c ∧ s 19 (ix c) = 0 ∧ (mny s t → hasK s a b True)
def q9 (s : St) (t a b c : Int32) : Prop := bg s t ∧ ¬ s 12 (ix t) = -1 ∧ ¬ c < 0 ∧ ¬ 999 < c ∧ (mny s t → hasK s a b True)
def q10 (s : St) (t c : Int32) : Prop := bg s t ∧ ¬ c < -1 ∧ ¬ 999 < c
def qT (s : St) (t a b c kd : Int32) : Prop := (rg (s 0 2) c ∧ s 4 (ix c) = kd) ∧ s 9 (ix c) = 0 ∧ frN s 4 (ix t) ∧ hasK s a b (mny s t)
def q11 (s : St) (t a b c d : Int32) : Prop := qT s t a b c 2 ∧ ¬ d < 1 ∧ ¬ s 11 (ix t) < d
def q13 (s : St) (t d : Int32) : Prop := frN s 4 (ix t) ∧ ¬ d < 0 ∧ ¬ s 11 (ix t) < d
def tri (c : Int32) : Prop := ¬ c < 0 ∧ ¬ 30 < c
def q18 (s : St) (t a b c dy : Int32) : Prop := hasK s a b True ∧ rg (s 0 0) c ∧ ¬ c = a ∧ ¬ c = b ∧ s 9 (ix t) = 1 ∧ ¬ s 15 (ix t) = 0 ∧ ¬ dy < s 14 (ix t) ∧ s 16 (ix t) = 0 ∧ cnB s t = 0 ∧ ∀ x, x < 60 → s 9 x = 2 → ¬ ofN s 60 x t
def q19a (s : St) (t c d : Int32) : Prop := d = -1 ∧ fts s t c
def q19b (s : St) (t c d : Int32) : Prop := c = -1 ∧ rg (s 0 0) d ∧ ¬ (s 9 (ix t) = 2 ∧ s 10 (ix t) = d)
/-- can it be DONE -/
def dC (s : St) (k t a b c d dy : Int32) : Prop := rg (s 0 2) t ∧ (k = 1 ∨ kpt s t) ∧ ((k = 1 ∧ q1 s t a b c d) ∨ (k = 2 ∧ q2 s t a b c d) ∨ (k = 3 ∧ q3 s t c d) ∨ (k = 4 ∧ q4 s t a b c d) ∨ (k = 5 ∧ q5 s t a b c) ∨ (k = 6 ∧ q6 s t a b c) ∨ (k = 7 ∧ q7 s t a b c) ∨ (k = 8 ∧ q8 s t a b c) ∨ (k = 9 ∧ q9 s t a b c) ∨ (k = 10 ∧ q10 s t c) ∨ (k = 11 ∧ q11 s t a b c d) ∨ (k = 12 ∧ qT s t a b c 3) ∨ (k = 13 ∧ q13 s t d) ∨ (k = 14 ∧ day_ c) ∨ k = 15 ∨ (k = 16 ∧ tri c ∧ ¬ bit s t c) ∨ (k = 17 ∧ tri c ∧ bit s t c) ∨ (k = 18 ∧ q18 s t a b c dy) ∨ (k = 19 ∧ (q19a s t c d ∨ q19b s t c d)))
/-- what it does -/
def dE (s : St) (k t a c d : Int32) : St :=
  if k = 1 then mvE (up2 s 18 (ix t) 1) t 1 c
  else if k = 2 then up2 (mvE s t 2 c) 13 (ix t) d
  else if k = 3 then mvE s t 2 d
  else if k = 4 then up2 (mvE s t 1 c) 13 (ix t) (-1)
  else if k = 5 then mvE s t 1 c
  else if k = 6 then mvE s t 3 c
  else if k = 7 then (if s 9 (upx s (ix t)) = 2 then mvE s t 2 (s 10 (upx s (ix t))) else mvE s t 1 c)
  else if k = 8 then up2 (up2 s 12 (ix t) c) 19 (ix c) 1
  else if k = 9 then up2 s 12 (ix t) (-1)
  else if k = 10 then s
  else if k = 11 then up2 (up2 (mvE (up2 (up2 s 18 (ix c) 1) 17 (ix c) t) c 2 a) 11 (ix c) d) 11 (ix t) (s 11 (ix t) - d)
  else if k = 12 then mvE (up2 (up2 s 18 (ix c) 1) 17 (ix c) t) c 2 a
  else if k = 13 then up2 s 11 (ix t) (s 11 (ix t) - d)
  else if k = 14 then up2 s 14 (ix t) c
  else if k = 15 then up2 s 15 (ix t) 1
  else if k = 16 then up2 s 16 (ix t) (s 16 (ix t) ^^^ ((1 : Int32) <<< (c &&& 31)))
  else if k = 17 then up2 s 16 (ix t) (s 16 (ix t) ^^^ ((1 : Int32) <<< (c &&& 31)))
  else if k = 18 then mvE s t 4 (-1)
  else (if d = -1 then mvE s t 1 c else mvE s t 2 d)
/-- the stock is in its bounds -/
def SK (s : St) : Prop := (0 ≤ (s 0 0).toInt ∧ (s 0 0).toInt ≤ 20) ∧ (0 ≤ (s 0 1).toInt ∧ (s 0 1).toInt ≤ 8) ∧ (0 ≤ (s 0 2).toInt ∧ (s 0 2).toInt ≤ 60) ∧ ∀ x, x < 60 → 0 ≤ (s 4 x).toInt ∧ (s 4 x).toInt ≤ 5
def I_how (s : St) : Prop := ∀ x, x < 60 → s 9 x = 0 ∨ s 9 x = 1 ∨ s 9 x = 2 ∨ s 9 x = 3 ∨ s 9 x = 4
def I_th (s : St) : Prop := ∀ x, x < 60 → ¬ s 9 x = 0 → (x : Int) < (s 0 2).toInt
def I_was (s : St) : Prop := ∀ x, x < 60 → s 18 x = if s 9 x = 0 then 0 else 1
def I_bag (s : St) : Prop := ∀ x, x < 60 → s 9 x = 3 → rg (s 0 2) (s 10 x) ∧ (s 9 (upx s x) = 1 ∨ s 9 (upx s x) = 2 ∨ s 9 (upx s x) = 3)
def I_dep (s : St) : Prop := ∃ dp : Nat → Nat, ∀ x, x < 60 → dp x ≤ 4 ∧ (s 9 x = 3 → dp x = dp (upx s x) + 1) ∧ (¬ s 9 x = 3 → dp x = 0)
def I_of (s : St) : Prop := ∃ o : Nat → Nat, (∀ x, x < 60 → ¬ s 17 x = -1 → rg (s 0 2) (s 17 x) ∧ ¬ s 9 (ix (s 17 x)) = 0 ∧ o (ix (s 17 x)) < o x) ∧ (∀ x, x < 60 → ¬ s 9 x = 0 → o x < cntP (fun y => ¬ s 9 y = 0) 60) ∧ (∀ x, x < 60 → s 9 x = 0 → s 17 x = -1)
def I_tri (s : St) : Prop := ∀ x, x < 60 → ¬ s 16 x < 0
def I_pl (s : St) : Prop := ∀ x, x < 60 → s 9 x = 1 → 0 ≤ (s 10 x).toInt ∧ (s 10 x).toInt < 96
def I_un (s : St) : Prop := ∀ x y, x < 60 → y < 60 → s 9 x = 1 → s 9 y = 1 → s 10 x = s 10 y → x = y
def SI (s : St) : Prop := SK s ∧ I_how s ∧ I_th s ∧ I_was s ∧ I_bag s ∧ I_dep s ∧ I_of s ∧ I_tri s ∧ I_pl s ∧ I_un s
/-- the class's rows beside the reference's -/
def TR (σ s : St) : Prop := (σ 1 5 = s 0 0 ∧ σ 1 6 = s 0 1 ∧ σ 1 7 = s 0 2 ∧ σ 2 = s 1 ∧ σ 3 = s 2 ∧ σ 4 = s 3 ∧ σ 5 = s 4 ∧ σ 6 = s 5) ∧ (σ 14 = s 9 ∧ σ 15 = s 10 ∧ σ 16 = s 11 ∧ σ 17 = s 12 ∧ σ 18 = s 13 ∧ σ 19 = s 14 ∧ σ 20 = s 15 ∧ σ 21 = s 16 ∧ σ 23 = s 17 ∧ σ 25 = s 19)
/-- what the class keeps besides: who lies at a place, how many are in a bag -/
def CI (σ s : St) : Prop := (∀ p, p < 96 → (σ 24 p = -1 ↔ ∀ x, x < 60 → ¬ (s 9 x = 1 ∧ s 10 x = nI p))) ∧ (∀ b, b < 60 → σ 22 b = nI (cnB s (nI b)))
def FR (σ σ' : St) : Prop := ∀ k, (k < 13 ∨ 25 < k) → σ' k = σ k
theorem FR.rf {σ : St} : FR σ σ := fun _ _ => rfl
theorem FR.tr {σ σ1 σ2 : St} (h : FR σ σ1) (h2 : FR σ1 σ2) : FR σ σ2 := fun k hk => (h2 k hk).trans (h k hk)
theorem FR.up {σ σ1 : St} (h : FR σ σ1) {k j : Nat} {v : Int32} (h1 : 13 ≤ k) (h2 : k ≤ 25) : FR σ (up2 σ1 k j v) := fun q hq => by
  rw [up2_ne (by omega)]; exact h q hq
theorem SC_of {σ s : St} (hT : TR σ s) (hS : SK s) : SC σ := by
  obtain ⟨⟨e1, e2, e3, -⟩, -⟩ := hT
  unfold SC
  rw [e1, e2, e3]
  exact ⟨hS.1, hS.2.1, hS.2.2.1⟩
/-- the slip's own numbers in the class's fields -/
def FL (σ : St) (t a b c d dy : Int32) : Prop := σ 13 13 = t ∧ σ 13 14 = a ∧ σ 13 15 = b ∧ σ 13 16 = c ∧ σ 13 17 = d ∧ σ 13 18 = dy
