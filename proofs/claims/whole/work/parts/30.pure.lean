/-! the pure part: basics -/
noncomputable def bI (p : Prop) : Int32 := @ite _ p (Classical.propDecidable p) 1 0
theorem bI_t {p : Prop} (h : p) : bI p = 1 := by simp [bI, h]
theorem bI_f {p : Prop} (h : ¬ p) : bI p = 0 := by simp [bI, h]
theorem bI_0 (p : Prop) : (bI p = 0) = ¬ p := by
  by_cases h : p
  · simp [bI, h]
  · simp [bI, h]
theorem bI_1 (p : Prop) : (bI p = 1) = p := by
  by_cases h : p
  · simp [bI, h]
  · simp [bI, h]
theorem one_ne_0 : ((1 : Int32) = 0) = False := by decide
theorem bI_isB (p : Prop) : isB (bI p) := by
  by_cases h : p
  · rw [bI_t h]; exact isB_1
  · rw [bI_f h]; exact isB_0
theorem ifc {c : Prop} {i : Decidable c} (A B : Prop) : @ite Prop c i A B = ((c → A) ∧ (¬ c → B)) := by
  by_cases h : c
  · simp [h]
  · simp [h]
theorem ifb {P : Prop} {i : Decidable (bI P = 0)} (A B : Prop) : @ite Prop (bI P = 0) i A B = ((P → B) ∧ (¬ P → A)) := by
  rw [ifc, bI_0]
  by_cases h : P
  · simp [h]
  · simp [h]
theorem bI_congr {p q : Prop} (h : p ↔ q) : bI p = bI q := by rw [propext h]
theorem ltI (a b : Int32) : a < b ↔ a.toInt < b.toInt := Int32.lt_iff_toInt_lt
theorem leI (a b : Int32) : a ≤ b ↔ a.toInt ≤ b.toInt := Int32.le_iff_toInt_le
theorem eqI (a b : Int32) : a = b ↔ a.toInt = b.toInt := ⟨fun h => by rw [h], fun h => Int32.toInt_inj.mp h⟩
theorem vin {x b : Int32} {N : Nat} (h0 : ¬ x < 0) (h1 : x < b) (hb : b.toInt ≤ N) : vp_in x N := by
  rw [vp_in_iff]
  rw [ltI] at h0 h1
  have e0 : (0 : Int32).toInt = 0 := rfl
  omega
theorem vin2 {x : Int32} {N : Nat} (h0 : 0 ≤ x.toInt) (h1 : x.toInt < N) : vp_in x N := vp_in_iff.mpr ⟨h0, h1⟩
theorem ixI {x : Int32} (h : 0 ≤ x.toInt) : ((ix x : Nat) : Int) = x.toInt := by
  show ((x.toInt.toNat : Nat) : Int) = x.toInt
  omega
theorem up2_ne {σ : St} {k j k' : Nat} {v : Int32} (h : k' ≠ k) : up2 σ k j v k' = σ k' := by simp [up2, upr, h]
theorem up2_eq (σ : St) (k j : Nat) (v : Int32) : up2 σ k j v k = upd (σ k) j v := by simp [up2, upr]
theorem up2_at (σ : St) (k j : Nat) (v : Int32) (k' : Nat) : up2 σ k j v k' = if k' = k then upd (σ k) j v else σ k' := by
  simp only [up2, upr]
theorem upr_ne {σ : St} {k k' : Nat} {f : Nat → Int32} (h : k' ≠ k) : upr σ k f k' = σ k' := by simp [upr, h]
theorem upd_at (f : Nat → Int32) (k j : Nat) (v : Int32) : upd f k v j = if j = k then v else f j := by simp only [upd]
/-- x is one of 0 .. n - 1 -/
def rg (n x : Int32) : Prop := ¬ x < 0 ∧ x < n
theorem rg_i {n x : Int32} : rg n x ↔ 0 ≤ x.toInt ∧ x.toInt < n.toInt := by
  unfold rg
  rw [ltI, ltI]
  have e0 : (0 : Int32).toInt = 0 := rfl
  rw [e0]
  omega
theorem rg_in {n x : Int32} {N : Nat} (h : rg n x) (hb : n.toInt ≤ N) : vp_in x N := vin h.1 h.2 hb
theorem rg_lt {n x : Int32} {N : Nat} (h : rg n x) (hb : n.toInt ≤ N) : ix x < N := by
  have h1 := rg_i.mp h
  have := ixI h1.1
  omega
theorem rg_nI {n x : Int32} (h : rg n x) : x = nI (ix x) := by
  have h1 := (rg_i.mp h).1
  rw [eqI, nI_toInt]
  · exact (ixI h1).symm
  · have := ixI h1
    have := Int32.toInt_lt x
    omega
/-- the class's counts are in their bounds -/
def SC (σ : St) : Prop := (0 ≤ (σ 1 5).toInt ∧ (σ 1 5).toInt ≤ 20) ∧ (0 ≤ (σ 1 6).toInt ∧ (σ 1 6).toInt ≤ 8) ∧ (0 ≤ (σ 1 7).toInt ∧ (σ 1 7).toInt ≤ 60)
theorem div_in {x m : Int32} {k n : Nat} (hm : m.toInt = (k : Int)) (hk : 0 < k) (h0 : 0 ≤ x.toInt) (h : x.toInt < (k * n : Nat)) : (x / m).toInt = x.toInt / (k : Int) ∧ vp_in (x / m) n := by
  have e : (x / m).toInt = x.toInt / (k : Int) := by
    have h1 : (x / m).toInt = (x.toInt.tdiv m.toInt).bmod (2 ^ 32) := by
      rw [Int32.toInt_div]
    rw [h1, hm, Int.tdiv_eq_ediv_of_nonneg h0]
    have hx := Int32.toInt_lt x
    have hq0 : 0 ≤ x.toInt / (k : Int) := Int.ediv_nonneg h0 (by omega)
    have hq1 : x.toInt / (k : Int) ≤ x.toInt := Int.ediv_le_self _ h0
    apply Int.bmod_eq_of_le
    · omega
    · omega
  refine ⟨e, vin2 ?_ ?_⟩
  · rw [e]; exact Int.ediv_nonneg h0 (by omega)
  · rw [e]
    apply Int.ediv_lt_of_lt_mul (by omega)
    rw [Int.mul_comm]
    have : ((k * n : Nat) : Int) = (k : Int) * (n : Int) := by simp
    omega
theorem mul_i {x m : Int32} {k N : Nat} (hm : m.toInt = (k : Int)) (h0 : 0 ≤ x.toInt) (h : x.toInt ≤ N) (hN : N * k < 2 ^ 31) : (x * m).toInt = x.toInt * k := by
  rw [Int32.toInt_mul, hm]
  have h1 : 0 ≤ x.toInt * (k : Int) := Int.mul_nonneg h0 (by omega)
  have h2 : x.toInt * (k : Int) ≤ (N : Int) * (k : Int) := Int.mul_le_mul_of_nonneg_right h (by omega)
  have h3 : ((N * k : Nat) : Int) = (N : Int) * (k : Int) := by simp
  apply Int.bmod_eq_of_le
  · omega
  · omega
theorem mul_i' {x m : Int32} {k N : Nat} (hm : m.toInt = (k : Int)) (h0 : 0 ≤ x.toInt) (h : x.toInt ≤ N) (hN : N * k < 2 ^ 31) : (m * x).toInt = x.toInt * k := by
  rw [Int32.mul_comm]; exact mul_i hm h0 h hN
theorem add_i {x y : Int32} (h0 : -2147483648 ≤ x.toInt + y.toInt) (h1 : x.toInt + y.toInt < 2147483648) : (x + y).toInt = x.toInt + y.toInt := by
  rw [Int32.toInt_add]
  apply Int.bmod_eq_of_le
  · omega
  · omega
theorem sub_i {x y : Int32} (h0 : -2147483648 ≤ x.toInt - y.toInt) (h1 : x.toInt - y.toInt < 2147483648) : (x - y).toInt = x.toInt - y.toInt := by
  rw [Int32.toInt_sub]
  apply Int.bmod_eq_of_le
  · omega
  · omega
theorem t0_ : (0 : Int32).toInt = 0 := rfl
theorem t1_ : (1 : Int32).toInt = 1 := rfl
theorem tm1_ : (-1 : Int32).toInt = -1 := rfl
theorem bnd (x : Int32) : -2147483648 ≤ x.toInt ∧ x.toInt < 2147483648 := by
  have h1 := Int32.le_toInt x
  have h2 := Int32.toInt_lt x
  omega
theorem z_of {x : Int32} (h : 0 ≤ x.toInt) : x = nI (ix x) := by
  rw [eqI, nI_toInt]
  · exact (ixI h).symm
  · have := bnd x
    have := ixI h
    omega
theorem ix_nI {n : Nat} (h : n < 2 ^ 31) : ix (nI n) = n := nI_clamp h
