/-- the reference before its seals are set -/
def mz0 : St := fun k j => if k = 0 then (if j = 6 then -1 else if j = 15 then -1 else if j = 16 then -1 else 0) else 0
def mzi (i : Nat) : St := upr mz0 3 (fillA i (-1) (mz0 3))
theorem wM_0 (cI cZ : ClassId) (a : Nat → Nat) : wM cI cZ a mz0 = [(a 0, .inr (6, [.int 0, .int 0, .int 0, .int 0, .int 0, .int 0, .int (-1), .ref (a 1), .ref (a 2), .ref (a 3), .ref (a 4), .ref (a 5), .ref (a 6), .ref (a 7), .ref (a 8), .int (-1), .int (-1), .ref (a 9), .ref (a 10), .ref (a 11), .ref (a 12), .ref (a 13), .ref (a 14), .ref (a 15), .ref (a 16), .ref (a 17), .ref (a 18), .ref (a 19), .ref (a 20), .ref (a 21), .int 0, .ref (a 22), .ref (a 23)])), (a 1, .inl (cZ, 20, .inl (fun _ => 0))), (a 2, .inl (cZ, 8, .inl (fun _ => 0))), (a 3, .inl (cI, 6, .inl (fun _ => 0))), (a 4, .inl (cI, 60, .inl (fun _ => 0))), (a 5, .inl (cI, 60, .inl (fun _ => 0))), (a 6, .inl (cI, 3208, .inl (fun _ => 0))), (a 7, .inl (cI, 3208, .inl (fun _ => 0))), (a 8, .inl (cI, 420, .inl (fun _ => 0))), (a 9, .inl (cI, 60, .inl (fun _ => 0))), (a 10, .inl (cI, 60, .inl (fun _ => 0))), (a 11, .inl (cI, 60, .inl (fun _ => 0))), (a 12, .inl (cI, 60, .inl (fun _ => 0))), (a 13, .inl (cI, 60, .inl (fun _ => 0))), (a 14, .inl (cI, 60, .inl (fun _ => 0))), (a 15, .inl (cZ, 60, .inl (fun _ => 0))), (a 16, .inl (cI, 60, .inl (fun _ => 0))), (a 17, .inl (cI, 60, .inl (fun _ => 0))), (a 18, .inl (cZ, 60, .inl (fun _ => 0))), (a 19, .inl (cZ, 600, .inl (fun _ => 0))), (a 20, .inl (cI, 401, .inl (fun _ => 0))), (a 21, .inl (cI, 800, .inl (fun _ => 0))), (a 22, .inl (cI, 60, .inl (fun _ => 0))), (a 23, .inl (cI, 60, .inl (fun _ => 0)))] := rfl
theorem mzi_0 : mz0 = mzi 0 := by
  unfold mzi
  rw [fillA_0, upr_same]
theorem mzi_6 : mzi 6 = mz := by
  funext k j
  by_cases z : k = 3
  · subst z; rfl
  · show upr mz0 3 _ k j = _
    rw [show upr mz0 3 (fillA 6 (-1) (mz0 3)) k = mz0 k from if_neg z]
    unfold mz mz0
    rw [if_neg z]
section WALK
variable {p : Program} {l : Launch} {e : Env} {s : State} {m : MethodId} {args : Array Value} {below : List Frame} {meth : Method} {c : Code} {D : va_G} {A : Nat → Prop} {cI cZ cH : ClassId}
variable {a : Nat → Nat}
theorem dX6_init_0 : decode cX6_init 0 = .ok (.aload_n 0, 1) := by decide +kernel
theorem dX6_init_1 : decode cX6_init 1 = .ok (.invokespecial 1, 3) := by decide +kernel
theorem dX6_init_4 : decode cX6_init 4 = .ok (.aload_n 0, 1) := by decide +kernel
theorem dX6_init_5 : decode cX6_init 5 = .ok (.iconst (-1), 1) := by decide +kernel
theorem dX6_init_6 : decode cX6_init 6 = .ok (.putfield 9, 3) := by decide +kernel
theorem dX6_init_9 : decode cX6_init 9 = .ok (.aload_n 0, 1) := by decide +kernel
theorem dX6_init_10 : decode cX6_init 10 = .ok (.bipush 20, 2) := by decide +kernel
theorem dX6_init_12 : decode cX6_init 12 = .ok (.newarray .boolean, 2) := by decide +kernel
theorem dX6_init_14 : decode cX6_init 14 = .ok (.putfield 13, 3) := by decide +kernel
theorem dX6_init_17 : decode cX6_init 17 = .ok (.aload_n 0, 1) := by decide +kernel
theorem dX6_init_18 : decode cX6_init 18 = .ok (.bipush 8, 2) := by decide +kernel
theorem dX6_init_20 : decode cX6_init 20 = .ok (.newarray .boolean, 2) := by decide +kernel
theorem dX6_init_22 : decode cX6_init 22 = .ok (.putfield 17, 3) := by decide +kernel
theorem dX6_init_25 : decode cX6_init 25 = .ok (.aload_n 0, 1) := by decide +kernel
theorem dX6_init_26 : decode cX6_init 26 = .ok (.bipush 6, 2) := by decide +kernel
theorem dX6_init_28 : decode cX6_init 28 = .ok (.newarray .int, 2) := by decide +kernel
theorem dX6_init_30 : decode cX6_init 30 = .ok (.putfield 20, 3) := by decide +kernel
theorem dX6_init_33 : decode cX6_init 33 = .ok (.aload_n 0, 1) := by decide +kernel
theorem dX6_init_34 : decode cX6_init 34 = .ok (.bipush 60, 2) := by decide +kernel
theorem dX6_init_36 : decode cX6_init 36 = .ok (.newarray .int, 2) := by decide +kernel
theorem dX6_init_38 : decode cX6_init 38 = .ok (.putfield 24, 3) := by decide +kernel
theorem dX6_init_41 : decode cX6_init 41 = .ok (.aload_n 0, 1) := by decide +kernel
theorem dX6_init_42 : decode cX6_init 42 = .ok (.bipush 60, 2) := by decide +kernel
theorem dX6_init_44 : decode cX6_init 44 = .ok (.newarray .int, 2) := by decide +kernel
theorem dX6_init_46 : decode cX6_init 46 = .ok (.putfield 27, 3) := by decide +kernel
theorem dX6_init_49 : decode cX6_init 49 = .ok (.aload_n 0, 1) := by decide +kernel
theorem dX6_init_50 : decode cX6_init 50 = .ok (.sipush 3208, 3) := by decide +kernel
theorem dX6_init_53 : decode cX6_init 53 = .ok (.newarray .int, 2) := by decide +kernel
theorem dX6_init_55 : decode cX6_init 55 = .ok (.putfield 30, 3) := by decide +kernel
theorem dX6_init_58 : decode cX6_init 58 = .ok (.aload_n 0, 1) := by decide +kernel
theorem dX6_init_59 : decode cX6_init 59 = .ok (.sipush 3208, 3) := by decide +kernel
theorem dX6_init_62 : decode cX6_init 62 = .ok (.newarray .int, 2) := by decide +kernel
theorem dX6_init_64 : decode cX6_init 64 = .ok (.putfield 33, 3) := by decide +kernel
theorem dX6_init_67 : decode cX6_init 67 = .ok (.aload_n 0, 1) := by decide +kernel
theorem dX6_init_68 : decode cX6_init 68 = .ok (.sipush 420, 3) := by decide +kernel
theorem dX6_init_71 : decode cX6_init 71 = .ok (.newarray .int, 2) := by decide +kernel
theorem dX6_init_73 : decode cX6_init 73 = .ok (.putfield 36, 3) := by decide +kernel
theorem dX6_init_76 : decode cX6_init 76 = .ok (.aload_n 0, 1) := by decide +kernel
theorem dX6_init_77 : decode cX6_init 77 = .ok (.iconst (-1), 1) := by decide +kernel
theorem dX6_init_78 : decode cX6_init 78 = .ok (.putfield 39, 3) := by decide +kernel
theorem dX6_init_81 : decode cX6_init 81 = .ok (.aload_n 0, 1) := by decide +kernel
theorem dX6_init_82 : decode cX6_init 82 = .ok (.iconst (-1), 1) := by decide +kernel
theorem dX6_init_83 : decode cX6_init 83 = .ok (.putfield 42, 3) := by decide +kernel
theorem dX6_init_86 : decode cX6_init 86 = .ok (.aload_n 0, 1) := by decide +kernel
theorem dX6_init_87 : decode cX6_init 87 = .ok (.bipush 60, 2) := by decide +kernel
theorem dX6_init_89 : decode cX6_init 89 = .ok (.newarray .int, 2) := by decide +kernel
theorem dX6_init_91 : decode cX6_init 91 = .ok (.putfield 45, 3) := by decide +kernel
theorem dX6_init_94 : decode cX6_init 94 = .ok (.aload_n 0, 1) := by decide +kernel
theorem dX6_init_95 : decode cX6_init 95 = .ok (.bipush 60, 2) := by decide +kernel
theorem dX6_init_97 : decode cX6_init 97 = .ok (.newarray .int, 2) := by decide +kernel
theorem dX6_init_99 : decode cX6_init 99 = .ok (.putfield 48, 3) := by decide +kernel
theorem dX6_init_102 : decode cX6_init 102 = .ok (.aload_n 0, 1) := by decide +kernel
theorem dX6_init_103 : decode cX6_init 103 = .ok (.bipush 60, 2) := by decide +kernel
theorem dX6_init_105 : decode cX6_init 105 = .ok (.newarray .int, 2) := by decide +kernel
theorem dX6_init_107 : decode cX6_init 107 = .ok (.putfield 51, 3) := by decide +kernel
theorem dX6_init_110 : decode cX6_init 110 = .ok (.aload_n 0, 1) := by decide +kernel
theorem dX6_init_111 : decode cX6_init 111 = .ok (.bipush 60, 2) := by decide +kernel
theorem dX6_init_113 : decode cX6_init 113 = .ok (.newarray .int, 2) := by decide +kernel
theorem dX6_init_115 : decode cX6_init 115 = .ok (.putfield 54, 3) := by decide +kernel
theorem dX6_init_118 : decode cX6_init 118 = .ok (.aload_n 0, 1) := by decide +kernel
theorem dX6_init_119 : decode cX6_init 119 = .ok (.bipush 60, 2) := by decide +kernel
theorem dX6_init_121 : decode cX6_init 121 = .ok (.newarray .int, 2) := by decide +kernel
theorem dX6_init_123 : decode cX6_init 123 = .ok (.putfield 57, 3) := by decide +kernel
theorem dX6_init_126 : decode cX6_init 126 = .ok (.aload_n 0, 1) := by decide +kernel
theorem dX6_init_127 : decode cX6_init 127 = .ok (.bipush 60, 2) := by decide +kernel
theorem dX6_init_129 : decode cX6_init 129 = .ok (.newarray .int, 2) := by decide +kernel
theorem dX6_init_131 : decode cX6_init 131 = .ok (.putfield 60, 3) := by decide +kernel
theorem dX6_init_134 : decode cX6_init 134 = .ok (.aload_n 0, 1) := by decide +kernel
theorem dX6_init_135 : decode cX6_init 135 = .ok (.bipush 60, 2) := by decide +kernel
theorem dX6_init_137 : decode cX6_init 137 = .ok (.newarray .boolean, 2) := by decide +kernel
theorem dX6_init_139 : decode cX6_init 139 = .ok (.putfield 63, 3) := by decide +kernel
theorem dX6_init_142 : decode cX6_init 142 = .ok (.aload_n 0, 1) := by decide +kernel
theorem dX6_init_143 : decode cX6_init 143 = .ok (.bipush 60, 2) := by decide +kernel
theorem dX6_init_145 : decode cX6_init 145 = .ok (.newarray .int, 2) := by decide +kernel
theorem dX6_init_147 : decode cX6_init 147 = .ok (.putfield 66, 3) := by decide +kernel
theorem dX6_init_150 : decode cX6_init 150 = .ok (.aload_n 0, 1) := by decide +kernel
theorem dX6_init_151 : decode cX6_init 151 = .ok (.bipush 60, 2) := by decide +kernel
theorem dX6_init_153 : decode cX6_init 153 = .ok (.newarray .int, 2) := by decide +kernel
theorem dX6_init_155 : decode cX6_init 155 = .ok (.putfield 69, 3) := by decide +kernel
theorem dX6_init_158 : decode cX6_init 158 = .ok (.aload_n 0, 1) := by decide +kernel
theorem dX6_init_159 : decode cX6_init 159 = .ok (.bipush 60, 2) := by decide +kernel
theorem dX6_init_161 : decode cX6_init 161 = .ok (.newarray .boolean, 2) := by decide +kernel
theorem dX6_init_163 : decode cX6_init 163 = .ok (.putfield 72, 3) := by decide +kernel
theorem dX6_init_166 : decode cX6_init 166 = .ok (.aload_n 0, 1) := by decide +kernel
theorem dX6_init_167 : decode cX6_init 167 = .ok (.sipush 600, 3) := by decide +kernel
theorem dX6_init_170 : decode cX6_init 170 = .ok (.newarray .boolean, 2) := by decide +kernel
theorem dX6_init_172 : decode cX6_init 172 = .ok (.putfield 75, 3) := by decide +kernel
theorem dX6_init_175 : decode cX6_init 175 = .ok (.aload_n 0, 1) := by decide +kernel
theorem dX6_init_176 : decode cX6_init 176 = .ok (.sipush 401, 3) := by decide +kernel
theorem dX6_init_179 : decode cX6_init 179 = .ok (.newarray .int, 2) := by decide +kernel
theorem dX6_init_181 : decode cX6_init 181 = .ok (.putfield 78, 3) := by decide +kernel
theorem dX6_init_184 : decode cX6_init 184 = .ok (.aload_n 0, 1) := by decide +kernel
theorem dX6_init_185 : decode cX6_init 185 = .ok (.sipush 800, 3) := by decide +kernel
theorem dX6_init_188 : decode cX6_init 188 = .ok (.newarray .int, 2) := by decide +kernel
theorem dX6_init_190 : decode cX6_init 190 = .ok (.putfield 81, 3) := by decide +kernel
theorem dX6_init_193 : decode cX6_init 193 = .ok (.aload_n 0, 1) := by decide +kernel
theorem dX6_init_194 : decode cX6_init 194 = .ok (.bipush 60, 2) := by decide +kernel
theorem dX6_init_196 : decode cX6_init 196 = .ok (.newarray .int, 2) := by decide +kernel
theorem dX6_init_198 : decode cX6_init 198 = .ok (.putfield 84, 3) := by decide +kernel
theorem dX6_init_201 : decode cX6_init 201 = .ok (.aload_n 0, 1) := by decide +kernel
theorem dX6_init_202 : decode cX6_init 202 = .ok (.bipush 60, 2) := by decide +kernel
theorem dX6_init_204 : decode cX6_init 204 = .ok (.newarray .int, 2) := by decide +kernel
theorem dX6_init_206 : decode cX6_init 206 = .ok (.putfield 87, 3) := by decide +kernel
theorem dX6_init_209 : decode cX6_init 209 = .ok (.iconst 0, 1) := by decide +kernel
theorem dX6_init_210 : decode cX6_init 210 = .ok (.istore_n 1, 1) := by decide +kernel
theorem dX6_init_211 : decode cX6_init 211 = .ok (.iload_n 1, 1) := by decide +kernel
theorem dX6_init_212 : decode cX6_init 212 = .ok (.bipush 6, 2) := by decide +kernel
theorem dX6_init_214 : decode cX6_init 214 = .ok (.if_icmp .ge 16, 3) := by decide +kernel
theorem dX6_init_217 : decode cX6_init 217 = .ok (.aload_n 0, 1) := by decide +kernel
theorem dX6_init_218 : decode cX6_init 218 = .ok (.getfield 20, 3) := by decide +kernel
theorem dX6_init_221 : decode cX6_init 221 = .ok (.iload_n 1, 1) := by decide +kernel
theorem dX6_init_222 : decode cX6_init 222 = .ok (.iconst (-1), 1) := by decide +kernel
theorem dX6_init_223 : decode cX6_init 223 = .ok (.iastore, 1) := by decide +kernel
theorem dX6_init_224 : decode cX6_init 224 = .ok (.iinc 1 1, 3) := by decide +kernel
theorem dX6_init_227 : decode cX6_init 227 = .ok (.goto (-16), 3) := by decide +kernel
theorem dX6_init_230 : decode cX6_init 230 = .ok (.aload_n 0, 1) := by decide +kernel
theorem dX6_init_231 : decode cX6_init 231 = .ok (.invokevirtual 90, 3) := by decide +kernel
theorem dX6_init_234 : decode cX6_init 234 = .ok (.return_, 1) := by decide +kernel
def rm_X6_init : Room := { frames := 1, cells := 23, slots := 9511, locals := 21 }
theorem wk_X6_init2 {h0 : Nat} {u : Nat → Nat} (X : cx p s m args c cX6_init 2 RX6 D (wM cI cZ (hd h0 u)) A (tyW cI cZ cH)) (hr9 : meth.sig.returnType = none) (hlk9 : meth.locks = false) : ∀ (g i : Nat), i + g = 6 → go p l e rm_X6_init s m args below meth c D (wM cI cZ (hd h0 u)) A 23 9511 (MQ below (va_Qv (fun _ : Nat → Nat => True) (fun u t => atw D (kw (wM cI cZ (hd h0 u) (beg mz))) (tyW cI cZ cH) A s0 t) A) args s 23 9511 A) 2 211 [(0, .ref (hd h0 u 0)), (1, .int (nI i))] [] (mzi i) := by
  intro g
  induction g with
  | zero =>
    intro i hi
    have e : i = 6 := by omega
    subst e
    refine r_iload_n X 1 212 dX6_init_211 rfl rfl rfl ?_
    refine r_bipush (v := 6) X 214 dX6_init_212 (by decide) rfl ?_
    refine r_icmp_ge (P1 := True) (P2 := False) X 230 217 (by decide) dX6_init_214 (by decide) rfl (fun _ => ?_) (fun h => h.elim)
    rw [mzi_6]
    refine r_aload_n X 0 231 dX6_init_230 rfl rfl rfl ?_
    refine r_callV (As := []) (rest := []) (q0 := 0) (ci := 6) X 234 (c_X6_begin (m_begin (Q := fun τ => τ = beg mz) rfl)) ml_X6_90 lk_X6_begin rfl rfl rfl rfl (Nat.le_of_ble_eq_true rfl) ⟨rfl, rfl, ⟨(Nat.le_of_ble_eq_true rfl), (Nat.le_of_ble_eq_true rfl)⟩, (Nat.le_of_ble_eq_true rfl), (Nat.le_of_ble_eq_true rfl)⟩ dX6_init_231 rfl (fun τ hτ => ?_)
    subst hτ
    exact r_vretN X hr9 hlk9 u rfl dX6_init_234
  | succ g ih =>
    intro i hi
    have hlt : i < 6 := by omega
    refine r_iload_n X 1 212 dX6_init_211 rfl rfl rfl ?_
    refine r_bipush (v := 6) X 214 dX6_init_212 (by decide) rfl ?_
    refine r_icmp_ge (P1 := False) (P2 := True) X 230 217 (by
      rcases (show i = 0 ∨ i = 1 ∨ i = 2 ∨ i = 3 ∨ i = 4 ∨ i = 5 by omega) with rfl | rfl | rfl | rfl | rfl | rfl <;> decide) dX6_init_214 (by decide) rfl (fun h => h.elim) (fun _ => ?_)
    refine r_aload_n X 0 218 dX6_init_217 rfl rfl rfl ?_
    refine g_X6_20 X 221 dX6_init_218 rfl ?_
    refine r_iload_n X 1 222 dX6_init_221 rfl rfl rfl ?_
    refine r_iconst (v := (-1)) X 223 dX6_init_222 (by decide) rfl ?_
    refine r_iast (σ' := mzi (i + 1)) X (q0 := 3) (t0 := 0) 224 rfl rfl (vp_in_nI hlt (by decide)) ?_ dX6_init_223 rfl ?_
    · rw [show ix (nI i) = i from nI_clamp (by omega), show mzi i 3 = fillA i (-1) (mz0 3) from rfl, fillA_up]
      rfl
    refine r_iinc X 1 227 [(1, .int (nI i + 1)), (0, .ref (hd h0 u 0))] dX6_init_224 rfl (by decide) (by decide) rfl rfl ?_
    refine r_goto X 211 dX6_init_227 (by decide) ?_
    rw [nI_1]
    refine r_pick (lv' := [(0, .ref (hd h0 u 0)), (1, .int (nI (i + 1)))]) [1, 0] rfl ?_
    exact ih (i + 1) (by omega)
set_option maxHeartbeats 1000000 in
theorem c_X6_init {h0 : Nat} : ctN l yX6_init cX6_init 2 rm_X6_init D (tyW cI cZ cH) 23 9511 [(h0, .inr (6, [.int 0, .int 0, .int 0, .int 0, .int 0, .int 0, .int 0, .null, .null, .null, .null, .null, .null, .null, .null, .int 0, .int 0, .null, .null, .null, .null, .null, .null, .null, .null, .null, .null, .null, .null, .null, .int 0, .null, .null]))] (fun u => wM cI cZ (hd h0 u) (beg mz)) [.ref h0] := by
  refine mk_N (by decide +kernel) (Nat.le_of_ble_eq_true rfl) (fun p e s m args below meth c A X hr9 hlk9 hnm9 hao => ?_)
  refine r_pick (lv' := [(0, .ref h0)]) [0] rfl ?_
  refine r_aload_n X 0 1 dX6_init_0 rfl rfl rfl ?_
  refine r_objInit X 4 ml_X6_1 dX6_init_1 (Nat.le_of_ble_eq_true rfl) (Nat.le_of_ble_eq_true rfl) (Nat.le_of_ble_eq_true rfl) rfl ?_
  refine r_aload_n X 0 5 dX6_init_4 rfl rfl rfl ?_
  refine r_iconst (v := (-1)) X 6 dX6_init_5 (by decide) rfl ?_
  refine r_putK X 6 .int [.int 0, .int 0, .int 0, .int 0, .int 0, .int 0, .int (-1), .null, .null, .null, .null, .null, .null, .null, .null, .int 0, .int 0, .null, .null, .null, .null, .null, .null, .null, .null, .null, .null, .null, .null, .null, .int 0, .null, .null] 9 rfl inX6 tyX6_ok nmX6 (by decide) fl_X6_9 rfl (by decide +kernel) (vp_nar_int _) rfl (Nat.le_of_ble_eq_true rfl) rfl dX6_init_6 rfl (fun X1 => ?_)
  refine r_aload_n X1 0 10 dX6_init_9 rfl rfl rfl ?_
  refine r_bipush (v := (20)) X1 12 dX6_init_10 (by decide) rfl ?_
  refine r_newZc (N' := 20) X1 14 (by decide) (by decide) (Nat.le_of_ble_eq_true rfl) (Nat.le_of_ble_eq_true rfl) (Nat.le_of_ble_eq_true rfl) (cells' := 1) (slots' := 20) rfl rfl dX6_init_12 rfl (fun b1 X2 => ?_)
  refine r_putFK X2 hnm9 7 (.array .boolean) [.int 0, .int 0, .int 0, .int 0, .int 0, .int 0, .int (-1), .ref b1, .null, .null, .null, .null, .null, .null, .null, .int 0, .int 0, .null, .null, .null, .null, .null, .null, .null, .null, .null, .null, .null, .null, .null, .int 0, .null, .null] 17 rfl inX6 tyX6_ok nmX6 (by decide) fl_X6_13 rfl rfl (by decide +kernel) rfl rfl (Nat.le_of_ble_eq_true rfl) rfl dX6_init_14 rfl (fun X3 => ?_)
  refine r_aload_n X3 0 18 dX6_init_17 rfl rfl rfl ?_
  refine r_bipush (v := (8)) X3 20 dX6_init_18 (by decide) rfl ?_
  refine r_newZc (N' := 8) X3 22 (by decide) (by decide) (Nat.le_of_ble_eq_true rfl) (Nat.le_of_ble_eq_true rfl) (Nat.le_of_ble_eq_true rfl) (cells' := 2) (slots' := 28) rfl rfl dX6_init_20 rfl (fun b2 X4 => ?_)
  refine r_putFK X4 hnm9 8 (.array .boolean) [.int 0, .int 0, .int 0, .int 0, .int 0, .int 0, .int (-1), .ref b1, .ref b2, .null, .null, .null, .null, .null, .null, .int 0, .int 0, .null, .null, .null, .null, .null, .null, .null, .null, .null, .null, .null, .null, .null, .int 0, .null, .null] 25 rfl inX6 tyX6_ok nmX6 (by decide) fl_X6_17 rfl rfl (by decide +kernel) rfl rfl (Nat.le_of_ble_eq_true rfl) rfl dX6_init_22 rfl (fun X5 => ?_)
  refine r_aload_n X5 0 26 dX6_init_25 rfl rfl rfl ?_
  refine r_bipush (v := (6)) X5 28 dX6_init_26 (by decide) rfl ?_
  refine r_newIc (N' := 6) X5 30 (by decide) (by decide) (Nat.le_of_ble_eq_true rfl) (Nat.le_of_ble_eq_true rfl) (Nat.le_of_ble_eq_true rfl) (cells' := 3) (slots' := 34) rfl rfl dX6_init_28 rfl (fun b3 X6 => ?_)
  refine r_putFK X6 hnm9 9 (.array .int) [.int 0, .int 0, .int 0, .int 0, .int 0, .int 0, .int (-1), .ref b1, .ref b2, .ref b3, .null, .null, .null, .null, .null, .int 0, .int 0, .null, .null, .null, .null, .null, .null, .null, .null, .null, .null, .null, .null, .null, .int 0, .null, .null] 33 rfl inX6 tyX6_ok nmX6 (by decide) fl_X6_20 rfl rfl (by decide +kernel) rfl rfl (Nat.le_of_ble_eq_true rfl) rfl dX6_init_30 rfl (fun X7 => ?_)
  refine r_aload_n X7 0 34 dX6_init_33 rfl rfl rfl ?_
  refine r_bipush (v := (60)) X7 36 dX6_init_34 (by decide) rfl ?_
  refine r_newIc (N' := 60) X7 38 (by decide) (by decide) (Nat.le_of_ble_eq_true rfl) (Nat.le_of_ble_eq_true rfl) (Nat.le_of_ble_eq_true rfl) (cells' := 4) (slots' := 94) rfl rfl dX6_init_36 rfl (fun b4 X8 => ?_)
  refine r_putFK X8 hnm9 10 (.array .int) [.int 0, .int 0, .int 0, .int 0, .int 0, .int 0, .int (-1), .ref b1, .ref b2, .ref b3, .ref b4, .null, .null, .null, .null, .int 0, .int 0, .null, .null, .null, .null, .null, .null, .null, .null, .null, .null, .null, .null, .null, .int 0, .null, .null] 41 rfl inX6 tyX6_ok nmX6 (by decide) fl_X6_24 rfl rfl (by decide +kernel) rfl rfl (Nat.le_of_ble_eq_true rfl) rfl dX6_init_38 rfl (fun X9 => ?_)
  refine r_aload_n X9 0 42 dX6_init_41 rfl rfl rfl ?_
  refine r_bipush (v := (60)) X9 44 dX6_init_42 (by decide) rfl ?_
  refine r_newIc (N' := 60) X9 46 (by decide) (by decide) (Nat.le_of_ble_eq_true rfl) (Nat.le_of_ble_eq_true rfl) (Nat.le_of_ble_eq_true rfl) (cells' := 5) (slots' := 154) rfl rfl dX6_init_44 rfl (fun b5 X10 => ?_)
  refine r_putFK X10 hnm9 11 (.array .int) [.int 0, .int 0, .int 0, .int 0, .int 0, .int 0, .int (-1), .ref b1, .ref b2, .ref b3, .ref b4, .ref b5, .null, .null, .null, .int 0, .int 0, .null, .null, .null, .null, .null, .null, .null, .null, .null, .null, .null, .null, .null, .int 0, .null, .null] 49 rfl inX6 tyX6_ok nmX6 (by decide) fl_X6_27 rfl rfl (by decide +kernel) rfl rfl (Nat.le_of_ble_eq_true rfl) rfl dX6_init_46 rfl (fun X11 => ?_)
  refine r_aload_n X11 0 50 dX6_init_49 rfl rfl rfl ?_
  refine r_sipush (v := (3208)) X11 53 dX6_init_50 (by decide) rfl ?_
  refine r_newIc (N' := 3208) X11 55 (by decide) (by decide) (Nat.le_of_ble_eq_true rfl) (Nat.le_of_ble_eq_true rfl) (Nat.le_of_ble_eq_true rfl) (cells' := 6) (slots' := 3362) rfl rfl dX6_init_53 rfl (fun b6 X12 => ?_)
  refine r_putFK X12 hnm9 12 (.array .int) [.int 0, .int 0, .int 0, .int 0, .int 0, .int 0, .int (-1), .ref b1, .ref b2, .ref b3, .ref b4, .ref b5, .ref b6, .null, .null, .int 0, .int 0, .null, .null, .null, .null, .null, .null, .null, .null, .null, .null, .null, .null, .null, .int 0, .null, .null] 58 rfl inX6 tyX6_ok nmX6 (by decide) fl_X6_30 rfl rfl (by decide +kernel) rfl rfl (Nat.le_of_ble_eq_true rfl) rfl dX6_init_55 rfl (fun X13 => ?_)
  refine r_aload_n X13 0 59 dX6_init_58 rfl rfl rfl ?_
  refine r_sipush (v := (3208)) X13 62 dX6_init_59 (by decide) rfl ?_
  refine r_newIc (N' := 3208) X13 64 (by decide) (by decide) (Nat.le_of_ble_eq_true rfl) (Nat.le_of_ble_eq_true rfl) (Nat.le_of_ble_eq_true rfl) (cells' := 7) (slots' := 6570) rfl rfl dX6_init_62 rfl (fun b7 X14 => ?_)
  refine r_putFK X14 hnm9 13 (.array .int) [.int 0, .int 0, .int 0, .int 0, .int 0, .int 0, .int (-1), .ref b1, .ref b2, .ref b3, .ref b4, .ref b5, .ref b6, .ref b7, .null, .int 0, .int 0, .null, .null, .null, .null, .null, .null, .null, .null, .null, .null, .null, .null, .null, .int 0, .null, .null] 67 rfl inX6 tyX6_ok nmX6 (by decide) fl_X6_33 rfl rfl (by decide +kernel) rfl rfl (Nat.le_of_ble_eq_true rfl) rfl dX6_init_64 rfl (fun X15 => ?_)
  refine r_aload_n X15 0 68 dX6_init_67 rfl rfl rfl ?_
  refine r_sipush (v := (420)) X15 71 dX6_init_68 (by decide) rfl ?_
  refine r_newIc (N' := 420) X15 73 (by decide) (by decide) (Nat.le_of_ble_eq_true rfl) (Nat.le_of_ble_eq_true rfl) (Nat.le_of_ble_eq_true rfl) (cells' := 8) (slots' := 6990) rfl rfl dX6_init_71 rfl (fun b8 X16 => ?_)
  refine r_putFK X16 hnm9 14 (.array .int) [.int 0, .int 0, .int 0, .int 0, .int 0, .int 0, .int (-1), .ref b1, .ref b2, .ref b3, .ref b4, .ref b5, .ref b6, .ref b7, .ref b8, .int 0, .int 0, .null, .null, .null, .null, .null, .null, .null, .null, .null, .null, .null, .null, .null, .int 0, .null, .null] 76 rfl inX6 tyX6_ok nmX6 (by decide) fl_X6_36 rfl rfl (by decide +kernel) rfl rfl (Nat.le_of_ble_eq_true rfl) rfl dX6_init_73 rfl (fun X17 => ?_)
  refine r_aload_n X17 0 77 dX6_init_76 rfl rfl rfl ?_
  refine r_iconst (v := (-1)) X17 78 dX6_init_77 (by decide) rfl ?_
  refine r_putK X17 15 .int [.int 0, .int 0, .int 0, .int 0, .int 0, .int 0, .int (-1), .ref b1, .ref b2, .ref b3, .ref b4, .ref b5, .ref b6, .ref b7, .ref b8, .int (-1), .int 0, .null, .null, .null, .null, .null, .null, .null, .null, .null, .null, .null, .null, .null, .int 0, .null, .null] 81 rfl inX6 tyX6_ok nmX6 (by decide) fl_X6_39 rfl (by decide +kernel) (vp_nar_int _) rfl (Nat.le_of_ble_eq_true rfl) rfl dX6_init_78 rfl (fun X18 => ?_)
  refine r_aload_n X18 0 82 dX6_init_81 rfl rfl rfl ?_
  refine r_iconst (v := (-1)) X18 83 dX6_init_82 (by decide) rfl ?_
  refine r_putK X18 16 .int [.int 0, .int 0, .int 0, .int 0, .int 0, .int 0, .int (-1), .ref b1, .ref b2, .ref b3, .ref b4, .ref b5, .ref b6, .ref b7, .ref b8, .int (-1), .int (-1), .null, .null, .null, .null, .null, .null, .null, .null, .null, .null, .null, .null, .null, .int 0, .null, .null] 86 rfl inX6 tyX6_ok nmX6 (by decide) fl_X6_42 rfl (by decide +kernel) (vp_nar_int _) rfl (Nat.le_of_ble_eq_true rfl) rfl dX6_init_83 rfl (fun X19 => ?_)
  refine r_aload_n X19 0 87 dX6_init_86 rfl rfl rfl ?_
  refine r_bipush (v := (60)) X19 89 dX6_init_87 (by decide) rfl ?_
  refine r_newIc (N' := 60) X19 91 (by decide) (by decide) (Nat.le_of_ble_eq_true rfl) (Nat.le_of_ble_eq_true rfl) (Nat.le_of_ble_eq_true rfl) (cells' := 9) (slots' := 7050) rfl rfl dX6_init_89 rfl (fun b9 X20 => ?_)
  refine r_putFK X20 hnm9 17 (.array .int) [.int 0, .int 0, .int 0, .int 0, .int 0, .int 0, .int (-1), .ref b1, .ref b2, .ref b3, .ref b4, .ref b5, .ref b6, .ref b7, .ref b8, .int (-1), .int (-1), .ref b9, .null, .null, .null, .null, .null, .null, .null, .null, .null, .null, .null, .null, .int 0, .null, .null] 94 rfl inX6 tyX6_ok nmX6 (by decide) fl_X6_45 rfl rfl (by decide +kernel) rfl rfl (Nat.le_of_ble_eq_true rfl) rfl dX6_init_91 rfl (fun X21 => ?_)
  refine r_aload_n X21 0 95 dX6_init_94 rfl rfl rfl ?_
  refine r_bipush (v := (60)) X21 97 dX6_init_95 (by decide) rfl ?_
  refine r_newIc (N' := 60) X21 99 (by decide) (by decide) (Nat.le_of_ble_eq_true rfl) (Nat.le_of_ble_eq_true rfl) (Nat.le_of_ble_eq_true rfl) (cells' := 10) (slots' := 7110) rfl rfl dX6_init_97 rfl (fun b10 X22 => ?_)
  refine r_putFK X22 hnm9 18 (.array .int) [.int 0, .int 0, .int 0, .int 0, .int 0, .int 0, .int (-1), .ref b1, .ref b2, .ref b3, .ref b4, .ref b5, .ref b6, .ref b7, .ref b8, .int (-1), .int (-1), .ref b9, .ref b10, .null, .null, .null, .null, .null, .null, .null, .null, .null, .null, .null, .int 0, .null, .null] 102 rfl inX6 tyX6_ok nmX6 (by decide) fl_X6_48 rfl rfl (by decide +kernel) rfl rfl (Nat.le_of_ble_eq_true rfl) rfl dX6_init_99 rfl (fun X23 => ?_)
  refine r_aload_n X23 0 103 dX6_init_102 rfl rfl rfl ?_
  refine r_bipush (v := (60)) X23 105 dX6_init_103 (by decide) rfl ?_
  refine r_newIc (N' := 60) X23 107 (by decide) (by decide) (Nat.le_of_ble_eq_true rfl) (Nat.le_of_ble_eq_true rfl) (Nat.le_of_ble_eq_true rfl) (cells' := 11) (slots' := 7170) rfl rfl dX6_init_105 rfl (fun b11 X24 => ?_)
  refine r_putFK X24 hnm9 19 (.array .int) [.int 0, .int 0, .int 0, .int 0, .int 0, .int 0, .int (-1), .ref b1, .ref b2, .ref b3, .ref b4, .ref b5, .ref b6, .ref b7, .ref b8, .int (-1), .int (-1), .ref b9, .ref b10, .ref b11, .null, .null, .null, .null, .null, .null, .null, .null, .null, .null, .int 0, .null, .null] 110 rfl inX6 tyX6_ok nmX6 (by decide) fl_X6_51 rfl rfl (by decide +kernel) rfl rfl (Nat.le_of_ble_eq_true rfl) rfl dX6_init_107 rfl (fun X25 => ?_)
  refine r_aload_n X25 0 111 dX6_init_110 rfl rfl rfl ?_
  refine r_bipush (v := (60)) X25 113 dX6_init_111 (by decide) rfl ?_
  refine r_newIc (N' := 60) X25 115 (by decide) (by decide) (Nat.le_of_ble_eq_true rfl) (Nat.le_of_ble_eq_true rfl) (Nat.le_of_ble_eq_true rfl) (cells' := 12) (slots' := 7230) rfl rfl dX6_init_113 rfl (fun b12 X26 => ?_)
  refine r_putFK X26 hnm9 20 (.array .int) [.int 0, .int 0, .int 0, .int 0, .int 0, .int 0, .int (-1), .ref b1, .ref b2, .ref b3, .ref b4, .ref b5, .ref b6, .ref b7, .ref b8, .int (-1), .int (-1), .ref b9, .ref b10, .ref b11, .ref b12, .null, .null, .null, .null, .null, .null, .null, .null, .null, .int 0, .null, .null] 118 rfl inX6 tyX6_ok nmX6 (by decide) fl_X6_54 rfl rfl (by decide +kernel) rfl rfl (Nat.le_of_ble_eq_true rfl) rfl dX6_init_115 rfl (fun X27 => ?_)
  refine r_aload_n X27 0 119 dX6_init_118 rfl rfl rfl ?_
  refine r_bipush (v := (60)) X27 121 dX6_init_119 (by decide) rfl ?_
  refine r_newIc (N' := 60) X27 123 (by decide) (by decide) (Nat.le_of_ble_eq_true rfl) (Nat.le_of_ble_eq_true rfl) (Nat.le_of_ble_eq_true rfl) (cells' := 13) (slots' := 7290) rfl rfl dX6_init_121 rfl (fun b13 X28 => ?_)
  refine r_putFK X28 hnm9 21 (.array .int) [.int 0, .int 0, .int 0, .int 0, .int 0, .int 0, .int (-1), .ref b1, .ref b2, .ref b3, .ref b4, .ref b5, .ref b6, .ref b7, .ref b8, .int (-1), .int (-1), .ref b9, .ref b10, .ref b11, .ref b12, .ref b13, .null, .null, .null, .null, .null, .null, .null, .null, .int 0, .null, .null] 126 rfl inX6 tyX6_ok nmX6 (by decide) fl_X6_57 rfl rfl (by decide +kernel) rfl rfl (Nat.le_of_ble_eq_true rfl) rfl dX6_init_123 rfl (fun X29 => ?_)
  refine r_aload_n X29 0 127 dX6_init_126 rfl rfl rfl ?_
  refine r_bipush (v := (60)) X29 129 dX6_init_127 (by decide) rfl ?_
  refine r_newIc (N' := 60) X29 131 (by decide) (by decide) (Nat.le_of_ble_eq_true rfl) (Nat.le_of_ble_eq_true rfl) (Nat.le_of_ble_eq_true rfl) (cells' := 14) (slots' := 7350) rfl rfl dX6_init_129 rfl (fun b14 X30 => ?_)
  refine r_putFK X30 hnm9 22 (.array .int) [.int 0, .int 0, .int 0, .int 0, .int 0, .int 0, .int (-1), .ref b1, .ref b2, .ref b3, .ref b4, .ref b5, .ref b6, .ref b7, .ref b8, .int (-1), .int (-1), .ref b9, .ref b10, .ref b11, .ref b12, .ref b13, .ref b14, .null, .null, .null, .null, .null, .null, .null, .int 0, .null, .null] 134 rfl inX6 tyX6_ok nmX6 (by decide) fl_X6_60 rfl rfl (by decide +kernel) rfl rfl (Nat.le_of_ble_eq_true rfl) rfl dX6_init_131 rfl (fun X31 => ?_)
  refine r_aload_n X31 0 135 dX6_init_134 rfl rfl rfl ?_
  refine r_bipush (v := (60)) X31 137 dX6_init_135 (by decide) rfl ?_
  refine r_newZc (N' := 60) X31 139 (by decide) (by decide) (Nat.le_of_ble_eq_true rfl) (Nat.le_of_ble_eq_true rfl) (Nat.le_of_ble_eq_true rfl) (cells' := 15) (slots' := 7410) rfl rfl dX6_init_137 rfl (fun b15 X32 => ?_)
  refine r_putFK X32 hnm9 23 (.array .boolean) [.int 0, .int 0, .int 0, .int 0, .int 0, .int 0, .int (-1), .ref b1, .ref b2, .ref b3, .ref b4, .ref b5, .ref b6, .ref b7, .ref b8, .int (-1), .int (-1), .ref b9, .ref b10, .ref b11, .ref b12, .ref b13, .ref b14, .ref b15, .null, .null, .null, .null, .null, .null, .int 0, .null, .null] 142 rfl inX6 tyX6_ok nmX6 (by decide) fl_X6_63 rfl rfl (by decide +kernel) rfl rfl (Nat.le_of_ble_eq_true rfl) rfl dX6_init_139 rfl (fun X33 => ?_)
  refine r_aload_n X33 0 143 dX6_init_142 rfl rfl rfl ?_
  refine r_bipush (v := (60)) X33 145 dX6_init_143 (by decide) rfl ?_
  refine r_newIc (N' := 60) X33 147 (by decide) (by decide) (Nat.le_of_ble_eq_true rfl) (Nat.le_of_ble_eq_true rfl) (Nat.le_of_ble_eq_true rfl) (cells' := 16) (slots' := 7470) rfl rfl dX6_init_145 rfl (fun b16 X34 => ?_)
  refine r_putFK X34 hnm9 24 (.array .int) [.int 0, .int 0, .int 0, .int 0, .int 0, .int 0, .int (-1), .ref b1, .ref b2, .ref b3, .ref b4, .ref b5, .ref b6, .ref b7, .ref b8, .int (-1), .int (-1), .ref b9, .ref b10, .ref b11, .ref b12, .ref b13, .ref b14, .ref b15, .ref b16, .null, .null, .null, .null, .null, .int 0, .null, .null] 150 rfl inX6 tyX6_ok nmX6 (by decide) fl_X6_66 rfl rfl (by decide +kernel) rfl rfl (Nat.le_of_ble_eq_true rfl) rfl dX6_init_147 rfl (fun X35 => ?_)
  refine r_aload_n X35 0 151 dX6_init_150 rfl rfl rfl ?_
  refine r_bipush (v := (60)) X35 153 dX6_init_151 (by decide) rfl ?_
  refine r_newIc (N' := 60) X35 155 (by decide) (by decide) (Nat.le_of_ble_eq_true rfl) (Nat.le_of_ble_eq_true rfl) (Nat.le_of_ble_eq_true rfl) (cells' := 17) (slots' := 7530) rfl rfl dX6_init_153 rfl (fun b17 X36 => ?_)
  refine r_putFK X36 hnm9 25 (.array .int) [.int 0, .int 0, .int 0, .int 0, .int 0, .int 0, .int (-1), .ref b1, .ref b2, .ref b3, .ref b4, .ref b5, .ref b6, .ref b7, .ref b8, .int (-1), .int (-1), .ref b9, .ref b10, .ref b11, .ref b12, .ref b13, .ref b14, .ref b15, .ref b16, .ref b17, .null, .null, .null, .null, .int 0, .null, .null] 158 rfl inX6 tyX6_ok nmX6 (by decide) fl_X6_69 rfl rfl (by decide +kernel) rfl rfl (Nat.le_of_ble_eq_true rfl) rfl dX6_init_155 rfl (fun X37 => ?_)
  refine r_aload_n X37 0 159 dX6_init_158 rfl rfl rfl ?_
  refine r_bipush (v := (60)) X37 161 dX6_init_159 (by decide) rfl ?_
  refine r_newZc (N' := 60) X37 163 (by decide) (by decide) (Nat.le_of_ble_eq_true rfl) (Nat.le_of_ble_eq_true rfl) (Nat.le_of_ble_eq_true rfl) (cells' := 18) (slots' := 7590) rfl rfl dX6_init_161 rfl (fun b18 X38 => ?_)
  refine r_putFK X38 hnm9 26 (.array .boolean) [.int 0, .int 0, .int 0, .int 0, .int 0, .int 0, .int (-1), .ref b1, .ref b2, .ref b3, .ref b4, .ref b5, .ref b6, .ref b7, .ref b8, .int (-1), .int (-1), .ref b9, .ref b10, .ref b11, .ref b12, .ref b13, .ref b14, .ref b15, .ref b16, .ref b17, .ref b18, .null, .null, .null, .int 0, .null, .null] 166 rfl inX6 tyX6_ok nmX6 (by decide) fl_X6_72 rfl rfl (by decide +kernel) rfl rfl (Nat.le_of_ble_eq_true rfl) rfl dX6_init_163 rfl (fun X39 => ?_)
  refine r_aload_n X39 0 167 dX6_init_166 rfl rfl rfl ?_
  refine r_sipush (v := (600)) X39 170 dX6_init_167 (by decide) rfl ?_
  refine r_newZc (N' := 600) X39 172 (by decide) (by decide) (Nat.le_of_ble_eq_true rfl) (Nat.le_of_ble_eq_true rfl) (Nat.le_of_ble_eq_true rfl) (cells' := 19) (slots' := 8190) rfl rfl dX6_init_170 rfl (fun b19 X40 => ?_)
  refine r_putFK X40 hnm9 27 (.array .boolean) [.int 0, .int 0, .int 0, .int 0, .int 0, .int 0, .int (-1), .ref b1, .ref b2, .ref b3, .ref b4, .ref b5, .ref b6, .ref b7, .ref b8, .int (-1), .int (-1), .ref b9, .ref b10, .ref b11, .ref b12, .ref b13, .ref b14, .ref b15, .ref b16, .ref b17, .ref b18, .ref b19, .null, .null, .int 0, .null, .null] 175 rfl inX6 tyX6_ok nmX6 (by decide) fl_X6_75 rfl rfl (by decide +kernel) rfl rfl (Nat.le_of_ble_eq_true rfl) rfl dX6_init_172 rfl (fun X41 => ?_)
  refine r_aload_n X41 0 176 dX6_init_175 rfl rfl rfl ?_
  refine r_sipush (v := (401)) X41 179 dX6_init_176 (by decide) rfl ?_
  refine r_newIc (N' := 401) X41 181 (by decide) (by decide) (Nat.le_of_ble_eq_true rfl) (Nat.le_of_ble_eq_true rfl) (Nat.le_of_ble_eq_true rfl) (cells' := 20) (slots' := 8591) rfl rfl dX6_init_179 rfl (fun b20 X42 => ?_)
  refine r_putFK X42 hnm9 28 (.array .int) [.int 0, .int 0, .int 0, .int 0, .int 0, .int 0, .int (-1), .ref b1, .ref b2, .ref b3, .ref b4, .ref b5, .ref b6, .ref b7, .ref b8, .int (-1), .int (-1), .ref b9, .ref b10, .ref b11, .ref b12, .ref b13, .ref b14, .ref b15, .ref b16, .ref b17, .ref b18, .ref b19, .ref b20, .null, .int 0, .null, .null] 184 rfl inX6 tyX6_ok nmX6 (by decide) fl_X6_78 rfl rfl (by decide +kernel) rfl rfl (Nat.le_of_ble_eq_true rfl) rfl dX6_init_181 rfl (fun X43 => ?_)
  refine r_aload_n X43 0 185 dX6_init_184 rfl rfl rfl ?_
  refine r_sipush (v := (800)) X43 188 dX6_init_185 (by decide) rfl ?_
  refine r_newIc (N' := 800) X43 190 (by decide) (by decide) (Nat.le_of_ble_eq_true rfl) (Nat.le_of_ble_eq_true rfl) (Nat.le_of_ble_eq_true rfl) (cells' := 21) (slots' := 9391) rfl rfl dX6_init_188 rfl (fun b21 X44 => ?_)
  refine r_putFK X44 hnm9 29 (.array .int) [.int 0, .int 0, .int 0, .int 0, .int 0, .int 0, .int (-1), .ref b1, .ref b2, .ref b3, .ref b4, .ref b5, .ref b6, .ref b7, .ref b8, .int (-1), .int (-1), .ref b9, .ref b10, .ref b11, .ref b12, .ref b13, .ref b14, .ref b15, .ref b16, .ref b17, .ref b18, .ref b19, .ref b20, .ref b21, .int 0, .null, .null] 193 rfl inX6 tyX6_ok nmX6 (by decide) fl_X6_81 rfl rfl (by decide +kernel) rfl rfl (Nat.le_of_ble_eq_true rfl) rfl dX6_init_190 rfl (fun X45 => ?_)
  refine r_aload_n X45 0 194 dX6_init_193 rfl rfl rfl ?_
  refine r_bipush (v := (60)) X45 196 dX6_init_194 (by decide) rfl ?_
  refine r_newIc (N' := 60) X45 198 (by decide) (by decide) (Nat.le_of_ble_eq_true rfl) (Nat.le_of_ble_eq_true rfl) (Nat.le_of_ble_eq_true rfl) (cells' := 22) (slots' := 9451) rfl rfl dX6_init_196 rfl (fun b22 X46 => ?_)
  refine r_putFK X46 hnm9 31 (.array .int) [.int 0, .int 0, .int 0, .int 0, .int 0, .int 0, .int (-1), .ref b1, .ref b2, .ref b3, .ref b4, .ref b5, .ref b6, .ref b7, .ref b8, .int (-1), .int (-1), .ref b9, .ref b10, .ref b11, .ref b12, .ref b13, .ref b14, .ref b15, .ref b16, .ref b17, .ref b18, .ref b19, .ref b20, .ref b21, .int 0, .ref b22, .null] 201 rfl inX6 tyX6_ok nmX6 (by decide) fl_X6_84 rfl rfl (by decide +kernel) rfl rfl (Nat.le_of_ble_eq_true rfl) rfl dX6_init_198 rfl (fun X47 => ?_)
  refine r_aload_n X47 0 202 dX6_init_201 rfl rfl rfl ?_
  refine r_bipush (v := (60)) X47 204 dX6_init_202 (by decide) rfl ?_
  refine r_newIc (N' := 60) X47 206 (by decide) (by decide) (Nat.le_of_ble_eq_true rfl) (Nat.le_of_ble_eq_true rfl) (Nat.le_of_ble_eq_true rfl) (cells' := 23) (slots' := 9511) rfl rfl dX6_init_204 rfl (fun b23 X48 => ?_)
  refine r_putFK X48 hnm9 32 (.array .int) [.int 0, .int 0, .int 0, .int 0, .int 0, .int 0, .int (-1), .ref b1, .ref b2, .ref b3, .ref b4, .ref b5, .ref b6, .ref b7, .ref b8, .int (-1), .int (-1), .ref b9, .ref b10, .ref b11, .ref b12, .ref b13, .ref b14, .ref b15, .ref b16, .ref b17, .ref b18, .ref b19, .ref b20, .ref b21, .int 0, .ref b22, .ref b23] 209 rfl inX6 tyX6_ok nmX6 (by decide) fl_X6_87 rfl rfl (by decide +kernel) rfl rfl (Nat.le_of_ble_eq_true rfl) rfl dX6_init_206 rfl (fun X49 => ?_)
  refine r_sw (w' := wM cI cZ (hd h0 (fun k => [h0, b1, b2, b3, b4, b5, b6, b7, b8, b9, b10, b11, b12, b13, b14, b15, b16, b17, b18, b19, b20, b21, b22, b23].getD k 0))) (σ' := mz0) X49 (wM_ok _ _ _) (by
    rw [wM_0]
    unfold kw
    simp only [List.nil_append, List.cons_append, List.append_assoc]
    rfl) (fun Y => ?_)
  refine r_iconst (v := 0) Y 210 dX6_init_209 (by decide) rfl ?_
  refine r_istore_n Y 211 [(1, .int 0), (0, .ref h0)] dX6_init_210 rfl (by decide) rfl rfl ?_
  refine r_pick (lv' := [(0, .ref h0), (1, .int 0)]) [1, 0] rfl ?_
  rw [mzi_0]
  exact wk_X6_init2 Y hr9 hlk9 6 0 rfl
end WALK
