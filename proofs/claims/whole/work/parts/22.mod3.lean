section WALK
variable {p : Program} {l : Launch} {e : Env} {s : State} {m : MethodId} {args : Array Value} {below : List Frame} {meth : Method} {c : Code} {D : va_G} {A : Nat → Prop} {cI cZ cH : ClassId} {a : Nat → Nat} {n : Nat}
def rm_X6_yes : Room := { frames := 8, cells := 0, slots := 0, locals := 200 }
theorem dX6_yes_0 : decode cX6_yes 0 = .ok (.aload_n 0, 1) := by decide +kernel
theorem dX6_yes_1 : decode cX6_yes 1 = .ok (.iload_n 1, 1) := by decide +kernel
theorem dX6_yes_2 : decode cX6_yes 2 = .ok (.iload_n 2, 1) := by decide +kernel
theorem dX6_yes_3 : decode cX6_yes 3 = .ok (.invokevirtual 219, 3) := by decide +kernel
theorem dX6_yes_6 : decode cX6_yes 6 = .ok (.istore 4, 2) := by decide +kernel
theorem dX6_yes_8 : decode cX6_yes 8 = .ok (.bipush 7, 2) := by decide +kernel
theorem dX6_yes_10 : decode cX6_yes 10 = .ok (.iload_n 1, 1) := by decide +kernel
theorem dX6_yes_11 : decode cX6_yes 11 = .ok (.imul, 1) := by decide +kernel
theorem dX6_yes_12 : decode cX6_yes 12 = .ok (.istore 5, 2) := by decide +kernel
theorem dX6_yes_14 : decode cX6_yes 14 = .ok (.iload 4, 2) := by decide +kernel
theorem dX6_yes_16 : decode cX6_yes 16 = .ok (.iconst (-1), 1) := by decide +kernel
theorem dX6_yes_17 : decode cX6_yes 17 = .ok (.if_icmp .eq 34, 3) := by decide +kernel
theorem dX6_yes_20 : decode cX6_yes 20 = .ok (.aload_n 0, 1) := by decide +kernel
theorem dX6_yes_21 : decode cX6_yes 21 = .ok (.getfield 36, 3) := by decide +kernel
theorem dX6_yes_24 : decode cX6_yes 24 = .ok (.iload 4, 2) := by decide +kernel
theorem dX6_yes_26 : decode cX6_yes 26 = .ok (.iaload, 1) := by decide +kernel
theorem dX6_yes_27 : decode cX6_yes 27 = .ok (.iconst (-1), 1) := by decide +kernel
theorem dX6_yes_28 : decode cX6_yes 28 = .ok (.if_icmp .ne 23, 3) := by decide +kernel
theorem dX6_yes_31 : decode cX6_yes 31 = .ok (.iload_n 3, 1) := by decide +kernel
theorem dX6_yes_32 : decode cX6_yes 32 = .ok (.aload_n 0, 1) := by decide +kernel
theorem dX6_yes_33 : decode cX6_yes 33 = .ok (.getfield 36, 3) := by decide +kernel
theorem dX6_yes_36 : decode cX6_yes 36 = .ok (.iload 5, 2) := by decide +kernel
theorem dX6_yes_38 : decode cX6_yes 38 = .ok (.iconst 3, 1) := by decide +kernel
theorem dX6_yes_39 : decode cX6_yes 39 = .ok (.iadd, 1) := by decide +kernel
theorem dX6_yes_40 : decode cX6_yes 40 = .ok (.iaload, 1) := by decide +kernel
theorem dX6_yes_41 : decode cX6_yes 41 = .ok (.aload_n 0, 1) := by decide +kernel
theorem dX6_yes_42 : decode cX6_yes 42 = .ok (.getfield 204, 3) := by decide +kernel
theorem dX6_yes_45 : decode cX6_yes 45 = .ok (.invokestatic 96, 3) := by decide +kernel
theorem dX6_yes_48 : decode cX6_yes 48 = .ok (.ifCond .ne 5, 3) := by decide +kernel
theorem dX6_yes_51 : decode cX6_yes 51 = .ok (.iconst (-1), 1) := by decide +kernel
theorem dX6_yes_52 : decode cX6_yes 52 = .ok (.ireturn, 1) := by decide +kernel
theorem dX6_yes_53 : decode cX6_yes 53 = .ok (.aload_n 0, 1) := by decide +kernel
theorem dX6_yes_54 : decode cX6_yes 54 = .ok (.getfield 36, 3) := by decide +kernel
theorem dX6_yes_57 : decode cX6_yes 57 = .ok (.iload 4, 2) := by decide +kernel
theorem dX6_yes_59 : decode cX6_yes 59 = .ok (.iload_n 3, 1) := by decide +kernel
theorem dX6_yes_60 : decode cX6_yes 60 = .ok (.iastore, 1) := by decide +kernel
theorem dX6_yes_61 : decode cX6_yes 61 = .ok (.aload_n 0, 1) := by decide +kernel
theorem dX6_yes_62 : decode cX6_yes 62 = .ok (.getfield 36, 3) := by decide +kernel
theorem dX6_yes_65 : decode cX6_yes 65 = .ok (.iload 4, 2) := by decide +kernel
theorem dX6_yes_67 : decode cX6_yes 67 = .ok (.iload 5, 2) := by decide +kernel
theorem dX6_yes_69 : decode cX6_yes 69 = .ok (.iconst 4, 1) := by decide +kernel
theorem dX6_yes_70 : decode cX6_yes 70 = .ok (.iadd, 1) := by decide +kernel
theorem dX6_yes_71 : decode cX6_yes 71 = .ok (.if_icmp .ne 10, 3) := by decide +kernel
theorem dX6_yes_74 : decode cX6_yes 74 = .ok (.iload 5, 2) := by decide +kernel
theorem dX6_yes_76 : decode cX6_yes 76 = .ok (.iconst 5, 1) := by decide +kernel
theorem dX6_yes_77 : decode cX6_yes 77 = .ok (.iadd, 1) := by decide +kernel
theorem dX6_yes_78 : decode cX6_yes 78 = .ok (.goto 7, 3) := by decide +kernel
theorem dX6_yes_81 : decode cX6_yes 81 = .ok (.iload 5, 2) := by decide +kernel
theorem dX6_yes_83 : decode cX6_yes 83 = .ok (.iconst 4, 1) := by decide +kernel
theorem dX6_yes_84 : decode cX6_yes 84 = .ok (.iadd, 1) := by decide +kernel
theorem dX6_yes_85 : decode cX6_yes 85 = .ok (.iaload, 1) := by decide +kernel
theorem dX6_yes_86 : decode cX6_yes 86 = .ok (.istore 6, 2) := by decide +kernel
theorem dX6_yes_88 : decode cX6_yes 88 = .ok (.iload 6, 2) := by decide +kernel
theorem dX6_yes_90 : decode cX6_yes 90 = .ok (.iconst (-1), 1) := by decide +kernel
theorem dX6_yes_91 : decode cX6_yes 91 = .ok (.if_icmp .ne 5, 3) := by decide +kernel
theorem dX6_yes_94 : decode cX6_yes 94 = .ok (.iconst 0, 1) := by decide +kernel
theorem dX6_yes_95 : decode cX6_yes 95 = .ok (.ireturn, 1) := by decide +kernel
theorem dX6_yes_96 : decode cX6_yes 96 = .ok (.aload_n 0, 1) := by decide +kernel
theorem dX6_yes_97 : decode cX6_yes 97 = .ok (.iconst 0, 1) := by decide +kernel
theorem dX6_yes_98 : decode cX6_yes 98 = .ok (.putfield 39, 3) := by decide +kernel
theorem dX6_yes_101 : decode cX6_yes 101 = .ok (.aload_n 0, 1) := by decide +kernel
theorem dX6_yes_102 : decode cX6_yes 102 = .ok (.iconst (-1), 1) := by decide +kernel
theorem dX6_yes_103 : decode cX6_yes 103 = .ok (.putfield 42, 3) := by decide +kernel
theorem dX6_yes_106 : decode cX6_yes 106 = .ok (.iload 6, 2) := by decide +kernel
theorem dX6_yes_108 : decode cX6_yes 108 = .ok (.iload_n 3, 1) := by decide +kernel
theorem dX6_yes_109 : decode cX6_yes 109 = .ok (.if_icmp .le 8, 3) := by decide +kernel
theorem dX6_yes_112 : decode cX6_yes 112 = .ok (.iload 6, 2) := by decide +kernel
theorem dX6_yes_114 : decode cX6_yes 114 = .ok (.goto 4, 3) := by decide +kernel
theorem dX6_yes_117 : decode cX6_yes 117 = .ok (.iload_n 3, 1) := by decide +kernel
theorem dX6_yes_118 : decode cX6_yes 118 = .ok (.istore 7, 2) := by decide +kernel
theorem dX6_yes_120 : decode cX6_yes 120 = .ok (.iload 7, 2) := by decide +kernel
theorem dX6_yes_122 : decode cX6_yes 122 = .ok (.aload_n 0, 1) := by decide +kernel
theorem dX6_yes_123 : decode cX6_yes 123 = .ok (.getfield 36, 3) := by decide +kernel
theorem dX6_yes_126 : decode cX6_yes 126 = .ok (.iload 5, 2) := by decide +kernel
theorem dX6_yes_128 : decode cX6_yes 128 = .ok (.iconst 3, 1) := by decide +kernel
theorem dX6_yes_129 : decode cX6_yes 129 = .ok (.iadd, 1) := by decide +kernel
theorem dX6_yes_130 : decode cX6_yes 130 = .ok (.iaload, 1) := by decide +kernel
theorem dX6_yes_131 : decode cX6_yes 131 = .ok (.isub, 1) := by decide +kernel
theorem dX6_yes_132 : decode cX6_yes 132 = .ok (.bipush 30, 2) := by decide +kernel
theorem dX6_yes_134 : decode cX6_yes 134 = .ok (.if_icmp .le 7, 3) := by decide +kernel
theorem dX6_yes_137 : decode cX6_yes 137 = .ok (.iconst 1, 1) := by decide +kernel
theorem dX6_yes_138 : decode cX6_yes 138 = .ok (.goto 4, 3) := by decide +kernel
theorem dX6_yes_141 : decode cX6_yes 141 = .ok (.iconst 0, 1) := by decide +kernel
theorem dX6_yes_142 : decode cX6_yes 142 = .ok (.istore 8, 2) := by decide +kernel
theorem dX6_yes_144 : decode cX6_yes 144 = .ok (.aload_n 0, 1) := by decide +kernel
theorem dX6_yes_145 : decode cX6_yes 145 = .ok (.getfield 195, 3) := by decide +kernel
theorem dX6_yes_148 : decode cX6_yes 148 = .ok (.sipush 400, 3) := by decide +kernel
theorem dX6_yes_151 : decode cX6_yes 151 = .ok (.if_icmp .ne 11, 3) := by decide +kernel
theorem dX6_yes_154 : decode cX6_yes 154 = .ok (.aload_n 0, 1) := by decide +kernel
theorem dX6_yes_155 : decode cX6_yes 155 = .ok (.iconst 1, 1) := by decide +kernel
theorem dX6_yes_156 : decode cX6_yes 156 = .ok (.putfield 39, 3) := by decide +kernel
theorem dX6_yes_159 : decode cX6_yes 159 = .ok (.goto 55, 3) := by decide +kernel
theorem dX6_yes_162 : decode cX6_yes 162 = .ok (.aload_n 0, 1) := by decide +kernel
theorem dX6_yes_163 : decode cX6_yes 163 = .ok (.iconst 3, 1) := by decide +kernel
theorem dX6_yes_164 : decode cX6_yes 164 = .ok (.aload_n 0, 1) := by decide +kernel
theorem dX6_yes_165 : decode cX6_yes 165 = .ok (.getfield 36, 3) := by decide +kernel
theorem dX6_yes_168 : decode cX6_yes 168 = .ok (.iload 5, 2) := by decide +kernel
theorem dX6_yes_170 : decode cX6_yes 170 = .ok (.iaload, 1) := by decide +kernel
theorem dX6_yes_171 : decode cX6_yes 171 = .ok (.iconst (-1), 1) := by decide +kernel
theorem dX6_yes_172 : decode cX6_yes 172 = .ok (.iconst (-1), 1) := by decide +kernel
theorem dX6_yes_173 : decode cX6_yes 173 = .ok (.aload_n 0, 1) := by decide +kernel
theorem dX6_yes_174 : decode cX6_yes 174 = .ok (.getfield 36, 3) := by decide +kernel
theorem dX6_yes_177 : decode cX6_yes 177 = .ok (.iload 5, 2) := by decide +kernel
theorem dX6_yes_179 : decode cX6_yes 179 = .ok (.iconst 1, 1) := by decide +kernel
theorem dX6_yes_180 : decode cX6_yes 180 = .ok (.iadd, 1) := by decide +kernel
theorem dX6_yes_181 : decode cX6_yes 181 = .ok (.iaload, 1) := by decide +kernel
theorem dX6_yes_182 : decode cX6_yes 182 = .ok (.aload_n 0, 1) := by decide +kernel
theorem dX6_yes_183 : decode cX6_yes 183 = .ok (.getfield 36, 3) := by decide +kernel
theorem dX6_yes_186 : decode cX6_yes 186 = .ok (.iload 5, 2) := by decide +kernel
theorem dX6_yes_188 : decode cX6_yes 188 = .ok (.iconst 2, 1) := by decide +kernel
theorem dX6_yes_189 : decode cX6_yes 189 = .ok (.iadd, 1) := by decide +kernel
theorem dX6_yes_190 : decode cX6_yes 190 = .ok (.iaload, 1) := by decide +kernel
theorem dX6_yes_191 : decode cX6_yes 191 = .ok (.iload 8, 2) := by decide +kernel
theorem dX6_yes_193 : decode cX6_yes 193 = .ok (.ifCond .eq 8, 3) := by decide +kernel
theorem dX6_yes_196 : decode cX6_yes 196 = .ok (.iload 7, 2) := by decide +kernel
theorem dX6_yes_198 : decode cX6_yes 198 = .ok (.goto 12, 3) := by decide +kernel
theorem dX6_yes_201 : decode cX6_yes 201 = .ok (.aload_n 0, 1) := by decide +kernel
theorem dX6_yes_202 : decode cX6_yes 202 = .ok (.getfield 36, 3) := by decide +kernel
theorem dX6_yes_205 : decode cX6_yes 205 = .ok (.iload 5, 2) := by decide +kernel
theorem dX6_yes_207 : decode cX6_yes 207 = .ok (.iconst 3, 1) := by decide +kernel
theorem dX6_yes_208 : decode cX6_yes 208 = .ok (.iadd, 1) := by decide +kernel
theorem dX6_yes_209 : decode cX6_yes 209 = .ok (.iaload, 1) := by decide +kernel
theorem dX6_yes_210 : decode cX6_yes 210 = .ok (.invokevirtual 212, 3) := by decide +kernel
theorem dX6_yes_213 : decode cX6_yes 213 = .ok (.pop, 1) := by decide +kernel
theorem dX6_yes_214 : decode cX6_yes 214 = .ok (.aload_n 0, 1) := by decide +kernel
theorem dX6_yes_215 : decode cX6_yes 215 = .ok (.getfield 39, 3) := by decide +kernel
theorem dX6_yes_218 : decode cX6_yes 218 = .ok (.ifCond .eq 13, 3) := by decide +kernel
theorem dX6_yes_221 : decode cX6_yes 221 = .ok (.aload_n 0, 1) := by decide +kernel
theorem dX6_yes_222 : decode cX6_yes 222 = .ok (.getfield 36, 3) := by decide +kernel
theorem dX6_yes_225 : decode cX6_yes 225 = .ok (.iload 4, 2) := by decide +kernel
theorem dX6_yes_227 : decode cX6_yes 227 = .ok (.iconst (-1), 1) := by decide +kernel
theorem dX6_yes_228 : decode cX6_yes 228 = .ok (.iastore, 1) := by decide +kernel
theorem dX6_yes_229 : decode cX6_yes 229 = .ok (.iconst 3, 1) := by decide +kernel
theorem dX6_yes_230 : decode cX6_yes 230 = .ok (.ireturn, 1) := by decide +kernel
theorem dX6_yes_231 : decode cX6_yes 231 = .ok (.aload_n 0, 1) := by decide +kernel
theorem dX6_yes_232 : decode cX6_yes 232 = .ok (.getfield 36, 3) := by decide +kernel
theorem dX6_yes_235 : decode cX6_yes 235 = .ok (.iload 5, 2) := by decide +kernel
theorem dX6_yes_237 : decode cX6_yes 237 = .ok (.bipush 6, 2) := by decide +kernel
theorem dX6_yes_239 : decode cX6_yes 239 = .ok (.iadd, 1) := by decide +kernel
theorem dX6_yes_240 : decode cX6_yes 240 = .ok (.iconst 1, 1) := by decide +kernel
theorem dX6_yes_241 : decode cX6_yes 241 = .ok (.iastore, 1) := by decide +kernel
theorem dX6_yes_242 : decode cX6_yes 242 = .ok (.iload 8, 2) := by decide +kernel
theorem dX6_yes_244 : decode cX6_yes 244 = .ok (.ifCond .eq 7, 3) := by decide +kernel
theorem dX6_yes_247 : decode cX6_yes 247 = .ok (.iconst 2, 1) := by decide +kernel
theorem dX6_yes_248 : decode cX6_yes 248 = .ok (.goto 4, 3) := by decide +kernel
theorem dX6_yes_251 : decode cX6_yes 251 = .ok (.iconst 1, 1) := by decide +kernel
theorem dX6_yes_252 : decode cX6_yes 252 = .ok (.ireturn, 1) := by decide +kernel
def j_X6_yes_214  (Q : Int32 → St → Prop) (v4 : Int32) (v5 : Int32) (v8 : Int32) (σ : St) : Prop :=
  if (σ 0 15) = 0 then
  (vp_in (v5 + 6) 420 ∧
  nmS (up2 σ 8 (ix (v5 + 6)) 1) (fun σ12 =>
  if v8 = 0 then
  (Q 1 σ12)
  else (Q 2 σ12)))
  else (vp_in v4 420 ∧
  nmS (up2 σ 8 (ix v4) (-1)) (fun σ13 =>
  Q 3 σ13))
theorem wk_X6_yes_214 (X : cx p s m args c cX6_yes 9 RX6 D (wM cI cZ a) A (tyW cI cZ cH)) (hr9 : meth.sig.returnType = (some .int)) (hlk9 : meth.locks = false)  {Q : Int32 → St → Prop} {v4 : Int32} {v5 : Int32} {v8 : Int32} {σ : St} (h : j_X6_yes_214 Q v4 v5 v8 σ) : go p l e rm_X6_yes s m args below meth c D (wM cI cZ a) A 0 0 (MQ below (va_Qi Q (atw D (wM cI cZ a) (tyW cI cZ cH) A) A) args s 0 0 A) 9 214 [(0, .ref (a 0)), (4, .int v4), (5, .int v5), (8, .int v8)] [] σ := by
  delta j_X6_yes_214 at h
  refine r_aload_n X 0 215 dX6_yes_214 rfl rfl rfl ?_
  refine g_X6_39 X 218 dX6_yes_215 rfl ?_
  refine r_if_eq X 231 221 h dX6_yes_218 rfl rfl (fun h => ?_) (fun h => ?_)
  · refine r_aload_n X 0 232 dX6_yes_231 rfl rfl rfl ?_
    refine g_X6_36 X 235 dX6_yes_232 rfl ?_
    refine r_iload X 2 237 dX6_yes_235 rfl rfl ?_
    refine r_bipush (v := 6) X 239 dX6_yes_237 (by decide) rfl ?_
    refine r_iadd X 240 dX6_yes_239 rfl ?_
    refine r_iconst (v := 1) X 241 dX6_yes_240 (by decide) rfl ?_
    obtain ⟨hin, h⟩ := h
    refine s_M8 X 242 hin dX6_yes_241 rfl ?_
    refine r_nmS h (fun σ12 h => ?_)
    refine r_iload X 3 244 dX6_yes_242 rfl rfl ?_
    refine r_if_eq X 251 247 h dX6_yes_244 rfl rfl (fun h => ?_) (fun h => ?_)
    · refine r_iconst (v := 1) X 252 dX6_yes_251 (by decide) rfl ?_
      exact r_iret X hr9 hlk9 h dX6_yes_252
    · refine r_iconst (v := 2) X 248 dX6_yes_247 (by decide) rfl ?_
      refine r_goto X 252 dX6_yes_248 rfl ?_
      exact r_iret X hr9 hlk9 h dX6_yes_252
  · refine r_aload_n X 0 222 dX6_yes_221 rfl rfl rfl ?_
    refine g_X6_36 X 225 dX6_yes_222 rfl ?_
    refine r_iload X 1 227 dX6_yes_225 rfl rfl ?_
    refine r_iconst (v := (-1)) X 228 dX6_yes_227 (by decide) rfl ?_
    obtain ⟨hin, h⟩ := h
    refine s_M8 X 229 hin dX6_yes_228 rfl ?_
    refine r_nmS h (fun σ13 h => ?_)
    refine r_iconst (v := 3) X 230 dX6_yes_229 (by decide) rfl ?_
    exact r_iret X hr9 hlk9 h dX6_yes_230
def j_X6_yes_210  (Q : Int32 → St → Prop) (v4 : Int32) (v5 : Int32) (v8 : Int32) (s0 : Int32) (s1 : Int32) (s2 : Int32) (s3 : Int32) (s4 : Int32) (s5 : Int32) (s6 : Int32) (σ : St) : Prop :=
  wp_X6_written σ s6 s5 s4 s3 s2 s1 s0 (fun y11 σ10 =>
  j_X6_yes_214 Q v4 v5 v8 σ10)
theorem wk_X6_yes_210 (X : cx p s m args c cX6_yes 9 RX6 D (wM cI cZ a) A (tyW cI cZ cH)) (hr9 : meth.sig.returnType = (some .int)) (hlk9 : meth.locks = false)  {Q : Int32 → St → Prop} {v4 : Int32} {v5 : Int32} {v8 : Int32} {s0 : Int32} {s1 : Int32} {s2 : Int32} {s3 : Int32} {s4 : Int32} {s5 : Int32} {s6 : Int32} {σ : St} (h : j_X6_yes_210 Q v4 v5 v8 s0 s1 s2 s3 s4 s5 s6 σ) : go p l e rm_X6_yes s m args below meth c D (wM cI cZ a) A 0 0 (MQ below (va_Qi Q (atw D (wM cI cZ a) (tyW cI cZ cH) A) A) args s 0 0 A) 9 210 [(0, .ref (a 0)), (4, .int v4), (5, .int v5), (8, .int v8)] [.int s0, .int s1, .int s2, .int s3, .int s4, .int s5, .int s6, .ref (a 0)] σ := by
  delta j_X6_yes_210 at h
  refine r_callI (As := [.int s6, .int s5, .int s4, .int s3, .int s2, .int s1, .int s0]) (rest := []) X 213 (c_X6_written h) ml_X6_212 lk_X6_written wM_at_0 rfl rfl rfl (Nat.le_of_ble_eq_true rfl) ⟨rfl, rfl, ⟨Nat.le_of_ble_eq_true rfl, Nat.le_of_ble_eq_true rfl⟩, Nat.le_of_ble_eq_true rfl, Nat.le_of_ble_eq_true rfl⟩ dX6_yes_210 rfl (fun y11 σ10 h => ?_)
  refine r_pop X 214 dX6_yes_213 rfl rfl ?_
  refine r_pick (lv' := [(0, .ref (a 0)), (4, .int v4), (5, .int v5), (8, .int v8)]) [0, 1, 2, 3] rfl ?_
  exact wk_X6_yes_214 X hr9 hlk9 h
def j_X6_yes_142  (Q : Int32 → St → Prop) (v4 : Int32) (v5 : Int32) (v7 : Int32) (s0 : Int32) (σ : St) : Prop :=
  if (σ 0 3) = 400 then
  (nmS (up2 σ 0 15 1) (fun σ14 =>
  j_X6_yes_214 Q v4 v5 s0 σ14))
  else (vp_in v5 420 ∧
  (vp_in (v5 + 1) 420 ∧
  (vp_in (v5 + 2) 420 ∧
  (if s0 = 0 then
  (vp_in (v5 + 3) 420 ∧
  (j_X6_yes_210 Q v4 v5 s0 (σ 8 (ix (v5 + 3))) (σ 8 (ix (v5 + 2))) (σ 8 (ix (v5 + 1))) (-1) (-1) (σ 8 (ix v5)) 3 σ))
  else (j_X6_yes_210 Q v4 v5 s0 v7 (σ 8 (ix (v5 + 2))) (σ 8 (ix (v5 + 1))) (-1) (-1) (σ 8 (ix v5)) 3 σ)))))
theorem wk_X6_yes_142 (X : cx p s m args c cX6_yes 9 RX6 D (wM cI cZ a) A (tyW cI cZ cH)) (hr9 : meth.sig.returnType = (some .int)) (hlk9 : meth.locks = false)  {Q : Int32 → St → Prop} {v4 : Int32} {v5 : Int32} {v7 : Int32} {s0 : Int32} {σ : St} (h : j_X6_yes_142 Q v4 v5 v7 s0 σ) : go p l e rm_X6_yes s m args below meth c D (wM cI cZ a) A 0 0 (MQ below (va_Qi Q (atw D (wM cI cZ a) (tyW cI cZ cH) A) A) args s 0 0 A) 9 142 [(0, .ref (a 0)), (4, .int v4), (5, .int v5), (7, .int v7)] [.int s0] σ := by
  delta j_X6_yes_142 at h
  refine r_istore X 144 [(8, .int s0), (0, .ref (a 0)), (4, .int v4), (5, .int v5), (7, .int v7)] dX6_yes_142 (by decide) rfl rfl ?_
  refine r_aload_n X 1 145 dX6_yes_144 rfl rfl rfl ?_
  refine g_X6_195 X 148 dX6_yes_145 rfl ?_
  refine r_sipush (v := 400) X 151 dX6_yes_148 (by decide) rfl ?_
  refine r_icmp_ne X 162 154 h dX6_yes_151 rfl rfl (fun h => ?_) (fun h => ?_)
  · refine r_aload_n X 1 163 dX6_yes_162 rfl rfl rfl ?_
    refine r_iconst (v := 3) X 164 dX6_yes_163 (by decide) rfl ?_
    refine r_aload_n X 1 165 dX6_yes_164 rfl rfl rfl ?_
    refine g_X6_36 X 168 dX6_yes_165 rfl ?_
    refine r_iload X 3 170 dX6_yes_168 rfl rfl ?_
    obtain ⟨hin, h⟩ := h
    refine l_M8 X 171 hin dX6_yes_170 rfl ?_
    refine r_iconst (v := (-1)) X 172 dX6_yes_171 (by decide) rfl ?_
    refine r_iconst (v := (-1)) X 173 dX6_yes_172 (by decide) rfl ?_
    refine r_aload_n X 1 174 dX6_yes_173 rfl rfl rfl ?_
    refine g_X6_36 X 177 dX6_yes_174 rfl ?_
    refine r_iload X 3 179 dX6_yes_177 rfl rfl ?_
    refine r_iconst (v := 1) X 180 dX6_yes_179 (by decide) rfl ?_
    refine r_iadd X 181 dX6_yes_180 rfl ?_
    obtain ⟨hin, h⟩ := h
    refine l_M8 X 182 hin dX6_yes_181 rfl ?_
    refine r_aload_n X 1 183 dX6_yes_182 rfl rfl rfl ?_
    refine g_X6_36 X 186 dX6_yes_183 rfl ?_
    refine r_iload X 3 188 dX6_yes_186 rfl rfl ?_
    refine r_iconst (v := 2) X 189 dX6_yes_188 (by decide) rfl ?_
    refine r_iadd X 190 dX6_yes_189 rfl ?_
    obtain ⟨hin, h⟩ := h
    refine l_M8 X 191 hin dX6_yes_190 rfl ?_
    refine r_iload X 0 193 dX6_yes_191 rfl rfl ?_
    refine r_if_eq X 201 196 h dX6_yes_193 rfl rfl (fun h => ?_) (fun h => ?_)
    · refine r_aload_n X 1 202 dX6_yes_201 rfl rfl rfl ?_
      refine g_X6_36 X 205 dX6_yes_202 rfl ?_
      refine r_iload X 3 207 dX6_yes_205 rfl rfl ?_
      refine r_iconst (v := 3) X 208 dX6_yes_207 (by decide) rfl ?_
      refine r_iadd X 209 dX6_yes_208 rfl ?_
      obtain ⟨hin, h⟩ := h
      refine l_M8 X 210 hin dX6_yes_209 rfl ?_
      refine r_pick (lv' := [(0, .ref (a 0)), (4, .int v4), (5, .int v5), (8, .int s0)]) [1, 2, 3, 0] rfl ?_
      exact wk_X6_yes_210 X hr9 hlk9 h
    · refine r_iload X 4 198 dX6_yes_196 rfl rfl ?_
      refine r_goto X 210 dX6_yes_198 rfl ?_
      refine r_pick (lv' := [(0, .ref (a 0)), (4, .int v4), (5, .int v5), (8, .int s0)]) [1, 2, 3, 0] rfl ?_
      exact wk_X6_yes_210 X hr9 hlk9 h
  · refine r_aload_n X 1 155 dX6_yes_154 rfl rfl rfl ?_
    refine r_iconst (v := 1) X 156 dX6_yes_155 (by decide) rfl ?_
    refine u_X6_39 X 159 dX6_yes_156 rfl ?_
    refine r_nmS h (fun σ14 h => ?_)
    refine r_goto X 214 dX6_yes_159 rfl ?_
    refine r_pick (lv' := [(0, .ref (a 0)), (4, .int v4), (5, .int v5), (8, .int s0)]) [1, 2, 3, 0] rfl ?_
    exact wk_X6_yes_214 X hr9 hlk9 h
def j_X6_yes_118  (Q : Int32 → St → Prop) (v4 : Int32) (v5 : Int32) (s0 : Int32) (σ : St) : Prop :=
  vp_in (v5 + 3) 420 ∧
  (if 30 < (s0 - (σ 8 (ix (v5 + 3)))) then
  (j_X6_yes_142 Q v4 v5 s0 1 σ)
  else (j_X6_yes_142 Q v4 v5 s0 0 σ))
theorem wk_X6_yes_118 (X : cx p s m args c cX6_yes 9 RX6 D (wM cI cZ a) A (tyW cI cZ cH)) (hr9 : meth.sig.returnType = (some .int)) (hlk9 : meth.locks = false)  {Q : Int32 → St → Prop} {v4 : Int32} {v5 : Int32} {s0 : Int32} {σ : St} (h : j_X6_yes_118 Q v4 v5 s0 σ) : go p l e rm_X6_yes s m args below meth c D (wM cI cZ a) A 0 0 (MQ below (va_Qi Q (atw D (wM cI cZ a) (tyW cI cZ cH) A) A) args s 0 0 A) 9 118 [(0, .ref (a 0)), (4, .int v4), (5, .int v5)] [.int s0] σ := by
  delta j_X6_yes_118 at h
  refine r_istore X 120 [(7, .int s0), (0, .ref (a 0)), (4, .int v4), (5, .int v5)] dX6_yes_118 (by decide) rfl rfl ?_
  refine r_iload X 0 122 dX6_yes_120 rfl rfl ?_
  refine r_aload_n X 1 123 dX6_yes_122 rfl rfl rfl ?_
  refine g_X6_36 X 126 dX6_yes_123 rfl ?_
  refine r_iload X 3 128 dX6_yes_126 rfl rfl ?_
  refine r_iconst (v := 3) X 129 dX6_yes_128 (by decide) rfl ?_
  refine r_iadd X 130 dX6_yes_129 rfl ?_
  obtain ⟨hin, h⟩ := h
  refine l_M8 X 131 hin dX6_yes_130 rfl ?_
  refine r_isub X 132 dX6_yes_131 rfl ?_
  refine r_bipush (v := 30) X 134 dX6_yes_132 (by decide) rfl ?_
  refine r_icmp_le X 141 137 h dX6_yes_134 rfl rfl (fun h => ?_) (fun h => ?_)
  · refine r_iconst (v := 0) X 142 dX6_yes_141 (by decide) rfl ?_
    refine r_pick (lv' := [(0, .ref (a 0)), (4, .int v4), (5, .int v5), (7, .int s0)]) [1, 2, 3, 0] rfl ?_
    exact wk_X6_yes_142 X hr9 hlk9 h
  · refine r_iconst (v := 1) X 138 dX6_yes_137 (by decide) rfl ?_
    refine r_goto X 142 dX6_yes_138 rfl ?_
    refine r_pick (lv' := [(0, .ref (a 0)), (4, .int v4), (5, .int v5), (7, .int s0)]) [1, 2, 3, 0] rfl ?_
    exact wk_X6_yes_142 X hr9 hlk9 h
def j_X6_yes_85  (Q : Int32 → St → Prop) (v3 : Int32) (v4 : Int32) (v5 : Int32) (s0 : Int32) (σ : St) : Prop :=
  vp_in s0 420 ∧
  (nm ((σ 8 (ix s0))) (fun z7 =>
  if z7 = (-1) then
  (Q 0 σ)
  else (nmS (up2 σ 0 15 0) (fun σ8 =>
  nmS (up2 σ8 0 16 (-1)) (fun σ9 =>
  if v3 < z7 then
  (j_X6_yes_118 Q v4 v5 z7 σ9)
  else (j_X6_yes_118 Q v4 v5 v3 σ9))))))
theorem wk_X6_yes_85 (X : cx p s m args c cX6_yes 9 RX6 D (wM cI cZ a) A (tyW cI cZ cH)) (hr9 : meth.sig.returnType = (some .int)) (hlk9 : meth.locks = false)  {Q : Int32 → St → Prop} {v3 : Int32} {v4 : Int32} {v5 : Int32} {s0 : Int32} {σ : St} (h : j_X6_yes_85 Q v3 v4 v5 s0 σ) : go p l e rm_X6_yes s m args below meth c D (wM cI cZ a) A 0 0 (MQ below (va_Qi Q (atw D (wM cI cZ a) (tyW cI cZ cH) A) A) args s 0 0 A) 9 85 [(0, .ref (a 0)), (3, .int v3), (4, .int v4), (5, .int v5)] [.int s0, .ref (a 8)] σ := by
  delta j_X6_yes_85 at h
  obtain ⟨hin, h⟩ := h
  refine l_M8 X 86 hin dX6_yes_85 rfl ?_
  refine r_istoreN X 88 (fun z7 => [(6, .int z7), (0, .ref (a 0)), (3, .int v3), (4, .int v4), (5, .int v5)]) h dX6_yes_86 (by decide) (fun _ => rfl) rfl (fun z7 h => ?_)
  refine r_iload X 0 90 dX6_yes_88 rfl rfl ?_
  refine r_iconst (v := (-1)) X 91 dX6_yes_90 (by decide) rfl ?_
  refine r_icmp_ne X 96 94 h dX6_yes_91 rfl rfl (fun h => ?_) (fun h => ?_)
  · refine r_aload_n X 1 97 dX6_yes_96 rfl rfl rfl ?_
    refine r_iconst (v := 0) X 98 dX6_yes_97 (by decide) rfl ?_
    refine u_X6_39 X 101 dX6_yes_98 rfl ?_
    refine r_nmS h (fun σ8 h => ?_)
    refine r_aload_n X 1 102 dX6_yes_101 rfl rfl rfl ?_
    refine r_iconst (v := (-1)) X 103 dX6_yes_102 (by decide) rfl ?_
    refine u_X6_42 X 106 dX6_yes_103 rfl ?_
    refine r_nmS h (fun σ9 h => ?_)
    refine r_iload X 0 108 dX6_yes_106 rfl rfl ?_
    refine r_iload_n X 2 109 dX6_yes_108 rfl rfl rfl ?_
    refine r_icmp_le X 117 112 h dX6_yes_109 rfl rfl (fun h => ?_) (fun h => ?_)
    · refine r_iload_n X 2 118 dX6_yes_117 rfl rfl rfl ?_
      refine r_pick (lv' := [(0, .ref (a 0)), (4, .int v4), (5, .int v5)]) [1, 3, 4] rfl ?_
      exact wk_X6_yes_118 X hr9 hlk9 h
    · refine r_iload X 0 114 dX6_yes_112 rfl rfl ?_
      refine r_goto X 118 dX6_yes_114 rfl ?_
      refine r_pick (lv' := [(0, .ref (a 0)), (4, .int v4), (5, .int v5)]) [1, 3, 4] rfl ?_
      exact wk_X6_yes_118 X hr9 hlk9 h
  · refine r_iconst (v := 0) X 95 dX6_yes_94 (by decide) rfl ?_
    exact r_iret X hr9 hlk9 h dX6_yes_95
def wp_X6_yes  (σ : St) (x1 : Int32) (x2 : Int32) (x3 : Int32) (Q : Int32 → St → Prop) : Prop :=
  wp_X6_sayer σ x1 x2 (fun y2 σ1 =>
  nm (((7 : Int32) * x1)) (fun z3 =>
  if y2 = (-1) then
  (Q (-1) σ1)
  else (vp_in y2 420 ∧
  (if (σ1 8 (ix y2)) = (-1) then
  (vp_in (z3 + 3) 420 ∧
  (wp_X6_isIn σ1 x3 (σ1 8 (ix (z3 + 3))) (σ1 0 4) (fun y5 σ4 =>
  if y5 = 0 then
  (Q (-1) σ4)
  else (vp_in y2 420 ∧
  nmS (up2 σ4 8 (ix y2) x3) (fun σ6 =>
  if y2 = (z3 + 4) then
  (j_X6_yes_85 Q x3 y2 z3 (z3 + 5) σ6)
  else (j_X6_yes_85 Q x3 y2 z3 (z3 + 4) σ6))))))
  else (Q (-1) σ1)))))
theorem c_X6_yes  {σ : St} {x1 : Int32} {x2 : Int32} {x3 : Int32} {Q : Int32 → St → Prop} (h : wp_X6_yes σ x1 x2 x3 Q) : ctI l yX6_yes cX6_yes 9 (some .int) rm_X6_yes D (wM cI cZ a) (tyW cI cZ cH) [.ref (a 0), .int x1, .int x2, .int x3] σ Q := by
  refine mk_I (wM_ok cI cZ a) (by decide +kernel) (Nat.le_of_ble_eq_true rfl) (fun p e s m args below meth c A X hr9 hlk9 => ?_)
  refine r_pick (lv' := [(0, .ref (a 0)), (1, .int x1), (2, .int x2), (3, .int x3)]) [0, 1, 2, 3] rfl ?_
  delta wp_X6_yes at h
  refine r_aload_n X 0 1 dX6_yes_0 rfl rfl rfl ?_
  refine r_iload_n X 1 2 dX6_yes_1 rfl rfl rfl ?_
  refine r_iload_n X 2 3 dX6_yes_2 rfl rfl rfl ?_
  refine r_callI (As := [.int x1, .int x2]) (rest := []) X 6 (c_X6_sayer h) ml_X6_219 lk_X6_sayer wM_at_0 rfl rfl rfl (Nat.le_of_ble_eq_true rfl) ⟨rfl, rfl, ⟨Nat.le_of_ble_eq_true rfl, Nat.le_of_ble_eq_true rfl⟩, Nat.le_of_ble_eq_true rfl, Nat.le_of_ble_eq_true rfl⟩ dX6_yes_3 rfl (fun y2 σ1 h => ?_)
  refine r_istore X 8 [(4, .int y2), (0, .ref (a 0)), (1, .int x1), (2, .int x2), (3, .int x3)] dX6_yes_6 (by decide) rfl rfl ?_
  refine r_bipush (v := 7) X 10 dX6_yes_8 (by decide) rfl ?_
  refine r_iload_n X 2 11 dX6_yes_10 rfl rfl rfl ?_
  refine r_imul X 12 dX6_yes_11 rfl ?_
  refine r_istoreN X 14 (fun z3 => [(5, .int z3), (4, .int y2), (0, .ref (a 0)), (1, .int x1), (2, .int x2), (3, .int x3)]) h dX6_yes_12 (by decide) (fun _ => rfl) rfl (fun z3 h => ?_)
  refine r_iload X 1 16 dX6_yes_14 rfl rfl ?_
  refine r_iconst (v := (-1)) X 17 dX6_yes_16 (by decide) rfl ?_
  refine r_icmp_eq X 51 20 h dX6_yes_17 rfl rfl (fun h => ?_) (fun h => ?_)
  · refine r_iconst (v := (-1)) X 52 dX6_yes_51 (by decide) rfl ?_
    exact r_iret X hr9 hlk9 h dX6_yes_52
  · refine r_aload_n X 2 21 dX6_yes_20 rfl rfl rfl ?_
    refine g_X6_36 X 24 dX6_yes_21 rfl ?_
    refine r_iload X 1 26 dX6_yes_24 rfl rfl ?_
    obtain ⟨hin, h⟩ := h
    refine l_M8 X 27 hin dX6_yes_26 rfl ?_
    refine r_iconst (v := (-1)) X 28 dX6_yes_27 (by decide) rfl ?_
    refine r_icmp_ne X 51 31 h dX6_yes_28 rfl rfl (fun h => ?_) (fun h => ?_)
    · refine r_iconst (v := (-1)) X 52 dX6_yes_51 (by decide) rfl ?_
      exact r_iret X hr9 hlk9 h dX6_yes_52
    · refine r_iload_n X 5 32 dX6_yes_31 rfl rfl rfl ?_
      refine r_aload_n X 2 33 dX6_yes_32 rfl rfl rfl ?_
      refine g_X6_36 X 36 dX6_yes_33 rfl ?_
      refine r_iload X 0 38 dX6_yes_36 rfl rfl ?_
      refine r_iconst (v := 3) X 39 dX6_yes_38 (by decide) rfl ?_
      refine r_iadd X 40 dX6_yes_39 rfl ?_
      obtain ⟨hin, h⟩ := h
      refine l_M8 X 41 hin dX6_yes_40 rfl ?_
      refine r_aload_n X 2 42 dX6_yes_41 rfl rfl rfl ?_
      refine g_X6_204 X 45 dX6_yes_42 rfl ?_
      refine r_callSI (As := [.int x3, .int (σ1 8 (ix (z3 + 3))), .int (σ1 0 4)]) (rest := []) X 48 (c_X6_isIn h) ml_X6_96 lk_X6_isIn sy_X6_isIn rfl rfl (Nat.le_of_ble_eq_true rfl) ⟨rfl, rfl, ⟨Nat.le_of_ble_eq_true rfl, Nat.le_of_ble_eq_true rfl⟩, Nat.le_of_ble_eq_true rfl, Nat.le_of_ble_eq_true rfl⟩ dX6_yes_45 rfl (fun y5 σ4 h => ?_)
      obtain ⟨hb_y5, h⟩ := h
      refine r_if_ne X 53 51 h dX6_yes_48 rfl rfl (fun h => ?_) (fun h => ?_)
      · refine r_aload_n X 2 54 dX6_yes_53 rfl rfl rfl ?_
        refine g_X6_36 X 57 dX6_yes_54 rfl ?_
        refine r_iload X 1 59 dX6_yes_57 rfl rfl ?_
        refine r_iload_n X 5 60 dX6_yes_59 rfl rfl rfl ?_
        obtain ⟨hin, h⟩ := h
        refine s_M8 X 61 hin dX6_yes_60 rfl ?_
        refine r_nmS h (fun σ6 h => ?_)
        refine r_aload_n X 2 62 dX6_yes_61 rfl rfl rfl ?_
        refine g_X6_36 X 65 dX6_yes_62 rfl ?_
        refine r_iload X 1 67 dX6_yes_65 rfl rfl ?_
        refine r_iload X 0 69 dX6_yes_67 rfl rfl ?_
        refine r_iconst (v := 4) X 70 dX6_yes_69 (by decide) rfl ?_
        refine r_iadd X 71 dX6_yes_70 rfl ?_
        refine r_icmp_ne X 81 74 h dX6_yes_71 rfl rfl (fun h => ?_) (fun h => ?_)
        · refine r_iload X 0 83 dX6_yes_81 rfl rfl ?_
          refine r_iconst (v := 4) X 84 dX6_yes_83 (by decide) rfl ?_
          refine r_iadd X 85 dX6_yes_84 rfl ?_
          refine r_pick (lv' := [(0, .ref (a 0)), (3, .int x3), (4, .int y2), (5, .int z3)]) [2, 5, 1, 0] rfl ?_
          exact wk_X6_yes_85 X hr9 hlk9 h
        · refine r_iload X 0 76 dX6_yes_74 rfl rfl ?_
          refine r_iconst (v := 5) X 77 dX6_yes_76 (by decide) rfl ?_
          refine r_iadd X 78 dX6_yes_77 rfl ?_
          refine r_goto X 85 dX6_yes_78 rfl ?_
          refine r_pick (lv' := [(0, .ref (a 0)), (3, .int x3), (4, .int y2), (5, .int z3)]) [2, 5, 1, 0] rfl ?_
          exact wk_X6_yes_85 X hr9 hlk9 h
      · refine r_iconst (v := (-1)) X 52 dX6_yes_51 (by decide) rfl ?_
        exact r_iret X hr9 hlk9 h dX6_yes_52
def rm_X6_no : Room := { frames := 2, cells := 0, slots := 0, locals := 44 }
theorem dX6_no_0 : decode cX6_no 0 = .ok (.aload_n 0, 1) := by decide +kernel
theorem dX6_no_1 : decode cX6_no 1 = .ok (.iload_n 1, 1) := by decide +kernel
theorem dX6_no_2 : decode cX6_no 2 = .ok (.iload_n 2, 1) := by decide +kernel
theorem dX6_no_3 : decode cX6_no 3 = .ok (.invokevirtual 219, 3) := by decide +kernel
theorem dX6_no_6 : decode cX6_no 6 = .ok (.iconst (-1), 1) := by decide +kernel
theorem dX6_no_7 : decode cX6_no 7 = .ok (.if_icmp .ne 5, 3) := by decide +kernel
theorem dX6_no_10 : decode cX6_no 10 = .ok (.iconst 0, 1) := by decide +kernel
theorem dX6_no_11 : decode cX6_no 11 = .ok (.ireturn, 1) := by decide +kernel
theorem dX6_no_12 : decode cX6_no 12 = .ok (.aload_n 0, 1) := by decide +kernel
theorem dX6_no_13 : decode cX6_no 13 = .ok (.getfield 36, 3) := by decide +kernel
theorem dX6_no_16 : decode cX6_no 16 = .ok (.bipush 7, 2) := by decide +kernel
theorem dX6_no_18 : decode cX6_no 18 = .ok (.iload_n 1, 1) := by decide +kernel
theorem dX6_no_19 : decode cX6_no 19 = .ok (.imul, 1) := by decide +kernel
theorem dX6_no_20 : decode cX6_no 20 = .ok (.bipush 6, 2) := by decide +kernel
theorem dX6_no_22 : decode cX6_no 22 = .ok (.iadd, 1) := by decide +kernel
theorem dX6_no_23 : decode cX6_no 23 = .ok (.iconst 1, 1) := by decide +kernel
theorem dX6_no_24 : decode cX6_no 24 = .ok (.iastore, 1) := by decide +kernel
theorem dX6_no_25 : decode cX6_no 25 = .ok (.iconst 1, 1) := by decide +kernel
theorem dX6_no_26 : decode cX6_no 26 = .ok (.ireturn, 1) := by decide +kernel
def wp_X6_no  (σ : St) (x1 : Int32) (x2 : Int32) (Q : Int32 → St → Prop) : Prop :=
  wp_X6_sayer σ x1 x2 (fun y2 σ1 =>
  if y2 = (-1) then
  (Q 0 σ1)
  else (vp_in (((7 : Int32) * x1) + 6) 420 ∧
  nmS (up2 σ1 8 (ix (((7 : Int32) * x1) + 6)) 1) (fun σ3 =>
  Q 1 σ3)))
theorem c_X6_no  {σ : St} {x1 : Int32} {x2 : Int32} {Q : Int32 → St → Prop} (h : wp_X6_no σ x1 x2 Q) : ctI l yX6_no cX6_no 3 (some .boolean) rm_X6_no D (wM cI cZ a) (tyW cI cZ cH) [.ref (a 0), .int x1, .int x2] σ (fun r9 u9 => isB r9 ∧ Q r9 u9) := by
  refine mk_I (wM_ok cI cZ a) (by decide +kernel) (Nat.le_of_ble_eq_true rfl) (fun p e s m args below meth c A X hr9 hlk9 => ?_)
  refine r_pick (lv' := [(0, .ref (a 0)), (1, .int x1), (2, .int x2)]) [0, 1, 2] rfl ?_
  delta wp_X6_no at h
  refine r_aload_n X 0 1 dX6_no_0 rfl rfl rfl ?_
  refine r_iload_n X 1 2 dX6_no_1 rfl rfl rfl ?_
  refine r_iload_n X 2 3 dX6_no_2 rfl rfl rfl ?_
  refine r_callI (As := [.int x1, .int x2]) (rest := []) X 6 (c_X6_sayer h) ml_X6_219 lk_X6_sayer wM_at_0 rfl rfl rfl (Nat.le_of_ble_eq_true rfl) ⟨rfl, rfl, ⟨Nat.le_of_ble_eq_true rfl, Nat.le_of_ble_eq_true rfl⟩, Nat.le_of_ble_eq_true rfl, Nat.le_of_ble_eq_true rfl⟩ dX6_no_3 rfl (fun y2 σ1 h => ?_)
  refine r_iconst (v := (-1)) X 7 dX6_no_6 (by decide) rfl ?_
  refine r_icmp_ne X 12 10 h dX6_no_7 rfl rfl (fun h => ?_) (fun h => ?_)
  · refine r_aload_n X 0 13 dX6_no_12 rfl rfl rfl ?_
    refine g_X6_36 X 16 dX6_no_13 rfl ?_
    refine r_bipush (v := 7) X 18 dX6_no_16 (by decide) rfl ?_
    refine r_iload_n X 1 19 dX6_no_18 rfl rfl rfl ?_
    refine r_imul X 20 dX6_no_19 rfl ?_
    refine r_bipush (v := 6) X 22 dX6_no_20 (by decide) rfl ?_
    refine r_iadd X 23 dX6_no_22 rfl ?_
    refine r_iconst (v := 1) X 24 dX6_no_23 (by decide) rfl ?_
    obtain ⟨hin, h⟩ := h
    refine s_M8 X 25 hin dX6_no_24 rfl ?_
    refine r_nmS h (fun σ3 h => ?_)
    refine r_iconst (v := 1) X 26 dX6_no_25 (by decide) rfl ?_
    exact r_zret X hr9 hlk9 isB_1 h dX6_no_26
  · refine r_iconst (v := 0) X 11 dX6_no_10 (by decide) rfl ?_
    exact r_zret X hr9 hlk9 isB_0 h dX6_no_11
def rm_X6_about : Room := { frames := 0, cells := 0, slots := 0, locals := 0 }
theorem dX6_about_0 : decode cX6_about 0 = .ok (.iload_n 1, 1) := by decide +kernel
theorem dX6_about_1 : decode cX6_about 1 = .ok (.tableswitch 78 0 6 #[43, 48, 53, 58, 63, 68, 73], 43) := by decide +kernel
theorem dX6_about_44 : decode cX6_about 44 = .ok (.aload_n 0, 1) := by decide +kernel
theorem dX6_about_45 : decode cX6_about 45 = .ok (.getfield 100, 3) := by decide +kernel
theorem dX6_about_48 : decode cX6_about 48 = .ok (.ireturn, 1) := by decide +kernel
theorem dX6_about_49 : decode cX6_about 49 = .ok (.aload_n 0, 1) := by decide +kernel
theorem dX6_about_50 : decode cX6_about 50 = .ok (.getfield 103, 3) := by decide +kernel
theorem dX6_about_53 : decode cX6_about 53 = .ok (.ireturn, 1) := by decide +kernel
theorem dX6_about_54 : decode cX6_about 54 = .ok (.aload_n 0, 1) := by decide +kernel
theorem dX6_about_55 : decode cX6_about 55 = .ok (.getfield 93, 3) := by decide +kernel
theorem dX6_about_58 : decode cX6_about 58 = .ok (.ireturn, 1) := by decide +kernel
theorem dX6_about_59 : decode cX6_about 59 = .ok (.aload_n 0, 1) := by decide +kernel
theorem dX6_about_60 : decode cX6_about 60 = .ok (.getfield 195, 3) := by decide +kernel
theorem dX6_about_63 : decode cX6_about 63 = .ok (.ireturn, 1) := by decide +kernel
theorem dX6_about_64 : decode cX6_about 64 = .ok (.aload_n 0, 1) := by decide +kernel
theorem dX6_about_65 : decode cX6_about 65 = .ok (.getfield 204, 3) := by decide +kernel
theorem dX6_about_68 : decode cX6_about 68 = .ok (.ireturn, 1) := by decide +kernel
theorem dX6_about_69 : decode cX6_about 69 = .ok (.aload_n 0, 1) := by decide +kernel
theorem dX6_about_70 : decode cX6_about 70 = .ok (.getfield 216, 3) := by decide +kernel
theorem dX6_about_73 : decode cX6_about 73 = .ok (.ireturn, 1) := by decide +kernel
theorem dX6_about_74 : decode cX6_about 74 = .ok (.aload_n 0, 1) := by decide +kernel
theorem dX6_about_75 : decode cX6_about 75 = .ok (.getfield 9, 3) := by decide +kernel
theorem dX6_about_78 : decode cX6_about 78 = .ok (.ireturn, 1) := by decide +kernel
theorem dX6_about_79 : decode cX6_about 79 = .ok (.iconst (-1), 1) := by decide +kernel
theorem dX6_about_80 : decode cX6_about 80 = .ok (.ireturn, 1) := by decide +kernel
def wp_X6_about  (σ : St) (x1 : Int32) (Q : Int32 → St → Prop) : Prop :=
  if x1 = 0 then
  (Q (σ 0 0) σ)
  else (if x1 = 1 then
  (Q (σ 0 1) σ)
  else (if x1 = 2 then
  (Q (σ 0 2) σ)
  else (if x1 = 3 then
  (Q (σ 0 3) σ)
  else (if x1 = 4 then
  (Q (σ 0 4) σ)
  else (if x1 = 5 then
  (Q (σ 0 5) σ)
  else (if x1 = 6 then
  (Q (σ 0 6) σ)
  else (Q (-1) σ)))))))
theorem c_X6_about  {σ : St} {x1 : Int32} {Q : Int32 → St → Prop} (h : wp_X6_about σ x1 Q) : ctI l yX6_about cX6_about 2 (some .int) rm_X6_about D (wM cI cZ a) (tyW cI cZ cH) [.ref (a 0), .int x1] σ Q := by
  refine mk_I (wM_ok cI cZ a) (by decide +kernel) (Nat.le_of_ble_eq_true rfl) (fun p e s m args below meth c A X hr9 hlk9 => ?_)
  refine r_pick (lv' := [(0, .ref (a 0)), (1, .int x1)]) [0, 1] rfl ?_
  delta wp_X6_about at h
  refine r_iload_n X 1 1 dX6_about_0 rfl rfl rfl ?_
  refine r_ifs h (fun hc0 h => ?_) (fun hc0 h => ?_)
  · refine r_tabIn X 44 dX6_about_1 hc0 (by decide) (by decide) rfl rfl ?_
    refine r_aload_n X 0 45 dX6_about_44 rfl rfl rfl ?_
    refine g_X6_100 X 48 dX6_about_45 rfl ?_
    exact r_iret X hr9 hlk9 h dX6_about_48
  · refine r_ifs h (fun hc1 h => ?_) (fun hc1 h => ?_)
    · refine r_tabIn X 49 dX6_about_1 hc1 (by decide) (by decide) rfl rfl ?_
      refine r_aload_n X 0 50 dX6_about_49 rfl rfl rfl ?_
      refine g_X6_103 X 53 dX6_about_50 rfl ?_
      exact r_iret X hr9 hlk9 h dX6_about_53
    · refine r_ifs h (fun hc2 h => ?_) (fun hc2 h => ?_)
      · refine r_tabIn X 54 dX6_about_1 hc2 (by decide) (by decide) rfl rfl ?_
        refine r_aload_n X 0 55 dX6_about_54 rfl rfl rfl ?_
        refine g_X6_93 X 58 dX6_about_55 rfl ?_
        exact r_iret X hr9 hlk9 h dX6_about_58
      · refine r_ifs h (fun hc3 h => ?_) (fun hc3 h => ?_)
        · refine r_tabIn X 59 dX6_about_1 hc3 (by decide) (by decide) rfl rfl ?_
          refine r_aload_n X 0 60 dX6_about_59 rfl rfl rfl ?_
          refine g_X6_195 X 63 dX6_about_60 rfl ?_
          exact r_iret X hr9 hlk9 h dX6_about_63
        · refine r_ifs h (fun hc4 h => ?_) (fun hc4 h => ?_)
          · refine r_tabIn X 64 dX6_about_1 hc4 (by decide) (by decide) rfl rfl ?_
            refine r_aload_n X 0 65 dX6_about_64 rfl rfl rfl ?_
            refine g_X6_204 X 68 dX6_about_65 rfl ?_
            exact r_iret X hr9 hlk9 h dX6_about_68
          · refine r_ifs h (fun hc5 h => ?_) (fun hc5 h => ?_)
            · refine r_tabIn X 69 dX6_about_1 hc5 (by decide) (by decide) rfl rfl ?_
              refine r_aload_n X 0 70 dX6_about_69 rfl rfl rfl ?_
              refine g_X6_216 X 73 dX6_about_70 rfl ?_
              exact r_iret X hr9 hlk9 h dX6_about_73
            · refine r_ifs h (fun hc6 h => ?_) (fun hc6 h => ?_)
              · refine r_tabIn X 74 dX6_about_1 hc6 (by decide) (by decide) rfl rfl ?_
                refine r_aload_n X 0 75 dX6_about_74 rfl rfl rfl ?_
                refine g_X6_9 X 78 dX6_about_75 rfl ?_
                exact r_iret X hr9 hlk9 h dX6_about_78
              · refine r_tabOut X 79 dX6_about_1 (by have e0 := tn_ (k := 0) hc0 rfl; have e1 := tn_ (k := 1) hc1 rfl; have e2 := tn_ (k := 2) hc2 rfl; have e3 := tn_ (k := 3) hc3 rfl; have e4 := tn_ (k := 4) hc4 rfl; have e5 := tn_ (k := 5) hc5 rfl; have e6 := tn_ (k := 6) hc6 rfl; omega) rfl ?_
                refine r_iconst (v := (-1)) X 80 dX6_about_79 (by decide) rfl ?_
                exact r_iret X hr9 hlk9 h dX6_about_80
def rm_X6_slipOf : Room := { frames := 1, cells := 0, slots := 0, locals := 22 }
theorem dX6_slipOf_0 : decode cX6_slipOf 0 = .ok (.iload_n 1, 1) := by decide +kernel
theorem dX6_slipOf_1 : decode cX6_slipOf 1 = .ok (.iconst 0, 1) := by decide +kernel
theorem dX6_slipOf_2 : decode cX6_slipOf 2 = .ok (.aload_n 0, 1) := by decide +kernel
theorem dX6_slipOf_3 : decode cX6_slipOf 3 = .ok (.getfield 195, 3) := by decide +kernel
theorem dX6_slipOf_6 : decode cX6_slipOf 6 = .ok (.iconst 1, 1) := by decide +kernel
theorem dX6_slipOf_7 : decode cX6_slipOf 7 = .ok (.isub, 1) := by decide +kernel
theorem dX6_slipOf_8 : decode cX6_slipOf 8 = .ok (.invokestatic 96, 3) := by decide +kernel
theorem dX6_slipOf_11 : decode cX6_slipOf 11 = .ok (.ifCond .eq 13, 3) := by decide +kernel
theorem dX6_slipOf_14 : decode cX6_slipOf 14 = .ok (.iload_n 2, 1) := by decide +kernel
theorem dX6_slipOf_15 : decode cX6_slipOf 15 = .ok (.iconst 0, 1) := by decide +kernel
theorem dX6_slipOf_16 : decode cX6_slipOf 16 = .ok (.bipush 8, 2) := by decide +kernel
theorem dX6_slipOf_18 : decode cX6_slipOf 18 = .ok (.invokestatic 96, 3) := by decide +kernel
theorem dX6_slipOf_21 : decode cX6_slipOf 21 = .ok (.ifCond .ne 5, 3) := by decide +kernel
theorem dX6_slipOf_24 : decode cX6_slipOf 24 = .ok (.iconst (-1), 1) := by decide +kernel
theorem dX6_slipOf_25 : decode cX6_slipOf 25 = .ok (.ireturn, 1) := by decide +kernel
theorem dX6_slipOf_26 : decode cX6_slipOf 26 = .ok (.iload_n 2, 1) := by decide +kernel
theorem dX6_slipOf_27 : decode cX6_slipOf 27 = .ok (.bipush 8, 2) := by decide +kernel
theorem dX6_slipOf_29 : decode cX6_slipOf 29 = .ok (.if_icmp .ge 15, 3) := by decide +kernel
theorem dX6_slipOf_32 : decode cX6_slipOf 32 = .ok (.aload_n 0, 1) := by decide +kernel
theorem dX6_slipOf_33 : decode cX6_slipOf 33 = .ok (.getfield 30, 3) := by decide +kernel
theorem dX6_slipOf_36 : decode cX6_slipOf 36 = .ok (.bipush 8, 2) := by decide +kernel
theorem dX6_slipOf_38 : decode cX6_slipOf 38 = .ok (.iload_n 1, 1) := by decide +kernel
theorem dX6_slipOf_39 : decode cX6_slipOf 39 = .ok (.imul, 1) := by decide +kernel
theorem dX6_slipOf_40 : decode cX6_slipOf 40 = .ok (.iload_n 2, 1) := by decide +kernel
theorem dX6_slipOf_41 : decode cX6_slipOf 41 = .ok (.iadd, 1) := by decide +kernel
theorem dX6_slipOf_42 : decode cX6_slipOf 42 = .ok (.iaload, 1) := by decide +kernel
theorem dX6_slipOf_43 : decode cX6_slipOf 43 = .ok (.ireturn, 1) := by decide +kernel
theorem dX6_slipOf_44 : decode cX6_slipOf 44 = .ok (.iconst 0, 1) := by decide +kernel
theorem dX6_slipOf_45 : decode cX6_slipOf 45 = .ok (.istore_n 3, 1) := by decide +kernel
theorem dX6_slipOf_46 : decode cX6_slipOf 46 = .ok (.iload_n 3, 1) := by decide +kernel
theorem dX6_slipOf_47 : decode cX6_slipOf 47 = .ok (.iload_n 1, 1) := by decide +kernel
theorem dX6_slipOf_48 : decode cX6_slipOf 48 = .ok (.if_icmp .ge 38, 3) := by decide +kernel
theorem dX6_slipOf_51 : decode cX6_slipOf 51 = .ok (.aload_n 0, 1) := by decide +kernel
theorem dX6_slipOf_52 : decode cX6_slipOf 52 = .ok (.getfield 30, 3) := by decide +kernel
theorem dX6_slipOf_55 : decode cX6_slipOf 55 = .ok (.bipush 8, 2) := by decide +kernel
theorem dX6_slipOf_57 : decode cX6_slipOf 57 = .ok (.iload_n 3, 1) := by decide +kernel
theorem dX6_slipOf_58 : decode cX6_slipOf 58 = .ok (.imul, 1) := by decide +kernel
theorem dX6_slipOf_59 : decode cX6_slipOf 59 = .ok (.bipush 6, 2) := by decide +kernel
theorem dX6_slipOf_61 : decode cX6_slipOf 61 = .ok (.iadd, 1) := by decide +kernel
theorem dX6_slipOf_62 : decode cX6_slipOf 62 = .ok (.iaload, 1) := by decide +kernel
theorem dX6_slipOf_63 : decode cX6_slipOf 63 = .ok (.aload_n 0, 1) := by decide +kernel
theorem dX6_slipOf_64 : decode cX6_slipOf 64 = .ok (.getfield 30, 3) := by decide +kernel
theorem dX6_slipOf_67 : decode cX6_slipOf 67 = .ok (.bipush 8, 2) := by decide +kernel
theorem dX6_slipOf_69 : decode cX6_slipOf 69 = .ok (.iload_n 1, 1) := by decide +kernel
theorem dX6_slipOf_70 : decode cX6_slipOf 70 = .ok (.imul, 1) := by decide +kernel
theorem dX6_slipOf_71 : decode cX6_slipOf 71 = .ok (.bipush 6, 2) := by decide +kernel
theorem dX6_slipOf_73 : decode cX6_slipOf 73 = .ok (.iadd, 1) := by decide +kernel
theorem dX6_slipOf_74 : decode cX6_slipOf 74 = .ok (.iaload, 1) := by decide +kernel
theorem dX6_slipOf_75 : decode cX6_slipOf 75 = .ok (.if_icmp .le 5, 3) := by decide +kernel
theorem dX6_slipOf_78 : decode cX6_slipOf 78 = .ok (.iconst 1, 1) := by decide +kernel
theorem dX6_slipOf_79 : decode cX6_slipOf 79 = .ok (.ireturn, 1) := by decide +kernel
theorem dX6_slipOf_80 : decode cX6_slipOf 80 = .ok (.iinc 3 1, 3) := by decide +kernel
theorem dX6_slipOf_83 : decode cX6_slipOf 83 = .ok (.goto (-37), 3) := by decide +kernel
theorem dX6_slipOf_86 : decode cX6_slipOf 86 = .ok (.iconst 0, 1) := by decide +kernel
theorem dX6_slipOf_87 : decode cX6_slipOf 87 = .ok (.ireturn, 1) := by decide +kernel
def b_X6_slipOf_46  (Q : Int32 → St → Prop) (rec46 : Int32 → Int32 → St → Prop) (v1 : Int32) (v3 : Int32) (σ : St) : Prop :=
  if v3 < v1 then
  (vp_in (((8 : Int32) * v3) + 6) 3208 ∧
  (vp_in (((8 : Int32) * v1) + 6) 3208 ∧
  (if (σ 6 (ix (((8 : Int32) * v1) + 6))) < (σ 6 (ix (((8 : Int32) * v3) + 6))) then
  (Q 1 σ)
  else (rec46 v1 (v3 + 1) σ))))
  else (Q 0 σ)
def lp_X6_slipOf_46  (Q : Int32 → St → Prop) (n9 : Nat) : Int32 → Int32 → St → Prop :=
  Nat.rec (fun _ _ _ => False) (fun _ rec9 => b_X6_slipOf_46  Q  rec9) n9
theorem wk_X6_slipOf_46 (X : cx p s m args c cX6_slipOf 4 RX6 D (wM cI cZ a) A (tyW cI cZ cH)) (hr9 : meth.sig.returnType = (some .int)) (hlk9 : meth.locks = false)  {Q : Int32 → St → Prop} : ∀ (n9 : Nat) {v1 : Int32} {v3 : Int32} {σ : St}, lp_X6_slipOf_46 Q n9 v1 v3 σ → go p l e rm_X6_slipOf s m args below meth c D (wM cI cZ a) A 0 0 (MQ below (va_Qi Q (atw D (wM cI cZ a) (tyW cI cZ cH) A) A) args s 0 0 A) 4 46 [(0, .ref (a 0)), (1, .int v1), (3, .int v3)] [] σ := by
  intro n9
  induction n9 with
  | zero => intro v1 v3 σ h; exact h.elim
  | succ n9 ih =>
    intro v1 v3 σ h
    have hrec46 := fun v1 v3 σ h => ih (σ := σ) (v1 := v1) (v3 := v3) h
    replace h : b_X6_slipOf_46 Q (lp_X6_slipOf_46 Q n9) v1 v3 σ := h
    delta b_X6_slipOf_46 at h
    refine r_iload_n X 2 47 dX6_slipOf_46 rfl rfl rfl ?_
    refine r_iload_n X 1 48 dX6_slipOf_47 rfl rfl rfl ?_
    refine r_icmp_ge X 86 51 h dX6_slipOf_48 rfl rfl (fun h => ?_) (fun h => ?_)
    · refine r_iconst (v := 0) X 87 dX6_slipOf_86 (by decide) rfl ?_
      exact r_iret X hr9 hlk9 h dX6_slipOf_87
    · refine r_aload_n X 0 52 dX6_slipOf_51 rfl rfl rfl ?_
      refine g_X6_30 X 55 dX6_slipOf_52 rfl ?_
      refine r_bipush (v := 8) X 57 dX6_slipOf_55 (by decide) rfl ?_
      refine r_iload_n X 2 58 dX6_slipOf_57 rfl rfl rfl ?_
      refine r_imul X 59 dX6_slipOf_58 rfl ?_
      refine r_bipush (v := 6) X 61 dX6_slipOf_59 (by decide) rfl ?_
      refine r_iadd X 62 dX6_slipOf_61 rfl ?_
      obtain ⟨hin, h⟩ := h
      refine l_Mk X (Or.inl rfl) 63 hin dX6_slipOf_62 rfl ?_
      refine r_aload_n X 0 64 dX6_slipOf_63 rfl rfl rfl ?_
      refine g_X6_30 X 67 dX6_slipOf_64 rfl ?_
      refine r_bipush (v := 8) X 69 dX6_slipOf_67 (by decide) rfl ?_
      refine r_iload_n X 1 70 dX6_slipOf_69 rfl rfl rfl ?_
      refine r_imul X 71 dX6_slipOf_70 rfl ?_
      refine r_bipush (v := 6) X 73 dX6_slipOf_71 (by decide) rfl ?_
      refine r_iadd X 74 dX6_slipOf_73 rfl ?_
      obtain ⟨hin, h⟩ := h
      refine l_Mk X (Or.inl rfl) 75 hin dX6_slipOf_74 rfl ?_
      refine r_icmp_le X 80 78 h dX6_slipOf_75 rfl rfl (fun h => ?_) (fun h => ?_)
      · refine r_iinc (d := 1) X 2 83 [(3, .int (v3 + 1)), (0, .ref (a 0)), (1, .int v1)] dX6_slipOf_80 rfl (by decide) (by decide) rfl rfl ?_
        refine r_goto X 46 dX6_slipOf_83 rfl ?_
        refine r_pick (lv' := [(0, .ref (a 0)), (1, .int v1), (3, .int (v3 + 1))]) [1, 2, 0] rfl ?_
        exact hrec46 _ _ _ h
      · refine r_iconst (v := 1) X 79 dX6_slipOf_78 (by decide) rfl ?_
        exact r_iret X hr9 hlk9 h dX6_slipOf_79
def wp_X6_slipOf  (σ : St) (x1 : Int32) (x2 : Int32) (Q : Int32 → St → Prop) : Prop :=
  wp_X6_isIn σ x1 0 ((σ 0 3) - 1) (fun y2 σ1 =>
  if y2 = 0 then
  (Q (-1) σ1)
  else (wp_X6_isIn σ1 x2 0 8 (fun y4 σ3 =>
  if y4 = 0 then
  (Q (-1) σ3)
  else (if x2 < 8 then
  (vp_in (((8 : Int32) * x1) + x2) 3208 ∧
  (Q (σ3 6 (ix (((8 : Int32) * x1) + x2))) σ3))
  else (∃ n9 : Nat, lp_X6_slipOf_46 Q n9 x1 0 σ3)))))
theorem c_X6_slipOf  {σ : St} {x1 : Int32} {x2 : Int32} {Q : Int32 → St → Prop} (h : wp_X6_slipOf σ x1 x2 Q) : ctI l yX6_slipOf cX6_slipOf 4 (some .int) rm_X6_slipOf D (wM cI cZ a) (tyW cI cZ cH) [.ref (a 0), .int x1, .int x2] σ Q := by
  refine mk_I (wM_ok cI cZ a) (by decide +kernel) (Nat.le_of_ble_eq_true rfl) (fun p e s m args below meth c A X hr9 hlk9 => ?_)
  refine r_pick (lv' := [(0, .ref (a 0)), (1, .int x1), (2, .int x2)]) [0, 1, 2] rfl ?_
  delta wp_X6_slipOf at h
  refine r_iload_n X 1 1 dX6_slipOf_0 rfl rfl rfl ?_
  refine r_iconst (v := 0) X 2 dX6_slipOf_1 (by decide) rfl ?_
  refine r_aload_n X 0 3 dX6_slipOf_2 rfl rfl rfl ?_
  refine g_X6_195 X 6 dX6_slipOf_3 rfl ?_
  refine r_iconst (v := 1) X 7 dX6_slipOf_6 (by decide) rfl ?_
  refine r_isub X 8 dX6_slipOf_7 rfl ?_
  refine r_callSI (As := [.int x1, .int 0, .int ((σ 0 3) - 1)]) (rest := []) X 11 (c_X6_isIn h) ml_X6_96 lk_X6_isIn sy_X6_isIn rfl rfl (Nat.le_of_ble_eq_true rfl) ⟨rfl, rfl, ⟨Nat.le_of_ble_eq_true rfl, Nat.le_of_ble_eq_true rfl⟩, Nat.le_of_ble_eq_true rfl, Nat.le_of_ble_eq_true rfl⟩ dX6_slipOf_8 rfl (fun y2 σ1 h => ?_)
  obtain ⟨hb_y2, h⟩ := h
  refine r_if_eq X 24 14 h dX6_slipOf_11 rfl rfl (fun h => ?_) (fun h => ?_)
  · refine r_iconst (v := (-1)) X 25 dX6_slipOf_24 (by decide) rfl ?_
    exact r_iret X hr9 hlk9 h dX6_slipOf_25
  · refine r_iload_n X 2 15 dX6_slipOf_14 rfl rfl rfl ?_
    refine r_iconst (v := 0) X 16 dX6_slipOf_15 (by decide) rfl ?_
    refine r_bipush (v := 8) X 18 dX6_slipOf_16 (by decide) rfl ?_
    refine r_callSI (As := [.int x2, .int 0, .int 8]) (rest := []) X 21 (c_X6_isIn h) ml_X6_96 lk_X6_isIn sy_X6_isIn rfl rfl (Nat.le_of_ble_eq_true rfl) ⟨rfl, rfl, ⟨Nat.le_of_ble_eq_true rfl, Nat.le_of_ble_eq_true rfl⟩, Nat.le_of_ble_eq_true rfl, Nat.le_of_ble_eq_true rfl⟩ dX6_slipOf_18 rfl (fun y4 σ3 h => ?_)
    obtain ⟨hb_y4, h⟩ := h
    refine r_if_ne X 26 24 h dX6_slipOf_21 rfl rfl (fun h => ?_) (fun h => ?_)
    · refine r_iload_n X 2 27 dX6_slipOf_26 rfl rfl rfl ?_
      refine r_bipush (v := 8) X 29 dX6_slipOf_27 (by decide) rfl ?_
      refine r_icmp_ge X 44 32 h dX6_slipOf_29 rfl rfl (fun h => ?_) (fun h => ?_)
      · refine r_iconst (v := 0) X 45 dX6_slipOf_44 (by decide) rfl ?_
        refine r_istore_n X 46 [(3, .int 0), (0, .ref (a 0)), (1, .int x1), (2, .int x2)] dX6_slipOf_45 rfl (by decide) rfl rfl ?_
        refine r_pick (lv' := [(0, .ref (a 0)), (1, .int x1), (3, .int 0)]) [1, 2, 0] rfl ?_
        obtain ⟨n9, h⟩ := h
        exact wk_X6_slipOf_46 X hr9 hlk9 n9 h
      · refine r_aload_n X 0 33 dX6_slipOf_32 rfl rfl rfl ?_
        refine g_X6_30 X 36 dX6_slipOf_33 rfl ?_
        refine r_bipush (v := 8) X 38 dX6_slipOf_36 (by decide) rfl ?_
        refine r_iload_n X 1 39 dX6_slipOf_38 rfl rfl rfl ?_
        refine r_imul X 40 dX6_slipOf_39 rfl ?_
        refine r_iload_n X 2 41 dX6_slipOf_40 rfl rfl rfl ?_
        refine r_iadd X 42 dX6_slipOf_41 rfl ?_
        obtain ⟨hin, h⟩ := h
        refine l_Mk X (Or.inl rfl) 43 hin dX6_slipOf_42 rfl ?_
        exact r_iret X hr9 hlk9 h dX6_slipOf_43
    · refine r_iconst (v := (-1)) X 25 dX6_slipOf_24 (by decide) rfl ?_
      exact r_iret X hr9 hlk9 h dX6_slipOf_25
def rm_X6_bits : Room := { frames := 0, cells := 0, slots := 0, locals := 0 }
theorem dX6_bits_0 : decode cX6_bits 0 = .ok (.iconst 0, 1) := by decide +kernel
theorem dX6_bits_1 : decode cX6_bits 1 = .ok (.istore_n 2, 1) := by decide +kernel
theorem dX6_bits_2 : decode cX6_bits 2 = .ok (.iconst 0, 1) := by decide +kernel
theorem dX6_bits_3 : decode cX6_bits 3 = .ok (.istore_n 3, 1) := by decide +kernel
theorem dX6_bits_4 : decode cX6_bits 4 = .ok (.iload_n 3, 1) := by decide +kernel
theorem dX6_bits_5 : decode cX6_bits 5 = .ok (.bipush 31, 2) := by decide +kernel
theorem dX6_bits_7 : decode cX6_bits 7 = .ok (.if_icmp .ge 17, 3) := by decide +kernel
theorem dX6_bits_10 : decode cX6_bits 10 = .ok (.iload_n 2, 1) := by decide +kernel
theorem dX6_bits_11 : decode cX6_bits 11 = .ok (.iload_n 1, 1) := by decide +kernel
theorem dX6_bits_12 : decode cX6_bits 12 = .ok (.iload_n 3, 1) := by decide +kernel
theorem dX6_bits_13 : decode cX6_bits 13 = .ok (.ishr, 1) := by decide +kernel
theorem dX6_bits_14 : decode cX6_bits 14 = .ok (.iconst 1, 1) := by decide +kernel
theorem dX6_bits_15 : decode cX6_bits 15 = .ok (.iand, 1) := by decide +kernel
theorem dX6_bits_16 : decode cX6_bits 16 = .ok (.iadd, 1) := by decide +kernel
theorem dX6_bits_17 : decode cX6_bits 17 = .ok (.istore_n 2, 1) := by decide +kernel
theorem dX6_bits_18 : decode cX6_bits 18 = .ok (.iinc 3 1, 3) := by decide +kernel
theorem dX6_bits_21 : decode cX6_bits 21 = .ok (.goto (-17), 3) := by decide +kernel
theorem dX6_bits_24 : decode cX6_bits 24 = .ok (.iload_n 2, 1) := by decide +kernel
theorem dX6_bits_25 : decode cX6_bits 25 = .ok (.ireturn, 1) := by decide +kernel
def b_X6_bits_4  (Q : Int32 → St → Prop) (rec4 : Int32 → Int32 → Int32 → St → Prop) (v1 : Int32) (v2 : Int32) (v3 : Int32) (σ : St) : Prop :=
  if v3 < 31 then
  (nm ((v2 + ((v1 >>> (v3 &&& 31)) &&& 1))) (fun z1 =>
  rec4 v1 z1 (v3 + 1) σ))
  else (Q v2 σ)
def lp_X6_bits_4  (Q : Int32 → St → Prop) (n9 : Nat) : Int32 → Int32 → Int32 → St → Prop :=
  Nat.rec (fun _ _ _ _ => False) (fun _ rec9 => b_X6_bits_4  Q  rec9) n9
theorem wk_X6_bits_4 (X : cx p s m args c cX6_bits 4 RX6 D (wM cI cZ a) A (tyW cI cZ cH)) (hr9 : meth.sig.returnType = (some .int)) (hlk9 : meth.locks = false)  {Q : Int32 → St → Prop} : ∀ (n9 : Nat) {v1 : Int32} {v2 : Int32} {v3 : Int32} {σ : St}, lp_X6_bits_4 Q n9 v1 v2 v3 σ → go p l e rm_X6_bits s m args below meth c D (wM cI cZ a) A 0 0 (MQ below (va_Qi Q (atw D (wM cI cZ a) (tyW cI cZ cH) A) A) args s 0 0 A) 4 4 [(1, .int v1), (2, .int v2), (3, .int v3)] [] σ := by
  intro n9
  induction n9 with
  | zero => intro v1 v2 v3 σ h; exact h.elim
  | succ n9 ih =>
    intro v1 v2 v3 σ h
    have hrec4 := fun v1 v2 v3 σ h => ih (σ := σ) (v1 := v1) (v2 := v2) (v3 := v3) h
    replace h : b_X6_bits_4 Q (lp_X6_bits_4 Q n9) v1 v2 v3 σ := h
    delta b_X6_bits_4 at h
    refine r_iload_n X 2 5 dX6_bits_4 rfl rfl rfl ?_
    refine r_bipush (v := 31) X 7 dX6_bits_5 (by decide) rfl ?_
    refine r_icmp_ge X 24 10 h dX6_bits_7 rfl rfl (fun h => ?_) (fun h => ?_)
    · refine r_iload_n X 1 25 dX6_bits_24 rfl rfl rfl ?_
      exact r_iret X hr9 hlk9 h dX6_bits_25
    · refine r_iload_n X 1 11 dX6_bits_10 rfl rfl rfl ?_
      refine r_iload_n X 0 12 dX6_bits_11 rfl rfl rfl ?_
      refine r_iload_n X 2 13 dX6_bits_12 rfl rfl rfl ?_
      refine r_ishr X 14 dX6_bits_13 rfl ?_
      refine r_iconst (v := 1) X 15 dX6_bits_14 (by decide) rfl ?_
      refine r_iand X 16 dX6_bits_15 rfl ?_
      refine r_iadd X 17 dX6_bits_16 rfl ?_
      refine r_istore_nN X 18 (fun z1 => [(2, .int z1), (1, .int v1), (3, .int v3)]) h dX6_bits_17 rfl (by decide) (fun _ => rfl) rfl (fun z1 h => ?_)
      refine r_iinc (d := 1) X 2 21 [(3, .int (v3 + 1)), (2, .int z1), (1, .int v1)] dX6_bits_18 rfl (by decide) (by decide) rfl rfl ?_
      refine r_goto X 4 dX6_bits_21 rfl ?_
      refine r_pick (lv' := [(1, .int v1), (2, .int z1), (3, .int (v3 + 1))]) [2, 1, 0] rfl ?_
      exact hrec4 _ _ _ _ h
def wp_X6_bits  (σ : St) (x1 : Int32) (Q : Int32 → St → Prop) : Prop :=
  ∃ n9 : Nat, lp_X6_bits_4 Q n9 x1 0 0 σ
theorem c_X6_bits  {σ : St} {x1 : Int32} {Q : Int32 → St → Prop} (h : wp_X6_bits σ x1 Q) : ctI l yX6_bits cX6_bits 4 (some .int) rm_X6_bits D (wM cI cZ a) (tyW cI cZ cH) [.ref (a 0), .int x1] σ Q := by
  refine mk_I (wM_ok cI cZ a) (by decide +kernel) (Nat.le_of_ble_eq_true rfl) (fun p e s m args below meth c A X hr9 hlk9 => ?_)
  refine r_pick (lv' := [(0, .ref (a 0)), (1, .int x1)]) [0, 1] rfl ?_
  delta wp_X6_bits at h
  refine r_iconst (v := 0) X 1 dX6_bits_0 (by decide) rfl ?_
  refine r_istore_n X 2 [(2, .int 0), (0, .ref (a 0)), (1, .int x1)] dX6_bits_1 rfl (by decide) rfl rfl ?_
  refine r_iconst (v := 0) X 3 dX6_bits_2 (by decide) rfl ?_
  refine r_istore_n X 4 [(3, .int 0), (2, .int 0), (0, .ref (a 0)), (1, .int x1)] dX6_bits_3 rfl (by decide) rfl rfl ?_
  refine r_pick (lv' := [(1, .int x1), (2, .int 0), (3, .int 0)]) [3, 1, 0] rfl ?_
  obtain ⟨n9, h⟩ := h
  exact wk_X6_bits_4 X hr9 hlk9 n9 h
def rm_X6_where : Room := { frames := 7, cells := 0, slots := 0, locals := 172 }
theorem dX6_where_0 : decode cX6_where 0 = .ok (.iload_n 1, 1) := by decide +kernel
theorem dX6_where_1 : decode cX6_where 1 = .ok (.iconst 0, 1) := by decide +kernel
theorem dX6_where_2 : decode cX6_where 2 = .ok (.aload_n 0, 1) := by decide +kernel
theorem dX6_where_3 : decode cX6_where 3 = .ok (.getfield 93, 3) := by decide +kernel
theorem dX6_where_6 : decode cX6_where 6 = .ok (.iconst 1, 1) := by decide +kernel
theorem dX6_where_7 : decode cX6_where 7 = .ok (.isub, 1) := by decide +kernel
theorem dX6_where_8 : decode cX6_where 8 = .ok (.invokestatic 96, 3) := by decide +kernel
theorem dX6_where_11 : decode cX6_where 11 = .ok (.ifCond .eq 14, 3) := by decide +kernel
theorem dX6_where_14 : decode cX6_where 14 = .ok (.iload 4, 2) := by decide +kernel
theorem dX6_where_16 : decode cX6_where 16 = .ok (.iconst 0, 1) := by decide +kernel
theorem dX6_where_17 : decode cX6_where 17 = .ok (.bipush 11, 2) := by decide +kernel
theorem dX6_where_19 : decode cX6_where 19 = .ok (.invokestatic 96, 3) := by decide +kernel
theorem dX6_where_22 : decode cX6_where 22 = .ok (.ifCond .ne 5, 3) := by decide +kernel
theorem dX6_where_25 : decode cX6_where 25 = .ok (.iconst (-1), 1) := by decide +kernel
theorem dX6_where_26 : decode cX6_where 26 = .ok (.ireturn, 1) := by decide +kernel
theorem dX6_where_27 : decode cX6_where 27 = .ok (.aload_n 0, 1) := by decide +kernel
theorem dX6_where_28 : decode cX6_where 28 = .ok (.iload_n 2, 1) := by decide +kernel
theorem dX6_where_29 : decode cX6_where 29 = .ok (.iload_n 3, 1) := by decide +kernel
theorem dX6_where_30 : decode cX6_where 30 = .ok (.invokevirtual 199, 3) := by decide +kernel
theorem dX6_where_33 : decode cX6_where 33 = .ok (.iload 4, 2) := by decide +kernel
theorem dX6_where_35 : decode cX6_where 35 = .ok (.tableswitch 153 0 10 #[57, 64, 71, 78, 85, 96, 107, 114, 121, 136, 147], 57) := by decide +kernel
theorem dX6_where_92 : decode cX6_where 92 = .ok (.aload_n 0, 1) := by decide +kernel
theorem dX6_where_93 : decode cX6_where 93 = .ok (.getfield 45, 3) := by decide +kernel
theorem dX6_where_96 : decode cX6_where 96 = .ok (.iload_n 1, 1) := by decide +kernel
theorem dX6_where_97 : decode cX6_where 97 = .ok (.iaload, 1) := by decide +kernel
theorem dX6_where_98 : decode cX6_where 98 = .ok (.ireturn, 1) := by decide +kernel
theorem dX6_where_99 : decode cX6_where 99 = .ok (.aload_n 0, 1) := by decide +kernel
theorem dX6_where_100 : decode cX6_where 100 = .ok (.getfield 48, 3) := by decide +kernel
theorem dX6_where_103 : decode cX6_where 103 = .ok (.iload_n 1, 1) := by decide +kernel
theorem dX6_where_104 : decode cX6_where 104 = .ok (.iaload, 1) := by decide +kernel
theorem dX6_where_105 : decode cX6_where 105 = .ok (.ireturn, 1) := by decide +kernel
theorem dX6_where_106 : decode cX6_where 106 = .ok (.aload_n 0, 1) := by decide +kernel
theorem dX6_where_107 : decode cX6_where 107 = .ok (.getfield 51, 3) := by decide +kernel
theorem dX6_where_110 : decode cX6_where 110 = .ok (.iload_n 1, 1) := by decide +kernel
theorem dX6_where_111 : decode cX6_where 111 = .ok (.iaload, 1) := by decide +kernel
theorem dX6_where_112 : decode cX6_where 112 = .ok (.ireturn, 1) := by decide +kernel
theorem dX6_where_113 : decode cX6_where 113 = .ok (.aload_n 0, 1) := by decide +kernel
theorem dX6_where_114 : decode cX6_where 114 = .ok (.getfield 54, 3) := by decide +kernel
theorem dX6_where_117 : decode cX6_where 117 = .ok (.iload_n 1, 1) := by decide +kernel
theorem dX6_where_118 : decode cX6_where 118 = .ok (.iaload, 1) := by decide +kernel
theorem dX6_where_119 : decode cX6_where 119 = .ok (.ireturn, 1) := by decide +kernel
theorem dX6_where_120 : decode cX6_where 120 = .ok (.aload_n 0, 1) := by decide +kernel
theorem dX6_where_121 : decode cX6_where 121 = .ok (.getfield 45, 3) := by decide +kernel
theorem dX6_where_124 : decode cX6_where 124 = .ok (.aload_n 0, 1) := by decide +kernel
theorem dX6_where_125 : decode cX6_where 125 = .ok (.iload_n 1, 1) := by decide +kernel
theorem dX6_where_126 : decode cX6_where 126 = .ok (.invokevirtual 223, 3) := by decide +kernel
theorem dX6_where_129 : decode cX6_where 129 = .ok (.iaload, 1) := by decide +kernel
theorem dX6_where_130 : decode cX6_where 130 = .ok (.ireturn, 1) := by decide +kernel
theorem dX6_where_131 : decode cX6_where 131 = .ok (.aload_n 0, 1) := by decide +kernel
theorem dX6_where_132 : decode cX6_where 132 = .ok (.getfield 48, 3) := by decide +kernel
theorem dX6_where_135 : decode cX6_where 135 = .ok (.aload_n 0, 1) := by decide +kernel
theorem dX6_where_136 : decode cX6_where 136 = .ok (.iload_n 1, 1) := by decide +kernel
theorem dX6_where_137 : decode cX6_where 137 = .ok (.invokevirtual 223, 3) := by decide +kernel
theorem dX6_where_140 : decode cX6_where 140 = .ok (.iaload, 1) := by decide +kernel
theorem dX6_where_141 : decode cX6_where 141 = .ok (.ireturn, 1) := by decide +kernel
theorem dX6_where_142 : decode cX6_where 142 = .ok (.aload_n 0, 1) := by decide +kernel
theorem dX6_where_143 : decode cX6_where 143 = .ok (.getfield 57, 3) := by decide +kernel
theorem dX6_where_146 : decode cX6_where 146 = .ok (.iload_n 1, 1) := by decide +kernel
theorem dX6_where_147 : decode cX6_where 147 = .ok (.iaload, 1) := by decide +kernel
theorem dX6_where_148 : decode cX6_where 148 = .ok (.ireturn, 1) := by decide +kernel
theorem dX6_where_149 : decode cX6_where 149 = .ok (.aload_n 0, 1) := by decide +kernel
theorem dX6_where_150 : decode cX6_where 150 = .ok (.getfield 60, 3) := by decide +kernel
theorem dX6_where_153 : decode cX6_where 153 = .ok (.iload_n 1, 1) := by decide +kernel
theorem dX6_where_154 : decode cX6_where 154 = .ok (.iaload, 1) := by decide +kernel
theorem dX6_where_155 : decode cX6_where 155 = .ok (.ireturn, 1) := by decide +kernel
theorem dX6_where_156 : decode cX6_where 156 = .ok (.aload_n 0, 1) := by decide +kernel
theorem dX6_where_157 : decode cX6_where 157 = .ok (.getfield 63, 3) := by decide +kernel
theorem dX6_where_160 : decode cX6_where 160 = .ok (.iload_n 1, 1) := by decide +kernel
theorem dX6_where_161 : decode cX6_where 161 = .ok (.baload, 1) := by decide +kernel
theorem dX6_where_162 : decode cX6_where 162 = .ok (.ifCond .eq 7, 3) := by decide +kernel
theorem dX6_where_165 : decode cX6_where 165 = .ok (.iconst 1, 1) := by decide +kernel
theorem dX6_where_166 : decode cX6_where 166 = .ok (.goto 4, 3) := by decide +kernel
theorem dX6_where_169 : decode cX6_where 169 = .ok (.iconst 0, 1) := by decide +kernel
theorem dX6_where_170 : decode cX6_where 170 = .ok (.ireturn, 1) := by decide +kernel
theorem dX6_where_171 : decode cX6_where 171 = .ok (.aload_n 0, 1) := by decide +kernel
theorem dX6_where_172 : decode cX6_where 172 = .ok (.aload_n 0, 1) := by decide +kernel
theorem dX6_where_173 : decode cX6_where 173 = .ok (.getfield 66, 3) := by decide +kernel
theorem dX6_where_176 : decode cX6_where 176 = .ok (.iload_n 1, 1) := by decide +kernel
theorem dX6_where_177 : decode cX6_where 177 = .ok (.iaload, 1) := by decide +kernel
theorem dX6_where_178 : decode cX6_where 178 = .ok (.invokevirtual 226, 3) := by decide +kernel
theorem dX6_where_181 : decode cX6_where 181 = .ok (.ireturn, 1) := by decide +kernel
theorem dX6_where_182 : decode cX6_where 182 = .ok (.aload_n 0, 1) := by decide +kernel
theorem dX6_where_183 : decode cX6_where 183 = .ok (.iload_n 1, 1) := by decide +kernel
theorem dX6_where_184 : decode cX6_where 184 = .ok (.invokevirtual 168, 3) := by decide +kernel
theorem dX6_where_187 : decode cX6_where 187 = .ok (.ireturn, 1) := by decide +kernel
theorem dX6_where_188 : decode cX6_where 188 = .ok (.aload_n 0, 1) := by decide +kernel
theorem dX6_where_189 : decode cX6_where 189 = .ok (.getfield 69, 3) := by decide +kernel
theorem dX6_where_192 : decode cX6_where 192 = .ok (.iload_n 1, 1) := by decide +kernel
theorem dX6_where_193 : decode cX6_where 193 = .ok (.iaload, 1) := by decide +kernel
theorem dX6_where_194 : decode cX6_where 194 = .ok (.ireturn, 1) := by decide +kernel
def wp_X6_where  (σ : St) (x1 : Int32) (x2 : Int32) (x3 : Int32) (x4 : Int32) (Q : Int32 → St → Prop) : Prop :=
  wp_X6_isIn σ x1 0 ((σ 0 2) - 1) (fun y2 σ1 =>
  if y2 = 0 then
  (Q (-1) σ1)
  else (wp_X6_isIn σ1 x4 0 11 (fun y4 σ3 =>
  if y4 = 0 then
  (Q (-1) σ3)
  else (wp_X6_goOver σ3 x2 x3 (fun σ5 =>
  if x4 = 0 then
  (vp_in x1 60 ∧
  (Q (σ5 9 (ix x1)) σ5))
  else (if x4 = 1 then
  (vp_in x1 60 ∧
  (Q (σ5 10 (ix x1)) σ5))
  else (if x4 = 2 then
  (vp_in x1 60 ∧
  (Q (σ5 11 (ix x1)) σ5))
  else (if x4 = 3 then
  (vp_in x1 60 ∧
  (Q (σ5 12 (ix x1)) σ5))
  else (if x4 = 4 then
  (wp_X6_outermost σ5 x1 (fun y7 σ6 =>
  vp_in y7 60 ∧
  (Q (σ6 9 (ix y7)) σ6)))
  else (if x4 = 5 then
  (wp_X6_outermost σ5 x1 (fun y9 σ8 =>
  vp_in y9 60 ∧
  (Q (σ8 10 (ix y9)) σ8)))
  else (if x4 = 6 then
  (vp_in x1 60 ∧
  (Q (σ5 13 (ix x1)) σ5))
  else (if x4 = 7 then
  (vp_in x1 60 ∧
  (Q (σ5 14 (ix x1)) σ5))
  else (if x4 = 8 then
  (vp_in x1 60 ∧
  (if (σ5 15 (ix x1)) = 0 then
  (Q 0 σ5)
  else (Q 1 σ5)))
  else (if x4 = 9 then
  (vp_in x1 60 ∧
  (wp_X6_bits σ5 (σ5 16 (ix x1)) (fun y11 σ10 =>
  Q y11 σ10)))
  else (if x4 = 10 then
  (wp_X6_inside σ5 x1 (fun y13 σ12 =>
  Q y13 σ12))
  else (vp_in x1 60 ∧
  (Q (σ5 17 (ix x1)) σ5)))))))))))))))))
theorem c_X6_where  {σ : St} {x1 : Int32} {x2 : Int32} {x3 : Int32} {x4 : Int32} {Q : Int32 → St → Prop} (h : wp_X6_where σ x1 x2 x3 x4 Q) : ctI l yX6_where cX6_where 5 (some .int) rm_X6_where D (wM cI cZ a) (tyW cI cZ cH) [.ref (a 0), .int x1, .int x2, .int x3, .int x4] σ Q := by
  refine mk_I (wM_ok cI cZ a) (by decide +kernel) (Nat.le_of_ble_eq_true rfl) (fun p e s m args below meth c A X hr9 hlk9 => ?_)
  refine r_pick (lv' := [(0, .ref (a 0)), (1, .int x1), (2, .int x2), (3, .int x3), (4, .int x4)]) [0, 1, 2, 3, 4] rfl ?_
  delta wp_X6_where at h
  refine r_iload_n X 1 1 dX6_where_0 rfl rfl rfl ?_
  refine r_iconst (v := 0) X 2 dX6_where_1 (by decide) rfl ?_
  refine r_aload_n X 0 3 dX6_where_2 rfl rfl rfl ?_
  refine g_X6_93 X 6 dX6_where_3 rfl ?_
  refine r_iconst (v := 1) X 7 dX6_where_6 (by decide) rfl ?_
  refine r_isub X 8 dX6_where_7 rfl ?_
  refine r_callSI (As := [.int x1, .int 0, .int ((σ 0 2) - 1)]) (rest := []) X 11 (c_X6_isIn h) ml_X6_96 lk_X6_isIn sy_X6_isIn rfl rfl (Nat.le_of_ble_eq_true rfl) ⟨rfl, rfl, ⟨Nat.le_of_ble_eq_true rfl, Nat.le_of_ble_eq_true rfl⟩, Nat.le_of_ble_eq_true rfl, Nat.le_of_ble_eq_true rfl⟩ dX6_where_8 rfl (fun y2 σ1 h => ?_)
  obtain ⟨hb_y2, h⟩ := h
  refine r_if_eq X 25 14 h dX6_where_11 rfl rfl (fun h => ?_) (fun h => ?_)
  · refine r_iconst (v := (-1)) X 26 dX6_where_25 (by decide) rfl ?_
    exact r_iret X hr9 hlk9 h dX6_where_26
  · refine r_iload X 4 16 dX6_where_14 rfl rfl ?_
    refine r_iconst (v := 0) X 17 dX6_where_16 (by decide) rfl ?_
    refine r_bipush (v := 11) X 19 dX6_where_17 (by decide) rfl ?_
    refine r_callSI (As := [.int x4, .int 0, .int 11]) (rest := []) X 22 (c_X6_isIn h) ml_X6_96 lk_X6_isIn sy_X6_isIn rfl rfl (Nat.le_of_ble_eq_true rfl) ⟨rfl, rfl, ⟨Nat.le_of_ble_eq_true rfl, Nat.le_of_ble_eq_true rfl⟩, Nat.le_of_ble_eq_true rfl, Nat.le_of_ble_eq_true rfl⟩ dX6_where_19 rfl (fun y4 σ3 h => ?_)
    obtain ⟨hb_y4, h⟩ := h
    refine r_if_ne X 27 25 h dX6_where_22 rfl rfl (fun h => ?_) (fun h => ?_)
    · refine r_aload_n X 0 28 dX6_where_27 rfl rfl rfl ?_
      refine r_iload_n X 2 29 dX6_where_28 rfl rfl rfl ?_
      refine r_iload_n X 3 30 dX6_where_29 rfl rfl rfl ?_
      refine r_callV (As := [.int x2, .int x3]) (rest := []) X 33 (c_X6_goOver h) ml_X6_199 lk_X6_goOver wM_at_0 rfl rfl rfl (Nat.le_of_ble_eq_true rfl) ⟨rfl, rfl, ⟨Nat.le_of_ble_eq_true rfl, Nat.le_of_ble_eq_true rfl⟩, Nat.le_of_ble_eq_true rfl, Nat.le_of_ble_eq_true rfl⟩ dX6_where_30 rfl (fun σ5 h => ?_)
      refine r_iload X 4 35 dX6_where_33 rfl rfl ?_
      refine r_ifs h (fun hc0 h => ?_) (fun hc0 h => ?_)
      · refine r_tabIn X 92 dX6_where_35 hc0 (by decide) (by decide) rfl rfl ?_
        refine r_aload_n X 0 93 dX6_where_92 rfl rfl rfl ?_
        refine g_X6_45 X 96 dX6_where_93 rfl ?_
        refine r_iload_n X 1 97 dX6_where_96 rfl rfl rfl ?_
        obtain ⟨hin, h⟩ := h
        refine l_M9 X 98 hin dX6_where_97 rfl ?_
        exact r_iret X hr9 hlk9 h dX6_where_98
      · refine r_ifs h (fun hc1 h => ?_) (fun hc1 h => ?_)
        · refine r_tabIn X 99 dX6_where_35 hc1 (by decide) (by decide) rfl rfl ?_
          refine r_aload_n X 0 100 dX6_where_99 rfl rfl rfl ?_
          refine g_X6_48 X 103 dX6_where_100 rfl ?_
          refine r_iload_n X 1 104 dX6_where_103 rfl rfl rfl ?_
          obtain ⟨hin, h⟩ := h
          refine l_M10 X 105 hin dX6_where_104 rfl ?_
          exact r_iret X hr9 hlk9 h dX6_where_105
        · refine r_ifs h (fun hc2 h => ?_) (fun hc2 h => ?_)
          · refine r_tabIn X 106 dX6_where_35 hc2 (by decide) (by decide) rfl rfl ?_
            refine r_aload_n X 0 107 dX6_where_106 rfl rfl rfl ?_
            refine g_X6_51 X 110 dX6_where_107 rfl ?_
            refine r_iload_n X 1 111 dX6_where_110 rfl rfl rfl ?_
            obtain ⟨hin, h⟩ := h
            refine l_M11 X 112 hin dX6_where_111 rfl ?_
            exact r_iret X hr9 hlk9 h dX6_where_112
          · refine r_ifs h (fun hc3 h => ?_) (fun hc3 h => ?_)
            · refine r_tabIn X 113 dX6_where_35 hc3 (by decide) (by decide) rfl rfl ?_
              refine r_aload_n X 0 114 dX6_where_113 rfl rfl rfl ?_
              refine g_X6_54 X 117 dX6_where_114 rfl ?_
              refine r_iload_n X 1 118 dX6_where_117 rfl rfl rfl ?_
              obtain ⟨hin, h⟩ := h
              refine l_M12 X 119 hin dX6_where_118 rfl ?_
              exact r_iret X hr9 hlk9 h dX6_where_119
            · refine r_ifs h (fun hc4 h => ?_) (fun hc4 h => ?_)
              · refine r_tabIn X 120 dX6_where_35 hc4 (by decide) (by decide) rfl rfl ?_
                refine r_aload_n X 0 121 dX6_where_120 rfl rfl rfl ?_
                refine g_X6_45 X 124 dX6_where_121 rfl ?_
                refine r_aload_n X 0 125 dX6_where_124 rfl rfl rfl ?_
                refine r_iload_n X 1 126 dX6_where_125 rfl rfl rfl ?_
                refine r_callI (As := [.int x1]) (rest := [.ref (a 9)]) X 129 (c_X6_outermost h) ml_X6_223 lk_X6_outermost wM_at_0 rfl rfl rfl (Nat.le_of_ble_eq_true rfl) ⟨rfl, rfl, ⟨Nat.le_of_ble_eq_true rfl, Nat.le_of_ble_eq_true rfl⟩, Nat.le_of_ble_eq_true rfl, Nat.le_of_ble_eq_true rfl⟩ dX6_where_126 rfl (fun y7 σ6 h => ?_)
                obtain ⟨hin, h⟩ := h
                refine l_M9 X 130 hin dX6_where_129 rfl ?_
                exact r_iret X hr9 hlk9 h dX6_where_130
              · refine r_ifs h (fun hc5 h => ?_) (fun hc5 h => ?_)
                · refine r_tabIn X 131 dX6_where_35 hc5 (by decide) (by decide) rfl rfl ?_
                  refine r_aload_n X 0 132 dX6_where_131 rfl rfl rfl ?_
                  refine g_X6_48 X 135 dX6_where_132 rfl ?_
                  refine r_aload_n X 0 136 dX6_where_135 rfl rfl rfl ?_
                  refine r_iload_n X 1 137 dX6_where_136 rfl rfl rfl ?_
                  refine r_callI (As := [.int x1]) (rest := [.ref (a 10)]) X 140 (c_X6_outermost h) ml_X6_223 lk_X6_outermost wM_at_0 rfl rfl rfl (Nat.le_of_ble_eq_true rfl) ⟨rfl, rfl, ⟨Nat.le_of_ble_eq_true rfl, Nat.le_of_ble_eq_true rfl⟩, Nat.le_of_ble_eq_true rfl, Nat.le_of_ble_eq_true rfl⟩ dX6_where_137 rfl (fun y9 σ8 h => ?_)
                  obtain ⟨hin, h⟩ := h
                  refine l_M10 X 141 hin dX6_where_140 rfl ?_
                  exact r_iret X hr9 hlk9 h dX6_where_141
                · refine r_ifs h (fun hc6 h => ?_) (fun hc6 h => ?_)
                  · refine r_tabIn X 142 dX6_where_35 hc6 (by decide) (by decide) rfl rfl ?_
                    refine r_aload_n X 0 143 dX6_where_142 rfl rfl rfl ?_
                    refine g_X6_57 X 146 dX6_where_143 rfl ?_
                    refine r_iload_n X 1 147 dX6_where_146 rfl rfl rfl ?_
                    obtain ⟨hin, h⟩ := h
                    refine l_M13 X 148 hin dX6_where_147 rfl ?_
                    exact r_iret X hr9 hlk9 h dX6_where_148
                  · refine r_ifs h (fun hc7 h => ?_) (fun hc7 h => ?_)
                    · refine r_tabIn X 149 dX6_where_35 hc7 (by decide) (by decide) rfl rfl ?_
                      refine r_aload_n X 0 150 dX6_where_149 rfl rfl rfl ?_
                      refine g_X6_60 X 153 dX6_where_150 rfl ?_
                      refine r_iload_n X 1 154 dX6_where_153 rfl rfl rfl ?_
                      obtain ⟨hin, h⟩ := h
                      refine l_M14 X 155 hin dX6_where_154 rfl ?_
                      exact r_iret X hr9 hlk9 h dX6_where_155
                    · refine r_ifs h (fun hc8 h => ?_) (fun hc8 h => ?_)
                      · refine r_tabIn X 156 dX6_where_35 hc8 (by decide) (by decide) rfl rfl ?_
                        refine r_aload_n X 0 157 dX6_where_156 rfl rfl rfl ?_
                        refine g_X6_63 X 160 dX6_where_157 rfl ?_
                        refine r_iload_n X 1 161 dX6_where_160 rfl rfl rfl ?_
                        obtain ⟨hin, h⟩ := h
                        refine l_M15 X 162 hin dX6_where_161 rfl ?_
                        refine r_if_eq X 169 165 h dX6_where_162 rfl rfl (fun h => ?_) (fun h => ?_)
                        · refine r_iconst (v := 0) X 170 dX6_where_169 (by decide) rfl ?_
                          exact r_iret X hr9 hlk9 h dX6_where_170
                        · refine r_iconst (v := 1) X 166 dX6_where_165 (by decide) rfl ?_
                          refine r_goto X 170 dX6_where_166 rfl ?_
                          exact r_iret X hr9 hlk9 h dX6_where_170
                      · refine r_ifs h (fun hc9 h => ?_) (fun hc9 h => ?_)
                        · refine r_tabIn X 171 dX6_where_35 hc9 (by decide) (by decide) rfl rfl ?_
                          refine r_aload_n X 0 172 dX6_where_171 rfl rfl rfl ?_
                          refine r_aload_n X 0 173 dX6_where_172 rfl rfl rfl ?_
                          refine g_X6_66 X 176 dX6_where_173 rfl ?_
                          refine r_iload_n X 1 177 dX6_where_176 rfl rfl rfl ?_
                          obtain ⟨hin, h⟩ := h
                          refine l_M16 X 178 hin dX6_where_177 rfl ?_
                          refine r_callI (As := [.int (σ5 16 (ix x1))]) (rest := []) X 181 (c_X6_bits h) ml_X6_226 lk_X6_bits wM_at_0 rfl rfl rfl (Nat.le_of_ble_eq_true rfl) ⟨rfl, rfl, ⟨Nat.le_of_ble_eq_true rfl, Nat.le_of_ble_eq_true rfl⟩, Nat.le_of_ble_eq_true rfl, Nat.le_of_ble_eq_true rfl⟩ dX6_where_178 rfl (fun y11 σ10 h => ?_)
                          exact r_iret X hr9 hlk9 h dX6_where_181
                        · refine r_ifs h (fun hc10 h => ?_) (fun hc10 h => ?_)
                          · refine r_tabIn X 182 dX6_where_35 hc10 (by decide) (by decide) rfl rfl ?_
                            refine r_aload_n X 0 183 dX6_where_182 rfl rfl rfl ?_
                            refine r_iload_n X 1 184 dX6_where_183 rfl rfl rfl ?_
                            refine r_callI (As := [.int x1]) (rest := []) X 187 (c_X6_inside h) ml_X6_168 lk_X6_inside wM_at_0 rfl rfl rfl (Nat.le_of_ble_eq_true rfl) ⟨rfl, rfl, ⟨Nat.le_of_ble_eq_true rfl, Nat.le_of_ble_eq_true rfl⟩, Nat.le_of_ble_eq_true rfl, Nat.le_of_ble_eq_true rfl⟩ dX6_where_184 rfl (fun y13 σ12 h => ?_)
                            exact r_iret X hr9 hlk9 h dX6_where_187
                          · refine r_tabOut X 188 dX6_where_35 (by have e0 := tn_ (k := 0) hc0 rfl; have e1 := tn_ (k := 1) hc1 rfl; have e2 := tn_ (k := 2) hc2 rfl; have e3 := tn_ (k := 3) hc3 rfl; have e4 := tn_ (k := 4) hc4 rfl; have e5 := tn_ (k := 5) hc5 rfl; have e6 := tn_ (k := 6) hc6 rfl; have e7 := tn_ (k := 7) hc7 rfl; have e8 := tn_ (k := 8) hc8 rfl; have e9 := tn_ (k := 9) hc9 rfl; have e10 := tn_ (k := 10) hc10 rfl; omega) rfl ?_
                            refine r_aload_n X 0 189 dX6_where_188 rfl rfl rfl ?_
                            refine g_X6_69 X 192 dX6_where_189 rfl ?_
                            refine r_iload_n X 1 193 dX6_where_192 rfl rfl rfl ?_
                            obtain ⟨hin, h⟩ := h
                            refine l_M17 X 194 hin dX6_where_193 rfl ?_
                            exact r_iret X hr9 hlk9 h dX6_where_194
    · refine r_iconst (v := (-1)) X 26 dX6_where_25 (by decide) rfl ?_
      exact r_iret X hr9 hlk9 h dX6_where_26
def rm_X6_isMove : Room := { frames := 0, cells := 0, slots := 0, locals := 0 }
theorem dX6_isMove_0 : decode cX6_isMove 0 = .ok (.iload_n 0, 1) := by decide +kernel
theorem dX6_isMove_1 : decode cX6_isMove 1 = .ok (.ifCond .le 9, 3) := by decide +kernel
theorem dX6_isMove_4 : decode cX6_isMove 4 = .ok (.iload_n 0, 1) := by decide +kernel
theorem dX6_isMove_5 : decode cX6_isMove 5 = .ok (.bipush 8, 2) := by decide +kernel
theorem dX6_isMove_7 : decode cX6_isMove 7 = .ok (.if_icmp .lt 9, 3) := by decide +kernel
theorem dX6_isMove_10 : decode cX6_isMove 10 = .ok (.iload_n 0, 1) := by decide +kernel
theorem dX6_isMove_11 : decode cX6_isMove 11 = .ok (.bipush 17, 2) := by decide +kernel
theorem dX6_isMove_13 : decode cX6_isMove 13 = .ok (.if_icmp .le 7, 3) := by decide +kernel
theorem dX6_isMove_16 : decode cX6_isMove 16 = .ok (.iconst 1, 1) := by decide +kernel
theorem dX6_isMove_17 : decode cX6_isMove 17 = .ok (.goto 4, 3) := by decide +kernel
theorem dX6_isMove_20 : decode cX6_isMove 20 = .ok (.iconst 0, 1) := by decide +kernel
theorem dX6_isMove_21 : decode cX6_isMove 21 = .ok (.ireturn, 1) := by decide +kernel
def j_X6_isMove_10  (Q : Int32 → St → Prop) (v0 : Int32) (σ : St) : Prop :=
  if 17 < v0 then
  (Q 1 σ)
  else (Q 0 σ)
theorem wk_X6_isMove_10 (X : cx p s m args c cX6_isMove 1 RX6 D (wM cI cZ a) A (tyW cI cZ cH)) (hr9 : meth.sig.returnType = (some .boolean)) (hlk9 : meth.locks = false)  {Q : Int32 → St → Prop} {v0 : Int32} {σ : St} (h : j_X6_isMove_10 Q v0 σ) : go p l e rm_X6_isMove s m args below meth c D (wM cI cZ a) A 0 0 (MQ below (va_Qi (fun r9 u9 => isB r9 ∧ Q r9 u9) (atw D (wM cI cZ a) (tyW cI cZ cH) A) A) args s 0 0 A) 1 10 [(0, .int v0)] [] σ := by
  delta j_X6_isMove_10 at h
  refine r_iload_n X 0 11 dX6_isMove_10 rfl rfl rfl ?_
  refine r_bipush (v := 17) X 13 dX6_isMove_11 (by decide) rfl ?_
  refine r_icmp_le X 20 16 h dX6_isMove_13 rfl rfl (fun h => ?_) (fun h => ?_)
  · refine r_iconst (v := 0) X 21 dX6_isMove_20 (by decide) rfl ?_
    exact r_zret X hr9 hlk9 isB_0 h dX6_isMove_21
  · refine r_iconst (v := 1) X 17 dX6_isMove_16 (by decide) rfl ?_
    refine r_goto X 21 dX6_isMove_17 rfl ?_
    exact r_zret X hr9 hlk9 isB_1 h dX6_isMove_21
def wp_X6_isMove  (σ : St) (x0 : Int32) (Q : Int32 → St → Prop) : Prop :=
  if 0 < x0 then
  (if x0 < 8 then
  (Q 1 σ)
  else (j_X6_isMove_10 Q x0 σ))
  else (j_X6_isMove_10 Q x0 σ)
theorem c_X6_isMove  {σ : St} {x0 : Int32} {Q : Int32 → St → Prop} (h : wp_X6_isMove σ x0 Q) : ctI l yX6_isMove cX6_isMove 1 (some .boolean) rm_X6_isMove D (wM cI cZ a) (tyW cI cZ cH) [.int x0] σ (fun r9 u9 => isB r9 ∧ Q r9 u9) := by
  refine mk_I (wM_ok cI cZ a) (by decide +kernel) (Nat.le_of_ble_eq_true rfl) (fun p e s m args below meth c A X hr9 hlk9 => ?_)
  refine r_pick (lv' := [(0, .int x0)]) [0] rfl ?_
  delta wp_X6_isMove at h
  refine r_iload_n X 0 1 dX6_isMove_0 rfl rfl rfl ?_
  refine r_if_le X 10 4 h dX6_isMove_1 rfl rfl (fun h => ?_) (fun h => ?_)
  · refine r_pick (lv' := [(0, .int x0)]) [0] rfl ?_
    exact wk_X6_isMove_10 X hr9 hlk9 h
  · refine r_iload_n X 0 5 dX6_isMove_4 rfl rfl rfl ?_
    refine r_bipush (v := 8) X 7 dX6_isMove_5 (by decide) rfl ?_
    refine r_icmp_lt X 16 10 h dX6_isMove_7 rfl rfl (fun h => ?_) (fun h => ?_)
    · refine r_iconst (v := 1) X 17 dX6_isMove_16 (by decide) rfl ?_
      refine r_goto X 21 dX6_isMove_17 rfl ?_
      exact r_zret X hr9 hlk9 isB_1 h dX6_isMove_21
    · refine r_pick (lv' := [(0, .int x0)]) [0] rfl ?_
      exact wk_X6_isMove_10 X hr9 hlk9 h
def rm_X6_cameAt : Room := { frames := 0, cells := 0, slots := 0, locals := 0 }
theorem dX6_cameAt_0 : decode cX6_cameAt 0 = .ok (.aload_n 0, 1) := by decide +kernel
theorem dX6_cameAt_1 : decode cX6_cameAt 1 = .ok (.getfield 24, 3) := by decide +kernel
theorem dX6_cameAt_4 : decode cX6_cameAt 4 = .ok (.iload_n 1, 1) := by decide +kernel
theorem dX6_cameAt_5 : decode cX6_cameAt 5 = .ok (.iaload, 1) := by decide +kernel
theorem dX6_cameAt_6 : decode cX6_cameAt 6 = .ok (.iconst 2, 1) := by decide +kernel
theorem dX6_cameAt_7 : decode cX6_cameAt 7 = .ok (.if_icmp .eq 15, 3) := by decide +kernel
theorem dX6_cameAt_10 : decode cX6_cameAt 10 = .ok (.aload_n 0, 1) := by decide +kernel
theorem dX6_cameAt_11 : decode cX6_cameAt 11 = .ok (.getfield 24, 3) := by decide +kernel
theorem dX6_cameAt_14 : decode cX6_cameAt 14 = .ok (.iload_n 1, 1) := by decide +kernel
theorem dX6_cameAt_15 : decode cX6_cameAt 15 = .ok (.iaload, 1) := by decide +kernel
theorem dX6_cameAt_16 : decode cX6_cameAt 16 = .ok (.iconst 3, 1) := by decide +kernel
theorem dX6_cameAt_17 : decode cX6_cameAt 17 = .ok (.if_icmp .eq 5, 3) := by decide +kernel
theorem dX6_cameAt_20 : decode cX6_cameAt 20 = .ok (.iconst (-1), 1) := by decide +kernel
theorem dX6_cameAt_21 : decode cX6_cameAt 21 = .ok (.ireturn, 1) := by decide +kernel
theorem dX6_cameAt_22 : decode cX6_cameAt 22 = .ok (.iconst 0, 1) := by decide +kernel
theorem dX6_cameAt_23 : decode cX6_cameAt 23 = .ok (.istore_n 2, 1) := by decide +kernel
theorem dX6_cameAt_24 : decode cX6_cameAt 24 = .ok (.iload_n 2, 1) := by decide +kernel
theorem dX6_cameAt_25 : decode cX6_cameAt 25 = .ok (.aload_n 0, 1) := by decide +kernel
theorem dX6_cameAt_26 : decode cX6_cameAt 26 = .ok (.getfield 195, 3) := by decide +kernel
theorem dX6_cameAt_29 : decode cX6_cameAt 29 = .ok (.if_icmp .ge 55, 3) := by decide +kernel
theorem dX6_cameAt_32 : decode cX6_cameAt 32 = .ok (.bipush 8, 2) := by decide +kernel
theorem dX6_cameAt_34 : decode cX6_cameAt 34 = .ok (.aload_n 0, 1) := by decide +kernel
theorem dX6_cameAt_35 : decode cX6_cameAt 35 = .ok (.getfield 78, 3) := by decide +kernel
theorem dX6_cameAt_38 : decode cX6_cameAt 38 = .ok (.iload_n 2, 1) := by decide +kernel
theorem dX6_cameAt_39 : decode cX6_cameAt 39 = .ok (.iaload, 1) := by decide +kernel
theorem dX6_cameAt_40 : decode cX6_cameAt 40 = .ok (.imul, 1) := by decide +kernel
theorem dX6_cameAt_41 : decode cX6_cameAt 41 = .ok (.istore_n 3, 1) := by decide +kernel
theorem dX6_cameAt_42 : decode cX6_cameAt 42 = .ok (.aload_n 0, 1) := by decide +kernel
theorem dX6_cameAt_43 : decode cX6_cameAt 43 = .ok (.getfield 30, 3) := by decide +kernel
theorem dX6_cameAt_46 : decode cX6_cameAt 46 = .ok (.iload_n 3, 1) := by decide +kernel
theorem dX6_cameAt_47 : decode cX6_cameAt 47 = .ok (.iaload, 1) := by decide +kernel
theorem dX6_cameAt_48 : decode cX6_cameAt 48 = .ok (.bipush 11, 2) := by decide +kernel
theorem dX6_cameAt_50 : decode cX6_cameAt 50 = .ok (.if_icmp .eq 14, 3) := by decide +kernel
theorem dX6_cameAt_53 : decode cX6_cameAt 53 = .ok (.aload_n 0, 1) := by decide +kernel
theorem dX6_cameAt_54 : decode cX6_cameAt 54 = .ok (.getfield 30, 3) := by decide +kernel
theorem dX6_cameAt_57 : decode cX6_cameAt 57 = .ok (.iload_n 3, 1) := by decide +kernel
theorem dX6_cameAt_58 : decode cX6_cameAt 58 = .ok (.iaload, 1) := by decide +kernel
theorem dX6_cameAt_59 : decode cX6_cameAt 59 = .ok (.bipush 12, 2) := by decide +kernel
theorem dX6_cameAt_61 : decode cX6_cameAt 61 = .ok (.if_icmp .ne 17, 3) := by decide +kernel
theorem dX6_cameAt_64 : decode cX6_cameAt 64 = .ok (.aload_n 0, 1) := by decide +kernel
theorem dX6_cameAt_65 : decode cX6_cameAt 65 = .ok (.getfield 30, 3) := by decide +kernel
theorem dX6_cameAt_68 : decode cX6_cameAt 68 = .ok (.iload_n 3, 1) := by decide +kernel
theorem dX6_cameAt_69 : decode cX6_cameAt 69 = .ok (.iconst 4, 1) := by decide +kernel
theorem dX6_cameAt_70 : decode cX6_cameAt 70 = .ok (.iadd, 1) := by decide +kernel
theorem dX6_cameAt_71 : decode cX6_cameAt 71 = .ok (.iaload, 1) := by decide +kernel
theorem dX6_cameAt_72 : decode cX6_cameAt 72 = .ok (.iload_n 1, 1) := by decide +kernel
theorem dX6_cameAt_73 : decode cX6_cameAt 73 = .ok (.if_icmp .ne 5, 3) := by decide +kernel
theorem dX6_cameAt_76 : decode cX6_cameAt 76 = .ok (.iload_n 2, 1) := by decide +kernel
theorem dX6_cameAt_77 : decode cX6_cameAt 77 = .ok (.ireturn, 1) := by decide +kernel
theorem dX6_cameAt_78 : decode cX6_cameAt 78 = .ok (.iinc 2 1, 3) := by decide +kernel
theorem dX6_cameAt_81 : decode cX6_cameAt 81 = .ok (.goto (-57), 3) := by decide +kernel
theorem dX6_cameAt_84 : decode cX6_cameAt 84 = .ok (.iconst (-1), 1) := by decide +kernel
theorem dX6_cameAt_85 : decode cX6_cameAt 85 = .ok (.ireturn, 1) := by decide +kernel
def j_X6_cameAt_78  (Q : Int32 → St → Prop) (rec24 : Int32 → Int32 → St → Prop) (v1 : Int32) (v2 : Int32) (σ : St) : Prop :=
  rec24 v1 (v2 + 1) σ
theorem wk_X6_cameAt_78 (X : cx p s m args c cX6_cameAt 4 RX6 D (wM cI cZ a) A (tyW cI cZ cH)) (hr9 : meth.sig.returnType = (some .int)) (hlk9 : meth.locks = false)  {Q : Int32 → St → Prop} {rec24 : Int32 → Int32 → St → Prop} (hrec24 : ∀ (v1 : Int32) (v2 : Int32) (σ : St), rec24 v1 v2 σ → go p l e rm_X6_cameAt s m args below meth c D (wM cI cZ a) A 0 0 (MQ below (va_Qi Q (atw D (wM cI cZ a) (tyW cI cZ cH) A) A) args s 0 0 A) 4 24 [(0, .ref (a 0)), (1, .int v1), (2, .int v2)] [] σ) {v1 : Int32} {v2 : Int32} {σ : St} (h : j_X6_cameAt_78 Q rec24 v1 v2 σ) : go p l e rm_X6_cameAt s m args below meth c D (wM cI cZ a) A 0 0 (MQ below (va_Qi Q (atw D (wM cI cZ a) (tyW cI cZ cH) A) A) args s 0 0 A) 4 78 [(0, .ref (a 0)), (1, .int v1), (2, .int v2)] [] σ := by
  delta j_X6_cameAt_78 at h
  refine r_iinc (d := 1) X 2 81 [(2, .int (v2 + 1)), (0, .ref (a 0)), (1, .int v1)] dX6_cameAt_78 rfl (by decide) (by decide) rfl rfl ?_
  refine r_goto X 24 dX6_cameAt_81 rfl ?_
  refine r_pick (lv' := [(0, .ref (a 0)), (1, .int v1), (2, .int (v2 + 1))]) [1, 2, 0] rfl ?_
  exact hrec24 _ _ _ h
def j_X6_cameAt_64  (Q : Int32 → St → Prop) (rec24 : Int32 → Int32 → St → Prop) (v1 : Int32) (v2 : Int32) (v3 : Int32) (σ : St) : Prop :=
  vp_in (v3 + 4) 3208 ∧
  (if (σ 6 (ix (v3 + 4))) = v1 then
  (Q v2 σ)
  else (j_X6_cameAt_78 Q rec24 v1 v2 σ))
theorem wk_X6_cameAt_64 (X : cx p s m args c cX6_cameAt 4 RX6 D (wM cI cZ a) A (tyW cI cZ cH)) (hr9 : meth.sig.returnType = (some .int)) (hlk9 : meth.locks = false)  {Q : Int32 → St → Prop} {rec24 : Int32 → Int32 → St → Prop} (hrec24 : ∀ (v1 : Int32) (v2 : Int32) (σ : St), rec24 v1 v2 σ → go p l e rm_X6_cameAt s m args below meth c D (wM cI cZ a) A 0 0 (MQ below (va_Qi Q (atw D (wM cI cZ a) (tyW cI cZ cH) A) A) args s 0 0 A) 4 24 [(0, .ref (a 0)), (1, .int v1), (2, .int v2)] [] σ) {v1 : Int32} {v2 : Int32} {v3 : Int32} {σ : St} (h : j_X6_cameAt_64 Q rec24 v1 v2 v3 σ) : go p l e rm_X6_cameAt s m args below meth c D (wM cI cZ a) A 0 0 (MQ below (va_Qi Q (atw D (wM cI cZ a) (tyW cI cZ cH) A) A) args s 0 0 A) 4 64 [(0, .ref (a 0)), (1, .int v1), (2, .int v2), (3, .int v3)] [] σ := by
  delta j_X6_cameAt_64 at h
  refine r_aload_n X 0 65 dX6_cameAt_64 rfl rfl rfl ?_
  refine g_X6_30 X 68 dX6_cameAt_65 rfl ?_
  refine r_iload_n X 3 69 dX6_cameAt_68 rfl rfl rfl ?_
  refine r_iconst (v := 4) X 70 dX6_cameAt_69 (by decide) rfl ?_
  refine r_iadd X 71 dX6_cameAt_70 rfl ?_
  obtain ⟨hin, h⟩ := h
  refine l_Mk X (Or.inl rfl) 72 hin dX6_cameAt_71 rfl ?_
  refine r_iload_n X 1 73 dX6_cameAt_72 rfl rfl rfl ?_
  refine r_icmp_ne X 78 76 h dX6_cameAt_73 rfl rfl (fun h => ?_) (fun h => ?_)
  · refine r_pick (lv' := [(0, .ref (a 0)), (1, .int v1), (2, .int v2)]) [0, 1, 2] rfl ?_
    exact wk_X6_cameAt_78 X hr9 hlk9 hrec24 h
  · refine r_iload_n X 2 77 dX6_cameAt_76 rfl rfl rfl ?_
    exact r_iret X hr9 hlk9 h dX6_cameAt_77
def b_X6_cameAt_24  (Q : Int32 → St → Prop) (rec24 : Int32 → Int32 → St → Prop) (v1 : Int32) (v2 : Int32) (σ : St) : Prop :=
  if v2 < (σ 0 3) then
  (vp_in v2 401 ∧
  (nm (((8 : Int32) * (σ 20 (ix v2)))) (fun z1 =>
  vp_in z1 3208 ∧
  (if (σ 6 (ix z1)) = 11 then
  (j_X6_cameAt_64 Q rec24 v1 v2 z1 σ)
  else (vp_in z1 3208 ∧
  (if (σ 6 (ix z1)) = 12 then
  (j_X6_cameAt_64 Q rec24 v1 v2 z1 σ)
  else (j_X6_cameAt_78 Q rec24 v1 v2 σ)))))))
  else (Q (-1) σ)
def lp_X6_cameAt_24  (Q : Int32 → St → Prop) (n9 : Nat) : Int32 → Int32 → St → Prop :=
  Nat.rec (fun _ _ _ => False) (fun _ rec9 => b_X6_cameAt_24  Q  rec9) n9
theorem wk_X6_cameAt_24 (X : cx p s m args c cX6_cameAt 4 RX6 D (wM cI cZ a) A (tyW cI cZ cH)) (hr9 : meth.sig.returnType = (some .int)) (hlk9 : meth.locks = false)  {Q : Int32 → St → Prop} : ∀ (n9 : Nat) {v1 : Int32} {v2 : Int32} {σ : St}, lp_X6_cameAt_24 Q n9 v1 v2 σ → go p l e rm_X6_cameAt s m args below meth c D (wM cI cZ a) A 0 0 (MQ below (va_Qi Q (atw D (wM cI cZ a) (tyW cI cZ cH) A) A) args s 0 0 A) 4 24 [(0, .ref (a 0)), (1, .int v1), (2, .int v2)] [] σ := by
  intro n9
  induction n9 with
  | zero => intro v1 v2 σ h; exact h.elim
  | succ n9 ih =>
    intro v1 v2 σ h
    have hrec24 := fun v1 v2 σ h => ih (σ := σ) (v1 := v1) (v2 := v2) h
    replace h : b_X6_cameAt_24 Q (lp_X6_cameAt_24 Q n9) v1 v2 σ := h
    delta b_X6_cameAt_24 at h
    refine r_iload_n X 2 25 dX6_cameAt_24 rfl rfl rfl ?_
    refine r_aload_n X 0 26 dX6_cameAt_25 rfl rfl rfl ?_
    refine g_X6_195 X 29 dX6_cameAt_26 rfl ?_
    refine r_icmp_ge X 84 32 h dX6_cameAt_29 rfl rfl (fun h => ?_) (fun h => ?_)
    · refine r_iconst (v := (-1)) X 85 dX6_cameAt_84 (by decide) rfl ?_
      exact r_iret X hr9 hlk9 h dX6_cameAt_85
    · refine r_bipush (v := 8) X 34 dX6_cameAt_32 (by decide) rfl ?_
      refine r_aload_n X 0 35 dX6_cameAt_34 rfl rfl rfl ?_
      refine g_X6_78 X 38 dX6_cameAt_35 rfl ?_
      refine r_iload_n X 2 39 dX6_cameAt_38 rfl rfl rfl ?_
      obtain ⟨hin, h⟩ := h
      refine l_M20 X 40 hin dX6_cameAt_39 rfl ?_
      refine r_imul X 41 dX6_cameAt_40 rfl ?_
      refine r_istore_nN X 42 (fun z1 => [(3, .int z1), (0, .ref (a 0)), (1, .int v1), (2, .int v2)]) h dX6_cameAt_41 rfl (by decide) (fun _ => rfl) rfl (fun z1 h => ?_)
      refine r_aload_n X 1 43 dX6_cameAt_42 rfl rfl rfl ?_
      refine g_X6_30 X 46 dX6_cameAt_43 rfl ?_
      refine r_iload_n X 0 47 dX6_cameAt_46 rfl rfl rfl ?_
      obtain ⟨hin, h⟩ := h
      refine l_Mk X (Or.inl rfl) 48 hin dX6_cameAt_47 rfl ?_
      refine r_bipush (v := 11) X 50 dX6_cameAt_48 (by decide) rfl ?_
      refine r_icmp_eq X 64 53 h dX6_cameAt_50 rfl rfl (fun h => ?_) (fun h => ?_)
      · refine r_pick (lv' := [(0, .ref (a 0)), (1, .int v1), (2, .int v2), (3, .int z1)]) [1, 2, 3, 0] rfl ?_
        exact wk_X6_cameAt_64 X hr9 hlk9 hrec24 h
      · refine r_aload_n X 1 54 dX6_cameAt_53 rfl rfl rfl ?_
        refine g_X6_30 X 57 dX6_cameAt_54 rfl ?_
        refine r_iload_n X 0 58 dX6_cameAt_57 rfl rfl rfl ?_
        obtain ⟨hin, h⟩ := h
        refine l_Mk X (Or.inl rfl) 59 hin dX6_cameAt_58 rfl ?_
        refine r_bipush (v := 12) X 61 dX6_cameAt_59 (by decide) rfl ?_
        refine r_icmp_ne X 78 64 h dX6_cameAt_61 rfl rfl (fun h => ?_) (fun h => ?_)
        · refine r_pick (lv' := [(0, .ref (a 0)), (1, .int v1), (2, .int v2)]) [1, 2, 3] rfl ?_
          exact wk_X6_cameAt_78 X hr9 hlk9 hrec24 h
        · refine r_pick (lv' := [(0, .ref (a 0)), (1, .int v1), (2, .int v2), (3, .int z1)]) [1, 2, 3, 0] rfl ?_
          exact wk_X6_cameAt_64 X hr9 hlk9 hrec24 h
def j_X6_cameAt_22  (Q : Int32 → St → Prop) (v1 : Int32) (σ : St) : Prop :=
  ∃ n9 : Nat, lp_X6_cameAt_24 Q n9 v1 0 σ
theorem wk_X6_cameAt_22 (X : cx p s m args c cX6_cameAt 4 RX6 D (wM cI cZ a) A (tyW cI cZ cH)) (hr9 : meth.sig.returnType = (some .int)) (hlk9 : meth.locks = false)  {Q : Int32 → St → Prop} {v1 : Int32} {σ : St} (h : j_X6_cameAt_22 Q v1 σ) : go p l e rm_X6_cameAt s m args below meth c D (wM cI cZ a) A 0 0 (MQ below (va_Qi Q (atw D (wM cI cZ a) (tyW cI cZ cH) A) A) args s 0 0 A) 4 22 [(0, .ref (a 0)), (1, .int v1)] [] σ := by
  delta j_X6_cameAt_22 at h
  refine r_iconst (v := 0) X 23 dX6_cameAt_22 (by decide) rfl ?_
  refine r_istore_n X 24 [(2, .int 0), (0, .ref (a 0)), (1, .int v1)] dX6_cameAt_23 rfl (by decide) rfl rfl ?_
  refine r_pick (lv' := [(0, .ref (a 0)), (1, .int v1), (2, .int 0)]) [1, 2, 0] rfl ?_
  obtain ⟨n9, h⟩ := h
  exact wk_X6_cameAt_24 X hr9 hlk9 n9 h
def wp_X6_cameAt  (σ : St) (x1 : Int32) (Q : Int32 → St → Prop) : Prop :=
  vp_in x1 60 ∧
  (if (σ 4 (ix x1)) = 2 then
  (j_X6_cameAt_22 Q x1 σ)
  else (vp_in x1 60 ∧
  (if (σ 4 (ix x1)) = 3 then
  (j_X6_cameAt_22 Q x1 σ)
  else (Q (-1) σ))))
theorem c_X6_cameAt  {σ : St} {x1 : Int32} {Q : Int32 → St → Prop} (h : wp_X6_cameAt σ x1 Q) : ctI l yX6_cameAt cX6_cameAt 4 (some .int) rm_X6_cameAt D (wM cI cZ a) (tyW cI cZ cH) [.ref (a 0), .int x1] σ Q := by
  refine mk_I (wM_ok cI cZ a) (by decide +kernel) (Nat.le_of_ble_eq_true rfl) (fun p e s m args below meth c A X hr9 hlk9 => ?_)
  refine r_pick (lv' := [(0, .ref (a 0)), (1, .int x1)]) [0, 1] rfl ?_
  delta wp_X6_cameAt at h
  refine r_aload_n X 0 1 dX6_cameAt_0 rfl rfl rfl ?_
  refine g_X6_24 X 4 dX6_cameAt_1 rfl ?_
  refine r_iload_n X 1 5 dX6_cameAt_4 rfl rfl rfl ?_
  obtain ⟨hin, h⟩ := h
  refine l_M4 X 6 hin dX6_cameAt_5 rfl ?_
  refine r_iconst (v := 2) X 7 dX6_cameAt_6 (by decide) rfl ?_
  refine r_icmp_eq X 22 10 h dX6_cameAt_7 rfl rfl (fun h => ?_) (fun h => ?_)
  · refine r_pick (lv' := [(0, .ref (a 0)), (1, .int x1)]) [0, 1] rfl ?_
    exact wk_X6_cameAt_22 X hr9 hlk9 h
  · refine r_aload_n X 0 11 dX6_cameAt_10 rfl rfl rfl ?_
    refine g_X6_24 X 14 dX6_cameAt_11 rfl ?_
    refine r_iload_n X 1 15 dX6_cameAt_14 rfl rfl rfl ?_
    obtain ⟨hin, h⟩ := h
    refine l_M4 X 16 hin dX6_cameAt_15 rfl ?_
    refine r_iconst (v := 3) X 17 dX6_cameAt_16 (by decide) rfl ?_
    refine r_icmp_eq X 22 20 h dX6_cameAt_17 rfl rfl (fun h => ?_) (fun h => ?_)
    · refine r_pick (lv' := [(0, .ref (a 0)), (1, .int x1)]) [0, 1] rfl ?_
      exact wk_X6_cameAt_22 X hr9 hlk9 h
    · refine r_iconst (v := (-1)) X 21 dX6_cameAt_20 (by decide) rfl ?_
      exact r_iret X hr9 hlk9 h dX6_cameAt_21
def rm_X6_put : Room := { frames := 0, cells := 0, slots := 0, locals := 0 }
theorem dX6_put_0 : decode cX6_put 0 = .ok (.aload_n 0, 1) := by decide +kernel
theorem dX6_put_1 : decode cX6_put 1 = .ok (.getfield 81, 3) := by decide +kernel
theorem dX6_put_4 : decode cX6_put 4 = .ok (.aload_n 0, 1) := by decide +kernel
theorem dX6_put_5 : decode cX6_put 5 = .ok (.getfield 229, 3) := by decide +kernel
theorem dX6_put_8 : decode cX6_put 8 = .ok (.iload_n 1, 1) := by decide +kernel
theorem dX6_put_9 : decode cX6_put 9 = .ok (.iastore, 1) := by decide +kernel
theorem dX6_put_10 : decode cX6_put 10 = .ok (.aload_n 0, 1) := by decide +kernel
theorem dX6_put_11 : decode cX6_put 11 = .ok (.dup, 1) := by decide +kernel
theorem dX6_put_12 : decode cX6_put 12 = .ok (.getfield 229, 3) := by decide +kernel
theorem dX6_put_15 : decode cX6_put 15 = .ok (.iconst 1, 1) := by decide +kernel
theorem dX6_put_16 : decode cX6_put 16 = .ok (.iadd, 1) := by decide +kernel
theorem dX6_put_17 : decode cX6_put 17 = .ok (.putfield 229, 3) := by decide +kernel
theorem dX6_put_20 : decode cX6_put 20 = .ok (.return_, 1) := by decide +kernel
def wp_X6_put  (σ : St) (x1 : Int32) (Q : St → Prop) : Prop :=
  vp_in (σ 0 30) 800 ∧
  nmS (up2 σ 21 (ix (σ 0 30)) x1) (fun σ1 =>
  nmS (up2 σ1 0 30 ((σ1 0 30) + 1)) (fun σ2 =>
  Q σ2))
theorem c_X6_put  {σ : St} {x1 : Int32} {Q : St → Prop} (h : wp_X6_put σ x1 Q) : ctV l yX6_put cX6_put 2 none rm_X6_put D (wM cI cZ a) (tyW cI cZ cH) [.ref (a 0), .int x1] σ Q := by
  refine mk_V (wM_ok cI cZ a) (by decide +kernel) (Nat.le_of_ble_eq_true rfl) (fun p e s m args below meth c A X hr9 hlk9 => ?_)
  refine r_pick (lv' := [(0, .ref (a 0)), (1, .int x1)]) [0, 1] rfl ?_
  delta wp_X6_put at h
  refine r_aload_n X 0 1 dX6_put_0 rfl rfl rfl ?_
  refine g_X6_81 X 4 dX6_put_1 rfl ?_
  refine r_aload_n X 0 5 dX6_put_4 rfl rfl rfl ?_
  refine g_X6_229 X 8 dX6_put_5 rfl ?_
  refine r_iload_n X 1 9 dX6_put_8 rfl rfl rfl ?_
  obtain ⟨hin, h⟩ := h
  refine s_M21 X 10 hin dX6_put_9 rfl ?_
  refine r_nmS h (fun σ1 h => ?_)
  refine r_aload_n X 0 11 dX6_put_10 rfl rfl rfl ?_
  refine r_dup X 12 dX6_put_11 rfl rfl ?_
  refine g_X6_229 X 15 dX6_put_12 rfl ?_
  refine r_iconst (v := 1) X 16 dX6_put_15 (by decide) rfl ?_
  refine r_iadd X 17 dX6_put_16 rfl ?_
  refine u_X6_229 X 20 dX6_put_17 rfl ?_
  refine r_nmS h (fun σ2 h => ?_)
  exact r_vret X hr9 hlk9 h dX6_put_20
def rm_X6_makeChain : Room := { frames := 1, cells := 0, slots := 0, locals := 24 }
theorem dX6_makeChain_0 : decode cX6_makeChain 0 = .ok (.aload_n 0, 1) := by decide +kernel
theorem dX6_makeChain_1 : decode cX6_makeChain 1 = .ok (.aload_n 0, 1) := by decide +kernel
theorem dX6_makeChain_2 : decode cX6_makeChain 2 = .ok (.getfield 30, 3) := by decide +kernel
theorem dX6_makeChain_5 : decode cX6_makeChain 5 = .ok (.aload_n 0, 1) := by decide +kernel
theorem dX6_makeChain_6 : decode cX6_makeChain 6 = .ok (.getfield 195, 3) := by decide +kernel
theorem dX6_makeChain_9 : decode cX6_makeChain 9 = .ok (.invokevirtual 184, 3) := by decide +kernel
theorem dX6_makeChain_12 : decode cX6_makeChain 12 = .ok (.aload_n 0, 1) := by decide +kernel
theorem dX6_makeChain_13 : decode cX6_makeChain 13 = .ok (.iconst 0, 1) := by decide +kernel
theorem dX6_makeChain_14 : decode cX6_makeChain 14 = .ok (.putfield 229, 3) := by decide +kernel
theorem dX6_makeChain_17 : decode cX6_makeChain 17 = .ok (.iconst 0, 1) := by decide +kernel
theorem dX6_makeChain_18 : decode cX6_makeChain 18 = .ok (.istore_n 2, 1) := by decide +kernel
theorem dX6_makeChain_19 : decode cX6_makeChain 19 = .ok (.iload_n 1, 1) := by decide +kernel
theorem dX6_makeChain_20 : decode cX6_makeChain 20 = .ok (.istore_n 3, 1) := by decide +kernel
theorem dX6_makeChain_21 : decode cX6_makeChain 21 = .ok (.iload_n 3, 1) := by decide +kernel
theorem dX6_makeChain_22 : decode cX6_makeChain 22 = .ok (.ifCond .lt 62, 3) := by decide +kernel
theorem dX6_makeChain_25 : decode cX6_makeChain 25 = .ok (.aload_n 0, 1) := by decide +kernel
theorem dX6_makeChain_26 : decode cX6_makeChain 26 = .ok (.getfield 84, 3) := by decide +kernel
theorem dX6_makeChain_29 : decode cX6_makeChain 29 = .ok (.iload_n 2, 1) := by decide +kernel
theorem dX6_makeChain_30 : decode cX6_makeChain 30 = .ok (.iload_n 3, 1) := by decide +kernel
theorem dX6_makeChain_31 : decode cX6_makeChain 31 = .ok (.iastore, 1) := by decide +kernel
theorem dX6_makeChain_32 : decode cX6_makeChain 32 = .ok (.aload_n 0, 1) := by decide +kernel
theorem dX6_makeChain_33 : decode cX6_makeChain 33 = .ok (.getfield 87, 3) := by decide +kernel
theorem dX6_makeChain_36 : decode cX6_makeChain 36 = .ok (.iload_n 2, 1) := by decide +kernel
theorem dX6_makeChain_37 : decode cX6_makeChain 37 = .ok (.aload_n 0, 1) := by decide +kernel
theorem dX6_makeChain_38 : decode cX6_makeChain 38 = .ok (.iload_n 3, 1) := by decide +kernel
theorem dX6_makeChain_39 : decode cX6_makeChain 39 = .ok (.invokevirtual 232, 3) := by decide +kernel
theorem dX6_makeChain_42 : decode cX6_makeChain 42 = .ok (.iastore, 1) := by decide +kernel
theorem dX6_makeChain_43 : decode cX6_makeChain 43 = .ok (.aload_n 0, 1) := by decide +kernel
theorem dX6_makeChain_44 : decode cX6_makeChain 44 = .ok (.getfield 87, 3) := by decide +kernel
theorem dX6_makeChain_47 : decode cX6_makeChain 47 = .ok (.iload_n 2, 1) := by decide +kernel
theorem dX6_makeChain_48 : decode cX6_makeChain 48 = .ok (.iaload, 1) := by decide +kernel
theorem dX6_makeChain_49 : decode cX6_makeChain 49 = .ok (.ifCond .ge 7, 3) := by decide +kernel
theorem dX6_makeChain_52 : decode cX6_makeChain 52 = .ok (.iconst (-1), 1) := by decide +kernel
theorem dX6_makeChain_53 : decode cX6_makeChain 53 = .ok (.goto 24, 3) := by decide +kernel
theorem dX6_makeChain_56 : decode cX6_makeChain 56 = .ok (.aload_n 0, 1) := by decide +kernel
theorem dX6_makeChain_57 : decode cX6_makeChain 57 = .ok (.getfield 30, 3) := by decide +kernel
theorem dX6_makeChain_60 : decode cX6_makeChain 60 = .ok (.bipush 8, 2) := by decide +kernel
theorem dX6_makeChain_62 : decode cX6_makeChain 62 = .ok (.aload_n 0, 1) := by decide +kernel
theorem dX6_makeChain_63 : decode cX6_makeChain 63 = .ok (.getfield 78, 3) := by decide +kernel
theorem dX6_makeChain_66 : decode cX6_makeChain 66 = .ok (.aload_n 0, 1) := by decide +kernel
theorem dX6_makeChain_67 : decode cX6_makeChain 67 = .ok (.getfield 87, 3) := by decide +kernel
theorem dX6_makeChain_70 : decode cX6_makeChain 70 = .ok (.iload_n 2, 1) := by decide +kernel
theorem dX6_makeChain_71 : decode cX6_makeChain 71 = .ok (.iaload, 1) := by decide +kernel
theorem dX6_makeChain_72 : decode cX6_makeChain 72 = .ok (.iaload, 1) := by decide +kernel
theorem dX6_makeChain_73 : decode cX6_makeChain 73 = .ok (.imul, 1) := by decide +kernel
theorem dX6_makeChain_74 : decode cX6_makeChain 74 = .ok (.iconst 1, 1) := by decide +kernel
theorem dX6_makeChain_75 : decode cX6_makeChain 75 = .ok (.iadd, 1) := by decide +kernel
theorem dX6_makeChain_76 : decode cX6_makeChain 76 = .ok (.iaload, 1) := by decide +kernel
theorem dX6_makeChain_77 : decode cX6_makeChain 77 = .ok (.istore_n 3, 1) := by decide +kernel
theorem dX6_makeChain_78 : decode cX6_makeChain 78 = .ok (.iinc 2 1, 3) := by decide +kernel
theorem dX6_makeChain_81 : decode cX6_makeChain 81 = .ok (.goto (-60), 3) := by decide +kernel
theorem dX6_makeChain_84 : decode cX6_makeChain 84 = .ok (.iload_n 2, 1) := by decide +kernel
theorem dX6_makeChain_85 : decode cX6_makeChain 85 = .ok (.iconst 1, 1) := by decide +kernel
theorem dX6_makeChain_86 : decode cX6_makeChain 86 = .ok (.isub, 1) := by decide +kernel
theorem dX6_makeChain_87 : decode cX6_makeChain 87 = .ok (.istore 4, 2) := by decide +kernel
theorem dX6_makeChain_89 : decode cX6_makeChain 89 = .ok (.iload 4, 2) := by decide +kernel
theorem dX6_makeChain_91 : decode cX6_makeChain 91 = .ok (.ifCond .lt 129, 3) := by decide +kernel
theorem dX6_makeChain_94 : decode cX6_makeChain 94 = .ok (.aload_n 0, 1) := by decide +kernel
theorem dX6_makeChain_95 : decode cX6_makeChain 95 = .ok (.getfield 87, 3) := by decide +kernel
theorem dX6_makeChain_98 : decode cX6_makeChain 98 = .ok (.iload 4, 2) := by decide +kernel
theorem dX6_makeChain_100 : decode cX6_makeChain 100 = .ok (.iaload, 1) := by decide +kernel
theorem dX6_makeChain_101 : decode cX6_makeChain 101 = .ok (.ifCond .lt 19, 3) := by decide +kernel
theorem dX6_makeChain_104 : decode cX6_makeChain 104 = .ok (.aload_n 0, 1) := by decide +kernel
theorem dX6_makeChain_105 : decode cX6_makeChain 105 = .ok (.aload_n 0, 1) := by decide +kernel
theorem dX6_makeChain_106 : decode cX6_makeChain 106 = .ok (.getfield 78, 3) := by decide +kernel
theorem dX6_makeChain_109 : decode cX6_makeChain 109 = .ok (.aload_n 0, 1) := by decide +kernel
theorem dX6_makeChain_110 : decode cX6_makeChain 110 = .ok (.getfield 87, 3) := by decide +kernel
theorem dX6_makeChain_113 : decode cX6_makeChain 113 = .ok (.iload 4, 2) := by decide +kernel
theorem dX6_makeChain_115 : decode cX6_makeChain 115 = .ok (.iaload, 1) := by decide +kernel
theorem dX6_makeChain_116 : decode cX6_makeChain 116 = .ok (.iaload, 1) := by decide +kernel
theorem dX6_makeChain_117 : decode cX6_makeChain 117 = .ok (.invokevirtual 235, 3) := by decide +kernel
theorem dX6_makeChain_120 : decode cX6_makeChain 120 = .ok (.iload 4, 2) := by decide +kernel
theorem dX6_makeChain_122 : decode cX6_makeChain 122 = .ok (.ifCond .ne 10, 3) := by decide +kernel
theorem dX6_makeChain_125 : decode cX6_makeChain 125 = .ok (.aload_n 0, 1) := by decide +kernel
theorem dX6_makeChain_126 : decode cX6_makeChain 126 = .ok (.getfield 195, 3) := by decide +kernel
theorem dX6_makeChain_129 : decode cX6_makeChain 129 = .ok (.goto 12, 3) := by decide +kernel
theorem dX6_makeChain_132 : decode cX6_makeChain 132 = .ok (.aload_n 0, 1) := by decide +kernel
theorem dX6_makeChain_133 : decode cX6_makeChain 133 = .ok (.getfield 87, 3) := by decide +kernel
theorem dX6_makeChain_136 : decode cX6_makeChain 136 = .ok (.iload 4, 2) := by decide +kernel
theorem dX6_makeChain_138 : decode cX6_makeChain 138 = .ok (.iconst 1, 1) := by decide +kernel
theorem dX6_makeChain_139 : decode cX6_makeChain 139 = .ok (.isub, 1) := by decide +kernel
theorem dX6_makeChain_140 : decode cX6_makeChain 140 = .ok (.iaload, 1) := by decide +kernel
theorem dX6_makeChain_141 : decode cX6_makeChain 141 = .ok (.istore 5, 2) := by decide +kernel
theorem dX6_makeChain_143 : decode cX6_makeChain 143 = .ok (.iconst 0, 1) := by decide +kernel
theorem dX6_makeChain_144 : decode cX6_makeChain 144 = .ok (.istore 6, 2) := by decide +kernel
theorem dX6_makeChain_146 : decode cX6_makeChain 146 = .ok (.iload 6, 2) := by decide +kernel
theorem dX6_makeChain_148 : decode cX6_makeChain 148 = .ok (.iload 5, 2) := by decide +kernel
theorem dX6_makeChain_150 : decode cX6_makeChain 150 = .ok (.if_icmp .ge 64, 3) := by decide +kernel
theorem dX6_makeChain_153 : decode cX6_makeChain 153 = .ok (.bipush 8, 2) := by decide +kernel
theorem dX6_makeChain_155 : decode cX6_makeChain 155 = .ok (.aload_n 0, 1) := by decide +kernel
theorem dX6_makeChain_156 : decode cX6_makeChain 156 = .ok (.getfield 78, 3) := by decide +kernel
theorem dX6_makeChain_159 : decode cX6_makeChain 159 = .ok (.iload 6, 2) := by decide +kernel
theorem dX6_makeChain_161 : decode cX6_makeChain 161 = .ok (.iaload, 1) := by decide +kernel
theorem dX6_makeChain_162 : decode cX6_makeChain 162 = .ok (.imul, 1) := by decide +kernel
theorem dX6_makeChain_163 : decode cX6_makeChain 163 = .ok (.istore 7, 2) := by decide +kernel
theorem dX6_makeChain_165 : decode cX6_makeChain 165 = .ok (.aload_n 0, 1) := by decide +kernel
theorem dX6_makeChain_166 : decode cX6_makeChain 166 = .ok (.getfield 30, 3) := by decide +kernel
theorem dX6_makeChain_169 : decode cX6_makeChain 169 = .ok (.iload 7, 2) := by decide +kernel
theorem dX6_makeChain_171 : decode cX6_makeChain 171 = .ok (.iconst 1, 1) := by decide +kernel
theorem dX6_makeChain_172 : decode cX6_makeChain 172 = .ok (.iadd, 1) := by decide +kernel
theorem dX6_makeChain_173 : decode cX6_makeChain 173 = .ok (.iaload, 1) := by decide +kernel
theorem dX6_makeChain_174 : decode cX6_makeChain 174 = .ok (.aload_n 0, 1) := by decide +kernel
theorem dX6_makeChain_175 : decode cX6_makeChain 175 = .ok (.getfield 84, 3) := by decide +kernel
theorem dX6_makeChain_178 : decode cX6_makeChain 178 = .ok (.iload 4, 2) := by decide +kernel
theorem dX6_makeChain_180 : decode cX6_makeChain 180 = .ok (.iaload, 1) := by decide +kernel
theorem dX6_makeChain_181 : decode cX6_makeChain 181 = .ok (.if_icmp .ne 27, 3) := by decide +kernel
theorem dX6_makeChain_184 : decode cX6_makeChain 184 = .ok (.aload_n 0, 1) := by decide +kernel
theorem dX6_makeChain_185 : decode cX6_makeChain 185 = .ok (.getfield 30, 3) := by decide +kernel
theorem dX6_makeChain_188 : decode cX6_makeChain 188 = .ok (.iload 7, 2) := by decide +kernel
theorem dX6_makeChain_190 : decode cX6_makeChain 190 = .ok (.iaload, 1) := by decide +kernel
theorem dX6_makeChain_191 : decode cX6_makeChain 191 = .ok (.invokestatic 239, 3) := by decide +kernel
theorem dX6_makeChain_194 : decode cX6_makeChain 194 = .ok (.ifCond .eq 14, 3) := by decide +kernel
theorem dX6_makeChain_197 : decode cX6_makeChain 197 = .ok (.aload_n 0, 1) := by decide +kernel
theorem dX6_makeChain_198 : decode cX6_makeChain 198 = .ok (.aload_n 0, 1) := by decide +kernel
theorem dX6_makeChain_199 : decode cX6_makeChain 199 = .ok (.getfield 78, 3) := by decide +kernel
theorem dX6_makeChain_202 : decode cX6_makeChain 202 = .ok (.iload 6, 2) := by decide +kernel
theorem dX6_makeChain_204 : decode cX6_makeChain 204 = .ok (.iaload, 1) := by decide +kernel
theorem dX6_makeChain_205 : decode cX6_makeChain 205 = .ok (.invokevirtual 235, 3) := by decide +kernel
theorem dX6_makeChain_208 : decode cX6_makeChain 208 = .ok (.iinc 6 1, 3) := by decide +kernel
theorem dX6_makeChain_211 : decode cX6_makeChain 211 = .ok (.goto (-65), 3) := by decide +kernel
theorem dX6_makeChain_214 : decode cX6_makeChain 214 = .ok (.iinc 4 (-1), 3) := by decide +kernel
theorem dX6_makeChain_217 : decode cX6_makeChain 217 = .ok (.goto (-128), 3) := by decide +kernel
theorem dX6_makeChain_220 : decode cX6_makeChain 220 = .ok (.return_, 1) := by decide +kernel
def j_X6_makeChain_208  (Q : St → Prop) (rec89 : Int32 → St → Prop) (rec146 : Int32 → Int32 → Int32 → St → Prop) (v4 : Int32) (v5 : Int32) (v6 : Int32) (σ : St) : Prop :=
  rec146 v4 v5 (v6 + 1) σ
theorem wk_X6_makeChain_208 (X : cx p s m args c cX6_makeChain 8 RX6 D (wM cI cZ a) A (tyW cI cZ cH)) (hr9 : meth.sig.returnType = none) (hlk9 : meth.locks = false)  {Q : St → Prop} {rec89 : Int32 → St → Prop} {rec146 : Int32 → Int32 → Int32 → St → Prop} (hrec89 : ∀ (v4 : Int32) (σ : St), rec89 v4 σ → go p l e rm_X6_makeChain s m args below meth c D (wM cI cZ a) A 0 0 (MQ below (va_Qv Q (atw D (wM cI cZ a) (tyW cI cZ cH) A) A) args s 0 0 A) 8 89 [(0, .ref (a 0)), (4, .int v4)] [] σ) (hrec146 : ∀ (v4 : Int32) (v5 : Int32) (v6 : Int32) (σ : St), rec146 v4 v5 v6 σ → go p l e rm_X6_makeChain s m args below meth c D (wM cI cZ a) A 0 0 (MQ below (va_Qv Q (atw D (wM cI cZ a) (tyW cI cZ cH) A) A) args s 0 0 A) 8 146 [(0, .ref (a 0)), (4, .int v4), (5, .int v5), (6, .int v6)] [] σ) {v4 : Int32} {v5 : Int32} {v6 : Int32} {σ : St} (h : j_X6_makeChain_208 Q rec89 rec146 v4 v5 v6 σ) : go p l e rm_X6_makeChain s m args below meth c D (wM cI cZ a) A 0 0 (MQ below (va_Qv Q (atw D (wM cI cZ a) (tyW cI cZ cH) A) A) args s 0 0 A) 8 208 [(0, .ref (a 0)), (4, .int v4), (5, .int v5), (6, .int v6)] [] σ := by
  delta j_X6_makeChain_208 at h
  refine r_iinc (d := 1) X 3 211 [(6, .int (v6 + 1)), (0, .ref (a 0)), (4, .int v4), (5, .int v5)] dX6_makeChain_208 rfl (by decide) (by decide) rfl rfl ?_
  refine r_goto X 146 dX6_makeChain_211 rfl ?_
  refine r_pick (lv' := [(0, .ref (a 0)), (4, .int v4), (5, .int v5), (6, .int (v6 + 1))]) [1, 2, 3, 0] rfl ?_
  exact hrec146 _ _ _ _ h
def b_X6_makeChain_146  (Q : St → Prop) (rec89 : Int32 → St → Prop) (rec146 : Int32 → Int32 → Int32 → St → Prop) (v4 : Int32) (v5 : Int32) (v6 : Int32) (σ : St) : Prop :=
  if v6 < v5 then
  (vp_in v6 401 ∧
  (nm (((8 : Int32) * (σ 20 (ix v6)))) (fun z4 =>
  vp_in (z4 + 1) 3208 ∧
  (vp_in v4 60 ∧
  (if (σ 6 (ix (z4 + 1))) = (σ 22 (ix v4)) then
  (vp_in z4 3208 ∧
  (wp_X6_isMove σ (σ 6 (ix z4)) (fun y6 σ5 =>
  if y6 = 0 then
  (j_X6_makeChain_208 Q rec89 rec146 v4 v5 v6 σ5)
  else (vp_in v6 401 ∧
  (wp_X6_put σ5 (σ5 20 (ix v6)) (fun σ7 =>
  j_X6_makeChain_208 Q rec89 rec146 v4 v5 v6 σ7))))))
  else (j_X6_makeChain_208 Q rec89 rec146 v4 v5 v6 σ))))))
  else (rec89 (v4 + (-1)) σ)
def lp_X6_makeChain_146  (Q : St → Prop) (rec89 : Int32 → St → Prop) (n9 : Nat) : Int32 → Int32 → Int32 → St → Prop :=
  Nat.rec (fun _ _ _ _ => False) (fun _ rec9 => b_X6_makeChain_146  Q rec89 rec9) n9
theorem wk_X6_makeChain_146 (X : cx p s m args c cX6_makeChain 8 RX6 D (wM cI cZ a) A (tyW cI cZ cH)) (hr9 : meth.sig.returnType = none) (hlk9 : meth.locks = false)  {Q : St → Prop} {rec89 : Int32 → St → Prop} (hrec89 : ∀ (v4 : Int32) (σ : St), rec89 v4 σ → go p l e rm_X6_makeChain s m args below meth c D (wM cI cZ a) A 0 0 (MQ below (va_Qv Q (atw D (wM cI cZ a) (tyW cI cZ cH) A) A) args s 0 0 A) 8 89 [(0, .ref (a 0)), (4, .int v4)] [] σ) : ∀ (n9 : Nat) {v4 : Int32} {v5 : Int32} {v6 : Int32} {σ : St}, lp_X6_makeChain_146 Q rec89 n9 v4 v5 v6 σ → go p l e rm_X6_makeChain s m args below meth c D (wM cI cZ a) A 0 0 (MQ below (va_Qv Q (atw D (wM cI cZ a) (tyW cI cZ cH) A) A) args s 0 0 A) 8 146 [(0, .ref (a 0)), (4, .int v4), (5, .int v5), (6, .int v6)] [] σ := by
  intro n9
  induction n9 with
  | zero => intro v4 v5 v6 σ h; exact h.elim
  | succ n9 ih =>
    intro v4 v5 v6 σ h
    have hrec146 := fun v4 v5 v6 σ h => ih (σ := σ) (v4 := v4) (v5 := v5) (v6 := v6) h
    replace h : b_X6_makeChain_146 Q rec89 (lp_X6_makeChain_146 Q rec89 n9) v4 v5 v6 σ := h
    delta b_X6_makeChain_146 at h
    refine r_iload X 3 148 dX6_makeChain_146 rfl rfl ?_
    refine r_iload X 2 150 dX6_makeChain_148 rfl rfl ?_
    refine r_icmp_ge X 214 153 h dX6_makeChain_150 rfl rfl (fun h => ?_) (fun h => ?_)
    · refine r_iinc (d := (-1)) X 1 217 [(4, .int (v4 + (-1))), (0, .ref (a 0)), (5, .int v5), (6, .int v6)] dX6_makeChain_214 rfl (by decide) (by decide) rfl rfl ?_
      refine r_goto X 89 dX6_makeChain_217 rfl ?_
      refine r_pick (lv' := [(0, .ref (a 0)), (4, .int (v4 + (-1)))]) [1, 0] rfl ?_
      exact hrec89 _ _ h
    · refine r_bipush (v := 8) X 155 dX6_makeChain_153 (by decide) rfl ?_
      refine r_aload_n X 0 156 dX6_makeChain_155 rfl rfl rfl ?_
      refine g_X6_78 X 159 dX6_makeChain_156 rfl ?_
      refine r_iload X 3 161 dX6_makeChain_159 rfl rfl ?_
      obtain ⟨hin, h⟩ := h
      refine l_M20 X 162 hin dX6_makeChain_161 rfl ?_
      refine r_imul X 163 dX6_makeChain_162 rfl ?_
      refine r_istoreN X 165 (fun z4 => [(7, .int z4), (0, .ref (a 0)), (4, .int v4), (5, .int v5), (6, .int v6)]) h dX6_makeChain_163 (by decide) (fun _ => rfl) rfl (fun z4 h => ?_)
      refine r_aload_n X 1 166 dX6_makeChain_165 rfl rfl rfl ?_
      refine g_X6_30 X 169 dX6_makeChain_166 rfl ?_
      refine r_iload X 0 171 dX6_makeChain_169 rfl rfl ?_
      refine r_iconst (v := 1) X 172 dX6_makeChain_171 (by decide) rfl ?_
      refine r_iadd X 173 dX6_makeChain_172 rfl ?_
      obtain ⟨hin, h⟩ := h
      refine l_Mk X (Or.inl rfl) 174 hin dX6_makeChain_173 rfl ?_
      refine r_aload_n X 1 175 dX6_makeChain_174 rfl rfl rfl ?_
      refine g_X6_84 X 178 dX6_makeChain_175 rfl ?_
      refine r_iload X 2 180 dX6_makeChain_178 rfl rfl ?_
      obtain ⟨hin, h⟩ := h
      refine l_M22 X 181 hin dX6_makeChain_180 rfl ?_
      refine r_icmp_ne X 208 184 h dX6_makeChain_181 rfl rfl (fun h => ?_) (fun h => ?_)
      · refine r_pick (lv' := [(0, .ref (a 0)), (4, .int v4), (5, .int v5), (6, .int v6)]) [1, 2, 3, 4] rfl ?_
        exact wk_X6_makeChain_208 X hr9 hlk9 hrec89 hrec146 h
      · refine r_aload_n X 1 185 dX6_makeChain_184 rfl rfl rfl ?_
        refine g_X6_30 X 188 dX6_makeChain_185 rfl ?_
        refine r_iload X 0 190 dX6_makeChain_188 rfl rfl ?_
        obtain ⟨hin, h⟩ := h
        refine l_Mk X (Or.inl rfl) 191 hin dX6_makeChain_190 rfl ?_
        refine r_callSI (As := [.int (σ 6 (ix z4))]) (rest := []) X 194 (c_X6_isMove h) ml_X6_239 lk_X6_isMove sy_X6_isMove rfl rfl (Nat.le_of_ble_eq_true rfl) ⟨rfl, rfl, ⟨Nat.le_of_ble_eq_true rfl, Nat.le_of_ble_eq_true rfl⟩, Nat.le_of_ble_eq_true rfl, Nat.le_of_ble_eq_true rfl⟩ dX6_makeChain_191 rfl (fun y6 σ5 h => ?_)
        obtain ⟨hb_y6, h⟩ := h
        refine r_if_eq X 208 197 h dX6_makeChain_194 rfl rfl (fun h => ?_) (fun h => ?_)
        · refine r_pick (lv' := [(0, .ref (a 0)), (4, .int v4), (5, .int v5), (6, .int v6)]) [1, 2, 3, 4] rfl ?_
          exact wk_X6_makeChain_208 X hr9 hlk9 hrec89 hrec146 h
        · refine r_aload_n X 1 198 dX6_makeChain_197 rfl rfl rfl ?_
          refine r_aload_n X 1 199 dX6_makeChain_198 rfl rfl rfl ?_
          refine g_X6_78 X 202 dX6_makeChain_199 rfl ?_
          refine r_iload X 4 204 dX6_makeChain_202 rfl rfl ?_
          obtain ⟨hin, h⟩ := h
          refine l_M20 X 205 hin dX6_makeChain_204 rfl ?_
          refine r_callV (As := [.int (σ5 20 (ix v6))]) (rest := []) X 208 (c_X6_put h) ml_X6_235 lk_X6_put wM_at_0 rfl rfl rfl (Nat.le_of_ble_eq_true rfl) ⟨rfl, rfl, ⟨Nat.le_of_ble_eq_true rfl, Nat.le_of_ble_eq_true rfl⟩, Nat.le_of_ble_eq_true rfl, Nat.le_of_ble_eq_true rfl⟩ dX6_makeChain_205 rfl (fun σ7 h => ?_)
          refine r_pick (lv' := [(0, .ref (a 0)), (4, .int v4), (5, .int v5), (6, .int v6)]) [1, 2, 3, 4] rfl ?_
          exact wk_X6_makeChain_208 X hr9 hlk9 hrec89 hrec146 h
def j_X6_makeChain_141  (Q : St → Prop) (rec89 : Int32 → St → Prop) (v4 : Int32) (s0 : Int32) (σ : St) : Prop :=
  ∃ n9 : Nat, lp_X6_makeChain_146 Q rec89 n9 v4 s0 0 σ
theorem wk_X6_makeChain_141 (X : cx p s m args c cX6_makeChain 8 RX6 D (wM cI cZ a) A (tyW cI cZ cH)) (hr9 : meth.sig.returnType = none) (hlk9 : meth.locks = false)  {Q : St → Prop} {rec89 : Int32 → St → Prop} (hrec89 : ∀ (v4 : Int32) (σ : St), rec89 v4 σ → go p l e rm_X6_makeChain s m args below meth c D (wM cI cZ a) A 0 0 (MQ below (va_Qv Q (atw D (wM cI cZ a) (tyW cI cZ cH) A) A) args s 0 0 A) 8 89 [(0, .ref (a 0)), (4, .int v4)] [] σ) {v4 : Int32} {s0 : Int32} {σ : St} (h : j_X6_makeChain_141 Q rec89 v4 s0 σ) : go p l e rm_X6_makeChain s m args below meth c D (wM cI cZ a) A 0 0 (MQ below (va_Qv Q (atw D (wM cI cZ a) (tyW cI cZ cH) A) A) args s 0 0 A) 8 141 [(0, .ref (a 0)), (4, .int v4)] [.int s0] σ := by
  delta j_X6_makeChain_141 at h
  refine r_istore X 143 [(5, .int s0), (0, .ref (a 0)), (4, .int v4)] dX6_makeChain_141 (by decide) rfl rfl ?_
  refine r_iconst (v := 0) X 144 dX6_makeChain_143 (by decide) rfl ?_
  refine r_istore X 146 [(6, .int 0), (5, .int s0), (0, .ref (a 0)), (4, .int v4)] dX6_makeChain_144 (by decide) rfl rfl ?_
  refine r_pick (lv' := [(0, .ref (a 0)), (4, .int v4), (5, .int s0), (6, .int 0)]) [2, 3, 1, 0] rfl ?_
  obtain ⟨n9, h⟩ := h
  exact wk_X6_makeChain_146 X hr9 hlk9 hrec89 n9 h
def j_X6_makeChain_120  (Q : St → Prop) (rec89 : Int32 → St → Prop) (v4 : Int32) (σ : St) : Prop :=
  if v4 = 0 then
  (j_X6_makeChain_141 Q rec89 v4 (σ 0 3) σ)
  else (vp_in (v4 - 1) 60 ∧
  (j_X6_makeChain_141 Q rec89 v4 (σ 23 (ix (v4 - 1))) σ))
theorem wk_X6_makeChain_120 (X : cx p s m args c cX6_makeChain 8 RX6 D (wM cI cZ a) A (tyW cI cZ cH)) (hr9 : meth.sig.returnType = none) (hlk9 : meth.locks = false)  {Q : St → Prop} {rec89 : Int32 → St → Prop} (hrec89 : ∀ (v4 : Int32) (σ : St), rec89 v4 σ → go p l e rm_X6_makeChain s m args below meth c D (wM cI cZ a) A 0 0 (MQ below (va_Qv Q (atw D (wM cI cZ a) (tyW cI cZ cH) A) A) args s 0 0 A) 8 89 [(0, .ref (a 0)), (4, .int v4)] [] σ) {v4 : Int32} {σ : St} (h : j_X6_makeChain_120 Q rec89 v4 σ) : go p l e rm_X6_makeChain s m args below meth c D (wM cI cZ a) A 0 0 (MQ below (va_Qv Q (atw D (wM cI cZ a) (tyW cI cZ cH) A) A) args s 0 0 A) 8 120 [(0, .ref (a 0)), (4, .int v4)] [] σ := by
  delta j_X6_makeChain_120 at h
  refine r_iload X 1 122 dX6_makeChain_120 rfl rfl ?_
  refine r_if_ne X 132 125 h dX6_makeChain_122 rfl rfl (fun h => ?_) (fun h => ?_)
  · refine r_aload_n X 0 133 dX6_makeChain_132 rfl rfl rfl ?_
    refine g_X6_87 X 136 dX6_makeChain_133 rfl ?_
    refine r_iload X 1 138 dX6_makeChain_136 rfl rfl ?_
    refine r_iconst (v := 1) X 139 dX6_makeChain_138 (by decide) rfl ?_
    refine r_isub X 140 dX6_makeChain_139 rfl ?_
    obtain ⟨hin, h⟩ := h
    refine l_M23 X 141 hin dX6_makeChain_140 rfl ?_
    refine r_pick (lv' := [(0, .ref (a 0)), (4, .int v4)]) [0, 1] rfl ?_
    exact wk_X6_makeChain_141 X hr9 hlk9 hrec89 h
  · refine r_aload_n X 0 126 dX6_makeChain_125 rfl rfl rfl ?_
    refine g_X6_195 X 129 dX6_makeChain_126 rfl ?_
    refine r_goto X 141 dX6_makeChain_129 rfl ?_
    refine r_pick (lv' := [(0, .ref (a 0)), (4, .int v4)]) [0, 1] rfl ?_
    exact wk_X6_makeChain_141 X hr9 hlk9 hrec89 h
def b_X6_makeChain_89  (Q : St → Prop) (rec89 : Int32 → St → Prop) (v4 : Int32) (σ : St) : Prop :=
  if v4 < 0 then
  (Q σ)
  else (vp_in v4 60 ∧
  (if (σ 23 (ix v4)) < 0 then
  (j_X6_makeChain_120 Q rec89 v4 σ)
  else (vp_in v4 60 ∧
  (vp_in (σ 23 (ix v4)) 401 ∧
  (wp_X6_put σ (σ 20 (ix (σ 23 (ix v4)))) (fun σ8 =>
  j_X6_makeChain_120 Q rec89 v4 σ8))))))
def lp_X6_makeChain_89  (Q : St → Prop) (n9 : Nat) : Int32 → St → Prop :=
  Nat.rec (fun _ _ => False) (fun _ rec9 => b_X6_makeChain_89  Q  rec9) n9
theorem wk_X6_makeChain_89 (X : cx p s m args c cX6_makeChain 8 RX6 D (wM cI cZ a) A (tyW cI cZ cH)) (hr9 : meth.sig.returnType = none) (hlk9 : meth.locks = false)  {Q : St → Prop} : ∀ (n9 : Nat) {v4 : Int32} {σ : St}, lp_X6_makeChain_89 Q n9 v4 σ → go p l e rm_X6_makeChain s m args below meth c D (wM cI cZ a) A 0 0 (MQ below (va_Qv Q (atw D (wM cI cZ a) (tyW cI cZ cH) A) A) args s 0 0 A) 8 89 [(0, .ref (a 0)), (4, .int v4)] [] σ := by
  intro n9
  induction n9 with
  | zero => intro v4 σ h; exact h.elim
  | succ n9 ih =>
    intro v4 σ h
    have hrec89 := fun v4 σ h => ih (σ := σ) (v4 := v4) h
    replace h : b_X6_makeChain_89 Q (lp_X6_makeChain_89 Q n9) v4 σ := h
    delta b_X6_makeChain_89 at h
    refine r_iload X 1 91 dX6_makeChain_89 rfl rfl ?_
    refine r_if_lt X 220 94 h dX6_makeChain_91 rfl rfl (fun h => ?_) (fun h => ?_)
    · exact r_vret X hr9 hlk9 h dX6_makeChain_220
    · refine r_aload_n X 0 95 dX6_makeChain_94 rfl rfl rfl ?_
      refine g_X6_87 X 98 dX6_makeChain_95 rfl ?_
      refine r_iload X 1 100 dX6_makeChain_98 rfl rfl ?_
      obtain ⟨hin, h⟩ := h
      refine l_M23 X 101 hin dX6_makeChain_100 rfl ?_
      refine r_if_lt X 120 104 h dX6_makeChain_101 rfl rfl (fun h => ?_) (fun h => ?_)
      · refine r_pick (lv' := [(0, .ref (a 0)), (4, .int v4)]) [0, 1] rfl ?_
        exact wk_X6_makeChain_120 X hr9 hlk9 hrec89 h
      · refine r_aload_n X 0 105 dX6_makeChain_104 rfl rfl rfl ?_
        refine r_aload_n X 0 106 dX6_makeChain_105 rfl rfl rfl ?_
        refine g_X6_78 X 109 dX6_makeChain_106 rfl ?_
        refine r_aload_n X 0 110 dX6_makeChain_109 rfl rfl rfl ?_
        refine g_X6_87 X 113 dX6_makeChain_110 rfl ?_
        refine r_iload X 1 115 dX6_makeChain_113 rfl rfl ?_
        obtain ⟨hin, h⟩ := h
        refine l_M23 X 116 hin dX6_makeChain_115 rfl ?_
        obtain ⟨hin, h⟩ := h
        refine l_M20 X 117 hin dX6_makeChain_116 rfl ?_
        refine r_callV (As := [.int (σ 20 (ix (σ 23 (ix v4))))]) (rest := []) X 120 (c_X6_put h) ml_X6_235 lk_X6_put wM_at_0 rfl rfl rfl (Nat.le_of_ble_eq_true rfl) ⟨rfl, rfl, ⟨Nat.le_of_ble_eq_true rfl, Nat.le_of_ble_eq_true rfl⟩, Nat.le_of_ble_eq_true rfl, Nat.le_of_ble_eq_true rfl⟩ dX6_makeChain_117 rfl (fun σ8 h => ?_)
        refine r_pick (lv' := [(0, .ref (a 0)), (4, .int v4)]) [0, 1] rfl ?_
        exact wk_X6_makeChain_120 X hr9 hlk9 hrec89 h
def j_X6_makeChain_77  (Q : St → Prop) (rec21 : Int32 → Int32 → St → Prop) (v2 : Int32) (s0 : Int32) (σ : St) : Prop :=
  rec21 (v2 + 1) s0 σ
theorem wk_X6_makeChain_77 (X : cx p s m args c cX6_makeChain 8 RX6 D (wM cI cZ a) A (tyW cI cZ cH)) (hr9 : meth.sig.returnType = none) (hlk9 : meth.locks = false)  {Q : St → Prop} {rec21 : Int32 → Int32 → St → Prop} (hrec21 : ∀ (v2 : Int32) (v3 : Int32) (σ : St), rec21 v2 v3 σ → go p l e rm_X6_makeChain s m args below meth c D (wM cI cZ a) A 0 0 (MQ below (va_Qv Q (atw D (wM cI cZ a) (tyW cI cZ cH) A) A) args s 0 0 A) 8 21 [(0, .ref (a 0)), (2, .int v2), (3, .int v3)] [] σ) {v2 : Int32} {s0 : Int32} {σ : St} (h : j_X6_makeChain_77 Q rec21 v2 s0 σ) : go p l e rm_X6_makeChain s m args below meth c D (wM cI cZ a) A 0 0 (MQ below (va_Qv Q (atw D (wM cI cZ a) (tyW cI cZ cH) A) A) args s 0 0 A) 8 77 [(0, .ref (a 0)), (2, .int v2)] [.int s0] σ := by
  delta j_X6_makeChain_77 at h
  refine r_istore_n X 78 [(3, .int s0), (0, .ref (a 0)), (2, .int v2)] dX6_makeChain_77 rfl (by decide) rfl rfl ?_
  refine r_iinc (d := 1) X 2 81 [(2, .int (v2 + 1)), (3, .int s0), (0, .ref (a 0))] dX6_makeChain_78 rfl (by decide) (by decide) rfl rfl ?_
  refine r_goto X 21 dX6_makeChain_81 rfl ?_
  refine r_pick (lv' := [(0, .ref (a 0)), (2, .int (v2 + 1)), (3, .int s0)]) [2, 0, 1] rfl ?_
  exact hrec21 _ _ _ h
def b_X6_makeChain_21  (Q : St → Prop) (rec21 : Int32 → Int32 → St → Prop) (v2 : Int32) (v3 : Int32) (σ : St) : Prop :=
  if v3 < 0 then
  (nm ((v2 - 1)) (fun z3 =>
  ∃ n9 : Nat, lp_X6_makeChain_89 Q n9 z3 σ))
  else (vp_in v2 60 ∧
  nmS (up2 σ 22 (ix v2) v3) (fun σ9 =>
  wp_X6_cameAt σ9 v3 (fun y11 σ10 =>
  vp_in v2 60 ∧
  nmS (up2 σ10 23 (ix v2) y11) (fun σ12 =>
  vp_in v2 60 ∧
  (if (σ12 23 (ix v2)) < 0 then
  (j_X6_makeChain_77 Q rec21 v2 (-1) σ12)
  else (vp_in v2 60 ∧
  (vp_in (σ12 23 (ix v2)) 401 ∧
  (vp_in (((8 : Int32) * (σ12 20 (ix (σ12 23 (ix v2))))) + 1) 3208 ∧
  (j_X6_makeChain_77 Q rec21 v2 (σ12 6 (ix (((8 : Int32) * (σ12 20 (ix (σ12 23 (ix v2))))) + 1))) σ12)))))))))
def lp_X6_makeChain_21  (Q : St → Prop) (n9 : Nat) : Int32 → Int32 → St → Prop :=
  Nat.rec (fun _ _ _ => False) (fun _ rec9 => b_X6_makeChain_21  Q  rec9) n9
theorem wk_X6_makeChain_21 (X : cx p s m args c cX6_makeChain 8 RX6 D (wM cI cZ a) A (tyW cI cZ cH)) (hr9 : meth.sig.returnType = none) (hlk9 : meth.locks = false)  {Q : St → Prop} : ∀ (n9 : Nat) {v2 : Int32} {v3 : Int32} {σ : St}, lp_X6_makeChain_21 Q n9 v2 v3 σ → go p l e rm_X6_makeChain s m args below meth c D (wM cI cZ a) A 0 0 (MQ below (va_Qv Q (atw D (wM cI cZ a) (tyW cI cZ cH) A) A) args s 0 0 A) 8 21 [(0, .ref (a 0)), (2, .int v2), (3, .int v3)] [] σ := by
  intro n9
  induction n9 with
  | zero => intro v2 v3 σ h; exact h.elim
  | succ n9 ih =>
    intro v2 v3 σ h
    have hrec21 := fun v2 v3 σ h => ih (σ := σ) (v2 := v2) (v3 := v3) h
    replace h : b_X6_makeChain_21 Q (lp_X6_makeChain_21 Q n9) v2 v3 σ := h
    delta b_X6_makeChain_21 at h
    refine r_iload_n X 2 22 dX6_makeChain_21 rfl rfl rfl ?_
    refine r_if_lt X 84 25 h dX6_makeChain_22 rfl rfl (fun h => ?_) (fun h => ?_)
    · refine r_iload_n X 1 85 dX6_makeChain_84 rfl rfl rfl ?_
      refine r_iconst (v := 1) X 86 dX6_makeChain_85 (by decide) rfl ?_
      refine r_isub X 87 dX6_makeChain_86 rfl ?_
      refine r_istoreN X 89 (fun z3 => [(4, .int z3), (0, .ref (a 0)), (2, .int v2), (3, .int v3)]) h dX6_makeChain_87 (by decide) (fun _ => rfl) rfl (fun z3 h => ?_)
      refine r_pick (lv' := [(0, .ref (a 0)), (4, .int z3)]) [1, 0] rfl ?_
      obtain ⟨n9, h⟩ := h
      exact wk_X6_makeChain_89 X hr9 hlk9 n9 h
    · refine r_aload_n X 0 26 dX6_makeChain_25 rfl rfl rfl ?_
      refine g_X6_84 X 29 dX6_makeChain_26 rfl ?_
      refine r_iload_n X 1 30 dX6_makeChain_29 rfl rfl rfl ?_
      refine r_iload_n X 2 31 dX6_makeChain_30 rfl rfl rfl ?_
      obtain ⟨hin, h⟩ := h
      refine s_M22 X 32 hin dX6_makeChain_31 rfl ?_
      refine r_nmS h (fun σ9 h => ?_)
      refine r_aload_n X 0 33 dX6_makeChain_32 rfl rfl rfl ?_
      refine g_X6_87 X 36 dX6_makeChain_33 rfl ?_
      refine r_iload_n X 1 37 dX6_makeChain_36 rfl rfl rfl ?_
      refine r_aload_n X 0 38 dX6_makeChain_37 rfl rfl rfl ?_
      refine r_iload_n X 2 39 dX6_makeChain_38 rfl rfl rfl ?_
      refine r_callI (As := [.int v3]) (rest := [.int v2, .ref (a 23)]) X 42 (c_X6_cameAt h) ml_X6_232 lk_X6_cameAt wM_at_0 rfl rfl rfl (Nat.le_of_ble_eq_true rfl) ⟨rfl, rfl, ⟨Nat.le_of_ble_eq_true rfl, Nat.le_of_ble_eq_true rfl⟩, Nat.le_of_ble_eq_true rfl, Nat.le_of_ble_eq_true rfl⟩ dX6_makeChain_39 rfl (fun y11 σ10 h => ?_)
      obtain ⟨hin, h⟩ := h
      refine s_M23 X 43 hin dX6_makeChain_42 rfl ?_
      refine r_nmS h (fun σ12 h => ?_)
      refine r_aload_n X 0 44 dX6_makeChain_43 rfl rfl rfl ?_
      refine g_X6_87 X 47 dX6_makeChain_44 rfl ?_
      refine r_iload_n X 1 48 dX6_makeChain_47 rfl rfl rfl ?_
      obtain ⟨hin, h⟩ := h
      refine l_M23 X 49 hin dX6_makeChain_48 rfl ?_
      refine r_if_ge X 56 52 h dX6_makeChain_49 rfl rfl (fun h => ?_) (fun h => ?_)
      · refine r_aload_n X 0 57 dX6_makeChain_56 rfl rfl rfl ?_
        refine g_X6_30 X 60 dX6_makeChain_57 rfl ?_
        refine r_bipush (v := 8) X 62 dX6_makeChain_60 (by decide) rfl ?_
        refine r_aload_n X 0 63 dX6_makeChain_62 rfl rfl rfl ?_
        refine g_X6_78 X 66 dX6_makeChain_63 rfl ?_
        refine r_aload_n X 0 67 dX6_makeChain_66 rfl rfl rfl ?_
        refine g_X6_87 X 70 dX6_makeChain_67 rfl ?_
        refine r_iload_n X 1 71 dX6_makeChain_70 rfl rfl rfl ?_
        obtain ⟨hin, h⟩ := h
        refine l_M23 X 72 hin dX6_makeChain_71 rfl ?_
        obtain ⟨hin, h⟩ := h
        refine l_M20 X 73 hin dX6_makeChain_72 rfl ?_
        refine r_imul X 74 dX6_makeChain_73 rfl ?_
        refine r_iconst (v := 1) X 75 dX6_makeChain_74 (by decide) rfl ?_
        refine r_iadd X 76 dX6_makeChain_75 rfl ?_
        obtain ⟨hin, h⟩ := h
        refine l_Mk X (Or.inl rfl) 77 hin dX6_makeChain_76 rfl ?_
        refine r_pick (lv' := [(0, .ref (a 0)), (2, .int v2)]) [0, 1] rfl ?_
        exact wk_X6_makeChain_77 X hr9 hlk9 hrec21 h
      · refine r_iconst (v := (-1)) X 53 dX6_makeChain_52 (by decide) rfl ?_
        refine r_goto X 77 dX6_makeChain_53 rfl ?_
        refine r_pick (lv' := [(0, .ref (a 0)), (2, .int v2)]) [0, 1] rfl ?_
        exact wk_X6_makeChain_77 X hr9 hlk9 hrec21 h
def wp_X6_makeChain  (σ : St) (x1 : Int32) (Q : St → Prop) : Prop :=
  wp_X6_sort 6 σ (σ 0 3) (fun σ1 =>
  nmS (up2 σ1 0 30 0) (fun σ2 =>
  ∃ n9 : Nat, lp_X6_makeChain_21 Q n9 0 x1 σ2))
theorem c_X6_makeChain  {σ : St} {x1 : Int32} {Q : St → Prop} (h : wp_X6_makeChain σ x1 Q) : ctV l yX6_makeChain cX6_makeChain 8 none rm_X6_makeChain D (wM cI cZ a) (tyW cI cZ cH) [.ref (a 0), .int x1] σ Q := by
  refine mk_V (wM_ok cI cZ a) (by decide +kernel) (Nat.le_of_ble_eq_true rfl) (fun p e s m args below meth c A X hr9 hlk9 => ?_)
  refine r_pick (lv' := [(0, .ref (a 0)), (1, .int x1)]) [0, 1] rfl ?_
  delta wp_X6_makeChain at h
  refine r_aload_n X 0 1 dX6_makeChain_0 rfl rfl rfl ?_
  refine r_aload_n X 0 2 dX6_makeChain_1 rfl rfl rfl ?_
  refine g_X6_30 X 5 dX6_makeChain_2 rfl ?_
  refine r_aload_n X 0 6 dX6_makeChain_5 rfl rfl rfl ?_
  refine g_X6_195 X 9 dX6_makeChain_6 rfl ?_
  refine r_callV (As := [.ref (a 6), .int (σ 0 3)]) (rest := []) X 12 (c_X6_sort (Or.inl rfl) h) ml_X6_184 lk_X6_sort wM_at_0 rfl rfl rfl (Nat.le_of_ble_eq_true rfl) ⟨rfl, rfl, ⟨Nat.le_of_ble_eq_true rfl, Nat.le_of_ble_eq_true rfl⟩, Nat.le_of_ble_eq_true rfl, Nat.le_of_ble_eq_true rfl⟩ dX6_makeChain_9 rfl (fun σ1 h => ?_)
  refine r_aload_n X 0 13 dX6_makeChain_12 rfl rfl rfl ?_
  refine r_iconst (v := 0) X 14 dX6_makeChain_13 (by decide) rfl ?_
  refine u_X6_229 X 17 dX6_makeChain_14 rfl ?_
  refine r_nmS h (fun σ2 h => ?_)
  refine r_iconst (v := 0) X 18 dX6_makeChain_17 (by decide) rfl ?_
  refine r_istore_n X 19 [(2, .int 0), (0, .ref (a 0)), (1, .int x1)] dX6_makeChain_18 rfl (by decide) rfl rfl ?_
  refine r_iload_n X 2 20 dX6_makeChain_19 rfl rfl rfl ?_
  refine r_istore_n X 21 [(3, .int x1), (2, .int 0), (0, .ref (a 0)), (1, .int x1)] dX6_makeChain_20 rfl (by decide) rfl rfl ?_
  refine r_pick (lv' := [(0, .ref (a 0)), (2, .int 0), (3, .int x1)]) [2, 1, 0] rfl ?_
  obtain ⟨n9, h⟩ := h
  exact wk_X6_makeChain_21 X hr9 hlk9 n9 h
def rm_X6_chain : Room := { frames := 2, cells := 0, slots := 0, locals := 51 }
theorem dX6_chain_0 : decode cX6_chain 0 = .ok (.iload_n 1, 1) := by decide +kernel
theorem dX6_chain_1 : decode cX6_chain 1 = .ok (.iconst 0, 1) := by decide +kernel
theorem dX6_chain_2 : decode cX6_chain 2 = .ok (.aload_n 0, 1) := by decide +kernel
theorem dX6_chain_3 : decode cX6_chain 3 = .ok (.getfield 93, 3) := by decide +kernel
theorem dX6_chain_6 : decode cX6_chain 6 = .ok (.iconst 1, 1) := by decide +kernel
theorem dX6_chain_7 : decode cX6_chain 7 = .ok (.isub, 1) := by decide +kernel
theorem dX6_chain_8 : decode cX6_chain 8 = .ok (.invokestatic 96, 3) := by decide +kernel
theorem dX6_chain_11 : decode cX6_chain 11 = .ok (.ifCond .ne 5, 3) := by decide +kernel
theorem dX6_chain_14 : decode cX6_chain 14 = .ok (.iconst (-1), 1) := by decide +kernel
theorem dX6_chain_15 : decode cX6_chain 15 = .ok (.ireturn, 1) := by decide +kernel
theorem dX6_chain_16 : decode cX6_chain 16 = .ok (.aload_n 0, 1) := by decide +kernel
theorem dX6_chain_17 : decode cX6_chain 17 = .ok (.iload_n 1, 1) := by decide +kernel
theorem dX6_chain_18 : decode cX6_chain 18 = .ok (.invokevirtual 242, 3) := by decide +kernel
theorem dX6_chain_21 : decode cX6_chain 21 = .ok (.iload_n 2, 1) := by decide +kernel
theorem dX6_chain_22 : decode cX6_chain 22 = .ok (.iconst 0, 1) := by decide +kernel
theorem dX6_chain_23 : decode cX6_chain 23 = .ok (.aload_n 0, 1) := by decide +kernel
theorem dX6_chain_24 : decode cX6_chain 24 = .ok (.getfield 229, 3) := by decide +kernel
theorem dX6_chain_27 : decode cX6_chain 27 = .ok (.iconst 1, 1) := by decide +kernel
theorem dX6_chain_28 : decode cX6_chain 28 = .ok (.isub, 1) := by decide +kernel
theorem dX6_chain_29 : decode cX6_chain 29 = .ok (.invokestatic 96, 3) := by decide +kernel
theorem dX6_chain_32 : decode cX6_chain 32 = .ok (.ifCond .eq 12, 3) := by decide +kernel
theorem dX6_chain_35 : decode cX6_chain 35 = .ok (.aload_n 0, 1) := by decide +kernel
theorem dX6_chain_36 : decode cX6_chain 36 = .ok (.getfield 81, 3) := by decide +kernel
theorem dX6_chain_39 : decode cX6_chain 39 = .ok (.iload_n 2, 1) := by decide +kernel
theorem dX6_chain_40 : decode cX6_chain 40 = .ok (.iaload, 1) := by decide +kernel
theorem dX6_chain_41 : decode cX6_chain 41 = .ok (.goto 4, 3) := by decide +kernel
theorem dX6_chain_44 : decode cX6_chain 44 = .ok (.iconst (-1), 1) := by decide +kernel
theorem dX6_chain_45 : decode cX6_chain 45 = .ok (.ireturn, 1) := by decide +kernel
def wp_X6_chain  (σ : St) (x1 : Int32) (x2 : Int32) (Q : Int32 → St → Prop) : Prop :=
  wp_X6_isIn σ x1 0 ((σ 0 2) - 1) (fun y2 σ1 =>
  if y2 = 0 then
  (Q (-1) σ1)
  else (wp_X6_makeChain σ1 x1 (fun σ3 =>
  wp_X6_isIn σ3 x2 0 ((σ3 0 30) - 1) (fun y5 σ4 =>
  if y5 = 0 then
  (Q (-1) σ4)
  else (vp_in x2 800 ∧
  (Q (σ4 21 (ix x2)) σ4))))))
theorem c_X6_chain  {σ : St} {x1 : Int32} {x2 : Int32} {Q : Int32 → St → Prop} (h : wp_X6_chain σ x1 x2 Q) : ctI l yX6_chain cX6_chain 3 (some .int) rm_X6_chain D (wM cI cZ a) (tyW cI cZ cH) [.ref (a 0), .int x1, .int x2] σ Q := by
  refine mk_I (wM_ok cI cZ a) (by decide +kernel) (Nat.le_of_ble_eq_true rfl) (fun p e s m args below meth c A X hr9 hlk9 => ?_)
  refine r_pick (lv' := [(0, .ref (a 0)), (1, .int x1), (2, .int x2)]) [0, 1, 2] rfl ?_
  delta wp_X6_chain at h
  refine r_iload_n X 1 1 dX6_chain_0 rfl rfl rfl ?_
  refine r_iconst (v := 0) X 2 dX6_chain_1 (by decide) rfl ?_
  refine r_aload_n X 0 3 dX6_chain_2 rfl rfl rfl ?_
  refine g_X6_93 X 6 dX6_chain_3 rfl ?_
  refine r_iconst (v := 1) X 7 dX6_chain_6 (by decide) rfl ?_
  refine r_isub X 8 dX6_chain_7 rfl ?_
  refine r_callSI (As := [.int x1, .int 0, .int ((σ 0 2) - 1)]) (rest := []) X 11 (c_X6_isIn h) ml_X6_96 lk_X6_isIn sy_X6_isIn rfl rfl (Nat.le_of_ble_eq_true rfl) ⟨rfl, rfl, ⟨Nat.le_of_ble_eq_true rfl, Nat.le_of_ble_eq_true rfl⟩, Nat.le_of_ble_eq_true rfl, Nat.le_of_ble_eq_true rfl⟩ dX6_chain_8 rfl (fun y2 σ1 h => ?_)
  obtain ⟨hb_y2, h⟩ := h
  refine r_if_ne X 16 14 h dX6_chain_11 rfl rfl (fun h => ?_) (fun h => ?_)
  · refine r_aload_n X 0 17 dX6_chain_16 rfl rfl rfl ?_
    refine r_iload_n X 1 18 dX6_chain_17 rfl rfl rfl ?_
    refine r_callV (As := [.int x1]) (rest := []) X 21 (c_X6_makeChain h) ml_X6_242 lk_X6_makeChain wM_at_0 rfl rfl rfl (Nat.le_of_ble_eq_true rfl) ⟨rfl, rfl, ⟨Nat.le_of_ble_eq_true rfl, Nat.le_of_ble_eq_true rfl⟩, Nat.le_of_ble_eq_true rfl, Nat.le_of_ble_eq_true rfl⟩ dX6_chain_18 rfl (fun σ3 h => ?_)
    refine r_iload_n X 2 22 dX6_chain_21 rfl rfl rfl ?_
    refine r_iconst (v := 0) X 23 dX6_chain_22 (by decide) rfl ?_
    refine r_aload_n X 0 24 dX6_chain_23 rfl rfl rfl ?_
    refine g_X6_229 X 27 dX6_chain_24 rfl ?_
    refine r_iconst (v := 1) X 28 dX6_chain_27 (by decide) rfl ?_
    refine r_isub X 29 dX6_chain_28 rfl ?_
    refine r_callSI (As := [.int x2, .int 0, .int ((σ3 0 30) - 1)]) (rest := []) X 32 (c_X6_isIn h) ml_X6_96 lk_X6_isIn sy_X6_isIn rfl rfl (Nat.le_of_ble_eq_true rfl) ⟨rfl, rfl, ⟨Nat.le_of_ble_eq_true rfl, Nat.le_of_ble_eq_true rfl⟩, Nat.le_of_ble_eq_true rfl, Nat.le_of_ble_eq_true rfl⟩ dX6_chain_29 rfl (fun y5 σ4 h => ?_)
    obtain ⟨hb_y5, h⟩ := h
    refine r_if_eq X 44 35 h dX6_chain_32 rfl rfl (fun h => ?_) (fun h => ?_)
    · refine r_iconst (v := (-1)) X 45 dX6_chain_44 (by decide) rfl ?_
      exact r_iret X hr9 hlk9 h dX6_chain_45
    · refine r_aload_n X 0 36 dX6_chain_35 rfl rfl rfl ?_
      refine g_X6_81 X 39 dX6_chain_36 rfl ?_
      refine r_iload_n X 2 40 dX6_chain_39 rfl rfl rfl ?_
      obtain ⟨hin, h⟩ := h
      refine l_M21 X 41 hin dX6_chain_40 rfl ?_
      refine r_goto X 45 dX6_chain_41 rfl ?_
      exact r_iret X hr9 hlk9 h dX6_chain_45
  · refine r_iconst (v := (-1)) X 15 dX6_chain_14 (by decide) rfl ?_
    exact r_iret X hr9 hlk9 h dX6_chain_15
def rm_X6_gap : Room := { frames := 2, cells := 0, slots := 0, locals := 51 }
theorem dX6_gap_0 : decode cX6_gap 0 = .ok (.iload_n 1, 1) := by decide +kernel
theorem dX6_gap_1 : decode cX6_gap 1 = .ok (.iconst 0, 1) := by decide +kernel
theorem dX6_gap_2 : decode cX6_gap 2 = .ok (.aload_n 0, 1) := by decide +kernel
theorem dX6_gap_3 : decode cX6_gap 3 = .ok (.getfield 93, 3) := by decide +kernel
theorem dX6_gap_6 : decode cX6_gap 6 = .ok (.iconst 1, 1) := by decide +kernel
theorem dX6_gap_7 : decode cX6_gap 7 = .ok (.isub, 1) := by decide +kernel
theorem dX6_gap_8 : decode cX6_gap 8 = .ok (.invokestatic 96, 3) := by decide +kernel
theorem dX6_gap_11 : decode cX6_gap 11 = .ok (.ifCond .eq 16, 3) := by decide +kernel
theorem dX6_gap_14 : decode cX6_gap 14 = .ok (.iload_n 3, 1) := by decide +kernel
theorem dX6_gap_15 : decode cX6_gap 15 = .ok (.iconst 0, 1) := by decide +kernel
theorem dX6_gap_16 : decode cX6_gap 16 = .ok (.iconst 3, 1) := by decide +kernel
theorem dX6_gap_17 : decode cX6_gap 17 = .ok (.invokestatic 96, 3) := by decide +kernel
theorem dX6_gap_20 : decode cX6_gap 20 = .ok (.ifCond .eq 7, 3) := by decide +kernel
theorem dX6_gap_23 : decode cX6_gap 23 = .ok (.iload_n 2, 1) := by decide +kernel
theorem dX6_gap_24 : decode cX6_gap 24 = .ok (.ifCond .ge 5, 3) := by decide +kernel
theorem dX6_gap_27 : decode cX6_gap 27 = .ok (.iconst (-1), 1) := by decide +kernel
theorem dX6_gap_28 : decode cX6_gap 28 = .ok (.ireturn, 1) := by decide +kernel
theorem dX6_gap_29 : decode cX6_gap 29 = .ok (.aload_n 0, 1) := by decide +kernel
theorem dX6_gap_30 : decode cX6_gap 30 = .ok (.iload_n 1, 1) := by decide +kernel
theorem dX6_gap_31 : decode cX6_gap 31 = .ok (.invokevirtual 242, 3) := by decide +kernel
theorem dX6_gap_34 : decode cX6_gap 34 = .ok (.iconst 0, 1) := by decide +kernel
theorem dX6_gap_35 : decode cX6_gap 35 = .ok (.istore 4, 2) := by decide +kernel
theorem dX6_gap_37 : decode cX6_gap 37 = .ok (.iconst 1, 1) := by decide +kernel
theorem dX6_gap_38 : decode cX6_gap 38 = .ok (.istore 5, 2) := by decide +kernel
theorem dX6_gap_40 : decode cX6_gap 40 = .ok (.iload 5, 2) := by decide +kernel
theorem dX6_gap_42 : decode cX6_gap 42 = .ok (.aload_n 0, 1) := by decide +kernel
theorem dX6_gap_43 : decode cX6_gap 43 = .ok (.getfield 229, 3) := by decide +kernel
theorem dX6_gap_46 : decode cX6_gap 46 = .ok (.if_icmp .ge 119, 3) := by decide +kernel
theorem dX6_gap_49 : decode cX6_gap 49 = .ok (.aload_n 0, 1) := by decide +kernel
theorem dX6_gap_50 : decode cX6_gap 50 = .ok (.getfield 30, 3) := by decide +kernel
theorem dX6_gap_53 : decode cX6_gap 53 = .ok (.bipush 8, 2) := by decide +kernel
theorem dX6_gap_55 : decode cX6_gap 55 = .ok (.aload_n 0, 1) := by decide +kernel
theorem dX6_gap_56 : decode cX6_gap 56 = .ok (.getfield 81, 3) := by decide +kernel
theorem dX6_gap_59 : decode cX6_gap 59 = .ok (.iload 5, 2) := by decide +kernel
theorem dX6_gap_61 : decode cX6_gap 61 = .ok (.iaload, 1) := by decide +kernel
theorem dX6_gap_62 : decode cX6_gap 62 = .ok (.imul, 1) := by decide +kernel
theorem dX6_gap_63 : decode cX6_gap 63 = .ok (.iaload, 1) := by decide +kernel
theorem dX6_gap_64 : decode cX6_gap 64 = .ok (.bipush 19, 2) := by decide +kernel
theorem dX6_gap_66 : decode cX6_gap 66 = .ok (.if_icmp .eq 6, 3) := by decide +kernel
theorem dX6_gap_69 : decode cX6_gap 69 = .ok (.goto 90, 3) := by decide +kernel
theorem dX6_gap_72 : decode cX6_gap 72 = .ok (.iload 4, 2) := by decide +kernel
theorem dX6_gap_74 : decode cX6_gap 74 = .ok (.iload_n 2, 1) := by decide +kernel
theorem dX6_gap_75 : decode cX6_gap 75 = .ok (.if_icmp .ne 81, 3) := by decide +kernel
theorem dX6_gap_78 : decode cX6_gap 78 = .ok (.iload_n 3, 1) := by decide +kernel
theorem dX6_gap_79 : decode cX6_gap 79 = .ok (.ifCond .ne 26, 3) := by decide +kernel
theorem dX6_gap_82 : decode cX6_gap 82 = .ok (.aload_n 0, 1) := by decide +kernel
theorem dX6_gap_83 : decode cX6_gap 83 = .ok (.getfield 30, 3) := by decide +kernel
theorem dX6_gap_86 : decode cX6_gap 86 = .ok (.bipush 8, 2) := by decide +kernel
theorem dX6_gap_88 : decode cX6_gap 88 = .ok (.aload_n 0, 1) := by decide +kernel
theorem dX6_gap_89 : decode cX6_gap 89 = .ok (.getfield 81, 3) := by decide +kernel
theorem dX6_gap_92 : decode cX6_gap 92 = .ok (.iload 5, 2) := by decide +kernel
theorem dX6_gap_94 : decode cX6_gap 94 = .ok (.iconst 1, 1) := by decide +kernel
theorem dX6_gap_95 : decode cX6_gap 95 = .ok (.isub, 1) := by decide +kernel
theorem dX6_gap_96 : decode cX6_gap 96 = .ok (.iaload, 1) := by decide +kernel
theorem dX6_gap_97 : decode cX6_gap 97 = .ok (.imul, 1) := by decide +kernel
theorem dX6_gap_98 : decode cX6_gap 98 = .ok (.bipush 6, 2) := by decide +kernel
theorem dX6_gap_100 : decode cX6_gap 100 = .ok (.iadd, 1) := by decide +kernel
theorem dX6_gap_101 : decode cX6_gap 101 = .ok (.iaload, 1) := by decide +kernel
theorem dX6_gap_102 : decode cX6_gap 102 = .ok (.goto 53, 3) := by decide +kernel
theorem dX6_gap_105 : decode cX6_gap 105 = .ok (.iload_n 3, 1) := by decide +kernel
theorem dX6_gap_106 : decode cX6_gap 106 = .ok (.iconst 1, 1) := by decide +kernel
theorem dX6_gap_107 : decode cX6_gap 107 = .ok (.if_icmp .ne 24, 3) := by decide +kernel
theorem dX6_gap_110 : decode cX6_gap 110 = .ok (.aload_n 0, 1) := by decide +kernel
theorem dX6_gap_111 : decode cX6_gap 111 = .ok (.getfield 30, 3) := by decide +kernel
theorem dX6_gap_114 : decode cX6_gap 114 = .ok (.bipush 8, 2) := by decide +kernel
theorem dX6_gap_116 : decode cX6_gap 116 = .ok (.aload_n 0, 1) := by decide +kernel
theorem dX6_gap_117 : decode cX6_gap 117 = .ok (.getfield 81, 3) := by decide +kernel
theorem dX6_gap_120 : decode cX6_gap 120 = .ok (.iload 5, 2) := by decide +kernel
theorem dX6_gap_122 : decode cX6_gap 122 = .ok (.iaload, 1) := by decide +kernel
theorem dX6_gap_123 : decode cX6_gap 123 = .ok (.imul, 1) := by decide +kernel
theorem dX6_gap_124 : decode cX6_gap 124 = .ok (.bipush 6, 2) := by decide +kernel
theorem dX6_gap_126 : decode cX6_gap 126 = .ok (.iadd, 1) := by decide +kernel
theorem dX6_gap_127 : decode cX6_gap 127 = .ok (.iaload, 1) := by decide +kernel
theorem dX6_gap_128 : decode cX6_gap 128 = .ok (.goto 27, 3) := by decide +kernel
theorem dX6_gap_131 : decode cX6_gap 131 = .ok (.iload_n 3, 1) := by decide +kernel
theorem dX6_gap_132 : decode cX6_gap 132 = .ok (.iconst 2, 1) := by decide +kernel
theorem dX6_gap_133 : decode cX6_gap 133 = .ok (.if_icmp .ne 15, 3) := by decide +kernel
theorem dX6_gap_136 : decode cX6_gap 136 = .ok (.aload_n 0, 1) := by decide +kernel
theorem dX6_gap_137 : decode cX6_gap 137 = .ok (.getfield 81, 3) := by decide +kernel
theorem dX6_gap_140 : decode cX6_gap 140 = .ok (.iload 5, 2) := by decide +kernel
theorem dX6_gap_142 : decode cX6_gap 142 = .ok (.iconst 1, 1) := by decide +kernel
theorem dX6_gap_143 : decode cX6_gap 143 = .ok (.isub, 1) := by decide +kernel
theorem dX6_gap_144 : decode cX6_gap 144 = .ok (.iaload, 1) := by decide +kernel
theorem dX6_gap_145 : decode cX6_gap 145 = .ok (.goto 10, 3) := by decide +kernel
theorem dX6_gap_148 : decode cX6_gap 148 = .ok (.aload_n 0, 1) := by decide +kernel
theorem dX6_gap_149 : decode cX6_gap 149 = .ok (.getfield 81, 3) := by decide +kernel
theorem dX6_gap_152 : decode cX6_gap 152 = .ok (.iload 5, 2) := by decide +kernel
theorem dX6_gap_154 : decode cX6_gap 154 = .ok (.iaload, 1) := by decide +kernel
theorem dX6_gap_155 : decode cX6_gap 155 = .ok (.ireturn, 1) := by decide +kernel
theorem dX6_gap_156 : decode cX6_gap 156 = .ok (.iinc 4 1, 3) := by decide +kernel
theorem dX6_gap_159 : decode cX6_gap 159 = .ok (.iinc 5 1, 3) := by decide +kernel
theorem dX6_gap_162 : decode cX6_gap 162 = .ok (.goto (-122), 3) := by decide +kernel
theorem dX6_gap_165 : decode cX6_gap 165 = .ok (.iconst (-1), 1) := by decide +kernel
theorem dX6_gap_166 : decode cX6_gap 166 = .ok (.ireturn, 1) := by decide +kernel
def j_X6_gap_159  (Q : Int32 → St → Prop) (rec40 : Int32 → Int32 → Int32 → Int32 → St → Prop) (v2 : Int32) (v3 : Int32) (v4 : Int32) (v5 : Int32) (σ : St) : Prop :=
  rec40 v2 v3 v4 (v5 + 1) σ
theorem wk_X6_gap_159 (X : cx p s m args c cX6_gap 6 RX6 D (wM cI cZ a) A (tyW cI cZ cH)) (hr9 : meth.sig.returnType = (some .int)) (hlk9 : meth.locks = false)  {Q : Int32 → St → Prop} {rec40 : Int32 → Int32 → Int32 → Int32 → St → Prop} (hrec40 : ∀ (v2 : Int32) (v3 : Int32) (v4 : Int32) (v5 : Int32) (σ : St), rec40 v2 v3 v4 v5 σ → go p l e rm_X6_gap s m args below meth c D (wM cI cZ a) A 0 0 (MQ below (va_Qi Q (atw D (wM cI cZ a) (tyW cI cZ cH) A) A) args s 0 0 A) 6 40 [(0, .ref (a 0)), (2, .int v2), (3, .int v3), (4, .int v4), (5, .int v5)] [] σ) {v2 : Int32} {v3 : Int32} {v4 : Int32} {v5 : Int32} {σ : St} (h : j_X6_gap_159 Q rec40 v2 v3 v4 v5 σ) : go p l e rm_X6_gap s m args below meth c D (wM cI cZ a) A 0 0 (MQ below (va_Qi Q (atw D (wM cI cZ a) (tyW cI cZ cH) A) A) args s 0 0 A) 6 159 [(0, .ref (a 0)), (2, .int v2), (3, .int v3), (4, .int v4), (5, .int v5)] [] σ := by
  delta j_X6_gap_159 at h
  refine r_iinc (d := 1) X 4 162 [(5, .int (v5 + 1)), (0, .ref (a 0)), (2, .int v2), (3, .int v3), (4, .int v4)] dX6_gap_159 rfl (by decide) (by decide) rfl rfl ?_
  refine r_goto X 40 dX6_gap_162 rfl ?_
  refine r_pick (lv' := [(0, .ref (a 0)), (2, .int v2), (3, .int v3), (4, .int v4), (5, .int (v5 + 1))]) [1, 2, 3, 4, 0] rfl ?_
  exact hrec40 _ _ _ _ _ h
def b_X6_gap_40  (Q : Int32 → St → Prop) (rec40 : Int32 → Int32 → Int32 → Int32 → St → Prop) (v2 : Int32) (v3 : Int32) (v4 : Int32) (v5 : Int32) (σ : St) : Prop :=
  if v5 < (σ 0 30) then
  (vp_in v5 800 ∧
  (vp_in ((8 : Int32) * (σ 21 (ix v5))) 3208 ∧
  (if (σ 6 (ix ((8 : Int32) * (σ 21 (ix v5))))) = 19 then
  (if v4 = v2 then
  (if v3 = 0 then
  (vp_in (v5 - 1) 800 ∧
  (vp_in (((8 : Int32) * (σ 21 (ix (v5 - 1)))) + 6) 3208 ∧
  (Q (σ 6 (ix (((8 : Int32) * (σ 21 (ix (v5 - 1)))) + 6))) σ)))
  else (if v3 = 1 then
  (vp_in v5 800 ∧
  (vp_in (((8 : Int32) * (σ 21 (ix v5))) + 6) 3208 ∧
  (Q (σ 6 (ix (((8 : Int32) * (σ 21 (ix v5))) + 6))) σ)))
  else (if v3 = 2 then
  (vp_in (v5 - 1) 800 ∧
  (Q (σ 21 (ix (v5 - 1))) σ))
  else (vp_in v5 800 ∧
  (Q (σ 21 (ix v5)) σ)))))
  else (j_X6_gap_159 Q rec40 v2 v3 (v4 + 1) v5 σ))
  else (j_X6_gap_159 Q rec40 v2 v3 v4 v5 σ))))
  else (Q (-1) σ)
def lp_X6_gap_40  (Q : Int32 → St → Prop) (n9 : Nat) : Int32 → Int32 → Int32 → Int32 → St → Prop :=
  Nat.rec (fun _ _ _ _ _ => False) (fun _ rec9 => b_X6_gap_40  Q  rec9) n9
theorem wk_X6_gap_40 (X : cx p s m args c cX6_gap 6 RX6 D (wM cI cZ a) A (tyW cI cZ cH)) (hr9 : meth.sig.returnType = (some .int)) (hlk9 : meth.locks = false)  {Q : Int32 → St → Prop} : ∀ (n9 : Nat) {v2 : Int32} {v3 : Int32} {v4 : Int32} {v5 : Int32} {σ : St}, lp_X6_gap_40 Q n9 v2 v3 v4 v5 σ → go p l e rm_X6_gap s m args below meth c D (wM cI cZ a) A 0 0 (MQ below (va_Qi Q (atw D (wM cI cZ a) (tyW cI cZ cH) A) A) args s 0 0 A) 6 40 [(0, .ref (a 0)), (2, .int v2), (3, .int v3), (4, .int v4), (5, .int v5)] [] σ := by
  intro n9
  induction n9 with
  | zero => intro v2 v3 v4 v5 σ h; exact h.elim
  | succ n9 ih =>
    intro v2 v3 v4 v5 σ h
    have hrec40 := fun v2 v3 v4 v5 σ h => ih (σ := σ) (v2 := v2) (v3 := v3) (v4 := v4) (v5 := v5) h
    replace h : b_X6_gap_40 Q (lp_X6_gap_40 Q n9) v2 v3 v4 v5 σ := h
    delta b_X6_gap_40 at h
    refine r_iload X 4 42 dX6_gap_40 rfl rfl ?_
    refine r_aload_n X 0 43 dX6_gap_42 rfl rfl rfl ?_
    refine g_X6_229 X 46 dX6_gap_43 rfl ?_
    refine r_icmp_ge X 165 49 h dX6_gap_46 rfl rfl (fun h => ?_) (fun h => ?_)
    · refine r_iconst (v := (-1)) X 166 dX6_gap_165 (by decide) rfl ?_
      exact r_iret X hr9 hlk9 h dX6_gap_166
    · refine r_aload_n X 0 50 dX6_gap_49 rfl rfl rfl ?_
      refine g_X6_30 X 53 dX6_gap_50 rfl ?_
      refine r_bipush (v := 8) X 55 dX6_gap_53 (by decide) rfl ?_
      refine r_aload_n X 0 56 dX6_gap_55 rfl rfl rfl ?_
      refine g_X6_81 X 59 dX6_gap_56 rfl ?_
      refine r_iload X 4 61 dX6_gap_59 rfl rfl ?_
      obtain ⟨hin, h⟩ := h
      refine l_M21 X 62 hin dX6_gap_61 rfl ?_
      refine r_imul X 63 dX6_gap_62 rfl ?_
      obtain ⟨hin, h⟩ := h
      refine l_Mk X (Or.inl rfl) 64 hin dX6_gap_63 rfl ?_
      refine r_bipush (v := 19) X 66 dX6_gap_64 (by decide) rfl ?_
      refine r_icmp_eq X 72 69 h dX6_gap_66 rfl rfl (fun h => ?_) (fun h => ?_)
      · refine r_iload X 3 74 dX6_gap_72 rfl rfl ?_
        refine r_iload_n X 1 75 dX6_gap_74 rfl rfl rfl ?_
        refine r_icmp_ne X 156 78 h dX6_gap_75 rfl rfl (fun h => ?_) (fun h => ?_)
        · refine r_iinc (d := 1) X 3 159 [(4, .int (v4 + 1)), (0, .ref (a 0)), (2, .int v2), (3, .int v3), (5, .int v5)] dX6_gap_156 rfl (by decide) (by decide) rfl rfl ?_
          refine r_pick (lv' := [(0, .ref (a 0)), (2, .int v2), (3, .int v3), (4, .int (v4 + 1)), (5, .int v5)]) [1, 2, 3, 0, 4] rfl ?_
          exact wk_X6_gap_159 X hr9 hlk9 hrec40 h
        · refine r_iload_n X 2 79 dX6_gap_78 rfl rfl rfl ?_
          refine r_if_ne X 105 82 h dX6_gap_79 rfl rfl (fun h => ?_) (fun h => ?_)
          · refine r_iload_n X 2 106 dX6_gap_105 rfl rfl rfl ?_
            refine r_iconst (v := 1) X 107 dX6_gap_106 (by decide) rfl ?_
            refine r_icmp_ne X 131 110 h dX6_gap_107 rfl rfl (fun h => ?_) (fun h => ?_)
            · refine r_iload_n X 2 132 dX6_gap_131 rfl rfl rfl ?_
              refine r_iconst (v := 2) X 133 dX6_gap_132 (by decide) rfl ?_
              refine r_icmp_ne X 148 136 h dX6_gap_133 rfl rfl (fun h => ?_) (fun h => ?_)
              · refine r_aload_n X 0 149 dX6_gap_148 rfl rfl rfl ?_
                refine g_X6_81 X 152 dX6_gap_149 rfl ?_
                refine r_iload X 4 154 dX6_gap_152 rfl rfl ?_
                obtain ⟨hin, h⟩ := h
                refine l_M21 X 155 hin dX6_gap_154 rfl ?_
                exact r_iret X hr9 hlk9 h dX6_gap_155
              · refine r_aload_n X 0 137 dX6_gap_136 rfl rfl rfl ?_
                refine g_X6_81 X 140 dX6_gap_137 rfl ?_
                refine r_iload X 4 142 dX6_gap_140 rfl rfl ?_
                refine r_iconst (v := 1) X 143 dX6_gap_142 (by decide) rfl ?_
                refine r_isub X 144 dX6_gap_143 rfl ?_
                obtain ⟨hin, h⟩ := h
                refine l_M21 X 145 hin dX6_gap_144 rfl ?_
                refine r_goto X 155 dX6_gap_145 rfl ?_
                exact r_iret X hr9 hlk9 h dX6_gap_155
            · refine r_aload_n X 0 111 dX6_gap_110 rfl rfl rfl ?_
              refine g_X6_30 X 114 dX6_gap_111 rfl ?_
              refine r_bipush (v := 8) X 116 dX6_gap_114 (by decide) rfl ?_
              refine r_aload_n X 0 117 dX6_gap_116 rfl rfl rfl ?_
              refine g_X6_81 X 120 dX6_gap_117 rfl ?_
              refine r_iload X 4 122 dX6_gap_120 rfl rfl ?_
              obtain ⟨hin, h⟩ := h
              refine l_M21 X 123 hin dX6_gap_122 rfl ?_
              refine r_imul X 124 dX6_gap_123 rfl ?_
              refine r_bipush (v := 6) X 126 dX6_gap_124 (by decide) rfl ?_
              refine r_iadd X 127 dX6_gap_126 rfl ?_
              obtain ⟨hin, h⟩ := h
              refine l_Mk X (Or.inl rfl) 128 hin dX6_gap_127 rfl ?_
              refine r_goto X 155 dX6_gap_128 rfl ?_
              exact r_iret X hr9 hlk9 h dX6_gap_155
          · refine r_aload_n X 0 83 dX6_gap_82 rfl rfl rfl ?_
            refine g_X6_30 X 86 dX6_gap_83 rfl ?_
            refine r_bipush (v := 8) X 88 dX6_gap_86 (by decide) rfl ?_
            refine r_aload_n X 0 89 dX6_gap_88 rfl rfl rfl ?_
            refine g_X6_81 X 92 dX6_gap_89 rfl ?_
            refine r_iload X 4 94 dX6_gap_92 rfl rfl ?_
            refine r_iconst (v := 1) X 95 dX6_gap_94 (by decide) rfl ?_
            refine r_isub X 96 dX6_gap_95 rfl ?_
            obtain ⟨hin, h⟩ := h
            refine l_M21 X 97 hin dX6_gap_96 rfl ?_
            refine r_imul X 98 dX6_gap_97 rfl ?_
            refine r_bipush (v := 6) X 100 dX6_gap_98 (by decide) rfl ?_
            refine r_iadd X 101 dX6_gap_100 rfl ?_
            obtain ⟨hin, h⟩ := h
            refine l_Mk X (Or.inl rfl) 102 hin dX6_gap_101 rfl ?_
            refine r_goto X 155 dX6_gap_102 rfl ?_
            exact r_iret X hr9 hlk9 h dX6_gap_155
      · refine r_goto X 159 dX6_gap_69 rfl ?_
        refine r_pick (lv' := [(0, .ref (a 0)), (2, .int v2), (3, .int v3), (4, .int v4), (5, .int v5)]) [0, 1, 2, 3, 4] rfl ?_
        exact wk_X6_gap_159 X hr9 hlk9 hrec40 h
def wp_X6_gap  (σ : St) (x1 : Int32) (x2 : Int32) (x3 : Int32) (Q : Int32 → St → Prop) : Prop :=
  wp_X6_isIn σ x1 0 ((σ 0 2) - 1) (fun y2 σ1 =>
  if y2 = 0 then
  (Q (-1) σ1)
  else (wp_X6_isIn σ1 x3 0 3 (fun y4 σ3 =>
  if y4 = 0 then
  (Q (-1) σ3)
  else (if x2 < 0 then
  (Q (-1) σ3)
  else (wp_X6_makeChain σ3 x1 (fun σ5 =>
  ∃ n9 : Nat, lp_X6_gap_40 Q n9 x2 x3 0 1 σ5))))))
theorem c_X6_gap  {σ : St} {x1 : Int32} {x2 : Int32} {x3 : Int32} {Q : Int32 → St → Prop} (h : wp_X6_gap σ x1 x2 x3 Q) : ctI l yX6_gap cX6_gap 6 (some .int) rm_X6_gap D (wM cI cZ a) (tyW cI cZ cH) [.ref (a 0), .int x1, .int x2, .int x3] σ Q := by
  refine mk_I (wM_ok cI cZ a) (by decide +kernel) (Nat.le_of_ble_eq_true rfl) (fun p e s m args below meth c A X hr9 hlk9 => ?_)
  refine r_pick (lv' := [(0, .ref (a 0)), (1, .int x1), (2, .int x2), (3, .int x3)]) [0, 1, 2, 3] rfl ?_
  delta wp_X6_gap at h
  refine r_iload_n X 1 1 dX6_gap_0 rfl rfl rfl ?_
  refine r_iconst (v := 0) X 2 dX6_gap_1 (by decide) rfl ?_
  refine r_aload_n X 0 3 dX6_gap_2 rfl rfl rfl ?_
  refine g_X6_93 X 6 dX6_gap_3 rfl ?_
  refine r_iconst (v := 1) X 7 dX6_gap_6 (by decide) rfl ?_
  refine r_isub X 8 dX6_gap_7 rfl ?_
  refine r_callSI (As := [.int x1, .int 0, .int ((σ 0 2) - 1)]) (rest := []) X 11 (c_X6_isIn h) ml_X6_96 lk_X6_isIn sy_X6_isIn rfl rfl (Nat.le_of_ble_eq_true rfl) ⟨rfl, rfl, ⟨Nat.le_of_ble_eq_true rfl, Nat.le_of_ble_eq_true rfl⟩, Nat.le_of_ble_eq_true rfl, Nat.le_of_ble_eq_true rfl⟩ dX6_gap_8 rfl (fun y2 σ1 h => ?_)
  obtain ⟨hb_y2, h⟩ := h
  refine r_if_eq X 27 14 h dX6_gap_11 rfl rfl (fun h => ?_) (fun h => ?_)
  · refine r_iconst (v := (-1)) X 28 dX6_gap_27 (by decide) rfl ?_
    exact r_iret X hr9 hlk9 h dX6_gap_28
  · refine r_iload_n X 3 15 dX6_gap_14 rfl rfl rfl ?_
    refine r_iconst (v := 0) X 16 dX6_gap_15 (by decide) rfl ?_
    refine r_iconst (v := 3) X 17 dX6_gap_16 (by decide) rfl ?_
    refine r_callSI (As := [.int x3, .int 0, .int 3]) (rest := []) X 20 (c_X6_isIn h) ml_X6_96 lk_X6_isIn sy_X6_isIn rfl rfl (Nat.le_of_ble_eq_true rfl) ⟨rfl, rfl, ⟨Nat.le_of_ble_eq_true rfl, Nat.le_of_ble_eq_true rfl⟩, Nat.le_of_ble_eq_true rfl, Nat.le_of_ble_eq_true rfl⟩ dX6_gap_17 rfl (fun y4 σ3 h => ?_)
    obtain ⟨hb_y4, h⟩ := h
    refine r_if_eq X 27 23 h dX6_gap_20 rfl rfl (fun h => ?_) (fun h => ?_)
    · refine r_iconst (v := (-1)) X 28 dX6_gap_27 (by decide) rfl ?_
      exact r_iret X hr9 hlk9 h dX6_gap_28
    · refine r_iload_n X 2 24 dX6_gap_23 rfl rfl rfl ?_
      refine r_if_ge X 29 27 h dX6_gap_24 rfl rfl (fun h => ?_) (fun h => ?_)
      · refine r_aload_n X 0 30 dX6_gap_29 rfl rfl rfl ?_
        refine r_iload_n X 1 31 dX6_gap_30 rfl rfl rfl ?_
        refine r_callV (As := [.int x1]) (rest := []) X 34 (c_X6_makeChain h) ml_X6_242 lk_X6_makeChain wM_at_0 rfl rfl rfl (Nat.le_of_ble_eq_true rfl) ⟨rfl, rfl, ⟨Nat.le_of_ble_eq_true rfl, Nat.le_of_ble_eq_true rfl⟩, Nat.le_of_ble_eq_true rfl, Nat.le_of_ble_eq_true rfl⟩ dX6_gap_31 rfl (fun σ5 h => ?_)
        refine r_iconst (v := 0) X 35 dX6_gap_34 (by decide) rfl ?_
        refine r_istore X 37 [(4, .int 0), (0, .ref (a 0)), (1, .int x1), (2, .int x2), (3, .int x3)] dX6_gap_35 (by decide) rfl rfl ?_
        refine r_iconst (v := 1) X 38 dX6_gap_37 (by decide) rfl ?_
        refine r_istore X 40 [(5, .int 1), (4, .int 0), (0, .ref (a 0)), (1, .int x1), (2, .int x2), (3, .int x3)] dX6_gap_38 (by decide) rfl rfl ?_
        refine r_pick (lv' := [(0, .ref (a 0)), (2, .int x2), (3, .int x3), (4, .int 0), (5, .int 1)]) [2, 4, 5, 1, 0] rfl ?_
        obtain ⟨n9, h⟩ := h
        exact wk_X6_gap_40 X hr9 hlk9 n9 h
      · refine r_iconst (v := (-1)) X 28 dX6_gap_27 (by decide) rfl ?_
        exact r_iret X hr9 hlk9 h dX6_gap_28
def rm_X6_breaks : Room := { frames := 6, cells := 0, slots := 0, locals := 149 }
theorem dX6_breaks_0 : decode cX6_breaks 0 = .ok (.iload_n 1, 1) := by decide +kernel
theorem dX6_breaks_1 : decode cX6_breaks 1 = .ok (.iconst 0, 1) := by decide +kernel
theorem dX6_breaks_2 : decode cX6_breaks 2 = .ok (.aload_n 0, 1) := by decide +kernel
theorem dX6_breaks_3 : decode cX6_breaks 3 = .ok (.getfield 93, 3) := by decide +kernel
theorem dX6_breaks_6 : decode cX6_breaks 6 = .ok (.iconst 1, 1) := by decide +kernel
theorem dX6_breaks_7 : decode cX6_breaks 7 = .ok (.isub, 1) := by decide +kernel
theorem dX6_breaks_8 : decode cX6_breaks 8 = .ok (.invokestatic 96, 3) := by decide +kernel
theorem dX6_breaks_11 : decode cX6_breaks 11 = .ok (.ifCond .eq 11, 3) := by decide +kernel
theorem dX6_breaks_14 : decode cX6_breaks 14 = .ok (.aload_n 0, 1) := by decide +kernel
theorem dX6_breaks_15 : decode cX6_breaks 15 = .ok (.iload_n 1, 1) := by decide +kernel
theorem dX6_breaks_16 : decode cX6_breaks 16 = .ok (.invokevirtual 162, 3) := by decide +kernel
theorem dX6_breaks_19 : decode cX6_breaks 19 = .ok (.ifCond .ne 5, 3) := by decide +kernel
theorem dX6_breaks_22 : decode cX6_breaks 22 = .ok (.iconst (-1), 1) := by decide +kernel
theorem dX6_breaks_23 : decode cX6_breaks 23 = .ok (.ireturn, 1) := by decide +kernel
theorem dX6_breaks_24 : decode cX6_breaks 24 = .ok (.aload_n 0, 1) := by decide +kernel
theorem dX6_breaks_25 : decode cX6_breaks 25 = .ok (.aload_n 0, 1) := by decide +kernel
theorem dX6_breaks_26 : decode cX6_breaks 26 = .ok (.getfield 30, 3) := by decide +kernel
theorem dX6_breaks_29 : decode cX6_breaks 29 = .ok (.aload_n 0, 1) := by decide +kernel
theorem dX6_breaks_30 : decode cX6_breaks 30 = .ok (.getfield 195, 3) := by decide +kernel
theorem dX6_breaks_33 : decode cX6_breaks 33 = .ok (.invokevirtual 184, 3) := by decide +kernel
theorem dX6_breaks_36 : decode cX6_breaks 36 = .ok (.aload_n 0, 1) := by decide +kernel
theorem dX6_breaks_37 : decode cX6_breaks 37 = .ok (.invokevirtual 90, 3) := by decide +kernel
theorem dX6_breaks_40 : decode cX6_breaks 40 = .ok (.iconst 0, 1) := by decide +kernel
theorem dX6_breaks_41 : decode cX6_breaks 41 = .ok (.istore_n 2, 1) := by decide +kernel
theorem dX6_breaks_42 : decode cX6_breaks 42 = .ok (.iload_n 2, 1) := by decide +kernel
theorem dX6_breaks_43 : decode cX6_breaks 43 = .ok (.aload_n 0, 1) := by decide +kernel
theorem dX6_breaks_44 : decode cX6_breaks 44 = .ok (.getfield 195, 3) := by decide +kernel
theorem dX6_breaks_47 : decode cX6_breaks 47 = .ok (.if_icmp .ge 92, 3) := by decide +kernel
theorem dX6_breaks_50 : decode cX6_breaks 50 = .ok (.bipush 8, 2) := by decide +kernel
theorem dX6_breaks_52 : decode cX6_breaks 52 = .ok (.aload_n 0, 1) := by decide +kernel
theorem dX6_breaks_53 : decode cX6_breaks 53 = .ok (.getfield 78, 3) := by decide +kernel
theorem dX6_breaks_56 : decode cX6_breaks 56 = .ok (.iload_n 2, 1) := by decide +kernel
theorem dX6_breaks_57 : decode cX6_breaks 57 = .ok (.iaload, 1) := by decide +kernel
theorem dX6_breaks_58 : decode cX6_breaks 58 = .ok (.imul, 1) := by decide +kernel
theorem dX6_breaks_59 : decode cX6_breaks 59 = .ok (.istore_n 3, 1) := by decide +kernel
theorem dX6_breaks_60 : decode cX6_breaks 60 = .ok (.aload_n 0, 1) := by decide +kernel
theorem dX6_breaks_61 : decode cX6_breaks 61 = .ok (.getfield 30, 3) := by decide +kernel
theorem dX6_breaks_64 : decode cX6_breaks 64 = .ok (.iload_n 3, 1) := by decide +kernel
theorem dX6_breaks_65 : decode cX6_breaks 65 = .ok (.iconst 1, 1) := by decide +kernel
theorem dX6_breaks_66 : decode cX6_breaks 66 = .ok (.iadd, 1) := by decide +kernel
theorem dX6_breaks_67 : decode cX6_breaks 67 = .ok (.iaload, 1) := by decide +kernel
theorem dX6_breaks_68 : decode cX6_breaks 68 = .ok (.iload_n 1, 1) := by decide +kernel
theorem dX6_breaks_69 : decode cX6_breaks 69 = .ok (.if_icmp .ne 49, 3) := by decide +kernel
theorem dX6_breaks_72 : decode cX6_breaks 72 = .ok (.aload_n 0, 1) := by decide +kernel
theorem dX6_breaks_73 : decode cX6_breaks 73 = .ok (.getfield 30, 3) := by decide +kernel
theorem dX6_breaks_76 : decode cX6_breaks 76 = .ok (.iload_n 3, 1) := by decide +kernel
theorem dX6_breaks_77 : decode cX6_breaks 77 = .ok (.iaload, 1) := by decide +kernel
theorem dX6_breaks_78 : decode cX6_breaks 78 = .ok (.bipush 9, 2) := by decide +kernel
theorem dX6_breaks_80 : decode cX6_breaks 80 = .ok (.if_icmp .eq 14, 3) := by decide +kernel
theorem dX6_breaks_83 : decode cX6_breaks 83 = .ok (.aload_n 0, 1) := by decide +kernel
theorem dX6_breaks_84 : decode cX6_breaks 84 = .ok (.getfield 30, 3) := by decide +kernel
theorem dX6_breaks_87 : decode cX6_breaks 87 = .ok (.iload_n 3, 1) := by decide +kernel
theorem dX6_breaks_88 : decode cX6_breaks 88 = .ok (.iaload, 1) := by decide +kernel
theorem dX6_breaks_89 : decode cX6_breaks 89 = .ok (.bipush 10, 2) := by decide +kernel
theorem dX6_breaks_91 : decode cX6_breaks 91 = .ok (.if_icmp .ne 27, 3) := by decide +kernel
theorem dX6_breaks_94 : decode cX6_breaks 94 = .ok (.aload_n 0, 1) := by decide +kernel
theorem dX6_breaks_95 : decode cX6_breaks 95 = .ok (.getfield 30, 3) := by decide +kernel
theorem dX6_breaks_98 : decode cX6_breaks 98 = .ok (.iload_n 3, 1) := by decide +kernel
theorem dX6_breaks_99 : decode cX6_breaks 99 = .ok (.iconst 4, 1) := by decide +kernel
theorem dX6_breaks_100 : decode cX6_breaks 100 = .ok (.iadd, 1) := by decide +kernel
theorem dX6_breaks_101 : decode cX6_breaks 101 = .ok (.iaload, 1) := by decide +kernel
theorem dX6_breaks_102 : decode cX6_breaks 102 = .ok (.aload_n 0, 1) := by decide +kernel
theorem dX6_breaks_103 : decode cX6_breaks 103 = .ok (.getfield 54, 3) := by decide +kernel
theorem dX6_breaks_106 : decode cX6_breaks 106 = .ok (.iload_n 1, 1) := by decide +kernel
theorem dX6_breaks_107 : decode cX6_breaks 107 = .ok (.iaload, 1) := by decide +kernel
theorem dX6_breaks_108 : decode cX6_breaks 108 = .ok (.if_icmp .eq 10, 3) := by decide +kernel
theorem dX6_breaks_111 : decode cX6_breaks 111 = .ok (.aload_n 0, 1) := by decide +kernel
theorem dX6_breaks_112 : decode cX6_breaks 112 = .ok (.getfield 78, 3) := by decide +kernel
theorem dX6_breaks_115 : decode cX6_breaks 115 = .ok (.iload_n 2, 1) := by decide +kernel
theorem dX6_breaks_116 : decode cX6_breaks 116 = .ok (.iaload, 1) := by decide +kernel
theorem dX6_breaks_117 : decode cX6_breaks 117 = .ok (.ireturn, 1) := by decide +kernel
theorem dX6_breaks_118 : decode cX6_breaks 118 = .ok (.aload_n 0, 1) := by decide +kernel
theorem dX6_breaks_119 : decode cX6_breaks 119 = .ok (.aload_n 0, 1) := by decide +kernel
theorem dX6_breaks_120 : decode cX6_breaks 120 = .ok (.getfield 30, 3) := by decide +kernel
theorem dX6_breaks_123 : decode cX6_breaks 123 = .ok (.aload_n 0, 1) := by decide +kernel
theorem dX6_breaks_124 : decode cX6_breaks 124 = .ok (.getfield 78, 3) := by decide +kernel
theorem dX6_breaks_127 : decode cX6_breaks 127 = .ok (.iload_n 2, 1) := by decide +kernel
theorem dX6_breaks_128 : decode cX6_breaks 128 = .ok (.iaload, 1) := by decide +kernel
theorem dX6_breaks_129 : decode cX6_breaks 129 = .ok (.invokevirtual 192, 3) := by decide +kernel
theorem dX6_breaks_132 : decode cX6_breaks 132 = .ok (.pop, 1) := by decide +kernel
theorem dX6_breaks_133 : decode cX6_breaks 133 = .ok (.iinc 2 1, 3) := by decide +kernel
theorem dX6_breaks_136 : decode cX6_breaks 136 = .ok (.goto (-94), 3) := by decide +kernel
theorem dX6_breaks_139 : decode cX6_breaks 139 = .ok (.iconst (-1), 1) := by decide +kernel
theorem dX6_breaks_140 : decode cX6_breaks 140 = .ok (.ireturn, 1) := by decide +kernel
def j_X6_breaks_118  (Q : Int32 → St → Prop) (rec42 : Int32 → Int32 → St → Prop) (v1 : Int32) (v2 : Int32) (σ : St) : Prop :=
  vp_in v2 401 ∧
  (wp_X6_isDone 6 σ (σ 20 (ix v2)) (fun y9 σ8 =>
  rec42 v1 (v2 + 1) σ8))
theorem wk_X6_breaks_118 (X : cx p s m args c cX6_breaks 4 RX6 D (wM cI cZ a) A (tyW cI cZ cH)) (hr9 : meth.sig.returnType = (some .int)) (hlk9 : meth.locks = false)  {Q : Int32 → St → Prop} {rec42 : Int32 → Int32 → St → Prop} (hrec42 : ∀ (v1 : Int32) (v2 : Int32) (σ : St), rec42 v1 v2 σ → go p l e rm_X6_breaks s m args below meth c D (wM cI cZ a) A 0 0 (MQ below (va_Qi Q (atw D (wM cI cZ a) (tyW cI cZ cH) A) A) args s 0 0 A) 4 42 [(0, .ref (a 0)), (1, .int v1), (2, .int v2)] [] σ) {v1 : Int32} {v2 : Int32} {σ : St} (h : j_X6_breaks_118 Q rec42 v1 v2 σ) : go p l e rm_X6_breaks s m args below meth c D (wM cI cZ a) A 0 0 (MQ below (va_Qi Q (atw D (wM cI cZ a) (tyW cI cZ cH) A) A) args s 0 0 A) 4 118 [(0, .ref (a 0)), (1, .int v1), (2, .int v2)] [] σ := by
  delta j_X6_breaks_118 at h
  refine r_aload_n X 0 119 dX6_breaks_118 rfl rfl rfl ?_
  refine r_aload_n X 0 120 dX6_breaks_119 rfl rfl rfl ?_
  refine g_X6_30 X 123 dX6_breaks_120 rfl ?_
  refine r_aload_n X 0 124 dX6_breaks_123 rfl rfl rfl ?_
  refine g_X6_78 X 127 dX6_breaks_124 rfl ?_
  refine r_iload_n X 2 128 dX6_breaks_127 rfl rfl rfl ?_
  obtain ⟨hin, h⟩ := h
  refine l_M20 X 129 hin dX6_breaks_128 rfl ?_
  refine r_callI (As := [.ref (a 6), .int (σ 20 (ix v2))]) (rest := []) X 132 (c_X6_isDone (Or.inl rfl) h) ml_X6_192 lk_X6_isDone wM_at_0 rfl rfl rfl (Nat.le_of_ble_eq_true rfl) ⟨rfl, rfl, ⟨Nat.le_of_ble_eq_true rfl, Nat.le_of_ble_eq_true rfl⟩, Nat.le_of_ble_eq_true rfl, Nat.le_of_ble_eq_true rfl⟩ dX6_breaks_129 rfl (fun y9 σ8 h => ?_)
  obtain ⟨hb_y9, h⟩ := h
  refine r_pop X 133 dX6_breaks_132 rfl rfl ?_
  refine r_iinc (d := 1) X 2 136 [(2, .int (v2 + 1)), (0, .ref (a 0)), (1, .int v1)] dX6_breaks_133 rfl (by decide) (by decide) rfl rfl ?_
  refine r_goto X 42 dX6_breaks_136 rfl ?_
  refine r_pick (lv' := [(0, .ref (a 0)), (1, .int v1), (2, .int (v2 + 1))]) [1, 2, 0] rfl ?_
  exact hrec42 _ _ _ h
def j_X6_breaks_94  (Q : Int32 → St → Prop) (rec42 : Int32 → Int32 → St → Prop) (v1 : Int32) (v2 : Int32) (v3 : Int32) (σ : St) : Prop :=
  vp_in (v3 + 4) 3208 ∧
  (vp_in v1 60 ∧
  (if (σ 6 (ix (v3 + 4))) = (σ 12 (ix v1)) then
  (j_X6_breaks_118 Q rec42 v1 v2 σ)
  else (vp_in v2 401 ∧
  (Q (σ 20 (ix v2)) σ))))
theorem wk_X6_breaks_94 (X : cx p s m args c cX6_breaks 4 RX6 D (wM cI cZ a) A (tyW cI cZ cH)) (hr9 : meth.sig.returnType = (some .int)) (hlk9 : meth.locks = false)  {Q : Int32 → St → Prop} {rec42 : Int32 → Int32 → St → Prop} (hrec42 : ∀ (v1 : Int32) (v2 : Int32) (σ : St), rec42 v1 v2 σ → go p l e rm_X6_breaks s m args below meth c D (wM cI cZ a) A 0 0 (MQ below (va_Qi Q (atw D (wM cI cZ a) (tyW cI cZ cH) A) A) args s 0 0 A) 4 42 [(0, .ref (a 0)), (1, .int v1), (2, .int v2)] [] σ) {v1 : Int32} {v2 : Int32} {v3 : Int32} {σ : St} (h : j_X6_breaks_94 Q rec42 v1 v2 v3 σ) : go p l e rm_X6_breaks s m args below meth c D (wM cI cZ a) A 0 0 (MQ below (va_Qi Q (atw D (wM cI cZ a) (tyW cI cZ cH) A) A) args s 0 0 A) 4 94 [(0, .ref (a 0)), (1, .int v1), (2, .int v2), (3, .int v3)] [] σ := by
  delta j_X6_breaks_94 at h
  refine r_aload_n X 0 95 dX6_breaks_94 rfl rfl rfl ?_
  refine g_X6_30 X 98 dX6_breaks_95 rfl ?_
  refine r_iload_n X 3 99 dX6_breaks_98 rfl rfl rfl ?_
  refine r_iconst (v := 4) X 100 dX6_breaks_99 (by decide) rfl ?_
  refine r_iadd X 101 dX6_breaks_100 rfl ?_
  obtain ⟨hin, h⟩ := h
  refine l_Mk X (Or.inl rfl) 102 hin dX6_breaks_101 rfl ?_
  refine r_aload_n X 0 103 dX6_breaks_102 rfl rfl rfl ?_
  refine g_X6_54 X 106 dX6_breaks_103 rfl ?_
  refine r_iload_n X 1 107 dX6_breaks_106 rfl rfl rfl ?_
  obtain ⟨hin, h⟩ := h
  refine l_M12 X 108 hin dX6_breaks_107 rfl ?_
  refine r_icmp_eq X 118 111 h dX6_breaks_108 rfl rfl (fun h => ?_) (fun h => ?_)
  · refine r_pick (lv' := [(0, .ref (a 0)), (1, .int v1), (2, .int v2)]) [0, 1, 2] rfl ?_
    exact wk_X6_breaks_118 X hr9 hlk9 hrec42 h
  · refine r_aload_n X 0 112 dX6_breaks_111 rfl rfl rfl ?_
    refine g_X6_78 X 115 dX6_breaks_112 rfl ?_
    refine r_iload_n X 2 116 dX6_breaks_115 rfl rfl rfl ?_
    obtain ⟨hin, h⟩ := h
    refine l_M20 X 117 hin dX6_breaks_116 rfl ?_
    exact r_iret X hr9 hlk9 h dX6_breaks_117
def b_X6_breaks_42  (Q : Int32 → St → Prop) (rec42 : Int32 → Int32 → St → Prop) (v1 : Int32) (v2 : Int32) (σ : St) : Prop :=
  if v2 < (σ 0 3) then
  (vp_in v2 401 ∧
  (nm (((8 : Int32) * (σ 20 (ix v2)))) (fun z7 =>
  vp_in (z7 + 1) 3208 ∧
  (if (σ 6 (ix (z7 + 1))) = v1 then
  (vp_in z7 3208 ∧
  (if (σ 6 (ix z7)) = 9 then
  (j_X6_breaks_94 Q rec42 v1 v2 z7 σ)
  else (vp_in z7 3208 ∧
  (if (σ 6 (ix z7)) = 10 then
  (j_X6_breaks_94 Q rec42 v1 v2 z7 σ)
  else (j_X6_breaks_118 Q rec42 v1 v2 σ)))))
  else (j_X6_breaks_118 Q rec42 v1 v2 σ)))))
  else (Q (-1) σ)
def lp_X6_breaks_42  (Q : Int32 → St → Prop) (n9 : Nat) : Int32 → Int32 → St → Prop :=
  Nat.rec (fun _ _ _ => False) (fun _ rec9 => b_X6_breaks_42  Q  rec9) n9
theorem wk_X6_breaks_42 (X : cx p s m args c cX6_breaks 4 RX6 D (wM cI cZ a) A (tyW cI cZ cH)) (hr9 : meth.sig.returnType = (some .int)) (hlk9 : meth.locks = false)  {Q : Int32 → St → Prop} : ∀ (n9 : Nat) {v1 : Int32} {v2 : Int32} {σ : St}, lp_X6_breaks_42 Q n9 v1 v2 σ → go p l e rm_X6_breaks s m args below meth c D (wM cI cZ a) A 0 0 (MQ below (va_Qi Q (atw D (wM cI cZ a) (tyW cI cZ cH) A) A) args s 0 0 A) 4 42 [(0, .ref (a 0)), (1, .int v1), (2, .int v2)] [] σ := by
  intro n9
  induction n9 with
  | zero => intro v1 v2 σ h; exact h.elim
  | succ n9 ih =>
    intro v1 v2 σ h
    have hrec42 := fun v1 v2 σ h => ih (σ := σ) (v1 := v1) (v2 := v2) h
    replace h : b_X6_breaks_42 Q (lp_X6_breaks_42 Q n9) v1 v2 σ := h
    delta b_X6_breaks_42 at h
    refine r_iload_n X 2 43 dX6_breaks_42 rfl rfl rfl ?_
    refine r_aload_n X 0 44 dX6_breaks_43 rfl rfl rfl ?_
    refine g_X6_195 X 47 dX6_breaks_44 rfl ?_
    refine r_icmp_ge X 139 50 h dX6_breaks_47 rfl rfl (fun h => ?_) (fun h => ?_)
    · refine r_iconst (v := (-1)) X 140 dX6_breaks_139 (by decide) rfl ?_
      exact r_iret X hr9 hlk9 h dX6_breaks_140
    · refine r_bipush (v := 8) X 52 dX6_breaks_50 (by decide) rfl ?_
      refine r_aload_n X 0 53 dX6_breaks_52 rfl rfl rfl ?_
      refine g_X6_78 X 56 dX6_breaks_53 rfl ?_
      refine r_iload_n X 2 57 dX6_breaks_56 rfl rfl rfl ?_
      obtain ⟨hin, h⟩ := h
      refine l_M20 X 58 hin dX6_breaks_57 rfl ?_
      refine r_imul X 59 dX6_breaks_58 rfl ?_
      refine r_istore_nN X 60 (fun z7 => [(3, .int z7), (0, .ref (a 0)), (1, .int v1), (2, .int v2)]) h dX6_breaks_59 rfl (by decide) (fun _ => rfl) rfl (fun z7 h => ?_)
      refine r_aload_n X 1 61 dX6_breaks_60 rfl rfl rfl ?_
      refine g_X6_30 X 64 dX6_breaks_61 rfl ?_
      refine r_iload_n X 0 65 dX6_breaks_64 rfl rfl rfl ?_
      refine r_iconst (v := 1) X 66 dX6_breaks_65 (by decide) rfl ?_
      refine r_iadd X 67 dX6_breaks_66 rfl ?_
      obtain ⟨hin, h⟩ := h
      refine l_Mk X (Or.inl rfl) 68 hin dX6_breaks_67 rfl ?_
      refine r_iload_n X 2 69 dX6_breaks_68 rfl rfl rfl ?_
      refine r_icmp_ne X 118 72 h dX6_breaks_69 rfl rfl (fun h => ?_) (fun h => ?_)
      · refine r_pick (lv' := [(0, .ref (a 0)), (1, .int v1), (2, .int v2)]) [1, 2, 3] rfl ?_
        exact wk_X6_breaks_118 X hr9 hlk9 hrec42 h
      · refine r_aload_n X 1 73 dX6_breaks_72 rfl rfl rfl ?_
        refine g_X6_30 X 76 dX6_breaks_73 rfl ?_
        refine r_iload_n X 0 77 dX6_breaks_76 rfl rfl rfl ?_
        obtain ⟨hin, h⟩ := h
        refine l_Mk X (Or.inl rfl) 78 hin dX6_breaks_77 rfl ?_
        refine r_bipush (v := 9) X 80 dX6_breaks_78 (by decide) rfl ?_
        refine r_icmp_eq X 94 83 h dX6_breaks_80 rfl rfl (fun h => ?_) (fun h => ?_)
        · refine r_pick (lv' := [(0, .ref (a 0)), (1, .int v1), (2, .int v2), (3, .int z7)]) [1, 2, 3, 0] rfl ?_
          exact wk_X6_breaks_94 X hr9 hlk9 hrec42 h
        · refine r_aload_n X 1 84 dX6_breaks_83 rfl rfl rfl ?_
          refine g_X6_30 X 87 dX6_breaks_84 rfl ?_
          refine r_iload_n X 0 88 dX6_breaks_87 rfl rfl rfl ?_
          obtain ⟨hin, h⟩ := h
          refine l_Mk X (Or.inl rfl) 89 hin dX6_breaks_88 rfl ?_
          refine r_bipush (v := 10) X 91 dX6_breaks_89 (by decide) rfl ?_
          refine r_icmp_ne X 118 94 h dX6_breaks_91 rfl rfl (fun h => ?_) (fun h => ?_)
          · refine r_pick (lv' := [(0, .ref (a 0)), (1, .int v1), (2, .int v2)]) [1, 2, 3] rfl ?_
            exact wk_X6_breaks_118 X hr9 hlk9 hrec42 h
          · refine r_pick (lv' := [(0, .ref (a 0)), (1, .int v1), (2, .int v2), (3, .int z7)]) [1, 2, 3, 0] rfl ?_
            exact wk_X6_breaks_94 X hr9 hlk9 hrec42 h
def wp_X6_breaks  (σ : St) (x1 : Int32) (Q : Int32 → St → Prop) : Prop :=
  wp_X6_isIn σ x1 0 ((σ 0 2) - 1) (fun y2 σ1 =>
  if y2 = 0 then
  (Q (-1) σ1)
  else (wp_X6_isBag σ1 x1 (fun y4 σ3 =>
  if y4 = 0 then
  (Q (-1) σ3)
  else (wp_X6_sort 6 σ3 (σ3 0 3) (fun σ5 =>
  wp_X6_begin σ5 (fun σ6 =>
  ∃ n9 : Nat, lp_X6_breaks_42 Q n9 x1 0 σ6))))))
theorem c_X6_breaks  {σ : St} {x1 : Int32} {Q : Int32 → St → Prop} (h : wp_X6_breaks σ x1 Q) : ctI l yX6_breaks cX6_breaks 4 (some .int) rm_X6_breaks D (wM cI cZ a) (tyW cI cZ cH) [.ref (a 0), .int x1] σ Q := by
  refine mk_I (wM_ok cI cZ a) (by decide +kernel) (Nat.le_of_ble_eq_true rfl) (fun p e s m args below meth c A X hr9 hlk9 => ?_)
  refine r_pick (lv' := [(0, .ref (a 0)), (1, .int x1)]) [0, 1] rfl ?_
  delta wp_X6_breaks at h
  refine r_iload_n X 1 1 dX6_breaks_0 rfl rfl rfl ?_
  refine r_iconst (v := 0) X 2 dX6_breaks_1 (by decide) rfl ?_
  refine r_aload_n X 0 3 dX6_breaks_2 rfl rfl rfl ?_
  refine g_X6_93 X 6 dX6_breaks_3 rfl ?_
  refine r_iconst (v := 1) X 7 dX6_breaks_6 (by decide) rfl ?_
  refine r_isub X 8 dX6_breaks_7 rfl ?_
  refine r_callSI (As := [.int x1, .int 0, .int ((σ 0 2) - 1)]) (rest := []) X 11 (c_X6_isIn h) ml_X6_96 lk_X6_isIn sy_X6_isIn rfl rfl (Nat.le_of_ble_eq_true rfl) ⟨rfl, rfl, ⟨Nat.le_of_ble_eq_true rfl, Nat.le_of_ble_eq_true rfl⟩, Nat.le_of_ble_eq_true rfl, Nat.le_of_ble_eq_true rfl⟩ dX6_breaks_8 rfl (fun y2 σ1 h => ?_)
  obtain ⟨hb_y2, h⟩ := h
  refine r_if_eq X 22 14 h dX6_breaks_11 rfl rfl (fun h => ?_) (fun h => ?_)
  · refine r_iconst (v := (-1)) X 23 dX6_breaks_22 (by decide) rfl ?_
    exact r_iret X hr9 hlk9 h dX6_breaks_23
  · refine r_aload_n X 0 15 dX6_breaks_14 rfl rfl rfl ?_
    refine r_iload_n X 1 16 dX6_breaks_15 rfl rfl rfl ?_
    refine r_callI (As := [.int x1]) (rest := []) X 19 (c_X6_isBag h) ml_X6_162 lk_X6_isBag wM_at_0 rfl rfl rfl (Nat.le_of_ble_eq_true rfl) ⟨rfl, rfl, ⟨Nat.le_of_ble_eq_true rfl, Nat.le_of_ble_eq_true rfl⟩, Nat.le_of_ble_eq_true rfl, Nat.le_of_ble_eq_true rfl⟩ dX6_breaks_16 rfl (fun y4 σ3 h => ?_)
    obtain ⟨hb_y4, h⟩ := h
    refine r_if_ne X 24 22 h dX6_breaks_19 rfl rfl (fun h => ?_) (fun h => ?_)
    · refine r_aload_n X 0 25 dX6_breaks_24 rfl rfl rfl ?_
      refine r_aload_n X 0 26 dX6_breaks_25 rfl rfl rfl ?_
      refine g_X6_30 X 29 dX6_breaks_26 rfl ?_
      refine r_aload_n X 0 30 dX6_breaks_29 rfl rfl rfl ?_
      refine g_X6_195 X 33 dX6_breaks_30 rfl ?_
      refine r_callV (As := [.ref (a 6), .int (σ3 0 3)]) (rest := []) X 36 (c_X6_sort (Or.inl rfl) h) ml_X6_184 lk_X6_sort wM_at_0 rfl rfl rfl (Nat.le_of_ble_eq_true rfl) ⟨rfl, rfl, ⟨Nat.le_of_ble_eq_true rfl, Nat.le_of_ble_eq_true rfl⟩, Nat.le_of_ble_eq_true rfl, Nat.le_of_ble_eq_true rfl⟩ dX6_breaks_33 rfl (fun σ5 h => ?_)
      refine r_aload_n X 0 37 dX6_breaks_36 rfl rfl rfl ?_
      refine r_callV (As := []) (rest := []) X 40 (c_X6_begin h) ml_X6_90 lk_X6_begin wM_at_0 rfl rfl rfl (Nat.le_of_ble_eq_true rfl) ⟨rfl, rfl, ⟨Nat.le_of_ble_eq_true rfl, Nat.le_of_ble_eq_true rfl⟩, Nat.le_of_ble_eq_true rfl, Nat.le_of_ble_eq_true rfl⟩ dX6_breaks_37 rfl (fun σ6 h => ?_)
      refine r_iconst (v := 0) X 41 dX6_breaks_40 (by decide) rfl ?_
      refine r_istore_n X 42 [(2, .int 0), (0, .ref (a 0)), (1, .int x1)] dX6_breaks_41 rfl (by decide) rfl rfl ?_
      refine r_pick (lv' := [(0, .ref (a 0)), (1, .int x1), (2, .int 0)]) [1, 2, 0] rfl ?_
      obtain ⟨n9, h⟩ := h
      exact wk_X6_breaks_42 X hr9 hlk9 n9 h
    · refine r_iconst (v := (-1)) X 23 dX6_breaks_22 (by decide) rfl ?_
      exact r_iret X hr9 hlk9 h dX6_breaks_23
def rm_X6_due : Room := { frames := 8, cells := 0, slots := 0, locals := 192 }
theorem dX6_due_0 : decode cX6_due 0 = .ok (.aload_n 0, 1) := by decide +kernel
theorem dX6_due_1 : decode cX6_due 1 = .ok (.invokevirtual 245, 3) := by decide +kernel
theorem dX6_due_4 : decode cX6_due 4 = .ok (.iconst 0, 1) := by decide +kernel
theorem dX6_due_5 : decode cX6_due 5 = .ok (.istore_n 3, 1) := by decide +kernel
theorem dX6_due_6 : decode cX6_due 6 = .ok (.iconst 0, 1) := by decide +kernel
theorem dX6_due_7 : decode cX6_due 7 = .ok (.istore 4, 2) := by decide +kernel
theorem dX6_due_9 : decode cX6_due 9 = .ok (.iload 4, 2) := by decide +kernel
theorem dX6_due_11 : decode cX6_due 11 = .ok (.aload_n 0, 1) := by decide +kernel
theorem dX6_due_12 : decode cX6_due 12 = .ok (.getfield 93, 3) := by decide +kernel
theorem dX6_due_15 : decode cX6_due 15 = .ok (.if_icmp .ge 58, 3) := by decide +kernel
theorem dX6_due_18 : decode cX6_due 18 = .ok (.iload_n 1, 1) := by decide +kernel
theorem dX6_due_19 : decode cX6_due 19 = .ok (.ifCond .lt 54, 3) := by decide +kernel
theorem dX6_due_22 : decode cX6_due 22 = .ok (.aload_n 0, 1) := by decide +kernel
theorem dX6_due_23 : decode cX6_due 23 = .ok (.iload 4, 2) := by decide +kernel
theorem dX6_due_25 : decode cX6_due 25 = .ok (.invokevirtual 113, 3) := by decide +kernel
theorem dX6_due_28 : decode cX6_due 28 = .ok (.ifCond .eq 39, 3) := by decide +kernel
theorem dX6_due_31 : decode cX6_due 31 = .ok (.aload_n 0, 1) := by decide +kernel
theorem dX6_due_32 : decode cX6_due 32 = .ok (.getfield 57, 3) := by decide +kernel
theorem dX6_due_35 : decode cX6_due 35 = .ok (.iload 4, 2) := by decide +kernel
theorem dX6_due_37 : decode cX6_due 37 = .ok (.iaload, 1) := by decide +kernel
theorem dX6_due_38 : decode cX6_due 38 = .ok (.iload_n 1, 1) := by decide +kernel
theorem dX6_due_39 : decode cX6_due 39 = .ok (.if_icmp .eq 17, 3) := by decide +kernel
theorem dX6_due_42 : decode cX6_due 42 = .ok (.aload_n 0, 1) := by decide +kernel
theorem dX6_due_43 : decode cX6_due 43 = .ok (.getfield 60, 3) := by decide +kernel
theorem dX6_due_46 : decode cX6_due 46 = .ok (.iload 4, 2) := by decide +kernel
theorem dX6_due_48 : decode cX6_due 48 = .ok (.iaload, 1) := by decide +kernel
theorem dX6_due_49 : decode cX6_due 49 = .ok (.iload_n 1, 1) := by decide +kernel
theorem dX6_due_50 : decode cX6_due 50 = .ok (.if_icmp .eq 6, 3) := by decide +kernel
theorem dX6_due_53 : decode cX6_due 53 = .ok (.goto 14, 3) := by decide +kernel
theorem dX6_due_56 : decode cX6_due 56 = .ok (.iload_n 3, 1) := by decide +kernel
theorem dX6_due_57 : decode cX6_due 57 = .ok (.iload_n 2, 1) := by decide +kernel
theorem dX6_due_58 : decode cX6_due 58 = .ok (.if_icmp .ne 6, 3) := by decide +kernel
theorem dX6_due_61 : decode cX6_due 61 = .ok (.iload 4, 2) := by decide +kernel
theorem dX6_due_63 : decode cX6_due 63 = .ok (.ireturn, 1) := by decide +kernel
theorem dX6_due_64 : decode cX6_due 64 = .ok (.iinc 3 1, 3) := by decide +kernel
theorem dX6_due_67 : decode cX6_due 67 = .ok (.iinc 4 1, 3) := by decide +kernel
theorem dX6_due_70 : decode cX6_due 70 = .ok (.goto (-61), 3) := by decide +kernel
theorem dX6_due_73 : decode cX6_due 73 = .ok (.iconst (-1), 1) := by decide +kernel
theorem dX6_due_74 : decode cX6_due 74 = .ok (.ireturn, 1) := by decide +kernel
def j_X6_due_67  (Q : Int32 → St → Prop) (rec9 : Int32 → Int32 → Int32 → Int32 → St → Prop) (v1 : Int32) (v2 : Int32) (v3 : Int32) (v4 : Int32) (σ : St) : Prop :=
  rec9 v1 v2 v3 (v4 + 1) σ
theorem wk_X6_due_67 (X : cx p s m args c cX6_due 5 RX6 D (wM cI cZ a) A (tyW cI cZ cH)) (hr9 : meth.sig.returnType = (some .int)) (hlk9 : meth.locks = false)  {Q : Int32 → St → Prop} {rec9 : Int32 → Int32 → Int32 → Int32 → St → Prop} (hrec9 : ∀ (v1 : Int32) (v2 : Int32) (v3 : Int32) (v4 : Int32) (σ : St), rec9 v1 v2 v3 v4 σ → go p l e rm_X6_due s m args below meth c D (wM cI cZ a) A 0 0 (MQ below (va_Qi Q (atw D (wM cI cZ a) (tyW cI cZ cH) A) A) args s 0 0 A) 5 9 [(0, .ref (a 0)), (1, .int v1), (2, .int v2), (3, .int v3), (4, .int v4)] [] σ) {v1 : Int32} {v2 : Int32} {v3 : Int32} {v4 : Int32} {σ : St} (h : j_X6_due_67 Q rec9 v1 v2 v3 v4 σ) : go p l e rm_X6_due s m args below meth c D (wM cI cZ a) A 0 0 (MQ below (va_Qi Q (atw D (wM cI cZ a) (tyW cI cZ cH) A) A) args s 0 0 A) 5 67 [(0, .ref (a 0)), (1, .int v1), (2, .int v2), (3, .int v3), (4, .int v4)] [] σ := by
  delta j_X6_due_67 at h
  refine r_iinc (d := 1) X 4 70 [(4, .int (v4 + 1)), (0, .ref (a 0)), (1, .int v1), (2, .int v2), (3, .int v3)] dX6_due_67 rfl (by decide) (by decide) rfl rfl ?_
  refine r_goto X 9 dX6_due_70 rfl ?_
  refine r_pick (lv' := [(0, .ref (a 0)), (1, .int v1), (2, .int v2), (3, .int v3), (4, .int (v4 + 1))]) [1, 2, 3, 4, 0] rfl ?_
  exact hrec9 _ _ _ _ _ h
def j_X6_due_56  (Q : Int32 → St → Prop) (rec9 : Int32 → Int32 → Int32 → Int32 → St → Prop) (v1 : Int32) (v2 : Int32) (v3 : Int32) (v4 : Int32) (σ : St) : Prop :=
  if v3 = v2 then
  (Q v4 σ)
  else (j_X6_due_67 Q rec9 v1 v2 (v3 + 1) v4 σ)
theorem wk_X6_due_56 (X : cx p s m args c cX6_due 5 RX6 D (wM cI cZ a) A (tyW cI cZ cH)) (hr9 : meth.sig.returnType = (some .int)) (hlk9 : meth.locks = false)  {Q : Int32 → St → Prop} {rec9 : Int32 → Int32 → Int32 → Int32 → St → Prop} (hrec9 : ∀ (v1 : Int32) (v2 : Int32) (v3 : Int32) (v4 : Int32) (σ : St), rec9 v1 v2 v3 v4 σ → go p l e rm_X6_due s m args below meth c D (wM cI cZ a) A 0 0 (MQ below (va_Qi Q (atw D (wM cI cZ a) (tyW cI cZ cH) A) A) args s 0 0 A) 5 9 [(0, .ref (a 0)), (1, .int v1), (2, .int v2), (3, .int v3), (4, .int v4)] [] σ) {v1 : Int32} {v2 : Int32} {v3 : Int32} {v4 : Int32} {σ : St} (h : j_X6_due_56 Q rec9 v1 v2 v3 v4 σ) : go p l e rm_X6_due s m args below meth c D (wM cI cZ a) A 0 0 (MQ below (va_Qi Q (atw D (wM cI cZ a) (tyW cI cZ cH) A) A) args s 0 0 A) 5 56 [(0, .ref (a 0)), (1, .int v1), (2, .int v2), (3, .int v3), (4, .int v4)] [] σ := by
  delta j_X6_due_56 at h
  refine r_iload_n X 3 57 dX6_due_56 rfl rfl rfl ?_
  refine r_iload_n X 2 58 dX6_due_57 rfl rfl rfl ?_
  refine r_icmp_ne X 64 61 h dX6_due_58 rfl rfl (fun h => ?_) (fun h => ?_)
  · refine r_iinc (d := 1) X 3 67 [(3, .int (v3 + 1)), (0, .ref (a 0)), (1, .int v1), (2, .int v2), (4, .int v4)] dX6_due_64 rfl (by decide) (by decide) rfl rfl ?_
    refine r_pick (lv' := [(0, .ref (a 0)), (1, .int v1), (2, .int v2), (3, .int (v3 + 1)), (4, .int v4)]) [1, 2, 3, 0, 4] rfl ?_
    exact wk_X6_due_67 X hr9 hlk9 hrec9 h
  · refine r_iload X 4 63 dX6_due_61 rfl rfl ?_
    exact r_iret X hr9 hlk9 h dX6_due_63
def b_X6_due_9  (Q : Int32 → St → Prop) (rec9 : Int32 → Int32 → Int32 → Int32 → St → Prop) (v1 : Int32) (v2 : Int32) (v3 : Int32) (v4 : Int32) (σ : St) : Prop :=
  if v4 < (σ 0 2) then
  (if v1 < 0 then
  (Q (-1) σ)
  else (wp_X6_isKept σ v4 (fun y3 σ2 =>
  if y3 = 0 then
  (j_X6_due_67 Q rec9 v1 v2 v3 v4 σ2)
  else (vp_in v4 60 ∧
  (if (σ2 13 (ix v4)) = v1 then
  (j_X6_due_56 Q rec9 v1 v2 v3 v4 σ2)
  else (vp_in v4 60 ∧
  (if (σ2 14 (ix v4)) = v1 then
  (j_X6_due_56 Q rec9 v1 v2 v3 v4 σ2)
  else (j_X6_due_67 Q rec9 v1 v2 v3 v4 σ2))))))))
  else (Q (-1) σ)
def lp_X6_due_9  (Q : Int32 → St → Prop) (n9 : Nat) : Int32 → Int32 → Int32 → Int32 → St → Prop :=
  Nat.rec (fun _ _ _ _ _ => False) (fun _ rec9 => b_X6_due_9  Q  rec9) n9
theorem wk_X6_due_9 (X : cx p s m args c cX6_due 5 RX6 D (wM cI cZ a) A (tyW cI cZ cH)) (hr9 : meth.sig.returnType = (some .int)) (hlk9 : meth.locks = false)  {Q : Int32 → St → Prop} : ∀ (n9 : Nat) {v1 : Int32} {v2 : Int32} {v3 : Int32} {v4 : Int32} {σ : St}, lp_X6_due_9 Q n9 v1 v2 v3 v4 σ → go p l e rm_X6_due s m args below meth c D (wM cI cZ a) A 0 0 (MQ below (va_Qi Q (atw D (wM cI cZ a) (tyW cI cZ cH) A) A) args s 0 0 A) 5 9 [(0, .ref (a 0)), (1, .int v1), (2, .int v2), (3, .int v3), (4, .int v4)] [] σ := by
  intro n9
  induction n9 with
  | zero => intro v1 v2 v3 v4 σ h; exact h.elim
  | succ n9 ih =>
    intro v1 v2 v3 v4 σ h
    have hrec9 := fun v1 v2 v3 v4 σ h => ih (σ := σ) (v1 := v1) (v2 := v2) (v3 := v3) (v4 := v4) h
    replace h : b_X6_due_9 Q (lp_X6_due_9 Q n9) v1 v2 v3 v4 σ := h
    delta b_X6_due_9 at h
    refine r_iload X 4 11 dX6_due_9 rfl rfl ?_
    refine r_aload_n X 0 12 dX6_due_11 rfl rfl rfl ?_
    refine g_X6_93 X 15 dX6_due_12 rfl ?_
    refine r_icmp_ge X 73 18 h dX6_due_15 rfl rfl (fun h => ?_) (fun h => ?_)
    · refine r_iconst (v := (-1)) X 74 dX6_due_73 (by decide) rfl ?_
      exact r_iret X hr9 hlk9 h dX6_due_74
    · refine r_iload_n X 1 19 dX6_due_18 rfl rfl rfl ?_
      refine r_if_lt X 73 22 h dX6_due_19 rfl rfl (fun h => ?_) (fun h => ?_)
      · refine r_iconst (v := (-1)) X 74 dX6_due_73 (by decide) rfl ?_
        exact r_iret X hr9 hlk9 h dX6_due_74
      · refine r_aload_n X 0 23 dX6_due_22 rfl rfl rfl ?_
        refine r_iload X 4 25 dX6_due_23 rfl rfl ?_
        refine r_callI (As := [.int v4]) (rest := []) X 28 (c_X6_isKept h) ml_X6_113 lk_X6_isKept wM_at_0 rfl rfl rfl (Nat.le_of_ble_eq_true rfl) ⟨rfl, rfl, ⟨Nat.le_of_ble_eq_true rfl, Nat.le_of_ble_eq_true rfl⟩, Nat.le_of_ble_eq_true rfl, Nat.le_of_ble_eq_true rfl⟩ dX6_due_25 rfl (fun y3 σ2 h => ?_)
        obtain ⟨hb_y3, h⟩ := h
        refine r_if_eq X 67 31 h dX6_due_28 rfl rfl (fun h => ?_) (fun h => ?_)
        · refine r_pick (lv' := [(0, .ref (a 0)), (1, .int v1), (2, .int v2), (3, .int v3), (4, .int v4)]) [0, 1, 2, 3, 4] rfl ?_
          exact wk_X6_due_67 X hr9 hlk9 hrec9 h
        · refine r_aload_n X 0 32 dX6_due_31 rfl rfl rfl ?_
          refine g_X6_57 X 35 dX6_due_32 rfl ?_
          refine r_iload X 4 37 dX6_due_35 rfl rfl ?_
          obtain ⟨hin, h⟩ := h
          refine l_M13 X 38 hin dX6_due_37 rfl ?_
          refine r_iload_n X 1 39 dX6_due_38 rfl rfl rfl ?_
          refine r_icmp_eq X 56 42 h dX6_due_39 rfl rfl (fun h => ?_) (fun h => ?_)
          · refine r_pick (lv' := [(0, .ref (a 0)), (1, .int v1), (2, .int v2), (3, .int v3), (4, .int v4)]) [0, 1, 2, 3, 4] rfl ?_
            exact wk_X6_due_56 X hr9 hlk9 hrec9 h
          · refine r_aload_n X 0 43 dX6_due_42 rfl rfl rfl ?_
            refine g_X6_60 X 46 dX6_due_43 rfl ?_
            refine r_iload X 4 48 dX6_due_46 rfl rfl ?_
            obtain ⟨hin, h⟩ := h
            refine l_M14 X 49 hin dX6_due_48 rfl ?_
            refine r_iload_n X 1 50 dX6_due_49 rfl rfl rfl ?_
            refine r_icmp_eq X 56 53 h dX6_due_50 rfl rfl (fun h => ?_) (fun h => ?_)
            · refine r_pick (lv' := [(0, .ref (a 0)), (1, .int v1), (2, .int v2), (3, .int v3), (4, .int v4)]) [0, 1, 2, 3, 4] rfl ?_
              exact wk_X6_due_56 X hr9 hlk9 hrec9 h
            · refine r_goto X 67 dX6_due_53 rfl ?_
              refine r_pick (lv' := [(0, .ref (a 0)), (1, .int v1), (2, .int v2), (3, .int v3), (4, .int v4)]) [0, 1, 2, 3, 4] rfl ?_
              exact wk_X6_due_67 X hr9 hlk9 hrec9 h
def wp_X6_due  (σ : St) (x1 : Int32) (x2 : Int32) (Q : Int32 → St → Prop) : Prop :=
  wp_X6_goOverAll σ (fun σ1 =>
  ∃ n9 : Nat, lp_X6_due_9 Q n9 x1 x2 0 0 σ1)
theorem c_X6_due  {σ : St} {x1 : Int32} {x2 : Int32} {Q : Int32 → St → Prop} (h : wp_X6_due σ x1 x2 Q) : ctI l yX6_due cX6_due 5 (some .int) rm_X6_due D (wM cI cZ a) (tyW cI cZ cH) [.ref (a 0), .int x1, .int x2] σ Q := by
  refine mk_I (wM_ok cI cZ a) (by decide +kernel) (Nat.le_of_ble_eq_true rfl) (fun p e s m args below meth c A X hr9 hlk9 => ?_)
  refine r_pick (lv' := [(0, .ref (a 0)), (1, .int x1), (2, .int x2)]) [0, 1, 2] rfl ?_
  delta wp_X6_due at h
  refine r_aload_n X 0 1 dX6_due_0 rfl rfl rfl ?_
  refine r_callV (As := []) (rest := []) X 4 (c_X6_goOverAll h) ml_X6_245 lk_X6_goOverAll wM_at_0 rfl rfl rfl (Nat.le_of_ble_eq_true rfl) ⟨rfl, rfl, ⟨Nat.le_of_ble_eq_true rfl, Nat.le_of_ble_eq_true rfl⟩, Nat.le_of_ble_eq_true rfl, Nat.le_of_ble_eq_true rfl⟩ dX6_due_1 rfl (fun σ1 h => ?_)
  refine r_iconst (v := 0) X 5 dX6_due_4 (by decide) rfl ?_
  refine r_istore_n X 6 [(3, .int 0), (0, .ref (a 0)), (1, .int x1), (2, .int x2)] dX6_due_5 rfl (by decide) rfl rfl ?_
  refine r_iconst (v := 0) X 7 dX6_due_6 (by decide) rfl ?_
  refine r_istore X 9 [(4, .int 0), (3, .int 0), (0, .ref (a 0)), (1, .int x1), (2, .int x2)] dX6_due_7 (by decide) rfl rfl ?_
  refine r_pick (lv' := [(0, .ref (a 0)), (1, .int x1), (2, .int x2), (3, .int 0), (4, .int 0)]) [2, 3, 4, 1, 0] rfl ?_
  obtain ⟨n9, h⟩ := h
  exact wk_X6_due_9 X hr9 hlk9 n9 h
def rm_X6_freeze : Room := { frames := 0, cells := 0, slots := 0, locals := 0 }
theorem dX6_freeze_0 : decode cX6_freeze 0 = .ok (.iconst 0, 1) := by decide +kernel
theorem dX6_freeze_1 : decode cX6_freeze 1 = .ok (.istore_n 1, 1) := by decide +kernel
theorem dX6_freeze_2 : decode cX6_freeze 2 = .ok (.iload_n 1, 1) := by decide +kernel
theorem dX6_freeze_3 : decode cX6_freeze 3 = .ok (.bipush 8, 2) := by decide +kernel
theorem dX6_freeze_5 : decode cX6_freeze 5 = .ok (.aload_n 0, 1) := by decide +kernel
theorem dX6_freeze_6 : decode cX6_freeze 6 = .ok (.getfield 195, 3) := by decide +kernel
theorem dX6_freeze_9 : decode cX6_freeze 9 = .ok (.imul, 1) := by decide +kernel
theorem dX6_freeze_10 : decode cX6_freeze 10 = .ok (.if_icmp .ge 21, 3) := by decide +kernel
theorem dX6_freeze_13 : decode cX6_freeze 13 = .ok (.aload_n 0, 1) := by decide +kernel
theorem dX6_freeze_14 : decode cX6_freeze 14 = .ok (.getfield 33, 3) := by decide +kernel
theorem dX6_freeze_17 : decode cX6_freeze 17 = .ok (.iload_n 1, 1) := by decide +kernel
theorem dX6_freeze_18 : decode cX6_freeze 18 = .ok (.aload_n 0, 1) := by decide +kernel
theorem dX6_freeze_19 : decode cX6_freeze 19 = .ok (.getfield 30, 3) := by decide +kernel
theorem dX6_freeze_22 : decode cX6_freeze 22 = .ok (.iload_n 1, 1) := by decide +kernel
theorem dX6_freeze_23 : decode cX6_freeze 23 = .ok (.iaload, 1) := by decide +kernel
theorem dX6_freeze_24 : decode cX6_freeze 24 = .ok (.iastore, 1) := by decide +kernel
theorem dX6_freeze_25 : decode cX6_freeze 25 = .ok (.iinc 1 1, 3) := by decide +kernel
theorem dX6_freeze_28 : decode cX6_freeze 28 = .ok (.goto (-26), 3) := by decide +kernel
theorem dX6_freeze_31 : decode cX6_freeze 31 = .ok (.aload_n 0, 1) := by decide +kernel
theorem dX6_freeze_32 : decode cX6_freeze 32 = .ok (.aload_n 0, 1) := by decide +kernel
theorem dX6_freeze_33 : decode cX6_freeze 33 = .ok (.getfield 195, 3) := by decide +kernel
theorem dX6_freeze_36 : decode cX6_freeze 36 = .ok (.putfield 9, 3) := by decide +kernel
theorem dX6_freeze_39 : decode cX6_freeze 39 = .ok (.aload_n 0, 1) := by decide +kernel
theorem dX6_freeze_40 : decode cX6_freeze 40 = .ok (.getfield 9, 3) := by decide +kernel
theorem dX6_freeze_43 : decode cX6_freeze 43 = .ok (.ireturn, 1) := by decide +kernel
def b_X6_freeze_2  (Q : Int32 → St → Prop) (rec2 : Int32 → St → Prop) (v1 : Int32) (σ : St) : Prop :=
  if v1 < ((8 : Int32) * (σ 0 3)) then
  (vp_in v1 3208 ∧
  (vp_in v1 3208 ∧
  nmS (up2 σ 7 (ix v1) (σ 6 (ix v1))) (fun σ2 =>
  rec2 (v1 + 1) σ2)))
  else (nmS (up2 σ 0 6 (σ 0 3)) (fun σ1 =>
  Q (σ1 0 6) σ1))
def lp_X6_freeze_2  (Q : Int32 → St → Prop) (n9 : Nat) : Int32 → St → Prop :=
  Nat.rec (fun _ _ => False) (fun _ rec9 => b_X6_freeze_2  Q  rec9) n9
theorem wk_X6_freeze_2 (X : cx p s m args c cX6_freeze 2 RX6 D (wM cI cZ a) A (tyW cI cZ cH)) (hr9 : meth.sig.returnType = (some .int)) (hlk9 : meth.locks = false)  {Q : Int32 → St → Prop} : ∀ (n9 : Nat) {v1 : Int32} {σ : St}, lp_X6_freeze_2 Q n9 v1 σ → go p l e rm_X6_freeze s m args below meth c D (wM cI cZ a) A 0 0 (MQ below (va_Qi Q (atw D (wM cI cZ a) (tyW cI cZ cH) A) A) args s 0 0 A) 2 2 [(0, .ref (a 0)), (1, .int v1)] [] σ := by
  intro n9
  induction n9 with
  | zero => intro v1 σ h; exact h.elim
  | succ n9 ih =>
    intro v1 σ h
    have hrec2 := fun v1 σ h => ih (σ := σ) (v1 := v1) h
    replace h : b_X6_freeze_2 Q (lp_X6_freeze_2 Q n9) v1 σ := h
    delta b_X6_freeze_2 at h
    refine r_iload_n X 1 3 dX6_freeze_2 rfl rfl rfl ?_
    refine r_bipush (v := 8) X 5 dX6_freeze_3 (by decide) rfl ?_
    refine r_aload_n X 0 6 dX6_freeze_5 rfl rfl rfl ?_
    refine g_X6_195 X 9 dX6_freeze_6 rfl ?_
    refine r_imul X 10 dX6_freeze_9 rfl ?_
    refine r_icmp_ge X 31 13 h dX6_freeze_10 rfl rfl (fun h => ?_) (fun h => ?_)
    · refine r_aload_n X 0 32 dX6_freeze_31 rfl rfl rfl ?_
      refine r_aload_n X 0 33 dX6_freeze_32 rfl rfl rfl ?_
      refine g_X6_195 X 36 dX6_freeze_33 rfl ?_
      refine u_X6_9 X 39 dX6_freeze_36 rfl ?_
      refine r_nmS h (fun σ1 h => ?_)
      refine r_aload_n X 0 40 dX6_freeze_39 rfl rfl rfl ?_
      refine g_X6_9 X 43 dX6_freeze_40 rfl ?_
      exact r_iret X hr9 hlk9 h dX6_freeze_43
    · refine r_aload_n X 0 14 dX6_freeze_13 rfl rfl rfl ?_
      refine g_X6_33 X 17 dX6_freeze_14 rfl ?_
      refine r_iload_n X 1 18 dX6_freeze_17 rfl rfl rfl ?_
      refine r_aload_n X 0 19 dX6_freeze_18 rfl rfl rfl ?_
      refine g_X6_30 X 22 dX6_freeze_19 rfl ?_
      refine r_iload_n X 1 23 dX6_freeze_22 rfl rfl rfl ?_
      obtain ⟨hin, h⟩ := h
      refine l_Mk X (Or.inl rfl) 24 hin dX6_freeze_23 rfl ?_
      obtain ⟨hin, h⟩ := h
      refine s_Mk X (Or.inr rfl) 25 hin dX6_freeze_24 rfl ?_
      refine r_nmS h (fun σ2 h => ?_)
      refine r_iinc (d := 1) X 1 28 [(1, .int (v1 + 1)), (0, .ref (a 0))] dX6_freeze_25 rfl (by decide) (by decide) rfl rfl ?_
      refine r_goto X 2 dX6_freeze_28 rfl ?_
      refine r_pick (lv' := [(0, .ref (a 0)), (1, .int (v1 + 1))]) [1, 0] rfl ?_
      exact hrec2 _ _ h
def wp_X6_freeze  (σ : St) (Q : Int32 → St → Prop) : Prop :=
  ∃ n9 : Nat, lp_X6_freeze_2 Q n9 0 σ
theorem c_X6_freeze  {σ : St} {Q : Int32 → St → Prop} (h : wp_X6_freeze σ Q) : ctI l yX6_freeze cX6_freeze 2 (some .int) rm_X6_freeze D (wM cI cZ a) (tyW cI cZ cH) [.ref (a 0)] σ Q := by
  refine mk_I (wM_ok cI cZ a) (by decide +kernel) (Nat.le_of_ble_eq_true rfl) (fun p e s m args below meth c A X hr9 hlk9 => ?_)
  refine r_pick (lv' := [(0, .ref (a 0))]) [0] rfl ?_
  delta wp_X6_freeze at h
  refine r_iconst (v := 0) X 1 dX6_freeze_0 (by decide) rfl ?_
  refine r_istore_n X 2 [(1, .int 0), (0, .ref (a 0))] dX6_freeze_1 rfl (by decide) rfl rfl ?_
  refine r_pick (lv' := [(0, .ref (a 0)), (1, .int 0)]) [1, 0] rfl ?_
  obtain ⟨n9, h⟩ := h
  exact wk_X6_freeze_2 X hr9 hlk9 n9 h
def rm_X6_alter : Room := { frames := 1, cells := 0, slots := 0, locals := 22 }
theorem dX6_alter_0 : decode cX6_alter 0 = .ok (.iload_n 1, 1) := by decide +kernel
theorem dX6_alter_1 : decode cX6_alter 1 = .ok (.iconst 0, 1) := by decide +kernel
theorem dX6_alter_2 : decode cX6_alter 2 = .ok (.aload_n 0, 1) := by decide +kernel
theorem dX6_alter_3 : decode cX6_alter 3 = .ok (.getfield 9, 3) := by decide +kernel
theorem dX6_alter_6 : decode cX6_alter 6 = .ok (.iconst 1, 1) := by decide +kernel
theorem dX6_alter_7 : decode cX6_alter 7 = .ok (.isub, 1) := by decide +kernel
theorem dX6_alter_8 : decode cX6_alter 8 = .ok (.invokestatic 96, 3) := by decide +kernel
theorem dX6_alter_11 : decode cX6_alter 11 = .ok (.ifCond .eq 13, 3) := by decide +kernel
theorem dX6_alter_14 : decode cX6_alter 14 = .ok (.iload_n 2, 1) := by decide +kernel
theorem dX6_alter_15 : decode cX6_alter 15 = .ok (.iconst 0, 1) := by decide +kernel
theorem dX6_alter_16 : decode cX6_alter 16 = .ok (.bipush 6, 2) := by decide +kernel
theorem dX6_alter_18 : decode cX6_alter 18 = .ok (.invokestatic 96, 3) := by decide +kernel
theorem dX6_alter_21 : decode cX6_alter 21 = .ok (.ifCond .ne 5, 3) := by decide +kernel
theorem dX6_alter_24 : decode cX6_alter 24 = .ok (.iconst 0, 1) := by decide +kernel
theorem dX6_alter_25 : decode cX6_alter 25 = .ok (.ireturn, 1) := by decide +kernel
theorem dX6_alter_26 : decode cX6_alter 26 = .ok (.aload_n 0, 1) := by decide +kernel
theorem dX6_alter_27 : decode cX6_alter 27 = .ok (.getfield 33, 3) := by decide +kernel
theorem dX6_alter_30 : decode cX6_alter 30 = .ok (.bipush 8, 2) := by decide +kernel
theorem dX6_alter_32 : decode cX6_alter 32 = .ok (.iload_n 1, 1) := by decide +kernel
theorem dX6_alter_33 : decode cX6_alter 33 = .ok (.imul, 1) := by decide +kernel
theorem dX6_alter_34 : decode cX6_alter 34 = .ok (.iload_n 2, 1) := by decide +kernel
theorem dX6_alter_35 : decode cX6_alter 35 = .ok (.iadd, 1) := by decide +kernel
theorem dX6_alter_36 : decode cX6_alter 36 = .ok (.iload_n 3, 1) := by decide +kernel
theorem dX6_alter_37 : decode cX6_alter 37 = .ok (.iastore, 1) := by decide +kernel
theorem dX6_alter_38 : decode cX6_alter 38 = .ok (.iconst 1, 1) := by decide +kernel
theorem dX6_alter_39 : decode cX6_alter 39 = .ok (.ireturn, 1) := by decide +kernel
def wp_X6_alter  (σ : St) (x1 : Int32) (x2 : Int32) (x3 : Int32) (Q : Int32 → St → Prop) : Prop :=
  wp_X6_isIn σ x1 0 ((σ 0 6) - 1) (fun y2 σ1 =>
  if y2 = 0 then
  (Q 0 σ1)
  else (wp_X6_isIn σ1 x2 0 6 (fun y4 σ3 =>
  if y4 = 0 then
  (Q 0 σ3)
  else (vp_in (((8 : Int32) * x1) + x2) 3208 ∧
  nmS (up2 σ3 7 (ix (((8 : Int32) * x1) + x2)) x3) (fun σ5 =>
  Q 1 σ5)))))
theorem c_X6_alter  {σ : St} {x1 : Int32} {x2 : Int32} {x3 : Int32} {Q : Int32 → St → Prop} (h : wp_X6_alter σ x1 x2 x3 Q) : ctI l yX6_alter cX6_alter 4 (some .boolean) rm_X6_alter D (wM cI cZ a) (tyW cI cZ cH) [.ref (a 0), .int x1, .int x2, .int x3] σ (fun r9 u9 => isB r9 ∧ Q r9 u9) := by
  refine mk_I (wM_ok cI cZ a) (by decide +kernel) (Nat.le_of_ble_eq_true rfl) (fun p e s m args below meth c A X hr9 hlk9 => ?_)
  refine r_pick (lv' := [(0, .ref (a 0)), (1, .int x1), (2, .int x2), (3, .int x3)]) [0, 1, 2, 3] rfl ?_
  delta wp_X6_alter at h
  refine r_iload_n X 1 1 dX6_alter_0 rfl rfl rfl ?_
  refine r_iconst (v := 0) X 2 dX6_alter_1 (by decide) rfl ?_
  refine r_aload_n X 0 3 dX6_alter_2 rfl rfl rfl ?_
  refine g_X6_9 X 6 dX6_alter_3 rfl ?_
  refine r_iconst (v := 1) X 7 dX6_alter_6 (by decide) rfl ?_
  refine r_isub X 8 dX6_alter_7 rfl ?_
  refine r_callSI (As := [.int x1, .int 0, .int ((σ 0 6) - 1)]) (rest := []) X 11 (c_X6_isIn h) ml_X6_96 lk_X6_isIn sy_X6_isIn rfl rfl (Nat.le_of_ble_eq_true rfl) ⟨rfl, rfl, ⟨Nat.le_of_ble_eq_true rfl, Nat.le_of_ble_eq_true rfl⟩, Nat.le_of_ble_eq_true rfl, Nat.le_of_ble_eq_true rfl⟩ dX6_alter_8 rfl (fun y2 σ1 h => ?_)
  obtain ⟨hb_y2, h⟩ := h
  refine r_if_eq X 24 14 h dX6_alter_11 rfl rfl (fun h => ?_) (fun h => ?_)
  · refine r_iconst (v := 0) X 25 dX6_alter_24 (by decide) rfl ?_
    exact r_zret X hr9 hlk9 isB_0 h dX6_alter_25
  · refine r_iload_n X 2 15 dX6_alter_14 rfl rfl rfl ?_
    refine r_iconst (v := 0) X 16 dX6_alter_15 (by decide) rfl ?_
    refine r_bipush (v := 6) X 18 dX6_alter_16 (by decide) rfl ?_
    refine r_callSI (As := [.int x2, .int 0, .int 6]) (rest := []) X 21 (c_X6_isIn h) ml_X6_96 lk_X6_isIn sy_X6_isIn rfl rfl (Nat.le_of_ble_eq_true rfl) ⟨rfl, rfl, ⟨Nat.le_of_ble_eq_true rfl, Nat.le_of_ble_eq_true rfl⟩, Nat.le_of_ble_eq_true rfl, Nat.le_of_ble_eq_true rfl⟩ dX6_alter_18 rfl (fun y4 σ3 h => ?_)
    obtain ⟨hb_y4, h⟩ := h
    refine r_if_ne X 26 24 h dX6_alter_21 rfl rfl (fun h => ?_) (fun h => ?_)
    · refine r_aload_n X 0 27 dX6_alter_26 rfl rfl rfl ?_
      refine g_X6_33 X 30 dX6_alter_27 rfl ?_
      refine r_bipush (v := 8) X 32 dX6_alter_30 (by decide) rfl ?_
      refine r_iload_n X 1 33 dX6_alter_32 rfl rfl rfl ?_
      refine r_imul X 34 dX6_alter_33 rfl ?_
      refine r_iload_n X 2 35 dX6_alter_34 rfl rfl rfl ?_
      refine r_iadd X 36 dX6_alter_35 rfl ?_
      refine r_iload_n X 3 37 dX6_alter_36 rfl rfl rfl ?_
      obtain ⟨hin, h⟩ := h
      refine s_Mk X (Or.inr rfl) 38 hin dX6_alter_37 rfl ?_
      refine r_nmS h (fun σ5 h => ?_)
      refine r_iconst (v := 1) X 39 dX6_alter_38 (by decide) rfl ?_
      exact r_zret X hr9 hlk9 isB_1 h dX6_alter_39
    · refine r_iconst (v := 0) X 25 dX6_alter_24 (by decide) rfl ?_
      exact r_zret X hr9 hlk9 isB_0 h dX6_alter_25
def rm_X6_check : Room := { frames := 7, cells := 0, slots := 0, locals := 172 }
theorem dX6_check_0 : decode cX6_check 0 = .ok (.aload_n 0, 1) := by decide +kernel
theorem dX6_check_1 : decode cX6_check 1 = .ok (.getfield 9, 3) := by decide +kernel
theorem dX6_check_4 : decode cX6_check 4 = .ok (.iconst (-1), 1) := by decide +kernel
theorem dX6_check_5 : decode cX6_check 5 = .ok (.if_icmp .ne 8, 3) := by decide +kernel
theorem dX6_check_8 : decode cX6_check 8 = .ok (.bipush (-2), 2) := by decide +kernel
theorem dX6_check_10 : decode cX6_check 10 = .ok (.goto 15, 3) := by decide +kernel
theorem dX6_check_13 : decode cX6_check 13 = .ok (.aload_n 0, 1) := by decide +kernel
theorem dX6_check_14 : decode cX6_check 14 = .ok (.aload_n 0, 1) := by decide +kernel
theorem dX6_check_15 : decode cX6_check 15 = .ok (.getfield 33, 3) := by decide +kernel
theorem dX6_check_18 : decode cX6_check 18 = .ok (.aload_n 0, 1) := by decide +kernel
theorem dX6_check_19 : decode cX6_check 19 = .ok (.getfield 9, 3) := by decide +kernel
theorem dX6_check_22 : decode cX6_check 22 = .ok (.invokevirtual 208, 3) := by decide +kernel
theorem dX6_check_25 : decode cX6_check 25 = .ok (.ireturn, 1) := by decide +kernel
def wp_X6_check  (σ : St) (Q : Int32 → St → Prop) : Prop :=
  if (σ 0 6) = (-1) then
  (Q (-2) σ)
  else (wp_X6_firstWrong 7 σ (σ 0 6) (fun y2 σ1 =>
  Q y2 σ1))
theorem c_X6_check  {σ : St} {Q : Int32 → St → Prop} (h : wp_X6_check σ Q) : ctI l yX6_check cX6_check 1 (some .int) rm_X6_check D (wM cI cZ a) (tyW cI cZ cH) [.ref (a 0)] σ Q := by
  refine mk_I (wM_ok cI cZ a) (by decide +kernel) (Nat.le_of_ble_eq_true rfl) (fun p e s m args below meth c A X hr9 hlk9 => ?_)
  refine r_pick (lv' := [(0, .ref (a 0))]) [0] rfl ?_
  delta wp_X6_check at h
  refine r_aload_n X 0 1 dX6_check_0 rfl rfl rfl ?_
  refine g_X6_9 X 4 dX6_check_1 rfl ?_
  refine r_iconst (v := (-1)) X 5 dX6_check_4 (by decide) rfl ?_
  refine r_icmp_ne X 13 8 h dX6_check_5 rfl rfl (fun h => ?_) (fun h => ?_)
  · refine r_aload_n X 0 14 dX6_check_13 rfl rfl rfl ?_
    refine r_aload_n X 0 15 dX6_check_14 rfl rfl rfl ?_
    refine g_X6_33 X 18 dX6_check_15 rfl ?_
    refine r_aload_n X 0 19 dX6_check_18 rfl rfl rfl ?_
    refine g_X6_9 X 22 dX6_check_19 rfl ?_
    refine r_callI (As := [.ref (a 7), .int (σ 0 6)]) (rest := []) X 25 (c_X6_firstWrong (Or.inr rfl) h) ml_X6_208 lk_X6_firstWrong wM_at_0 rfl rfl rfl (Nat.le_of_ble_eq_true rfl) ⟨rfl, rfl, ⟨Nat.le_of_ble_eq_true rfl, Nat.le_of_ble_eq_true rfl⟩, Nat.le_of_ble_eq_true rfl, Nat.le_of_ble_eq_true rfl⟩ dX6_check_22 rfl (fun y2 σ1 h => ?_)
    exact r_iret X hr9 hlk9 h dX6_check_25
  · refine r_bipush (v := (-2)) X 10 dX6_check_8 (by decide) rfl ?_
    refine r_goto X 25 dX6_check_10 rfl ?_
    exact r_iret X hr9 hlk9 h dX6_check_25
def rm_X6_thaw : Room := { frames := 7, cells := 0, slots := 0, locals := 172 }
theorem dX6_thaw_0 : decode cX6_thaw 0 = .ok (.aload_n 0, 1) := by decide +kernel
theorem dX6_thaw_1 : decode cX6_thaw 1 = .ok (.getfield 9, 3) := by decide +kernel
theorem dX6_thaw_4 : decode cX6_thaw 4 = .ok (.iconst (-1), 1) := by decide +kernel
theorem dX6_thaw_5 : decode cX6_thaw 5 = .ok (.if_icmp .eq 19, 3) := by decide +kernel
theorem dX6_thaw_8 : decode cX6_thaw 8 = .ok (.aload_n 0, 1) := by decide +kernel
theorem dX6_thaw_9 : decode cX6_thaw 9 = .ok (.aload_n 0, 1) := by decide +kernel
theorem dX6_thaw_10 : decode cX6_thaw 10 = .ok (.getfield 33, 3) := by decide +kernel
theorem dX6_thaw_13 : decode cX6_thaw 13 = .ok (.aload_n 0, 1) := by decide +kernel
theorem dX6_thaw_14 : decode cX6_thaw 14 = .ok (.getfield 9, 3) := by decide +kernel
theorem dX6_thaw_17 : decode cX6_thaw 17 = .ok (.invokevirtual 208, 3) := by decide +kernel
theorem dX6_thaw_20 : decode cX6_thaw 20 = .ok (.iconst (-1), 1) := by decide +kernel
theorem dX6_thaw_21 : decode cX6_thaw 21 = .ok (.if_icmp .eq 5, 3) := by decide +kernel
theorem dX6_thaw_24 : decode cX6_thaw 24 = .ok (.iconst 0, 1) := by decide +kernel
theorem dX6_thaw_25 : decode cX6_thaw 25 = .ok (.ireturn, 1) := by decide +kernel
theorem dX6_thaw_26 : decode cX6_thaw 26 = .ok (.aload_n 0, 1) := by decide +kernel
theorem dX6_thaw_27 : decode cX6_thaw 27 = .ok (.aload_n 0, 1) := by decide +kernel
theorem dX6_thaw_28 : decode cX6_thaw 28 = .ok (.getfield 9, 3) := by decide +kernel
theorem dX6_thaw_31 : decode cX6_thaw 31 = .ok (.putfield 195, 3) := by decide +kernel
theorem dX6_thaw_34 : decode cX6_thaw 34 = .ok (.iconst 0, 1) := by decide +kernel
theorem dX6_thaw_35 : decode cX6_thaw 35 = .ok (.istore_n 1, 1) := by decide +kernel
theorem dX6_thaw_36 : decode cX6_thaw 36 = .ok (.iload_n 1, 1) := by decide +kernel
theorem dX6_thaw_37 : decode cX6_thaw 37 = .ok (.bipush 8, 2) := by decide +kernel
theorem dX6_thaw_39 : decode cX6_thaw 39 = .ok (.aload_n 0, 1) := by decide +kernel
theorem dX6_thaw_40 : decode cX6_thaw 40 = .ok (.getfield 195, 3) := by decide +kernel
theorem dX6_thaw_43 : decode cX6_thaw 43 = .ok (.imul, 1) := by decide +kernel
theorem dX6_thaw_44 : decode cX6_thaw 44 = .ok (.if_icmp .ge 21, 3) := by decide +kernel
theorem dX6_thaw_47 : decode cX6_thaw 47 = .ok (.aload_n 0, 1) := by decide +kernel
theorem dX6_thaw_48 : decode cX6_thaw 48 = .ok (.getfield 30, 3) := by decide +kernel
theorem dX6_thaw_51 : decode cX6_thaw 51 = .ok (.iload_n 1, 1) := by decide +kernel
theorem dX6_thaw_52 : decode cX6_thaw 52 = .ok (.aload_n 0, 1) := by decide +kernel
theorem dX6_thaw_53 : decode cX6_thaw 53 = .ok (.getfield 33, 3) := by decide +kernel
theorem dX6_thaw_56 : decode cX6_thaw 56 = .ok (.iload_n 1, 1) := by decide +kernel
theorem dX6_thaw_57 : decode cX6_thaw 57 = .ok (.iaload, 1) := by decide +kernel
theorem dX6_thaw_58 : decode cX6_thaw 58 = .ok (.iastore, 1) := by decide +kernel
theorem dX6_thaw_59 : decode cX6_thaw 59 = .ok (.iinc 1 1, 3) := by decide +kernel
theorem dX6_thaw_62 : decode cX6_thaw 62 = .ok (.goto (-26), 3) := by decide +kernel
theorem dX6_thaw_65 : decode cX6_thaw 65 = .ok (.iconst 1, 1) := by decide +kernel
theorem dX6_thaw_66 : decode cX6_thaw 66 = .ok (.ireturn, 1) := by decide +kernel
def b_X6_thaw_36  (Q : Int32 → St → Prop) (rec36 : Int32 → St → Prop) (v1 : Int32) (σ : St) : Prop :=
  if v1 < ((8 : Int32) * (σ 0 3)) then
  (vp_in v1 3208 ∧
  (vp_in v1 3208 ∧
  nmS (up2 σ 6 (ix v1) (σ 7 (ix v1))) (fun σ4 =>
  rec36 (v1 + 1) σ4)))
  else (Q 1 σ)
def lp_X6_thaw_36  (Q : Int32 → St → Prop) (n9 : Nat) : Int32 → St → Prop :=
  Nat.rec (fun _ _ => False) (fun _ rec9 => b_X6_thaw_36  Q  rec9) n9
theorem wk_X6_thaw_36 (X : cx p s m args c cX6_thaw 2 RX6 D (wM cI cZ a) A (tyW cI cZ cH)) (hr9 : meth.sig.returnType = (some .boolean)) (hlk9 : meth.locks = false)  {Q : Int32 → St → Prop} : ∀ (n9 : Nat) {v1 : Int32} {σ : St}, lp_X6_thaw_36 Q n9 v1 σ → go p l e rm_X6_thaw s m args below meth c D (wM cI cZ a) A 0 0 (MQ below (va_Qi (fun r9 u9 => isB r9 ∧ Q r9 u9) (atw D (wM cI cZ a) (tyW cI cZ cH) A) A) args s 0 0 A) 2 36 [(0, .ref (a 0)), (1, .int v1)] [] σ := by
  intro n9
  induction n9 with
  | zero => intro v1 σ h; exact h.elim
  | succ n9 ih =>
    intro v1 σ h
    have hrec36 := fun v1 σ h => ih (σ := σ) (v1 := v1) h
    replace h : b_X6_thaw_36 Q (lp_X6_thaw_36 Q n9) v1 σ := h
    delta b_X6_thaw_36 at h
    refine r_iload_n X 1 37 dX6_thaw_36 rfl rfl rfl ?_
    refine r_bipush (v := 8) X 39 dX6_thaw_37 (by decide) rfl ?_
    refine r_aload_n X 0 40 dX6_thaw_39 rfl rfl rfl ?_
    refine g_X6_195 X 43 dX6_thaw_40 rfl ?_
    refine r_imul X 44 dX6_thaw_43 rfl ?_
    refine r_icmp_ge X 65 47 h dX6_thaw_44 rfl rfl (fun h => ?_) (fun h => ?_)
    · refine r_iconst (v := 1) X 66 dX6_thaw_65 (by decide) rfl ?_
      exact r_zret X hr9 hlk9 isB_1 h dX6_thaw_66
    · refine r_aload_n X 0 48 dX6_thaw_47 rfl rfl rfl ?_
      refine g_X6_30 X 51 dX6_thaw_48 rfl ?_
      refine r_iload_n X 1 52 dX6_thaw_51 rfl rfl rfl ?_
      refine r_aload_n X 0 53 dX6_thaw_52 rfl rfl rfl ?_
      refine g_X6_33 X 56 dX6_thaw_53 rfl ?_
      refine r_iload_n X 1 57 dX6_thaw_56 rfl rfl rfl ?_
      obtain ⟨hin, h⟩ := h
      refine l_Mk X (Or.inr rfl) 58 hin dX6_thaw_57 rfl ?_
      obtain ⟨hin, h⟩ := h
      refine s_Mk X (Or.inl rfl) 59 hin dX6_thaw_58 rfl ?_
      refine r_nmS h (fun σ4 h => ?_)
      refine r_iinc (d := 1) X 1 62 [(1, .int (v1 + 1)), (0, .ref (a 0))] dX6_thaw_59 rfl (by decide) (by decide) rfl rfl ?_
      refine r_goto X 36 dX6_thaw_62 rfl ?_
      refine r_pick (lv' := [(0, .ref (a 0)), (1, .int (v1 + 1))]) [1, 0] rfl ?_
      exact hrec36 _ _ h
def wp_X6_thaw  (σ : St) (Q : Int32 → St → Prop) : Prop :=
  if (σ 0 6) = (-1) then
  (Q 0 σ)
  else (wp_X6_firstWrong 7 σ (σ 0 6) (fun y2 σ1 =>
  if y2 = (-1) then
  (nmS (up2 σ1 0 3 (σ1 0 6)) (fun σ3 =>
  ∃ n9 : Nat, lp_X6_thaw_36 Q n9 0 σ3))
  else (Q 0 σ1)))
theorem c_X6_thaw  {σ : St} {Q : Int32 → St → Prop} (h : wp_X6_thaw σ Q) : ctI l yX6_thaw cX6_thaw 2 (some .boolean) rm_X6_thaw D (wM cI cZ a) (tyW cI cZ cH) [.ref (a 0)] σ (fun r9 u9 => isB r9 ∧ Q r9 u9) := by
  refine mk_I (wM_ok cI cZ a) (by decide +kernel) (Nat.le_of_ble_eq_true rfl) (fun p e s m args below meth c A X hr9 hlk9 => ?_)
  refine r_pick (lv' := [(0, .ref (a 0))]) [0] rfl ?_
  delta wp_X6_thaw at h
  refine r_aload_n X 0 1 dX6_thaw_0 rfl rfl rfl ?_
  refine g_X6_9 X 4 dX6_thaw_1 rfl ?_
  refine r_iconst (v := (-1)) X 5 dX6_thaw_4 (by decide) rfl ?_
  refine r_icmp_eq X 24 8 h dX6_thaw_5 rfl rfl (fun h => ?_) (fun h => ?_)
  · refine r_iconst (v := 0) X 25 dX6_thaw_24 (by decide) rfl ?_
    exact r_zret X hr9 hlk9 isB_0 h dX6_thaw_25
  · refine r_aload_n X 0 9 dX6_thaw_8 rfl rfl rfl ?_
    refine r_aload_n X 0 10 dX6_thaw_9 rfl rfl rfl ?_
    refine g_X6_33 X 13 dX6_thaw_10 rfl ?_
    refine r_aload_n X 0 14 dX6_thaw_13 rfl rfl rfl ?_
    refine g_X6_9 X 17 dX6_thaw_14 rfl ?_
    refine r_callI (As := [.ref (a 7), .int (σ 0 6)]) (rest := []) X 20 (c_X6_firstWrong (Or.inr rfl) h) ml_X6_208 lk_X6_firstWrong wM_at_0 rfl rfl rfl (Nat.le_of_ble_eq_true rfl) ⟨rfl, rfl, ⟨Nat.le_of_ble_eq_true rfl, Nat.le_of_ble_eq_true rfl⟩, Nat.le_of_ble_eq_true rfl, Nat.le_of_ble_eq_true rfl⟩ dX6_thaw_17 rfl (fun y2 σ1 h => ?_)
    refine r_iconst (v := (-1)) X 21 dX6_thaw_20 (by decide) rfl ?_
    refine r_icmp_eq X 26 24 h dX6_thaw_21 rfl rfl (fun h => ?_) (fun h => ?_)
    · refine r_aload_n X 0 27 dX6_thaw_26 rfl rfl rfl ?_
      refine r_aload_n X 0 28 dX6_thaw_27 rfl rfl rfl ?_
      refine g_X6_9 X 31 dX6_thaw_28 rfl ?_
      refine u_X6_195 X 34 dX6_thaw_31 rfl ?_
      refine r_nmS h (fun σ3 h => ?_)
      refine r_iconst (v := 0) X 35 dX6_thaw_34 (by decide) rfl ?_
      refine r_istore_n X 36 [(1, .int 0), (0, .ref (a 0))] dX6_thaw_35 rfl (by decide) rfl rfl ?_
      refine r_pick (lv' := [(0, .ref (a 0)), (1, .int 0)]) [1, 0] rfl ?_
      obtain ⟨n9, h⟩ := h
      exact wk_X6_thaw_36 X hr9 hlk9 n9 h
    · refine r_iconst (v := 0) X 25 dX6_thaw_24 (by decide) rfl ?_
      exact r_zret X hr9 hlk9 isB_0 h dX6_thaw_25
end WALK
