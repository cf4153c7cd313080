theorem dL_law_132 : decode cL_law 132 = .ok (.aload_n 1, 1) := by decide +kernel
theorem dL_law_133 : decode cL_law 133 = .ok (.aload_n 0, 1) := by decide +kernel
theorem dL_law_134 : decode cL_law 134 = .ok (.iload_n 3, 1) := by decide +kernel
theorem dL_law_135 : decode cL_law 135 = .ok (.iconst 1, 1) := by decide +kernel
theorem dL_law_136 : decode cL_law 136 = .ok (.iadd, 1) := by decide +kernel
theorem dL_law_137 : decode cL_law 137 = .ok (.iaload, 1) := by decide +kernel
theorem dL_law_138 : decode cL_law 138 = .ok (.ifCond .eq 7, 3) := by decide +kernel
theorem dL_law_141 : decode cL_law 141 = .ok (.iconst 1, 1) := by decide +kernel
theorem dL_law_142 : decode cL_law 142 = .ok (.goto 4, 3) := by decide +kernel
theorem dL_law_145 : decode cL_law 145 = .ok (.iconst 0, 1) := by decide +kernel
theorem dL_law_146 : decode cL_law 146 = .ok (.invokevirtual 13, 3) := by decide +kernel
theorem dL_law_149 : decode cL_law 149 = .ok (.aload_n 2, 1) := by decide +kernel
theorem dL_law_150 : decode cL_law 150 = .ok (.aload_n 0, 1) := by decide +kernel
theorem dL_law_151 : decode cL_law 151 = .ok (.iload_n 3, 1) := by decide +kernel
theorem dL_law_152 : decode cL_law 152 = .ok (.iconst 1, 1) := by decide +kernel
theorem dL_law_153 : decode cL_law 153 = .ok (.iadd, 1) := by decide +kernel
theorem dL_law_154 : decode cL_law 154 = .ok (.iaload, 1) := by decide +kernel
theorem dL_law_155 : decode cL_law 155 = .ok (.ifCond .eq 7, 3) := by decide +kernel
theorem dL_law_158 : decode cL_law 158 = .ok (.iconst 1, 1) := by decide +kernel
theorem dL_law_159 : decode cL_law 159 = .ok (.goto 4, 3) := by decide +kernel
theorem dL_law_162 : decode cL_law 162 = .ok (.iconst 0, 1) := by decide +kernel
theorem dL_law_163 : decode cL_law 163 = .ok (.invokevirtual 17, 3) := by decide +kernel
theorem dL_law_166 : decode cL_law 166 = .ok (.if_icmp .eq 695, 3) := by decide +kernel
set_option maxHeartbeats 2000000 in
theorem lw_c0 {p : Program} {l : Launch} {e : Env} {s : State} {m : MethodId} {args : Array Value} {below : List Frame} {meth : Method} {c : Code} {D : va_G} {A : Nat → Prop} {cells slots : Nat} {Qf : State → Prop} {cI cZ cH : ClassId} {a a' : Nat → Nat} {n : Nat} {σ μ : St} {b L i : Nat} {xs : Nat → Int32} (X : cx p s m args c cL_law 4 RL D (wL cI cZ cH a a' n) A (tyW cI cZ cH)) (hX : va_X b L xs s s.heap) (hbl : b < s.heap.size) (hbA : ¬ A b) (hL : L ≤ 4096) (hi : i + 8 ≤ L) (hcl : cells ≤ room_1.cells) (hsl : slots ≤ room_1.slots) (h : RI n σ μ) (kk : ∀ σ' μ' : St, RI n σ' μ' → go p l e room_1 s m args below meth c D (wL cI cZ cH a a' n) A cells slots Qf 4 861 [(0, .ref b), (1, .ref (a 0)), (2, .ref (a' 0)), (3, .int (nI i))] [] (mix σ' μ')) : go p l e room_1 s m args below meth c D (wL cI cZ cH a a' n) A cells slots Qf 4 132 [(0, .ref b), (1, .ref (a 0)), (2, .ref (a' 0)), (3, .int (nI i))] [] (mix σ μ) := by
  by_cases hz : xs (i + 1) = 0
  · refine r_aload_n X 1 133 dL_law_132 rfl rfl rfl ?_
    refine r_arg X hX hbl hbA hL 1 138 (by omega) rfl rfl (by decide) dL_law_133 dL_law_134 dL_law_135 dL_law_136 dL_law_137 rfl ?_
    refine r_if_eq (P1 := True) (P2 := False) X 145 141 (by rw [if_pos hz]; trivial) dL_law_138 (by decide) rfl (fun _ => ?_) (fun h9 => h9.elim)
    refine r_iconst (v := 0) X 146 dL_law_145 (by decide) rfl ?_
    refine r_callLC (As := [.int (0)]) (rest := []) (q0 := 0) (ci := 5) X 149 (c_X5_hand (J_hand h (0))) ml_L_13 lk_X5_hand wC_at_0 rfl rfl rfl (Nat.le_of_ble_eq_true rfl) ⟨rfl, rfl, ⟨(Nat.le_of_ble_eq_true rfl), (Nat.le_of_ble_eq_true rfl)⟩, hcl, hsl⟩ dL_law_146 rfl (fun r σ' hq => ?_)
    refine r_aload_n X 2 150 dL_law_149 rfl rfl rfl ?_
    refine r_arg X hX hbl hbA hL 1 155 (by omega) rfl rfl (by decide) dL_law_150 dL_law_151 dL_law_152 dL_law_153 dL_law_154 rfl ?_
    refine r_if_eq (P1 := True) (P2 := False) X 162 158 (by rw [if_pos hz]; trivial) dL_law_155 (by decide) rfl (fun _ => ?_) (fun h9 => h9.elim)
    refine r_iconst (v := 0) X 163 dL_law_162 (by decide) rfl ?_
    refine r_callLM (As := [.int (0)]) (rest := [.int r]) (q0 := 0) (ci := 6) X 166 (c_X6_hand hq) ml_L_17 lk_X6_hand rfl rfl rfl rfl (Nat.le_of_ble_eq_true rfl) ⟨rfl, rfl, ⟨(Nat.le_of_ble_eq_true rfl), (Nat.le_of_ble_eq_true rfl)⟩, hcl, hsl⟩ dL_law_163 rfl (fun r' μ' hq' => ?_)
    obtain ⟨e9, hR⟩ := hq'
    subst e9
    refine r_icmp_eq (P1 := True) (P2 := False) X 861 169 (by rw [if_pos rfl]; trivial) dL_law_166 (by decide) rfl (fun _ => ?_) (fun h9 => h9.elim)
    exact kk σ' μ' hR
  · refine r_aload_n X 1 133 dL_law_132 rfl rfl rfl ?_
    refine r_arg X hX hbl hbA hL 1 138 (by omega) rfl rfl (by decide) dL_law_133 dL_law_134 dL_law_135 dL_law_136 dL_law_137 rfl ?_
    refine r_if_eq (P1 := False) (P2 := True) X 145 141 (by rw [if_neg hz]; trivial) dL_law_138 (by decide) rfl (fun h9 => h9.elim) (fun _ => ?_)
    refine r_iconst (v := 1) X 142 dL_law_141 (by decide) rfl ?_
    refine r_goto X 146 dL_law_142 (by decide) ?_
    refine r_callLC (As := [.int (1)]) (rest := []) (q0 := 0) (ci := 5) X 149 (c_X5_hand (J_hand h (1))) ml_L_13 lk_X5_hand wC_at_0 rfl rfl rfl (Nat.le_of_ble_eq_true rfl) ⟨rfl, rfl, ⟨(Nat.le_of_ble_eq_true rfl), (Nat.le_of_ble_eq_true rfl)⟩, hcl, hsl⟩ dL_law_146 rfl (fun r σ' hq => ?_)
    refine r_aload_n X 2 150 dL_law_149 rfl rfl rfl ?_
    refine r_arg X hX hbl hbA hL 1 155 (by omega) rfl rfl (by decide) dL_law_150 dL_law_151 dL_law_152 dL_law_153 dL_law_154 rfl ?_
    refine r_if_eq (P1 := False) (P2 := True) X 162 158 (by rw [if_neg hz]; trivial) dL_law_155 (by decide) rfl (fun h9 => h9.elim) (fun _ => ?_)
    refine r_iconst (v := 1) X 159 dL_law_158 (by decide) rfl ?_
    refine r_goto X 163 dL_law_159 (by decide) ?_
    refine r_callLM (As := [.int (1)]) (rest := [.int r]) (q0 := 0) (ci := 6) X 166 (c_X6_hand hq) ml_L_17 lk_X6_hand rfl rfl rfl rfl (Nat.le_of_ble_eq_true rfl) ⟨rfl, rfl, ⟨(Nat.le_of_ble_eq_true rfl), (Nat.le_of_ble_eq_true rfl)⟩, hcl, hsl⟩ dL_law_163 rfl (fun r' μ' hq' => ?_)
    obtain ⟨e9, hR⟩ := hq'
    subst e9
    refine r_icmp_eq (P1 := True) (P2 := False) X 861 169 (by rw [if_pos rfl]; trivial) dL_law_166 (by decide) rfl (fun _ => ?_) (fun h9 => h9.elim)
    exact kk σ' μ' hR
theorem dL_law_171 : decode cL_law 171 = .ok (.aload_n 1, 1) := by decide +kernel
theorem dL_law_172 : decode cL_law 172 = .ok (.aload_n 0, 1) := by decide +kernel
theorem dL_law_173 : decode cL_law 173 = .ok (.iload_n 3, 1) := by decide +kernel
theorem dL_law_174 : decode cL_law 174 = .ok (.iconst 1, 1) := by decide +kernel
theorem dL_law_175 : decode cL_law 175 = .ok (.iadd, 1) := by decide +kernel
theorem dL_law_176 : decode cL_law 176 = .ok (.iaload, 1) := by decide +kernel
theorem dL_law_177 : decode cL_law 177 = .ok (.ifCond .eq 7, 3) := by decide +kernel
theorem dL_law_180 : decode cL_law 180 = .ok (.iconst 1, 1) := by decide +kernel
theorem dL_law_181 : decode cL_law 181 = .ok (.goto 4, 3) := by decide +kernel
theorem dL_law_184 : decode cL_law 184 = .ok (.iconst 0, 1) := by decide +kernel
theorem dL_law_185 : decode cL_law 185 = .ok (.invokevirtual 18, 3) := by decide +kernel
theorem dL_law_188 : decode cL_law 188 = .ok (.aload_n 2, 1) := by decide +kernel
theorem dL_law_189 : decode cL_law 189 = .ok (.aload_n 0, 1) := by decide +kernel
theorem dL_law_190 : decode cL_law 190 = .ok (.iload_n 3, 1) := by decide +kernel
theorem dL_law_191 : decode cL_law 191 = .ok (.iconst 1, 1) := by decide +kernel
theorem dL_law_192 : decode cL_law 192 = .ok (.iadd, 1) := by decide +kernel
theorem dL_law_193 : decode cL_law 193 = .ok (.iaload, 1) := by decide +kernel
theorem dL_law_194 : decode cL_law 194 = .ok (.ifCond .eq 7, 3) := by decide +kernel
theorem dL_law_197 : decode cL_law 197 = .ok (.iconst 1, 1) := by decide +kernel
theorem dL_law_198 : decode cL_law 198 = .ok (.goto 4, 3) := by decide +kernel
theorem dL_law_201 : decode cL_law 201 = .ok (.iconst 0, 1) := by decide +kernel
theorem dL_law_202 : decode cL_law 202 = .ok (.invokevirtual 21, 3) := by decide +kernel
theorem dL_law_205 : decode cL_law 205 = .ok (.if_icmp .eq 656, 3) := by decide +kernel
set_option maxHeartbeats 2000000 in
theorem lw_c1 {p : Program} {l : Launch} {e : Env} {s : State} {m : MethodId} {args : Array Value} {below : List Frame} {meth : Method} {c : Code} {D : va_G} {A : Nat → Prop} {cells slots : Nat} {Qf : State → Prop} {cI cZ cH : ClassId} {a a' : Nat → Nat} {n : Nat} {σ μ : St} {b L i : Nat} {xs : Nat → Int32} (X : cx p s m args c cL_law 4 RL D (wL cI cZ cH a a' n) A (tyW cI cZ cH)) (hX : va_X b L xs s s.heap) (hbl : b < s.heap.size) (hbA : ¬ A b) (hL : L ≤ 4096) (hi : i + 8 ≤ L) (hcl : cells ≤ room_1.cells) (hsl : slots ≤ room_1.slots) (h : RI n σ μ) (kk : ∀ σ' μ' : St, RI n σ' μ' → go p l e room_1 s m args below meth c D (wL cI cZ cH a a' n) A cells slots Qf 4 861 [(0, .ref b), (1, .ref (a 0)), (2, .ref (a' 0)), (3, .int (nI i))] [] (mix σ' μ')) : go p l e room_1 s m args below meth c D (wL cI cZ cH a a' n) A cells slots Qf 4 171 [(0, .ref b), (1, .ref (a 0)), (2, .ref (a' 0)), (3, .int (nI i))] [] (mix σ μ) := by
  by_cases hz : xs (i + 1) = 0
  · refine r_aload_n X 1 172 dL_law_171 rfl rfl rfl ?_
    refine r_arg X hX hbl hbA hL 1 177 (by omega) rfl rfl (by decide) dL_law_172 dL_law_173 dL_law_174 dL_law_175 dL_law_176 rfl ?_
    refine r_if_eq (P1 := True) (P2 := False) X 184 180 (by rw [if_pos hz]; trivial) dL_law_177 (by decide) rfl (fun _ => ?_) (fun h9 => h9.elim)
    refine r_iconst (v := 0) X 185 dL_law_184 (by decide) rfl ?_
    refine r_callLC (As := [.int (0)]) (rest := []) (q0 := 0) (ci := 5) X 188 (c_X5_shelf (J_shelf h (0))) ml_L_18 lk_X5_shelf wC_at_0 rfl rfl rfl (Nat.le_of_ble_eq_true rfl) ⟨rfl, rfl, ⟨(Nat.le_of_ble_eq_true rfl), (Nat.le_of_ble_eq_true rfl)⟩, hcl, hsl⟩ dL_law_185 rfl (fun r σ' hq => ?_)
    refine r_aload_n X 2 189 dL_law_188 rfl rfl rfl ?_
    refine r_arg X hX hbl hbA hL 1 194 (by omega) rfl rfl (by decide) dL_law_189 dL_law_190 dL_law_191 dL_law_192 dL_law_193 rfl ?_
    refine r_if_eq (P1 := True) (P2 := False) X 201 197 (by rw [if_pos hz]; trivial) dL_law_194 (by decide) rfl (fun _ => ?_) (fun h9 => h9.elim)
    refine r_iconst (v := 0) X 202 dL_law_201 (by decide) rfl ?_
    refine r_callLM (As := [.int (0)]) (rest := [.int r]) (q0 := 0) (ci := 6) X 205 (c_X6_shelf hq) ml_L_21 lk_X6_shelf rfl rfl rfl rfl (Nat.le_of_ble_eq_true rfl) ⟨rfl, rfl, ⟨(Nat.le_of_ble_eq_true rfl), (Nat.le_of_ble_eq_true rfl)⟩, hcl, hsl⟩ dL_law_202 rfl (fun r' μ' hq' => ?_)
    obtain ⟨e9, hR⟩ := hq'
    subst e9
    refine r_icmp_eq (P1 := True) (P2 := False) X 861 208 (by rw [if_pos rfl]; trivial) dL_law_205 (by decide) rfl (fun _ => ?_) (fun h9 => h9.elim)
    exact kk σ' μ' hR
  · refine r_aload_n X 1 172 dL_law_171 rfl rfl rfl ?_
    refine r_arg X hX hbl hbA hL 1 177 (by omega) rfl rfl (by decide) dL_law_172 dL_law_173 dL_law_174 dL_law_175 dL_law_176 rfl ?_
    refine r_if_eq (P1 := False) (P2 := True) X 184 180 (by rw [if_neg hz]; trivial) dL_law_177 (by decide) rfl (fun h9 => h9.elim) (fun _ => ?_)
    refine r_iconst (v := 1) X 181 dL_law_180 (by decide) rfl ?_
    refine r_goto X 185 dL_law_181 (by decide) ?_
    refine r_callLC (As := [.int (1)]) (rest := []) (q0 := 0) (ci := 5) X 188 (c_X5_shelf (J_shelf h (1))) ml_L_18 lk_X5_shelf wC_at_0 rfl rfl rfl (Nat.le_of_ble_eq_true rfl) ⟨rfl, rfl, ⟨(Nat.le_of_ble_eq_true rfl), (Nat.le_of_ble_eq_true rfl)⟩, hcl, hsl⟩ dL_law_185 rfl (fun r σ' hq => ?_)
    refine r_aload_n X 2 189 dL_law_188 rfl rfl rfl ?_
    refine r_arg X hX hbl hbA hL 1 194 (by omega) rfl rfl (by decide) dL_law_189 dL_law_190 dL_law_191 dL_law_192 dL_law_193 rfl ?_
    refine r_if_eq (P1 := False) (P2 := True) X 201 197 (by rw [if_neg hz]; trivial) dL_law_194 (by decide) rfl (fun h9 => h9.elim) (fun _ => ?_)
    refine r_iconst (v := 1) X 198 dL_law_197 (by decide) rfl ?_
    refine r_goto X 202 dL_law_198 (by decide) ?_
    refine r_callLM (As := [.int (1)]) (rest := [.int r]) (q0 := 0) (ci := 6) X 205 (c_X6_shelf hq) ml_L_21 lk_X6_shelf rfl rfl rfl rfl (Nat.le_of_ble_eq_true rfl) ⟨rfl, rfl, ⟨(Nat.le_of_ble_eq_true rfl), (Nat.le_of_ble_eq_true rfl)⟩, hcl, hsl⟩ dL_law_202 rfl (fun r' μ' hq' => ?_)
    obtain ⟨e9, hR⟩ := hq'
    subst e9
    refine r_icmp_eq (P1 := True) (P2 := False) X 861 208 (by rw [if_pos rfl]; trivial) dL_law_205 (by decide) rfl (fun _ => ?_) (fun h9 => h9.elim)
    exact kk σ' μ' hR
theorem dL_law_210 : decode cL_law 210 = .ok (.aload_n 1, 1) := by decide +kernel
theorem dL_law_211 : decode cL_law 211 = .ok (.aload_n 0, 1) := by decide +kernel
theorem dL_law_212 : decode cL_law 212 = .ok (.iload_n 3, 1) := by decide +kernel
theorem dL_law_213 : decode cL_law 213 = .ok (.iconst 1, 1) := by decide +kernel
theorem dL_law_214 : decode cL_law 214 = .ok (.iadd, 1) := by decide +kernel
theorem dL_law_215 : decode cL_law 215 = .ok (.iaload, 1) := by decide +kernel
theorem dL_law_216 : decode cL_law 216 = .ok (.aload_n 0, 1) := by decide +kernel
theorem dL_law_217 : decode cL_law 217 = .ok (.iload_n 3, 1) := by decide +kernel
theorem dL_law_218 : decode cL_law 218 = .ok (.iconst 2, 1) := by decide +kernel
theorem dL_law_219 : decode cL_law 219 = .ok (.iadd, 1) := by decide +kernel
theorem dL_law_220 : decode cL_law 220 = .ok (.iaload, 1) := by decide +kernel
theorem dL_law_221 : decode cL_law 221 = .ok (.invokevirtual 22, 3) := by decide +kernel
theorem dL_law_224 : decode cL_law 224 = .ok (.aload_n 2, 1) := by decide +kernel
theorem dL_law_225 : decode cL_law 225 = .ok (.aload_n 0, 1) := by decide +kernel
theorem dL_law_226 : decode cL_law 226 = .ok (.iload_n 3, 1) := by decide +kernel
theorem dL_law_227 : decode cL_law 227 = .ok (.iconst 1, 1) := by decide +kernel
theorem dL_law_228 : decode cL_law 228 = .ok (.iadd, 1) := by decide +kernel
theorem dL_law_229 : decode cL_law 229 = .ok (.iaload, 1) := by decide +kernel
theorem dL_law_230 : decode cL_law 230 = .ok (.aload_n 0, 1) := by decide +kernel
theorem dL_law_231 : decode cL_law 231 = .ok (.iload_n 3, 1) := by decide +kernel
theorem dL_law_232 : decode cL_law 232 = .ok (.iconst 2, 1) := by decide +kernel
theorem dL_law_233 : decode cL_law 233 = .ok (.iadd, 1) := by decide +kernel
theorem dL_law_234 : decode cL_law 234 = .ok (.iaload, 1) := by decide +kernel
theorem dL_law_235 : decode cL_law 235 = .ok (.invokevirtual 26, 3) := by decide +kernel
theorem dL_law_238 : decode cL_law 238 = .ok (.if_icmp .eq 623, 3) := by decide +kernel
set_option maxHeartbeats 2000000 in
theorem lw_c2 {p : Program} {l : Launch} {e : Env} {s : State} {m : MethodId} {args : Array Value} {below : List Frame} {meth : Method} {c : Code} {D : va_G} {A : Nat → Prop} {cells slots : Nat} {Qf : State → Prop} {cI cZ cH : ClassId} {a a' : Nat → Nat} {n : Nat} {σ μ : St} {b L i : Nat} {xs : Nat → Int32} (X : cx p s m args c cL_law 4 RL D (wL cI cZ cH a a' n) A (tyW cI cZ cH)) (hX : va_X b L xs s s.heap) (hbl : b < s.heap.size) (hbA : ¬ A b) (hL : L ≤ 4096) (hi : i + 8 ≤ L) (hcl : cells ≤ room_1.cells) (hsl : slots ≤ room_1.slots) (h : RI n σ μ) (kk : ∀ σ' μ' : St, RI n σ' μ' → go p l e room_1 s m args below meth c D (wL cI cZ cH a a' n) A cells slots Qf 4 861 [(0, .ref b), (1, .ref (a 0)), (2, .ref (a' 0)), (3, .int (nI i))] [] (mix σ' μ')) : go p l e room_1 s m args below meth c D (wL cI cZ cH a a' n) A cells slots Qf 4 210 [(0, .ref b), (1, .ref (a 0)), (2, .ref (a' 0)), (3, .int (nI i))] [] (mix σ μ) := by
  refine r_aload_n X 1 211 dL_law_210 rfl rfl rfl ?_
  refine r_arg X hX hbl hbA hL 1 216 (by omega) rfl rfl (by decide) dL_law_211 dL_law_212 dL_law_213 dL_law_214 dL_law_215 rfl ?_
  refine r_arg X hX hbl hbA hL 2 221 (by omega) rfl rfl (by decide) dL_law_216 dL_law_217 dL_law_218 dL_law_219 dL_law_220 rfl ?_
  refine r_callLC (As := [.int (xs (i + 1)), .int (xs (i + 2))]) (rest := []) (q0 := 0) (ci := 5) X 224 (c_X5_seals (J_seals h (xs (i + 1)) (xs (i + 2)))) ml_L_22 lk_X5_seals wC_at_0 rfl rfl rfl (Nat.le_of_ble_eq_true rfl) ⟨rfl, rfl, ⟨(Nat.le_of_ble_eq_true rfl), (Nat.le_of_ble_eq_true rfl)⟩, hcl, hsl⟩ dL_law_221 rfl (fun r σ' hq => ?_)
  replace hq := hq.2
  refine r_aload_n X 2 225 dL_law_224 rfl rfl rfl ?_
  refine r_arg X hX hbl hbA hL 1 230 (by omega) rfl rfl (by decide) dL_law_225 dL_law_226 dL_law_227 dL_law_228 dL_law_229 rfl ?_
  refine r_arg X hX hbl hbA hL 2 235 (by omega) rfl rfl (by decide) dL_law_230 dL_law_231 dL_law_232 dL_law_233 dL_law_234 rfl ?_
  refine r_callLM (As := [.int (xs (i + 1)), .int (xs (i + 2))]) (rest := [.int r]) (q0 := 0) (ci := 6) X 238 (c_X6_seals hq) ml_L_26 lk_X6_seals rfl rfl rfl rfl (Nat.le_of_ble_eq_true rfl) ⟨rfl, rfl, ⟨(Nat.le_of_ble_eq_true rfl), (Nat.le_of_ble_eq_true rfl)⟩, hcl, hsl⟩ dL_law_235 rfl (fun r' μ' hq' => ?_)
  replace hq' := hq'.2
  obtain ⟨e9, hR⟩ := hq'
  subst e9
  refine r_icmp_eq (P1 := True) (P2 := False) X 861 241 (by rw [if_pos rfl]; trivial) dL_law_238 (by decide) rfl (fun _ => ?_) (fun h9 => h9.elim)
  exact kk σ' μ' hR
