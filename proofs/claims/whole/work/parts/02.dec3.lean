theorem dX6_sayer_0 : decode cX6_sayer 0 = .ok (.iload_n 1, 1) := by decide +kernel
theorem dX6_sayer_1 : decode cX6_sayer 1 = .ok (.iconst 0, 1) := by decide +kernel
theorem dX6_sayer_2 : decode cX6_sayer 2 = .ok (.aload_n 0, 1) := by decide +kernel
theorem dX6_sayer_3 : decode cX6_sayer 3 = .ok (.getfield 216, 3) := by decide +kernel
theorem dX6_sayer_6 : decode cX6_sayer 6 = .ok (.iconst 1, 1) := by decide +kernel
theorem dX6_sayer_7 : decode cX6_sayer 7 = .ok (.isub, 1) := by decide +kernel
theorem dX6_sayer_8 : decode cX6_sayer 8 = .ok (.invokestatic 96, 3) := by decide +kernel
theorem dX6_sayer_11 : decode cX6_sayer 11 = .ok (.ifCond .eq 18, 3) := by decide +kernel
theorem dX6_sayer_14 : decode cX6_sayer 14 = .ok (.aload_n 0, 1) := by decide +kernel
theorem dX6_sayer_15 : decode cX6_sayer 15 = .ok (.getfield 36, 3) := by decide +kernel
theorem dX6_sayer_18 : decode cX6_sayer 18 = .ok (.bipush 7, 2) := by decide +kernel
theorem dX6_sayer_20 : decode cX6_sayer 20 = .ok (.iload_n 1, 1) := by decide +kernel
theorem dX6_sayer_21 : decode cX6_sayer 21 = .ok (.imul, 1) := by decide +kernel
theorem dX6_sayer_22 : decode cX6_sayer 22 = .ok (.bipush 6, 2) := by decide +kernel
theorem dX6_sayer_24 : decode cX6_sayer 24 = .ok (.iadd, 1) := by decide +kernel
theorem dX6_sayer_25 : decode cX6_sayer 25 = .ok (.iaload, 1) := by decide +kernel
theorem dX6_sayer_26 : decode cX6_sayer 26 = .ok (.ifCond .eq 5, 3) := by decide +kernel
theorem dX6_sayer_29 : decode cX6_sayer 29 = .ok (.iconst (-1), 1) := by decide +kernel
theorem dX6_sayer_30 : decode cX6_sayer 30 = .ok (.ireturn, 1) := by decide +kernel
theorem dX6_sayer_31 : decode cX6_sayer 31 = .ok (.aload_n 0, 1) := by decide +kernel
theorem dX6_sayer_32 : decode cX6_sayer 32 = .ok (.getfield 36, 3) := by decide +kernel
theorem dX6_sayer_35 : decode cX6_sayer 35 = .ok (.bipush 7, 2) := by decide +kernel
theorem dX6_sayer_37 : decode cX6_sayer 37 = .ok (.iload_n 1, 1) := by decide +kernel
theorem dX6_sayer_38 : decode cX6_sayer 38 = .ok (.imul, 1) := by decide +kernel
theorem dX6_sayer_39 : decode cX6_sayer 39 = .ok (.iconst 1, 1) := by decide +kernel
theorem dX6_sayer_40 : decode cX6_sayer 40 = .ok (.iadd, 1) := by decide +kernel
theorem dX6_sayer_41 : decode cX6_sayer 41 = .ok (.iaload, 1) := by decide +kernel
theorem dX6_sayer_42 : decode cX6_sayer 42 = .ok (.iload_n 2, 1) := by decide +kernel
theorem dX6_sayer_43 : decode cX6_sayer 43 = .ok (.if_icmp .ne 12, 3) := by decide +kernel
theorem dX6_sayer_46 : decode cX6_sayer 46 = .ok (.bipush 7, 2) := by decide +kernel
theorem dX6_sayer_48 : decode cX6_sayer 48 = .ok (.iload_n 1, 1) := by decide +kernel
theorem dX6_sayer_49 : decode cX6_sayer 49 = .ok (.imul, 1) := by decide +kernel
theorem dX6_sayer_50 : decode cX6_sayer 50 = .ok (.iconst 4, 1) := by decide +kernel
theorem dX6_sayer_51 : decode cX6_sayer 51 = .ok (.iadd, 1) := by decide +kernel
theorem dX6_sayer_52 : decode cX6_sayer 52 = .ok (.goto 28, 3) := by decide +kernel
theorem dX6_sayer_55 : decode cX6_sayer 55 = .ok (.aload_n 0, 1) := by decide +kernel
theorem dX6_sayer_56 : decode cX6_sayer 56 = .ok (.getfield 36, 3) := by decide +kernel
theorem dX6_sayer_59 : decode cX6_sayer 59 = .ok (.bipush 7, 2) := by decide +kernel
theorem dX6_sayer_61 : decode cX6_sayer 61 = .ok (.iload_n 1, 1) := by decide +kernel
theorem dX6_sayer_62 : decode cX6_sayer 62 = .ok (.imul, 1) := by decide +kernel
theorem dX6_sayer_63 : decode cX6_sayer 63 = .ok (.iconst 2, 1) := by decide +kernel
theorem dX6_sayer_64 : decode cX6_sayer 64 = .ok (.iadd, 1) := by decide +kernel
theorem dX6_sayer_65 : decode cX6_sayer 65 = .ok (.iaload, 1) := by decide +kernel
theorem dX6_sayer_66 : decode cX6_sayer 66 = .ok (.iload_n 2, 1) := by decide +kernel
theorem dX6_sayer_67 : decode cX6_sayer 67 = .ok (.if_icmp .ne 12, 3) := by decide +kernel
theorem dX6_sayer_70 : decode cX6_sayer 70 = .ok (.bipush 7, 2) := by decide +kernel
theorem dX6_sayer_72 : decode cX6_sayer 72 = .ok (.iload_n 1, 1) := by decide +kernel
theorem dX6_sayer_73 : decode cX6_sayer 73 = .ok (.imul, 1) := by decide +kernel
theorem dX6_sayer_74 : decode cX6_sayer 74 = .ok (.iconst 5, 1) := by decide +kernel
theorem dX6_sayer_75 : decode cX6_sayer 75 = .ok (.iadd, 1) := by decide +kernel
theorem dX6_sayer_76 : decode cX6_sayer 76 = .ok (.goto 4, 3) := by decide +kernel
theorem dX6_sayer_79 : decode cX6_sayer 79 = .ok (.iconst (-1), 1) := by decide +kernel
theorem dX6_sayer_80 : decode cX6_sayer 80 = .ok (.ireturn, 1) := by decide +kernel
theorem dX6_yes_0 : decode cX6_yes 0 = .ok (.aload_n 0, 1) := by decide +kernel
theorem dX6_yes_1 : decode cX6_yes 1 = .ok (.iload_n 1, 1) := by decide +kernel
theorem dX6_yes_2 : decode cX6_yes 2 = .ok (.iload_n 2, 1) := by decide +kernel
theorem dX6_yes_3 : decode cX6_yes 3 = .ok (.invokevirtual 219, 3) := by decide +kernel
theorem dX6_yes_6 : decode cX6_yes 6 = .ok (.istore 4, 2) := by decide +kernel
theorem dX6_yes_8 : decode cX6_yes 8 = .ok (.bipush 7, 2) := by decide +kernel
theorem dX6_yes_10 : decode cX6_yes 10 = .ok (.iload_n 1, 1) := by decide +kernel
theorem dX6_yes_11 : decode cX6_yes 11 = .ok (.imul, 1) := by decide +kernel
theorem dX6_yes_12 : decode cX6_yes 12 = .ok (.istore 5, 2) := by decide +kernel
theorem dX6_yes_14 : decode cX6_yes 14 = .ok (.iload 4, 2) := by decide +kernel
theorem dX6_yes_16 : decode cX6_yes 16 = .ok (.iconst (-1), 1) := by decide +kernel
theorem dX6_yes_17 : decode cX6_yes 17 = .ok (.if_icmp .eq 34, 3) := by decide +kernel
theorem dX6_yes_20 : decode cX6_yes 20 = .ok (.aload_n 0, 1) := by decide +kernel
theorem dX6_yes_21 : decode cX6_yes 21 = .ok (.getfield 36, 3) := by decide +kernel
theorem dX6_yes_24 : decode cX6_yes 24 = .ok (.iload 4, 2) := by decide +kernel
theorem dX6_yes_26 : decode cX6_yes 26 = .ok (.iaload, 1) := by decide +kernel
theorem dX6_yes_27 : decode cX6_yes 27 = .ok (.iconst (-1), 1) := by decide +kernel
theorem dX6_yes_28 : decode cX6_yes 28 = .ok (.if_icmp .ne 23, 3) := by decide +kernel
theorem dX6_yes_31 : decode cX6_yes 31 = .ok (.iload_n 3, 1) := by decide +kernel
theorem dX6_yes_32 : decode cX6_yes 32 = .ok (.aload_n 0, 1) := by decide +kernel
theorem dX6_yes_33 : decode cX6_yes 33 = .ok (.getfield 36, 3) := by decide +kernel
theorem dX6_yes_36 : decode cX6_yes 36 = .ok (.iload 5, 2) := by decide +kernel
theorem dX6_yes_38 : decode cX6_yes 38 = .ok (.iconst 3, 1) := by decide +kernel
theorem dX6_yes_39 : decode cX6_yes 39 = .ok (.iadd, 1) := by decide +kernel
theorem dX6_yes_40 : decode cX6_yes 40 = .ok (.iaload, 1) := by decide +kernel
theorem dX6_yes_41 : decode cX6_yes 41 = .ok (.aload_n 0, 1) := by decide +kernel
theorem dX6_yes_42 : decode cX6_yes 42 = .ok (.getfield 204, 3) := by decide +kernel
theorem dX6_yes_45 : decode cX6_yes 45 = .ok (.invokestatic 96, 3) := by decide +kernel
theorem dX6_yes_48 : decode cX6_yes 48 = .ok (.ifCond .ne 5, 3) := by decide +kernel
theorem dX6_yes_51 : decode cX6_yes 51 = .ok (.iconst (-1), 1) := by decide +kernel
theorem dX6_yes_52 : decode cX6_yes 52 = .ok (.ireturn, 1) := by decide +kernel
theorem dX6_yes_53 : decode cX6_yes 53 = .ok (.aload_n 0, 1) := by decide +kernel
theorem dX6_yes_54 : decode cX6_yes 54 = .ok (.getfield 36, 3) := by decide +kernel
theorem dX6_yes_57 : decode cX6_yes 57 = .ok (.iload 4, 2) := by decide +kernel
theorem dX6_yes_59 : decode cX6_yes 59 = .ok (.iload_n 3, 1) := by decide +kernel
theorem dX6_yes_60 : decode cX6_yes 60 = .ok (.iastore, 1) := by decide +kernel
theorem dX6_yes_61 : decode cX6_yes 61 = .ok (.aload_n 0, 1) := by decide +kernel
theorem dX6_yes_62 : decode cX6_yes 62 = .ok (.getfield 36, 3) := by decide +kernel
theorem dX6_yes_65 : decode cX6_yes 65 = .ok (.iload 4, 2) := by decide +kernel
theorem dX6_yes_67 : decode cX6_yes 67 = .ok (.iload 5, 2) := by decide +kernel
theorem dX6_yes_69 : decode cX6_yes 69 = .ok (.iconst 4, 1) := by decide +kernel
theorem dX6_yes_70 : decode cX6_yes 70 = .ok (.iadd, 1) := by decide +kernel
theorem dX6_yes_71 : decode cX6_yes 71 = .ok (.if_icmp .ne 10, 3) := by decide +kernel
theorem dX6_yes_74 : decode cX6_yes 74 = .ok (.iload 5, 2) := by decide +kernel
theorem dX6_yes_76 : decode cX6_yes 76 = .ok (.iconst 5, 1) := by decide +kernel
theorem dX6_yes_77 : decode cX6_yes 77 = .ok (.iadd, 1) := by decide +kernel
theorem dX6_yes_78 : decode cX6_yes 78 = .ok (.goto 7, 3) := by decide +kernel
theorem dX6_yes_81 : decode cX6_yes 81 = .ok (.iload 5, 2) := by decide +kernel
theorem dX6_yes_83 : decode cX6_yes 83 = .ok (.iconst 4, 1) := by decide +kernel
theorem dX6_yes_84 : decode cX6_yes 84 = .ok (.iadd, 1) := by decide +kernel
theorem dX6_yes_85 : decode cX6_yes 85 = .ok (.iaload, 1) := by decide +kernel
theorem dX6_yes_86 : decode cX6_yes 86 = .ok (.istore 6, 2) := by decide +kernel
theorem dX6_yes_88 : decode cX6_yes 88 = .ok (.iload 6, 2) := by decide +kernel
theorem dX6_yes_90 : decode cX6_yes 90 = .ok (.iconst (-1), 1) := by decide +kernel
theorem dX6_yes_91 : decode cX6_yes 91 = .ok (.if_icmp .ne 5, 3) := by decide +kernel
theorem dX6_yes_94 : decode cX6_yes 94 = .ok (.iconst 0, 1) := by decide +kernel
theorem dX6_yes_95 : decode cX6_yes 95 = .ok (.ireturn, 1) := by decide +kernel
theorem dX6_yes_96 : decode cX6_yes 96 = .ok (.aload_n 0, 1) := by decide +kernel
theorem dX6_yes_97 : decode cX6_yes 97 = .ok (.iconst 0, 1) := by decide +kernel
theorem dX6_yes_98 : decode cX6_yes 98 = .ok (.putfield 39, 3) := by decide +kernel
theorem dX6_yes_101 : decode cX6_yes 101 = .ok (.aload_n 0, 1) := by decide +kernel
theorem dX6_yes_102 : decode cX6_yes 102 = .ok (.iconst (-1), 1) := by decide +kernel
theorem dX6_yes_103 : decode cX6_yes 103 = .ok (.putfield 42, 3) := by decide +kernel
theorem dX6_yes_106 : decode cX6_yes 106 = .ok (.iload 6, 2) := by decide +kernel
theorem dX6_yes_108 : decode cX6_yes 108 = .ok (.iload_n 3, 1) := by decide +kernel
theorem dX6_yes_109 : decode cX6_yes 109 = .ok (.if_icmp .le 8, 3) := by decide +kernel
theorem dX6_yes_112 : decode cX6_yes 112 = .ok (.iload 6, 2) := by decide +kernel
theorem dX6_yes_114 : decode cX6_yes 114 = .ok (.goto 4, 3) := by decide +kernel
theorem dX6_yes_117 : decode cX6_yes 117 = .ok (.iload_n 3, 1) := by decide +kernel
theorem dX6_yes_118 : decode cX6_yes 118 = .ok (.istore 7, 2) := by decide +kernel
theorem dX6_yes_120 : decode cX6_yes 120 = .ok (.iload 7, 2) := by decide +kernel
theorem dX6_yes_122 : decode cX6_yes 122 = .ok (.aload_n 0, 1) := by decide +kernel
theorem dX6_yes_123 : decode cX6_yes 123 = .ok (.getfield 36, 3) := by decide +kernel
theorem dX6_yes_126 : decode cX6_yes 126 = .ok (.iload 5, 2) := by decide +kernel
theorem dX6_yes_128 : decode cX6_yes 128 = .ok (.iconst 3, 1) := by decide +kernel
theorem dX6_yes_129 : decode cX6_yes 129 = .ok (.iadd, 1) := by decide +kernel
theorem dX6_yes_130 : decode cX6_yes 130 = .ok (.iaload, 1) := by decide +kernel
theorem dX6_yes_131 : decode cX6_yes 131 = .ok (.isub, 1) := by decide +kernel
theorem dX6_yes_132 : decode cX6_yes 132 = .ok (.bipush 30, 2) := by decide +kernel
theorem dX6_yes_134 : decode cX6_yes 134 = .ok (.if_icmp .le 7, 3) := by decide +kernel
theorem dX6_yes_137 : decode cX6_yes 137 = .ok (.iconst 1, 1) := by decide +kernel
theorem dX6_yes_138 : decode cX6_yes 138 = .ok (.goto 4, 3) := by decide +kernel
theorem dX6_yes_141 : decode cX6_yes 141 = .ok (.iconst 0, 1) := by decide +kernel
theorem dX6_yes_142 : decode cX6_yes 142 = .ok (.istore 8, 2) := by decide +kernel
theorem dX6_yes_144 : decode cX6_yes 144 = .ok (.aload_n 0, 1) := by decide +kernel
theorem dX6_yes_145 : decode cX6_yes 145 = .ok (.getfield 195, 3) := by decide +kernel
theorem dX6_yes_148 : decode cX6_yes 148 = .ok (.sipush 400, 3) := by decide +kernel
theorem dX6_yes_151 : decode cX6_yes 151 = .ok (.if_icmp .ne 11, 3) := by decide +kernel
theorem dX6_yes_154 : decode cX6_yes 154 = .ok (.aload_n 0, 1) := by decide +kernel
theorem dX6_yes_155 : decode cX6_yes 155 = .ok (.iconst 1, 1) := by decide +kernel
theorem dX6_yes_156 : decode cX6_yes 156 = .ok (.putfield 39, 3) := by decide +kernel
theorem dX6_yes_159 : decode cX6_yes 159 = .ok (.goto 55, 3) := by decide +kernel
theorem dX6_yes_162 : decode cX6_yes 162 = .ok (.aload_n 0, 1) := by decide +kernel
theorem dX6_yes_163 : decode cX6_yes 163 = .ok (.iconst 3, 1) := by decide +kernel
theorem dX6_yes_164 : decode cX6_yes 164 = .ok (.aload_n 0, 1) := by decide +kernel
theorem dX6_yes_165 : decode cX6_yes 165 = .ok (.getfield 36, 3) := by decide +kernel
theorem dX6_yes_168 : decode cX6_yes 168 = .ok (.iload 5, 2) := by decide +kernel
theorem dX6_yes_170 : decode cX6_yes 170 = .ok (.iaload, 1) := by decide +kernel
theorem dX6_yes_171 : decode cX6_yes 171 = .ok (.iconst (-1), 1) := by decide +kernel
theorem dX6_yes_172 : decode cX6_yes 172 = .ok (.iconst (-1), 1) := by decide +kernel
theorem dX6_yes_173 : decode cX6_yes 173 = .ok (.aload_n 0, 1) := by decide +kernel
theorem dX6_yes_174 : decode cX6_yes 174 = .ok (.getfield 36, 3) := by decide +kernel
theorem dX6_yes_177 : decode cX6_yes 177 = .ok (.iload 5, 2) := by decide +kernel
theorem dX6_yes_179 : decode cX6_yes 179 = .ok (.iconst 1, 1) := by decide +kernel
theorem dX6_yes_180 : decode cX6_yes 180 = .ok (.iadd, 1) := by decide +kernel
theorem dX6_yes_181 : decode cX6_yes 181 = .ok (.iaload, 1) := by decide +kernel
theorem dX6_yes_182 : decode cX6_yes 182 = .ok (.aload_n 0, 1) := by decide +kernel
theorem dX6_yes_183 : decode cX6_yes 183 = .ok (.getfield 36, 3) := by decide +kernel
theorem dX6_yes_186 : decode cX6_yes 186 = .ok (.iload 5, 2) := by decide +kernel
theorem dX6_yes_188 : decode cX6_yes 188 = .ok (.iconst 2, 1) := by decide +kernel
theorem dX6_yes_189 : decode cX6_yes 189 = .ok (.iadd, 1) := by decide +kernel
theorem dX6_yes_190 : decode cX6_yes 190 = .ok (.iaload, 1) := by decide +kernel
theorem dX6_yes_191 : decode cX6_yes 191 = .ok (.iload 8, 2) := by decide +kernel
theorem dX6_yes_193 : decode cX6_yes 193 = .ok (.ifCond .eq 8, 3) := by decide +kernel
theorem dX6_yes_196 : decode cX6_yes 196 = .ok (.iload 7, 2) := by decide +kernel
theorem dX6_yes_198 : decode cX6_yes 198 = .ok (.goto 12, 3) := by decide +kernel
theorem dX6_yes_201 : decode cX6_yes 201 = .ok (.aload_n 0, 1) := by decide +kernel
theorem dX6_yes_202 : decode cX6_yes 202 = .ok (.getfield 36, 3) := by decide +kernel
theorem dX6_yes_205 : decode cX6_yes 205 = .ok (.iload 5, 2) := by decide +kernel
theorem dX6_yes_207 : decode cX6_yes 207 = .ok (.iconst 3, 1) := by decide +kernel
theorem dX6_yes_208 : decode cX6_yes 208 = .ok (.iadd, 1) := by decide +kernel
theorem dX6_yes_209 : decode cX6_yes 209 = .ok (.iaload, 1) := by decide +kernel
theorem dX6_yes_210 : decode cX6_yes 210 = .ok (.invokevirtual 212, 3) := by decide +kernel
theorem dX6_yes_213 : decode cX6_yes 213 = .ok (.pop, 1) := by decide +kernel
theorem dX6_yes_214 : decode cX6_yes 214 = .ok (.aload_n 0, 1) := by decide +kernel
theorem dX6_yes_215 : decode cX6_yes 215 = .ok (.getfield 39, 3) := by decide +kernel
theorem dX6_yes_218 : decode cX6_yes 218 = .ok (.ifCond .eq 13, 3) := by decide +kernel
theorem dX6_yes_221 : decode cX6_yes 221 = .ok (.aload_n 0, 1) := by decide +kernel
theorem dX6_yes_222 : decode cX6_yes 222 = .ok (.getfield 36, 3) := by decide +kernel
theorem dX6_yes_225 : decode cX6_yes 225 = .ok (.iload 4, 2) := by decide +kernel
theorem dX6_yes_227 : decode cX6_yes 227 = .ok (.iconst (-1), 1) := by decide +kernel
theorem dX6_yes_228 : decode cX6_yes 228 = .ok (.iastore, 1) := by decide +kernel
theorem dX6_yes_229 : decode cX6_yes 229 = .ok (.iconst 3, 1) := by decide +kernel
theorem dX6_yes_230 : decode cX6_yes 230 = .ok (.ireturn, 1) := by decide +kernel
theorem dX6_yes_231 : decode cX6_yes 231 = .ok (.aload_n 0, 1) := by decide +kernel
theorem dX6_yes_232 : decode cX6_yes 232 = .ok (.getfield 36, 3) := by decide +kernel
theorem dX6_yes_235 : decode cX6_yes 235 = .ok (.iload 5, 2) := by decide +kernel
theorem dX6_yes_237 : decode cX6_yes 237 = .ok (.bipush 6, 2) := by decide +kernel
theorem dX6_yes_239 : decode cX6_yes 239 = .ok (.iadd, 1) := by decide +kernel
theorem dX6_yes_240 : decode cX6_yes 240 = .ok (.iconst 1, 1) := by decide +kernel
theorem dX6_yes_241 : decode cX6_yes 241 = .ok (.iastore, 1) := by decide +kernel
theorem dX6_yes_242 : decode cX6_yes 242 = .ok (.iload 8, 2) := by decide +kernel
theorem dX6_yes_244 : decode cX6_yes 244 = .ok (.ifCond .eq 7, 3) := by decide +kernel
theorem dX6_yes_247 : decode cX6_yes 247 = .ok (.iconst 2, 1) := by decide +kernel
theorem dX6_yes_248 : decode cX6_yes 248 = .ok (.goto 4, 3) := by decide +kernel
theorem dX6_yes_251 : decode cX6_yes 251 = .ok (.iconst 1, 1) := by decide +kernel
theorem dX6_yes_252 : decode cX6_yes 252 = .ok (.ireturn, 1) := by decide +kernel
theorem dX6_no_0 : decode cX6_no 0 = .ok (.aload_n 0, 1) := by decide +kernel
theorem dX6_no_1 : decode cX6_no 1 = .ok (.iload_n 1, 1) := by decide +kernel
theorem dX6_no_2 : decode cX6_no 2 = .ok (.iload_n 2, 1) := by decide +kernel
theorem dX6_no_3 : decode cX6_no 3 = .ok (.invokevirtual 219, 3) := by decide +kernel
theorem dX6_no_6 : decode cX6_no 6 = .ok (.iconst (-1), 1) := by decide +kernel
theorem dX6_no_7 : decode cX6_no 7 = .ok (.if_icmp .ne 5, 3) := by decide +kernel
theorem dX6_no_10 : decode cX6_no 10 = .ok (.iconst 0, 1) := by decide +kernel
theorem dX6_no_11 : decode cX6_no 11 = .ok (.ireturn, 1) := by decide +kernel
theorem dX6_no_12 : decode cX6_no 12 = .ok (.aload_n 0, 1) := by decide +kernel
theorem dX6_no_13 : decode cX6_no 13 = .ok (.getfield 36, 3) := by decide +kernel
theorem dX6_no_16 : decode cX6_no 16 = .ok (.bipush 7, 2) := by decide +kernel
theorem dX6_no_18 : decode cX6_no 18 = .ok (.iload_n 1, 1) := by decide +kernel
theorem dX6_no_19 : decode cX6_no 19 = .ok (.imul, 1) := by decide +kernel
theorem dX6_no_20 : decode cX6_no 20 = .ok (.bipush 6, 2) := by decide +kernel
theorem dX6_no_22 : decode cX6_no 22 = .ok (.iadd, 1) := by decide +kernel
theorem dX6_no_23 : decode cX6_no 23 = .ok (.iconst 1, 1) := by decide +kernel
theorem dX6_no_24 : decode cX6_no 24 = .ok (.iastore, 1) := by decide +kernel
theorem dX6_no_25 : decode cX6_no 25 = .ok (.iconst 1, 1) := by decide +kernel
theorem dX6_no_26 : decode cX6_no 26 = .ok (.ireturn, 1) := by decide +kernel
theorem dX6_about_0 : decode cX6_about 0 = .ok (.iload_n 1, 1) := by decide +kernel
theorem dX6_about_1 : decode cX6_about 1 = .ok (.tableswitch 78 0 6 #[43, 48, 53, 58, 63, 68, 73], 43) := by decide +kernel
theorem dX6_about_44 : decode cX6_about 44 = .ok (.aload_n 0, 1) := by decide +kernel
theorem dX6_about_45 : decode cX6_about 45 = .ok (.getfield 100, 3) := by decide +kernel
theorem dX6_about_48 : decode cX6_about 48 = .ok (.ireturn, 1) := by decide +kernel
theorem dX6_about_49 : decode cX6_about 49 = .ok (.aload_n 0, 1) := by decide +kernel
theorem dX6_about_50 : decode cX6_about 50 = .ok (.getfield 103, 3) := by decide +kernel
theorem dX6_about_53 : decode cX6_about 53 = .ok (.ireturn, 1) := by decide +kernel
theorem dX6_about_54 : decode cX6_about 54 = .ok (.aload_n 0, 1) := by decide +kernel
theorem dX6_about_55 : decode cX6_about 55 = .ok (.getfield 93, 3) := by decide +kernel
theorem dX6_about_58 : decode cX6_about 58 = .ok (.ireturn, 1) := by decide +kernel
theorem dX6_about_59 : decode cX6_about 59 = .ok (.aload_n 0, 1) := by decide +kernel
theorem dX6_about_60 : decode cX6_about 60 = .ok (.getfield 195, 3) := by decide +kernel
theorem dX6_about_63 : decode cX6_about 63 = .ok (.ireturn, 1) := by decide +kernel
theorem dX6_about_64 : decode cX6_about 64 = .ok (.aload_n 0, 1) := by decide +kernel
theorem dX6_about_65 : decode cX6_about 65 = .ok (.getfield 204, 3) := by decide +kernel
theorem dX6_about_68 : decode cX6_about 68 = .ok (.ireturn, 1) := by decide +kernel
theorem dX6_about_69 : decode cX6_about 69 = .ok (.aload_n 0, 1) := by decide +kernel
theorem dX6_about_70 : decode cX6_about 70 = .ok (.getfield 216, 3) := by decide +kernel
theorem dX6_about_73 : decode cX6_about 73 = .ok (.ireturn, 1) := by decide +kernel
theorem dX6_about_74 : decode cX6_about 74 = .ok (.aload_n 0, 1) := by decide +kernel
theorem dX6_about_75 : decode cX6_about 75 = .ok (.getfield 9, 3) := by decide +kernel
theorem dX6_about_78 : decode cX6_about 78 = .ok (.ireturn, 1) := by decide +kernel
theorem dX6_about_79 : decode cX6_about 79 = .ok (.iconst (-1), 1) := by decide +kernel
theorem dX6_about_80 : decode cX6_about 80 = .ok (.ireturn, 1) := by decide +kernel
theorem dX6_slipOf_0 : decode cX6_slipOf 0 = .ok (.iload_n 1, 1) := by decide +kernel
theorem dX6_slipOf_1 : decode cX6_slipOf 1 = .ok (.iconst 0, 1) := by decide +kernel
theorem dX6_slipOf_2 : decode cX6_slipOf 2 = .ok (.aload_n 0, 1) := by decide +kernel
theorem dX6_slipOf_3 : decode cX6_slipOf 3 = .ok (.getfield 195, 3) := by decide +kernel
theorem dX6_slipOf_6 : decode cX6_slipOf 6 = .ok (.iconst 1, 1) := by decide +kernel
theorem dX6_slipOf_7 : decode cX6_slipOf 7 = .ok (.isub, 1) := by decide +kernel
theorem dX6_slipOf_8 : decode cX6_slipOf 8 = .ok (.invokestatic 96, 3) := by decide +kernel
theorem dX6_slipOf_11 : decode cX6_slipOf 11 = .ok (.ifCond .eq 13, 3) := by decide +kernel
theorem dX6_slipOf_14 : decode cX6_slipOf 14 = .ok (.iload_n 2, 1) := by decide +kernel
theorem dX6_slipOf_15 : decode cX6_slipOf 15 = .ok (.iconst 0, 1) := by decide +kernel
theorem dX6_slipOf_16 : decode cX6_slipOf 16 = .ok (.bipush 8, 2) := by decide +kernel
theorem dX6_slipOf_18 : decode cX6_slipOf 18 = .ok (.invokestatic 96, 3) := by decide +kernel
theorem dX6_slipOf_21 : decode cX6_slipOf 21 = .ok (.ifCond .ne 5, 3) := by decide +kernel
theorem dX6_slipOf_24 : decode cX6_slipOf 24 = .ok (.iconst (-1), 1) := by decide +kernel
theorem dX6_slipOf_25 : decode cX6_slipOf 25 = .ok (.ireturn, 1) := by decide +kernel
theorem dX6_slipOf_26 : decode cX6_slipOf 26 = .ok (.iload_n 2, 1) := by decide +kernel
theorem dX6_slipOf_27 : decode cX6_slipOf 27 = .ok (.bipush 8, 2) := by decide +kernel
theorem dX6_slipOf_29 : decode cX6_slipOf 29 = .ok (.if_icmp .ge 15, 3) := by decide +kernel
theorem dX6_slipOf_32 : decode cX6_slipOf 32 = .ok (.aload_n 0, 1) := by decide +kernel
theorem dX6_slipOf_33 : decode cX6_slipOf 33 = .ok (.getfield 30, 3) := by decide +kernel
theorem dX6_slipOf_36 : decode cX6_slipOf 36 = .ok (.bipush 8, 2) := by decide +kernel
theorem dX6_slipOf_38 : decode cX6_slipOf 38 = .ok (.iload_n 1, 1) := by decide +kernel
theorem dX6_slipOf_39 : decode cX6_slipOf 39 = .ok (.imul, 1) := by decide +kernel
theorem dX6_slipOf_40 : decode cX6_slipOf 40 = .ok (.iload_n 2, 1) := by decide +kernel
theorem dX6_slipOf_41 : decode cX6_slipOf 41 = .ok (.iadd, 1) := by decide +kernel
theorem dX6_slipOf_42 : decode cX6_slipOf 42 = .ok (.iaload, 1) := by decide +kernel
theorem dX6_slipOf_43 : decode cX6_slipOf 43 = .ok (.ireturn, 1) := by decide +kernel
theorem dX6_slipOf_44 : decode cX6_slipOf 44 = .ok (.iconst 0, 1) := by decide +kernel
theorem dX6_slipOf_45 : decode cX6_slipOf 45 = .ok (.istore_n 3, 1) := by decide +kernel
theorem dX6_slipOf_46 : decode cX6_slipOf 46 = .ok (.iload_n 3, 1) := by decide +kernel
theorem dX6_slipOf_47 : decode cX6_slipOf 47 = .ok (.iload_n 1, 1) := by decide +kernel
theorem dX6_slipOf_48 : decode cX6_slipOf 48 = .ok (.if_icmp .ge 38, 3) := by decide +kernel
theorem dX6_slipOf_51 : decode cX6_slipOf 51 = .ok (.aload_n 0, 1) := by decide +kernel
theorem dX6_slipOf_52 : decode cX6_slipOf 52 = .ok (.getfield 30, 3) := by decide +kernel
theorem dX6_slipOf_55 : decode cX6_slipOf 55 = .ok (.bipush 8, 2) := by decide +kernel
theorem dX6_slipOf_57 : decode cX6_slipOf 57 = .ok (.iload_n 3, 1) := by decide +kernel
theorem dX6_slipOf_58 : decode cX6_slipOf 58 = .ok (.imul, 1) := by decide +kernel
theorem dX6_slipOf_59 : decode cX6_slipOf 59 = .ok (.bipush 6, 2) := by decide +kernel
theorem dX6_slipOf_61 : decode cX6_slipOf 61 = .ok (.iadd, 1) := by decide +kernel
theorem dX6_slipOf_62 : decode cX6_slipOf 62 = .ok (.iaload, 1) := by decide +kernel
theorem dX6_slipOf_63 : decode cX6_slipOf 63 = .ok (.aload_n 0, 1) := by decide +kernel
theorem dX6_slipOf_64 : decode cX6_slipOf 64 = .ok (.getfield 30, 3) := by decide +kernel
theorem dX6_slipOf_67 : decode cX6_slipOf 67 = .ok (.bipush 8, 2) := by decide +kernel
theorem dX6_slipOf_69 : decode cX6_slipOf 69 = .ok (.iload_n 1, 1) := by decide +kernel
theorem dX6_slipOf_70 : decode cX6_slipOf 70 = .ok (.imul, 1) := by decide +kernel
theorem dX6_slipOf_71 : decode cX6_slipOf 71 = .ok (.bipush 6, 2) := by decide +kernel
theorem dX6_slipOf_73 : decode cX6_slipOf 73 = .ok (.iadd, 1) := by decide +kernel
theorem dX6_slipOf_74 : decode cX6_slipOf 74 = .ok (.iaload, 1) := by decide +kernel
theorem dX6_slipOf_75 : decode cX6_slipOf 75 = .ok (.if_icmp .le 5, 3) := by decide +kernel
theorem dX6_slipOf_78 : decode cX6_slipOf 78 = .ok (.iconst 1, 1) := by decide +kernel
theorem dX6_slipOf_79 : decode cX6_slipOf 79 = .ok (.ireturn, 1) := by decide +kernel
theorem dX6_slipOf_80 : decode cX6_slipOf 80 = .ok (.iinc 3 1, 3) := by decide +kernel
theorem dX6_slipOf_83 : decode cX6_slipOf 83 = .ok (.goto (-37), 3) := by decide +kernel
theorem dX6_slipOf_86 : decode cX6_slipOf 86 = .ok (.iconst 0, 1) := by decide +kernel
theorem dX6_slipOf_87 : decode cX6_slipOf 87 = .ok (.ireturn, 1) := by decide +kernel
theorem dX6_bits_0 : decode cX6_bits 0 = .ok (.iconst 0, 1) := by decide +kernel
theorem dX6_bits_1 : decode cX6_bits 1 = .ok (.istore_n 2, 1) := by decide +kernel
theorem dX6_bits_2 : decode cX6_bits 2 = .ok (.iconst 0, 1) := by decide +kernel
theorem dX6_bits_3 : decode cX6_bits 3 = .ok (.istore_n 3, 1) := by decide +kernel
theorem dX6_bits_4 : decode cX6_bits 4 = .ok (.iload_n 3, 1) := by decide +kernel
theorem dX6_bits_5 : decode cX6_bits 5 = .ok (.bipush 31, 2) := by decide +kernel
theorem dX6_bits_7 : decode cX6_bits 7 = .ok (.if_icmp .ge 17, 3) := by decide +kernel
theorem dX6_bits_10 : decode cX6_bits 10 = .ok (.iload_n 2, 1) := by decide +kernel
theorem dX6_bits_11 : decode cX6_bits 11 = .ok (.iload_n 1, 1) := by decide +kernel
theorem dX6_bits_12 : decode cX6_bits 12 = .ok (.iload_n 3, 1) := by decide +kernel
theorem dX6_bits_13 : decode cX6_bits 13 = .ok (.ishr, 1) := by decide +kernel
theorem dX6_bits_14 : decode cX6_bits 14 = .ok (.iconst 1, 1) := by decide +kernel
theorem dX6_bits_15 : decode cX6_bits 15 = .ok (.iand, 1) := by decide +kernel
theorem dX6_bits_16 : decode cX6_bits 16 = .ok (.iadd, 1) := by decide +kernel
theorem dX6_bits_17 : decode cX6_bits 17 = .ok (.istore_n 2, 1) := by decide +kernel
theorem dX6_bits_18 : decode cX6_bits 18 = .ok (.iinc 3 1, 3) := by decide +kernel
theorem dX6_bits_21 : decode cX6_bits 21 = .ok (.goto (-17), 3) := by decide +kernel
theorem dX6_bits_24 : decode cX6_bits 24 = .ok (.iload_n 2, 1) := by decide +kernel
theorem dX6_bits_25 : decode cX6_bits 25 = .ok (.ireturn, 1) := by decide +kernel
theorem dX6_where_0 : decode cX6_where 0 = .ok (.iload_n 1, 1) := by decide +kernel
theorem dX6_where_1 : decode cX6_where 1 = .ok (.iconst 0, 1) := by decide +kernel
theorem dX6_where_2 : decode cX6_where 2 = .ok (.aload_n 0, 1) := by decide +kernel
theorem dX6_where_3 : decode cX6_where 3 = .ok (.getfield 93, 3) := by decide +kernel
theorem dX6_where_6 : decode cX6_where 6 = .ok (.iconst 1, 1) := by decide +kernel
theorem dX6_where_7 : decode cX6_where 7 = .ok (.isub, 1) := by decide +kernel
theorem dX6_where_8 : decode cX6_where 8 = .ok (.invokestatic 96, 3) := by decide +kernel
theorem dX6_where_11 : decode cX6_where 11 = .ok (.ifCond .eq 14, 3) := by decide +kernel
theorem dX6_where_14 : decode cX6_where 14 = .ok (.iload 4, 2) := by decide +kernel
theorem dX6_where_16 : decode cX6_where 16 = .ok (.iconst 0, 1) := by decide +kernel
theorem dX6_where_17 : decode cX6_where 17 = .ok (.bipush 11, 2) := by decide +kernel
theorem dX6_where_19 : decode cX6_where 19 = .ok (.invokestatic 96, 3) := by decide +kernel
theorem dX6_where_22 : decode cX6_where 22 = .ok (.ifCond .ne 5, 3) := by decide +kernel
theorem dX6_where_25 : decode cX6_where 25 = .ok (.iconst (-1), 1) := by decide +kernel
theorem dX6_where_26 : decode cX6_where 26 = .ok (.ireturn, 1) := by decide +kernel
theorem dX6_where_27 : decode cX6_where 27 = .ok (.aload_n 0, 1) := by decide +kernel
theorem dX6_where_28 : decode cX6_where 28 = .ok (.iload_n 2, 1) := by decide +kernel
theorem dX6_where_29 : decode cX6_where 29 = .ok (.iload_n 3, 1) := by decide +kernel
theorem dX6_where_30 : decode cX6_where 30 = .ok (.invokevirtual 199, 3) := by decide +kernel
theorem dX6_where_33 : decode cX6_where 33 = .ok (.iload 4, 2) := by decide +kernel
theorem dX6_where_35 : decode cX6_where 35 = .ok (.tableswitch 153 0 10 #[57, 64, 71, 78, 85, 96, 107, 114, 121, 136, 147], 57) := by decide +kernel
theorem dX6_where_92 : decode cX6_where 92 = .ok (.aload_n 0, 1) := by decide +kernel
theorem dX6_where_93 : decode cX6_where 93 = .ok (.getfield 45, 3) := by decide +kernel
theorem dX6_where_96 : decode cX6_where 96 = .ok (.iload_n 1, 1) := by decide +kernel
theorem dX6_where_97 : decode cX6_where 97 = .ok (.iaload, 1) := by decide +kernel
theorem dX6_where_98 : decode cX6_where 98 = .ok (.ireturn, 1) := by decide +kernel
theorem dX6_where_99 : decode cX6_where 99 = .ok (.aload_n 0, 1) := by decide +kernel
theorem dX6_where_100 : decode cX6_where 100 = .ok (.getfield 48, 3) := by decide +kernel
theorem dX6_where_103 : decode cX6_where 103 = .ok (.iload_n 1, 1) := by decide +kernel
theorem dX6_where_104 : decode cX6_where 104 = .ok (.iaload, 1) := by decide +kernel
theorem dX6_where_105 : decode cX6_where 105 = .ok (.ireturn, 1) := by decide +kernel
theorem dX6_where_106 : decode cX6_where 106 = .ok (.aload_n 0, 1) := by decide +kernel
theorem dX6_where_107 : decode cX6_where 107 = .ok (.getfield 51, 3) := by decide +kernel
theorem dX6_where_110 : decode cX6_where 110 = .ok (.iload_n 1, 1) := by decide +kernel
theorem dX6_where_111 : decode cX6_where 111 = .ok (.iaload, 1) := by decide +kernel
theorem dX6_where_112 : decode cX6_where 112 = .ok (.ireturn, 1) := by decide +kernel
theorem dX6_where_113 : decode cX6_where 113 = .ok (.aload_n 0, 1) := by decide +kernel
theorem dX6_where_114 : decode cX6_where 114 = .ok (.getfield 54, 3) := by decide +kernel
theorem dX6_where_117 : decode cX6_where 117 = .ok (.iload_n 1, 1) := by decide +kernel
theorem dX6_where_118 : decode cX6_where 118 = .ok (.iaload, 1) := by decide +kernel
theorem dX6_where_119 : decode cX6_where 119 = .ok (.ireturn, 1) := by decide +kernel
theorem dX6_where_120 : decode cX6_where 120 = .ok (.aload_n 0, 1) := by decide +kernel
theorem dX6_where_121 : decode cX6_where 121 = .ok (.getfield 45, 3) := by decide +kernel
theorem dX6_where_124 : decode cX6_where 124 = .ok (.aload_n 0, 1) := by decide +kernel
theorem dX6_where_125 : decode cX6_where 125 = .ok (.iload_n 1, 1) := by decide +kernel
theorem dX6_where_126 : decode cX6_where 126 = .ok (.invokevirtual 223, 3) := by decide +kernel
theorem dX6_where_129 : decode cX6_where 129 = .ok (.iaload, 1) := by decide +kernel
theorem dX6_where_130 : decode cX6_where 130 = .ok (.ireturn, 1) := by decide +kernel
theorem dX6_where_131 : decode cX6_where 131 = .ok (.aload_n 0, 1) := by decide +kernel
theorem dX6_where_132 : decode cX6_where 132 = .ok (.getfield 48, 3) := by decide +kernel
theorem dX6_where_135 : decode cX6_where 135 = .ok (.aload_n 0, 1) := by decide +kernel
theorem dX6_where_136 : decode cX6_where 136 = .ok (.iload_n 1, 1) := by decide +kernel
theorem dX6_where_137 : decode cX6_where 137 = .ok (.invokevirtual 223, 3) := by decide +kernel
theorem dX6_where_140 : decode cX6_where 140 = .ok (.iaload, 1) := by decide +kernel
theorem dX6_where_141 : decode cX6_where 141 = .ok (.ireturn, 1) := by decide +kernel
theorem dX6_where_142 : decode cX6_where 142 = .ok (.aload_n 0, 1) := by decide +kernel
theorem dX6_where_143 : decode cX6_where 143 = .ok (.getfield 57, 3) := by decide +kernel
theorem dX6_where_146 : decode cX6_where 146 = .ok (.iload_n 1, 1) := by decide +kernel
theorem dX6_where_147 : decode cX6_where 147 = .ok (.iaload, 1) := by decide +kernel
theorem dX6_where_148 : decode cX6_where 148 = .ok (.ireturn, 1) := by decide +kernel
theorem dX6_where_149 : decode cX6_where 149 = .ok (.aload_n 0, 1) := by decide +kernel
theorem dX6_where_150 : decode cX6_where 150 = .ok (.getfield 60, 3) := by decide +kernel
theorem dX6_where_153 : decode cX6_where 153 = .ok (.iload_n 1, 1) := by decide +kernel
theorem dX6_where_154 : decode cX6_where 154 = .ok (.iaload, 1) := by decide +kernel
theorem dX6_where_155 : decode cX6_where 155 = .ok (.ireturn, 1) := by decide +kernel
theorem dX6_where_156 : decode cX6_where 156 = .ok (.aload_n 0, 1) := by decide +kernel
theorem dX6_where_157 : decode cX6_where 157 = .ok (.getfield 63, 3) := by decide +kernel
theorem dX6_where_160 : decode cX6_where 160 = .ok (.iload_n 1, 1) := by decide +kernel
theorem dX6_where_161 : decode cX6_where 161 = .ok (.baload, 1) := by decide +kernel
theorem dX6_where_162 : decode cX6_where 162 = .ok (.ifCond .eq 7, 3) := by decide +kernel
theorem dX6_where_165 : decode cX6_where 165 = .ok (.iconst 1, 1) := by decide +kernel
theorem dX6_where_166 : decode cX6_where 166 = .ok (.goto 4, 3) := by decide +kernel
theorem dX6_where_169 : decode cX6_where 169 = .ok (.iconst 0, 1) := by decide +kernel
theorem dX6_where_170 : decode cX6_where 170 = .ok (.ireturn, 1) := by decide +kernel
theorem dX6_where_171 : decode cX6_where 171 = .ok (.aload_n 0, 1) := by decide +kernel
theorem dX6_where_172 : decode cX6_where 172 = .ok (.aload_n 0, 1) := by decide +kernel
theorem dX6_where_173 : decode cX6_where 173 = .ok (.getfield 66, 3) := by decide +kernel
theorem dX6_where_176 : decode cX6_where 176 = .ok (.iload_n 1, 1) := by decide +kernel
theorem dX6_where_177 : decode cX6_where 177 = .ok (.iaload, 1) := by decide +kernel
theorem dX6_where_178 : decode cX6_where 178 = .ok (.invokevirtual 226, 3) := by decide +kernel
theorem dX6_where_181 : decode cX6_where 181 = .ok (.ireturn, 1) := by decide +kernel
theorem dX6_where_182 : decode cX6_where 182 = .ok (.aload_n 0, 1) := by decide +kernel
theorem dX6_where_183 : decode cX6_where 183 = .ok (.iload_n 1, 1) := by decide +kernel
theorem dX6_where_184 : decode cX6_where 184 = .ok (.invokevirtual 168, 3) := by decide +kernel
theorem dX6_where_187 : decode cX6_where 187 = .ok (.ireturn, 1) := by decide +kernel
theorem dX6_where_188 : decode cX6_where 188 = .ok (.aload_n 0, 1) := by decide +kernel
theorem dX6_where_189 : decode cX6_where 189 = .ok (.getfield 69, 3) := by decide +kernel
theorem dX6_where_192 : decode cX6_where 192 = .ok (.iload_n 1, 1) := by decide +kernel
theorem dX6_where_193 : decode cX6_where 193 = .ok (.iaload, 1) := by decide +kernel
theorem dX6_where_194 : decode cX6_where 194 = .ok (.ireturn, 1) := by decide +kernel
theorem dX6_isMove_0 : decode cX6_isMove 0 = .ok (.iload_n 0, 1) := by decide +kernel
theorem dX6_isMove_1 : decode cX6_isMove 1 = .ok (.ifCond .le 9, 3) := by decide +kernel
theorem dX6_isMove_4 : decode cX6_isMove 4 = .ok (.iload_n 0, 1) := by decide +kernel
theorem dX6_isMove_5 : decode cX6_isMove 5 = .ok (.bipush 8, 2) := by decide +kernel
theorem dX6_isMove_7 : decode cX6_isMove 7 = .ok (.if_icmp .lt 9, 3) := by decide +kernel
theorem dX6_isMove_10 : decode cX6_isMove 10 = .ok (.iload_n 0, 1) := by decide +kernel
theorem dX6_isMove_11 : decode cX6_isMove 11 = .ok (.bipush 17, 2) := by decide +kernel
theorem dX6_isMove_13 : decode cX6_isMove 13 = .ok (.if_icmp .le 7, 3) := by decide +kernel
theorem dX6_isMove_16 : decode cX6_isMove 16 = .ok (.iconst 1, 1) := by decide +kernel
theorem dX6_isMove_17 : decode cX6_isMove 17 = .ok (.goto 4, 3) := by decide +kernel
theorem dX6_isMove_20 : decode cX6_isMove 20 = .ok (.iconst 0, 1) := by decide +kernel
theorem dX6_isMove_21 : decode cX6_isMove 21 = .ok (.ireturn, 1) := by decide +kernel
theorem dX6_cameAt_0 : decode cX6_cameAt 0 = .ok (.aload_n 0, 1) := by decide +kernel
theorem dX6_cameAt_1 : decode cX6_cameAt 1 = .ok (.getfield 24, 3) := by decide +kernel
theorem dX6_cameAt_4 : decode cX6_cameAt 4 = .ok (.iload_n 1, 1) := by decide +kernel
theorem dX6_cameAt_5 : decode cX6_cameAt 5 = .ok (.iaload, 1) := by decide +kernel
theorem dX6_cameAt_6 : decode cX6_cameAt 6 = .ok (.iconst 2, 1) := by decide +kernel
theorem dX6_cameAt_7 : decode cX6_cameAt 7 = .ok (.if_icmp .eq 15, 3) := by decide +kernel
theorem dX6_cameAt_10 : decode cX6_cameAt 10 = .ok (.aload_n 0, 1) := by decide +kernel
theorem dX6_cameAt_11 : decode cX6_cameAt 11 = .ok (.getfield 24, 3) := by decide +kernel
theorem dX6_cameAt_14 : decode cX6_cameAt 14 = .ok (.iload_n 1, 1) := by decide +kernel
theorem dX6_cameAt_15 : decode cX6_cameAt 15 = .ok (.iaload, 1) := by decide +kernel
theorem dX6_cameAt_16 : decode cX6_cameAt 16 = .ok (.iconst 3, 1) := by decide +kernel
theorem dX6_cameAt_17 : decode cX6_cameAt 17 = .ok (.if_icmp .eq 5, 3) := by decide +kernel
theorem dX6_cameAt_20 : decode cX6_cameAt 20 = .ok (.iconst (-1), 1) := by decide +kernel
theorem dX6_cameAt_21 : decode cX6_cameAt 21 = .ok (.ireturn, 1) := by decide +kernel
theorem dX6_cameAt_22 : decode cX6_cameAt 22 = .ok (.iconst 0, 1) := by decide +kernel
theorem dX6_cameAt_23 : decode cX6_cameAt 23 = .ok (.istore_n 2, 1) := by decide +kernel
theorem dX6_cameAt_24 : decode cX6_cameAt 24 = .ok (.iload_n 2, 1) := by decide +kernel
theorem dX6_cameAt_25 : decode cX6_cameAt 25 = .ok (.aload_n 0, 1) := by decide +kernel
theorem dX6_cameAt_26 : decode cX6_cameAt 26 = .ok (.getfield 195, 3) := by decide +kernel
theorem dX6_cameAt_29 : decode cX6_cameAt 29 = .ok (.if_icmp .ge 55, 3) := by decide +kernel
theorem dX6_cameAt_32 : decode cX6_cameAt 32 = .ok (.bipush 8, 2) := by decide +kernel
theorem dX6_cameAt_34 : decode cX6_cameAt 34 = .ok (.aload_n 0, 1) := by decide +kernel
theorem dX6_cameAt_35 : decode cX6_cameAt 35 = .ok (.getfield 78, 3) := by decide +kernel
theorem dX6_cameAt_38 : decode cX6_cameAt 38 = .ok (.iload_n 2, 1) := by decide +kernel
theorem dX6_cameAt_39 : decode cX6_cameAt 39 = .ok (.iaload, 1) := by decide +kernel
theorem dX6_cameAt_40 : decode cX6_cameAt 40 = .ok (.imul, 1) := by decide +kernel
theorem dX6_cameAt_41 : decode cX6_cameAt 41 = .ok (.istore_n 3, 1) := by decide +kernel
theorem dX6_cameAt_42 : decode cX6_cameAt 42 = .ok (.aload_n 0, 1) := by decide +kernel
theorem dX6_cameAt_43 : decode cX6_cameAt 43 = .ok (.getfield 30, 3) := by decide +kernel
theorem dX6_cameAt_46 : decode cX6_cameAt 46 = .ok (.iload_n 3, 1) := by decide +kernel
theorem dX6_cameAt_47 : decode cX6_cameAt 47 = .ok (.iaload, 1) := by decide +kernel
theorem dX6_cameAt_48 : decode cX6_cameAt 48 = .ok (.bipush 11, 2) := by decide +kernel
theorem dX6_cameAt_50 : decode cX6_cameAt 50 = .ok (.if_icmp .eq 14, 3) := by decide +kernel
theorem dX6_cameAt_53 : decode cX6_cameAt 53 = .ok (.aload_n 0, 1) := by decide +kernel
theorem dX6_cameAt_54 : decode cX6_cameAt 54 = .ok (.getfield 30, 3) := by decide +kernel
theorem dX6_cameAt_57 : decode cX6_cameAt 57 = .ok (.iload_n 3, 1) := by decide +kernel
theorem dX6_cameAt_58 : decode cX6_cameAt 58 = .ok (.iaload, 1) := by decide +kernel
theorem dX6_cameAt_59 : decode cX6_cameAt 59 = .ok (.bipush 12, 2) := by decide +kernel
theorem dX6_cameAt_61 : decode cX6_cameAt 61 = .ok (.if_icmp .ne 17, 3) := by decide +kernel
theorem dX6_cameAt_64 : decode cX6_cameAt 64 = .ok (.aload_n 0, 1) := by decide +kernel
theorem dX6_cameAt_65 : decode cX6_cameAt 65 = .ok (.getfield 30, 3) := by decide +kernel
theorem dX6_cameAt_68 : decode cX6_cameAt 68 = .ok (.iload_n 3, 1) := by decide +kernel
theorem dX6_cameAt_69 : decode cX6_cameAt 69 = .ok (.iconst 4, 1) := by decide +kernel
theorem dX6_cameAt_70 : decode cX6_cameAt 70 = .ok (.iadd, 1) := by decide +kernel
theorem dX6_cameAt_71 : decode cX6_cameAt 71 = .ok (.iaload, 1) := by decide +kernel
theorem dX6_cameAt_72 : decode cX6_cameAt 72 = .ok (.iload_n 1, 1) := by decide +kernel
theorem dX6_cameAt_73 : decode cX6_cameAt 73 = .ok (.if_icmp .ne 5, 3) := by decide +kernel
theorem dX6_cameAt_76 : decode cX6_cameAt 76 = .ok (.iload_n 2, 1) := by decide +kernel
theorem dX6_cameAt_77 : decode cX6_cameAt 77 = .ok (.ireturn, 1) := by decide +kernel
theorem dX6_cameAt_78 : decode cX6_cameAt 78 = .ok (.iinc 2 1, 3) := by decide +kernel
theorem dX6_cameAt_81 : decode cX6_cameAt 81 = .ok (.goto (-57), 3) := by decide +kernel
theorem dX6_cameAt_84 : decode cX6_cameAt 84 = .ok (.iconst (-1), 1) := by decide +kernel
theorem dX6_cameAt_85 : decode cX6_cameAt 85 = .ok (.ireturn, 1) := by decide +kernel
theorem dX6_makeChain_0 : decode cX6_makeChain 0 = .ok (.aload_n 0, 1) := by decide +kernel
theorem dX6_makeChain_1 : decode cX6_makeChain 1 = .ok (.aload_n 0, 1) := by decide +kernel
theorem dX6_makeChain_2 : decode cX6_makeChain 2 = .ok (.getfield 30, 3) := by decide +kernel
theorem dX6_makeChain_5 : decode cX6_makeChain 5 = .ok (.aload_n 0, 1) := by decide +kernel
theorem dX6_makeChain_6 : decode cX6_makeChain 6 = .ok (.getfield 195, 3) := by decide +kernel
theorem dX6_makeChain_9 : decode cX6_makeChain 9 = .ok (.invokevirtual 184, 3) := by decide +kernel
theorem dX6_makeChain_12 : decode cX6_makeChain 12 = .ok (.aload_n 0, 1) := by decide +kernel
theorem dX6_makeChain_13 : decode cX6_makeChain 13 = .ok (.iconst 0, 1) := by decide +kernel
theorem dX6_makeChain_14 : decode cX6_makeChain 14 = .ok (.putfield 229, 3) := by decide +kernel
theorem dX6_makeChain_17 : decode cX6_makeChain 17 = .ok (.iconst 0, 1) := by decide +kernel
theorem dX6_makeChain_18 : decode cX6_makeChain 18 = .ok (.istore_n 2, 1) := by decide +kernel
theorem dX6_makeChain_19 : decode cX6_makeChain 19 = .ok (.iload_n 1, 1) := by decide +kernel
theorem dX6_makeChain_20 : decode cX6_makeChain 20 = .ok (.istore_n 3, 1) := by decide +kernel
theorem dX6_makeChain_21 : decode cX6_makeChain 21 = .ok (.iload_n 3, 1) := by decide +kernel
theorem dX6_makeChain_22 : decode cX6_makeChain 22 = .ok (.ifCond .lt 62, 3) := by decide +kernel
theorem dX6_makeChain_25 : decode cX6_makeChain 25 = .ok (.aload_n 0, 1) := by decide +kernel
theorem dX6_makeChain_26 : decode cX6_makeChain 26 = .ok (.getfield 84, 3) := by decide +kernel
theorem dX6_makeChain_29 : decode cX6_makeChain 29 = .ok (.iload_n 2, 1) := by decide +kernel
theorem dX6_makeChain_30 : decode cX6_makeChain 30 = .ok (.iload_n 3, 1) := by decide +kernel
theorem dX6_makeChain_31 : decode cX6_makeChain 31 = .ok (.iastore, 1) := by decide +kernel
theorem dX6_makeChain_32 : decode cX6_makeChain 32 = .ok (.aload_n 0, 1) := by decide +kernel
theorem dX6_makeChain_33 : decode cX6_makeChain 33 = .ok (.getfield 87, 3) := by decide +kernel
theorem dX6_makeChain_36 : decode cX6_makeChain 36 = .ok (.iload_n 2, 1) := by decide +kernel
theorem dX6_makeChain_37 : decode cX6_makeChain 37 = .ok (.aload_n 0, 1) := by decide +kernel
theorem dX6_makeChain_38 : decode cX6_makeChain 38 = .ok (.iload_n 3, 1) := by decide +kernel
theorem dX6_makeChain_39 : decode cX6_makeChain 39 = .ok (.invokevirtual 232, 3) := by decide +kernel
theorem dX6_makeChain_42 : decode cX6_makeChain 42 = .ok (.iastore, 1) := by decide +kernel
theorem dX6_makeChain_43 : decode cX6_makeChain 43 = .ok (.aload_n 0, 1) := by decide +kernel
theorem dX6_makeChain_44 : decode cX6_makeChain 44 = .ok (.getfield 87, 3) := by decide +kernel
theorem dX6_makeChain_47 : decode cX6_makeChain 47 = .ok (.iload_n 2, 1) := by decide +kernel
theorem dX6_makeChain_48 : decode cX6_makeChain 48 = .ok (.iaload, 1) := by decide +kernel
theorem dX6_makeChain_49 : decode cX6_makeChain 49 = .ok (.ifCond .ge 7, 3) := by decide +kernel
theorem dX6_makeChain_52 : decode cX6_makeChain 52 = .ok (.iconst (-1), 1) := by decide +kernel
theorem dX6_makeChain_53 : decode cX6_makeChain 53 = .ok (.goto 24, 3) := by decide +kernel
theorem dX6_makeChain_56 : decode cX6_makeChain 56 = .ok (.aload_n 0, 1) := by decide +kernel
theorem dX6_makeChain_57 : decode cX6_makeChain 57 = .ok (.getfield 30, 3) := by decide +kernel
theorem dX6_makeChain_60 : decode cX6_makeChain 60 = .ok (.bipush 8, 2) := by decide +kernel
theorem dX6_makeChain_62 : decode cX6_makeChain 62 = .ok (.aload_n 0, 1) := by decide +kernel
theorem dX6_makeChain_63 : decode cX6_makeChain 63 = .ok (.getfield 78, 3) := by decide +kernel
theorem dX6_makeChain_66 : decode cX6_makeChain 66 = .ok (.aload_n 0, 1) := by decide +kernel
theorem dX6_makeChain_67 : decode cX6_makeChain 67 = .ok (.getfield 87, 3) := by decide +kernel
theorem dX6_makeChain_70 : decode cX6_makeChain 70 = .ok (.iload_n 2, 1) := by decide +kernel
theorem dX6_makeChain_71 : decode cX6_makeChain 71 = .ok (.iaload, 1) := by decide +kernel
theorem dX6_makeChain_72 : decode cX6_makeChain 72 = .ok (.iaload, 1) := by decide +kernel
theorem dX6_makeChain_73 : decode cX6_makeChain 73 = .ok (.imul, 1) := by decide +kernel
theorem dX6_makeChain_74 : decode cX6_makeChain 74 = .ok (.iconst 1, 1) := by decide +kernel
theorem dX6_makeChain_75 : decode cX6_makeChain 75 = .ok (.iadd, 1) := by decide +kernel
theorem dX6_makeChain_76 : decode cX6_makeChain 76 = .ok (.iaload, 1) := by decide +kernel
theorem dX6_makeChain_77 : decode cX6_makeChain 77 = .ok (.istore_n 3, 1) := by decide +kernel
theorem dX6_makeChain_78 : decode cX6_makeChain 78 = .ok (.iinc 2 1, 3) := by decide +kernel
theorem dX6_makeChain_81 : decode cX6_makeChain 81 = .ok (.goto (-60), 3) := by decide +kernel
theorem dX6_makeChain_84 : decode cX6_makeChain 84 = .ok (.iload_n 2, 1) := by decide +kernel
theorem dX6_makeChain_85 : decode cX6_makeChain 85 = .ok (.iconst 1, 1) := by decide +kernel
theorem dX6_makeChain_86 : decode cX6_makeChain 86 = .ok (.isub, 1) := by decide +kernel
theorem dX6_makeChain_87 : decode cX6_makeChain 87 = .ok (.istore 4, 2) := by decide +kernel
theorem dX6_makeChain_89 : decode cX6_makeChain 89 = .ok (.iload 4, 2) := by decide +kernel
theorem dX6_makeChain_91 : decode cX6_makeChain 91 = .ok (.ifCond .lt 129, 3) := by decide +kernel
theorem dX6_makeChain_94 : decode cX6_makeChain 94 = .ok (.aload_n 0, 1) := by decide +kernel
theorem dX6_makeChain_95 : decode cX6_makeChain 95 = .ok (.getfield 87, 3) := by decide +kernel
theorem dX6_makeChain_98 : decode cX6_makeChain 98 = .ok (.iload 4, 2) := by decide +kernel
theorem dX6_makeChain_100 : decode cX6_makeChain 100 = .ok (.iaload, 1) := by decide +kernel
theorem dX6_makeChain_101 : decode cX6_makeChain 101 = .ok (.ifCond .lt 19, 3) := by decide +kernel
theorem dX6_makeChain_104 : decode cX6_makeChain 104 = .ok (.aload_n 0, 1) := by decide +kernel
theorem dX6_makeChain_105 : decode cX6_makeChain 105 = .ok (.aload_n 0, 1) := by decide +kernel
theorem dX6_makeChain_106 : decode cX6_makeChain 106 = .ok (.getfield 78, 3) := by decide +kernel
theorem dX6_makeChain_109 : decode cX6_makeChain 109 = .ok (.aload_n 0, 1) := by decide +kernel
theorem dX6_makeChain_110 : decode cX6_makeChain 110 = .ok (.getfield 87, 3) := by decide +kernel
theorem dX6_makeChain_113 : decode cX6_makeChain 113 = .ok (.iload 4, 2) := by decide +kernel
theorem dX6_makeChain_115 : decode cX6_makeChain 115 = .ok (.iaload, 1) := by decide +kernel
theorem dX6_makeChain_116 : decode cX6_makeChain 116 = .ok (.iaload, 1) := by decide +kernel
theorem dX6_makeChain_117 : decode cX6_makeChain 117 = .ok (.invokevirtual 235, 3) := by decide +kernel
theorem dX6_makeChain_120 : decode cX6_makeChain 120 = .ok (.iload 4, 2) := by decide +kernel
theorem dX6_makeChain_122 : decode cX6_makeChain 122 = .ok (.ifCond .ne 10, 3) := by decide +kernel
theorem dX6_makeChain_125 : decode cX6_makeChain 125 = .ok (.aload_n 0, 1) := by decide +kernel
theorem dX6_makeChain_126 : decode cX6_makeChain 126 = .ok (.getfield 195, 3) := by decide +kernel
theorem dX6_makeChain_129 : decode cX6_makeChain 129 = .ok (.goto 12, 3) := by decide +kernel
theorem dX6_makeChain_132 : decode cX6_makeChain 132 = .ok (.aload_n 0, 1) := by decide +kernel
theorem dX6_makeChain_133 : decode cX6_makeChain 133 = .ok (.getfield 87, 3) := by decide +kernel
theorem dX6_makeChain_136 : decode cX6_makeChain 136 = .ok (.iload 4, 2) := by decide +kernel
theorem dX6_makeChain_138 : decode cX6_makeChain 138 = .ok (.iconst 1, 1) := by decide +kernel
theorem dX6_makeChain_139 : decode cX6_makeChain 139 = .ok (.isub, 1) := by decide +kernel
theorem dX6_makeChain_140 : decode cX6_makeChain 140 = .ok (.iaload, 1) := by decide +kernel
theorem dX6_makeChain_141 : decode cX6_makeChain 141 = .ok (.istore 5, 2) := by decide +kernel
theorem dX6_makeChain_143 : decode cX6_makeChain 143 = .ok (.iconst 0, 1) := by decide +kernel
theorem dX6_makeChain_144 : decode cX6_makeChain 144 = .ok (.istore 6, 2) := by decide +kernel
theorem dX6_makeChain_146 : decode cX6_makeChain 146 = .ok (.iload 6, 2) := by decide +kernel
theorem dX6_makeChain_148 : decode cX6_makeChain 148 = .ok (.iload 5, 2) := by decide +kernel
theorem dX6_makeChain_150 : decode cX6_makeChain 150 = .ok (.if_icmp .ge 64, 3) := by decide +kernel
theorem dX6_makeChain_153 : decode cX6_makeChain 153 = .ok (.bipush 8, 2) := by decide +kernel
theorem dX6_makeChain_155 : decode cX6_makeChain 155 = .ok (.aload_n 0, 1) := by decide +kernel
theorem dX6_makeChain_156 : decode cX6_makeChain 156 = .ok (.getfield 78, 3) := by decide +kernel
theorem dX6_makeChain_159 : decode cX6_makeChain 159 = .ok (.iload 6, 2) := by decide +kernel
theorem dX6_makeChain_161 : decode cX6_makeChain 161 = .ok (.iaload, 1) := by decide +kernel
theorem dX6_makeChain_162 : decode cX6_makeChain 162 = .ok (.imul, 1) := by decide +kernel
theorem dX6_makeChain_163 : decode cX6_makeChain 163 = .ok (.istore 7, 2) := by decide +kernel
theorem dX6_makeChain_165 : decode cX6_makeChain 165 = .ok (.aload_n 0, 1) := by decide +kernel
theorem dX6_makeChain_166 : decode cX6_makeChain 166 = .ok (.getfield 30, 3) := by decide +kernel
theorem dX6_makeChain_169 : decode cX6_makeChain 169 = .ok (.iload 7, 2) := by decide +kernel
theorem dX6_makeChain_171 : decode cX6_makeChain 171 = .ok (.iconst 1, 1) := by decide +kernel
theorem dX6_makeChain_172 : decode cX6_makeChain 172 = .ok (.iadd, 1) := by decide +kernel
theorem dX6_makeChain_173 : decode cX6_makeChain 173 = .ok (.iaload, 1) := by decide +kernel
theorem dX6_makeChain_174 : decode cX6_makeChain 174 = .ok (.aload_n 0, 1) := by decide +kernel
theorem dX6_makeChain_175 : decode cX6_makeChain 175 = .ok (.getfield 84, 3) := by decide +kernel
theorem dX6_makeChain_178 : decode cX6_makeChain 178 = .ok (.iload 4, 2) := by decide +kernel
theorem dX6_makeChain_180 : decode cX6_makeChain 180 = .ok (.iaload, 1) := by decide +kernel
theorem dX6_makeChain_181 : decode cX6_makeChain 181 = .ok (.if_icmp .ne 27, 3) := by decide +kernel
theorem dX6_makeChain_184 : decode cX6_makeChain 184 = .ok (.aload_n 0, 1) := by decide +kernel
theorem dX6_makeChain_185 : decode cX6_makeChain 185 = .ok (.getfield 30, 3) := by decide +kernel
theorem dX6_makeChain_188 : decode cX6_makeChain 188 = .ok (.iload 7, 2) := by decide +kernel
theorem dX6_makeChain_190 : decode cX6_makeChain 190 = .ok (.iaload, 1) := by decide +kernel
theorem dX6_makeChain_191 : decode cX6_makeChain 191 = .ok (.invokestatic 239, 3) := by decide +kernel
theorem dX6_makeChain_194 : decode cX6_makeChain 194 = .ok (.ifCond .eq 14, 3) := by decide +kernel
theorem dX6_makeChain_197 : decode cX6_makeChain 197 = .ok (.aload_n 0, 1) := by decide +kernel
theorem dX6_makeChain_198 : decode cX6_makeChain 198 = .ok (.aload_n 0, 1) := by decide +kernel
theorem dX6_makeChain_199 : decode cX6_makeChain 199 = .ok (.getfield 78, 3) := by decide +kernel
theorem dX6_makeChain_202 : decode cX6_makeChain 202 = .ok (.iload 6, 2) := by decide +kernel
theorem dX6_makeChain_204 : decode cX6_makeChain 204 = .ok (.iaload, 1) := by decide +kernel
theorem dX6_makeChain_205 : decode cX6_makeChain 205 = .ok (.invokevirtual 235, 3) := by decide +kernel
theorem dX6_makeChain_208 : decode cX6_makeChain 208 = .ok (.iinc 6 1, 3) := by decide +kernel
theorem dX6_makeChain_211 : decode cX6_makeChain 211 = .ok (.goto (-65), 3) := by decide +kernel
theorem dX6_makeChain_214 : decode cX6_makeChain 214 = .ok (.iinc 4 (-1), 3) := by decide +kernel
theorem dX6_makeChain_217 : decode cX6_makeChain 217 = .ok (.goto (-128), 3) := by decide +kernel
theorem dX6_makeChain_220 : decode cX6_makeChain 220 = .ok (.return_, 1) := by decide +kernel
theorem dX6_put_0 : decode cX6_put 0 = .ok (.aload_n 0, 1) := by decide +kernel
theorem dX6_put_1 : decode cX6_put 1 = .ok (.getfield 81, 3) := by decide +kernel
theorem dX6_put_4 : decode cX6_put 4 = .ok (.aload_n 0, 1) := by decide +kernel
theorem dX6_put_5 : decode cX6_put 5 = .ok (.getfield 229, 3) := by decide +kernel
theorem dX6_put_8 : decode cX6_put 8 = .ok (.iload_n 1, 1) := by decide +kernel
theorem dX6_put_9 : decode cX6_put 9 = .ok (.iastore, 1) := by decide +kernel
theorem dX6_put_10 : decode cX6_put 10 = .ok (.aload_n 0, 1) := by decide +kernel
theorem dX6_put_11 : decode cX6_put 11 = .ok (.dup, 1) := by decide +kernel
theorem dX6_put_12 : decode cX6_put 12 = .ok (.getfield 229, 3) := by decide +kernel
theorem dX6_put_15 : decode cX6_put 15 = .ok (.iconst 1, 1) := by decide +kernel
theorem dX6_put_16 : decode cX6_put 16 = .ok (.iadd, 1) := by decide +kernel
theorem dX6_put_17 : decode cX6_put 17 = .ok (.putfield 229, 3) := by decide +kernel
theorem dX6_put_20 : decode cX6_put 20 = .ok (.return_, 1) := by decide +kernel
theorem dX6_chain_0 : decode cX6_chain 0 = .ok (.iload_n 1, 1) := by decide +kernel
theorem dX6_chain_1 : decode cX6_chain 1 = .ok (.iconst 0, 1) := by decide +kernel
theorem dX6_chain_2 : decode cX6_chain 2 = .ok (.aload_n 0, 1) := by decide +kernel
theorem dX6_chain_3 : decode cX6_chain 3 = .ok (.getfield 93, 3) := by decide +kernel
theorem dX6_chain_6 : decode cX6_chain 6 = .ok (.iconst 1, 1) := by decide +kernel
theorem dX6_chain_7 : decode cX6_chain 7 = .ok (.isub, 1) := by decide +kernel
theorem dX6_chain_8 : decode cX6_chain 8 = .ok (.invokestatic 96, 3) := by decide +kernel
theorem dX6_chain_11 : decode cX6_chain 11 = .ok (.ifCond .ne 5, 3) := by decide +kernel
theorem dX6_chain_14 : decode cX6_chain 14 = .ok (.iconst (-1), 1) := by decide +kernel
theorem dX6_chain_15 : decode cX6_chain 15 = .ok (.ireturn, 1) := by decide +kernel
theorem dX6_chain_16 : decode cX6_chain 16 = .ok (.aload_n 0, 1) := by decide +kernel
theorem dX6_chain_17 : decode cX6_chain 17 = .ok (.iload_n 1, 1) := by decide +kernel
theorem dX6_chain_18 : decode cX6_chain 18 = .ok (.invokevirtual 242, 3) := by decide +kernel
theorem dX6_chain_21 : decode cX6_chain 21 = .ok (.iload_n 2, 1) := by decide +kernel
theorem dX6_chain_22 : decode cX6_chain 22 = .ok (.iconst 0, 1) := by decide +kernel
theorem dX6_chain_23 : decode cX6_chain 23 = .ok (.aload_n 0, 1) := by decide +kernel
theorem dX6_chain_24 : decode cX6_chain 24 = .ok (.getfield 229, 3) := by decide +kernel
theorem dX6_chain_27 : decode cX6_chain 27 = .ok (.iconst 1, 1) := by decide +kernel
theorem dX6_chain_28 : decode cX6_chain 28 = .ok (.isub, 1) := by decide +kernel
theorem dX6_chain_29 : decode cX6_chain 29 = .ok (.invokestatic 96, 3) := by decide +kernel
theorem dX6_chain_32 : decode cX6_chain 32 = .ok (.ifCond .eq 12, 3) := by decide +kernel
theorem dX6_chain_35 : decode cX6_chain 35 = .ok (.aload_n 0, 1) := by decide +kernel
theorem dX6_chain_36 : decode cX6_chain 36 = .ok (.getfield 81, 3) := by decide +kernel
theorem dX6_chain_39 : decode cX6_chain 39 = .ok (.iload_n 2, 1) := by decide +kernel
theorem dX6_chain_40 : decode cX6_chain 40 = .ok (.iaload, 1) := by decide +kernel
theorem dX6_chain_41 : decode cX6_chain 41 = .ok (.goto 4, 3) := by decide +kernel
theorem dX6_chain_44 : decode cX6_chain 44 = .ok (.iconst (-1), 1) := by decide +kernel
theorem dX6_chain_45 : decode cX6_chain 45 = .ok (.ireturn, 1) := by decide +kernel
theorem dX6_gap_0 : decode cX6_gap 0 = .ok (.iload_n 1, 1) := by decide +kernel
theorem dX6_gap_1 : decode cX6_gap 1 = .ok (.iconst 0, 1) := by decide +kernel
theorem dX6_gap_2 : decode cX6_gap 2 = .ok (.aload_n 0, 1) := by decide +kernel
theorem dX6_gap_3 : decode cX6_gap 3 = .ok (.getfield 93, 3) := by decide +kernel
theorem dX6_gap_6 : decode cX6_gap 6 = .ok (.iconst 1, 1) := by decide +kernel
theorem dX6_gap_7 : decode cX6_gap 7 = .ok (.isub, 1) := by decide +kernel
theorem dX6_gap_8 : decode cX6_gap 8 = .ok (.invokestatic 96, 3) := by decide +kernel
theorem dX6_gap_11 : decode cX6_gap 11 = .ok (.ifCond .eq 16, 3) := by decide +kernel
theorem dX6_gap_14 : decode cX6_gap 14 = .ok (.iload_n 3, 1) := by decide +kernel
theorem dX6_gap_15 : decode cX6_gap 15 = .ok (.iconst 0, 1) := by decide +kernel
theorem dX6_gap_16 : decode cX6_gap 16 = .ok (.iconst 3, 1) := by decide +kernel
theorem dX6_gap_17 : decode cX6_gap 17 = .ok (.invokestatic 96, 3) := by decide +kernel
theorem dX6_gap_20 : decode cX6_gap 20 = .ok (.ifCond .eq 7, 3) := by decide +kernel
theorem dX6_gap_23 : decode cX6_gap 23 = .ok (.iload_n 2, 1) := by decide +kernel
theorem dX6_gap_24 : decode cX6_gap 24 = .ok (.ifCond .ge 5, 3) := by decide +kernel
theorem dX6_gap_27 : decode cX6_gap 27 = .ok (.iconst (-1), 1) := by decide +kernel
theorem dX6_gap_28 : decode cX6_gap 28 = .ok (.ireturn, 1) := by decide +kernel
theorem dX6_gap_29 : decode cX6_gap 29 = .ok (.aload_n 0, 1) := by decide +kernel
theorem dX6_gap_30 : decode cX6_gap 30 = .ok (.iload_n 1, 1) := by decide +kernel
theorem dX6_gap_31 : decode cX6_gap 31 = .ok (.invokevirtual 242, 3) := by decide +kernel
theorem dX6_gap_34 : decode cX6_gap 34 = .ok (.iconst 0, 1) := by decide +kernel
theorem dX6_gap_35 : decode cX6_gap 35 = .ok (.istore 4, 2) := by decide +kernel
theorem dX6_gap_37 : decode cX6_gap 37 = .ok (.iconst 1, 1) := by decide +kernel
theorem dX6_gap_38 : decode cX6_gap 38 = .ok (.istore 5, 2) := by decide +kernel
theorem dX6_gap_40 : decode cX6_gap 40 = .ok (.iload 5, 2) := by decide +kernel
theorem dX6_gap_42 : decode cX6_gap 42 = .ok (.aload_n 0, 1) := by decide +kernel
theorem dX6_gap_43 : decode cX6_gap 43 = .ok (.getfield 229, 3) := by decide +kernel
theorem dX6_gap_46 : decode cX6_gap 46 = .ok (.if_icmp .ge 119, 3) := by decide +kernel
theorem dX6_gap_49 : decode cX6_gap 49 = .ok (.aload_n 0, 1) := by decide +kernel
theorem dX6_gap_50 : decode cX6_gap 50 = .ok (.getfield 30, 3) := by decide +kernel
theorem dX6_gap_53 : decode cX6_gap 53 = .ok (.bipush 8, 2) := by decide +kernel
theorem dX6_gap_55 : decode cX6_gap 55 = .ok (.aload_n 0, 1) := by decide +kernel
theorem dX6_gap_56 : decode cX6_gap 56 = .ok (.getfield 81, 3) := by decide +kernel
theorem dX6_gap_59 : decode cX6_gap 59 = .ok (.iload 5, 2) := by decide +kernel
theorem dX6_gap_61 : decode cX6_gap 61 = .ok (.iaload, 1) := by decide +kernel
theorem dX6_gap_62 : decode cX6_gap 62 = .ok (.imul, 1) := by decide +kernel
theorem dX6_gap_63 : decode cX6_gap 63 = .ok (.iaload, 1) := by decide +kernel
theorem dX6_gap_64 : decode cX6_gap 64 = .ok (.bipush 19, 2) := by decide +kernel
theorem dX6_gap_66 : decode cX6_gap 66 = .ok (.if_icmp .eq 6, 3) := by decide +kernel
theorem dX6_gap_69 : decode cX6_gap 69 = .ok (.goto 90, 3) := by decide +kernel
theorem dX6_gap_72 : decode cX6_gap 72 = .ok (.iload 4, 2) := by decide +kernel
theorem dX6_gap_74 : decode cX6_gap 74 = .ok (.iload_n 2, 1) := by decide +kernel
theorem dX6_gap_75 : decode cX6_gap 75 = .ok (.if_icmp .ne 81, 3) := by decide +kernel
theorem dX6_gap_78 : decode cX6_gap 78 = .ok (.iload_n 3, 1) := by decide +kernel
theorem dX6_gap_79 : decode cX6_gap 79 = .ok (.ifCond .ne 26, 3) := by decide +kernel
theorem dX6_gap_82 : decode cX6_gap 82 = .ok (.aload_n 0, 1) := by decide +kernel
theorem dX6_gap_83 : decode cX6_gap 83 = .ok (.getfield 30, 3) := by decide +kernel
theorem dX6_gap_86 : decode cX6_gap 86 = .ok (.bipush 8, 2) := by decide +kernel
theorem dX6_gap_88 : decode cX6_gap 88 = .ok (.aload_n 0, 1) := by decide +kernel
theorem dX6_gap_89 : decode cX6_gap 89 = .ok (.getfield 81, 3) := by decide +kernel
theorem dX6_gap_92 : decode cX6_gap 92 = .ok (.iload 5, 2) := by decide +kernel
theorem dX6_gap_94 : decode cX6_gap 94 = .ok (.iconst 1, 1) := by decide +kernel
theorem dX6_gap_95 : decode cX6_gap 95 = .ok (.isub, 1) := by decide +kernel
theorem dX6_gap_96 : decode cX6_gap 96 = .ok (.iaload, 1) := by decide +kernel
theorem dX6_gap_97 : decode cX6_gap 97 = .ok (.imul, 1) := by decide +kernel
theorem dX6_gap_98 : decode cX6_gap 98 = .ok (.bipush 6, 2) := by decide +kernel
theorem dX6_gap_100 : decode cX6_gap 100 = .ok (.iadd, 1) := by decide +kernel
theorem dX6_gap_101 : decode cX6_gap 101 = .ok (.iaload, 1) := by decide +kernel
theorem dX6_gap_102 : decode cX6_gap 102 = .ok (.goto 53, 3) := by decide +kernel
theorem dX6_gap_105 : decode cX6_gap 105 = .ok (.iload_n 3, 1) := by decide +kernel
theorem dX6_gap_106 : decode cX6_gap 106 = .ok (.iconst 1, 1) := by decide +kernel
theorem dX6_gap_107 : decode cX6_gap 107 = .ok (.if_icmp .ne 24, 3) := by decide +kernel
theorem dX6_gap_110 : decode cX6_gap 110 = .ok (.aload_n 0, 1) := by decide +kernel
theorem dX6_gap_111 : decode cX6_gap 111 = .ok (.getfield 30, 3) := by decide +kernel
theorem dX6_gap_114 : decode cX6_gap 114 = .ok (.bipush 8, 2) := by decide +kernel
theorem dX6_gap_116 : decode cX6_gap 116 = .ok (.aload_n 0, 1) := by decide +kernel
theorem dX6_gap_117 : decode cX6_gap 117 = .ok (.getfield 81, 3) := by decide +kernel
theorem dX6_gap_120 : decode cX6_gap 120 = .ok (.iload 5, 2) := by decide +kernel
theorem dX6_gap_122 : decode cX6_gap 122 = .ok (.iaload, 1) := by decide +kernel
theorem dX6_gap_123 : decode cX6_gap 123 = .ok (.imul, 1) := by decide +kernel
theorem dX6_gap_124 : decode cX6_gap 124 = .ok (.bipush 6, 2) := by decide +kernel
theorem dX6_gap_126 : decode cX6_gap 126 = .ok (.iadd, 1) := by decide +kernel
theorem dX6_gap_127 : decode cX6_gap 127 = .ok (.iaload, 1) := by decide +kernel
theorem dX6_gap_128 : decode cX6_gap 128 = .ok (.goto 27, 3) := by decide +kernel
theorem dX6_gap_131 : decode cX6_gap 131 = .ok (.iload_n 3, 1) := by decide +kernel
theorem dX6_gap_132 : decode cX6_gap 132 = .ok (.iconst 2, 1) := by decide +kernel
theorem dX6_gap_133 : decode cX6_gap 133 = .ok (.if_icmp .ne 15, 3) := by decide +kernel
theorem dX6_gap_136 : decode cX6_gap 136 = .ok (.aload_n 0, 1) := by decide +kernel
theorem dX6_gap_137 : decode cX6_gap 137 = .ok (.getfield 81, 3) := by decide +kernel
theorem dX6_gap_140 : decode cX6_gap 140 = .ok (.iload 5, 2) := by decide +kernel
theorem dX6_gap_142 : decode cX6_gap 142 = .ok (.iconst 1, 1) := by decide +kernel
theorem dX6_gap_143 : decode cX6_gap 143 = .ok (.isub, 1) := by decide +kernel
theorem dX6_gap_144 : decode cX6_gap 144 = .ok (.iaload, 1) := by decide +kernel
theorem dX6_gap_145 : decode cX6_gap 145 = .ok (.goto 10, 3) := by decide +kernel
theorem dX6_gap_148 : decode cX6_gap 148 = .ok (.aload_n 0, 1) := by decide +kernel
theorem dX6_gap_149 : decode cX6_gap 149 = .ok (.getfield 81, 3) := by decide +kernel
theorem dX6_gap_152 : decode cX6_gap 152 = .ok (.iload 5, 2) := by decide +kernel
theorem dX6_gap_154 : decode cX6_gap 154 = .ok (.iaload, 1) := by decide +kernel
theorem dX6_gap_155 : decode cX6_gap 155 = .ok (.ireturn, 1) := by decide +kernel
theorem dX6_gap_156 : decode cX6_gap 156 = .ok (.iinc 4 1, 3) := by decide +kernel
theorem dX6_gap_159 : decode cX6_gap 159 = .ok (.iinc 5 1, 3) := by decide +kernel
theorem dX6_gap_162 : decode cX6_gap 162 = .ok (.goto (-122), 3) := by decide +kernel
theorem dX6_gap_165 : decode cX6_gap 165 = .ok (.iconst (-1), 1) := by decide +kernel
theorem dX6_gap_166 : decode cX6_gap 166 = .ok (.ireturn, 1) := by decide +kernel
theorem dX6_breaks_0 : decode cX6_breaks 0 = .ok (.iload_n 1, 1) := by decide +kernel
theorem dX6_breaks_1 : decode cX6_breaks 1 = .ok (.iconst 0, 1) := by decide +kernel
theorem dX6_breaks_2 : decode cX6_breaks 2 = .ok (.aload_n 0, 1) := by decide +kernel
theorem dX6_breaks_3 : decode cX6_breaks 3 = .ok (.getfield 93, 3) := by decide +kernel
theorem dX6_breaks_6 : decode cX6_breaks 6 = .ok (.iconst 1, 1) := by decide +kernel
theorem dX6_breaks_7 : decode cX6_breaks 7 = .ok (.isub, 1) := by decide +kernel
theorem dX6_breaks_8 : decode cX6_breaks 8 = .ok (.invokestatic 96, 3) := by decide +kernel
theorem dX6_breaks_11 : decode cX6_breaks 11 = .ok (.ifCond .eq 11, 3) := by decide +kernel
theorem dX6_breaks_14 : decode cX6_breaks 14 = .ok (.aload_n 0, 1) := by decide +kernel
theorem dX6_breaks_15 : decode cX6_breaks 15 = .ok (.iload_n 1, 1) := by decide +kernel
theorem dX6_breaks_16 : decode cX6_breaks 16 = .ok (.invokevirtual 162, 3) := by decide +kernel
theorem dX6_breaks_19 : decode cX6_breaks 19 = .ok (.ifCond .ne 5, 3) := by decide +kernel
theorem dX6_breaks_22 : decode cX6_breaks 22 = .ok (.iconst (-1), 1) := by decide +kernel
theorem dX6_breaks_23 : decode cX6_breaks 23 = .ok (.ireturn, 1) := by decide +kernel
theorem dX6_breaks_24 : decode cX6_breaks 24 = .ok (.aload_n 0, 1) := by decide +kernel
theorem dX6_breaks_25 : decode cX6_breaks 25 = .ok (.aload_n 0, 1) := by decide +kernel
theorem dX6_breaks_26 : decode cX6_breaks 26 = .ok (.getfield 30, 3) := by decide +kernel
theorem dX6_breaks_29 : decode cX6_breaks 29 = .ok (.aload_n 0, 1) := by decide +kernel
theorem dX6_breaks_30 : decode cX6_breaks 30 = .ok (.getfield 195, 3) := by decide +kernel
theorem dX6_breaks_33 : decode cX6_breaks 33 = .ok (.invokevirtual 184, 3) := by decide +kernel
theorem dX6_breaks_36 : decode cX6_breaks 36 = .ok (.aload_n 0, 1) := by decide +kernel
theorem dX6_breaks_37 : decode cX6_breaks 37 = .ok (.invokevirtual 90, 3) := by decide +kernel
theorem dX6_breaks_40 : decode cX6_breaks 40 = .ok (.iconst 0, 1) := by decide +kernel
theorem dX6_breaks_41 : decode cX6_breaks 41 = .ok (.istore_n 2, 1) := by decide +kernel
theorem dX6_breaks_42 : decode cX6_breaks 42 = .ok (.iload_n 2, 1) := by decide +kernel
theorem dX6_breaks_43 : decode cX6_breaks 43 = .ok (.aload_n 0, 1) := by decide +kernel
theorem dX6_breaks_44 : decode cX6_breaks 44 = .ok (.getfield 195, 3) := by decide +kernel
theorem dX6_breaks_47 : decode cX6_breaks 47 = .ok (.if_icmp .ge 92, 3) := by decide +kernel
theorem dX6_breaks_50 : decode cX6_breaks 50 = .ok (.bipush 8, 2) := by decide +kernel
theorem dX6_breaks_52 : decode cX6_breaks 52 = .ok (.aload_n 0, 1) := by decide +kernel
theorem dX6_breaks_53 : decode cX6_breaks 53 = .ok (.getfield 78, 3) := by decide +kernel
theorem dX6_breaks_56 : decode cX6_breaks 56 = .ok (.iload_n 2, 1) := by decide +kernel
theorem dX6_breaks_57 : decode cX6_breaks 57 = .ok (.iaload, 1) := by decide +kernel
theorem dX6_breaks_58 : decode cX6_breaks 58 = .ok (.imul, 1) := by decide +kernel
theorem dX6_breaks_59 : decode cX6_breaks 59 = .ok (.istore_n 3, 1) := by decide +kernel
theorem dX6_breaks_60 : decode cX6_breaks 60 = .ok (.aload_n 0, 1) := by decide +kernel
theorem dX6_breaks_61 : decode cX6_breaks 61 = .ok (.getfield 30, 3) := by decide +kernel
theorem dX6_breaks_64 : decode cX6_breaks 64 = .ok (.iload_n 3, 1) := by decide +kernel
theorem dX6_breaks_65 : decode cX6_breaks 65 = .ok (.iconst 1, 1) := by decide +kernel
theorem dX6_breaks_66 : decode cX6_breaks 66 = .ok (.iadd, 1) := by decide +kernel
theorem dX6_breaks_67 : decode cX6_breaks 67 = .ok (.iaload, 1) := by decide +kernel
theorem dX6_breaks_68 : decode cX6_breaks 68 = .ok (.iload_n 1, 1) := by decide +kernel
theorem dX6_breaks_69 : decode cX6_breaks 69 = .ok (.if_icmp .ne 49, 3) := by decide +kernel
theorem dX6_breaks_72 : decode cX6_breaks 72 = .ok (.aload_n 0, 1) := by decide +kernel
theorem dX6_breaks_73 : decode cX6_breaks 73 = .ok (.getfield 30, 3) := by decide +kernel
theorem dX6_breaks_76 : decode cX6_breaks 76 = .ok (.iload_n 3, 1) := by decide +kernel
theorem dX6_breaks_77 : decode cX6_breaks 77 = .ok (.iaload, 1) := by decide +kernel
theorem dX6_breaks_78 : decode cX6_breaks 78 = .ok (.bipush 9, 2) := by decide +kernel
theorem dX6_breaks_80 : decode cX6_breaks 80 = .ok (.if_icmp .eq 14, 3) := by decide +kernel
theorem dX6_breaks_83 : decode cX6_breaks 83 = .ok (.aload_n 0, 1) := by decide +kernel
theorem dX6_breaks_84 : decode cX6_breaks 84 = .ok (.getfield 30, 3) := by decide +kernel
theorem dX6_breaks_87 : decode cX6_breaks 87 = .ok (.iload_n 3, 1) := by decide +kernel
theorem dX6_breaks_88 : decode cX6_breaks 88 = .ok (.iaload, 1) := by decide +kernel
theorem dX6_breaks_89 : decode cX6_breaks 89 = .ok (.bipush 10, 2) := by decide +kernel
theorem dX6_breaks_91 : decode cX6_breaks 91 = .ok (.if_icmp .ne 27, 3) := by decide +kernel
theorem dX6_breaks_94 : decode cX6_breaks 94 = .ok (.aload_n 0, 1) := by decide +kernel
theorem dX6_breaks_95 : decode cX6_breaks 95 = .ok (.getfield 30, 3) := by decide +kernel
theorem dX6_breaks_98 : decode cX6_breaks 98 = .ok (.iload_n 3, 1) := by decide +kernel
theorem dX6_breaks_99 : decode cX6_breaks 99 = .ok (.iconst 4, 1) := by decide +kernel
theorem dX6_breaks_100 : decode cX6_breaks 100 = .ok (.iadd, 1) := by decide +kernel
theorem dX6_breaks_101 : decode cX6_breaks 101 = .ok (.iaload, 1) := by decide +kernel
theorem dX6_breaks_102 : decode cX6_breaks 102 = .ok (.aload_n 0, 1) := by decide +kernel
theorem dX6_breaks_103 : decode cX6_breaks 103 = .ok (.getfield 54, 3) := by decide +kernel
theorem dX6_breaks_106 : decode cX6_breaks 106 = .ok (.iload_n 1, 1) := by decide +kernel
theorem dX6_breaks_107 : decode cX6_breaks 107 = .ok (.iaload, 1) := by decide +kernel
theorem dX6_breaks_108 : decode cX6_breaks 108 = .ok (.if_icmp .eq 10, 3) := by decide +kernel
theorem dX6_breaks_111 : decode cX6_breaks 111 = .ok (.aload_n 0, 1) := by decide +kernel
theorem dX6_breaks_112 : decode cX6_breaks 112 = .ok (.getfield 78, 3) := by decide +kernel
theorem dX6_breaks_115 : decode cX6_breaks 115 = .ok (.iload_n 2, 1) := by decide +kernel
theorem dX6_breaks_116 : decode cX6_breaks 116 = .ok (.iaload, 1) := by decide +kernel
theorem dX6_breaks_117 : decode cX6_breaks 117 = .ok (.ireturn, 1) := by decide +kernel
theorem dX6_breaks_118 : decode cX6_breaks 118 = .ok (.aload_n 0, 1) := by decide +kernel
theorem dX6_breaks_119 : decode cX6_breaks 119 = .ok (.aload_n 0, 1) := by decide +kernel
theorem dX6_breaks_120 : decode cX6_breaks 120 = .ok (.getfield 30, 3) := by decide +kernel
theorem dX6_breaks_123 : decode cX6_breaks 123 = .ok (.aload_n 0, 1) := by decide +kernel
theorem dX6_breaks_124 : decode cX6_breaks 124 = .ok (.getfield 78, 3) := by decide +kernel
theorem dX6_breaks_127 : decode cX6_breaks 127 = .ok (.iload_n 2, 1) := by decide +kernel
theorem dX6_breaks_128 : decode cX6_breaks 128 = .ok (.iaload, 1) := by decide +kernel
theorem dX6_breaks_129 : decode cX6_breaks 129 = .ok (.invokevirtual 192, 3) := by decide +kernel
theorem dX6_breaks_132 : decode cX6_breaks 132 = .ok (.pop, 1) := by decide +kernel
theorem dX6_breaks_133 : decode cX6_breaks 133 = .ok (.iinc 2 1, 3) := by decide +kernel
theorem dX6_breaks_136 : decode cX6_breaks 136 = .ok (.goto (-94), 3) := by decide +kernel
theorem dX6_breaks_139 : decode cX6_breaks 139 = .ok (.iconst (-1), 1) := by decide +kernel
theorem dX6_breaks_140 : decode cX6_breaks 140 = .ok (.ireturn, 1) := by decide +kernel
theorem dX6_due_0 : decode cX6_due 0 = .ok (.aload_n 0, 1) := by decide +kernel
theorem dX6_due_1 : decode cX6_due 1 = .ok (.invokevirtual 245, 3) := by decide +kernel
theorem dX6_due_4 : decode cX6_due 4 = .ok (.iconst 0, 1) := by decide +kernel
theorem dX6_due_5 : decode cX6_due 5 = .ok (.istore_n 3, 1) := by decide +kernel
theorem dX6_due_6 : decode cX6_due 6 = .ok (.iconst 0, 1) := by decide +kernel
theorem dX6_due_7 : decode cX6_due 7 = .ok (.istore 4, 2) := by decide +kernel
theorem dX6_due_9 : decode cX6_due 9 = .ok (.iload 4, 2) := by decide +kernel
theorem dX6_due_11 : decode cX6_due 11 = .ok (.aload_n 0, 1) := by decide +kernel
theorem dX6_due_12 : decode cX6_due 12 = .ok (.getfield 93, 3) := by decide +kernel
theorem dX6_due_15 : decode cX6_due 15 = .ok (.if_icmp .ge 58, 3) := by decide +kernel
theorem dX6_due_18 : decode cX6_due 18 = .ok (.iload_n 1, 1) := by decide +kernel
theorem dX6_due_19 : decode cX6_due 19 = .ok (.ifCond .lt 54, 3) := by decide +kernel
theorem dX6_due_22 : decode cX6_due 22 = .ok (.aload_n 0, 1) := by decide +kernel
theorem dX6_due_23 : decode cX6_due 23 = .ok (.iload 4, 2) := by decide +kernel
theorem dX6_due_25 : decode cX6_due 25 = .ok (.invokevirtual 113, 3) := by decide +kernel
theorem dX6_due_28 : decode cX6_due 28 = .ok (.ifCond .eq 39, 3) := by decide +kernel
theorem dX6_due_31 : decode cX6_due 31 = .ok (.aload_n 0, 1) := by decide +kernel
theorem dX6_due_32 : decode cX6_due 32 = .ok (.getfield 57, 3) := by decide +kernel
theorem dX6_due_35 : decode cX6_due 35 = .ok (.iload 4, 2) := by decide +kernel
theorem dX6_due_37 : decode cX6_due 37 = .ok (.iaload, 1) := by decide +kernel
theorem dX6_due_38 : decode cX6_due 38 = .ok (.iload_n 1, 1) := by decide +kernel
theorem dX6_due_39 : decode cX6_due 39 = .ok (.if_icmp .eq 17, 3) := by decide +kernel
theorem dX6_due_42 : decode cX6_due 42 = .ok (.aload_n 0, 1) := by decide +kernel
theorem dX6_due_43 : decode cX6_due 43 = .ok (.getfield 60, 3) := by decide +kernel
theorem dX6_due_46 : decode cX6_due 46 = .ok (.iload 4, 2) := by decide +kernel
theorem dX6_due_48 : decode cX6_due 48 = .ok (.iaload, 1) := by decide +kernel
theorem dX6_due_49 : decode cX6_due 49 = .ok (.iload_n 1, 1) := by decide +kernel
theorem dX6_due_50 : decode cX6_due 50 = .ok (.if_icmp .eq 6, 3) := by decide +kernel
theorem dX6_due_53 : decode cX6_due 53 = .ok (.goto 14, 3) := by decide +kernel
theorem dX6_due_56 : decode cX6_due 56 = .ok (.iload_n 3, 1) := by decide +kernel
theorem dX6_due_57 : decode cX6_due 57 = .ok (.iload_n 2, 1) := by decide +kernel
theorem dX6_due_58 : decode cX6_due 58 = .ok (.if_icmp .ne 6, 3) := by decide +kernel
theorem dX6_due_61 : decode cX6_due 61 = .ok (.iload 4, 2) := by decide +kernel
theorem dX6_due_63 : decode cX6_due 63 = .ok (.ireturn, 1) := by decide +kernel
theorem dX6_due_64 : decode cX6_due 64 = .ok (.iinc 3 1, 3) := by decide +kernel
theorem dX6_due_67 : decode cX6_due 67 = .ok (.iinc 4 1, 3) := by decide +kernel
theorem dX6_due_70 : decode cX6_due 70 = .ok (.goto (-61), 3) := by decide +kernel
theorem dX6_due_73 : decode cX6_due 73 = .ok (.iconst (-1), 1) := by decide +kernel
theorem dX6_due_74 : decode cX6_due 74 = .ok (.ireturn, 1) := by decide +kernel
theorem dX6_freeze_0 : decode cX6_freeze 0 = .ok (.iconst 0, 1) := by decide +kernel
theorem dX6_freeze_1 : decode cX6_freeze 1 = .ok (.istore_n 1, 1) := by decide +kernel
theorem dX6_freeze_2 : decode cX6_freeze 2 = .ok (.iload_n 1, 1) := by decide +kernel
theorem dX6_freeze_3 : decode cX6_freeze 3 = .ok (.bipush 8, 2) := by decide +kernel
theorem dX6_freeze_5 : decode cX6_freeze 5 = .ok (.aload_n 0, 1) := by decide +kernel
theorem dX6_freeze_6 : decode cX6_freeze 6 = .ok (.getfield 195, 3) := by decide +kernel
theorem dX6_freeze_9 : decode cX6_freeze 9 = .ok (.imul, 1) := by decide +kernel
theorem dX6_freeze_10 : decode cX6_freeze 10 = .ok (.if_icmp .ge 21, 3) := by decide +kernel
theorem dX6_freeze_13 : decode cX6_freeze 13 = .ok (.aload_n 0, 1) := by decide +kernel
theorem dX6_freeze_14 : decode cX6_freeze 14 = .ok (.getfield 33, 3) := by decide +kernel
theorem dX6_freeze_17 : decode cX6_freeze 17 = .ok (.iload_n 1, 1) := by decide +kernel
theorem dX6_freeze_18 : decode cX6_freeze 18 = .ok (.aload_n 0, 1) := by decide +kernel
theorem dX6_freeze_19 : decode cX6_freeze 19 = .ok (.getfield 30, 3) := by decide +kernel
theorem dX6_freeze_22 : decode cX6_freeze 22 = .ok (.iload_n 1, 1) := by decide +kernel
theorem dX6_freeze_23 : decode cX6_freeze 23 = .ok (.iaload, 1) := by decide +kernel
theorem dX6_freeze_24 : decode cX6_freeze 24 = .ok (.iastore, 1) := by decide +kernel
theorem dX6_freeze_25 : decode cX6_freeze 25 = .ok (.iinc 1 1, 3) := by decide +kernel
theorem dX6_freeze_28 : decode cX6_freeze 28 = .ok (.goto (-26), 3) := by decide +kernel
theorem dX6_freeze_31 : decode cX6_freeze 31 = .ok (.aload_n 0, 1) := by decide +kernel
theorem dX6_freeze_32 : decode cX6_freeze 32 = .ok (.aload_n 0, 1) := by decide +kernel
theorem dX6_freeze_33 : decode cX6_freeze 33 = .ok (.getfield 195, 3) := by decide +kernel
theorem dX6_freeze_36 : decode cX6_freeze 36 = .ok (.putfield 9, 3) := by decide +kernel
theorem dX6_freeze_39 : decode cX6_freeze 39 = .ok (.aload_n 0, 1) := by decide +kernel
theorem dX6_freeze_40 : decode cX6_freeze 40 = .ok (.getfield 9, 3) := by decide +kernel
theorem dX6_freeze_43 : decode cX6_freeze 43 = .ok (.ireturn, 1) := by decide +kernel
theorem dX6_alter_0 : decode cX6_alter 0 = .ok (.iload_n 1, 1) := by decide +kernel
theorem dX6_alter_1 : decode cX6_alter 1 = .ok (.iconst 0, 1) := by decide +kernel
theorem dX6_alter_2 : decode cX6_alter 2 = .ok (.aload_n 0, 1) := by decide +kernel
theorem dX6_alter_3 : decode cX6_alter 3 = .ok (.getfield 9, 3) := by decide +kernel
theorem dX6_alter_6 : decode cX6_alter 6 = .ok (.iconst 1, 1) := by decide +kernel
theorem dX6_alter_7 : decode cX6_alter 7 = .ok (.isub, 1) := by decide +kernel
theorem dX6_alter_8 : decode cX6_alter 8 = .ok (.invokestatic 96, 3) := by decide +kernel
theorem dX6_alter_11 : decode cX6_alter 11 = .ok (.ifCond .eq 13, 3) := by decide +kernel
theorem dX6_alter_14 : decode cX6_alter 14 = .ok (.iload_n 2, 1) := by decide +kernel
theorem dX6_alter_15 : decode cX6_alter 15 = .ok (.iconst 0, 1) := by decide +kernel
theorem dX6_alter_16 : decode cX6_alter 16 = .ok (.bipush 6, 2) := by decide +kernel
theorem dX6_alter_18 : decode cX6_alter 18 = .ok (.invokestatic 96, 3) := by decide +kernel
theorem dX6_alter_21 : decode cX6_alter 21 = .ok (.ifCond .ne 5, 3) := by decide +kernel
theorem dX6_alter_24 : decode cX6_alter 24 = .ok (.iconst 0, 1) := by decide +kernel
theorem dX6_alter_25 : decode cX6_alter 25 = .ok (.ireturn, 1) := by decide +kernel
theorem dX6_alter_26 : decode cX6_alter 26 = .ok (.aload_n 0, 1) := by decide +kernel
theorem dX6_alter_27 : decode cX6_alter 27 = .ok (.getfield 33, 3) := by decide +kernel
theorem dX6_alter_30 : decode cX6_alter 30 = .ok (.bipush 8, 2) := by decide +kernel
theorem dX6_alter_32 : decode cX6_alter 32 = .ok (.iload_n 1, 1) := by decide +kernel
theorem dX6_alter_33 : decode cX6_alter 33 = .ok (.imul, 1) := by decide +kernel
theorem dX6_alter_34 : decode cX6_alter 34 = .ok (.iload_n 2, 1) := by decide +kernel
theorem dX6_alter_35 : decode cX6_alter 35 = .ok (.iadd, 1) := by decide +kernel
theorem dX6_alter_36 : decode cX6_alter 36 = .ok (.iload_n 3, 1) := by decide +kernel
theorem dX6_alter_37 : decode cX6_alter 37 = .ok (.iastore, 1) := by decide +kernel
theorem dX6_alter_38 : decode cX6_alter 38 = .ok (.iconst 1, 1) := by decide +kernel
theorem dX6_alter_39 : decode cX6_alter 39 = .ok (.ireturn, 1) := by decide +kernel
theorem dX6_check_0 : decode cX6_check 0 = .ok (.aload_n 0, 1) := by decide +kernel
theorem dX6_check_1 : decode cX6_check 1 = .ok (.getfield 9, 3) := by decide +kernel
theorem dX6_check_4 : decode cX6_check 4 = .ok (.iconst (-1), 1) := by decide +kernel
theorem dX6_check_5 : decode cX6_check 5 = .ok (.if_icmp .ne 8, 3) := by decide +kernel
theorem dX6_check_8 : decode cX6_check 8 = .ok (.bipush (-2), 2) := by decide +kernel
theorem dX6_check_10 : decode cX6_check 10 = .ok (.goto 15, 3) := by decide +kernel
theorem dX6_check_13 : decode cX6_check 13 = .ok (.aload_n 0, 1) := by decide +kernel
theorem dX6_check_14 : decode cX6_check 14 = .ok (.aload_n 0, 1) := by decide +kernel
theorem dX6_check_15 : decode cX6_check 15 = .ok (.getfield 33, 3) := by decide +kernel
theorem dX6_check_18 : decode cX6_check 18 = .ok (.aload_n 0, 1) := by decide +kernel
theorem dX6_check_19 : decode cX6_check 19 = .ok (.getfield 9, 3) := by decide +kernel
theorem dX6_check_22 : decode cX6_check 22 = .ok (.invokevirtual 208, 3) := by decide +kernel
theorem dX6_check_25 : decode cX6_check 25 = .ok (.ireturn, 1) := by decide +kernel
theorem dX6_thaw_0 : decode cX6_thaw 0 = .ok (.aload_n 0, 1) := by decide +kernel
theorem dX6_thaw_1 : decode cX6_thaw 1 = .ok (.getfield 9, 3) := by decide +kernel
theorem dX6_thaw_4 : decode cX6_thaw 4 = .ok (.iconst (-1), 1) := by decide +kernel
theorem dX6_thaw_5 : decode cX6_thaw 5 = .ok (.if_icmp .eq 19, 3) := by decide +kernel
theorem dX6_thaw_8 : decode cX6_thaw 8 = .ok (.aload_n 0, 1) := by decide +kernel
theorem dX6_thaw_9 : decode cX6_thaw 9 = .ok (.aload_n 0, 1) := by decide +kernel
theorem dX6_thaw_10 : decode cX6_thaw 10 = .ok (.getfield 33, 3) := by decide +kernel
theorem dX6_thaw_13 : decode cX6_thaw 13 = .ok (.aload_n 0, 1) := by decide +kernel
theorem dX6_thaw_14 : decode cX6_thaw 14 = .ok (.getfield 9, 3) := by decide +kernel
theorem dX6_thaw_17 : decode cX6_thaw 17 = .ok (.invokevirtual 208, 3) := by decide +kernel
theorem dX6_thaw_20 : decode cX6_thaw 20 = .ok (.iconst (-1), 1) := by decide +kernel
theorem dX6_thaw_21 : decode cX6_thaw 21 = .ok (.if_icmp .eq 5, 3) := by decide +kernel
theorem dX6_thaw_24 : decode cX6_thaw 24 = .ok (.iconst 0, 1) := by decide +kernel
theorem dX6_thaw_25 : decode cX6_thaw 25 = .ok (.ireturn, 1) := by decide +kernel
theorem dX6_thaw_26 : decode cX6_thaw 26 = .ok (.aload_n 0, 1) := by decide +kernel
theorem dX6_thaw_27 : decode cX6_thaw 27 = .ok (.aload_n 0, 1) := by decide +kernel
theorem dX6_thaw_28 : decode cX6_thaw 28 = .ok (.getfield 9, 3) := by decide +kernel
theorem dX6_thaw_31 : decode cX6_thaw 31 = .ok (.putfield 195, 3) := by decide +kernel
theorem dX6_thaw_34 : decode cX6_thaw 34 = .ok (.iconst 0, 1) := by decide +kernel
theorem dX6_thaw_35 : decode cX6_thaw 35 = .ok (.istore_n 1, 1) := by decide +kernel
theorem dX6_thaw_36 : decode cX6_thaw 36 = .ok (.iload_n 1, 1) := by decide +kernel
theorem dX6_thaw_37 : decode cX6_thaw 37 = .ok (.bipush 8, 2) := by decide +kernel
theorem dX6_thaw_39 : decode cX6_thaw 39 = .ok (.aload_n 0, 1) := by decide +kernel
theorem dX6_thaw_40 : decode cX6_thaw 40 = .ok (.getfield 195, 3) := by decide +kernel
theorem dX6_thaw_43 : decode cX6_thaw 43 = .ok (.imul, 1) := by decide +kernel
theorem dX6_thaw_44 : decode cX6_thaw 44 = .ok (.if_icmp .ge 21, 3) := by decide +kernel
theorem dX6_thaw_47 : decode cX6_thaw 47 = .ok (.aload_n 0, 1) := by decide +kernel
theorem dX6_thaw_48 : decode cX6_thaw 48 = .ok (.getfield 30, 3) := by decide +kernel
theorem dX6_thaw_51 : decode cX6_thaw 51 = .ok (.iload_n 1, 1) := by decide +kernel
theorem dX6_thaw_52 : decode cX6_thaw 52 = .ok (.aload_n 0, 1) := by decide +kernel
theorem dX6_thaw_53 : decode cX6_thaw 53 = .ok (.getfield 33, 3) := by decide +kernel
theorem dX6_thaw_56 : decode cX6_thaw 56 = .ok (.iload_n 1, 1) := by decide +kernel
theorem dX6_thaw_57 : decode cX6_thaw 57 = .ok (.iaload, 1) := by decide +kernel
theorem dX6_thaw_58 : decode cX6_thaw 58 = .ok (.iastore, 1) := by decide +kernel
theorem dX6_thaw_59 : decode cX6_thaw 59 = .ok (.iinc 1 1, 3) := by decide +kernel
theorem dX6_thaw_62 : decode cX6_thaw 62 = .ok (.goto (-26), 3) := by decide +kernel
theorem dX6_thaw_65 : decode cX6_thaw 65 = .ok (.iconst 1, 1) := by decide +kernel
theorem dX6_thaw_66 : decode cX6_thaw 66 = .ok (.ireturn, 1) := by decide +kernel
theorem dJ6_bitCount_0f7a4_0 : decode cJ6_bitCount_0f7a4 0 = .ok (.iload_n 0, 1) := by decide +kernel
theorem dJ6_bitCount_0f7a4_1 : decode cJ6_bitCount_0f7a4 1 = .ok (.iload_n 0, 1) := by decide +kernel
theorem dJ6_bitCount_0f7a4_2 : decode cJ6_bitCount_0f7a4 2 = .ok (.iconst 1, 1) := by decide +kernel
theorem dJ6_bitCount_0f7a4_3 : decode cJ6_bitCount_0f7a4 3 = .ok (.iushr, 1) := by decide +kernel
theorem dJ6_bitCount_0f7a4_4 : decode cJ6_bitCount_0f7a4 4 = .ok (.ldc_w 265, 3) := by decide +kernel
theorem dJ6_bitCount_0f7a4_7 : decode cJ6_bitCount_0f7a4 7 = .ok (.iand, 1) := by decide +kernel
theorem dJ6_bitCount_0f7a4_8 : decode cJ6_bitCount_0f7a4 8 = .ok (.isub, 1) := by decide +kernel
theorem dJ6_bitCount_0f7a4_9 : decode cJ6_bitCount_0f7a4 9 = .ok (.istore_n 0, 1) := by decide +kernel
theorem dJ6_bitCount_0f7a4_10 : decode cJ6_bitCount_0f7a4 10 = .ok (.iload_n 0, 1) := by decide +kernel
theorem dJ6_bitCount_0f7a4_11 : decode cJ6_bitCount_0f7a4 11 = .ok (.ldc_w 266, 3) := by decide +kernel
theorem dJ6_bitCount_0f7a4_14 : decode cJ6_bitCount_0f7a4 14 = .ok (.iand, 1) := by decide +kernel
theorem dJ6_bitCount_0f7a4_15 : decode cJ6_bitCount_0f7a4 15 = .ok (.iload_n 0, 1) := by decide +kernel
theorem dJ6_bitCount_0f7a4_16 : decode cJ6_bitCount_0f7a4 16 = .ok (.iconst 2, 1) := by decide +kernel
theorem dJ6_bitCount_0f7a4_17 : decode cJ6_bitCount_0f7a4 17 = .ok (.iushr, 1) := by decide +kernel
theorem dJ6_bitCount_0f7a4_18 : decode cJ6_bitCount_0f7a4 18 = .ok (.ldc_w 266, 3) := by decide +kernel
theorem dJ6_bitCount_0f7a4_21 : decode cJ6_bitCount_0f7a4 21 = .ok (.iand, 1) := by decide +kernel
theorem dJ6_bitCount_0f7a4_22 : decode cJ6_bitCount_0f7a4 22 = .ok (.iadd, 1) := by decide +kernel
theorem dJ6_bitCount_0f7a4_23 : decode cJ6_bitCount_0f7a4 23 = .ok (.istore_n 0, 1) := by decide +kernel
theorem dJ6_bitCount_0f7a4_24 : decode cJ6_bitCount_0f7a4 24 = .ok (.iload_n 0, 1) := by decide +kernel
theorem dJ6_bitCount_0f7a4_25 : decode cJ6_bitCount_0f7a4 25 = .ok (.iload_n 0, 1) := by decide +kernel
theorem dJ6_bitCount_0f7a4_26 : decode cJ6_bitCount_0f7a4 26 = .ok (.iconst 4, 1) := by decide +kernel
theorem dJ6_bitCount_0f7a4_27 : decode cJ6_bitCount_0f7a4 27 = .ok (.iushr, 1) := by decide +kernel
theorem dJ6_bitCount_0f7a4_28 : decode cJ6_bitCount_0f7a4 28 = .ok (.iadd, 1) := by decide +kernel
theorem dJ6_bitCount_0f7a4_29 : decode cJ6_bitCount_0f7a4 29 = .ok (.ldc_w 267, 3) := by decide +kernel
theorem dJ6_bitCount_0f7a4_32 : decode cJ6_bitCount_0f7a4 32 = .ok (.iand, 1) := by decide +kernel
theorem dJ6_bitCount_0f7a4_33 : decode cJ6_bitCount_0f7a4 33 = .ok (.istore_n 0, 1) := by decide +kernel
theorem dJ6_bitCount_0f7a4_34 : decode cJ6_bitCount_0f7a4 34 = .ok (.iload_n 0, 1) := by decide +kernel
theorem dJ6_bitCount_0f7a4_35 : decode cJ6_bitCount_0f7a4 35 = .ok (.iload_n 0, 1) := by decide +kernel
theorem dJ6_bitCount_0f7a4_36 : decode cJ6_bitCount_0f7a4 36 = .ok (.bipush 8, 2) := by decide +kernel
theorem dJ6_bitCount_0f7a4_38 : decode cJ6_bitCount_0f7a4 38 = .ok (.iushr, 1) := by decide +kernel
theorem dJ6_bitCount_0f7a4_39 : decode cJ6_bitCount_0f7a4 39 = .ok (.iadd, 1) := by decide +kernel
theorem dJ6_bitCount_0f7a4_40 : decode cJ6_bitCount_0f7a4 40 = .ok (.istore_n 0, 1) := by decide +kernel
theorem dJ6_bitCount_0f7a4_41 : decode cJ6_bitCount_0f7a4 41 = .ok (.iload_n 0, 1) := by decide +kernel
theorem dJ6_bitCount_0f7a4_42 : decode cJ6_bitCount_0f7a4 42 = .ok (.iload_n 0, 1) := by decide +kernel
theorem dJ6_bitCount_0f7a4_43 : decode cJ6_bitCount_0f7a4 43 = .ok (.bipush 16, 2) := by decide +kernel
theorem dJ6_bitCount_0f7a4_45 : decode cJ6_bitCount_0f7a4 45 = .ok (.iushr, 1) := by decide +kernel
theorem dJ6_bitCount_0f7a4_46 : decode cJ6_bitCount_0f7a4 46 = .ok (.iadd, 1) := by decide +kernel
theorem dJ6_bitCount_0f7a4_47 : decode cJ6_bitCount_0f7a4 47 = .ok (.istore_n 0, 1) := by decide +kernel
theorem dJ6_bitCount_0f7a4_48 : decode cJ6_bitCount_0f7a4 48 = .ok (.iload_n 0, 1) := by decide +kernel
theorem dJ6_bitCount_0f7a4_49 : decode cJ6_bitCount_0f7a4 49 = .ok (.bipush 63, 2) := by decide +kernel
theorem dJ6_bitCount_0f7a4_51 : decode cJ6_bitCount_0f7a4 51 = .ok (.iand, 1) := by decide +kernel
theorem dJ6_bitCount_0f7a4_52 : decode cJ6_bitCount_0f7a4 52 = .ok (.ireturn, 1) := by decide +kernel
theorem dJ9_max_7cf53_0 : decode cJ9_max_7cf53 0 = .ok (.iload_n 0, 1) := by decide +kernel
theorem dJ9_max_7cf53_1 : decode cJ9_max_7cf53 1 = .ok (.iload_n 1, 1) := by decide +kernel
theorem dJ9_max_7cf53_2 : decode cJ9_max_7cf53 2 = .ok (.if_icmp .lt 7, 3) := by decide +kernel
theorem dJ9_max_7cf53_5 : decode cJ9_max_7cf53 5 = .ok (.iload_n 0, 1) := by decide +kernel
theorem dJ9_max_7cf53_6 : decode cJ9_max_7cf53 6 = .ok (.goto 4, 3) := by decide +kernel
theorem dJ9_max_7cf53_9 : decode cJ9_max_7cf53 9 = .ok (.iload_n 1, 1) := by decide +kernel
theorem dJ9_max_7cf53_10 : decode cJ9_max_7cf53 10 = .ok (.ireturn, 1) := by decide +kernel
theorem dJ7_fill_53178_0 : decode cJ7_fill_53178 0 = .ok (.iconst 0, 1) := by decide +kernel
theorem dJ7_fill_53178_1 : decode cJ7_fill_53178 1 = .ok (.istore_n 2, 1) := by decide +kernel
theorem dJ7_fill_53178_2 : decode cJ7_fill_53178 2 = .ok (.aload_n 0, 1) := by decide +kernel
theorem dJ7_fill_53178_3 : decode cJ7_fill_53178 3 = .ok (.arraylength, 1) := by decide +kernel
theorem dJ7_fill_53178_4 : decode cJ7_fill_53178 4 = .ok (.istore_n 3, 1) := by decide +kernel
theorem dJ7_fill_53178_5 : decode cJ7_fill_53178 5 = .ok (.iload_n 2, 1) := by decide +kernel
theorem dJ7_fill_53178_6 : decode cJ7_fill_53178 6 = .ok (.iload_n 3, 1) := by decide +kernel
theorem dJ7_fill_53178_7 : decode cJ7_fill_53178 7 = .ok (.if_icmp .ge 13, 3) := by decide +kernel
theorem dJ7_fill_53178_10 : decode cJ7_fill_53178 10 = .ok (.aload_n 0, 1) := by decide +kernel
theorem dJ7_fill_53178_11 : decode cJ7_fill_53178 11 = .ok (.iload_n 2, 1) := by decide +kernel
theorem dJ7_fill_53178_12 : decode cJ7_fill_53178 12 = .ok (.iload_n 1, 1) := by decide +kernel
theorem dJ7_fill_53178_13 : decode cJ7_fill_53178 13 = .ok (.iastore, 1) := by decide +kernel
theorem dJ7_fill_53178_14 : decode cJ7_fill_53178 14 = .ok (.iinc 2 1, 3) := by decide +kernel
theorem dJ7_fill_53178_17 : decode cJ7_fill_53178 17 = .ok (.goto (-12), 3) := by decide +kernel
theorem dJ7_fill_53178_20 : decode cJ7_fill_53178 20 = .ok (.return_, 1) := by decide +kernel
theorem dL_law_0 : decode cL_law 0 = .ok (.new 7, 3) := by decide +kernel
theorem dL_law_3 : decode cL_law 3 = .ok (.dup, 1) := by decide +kernel
theorem dL_law_4 : decode cL_law 4 = .ok (.invokespecial 9, 3) := by decide +kernel
theorem dL_law_7 : decode cL_law 7 = .ok (.astore_n 1, 1) := by decide +kernel
theorem dL_law_8 : decode cL_law 8 = .ok (.new 10, 3) := by decide +kernel
theorem dL_law_11 : decode cL_law 11 = .ok (.dup, 1) := by decide +kernel
theorem dL_law_12 : decode cL_law 12 = .ok (.invokespecial 12, 3) := by decide +kernel
theorem dL_law_15 : decode cL_law 15 = .ok (.astore_n 2, 1) := by decide +kernel
theorem dL_law_16 : decode cL_law 16 = .ok (.iconst 0, 1) := by decide +kernel
theorem dL_law_17 : decode cL_law 17 = .ok (.istore_n 3, 1) := by decide +kernel
theorem dL_law_18 : decode cL_law 18 = .ok (.iload_n 3, 1) := by decide +kernel
theorem dL_law_19 : decode cL_law 19 = .ok (.aload_n 0, 1) := by decide +kernel
theorem dL_law_20 : decode cL_law 20 = .ok (.arraylength, 1) := by decide +kernel
theorem dL_law_21 : decode cL_law 21 = .ok (.bipush 8, 2) := by decide +kernel
theorem dL_law_23 : decode cL_law 23 = .ok (.isub, 1) := by decide +kernel
theorem dL_law_24 : decode cL_law 24 = .ok (.if_icmp .gt 843, 3) := by decide +kernel
theorem dL_law_27 : decode cL_law 27 = .ok (.aload_n 0, 1) := by decide +kernel
theorem dL_law_28 : decode cL_law 28 = .ok (.iload_n 3, 1) := by decide +kernel
theorem dL_law_29 : decode cL_law 29 = .ok (.iaload, 1) := by decide +kernel
theorem dL_law_30 : decode cL_law 30 = .ok (.bipush 31, 2) := by decide +kernel
theorem dL_law_32 : decode cL_law 32 = .ok (.iand, 1) := by decide +kernel
theorem dL_law_33 : decode cL_law 33 = .ok (.tableswitch 828 0 20 #[99, 138, 177, 210, 243, 266, 353, 376, 429, 472, 505, 528, 561, 614, 647, 690, 713, 746, 759, 802, 815], 99) := by decide +kernel
theorem dL_law_132 : decode cL_law 132 = .ok (.aload_n 1, 1) := by decide +kernel
theorem dL_law_133 : decode cL_law 133 = .ok (.aload_n 0, 1) := by decide +kernel
theorem dL_law_134 : decode cL_law 134 = .ok (.iload_n 3, 1) := by decide +kernel
theorem dL_law_135 : decode cL_law 135 = .ok (.iconst 1, 1) := by decide +kernel
theorem dL_law_136 : decode cL_law 136 = .ok (.iadd, 1) := by decide +kernel
theorem dL_law_137 : decode cL_law 137 = .ok (.iaload, 1) := by decide +kernel
theorem dL_law_138 : decode cL_law 138 = .ok (.ifCond .eq 7, 3) := by decide +kernel
theorem dL_law_141 : decode cL_law 141 = .ok (.iconst 1, 1) := by decide +kernel
theorem dL_law_142 : decode cL_law 142 = .ok (.goto 4, 3) := by decide +kernel
theorem dL_law_145 : decode cL_law 145 = .ok (.iconst 0, 1) := by decide +kernel
theorem dL_law_146 : decode cL_law 146 = .ok (.invokevirtual 13, 3) := by decide +kernel
theorem dL_law_149 : decode cL_law 149 = .ok (.aload_n 2, 1) := by decide +kernel
theorem dL_law_150 : decode cL_law 150 = .ok (.aload_n 0, 1) := by decide +kernel
theorem dL_law_151 : decode cL_law 151 = .ok (.iload_n 3, 1) := by decide +kernel
theorem dL_law_152 : decode cL_law 152 = .ok (.iconst 1, 1) := by decide +kernel
theorem dL_law_153 : decode cL_law 153 = .ok (.iadd, 1) := by decide +kernel
theorem dL_law_154 : decode cL_law 154 = .ok (.iaload, 1) := by decide +kernel
theorem dL_law_155 : decode cL_law 155 = .ok (.ifCond .eq 7, 3) := by decide +kernel
theorem dL_law_158 : decode cL_law 158 = .ok (.iconst 1, 1) := by decide +kernel
theorem dL_law_159 : decode cL_law 159 = .ok (.goto 4, 3) := by decide +kernel
theorem dL_law_162 : decode cL_law 162 = .ok (.iconst 0, 1) := by decide +kernel
theorem dL_law_163 : decode cL_law 163 = .ok (.invokevirtual 17, 3) := by decide +kernel
theorem dL_law_166 : decode cL_law 166 = .ok (.if_icmp .eq 695, 3) := by decide +kernel
theorem dL_law_169 : decode cL_law 169 = .ok (.iconst 0, 1) := by decide +kernel
theorem dL_law_170 : decode cL_law 170 = .ok (.ireturn, 1) := by decide +kernel
theorem dL_law_171 : decode cL_law 171 = .ok (.aload_n 1, 1) := by decide +kernel
theorem dL_law_172 : decode cL_law 172 = .ok (.aload_n 0, 1) := by decide +kernel
theorem dL_law_173 : decode cL_law 173 = .ok (.iload_n 3, 1) := by decide +kernel
theorem dL_law_174 : decode cL_law 174 = .ok (.iconst 1, 1) := by decide +kernel
theorem dL_law_175 : decode cL_law 175 = .ok (.iadd, 1) := by decide +kernel
theorem dL_law_176 : decode cL_law 176 = .ok (.iaload, 1) := by decide +kernel
theorem dL_law_177 : decode cL_law 177 = .ok (.ifCond .eq 7, 3) := by decide +kernel
theorem dL_law_180 : decode cL_law 180 = .ok (.iconst 1, 1) := by decide +kernel
theorem dL_law_181 : decode cL_law 181 = .ok (.goto 4, 3) := by decide +kernel
theorem dL_law_184 : decode cL_law 184 = .ok (.iconst 0, 1) := by decide +kernel
theorem dL_law_185 : decode cL_law 185 = .ok (.invokevirtual 18, 3) := by decide +kernel
theorem dL_law_188 : decode cL_law 188 = .ok (.aload_n 2, 1) := by decide +kernel
theorem dL_law_189 : decode cL_law 189 = .ok (.aload_n 0, 1) := by decide +kernel
theorem dL_law_190 : decode cL_law 190 = .ok (.iload_n 3, 1) := by decide +kernel
theorem dL_law_191 : decode cL_law 191 = .ok (.iconst 1, 1) := by decide +kernel
theorem dL_law_192 : decode cL_law 192 = .ok (.iadd, 1) := by decide +kernel
theorem dL_law_193 : decode cL_law 193 = .ok (.iaload, 1) := by decide +kernel
theorem dL_law_194 : decode cL_law 194 = .ok (.ifCond .eq 7, 3) := by decide +kernel
theorem dL_law_197 : decode cL_law 197 = .ok (.iconst 1, 1) := by decide +kernel
theorem dL_law_198 : decode cL_law 198 = .ok (.goto 4, 3) := by decide +kernel
theorem dL_law_201 : decode cL_law 201 = .ok (.iconst 0, 1) := by decide +kernel
theorem dL_law_202 : decode cL_law 202 = .ok (.invokevirtual 21, 3) := by decide +kernel
theorem dL_law_205 : decode cL_law 205 = .ok (.if_icmp .eq 656, 3) := by decide +kernel
theorem dL_law_208 : decode cL_law 208 = .ok (.iconst 0, 1) := by decide +kernel
theorem dL_law_209 : decode cL_law 209 = .ok (.ireturn, 1) := by decide +kernel
theorem dL_law_210 : decode cL_law 210 = .ok (.aload_n 1, 1) := by decide +kernel
theorem dL_law_211 : decode cL_law 211 = .ok (.aload_n 0, 1) := by decide +kernel
theorem dL_law_212 : decode cL_law 212 = .ok (.iload_n 3, 1) := by decide +kernel
theorem dL_law_213 : decode cL_law 213 = .ok (.iconst 1, 1) := by decide +kernel
theorem dL_law_214 : decode cL_law 214 = .ok (.iadd, 1) := by decide +kernel
theorem dL_law_215 : decode cL_law 215 = .ok (.iaload, 1) := by decide +kernel
theorem dL_law_216 : decode cL_law 216 = .ok (.aload_n 0, 1) := by decide +kernel
theorem dL_law_217 : decode cL_law 217 = .ok (.iload_n 3, 1) := by decide +kernel
theorem dL_law_218 : decode cL_law 218 = .ok (.iconst 2, 1) := by decide +kernel
theorem dL_law_219 : decode cL_law 219 = .ok (.iadd, 1) := by decide +kernel
theorem dL_law_220 : decode cL_law 220 = .ok (.iaload, 1) := by decide +kernel
theorem dL_law_221 : decode cL_law 221 = .ok (.invokevirtual 22, 3) := by decide +kernel
theorem dL_law_224 : decode cL_law 224 = .ok (.aload_n 2, 1) := by decide +kernel
theorem dL_law_225 : decode cL_law 225 = .ok (.aload_n 0, 1) := by decide +kernel
theorem dL_law_226 : decode cL_law 226 = .ok (.iload_n 3, 1) := by decide +kernel
theorem dL_law_227 : decode cL_law 227 = .ok (.iconst 1, 1) := by decide +kernel
theorem dL_law_228 : decode cL_law 228 = .ok (.iadd, 1) := by decide +kernel
theorem dL_law_229 : decode cL_law 229 = .ok (.iaload, 1) := by decide +kernel
theorem dL_law_230 : decode cL_law 230 = .ok (.aload_n 0, 1) := by decide +kernel
theorem dL_law_231 : decode cL_law 231 = .ok (.iload_n 3, 1) := by decide +kernel
theorem dL_law_232 : decode cL_law 232 = .ok (.iconst 2, 1) := by decide +kernel
theorem dL_law_233 : decode cL_law 233 = .ok (.iadd, 1) := by decide +kernel
theorem dL_law_234 : decode cL_law 234 = .ok (.iaload, 1) := by decide +kernel
theorem dL_law_235 : decode cL_law 235 = .ok (.invokevirtual 26, 3) := by decide +kernel
theorem dL_law_238 : decode cL_law 238 = .ok (.if_icmp .eq 623, 3) := by decide +kernel
theorem dL_law_241 : decode cL_law 241 = .ok (.iconst 0, 1) := by decide +kernel
theorem dL_law_242 : decode cL_law 242 = .ok (.ireturn, 1) := by decide +kernel
theorem dL_law_243 : decode cL_law 243 = .ok (.aload_n 1, 1) := by decide +kernel
theorem dL_law_244 : decode cL_law 244 = .ok (.aload_n 0, 1) := by decide +kernel
theorem dL_law_245 : decode cL_law 245 = .ok (.iload_n 3, 1) := by decide +kernel
theorem dL_law_246 : decode cL_law 246 = .ok (.iconst 1, 1) := by decide +kernel
theorem dL_law_247 : decode cL_law 247 = .ok (.iadd, 1) := by decide +kernel
theorem dL_law_248 : decode cL_law 248 = .ok (.iaload, 1) := by decide +kernel
theorem dL_law_249 : decode cL_law 249 = .ok (.aload_n 0, 1) := by decide +kernel
theorem dL_law_250 : decode cL_law 250 = .ok (.iload_n 3, 1) := by decide +kernel
theorem dL_law_251 : decode cL_law 251 = .ok (.iconst 2, 1) := by decide +kernel
theorem dL_law_252 : decode cL_law 252 = .ok (.iadd, 1) := by decide +kernel
theorem dL_law_253 : decode cL_law 253 = .ok (.iaload, 1) := by decide +kernel
theorem dL_law_254 : decode cL_law 254 = .ok (.invokevirtual 27, 3) := by decide +kernel
theorem dL_law_257 : decode cL_law 257 = .ok (.aload_n 2, 1) := by decide +kernel
theorem dL_law_258 : decode cL_law 258 = .ok (.aload_n 0, 1) := by decide +kernel
theorem dL_law_259 : decode cL_law 259 = .ok (.iload_n 3, 1) := by decide +kernel
theorem dL_law_260 : decode cL_law 260 = .ok (.iconst 1, 1) := by decide +kernel
theorem dL_law_261 : decode cL_law 261 = .ok (.iadd, 1) := by decide +kernel
theorem dL_law_262 : decode cL_law 262 = .ok (.iaload, 1) := by decide +kernel
theorem dL_law_263 : decode cL_law 263 = .ok (.aload_n 0, 1) := by decide +kernel
theorem dL_law_264 : decode cL_law 264 = .ok (.iload_n 3, 1) := by decide +kernel
theorem dL_law_265 : decode cL_law 265 = .ok (.iconst 2, 1) := by decide +kernel
theorem dL_law_266 : decode cL_law 266 = .ok (.iadd, 1) := by decide +kernel
theorem dL_law_267 : decode cL_law 267 = .ok (.iaload, 1) := by decide +kernel
theorem dL_law_268 : decode cL_law 268 = .ok (.invokevirtual 31, 3) := by decide +kernel
theorem dL_law_271 : decode cL_law 271 = .ok (.if_icmp .eq 590, 3) := by decide +kernel
theorem dL_law_274 : decode cL_law 274 = .ok (.iconst 0, 1) := by decide +kernel
theorem dL_law_275 : decode cL_law 275 = .ok (.ireturn, 1) := by decide +kernel
theorem dL_law_276 : decode cL_law 276 = .ok (.aload_n 1, 1) := by decide +kernel
theorem dL_law_277 : decode cL_law 277 = .ok (.aload_n 0, 1) := by decide +kernel
theorem dL_law_278 : decode cL_law 278 = .ok (.iload_n 3, 1) := by decide +kernel
theorem dL_law_279 : decode cL_law 279 = .ok (.iconst 1, 1) := by decide +kernel
theorem dL_law_280 : decode cL_law 280 = .ok (.iadd, 1) := by decide +kernel
theorem dL_law_281 : decode cL_law 281 = .ok (.iaload, 1) := by decide +kernel
theorem dL_law_282 : decode cL_law 282 = .ok (.invokevirtual 32, 3) := by decide +kernel
theorem dL_law_285 : decode cL_law 285 = .ok (.aload_n 2, 1) := by decide +kernel
theorem dL_law_286 : decode cL_law 286 = .ok (.aload_n 0, 1) := by decide +kernel
theorem dL_law_287 : decode cL_law 287 = .ok (.iload_n 3, 1) := by decide +kernel
theorem dL_law_288 : decode cL_law 288 = .ok (.iconst 1, 1) := by decide +kernel
theorem dL_law_289 : decode cL_law 289 = .ok (.iadd, 1) := by decide +kernel
theorem dL_law_290 : decode cL_law 290 = .ok (.iaload, 1) := by decide +kernel
theorem dL_law_291 : decode cL_law 291 = .ok (.invokevirtual 36, 3) := by decide +kernel
theorem dL_law_294 : decode cL_law 294 = .ok (.if_icmp .eq 567, 3) := by decide +kernel
theorem dL_law_297 : decode cL_law 297 = .ok (.iconst 0, 1) := by decide +kernel
theorem dL_law_298 : decode cL_law 298 = .ok (.ireturn, 1) := by decide +kernel
theorem dL_law_299 : decode cL_law 299 = .ok (.aload_n 1, 1) := by decide +kernel
theorem dL_law_300 : decode cL_law 300 = .ok (.aload_n 0, 1) := by decide +kernel
theorem dL_law_301 : decode cL_law 301 = .ok (.iload_n 3, 1) := by decide +kernel
theorem dL_law_302 : decode cL_law 302 = .ok (.iconst 1, 1) := by decide +kernel
theorem dL_law_303 : decode cL_law 303 = .ok (.iadd, 1) := by decide +kernel
theorem dL_law_304 : decode cL_law 304 = .ok (.iaload, 1) := by decide +kernel
theorem dL_law_305 : decode cL_law 305 = .ok (.aload_n 0, 1) := by decide +kernel
theorem dL_law_306 : decode cL_law 306 = .ok (.iload_n 3, 1) := by decide +kernel
theorem dL_law_307 : decode cL_law 307 = .ok (.iconst 2, 1) := by decide +kernel
theorem dL_law_308 : decode cL_law 308 = .ok (.iadd, 1) := by decide +kernel
theorem dL_law_309 : decode cL_law 309 = .ok (.iaload, 1) := by decide +kernel
theorem dL_law_310 : decode cL_law 310 = .ok (.aload_n 0, 1) := by decide +kernel
theorem dL_law_311 : decode cL_law 311 = .ok (.iload_n 3, 1) := by decide +kernel
theorem dL_law_312 : decode cL_law 312 = .ok (.iconst 3, 1) := by decide +kernel
theorem dL_law_313 : decode cL_law 313 = .ok (.iadd, 1) := by decide +kernel
theorem dL_law_314 : decode cL_law 314 = .ok (.iaload, 1) := by decide +kernel
theorem dL_law_315 : decode cL_law 315 = .ok (.aload_n 0, 1) := by decide +kernel
theorem dL_law_316 : decode cL_law 316 = .ok (.iload_n 3, 1) := by decide +kernel
theorem dL_law_317 : decode cL_law 317 = .ok (.iconst 4, 1) := by decide +kernel
theorem dL_law_318 : decode cL_law 318 = .ok (.iadd, 1) := by decide +kernel
theorem dL_law_319 : decode cL_law 319 = .ok (.iaload, 1) := by decide +kernel
theorem dL_law_320 : decode cL_law 320 = .ok (.aload_n 0, 1) := by decide +kernel
theorem dL_law_321 : decode cL_law 321 = .ok (.iload_n 3, 1) := by decide +kernel
theorem dL_law_322 : decode cL_law 322 = .ok (.iconst 5, 1) := by decide +kernel
theorem dL_law_323 : decode cL_law 323 = .ok (.iadd, 1) := by decide +kernel
theorem dL_law_324 : decode cL_law 324 = .ok (.iaload, 1) := by decide +kernel
theorem dL_law_325 : decode cL_law 325 = .ok (.aload_n 0, 1) := by decide +kernel
theorem dL_law_326 : decode cL_law 326 = .ok (.iload_n 3, 1) := by decide +kernel
theorem dL_law_327 : decode cL_law 327 = .ok (.bipush 6, 2) := by decide +kernel
theorem dL_law_329 : decode cL_law 329 = .ok (.iadd, 1) := by decide +kernel
theorem dL_law_330 : decode cL_law 330 = .ok (.iaload, 1) := by decide +kernel
theorem dL_law_331 : decode cL_law 331 = .ok (.aload_n 0, 1) := by decide +kernel
theorem dL_law_332 : decode cL_law 332 = .ok (.iload_n 3, 1) := by decide +kernel
theorem dL_law_333 : decode cL_law 333 = .ok (.bipush 7, 2) := by decide +kernel
theorem dL_law_335 : decode cL_law 335 = .ok (.iadd, 1) := by decide +kernel
theorem dL_law_336 : decode cL_law 336 = .ok (.iaload, 1) := by decide +kernel
theorem dL_law_337 : decode cL_law 337 = .ok (.invokevirtual 37, 3) := by decide +kernel
theorem dL_law_340 : decode cL_law 340 = .ok (.aload_n 2, 1) := by decide +kernel
theorem dL_law_341 : decode cL_law 341 = .ok (.aload_n 0, 1) := by decide +kernel
theorem dL_law_342 : decode cL_law 342 = .ok (.iload_n 3, 1) := by decide +kernel
theorem dL_law_343 : decode cL_law 343 = .ok (.iconst 1, 1) := by decide +kernel
theorem dL_law_344 : decode cL_law 344 = .ok (.iadd, 1) := by decide +kernel
theorem dL_law_345 : decode cL_law 345 = .ok (.iaload, 1) := by decide +kernel
theorem dL_law_346 : decode cL_law 346 = .ok (.aload_n 0, 1) := by decide +kernel
theorem dL_law_347 : decode cL_law 347 = .ok (.iload_n 3, 1) := by decide +kernel
theorem dL_law_348 : decode cL_law 348 = .ok (.iconst 2, 1) := by decide +kernel
theorem dL_law_349 : decode cL_law 349 = .ok (.iadd, 1) := by decide +kernel
theorem dL_law_350 : decode cL_law 350 = .ok (.iaload, 1) := by decide +kernel
theorem dL_law_351 : decode cL_law 351 = .ok (.aload_n 0, 1) := by decide +kernel
theorem dL_law_352 : decode cL_law 352 = .ok (.iload_n 3, 1) := by decide +kernel
theorem dL_law_353 : decode cL_law 353 = .ok (.iconst 3, 1) := by decide +kernel
theorem dL_law_354 : decode cL_law 354 = .ok (.iadd, 1) := by decide +kernel
theorem dL_law_355 : decode cL_law 355 = .ok (.iaload, 1) := by decide +kernel
theorem dL_law_356 : decode cL_law 356 = .ok (.aload_n 0, 1) := by decide +kernel
theorem dL_law_357 : decode cL_law 357 = .ok (.iload_n 3, 1) := by decide +kernel
theorem dL_law_358 : decode cL_law 358 = .ok (.iconst 4, 1) := by decide +kernel
theorem dL_law_359 : decode cL_law 359 = .ok (.iadd, 1) := by decide +kernel
theorem dL_law_360 : decode cL_law 360 = .ok (.iaload, 1) := by decide +kernel
theorem dL_law_361 : decode cL_law 361 = .ok (.aload_n 0, 1) := by decide +kernel
theorem dL_law_362 : decode cL_law 362 = .ok (.iload_n 3, 1) := by decide +kernel
theorem dL_law_363 : decode cL_law 363 = .ok (.iconst 5, 1) := by decide +kernel
theorem dL_law_364 : decode cL_law 364 = .ok (.iadd, 1) := by decide +kernel
theorem dL_law_365 : decode cL_law 365 = .ok (.iaload, 1) := by decide +kernel
theorem dL_law_366 : decode cL_law 366 = .ok (.aload_n 0, 1) := by decide +kernel
theorem dL_law_367 : decode cL_law 367 = .ok (.iload_n 3, 1) := by decide +kernel
theorem dL_law_368 : decode cL_law 368 = .ok (.bipush 6, 2) := by decide +kernel
theorem dL_law_370 : decode cL_law 370 = .ok (.iadd, 1) := by decide +kernel
theorem dL_law_371 : decode cL_law 371 = .ok (.iaload, 1) := by decide +kernel
theorem dL_law_372 : decode cL_law 372 = .ok (.aload_n 0, 1) := by decide +kernel
theorem dL_law_373 : decode cL_law 373 = .ok (.iload_n 3, 1) := by decide +kernel
theorem dL_law_374 : decode cL_law 374 = .ok (.bipush 7, 2) := by decide +kernel
theorem dL_law_376 : decode cL_law 376 = .ok (.iadd, 1) := by decide +kernel
theorem dL_law_377 : decode cL_law 377 = .ok (.iaload, 1) := by decide +kernel
theorem dL_law_378 : decode cL_law 378 = .ok (.invokevirtual 41, 3) := by decide +kernel
theorem dL_law_381 : decode cL_law 381 = .ok (.if_icmp .eq 480, 3) := by decide +kernel
theorem dL_law_384 : decode cL_law 384 = .ok (.iconst 0, 1) := by decide +kernel
theorem dL_law_385 : decode cL_law 385 = .ok (.ireturn, 1) := by decide +kernel
theorem dL_law_386 : decode cL_law 386 = .ok (.aload_n 1, 1) := by decide +kernel
theorem dL_law_387 : decode cL_law 387 = .ok (.aload_n 0, 1) := by decide +kernel
theorem dL_law_388 : decode cL_law 388 = .ok (.iload_n 3, 1) := by decide +kernel
theorem dL_law_389 : decode cL_law 389 = .ok (.iconst 1, 1) := by decide +kernel
theorem dL_law_390 : decode cL_law 390 = .ok (.iadd, 1) := by decide +kernel
theorem dL_law_391 : decode cL_law 391 = .ok (.iaload, 1) := by decide +kernel
theorem dL_law_392 : decode cL_law 392 = .ok (.invokevirtual 42, 3) := by decide +kernel
theorem dL_law_395 : decode cL_law 395 = .ok (.aload_n 2, 1) := by decide +kernel
theorem dL_law_396 : decode cL_law 396 = .ok (.aload_n 0, 1) := by decide +kernel
theorem dL_law_397 : decode cL_law 397 = .ok (.iload_n 3, 1) := by decide +kernel
theorem dL_law_398 : decode cL_law 398 = .ok (.iconst 1, 1) := by decide +kernel
theorem dL_law_399 : decode cL_law 399 = .ok (.iadd, 1) := by decide +kernel
theorem dL_law_400 : decode cL_law 400 = .ok (.iaload, 1) := by decide +kernel
theorem dL_law_401 : decode cL_law 401 = .ok (.invokevirtual 45, 3) := by decide +kernel
theorem dL_law_404 : decode cL_law 404 = .ok (.if_icmp .eq 457, 3) := by decide +kernel
theorem dL_law_407 : decode cL_law 407 = .ok (.iconst 0, 1) := by decide +kernel
theorem dL_law_408 : decode cL_law 408 = .ok (.ireturn, 1) := by decide +kernel
theorem dL_law_409 : decode cL_law 409 = .ok (.aload_n 1, 1) := by decide +kernel
theorem dL_law_410 : decode cL_law 410 = .ok (.aload_n 0, 1) := by decide +kernel
theorem dL_law_411 : decode cL_law 411 = .ok (.iload_n 3, 1) := by decide +kernel
theorem dL_law_412 : decode cL_law 412 = .ok (.iconst 1, 1) := by decide +kernel
theorem dL_law_413 : decode cL_law 413 = .ok (.iadd, 1) := by decide +kernel
theorem dL_law_414 : decode cL_law 414 = .ok (.iaload, 1) := by decide +kernel
theorem dL_law_415 : decode cL_law 415 = .ok (.aload_n 0, 1) := by decide +kernel
theorem dL_law_416 : decode cL_law 416 = .ok (.iload_n 3, 1) := by decide +kernel
theorem dL_law_417 : decode cL_law 417 = .ok (.iconst 2, 1) := by decide +kernel
theorem dL_law_418 : decode cL_law 418 = .ok (.iadd, 1) := by decide +kernel
theorem dL_law_419 : decode cL_law 419 = .ok (.iaload, 1) := by decide +kernel
theorem dL_law_420 : decode cL_law 420 = .ok (.aload_n 0, 1) := by decide +kernel
theorem dL_law_421 : decode cL_law 421 = .ok (.iload_n 3, 1) := by decide +kernel
theorem dL_law_422 : decode cL_law 422 = .ok (.iconst 3, 1) := by decide +kernel
theorem dL_law_423 : decode cL_law 423 = .ok (.iadd, 1) := by decide +kernel
theorem dL_law_424 : decode cL_law 424 = .ok (.iaload, 1) := by decide +kernel
theorem dL_law_425 : decode cL_law 425 = .ok (.aload_n 0, 1) := by decide +kernel
theorem dL_law_426 : decode cL_law 426 = .ok (.iload_n 3, 1) := by decide +kernel
theorem dL_law_427 : decode cL_law 427 = .ok (.iconst 4, 1) := by decide +kernel
theorem dL_law_428 : decode cL_law 428 = .ok (.iadd, 1) := by decide +kernel
theorem dL_law_429 : decode cL_law 429 = .ok (.iaload, 1) := by decide +kernel
theorem dL_law_430 : decode cL_law 430 = .ok (.invokevirtual 46, 3) := by decide +kernel
theorem dL_law_433 : decode cL_law 433 = .ok (.aload_n 2, 1) := by decide +kernel
theorem dL_law_434 : decode cL_law 434 = .ok (.aload_n 0, 1) := by decide +kernel
theorem dL_law_435 : decode cL_law 435 = .ok (.iload_n 3, 1) := by decide +kernel
theorem dL_law_436 : decode cL_law 436 = .ok (.iconst 1, 1) := by decide +kernel
theorem dL_law_437 : decode cL_law 437 = .ok (.iadd, 1) := by decide +kernel
theorem dL_law_438 : decode cL_law 438 = .ok (.iaload, 1) := by decide +kernel
theorem dL_law_439 : decode cL_law 439 = .ok (.aload_n 0, 1) := by decide +kernel
theorem dL_law_440 : decode cL_law 440 = .ok (.iload_n 3, 1) := by decide +kernel
theorem dL_law_441 : decode cL_law 441 = .ok (.iconst 2, 1) := by decide +kernel
theorem dL_law_442 : decode cL_law 442 = .ok (.iadd, 1) := by decide +kernel
theorem dL_law_443 : decode cL_law 443 = .ok (.iaload, 1) := by decide +kernel
theorem dL_law_444 : decode cL_law 444 = .ok (.aload_n 0, 1) := by decide +kernel
theorem dL_law_445 : decode cL_law 445 = .ok (.iload_n 3, 1) := by decide +kernel
theorem dL_law_446 : decode cL_law 446 = .ok (.iconst 3, 1) := by decide +kernel
theorem dL_law_447 : decode cL_law 447 = .ok (.iadd, 1) := by decide +kernel
theorem dL_law_448 : decode cL_law 448 = .ok (.iaload, 1) := by decide +kernel
theorem dL_law_449 : decode cL_law 449 = .ok (.aload_n 0, 1) := by decide +kernel
theorem dL_law_450 : decode cL_law 450 = .ok (.iload_n 3, 1) := by decide +kernel
theorem dL_law_451 : decode cL_law 451 = .ok (.iconst 4, 1) := by decide +kernel
theorem dL_law_452 : decode cL_law 452 = .ok (.iadd, 1) := by decide +kernel
theorem dL_law_453 : decode cL_law 453 = .ok (.iaload, 1) := by decide +kernel
theorem dL_law_454 : decode cL_law 454 = .ok (.invokevirtual 50, 3) := by decide +kernel
theorem dL_law_457 : decode cL_law 457 = .ok (.if_icmp .eq 404, 3) := by decide +kernel
theorem dL_law_460 : decode cL_law 460 = .ok (.iconst 0, 1) := by decide +kernel
theorem dL_law_461 : decode cL_law 461 = .ok (.ireturn, 1) := by decide +kernel
theorem dL_law_462 : decode cL_law 462 = .ok (.aload_n 1, 1) := by decide +kernel
theorem dL_law_463 : decode cL_law 463 = .ok (.aload_n 0, 1) := by decide +kernel
theorem dL_law_464 : decode cL_law 464 = .ok (.iload_n 3, 1) := by decide +kernel
theorem dL_law_465 : decode cL_law 465 = .ok (.iconst 1, 1) := by decide +kernel
theorem dL_law_466 : decode cL_law 466 = .ok (.iadd, 1) := by decide +kernel
theorem dL_law_467 : decode cL_law 467 = .ok (.iaload, 1) := by decide +kernel
theorem dL_law_468 : decode cL_law 468 = .ok (.aload_n 0, 1) := by decide +kernel
theorem dL_law_469 : decode cL_law 469 = .ok (.iload_n 3, 1) := by decide +kernel
theorem dL_law_470 : decode cL_law 470 = .ok (.iconst 2, 1) := by decide +kernel
theorem dL_law_471 : decode cL_law 471 = .ok (.iadd, 1) := by decide +kernel
theorem dL_law_472 : decode cL_law 472 = .ok (.iaload, 1) := by decide +kernel
theorem dL_law_473 : decode cL_law 473 = .ok (.aload_n 0, 1) := by decide +kernel
theorem dL_law_474 : decode cL_law 474 = .ok (.iload_n 3, 1) := by decide +kernel
theorem dL_law_475 : decode cL_law 475 = .ok (.iconst 3, 1) := by decide +kernel
theorem dL_law_476 : decode cL_law 476 = .ok (.iadd, 1) := by decide +kernel
theorem dL_law_477 : decode cL_law 477 = .ok (.iaload, 1) := by decide +kernel
theorem dL_law_478 : decode cL_law 478 = .ok (.invokevirtual 51, 3) := by decide +kernel
theorem dL_law_481 : decode cL_law 481 = .ok (.aload_n 2, 1) := by decide +kernel
theorem dL_law_482 : decode cL_law 482 = .ok (.aload_n 0, 1) := by decide +kernel
theorem dL_law_483 : decode cL_law 483 = .ok (.iload_n 3, 1) := by decide +kernel
theorem dL_law_484 : decode cL_law 484 = .ok (.iconst 1, 1) := by decide +kernel
theorem dL_law_485 : decode cL_law 485 = .ok (.iadd, 1) := by decide +kernel
theorem dL_law_486 : decode cL_law 486 = .ok (.iaload, 1) := by decide +kernel
theorem dL_law_487 : decode cL_law 487 = .ok (.aload_n 0, 1) := by decide +kernel
theorem dL_law_488 : decode cL_law 488 = .ok (.iload_n 3, 1) := by decide +kernel
theorem dL_law_489 : decode cL_law 489 = .ok (.iconst 2, 1) := by decide +kernel
theorem dL_law_490 : decode cL_law 490 = .ok (.iadd, 1) := by decide +kernel
theorem dL_law_491 : decode cL_law 491 = .ok (.iaload, 1) := by decide +kernel
theorem dL_law_492 : decode cL_law 492 = .ok (.aload_n 0, 1) := by decide +kernel
theorem dL_law_493 : decode cL_law 493 = .ok (.iload_n 3, 1) := by decide +kernel
theorem dL_law_494 : decode cL_law 494 = .ok (.iconst 3, 1) := by decide +kernel
theorem dL_law_495 : decode cL_law 495 = .ok (.iadd, 1) := by decide +kernel
theorem dL_law_496 : decode cL_law 496 = .ok (.iaload, 1) := by decide +kernel
theorem dL_law_497 : decode cL_law 497 = .ok (.invokevirtual 55, 3) := by decide +kernel
theorem dL_law_500 : decode cL_law 500 = .ok (.if_icmp .eq 361, 3) := by decide +kernel
theorem dL_law_503 : decode cL_law 503 = .ok (.iconst 0, 1) := by decide +kernel
theorem dL_law_504 : decode cL_law 504 = .ok (.ireturn, 1) := by decide +kernel
theorem dL_law_505 : decode cL_law 505 = .ok (.aload_n 1, 1) := by decide +kernel
theorem dL_law_506 : decode cL_law 506 = .ok (.aload_n 0, 1) := by decide +kernel
theorem dL_law_507 : decode cL_law 507 = .ok (.iload_n 3, 1) := by decide +kernel
theorem dL_law_508 : decode cL_law 508 = .ok (.iconst 1, 1) := by decide +kernel
theorem dL_law_509 : decode cL_law 509 = .ok (.iadd, 1) := by decide +kernel
theorem dL_law_510 : decode cL_law 510 = .ok (.iaload, 1) := by decide +kernel
theorem dL_law_511 : decode cL_law 511 = .ok (.aload_n 0, 1) := by decide +kernel
theorem dL_law_512 : decode cL_law 512 = .ok (.iload_n 3, 1) := by decide +kernel
theorem dL_law_513 : decode cL_law 513 = .ok (.iconst 2, 1) := by decide +kernel
theorem dL_law_514 : decode cL_law 514 = .ok (.iadd, 1) := by decide +kernel
theorem dL_law_515 : decode cL_law 515 = .ok (.iaload, 1) := by decide +kernel
theorem dL_law_516 : decode cL_law 516 = .ok (.invokevirtual 56, 3) := by decide +kernel
theorem dL_law_519 : decode cL_law 519 = .ok (.aload_n 2, 1) := by decide +kernel
theorem dL_law_520 : decode cL_law 520 = .ok (.aload_n 0, 1) := by decide +kernel
theorem dL_law_521 : decode cL_law 521 = .ok (.iload_n 3, 1) := by decide +kernel
theorem dL_law_522 : decode cL_law 522 = .ok (.iconst 1, 1) := by decide +kernel
theorem dL_law_523 : decode cL_law 523 = .ok (.iadd, 1) := by decide +kernel
theorem dL_law_524 : decode cL_law 524 = .ok (.iaload, 1) := by decide +kernel
theorem dL_law_525 : decode cL_law 525 = .ok (.aload_n 0, 1) := by decide +kernel
theorem dL_law_526 : decode cL_law 526 = .ok (.iload_n 3, 1) := by decide +kernel
theorem dL_law_527 : decode cL_law 527 = .ok (.iconst 2, 1) := by decide +kernel
theorem dL_law_528 : decode cL_law 528 = .ok (.iadd, 1) := by decide +kernel
theorem dL_law_529 : decode cL_law 529 = .ok (.iaload, 1) := by decide +kernel
theorem dL_law_530 : decode cL_law 530 = .ok (.invokevirtual 59, 3) := by decide +kernel
theorem dL_law_533 : decode cL_law 533 = .ok (.if_icmp .eq 328, 3) := by decide +kernel
theorem dL_law_536 : decode cL_law 536 = .ok (.iconst 0, 1) := by decide +kernel
theorem dL_law_537 : decode cL_law 537 = .ok (.ireturn, 1) := by decide +kernel
theorem dL_law_538 : decode cL_law 538 = .ok (.aload_n 1, 1) := by decide +kernel
theorem dL_law_539 : decode cL_law 539 = .ok (.aload_n 0, 1) := by decide +kernel
theorem dL_law_540 : decode cL_law 540 = .ok (.iload_n 3, 1) := by decide +kernel
theorem dL_law_541 : decode cL_law 541 = .ok (.iconst 1, 1) := by decide +kernel
theorem dL_law_542 : decode cL_law 542 = .ok (.iadd, 1) := by decide +kernel
theorem dL_law_543 : decode cL_law 543 = .ok (.iaload, 1) := by decide +kernel
theorem dL_law_544 : decode cL_law 544 = .ok (.invokevirtual 60, 3) := by decide +kernel
theorem dL_law_547 : decode cL_law 547 = .ok (.aload_n 2, 1) := by decide +kernel
theorem dL_law_548 : decode cL_law 548 = .ok (.aload_n 0, 1) := by decide +kernel
theorem dL_law_549 : decode cL_law 549 = .ok (.iload_n 3, 1) := by decide +kernel
theorem dL_law_550 : decode cL_law 550 = .ok (.iconst 1, 1) := by decide +kernel
theorem dL_law_551 : decode cL_law 551 = .ok (.iadd, 1) := by decide +kernel
theorem dL_law_552 : decode cL_law 552 = .ok (.iaload, 1) := by decide +kernel
theorem dL_law_553 : decode cL_law 553 = .ok (.invokevirtual 63, 3) := by decide +kernel
theorem dL_law_556 : decode cL_law 556 = .ok (.if_icmp .eq 305, 3) := by decide +kernel
theorem dL_law_559 : decode cL_law 559 = .ok (.iconst 0, 1) := by decide +kernel
theorem dL_law_560 : decode cL_law 560 = .ok (.ireturn, 1) := by decide +kernel
theorem dL_law_561 : decode cL_law 561 = .ok (.aload_n 1, 1) := by decide +kernel
theorem dL_law_562 : decode cL_law 562 = .ok (.aload_n 0, 1) := by decide +kernel
theorem dL_law_563 : decode cL_law 563 = .ok (.iload_n 3, 1) := by decide +kernel
theorem dL_law_564 : decode cL_law 564 = .ok (.iconst 1, 1) := by decide +kernel
theorem dL_law_565 : decode cL_law 565 = .ok (.iadd, 1) := by decide +kernel
theorem dL_law_566 : decode cL_law 566 = .ok (.iaload, 1) := by decide +kernel
theorem dL_law_567 : decode cL_law 567 = .ok (.aload_n 0, 1) := by decide +kernel
theorem dL_law_568 : decode cL_law 568 = .ok (.iload_n 3, 1) := by decide +kernel
theorem dL_law_569 : decode cL_law 569 = .ok (.iconst 2, 1) := by decide +kernel
theorem dL_law_570 : decode cL_law 570 = .ok (.iadd, 1) := by decide +kernel
theorem dL_law_571 : decode cL_law 571 = .ok (.iaload, 1) := by decide +kernel
theorem dL_law_572 : decode cL_law 572 = .ok (.invokevirtual 64, 3) := by decide +kernel
theorem dL_law_575 : decode cL_law 575 = .ok (.aload_n 2, 1) := by decide +kernel
theorem dL_law_576 : decode cL_law 576 = .ok (.aload_n 0, 1) := by decide +kernel
theorem dL_law_577 : decode cL_law 577 = .ok (.iload_n 3, 1) := by decide +kernel
theorem dL_law_578 : decode cL_law 578 = .ok (.iconst 1, 1) := by decide +kernel
theorem dL_law_579 : decode cL_law 579 = .ok (.iadd, 1) := by decide +kernel
theorem dL_law_580 : decode cL_law 580 = .ok (.iaload, 1) := by decide +kernel
theorem dL_law_581 : decode cL_law 581 = .ok (.aload_n 0, 1) := by decide +kernel
theorem dL_law_582 : decode cL_law 582 = .ok (.iload_n 3, 1) := by decide +kernel
theorem dL_law_583 : decode cL_law 583 = .ok (.iconst 2, 1) := by decide +kernel
theorem dL_law_584 : decode cL_law 584 = .ok (.iadd, 1) := by decide +kernel
theorem dL_law_585 : decode cL_law 585 = .ok (.iaload, 1) := by decide +kernel
theorem dL_law_586 : decode cL_law 586 = .ok (.invokevirtual 67, 3) := by decide +kernel
theorem dL_law_589 : decode cL_law 589 = .ok (.if_icmp .eq 272, 3) := by decide +kernel
theorem dL_law_592 : decode cL_law 592 = .ok (.iconst 0, 1) := by decide +kernel
theorem dL_law_593 : decode cL_law 593 = .ok (.ireturn, 1) := by decide +kernel
theorem dL_law_594 : decode cL_law 594 = .ok (.aload_n 1, 1) := by decide +kernel
theorem dL_law_595 : decode cL_law 595 = .ok (.aload_n 0, 1) := by decide +kernel
theorem dL_law_596 : decode cL_law 596 = .ok (.iload_n 3, 1) := by decide +kernel
theorem dL_law_597 : decode cL_law 597 = .ok (.iconst 1, 1) := by decide +kernel
theorem dL_law_598 : decode cL_law 598 = .ok (.iadd, 1) := by decide +kernel
theorem dL_law_599 : decode cL_law 599 = .ok (.iaload, 1) := by decide +kernel
theorem dL_law_600 : decode cL_law 600 = .ok (.aload_n 0, 1) := by decide +kernel
theorem dL_law_601 : decode cL_law 601 = .ok (.iload_n 3, 1) := by decide +kernel
theorem dL_law_602 : decode cL_law 602 = .ok (.iconst 2, 1) := by decide +kernel
theorem dL_law_603 : decode cL_law 603 = .ok (.iadd, 1) := by decide +kernel
theorem dL_law_604 : decode cL_law 604 = .ok (.iaload, 1) := by decide +kernel
theorem dL_law_605 : decode cL_law 605 = .ok (.aload_n 0, 1) := by decide +kernel
theorem dL_law_606 : decode cL_law 606 = .ok (.iload_n 3, 1) := by decide +kernel
theorem dL_law_607 : decode cL_law 607 = .ok (.iconst 3, 1) := by decide +kernel
theorem dL_law_608 : decode cL_law 608 = .ok (.iadd, 1) := by decide +kernel
theorem dL_law_609 : decode cL_law 609 = .ok (.iaload, 1) := by decide +kernel
theorem dL_law_610 : decode cL_law 610 = .ok (.aload_n 0, 1) := by decide +kernel
theorem dL_law_611 : decode cL_law 611 = .ok (.iload_n 3, 1) := by decide +kernel
theorem dL_law_612 : decode cL_law 612 = .ok (.iconst 4, 1) := by decide +kernel
theorem dL_law_613 : decode cL_law 613 = .ok (.iadd, 1) := by decide +kernel
theorem dL_law_614 : decode cL_law 614 = .ok (.iaload, 1) := by decide +kernel
theorem dL_law_615 : decode cL_law 615 = .ok (.invokevirtual 68, 3) := by decide +kernel
theorem dL_law_618 : decode cL_law 618 = .ok (.aload_n 2, 1) := by decide +kernel
theorem dL_law_619 : decode cL_law 619 = .ok (.aload_n 0, 1) := by decide +kernel
theorem dL_law_620 : decode cL_law 620 = .ok (.iload_n 3, 1) := by decide +kernel
theorem dL_law_621 : decode cL_law 621 = .ok (.iconst 1, 1) := by decide +kernel
theorem dL_law_622 : decode cL_law 622 = .ok (.iadd, 1) := by decide +kernel
theorem dL_law_623 : decode cL_law 623 = .ok (.iaload, 1) := by decide +kernel
theorem dL_law_624 : decode cL_law 624 = .ok (.aload_n 0, 1) := by decide +kernel
theorem dL_law_625 : decode cL_law 625 = .ok (.iload_n 3, 1) := by decide +kernel
theorem dL_law_626 : decode cL_law 626 = .ok (.iconst 2, 1) := by decide +kernel
theorem dL_law_627 : decode cL_law 627 = .ok (.iadd, 1) := by decide +kernel
theorem dL_law_628 : decode cL_law 628 = .ok (.iaload, 1) := by decide +kernel
theorem dL_law_629 : decode cL_law 629 = .ok (.aload_n 0, 1) := by decide +kernel
theorem dL_law_630 : decode cL_law 630 = .ok (.iload_n 3, 1) := by decide +kernel
theorem dL_law_631 : decode cL_law 631 = .ok (.iconst 3, 1) := by decide +kernel
theorem dL_law_632 : decode cL_law 632 = .ok (.iadd, 1) := by decide +kernel
theorem dL_law_633 : decode cL_law 633 = .ok (.iaload, 1) := by decide +kernel
theorem dL_law_634 : decode cL_law 634 = .ok (.aload_n 0, 1) := by decide +kernel
theorem dL_law_635 : decode cL_law 635 = .ok (.iload_n 3, 1) := by decide +kernel
theorem dL_law_636 : decode cL_law 636 = .ok (.iconst 4, 1) := by decide +kernel
theorem dL_law_637 : decode cL_law 637 = .ok (.iadd, 1) := by decide +kernel
theorem dL_law_638 : decode cL_law 638 = .ok (.iaload, 1) := by decide +kernel
theorem dL_law_639 : decode cL_law 639 = .ok (.invokevirtual 71, 3) := by decide +kernel
theorem dL_law_642 : decode cL_law 642 = .ok (.if_icmp .eq 219, 3) := by decide +kernel
theorem dL_law_645 : decode cL_law 645 = .ok (.iconst 0, 1) := by decide +kernel
theorem dL_law_646 : decode cL_law 646 = .ok (.ireturn, 1) := by decide +kernel
theorem dL_law_647 : decode cL_law 647 = .ok (.aload_n 1, 1) := by decide +kernel
theorem dL_law_648 : decode cL_law 648 = .ok (.aload_n 0, 1) := by decide +kernel
theorem dL_law_649 : decode cL_law 649 = .ok (.iload_n 3, 1) := by decide +kernel
theorem dL_law_650 : decode cL_law 650 = .ok (.iconst 1, 1) := by decide +kernel
theorem dL_law_651 : decode cL_law 651 = .ok (.iadd, 1) := by decide +kernel
theorem dL_law_652 : decode cL_law 652 = .ok (.iaload, 1) := by decide +kernel
theorem dL_law_653 : decode cL_law 653 = .ok (.aload_n 0, 1) := by decide +kernel
theorem dL_law_654 : decode cL_law 654 = .ok (.iload_n 3, 1) := by decide +kernel
theorem dL_law_655 : decode cL_law 655 = .ok (.iconst 2, 1) := by decide +kernel
theorem dL_law_656 : decode cL_law 656 = .ok (.iadd, 1) := by decide +kernel
theorem dL_law_657 : decode cL_law 657 = .ok (.iaload, 1) := by decide +kernel
theorem dL_law_658 : decode cL_law 658 = .ok (.invokevirtual 72, 3) := by decide +kernel
theorem dL_law_661 : decode cL_law 661 = .ok (.aload_n 2, 1) := by decide +kernel
theorem dL_law_662 : decode cL_law 662 = .ok (.aload_n 0, 1) := by decide +kernel
theorem dL_law_663 : decode cL_law 663 = .ok (.iload_n 3, 1) := by decide +kernel
theorem dL_law_664 : decode cL_law 664 = .ok (.iconst 1, 1) := by decide +kernel
theorem dL_law_665 : decode cL_law 665 = .ok (.iadd, 1) := by decide +kernel
theorem dL_law_666 : decode cL_law 666 = .ok (.iaload, 1) := by decide +kernel
theorem dL_law_667 : decode cL_law 667 = .ok (.aload_n 0, 1) := by decide +kernel
theorem dL_law_668 : decode cL_law 668 = .ok (.iload_n 3, 1) := by decide +kernel
theorem dL_law_669 : decode cL_law 669 = .ok (.iconst 2, 1) := by decide +kernel
theorem dL_law_670 : decode cL_law 670 = .ok (.iadd, 1) := by decide +kernel
theorem dL_law_671 : decode cL_law 671 = .ok (.iaload, 1) := by decide +kernel
theorem dL_law_672 : decode cL_law 672 = .ok (.invokevirtual 75, 3) := by decide +kernel
theorem dL_law_675 : decode cL_law 675 = .ok (.if_icmp .eq 186, 3) := by decide +kernel
theorem dL_law_678 : decode cL_law 678 = .ok (.iconst 0, 1) := by decide +kernel
theorem dL_law_679 : decode cL_law 679 = .ok (.ireturn, 1) := by decide +kernel
theorem dL_law_680 : decode cL_law 680 = .ok (.aload_n 1, 1) := by decide +kernel
theorem dL_law_681 : decode cL_law 681 = .ok (.aload_n 0, 1) := by decide +kernel
theorem dL_law_682 : decode cL_law 682 = .ok (.iload_n 3, 1) := by decide +kernel
theorem dL_law_683 : decode cL_law 683 = .ok (.iconst 1, 1) := by decide +kernel
theorem dL_law_684 : decode cL_law 684 = .ok (.iadd, 1) := by decide +kernel
theorem dL_law_685 : decode cL_law 685 = .ok (.iaload, 1) := by decide +kernel
theorem dL_law_686 : decode cL_law 686 = .ok (.aload_n 0, 1) := by decide +kernel
theorem dL_law_687 : decode cL_law 687 = .ok (.iload_n 3, 1) := by decide +kernel
theorem dL_law_688 : decode cL_law 688 = .ok (.iconst 2, 1) := by decide +kernel
theorem dL_law_689 : decode cL_law 689 = .ok (.iadd, 1) := by decide +kernel
theorem dL_law_690 : decode cL_law 690 = .ok (.iaload, 1) := by decide +kernel
theorem dL_law_691 : decode cL_law 691 = .ok (.aload_n 0, 1) := by decide +kernel
theorem dL_law_692 : decode cL_law 692 = .ok (.iload_n 3, 1) := by decide +kernel
theorem dL_law_693 : decode cL_law 693 = .ok (.iconst 3, 1) := by decide +kernel
theorem dL_law_694 : decode cL_law 694 = .ok (.iadd, 1) := by decide +kernel
theorem dL_law_695 : decode cL_law 695 = .ok (.iaload, 1) := by decide +kernel
theorem dL_law_696 : decode cL_law 696 = .ok (.invokevirtual 76, 3) := by decide +kernel
theorem dL_law_699 : decode cL_law 699 = .ok (.aload_n 2, 1) := by decide +kernel
theorem dL_law_700 : decode cL_law 700 = .ok (.aload_n 0, 1) := by decide +kernel
theorem dL_law_701 : decode cL_law 701 = .ok (.iload_n 3, 1) := by decide +kernel
theorem dL_law_702 : decode cL_law 702 = .ok (.iconst 1, 1) := by decide +kernel
theorem dL_law_703 : decode cL_law 703 = .ok (.iadd, 1) := by decide +kernel
theorem dL_law_704 : decode cL_law 704 = .ok (.iaload, 1) := by decide +kernel
theorem dL_law_705 : decode cL_law 705 = .ok (.aload_n 0, 1) := by decide +kernel
theorem dL_law_706 : decode cL_law 706 = .ok (.iload_n 3, 1) := by decide +kernel
theorem dL_law_707 : decode cL_law 707 = .ok (.iconst 2, 1) := by decide +kernel
theorem dL_law_708 : decode cL_law 708 = .ok (.iadd, 1) := by decide +kernel
theorem dL_law_709 : decode cL_law 709 = .ok (.iaload, 1) := by decide +kernel
theorem dL_law_710 : decode cL_law 710 = .ok (.aload_n 0, 1) := by decide +kernel
theorem dL_law_711 : decode cL_law 711 = .ok (.iload_n 3, 1) := by decide +kernel
theorem dL_law_712 : decode cL_law 712 = .ok (.iconst 3, 1) := by decide +kernel
theorem dL_law_713 : decode cL_law 713 = .ok (.iadd, 1) := by decide +kernel
theorem dL_law_714 : decode cL_law 714 = .ok (.iaload, 1) := by decide +kernel
theorem dL_law_715 : decode cL_law 715 = .ok (.invokevirtual 79, 3) := by decide +kernel
theorem dL_law_718 : decode cL_law 718 = .ok (.if_icmp .eq 143, 3) := by decide +kernel
theorem dL_law_721 : decode cL_law 721 = .ok (.iconst 0, 1) := by decide +kernel
theorem dL_law_722 : decode cL_law 722 = .ok (.ireturn, 1) := by decide +kernel
theorem dL_law_723 : decode cL_law 723 = .ok (.aload_n 1, 1) := by decide +kernel
theorem dL_law_724 : decode cL_law 724 = .ok (.aload_n 0, 1) := by decide +kernel
theorem dL_law_725 : decode cL_law 725 = .ok (.iload_n 3, 1) := by decide +kernel
theorem dL_law_726 : decode cL_law 726 = .ok (.iconst 1, 1) := by decide +kernel
theorem dL_law_727 : decode cL_law 727 = .ok (.iadd, 1) := by decide +kernel
theorem dL_law_728 : decode cL_law 728 = .ok (.iaload, 1) := by decide +kernel
theorem dL_law_729 : decode cL_law 729 = .ok (.invokevirtual 80, 3) := by decide +kernel
theorem dL_law_732 : decode cL_law 732 = .ok (.aload_n 2, 1) := by decide +kernel
theorem dL_law_733 : decode cL_law 733 = .ok (.aload_n 0, 1) := by decide +kernel
theorem dL_law_734 : decode cL_law 734 = .ok (.iload_n 3, 1) := by decide +kernel
theorem dL_law_735 : decode cL_law 735 = .ok (.iconst 1, 1) := by decide +kernel
theorem dL_law_736 : decode cL_law 736 = .ok (.iadd, 1) := by decide +kernel
theorem dL_law_737 : decode cL_law 737 = .ok (.iaload, 1) := by decide +kernel
theorem dL_law_738 : decode cL_law 738 = .ok (.invokevirtual 83, 3) := by decide +kernel
theorem dL_law_741 : decode cL_law 741 = .ok (.if_icmp .eq 120, 3) := by decide +kernel
theorem dL_law_744 : decode cL_law 744 = .ok (.iconst 0, 1) := by decide +kernel
theorem dL_law_745 : decode cL_law 745 = .ok (.ireturn, 1) := by decide +kernel
theorem dL_law_746 : decode cL_law 746 = .ok (.aload_n 1, 1) := by decide +kernel
theorem dL_law_747 : decode cL_law 747 = .ok (.aload_n 0, 1) := by decide +kernel
theorem dL_law_748 : decode cL_law 748 = .ok (.iload_n 3, 1) := by decide +kernel
theorem dL_law_749 : decode cL_law 749 = .ok (.iconst 1, 1) := by decide +kernel
theorem dL_law_750 : decode cL_law 750 = .ok (.iadd, 1) := by decide +kernel
theorem dL_law_751 : decode cL_law 751 = .ok (.iaload, 1) := by decide +kernel
theorem dL_law_752 : decode cL_law 752 = .ok (.aload_n 0, 1) := by decide +kernel
theorem dL_law_753 : decode cL_law 753 = .ok (.iload_n 3, 1) := by decide +kernel
theorem dL_law_754 : decode cL_law 754 = .ok (.iconst 2, 1) := by decide +kernel
theorem dL_law_755 : decode cL_law 755 = .ok (.iadd, 1) := by decide +kernel
theorem dL_law_756 : decode cL_law 756 = .ok (.iaload, 1) := by decide +kernel
theorem dL_law_757 : decode cL_law 757 = .ok (.invokevirtual 84, 3) := by decide +kernel
theorem dL_law_760 : decode cL_law 760 = .ok (.aload_n 2, 1) := by decide +kernel
theorem dL_law_761 : decode cL_law 761 = .ok (.aload_n 0, 1) := by decide +kernel
theorem dL_law_762 : decode cL_law 762 = .ok (.iload_n 3, 1) := by decide +kernel
theorem dL_law_763 : decode cL_law 763 = .ok (.iconst 1, 1) := by decide +kernel
theorem dL_law_764 : decode cL_law 764 = .ok (.iadd, 1) := by decide +kernel
theorem dL_law_765 : decode cL_law 765 = .ok (.iaload, 1) := by decide +kernel
theorem dL_law_766 : decode cL_law 766 = .ok (.aload_n 0, 1) := by decide +kernel
theorem dL_law_767 : decode cL_law 767 = .ok (.iload_n 3, 1) := by decide +kernel
theorem dL_law_768 : decode cL_law 768 = .ok (.iconst 2, 1) := by decide +kernel
theorem dL_law_769 : decode cL_law 769 = .ok (.iadd, 1) := by decide +kernel
theorem dL_law_770 : decode cL_law 770 = .ok (.iaload, 1) := by decide +kernel
theorem dL_law_771 : decode cL_law 771 = .ok (.invokevirtual 87, 3) := by decide +kernel
theorem dL_law_774 : decode cL_law 774 = .ok (.if_icmp .eq 87, 3) := by decide +kernel
theorem dL_law_777 : decode cL_law 777 = .ok (.iconst 0, 1) := by decide +kernel
theorem dL_law_778 : decode cL_law 778 = .ok (.ireturn, 1) := by decide +kernel
theorem dL_law_779 : decode cL_law 779 = .ok (.aload_n 1, 1) := by decide +kernel
theorem dL_law_780 : decode cL_law 780 = .ok (.invokevirtual 88, 3) := by decide +kernel
theorem dL_law_783 : decode cL_law 783 = .ok (.aload_n 2, 1) := by decide +kernel
theorem dL_law_784 : decode cL_law 784 = .ok (.invokevirtual 92, 3) := by decide +kernel
theorem dL_law_787 : decode cL_law 787 = .ok (.if_icmp .eq 74, 3) := by decide +kernel
theorem dL_law_790 : decode cL_law 790 = .ok (.iconst 0, 1) := by decide +kernel
theorem dL_law_791 : decode cL_law 791 = .ok (.ireturn, 1) := by decide +kernel
theorem dL_law_792 : decode cL_law 792 = .ok (.aload_n 1, 1) := by decide +kernel
theorem dL_law_793 : decode cL_law 793 = .ok (.aload_n 0, 1) := by decide +kernel
theorem dL_law_794 : decode cL_law 794 = .ok (.iload_n 3, 1) := by decide +kernel
theorem dL_law_795 : decode cL_law 795 = .ok (.iconst 1, 1) := by decide +kernel
theorem dL_law_796 : decode cL_law 796 = .ok (.iadd, 1) := by decide +kernel
theorem dL_law_797 : decode cL_law 797 = .ok (.iaload, 1) := by decide +kernel
theorem dL_law_798 : decode cL_law 798 = .ok (.aload_n 0, 1) := by decide +kernel
theorem dL_law_799 : decode cL_law 799 = .ok (.iload_n 3, 1) := by decide +kernel
theorem dL_law_800 : decode cL_law 800 = .ok (.iconst 2, 1) := by decide +kernel
theorem dL_law_801 : decode cL_law 801 = .ok (.iadd, 1) := by decide +kernel
theorem dL_law_802 : decode cL_law 802 = .ok (.iaload, 1) := by decide +kernel
theorem dL_law_803 : decode cL_law 803 = .ok (.aload_n 0, 1) := by decide +kernel
theorem dL_law_804 : decode cL_law 804 = .ok (.iload_n 3, 1) := by decide +kernel
theorem dL_law_805 : decode cL_law 805 = .ok (.iconst 3, 1) := by decide +kernel
theorem dL_law_806 : decode cL_law 806 = .ok (.iadd, 1) := by decide +kernel
theorem dL_law_807 : decode cL_law 807 = .ok (.iaload, 1) := by decide +kernel
theorem dL_law_808 : decode cL_law 808 = .ok (.invokevirtual 93, 3) := by decide +kernel
theorem dL_law_811 : decode cL_law 811 = .ok (.aload_n 2, 1) := by decide +kernel
theorem dL_law_812 : decode cL_law 812 = .ok (.aload_n 0, 1) := by decide +kernel
theorem dL_law_813 : decode cL_law 813 = .ok (.iload_n 3, 1) := by decide +kernel
theorem dL_law_814 : decode cL_law 814 = .ok (.iconst 1, 1) := by decide +kernel
theorem dL_law_815 : decode cL_law 815 = .ok (.iadd, 1) := by decide +kernel
theorem dL_law_816 : decode cL_law 816 = .ok (.iaload, 1) := by decide +kernel
theorem dL_law_817 : decode cL_law 817 = .ok (.aload_n 0, 1) := by decide +kernel
theorem dL_law_818 : decode cL_law 818 = .ok (.iload_n 3, 1) := by decide +kernel
theorem dL_law_819 : decode cL_law 819 = .ok (.iconst 2, 1) := by decide +kernel
theorem dL_law_820 : decode cL_law 820 = .ok (.iadd, 1) := by decide +kernel
theorem dL_law_821 : decode cL_law 821 = .ok (.iaload, 1) := by decide +kernel
theorem dL_law_822 : decode cL_law 822 = .ok (.aload_n 0, 1) := by decide +kernel
theorem dL_law_823 : decode cL_law 823 = .ok (.iload_n 3, 1) := by decide +kernel
theorem dL_law_824 : decode cL_law 824 = .ok (.iconst 3, 1) := by decide +kernel
theorem dL_law_825 : decode cL_law 825 = .ok (.iadd, 1) := by decide +kernel
theorem dL_law_826 : decode cL_law 826 = .ok (.iaload, 1) := by decide +kernel
theorem dL_law_827 : decode cL_law 827 = .ok (.invokevirtual 97, 3) := by decide +kernel
theorem dL_law_830 : decode cL_law 830 = .ok (.if_icmp .eq 31, 3) := by decide +kernel
theorem dL_law_833 : decode cL_law 833 = .ok (.iconst 0, 1) := by decide +kernel
theorem dL_law_834 : decode cL_law 834 = .ok (.ireturn, 1) := by decide +kernel
theorem dL_law_835 : decode cL_law 835 = .ok (.aload_n 1, 1) := by decide +kernel
theorem dL_law_836 : decode cL_law 836 = .ok (.invokevirtual 98, 3) := by decide +kernel
theorem dL_law_839 : decode cL_law 839 = .ok (.aload_n 2, 1) := by decide +kernel
theorem dL_law_840 : decode cL_law 840 = .ok (.invokevirtual 101, 3) := by decide +kernel
theorem dL_law_843 : decode cL_law 843 = .ok (.if_icmp .eq 18, 3) := by decide +kernel
theorem dL_law_846 : decode cL_law 846 = .ok (.iconst 0, 1) := by decide +kernel
theorem dL_law_847 : decode cL_law 847 = .ok (.ireturn, 1) := by decide +kernel
theorem dL_law_848 : decode cL_law 848 = .ok (.aload_n 1, 1) := by decide +kernel
theorem dL_law_849 : decode cL_law 849 = .ok (.invokevirtual 102, 3) := by decide +kernel
theorem dL_law_852 : decode cL_law 852 = .ok (.aload_n 2, 1) := by decide +kernel
theorem dL_law_853 : decode cL_law 853 = .ok (.invokevirtual 106, 3) := by decide +kernel
theorem dL_law_856 : decode cL_law 856 = .ok (.if_icmp .eq 5, 3) := by decide +kernel
theorem dL_law_859 : decode cL_law 859 = .ok (.iconst 0, 1) := by decide +kernel
theorem dL_law_860 : decode cL_law 860 = .ok (.ireturn, 1) := by decide +kernel
theorem dL_law_861 : decode cL_law 861 = .ok (.iinc 3 8, 3) := by decide +kernel
theorem dL_law_864 : decode cL_law 864 = .ok (.goto (-846), 3) := by decide +kernel
theorem dL_law_867 : decode cL_law 867 = .ok (.iconst 1, 1) := by decide +kernel
theorem dL_law_868 : decode cL_law 868 = .ok (.ireturn, 1) := by decide +kernel
