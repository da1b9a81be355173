theorem dX12_word_17 : decode cX12_word 17 = .ok (.iload 4, 2) := by decide +kernel
theorem dX12_word_19 : decode cX12_word 19 = .ok (.invokestatic 216, 3) := by decide +kernel
theorem dX12_word_22 : decode cX12_word 22 = .ok (.iload 5, 2) := by decide +kernel
theorem dX12_word_24 : decode cX12_word 24 = .ok (.invokestatic 216, 3) := by decide +kernel
theorem dX12_word_27 : decode cX12_word 27 = .ok (.iload 6, 2) := by decide +kernel
theorem dX12_word_29 : decode cX12_word 29 = .ok (.invokestatic 216, 3) := by decide +kernel
theorem dX12_word_32 : decode cX12_word 32 = .ok (.lreturn, 1) := by decide +kernel
theorem dX12_token_0 : decode cX12_token 0 = .ok (.aload_n 0, 1) := by decide +kernel
theorem dX12_token_1 : decode cX12_token 1 = .ok (.getfield 20, 3) := by decide +kernel
theorem dX12_token_4 : decode cX12_token 4 = .ok (.aload_n 0, 1) := by decide +kernel
theorem dX12_token_5 : decode cX12_token 5 = .ok (.getfield 220, 3) := by decide +kernel
theorem dX12_token_8 : decode cX12_token 8 = .ok (.iload_n 1, 1) := by decide +kernel
theorem dX12_token_9 : decode cX12_token 9 = .ok (.iastore, 1) := by decide +kernel
theorem dX12_token_10 : decode cX12_token 10 = .ok (.aload_n 0, 1) := by decide +kernel
theorem dX12_token_11 : decode cX12_token 11 = .ok (.getfield 24, 3) := by decide +kernel
theorem dX12_token_14 : decode cX12_token 14 = .ok (.aload_n 0, 1) := by decide +kernel
theorem dX12_token_15 : decode cX12_token 15 = .ok (.getfield 220, 3) := by decide +kernel
theorem dX12_token_18 : decode cX12_token 18 = .ok (.iload_n 2, 1) := by decide +kernel
theorem dX12_token_19 : decode cX12_token 19 = .ok (.iastore, 1) := by decide +kernel
theorem dX12_token_20 : decode cX12_token 20 = .ok (.aload_n 0, 1) := by decide +kernel
theorem dX12_token_21 : decode cX12_token 21 = .ok (.getfield 27, 3) := by decide +kernel
theorem dX12_token_24 : decode cX12_token 24 = .ok (.aload_n 0, 1) := by decide +kernel
theorem dX12_token_25 : decode cX12_token 25 = .ok (.getfield 220, 3) := by decide +kernel
theorem dX12_token_28 : decode cX12_token 28 = .ok (.iload_n 3, 1) := by decide +kernel
theorem dX12_token_29 : decode cX12_token 29 = .ok (.iastore, 1) := by decide +kernel
theorem dX12_token_30 : decode cX12_token 30 = .ok (.aload_n 0, 1) := by decide +kernel
theorem dX12_token_31 : decode cX12_token 31 = .ok (.getfield 30, 3) := by decide +kernel
theorem dX12_token_34 : decode cX12_token 34 = .ok (.aload_n 0, 1) := by decide +kernel
theorem dX12_token_35 : decode cX12_token 35 = .ok (.getfield 220, 3) := by decide +kernel
theorem dX12_token_38 : decode cX12_token 38 = .ok (.lload 4, 2) := by decide +kernel
theorem dX12_token_40 : decode cX12_token 40 = .ok (.lastore, 1) := by decide +kernel
theorem dX12_token_41 : decode cX12_token 41 = .ok (.aload_n 0, 1) := by decide +kernel
theorem dX12_token_42 : decode cX12_token 42 = .ok (.dup, 1) := by decide +kernel
theorem dX12_token_43 : decode cX12_token 43 = .ok (.getfield 220, 3) := by decide +kernel
theorem dX12_token_46 : decode cX12_token 46 = .ok (.iconst 1, 1) := by decide +kernel
theorem dX12_token_47 : decode cX12_token 47 = .ok (.iadd, 1) := by decide +kernel
theorem dX12_token_48 : decode cX12_token 48 = .ok (.putfield 220, 3) := by decide +kernel
theorem dX12_token_51 : decode cX12_token 51 = .ok (.return_, 1) := by decide +kernel
theorem dX12_cut_0 : decode cX12_cut 0 = .ok (.aload_n 0, 1) := by decide +kernel
theorem dX12_cut_1 : decode cX12_cut 1 = .ok (.iconst 0, 1) := by decide +kernel
theorem dX12_cut_2 : decode cX12_cut 2 = .ok (.putfield 220, 3) := by decide +kernel
theorem dX12_cut_5 : decode cX12_cut 5 = .ok (.iconst 0, 1) := by decide +kernel
theorem dX12_cut_6 : decode cX12_cut 6 = .ok (.istore_n 1, 1) := by decide +kernel
theorem dX12_cut_7 : decode cX12_cut 7 = .ok (.aload_n 0, 1) := by decide +kernel
theorem dX12_cut_8 : decode cX12_cut 8 = .ok (.getfield 220, 3) := by decide +kernel
theorem dX12_cut_11 : decode cX12_cut 11 = .ok (.sipush 400, 3) := by decide +kernel
theorem dX12_cut_14 : decode cX12_cut 14 = .ok (.if_icmp .gt 280, 3) := by decide +kernel
theorem dX12_cut_17 : decode cX12_cut 17 = .ok (.aload_n 0, 1) := by decide +kernel
theorem dX12_cut_18 : decode cX12_cut 18 = .ok (.iload_n 1, 1) := by decide +kernel
theorem dX12_cut_19 : decode cX12_cut 19 = .ok (.invokevirtual 223, 3) := by decide +kernel
theorem dX12_cut_22 : decode cX12_cut 22 = .ok (.istore_n 2, 1) := by decide +kernel
theorem dX12_cut_23 : decode cX12_cut 23 = .ok (.iload_n 1, 1) := by decide +kernel
theorem dX12_cut_24 : decode cX12_cut 24 = .ok (.aload_n 0, 1) := by decide +kernel
theorem dX12_cut_25 : decode cX12_cut 25 = .ok (.getfield 211, 3) := by decide +kernel
theorem dX12_cut_28 : decode cX12_cut 28 = .ok (.if_icmp .lt 15, 3) := by decide +kernel
theorem dX12_cut_31 : decode cX12_cut 31 = .ok (.aload_n 0, 1) := by decide +kernel
theorem dX12_cut_32 : decode cX12_cut 32 = .ok (.iconst 0, 1) := by decide +kernel
theorem dX12_cut_33 : decode cX12_cut 33 = .ok (.aload_n 0, 1) := by decide +kernel
theorem dX12_cut_34 : decode cX12_cut 34 = .ok (.getfield 211, 3) := by decide +kernel
theorem dX12_cut_37 : decode cX12_cut 37 = .ok (.iconst 0, 1) := by decide +kernel
theorem dX12_cut_38 : decode cX12_cut 38 = .ok (.lconst 0, 1) := by decide +kernel
theorem dX12_cut_39 : decode cX12_cut 39 = .ok (.invokevirtual 227, 3) := by decide +kernel
theorem dX12_cut_42 : decode cX12_cut 42 = .ok (.return_, 1) := by decide +kernel
theorem dX12_cut_43 : decode cX12_cut 43 = .ok (.iload_n 2, 1) := by decide +kernel
theorem dX12_cut_44 : decode cX12_cut 44 = .ok (.bipush 9, 2) := by decide +kernel
theorem dX12_cut_46 : decode cX12_cut 46 = .ok (.if_icmp .eq 21, 3) := by decide +kernel
theorem dX12_cut_49 : decode cX12_cut 49 = .ok (.iload_n 2, 1) := by decide +kernel
theorem dX12_cut_50 : decode cX12_cut 50 = .ok (.bipush 10, 2) := by decide +kernel
theorem dX12_cut_52 : decode cX12_cut 52 = .ok (.if_icmp .eq 15, 3) := by decide +kernel
theorem dX12_cut_55 : decode cX12_cut 55 = .ok (.iload_n 2, 1) := by decide +kernel
theorem dX12_cut_56 : decode cX12_cut 56 = .ok (.bipush 13, 2) := by decide +kernel
theorem dX12_cut_58 : decode cX12_cut 58 = .ok (.if_icmp .eq 9, 3) := by decide +kernel
theorem dX12_cut_61 : decode cX12_cut 61 = .ok (.iload_n 2, 1) := by decide +kernel
theorem dX12_cut_62 : decode cX12_cut 62 = .ok (.bipush 32, 2) := by decide +kernel
theorem dX12_cut_64 : decode cX12_cut 64 = .ok (.if_icmp .ne 9, 3) := by decide +kernel
theorem dX12_cut_67 : decode cX12_cut 67 = .ok (.iinc 1 1, 3) := by decide +kernel
theorem dX12_cut_70 : decode cX12_cut 70 = .ok (.goto 221, 3) := by decide +kernel
theorem dX12_cut_73 : decode cX12_cut 73 = .ok (.iload_n 2, 1) := by decide +kernel
theorem dX12_cut_74 : decode cX12_cut 74 = .ok (.invokestatic 231, 3) := by decide +kernel
theorem dX12_cut_77 : decode cX12_cut 77 = .ok (.ifCond .eq 119, 3) := by decide +kernel
theorem dX12_cut_80 : decode cX12_cut 80 = .ok (.iconst 0, 1) := by decide +kernel
theorem dX12_cut_81 : decode cX12_cut 81 = .ok (.istore_n 3, 1) := by decide +kernel
theorem dX12_cut_82 : decode cX12_cut 82 = .ok (.lconst 0, 1) := by decide +kernel
theorem dX12_cut_83 : decode cX12_cut 83 = .ok (.lstore 4, 2) := by decide +kernel
theorem dX12_cut_85 : decode cX12_cut 85 = .ok (.aload_n 0, 1) := by decide +kernel
theorem dX12_cut_86 : decode cX12_cut 86 = .ok (.iload_n 1, 1) := by decide +kernel
theorem dX12_cut_87 : decode cX12_cut 87 = .ok (.iload_n 3, 1) := by decide +kernel
theorem dX12_cut_88 : decode cX12_cut 88 = .ok (.iadd, 1) := by decide +kernel
theorem dX12_cut_89 : decode cX12_cut 89 = .ok (.invokevirtual 223, 3) := by decide +kernel
theorem dX12_cut_92 : decode cX12_cut 92 = .ok (.invokestatic 231, 3) := by decide +kernel
theorem dX12_cut_95 : decode cX12_cut 95 = .ok (.ifCond .eq 29, 3) := by decide +kernel
theorem dX12_cut_98 : decode cX12_cut 98 = .ok (.iload_n 3, 1) := by decide +kernel
theorem dX12_cut_99 : decode cX12_cut 99 = .ok (.bipush 8, 2) := by decide +kernel
theorem dX12_cut_101 : decode cX12_cut 101 = .ok (.if_icmp .ge 17, 3) := by decide +kernel
theorem dX12_cut_104 : decode cX12_cut 104 = .ok (.lload 4, 2) := by decide +kernel
theorem dX12_cut_106 : decode cX12_cut 106 = .ok (.aload_n 0, 1) := by decide +kernel
theorem dX12_cut_107 : decode cX12_cut 107 = .ok (.iload_n 1, 1) := by decide +kernel
theorem dX12_cut_108 : decode cX12_cut 108 = .ok (.iload_n 3, 1) := by decide +kernel
theorem dX12_cut_109 : decode cX12_cut 109 = .ok (.iadd, 1) := by decide +kernel
theorem dX12_cut_110 : decode cX12_cut 110 = .ok (.invokevirtual 223, 3) := by decide +kernel
theorem dX12_cut_113 : decode cX12_cut 113 = .ok (.invokestatic 216, 3) := by decide +kernel
theorem dX12_cut_116 : decode cX12_cut 116 = .ok (.lstore 4, 2) := by decide +kernel
theorem dX12_cut_118 : decode cX12_cut 118 = .ok (.iinc 3 1, 3) := by decide +kernel
theorem dX12_cut_121 : decode cX12_cut 121 = .ok (.goto (-36), 3) := by decide +kernel
theorem dX12_cut_124 : decode cX12_cut 124 = .ok (.iload_n 3, 1) := by decide +kernel
theorem dX12_cut_125 : decode cX12_cut 125 = .ok (.bipush 8, 2) := by decide +kernel
theorem dX12_cut_127 : decode cX12_cut 127 = .ok (.if_icmp .le 7, 3) := by decide +kernel
theorem dX12_cut_130 : decode cX12_cut 130 = .ok (.iconst 3, 1) := by decide +kernel
theorem dX12_cut_131 : decode cX12_cut 131 = .ok (.goto 4, 3) := by decide +kernel
theorem dX12_cut_134 : decode cX12_cut 134 = .ok (.iconst 1, 1) := by decide +kernel
theorem dX12_cut_135 : decode cX12_cut 135 = .ok (.istore 6, 2) := by decide +kernel
theorem dX12_cut_137 : decode cX12_cut 137 = .ok (.iload_n 3, 1) := by decide +kernel
theorem dX12_cut_138 : decode cX12_cut 138 = .ok (.bipush 7, 2) := by decide +kernel
theorem dX12_cut_140 : decode cX12_cut 140 = .ok (.if_icmp .gt 39, 3) := by decide +kernel
theorem dX12_cut_143 : decode cX12_cut 143 = .ok (.iconst 0, 1) := by decide +kernel
theorem dX12_cut_144 : decode cX12_cut 144 = .ok (.istore 7, 2) := by decide +kernel
theorem dX12_cut_146 : decode cX12_cut 146 = .ok (.iload 7, 2) := by decide +kernel
theorem dX12_cut_148 : decode cX12_cut 148 = .ok (.bipush 15, 2) := by decide +kernel
theorem dX12_cut_150 : decode cX12_cut 150 = .ok (.if_icmp .ge 29, 3) := by decide +kernel
theorem dX12_cut_153 : decode cX12_cut 153 = .ok (.aload_n 0, 1) := by decide +kernel
theorem dX12_cut_154 : decode cX12_cut 154 = .ok (.getfield 34, 3) := by decide +kernel
theorem dX12_cut_157 : decode cX12_cut 157 = .ok (.iload 7, 2) := by decide +kernel
theorem dX12_cut_159 : decode cX12_cut 159 = .ok (.laload, 1) := by decide +kernel
theorem dX12_cut_160 : decode cX12_cut 160 = .ok (.lload 4, 2) := by decide +kernel
theorem dX12_cut_162 : decode cX12_cut 162 = .ok (.lcmp, 1) := by decide +kernel
theorem dX12_cut_163 : decode cX12_cut 163 = .ok (.ifCond .ne 10, 3) := by decide +kernel
theorem dX12_cut_166 : decode cX12_cut 166 = .ok (.bipush 20, 2) := by decide +kernel
theorem dX12_cut_168 : decode cX12_cut 168 = .ok (.iload 7, 2) := by decide +kernel
theorem dX12_cut_170 : decode cX12_cut 170 = .ok (.iadd, 1) := by decide +kernel
theorem dX12_cut_171 : decode cX12_cut 171 = .ok (.istore 6, 2) := by decide +kernel
theorem dX12_cut_173 : decode cX12_cut 173 = .ok (.iinc 7 1, 3) := by decide +kernel
theorem dX12_cut_176 : decode cX12_cut 176 = .ok (.goto (-30), 3) := by decide +kernel
theorem dX12_cut_179 : decode cX12_cut 179 = .ok (.aload_n 0, 1) := by decide +kernel
theorem dX12_cut_180 : decode cX12_cut 180 = .ok (.iload 6, 2) := by decide +kernel
theorem dX12_cut_182 : decode cX12_cut 182 = .ok (.iload_n 1, 1) := by decide +kernel
theorem dX12_cut_183 : decode cX12_cut 183 = .ok (.iconst 0, 1) := by decide +kernel
theorem dX12_cut_184 : decode cX12_cut 184 = .ok (.lload 4, 2) := by decide +kernel
theorem dX12_cut_186 : decode cX12_cut 186 = .ok (.invokevirtual 227, 3) := by decide +kernel
theorem dX12_cut_189 : decode cX12_cut 189 = .ok (.iload_n 1, 1) := by decide +kernel
theorem dX12_cut_190 : decode cX12_cut 190 = .ok (.iload_n 3, 1) := by decide +kernel
theorem dX12_cut_191 : decode cX12_cut 191 = .ok (.iadd, 1) := by decide +kernel
theorem dX12_cut_192 : decode cX12_cut 192 = .ok (.istore_n 1, 1) := by decide +kernel
theorem dX12_cut_193 : decode cX12_cut 193 = .ok (.goto 98, 3) := by decide +kernel
theorem dX12_cut_196 : decode cX12_cut 196 = .ok (.iload_n 2, 1) := by decide +kernel
theorem dX12_cut_197 : decode cX12_cut 197 = .ok (.invokestatic 235, 3) := by decide +kernel
theorem dX12_cut_200 : decode cX12_cut 200 = .ok (.ifCond .eq 75, 3) := by decide +kernel
theorem dX12_cut_203 : decode cX12_cut 203 = .ok (.iconst 0, 1) := by decide +kernel
theorem dX12_cut_204 : decode cX12_cut 204 = .ok (.istore_n 3, 1) := by decide +kernel
theorem dX12_cut_205 : decode cX12_cut 205 = .ok (.iconst 0, 1) := by decide +kernel
theorem dX12_cut_206 : decode cX12_cut 206 = .ok (.istore 4, 2) := by decide +kernel
theorem dX12_cut_208 : decode cX12_cut 208 = .ok (.aload_n 0, 1) := by decide +kernel
theorem dX12_cut_209 : decode cX12_cut 209 = .ok (.iload_n 1, 1) := by decide +kernel
theorem dX12_cut_210 : decode cX12_cut 210 = .ok (.iload_n 3, 1) := by decide +kernel
theorem dX12_cut_211 : decode cX12_cut 211 = .ok (.iadd, 1) := by decide +kernel
theorem dX12_cut_212 : decode cX12_cut 212 = .ok (.invokevirtual 223, 3) := by decide +kernel
theorem dX12_cut_215 : decode cX12_cut 215 = .ok (.invokestatic 235, 3) := by decide +kernel
theorem dX12_cut_218 : decode cX12_cut 218 = .ok (.ifCond .eq 32, 3) := by decide +kernel
theorem dX12_cut_221 : decode cX12_cut 221 = .ok (.iload_n 3, 1) := by decide +kernel
theorem dX12_cut_222 : decode cX12_cut 222 = .ok (.iconst 4, 1) := by decide +kernel
theorem dX12_cut_223 : decode cX12_cut 223 = .ok (.if_icmp .ge 21, 3) := by decide +kernel
theorem dX12_cut_226 : decode cX12_cut 226 = .ok (.bipush 10, 2) := by decide +kernel
theorem dX12_cut_228 : decode cX12_cut 228 = .ok (.iload 4, 2) := by decide +kernel
theorem dX12_cut_230 : decode cX12_cut 230 = .ok (.imul, 1) := by decide +kernel
theorem dX12_cut_231 : decode cX12_cut 231 = .ok (.aload_n 0, 1) := by decide +kernel
theorem dX12_cut_232 : decode cX12_cut 232 = .ok (.iload_n 1, 1) := by decide +kernel
theorem dX12_cut_233 : decode cX12_cut 233 = .ok (.iload_n 3, 1) := by decide +kernel
theorem dX12_cut_234 : decode cX12_cut 234 = .ok (.iadd, 1) := by decide +kernel
theorem dX12_cut_235 : decode cX12_cut 235 = .ok (.invokevirtual 223, 3) := by decide +kernel
theorem dX12_cut_238 : decode cX12_cut 238 = .ok (.iadd, 1) := by decide +kernel
theorem dX12_cut_239 : decode cX12_cut 239 = .ok (.bipush 48, 2) := by decide +kernel
theorem dX12_cut_241 : decode cX12_cut 241 = .ok (.isub, 1) := by decide +kernel
theorem dX12_cut_242 : decode cX12_cut 242 = .ok (.istore 4, 2) := by decide +kernel
theorem dX12_cut_244 : decode cX12_cut 244 = .ok (.iinc 3 1, 3) := by decide +kernel
theorem dX12_cut_247 : decode cX12_cut 247 = .ok (.goto (-39), 3) := by decide +kernel
theorem dX12_cut_250 : decode cX12_cut 250 = .ok (.aload_n 0, 1) := by decide +kernel
theorem dX12_cut_251 : decode cX12_cut 251 = .ok (.iload_n 3, 1) := by decide +kernel
theorem dX12_cut_252 : decode cX12_cut 252 = .ok (.iconst 4, 1) := by decide +kernel
theorem dX12_cut_253 : decode cX12_cut 253 = .ok (.if_icmp .le 7, 3) := by decide +kernel
theorem dX12_cut_256 : decode cX12_cut 256 = .ok (.iconst 3, 1) := by decide +kernel
theorem dX12_cut_257 : decode cX12_cut 257 = .ok (.goto 4, 3) := by decide +kernel
theorem dX12_cut_260 : decode cX12_cut 260 = .ok (.iconst 2, 1) := by decide +kernel
theorem dX12_cut_261 : decode cX12_cut 261 = .ok (.iload_n 1, 1) := by decide +kernel
theorem dX12_cut_262 : decode cX12_cut 262 = .ok (.iload 4, 2) := by decide +kernel
theorem dX12_cut_264 : decode cX12_cut 264 = .ok (.lconst 0, 1) := by decide +kernel
theorem dX12_cut_265 : decode cX12_cut 265 = .ok (.invokevirtual 227, 3) := by decide +kernel
theorem dX12_cut_268 : decode cX12_cut 268 = .ok (.iload_n 1, 1) := by decide +kernel
theorem dX12_cut_269 : decode cX12_cut 269 = .ok (.iload_n 3, 1) := by decide +kernel
theorem dX12_cut_270 : decode cX12_cut 270 = .ok (.iadd, 1) := by decide +kernel
theorem dX12_cut_271 : decode cX12_cut 271 = .ok (.istore_n 1, 1) := by decide +kernel
theorem dX12_cut_272 : decode cX12_cut 272 = .ok (.goto 19, 3) := by decide +kernel
theorem dX12_cut_275 : decode cX12_cut 275 = .ok (.iload_n 1, 1) := by decide +kernel
theorem dX12_cut_276 : decode cX12_cut 276 = .ok (.aload_n 0, 1) := by decide +kernel
theorem dX12_cut_277 : decode cX12_cut 277 = .ok (.iload_n 1, 1) := by decide +kernel
theorem dX12_cut_278 : decode cX12_cut 278 = .ok (.iload_n 2, 1) := by decide +kernel
theorem dX12_cut_279 : decode cX12_cut 279 = .ok (.aload_n 0, 1) := by decide +kernel
theorem dX12_cut_280 : decode cX12_cut 280 = .ok (.iload_n 1, 1) := by decide +kernel
theorem dX12_cut_281 : decode cX12_cut 281 = .ok (.iconst 1, 1) := by decide +kernel
theorem dX12_cut_282 : decode cX12_cut 282 = .ok (.iadd, 1) := by decide +kernel
theorem dX12_cut_283 : decode cX12_cut 283 = .ok (.invokevirtual 223, 3) := by decide +kernel
theorem dX12_cut_286 : decode cX12_cut 286 = .ok (.invokevirtual 238, 3) := by decide +kernel
theorem dX12_cut_289 : decode cX12_cut 289 = .ok (.iadd, 1) := by decide +kernel
theorem dX12_cut_290 : decode cX12_cut 290 = .ok (.istore_n 1, 1) := by decide +kernel
theorem dX12_cut_291 : decode cX12_cut 291 = .ok (.goto (-284), 3) := by decide +kernel
theorem dX12_cut_294 : decode cX12_cut 294 = .ok (.return_, 1) := by decide +kernel
theorem dX12_sign_0 : decode cX12_sign 0 = .ok (.iload_n 3, 1) := by decide +kernel
theorem dX12_sign_1 : decode cX12_sign 1 = .ok (.bipush 61, 2) := by decide +kernel
theorem dX12_sign_3 : decode cX12_sign 3 = .ok (.if_icmp .eq 7, 3) := by decide +kernel
theorem dX12_sign_6 : decode cX12_sign 6 = .ok (.iconst 0, 1) := by decide +kernel
theorem dX12_sign_7 : decode cX12_sign 7 = .ok (.goto 37, 3) := by decide +kernel
theorem dX12_sign_10 : decode cX12_sign 10 = .ok (.iload_n 2, 1) := by decide +kernel
theorem dX12_sign_11 : decode cX12_sign 11 = .ok (.bipush 61, 2) := by decide +kernel
theorem dX12_sign_13 : decode cX12_sign 13 = .ok (.if_icmp .ne 8, 3) := by decide +kernel
theorem dX12_sign_16 : decode cX12_sign 16 = .ok (.bipush 11, 2) := by decide +kernel
theorem dX12_sign_18 : decode cX12_sign 18 = .ok (.goto 26, 3) := by decide +kernel
theorem dX12_sign_21 : decode cX12_sign 21 = .ok (.iload_n 2, 1) := by decide +kernel
theorem dX12_sign_22 : decode cX12_sign 22 = .ok (.bipush 33, 2) := by decide +kernel
theorem dX12_sign_24 : decode cX12_sign 24 = .ok (.if_icmp .ne 8, 3) := by decide +kernel
theorem dX12_sign_27 : decode cX12_sign 27 = .ok (.bipush 12, 2) := by decide +kernel
theorem dX12_sign_29 : decode cX12_sign 29 = .ok (.goto 15, 3) := by decide +kernel
theorem dX12_sign_32 : decode cX12_sign 32 = .ok (.iload_n 2, 1) := by decide +kernel
theorem dX12_sign_33 : decode cX12_sign 33 = .ok (.bipush 60, 2) := by decide +kernel
theorem dX12_sign_35 : decode cX12_sign 35 = .ok (.if_icmp .ne 8, 3) := by decide +kernel
theorem dX12_sign_38 : decode cX12_sign 38 = .ok (.bipush 14, 2) := by decide +kernel
theorem dX12_sign_40 : decode cX12_sign 40 = .ok (.goto 4, 3) := by decide +kernel
theorem dX12_sign_43 : decode cX12_sign 43 = .ok (.iconst 0, 1) := by decide +kernel
theorem dX12_sign_44 : decode cX12_sign 44 = .ok (.istore 4, 2) := by decide +kernel
theorem dX12_sign_46 : decode cX12_sign 46 = .ok (.iconst 3, 1) := by decide +kernel
theorem dX12_sign_47 : decode cX12_sign 47 = .ok (.istore 5, 2) := by decide +kernel
theorem dX12_sign_49 : decode cX12_sign 49 = .ok (.iload 4, 2) := by decide +kernel
theorem dX12_sign_51 : decode cX12_sign 51 = .ok (.ifCond .le 10, 3) := by decide +kernel
theorem dX12_sign_54 : decode cX12_sign 54 = .ok (.iload 4, 2) := by decide +kernel
theorem dX12_sign_56 : decode cX12_sign 56 = .ok (.istore 5, 2) := by decide +kernel
theorem dX12_sign_58 : decode cX12_sign 58 = .ok (.goto 90, 3) := by decide +kernel
theorem dX12_sign_61 : decode cX12_sign 61 = .ok (.iload_n 2, 1) := by decide +kernel
theorem dX12_sign_62 : decode cX12_sign 62 = .ok (.bipush 59, 2) := by decide +kernel
theorem dX12_sign_64 : decode cX12_sign 64 = .ok (.if_icmp .ne 9, 3) := by decide +kernel
theorem dX12_sign_67 : decode cX12_sign 67 = .ok (.iconst 4, 1) := by decide +kernel
theorem dX12_sign_68 : decode cX12_sign 68 = .ok (.istore 5, 2) := by decide +kernel
theorem dX12_sign_70 : decode cX12_sign 70 = .ok (.goto 78, 3) := by decide +kernel
theorem dX12_sign_73 : decode cX12_sign 73 = .ok (.iload_n 2, 1) := by decide +kernel
theorem dX12_sign_74 : decode cX12_sign 74 = .ok (.bipush 40, 2) := by decide +kernel
theorem dX12_sign_76 : decode cX12_sign 76 = .ok (.if_icmp .ne 10, 3) := by decide +kernel
theorem dX12_sign_79 : decode cX12_sign 79 = .ok (.bipush 6, 2) := by decide +kernel
theorem dX12_sign_81 : decode cX12_sign 81 = .ok (.istore 5, 2) := by decide +kernel
theorem dX12_sign_83 : decode cX12_sign 83 = .ok (.goto 65, 3) := by decide +kernel
theorem dX12_sign_86 : decode cX12_sign 86 = .ok (.iload_n 2, 1) := by decide +kernel
theorem dX12_sign_87 : decode cX12_sign 87 = .ok (.bipush 41, 2) := by decide +kernel
theorem dX12_sign_89 : decode cX12_sign 89 = .ok (.if_icmp .ne 10, 3) := by decide +kernel
theorem dX12_sign_92 : decode cX12_sign 92 = .ok (.bipush 7, 2) := by decide +kernel
theorem dX12_sign_94 : decode cX12_sign 94 = .ok (.istore 5, 2) := by decide +kernel
theorem dX12_sign_96 : decode cX12_sign 96 = .ok (.goto 52, 3) := by decide +kernel
theorem dX12_sign_99 : decode cX12_sign 99 = .ok (.iload_n 2, 1) := by decide +kernel
theorem dX12_sign_100 : decode cX12_sign 100 = .ok (.bipush 43, 2) := by decide +kernel
theorem dX12_sign_102 : decode cX12_sign 102 = .ok (.if_icmp .ne 10, 3) := by decide +kernel
theorem dX12_sign_105 : decode cX12_sign 105 = .ok (.bipush 8, 2) := by decide +kernel
theorem dX12_sign_107 : decode cX12_sign 107 = .ok (.istore 5, 2) := by decide +kernel
theorem dX12_sign_109 : decode cX12_sign 109 = .ok (.goto 39, 3) := by decide +kernel
theorem dX12_sign_112 : decode cX12_sign 112 = .ok (.iload_n 2, 1) := by decide +kernel
theorem dX12_sign_113 : decode cX12_sign 113 = .ok (.bipush 45, 2) := by decide +kernel
theorem dX12_sign_115 : decode cX12_sign 115 = .ok (.if_icmp .ne 10, 3) := by decide +kernel
theorem dX12_sign_118 : decode cX12_sign 118 = .ok (.bipush 9, 2) := by decide +kernel
theorem dX12_sign_120 : decode cX12_sign 120 = .ok (.istore 5, 2) := by decide +kernel
theorem dX12_sign_122 : decode cX12_sign 122 = .ok (.goto 26, 3) := by decide +kernel
theorem dX12_sign_125 : decode cX12_sign 125 = .ok (.iload_n 2, 1) := by decide +kernel
theorem dX12_sign_126 : decode cX12_sign 126 = .ok (.bipush 42, 2) := by decide +kernel
theorem dX12_sign_128 : decode cX12_sign 128 = .ok (.if_icmp .ne 10, 3) := by decide +kernel
theorem dX12_sign_131 : decode cX12_sign 131 = .ok (.bipush 10, 2) := by decide +kernel
theorem dX12_sign_133 : decode cX12_sign 133 = .ok (.istore 5, 2) := by decide +kernel
theorem dX12_sign_135 : decode cX12_sign 135 = .ok (.goto 13, 3) := by decide +kernel
theorem dX12_sign_138 : decode cX12_sign 138 = .ok (.iload_n 2, 1) := by decide +kernel
theorem dX12_sign_139 : decode cX12_sign 139 = .ok (.bipush 60, 2) := by decide +kernel
theorem dX12_sign_141 : decode cX12_sign 141 = .ok (.if_icmp .ne 7, 3) := by decide +kernel
theorem dX12_sign_144 : decode cX12_sign 144 = .ok (.bipush 13, 2) := by decide +kernel
theorem dX12_sign_146 : decode cX12_sign 146 = .ok (.istore 5, 2) := by decide +kernel
theorem dX12_sign_148 : decode cX12_sign 148 = .ok (.aload_n 0, 1) := by decide +kernel
theorem dX12_sign_149 : decode cX12_sign 149 = .ok (.iload 5, 2) := by decide +kernel
theorem dX12_sign_151 : decode cX12_sign 151 = .ok (.iload_n 1, 1) := by decide +kernel
theorem dX12_sign_152 : decode cX12_sign 152 = .ok (.iconst 0, 1) := by decide +kernel
theorem dX12_sign_153 : decode cX12_sign 153 = .ok (.lconst 0, 1) := by decide +kernel
theorem dX12_sign_154 : decode cX12_sign 154 = .ok (.invokevirtual 227, 3) := by decide +kernel
theorem dX12_sign_157 : decode cX12_sign 157 = .ok (.iload 4, 2) := by decide +kernel
theorem dX12_sign_159 : decode cX12_sign 159 = .ok (.ifCond .le 7, 3) := by decide +kernel
theorem dX12_sign_162 : decode cX12_sign 162 = .ok (.iconst 2, 1) := by decide +kernel
theorem dX12_sign_163 : decode cX12_sign 163 = .ok (.goto 4, 3) := by decide +kernel
theorem dX12_sign_166 : decode cX12_sign 166 = .ok (.iconst 1, 1) := by decide +kernel
theorem dX12_sign_167 : decode cX12_sign 167 = .ok (.ireturn, 1) := by decide +kernel
theorem dX12_is_0 : decode cX12_is 0 = .ok (.aload_n 0, 1) := by decide +kernel
theorem dX12_is_1 : decode cX12_is 1 = .ok (.getfield 242, 3) := by decide +kernel
theorem dX12_is_4 : decode cX12_is 4 = .ok (.ifCond .ne 20, 3) := by decide +kernel
theorem dX12_is_7 : decode cX12_is 7 = .ok (.aload_n 0, 1) := by decide +kernel
theorem dX12_is_8 : decode cX12_is 8 = .ok (.getfield 20, 3) := by decide +kernel
theorem dX12_is_11 : decode cX12_is 11 = .ok (.aload_n 0, 1) := by decide +kernel
theorem dX12_is_12 : decode cX12_is 12 = .ok (.getfield 245, 3) := by decide +kernel
theorem dX12_is_15 : decode cX12_is 15 = .ok (.iaload, 1) := by decide +kernel
theorem dX12_is_16 : decode cX12_is 16 = .ok (.iload_n 1, 1) := by decide +kernel
theorem dX12_is_17 : decode cX12_is 17 = .ok (.if_icmp .ne 7, 3) := by decide +kernel
theorem dX12_is_20 : decode cX12_is 20 = .ok (.iconst 1, 1) := by decide +kernel
theorem dX12_is_21 : decode cX12_is 21 = .ok (.goto 4, 3) := by decide +kernel
theorem dX12_is_24 : decode cX12_is 24 = .ok (.iconst 0, 1) := by decide +kernel
theorem dX12_is_25 : decode cX12_is 25 = .ok (.ireturn, 1) := by decide +kernel
theorem dX12_fail_0 : decode cX12_fail 0 = .ok (.aload_n 0, 1) := by decide +kernel
theorem dX12_fail_1 : decode cX12_fail 1 = .ok (.getfield 242, 3) := by decide +kernel
theorem dX12_fail_4 : decode cX12_fail 4 = .ok (.ifCond .le 4, 3) := by decide +kernel
theorem dX12_fail_7 : decode cX12_fail 7 = .ok (.return_, 1) := by decide +kernel
theorem dX12_fail_8 : decode cX12_fail 8 = .ok (.aload_n 0, 1) := by decide +kernel
theorem dX12_fail_9 : decode cX12_fail 9 = .ok (.iload_n 1, 1) := by decide +kernel
theorem dX12_fail_10 : decode cX12_fail 10 = .ok (.putfield 242, 3) := by decide +kernel
theorem dX12_fail_13 : decode cX12_fail 13 = .ok (.aload_n 0, 1) := by decide +kernel
theorem dX12_fail_14 : decode cX12_fail 14 = .ok (.aload_n 0, 1) := by decide +kernel
theorem dX12_fail_15 : decode cX12_fail 15 = .ok (.getfield 24, 3) := by decide +kernel
theorem dX12_fail_18 : decode cX12_fail 18 = .ok (.aload_n 0, 1) := by decide +kernel
theorem dX12_fail_19 : decode cX12_fail 19 = .ok (.getfield 245, 3) := by decide +kernel
theorem dX12_fail_22 : decode cX12_fail 22 = .ok (.iaload, 1) := by decide +kernel
theorem dX12_fail_23 : decode cX12_fail 23 = .ok (.putfield 248, 3) := by decide +kernel
theorem dX12_fail_26 : decode cX12_fail 26 = .ok (.return_, 1) := by decide +kernel
theorem dX12_next_0 : decode cX12_next 0 = .ok (.aload_n 0, 1) := by decide +kernel
theorem dX12_next_1 : decode cX12_next 1 = .ok (.getfield 245, 3) := by decide +kernel
theorem dX12_next_4 : decode cX12_next 4 = .ok (.sipush 400, 3) := by decide +kernel
theorem dX12_next_7 : decode cX12_next 7 = .ok (.if_icmp .ne 11, 3) := by decide +kernel
theorem dX12_next_10 : decode cX12_next 10 = .ok (.aload_n 0, 1) := by decide +kernel
theorem dX12_next_11 : decode cX12_next 11 = .ok (.iconst 2, 1) := by decide +kernel
theorem dX12_next_12 : decode cX12_next 12 = .ok (.invokevirtual 257, 3) := by decide +kernel
theorem dX12_next_15 : decode cX12_next 15 = .ok (.goto 13, 3) := by decide +kernel
theorem dX12_next_18 : decode cX12_next 18 = .ok (.aload_n 0, 1) := by decide +kernel
theorem dX12_next_19 : decode cX12_next 19 = .ok (.dup, 1) := by decide +kernel
theorem dX12_next_20 : decode cX12_next 20 = .ok (.getfield 245, 3) := by decide +kernel
theorem dX12_next_23 : decode cX12_next 23 = .ok (.iconst 1, 1) := by decide +kernel
theorem dX12_next_24 : decode cX12_next 24 = .ok (.iadd, 1) := by decide +kernel
theorem dX12_next_25 : decode cX12_next 25 = .ok (.putfield 245, 3) := by decide +kernel
theorem dX12_next_28 : decode cX12_next 28 = .ok (.return_, 1) := by decide +kernel
theorem dX12_must_0 : decode cX12_must 0 = .ok (.aload_n 0, 1) := by decide +kernel
theorem dX12_must_1 : decode cX12_must 1 = .ok (.iload_n 1, 1) := by decide +kernel
theorem dX12_must_2 : decode cX12_must 2 = .ok (.invokevirtual 260, 3) := by decide +kernel
theorem dX12_must_5 : decode cX12_must 5 = .ok (.ifCond .eq 10, 3) := by decide +kernel
theorem dX12_must_8 : decode cX12_must 8 = .ok (.aload_n 0, 1) := by decide +kernel
theorem dX12_must_9 : decode cX12_must 9 = .ok (.invokevirtual 263, 3) := by decide +kernel
theorem dX12_must_12 : decode cX12_must 12 = .ok (.goto 8, 3) := by decide +kernel
theorem dX12_must_15 : decode cX12_must 15 = .ok (.aload_n 0, 1) := by decide +kernel
theorem dX12_must_16 : decode cX12_must 16 = .ok (.iconst 1, 1) := by decide +kernel
theorem dX12_must_17 : decode cX12_must 17 = .ok (.invokevirtual 257, 3) := by decide +kernel
theorem dX12_must_20 : decode cX12_must 20 = .ok (.return_, 1) := by decide +kernel
theorem dX12_read_0 : decode cX12_read 0 = .ok (.aload_n 0, 1) := by decide +kernel
theorem dX12_read_1 : decode cX12_read 1 = .ok (.aload_n 0, 1) := by decide +kernel
theorem dX12_read_2 : decode cX12_read 2 = .ok (.getfield 204, 3) := by decide +kernel
theorem dX12_read_5 : decode cX12_read 5 = .ok (.putfield 211, 3) := by decide +kernel
theorem dX12_read_8 : decode cX12_read 8 = .ok (.iconst 0, 1) := by decide +kernel
theorem dX12_read_9 : decode cX12_read 9 = .ok (.istore_n 1, 1) := by decide +kernel
theorem dX12_read_10 : decode cX12_read 10 = .ok (.iload_n 1, 1) := by decide +kernel
theorem dX12_read_11 : decode cX12_read 11 = .ok (.aload_n 0, 1) := by decide +kernel
theorem dX12_read_12 : decode cX12_read 12 = .ok (.getfield 211, 3) := by decide +kernel
theorem dX12_read_15 : decode cX12_read 15 = .ok (.if_icmp .ge 21, 3) := by decide +kernel
theorem dX12_read_18 : decode cX12_read 18 = .ok (.aload_n 0, 1) := by decide +kernel
theorem dX12_read_19 : decode cX12_read 19 = .ok (.getfield 17, 3) := by decide +kernel
theorem dX12_read_22 : decode cX12_read 22 = .ok (.iload_n 1, 1) := by decide +kernel
theorem dX12_read_23 : decode cX12_read 23 = .ok (.aload_n 0, 1) := by decide +kernel
theorem dX12_read_24 : decode cX12_read 24 = .ok (.getfield 13, 3) := by decide +kernel
theorem dX12_read_27 : decode cX12_read 27 = .ok (.iload_n 1, 1) := by decide +kernel
theorem dX12_read_28 : decode cX12_read 28 = .ok (.baload, 1) := by decide +kernel
theorem dX12_read_29 : decode cX12_read 29 = .ok (.bastore, 1) := by decide +kernel
theorem dX12_read_30 : decode cX12_read 30 = .ok (.iinc 1 1, 3) := by decide +kernel
theorem dX12_read_33 : decode cX12_read 33 = .ok (.goto (-23), 3) := by decide +kernel
theorem dX12_read_36 : decode cX12_read 36 = .ok (.aload_n 0, 1) := by decide +kernel
theorem dX12_read_37 : decode cX12_read 37 = .ok (.iconst 0, 1) := by decide +kernel
theorem dX12_read_38 : decode cX12_read 38 = .ok (.putfield 204, 3) := by decide +kernel
theorem dX12_read_41 : decode cX12_read 41 = .ok (.aload_n 0, 1) := by decide +kernel
theorem dX12_read_42 : decode cX12_read 42 = .ok (.invokevirtual 266, 3) := by decide +kernel
theorem dX12_read_45 : decode cX12_read 45 = .ok (.aload_n 0, 1) := by decide +kernel
theorem dX12_read_46 : decode cX12_read 46 = .ok (.iconst 0, 1) := by decide +kernel
theorem dX12_read_47 : decode cX12_read 47 = .ok (.putfield 245, 3) := by decide +kernel
theorem dX12_read_50 : decode cX12_read 50 = .ok (.aload_n 0, 1) := by decide +kernel
theorem dX12_read_51 : decode cX12_read 51 = .ok (.iconst 0, 1) := by decide +kernel
theorem dX12_read_52 : decode cX12_read 52 = .ok (.putfield 269, 3) := by decide +kernel
theorem dX12_read_55 : decode cX12_read 55 = .ok (.aload_n 0, 1) := by decide +kernel
theorem dX12_read_56 : decode cX12_read 56 = .ok (.iconst 0, 1) := by decide +kernel
theorem dX12_read_57 : decode cX12_read 57 = .ok (.putfield 242, 3) := by decide +kernel
theorem dX12_read_60 : decode cX12_read 60 = .ok (.aload_n 0, 1) := by decide +kernel
theorem dX12_read_61 : decode cX12_read 61 = .ok (.iconst 0, 1) := by decide +kernel
theorem dX12_read_62 : decode cX12_read 62 = .ok (.putfield 251, 3) := by decide +kernel
theorem dX12_read_65 : decode cX12_read 65 = .ok (.aload_n 0, 1) := by decide +kernel
theorem dX12_read_66 : decode cX12_read 66 = .ok (.iconst 1, 1) := by decide +kernel
theorem dX12_read_67 : decode cX12_read 67 = .ok (.aload_n 0, 1) := by decide +kernel
theorem dX12_read_68 : decode cX12_read 68 = .ok (.getfield 272, 3) := by decide +kernel
theorem dX12_read_71 : decode cX12_read 71 = .ok (.isub, 1) := by decide +kernel
theorem dX12_read_72 : decode cX12_read 72 = .ok (.putfield 275, 3) := by decide +kernel
theorem dX12_read_75 : decode cX12_read 75 = .ok (.aload_n 0, 1) := by decide +kernel
theorem dX12_read_76 : decode cX12_read 76 = .ok (.getfield 40, 3) := by decide +kernel
theorem dX12_read_79 : decode cX12_read 79 = .ok (.aload_n 0, 1) := by decide +kernel
theorem dX12_read_80 : decode cX12_read 80 = .ok (.getfield 275, 3) := by decide +kernel
theorem dX12_read_83 : decode cX12_read 83 = .ok (.iconst 0, 1) := by decide +kernel
theorem dX12_read_84 : decode cX12_read 84 = .ok (.iastore, 1) := by decide +kernel
theorem dX12_read_85 : decode cX12_read 85 = .ok (.aload_n 0, 1) := by decide +kernel
theorem dX12_read_86 : decode cX12_read 86 = .ok (.getfield 58, 3) := by decide +kernel
theorem dX12_read_89 : decode cX12_read 89 = .ok (.aload_n 0, 1) := by decide +kernel
theorem dX12_read_90 : decode cX12_read 90 = .ok (.getfield 275, 3) := by decide +kernel
theorem dX12_read_93 : decode cX12_read 93 = .ok (.iconst 0, 1) := by decide +kernel
theorem dX12_read_94 : decode cX12_read 94 = .ok (.iastore, 1) := by decide +kernel
theorem dX12_read_95 : decode cX12_read 95 = .ok (.aload_n 0, 1) := by decide +kernel
theorem dX12_read_96 : decode cX12_read 96 = .ok (.sipush 500, 3) := by decide +kernel
theorem dX12_read_99 : decode cX12_read 99 = .ok (.aload_n 0, 1) := by decide +kernel
theorem dX12_read_100 : decode cX12_read 100 = .ok (.getfield 275, 3) := by decide +kernel
theorem dX12_read_103 : decode cX12_read 103 = .ok (.imul, 1) := by decide +kernel
theorem dX12_read_104 : decode cX12_read 104 = .ok (.putfield 278, 3) := by decide +kernel
theorem dX12_read_107 : decode cX12_read 107 = .ok (.aload_n 0, 1) := by decide +kernel
theorem dX12_read_108 : decode cX12_read 108 = .ok (.getfield 242, 3) := by decide +kernel
theorem dX12_read_111 : decode cX12_read 111 = .ok (.ifCond .ne 18, 3) := by decide +kernel
theorem dX12_read_114 : decode cX12_read 114 = .ok (.aload_n 0, 1) := by decide +kernel
theorem dX12_read_115 : decode cX12_read 115 = .ok (.iconst 0, 1) := by decide +kernel
theorem dX12_read_116 : decode cX12_read 116 = .ok (.invokevirtual 260, 3) := by decide +kernel
theorem dX12_read_119 : decode cX12_read 119 = .ok (.ifCond .ne 10, 3) := by decide +kernel
theorem dX12_read_122 : decode cX12_read 122 = .ok (.aload_n 0, 1) := by decide +kernel
theorem dX12_read_123 : decode cX12_read 123 = .ok (.invokevirtual 281, 3) := by decide +kernel
theorem dX12_read_126 : decode cX12_read 126 = .ok (.goto (-19), 3) := by decide +kernel
theorem dX12_read_129 : decode cX12_read 129 = .ok (.aload_n 0, 1) := by decide +kernel
theorem dX12_read_130 : decode cX12_read 130 = .ok (.aload_n 0, 1) := by decide +kernel
theorem dX12_read_131 : decode cX12_read 131 = .ok (.getfield 242, 3) := by decide +kernel
theorem dX12_read_134 : decode cX12_read 134 = .ok (.ifCond .le 10, 3) := by decide +kernel
theorem dX12_read_137 : decode cX12_read 137 = .ok (.aload_n 0, 1) := by decide +kernel
theorem dX12_read_138 : decode cX12_read 138 = .ok (.getfield 248, 3) := by decide +kernel
theorem dX12_read_141 : decode cX12_read 141 = .ok (.goto 4, 3) := by decide +kernel
theorem dX12_read_144 : decode cX12_read 144 = .ok (.iconst (-1), 1) := by decide +kernel
theorem dX12_read_145 : decode cX12_read 145 = .ok (.putfield 37, 3) := by decide +kernel
theorem dX12_read_148 : decode cX12_read 148 = .ok (.aload_n 0, 1) := by decide +kernel
theorem dX12_read_149 : decode cX12_read 149 = .ok (.getfield 242, 3) := by decide +kernel
theorem dX12_read_152 : decode cX12_read 152 = .ok (.ifCond .le 8, 3) := by decide +kernel
theorem dX12_read_155 : decode cX12_read 155 = .ok (.aload_n 0, 1) := by decide +kernel
theorem dX12_read_156 : decode cX12_read 156 = .ok (.getfield 242, 3) := by decide +kernel
theorem dX12_read_159 : decode cX12_read 159 = .ok (.ireturn, 1) := by decide +kernel
theorem dX12_read_160 : decode cX12_read 160 = .ok (.aload_n 0, 1) := by decide +kernel
theorem dX12_read_161 : decode cX12_read 161 = .ok (.aload_n 0, 1) := by decide +kernel
theorem dX12_read_162 : decode cX12_read 162 = .ok (.getfield 275, 3) := by decide +kernel
theorem dX12_read_165 : decode cX12_read 165 = .ok (.putfield 272, 3) := by decide +kernel
theorem dX12_read_168 : decode cX12_read 168 = .ok (.iconst 0, 1) := by decide +kernel
theorem dX12_read_169 : decode cX12_read 169 = .ok (.ireturn, 1) := by decide +kernel
theorem dX12_place_0 : decode cX12_place 0 = .ok (.aload_n 0, 1) := by decide +kernel
theorem dX12_place_1 : decode cX12_place 1 = .ok (.getfield 37, 3) := by decide +kernel
theorem dX12_place_4 : decode cX12_place 4 = .ok (.ireturn, 1) := by decide +kernel
theorem dX12_tellRule_0 : decode cX12_tellRule 0 = .ok (.aload_n 0, 1) := by decide +kernel
theorem dX12_tellRule_1 : decode cX12_tellRule 1 = .ok (.bipush 20, 2) := by decide +kernel
theorem dX12_tellRule_3 : decode cX12_tellRule 3 = .ok (.invokevirtual 260, 3) := by decide +kernel
theorem dX12_tellRule_6 : decode cX12_tellRule 6 = .ok (.ifCond .ne 29, 3) := by decide +kernel
theorem dX12_tellRule_9 : decode cX12_tellRule 9 = .ok (.aload_n 0, 1) := by decide +kernel
theorem dX12_tellRule_10 : decode cX12_tellRule 10 = .ok (.bipush 22, 2) := by decide +kernel
theorem dX12_tellRule_12 : decode cX12_tellRule 12 = .ok (.invokevirtual 260, 3) := by decide +kernel
theorem dX12_tellRule_15 : decode cX12_tellRule 15 = .ok (.ifCond .ne 20, 3) := by decide +kernel
theorem dX12_tellRule_18 : decode cX12_tellRule 18 = .ok (.aload_n 0, 1) := by decide +kernel
theorem dX12_tellRule_19 : decode cX12_tellRule 19 = .ok (.bipush 23, 2) := by decide +kernel
theorem dX12_tellRule_21 : decode cX12_tellRule 21 = .ok (.invokevirtual 260, 3) := by decide +kernel
theorem dX12_tellRule_24 : decode cX12_tellRule 24 = .ok (.ifCond .ne 11, 3) := by decide +kernel
theorem dX12_tellRule_27 : decode cX12_tellRule 27 = .ok (.aload_n 0, 1) := by decide +kernel
theorem dX12_tellRule_28 : decode cX12_tellRule 28 = .ok (.iconst 1, 1) := by decide +kernel
theorem dX12_tellRule_29 : decode cX12_tellRule 29 = .ok (.invokevirtual 257, 3) := by decide +kernel
theorem dX12_tellRule_32 : decode cX12_tellRule 32 = .ok (.goto 22, 3) := by decide +kernel
theorem dX12_tellRule_35 : decode cX12_tellRule 35 = .ok (.aload_n 0, 1) := by decide +kernel
theorem dX12_tellRule_36 : decode cX12_tellRule 36 = .ok (.getfield 40, 3) := by decide +kernel
theorem dX12_tellRule_39 : decode cX12_tellRule 39 = .ok (.aload_n 0, 1) := by decide +kernel
theorem dX12_tellRule_40 : decode cX12_tellRule 40 = .ok (.getfield 275, 3) := by decide +kernel
theorem dX12_tellRule_43 : decode cX12_tellRule 43 = .ok (.iaload, 1) := by decide +kernel
theorem dX12_tellRule_44 : decode cX12_tellRule 44 = .ok (.bipush 16, 2) := by decide +kernel
theorem dX12_tellRule_46 : decode cX12_tellRule 46 = .ok (.if_icmp .ne 8, 3) := by decide +kernel
theorem dX12_tellRule_49 : decode cX12_tellRule 49 = .ok (.aload_n 0, 1) := by decide +kernel
theorem dX12_tellRule_50 : decode cX12_tellRule 50 = .ok (.iconst 2, 1) := by decide +kernel
theorem dX12_tellRule_51 : decode cX12_tellRule 51 = .ok (.invokevirtual 257, 3) := by decide +kernel
theorem dX12_tellRule_54 : decode cX12_tellRule 54 = .ok (.aload_n 0, 1) := by decide +kernel
theorem dX12_tellRule_55 : decode cX12_tellRule 55 = .ok (.getfield 242, 3) := by decide +kernel
theorem dX12_tellRule_58 : decode cX12_tellRule 58 = .ok (.ifCond .le 4, 3) := by decide +kernel
theorem dX12_tellRule_61 : decode cX12_tellRule 61 = .ok (.return_, 1) := by decide +kernel
theorem dX12_tellRule_62 : decode cX12_tellRule 62 = .ok (.bipush 16, 2) := by decide +kernel
theorem dX12_tellRule_64 : decode cX12_tellRule 64 = .ok (.aload_n 0, 1) := by decide +kernel
theorem dX12_tellRule_65 : decode cX12_tellRule 65 = .ok (.getfield 275, 3) := by decide +kernel
theorem dX12_tellRule_68 : decode cX12_tellRule 68 = .ok (.imul, 1) := by decide +kernel
theorem dX12_tellRule_69 : decode cX12_tellRule 69 = .ok (.aload_n 0, 1) := by decide +kernel
theorem dX12_tellRule_70 : decode cX12_tellRule 70 = .ok (.getfield 40, 3) := by decide +kernel
theorem dX12_tellRule_73 : decode cX12_tellRule 73 = .ok (.aload_n 0, 1) := by decide +kernel
theorem dX12_tellRule_74 : decode cX12_tellRule 74 = .ok (.getfield 275, 3) := by decide +kernel
theorem dX12_tellRule_77 : decode cX12_tellRule 77 = .ok (.iaload, 1) := by decide +kernel
theorem dX12_tellRule_78 : decode cX12_tellRule 78 = .ok (.iadd, 1) := by decide +kernel
theorem dX12_tellRule_79 : decode cX12_tellRule 79 = .ok (.istore_n 1, 1) := by decide +kernel
theorem dX12_tellRule_80 : decode cX12_tellRule 80 = .ok (.aload_n 0, 1) := by decide +kernel
theorem dX12_tellRule_81 : decode cX12_tellRule 81 = .ok (.getfield 43, 3) := by decide +kernel
theorem dX12_tellRule_84 : decode cX12_tellRule 84 = .ok (.iload_n 1, 1) := by decide +kernel
theorem dX12_tellRule_85 : decode cX12_tellRule 85 = .ok (.aload_n 0, 1) := by decide +kernel
theorem dX12_tellRule_86 : decode cX12_tellRule 86 = .ok (.bipush 20, 2) := by decide +kernel
theorem dX12_tellRule_88 : decode cX12_tellRule 88 = .ok (.invokevirtual 260, 3) := by decide +kernel
theorem dX12_tellRule_91 : decode cX12_tellRule 91 = .ok (.ifCond .eq 7, 3) := by decide +kernel
theorem dX12_tellRule_94 : decode cX12_tellRule 94 = .ok (.iconst 0, 1) := by decide +kernel
theorem dX12_tellRule_95 : decode cX12_tellRule 95 = .ok (.goto 17, 3) := by decide +kernel
theorem dX12_tellRule_98 : decode cX12_tellRule 98 = .ok (.aload_n 0, 1) := by decide +kernel
theorem dX12_tellRule_99 : decode cX12_tellRule 99 = .ok (.bipush 22, 2) := by decide +kernel
theorem dX12_tellRule_101 : decode cX12_tellRule 101 = .ok (.invokevirtual 260, 3) := by decide +kernel
theorem dX12_tellRule_104 : decode cX12_tellRule 104 = .ok (.ifCond .eq 7, 3) := by decide +kernel
theorem dX12_tellRule_107 : decode cX12_tellRule 107 = .ok (.iconst 1, 1) := by decide +kernel
theorem dX12_tellRule_108 : decode cX12_tellRule 108 = .ok (.goto 4, 3) := by decide +kernel
theorem dX12_tellRule_111 : decode cX12_tellRule 111 = .ok (.iconst 2, 1) := by decide +kernel
theorem dX12_tellRule_112 : decode cX12_tellRule 112 = .ok (.iastore, 1) := by decide +kernel
theorem dX12_tellRule_113 : decode cX12_tellRule 113 = .ok (.aload_n 0, 1) := by decide +kernel
theorem dX12_tellRule_114 : decode cX12_tellRule 114 = .ok (.invokevirtual 263, 3) := by decide +kernel
theorem dX12_tellRule_117 : decode cX12_tellRule 117 = .ok (.aload_n 0, 1) := by decide +kernel
theorem dX12_tellRule_118 : decode cX12_tellRule 118 = .ok (.getfield 46, 3) := by decide +kernel
theorem dX12_tellRule_121 : decode cX12_tellRule 121 = .ok (.iload_n 1, 1) := by decide +kernel
theorem dX12_tellRule_122 : decode cX12_tellRule 122 = .ok (.aload_n 0, 1) := by decide +kernel
theorem dX12_tellRule_123 : decode cX12_tellRule 123 = .ok (.getfield 278, 3) := by decide +kernel
theorem dX12_tellRule_126 : decode cX12_tellRule 126 = .ok (.iastore, 1) := by decide +kernel
theorem dX12_tellRule_127 : decode cX12_tellRule 127 = .ok (.aload_n 0, 1) := by decide +kernel
theorem dX12_tellRule_128 : decode cX12_tellRule 128 = .ok (.getfield 43, 3) := by decide +kernel
theorem dX12_tellRule_131 : decode cX12_tellRule 131 = .ok (.iload_n 1, 1) := by decide +kernel
theorem dX12_tellRule_132 : decode cX12_tellRule 132 = .ok (.iaload, 1) := by decide +kernel
theorem dX12_tellRule_133 : decode cX12_tellRule 133 = .ok (.ifCond .le 7, 3) := by decide +kernel
theorem dX12_tellRule_136 : decode cX12_tellRule 136 = .ok (.aload_n 0, 1) := by decide +kernel
theorem dX12_tellRule_137 : decode cX12_tellRule 137 = .ok (.invokevirtual 284, 3) := by decide +kernel
theorem dX12_tellRule_140 : decode cX12_tellRule 140 = .ok (.aload_n 0, 1) := by decide +kernel
theorem dX12_tellRule_141 : decode cX12_tellRule 141 = .ok (.getfield 49, 3) := by decide +kernel
theorem dX12_tellRule_144 : decode cX12_tellRule 144 = .ok (.iload_n 1, 1) := by decide +kernel
theorem dX12_tellRule_145 : decode cX12_tellRule 145 = .ok (.aload_n 0, 1) := by decide +kernel
theorem dX12_tellRule_146 : decode cX12_tellRule 146 = .ok (.getfield 278, 3) := by decide +kernel
theorem dX12_tellRule_149 : decode cX12_tellRule 149 = .ok (.iastore, 1) := by decide +kernel
theorem dX12_tellRule_150 : decode cX12_tellRule 150 = .ok (.aload_n 0, 1) := by decide +kernel
theorem dX12_tellRule_151 : decode cX12_tellRule 151 = .ok (.getfield 52, 3) := by decide +kernel
theorem dX12_tellRule_154 : decode cX12_tellRule 154 = .ok (.iload_n 1, 1) := by decide +kernel
theorem dX12_tellRule_155 : decode cX12_tellRule 155 = .ok (.aload_n 0, 1) := by decide +kernel
theorem dX12_tellRule_156 : decode cX12_tellRule 156 = .ok (.getfield 58, 3) := by decide +kernel
theorem dX12_tellRule_159 : decode cX12_tellRule 159 = .ok (.aload_n 0, 1) := by decide +kernel
theorem dX12_tellRule_160 : decode cX12_tellRule 160 = .ok (.getfield 275, 3) := by decide +kernel
theorem dX12_tellRule_163 : decode cX12_tellRule 163 = .ok (.iaload, 1) := by decide +kernel
theorem dX12_tellRule_164 : decode cX12_tellRule 164 = .ok (.iastore, 1) := by decide +kernel
theorem dX12_tellRule_165 : decode cX12_tellRule 165 = .ok (.aload_n 0, 1) := by decide +kernel
theorem dX12_tellRule_166 : decode cX12_tellRule 166 = .ok (.getfield 43, 3) := by decide +kernel
theorem dX12_tellRule_169 : decode cX12_tellRule 169 = .ok (.iload_n 1, 1) := by decide +kernel
theorem dX12_tellRule_170 : decode cX12_tellRule 170 = .ok (.iaload, 1) := by decide +kernel
theorem dX12_tellRule_171 : decode cX12_tellRule 171 = .ok (.ifCond .eq 12, 3) := by decide +kernel
theorem dX12_tellRule_174 : decode cX12_tellRule 174 = .ok (.aload_n 0, 1) := by decide +kernel
theorem dX12_tellRule_175 : decode cX12_tellRule 175 = .ok (.bipush 21, 2) := by decide +kernel
theorem dX12_tellRule_177 : decode cX12_tellRule 177 = .ok (.invokevirtual 260, 3) := by decide +kernel
theorem dX12_tellRule_180 : decode cX12_tellRule 180 = .ok (.ifCond .eq 7, 3) := by decide +kernel
theorem dX12_tellRule_183 : decode cX12_tellRule 183 = .ok (.iconst 1, 1) := by decide +kernel
theorem dX12_tellRule_184 : decode cX12_tellRule 184 = .ok (.goto 4, 3) := by decide +kernel
theorem dX12_tellRule_187 : decode cX12_tellRule 187 = .ok (.iconst 0, 1) := by decide +kernel
theorem dX12_tellRule_188 : decode cX12_tellRule 188 = .ok (.istore_n 2, 1) := by decide +kernel
theorem dX12_tellRule_189 : decode cX12_tellRule 189 = .ok (.iload_n 2, 1) := by decide +kernel
theorem dX12_tellRule_190 : decode cX12_tellRule 190 = .ok (.ifCond .eq 9, 3) := by decide +kernel
theorem dX12_tellRule_193 : decode cX12_tellRule 193 = .ok (.aload_n 0, 1) := by decide +kernel
theorem dX12_tellRule_194 : decode cX12_tellRule 194 = .ok (.bipush 21, 2) := by decide +kernel
theorem dX12_tellRule_196 : decode cX12_tellRule 196 = .ok (.invokevirtual 287, 3) := by decide +kernel
theorem dX12_tellRule_199 : decode cX12_tellRule 199 = .ok (.iconst 1, 1) := by decide +kernel
theorem dX12_tellRule_200 : decode cX12_tellRule 200 = .ok (.istore_n 3, 1) := by decide +kernel
theorem dX12_tellRule_201 : decode cX12_tellRule 201 = .ok (.iload_n 2, 1) := by decide +kernel
theorem dX12_tellRule_202 : decode cX12_tellRule 202 = .ok (.ifCond .eq 52, 3) := by decide +kernel
theorem dX12_tellRule_205 : decode cX12_tellRule 205 = .ok (.aload_n 0, 1) := by decide +kernel
theorem dX12_tellRule_206 : decode cX12_tellRule 206 = .ok (.getfield 242, 3) := by decide +kernel
theorem dX12_tellRule_209 : decode cX12_tellRule 209 = .ok (.ifCond .ne 45, 3) := by decide +kernel
theorem dX12_tellRule_212 : decode cX12_tellRule 212 = .ok (.aload_n 0, 1) := by decide +kernel
theorem dX12_tellRule_213 : decode cX12_tellRule 213 = .ok (.iload_n 3, 1) := by decide +kernel
theorem dX12_tellRule_214 : decode cX12_tellRule 214 = .ok (.invokevirtual 290, 3) := by decide +kernel
theorem dX12_tellRule_217 : decode cX12_tellRule 217 = .ok (.aload_n 0, 1) := by decide +kernel
theorem dX12_tellRule_218 : decode cX12_tellRule 218 = .ok (.bipush 24, 2) := by decide +kernel
theorem dX12_tellRule_220 : decode cX12_tellRule 220 = .ok (.invokevirtual 260, 3) := by decide +kernel
theorem dX12_tellRule_223 : decode cX12_tellRule 223 = .ok (.istore_n 3, 1) := by decide +kernel
theorem dX12_tellRule_224 : decode cX12_tellRule 224 = .ok (.iload_n 3, 1) := by decide +kernel
theorem dX12_tellRule_225 : decode cX12_tellRule 225 = .ok (.ifCond .ne 12, 3) := by decide +kernel
theorem dX12_tellRule_228 : decode cX12_tellRule 228 = .ok (.aload_n 0, 1) := by decide +kernel
theorem dX12_tellRule_229 : decode cX12_tellRule 229 = .ok (.bipush 25, 2) := by decide +kernel
theorem dX12_tellRule_231 : decode cX12_tellRule 231 = .ok (.invokevirtual 260, 3) := by decide +kernel
theorem dX12_tellRule_234 : decode cX12_tellRule 234 = .ok (.ifCond .eq 7, 3) := by decide +kernel
theorem dX12_tellRule_237 : decode cX12_tellRule 237 = .ok (.iconst 1, 1) := by decide +kernel
theorem dX12_tellRule_238 : decode cX12_tellRule 238 = .ok (.goto 4, 3) := by decide +kernel
theorem dX12_tellRule_241 : decode cX12_tellRule 241 = .ok (.iconst 0, 1) := by decide +kernel
theorem dX12_tellRule_242 : decode cX12_tellRule 242 = .ok (.istore_n 2, 1) := by decide +kernel
theorem dX12_tellRule_243 : decode cX12_tellRule 243 = .ok (.iload_n 2, 1) := by decide +kernel
theorem dX12_tellRule_244 : decode cX12_tellRule 244 = .ok (.ifCond .eq (-43), 3) := by decide +kernel
theorem dX12_tellRule_247 : decode cX12_tellRule 247 = .ok (.aload_n 0, 1) := by decide +kernel
theorem dX12_tellRule_248 : decode cX12_tellRule 248 = .ok (.invokevirtual 263, 3) := by decide +kernel
theorem dX12_tellRule_251 : decode cX12_tellRule 251 = .ok (.goto (-50), 3) := by decide +kernel
theorem dX12_tellRule_254 : decode cX12_tellRule 254 = .ok (.aload_n 0, 1) := by decide +kernel
theorem dX12_tellRule_255 : decode cX12_tellRule 255 = .ok (.iconst 4, 1) := by decide +kernel
theorem dX12_tellRule_256 : decode cX12_tellRule 256 = .ok (.invokevirtual 287, 3) := by decide +kernel
theorem dX12_tellRule_259 : decode cX12_tellRule 259 = .ok (.aload_n 0, 1) := by decide +kernel
theorem dX12_tellRule_260 : decode cX12_tellRule 260 = .ok (.getfield 242, 3) := by decide +kernel
theorem dX12_tellRule_263 : decode cX12_tellRule 263 = .ok (.ifCond .le 4, 3) := by decide +kernel
theorem dX12_tellRule_266 : decode cX12_tellRule 266 = .ok (.return_, 1) := by decide +kernel
theorem dX12_tellRule_267 : decode cX12_tellRule 267 = .ok (.aload_n 0, 1) := by decide +kernel
theorem dX12_tellRule_268 : decode cX12_tellRule 268 = .ok (.getfield 55, 3) := by decide +kernel
theorem dX12_tellRule_271 : decode cX12_tellRule 271 = .ok (.iload_n 1, 1) := by decide +kernel
theorem dX12_tellRule_272 : decode cX12_tellRule 272 = .ok (.aload_n 0, 1) := by decide +kernel
theorem dX12_tellRule_273 : decode cX12_tellRule 273 = .ok (.getfield 58, 3) := by decide +kernel
theorem dX12_tellRule_276 : decode cX12_tellRule 276 = .ok (.aload_n 0, 1) := by decide +kernel
theorem dX12_tellRule_277 : decode cX12_tellRule 277 = .ok (.getfield 275, 3) := by decide +kernel
theorem dX12_tellRule_280 : decode cX12_tellRule 280 = .ok (.iaload, 1) := by decide +kernel
theorem dX12_tellRule_281 : decode cX12_tellRule 281 = .ok (.iastore, 1) := by decide +kernel
theorem dX12_tellRule_282 : decode cX12_tellRule 282 = .ok (.aload_n 0, 1) := by decide +kernel
theorem dX12_tellRule_283 : decode cX12_tellRule 283 = .ok (.getfield 40, 3) := by decide +kernel
theorem dX12_tellRule_286 : decode cX12_tellRule 286 = .ok (.aload_n 0, 1) := by decide +kernel
theorem dX12_tellRule_287 : decode cX12_tellRule 287 = .ok (.getfield 275, 3) := by decide +kernel
theorem dX12_tellRule_290 : decode cX12_tellRule 290 = .ok (.dup2, 1) := by decide +kernel
theorem dX12_tellRule_291 : decode cX12_tellRule 291 = .ok (.iaload, 1) := by decide +kernel
theorem dX12_tellRule_292 : decode cX12_tellRule 292 = .ok (.iconst 1, 1) := by decide +kernel
theorem dX12_tellRule_293 : decode cX12_tellRule 293 = .ok (.iadd, 1) := by decide +kernel
theorem dX12_tellRule_294 : decode cX12_tellRule 294 = .ok (.iastore, 1) := by decide +kernel
theorem dX12_tellRule_295 : decode cX12_tellRule 295 = .ok (.return_, 1) := by decide +kernel
theorem dX12_relation_0 : decode cX12_relation 0 = .ok (.aload_n 0, 1) := by decide +kernel
theorem dX12_relation_1 : decode cX12_relation 1 = .ok (.getfield 278, 3) := by decide +kernel
theorem dX12_relation_4 : decode cX12_relation 4 = .ok (.istore_n 2, 1) := by decide +kernel
theorem dX12_relation_5 : decode cX12_relation 5 = .ok (.aload_n 0, 1) := by decide +kernel
theorem dX12_relation_6 : decode cX12_relation 6 = .ok (.invokevirtual 284, 3) := by decide +kernel
theorem dX12_relation_9 : decode cX12_relation 9 = .ok (.aload_n 0, 1) := by decide +kernel
theorem dX12_relation_10 : decode cX12_relation 10 = .ok (.getfield 242, 3) := by decide +kernel
theorem dX12_relation_13 : decode cX12_relation 13 = .ok (.ifCond .le 7, 3) := by decide +kernel
theorem dX12_relation_16 : decode cX12_relation 16 = .ok (.iconst 0, 1) := by decide +kernel
theorem dX12_relation_17 : decode cX12_relation 17 = .ok (.goto 15, 3) := by decide +kernel
theorem dX12_relation_20 : decode cX12_relation 20 = .ok (.aload_n 0, 1) := by decide +kernel
theorem dX12_relation_21 : decode cX12_relation 21 = .ok (.getfield 20, 3) := by decide +kernel
theorem dX12_relation_24 : decode cX12_relation 24 = .ok (.aload_n 0, 1) := by decide +kernel
theorem dX12_relation_25 : decode cX12_relation 25 = .ok (.getfield 245, 3) := by decide +kernel
theorem dX12_relation_28 : decode cX12_relation 28 = .ok (.iaload, 1) := by decide +kernel
theorem dX12_relation_29 : decode cX12_relation 29 = .ok (.bipush 11, 2) := by decide +kernel
theorem dX12_relation_31 : decode cX12_relation 31 = .ok (.isub, 1) := by decide +kernel
theorem dX12_relation_32 : decode cX12_relation 32 = .ok (.istore_n 3, 1) := by decide +kernel
theorem dX12_relation_33 : decode cX12_relation 33 = .ok (.aload_n 0, 1) := by decide +kernel
theorem dX12_relation_34 : decode cX12_relation 34 = .ok (.getfield 242, 3) := by decide +kernel
theorem dX12_relation_37 : decode cX12_relation 37 = .ok (.ifCond .ne 17, 3) := by decide +kernel
theorem dX12_relation_40 : decode cX12_relation 40 = .ok (.iload_n 3, 1) := by decide +kernel
theorem dX12_relation_41 : decode cX12_relation 41 = .ok (.ifCond .lt 8, 3) := by decide +kernel
theorem dX12_relation_44 : decode cX12_relation 44 = .ok (.iload_n 3, 1) := by decide +kernel
theorem dX12_relation_45 : decode cX12_relation 45 = .ok (.iconst 3, 1) := by decide +kernel
theorem dX12_relation_46 : decode cX12_relation 46 = .ok (.if_icmp .le 8, 3) := by decide +kernel
theorem dX12_relation_49 : decode cX12_relation 49 = .ok (.aload_n 0, 1) := by decide +kernel
theorem dX12_relation_50 : decode cX12_relation 50 = .ok (.iconst 1, 1) := by decide +kernel
theorem dX12_relation_51 : decode cX12_relation 51 = .ok (.invokevirtual 257, 3) := by decide +kernel
theorem dX12_relation_54 : decode cX12_relation 54 = .ok (.aload_n 0, 1) := by decide +kernel
theorem dX12_relation_55 : decode cX12_relation 55 = .ok (.invokevirtual 263, 3) := by decide +kernel
theorem dX12_relation_58 : decode cX12_relation 58 = .ok (.aload_n 0, 1) := by decide +kernel
theorem dX12_relation_59 : decode cX12_relation 59 = .ok (.getfield 278, 3) := by decide +kernel
theorem dX12_relation_62 : decode cX12_relation 62 = .ok (.istore 4, 2) := by decide +kernel
theorem dX12_relation_64 : decode cX12_relation 64 = .ok (.aload_n 0, 1) := by decide +kernel
theorem dX12_relation_65 : decode cX12_relation 65 = .ok (.invokevirtual 284, 3) := by decide +kernel
theorem dX12_relation_68 : decode cX12_relation 68 = .ok (.aload_n 0, 1) := by decide +kernel
theorem dX12_relation_69 : decode cX12_relation 69 = .ok (.getfield 242, 3) := by decide +kernel
theorem dX12_relation_72 : decode cX12_relation 72 = .ok (.ifCond .le 4, 3) := by decide +kernel
theorem dX12_relation_75 : decode cX12_relation 75 = .ok (.return_, 1) := by decide +kernel
theorem dX12_relation_76 : decode cX12_relation 76 = .ok (.sipush 200, 3) := by decide +kernel
theorem dX12_relation_79 : decode cX12_relation 79 = .ok (.aload_n 0, 1) := by decide +kernel
theorem dX12_relation_80 : decode cX12_relation 80 = .ok (.getfield 275, 3) := by decide +kernel
theorem dX12_relation_83 : decode cX12_relation 83 = .ok (.imul, 1) := by decide +kernel
theorem dX12_relation_84 : decode cX12_relation 84 = .ok (.aload_n 0, 1) := by decide +kernel
theorem dX12_relation_85 : decode cX12_relation 85 = .ok (.getfield 58, 3) := by decide +kernel
theorem dX12_relation_88 : decode cX12_relation 88 = .ok (.aload_n 0, 1) := by decide +kernel
theorem dX12_relation_89 : decode cX12_relation 89 = .ok (.getfield 275, 3) := by decide +kernel
theorem dX12_relation_92 : decode cX12_relation 92 = .ok (.iaload, 1) := by decide +kernel
theorem dX12_relation_93 : decode cX12_relation 93 = .ok (.iadd, 1) := by decide +kernel
theorem dX12_relation_94 : decode cX12_relation 94 = .ok (.istore 5, 2) := by decide +kernel
theorem dX12_relation_96 : decode cX12_relation 96 = .ok (.aload_n 0, 1) := by decide +kernel
theorem dX12_relation_97 : decode cX12_relation 97 = .ok (.getfield 61, 3) := by decide +kernel
theorem dX12_relation_100 : decode cX12_relation 100 = .ok (.iload 5, 2) := by decide +kernel
theorem dX12_relation_102 : decode cX12_relation 102 = .ok (.iload_n 3, 1) := by decide +kernel
theorem dX12_relation_103 : decode cX12_relation 103 = .ok (.iastore, 1) := by decide +kernel
theorem dX12_relation_104 : decode cX12_relation 104 = .ok (.aload_n 0, 1) := by decide +kernel
theorem dX12_relation_105 : decode cX12_relation 105 = .ok (.getfield 64, 3) := by decide +kernel
theorem dX12_relation_108 : decode cX12_relation 108 = .ok (.iload 5, 2) := by decide +kernel
theorem dX12_relation_110 : decode cX12_relation 110 = .ok (.iload_n 2, 1) := by decide +kernel
theorem dX12_relation_111 : decode cX12_relation 111 = .ok (.iastore, 1) := by decide +kernel
theorem dX12_relation_112 : decode cX12_relation 112 = .ok (.aload_n 0, 1) := by decide +kernel
theorem dX12_relation_113 : decode cX12_relation 113 = .ok (.getfield 67, 3) := by decide +kernel
theorem dX12_relation_116 : decode cX12_relation 116 = .ok (.iload 5, 2) := by decide +kernel
theorem dX12_relation_118 : decode cX12_relation 118 = .ok (.iload 4, 2) := by decide +kernel
theorem dX12_relation_120 : decode cX12_relation 120 = .ok (.iastore, 1) := by decide +kernel
theorem dX12_relation_121 : decode cX12_relation 121 = .ok (.aload_n 0, 1) := by decide +kernel
theorem dX12_relation_122 : decode cX12_relation 122 = .ok (.getfield 70, 3) := by decide +kernel
theorem dX12_relation_125 : decode cX12_relation 125 = .ok (.iload 5, 2) := by decide +kernel
theorem dX12_relation_127 : decode cX12_relation 127 = .ok (.aload_n 0, 1) := by decide +kernel
theorem dX12_relation_128 : decode cX12_relation 128 = .ok (.getfield 278, 3) := by decide +kernel
theorem dX12_relation_131 : decode cX12_relation 131 = .ok (.iastore, 1) := by decide +kernel
theorem dX12_relation_132 : decode cX12_relation 132 = .ok (.aload_n 0, 1) := by decide +kernel
theorem dX12_relation_133 : decode cX12_relation 133 = .ok (.getfield 73, 3) := by decide +kernel
theorem dX12_relation_136 : decode cX12_relation 136 = .ok (.iload 5, 2) := by decide +kernel
theorem dX12_relation_138 : decode cX12_relation 138 = .ok (.iload_n 1, 1) := by decide +kernel
theorem dX12_relation_139 : decode cX12_relation 139 = .ok (.bastore, 1) := by decide +kernel
theorem dX12_relation_140 : decode cX12_relation 140 = .ok (.aload_n 0, 1) := by decide +kernel
theorem dX12_relation_141 : decode cX12_relation 141 = .ok (.getfield 58, 3) := by decide +kernel
theorem dX12_relation_144 : decode cX12_relation 144 = .ok (.aload_n 0, 1) := by decide +kernel
theorem dX12_relation_145 : decode cX12_relation 145 = .ok (.getfield 275, 3) := by decide +kernel
theorem dX12_relation_148 : decode cX12_relation 148 = .ok (.dup2, 1) := by decide +kernel
theorem dX12_relation_149 : decode cX12_relation 149 = .ok (.iaload, 1) := by decide +kernel
theorem dX12_relation_150 : decode cX12_relation 150 = .ok (.iconst 1, 1) := by decide +kernel
theorem dX12_relation_151 : decode cX12_relation 151 = .ok (.iadd, 1) := by decide +kernel
theorem dX12_relation_152 : decode cX12_relation 152 = .ok (.iastore, 1) := by decide +kernel
theorem dX12_relation_153 : decode cX12_relation 153 = .ok (.return_, 1) := by decide +kernel
theorem dX12_emit_0 : decode cX12_emit 0 = .ok (.aload_n 0, 1) := by decide +kernel
theorem dX12_emit_1 : decode cX12_emit 1 = .ok (.getfield 77, 3) := by decide +kernel
theorem dX12_emit_4 : decode cX12_emit 4 = .ok (.aload_n 0, 1) := by decide +kernel
theorem dX12_emit_5 : decode cX12_emit 5 = .ok (.getfield 278, 3) := by decide +kernel
theorem dX12_emit_8 : decode cX12_emit 8 = .ok (.iload_n 1, 1) := by decide +kernel
theorem dX12_emit_9 : decode cX12_emit 9 = .ok (.iastore, 1) := by decide +kernel
theorem dX12_emit_10 : decode cX12_emit 10 = .ok (.aload_n 0, 1) := by decide +kernel
theorem dX12_emit_11 : decode cX12_emit 11 = .ok (.getfield 80, 3) := by decide +kernel
theorem dX12_emit_14 : decode cX12_emit 14 = .ok (.aload_n 0, 1) := by decide +kernel
theorem dX12_emit_15 : decode cX12_emit 15 = .ok (.getfield 278, 3) := by decide +kernel
theorem dX12_emit_18 : decode cX12_emit 18 = .ok (.iload_n 2, 1) := by decide +kernel
theorem dX12_emit_19 : decode cX12_emit 19 = .ok (.iastore, 1) := by decide +kernel
theorem dX12_emit_20 : decode cX12_emit 20 = .ok (.aload_n 0, 1) := by decide +kernel
theorem dX12_emit_21 : decode cX12_emit 21 = .ok (.dup, 1) := by decide +kernel
theorem dX12_emit_22 : decode cX12_emit 22 = .ok (.getfield 278, 3) := by decide +kernel
theorem dX12_emit_25 : decode cX12_emit 25 = .ok (.iconst 1, 1) := by decide +kernel
theorem dX12_emit_26 : decode cX12_emit 26 = .ok (.iadd, 1) := by decide +kernel
theorem dX12_emit_27 : decode cX12_emit 27 = .ok (.putfield 278, 3) := by decide +kernel
theorem dX12_emit_30 : decode cX12_emit 30 = .ok (.return_, 1) := by decide +kernel
theorem dX12_comesOut_0 : decode cX12_comesOut 0 = .ok (.aload_n 0, 1) := by decide +kernel
theorem dX12_comesOut_1 : decode cX12_comesOut 1 = .ok (.getfield 294, 3) := by decide +kernel
theorem dX12_comesOut_4 : decode cX12_comesOut 4 = .ok (.ifCond .le 88, 3) := by decide +kernel
theorem dX12_comesOut_7 : decode cX12_comesOut 7 = .ok (.aload_n 0, 1) := by decide +kernel
theorem dX12_comesOut_8 : decode cX12_comesOut 8 = .ok (.getfield 83, 3) := by decide +kernel
theorem dX12_comesOut_11 : decode cX12_comesOut 11 = .ok (.aload_n 0, 1) := by decide +kernel
theorem dX12_comesOut_12 : decode cX12_comesOut 12 = .ok (.getfield 294, 3) := by decide +kernel
theorem dX12_comesOut_15 : decode cX12_comesOut 15 = .ok (.iconst 1, 1) := by decide +kernel
theorem dX12_comesOut_16 : decode cX12_comesOut 16 = .ok (.isub, 1) := by decide +kernel
theorem dX12_comesOut_17 : decode cX12_comesOut 17 = .ok (.iaload, 1) := by decide +kernel
theorem dX12_comesOut_18 : decode cX12_comesOut 18 = .ok (.bipush 6, 2) := by decide +kernel
theorem dX12_comesOut_20 : decode cX12_comesOut 20 = .ok (.if_icmp .eq 72, 3) := by decide +kernel
theorem dX12_comesOut_23 : decode cX12_comesOut 23 = .ok (.iload_n 1, 1) := by decide +kernel
theorem dX12_comesOut_24 : decode cX12_comesOut 24 = .ok (.ifCond .eq 19, 3) := by decide +kernel
theorem dX12_comesOut_27 : decode cX12_comesOut 27 = .ok (.aload_n 0, 1) := by decide +kernel
theorem dX12_comesOut_28 : decode cX12_comesOut 28 = .ok (.getfield 83, 3) := by decide +kernel
theorem dX12_comesOut_31 : decode cX12_comesOut 31 = .ok (.aload_n 0, 1) := by decide +kernel
theorem dX12_comesOut_32 : decode cX12_comesOut 32 = .ok (.getfield 294, 3) := by decide +kernel
theorem dX12_comesOut_35 : decode cX12_comesOut 35 = .ok (.iconst 1, 1) := by decide +kernel
theorem dX12_comesOut_36 : decode cX12_comesOut 36 = .ok (.isub, 1) := by decide +kernel
theorem dX12_comesOut_37 : decode cX12_comesOut 37 = .ok (.iaload, 1) := by decide +kernel
theorem dX12_comesOut_38 : decode cX12_comesOut 38 = .ok (.bipush 10, 2) := by decide +kernel
theorem dX12_comesOut_40 : decode cX12_comesOut 40 = .ok (.if_icmp .ne 52, 3) := by decide +kernel
theorem dX12_comesOut_43 : decode cX12_comesOut 43 = .ok (.aload_n 0, 1) := by decide +kernel
theorem dX12_comesOut_44 : decode cX12_comesOut 44 = .ok (.dup, 1) := by decide +kernel
theorem dX12_comesOut_45 : decode cX12_comesOut 45 = .ok (.getfield 294, 3) := by decide +kernel
theorem dX12_comesOut_48 : decode cX12_comesOut 48 = .ok (.iconst 1, 1) := by decide +kernel
theorem dX12_comesOut_49 : decode cX12_comesOut 49 = .ok (.isub, 1) := by decide +kernel
theorem dX12_comesOut_50 : decode cX12_comesOut 50 = .ok (.putfield 294, 3) := by decide +kernel
theorem dX12_comesOut_53 : decode cX12_comesOut 53 = .ok (.aload_n 0, 1) := by decide +kernel
theorem dX12_comesOut_54 : decode cX12_comesOut 54 = .ok (.getfield 83, 3) := by decide +kernel
theorem dX12_comesOut_57 : decode cX12_comesOut 57 = .ok (.aload_n 0, 1) := by decide +kernel
theorem dX12_comesOut_58 : decode cX12_comesOut 58 = .ok (.getfield 294, 3) := by decide +kernel
theorem dX12_comesOut_61 : decode cX12_comesOut 61 = .ok (.iaload, 1) := by decide +kernel
theorem dX12_comesOut_62 : decode cX12_comesOut 62 = .ok (.istore_n 2, 1) := by decide +kernel
theorem dX12_comesOut_63 : decode cX12_comesOut 63 = .ok (.aload_n 0, 1) := by decide +kernel
theorem dX12_comesOut_64 : decode cX12_comesOut 64 = .ok (.iload_n 2, 1) := by decide +kernel
theorem dX12_comesOut_65 : decode cX12_comesOut 65 = .ok (.bipush 8, 2) := by decide +kernel
theorem dX12_comesOut_67 : decode cX12_comesOut 67 = .ok (.if_icmp .ne 7, 3) := by decide +kernel
theorem dX12_comesOut_70 : decode cX12_comesOut 70 = .ok (.iconst 2, 1) := by decide +kernel
theorem dX12_comesOut_71 : decode cX12_comesOut 71 = .ok (.goto 14, 3) := by decide +kernel
theorem dX12_comesOut_74 : decode cX12_comesOut 74 = .ok (.iload_n 2, 1) := by decide +kernel
theorem dX12_comesOut_75 : decode cX12_comesOut 75 = .ok (.bipush 9, 2) := by decide +kernel
theorem dX12_comesOut_77 : decode cX12_comesOut 77 = .ok (.if_icmp .ne 7, 3) := by decide +kernel
theorem dX12_comesOut_80 : decode cX12_comesOut 80 = .ok (.iconst 3, 1) := by decide +kernel
theorem dX12_comesOut_81 : decode cX12_comesOut 81 = .ok (.goto 4, 3) := by decide +kernel
theorem dX12_comesOut_84 : decode cX12_comesOut 84 = .ok (.iconst 4, 1) := by decide +kernel
theorem dX12_comesOut_85 : decode cX12_comesOut 85 = .ok (.iconst 0, 1) := by decide +kernel
theorem dX12_comesOut_86 : decode cX12_comesOut 86 = .ok (.invokevirtual 297, 3) := by decide +kernel
theorem dX12_comesOut_89 : decode cX12_comesOut 89 = .ok (.goto (-89), 3) := by decide +kernel
theorem dX12_comesOut_92 : decode cX12_comesOut 92 = .ok (.return_, 1) := by decide +kernel
theorem dX12_expression_0 : decode cX12_expression 0 = .ok (.aload_n 0, 1) := by decide +kernel
theorem dX12_expression_1 : decode cX12_expression 1 = .ok (.iconst 0, 1) := by decide +kernel
theorem dX12_expression_2 : decode cX12_expression 2 = .ok (.putfield 294, 3) := by decide +kernel
theorem dX12_expression_5 : decode cX12_expression 5 = .ok (.aload_n 0, 1) := by decide +kernel
theorem dX12_expression_6 : decode cX12_expression 6 = .ok (.getfield 269, 3) := by decide +kernel
theorem dX12_expression_9 : decode cX12_expression 9 = .ok (.istore_n 1, 1) := by decide +kernel
theorem dX12_expression_10 : decode cX12_expression 10 = .ok (.iconst 1, 1) := by decide +kernel
theorem dX12_expression_11 : decode cX12_expression 11 = .ok (.istore_n 2, 1) := by decide +kernel
theorem dX12_expression_12 : decode cX12_expression 12 = .ok (.iload_n 2, 1) := by decide +kernel
theorem dX12_expression_13 : decode cX12_expression 13 = .ok (.ifCond .eq 347, 3) := by decide +kernel
theorem dX12_expression_16 : decode cX12_expression 16 = .ok (.aload_n 0, 1) := by decide +kernel
theorem dX12_expression_17 : decode cX12_expression 17 = .ok (.getfield 242, 3) := by decide +kernel
theorem dX12_expression_20 : decode cX12_expression 20 = .ok (.ifCond .ne 340, 3) := by decide +kernel
theorem dX12_expression_23 : decode cX12_expression 23 = .ok (.aload_n 0, 1) := by decide +kernel
theorem dX12_expression_24 : decode cX12_expression 24 = .ok (.bipush 6, 2) := by decide +kernel
theorem dX12_expression_26 : decode cX12_expression 26 = .ok (.invokevirtual 260, 3) := by decide +kernel
theorem dX12_expression_29 : decode cX12_expression 29 = .ok (.ifCond .eq 63, 3) := by decide +kernel
theorem dX12_expression_32 : decode cX12_expression 32 = .ok (.aload_n 0, 1) := by decide +kernel
theorem dX12_expression_33 : decode cX12_expression 33 = .ok (.getfield 269, 3) := by decide +kernel
theorem dX12_expression_36 : decode cX12_expression 36 = .ok (.bipush 6, 2) := by decide +kernel
theorem dX12_expression_38 : decode cX12_expression 38 = .ok (.if_icmp .ne 8, 3) := by decide +kernel
theorem dX12_expression_41 : decode cX12_expression 41 = .ok (.aload_n 0, 1) := by decide +kernel
theorem dX12_expression_42 : decode cX12_expression 42 = .ok (.iconst 2, 1) := by decide +kernel
theorem dX12_expression_43 : decode cX12_expression 43 = .ok (.invokevirtual 257, 3) := by decide +kernel
theorem dX12_expression_46 : decode cX12_expression 46 = .ok (.aload_n 0, 1) := by decide +kernel
theorem dX12_expression_47 : decode cX12_expression 47 = .ok (.getfield 242, 3) := by decide +kernel
theorem dX12_expression_50 : decode cX12_expression 50 = .ok (.ifCond .le 4, 3) := by decide +kernel
theorem dX12_expression_53 : decode cX12_expression 53 = .ok (.return_, 1) := by decide +kernel
theorem dX12_expression_54 : decode cX12_expression 54 = .ok (.aload_n 0, 1) := by decide +kernel
theorem dX12_expression_55 : decode cX12_expression 55 = .ok (.dup, 1) := by decide +kernel
theorem dX12_expression_56 : decode cX12_expression 56 = .ok (.getfield 269, 3) := by decide +kernel
theorem dX12_expression_59 : decode cX12_expression 59 = .ok (.iconst 1, 1) := by decide +kernel
theorem dX12_expression_60 : decode cX12_expression 60 = .ok (.iadd, 1) := by decide +kernel
theorem dX12_expression_61 : decode cX12_expression 61 = .ok (.putfield 269, 3) := by decide +kernel
theorem dX12_expression_64 : decode cX12_expression 64 = .ok (.aload_n 0, 1) := by decide +kernel
theorem dX12_expression_65 : decode cX12_expression 65 = .ok (.invokevirtual 263, 3) := by decide +kernel
theorem dX12_expression_68 : decode cX12_expression 68 = .ok (.aload_n 0, 1) := by decide +kernel
theorem dX12_expression_69 : decode cX12_expression 69 = .ok (.getfield 83, 3) := by decide +kernel
theorem dX12_expression_72 : decode cX12_expression 72 = .ok (.aload_n 0, 1) := by decide +kernel
theorem dX12_expression_73 : decode cX12_expression 73 = .ok (.getfield 294, 3) := by decide +kernel
theorem dX12_expression_76 : decode cX12_expression 76 = .ok (.bipush 6, 2) := by decide +kernel
theorem dX12_expression_78 : decode cX12_expression 78 = .ok (.iastore, 1) := by decide +kernel
theorem dX12_expression_79 : decode cX12_expression 79 = .ok (.aload_n 0, 1) := by decide +kernel
theorem dX12_expression_80 : decode cX12_expression 80 = .ok (.dup, 1) := by decide +kernel
theorem dX12_expression_81 : decode cX12_expression 81 = .ok (.getfield 294, 3) := by decide +kernel
theorem dX12_expression_84 : decode cX12_expression 84 = .ok (.iconst 1, 1) := by decide +kernel
theorem dX12_expression_85 : decode cX12_expression 85 = .ok (.iadd, 1) := by decide +kernel
theorem dX12_expression_86 : decode cX12_expression 86 = .ok (.putfield 294, 3) := by decide +kernel
theorem dX12_expression_89 : decode cX12_expression 89 = .ok (.goto (-77), 3) := by decide +kernel
theorem dX12_expression_92 : decode cX12_expression 92 = .ok (.aload_n 0, 1) := by decide +kernel
theorem dX12_expression_93 : decode cX12_expression 93 = .ok (.getfield 242, 3) := by decide +kernel
theorem dX12_expression_96 : decode cX12_expression 96 = .ok (.ifCond .ne 35, 3) := by decide +kernel
theorem dX12_expression_99 : decode cX12_expression 99 = .ok (.aload_n 0, 1) := by decide +kernel
theorem dX12_expression_100 : decode cX12_expression 100 = .ok (.getfield 20, 3) := by decide +kernel
theorem dX12_expression_103 : decode cX12_expression 103 = .ok (.aload_n 0, 1) := by decide +kernel
theorem dX12_expression_104 : decode cX12_expression 104 = .ok (.getfield 245, 3) := by decide +kernel
theorem dX12_expression_107 : decode cX12_expression 107 = .ok (.iaload, 1) := by decide +kernel
theorem dX12_expression_108 : decode cX12_expression 108 = .ok (.bipush 26, 2) := by decide +kernel
theorem dX12_expression_110 : decode cX12_expression 110 = .ok (.if_icmp .lt 21, 3) := by decide +kernel
theorem dX12_expression_113 : decode cX12_expression 113 = .ok (.aload_n 0, 1) := by decide +kernel
theorem dX12_expression_114 : decode cX12_expression 114 = .ok (.getfield 20, 3) := by decide +kernel
theorem dX12_expression_117 : decode cX12_expression 117 = .ok (.aload_n 0, 1) := by decide +kernel
theorem dX12_expression_118 : decode cX12_expression 118 = .ok (.getfield 245, 3) := by decide +kernel
theorem dX12_expression_121 : decode cX12_expression 121 = .ok (.iaload, 1) := by decide +kernel
theorem dX12_expression_122 : decode cX12_expression 122 = .ok (.bipush 34, 2) := by decide +kernel
theorem dX12_expression_124 : decode cX12_expression 124 = .ok (.if_icmp .gt 7, 3) := by decide +kernel
theorem dX12_expression_127 : decode cX12_expression 127 = .ok (.iconst 1, 1) := by decide +kernel
theorem dX12_expression_128 : decode cX12_expression 128 = .ok (.goto 4, 3) := by decide +kernel
theorem dX12_expression_131 : decode cX12_expression 131 = .ok (.iconst 0, 1) := by decide +kernel
theorem dX12_expression_132 : decode cX12_expression 132 = .ok (.istore_n 3, 1) := by decide +kernel
theorem dX12_expression_133 : decode cX12_expression 133 = .ok (.aload_n 0, 1) := by decide +kernel
theorem dX12_expression_134 : decode cX12_expression 134 = .ok (.iconst 2, 1) := by decide +kernel
theorem dX12_expression_135 : decode cX12_expression 135 = .ok (.invokevirtual 260, 3) := by decide +kernel
theorem dX12_expression_138 : decode cX12_expression 138 = .ok (.ifCond .ne 12, 3) := by decide +kernel
theorem dX12_expression_141 : decode cX12_expression 141 = .ok (.iload_n 3, 1) := by decide +kernel
theorem dX12_expression_142 : decode cX12_expression 142 = .ok (.ifCond .ne 8, 3) := by decide +kernel
theorem dX12_expression_145 : decode cX12_expression 145 = .ok (.aload_n 0, 1) := by decide +kernel
theorem dX12_expression_146 : decode cX12_expression 146 = .ok (.iconst 1, 1) := by decide +kernel
theorem dX12_expression_147 : decode cX12_expression 147 = .ok (.invokevirtual 257, 3) := by decide +kernel
theorem dX12_expression_150 : decode cX12_expression 150 = .ok (.aload_n 0, 1) := by decide +kernel
theorem dX12_expression_151 : decode cX12_expression 151 = .ok (.getfield 242, 3) := by decide +kernel
theorem dX12_expression_154 : decode cX12_expression 154 = .ok (.ifCond .le 4, 3) := by decide +kernel
theorem dX12_expression_157 : decode cX12_expression 157 = .ok (.return_, 1) := by decide +kernel
theorem dX12_expression_158 : decode cX12_expression 158 = .ok (.iload_n 3, 1) := by decide +kernel
theorem dX12_expression_159 : decode cX12_expression 159 = .ok (.ifCond .eq 23, 3) := by decide +kernel
theorem dX12_expression_162 : decode cX12_expression 162 = .ok (.aload_n 0, 1) := by decide +kernel
theorem dX12_expression_163 : decode cX12_expression 163 = .ok (.iconst 1, 1) := by decide +kernel
theorem dX12_expression_164 : decode cX12_expression 164 = .ok (.aload_n 0, 1) := by decide +kernel
theorem dX12_expression_165 : decode cX12_expression 165 = .ok (.getfield 20, 3) := by decide +kernel
theorem dX12_expression_168 : decode cX12_expression 168 = .ok (.aload_n 0, 1) := by decide +kernel
theorem dX12_expression_169 : decode cX12_expression 169 = .ok (.getfield 245, 3) := by decide +kernel
theorem dX12_expression_172 : decode cX12_expression 172 = .ok (.iaload, 1) := by decide +kernel
theorem dX12_expression_173 : decode cX12_expression 173 = .ok (.bipush 26, 2) := by decide +kernel
theorem dX12_expression_175 : decode cX12_expression 175 = .ok (.isub, 1) := by decide +kernel
theorem dX12_expression_176 : decode cX12_expression 176 = .ok (.invokevirtual 297, 3) := by decide +kernel
theorem dX12_expression_179 : decode cX12_expression 179 = .ok (.goto 17, 3) := by decide +kernel
theorem dX12_expression_182 : decode cX12_expression 182 = .ok (.aload_n 0, 1) := by decide +kernel
theorem dX12_expression_183 : decode cX12_expression 183 = .ok (.iconst 0, 1) := by decide +kernel
theorem dX12_expression_184 : decode cX12_expression 184 = .ok (.aload_n 0, 1) := by decide +kernel
theorem dX12_expression_185 : decode cX12_expression 185 = .ok (.getfield 27, 3) := by decide +kernel
theorem dX12_expression_188 : decode cX12_expression 188 = .ok (.aload_n 0, 1) := by decide +kernel
theorem dX12_expression_189 : decode cX12_expression 189 = .ok (.getfield 245, 3) := by decide +kernel
theorem dX12_expression_192 : decode cX12_expression 192 = .ok (.iaload, 1) := by decide +kernel
theorem dX12_expression_193 : decode cX12_expression 193 = .ok (.invokevirtual 297, 3) := by decide +kernel
theorem dX12_expression_196 : decode cX12_expression 196 = .ok (.aload_n 0, 1) := by decide +kernel
theorem dX12_expression_197 : decode cX12_expression 197 = .ok (.invokevirtual 263, 3) := by decide +kernel
theorem dX12_expression_200 : decode cX12_expression 200 = .ok (.aload_n 0, 1) := by decide +kernel
theorem dX12_expression_201 : decode cX12_expression 201 = .ok (.bipush 7, 2) := by decide +kernel
theorem dX12_expression_203 : decode cX12_expression 203 = .ok (.invokevirtual 260, 3) := by decide +kernel
theorem dX12_expression_206 : decode cX12_expression 206 = .ok (.ifCond .eq 43, 3) := by decide +kernel
theorem dX12_expression_209 : decode cX12_expression 209 = .ok (.aload_n 0, 1) := by decide +kernel
theorem dX12_expression_210 : decode cX12_expression 210 = .ok (.getfield 269, 3) := by decide +kernel
theorem dX12_expression_213 : decode cX12_expression 213 = .ok (.iload_n 1, 1) := by decide +kernel
theorem dX12_expression_214 : decode cX12_expression 214 = .ok (.if_icmp .le 35, 3) := by decide +kernel
theorem dX12_expression_217 : decode cX12_expression 217 = .ok (.aload_n 0, 1) := by decide +kernel
theorem dX12_expression_218 : decode cX12_expression 218 = .ok (.iconst 0, 1) := by decide +kernel
theorem dX12_expression_219 : decode cX12_expression 219 = .ok (.invokevirtual 301, 3) := by decide +kernel
theorem dX12_expression_222 : decode cX12_expression 222 = .ok (.aload_n 0, 1) := by decide +kernel
theorem dX12_expression_223 : decode cX12_expression 223 = .ok (.dup, 1) := by decide +kernel
theorem dX12_expression_224 : decode cX12_expression 224 = .ok (.getfield 294, 3) := by decide +kernel
theorem dX12_expression_227 : decode cX12_expression 227 = .ok (.iconst 1, 1) := by decide +kernel
theorem dX12_expression_228 : decode cX12_expression 228 = .ok (.isub, 1) := by decide +kernel
theorem dX12_expression_229 : decode cX12_expression 229 = .ok (.putfield 294, 3) := by decide +kernel
theorem dX12_expression_232 : decode cX12_expression 232 = .ok (.aload_n 0, 1) := by decide +kernel
theorem dX12_expression_233 : decode cX12_expression 233 = .ok (.dup, 1) := by decide +kernel
theorem dX12_expression_234 : decode cX12_expression 234 = .ok (.getfield 269, 3) := by decide +kernel
theorem dX12_expression_237 : decode cX12_expression 237 = .ok (.iconst 1, 1) := by decide +kernel
theorem dX12_expression_238 : decode cX12_expression 238 = .ok (.isub, 1) := by decide +kernel
theorem dX12_expression_239 : decode cX12_expression 239 = .ok (.putfield 269, 3) := by decide +kernel
theorem dX12_expression_242 : decode cX12_expression 242 = .ok (.aload_n 0, 1) := by decide +kernel
theorem dX12_expression_243 : decode cX12_expression 243 = .ok (.invokevirtual 263, 3) := by decide +kernel
theorem dX12_expression_246 : decode cX12_expression 246 = .ok (.goto (-46), 3) := by decide +kernel
theorem dX12_expression_249 : decode cX12_expression 249 = .ok (.aload_n 0, 1) := by decide +kernel
theorem dX12_expression_250 : decode cX12_expression 250 = .ok (.bipush 8, 2) := by decide +kernel
theorem dX12_expression_252 : decode cX12_expression 252 = .ok (.invokevirtual 260, 3) := by decide +kernel
theorem dX12_expression_255 : decode cX12_expression 255 = .ok (.ifCond .ne 21, 3) := by decide +kernel
theorem dX12_expression_258 : decode cX12_expression 258 = .ok (.aload_n 0, 1) := by decide +kernel
theorem dX12_expression_259 : decode cX12_expression 259 = .ok (.bipush 9, 2) := by decide +kernel
theorem dX12_expression_261 : decode cX12_expression 261 = .ok (.invokevirtual 260, 3) := by decide +kernel
theorem dX12_expression_264 : decode cX12_expression 264 = .ok (.ifCond .ne 12, 3) := by decide +kernel
theorem dX12_expression_267 : decode cX12_expression 267 = .ok (.aload_n 0, 1) := by decide +kernel
theorem dX12_expression_268 : decode cX12_expression 268 = .ok (.bipush 10, 2) := by decide +kernel
theorem dX12_expression_270 : decode cX12_expression 270 = .ok (.invokevirtual 260, 3) := by decide +kernel
theorem dX12_expression_273 : decode cX12_expression 273 = .ok (.ifCond .eq 7, 3) := by decide +kernel
theorem dX12_expression_276 : decode cX12_expression 276 = .ok (.iconst 1, 1) := by decide +kernel
theorem dX12_expression_277 : decode cX12_expression 277 = .ok (.goto 4, 3) := by decide +kernel
theorem dX12_expression_280 : decode cX12_expression 280 = .ok (.iconst 0, 1) := by decide +kernel
theorem dX12_expression_281 : decode cX12_expression 281 = .ok (.istore_n 2, 1) := by decide +kernel
theorem dX12_expression_282 : decode cX12_expression 282 = .ok (.iload_n 2, 1) := by decide +kernel
theorem dX12_expression_283 : decode cX12_expression 283 = .ok (.ifCond .ne 22, 3) := by decide +kernel
theorem dX12_expression_286 : decode cX12_expression 286 = .ok (.aload_n 0, 1) := by decide +kernel
theorem dX12_expression_287 : decode cX12_expression 287 = .ok (.getfield 269, 3) := by decide +kernel
theorem dX12_expression_290 : decode cX12_expression 290 = .ok (.iload_n 1, 1) := by decide +kernel
theorem dX12_expression_291 : decode cX12_expression 291 = .ok (.if_icmp .le 8, 3) := by decide +kernel
theorem dX12_expression_294 : decode cX12_expression 294 = .ok (.aload_n 0, 1) := by decide +kernel
theorem dX12_expression_295 : decode cX12_expression 295 = .ok (.iconst 1, 1) := by decide +kernel
theorem dX12_expression_296 : decode cX12_expression 296 = .ok (.invokevirtual 257, 3) := by decide +kernel
theorem dX12_expression_299 : decode cX12_expression 299 = .ok (.aload_n 0, 1) := by decide +kernel
theorem dX12_expression_300 : decode cX12_expression 300 = .ok (.iconst 0, 1) := by decide +kernel
theorem dX12_expression_301 : decode cX12_expression 301 = .ok (.invokevirtual 301, 3) := by decide +kernel
theorem dX12_expression_304 : decode cX12_expression 304 = .ok (.return_, 1) := by decide +kernel
theorem dX12_expression_305 : decode cX12_expression 305 = .ok (.aload_n 0, 1) := by decide +kernel
theorem dX12_expression_306 : decode cX12_expression 306 = .ok (.getfield 20, 3) := by decide +kernel
theorem dX12_expression_309 : decode cX12_expression 309 = .ok (.aload_n 0, 1) := by decide +kernel
theorem dX12_expression_310 : decode cX12_expression 310 = .ok (.getfield 245, 3) := by decide +kernel
theorem dX12_expression_313 : decode cX12_expression 313 = .ok (.iaload, 1) := by decide +kernel
theorem dX12_expression_314 : decode cX12_expression 314 = .ok (.istore 4, 2) := by decide +kernel
theorem dX12_expression_316 : decode cX12_expression 316 = .ok (.aload_n 0, 1) := by decide +kernel
theorem dX12_expression_317 : decode cX12_expression 317 = .ok (.iload 4, 2) := by decide +kernel
theorem dX12_expression_319 : decode cX12_expression 319 = .ok (.bipush 10, 2) := by decide +kernel
theorem dX12_expression_321 : decode cX12_expression 321 = .ok (.if_icmp .ne 7, 3) := by decide +kernel
theorem dX12_expression_324 : decode cX12_expression 324 = .ok (.iconst 1, 1) := by decide +kernel
theorem dX12_expression_325 : decode cX12_expression 325 = .ok (.goto 4, 3) := by decide +kernel
theorem dX12_expression_328 : decode cX12_expression 328 = .ok (.iconst 0, 1) := by decide +kernel
theorem dX12_expression_329 : decode cX12_expression 329 = .ok (.invokevirtual 301, 3) := by decide +kernel
theorem dX12_expression_332 : decode cX12_expression 332 = .ok (.aload_n 0, 1) := by decide +kernel
theorem dX12_expression_333 : decode cX12_expression 333 = .ok (.getfield 83, 3) := by decide +kernel
theorem dX12_expression_336 : decode cX12_expression 336 = .ok (.aload_n 0, 1) := by decide +kernel
theorem dX12_expression_337 : decode cX12_expression 337 = .ok (.getfield 294, 3) := by decide +kernel
theorem dX12_expression_340 : decode cX12_expression 340 = .ok (.iload 4, 2) := by decide +kernel
theorem dX12_expression_342 : decode cX12_expression 342 = .ok (.iastore, 1) := by decide +kernel
theorem dX12_expression_343 : decode cX12_expression 343 = .ok (.aload_n 0, 1) := by decide +kernel
theorem dX12_expression_344 : decode cX12_expression 344 = .ok (.dup, 1) := by decide +kernel
theorem dX12_expression_345 : decode cX12_expression 345 = .ok (.getfield 294, 3) := by decide +kernel
theorem dX12_expression_348 : decode cX12_expression 348 = .ok (.iconst 1, 1) := by decide +kernel
theorem dX12_expression_349 : decode cX12_expression 349 = .ok (.iadd, 1) := by decide +kernel
theorem dX12_expression_350 : decode cX12_expression 350 = .ok (.putfield 294, 3) := by decide +kernel
theorem dX12_expression_353 : decode cX12_expression 353 = .ok (.aload_n 0, 1) := by decide +kernel
theorem dX12_expression_354 : decode cX12_expression 354 = .ok (.invokevirtual 263, 3) := by decide +kernel
theorem dX12_expression_357 : decode cX12_expression 357 = .ok (.goto (-345), 3) := by decide +kernel
theorem dX12_expression_360 : decode cX12_expression 360 = .ok (.return_, 1) := by decide +kernel
theorem dX12_isAct_0 : decode cX12_isAct 0 = .ok (.iload_n 1, 1) := by decide +kernel
theorem dX12_isAct_1 : decode cX12_isAct 1 = .ok (.ifCond .lt 15, 3) := by decide +kernel
theorem dX12_isAct_4 : decode cX12_isAct 4 = .ok (.iload_n 1, 1) := by decide +kernel
theorem dX12_isAct_5 : decode cX12_isAct 5 = .ok (.aload_n 0, 1) := by decide +kernel
theorem dX12_isAct_6 : decode cX12_isAct 6 = .ok (.getfield 304, 3) := by decide +kernel
theorem dX12_isAct_9 : decode cX12_isAct 9 = .ok (.if_icmp .ge 7, 3) := by decide +kernel
theorem dX12_isAct_12 : decode cX12_isAct 12 = .ok (.iconst 1, 1) := by decide +kernel
theorem dX12_isAct_13 : decode cX12_isAct 13 = .ok (.goto 4, 3) := by decide +kernel
theorem dX12_isAct_16 : decode cX12_isAct 16 = .ok (.iconst 0, 1) := by decide +kernel
theorem dX12_isAct_17 : decode cX12_isAct 17 = .ok (.ireturn, 1) := by decide +kernel
theorem dX12_isMinute_0 : decode cX12_isMinute 0 = .ok (.iload_n 0, 1) := by decide +kernel
theorem dX12_isMinute_1 : decode cX12_isMinute 1 = .ok (.ifCond .lt 14, 3) := by decide +kernel
theorem dX12_isMinute_4 : decode cX12_isMinute 4 = .ok (.iload_n 0, 1) := by decide +kernel
theorem dX12_isMinute_5 : decode cX12_isMinute 5 = .ok (.sipush 240, 3) := by decide +kernel
theorem dX12_isMinute_8 : decode cX12_isMinute 8 = .ok (.if_icmp .ge 7, 3) := by decide +kernel
theorem dX12_isMinute_11 : decode cX12_isMinute 11 = .ok (.iconst 1, 1) := by decide +kernel
theorem dX12_isMinute_12 : decode cX12_isMinute 12 = .ok (.goto 4, 3) := by decide +kernel
theorem dX12_isMinute_15 : decode cX12_isMinute 15 = .ok (.iconst 0, 1) := by decide +kernel
theorem dX12_isMinute_16 : decode cX12_isMinute 16 = .ok (.ireturn, 1) := by decide +kernel
theorem dX12_isKnown_0 : decode cX12_isKnown 0 = .ok (.iload_n 1, 1) := by decide +kernel
theorem dX12_isKnown_1 : decode cX12_isKnown 1 = .ok (.ifCond .lt 15, 3) := by decide +kernel
theorem dX12_isKnown_4 : decode cX12_isKnown 4 = .ok (.iload_n 1, 1) := by decide +kernel
theorem dX12_isKnown_5 : decode cX12_isKnown 5 = .ok (.aload_n 0, 1) := by decide +kernel
theorem dX12_isKnown_6 : decode cX12_isKnown 6 = .ok (.getfield 307, 3) := by decide +kernel
theorem dX12_isKnown_9 : decode cX12_isKnown 9 = .ok (.if_icmp .gt 7, 3) := by decide +kernel
theorem dX12_isKnown_12 : decode cX12_isKnown 12 = .ok (.iconst 1, 1) := by decide +kernel
theorem dX12_isKnown_13 : decode cX12_isKnown 13 = .ok (.goto 4, 3) := by decide +kernel
theorem dX12_isKnown_16 : decode cX12_isKnown 16 = .ok (.iconst 0, 1) := by decide +kernel
theorem dX12_isKnown_17 : decode cX12_isKnown 17 = .ok (.ireturn, 1) := by decide +kernel
theorem dX12_act_0 : decode cX12_act 0 = .ok (.aload_n 0, 1) := by decide +kernel
theorem dX12_act_1 : decode cX12_act 1 = .ok (.getfield 304, 3) := by decide +kernel
theorem dX12_act_4 : decode cX12_act 4 = .ok (.bipush 6, 2) := by decide +kernel
theorem dX12_act_6 : decode cX12_act 6 = .ok (.if_icmp .eq 71, 3) := by decide +kernel
theorem dX12_act_9 : decode cX12_act 9 = .ok (.iload_n 1, 1) := by decide +kernel
theorem dX12_act_10 : decode cX12_act 10 = .ok (.ifCond .lt 67, 3) := by decide +kernel
theorem dX12_act_13 : decode cX12_act 13 = .ok (.iload_n 1, 1) := by decide +kernel
theorem dX12_act_14 : decode cX12_act 14 = .ok (.iconst 3, 1) := by decide +kernel
theorem dX12_act_15 : decode cX12_act 15 = .ok (.if_icmp .gt 62, 3) := by decide +kernel
theorem dX12_act_18 : decode cX12_act 18 = .ok (.iload_n 2, 1) := by decide +kernel
theorem dX12_act_19 : decode cX12_act 19 = .ok (.ifCond .lt 58, 3) := by decide +kernel
theorem dX12_act_22 : decode cX12_act 22 = .ok (.iload_n 2, 1) := by decide +kernel
theorem dX12_act_23 : decode cX12_act 23 = .ok (.bipush 7, 2) := by decide +kernel
theorem dX12_act_25 : decode cX12_act 25 = .ok (.if_icmp .gt 52, 3) := by decide +kernel
theorem dX12_act_28 : decode cX12_act 28 = .ok (.iload_n 3, 1) := by decide +kernel
theorem dX12_act_29 : decode cX12_act 29 = .ok (.ifCond .lt 48, 3) := by decide +kernel
theorem dX12_act_32 : decode cX12_act 32 = .ok (.iload_n 3, 1) := by decide +kernel
theorem dX12_act_33 : decode cX12_act 33 = .ok (.bipush 100, 2) := by decide +kernel
theorem dX12_act_35 : decode cX12_act 35 = .ok (.if_icmp .gt 42, 3) := by decide +kernel
theorem dX12_act_38 : decode cX12_act 38 = .ok (.iload 4, 2) := by decide +kernel
theorem dX12_act_40 : decode cX12_act 40 = .ok (.iconst 1, 1) := by decide +kernel
theorem dX12_act_41 : decode cX12_act 41 = .ok (.if_icmp .lt 36, 3) := by decide +kernel
theorem dX12_act_44 : decode cX12_act 44 = .ok (.iload 4, 2) := by decide +kernel
theorem dX12_act_46 : decode cX12_act 46 = .ok (.bipush 20, 2) := by decide +kernel
theorem dX12_act_48 : decode cX12_act 48 = .ok (.if_icmp .gt 29, 3) := by decide +kernel
theorem dX12_act_51 : decode cX12_act 51 = .ok (.iload 5, 2) := by decide +kernel
theorem dX12_act_53 : decode cX12_act 53 = .ok (.iconst 1, 1) := by decide +kernel
theorem dX12_act_54 : decode cX12_act 54 = .ok (.if_icmp .lt 23, 3) := by decide +kernel
theorem dX12_act_57 : decode cX12_act 57 = .ok (.iload 5, 2) := by decide +kernel
theorem dX12_act_59 : decode cX12_act 59 = .ok (.bipush 20, 2) := by decide +kernel
theorem dX12_act_61 : decode cX12_act 61 = .ok (.if_icmp .gt 16, 3) := by decide +kernel
theorem dX12_act_64 : decode cX12_act 64 = .ok (.iload 6, 2) := by decide +kernel
theorem dX12_act_66 : decode cX12_act 66 = .ok (.iconst 1, 1) := by decide +kernel
theorem dX12_act_67 : decode cX12_act 67 = .ok (.if_icmp .lt 10, 3) := by decide +kernel
theorem dX12_act_70 : decode cX12_act 70 = .ok (.iload 6, 2) := by decide +kernel
theorem dX12_act_72 : decode cX12_act 72 = .ok (.bipush 120, 2) := by decide +kernel
theorem dX12_act_74 : decode cX12_act 74 = .ok (.if_icmp .le 5, 3) := by decide +kernel
theorem dX12_act_77 : decode cX12_act 77 = .ok (.iconst (-1), 1) := by decide +kernel
theorem dX12_act_78 : decode cX12_act 78 = .ok (.ireturn, 1) := by decide +kernel
theorem dX12_act_79 : decode cX12_act 79 = .ok (.aload_n 0, 1) := by decide +kernel
theorem dX12_act_80 : decode cX12_act 80 = .ok (.getfield 86, 3) := by decide +kernel
theorem dX12_act_83 : decode cX12_act 83 = .ok (.aload_n 0, 1) := by decide +kernel
theorem dX12_act_84 : decode cX12_act 84 = .ok (.getfield 304, 3) := by decide +kernel
theorem dX12_act_87 : decode cX12_act 87 = .ok (.iload_n 1, 1) := by decide +kernel
theorem dX12_act_88 : decode cX12_act 88 = .ok (.iastore, 1) := by decide +kernel
theorem dX12_act_89 : decode cX12_act 89 = .ok (.aload_n 0, 1) := by decide +kernel
theorem dX12_act_90 : decode cX12_act 90 = .ok (.getfield 89, 3) := by decide +kernel
theorem dX12_act_93 : decode cX12_act 93 = .ok (.aload_n 0, 1) := by decide +kernel
theorem dX12_act_94 : decode cX12_act 94 = .ok (.getfield 304, 3) := by decide +kernel
theorem dX12_act_97 : decode cX12_act 97 = .ok (.iload_n 2, 1) := by decide +kernel
theorem dX12_act_98 : decode cX12_act 98 = .ok (.iastore, 1) := by decide +kernel
theorem dX12_act_99 : decode cX12_act 99 = .ok (.aload_n 0, 1) := by decide +kernel
theorem dX12_act_100 : decode cX12_act 100 = .ok (.getfield 92, 3) := by decide +kernel
theorem dX12_act_103 : decode cX12_act 103 = .ok (.aload_n 0, 1) := by decide +kernel
theorem dX12_act_104 : decode cX12_act 104 = .ok (.getfield 304, 3) := by decide +kernel
theorem dX12_act_107 : decode cX12_act 107 = .ok (.iload_n 3, 1) := by decide +kernel
theorem dX12_act_108 : decode cX12_act 108 = .ok (.iastore, 1) := by decide +kernel
theorem dX12_act_109 : decode cX12_act 109 = .ok (.aload_n 0, 1) := by decide +kernel
theorem dX12_act_110 : decode cX12_act 110 = .ok (.getfield 95, 3) := by decide +kernel
theorem dX12_act_113 : decode cX12_act 113 = .ok (.aload_n 0, 1) := by decide +kernel
theorem dX12_act_114 : decode cX12_act 114 = .ok (.getfield 304, 3) := by decide +kernel
theorem dX12_act_117 : decode cX12_act 117 = .ok (.iload 4, 2) := by decide +kernel
theorem dX12_act_119 : decode cX12_act 119 = .ok (.iastore, 1) := by decide +kernel
theorem dX12_act_120 : decode cX12_act 120 = .ok (.aload_n 0, 1) := by decide +kernel
theorem dX12_act_121 : decode cX12_act 121 = .ok (.getfield 98, 3) := by decide +kernel
theorem dX12_act_124 : decode cX12_act 124 = .ok (.aload_n 0, 1) := by decide +kernel
theorem dX12_act_125 : decode cX12_act 125 = .ok (.getfield 304, 3) := by decide +kernel
theorem dX12_act_128 : decode cX12_act 128 = .ok (.iload 5, 2) := by decide +kernel
theorem dX12_act_130 : decode cX12_act 130 = .ok (.iastore, 1) := by decide +kernel
theorem dX12_act_131 : decode cX12_act 131 = .ok (.aload_n 0, 1) := by decide +kernel
theorem dX12_act_132 : decode cX12_act 132 = .ok (.getfield 101, 3) := by decide +kernel
theorem dX12_act_135 : decode cX12_act 135 = .ok (.aload_n 0, 1) := by decide +kernel
theorem dX12_act_136 : decode cX12_act 136 = .ok (.getfield 304, 3) := by decide +kernel
theorem dX12_act_139 : decode cX12_act 139 = .ok (.iload 6, 2) := by decide +kernel
theorem dX12_act_141 : decode cX12_act 141 = .ok (.iastore, 1) := by decide +kernel
theorem dX12_act_142 : decode cX12_act 142 = .ok (.aload_n 0, 1) := by decide +kernel
theorem dX12_act_143 : decode cX12_act 143 = .ok (.getfield 104, 3) := by decide +kernel
theorem dX12_act_146 : decode cX12_act 146 = .ok (.aload_n 0, 1) := by decide +kernel
theorem dX12_act_147 : decode cX12_act 147 = .ok (.getfield 304, 3) := by decide +kernel
theorem dX12_act_150 : decode cX12_act 150 = .ok (.iconst 0, 1) := by decide +kernel
theorem dX12_act_151 : decode cX12_act 151 = .ok (.iastore, 1) := by decide +kernel
theorem dX12_act_152 : decode cX12_act 152 = .ok (.aload_n 0, 1) := by decide +kernel
theorem dX12_act_153 : decode cX12_act 153 = .ok (.dup, 1) := by decide +kernel
theorem dX12_act_154 : decode cX12_act 154 = .ok (.getfield 304, 3) := by decide +kernel
theorem dX12_act_157 : decode cX12_act 157 = .ok (.iconst 1, 1) := by decide +kernel
theorem dX12_act_158 : decode cX12_act 158 = .ok (.iadd, 1) := by decide +kernel
theorem dX12_act_159 : decode cX12_act 159 = .ok (.putfield 304, 3) := by decide +kernel
theorem dX12_act_162 : decode cX12_act 162 = .ok (.aload_n 0, 1) := by decide +kernel
theorem dX12_act_163 : decode cX12_act 163 = .ok (.getfield 304, 3) := by decide +kernel
theorem dX12_act_166 : decode cX12_act 166 = .ok (.iconst 1, 1) := by decide +kernel
theorem dX12_act_167 : decode cX12_act 167 = .ok (.isub, 1) := by decide +kernel
theorem dX12_act_168 : decode cX12_act 168 = .ok (.ireturn, 1) := by decide +kernel
theorem dX12_figure_0 : decode cX12_figure 0 = .ok (.aload_n 0, 1) := by decide +kernel
theorem dX12_figure_1 : decode cX12_figure 1 = .ok (.iload_n 1, 1) := by decide +kernel
theorem dX12_figure_2 : decode cX12_figure 2 = .ok (.invokevirtual 310, 3) := by decide +kernel
theorem dX12_figure_5 : decode cX12_figure 5 = .ok (.ifCond .eq 47, 3) := by decide +kernel
theorem dX12_figure_8 : decode cX12_figure 8 = .ok (.aload_n 0, 1) := by decide +kernel
theorem dX12_figure_9 : decode cX12_figure 9 = .ok (.getfield 104, 3) := by decide +kernel
theorem dX12_figure_12 : decode cX12_figure 12 = .ok (.iload_n 1, 1) := by decide +kernel
theorem dX12_figure_13 : decode cX12_figure 13 = .ok (.iaload, 1) := by decide +kernel
theorem dX12_figure_14 : decode cX12_figure 14 = .ok (.bipush 6, 2) := by decide +kernel
theorem dX12_figure_16 : decode cX12_figure 16 = .ok (.if_icmp .eq 36, 3) := by decide +kernel
theorem dX12_figure_19 : decode cX12_figure 19 = .ok (.iload_n 2, 1) := by decide +kernel
theorem dX12_figure_20 : decode cX12_figure 20 = .ok (.iconst 1, 1) := by decide +kernel
theorem dX12_figure_21 : decode cX12_figure 21 = .ok (.if_icmp .lt 31, 3) := by decide +kernel
theorem dX12_figure_24 : decode cX12_figure 24 = .ok (.iload_n 2, 1) := by decide +kernel
theorem dX12_figure_25 : decode cX12_figure 25 = .ok (.bipush 9, 2) := by decide +kernel
theorem dX12_figure_27 : decode cX12_figure 27 = .ok (.if_icmp .gt 25, 3) := by decide +kernel
theorem dX12_figure_30 : decode cX12_figure 30 = .ok (.iload_n 3, 1) := by decide +kernel
theorem dX12_figure_31 : decode cX12_figure 31 = .ok (.ifCond .lt 21, 3) := by decide +kernel
theorem dX12_figure_34 : decode cX12_figure 34 = .ok (.iload_n 3, 1) := by decide +kernel
theorem dX12_figure_35 : decode cX12_figure 35 = .ok (.bipush 20, 2) := by decide +kernel
theorem dX12_figure_37 : decode cX12_figure 37 = .ok (.if_icmp .gt 15, 3) := by decide +kernel
theorem dX12_figure_40 : decode cX12_figure 40 = .ok (.iload 4, 2) := by decide +kernel
theorem dX12_figure_42 : decode cX12_figure 42 = .ok (.ifCond .lt 10, 3) := by decide +kernel
theorem dX12_figure_45 : decode cX12_figure 45 = .ok (.iload 4, 2) := by decide +kernel
theorem dX12_figure_47 : decode cX12_figure 47 = .ok (.bipush 9, 2) := by decide +kernel
theorem dX12_figure_49 : decode cX12_figure 49 = .ok (.if_icmp .le 5, 3) := by decide +kernel
theorem dX12_figure_52 : decode cX12_figure 52 = .ok (.iconst (-1), 1) := by decide +kernel
theorem dX12_figure_53 : decode cX12_figure 53 = .ok (.ireturn, 1) := by decide +kernel
theorem dX12_figure_54 : decode cX12_figure 54 = .ok (.bipush 6, 2) := by decide +kernel
theorem dX12_figure_56 : decode cX12_figure 56 = .ok (.iload_n 1, 1) := by decide +kernel
theorem dX12_figure_57 : decode cX12_figure 57 = .ok (.imul, 1) := by decide +kernel
theorem dX12_figure_58 : decode cX12_figure 58 = .ok (.aload_n 0, 1) := by decide +kernel
theorem dX12_figure_59 : decode cX12_figure 59 = .ok (.getfield 104, 3) := by decide +kernel
theorem dX12_figure_62 : decode cX12_figure 62 = .ok (.iload_n 1, 1) := by decide +kernel
theorem dX12_figure_63 : decode cX12_figure 63 = .ok (.iaload, 1) := by decide +kernel
theorem dX12_figure_64 : decode cX12_figure 64 = .ok (.iadd, 1) := by decide +kernel
theorem dX12_figure_65 : decode cX12_figure 65 = .ok (.istore 6, 2) := by decide +kernel
theorem dX12_figure_67 : decode cX12_figure 67 = .ok (.aload_n 0, 1) := by decide +kernel
theorem dX12_figure_68 : decode cX12_figure 68 = .ok (.getfield 107, 3) := by decide +kernel
theorem dX12_figure_71 : decode cX12_figure 71 = .ok (.iload 6, 2) := by decide +kernel
theorem dX12_figure_73 : decode cX12_figure 73 = .ok (.iload_n 2, 1) := by decide +kernel
theorem dX12_figure_74 : decode cX12_figure 74 = .ok (.iastore, 1) := by decide +kernel
theorem dX12_figure_75 : decode cX12_figure 75 = .ok (.aload_n 0, 1) := by decide +kernel
theorem dX12_figure_76 : decode cX12_figure 76 = .ok (.getfield 110, 3) := by decide +kernel
theorem dX12_figure_79 : decode cX12_figure 79 = .ok (.iload 6, 2) := by decide +kernel
theorem dX12_figure_81 : decode cX12_figure 81 = .ok (.iload_n 3, 1) := by decide +kernel
theorem dX12_figure_82 : decode cX12_figure 82 = .ok (.iastore, 1) := by decide +kernel
theorem dX12_figure_83 : decode cX12_figure 83 = .ok (.aload_n 0, 1) := by decide +kernel
theorem dX12_figure_84 : decode cX12_figure 84 = .ok (.getfield 113, 3) := by decide +kernel
theorem dX12_figure_87 : decode cX12_figure 87 = .ok (.iload 6, 2) := by decide +kernel
theorem dX12_figure_89 : decode cX12_figure 89 = .ok (.iload 4, 2) := by decide +kernel
theorem dX12_figure_91 : decode cX12_figure 91 = .ok (.iastore, 1) := by decide +kernel
theorem dX12_figure_92 : decode cX12_figure 92 = .ok (.aload_n 0, 1) := by decide +kernel
theorem dX12_figure_93 : decode cX12_figure 93 = .ok (.getfield 116, 3) := by decide +kernel
theorem dX12_figure_96 : decode cX12_figure 96 = .ok (.iload 6, 2) := by decide +kernel
theorem dX12_figure_98 : decode cX12_figure 98 = .ok (.iload 5, 2) := by decide +kernel
theorem dX12_figure_100 : decode cX12_figure 100 = .ok (.bastore, 1) := by decide +kernel
theorem dX12_figure_101 : decode cX12_figure 101 = .ok (.aload_n 0, 1) := by decide +kernel
theorem dX12_figure_102 : decode cX12_figure 102 = .ok (.getfield 104, 3) := by decide +kernel
theorem dX12_figure_105 : decode cX12_figure 105 = .ok (.iload_n 1, 1) := by decide +kernel
theorem dX12_figure_106 : decode cX12_figure 106 = .ok (.dup2, 1) := by decide +kernel
theorem dX12_figure_107 : decode cX12_figure 107 = .ok (.iaload, 1) := by decide +kernel
theorem dX12_figure_108 : decode cX12_figure 108 = .ok (.iconst 1, 1) := by decide +kernel
theorem dX12_figure_109 : decode cX12_figure 109 = .ok (.iadd, 1) := by decide +kernel
theorem dX12_figure_110 : decode cX12_figure 110 = .ok (.iastore, 1) := by decide +kernel
theorem dX12_figure_111 : decode cX12_figure 111 = .ok (.aload_n 0, 1) := by decide +kernel
theorem dX12_figure_112 : decode cX12_figure 112 = .ok (.getfield 104, 3) := by decide +kernel
theorem dX12_figure_115 : decode cX12_figure 115 = .ok (.iload_n 1, 1) := by decide +kernel
theorem dX12_figure_116 : decode cX12_figure 116 = .ok (.iaload, 1) := by decide +kernel
theorem dX12_figure_117 : decode cX12_figure 117 = .ok (.iconst 1, 1) := by decide +kernel
theorem dX12_figure_118 : decode cX12_figure 118 = .ok (.isub, 1) := by decide +kernel
theorem dX12_figure_119 : decode cX12_figure 119 = .ok (.ireturn, 1) := by decide +kernel
theorem dX12_falls_0 : decode cX12_falls 0 = .ok (.iload_n 1, 1) := by decide +kernel
theorem dX12_falls_1 : decode cX12_falls 1 = .ok (.bipush 10, 2) := by decide +kernel
theorem dX12_falls_3 : decode cX12_falls 3 = .ok (.if_icmp .eq 10, 3) := by decide +kernel
theorem dX12_falls_6 : decode cX12_falls 6 = .ok (.iload_n 1, 1) := by decide +kernel
theorem dX12_falls_7 : decode cX12_falls 7 = .ok (.iconst (-1), 1) := by decide +kernel
theorem dX12_falls_8 : decode cX12_falls 8 = .ok (.if_icmp .eq 5, 3) := by decide +kernel
theorem dX12_falls_11 : decode cX12_falls 11 = .ok (.iconst 0, 1) := by decide +kernel
theorem dX12_falls_12 : decode cX12_falls 12 = .ok (.ireturn, 1) := by decide +kernel
theorem dX12_falls_13 : decode cX12_falls 13 = .ok (.aload_n 0, 1) := by decide +kernel
theorem dX12_falls_14 : decode cX12_falls 14 = .ok (.iload_n 1, 1) := by decide +kernel
theorem dX12_falls_15 : decode cX12_falls 15 = .ok (.putfield 201, 3) := by decide +kernel
theorem dX12_falls_18 : decode cX12_falls 18 = .ok (.iconst 0, 1) := by decide +kernel
theorem dX12_falls_19 : decode cX12_falls 19 = .ok (.istore_n 2, 1) := by decide +kernel
theorem dX12_falls_20 : decode cX12_falls 20 = .ok (.iload_n 2, 1) := by decide +kernel
theorem dX12_falls_21 : decode cX12_falls 21 = .ok (.bipush 10, 2) := by decide +kernel
theorem dX12_falls_23 : decode cX12_falls 23 = .ok (.if_icmp .ge 16, 3) := by decide +kernel
theorem dX12_falls_26 : decode cX12_falls 26 = .ok (.aload_n 0, 1) := by decide +kernel
theorem dX12_falls_27 : decode cX12_falls 27 = .ok (.getfield 119, 3) := by decide +kernel
theorem dX12_falls_30 : decode cX12_falls 30 = .ok (.iload_n 2, 1) := by decide +kernel
theorem dX12_falls_31 : decode cX12_falls 31 = .ok (.iconst 0, 1) := by decide +kernel
theorem dX12_falls_32 : decode cX12_falls 32 = .ok (.iastore, 1) := by decide +kernel
theorem dX12_falls_33 : decode cX12_falls 33 = .ok (.iinc 2 1, 3) := by decide +kernel
theorem dX12_falls_36 : decode cX12_falls 36 = .ok (.goto (-16), 3) := by decide +kernel
theorem dX12_falls_39 : decode cX12_falls 39 = .ok (.iconst 1, 1) := by decide +kernel
theorem dX12_falls_40 : decode cX12_falls 40 = .ok (.ireturn, 1) := by decide +kernel
theorem dX12_cell_0 : decode cX12_cell 0 = .ok (.iload_n 1, 1) := by decide +kernel
theorem dX12_cell_1 : decode cX12_cell 1 = .ok (.ifCond .lt 21, 3) := by decide +kernel
theorem dX12_cell_4 : decode cX12_cell 4 = .ok (.iload_n 1, 1) := by decide +kernel
theorem dX12_cell_5 : decode cX12_cell 5 = .ok (.aload_n 0, 1) := by decide +kernel
theorem dX12_cell_6 : decode cX12_cell 6 = .ok (.getfield 201, 3) := by decide +kernel
theorem dX12_cell_9 : decode cX12_cell 9 = .ok (.if_icmp .ge 13, 3) := by decide +kernel
theorem dX12_cell_12 : decode cX12_cell 12 = .ok (.iload_n 2, 1) := by decide +kernel
theorem dX12_cell_13 : decode cX12_cell 13 = .ok (.ifCond .lt 9, 3) := by decide +kernel
theorem dX12_cell_16 : decode cX12_cell 16 = .ok (.iload_n 2, 1) := by decide +kernel
theorem dX12_cell_17 : decode cX12_cell 17 = .ok (.bipush 99, 2) := by decide +kernel
theorem dX12_cell_19 : decode cX12_cell 19 = .ok (.if_icmp .le 5, 3) := by decide +kernel
theorem dX12_cell_22 : decode cX12_cell 22 = .ok (.iconst 0, 1) := by decide +kernel
theorem dX12_cell_23 : decode cX12_cell 23 = .ok (.ireturn, 1) := by decide +kernel
theorem dX12_cell_24 : decode cX12_cell 24 = .ok (.aload_n 0, 1) := by decide +kernel
theorem dX12_cell_25 : decode cX12_cell 25 = .ok (.getfield 119, 3) := by decide +kernel
theorem dX12_cell_28 : decode cX12_cell 28 = .ok (.iload_n 1, 1) := by decide +kernel
theorem dX12_cell_29 : decode cX12_cell 29 = .ok (.iload_n 2, 1) := by decide +kernel
theorem dX12_cell_30 : decode cX12_cell 30 = .ok (.iastore, 1) := by decide +kernel
theorem dX12_cell_31 : decode cX12_cell 31 = .ok (.iconst 1, 1) := by decide +kernel
theorem dX12_cell_32 : decode cX12_cell 32 = .ok (.ireturn, 1) := by decide +kernel
theorem dX12_ground_0 : decode cX12_ground 0 = .ok (.iload_n 1, 1) := by decide +kernel
theorem dX12_ground_1 : decode cX12_ground 1 = .ok (.ifCond .lt 20, 3) := by decide +kernel
theorem dX12_ground_4 : decode cX12_ground 4 = .ok (.iload_n 1, 1) := by decide +kernel
theorem dX12_ground_5 : decode cX12_ground 5 = .ok (.bipush 50, 2) := by decide +kernel
theorem dX12_ground_7 : decode cX12_ground 7 = .ok (.if_icmp .gt 14, 3) := by decide +kernel
theorem dX12_ground_10 : decode cX12_ground 10 = .ok (.iload_n 2, 1) := by decide +kernel
theorem dX12_ground_11 : decode cX12_ground 11 = .ok (.ifCond .lt 10, 3) := by decide +kernel
theorem dX12_ground_14 : decode cX12_ground 14 = .ok (.iload_n 2, 1) := by decide +kernel
theorem dX12_ground_15 : decode cX12_ground 15 = .ok (.sipush 300, 3) := by decide +kernel
theorem dX12_ground_18 : decode cX12_ground 18 = .ok (.if_icmp .le 5, 3) := by decide +kernel
theorem dX12_ground_21 : decode cX12_ground 21 = .ok (.iconst 0, 1) := by decide +kernel
theorem dX12_ground_22 : decode cX12_ground 22 = .ok (.ireturn, 1) := by decide +kernel
theorem dX12_ground_23 : decode cX12_ground 23 = .ok (.aload_n 0, 1) := by decide +kernel
theorem dX12_ground_24 : decode cX12_ground 24 = .ok (.iload_n 1, 1) := by decide +kernel
theorem dX12_ground_25 : decode cX12_ground 25 = .ok (.putfield 313, 3) := by decide +kernel
theorem dX12_ground_28 : decode cX12_ground 28 = .ok (.aload_n 0, 1) := by decide +kernel
theorem dX12_ground_29 : decode cX12_ground 29 = .ok (.iload_n 2, 1) := by decide +kernel
theorem dX12_ground_30 : decode cX12_ground 30 = .ok (.putfield 198, 3) := by decide +kernel
theorem dX12_ground_33 : decode cX12_ground 33 = .ok (.iconst 1, 1) := by decide +kernel
theorem dX12_ground_34 : decode cX12_ground 34 = .ok (.ireturn, 1) := by decide +kernel
theorem dX12_fact_0 : decode cX12_fact 0 = .ok (.aload_n 0, 1) := by decide +kernel
theorem dX12_fact_1 : decode cX12_fact 1 = .ok (.getfield 122, 3) := by decide +kernel
theorem dX12_fact_4 : decode cX12_fact 4 = .ok (.aload_n 0, 1) := by decide +kernel
theorem dX12_fact_5 : decode cX12_fact 5 = .ok (.getfield 307, 3) := by decide +kernel
theorem dX12_fact_8 : decode cX12_fact 8 = .ok (.iload_n 1, 1) := by decide +kernel
theorem dX12_fact_9 : decode cX12_fact 9 = .ok (.iastore, 1) := by decide +kernel
theorem dX12_fact_10 : decode cX12_fact 10 = .ok (.aload_n 0, 1) := by decide +kernel
theorem dX12_fact_11 : decode cX12_fact 11 = .ok (.getfield 125, 3) := by decide +kernel
theorem dX12_fact_14 : decode cX12_fact 14 = .ok (.aload_n 0, 1) := by decide +kernel
theorem dX12_fact_15 : decode cX12_fact 15 = .ok (.getfield 307, 3) := by decide +kernel
theorem dX12_fact_18 : decode cX12_fact 18 = .ok (.iload_n 2, 1) := by decide +kernel
theorem dX12_fact_19 : decode cX12_fact 19 = .ok (.iastore, 1) := by decide +kernel
theorem dX12_fact_20 : decode cX12_fact 20 = .ok (.aload_n 0, 1) := by decide +kernel
theorem dX12_fact_21 : decode cX12_fact 21 = .ok (.getfield 128, 3) := by decide +kernel
theorem dX12_fact_24 : decode cX12_fact 24 = .ok (.aload_n 0, 1) := by decide +kernel
theorem dX12_fact_25 : decode cX12_fact 25 = .ok (.getfield 307, 3) := by decide +kernel
theorem dX12_fact_28 : decode cX12_fact 28 = .ok (.iload_n 3, 1) := by decide +kernel
theorem dX12_fact_29 : decode cX12_fact 29 = .ok (.iastore, 1) := by decide +kernel
theorem dX12_fact_30 : decode cX12_fact 30 = .ok (.aload_n 0, 1) := by decide +kernel
theorem dX12_fact_31 : decode cX12_fact 31 = .ok (.dup, 1) := by decide +kernel
theorem dX12_fact_32 : decode cX12_fact 32 = .ok (.getfield 307, 3) := by decide +kernel
theorem dX12_fact_35 : decode cX12_fact 35 = .ok (.iconst 1, 1) := by decide +kernel
theorem dX12_fact_36 : decode cX12_fact 36 = .ok (.iadd, 1) := by decide +kernel
theorem dX12_fact_37 : decode cX12_fact 37 = .ok (.putfield 307, 3) := by decide +kernel
theorem dX12_fact_40 : decode cX12_fact 40 = .ok (.aload_n 0, 1) := by decide +kernel
theorem dX12_fact_41 : decode cX12_fact 41 = .ok (.getfield 307, 3) := by decide +kernel
theorem dX12_fact_44 : decode cX12_fact 44 = .ok (.iconst 1, 1) := by decide +kernel
theorem dX12_fact_45 : decode cX12_fact 45 = .ok (.isub, 1) := by decide +kernel
theorem dX12_fact_46 : decode cX12_fact 46 = .ok (.ireturn, 1) := by decide +kernel
theorem dX12_isSpan_0 : decode cX12_isSpan 0 = .ok (.iload_n 0, 1) := by decide +kernel
theorem dX12_isSpan_1 : decode cX12_isSpan 1 = .ok (.ifCond .lt 19, 3) := by decide +kernel
theorem dX12_isSpan_4 : decode cX12_isSpan 4 = .ok (.iload_n 0, 1) := by decide +kernel
theorem dX12_isSpan_5 : decode cX12_isSpan 5 = .ok (.iload_n 1, 1) := by decide +kernel
theorem dX12_isSpan_6 : decode cX12_isSpan 6 = .ok (.if_icmp .ge 14, 3) := by decide +kernel
theorem dX12_isSpan_9 : decode cX12_isSpan 9 = .ok (.iload_n 1, 1) := by decide +kernel
theorem dX12_isSpan_10 : decode cX12_isSpan 10 = .ok (.sipush 240, 3) := by decide +kernel
theorem dX12_isSpan_13 : decode cX12_isSpan 13 = .ok (.if_icmp .gt 7, 3) := by decide +kernel
theorem dX12_isSpan_16 : decode cX12_isSpan 16 = .ok (.iconst 1, 1) := by decide +kernel
theorem dX12_isSpan_17 : decode cX12_isSpan 17 = .ok (.goto 4, 3) := by decide +kernel
theorem dX12_isSpan_20 : decode cX12_isSpan 20 = .ok (.iconst 0, 1) := by decide +kernel
theorem dX12_isSpan_21 : decode cX12_isSpan 21 = .ok (.ireturn, 1) := by decide +kernel
theorem dX12_base_0 : decode cX12_base 0 = .ok (.aload_n 0, 1) := by decide +kernel
theorem dX12_base_1 : decode cX12_base 1 = .ok (.getfield 307, 3) := by decide +kernel
theorem dX12_base_4 : decode cX12_base 4 = .ok (.bipush 100, 2) := by decide +kernel
theorem dX12_base_6 : decode cX12_base 6 = .ok (.if_icmp .eq 20, 3) := by decide +kernel
theorem dX12_base_9 : decode cX12_base 9 = .ok (.iload_n 1, 1) := by decide +kernel
theorem dX12_base_10 : decode cX12_base 10 = .ok (.invokestatic 316, 3) := by decide +kernel
theorem dX12_base_13 : decode cX12_base 13 = .ok (.ifCond .eq 13, 3) := by decide +kernel
theorem dX12_base_16 : decode cX12_base 16 = .ok (.iload_n 2, 1) := by decide +kernel
theorem dX12_base_17 : decode cX12_base 17 = .ok (.ifCond .lt 9, 3) := by decide +kernel
theorem dX12_base_20 : decode cX12_base 20 = .ok (.iload_n 2, 1) := by decide +kernel
theorem dX12_base_21 : decode cX12_base 21 = .ok (.bipush 9, 2) := by decide +kernel
theorem dX12_base_23 : decode cX12_base 23 = .ok (.if_icmp .le 7, 3) := by decide +kernel
theorem dX12_base_26 : decode cX12_base 26 = .ok (.iconst (-1), 1) := by decide +kernel
theorem dX12_base_27 : decode cX12_base 27 = .ok (.goto 10, 3) := by decide +kernel
theorem dX12_base_30 : decode cX12_base 30 = .ok (.aload_n 0, 1) := by decide +kernel
theorem dX12_base_31 : decode cX12_base 31 = .ok (.iconst 0, 1) := by decide +kernel
theorem dX12_base_32 : decode cX12_base 32 = .ok (.iload_n 1, 1) := by decide +kernel
theorem dX12_base_33 : decode cX12_base 33 = .ok (.iload_n 2, 1) := by decide +kernel
theorem dX12_base_34 : decode cX12_base 34 = .ok (.invokevirtual 319, 3) := by decide +kernel
theorem dX12_base_37 : decode cX12_base 37 = .ok (.ireturn, 1) := by decide +kernel
theorem dX12_birds_0 : decode cX12_birds 0 = .ok (.aload_n 0, 1) := by decide +kernel
theorem dX12_birds_1 : decode cX12_birds 1 = .ok (.getfield 307, 3) := by decide +kernel
theorem dX12_birds_4 : decode cX12_birds 4 = .ok (.bipush 100, 2) := by decide +kernel
theorem dX12_birds_6 : decode cX12_birds 6 = .ok (.if_icmp .eq 11, 3) := by decide +kernel
theorem dX12_birds_9 : decode cX12_birds 9 = .ok (.iload_n 1, 1) := by decide +kernel
theorem dX12_birds_10 : decode cX12_birds 10 = .ok (.iload_n 2, 1) := by decide +kernel
theorem dX12_birds_11 : decode cX12_birds 11 = .ok (.invokestatic 322, 3) := by decide +kernel
theorem dX12_birds_14 : decode cX12_birds 14 = .ok (.ifCond .ne 7, 3) := by decide +kernel
theorem dX12_birds_17 : decode cX12_birds 17 = .ok (.iconst (-1), 1) := by decide +kernel
theorem dX12_birds_18 : decode cX12_birds 18 = .ok (.goto 10, 3) := by decide +kernel
theorem dX12_birds_21 : decode cX12_birds 21 = .ok (.aload_n 0, 1) := by decide +kernel
theorem dX12_birds_22 : decode cX12_birds 22 = .ok (.iconst 1, 1) := by decide +kernel
theorem dX12_birds_23 : decode cX12_birds 23 = .ok (.iload_n 1, 1) := by decide +kernel
theorem dX12_birds_24 : decode cX12_birds 24 = .ok (.iload_n 2, 1) := by decide +kernel
theorem dX12_birds_25 : decode cX12_birds 25 = .ok (.invokevirtual 319, 3) := by decide +kernel
theorem dX12_birds_28 : decode cX12_birds 28 = .ok (.ireturn, 1) := by decide +kernel
theorem dX12_ready_0 : decode cX12_ready 0 = .ok (.aload_n 0, 1) := by decide +kernel
theorem dX12_ready_1 : decode cX12_ready 1 = .ok (.getfield 307, 3) := by decide +kernel
theorem dX12_ready_4 : decode cX12_ready 4 = .ok (.bipush 100, 2) := by decide +kernel
theorem dX12_ready_6 : decode cX12_ready 6 = .ok (.if_icmp .eq 18, 3) := by decide +kernel
theorem dX12_ready_9 : decode cX12_ready 9 = .ok (.aload_n 0, 1) := by decide +kernel
theorem dX12_ready_10 : decode cX12_ready 10 = .ok (.iload_n 1, 1) := by decide +kernel
theorem dX12_ready_11 : decode cX12_ready 11 = .ok (.invokevirtual 310, 3) := by decide +kernel
theorem dX12_ready_14 : decode cX12_ready 14 = .ok (.ifCond .eq 10, 3) := by decide +kernel
theorem dX12_ready_17 : decode cX12_ready 17 = .ok (.iload_n 2, 1) := by decide +kernel
theorem dX12_ready_18 : decode cX12_ready 18 = .ok (.invokestatic 316, 3) := by decide +kernel
theorem dX12_ready_21 : decode cX12_ready 21 = .ok (.ifCond .ne 7, 3) := by decide +kernel
theorem dX12_ready_24 : decode cX12_ready 24 = .ok (.iconst (-1), 1) := by decide +kernel
theorem dX12_ready_25 : decode cX12_ready 25 = .ok (.goto 10, 3) := by decide +kernel
theorem dX12_ready_28 : decode cX12_ready 28 = .ok (.aload_n 0, 1) := by decide +kernel
theorem dX12_ready_29 : decode cX12_ready 29 = .ok (.iconst 2, 1) := by decide +kernel
theorem dX12_ready_30 : decode cX12_ready 30 = .ok (.iload_n 1, 1) := by decide +kernel
theorem dX12_ready_31 : decode cX12_ready 31 = .ok (.iload_n 2, 1) := by decide +kernel
theorem dX12_ready_32 : decode cX12_ready 32 = .ok (.invokevirtual 319, 3) := by decide +kernel
theorem dX12_ready_35 : decode cX12_ready 35 = .ok (.ireturn, 1) := by decide +kernel
theorem dX12_away_0 : decode cX12_away 0 = .ok (.aload_n 0, 1) := by decide +kernel
theorem dX12_away_1 : decode cX12_away 1 = .ok (.getfield 307, 3) := by decide +kernel
theorem dX12_away_4 : decode cX12_away 4 = .ok (.bipush 100, 2) := by decide +kernel
theorem dX12_away_6 : decode cX12_away 6 = .ok (.if_icmp .eq 11, 3) := by decide +kernel
theorem dX12_away_9 : decode cX12_away 9 = .ok (.iload_n 1, 1) := by decide +kernel
theorem dX12_away_10 : decode cX12_away 10 = .ok (.iload_n 2, 1) := by decide +kernel
theorem dX12_away_11 : decode cX12_away 11 = .ok (.invokestatic 322, 3) := by decide +kernel
theorem dX12_away_14 : decode cX12_away 14 = .ok (.ifCond .ne 7, 3) := by decide +kernel
theorem dX12_away_17 : decode cX12_away 17 = .ok (.iconst (-1), 1) := by decide +kernel
theorem dX12_away_18 : decode cX12_away 18 = .ok (.goto 10, 3) := by decide +kernel
theorem dX12_away_21 : decode cX12_away 21 = .ok (.aload_n 0, 1) := by decide +kernel
theorem dX12_away_22 : decode cX12_away 22 = .ok (.iconst 3, 1) := by decide +kernel
theorem dX12_away_23 : decode cX12_away 23 = .ok (.iload_n 1, 1) := by decide +kernel
theorem dX12_away_24 : decode cX12_away 24 = .ok (.iload_n 2, 1) := by decide +kernel
theorem dX12_away_25 : decode cX12_away 25 = .ok (.invokevirtual 319, 3) := by decide +kernel
theorem dX12_away_28 : decode cX12_away 28 = .ok (.ireturn, 1) := by decide +kernel
theorem dX12_isRefused_0 : decode cX12_isRefused 0 = .ok (.aload_n 0, 1) := by decide +kernel
theorem dX12_isRefused_1 : decode cX12_isRefused 1 = .ok (.getfield 110, 3) := by decide +kernel
theorem dX12_isRefused_4 : decode cX12_isRefused 4 = .ok (.iload_n 1, 1) := by decide +kernel
theorem dX12_isRefused_5 : decode cX12_isRefused 5 = .ok (.iaload, 1) := by decide +kernel
theorem dX12_isRefused_6 : decode cX12_isRefused 6 = .ok (.aload_n 0, 1) := by decide +kernel
theorem dX12_isRefused_7 : decode cX12_isRefused 7 = .ok (.getfield 201, 3) := by decide +kernel
theorem dX12_isRefused_10 : decode cX12_isRefused 10 = .ok (.iconst (-1), 1) := by decide +kernel
theorem dX12_isRefused_11 : decode cX12_isRefused 11 = .ok (.if_icmp .ne 8, 3) := by decide +kernel
theorem dX12_isRefused_14 : decode cX12_isRefused 14 = .ok (.bipush 20, 2) := by decide +kernel
theorem dX12_isRefused_16 : decode cX12_isRefused 16 = .ok (.goto 14, 3) := by decide +kernel
theorem dX12_isRefused_19 : decode cX12_isRefused 19 = .ok (.aload_n 0, 1) := by decide +kernel
theorem dX12_isRefused_20 : decode cX12_isRefused 20 = .ok (.getfield 119, 3) := by decide +kernel
theorem dX12_isRefused_23 : decode cX12_isRefused 23 = .ok (.aload_n 0, 1) := by decide +kernel
theorem dX12_isRefused_24 : decode cX12_isRefused 24 = .ok (.getfield 113, 3) := by decide +kernel
theorem dX12_isRefused_27 : decode cX12_isRefused 27 = .ok (.iload_n 1, 1) := by decide +kernel
theorem dX12_isRefused_28 : decode cX12_isRefused 28 = .ok (.iaload, 1) := by decide +kernel
theorem dX12_isRefused_29 : decode cX12_isRefused 29 = .ok (.iaload, 1) := by decide +kernel
theorem dX12_isRefused_30 : decode cX12_isRefused 30 = .ok (.imul, 1) := by decide +kernel
theorem dX12_isRefused_31 : decode cX12_isRefused 31 = .ok (.bipush 10, 2) := by decide +kernel
theorem dX12_isRefused_33 : decode cX12_isRefused 33 = .ok (.idiv, 1) := by decide +kernel
theorem dX12_isRefused_34 : decode cX12_isRefused 34 = .ok (.aload_n 0, 1) := by decide +kernel
theorem dX12_isRefused_35 : decode cX12_isRefused 35 = .ok (.getfield 313, 3) := by decide +kernel
theorem dX12_isRefused_38 : decode cX12_isRefused 38 = .ok (.iadd, 1) := by decide +kernel
theorem dX12_isRefused_39 : decode cX12_isRefused 39 = .ok (.istore_n 2, 1) := by decide +kernel
theorem dX12_isRefused_40 : decode cX12_isRefused 40 = .ok (.iload_n 2, 1) := by decide +kernel
theorem dX12_isRefused_41 : decode cX12_isRefused 41 = .ok (.aload_n 0, 1) := by decide +kernel
theorem dX12_isRefused_42 : decode cX12_isRefused 42 = .ok (.getfield 198, 3) := by decide +kernel
theorem dX12_isRefused_45 : decode cX12_isRefused 45 = .ok (.if_icmp .lt 7, 3) := by decide +kernel
theorem dX12_isRefused_48 : decode cX12_isRefused 48 = .ok (.iconst 1, 1) := by decide +kernel
theorem dX12_isRefused_49 : decode cX12_isRefused 49 = .ok (.goto 4, 3) := by decide +kernel
theorem dX12_isRefused_52 : decode cX12_isRefused 52 = .ok (.iconst 0, 1) := by decide +kernel
theorem dX12_isRefused_53 : decode cX12_isRefused 53 = .ok (.ireturn, 1) := by decide +kernel
theorem dX12_refused_0 : decode cX12_refused 0 = .ok (.aload_n 0, 1) := by decide +kernel
theorem dX12_refused_1 : decode cX12_refused 1 = .ok (.iload_n 1, 1) := by decide +kernel
theorem dX12_refused_2 : decode cX12_refused 2 = .ok (.invokevirtual 310, 3) := by decide +kernel
theorem dX12_refused_5 : decode cX12_refused 5 = .ok (.ifCond .eq 17, 3) := by decide +kernel
theorem dX12_refused_8 : decode cX12_refused 8 = .ok (.iload_n 2, 1) := by decide +kernel
theorem dX12_refused_9 : decode cX12_refused 9 = .ok (.ifCond .lt 13, 3) := by decide +kernel
theorem dX12_refused_12 : decode cX12_refused 12 = .ok (.iload_n 2, 1) := by decide +kernel
theorem dX12_refused_13 : decode cX12_refused 13 = .ok (.aload_n 0, 1) := by decide +kernel
theorem dX12_refused_14 : decode cX12_refused 14 = .ok (.getfield 104, 3) := by decide +kernel
theorem dX12_refused_17 : decode cX12_refused 17 = .ok (.iload_n 1, 1) := by decide +kernel
theorem dX12_refused_18 : decode cX12_refused 18 = .ok (.iaload, 1) := by decide +kernel
theorem dX12_refused_19 : decode cX12_refused 19 = .ok (.if_icmp .lt 5, 3) := by decide +kernel
theorem dX12_refused_22 : decode cX12_refused 22 = .ok (.iconst (-1), 1) := by decide +kernel
theorem dX12_refused_23 : decode cX12_refused 23 = .ok (.ireturn, 1) := by decide +kernel
theorem dX12_refused_24 : decode cX12_refused 24 = .ok (.aload_n 0, 1) := by decide +kernel
theorem dX12_refused_25 : decode cX12_refused 25 = .ok (.bipush 6, 2) := by decide +kernel
theorem dX12_refused_27 : decode cX12_refused 27 = .ok (.iload_n 1, 1) := by decide +kernel
theorem dX12_refused_28 : decode cX12_refused 28 = .ok (.imul, 1) := by decide +kernel
theorem dX12_refused_29 : decode cX12_refused 29 = .ok (.iload_n 2, 1) := by decide +kernel
theorem dX12_refused_30 : decode cX12_refused 30 = .ok (.iadd, 1) := by decide +kernel
theorem dX12_refused_31 : decode cX12_refused 31 = .ok (.invokevirtual 326, 3) := by decide +kernel
theorem dX12_refused_34 : decode cX12_refused 34 = .ok (.ifCond .eq 7, 3) := by decide +kernel
theorem dX12_refused_37 : decode cX12_refused 37 = .ok (.iconst 1, 1) := by decide +kernel
theorem dX12_refused_38 : decode cX12_refused 38 = .ok (.goto 4, 3) := by decide +kernel
theorem dX12_refused_41 : decode cX12_refused 41 = .ok (.iconst 0, 1) := by decide +kernel
theorem dX12_refused_42 : decode cX12_refused 42 = .ok (.ireturn, 1) := by decide +kernel
theorem dX12_lengthOf_0 : decode cX12_lengthOf 0 = .ok (.iconst 0, 1) := by decide +kernel
theorem dX12_lengthOf_1 : decode cX12_lengthOf 1 = .ok (.istore_n 3, 1) := by decide +kernel
theorem dX12_lengthOf_2 : decode cX12_lengthOf 2 = .ok (.iconst 0, 1) := by decide +kernel
theorem dX12_lengthOf_3 : decode cX12_lengthOf 3 = .ok (.istore 4, 2) := by decide +kernel
theorem dX12_lengthOf_5 : decode cX12_lengthOf 5 = .ok (.iconst (-1), 1) := by decide +kernel
theorem dX12_lengthOf_6 : decode cX12_lengthOf 6 = .ok (.istore 5, 2) := by decide +kernel
theorem dX12_lengthOf_8 : decode cX12_lengthOf 8 = .ok (.iconst (-1), 1) := by decide +kernel
theorem dX12_lengthOf_9 : decode cX12_lengthOf 9 = .ok (.istore 6, 2) := by decide +kernel
theorem dX12_lengthOf_11 : decode cX12_lengthOf 11 = .ok (.bipush 6, 2) := by decide +kernel
theorem dX12_lengthOf_13 : decode cX12_lengthOf 13 = .ok (.iload_n 1, 1) := by decide +kernel
theorem dX12_lengthOf_14 : decode cX12_lengthOf 14 = .ok (.imul, 1) := by decide +kernel
theorem dX12_lengthOf_15 : decode cX12_lengthOf 15 = .ok (.istore 7, 2) := by decide +kernel
theorem dX12_lengthOf_17 : decode cX12_lengthOf 17 = .ok (.iload 7, 2) := by decide +kernel
theorem dX12_lengthOf_19 : decode cX12_lengthOf 19 = .ok (.bipush 6, 2) := by decide +kernel
theorem dX12_lengthOf_21 : decode cX12_lengthOf 21 = .ok (.iload_n 1, 1) := by decide +kernel
theorem dX12_lengthOf_22 : decode cX12_lengthOf 22 = .ok (.imul, 1) := by decide +kernel
theorem dX12_lengthOf_23 : decode cX12_lengthOf 23 = .ok (.aload_n 0, 1) := by decide +kernel
theorem dX12_lengthOf_24 : decode cX12_lengthOf 24 = .ok (.getfield 104, 3) := by decide +kernel
theorem dX12_lengthOf_27 : decode cX12_lengthOf 27 = .ok (.iload_n 1, 1) := by decide +kernel
theorem dX12_lengthOf_28 : decode cX12_lengthOf 28 = .ok (.iaload, 1) := by decide +kernel
theorem dX12_lengthOf_29 : decode cX12_lengthOf 29 = .ok (.iadd, 1) := by decide +kernel
theorem dX12_lengthOf_30 : decode cX12_lengthOf 30 = .ok (.if_icmp .ge 98, 3) := by decide +kernel
theorem dX12_lengthOf_33 : decode cX12_lengthOf 33 = .ok (.aload_n 0, 1) := by decide +kernel
theorem dX12_lengthOf_34 : decode cX12_lengthOf 34 = .ok (.iload 7, 2) := by decide +kernel
theorem dX12_lengthOf_36 : decode cX12_lengthOf 36 = .ok (.invokevirtual 326, 3) := by decide +kernel
theorem dX12_lengthOf_39 : decode cX12_lengthOf 39 = .ok (.ifCond .eq 6, 3) := by decide +kernel
theorem dX12_lengthOf_42 : decode cX12_lengthOf 42 = .ok (.goto 80, 3) := by decide +kernel
theorem dX12_lengthOf_45 : decode cX12_lengthOf 45 = .ok (.iload_n 3, 1) := by decide +kernel
theorem dX12_lengthOf_46 : decode cX12_lengthOf 46 = .ok (.aload_n 0, 1) := by decide +kernel
theorem dX12_lengthOf_47 : decode cX12_lengthOf 47 = .ok (.getfield 107, 3) := by decide +kernel
theorem dX12_lengthOf_50 : decode cX12_lengthOf 50 = .ok (.iload 7, 2) := by decide +kernel
theorem dX12_lengthOf_52 : decode cX12_lengthOf 52 = .ok (.iaload, 1) := by decide +kernel
theorem dX12_lengthOf_53 : decode cX12_lengthOf 53 = .ok (.iadd, 1) := by decide +kernel
theorem dX12_lengthOf_54 : decode cX12_lengthOf 54 = .ok (.istore_n 3, 1) := by decide +kernel
theorem dX12_lengthOf_55 : decode cX12_lengthOf 55 = .ok (.aload_n 0, 1) := by decide +kernel
theorem dX12_lengthOf_56 : decode cX12_lengthOf 56 = .ok (.getfield 113, 3) := by decide +kernel
theorem dX12_lengthOf_59 : decode cX12_lengthOf 59 = .ok (.iload 7, 2) := by decide +kernel
theorem dX12_lengthOf_61 : decode cX12_lengthOf 61 = .ok (.iaload, 1) := by decide +kernel
theorem dX12_lengthOf_62 : decode cX12_lengthOf 62 = .ok (.iload 5, 2) := by decide +kernel
theorem dX12_lengthOf_64 : decode cX12_lengthOf 64 = .ok (.if_icmp .le 12, 3) := by decide +kernel
theorem dX12_lengthOf_67 : decode cX12_lengthOf 67 = .ok (.aload_n 0, 1) := by decide +kernel
theorem dX12_lengthOf_68 : decode cX12_lengthOf 68 = .ok (.getfield 113, 3) := by decide +kernel
theorem dX12_lengthOf_71 : decode cX12_lengthOf 71 = .ok (.iload 7, 2) := by decide +kernel
theorem dX12_lengthOf_73 : decode cX12_lengthOf 73 = .ok (.iaload, 1) := by decide +kernel
theorem dX12_lengthOf_74 : decode cX12_lengthOf 74 = .ok (.istore 5, 2) := by decide +kernel
theorem dX12_lengthOf_76 : decode cX12_lengthOf 76 = .ok (.aload_n 0, 1) := by decide +kernel
theorem dX12_lengthOf_77 : decode cX12_lengthOf 77 = .ok (.getfield 116, 3) := by decide +kernel
theorem dX12_lengthOf_80 : decode cX12_lengthOf 80 = .ok (.iload 7, 2) := by decide +kernel
theorem dX12_lengthOf_82 : decode cX12_lengthOf 82 = .ok (.baload, 1) := by decide +kernel
theorem dX12_lengthOf_83 : decode cX12_lengthOf 83 = .ok (.ifCond .eq 6, 3) := by decide +kernel
theorem dX12_lengthOf_86 : decode cX12_lengthOf 86 = .ok (.goto 36, 3) := by decide +kernel
theorem dX12_lengthOf_89 : decode cX12_lengthOf 89 = .ok (.iload 4, 2) := by decide +kernel
theorem dX12_lengthOf_91 : decode cX12_lengthOf 91 = .ok (.aload_n 0, 1) := by decide +kernel
theorem dX12_lengthOf_92 : decode cX12_lengthOf 92 = .ok (.getfield 107, 3) := by decide +kernel
theorem dX12_lengthOf_95 : decode cX12_lengthOf 95 = .ok (.iload 7, 2) := by decide +kernel
theorem dX12_lengthOf_97 : decode cX12_lengthOf 97 = .ok (.iaload, 1) := by decide +kernel
theorem dX12_lengthOf_98 : decode cX12_lengthOf 98 = .ok (.iadd, 1) := by decide +kernel
theorem dX12_lengthOf_99 : decode cX12_lengthOf 99 = .ok (.istore 4, 2) := by decide +kernel
theorem dX12_lengthOf_101 : decode cX12_lengthOf 101 = .ok (.aload_n 0, 1) := by decide +kernel
theorem dX12_lengthOf_102 : decode cX12_lengthOf 102 = .ok (.getfield 113, 3) := by decide +kernel
theorem dX12_lengthOf_105 : decode cX12_lengthOf 105 = .ok (.iload 7, 2) := by decide +kernel
theorem dX12_lengthOf_107 : decode cX12_lengthOf 107 = .ok (.iaload, 1) := by decide +kernel
theorem dX12_lengthOf_108 : decode cX12_lengthOf 108 = .ok (.iload 6, 2) := by decide +kernel
theorem dX12_lengthOf_110 : decode cX12_lengthOf 110 = .ok (.if_icmp .le 12, 3) := by decide +kernel
theorem dX12_lengthOf_113 : decode cX12_lengthOf 113 = .ok (.aload_n 0, 1) := by decide +kernel
theorem dX12_lengthOf_114 : decode cX12_lengthOf 114 = .ok (.getfield 113, 3) := by decide +kernel
theorem dX12_lengthOf_117 : decode cX12_lengthOf 117 = .ok (.iload 7, 2) := by decide +kernel
theorem dX12_lengthOf_119 : decode cX12_lengthOf 119 = .ok (.iaload, 1) := by decide +kernel
theorem dX12_lengthOf_120 : decode cX12_lengthOf 120 = .ok (.istore 6, 2) := by decide +kernel
theorem dX12_lengthOf_122 : decode cX12_lengthOf 122 = .ok (.iinc 7 1, 3) := by decide +kernel
theorem dX12_lengthOf_125 : decode cX12_lengthOf 125 = .ok (.goto (-108), 3) := by decide +kernel
theorem dX12_lengthOf_128 : decode cX12_lengthOf 128 = .ok (.iload_n 2, 1) := by decide +kernel
theorem dX12_lengthOf_129 : decode cX12_lengthOf 129 = .ok (.iload 5, 2) := by decide +kernel
theorem dX12_lengthOf_131 : decode cX12_lengthOf 131 = .ok (.if_icmp .le 7, 3) := by decide +kernel
theorem dX12_lengthOf_134 : decode cX12_lengthOf 134 = .ok (.iload_n 3, 1) := by decide +kernel
theorem dX12_lengthOf_135 : decode cX12_lengthOf 135 = .ok (.goto 15, 3) := by decide +kernel
theorem dX12_lengthOf_138 : decode cX12_lengthOf 138 = .ok (.iload_n 2, 1) := by decide +kernel
theorem dX12_lengthOf_139 : decode cX12_lengthOf 139 = .ok (.iload 6, 2) := by decide +kernel
theorem dX12_lengthOf_141 : decode cX12_lengthOf 141 = .ok (.if_icmp .le 8, 3) := by decide +kernel
theorem dX12_lengthOf_144 : decode cX12_lengthOf 144 = .ok (.iload 4, 2) := by decide +kernel
theorem dX12_lengthOf_146 : decode cX12_lengthOf 146 = .ok (.goto 4, 3) := by decide +kernel
theorem dX12_lengthOf_149 : decode cX12_lengthOf 149 = .ok (.iconst 0, 1) := by decide +kernel
theorem dX12_lengthOf_150 : decode cX12_lengthOf 150 = .ok (.ireturn, 1) := by decide +kernel
theorem dX12_length_0 : decode cX12_length 0 = .ok (.aload_n 0, 1) := by decide +kernel
theorem dX12_length_1 : decode cX12_length 1 = .ok (.iload_n 1, 1) := by decide +kernel
theorem dX12_length_2 : decode cX12_length 2 = .ok (.invokevirtual 310, 3) := by decide +kernel
theorem dX12_length_5 : decode cX12_length 5 = .ok (.ifCond .eq 22, 3) := by decide +kernel
theorem dX12_length_8 : decode cX12_length 8 = .ok (.iload_n 2, 1) := by decide +kernel
theorem dX12_length_9 : decode cX12_length 9 = .ok (.ifCond .lt 18, 3) := by decide +kernel
theorem dX12_length_12 : decode cX12_length 12 = .ok (.iload_n 2, 1) := by decide +kernel
theorem dX12_length_13 : decode cX12_length 13 = .ok (.bipush 9, 2) := by decide +kernel
theorem dX12_length_15 : decode cX12_length 15 = .ok (.if_icmp .gt 12, 3) := by decide +kernel
theorem dX12_length_18 : decode cX12_length 18 = .ok (.aload_n 0, 1) := by decide +kernel
theorem dX12_length_19 : decode cX12_length 19 = .ok (.iload_n 1, 1) := by decide +kernel
theorem dX12_length_20 : decode cX12_length 20 = .ok (.iload_n 2, 1) := by decide +kernel
theorem dX12_length_21 : decode cX12_length 21 = .ok (.invokevirtual 329, 3) := by decide +kernel
theorem dX12_length_24 : decode cX12_length 24 = .ok (.goto 4, 3) := by decide +kernel
theorem dX12_length_27 : decode cX12_length 27 = .ok (.iconst (-1), 1) := by decide +kernel
theorem dX12_length_28 : decode cX12_length 28 = .ok (.ireturn, 1) := by decide +kernel
theorem dX12_knows_0 : decode cX12_knows 0 = .ok (.iconst 0, 1) := by decide +kernel
theorem dX12_knows_1 : decode cX12_knows 1 = .ok (.istore_n 2, 1) := by decide +kernel
theorem dX12_knows_2 : decode cX12_knows 2 = .ok (.iload_n 2, 1) := by decide +kernel
theorem dX12_knows_3 : decode cX12_knows 3 = .ok (.sipush 240, 3) := by decide +kernel
theorem dX12_knows_6 : decode cX12_knows 6 = .ok (.if_icmp .ge 24, 3) := by decide +kernel
theorem dX12_knows_9 : decode cX12_knows 9 = .ok (.aload_n 0, 1) := by decide +kernel
theorem dX12_knows_10 : decode cX12_knows 10 = .ok (.getfield 131, 3) := by decide +kernel
theorem dX12_knows_13 : decode cX12_knows 13 = .ok (.iload_n 2, 1) := by decide +kernel
theorem dX12_knows_14 : decode cX12_knows 14 = .ok (.bipush 9, 2) := by decide +kernel
theorem dX12_knows_16 : decode cX12_knows 16 = .ok (.iastore, 1) := by decide +kernel
theorem dX12_knows_17 : decode cX12_knows 17 = .ok (.aload_n 0, 1) := by decide +kernel
theorem dX12_knows_18 : decode cX12_knows 18 = .ok (.getfield 134, 3) := by decide +kernel
theorem dX12_knows_21 : decode cX12_knows 21 = .ok (.iload_n 2, 1) := by decide +kernel
theorem dX12_knows_22 : decode cX12_knows 22 = .ok (.iconst 0, 1) := by decide +kernel
theorem dX12_knows_23 : decode cX12_knows 23 = .ok (.bastore, 1) := by decide +kernel
theorem dX12_knows_24 : decode cX12_knows 24 = .ok (.iinc 2 1, 3) := by decide +kernel
theorem dX12_knows_27 : decode cX12_knows 27 = .ok (.goto (-25), 3) := by decide +kernel
theorem dX12_knows_30 : decode cX12_knows 30 = .ok (.iconst 0, 1) := by decide +kernel
theorem dX12_knows_31 : decode cX12_knows 31 = .ok (.istore_n 2, 1) := by decide +kernel
theorem dX12_knows_32 : decode cX12_knows 32 = .ok (.iload_n 2, 1) := by decide +kernel
theorem dX12_knows_33 : decode cX12_knows 33 = .ok (.bipush 6, 2) := by decide +kernel
theorem dX12_knows_35 : decode cX12_knows 35 = .ok (.if_icmp .ge 16, 3) := by decide +kernel
theorem dX12_knows_38 : decode cX12_knows 38 = .ok (.aload_n 0, 1) := by decide +kernel
theorem dX12_knows_39 : decode cX12_knows 39 = .ok (.getfield 137, 3) := by decide +kernel
theorem dX12_knows_42 : decode cX12_knows 42 = .ok (.iload_n 2, 1) := by decide +kernel
theorem dX12_knows_43 : decode cX12_knows 43 = .ok (.iconst 0, 1) := by decide +kernel
theorem dX12_knows_44 : decode cX12_knows 44 = .ok (.iastore, 1) := by decide +kernel
theorem dX12_knows_45 : decode cX12_knows 45 = .ok (.iinc 2 1, 3) := by decide +kernel
theorem dX12_knows_48 : decode cX12_knows 48 = .ok (.goto (-16), 3) := by decide +kernel
theorem dX12_knows_51 : decode cX12_knows 51 = .ok (.iconst 0, 1) := by decide +kernel
theorem dX12_knows_52 : decode cX12_knows 52 = .ok (.istore_n 2, 1) := by decide +kernel
theorem dX12_knows_53 : decode cX12_knows 53 = .ok (.iload_n 2, 1) := by decide +kernel
theorem dX12_knows_54 : decode cX12_knows 54 = .ok (.sipush 240, 3) := by decide +kernel
theorem dX12_knows_57 : decode cX12_knows 57 = .ok (.if_icmp .ge 71, 3) := by decide +kernel
theorem dX12_knows_60 : decode cX12_knows 60 = .ok (.iload_n 2, 1) := by decide +kernel
theorem dX12_knows_61 : decode cX12_knows 61 = .ok (.ifCond .le 17, 3) := by decide +kernel
theorem dX12_knows_64 : decode cX12_knows 64 = .ok (.aload_n 0, 1) := by decide +kernel
theorem dX12_knows_65 : decode cX12_knows 65 = .ok (.getfield 131, 3) := by decide +kernel
theorem dX12_knows_68 : decode cX12_knows 68 = .ok (.iload_n 2, 1) := by decide +kernel
theorem dX12_knows_69 : decode cX12_knows 69 = .ok (.aload_n 0, 1) := by decide +kernel
theorem dX12_knows_70 : decode cX12_knows 70 = .ok (.getfield 131, 3) := by decide +kernel
theorem dX12_knows_73 : decode cX12_knows 73 = .ok (.iload_n 2, 1) := by decide +kernel
theorem dX12_knows_74 : decode cX12_knows 74 = .ok (.iconst 1, 1) := by decide +kernel
theorem dX12_knows_75 : decode cX12_knows 75 = .ok (.isub, 1) := by decide +kernel
theorem dX12_knows_76 : decode cX12_knows 76 = .ok (.iaload, 1) := by decide +kernel
theorem dX12_knows_77 : decode cX12_knows 77 = .ok (.iastore, 1) := by decide +kernel
theorem dX12_knows_78 : decode cX12_knows 78 = .ok (.iconst 0, 1) := by decide +kernel
theorem dX12_knows_79 : decode cX12_knows 79 = .ok (.istore_n 3, 1) := by decide +kernel
theorem dX12_knows_80 : decode cX12_knows 80 = .ok (.iload_n 3, 1) := by decide +kernel
theorem dX12_knows_81 : decode cX12_knows 81 = .ok (.iload_n 1, 1) := by decide +kernel
theorem dX12_knows_82 : decode cX12_knows 82 = .ok (.if_icmp .ge 40, 3) := by decide +kernel
theorem dX12_knows_85 : decode cX12_knows 85 = .ok (.aload_n 0, 1) := by decide +kernel
theorem dX12_knows_86 : decode cX12_knows 86 = .ok (.getfield 122, 3) := by decide +kernel
theorem dX12_knows_89 : decode cX12_knows 89 = .ok (.iload_n 3, 1) := by decide +kernel
theorem dX12_knows_90 : decode cX12_knows 90 = .ok (.iaload, 1) := by decide +kernel
theorem dX12_knows_91 : decode cX12_knows 91 = .ok (.ifCond .ne 25, 3) := by decide +kernel
theorem dX12_knows_94 : decode cX12_knows 94 = .ok (.aload_n 0, 1) := by decide +kernel
theorem dX12_knows_95 : decode cX12_knows 95 = .ok (.getfield 125, 3) := by decide +kernel
theorem dX12_knows_98 : decode cX12_knows 98 = .ok (.iload_n 3, 1) := by decide +kernel
theorem dX12_knows_99 : decode cX12_knows 99 = .ok (.iaload, 1) := by decide +kernel
theorem dX12_knows_100 : decode cX12_knows 100 = .ok (.iload_n 2, 1) := by decide +kernel
theorem dX12_knows_101 : decode cX12_knows 101 = .ok (.if_icmp .ne 15, 3) := by decide +kernel
theorem dX12_knows_104 : decode cX12_knows 104 = .ok (.aload_n 0, 1) := by decide +kernel
theorem dX12_knows_105 : decode cX12_knows 105 = .ok (.getfield 131, 3) := by decide +kernel
theorem dX12_knows_108 : decode cX12_knows 108 = .ok (.iload_n 2, 1) := by decide +kernel
theorem dX12_knows_109 : decode cX12_knows 109 = .ok (.aload_n 0, 1) := by decide +kernel
theorem dX12_knows_110 : decode cX12_knows 110 = .ok (.getfield 128, 3) := by decide +kernel
theorem dX12_knows_113 : decode cX12_knows 113 = .ok (.iload_n 3, 1) := by decide +kernel
theorem dX12_knows_114 : decode cX12_knows 114 = .ok (.iaload, 1) := by decide +kernel
theorem dX12_knows_115 : decode cX12_knows 115 = .ok (.iastore, 1) := by decide +kernel
theorem dX12_knows_116 : decode cX12_knows 116 = .ok (.iinc 3 1, 3) := by decide +kernel
theorem dX12_knows_119 : decode cX12_knows 119 = .ok (.goto (-39), 3) := by decide +kernel
theorem dX12_knows_122 : decode cX12_knows 122 = .ok (.iinc 2 1, 3) := by decide +kernel
theorem dX12_knows_125 : decode cX12_knows 125 = .ok (.goto (-72), 3) := by decide +kernel
theorem dX12_knows_128 : decode cX12_knows 128 = .ok (.iconst 0, 1) := by decide +kernel
theorem dX12_knows_129 : decode cX12_knows 129 = .ok (.istore_n 2, 1) := by decide +kernel
theorem dX12_knows_130 : decode cX12_knows 130 = .ok (.iload_n 2, 1) := by decide +kernel
theorem dX12_knows_131 : decode cX12_knows 131 = .ok (.iload_n 1, 1) := by decide +kernel
theorem dX12_knows_132 : decode cX12_knows 132 = .ok (.if_icmp .ge 86, 3) := by decide +kernel
theorem dX12_knows_135 : decode cX12_knows 135 = .ok (.aload_n 0, 1) := by decide +kernel
theorem dX12_knows_136 : decode cX12_knows 136 = .ok (.getfield 122, 3) := by decide +kernel
theorem dX12_knows_139 : decode cX12_knows 139 = .ok (.iload_n 2, 1) := by decide +kernel
theorem dX12_knows_140 : decode cX12_knows 140 = .ok (.iaload, 1) := by decide +kernel
theorem dX12_knows_141 : decode cX12_knows 141 = .ok (.iconst 2, 1) := by decide +kernel
theorem dX12_knows_142 : decode cX12_knows 142 = .ok (.if_icmp .ne 20, 3) := by decide +kernel
theorem dX12_knows_145 : decode cX12_knows 145 = .ok (.aload_n 0, 1) := by decide +kernel
theorem dX12_knows_146 : decode cX12_knows 146 = .ok (.getfield 137, 3) := by decide +kernel
theorem dX12_knows_149 : decode cX12_knows 149 = .ok (.aload_n 0, 1) := by decide +kernel
theorem dX12_knows_150 : decode cX12_knows 150 = .ok (.getfield 125, 3) := by decide +kernel
theorem dX12_knows_153 : decode cX12_knows 153 = .ok (.iload_n 2, 1) := by decide +kernel
theorem dX12_knows_154 : decode cX12_knows 154 = .ok (.iaload, 1) := by decide +kernel
theorem dX12_knows_155 : decode cX12_knows 155 = .ok (.aload_n 0, 1) := by decide +kernel
theorem dX12_knows_156 : decode cX12_knows 156 = .ok (.getfield 128, 3) := by decide +kernel
theorem dX12_knows_159 : decode cX12_knows 159 = .ok (.iload_n 2, 1) := by decide +kernel
theorem dX12_knows_160 : decode cX12_knows 160 = .ok (.iaload, 1) := by decide +kernel
theorem dX12_knows_161 : decode cX12_knows 161 = .ok (.iastore, 1) := by decide +kernel
theorem dX12_knows_162 : decode cX12_knows 162 = .ok (.aload_n 0, 1) := by decide +kernel
theorem dX12_knows_163 : decode cX12_knows 163 = .ok (.getfield 122, 3) := by decide +kernel
theorem dX12_knows_166 : decode cX12_knows 166 = .ok (.iload_n 2, 1) := by decide +kernel
theorem dX12_knows_167 : decode cX12_knows 167 = .ok (.iaload, 1) := by decide +kernel
theorem dX12_knows_168 : decode cX12_knows 168 = .ok (.iconst 1, 1) := by decide +kernel
theorem dX12_knows_169 : decode cX12_knows 169 = .ok (.if_icmp .eq 13, 3) := by decide +kernel
theorem dX12_knows_172 : decode cX12_knows 172 = .ok (.aload_n 0, 1) := by decide +kernel
theorem dX12_knows_173 : decode cX12_knows 173 = .ok (.getfield 122, 3) := by decide +kernel
theorem dX12_knows_176 : decode cX12_knows 176 = .ok (.iload_n 2, 1) := by decide +kernel
theorem dX12_knows_177 : decode cX12_knows 177 = .ok (.iaload, 1) := by decide +kernel
theorem dX12_knows_178 : decode cX12_knows 178 = .ok (.iconst 3, 1) := by decide +kernel
theorem dX12_knows_179 : decode cX12_knows 179 = .ok (.if_icmp .ne 33, 3) := by decide +kernel
theorem dX12_knows_182 : decode cX12_knows 182 = .ok (.aload_n 0, 1) := by decide +kernel
theorem dX12_knows_183 : decode cX12_knows 183 = .ok (.getfield 125, 3) := by decide +kernel
theorem dX12_knows_186 : decode cX12_knows 186 = .ok (.iload_n 2, 1) := by decide +kernel
theorem dX12_knows_187 : decode cX12_knows 187 = .ok (.iaload, 1) := by decide +kernel
theorem dX12_knows_188 : decode cX12_knows 188 = .ok (.istore_n 3, 1) := by decide +kernel
theorem dX12_knows_189 : decode cX12_knows 189 = .ok (.iload_n 3, 1) := by decide +kernel
theorem dX12_knows_190 : decode cX12_knows 190 = .ok (.aload_n 0, 1) := by decide +kernel
theorem dX12_knows_191 : decode cX12_knows 191 = .ok (.getfield 128, 3) := by decide +kernel
theorem dX12_knows_194 : decode cX12_knows 194 = .ok (.iload_n 2, 1) := by decide +kernel
theorem dX12_knows_195 : decode cX12_knows 195 = .ok (.iaload, 1) := by decide +kernel
theorem dX12_knows_196 : decode cX12_knows 196 = .ok (.if_icmp .ge 16, 3) := by decide +kernel
theorem dX12_knows_199 : decode cX12_knows 199 = .ok (.aload_n 0, 1) := by decide +kernel
theorem dX12_knows_200 : decode cX12_knows 200 = .ok (.getfield 134, 3) := by decide +kernel
theorem dX12_knows_203 : decode cX12_knows 203 = .ok (.iload_n 3, 1) := by decide +kernel
theorem dX12_knows_204 : decode cX12_knows 204 = .ok (.iconst 1, 1) := by decide +kernel
theorem dX12_knows_205 : decode cX12_knows 205 = .ok (.bastore, 1) := by decide +kernel
theorem dX12_knows_206 : decode cX12_knows 206 = .ok (.iinc 3 1, 3) := by decide +kernel
theorem dX12_knows_209 : decode cX12_knows 209 = .ok (.goto (-20), 3) := by decide +kernel
theorem dX12_knows_212 : decode cX12_knows 212 = .ok (.iinc 2 1, 3) := by decide +kernel
theorem dX12_knows_215 : decode cX12_knows 215 = .ok (.goto (-85), 3) := by decide +kernel
theorem dX12_knows_218 : decode cX12_knows 218 = .ok (.return_, 1) := by decide +kernel
theorem dX12_baseIn_0 : decode cX12_baseIn 0 = .ok (.iload_n 1, 1) := by decide +kernel
theorem dX12_baseIn_1 : decode cX12_baseIn 1 = .ok (.invokestatic 316, 3) := by decide +kernel
theorem dX12_baseIn_4 : decode cX12_baseIn 4 = .ok (.ifCond .eq 11, 3) := by decide +kernel
theorem dX12_baseIn_7 : decode cX12_baseIn 7 = .ok (.aload_n 0, 1) := by decide +kernel
theorem dX12_baseIn_8 : decode cX12_baseIn 8 = .ok (.iload_n 2, 1) := by decide +kernel
theorem dX12_baseIn_9 : decode cX12_baseIn 9 = .ok (.invokevirtual 333, 3) := by decide +kernel
theorem dX12_baseIn_12 : decode cX12_baseIn 12 = .ok (.ifCond .ne 5, 3) := by decide +kernel
theorem dX12_baseIn_15 : decode cX12_baseIn 15 = .ok (.iconst (-1), 1) := by decide +kernel
theorem dX12_baseIn_16 : decode cX12_baseIn 16 = .ok (.ireturn, 1) := by decide +kernel
theorem dX12_baseIn_17 : decode cX12_baseIn 17 = .ok (.aload_n 0, 1) := by decide +kernel
theorem dX12_baseIn_18 : decode cX12_baseIn 18 = .ok (.iload_n 2, 1) := by decide +kernel
theorem dX12_baseIn_19 : decode cX12_baseIn 19 = .ok (.invokevirtual 336, 3) := by decide +kernel
theorem dX12_baseIn_22 : decode cX12_baseIn 22 = .ok (.aload_n 0, 1) := by decide +kernel
theorem dX12_baseIn_23 : decode cX12_baseIn 23 = .ok (.getfield 131, 3) := by decide +kernel
theorem dX12_baseIn_26 : decode cX12_baseIn 26 = .ok (.iload_n 1, 1) := by decide +kernel
theorem dX12_baseIn_27 : decode cX12_baseIn 27 = .ok (.iaload, 1) := by decide +kernel
theorem dX12_baseIn_28 : decode cX12_baseIn 28 = .ok (.ireturn, 1) := by decide +kernel
theorem dX12_value_0 : decode cX12_value 0 = .ok (.iconst 0, 1) := by decide +kernel
theorem dX12_value_1 : decode cX12_value 1 = .ok (.istore_n 3, 1) := by decide +kernel
theorem dX12_value_2 : decode cX12_value 2 = .ok (.iload_n 1, 1) := by decide +kernel
theorem dX12_value_3 : decode cX12_value 3 = .ok (.istore 4, 2) := by decide +kernel
theorem dX12_value_5 : decode cX12_value 5 = .ok (.iload 4, 2) := by decide +kernel
theorem dX12_value_7 : decode cX12_value 7 = .ok (.iload_n 2, 1) := by decide +kernel
theorem dX12_value_8 : decode cX12_value 8 = .ok (.if_icmp .ge 136, 3) := by decide +kernel
theorem dX12_value_11 : decode cX12_value 11 = .ok (.aload_n 0, 1) := by decide +kernel
theorem dX12_value_12 : decode cX12_value 12 = .ok (.getfield 77, 3) := by decide +kernel
theorem dX12_value_15 : decode cX12_value 15 = .ok (.iload 4, 2) := by decide +kernel
theorem dX12_value_17 : decode cX12_value 17 = .ok (.iaload, 1) := by decide +kernel
theorem dX12_value_18 : decode cX12_value 18 = .ok (.iconst 2, 1) := by decide +kernel
theorem dX12_value_19 : decode cX12_value 19 = .ok (.if_icmp .ge 47, 3) := by decide +kernel
theorem dX12_value_22 : decode cX12_value 22 = .ok (.aload_n 0, 1) := by decide +kernel
theorem dX12_value_23 : decode cX12_value 23 = .ok (.getfield 143, 3) := by decide +kernel
theorem dX12_value_26 : decode cX12_value 26 = .ok (.iload_n 3, 1) := by decide +kernel
theorem dX12_value_27 : decode cX12_value 27 = .ok (.aload_n 0, 1) := by decide +kernel
theorem dX12_value_28 : decode cX12_value 28 = .ok (.getfield 77, 3) := by decide +kernel
theorem dX12_value_31 : decode cX12_value 31 = .ok (.iload 4, 2) := by decide +kernel
theorem dX12_value_33 : decode cX12_value 33 = .ok (.iaload, 1) := by decide +kernel
theorem dX12_value_34 : decode cX12_value 34 = .ok (.ifCond .ne 13, 3) := by decide +kernel
theorem dX12_value_37 : decode cX12_value 37 = .ok (.aload_n 0, 1) := by decide +kernel
theorem dX12_value_38 : decode cX12_value 38 = .ok (.getfield 80, 3) := by decide +kernel
theorem dX12_value_41 : decode cX12_value 41 = .ok (.iload 4, 2) := by decide +kernel
theorem dX12_value_43 : decode cX12_value 43 = .ok (.iaload, 1) := by decide +kernel
theorem dX12_value_44 : decode cX12_value 44 = .ok (.goto 15, 3) := by decide +kernel
theorem dX12_value_47 : decode cX12_value 47 = .ok (.aload_n 0, 1) := by decide +kernel
theorem dX12_value_48 : decode cX12_value 48 = .ok (.getfield 140, 3) := by decide +kernel
theorem dX12_value_51 : decode cX12_value 51 = .ok (.aload_n 0, 1) := by decide +kernel
theorem dX12_value_52 : decode cX12_value 52 = .ok (.getfield 80, 3) := by decide +kernel
theorem dX12_value_55 : decode cX12_value 55 = .ok (.iload 4, 2) := by decide +kernel
theorem dX12_value_57 : decode cX12_value 57 = .ok (.iaload, 1) := by decide +kernel
theorem dX12_value_58 : decode cX12_value 58 = .ok (.iaload, 1) := by decide +kernel
theorem dX12_value_59 : decode cX12_value 59 = .ok (.iastore, 1) := by decide +kernel
theorem dX12_value_60 : decode cX12_value 60 = .ok (.iinc 3 1, 3) := by decide +kernel
theorem dX12_value_63 : decode cX12_value 63 = .ok (.goto 75, 3) := by decide +kernel
theorem dX12_value_66 : decode cX12_value 66 = .ok (.iinc 3 (-1), 3) := by decide +kernel
theorem dX12_value_69 : decode cX12_value 69 = .ok (.aload_n 0, 1) := by decide +kernel
theorem dX12_value_70 : decode cX12_value 70 = .ok (.getfield 143, 3) := by decide +kernel
theorem dX12_value_73 : decode cX12_value 73 = .ok (.iload_n 3, 1) := by decide +kernel
theorem dX12_value_74 : decode cX12_value 74 = .ok (.iconst 1, 1) := by decide +kernel
theorem dX12_value_75 : decode cX12_value 75 = .ok (.isub, 1) := by decide +kernel
theorem dX12_value_76 : decode cX12_value 76 = .ok (.iaload, 1) := by decide +kernel
theorem dX12_value_77 : decode cX12_value 77 = .ok (.istore 5, 2) := by decide +kernel
theorem dX12_value_79 : decode cX12_value 79 = .ok (.aload_n 0, 1) := by decide +kernel
theorem dX12_value_80 : decode cX12_value 80 = .ok (.getfield 143, 3) := by decide +kernel
theorem dX12_value_83 : decode cX12_value 83 = .ok (.iload_n 3, 1) := by decide +kernel
theorem dX12_value_84 : decode cX12_value 84 = .ok (.iaload, 1) := by decide +kernel
theorem dX12_value_85 : decode cX12_value 85 = .ok (.istore 6, 2) := by decide +kernel
theorem dX12_value_87 : decode cX12_value 87 = .ok (.aload_n 0, 1) := by decide +kernel
theorem dX12_value_88 : decode cX12_value 88 = .ok (.getfield 143, 3) := by decide +kernel
theorem dX12_value_91 : decode cX12_value 91 = .ok (.iload_n 3, 1) := by decide +kernel
theorem dX12_value_92 : decode cX12_value 92 = .ok (.iconst 1, 1) := by decide +kernel
theorem dX12_value_93 : decode cX12_value 93 = .ok (.isub, 1) := by decide +kernel
theorem dX12_value_94 : decode cX12_value 94 = .ok (.aload_n 0, 1) := by decide +kernel
theorem dX12_value_95 : decode cX12_value 95 = .ok (.getfield 77, 3) := by decide +kernel
theorem dX12_value_98 : decode cX12_value 98 = .ok (.iload 4, 2) := by decide +kernel
theorem dX12_value_100 : decode cX12_value 100 = .ok (.iaload, 1) := by decide +kernel
theorem dX12_value_101 : decode cX12_value 101 = .ok (.iconst 2, 1) := by decide +kernel
theorem dX12_value_102 : decode cX12_value 102 = .ok (.if_icmp .ne 11, 3) := by decide +kernel
theorem dX12_value_105 : decode cX12_value 105 = .ok (.iload 5, 2) := by decide +kernel
theorem dX12_value_107 : decode cX12_value 107 = .ok (.iload 6, 2) := by decide +kernel
theorem dX12_value_109 : decode cX12_value 109 = .ok (.iadd, 1) := by decide +kernel
theorem dX12_value_110 : decode cX12_value 110 = .ok (.goto 27, 3) := by decide +kernel
theorem dX12_value_113 : decode cX12_value 113 = .ok (.aload_n 0, 1) := by decide +kernel
theorem dX12_value_114 : decode cX12_value 114 = .ok (.getfield 77, 3) := by decide +kernel
theorem dX12_value_117 : decode cX12_value 117 = .ok (.iload 4, 2) := by decide +kernel
theorem dX12_value_119 : decode cX12_value 119 = .ok (.iaload, 1) := by decide +kernel
theorem dX12_value_120 : decode cX12_value 120 = .ok (.iconst 3, 1) := by decide +kernel
theorem dX12_value_121 : decode cX12_value 121 = .ok (.if_icmp .ne 11, 3) := by decide +kernel
theorem dX12_value_124 : decode cX12_value 124 = .ok (.iload 5, 2) := by decide +kernel
theorem dX12_value_126 : decode cX12_value 126 = .ok (.iload 6, 2) := by decide +kernel
theorem dX12_value_128 : decode cX12_value 128 = .ok (.isub, 1) := by decide +kernel
theorem dX12_value_129 : decode cX12_value 129 = .ok (.goto 8, 3) := by decide +kernel
theorem dX12_value_132 : decode cX12_value 132 = .ok (.iload 5, 2) := by decide +kernel
theorem dX12_value_134 : decode cX12_value 134 = .ok (.iload 6, 2) := by decide +kernel
theorem dX12_value_136 : decode cX12_value 136 = .ok (.imul, 1) := by decide +kernel
theorem dX12_value_137 : decode cX12_value 137 = .ok (.iastore, 1) := by decide +kernel
theorem dX12_value_138 : decode cX12_value 138 = .ok (.iinc 4 1, 3) := by decide +kernel
theorem dX12_value_141 : decode cX12_value 141 = .ok (.goto (-136), 3) := by decide +kernel
theorem dX12_value_144 : decode cX12_value 144 = .ok (.aload_n 0, 1) := by decide +kernel
theorem dX12_value_145 : decode cX12_value 145 = .ok (.getfield 143, 3) := by decide +kernel
theorem dX12_value_148 : decode cX12_value 148 = .ok (.iconst 0, 1) := by decide +kernel
theorem dX12_value_149 : decode cX12_value 149 = .ok (.iaload, 1) := by decide +kernel
theorem dX12_value_150 : decode cX12_value 150 = .ok (.ireturn, 1) := by decide +kernel
theorem dX12_holds_0 : decode cX12_holds 0 = .ok (.aload_n 0, 1) := by decide +kernel
theorem dX12_holds_1 : decode cX12_holds 1 = .ok (.getfield 52, 3) := by decide +kernel
theorem dX12_holds_4 : decode cX12_holds 4 = .ok (.iload_n 1, 1) := by decide +kernel
theorem dX12_holds_5 : decode cX12_holds 5 = .ok (.iaload, 1) := by decide +kernel
theorem dX12_holds_6 : decode cX12_holds 6 = .ok (.aload_n 0, 1) := by decide +kernel
theorem dX12_holds_7 : decode cX12_holds 7 = .ok (.getfield 55, 3) := by decide +kernel
theorem dX12_holds_10 : decode cX12_holds 10 = .ok (.iload_n 1, 1) := by decide +kernel
theorem dX12_holds_11 : decode cX12_holds 11 = .ok (.iaload, 1) := by decide +kernel
theorem dX12_holds_12 : decode cX12_holds 12 = .ok (.if_icmp .ne 5, 3) := by decide +kernel
theorem dX12_holds_15 : decode cX12_holds 15 = .ok (.iconst 1, 1) := by decide +kernel
theorem dX12_holds_16 : decode cX12_holds 16 = .ok (.ireturn, 1) := by decide +kernel
theorem dX12_holds_17 : decode cX12_holds 17 = .ok (.iconst 0, 1) := by decide +kernel
theorem dX12_holds_18 : decode cX12_holds 18 = .ok (.istore_n 2, 1) := by decide +kernel
theorem dX12_holds_19 : decode cX12_holds 19 = .ok (.aload_n 0, 1) := by decide +kernel
theorem dX12_holds_20 : decode cX12_holds 20 = .ok (.getfield 52, 3) := by decide +kernel
theorem dX12_holds_23 : decode cX12_holds 23 = .ok (.iload_n 1, 1) := by decide +kernel
theorem dX12_holds_24 : decode cX12_holds 24 = .ok (.iaload, 1) := by decide +kernel
theorem dX12_holds_25 : decode cX12_holds 25 = .ok (.istore_n 3, 1) := by decide +kernel
theorem dX12_holds_26 : decode cX12_holds 26 = .ok (.iload_n 3, 1) := by decide +kernel
theorem dX12_holds_27 : decode cX12_holds 27 = .ok (.aload_n 0, 1) := by decide +kernel
theorem dX12_holds_28 : decode cX12_holds 28 = .ok (.getfield 55, 3) := by decide +kernel
theorem dX12_holds_31 : decode cX12_holds 31 = .ok (.iload_n 1, 1) := by decide +kernel
theorem dX12_holds_32 : decode cX12_holds 32 = .ok (.iaload, 1) := by decide +kernel
theorem dX12_holds_33 : decode cX12_holds 33 = .ok (.if_icmp .ge 186, 3) := by decide +kernel
theorem dX12_holds_36 : decode cX12_holds 36 = .ok (.sipush 200, 3) := by decide +kernel
theorem dX12_holds_39 : decode cX12_holds 39 = .ok (.aload_n 0, 1) := by decide +kernel
theorem dX12_holds_40 : decode cX12_holds 40 = .ok (.getfield 272, 3) := by decide +kernel
theorem dX12_holds_43 : decode cX12_holds 43 = .ok (.imul, 1) := by decide +kernel
theorem dX12_holds_44 : decode cX12_holds 44 = .ok (.iload_n 3, 1) := by decide +kernel
theorem dX12_holds_45 : decode cX12_holds 45 = .ok (.iadd, 1) := by decide +kernel
theorem dX12_holds_46 : decode cX12_holds 46 = .ok (.istore 4, 2) := by decide +kernel
theorem dX12_holds_48 : decode cX12_holds 48 = .ok (.aload_n 0, 1) := by decide +kernel
theorem dX12_holds_49 : decode cX12_holds 49 = .ok (.getfield 73, 3) := by decide +kernel
theorem dX12_holds_52 : decode cX12_holds 52 = .ok (.iload 4, 2) := by decide +kernel
theorem dX12_holds_54 : decode cX12_holds 54 = .ok (.baload, 1) := by decide +kernel
theorem dX12_holds_55 : decode cX12_holds 55 = .ok (.ifCond .eq 9, 3) := by decide +kernel
theorem dX12_holds_58 : decode cX12_holds 58 = .ok (.iload_n 2, 1) := by decide +kernel
theorem dX12_holds_59 : decode cX12_holds 59 = .ok (.ifCond .eq 5, 3) := by decide +kernel
theorem dX12_holds_62 : decode cX12_holds 62 = .ok (.iconst 1, 1) := by decide +kernel
theorem dX12_holds_63 : decode cX12_holds 63 = .ok (.ireturn, 1) := by decide +kernel
theorem dX12_holds_64 : decode cX12_holds 64 = .ok (.aload_n 0, 1) := by decide +kernel
theorem dX12_holds_65 : decode cX12_holds 65 = .ok (.getfield 73, 3) := by decide +kernel
theorem dX12_holds_68 : decode cX12_holds 68 = .ok (.iload 4, 2) := by decide +kernel
theorem dX12_holds_70 : decode cX12_holds 70 = .ok (.baload, 1) := by decide +kernel
theorem dX12_holds_71 : decode cX12_holds 71 = .ok (.ifCond .eq 5, 3) := by decide +kernel
theorem dX12_holds_74 : decode cX12_holds 74 = .ok (.iconst 1, 1) := by decide +kernel
theorem dX12_holds_75 : decode cX12_holds 75 = .ok (.istore_n 2, 1) := by decide +kernel
theorem dX12_holds_76 : decode cX12_holds 76 = .ok (.iload_n 2, 1) := by decide +kernel
theorem dX12_holds_77 : decode cX12_holds 77 = .ok (.ifCond .ne 6, 3) := by decide +kernel
theorem dX12_holds_80 : decode cX12_holds 80 = .ok (.goto 133, 3) := by decide +kernel
theorem dX12_holds_83 : decode cX12_holds 83 = .ok (.aload_n 0, 1) := by decide +kernel
theorem dX12_holds_84 : decode cX12_holds 84 = .ok (.aload_n 0, 1) := by decide +kernel
theorem dX12_holds_85 : decode cX12_holds 85 = .ok (.getfield 64, 3) := by decide +kernel
theorem dX12_holds_88 : decode cX12_holds 88 = .ok (.iload 4, 2) := by decide +kernel
theorem dX12_holds_90 : decode cX12_holds 90 = .ok (.iaload, 1) := by decide +kernel
theorem dX12_holds_91 : decode cX12_holds 91 = .ok (.aload_n 0, 1) := by decide +kernel
theorem dX12_holds_92 : decode cX12_holds 92 = .ok (.getfield 67, 3) := by decide +kernel
theorem dX12_holds_95 : decode cX12_holds 95 = .ok (.iload 4, 2) := by decide +kernel
theorem dX12_holds_97 : decode cX12_holds 97 = .ok (.iaload, 1) := by decide +kernel
theorem dX12_holds_98 : decode cX12_holds 98 = .ok (.invokevirtual 339, 3) := by decide +kernel
theorem dX12_holds_101 : decode cX12_holds 101 = .ok (.istore 5, 2) := by decide +kernel
theorem dX12_holds_103 : decode cX12_holds 103 = .ok (.aload_n 0, 1) := by decide +kernel
theorem dX12_holds_104 : decode cX12_holds 104 = .ok (.aload_n 0, 1) := by decide +kernel
theorem dX12_holds_105 : decode cX12_holds 105 = .ok (.getfield 67, 3) := by decide +kernel
theorem dX12_holds_108 : decode cX12_holds 108 = .ok (.iload 4, 2) := by decide +kernel
theorem dX12_holds_110 : decode cX12_holds 110 = .ok (.iaload, 1) := by decide +kernel
theorem dX12_holds_111 : decode cX12_holds 111 = .ok (.aload_n 0, 1) := by decide +kernel
theorem dX12_holds_112 : decode cX12_holds 112 = .ok (.getfield 70, 3) := by decide +kernel
theorem dX12_holds_115 : decode cX12_holds 115 = .ok (.iload 4, 2) := by decide +kernel
theorem dX12_holds_117 : decode cX12_holds 117 = .ok (.iaload, 1) := by decide +kernel
theorem dX12_holds_118 : decode cX12_holds 118 = .ok (.invokevirtual 339, 3) := by decide +kernel
theorem dX12_holds_121 : decode cX12_holds 121 = .ok (.istore 6, 2) := by decide +kernel
theorem dX12_holds_123 : decode cX12_holds 123 = .ok (.aload_n 0, 1) := by decide +kernel
theorem dX12_holds_124 : decode cX12_holds 124 = .ok (.getfield 61, 3) := by decide +kernel
theorem dX12_holds_127 : decode cX12_holds 127 = .ok (.iload 4, 2) := by decide +kernel
theorem dX12_holds_129 : decode cX12_holds 129 = .ok (.iaload, 1) := by decide +kernel
theorem dX12_holds_130 : decode cX12_holds 130 = .ok (.ifCond .ne 18, 3) := by decide +kernel
theorem dX12_holds_133 : decode cX12_holds 133 = .ok (.iload 5, 2) := by decide +kernel
theorem dX12_holds_135 : decode cX12_holds 135 = .ok (.iload 6, 2) := by decide +kernel
theorem dX12_holds_137 : decode cX12_holds 137 = .ok (.if_icmp .ne 7, 3) := by decide +kernel
theorem dX12_holds_140 : decode cX12_holds 140 = .ok (.iconst 1, 1) := by decide +kernel
theorem dX12_holds_141 : decode cX12_holds 141 = .ok (.goto 71, 3) := by decide +kernel
theorem dX12_holds_144 : decode cX12_holds 144 = .ok (.iconst 0, 1) := by decide +kernel
theorem dX12_holds_145 : decode cX12_holds 145 = .ok (.goto 67, 3) := by decide +kernel
theorem dX12_holds_148 : decode cX12_holds 148 = .ok (.aload_n 0, 1) := by decide +kernel
theorem dX12_holds_149 : decode cX12_holds 149 = .ok (.getfield 61, 3) := by decide +kernel
theorem dX12_holds_152 : decode cX12_holds 152 = .ok (.iload 4, 2) := by decide +kernel
theorem dX12_holds_154 : decode cX12_holds 154 = .ok (.iaload, 1) := by decide +kernel
theorem dX12_holds_155 : decode cX12_holds 155 = .ok (.iconst 1, 1) := by decide +kernel
theorem dX12_holds_156 : decode cX12_holds 156 = .ok (.if_icmp .ne 18, 3) := by decide +kernel
theorem dX12_holds_159 : decode cX12_holds 159 = .ok (.iload 5, 2) := by decide +kernel
theorem dX12_holds_161 : decode cX12_holds 161 = .ok (.iload 6, 2) := by decide +kernel
theorem dX12_holds_163 : decode cX12_holds 163 = .ok (.if_icmp .eq 7, 3) := by decide +kernel
theorem dX12_holds_166 : decode cX12_holds 166 = .ok (.iconst 1, 1) := by decide +kernel
theorem dX12_holds_167 : decode cX12_holds 167 = .ok (.goto 45, 3) := by decide +kernel
theorem dX12_holds_170 : decode cX12_holds 170 = .ok (.iconst 0, 1) := by decide +kernel
theorem dX12_holds_171 : decode cX12_holds 171 = .ok (.goto 41, 3) := by decide +kernel
theorem dX12_holds_174 : decode cX12_holds 174 = .ok (.aload_n 0, 1) := by decide +kernel
theorem dX12_holds_175 : decode cX12_holds 175 = .ok (.getfield 61, 3) := by decide +kernel
theorem dX12_holds_178 : decode cX12_holds 178 = .ok (.iload 4, 2) := by decide +kernel
theorem dX12_holds_180 : decode cX12_holds 180 = .ok (.iaload, 1) := by decide +kernel
theorem dX12_holds_181 : decode cX12_holds 181 = .ok (.iconst 2, 1) := by decide +kernel
theorem dX12_holds_182 : decode cX12_holds 182 = .ok (.if_icmp .ne 18, 3) := by decide +kernel
theorem dX12_holds_185 : decode cX12_holds 185 = .ok (.iload 5, 2) := by decide +kernel
theorem dX12_holds_187 : decode cX12_holds 187 = .ok (.iload 6, 2) := by decide +kernel
theorem dX12_holds_189 : decode cX12_holds 189 = .ok (.if_icmp .ge 7, 3) := by decide +kernel
theorem dX12_holds_192 : decode cX12_holds 192 = .ok (.iconst 1, 1) := by decide +kernel
theorem dX12_holds_193 : decode cX12_holds 193 = .ok (.goto 19, 3) := by decide +kernel
theorem dX12_holds_196 : decode cX12_holds 196 = .ok (.iconst 0, 1) := by decide +kernel
theorem dX12_holds_197 : decode cX12_holds 197 = .ok (.goto 15, 3) := by decide +kernel
theorem dX12_holds_200 : decode cX12_holds 200 = .ok (.iload 5, 2) := by decide +kernel
theorem dX12_holds_202 : decode cX12_holds 202 = .ok (.iload 6, 2) := by decide +kernel
theorem dX12_holds_204 : decode cX12_holds 204 = .ok (.if_icmp .gt 7, 3) := by decide +kernel
theorem dX12_holds_207 : decode cX12_holds 207 = .ok (.iconst 1, 1) := by decide +kernel
theorem dX12_holds_208 : decode cX12_holds 208 = .ok (.goto 4, 3) := by decide +kernel
theorem dX12_holds_211 : decode cX12_holds 211 = .ok (.iconst 0, 1) := by decide +kernel
theorem dX12_holds_212 : decode cX12_holds 212 = .ok (.istore_n 2, 1) := by decide +kernel
theorem dX12_holds_213 : decode cX12_holds 213 = .ok (.iinc 3 1, 3) := by decide +kernel
theorem dX12_holds_216 : decode cX12_holds 216 = .ok (.goto (-190), 3) := by decide +kernel
theorem dX12_holds_219 : decode cX12_holds 219 = .ok (.iload_n 2, 1) := by decide +kernel
theorem dX12_holds_220 : decode cX12_holds 220 = .ok (.ireturn, 1) := by decide +kernel
theorem dX12_ruleOf_0 : decode cX12_ruleOf 0 = .ok (.iconst 0, 1) := by decide +kernel
theorem dX12_ruleOf_1 : decode cX12_ruleOf 1 = .ok (.istore_n 2, 1) := by decide +kernel
theorem dX12_ruleOf_2 : decode cX12_ruleOf 2 = .ok (.iload_n 2, 1) := by decide +kernel
theorem dX12_ruleOf_3 : decode cX12_ruleOf 3 = .ok (.aload_n 0, 1) := by decide +kernel
theorem dX12_ruleOf_4 : decode cX12_ruleOf 4 = .ok (.getfield 40, 3) := by decide +kernel
theorem dX12_ruleOf_7 : decode cX12_ruleOf 7 = .ok (.aload_n 0, 1) := by decide +kernel
theorem dX12_ruleOf_8 : decode cX12_ruleOf 8 = .ok (.getfield 272, 3) := by decide +kernel
theorem dX12_ruleOf_11 : decode cX12_ruleOf 11 = .ok (.iaload, 1) := by decide +kernel
theorem dX12_ruleOf_12 : decode cX12_ruleOf 12 = .ok (.if_icmp .ge 45, 3) := by decide +kernel
theorem dX12_ruleOf_15 : decode cX12_ruleOf 15 = .ok (.aload_n 0, 1) := by decide +kernel
theorem dX12_ruleOf_16 : decode cX12_ruleOf 16 = .ok (.getfield 43, 3) := by decide +kernel
theorem dX12_ruleOf_19 : decode cX12_ruleOf 19 = .ok (.bipush 16, 2) := by decide +kernel
theorem dX12_ruleOf_21 : decode cX12_ruleOf 21 = .ok (.aload_n 0, 1) := by decide +kernel
theorem dX12_ruleOf_22 : decode cX12_ruleOf 22 = .ok (.getfield 272, 3) := by decide +kernel
theorem dX12_ruleOf_25 : decode cX12_ruleOf 25 = .ok (.imul, 1) := by decide +kernel
theorem dX12_ruleOf_26 : decode cX12_ruleOf 26 = .ok (.iload_n 2, 1) := by decide +kernel
theorem dX12_ruleOf_27 : decode cX12_ruleOf 27 = .ok (.iadd, 1) := by decide +kernel
theorem dX12_ruleOf_28 : decode cX12_ruleOf 28 = .ok (.iaload, 1) := by decide +kernel
theorem dX12_ruleOf_29 : decode cX12_ruleOf 29 = .ok (.iload_n 1, 1) := by decide +kernel
theorem dX12_ruleOf_30 : decode cX12_ruleOf 30 = .ok (.if_icmp .ne 21, 3) := by decide +kernel
theorem dX12_ruleOf_33 : decode cX12_ruleOf 33 = .ok (.aload_n 0, 1) := by decide +kernel
theorem dX12_ruleOf_34 : decode cX12_ruleOf 34 = .ok (.bipush 16, 2) := by decide +kernel
theorem dX12_ruleOf_36 : decode cX12_ruleOf 36 = .ok (.aload_n 0, 1) := by decide +kernel
theorem dX12_ruleOf_37 : decode cX12_ruleOf 37 = .ok (.getfield 272, 3) := by decide +kernel
theorem dX12_ruleOf_40 : decode cX12_ruleOf 40 = .ok (.imul, 1) := by decide +kernel
theorem dX12_ruleOf_41 : decode cX12_ruleOf 41 = .ok (.iload_n 2, 1) := by decide +kernel
theorem dX12_ruleOf_42 : decode cX12_ruleOf 42 = .ok (.iadd, 1) := by decide +kernel
theorem dX12_ruleOf_43 : decode cX12_ruleOf 43 = .ok (.invokevirtual 342, 3) := by decide +kernel
theorem dX12_ruleOf_46 : decode cX12_ruleOf 46 = .ok (.ifCond .eq 5, 3) := by decide +kernel
theorem dX12_ruleOf_49 : decode cX12_ruleOf 49 = .ok (.iload_n 2, 1) := by decide +kernel
theorem dX12_ruleOf_50 : decode cX12_ruleOf 50 = .ok (.ireturn, 1) := by decide +kernel
theorem dX12_ruleOf_51 : decode cX12_ruleOf 51 = .ok (.iinc 2 1, 3) := by decide +kernel
theorem dX12_ruleOf_54 : decode cX12_ruleOf 54 = .ok (.goto (-52), 3) := by decide +kernel
theorem dX12_ruleOf_57 : decode cX12_ruleOf 57 = .ok (.iconst (-1), 1) := by decide +kernel
theorem dX12_ruleOf_58 : decode cX12_ruleOf 58 = .ok (.ireturn, 1) := by decide +kernel
theorem dX12_heldOf_0 : decode cX12_heldOf 0 = .ok (.aload_n 0, 1) := by decide +kernel
theorem dX12_heldOf_1 : decode cX12_heldOf 1 = .ok (.iload_n 1, 1) := by decide +kernel
theorem dX12_heldOf_2 : decode cX12_heldOf 2 = .ok (.invokevirtual 345, 3) := by decide +kernel
theorem dX12_heldOf_5 : decode cX12_heldOf 5 = .ok (.istore_n 2, 1) := by decide +kernel
theorem dX12_heldOf_6 : decode cX12_heldOf 6 = .ok (.iload_n 2, 1) := by decide +kernel
theorem dX12_heldOf_7 : decode cX12_heldOf 7 = .ok (.iconst (-1), 1) := by decide +kernel
theorem dX12_heldOf_8 : decode cX12_heldOf 8 = .ok (.if_icmp .ne 5, 3) := by decide +kernel
theorem dX12_heldOf_11 : decode cX12_heldOf 11 = .ok (.iconst 0, 1) := by decide +kernel
theorem dX12_heldOf_12 : decode cX12_heldOf 12 = .ok (.ireturn, 1) := by decide +kernel
theorem dX12_heldOf_13 : decode cX12_heldOf 13 = .ok (.aload_n 0, 1) := by decide +kernel
theorem dX12_heldOf_14 : decode cX12_heldOf 14 = .ok (.aload_n 0, 1) := by decide +kernel
theorem dX12_heldOf_15 : decode cX12_heldOf 15 = .ok (.getfield 46, 3) := by decide +kernel
theorem dX12_heldOf_18 : decode cX12_heldOf 18 = .ok (.bipush 16, 2) := by decide +kernel
theorem dX12_heldOf_20 : decode cX12_heldOf 20 = .ok (.aload_n 0, 1) := by decide +kernel
theorem dX12_heldOf_21 : decode cX12_heldOf 21 = .ok (.getfield 272, 3) := by decide +kernel
theorem dX12_heldOf_24 : decode cX12_heldOf 24 = .ok (.imul, 1) := by decide +kernel
theorem dX12_heldOf_25 : decode cX12_heldOf 25 = .ok (.iload_n 2, 1) := by decide +kernel
theorem dX12_heldOf_26 : decode cX12_heldOf 26 = .ok (.iadd, 1) := by decide +kernel
theorem dX12_heldOf_27 : decode cX12_heldOf 27 = .ok (.iaload, 1) := by decide +kernel
theorem dX12_heldOf_28 : decode cX12_heldOf 28 = .ok (.aload_n 0, 1) := by decide +kernel
theorem dX12_heldOf_29 : decode cX12_heldOf 29 = .ok (.getfield 49, 3) := by decide +kernel
theorem dX12_heldOf_32 : decode cX12_heldOf 32 = .ok (.bipush 16, 2) := by decide +kernel
theorem dX12_heldOf_34 : decode cX12_heldOf 34 = .ok (.aload_n 0, 1) := by decide +kernel
theorem dX12_heldOf_35 : decode cX12_heldOf 35 = .ok (.getfield 272, 3) := by decide +kernel
theorem dX12_heldOf_38 : decode cX12_heldOf 38 = .ok (.imul, 1) := by decide +kernel
theorem dX12_heldOf_39 : decode cX12_heldOf 39 = .ok (.iload_n 2, 1) := by decide +kernel
theorem dX12_heldOf_40 : decode cX12_heldOf 40 = .ok (.iadd, 1) := by decide +kernel
theorem dX12_heldOf_41 : decode cX12_heldOf 41 = .ok (.iaload, 1) := by decide +kernel
theorem dX12_heldOf_42 : decode cX12_heldOf 42 = .ok (.invokevirtual 339, 3) := by decide +kernel
theorem dX12_heldOf_45 : decode cX12_heldOf 45 = .ok (.istore_n 3, 1) := by decide +kernel
theorem dX12_heldOf_46 : decode cX12_heldOf 46 = .ok (.iload_n 3, 1) := by decide +kernel
theorem dX12_heldOf_47 : decode cX12_heldOf 47 = .ok (.ifCond .ge 7, 3) := by decide +kernel
theorem dX12_heldOf_50 : decode cX12_heldOf 50 = .ok (.iconst 0, 1) := by decide +kernel
theorem dX12_heldOf_51 : decode cX12_heldOf 51 = .ok (.goto 15, 3) := by decide +kernel
theorem dX12_heldOf_54 : decode cX12_heldOf 54 = .ok (.iload_n 3, 1) := by decide +kernel
theorem dX12_heldOf_55 : decode cX12_heldOf 55 = .ok (.bipush 30, 2) := by decide +kernel
theorem dX12_heldOf_57 : decode cX12_heldOf 57 = .ok (.if_icmp .le 8, 3) := by decide +kernel
theorem dX12_heldOf_60 : decode cX12_heldOf 60 = .ok (.bipush 30, 2) := by decide +kernel
theorem dX12_heldOf_62 : decode cX12_heldOf 62 = .ok (.goto 4, 3) := by decide +kernel
theorem dX12_heldOf_65 : decode cX12_heldOf 65 = .ok (.iload_n 3, 1) := by decide +kernel
theorem dX12_heldOf_66 : decode cX12_heldOf 66 = .ok (.ireturn, 1) := by decide +kernel
theorem dX12_asks_0 : decode cX12_asks 0 = .ok (.aload_n 0, 1) := by decide +kernel
theorem dX12_asks_1 : decode cX12_asks 1 = .ok (.getfield 140, 3) := by decide +kernel
theorem dX12_asks_4 : decode cX12_asks 4 = .ok (.iconst 0, 1) := by decide +kernel
theorem dX12_asks_5 : decode cX12_asks 5 = .ok (.iload_n 1, 1) := by decide +kernel
theorem dX12_asks_6 : decode cX12_asks 6 = .ok (.iastore, 1) := by decide +kernel
theorem dX12_asks_7 : decode cX12_asks 7 = .ok (.aload_n 0, 1) := by decide +kernel
theorem dX12_asks_8 : decode cX12_asks 8 = .ok (.getfield 140, 3) := by decide +kernel
theorem dX12_asks_11 : decode cX12_asks 11 = .ok (.iconst 1, 1) := by decide +kernel
theorem dX12_asks_12 : decode cX12_asks 12 = .ok (.aload_n 0, 1) := by decide +kernel
theorem dX12_asks_13 : decode cX12_asks 13 = .ok (.getfield 86, 3) := by decide +kernel
theorem dX12_asks_16 : decode cX12_asks 16 = .ok (.iload_n 1, 1) := by decide +kernel
theorem dX12_asks_17 : decode cX12_asks 17 = .ok (.iaload, 1) := by decide +kernel
theorem dX12_asks_18 : decode cX12_asks 18 = .ok (.iastore, 1) := by decide +kernel
theorem dX12_asks_19 : decode cX12_asks 19 = .ok (.aload_n 0, 1) := by decide +kernel
theorem dX12_asks_20 : decode cX12_asks 20 = .ok (.getfield 140, 3) := by decide +kernel
theorem dX12_asks_23 : decode cX12_asks 23 = .ok (.iconst 2, 1) := by decide +kernel
theorem dX12_asks_24 : decode cX12_asks 24 = .ok (.iload_n 3, 1) := by decide +kernel
theorem dX12_asks_25 : decode cX12_asks 25 = .ok (.iastore, 1) := by decide +kernel
theorem dX12_asks_26 : decode cX12_asks 26 = .ok (.aload_n 0, 1) := by decide +kernel
theorem dX12_asks_27 : decode cX12_asks 27 = .ok (.getfield 140, 3) := by decide +kernel
theorem dX12_asks_30 : decode cX12_asks 30 = .ok (.iconst 3, 1) := by decide +kernel
theorem dX12_asks_31 : decode cX12_asks 31 = .ok (.iload 4, 2) := by decide +kernel
theorem dX12_asks_33 : decode cX12_asks 33 = .ok (.iastore, 1) := by decide +kernel
theorem dX12_asks_34 : decode cX12_asks 34 = .ok (.aload_n 0, 1) := by decide +kernel
theorem dX12_asks_35 : decode cX12_asks 35 = .ok (.getfield 140, 3) := by decide +kernel
theorem dX12_asks_38 : decode cX12_asks 38 = .ok (.iconst 4, 1) := by decide +kernel
theorem dX12_asks_39 : decode cX12_asks 39 = .ok (.aload_n 0, 1) := by decide +kernel
theorem dX12_asks_40 : decode cX12_asks 40 = .ok (.getfield 131, 3) := by decide +kernel
theorem dX12_asks_43 : decode cX12_asks 43 = .ok (.iload_n 2, 1) := by decide +kernel
theorem dX12_asks_44 : decode cX12_asks 44 = .ok (.iaload, 1) := by decide +kernel
theorem dX12_asks_45 : decode cX12_asks 45 = .ok (.iastore, 1) := by decide +kernel
theorem dX12_asks_46 : decode cX12_asks 46 = .ok (.aload_n 0, 1) := by decide +kernel
theorem dX12_asks_47 : decode cX12_asks 47 = .ok (.getfield 140, 3) := by decide +kernel
theorem dX12_asks_50 : decode cX12_asks 50 = .ok (.iconst 5, 1) := by decide +kernel
theorem dX12_asks_51 : decode cX12_asks 51 = .ok (.iload_n 2, 1) := by decide +kernel
theorem dX12_asks_52 : decode cX12_asks 52 = .ok (.iastore, 1) := by decide +kernel
theorem dX12_asks_53 : decode cX12_asks 53 = .ok (.aload_n 0, 1) := by decide +kernel
theorem dX12_asks_54 : decode cX12_asks 54 = .ok (.getfield 140, 3) := by decide +kernel
theorem dX12_asks_57 : decode cX12_asks 57 = .ok (.bipush 6, 2) := by decide +kernel
theorem dX12_asks_59 : decode cX12_asks 59 = .ok (.aload_n 0, 1) := by decide +kernel
theorem dX12_asks_60 : decode cX12_asks 60 = .ok (.getfield 313, 3) := by decide +kernel
theorem dX12_asks_63 : decode cX12_asks 63 = .ok (.iastore, 1) := by decide +kernel
theorem dX12_asks_64 : decode cX12_asks 64 = .ok (.aload_n 0, 1) := by decide +kernel
theorem dX12_asks_65 : decode cX12_asks 65 = .ok (.getfield 140, 3) := by decide +kernel
theorem dX12_asks_68 : decode cX12_asks 68 = .ok (.bipush 7, 2) := by decide +kernel
theorem dX12_asks_70 : decode cX12_asks 70 = .ok (.iload 5, 2) := by decide +kernel
theorem dX12_asks_72 : decode cX12_asks 72 = .ok (.iastore, 1) := by decide +kernel
theorem dX12_asks_73 : decode cX12_asks 73 = .ok (.aload_n 0, 1) := by decide +kernel
theorem dX12_asks_74 : decode cX12_asks 74 = .ok (.getfield 140, 3) := by decide +kernel
theorem dX12_asks_77 : decode cX12_asks 77 = .ok (.bipush 8, 2) := by decide +kernel
theorem dX12_asks_79 : decode cX12_asks 79 = .ok (.aload_n 0, 1) := by decide +kernel
theorem dX12_asks_80 : decode cX12_asks 80 = .ok (.getfield 92, 3) := by decide +kernel
theorem dX12_asks_83 : decode cX12_asks 83 = .ok (.iload_n 1, 1) := by decide +kernel
theorem dX12_asks_84 : decode cX12_asks 84 = .ok (.iaload, 1) := by decide +kernel
theorem dX12_asks_85 : decode cX12_asks 85 = .ok (.iastore, 1) := by decide +kernel
theorem dX12_asks_86 : decode cX12_asks 86 = .ok (.return_, 1) := by decide +kernel
theorem dX12_out_0 : decode cX12_out 0 = .ok (.aload_n 0, 1) := by decide +kernel
theorem dX12_out_1 : decode cX12_out 1 = .ok (.iload_n 1, 1) := by decide +kernel
theorem dX12_out_2 : decode cX12_out 2 = .ok (.invokevirtual 310, 3) := by decide +kernel
theorem dX12_out_5 : decode cX12_out 5 = .ok (.ifCond .eq 18, 3) := by decide +kernel
theorem dX12_out_8 : decode cX12_out 8 = .ok (.iload_n 2, 1) := by decide +kernel
theorem dX12_out_9 : decode cX12_out 9 = .ok (.invokestatic 316, 3) := by decide +kernel
theorem dX12_out_12 : decode cX12_out 12 = .ok (.ifCond .eq 11, 3) := by decide +kernel
theorem dX12_out_15 : decode cX12_out 15 = .ok (.aload_n 0, 1) := by decide +kernel
theorem dX12_out_16 : decode cX12_out 16 = .ok (.iload_n 3, 1) := by decide +kernel
theorem dX12_out_17 : decode cX12_out 17 = .ok (.invokevirtual 333, 3) := by decide +kernel
theorem dX12_out_20 : decode cX12_out 20 = .ok (.ifCond .ne 5, 3) := by decide +kernel
theorem dX12_out_23 : decode cX12_out 23 = .ok (.iconst (-1), 1) := by decide +kernel
theorem dX12_out_24 : decode cX12_out 24 = .ok (.ireturn, 1) := by decide +kernel
theorem dX12_out_25 : decode cX12_out 25 = .ok (.aload_n 0, 1) := by decide +kernel
theorem dX12_out_26 : decode cX12_out 26 = .ok (.iload_n 3, 1) := by decide +kernel
theorem dX12_out_27 : decode cX12_out 27 = .ok (.invokevirtual 336, 3) := by decide +kernel
theorem dX12_out_30 : decode cX12_out 30 = .ok (.aload_n 0, 1) := by decide +kernel
theorem dX12_out_31 : decode cX12_out 31 = .ok (.iload_n 1, 1) := by decide +kernel
theorem dX12_out_32 : decode cX12_out 32 = .ok (.aload_n 0, 1) := by decide +kernel
theorem dX12_out_33 : decode cX12_out 33 = .ok (.getfield 131, 3) := by decide +kernel
theorem dX12_out_36 : decode cX12_out 36 = .ok (.iload_n 2, 1) := by decide +kernel
theorem dX12_out_37 : decode cX12_out 37 = .ok (.iaload, 1) := by decide +kernel
theorem dX12_out_38 : decode cX12_out 38 = .ok (.invokevirtual 329, 3) := by decide +kernel
theorem dX12_out_41 : decode cX12_out 41 = .ok (.istore 4, 2) := by decide +kernel
theorem dX12_out_43 : decode cX12_out 43 = .ok (.iload 4, 2) := by decide +kernel
theorem dX12_out_45 : decode cX12_out 45 = .ok (.ifCond .ne 5, 3) := by decide +kernel
theorem dX12_out_48 : decode cX12_out 48 = .ok (.iconst (-1), 1) := by decide +kernel
theorem dX12_out_49 : decode cX12_out 49 = .ok (.ireturn, 1) := by decide +kernel
theorem dX12_out_50 : decode cX12_out 50 = .ok (.aload_n 0, 1) := by decide +kernel
theorem dX12_out_51 : decode cX12_out 51 = .ok (.iload_n 1, 1) := by decide +kernel
theorem dX12_out_52 : decode cX12_out 52 = .ok (.iload_n 2, 1) := by decide +kernel
theorem dX12_out_53 : decode cX12_out 53 = .ok (.iconst (-1), 1) := by decide +kernel
theorem dX12_out_54 : decode cX12_out 54 = .ok (.iconst 0, 1) := by decide +kernel
theorem dX12_out_55 : decode cX12_out 55 = .ok (.iload 4, 2) := by decide +kernel
theorem dX12_out_57 : decode cX12_out 57 = .ok (.invokevirtual 348, 3) := by decide +kernel
theorem dX12_out_60 : decode cX12_out 60 = .ok (.aload_n 0, 1) := by decide +kernel
theorem dX12_out_61 : decode cX12_out 61 = .ok (.iconst 0, 1) := by decide +kernel
theorem dX12_out_62 : decode cX12_out 62 = .ok (.invokevirtual 345, 3) := by decide +kernel
theorem dX12_out_65 : decode cX12_out 65 = .ok (.ireturn, 1) := by decide +kernel
theorem dX12_isTaken_0 : decode cX12_isTaken 0 = .ok (.iconst 0, 1) := by decide +kernel
theorem dX12_isTaken_1 : decode cX12_isTaken 1 = .ok (.istore_n 2, 1) := by decide +kernel
theorem dX12_isTaken_2 : decode cX12_isTaken 2 = .ok (.iload_n 2, 1) := by decide +kernel
theorem dX12_isTaken_3 : decode cX12_isTaken 3 = .ok (.aload_n 0, 1) := by decide +kernel
theorem dX12_isTaken_4 : decode cX12_isTaken 4 = .ok (.getfield 352, 3) := by decide +kernel
