theorem dX12_isTaken_7 : decode cX12_isTaken 7 = .ok (.if_icmp .ge 31, 3) := by decide +kernel
theorem dX12_isTaken_10 : decode cX12_isTaken 10 = .ok (.aload_n 0, 1) := by decide +kernel
theorem dX12_isTaken_11 : decode cX12_isTaken 11 = .ok (.getfield 149, 3) := by decide +kernel
theorem dX12_isTaken_14 : decode cX12_isTaken 14 = .ok (.iload_n 2, 1) := by decide +kernel
theorem dX12_isTaken_15 : decode cX12_isTaken 15 = .ok (.iaload, 1) := by decide +kernel
theorem dX12_isTaken_16 : decode cX12_isTaken 16 = .ok (.iload_n 1, 1) := by decide +kernel
theorem dX12_isTaken_17 : decode cX12_isTaken 17 = .ok (.if_icmp .eq 13, 3) := by decide +kernel
theorem dX12_isTaken_20 : decode cX12_isTaken 20 = .ok (.aload_n 0, 1) := by decide +kernel
theorem dX12_isTaken_21 : decode cX12_isTaken 21 = .ok (.getfield 158, 3) := by decide +kernel
theorem dX12_isTaken_24 : decode cX12_isTaken 24 = .ok (.iload_n 2, 1) := by decide +kernel
theorem dX12_isTaken_25 : decode cX12_isTaken 25 = .ok (.iaload, 1) := by decide +kernel
theorem dX12_isTaken_26 : decode cX12_isTaken 26 = .ok (.iload_n 1, 1) := by decide +kernel
theorem dX12_isTaken_27 : decode cX12_isTaken 27 = .ok (.if_icmp .ne 5, 3) := by decide +kernel
theorem dX12_isTaken_30 : decode cX12_isTaken 30 = .ok (.iconst 1, 1) := by decide +kernel
theorem dX12_isTaken_31 : decode cX12_isTaken 31 = .ok (.ireturn, 1) := by decide +kernel
theorem dX12_isTaken_32 : decode cX12_isTaken 32 = .ok (.iinc 2 1, 3) := by decide +kernel
theorem dX12_isTaken_35 : decode cX12_isTaken 35 = .ok (.goto (-33), 3) := by decide +kernel
theorem dX12_isTaken_38 : decode cX12_isTaken 38 = .ok (.iconst 0, 1) := by decide +kernel
theorem dX12_isTaken_39 : decode cX12_isTaken 39 = .ok (.ireturn, 1) := by decide +kernel
theorem dX12_isOpen_0 : decode cX12_isOpen 0 = .ok (.iload_n 1, 1) := by decide +kernel
theorem dX12_isOpen_1 : decode cX12_isOpen 1 = .ok (.istore_n 3, 1) := by decide +kernel
theorem dX12_isOpen_2 : decode cX12_isOpen 2 = .ok (.iload_n 3, 1) := by decide +kernel
theorem dX12_isOpen_3 : decode cX12_isOpen 3 = .ok (.iload_n 2, 1) := by decide +kernel
theorem dX12_isOpen_4 : decode cX12_isOpen 4 = .ok (.if_icmp .ge 20, 3) := by decide +kernel
theorem dX12_isOpen_7 : decode cX12_isOpen 7 = .ok (.aload_n 0, 1) := by decide +kernel
theorem dX12_isOpen_8 : decode cX12_isOpen 8 = .ok (.getfield 134, 3) := by decide +kernel
theorem dX12_isOpen_11 : decode cX12_isOpen 11 = .ok (.iload_n 3, 1) := by decide +kernel
theorem dX12_isOpen_12 : decode cX12_isOpen 12 = .ok (.baload, 1) := by decide +kernel
theorem dX12_isOpen_13 : decode cX12_isOpen 13 = .ok (.ifCond .eq 5, 3) := by decide +kernel
theorem dX12_isOpen_16 : decode cX12_isOpen 16 = .ok (.iconst 0, 1) := by decide +kernel
theorem dX12_isOpen_17 : decode cX12_isOpen 17 = .ok (.ireturn, 1) := by decide +kernel
theorem dX12_isOpen_18 : decode cX12_isOpen 18 = .ok (.iinc 3 1, 3) := by decide +kernel
theorem dX12_isOpen_21 : decode cX12_isOpen 21 = .ok (.goto (-19), 3) := by decide +kernel
theorem dX12_isOpen_24 : decode cX12_isOpen 24 = .ok (.iconst 1, 1) := by decide +kernel
theorem dX12_isOpen_25 : decode cX12_isOpen 25 = .ok (.ireturn, 1) := by decide +kernel
theorem dX12_places_0 : decode cX12_places 0 = .ok (.aload_n 0, 1) := by decide +kernel
theorem dX12_places_1 : decode cX12_places 1 = .ok (.getfield 352, 3) := by decide +kernel
theorem dX12_places_4 : decode cX12_places 4 = .ok (.ifCond .ne 7, 3) := by decide +kernel
theorem dX12_places_7 : decode cX12_places 7 = .ok (.iconst 0, 1) := by decide +kernel
theorem dX12_places_8 : decode cX12_places 8 = .ok (.goto 14, 3) := by decide +kernel
theorem dX12_places_11 : decode cX12_places 11 = .ok (.aload_n 0, 1) := by decide +kernel
theorem dX12_places_12 : decode cX12_places 12 = .ok (.getfield 155, 3) := by decide +kernel
theorem dX12_places_15 : decode cX12_places 15 = .ok (.aload_n 0, 1) := by decide +kernel
theorem dX12_places_16 : decode cX12_places 16 = .ok (.getfield 352, 3) := by decide +kernel
theorem dX12_places_19 : decode cX12_places 19 = .ok (.iconst 1, 1) := by decide +kernel
theorem dX12_places_20 : decode cX12_places 20 = .ok (.isub, 1) := by decide +kernel
theorem dX12_places_21 : decode cX12_places 21 = .ok (.iaload, 1) := by decide +kernel
theorem dX12_places_22 : decode cX12_places 22 = .ok (.istore_n 2, 1) := by decide +kernel
theorem dX12_places_23 : decode cX12_places 23 = .ok (.iconst 0, 1) := by decide +kernel
theorem dX12_places_24 : decode cX12_places 24 = .ok (.istore_n 3, 1) := by decide +kernel
theorem dX12_places_25 : decode cX12_places 25 = .ok (.iconst 0, 1) := by decide +kernel
theorem dX12_places_26 : decode cX12_places 26 = .ok (.istore 4, 2) := by decide +kernel
theorem dX12_places_28 : decode cX12_places 28 = .ok (.iload 4, 2) := by decide +kernel
theorem dX12_places_30 : decode cX12_places 30 = .ok (.aload_n 0, 1) := by decide +kernel
theorem dX12_places_31 : decode cX12_places 31 = .ok (.getfield 352, 3) := by decide +kernel
theorem dX12_places_34 : decode cX12_places 34 = .ok (.if_icmp .ge 33, 3) := by decide +kernel
theorem dX12_places_37 : decode cX12_places 37 = .ok (.aload_n 0, 1) := by decide +kernel
theorem dX12_places_38 : decode cX12_places 38 = .ok (.getfield 89, 3) := by decide +kernel
theorem dX12_places_41 : decode cX12_places 41 = .ok (.aload_n 0, 1) := by decide +kernel
theorem dX12_places_42 : decode cX12_places 42 = .ok (.getfield 146, 3) := by decide +kernel
theorem dX12_places_45 : decode cX12_places 45 = .ok (.iload 4, 2) := by decide +kernel
theorem dX12_places_47 : decode cX12_places 47 = .ok (.iaload, 1) := by decide +kernel
theorem dX12_places_48 : decode cX12_places 48 = .ok (.iaload, 1) := by decide +kernel
theorem dX12_places_49 : decode cX12_places 49 = .ok (.aload_n 0, 1) := by decide +kernel
theorem dX12_places_50 : decode cX12_places 50 = .ok (.getfield 89, 3) := by decide +kernel
theorem dX12_places_53 : decode cX12_places 53 = .ok (.iload_n 1, 1) := by decide +kernel
theorem dX12_places_54 : decode cX12_places 54 = .ok (.iaload, 1) := by decide +kernel
theorem dX12_places_55 : decode cX12_places 55 = .ok (.if_icmp .ne 6, 3) := by decide +kernel
theorem dX12_places_58 : decode cX12_places 58 = .ok (.iinc 3 1, 3) := by decide +kernel
theorem dX12_places_61 : decode cX12_places 61 = .ok (.iinc 4 1, 3) := by decide +kernel
theorem dX12_places_64 : decode cX12_places 64 = .ok (.goto (-36), 3) := by decide +kernel
theorem dX12_places_67 : decode cX12_places 67 = .ok (.iload_n 2, 1) := by decide +kernel
theorem dX12_places_68 : decode cX12_places 68 = .ok (.istore 4, 2) := by decide +kernel
theorem dX12_places_70 : decode cX12_places 70 = .ok (.iload 4, 2) := by decide +kernel
theorem dX12_places_72 : decode cX12_places 72 = .ok (.sipush 240, 3) := by decide +kernel
theorem dX12_places_75 : decode cX12_places 75 = .ok (.if_icmp .ge 309, 3) := by decide +kernel
theorem dX12_places_78 : decode cX12_places 78 = .ok (.aload_n 0, 1) := by decide +kernel
theorem dX12_places_79 : decode cX12_places 79 = .ok (.iload_n 1, 1) := by decide +kernel
theorem dX12_places_80 : decode cX12_places 80 = .ok (.aload_n 0, 1) := by decide +kernel
theorem dX12_places_81 : decode cX12_places 81 = .ok (.getfield 131, 3) := by decide +kernel
theorem dX12_places_84 : decode cX12_places 84 = .ok (.iload 4, 2) := by decide +kernel
theorem dX12_places_86 : decode cX12_places 86 = .ok (.iaload, 1) := by decide +kernel
theorem dX12_places_87 : decode cX12_places 87 = .ok (.invokevirtual 329, 3) := by decide +kernel
theorem dX12_places_90 : decode cX12_places 90 = .ok (.istore 5, 2) := by decide +kernel
theorem dX12_places_92 : decode cX12_places 92 = .ok (.iload 5, 2) := by decide +kernel
theorem dX12_places_94 : decode cX12_places 94 = .ok (.ifCond .eq 284, 3) := by decide +kernel
theorem dX12_places_97 : decode cX12_places 97 = .ok (.iload 4, 2) := by decide +kernel
theorem dX12_places_99 : decode cX12_places 99 = .ok (.iload 5, 2) := by decide +kernel
theorem dX12_places_101 : decode cX12_places 101 = .ok (.iadd, 1) := by decide +kernel
theorem dX12_places_102 : decode cX12_places 102 = .ok (.sipush 240, 3) := by decide +kernel
theorem dX12_places_105 : decode cX12_places 105 = .ok (.if_icmp .gt 273, 3) := by decide +kernel
theorem dX12_places_108 : decode cX12_places 108 = .ok (.aload_n 0, 1) := by decide +kernel
theorem dX12_places_109 : decode cX12_places 109 = .ok (.iload 4, 2) := by decide +kernel
theorem dX12_places_111 : decode cX12_places 111 = .ok (.iload 4, 2) := by decide +kernel
theorem dX12_places_113 : decode cX12_places 113 = .ok (.iload 5, 2) := by decide +kernel
theorem dX12_places_115 : decode cX12_places 115 = .ok (.iadd, 1) := by decide +kernel
theorem dX12_places_116 : decode cX12_places 116 = .ok (.invokevirtual 355, 3) := by decide +kernel
theorem dX12_places_119 : decode cX12_places 119 = .ok (.ifCond .ne 6, 3) := by decide +kernel
theorem dX12_places_122 : decode cX12_places 122 = .ok (.goto 256, 3) := by decide +kernel
theorem dX12_places_125 : decode cX12_places 125 = .ok (.aload_n 0, 1) := by decide +kernel
theorem dX12_places_126 : decode cX12_places 126 = .ok (.iload_n 1, 1) := by decide +kernel
theorem dX12_places_127 : decode cX12_places 127 = .ok (.iload 4, 2) := by decide +kernel
theorem dX12_places_129 : decode cX12_places 129 = .ok (.aload_n 0, 1) := by decide +kernel
theorem dX12_places_130 : decode cX12_places 130 = .ok (.getfield 352, 3) := by decide +kernel
theorem dX12_places_133 : decode cX12_places 133 = .ok (.ifCond .ne 7, 3) := by decide +kernel
theorem dX12_places_136 : decode cX12_places 136 = .ok (.iconst (-1), 1) := by decide +kernel
theorem dX12_places_137 : decode cX12_places 137 = .ok (.goto 19, 3) := by decide +kernel
theorem dX12_places_140 : decode cX12_places 140 = .ok (.aload_n 0, 1) := by decide +kernel
theorem dX12_places_141 : decode cX12_places 141 = .ok (.getfield 86, 3) := by decide +kernel
theorem dX12_places_144 : decode cX12_places 144 = .ok (.aload_n 0, 1) := by decide +kernel
theorem dX12_places_145 : decode cX12_places 145 = .ok (.getfield 146, 3) := by decide +kernel
theorem dX12_places_148 : decode cX12_places 148 = .ok (.aload_n 0, 1) := by decide +kernel
theorem dX12_places_149 : decode cX12_places 149 = .ok (.getfield 352, 3) := by decide +kernel
theorem dX12_places_152 : decode cX12_places 152 = .ok (.iconst 1, 1) := by decide +kernel
theorem dX12_places_153 : decode cX12_places 153 = .ok (.isub, 1) := by decide +kernel
theorem dX12_places_154 : decode cX12_places 154 = .ok (.iaload, 1) := by decide +kernel
theorem dX12_places_155 : decode cX12_places 155 = .ok (.iaload, 1) := by decide +kernel
theorem dX12_places_156 : decode cX12_places 156 = .ok (.iload_n 3, 1) := by decide +kernel
theorem dX12_places_157 : decode cX12_places 157 = .ok (.iload 5, 2) := by decide +kernel
theorem dX12_places_159 : decode cX12_places 159 = .ok (.invokevirtual 348, 3) := by decide +kernel
theorem dX12_places_162 : decode cX12_places 162 = .ok (.aload_n 0, 1) := by decide +kernel
theorem dX12_places_163 : decode cX12_places 163 = .ok (.getfield 352, 3) := by decide +kernel
theorem dX12_places_166 : decode cX12_places 166 = .ok (.ifCond .le 15, 3) := by decide +kernel
theorem dX12_places_169 : decode cX12_places 169 = .ok (.iload 4, 2) := by decide +kernel
theorem dX12_places_171 : decode cX12_places 171 = .ok (.iload_n 2, 1) := by decide +kernel
theorem dX12_places_172 : decode cX12_places 172 = .ok (.aload_n 0, 1) := by decide +kernel
theorem dX12_places_173 : decode cX12_places 173 = .ok (.iconst 1, 1) := by decide +kernel
theorem dX12_places_174 : decode cX12_places 174 = .ok (.invokevirtual 358, 3) := by decide +kernel
theorem dX12_places_177 : decode cX12_places 177 = .ok (.iadd, 1) := by decide +kernel
theorem dX12_places_178 : decode cX12_places 178 = .ok (.if_icmp .lt 200, 3) := by decide +kernel
theorem dX12_places_181 : decode cX12_places 181 = .ok (.aload_n 0, 1) := by decide +kernel
theorem dX12_places_182 : decode cX12_places 182 = .ok (.iconst 0, 1) := by decide +kernel
theorem dX12_places_183 : decode cX12_places 183 = .ok (.invokevirtual 345, 3) := by decide +kernel
theorem dX12_places_186 : decode cX12_places 186 = .ok (.iconst (-1), 1) := by decide +kernel
theorem dX12_places_187 : decode cX12_places 187 = .ok (.if_icmp .eq 6, 3) := by decide +kernel
theorem dX12_places_190 : decode cX12_places 190 = .ok (.goto 188, 3) := by decide +kernel
theorem dX12_places_193 : decode cX12_places 193 = .ok (.iload 4, 2) := by decide +kernel
theorem dX12_places_195 : decode cX12_places 195 = .ok (.aload_n 0, 1) := by decide +kernel
theorem dX12_places_196 : decode cX12_places 196 = .ok (.getfield 95, 3) := by decide +kernel
theorem dX12_places_199 : decode cX12_places 199 = .ok (.iload_n 1, 1) := by decide +kernel
theorem dX12_places_200 : decode cX12_places 200 = .ok (.iaload, 1) := by decide +kernel
theorem dX12_places_201 : decode cX12_places 201 = .ok (.isub, 1) := by decide +kernel
theorem dX12_places_202 : decode cX12_places 202 = .ok (.istore 6, 2) := by decide +kernel
theorem dX12_places_204 : decode cX12_places 204 = .ok (.iload 6, 2) := by decide +kernel
theorem dX12_places_206 : decode cX12_places 206 = .ok (.aload_n 0, 1) := by decide +kernel
theorem dX12_places_207 : decode cX12_places 207 = .ok (.getfield 137, 3) := by decide +kernel
theorem dX12_places_210 : decode cX12_places 210 = .ok (.iload_n 1, 1) := by decide +kernel
theorem dX12_places_211 : decode cX12_places 211 = .ok (.iaload, 1) := by decide +kernel
theorem dX12_places_212 : decode cX12_places 212 = .ok (.if_icmp .lt 18, 3) := by decide +kernel
theorem dX12_places_215 : decode cX12_places 215 = .ok (.aload_n 0, 1) := by decide +kernel
theorem dX12_places_216 : decode cX12_places 216 = .ok (.iload 6, 2) := by decide +kernel
theorem dX12_places_218 : decode cX12_places 218 = .ok (.invokevirtual 361, 3) := by decide +kernel
theorem dX12_places_221 : decode cX12_places 221 = .ok (.ifCond .eq 9, 3) := by decide +kernel
theorem dX12_places_224 : decode cX12_places 224 = .ok (.iinc 6 (-1), 3) := by decide +kernel
theorem dX12_places_227 : decode cX12_places 227 = .ok (.goto (-23), 3) := by decide +kernel
theorem dX12_places_230 : decode cX12_places 230 = .ok (.iload 4, 2) := by decide +kernel
theorem dX12_places_232 : decode cX12_places 232 = .ok (.iload 5, 2) := by decide +kernel
theorem dX12_places_234 : decode cX12_places 234 = .ok (.iadd, 1) := by decide +kernel
theorem dX12_places_235 : decode cX12_places 235 = .ok (.aload_n 0, 1) := by decide +kernel
theorem dX12_places_236 : decode cX12_places 236 = .ok (.getfield 98, 3) := by decide +kernel
theorem dX12_places_239 : decode cX12_places 239 = .ok (.iload_n 1, 1) := by decide +kernel
theorem dX12_places_240 : decode cX12_places 240 = .ok (.iaload, 1) := by decide +kernel
theorem dX12_places_241 : decode cX12_places 241 = .ok (.iadd, 1) := by decide +kernel
theorem dX12_places_242 : decode cX12_places 242 = .ok (.istore 7, 2) := by decide +kernel
theorem dX12_places_244 : decode cX12_places 244 = .ok (.iload 7, 2) := by decide +kernel
theorem dX12_places_246 : decode cX12_places 246 = .ok (.sipush 240, 3) := by decide +kernel
theorem dX12_places_249 : decode cX12_places 249 = .ok (.if_icmp .ge 18, 3) := by decide +kernel
theorem dX12_places_252 : decode cX12_places 252 = .ok (.aload_n 0, 1) := by decide +kernel
theorem dX12_places_253 : decode cX12_places 253 = .ok (.iload 7, 2) := by decide +kernel
theorem dX12_places_255 : decode cX12_places 255 = .ok (.invokevirtual 361, 3) := by decide +kernel
theorem dX12_places_258 : decode cX12_places 258 = .ok (.ifCond .eq 9, 3) := by decide +kernel
theorem dX12_places_261 : decode cX12_places 261 = .ok (.iinc 7 1, 3) := by decide +kernel
theorem dX12_places_264 : decode cX12_places 264 = .ok (.goto (-20), 3) := by decide +kernel
theorem dX12_places_267 : decode cX12_places 267 = .ok (.iload 6, 2) := by decide +kernel
theorem dX12_places_269 : decode cX12_places 269 = .ok (.aload_n 0, 1) := by decide +kernel
theorem dX12_places_270 : decode cX12_places 270 = .ok (.getfield 137, 3) := by decide +kernel
theorem dX12_places_273 : decode cX12_places 273 = .ok (.iload_n 1, 1) := by decide +kernel
theorem dX12_places_274 : decode cX12_places 274 = .ok (.iaload, 1) := by decide +kernel
theorem dX12_places_275 : decode cX12_places 275 = .ok (.if_icmp .lt 103, 3) := by decide +kernel
theorem dX12_places_278 : decode cX12_places 278 = .ok (.iload 7, 2) := by decide +kernel
theorem dX12_places_280 : decode cX12_places 280 = .ok (.sipush 240, 3) := by decide +kernel
theorem dX12_places_283 : decode cX12_places 283 = .ok (.if_icmp .ge 95, 3) := by decide +kernel
theorem dX12_places_286 : decode cX12_places 286 = .ok (.iload 7, 2) := by decide +kernel
theorem dX12_places_288 : decode cX12_places 288 = .ok (.iload 6, 2) := by decide +kernel
theorem dX12_places_290 : decode cX12_places 290 = .ok (.isub, 1) := by decide +kernel
theorem dX12_places_291 : decode cX12_places 291 = .ok (.aload_n 0, 1) := by decide +kernel
theorem dX12_places_292 : decode cX12_places 292 = .ok (.getfield 101, 3) := by decide +kernel
theorem dX12_places_295 : decode cX12_places 295 = .ok (.iload_n 1, 1) := by decide +kernel
theorem dX12_places_296 : decode cX12_places 296 = .ok (.iaload, 1) := by decide +kernel
theorem dX12_places_297 : decode cX12_places 297 = .ok (.aload_n 0, 1) := by decide +kernel
theorem dX12_places_298 : decode cX12_places 298 = .ok (.iconst 2, 1) := by decide +kernel
theorem dX12_places_299 : decode cX12_places 299 = .ok (.invokevirtual 358, 3) := by decide +kernel
theorem dX12_places_302 : decode cX12_places 302 = .ok (.isub, 1) := by decide +kernel
theorem dX12_places_303 : decode cX12_places 303 = .ok (.if_icmp .le 6, 3) := by decide +kernel
theorem dX12_places_306 : decode cX12_places 306 = .ok (.goto 72, 3) := by decide +kernel
theorem dX12_places_309 : decode cX12_places 309 = .ok (.aload_n 0, 1) := by decide +kernel
theorem dX12_places_310 : decode cX12_places 310 = .ok (.getfield 146, 3) := by decide +kernel
theorem dX12_places_313 : decode cX12_places 313 = .ok (.aload_n 0, 1) := by decide +kernel
theorem dX12_places_314 : decode cX12_places 314 = .ok (.getfield 352, 3) := by decide +kernel
theorem dX12_places_317 : decode cX12_places 317 = .ok (.iload_n 1, 1) := by decide +kernel
theorem dX12_places_318 : decode cX12_places 318 = .ok (.iastore, 1) := by decide +kernel
theorem dX12_places_319 : decode cX12_places 319 = .ok (.aload_n 0, 1) := by decide +kernel
theorem dX12_places_320 : decode cX12_places 320 = .ok (.getfield 149, 3) := by decide +kernel
theorem dX12_places_323 : decode cX12_places 323 = .ok (.aload_n 0, 1) := by decide +kernel
theorem dX12_places_324 : decode cX12_places 324 = .ok (.getfield 352, 3) := by decide +kernel
theorem dX12_places_327 : decode cX12_places 327 = .ok (.iload 6, 2) := by decide +kernel
theorem dX12_places_329 : decode cX12_places 329 = .ok (.iastore, 1) := by decide +kernel
theorem dX12_places_330 : decode cX12_places 330 = .ok (.aload_n 0, 1) := by decide +kernel
theorem dX12_places_331 : decode cX12_places 331 = .ok (.getfield 152, 3) := by decide +kernel
theorem dX12_places_334 : decode cX12_places 334 = .ok (.aload_n 0, 1) := by decide +kernel
theorem dX12_places_335 : decode cX12_places 335 = .ok (.getfield 352, 3) := by decide +kernel
theorem dX12_places_338 : decode cX12_places 338 = .ok (.iload 4, 2) := by decide +kernel
theorem dX12_places_340 : decode cX12_places 340 = .ok (.iastore, 1) := by decide +kernel
theorem dX12_places_341 : decode cX12_places 341 = .ok (.aload_n 0, 1) := by decide +kernel
theorem dX12_places_342 : decode cX12_places 342 = .ok (.getfield 155, 3) := by decide +kernel
theorem dX12_places_345 : decode cX12_places 345 = .ok (.aload_n 0, 1) := by decide +kernel
theorem dX12_places_346 : decode cX12_places 346 = .ok (.getfield 352, 3) := by decide +kernel
theorem dX12_places_349 : decode cX12_places 349 = .ok (.iload 4, 2) := by decide +kernel
theorem dX12_places_351 : decode cX12_places 351 = .ok (.iload 5, 2) := by decide +kernel
theorem dX12_places_353 : decode cX12_places 353 = .ok (.iadd, 1) := by decide +kernel
theorem dX12_places_354 : decode cX12_places 354 = .ok (.iastore, 1) := by decide +kernel
theorem dX12_places_355 : decode cX12_places 355 = .ok (.aload_n 0, 1) := by decide +kernel
theorem dX12_places_356 : decode cX12_places 356 = .ok (.getfield 158, 3) := by decide +kernel
theorem dX12_places_359 : decode cX12_places 359 = .ok (.aload_n 0, 1) := by decide +kernel
theorem dX12_places_360 : decode cX12_places 360 = .ok (.getfield 352, 3) := by decide +kernel
theorem dX12_places_363 : decode cX12_places 363 = .ok (.iload 7, 2) := by decide +kernel
theorem dX12_places_365 : decode cX12_places 365 = .ok (.iastore, 1) := by decide +kernel
theorem dX12_places_366 : decode cX12_places 366 = .ok (.aload_n 0, 1) := by decide +kernel
theorem dX12_places_367 : decode cX12_places 367 = .ok (.dup, 1) := by decide +kernel
theorem dX12_places_368 : decode cX12_places 368 = .ok (.getfield 352, 3) := by decide +kernel
theorem dX12_places_371 : decode cX12_places 371 = .ok (.iconst 1, 1) := by decide +kernel
theorem dX12_places_372 : decode cX12_places 372 = .ok (.iadd, 1) := by decide +kernel
theorem dX12_places_373 : decode cX12_places 373 = .ok (.putfield 352, 3) := by decide +kernel
theorem dX12_places_376 : decode cX12_places 376 = .ok (.iconst 1, 1) := by decide +kernel
theorem dX12_places_377 : decode cX12_places 377 = .ok (.ireturn, 1) := by decide +kernel
theorem dX12_places_378 : decode cX12_places 378 = .ok (.iinc 4 1, 3) := by decide +kernel
theorem dX12_places_381 : decode cX12_places 381 = .ok (.goto (-311), 3) := by decide +kernel
theorem dX12_places_384 : decode cX12_places 384 = .ok (.iconst 0, 1) := by decide +kernel
theorem dX12_places_385 : decode cX12_places 385 = .ok (.ireturn, 1) := by decide +kernel
theorem dX12_can_0 : decode cX12_can 0 = .ok (.aload_n 0, 1) := by decide +kernel
theorem dX12_can_1 : decode cX12_can 1 = .ok (.iload 5, 2) := by decide +kernel
theorem dX12_can_3 : decode cX12_can 3 = .ok (.invokevirtual 333, 3) := by decide +kernel
theorem dX12_can_6 : decode cX12_can 6 = .ok (.ifCond .eq 11, 3) := by decide +kernel
theorem dX12_can_9 : decode cX12_can 9 = .ok (.aload_n 0, 1) := by decide +kernel
theorem dX12_can_10 : decode cX12_can 10 = .ok (.iload_n 1, 1) := by decide +kernel
theorem dX12_can_11 : decode cX12_can 11 = .ok (.invokevirtual 310, 3) := by decide +kernel
theorem dX12_can_14 : decode cX12_can 14 = .ok (.ifCond .ne 5, 3) := by decide +kernel
theorem dX12_can_17 : decode cX12_can 17 = .ok (.iconst (-1), 1) := by decide +kernel
theorem dX12_can_18 : decode cX12_can 18 = .ok (.ireturn, 1) := by decide +kernel
theorem dX12_can_19 : decode cX12_can 19 = .ok (.aload_n 0, 1) := by decide +kernel
theorem dX12_can_20 : decode cX12_can 20 = .ok (.iload 5, 2) := by decide +kernel
theorem dX12_can_22 : decode cX12_can 22 = .ok (.invokevirtual 336, 3) := by decide +kernel
theorem dX12_can_25 : decode cX12_can 25 = .ok (.aload_n 0, 1) := by decide +kernel
theorem dX12_can_26 : decode cX12_can 26 = .ok (.iconst 0, 1) := by decide +kernel
theorem dX12_can_27 : decode cX12_can 27 = .ok (.putfield 352, 3) := by decide +kernel
theorem dX12_can_30 : decode cX12_can 30 = .ok (.iconst 1, 1) := by decide +kernel
theorem dX12_can_31 : decode cX12_can 31 = .ok (.istore 6, 2) := by decide +kernel
theorem dX12_can_33 : decode cX12_can 33 = .ok (.iconst 0, 1) := by decide +kernel
theorem dX12_can_34 : decode cX12_can 34 = .ok (.istore 7, 2) := by decide +kernel
theorem dX12_can_36 : decode cX12_can 36 = .ok (.iconst 0, 1) := by decide +kernel
theorem dX12_can_37 : decode cX12_can 37 = .ok (.istore 8, 2) := by decide +kernel
theorem dX12_can_39 : decode cX12_can 39 = .ok (.iconst 0, 1) := by decide +kernel
theorem dX12_can_40 : decode cX12_can 40 = .ok (.istore 9, 2) := by decide +kernel
theorem dX12_can_42 : decode cX12_can 42 = .ok (.iconst 0, 1) := by decide +kernel
theorem dX12_can_43 : decode cX12_can 43 = .ok (.istore 10, 2) := by decide +kernel
theorem dX12_can_45 : decode cX12_can 45 = .ok (.iload 10, 2) := by decide +kernel
theorem dX12_can_47 : decode cX12_can 47 = .ok (.iconst 4, 1) := by decide +kernel
theorem dX12_can_48 : decode cX12_can 48 = .ok (.if_icmp .ge 148, 3) := by decide +kernel
theorem dX12_can_51 : decode cX12_can 51 = .ok (.iload 10, 2) := by decide +kernel
theorem dX12_can_53 : decode cX12_can 53 = .ok (.ifCond .ne 7, 3) := by decide +kernel
theorem dX12_can_56 : decode cX12_can 56 = .ok (.iload_n 1, 1) := by decide +kernel
theorem dX12_can_57 : decode cX12_can 57 = .ok (.goto 25, 3) := by decide +kernel
theorem dX12_can_60 : decode cX12_can 60 = .ok (.iload 10, 2) := by decide +kernel
theorem dX12_can_62 : decode cX12_can 62 = .ok (.iconst 1, 1) := by decide +kernel
theorem dX12_can_63 : decode cX12_can 63 = .ok (.if_icmp .ne 7, 3) := by decide +kernel
theorem dX12_can_66 : decode cX12_can 66 = .ok (.iload_n 2, 1) := by decide +kernel
theorem dX12_can_67 : decode cX12_can 67 = .ok (.goto 15, 3) := by decide +kernel
theorem dX12_can_70 : decode cX12_can 70 = .ok (.iload 10, 2) := by decide +kernel
theorem dX12_can_72 : decode cX12_can 72 = .ok (.iconst 2, 1) := by decide +kernel
theorem dX12_can_73 : decode cX12_can 73 = .ok (.if_icmp .ne 7, 3) := by decide +kernel
theorem dX12_can_76 : decode cX12_can 76 = .ok (.iload_n 3, 1) := by decide +kernel
theorem dX12_can_77 : decode cX12_can 77 = .ok (.goto 5, 3) := by decide +kernel
theorem dX12_can_80 : decode cX12_can 80 = .ok (.iload 4, 2) := by decide +kernel
theorem dX12_can_82 : decode cX12_can 82 = .ok (.istore 11, 2) := by decide +kernel
theorem dX12_can_84 : decode cX12_can 84 = .ok (.iload 7, 2) := by decide +kernel
theorem dX12_can_86 : decode cX12_can 86 = .ok (.ifCond .ne 9, 3) := by decide +kernel
theorem dX12_can_89 : decode cX12_can 89 = .ok (.iload 11, 2) := by decide +kernel
theorem dX12_can_91 : decode cX12_can 91 = .ok (.iconst (-1), 1) := by decide +kernel
theorem dX12_can_92 : decode cX12_can 92 = .ok (.if_icmp .ne 7, 3) := by decide +kernel
theorem dX12_can_95 : decode cX12_can 95 = .ok (.iconst 1, 1) := by decide +kernel
theorem dX12_can_96 : decode cX12_can 96 = .ok (.goto 4, 3) := by decide +kernel
theorem dX12_can_99 : decode cX12_can 99 = .ok (.iconst 0, 1) := by decide +kernel
theorem dX12_can_100 : decode cX12_can 100 = .ok (.istore 7, 2) := by decide +kernel
theorem dX12_can_102 : decode cX12_can 102 = .ok (.iload 7, 2) := by decide +kernel
theorem dX12_can_104 : decode cX12_can 104 = .ok (.ifCond .eq 9, 3) := by decide +kernel
theorem dX12_can_107 : decode cX12_can 107 = .ok (.iload 11, 2) := by decide +kernel
theorem dX12_can_109 : decode cX12_can 109 = .ok (.iconst (-1), 1) := by decide +kernel
theorem dX12_can_110 : decode cX12_can 110 = .ok (.if_icmp .ne 28, 3) := by decide +kernel
theorem dX12_can_113 : decode cX12_can 113 = .ok (.iload 7, 2) := by decide +kernel
theorem dX12_can_115 : decode cX12_can 115 = .ok (.ifCond .ne 25, 3) := by decide +kernel
theorem dX12_can_118 : decode cX12_can 118 = .ok (.aload_n 0, 1) := by decide +kernel
theorem dX12_can_119 : decode cX12_can 119 = .ok (.iload 11, 2) := by decide +kernel
theorem dX12_can_121 : decode cX12_can 121 = .ok (.invokevirtual 310, 3) := by decide +kernel
theorem dX12_can_124 : decode cX12_can 124 = .ok (.ifCond .eq 14, 3) := by decide +kernel
theorem dX12_can_127 : decode cX12_can 127 = .ok (.iload 8, 2) := by decide +kernel
theorem dX12_can_129 : decode cX12_can 129 = .ok (.iload 11, 2) := by decide +kernel
theorem dX12_can_131 : decode cX12_can 131 = .ok (.ishr, 1) := by decide +kernel
theorem dX12_can_132 : decode cX12_can 132 = .ok (.iconst 1, 1) := by decide +kernel
theorem dX12_can_133 : decode cX12_can 133 = .ok (.iand, 1) := by decide +kernel
theorem dX12_can_134 : decode cX12_can 134 = .ok (.iconst 1, 1) := by decide +kernel
theorem dX12_can_135 : decode cX12_can 135 = .ok (.if_icmp .ne 5, 3) := by decide +kernel
theorem dX12_can_138 : decode cX12_can 138 = .ok (.iconst (-1), 1) := by decide +kernel
theorem dX12_can_139 : decode cX12_can 139 = .ok (.ireturn, 1) := by decide +kernel
theorem dX12_can_140 : decode cX12_can 140 = .ok (.iload 7, 2) := by decide +kernel
theorem dX12_can_142 : decode cX12_can 142 = .ok (.ifCond .eq 6, 3) := by decide +kernel
theorem dX12_can_145 : decode cX12_can 145 = .ok (.goto 45, 3) := by decide +kernel
theorem dX12_can_148 : decode cX12_can 148 = .ok (.iload 8, 2) := by decide +kernel
theorem dX12_can_150 : decode cX12_can 150 = .ok (.iconst 1, 1) := by decide +kernel
theorem dX12_can_151 : decode cX12_can 151 = .ok (.iload 11, 2) := by decide +kernel
theorem dX12_can_153 : decode cX12_can 153 = .ok (.ishl, 1) := by decide +kernel
theorem dX12_can_154 : decode cX12_can 154 = .ok (.ior, 1) := by decide +kernel
theorem dX12_can_155 : decode cX12_can 155 = .ok (.istore 8, 2) := by decide +kernel
theorem dX12_can_157 : decode cX12_can 157 = .ok (.iload 9, 2) := by decide +kernel
theorem dX12_can_159 : decode cX12_can 159 = .ok (.aload_n 0, 1) := by decide +kernel
theorem dX12_can_160 : decode cX12_can 160 = .ok (.getfield 92, 3) := by decide +kernel
theorem dX12_can_163 : decode cX12_can 163 = .ok (.iload 11, 2) := by decide +kernel
theorem dX12_can_165 : decode cX12_can 165 = .ok (.iaload, 1) := by decide +kernel
theorem dX12_can_166 : decode cX12_can 166 = .ok (.iadd, 1) := by decide +kernel
theorem dX12_can_167 : decode cX12_can 167 = .ok (.istore 9, 2) := by decide +kernel
theorem dX12_can_169 : decode cX12_can 169 = .ok (.iload 6, 2) := by decide +kernel
theorem dX12_can_171 : decode cX12_can 171 = .ok (.ifCond .eq 16, 3) := by decide +kernel
theorem dX12_can_174 : decode cX12_can 174 = .ok (.aload_n 0, 1) := by decide +kernel
theorem dX12_can_175 : decode cX12_can 175 = .ok (.iload 11, 2) := by decide +kernel
theorem dX12_can_177 : decode cX12_can 177 = .ok (.invokevirtual 364, 3) := by decide +kernel
theorem dX12_can_180 : decode cX12_can 180 = .ok (.ifCond .eq 7, 3) := by decide +kernel
theorem dX12_can_183 : decode cX12_can 183 = .ok (.iconst 1, 1) := by decide +kernel
theorem dX12_can_184 : decode cX12_can 184 = .ok (.goto 4, 3) := by decide +kernel
theorem dX12_can_187 : decode cX12_can 187 = .ok (.iconst 0, 1) := by decide +kernel
theorem dX12_can_188 : decode cX12_can 188 = .ok (.istore 6, 2) := by decide +kernel
theorem dX12_can_190 : decode cX12_can 190 = .ok (.iinc 10 1, 3) := by decide +kernel
theorem dX12_can_193 : decode cX12_can 193 = .ok (.goto (-148), 3) := by decide +kernel
theorem dX12_can_196 : decode cX12_can 196 = .ok (.iload 6, 2) := by decide +kernel
theorem dX12_can_198 : decode cX12_can 198 = .ok (.ifCond .eq 8, 3) := by decide +kernel
theorem dX12_can_201 : decode cX12_can 201 = .ok (.iload 9, 2) := by decide +kernel
theorem dX12_can_203 : decode cX12_can 203 = .ok (.goto 5, 3) := by decide +kernel
theorem dX12_can_206 : decode cX12_can 206 = .ok (.bipush (-2), 2) := by decide +kernel
theorem dX12_can_208 : decode cX12_can 208 = .ok (.ireturn, 1) := by decide +kernel
theorem dX12_looks_0 : decode cX12_looks 0 = .ok (.iconst 0, 1) := by decide +kernel
theorem dX12_looks_1 : decode cX12_looks 1 = .ok (.istore_n 2, 1) := by decide +kernel
theorem dX12_looks_2 : decode cX12_looks 2 = .ok (.iconst 0, 1) := by decide +kernel
theorem dX12_looks_3 : decode cX12_looks 3 = .ok (.istore_n 3, 1) := by decide +kernel
theorem dX12_looks_4 : decode cX12_looks 4 = .ok (.iconst (-1), 1) := by decide +kernel
theorem dX12_looks_5 : decode cX12_looks 5 = .ok (.istore 4, 2) := by decide +kernel
theorem dX12_looks_7 : decode cX12_looks 7 = .ok (.iconst 0, 1) := by decide +kernel
theorem dX12_looks_8 : decode cX12_looks 8 = .ok (.istore 5, 2) := by decide +kernel
theorem dX12_looks_10 : decode cX12_looks 10 = .ok (.iload 5, 2) := by decide +kernel
theorem dX12_looks_12 : decode cX12_looks 12 = .ok (.aload_n 0, 1) := by decide +kernel
theorem dX12_looks_13 : decode cX12_looks 13 = .ok (.getfield 352, 3) := by decide +kernel
theorem dX12_looks_16 : decode cX12_looks 16 = .ok (.if_icmp .ge 74, 3) := by decide +kernel
theorem dX12_looks_19 : decode cX12_looks 19 = .ok (.iload_n 2, 1) := by decide +kernel
theorem dX12_looks_20 : decode cX12_looks 20 = .ok (.aload_n 0, 1) := by decide +kernel
theorem dX12_looks_21 : decode cX12_looks 21 = .ok (.getfield 92, 3) := by decide +kernel
theorem dX12_looks_24 : decode cX12_looks 24 = .ok (.aload_n 0, 1) := by decide +kernel
theorem dX12_looks_25 : decode cX12_looks 25 = .ok (.getfield 146, 3) := by decide +kernel
theorem dX12_looks_28 : decode cX12_looks 28 = .ok (.iload 5, 2) := by decide +kernel
theorem dX12_looks_30 : decode cX12_looks 30 = .ok (.iaload, 1) := by decide +kernel
theorem dX12_looks_31 : decode cX12_looks 31 = .ok (.iaload, 1) := by decide +kernel
theorem dX12_looks_32 : decode cX12_looks 32 = .ok (.iadd, 1) := by decide +kernel
theorem dX12_looks_33 : decode cX12_looks 33 = .ok (.istore_n 2, 1) := by decide +kernel
theorem dX12_looks_34 : decode cX12_looks 34 = .ok (.iload_n 1, 1) := by decide +kernel
theorem dX12_looks_35 : decode cX12_looks 35 = .ok (.ifCond .eq 28, 3) := by decide +kernel
theorem dX12_looks_38 : decode cX12_looks 38 = .ok (.aload_n 0, 1) := by decide +kernel
theorem dX12_looks_39 : decode cX12_looks 39 = .ok (.getfield 167, 3) := by decide +kernel
theorem dX12_looks_42 : decode cX12_looks 42 = .ok (.aload_n 0, 1) := by decide +kernel
theorem dX12_looks_43 : decode cX12_looks 43 = .ok (.getfield 146, 3) := by decide +kernel
theorem dX12_looks_46 : decode cX12_looks 46 = .ok (.iload 5, 2) := by decide +kernel
theorem dX12_looks_48 : decode cX12_looks 48 = .ok (.iaload, 1) := by decide +kernel
theorem dX12_looks_49 : decode cX12_looks 49 = .ok (.iaload, 1) := by decide +kernel
theorem dX12_looks_50 : decode cX12_looks 50 = .ok (.aload_n 0, 1) := by decide +kernel
theorem dX12_looks_51 : decode cX12_looks 51 = .ok (.getfield 152, 3) := by decide +kernel
theorem dX12_looks_54 : decode cX12_looks 54 = .ok (.iload 5, 2) := by decide +kernel
theorem dX12_looks_56 : decode cX12_looks 56 = .ok (.iaload, 1) := by decide +kernel
theorem dX12_looks_57 : decode cX12_looks 57 = .ok (.if_icmp .ne 6, 3) := by decide +kernel
theorem dX12_looks_60 : decode cX12_looks 60 = .ok (.iinc 3 1, 3) := by decide +kernel
theorem dX12_looks_63 : decode cX12_looks 63 = .ok (.aload_n 0, 1) := by decide +kernel
theorem dX12_looks_64 : decode cX12_looks 64 = .ok (.getfield 158, 3) := by decide +kernel
theorem dX12_looks_67 : decode cX12_looks 67 = .ok (.iload 5, 2) := by decide +kernel
theorem dX12_looks_69 : decode cX12_looks 69 = .ok (.iaload, 1) := by decide +kernel
theorem dX12_looks_70 : decode cX12_looks 70 = .ok (.iload 4, 2) := by decide +kernel
theorem dX12_looks_72 : decode cX12_looks 72 = .ok (.if_icmp .le 12, 3) := by decide +kernel
theorem dX12_looks_75 : decode cX12_looks 75 = .ok (.aload_n 0, 1) := by decide +kernel
theorem dX12_looks_76 : decode cX12_looks 76 = .ok (.getfield 158, 3) := by decide +kernel
theorem dX12_looks_79 : decode cX12_looks 79 = .ok (.iload 5, 2) := by decide +kernel
theorem dX12_looks_81 : decode cX12_looks 81 = .ok (.iaload, 1) := by decide +kernel
theorem dX12_looks_82 : decode cX12_looks 82 = .ok (.istore 4, 2) := by decide +kernel
theorem dX12_looks_84 : decode cX12_looks 84 = .ok (.iinc 5 1, 3) := by decide +kernel
theorem dX12_looks_87 : decode cX12_looks 87 = .ok (.goto (-77), 3) := by decide +kernel
theorem dX12_looks_90 : decode cX12_looks 90 = .ok (.aload_n 0, 1) := by decide +kernel
theorem dX12_looks_91 : decode cX12_looks 91 = .ok (.getfield 367, 3) := by decide +kernel
theorem dX12_looks_94 : decode cX12_looks 94 = .ok (.iconst (-1), 1) := by decide +kernel
theorem dX12_looks_95 : decode cX12_looks 95 = .ok (.if_icmp .eq 45, 3) := by decide +kernel
theorem dX12_looks_98 : decode cX12_looks 98 = .ok (.iload_n 2, 1) := by decide +kernel
theorem dX12_looks_99 : decode cX12_looks 99 = .ok (.aload_n 0, 1) := by decide +kernel
theorem dX12_looks_100 : decode cX12_looks 100 = .ok (.getfield 370, 3) := by decide +kernel
theorem dX12_looks_103 : decode cX12_looks 103 = .ok (.if_icmp .lt 36, 3) := by decide +kernel
theorem dX12_looks_106 : decode cX12_looks 106 = .ok (.iload_n 2, 1) := by decide +kernel
theorem dX12_looks_107 : decode cX12_looks 107 = .ok (.aload_n 0, 1) := by decide +kernel
theorem dX12_looks_108 : decode cX12_looks 108 = .ok (.getfield 370, 3) := by decide +kernel
theorem dX12_looks_111 : decode cX12_looks 111 = .ok (.if_icmp .ne 29, 3) := by decide +kernel
theorem dX12_looks_114 : decode cX12_looks 114 = .ok (.iload_n 3, 1) := by decide +kernel
theorem dX12_looks_115 : decode cX12_looks 115 = .ok (.aload_n 0, 1) := by decide +kernel
theorem dX12_looks_116 : decode cX12_looks 116 = .ok (.getfield 373, 3) := by decide +kernel
theorem dX12_looks_119 : decode cX12_looks 119 = .ok (.if_icmp .lt 20, 3) := by decide +kernel
theorem dX12_looks_122 : decode cX12_looks 122 = .ok (.iload_n 3, 1) := by decide +kernel
theorem dX12_looks_123 : decode cX12_looks 123 = .ok (.aload_n 0, 1) := by decide +kernel
theorem dX12_looks_124 : decode cX12_looks 124 = .ok (.getfield 373, 3) := by decide +kernel
theorem dX12_looks_127 : decode cX12_looks 127 = .ok (.if_icmp .ne 13, 3) := by decide +kernel
theorem dX12_looks_130 : decode cX12_looks 130 = .ok (.iload 4, 2) := by decide +kernel
theorem dX12_looks_132 : decode cX12_looks 132 = .ok (.aload_n 0, 1) := by decide +kernel
theorem dX12_looks_133 : decode cX12_looks 133 = .ok (.getfield 376, 3) := by decide +kernel
theorem dX12_looks_136 : decode cX12_looks 136 = .ok (.if_icmp .lt 4, 3) := by decide +kernel
theorem dX12_looks_139 : decode cX12_looks 139 = .ok (.return_, 1) := by decide +kernel
theorem dX12_looks_140 : decode cX12_looks 140 = .ok (.aload_n 0, 1) := by decide +kernel
theorem dX12_looks_141 : decode cX12_looks 141 = .ok (.aload_n 0, 1) := by decide +kernel
theorem dX12_looks_142 : decode cX12_looks 142 = .ok (.getfield 352, 3) := by decide +kernel
theorem dX12_looks_145 : decode cX12_looks 145 = .ok (.putfield 367, 3) := by decide +kernel
theorem dX12_looks_148 : decode cX12_looks 148 = .ok (.aload_n 0, 1) := by decide +kernel
theorem dX12_looks_149 : decode cX12_looks 149 = .ok (.iload_n 2, 1) := by decide +kernel
theorem dX12_looks_150 : decode cX12_looks 150 = .ok (.putfield 370, 3) := by decide +kernel
theorem dX12_looks_153 : decode cX12_looks 153 = .ok (.aload_n 0, 1) := by decide +kernel
theorem dX12_looks_154 : decode cX12_looks 154 = .ok (.iload_n 3, 1) := by decide +kernel
theorem dX12_looks_155 : decode cX12_looks 155 = .ok (.putfield 373, 3) := by decide +kernel
theorem dX12_looks_158 : decode cX12_looks 158 = .ok (.aload_n 0, 1) := by decide +kernel
theorem dX12_looks_159 : decode cX12_looks 159 = .ok (.iload 4, 2) := by decide +kernel
theorem dX12_looks_161 : decode cX12_looks 161 = .ok (.putfield 376, 3) := by decide +kernel
theorem dX12_looks_164 : decode cX12_looks 164 = .ok (.iconst 0, 1) := by decide +kernel
theorem dX12_looks_165 : decode cX12_looks 165 = .ok (.istore 5, 2) := by decide +kernel
theorem dX12_looks_167 : decode cX12_looks 167 = .ok (.iload 5, 2) := by decide +kernel
theorem dX12_looks_169 : decode cX12_looks 169 = .ok (.aload_n 0, 1) := by decide +kernel
theorem dX12_looks_170 : decode cX12_looks 170 = .ok (.getfield 352, 3) := by decide +kernel
theorem dX12_looks_173 : decode cX12_looks 173 = .ok (.if_icmp .ge 79, 3) := by decide +kernel
theorem dX12_looks_176 : decode cX12_looks 176 = .ok (.aload_n 0, 1) := by decide +kernel
theorem dX12_looks_177 : decode cX12_looks 177 = .ok (.getfield 176, 3) := by decide +kernel
theorem dX12_looks_180 : decode cX12_looks 180 = .ok (.iload 5, 2) := by decide +kernel
theorem dX12_looks_182 : decode cX12_looks 182 = .ok (.aload_n 0, 1) := by decide +kernel
theorem dX12_looks_183 : decode cX12_looks 183 = .ok (.getfield 146, 3) := by decide +kernel
theorem dX12_looks_186 : decode cX12_looks 186 = .ok (.iload 5, 2) := by decide +kernel
theorem dX12_looks_188 : decode cX12_looks 188 = .ok (.iaload, 1) := by decide +kernel
theorem dX12_looks_189 : decode cX12_looks 189 = .ok (.iastore, 1) := by decide +kernel
theorem dX12_looks_190 : decode cX12_looks 190 = .ok (.aload_n 0, 1) := by decide +kernel
theorem dX12_looks_191 : decode cX12_looks 191 = .ok (.getfield 179, 3) := by decide +kernel
theorem dX12_looks_194 : decode cX12_looks 194 = .ok (.iload 5, 2) := by decide +kernel
theorem dX12_looks_196 : decode cX12_looks 196 = .ok (.aload_n 0, 1) := by decide +kernel
theorem dX12_looks_197 : decode cX12_looks 197 = .ok (.getfield 149, 3) := by decide +kernel
theorem dX12_looks_200 : decode cX12_looks 200 = .ok (.iload 5, 2) := by decide +kernel
theorem dX12_looks_202 : decode cX12_looks 202 = .ok (.iaload, 1) := by decide +kernel
theorem dX12_looks_203 : decode cX12_looks 203 = .ok (.iastore, 1) := by decide +kernel
theorem dX12_looks_204 : decode cX12_looks 204 = .ok (.aload_n 0, 1) := by decide +kernel
theorem dX12_looks_205 : decode cX12_looks 205 = .ok (.getfield 182, 3) := by decide +kernel
theorem dX12_looks_208 : decode cX12_looks 208 = .ok (.iload 5, 2) := by decide +kernel
theorem dX12_looks_210 : decode cX12_looks 210 = .ok (.aload_n 0, 1) := by decide +kernel
theorem dX12_looks_211 : decode cX12_looks 211 = .ok (.getfield 152, 3) := by decide +kernel
theorem dX12_looks_214 : decode cX12_looks 214 = .ok (.iload 5, 2) := by decide +kernel
theorem dX12_looks_216 : decode cX12_looks 216 = .ok (.iaload, 1) := by decide +kernel
theorem dX12_looks_217 : decode cX12_looks 217 = .ok (.iastore, 1) := by decide +kernel
theorem dX12_looks_218 : decode cX12_looks 218 = .ok (.aload_n 0, 1) := by decide +kernel
theorem dX12_looks_219 : decode cX12_looks 219 = .ok (.getfield 185, 3) := by decide +kernel
theorem dX12_looks_222 : decode cX12_looks 222 = .ok (.iload 5, 2) := by decide +kernel
theorem dX12_looks_224 : decode cX12_looks 224 = .ok (.aload_n 0, 1) := by decide +kernel
theorem dX12_looks_225 : decode cX12_looks 225 = .ok (.getfield 155, 3) := by decide +kernel
theorem dX12_looks_228 : decode cX12_looks 228 = .ok (.iload 5, 2) := by decide +kernel
theorem dX12_looks_230 : decode cX12_looks 230 = .ok (.iaload, 1) := by decide +kernel
theorem dX12_looks_231 : decode cX12_looks 231 = .ok (.iastore, 1) := by decide +kernel
theorem dX12_looks_232 : decode cX12_looks 232 = .ok (.aload_n 0, 1) := by decide +kernel
theorem dX12_looks_233 : decode cX12_looks 233 = .ok (.getfield 188, 3) := by decide +kernel
theorem dX12_looks_236 : decode cX12_looks 236 = .ok (.iload 5, 2) := by decide +kernel
theorem dX12_looks_238 : decode cX12_looks 238 = .ok (.aload_n 0, 1) := by decide +kernel
theorem dX12_looks_239 : decode cX12_looks 239 = .ok (.getfield 158, 3) := by decide +kernel
theorem dX12_looks_242 : decode cX12_looks 242 = .ok (.iload 5, 2) := by decide +kernel
theorem dX12_looks_244 : decode cX12_looks 244 = .ok (.iaload, 1) := by decide +kernel
theorem dX12_looks_245 : decode cX12_looks 245 = .ok (.iastore, 1) := by decide +kernel
theorem dX12_looks_246 : decode cX12_looks 246 = .ok (.iinc 5 1, 3) := by decide +kernel
theorem dX12_looks_249 : decode cX12_looks 249 = .ok (.goto (-82), 3) := by decide +kernel
theorem dX12_looks_252 : decode cX12_looks 252 = .ok (.return_, 1) := by decide +kernel
theorem dX12_makes_0 : decode cX12_makes 0 = .ok (.aload_n 0, 1) := by decide +kernel
theorem dX12_makes_1 : decode cX12_makes 1 = .ok (.iload_n 1, 1) := by decide +kernel
theorem dX12_makes_2 : decode cX12_makes 2 = .ok (.invokevirtual 336, 3) := by decide +kernel
theorem dX12_makes_5 : decode cX12_makes 5 = .ok (.aload_n 0, 1) := by decide +kernel
theorem dX12_makes_6 : decode cX12_makes 6 = .ok (.iconst 0, 1) := by decide +kernel
theorem dX12_makes_7 : decode cX12_makes 7 = .ok (.putfield 352, 3) := by decide +kernel
theorem dX12_makes_10 : decode cX12_makes 10 = .ok (.aload_n 0, 1) := by decide +kernel
theorem dX12_makes_11 : decode cX12_makes 11 = .ok (.iconst (-1), 1) := by decide +kernel
theorem dX12_makes_12 : decode cX12_makes 12 = .ok (.putfield 367, 3) := by decide +kernel
theorem dX12_makes_15 : decode cX12_makes 15 = .ok (.aload_n 0, 1) := by decide +kernel
theorem dX12_makes_16 : decode cX12_makes 16 = .ok (.iload_n 2, 1) := by decide +kernel
theorem dX12_makes_17 : decode cX12_makes 17 = .ok (.invokevirtual 379, 3) := by decide +kernel
theorem dX12_makes_20 : decode cX12_makes 20 = .ok (.aload_n 0, 1) := by decide +kernel
theorem dX12_makes_21 : decode cX12_makes 21 = .ok (.getfield 191, 3) := by decide +kernel
theorem dX12_makes_24 : decode cX12_makes 24 = .ok (.iconst 0, 1) := by decide +kernel
theorem dX12_makes_25 : decode cX12_makes 25 = .ok (.iconst 0, 1) := by decide +kernel
theorem dX12_makes_26 : decode cX12_makes 26 = .ok (.iastore, 1) := by decide +kernel
theorem dX12_makes_27 : decode cX12_makes 27 = .ok (.iconst 0, 1) := by decide +kernel
theorem dX12_makes_28 : decode cX12_makes 28 = .ok (.istore_n 3, 1) := by decide +kernel
theorem dX12_makes_29 : decode cX12_makes 29 = .ok (.iload_n 3, 1) := by decide +kernel
theorem dX12_makes_30 : decode cX12_makes 30 = .ok (.ifCond .lt 117, 3) := by decide +kernel
theorem dX12_makes_33 : decode cX12_makes 33 = .ok (.aload_n 0, 1) := by decide +kernel
theorem dX12_makes_34 : decode cX12_makes 34 = .ok (.getfield 191, 3) := by decide +kernel
theorem dX12_makes_37 : decode cX12_makes 37 = .ok (.iload_n 3, 1) := by decide +kernel
theorem dX12_makes_38 : decode cX12_makes 38 = .ok (.iaload, 1) := by decide +kernel
theorem dX12_makes_39 : decode cX12_makes 39 = .ok (.istore 4, 2) := by decide +kernel
theorem dX12_makes_41 : decode cX12_makes 41 = .ok (.iload 4, 2) := by decide +kernel
theorem dX12_makes_43 : decode cX12_makes 43 = .ok (.aload_n 0, 1) := by decide +kernel
theorem dX12_makes_44 : decode cX12_makes 44 = .ok (.getfield 304, 3) := by decide +kernel
theorem dX12_makes_47 : decode cX12_makes 47 = .ok (.if_icmp .ne 22, 3) := by decide +kernel
theorem dX12_makes_50 : decode cX12_makes 50 = .ok (.iinc 3 (-1), 3) := by decide +kernel
theorem dX12_makes_53 : decode cX12_makes 53 = .ok (.aload_n 0, 1) := by decide +kernel
theorem dX12_makes_54 : decode cX12_makes 54 = .ok (.iload_n 3, 1) := by decide +kernel
theorem dX12_makes_55 : decode cX12_makes 55 = .ok (.ifCond .ge 7, 3) := by decide +kernel
theorem dX12_makes_58 : decode cX12_makes 58 = .ok (.iconst 0, 1) := by decide +kernel
theorem dX12_makes_59 : decode cX12_makes 59 = .ok (.goto 4, 3) := by decide +kernel
theorem dX12_makes_62 : decode cX12_makes 62 = .ok (.iload_n 3, 1) := by decide +kernel
theorem dX12_makes_63 : decode cX12_makes 63 = .ok (.putfield 352, 3) := by decide +kernel
theorem dX12_makes_66 : decode cX12_makes 66 = .ok (.goto (-37), 3) := by decide +kernel
theorem dX12_makes_69 : decode cX12_makes 69 = .ok (.aload_n 0, 1) := by decide +kernel
theorem dX12_makes_70 : decode cX12_makes 70 = .ok (.getfield 191, 3) := by decide +kernel
theorem dX12_makes_73 : decode cX12_makes 73 = .ok (.iload_n 3, 1) := by decide +kernel
theorem dX12_makes_74 : decode cX12_makes 74 = .ok (.dup2, 1) := by decide +kernel
theorem dX12_makes_75 : decode cX12_makes 75 = .ok (.iaload, 1) := by decide +kernel
theorem dX12_makes_76 : decode cX12_makes 76 = .ok (.iconst 1, 1) := by decide +kernel
theorem dX12_makes_77 : decode cX12_makes 77 = .ok (.iadd, 1) := by decide +kernel
theorem dX12_makes_78 : decode cX12_makes 78 = .ok (.iastore, 1) := by decide +kernel
theorem dX12_makes_79 : decode cX12_makes 79 = .ok (.iconst 0, 1) := by decide +kernel
theorem dX12_makes_80 : decode cX12_makes 80 = .ok (.istore 5, 2) := by decide +kernel
theorem dX12_makes_82 : decode cX12_makes 82 = .ok (.iconst 0, 1) := by decide +kernel
theorem dX12_makes_83 : decode cX12_makes 83 = .ok (.istore 6, 2) := by decide +kernel
theorem dX12_makes_85 : decode cX12_makes 85 = .ok (.iload 6, 2) := by decide +kernel
theorem dX12_makes_87 : decode cX12_makes 87 = .ok (.iload_n 3, 1) := by decide +kernel
theorem dX12_makes_88 : decode cX12_makes 88 = .ok (.if_icmp .ge 24, 3) := by decide +kernel
theorem dX12_makes_91 : decode cX12_makes 91 = .ok (.aload_n 0, 1) := by decide +kernel
theorem dX12_makes_92 : decode cX12_makes 92 = .ok (.getfield 146, 3) := by decide +kernel
theorem dX12_makes_95 : decode cX12_makes 95 = .ok (.iload 6, 2) := by decide +kernel
theorem dX12_makes_97 : decode cX12_makes 97 = .ok (.iaload, 1) := by decide +kernel
theorem dX12_makes_98 : decode cX12_makes 98 = .ok (.iload 4, 2) := by decide +kernel
theorem dX12_makes_100 : decode cX12_makes 100 = .ok (.if_icmp .ne 6, 3) := by decide +kernel
theorem dX12_makes_103 : decode cX12_makes 103 = .ok (.iconst 1, 1) := by decide +kernel
theorem dX12_makes_104 : decode cX12_makes 104 = .ok (.istore 5, 2) := by decide +kernel
theorem dX12_makes_106 : decode cX12_makes 106 = .ok (.iinc 6 1, 3) := by decide +kernel
theorem dX12_makes_109 : decode cX12_makes 109 = .ok (.goto (-24), 3) := by decide +kernel
theorem dX12_makes_112 : decode cX12_makes 112 = .ok (.iload 5, 2) := by decide +kernel
theorem dX12_makes_114 : decode cX12_makes 114 = .ok (.ifCond .ne (-85), 3) := by decide +kernel
theorem dX12_makes_117 : decode cX12_makes 117 = .ok (.aload_n 0, 1) := by decide +kernel
theorem dX12_makes_118 : decode cX12_makes 118 = .ok (.iload 4, 2) := by decide +kernel
theorem dX12_makes_120 : decode cX12_makes 120 = .ok (.invokevirtual 364, 3) := by decide +kernel
theorem dX12_makes_123 : decode cX12_makes 123 = .ok (.ifCond .ne 6, 3) := by decide +kernel
theorem dX12_makes_126 : decode cX12_makes 126 = .ok (.goto (-97), 3) := by decide +kernel
theorem dX12_makes_129 : decode cX12_makes 129 = .ok (.aload_n 0, 1) := by decide +kernel
theorem dX12_makes_130 : decode cX12_makes 130 = .ok (.iload_n 2, 1) := by decide +kernel
theorem dX12_makes_131 : decode cX12_makes 131 = .ok (.invokevirtual 379, 3) := by decide +kernel
theorem dX12_makes_134 : decode cX12_makes 134 = .ok (.iinc 3 1, 3) := by decide +kernel
theorem dX12_makes_137 : decode cX12_makes 137 = .ok (.aload_n 0, 1) := by decide +kernel
theorem dX12_makes_138 : decode cX12_makes 138 = .ok (.getfield 191, 3) := by decide +kernel
theorem dX12_makes_141 : decode cX12_makes 141 = .ok (.iload_n 3, 1) := by decide +kernel
theorem dX12_makes_142 : decode cX12_makes 142 = .ok (.iconst 0, 1) := by decide +kernel
theorem dX12_makes_143 : decode cX12_makes 143 = .ok (.iastore, 1) := by decide +kernel
theorem dX12_makes_144 : decode cX12_makes 144 = .ok (.goto (-115), 3) := by decide +kernel
theorem dX12_makes_147 : decode cX12_makes 147 = .ok (.aload_n 0, 1) := by decide +kernel
theorem dX12_makes_148 : decode cX12_makes 148 = .ok (.iconst 1, 1) := by decide +kernel
theorem dX12_makes_149 : decode cX12_makes 149 = .ok (.putfield 382, 3) := by decide +kernel
theorem dX12_makes_152 : decode cX12_makes 152 = .ok (.aload_n 0, 1) := by decide +kernel
theorem dX12_makes_153 : decode cX12_makes 153 = .ok (.aload_n 0, 1) := by decide +kernel
theorem dX12_makes_154 : decode cX12_makes 154 = .ok (.getfield 367, 3) := by decide +kernel
theorem dX12_makes_157 : decode cX12_makes 157 = .ok (.putfield 386, 3) := by decide +kernel
theorem dX12_makes_160 : decode cX12_makes 160 = .ok (.iconst 0, 1) := by decide +kernel
theorem dX12_makes_161 : decode cX12_makes 161 = .ok (.istore 4, 2) := by decide +kernel
theorem dX12_makes_163 : decode cX12_makes 163 = .ok (.iload 4, 2) := by decide +kernel
theorem dX12_makes_165 : decode cX12_makes 165 = .ok (.bipush 6, 2) := by decide +kernel
theorem dX12_makes_167 : decode cX12_makes 167 = .ok (.if_icmp .ge 17, 3) := by decide +kernel
theorem dX12_makes_170 : decode cX12_makes 170 = .ok (.aload_n 0, 1) := by decide +kernel
theorem dX12_makes_171 : decode cX12_makes 171 = .ok (.getfield 167, 3) := by decide +kernel
theorem dX12_makes_174 : decode cX12_makes 174 = .ok (.iload 4, 2) := by decide +kernel
theorem dX12_makes_176 : decode cX12_makes 176 = .ok (.iconst (-1), 1) := by decide +kernel
theorem dX12_makes_177 : decode cX12_makes 177 = .ok (.iastore, 1) := by decide +kernel
theorem dX12_makes_178 : decode cX12_makes 178 = .ok (.iinc 4 1, 3) := by decide +kernel
theorem dX12_makes_181 : decode cX12_makes 181 = .ok (.goto (-18), 3) := by decide +kernel
theorem dX12_makes_184 : decode cX12_makes 184 = .ok (.iconst 0, 1) := by decide +kernel
theorem dX12_makes_185 : decode cX12_makes 185 = .ok (.istore 4, 2) := by decide +kernel
theorem dX12_makes_187 : decode cX12_makes 187 = .ok (.iload 4, 2) := by decide +kernel
theorem dX12_makes_189 : decode cX12_makes 189 = .ok (.aload_n 0, 1) := by decide +kernel
theorem dX12_makes_190 : decode cX12_makes 190 = .ok (.getfield 386, 3) := by decide +kernel
theorem dX12_makes_193 : decode cX12_makes 193 = .ok (.if_icmp .ge 83, 3) := by decide +kernel
theorem dX12_makes_196 : decode cX12_makes 196 = .ok (.aload_n 0, 1) := by decide +kernel
theorem dX12_makes_197 : decode cX12_makes 197 = .ok (.getfield 176, 3) := by decide +kernel
theorem dX12_makes_200 : decode cX12_makes 200 = .ok (.iload 4, 2) := by decide +kernel
theorem dX12_makes_202 : decode cX12_makes 202 = .ok (.iaload, 1) := by decide +kernel
theorem dX12_makes_203 : decode cX12_makes 203 = .ok (.istore 5, 2) := by decide +kernel
theorem dX12_makes_205 : decode cX12_makes 205 = .ok (.aload_n 0, 1) := by decide +kernel
theorem dX12_makes_206 : decode cX12_makes 206 = .ok (.getfield 161, 3) := by decide +kernel
theorem dX12_makes_209 : decode cX12_makes 209 = .ok (.iload 4, 2) := by decide +kernel
theorem dX12_makes_211 : decode cX12_makes 211 = .ok (.iload 5, 2) := by decide +kernel
theorem dX12_makes_213 : decode cX12_makes 213 = .ok (.iastore, 1) := by decide +kernel
theorem dX12_makes_214 : decode cX12_makes 214 = .ok (.aload_n 0, 1) := by decide +kernel
theorem dX12_makes_215 : decode cX12_makes 215 = .ok (.getfield 164, 3) := by decide +kernel
theorem dX12_makes_218 : decode cX12_makes 218 = .ok (.iload 5, 2) := by decide +kernel
theorem dX12_makes_220 : decode cX12_makes 220 = .ok (.aload_n 0, 1) := by decide +kernel
theorem dX12_makes_221 : decode cX12_makes 221 = .ok (.getfield 179, 3) := by decide +kernel
theorem dX12_makes_224 : decode cX12_makes 224 = .ok (.iload 4, 2) := by decide +kernel
theorem dX12_makes_226 : decode cX12_makes 226 = .ok (.iaload, 1) := by decide +kernel
theorem dX12_makes_227 : decode cX12_makes 227 = .ok (.iastore, 1) := by decide +kernel
theorem dX12_makes_228 : decode cX12_makes 228 = .ok (.aload_n 0, 1) := by decide +kernel
theorem dX12_makes_229 : decode cX12_makes 229 = .ok (.getfield 167, 3) := by decide +kernel
theorem dX12_makes_232 : decode cX12_makes 232 = .ok (.iload 5, 2) := by decide +kernel
theorem dX12_makes_234 : decode cX12_makes 234 = .ok (.aload_n 0, 1) := by decide +kernel
theorem dX12_makes_235 : decode cX12_makes 235 = .ok (.getfield 182, 3) := by decide +kernel
theorem dX12_makes_238 : decode cX12_makes 238 = .ok (.iload 4, 2) := by decide +kernel
theorem dX12_makes_240 : decode cX12_makes 240 = .ok (.iaload, 1) := by decide +kernel
theorem dX12_makes_241 : decode cX12_makes 241 = .ok (.iastore, 1) := by decide +kernel
theorem dX12_makes_242 : decode cX12_makes 242 = .ok (.aload_n 0, 1) := by decide +kernel
theorem dX12_makes_243 : decode cX12_makes 243 = .ok (.getfield 170, 3) := by decide +kernel
theorem dX12_makes_246 : decode cX12_makes 246 = .ok (.iload 5, 2) := by decide +kernel
theorem dX12_makes_248 : decode cX12_makes 248 = .ok (.aload_n 0, 1) := by decide +kernel
theorem dX12_makes_249 : decode cX12_makes 249 = .ok (.getfield 185, 3) := by decide +kernel
theorem dX12_makes_252 : decode cX12_makes 252 = .ok (.iload 4, 2) := by decide +kernel
theorem dX12_makes_254 : decode cX12_makes 254 = .ok (.iaload, 1) := by decide +kernel
theorem dX12_makes_255 : decode cX12_makes 255 = .ok (.iastore, 1) := by decide +kernel
theorem dX12_makes_256 : decode cX12_makes 256 = .ok (.aload_n 0, 1) := by decide +kernel
theorem dX12_makes_257 : decode cX12_makes 257 = .ok (.getfield 173, 3) := by decide +kernel
theorem dX12_makes_260 : decode cX12_makes 260 = .ok (.iload 5, 2) := by decide +kernel
theorem dX12_makes_262 : decode cX12_makes 262 = .ok (.aload_n 0, 1) := by decide +kernel
theorem dX12_makes_263 : decode cX12_makes 263 = .ok (.getfield 188, 3) := by decide +kernel
theorem dX12_makes_266 : decode cX12_makes 266 = .ok (.iload 4, 2) := by decide +kernel
theorem dX12_makes_268 : decode cX12_makes 268 = .ok (.iaload, 1) := by decide +kernel
theorem dX12_makes_269 : decode cX12_makes 269 = .ok (.iastore, 1) := by decide +kernel
theorem dX12_makes_270 : decode cX12_makes 270 = .ok (.iinc 4 1, 3) := by decide +kernel
theorem dX12_makes_273 : decode cX12_makes 273 = .ok (.goto (-86), 3) := by decide +kernel
theorem dX12_makes_276 : decode cX12_makes 276 = .ok (.aload_n 0, 1) := by decide +kernel
theorem dX12_makes_277 : decode cX12_makes 277 = .ok (.getfield 370, 3) := by decide +kernel
theorem dX12_makes_280 : decode cX12_makes 280 = .ok (.ireturn, 1) := by decide +kernel
theorem dX12_plan_0 : decode cX12_plan 0 = .ok (.aload_n 0, 1) := by decide +kernel
theorem dX12_plan_1 : decode cX12_plan 1 = .ok (.iload_n 1, 1) := by decide +kernel
theorem dX12_plan_2 : decode cX12_plan 2 = .ok (.invokevirtual 333, 3) := by decide +kernel
theorem dX12_plan_5 : decode cX12_plan 5 = .ok (.ifCond .eq 12, 3) := by decide +kernel
theorem dX12_plan_8 : decode cX12_plan 8 = .ok (.aload_n 0, 1) := by decide +kernel
theorem dX12_plan_9 : decode cX12_plan 9 = .ok (.iload_n 1, 1) := by decide +kernel
theorem dX12_plan_10 : decode cX12_plan 10 = .ok (.iconst 0, 1) := by decide +kernel
theorem dX12_plan_11 : decode cX12_plan 11 = .ok (.invokevirtual 389, 3) := by decide +kernel
theorem dX12_plan_14 : decode cX12_plan 14 = .ok (.goto 4, 3) := by decide +kernel
theorem dX12_plan_17 : decode cX12_plan 17 = .ok (.iconst (-1), 1) := by decide +kernel
theorem dX12_plan_18 : decode cX12_plan 18 = .ok (.ireturn, 1) := by decide +kernel
theorem dX12_mend_0 : decode cX12_mend 0 = .ok (.aload_n 0, 1) := by decide +kernel
theorem dX12_mend_1 : decode cX12_mend 1 = .ok (.getfield 382, 3) := by decide +kernel
theorem dX12_mend_4 : decode cX12_mend 4 = .ok (.ifCond .eq 20, 3) := by decide +kernel
theorem dX12_mend_7 : decode cX12_mend 7 = .ok (.aload_n 0, 1) := by decide +kernel
theorem dX12_mend_8 : decode cX12_mend 8 = .ok (.iload_n 1, 1) := by decide +kernel
theorem dX12_mend_9 : decode cX12_mend 9 = .ok (.invokevirtual 333, 3) := by decide +kernel
theorem dX12_mend_12 : decode cX12_mend 12 = .ok (.ifCond .eq 12, 3) := by decide +kernel
theorem dX12_mend_15 : decode cX12_mend 15 = .ok (.aload_n 0, 1) := by decide +kernel
theorem dX12_mend_16 : decode cX12_mend 16 = .ok (.iload_n 1, 1) := by decide +kernel
theorem dX12_mend_17 : decode cX12_mend 17 = .ok (.iconst 1, 1) := by decide +kernel
theorem dX12_mend_18 : decode cX12_mend 18 = .ok (.invokevirtual 389, 3) := by decide +kernel
theorem dX12_mend_21 : decode cX12_mend 21 = .ok (.goto 4, 3) := by decide +kernel
theorem dX12_mend_24 : decode cX12_mend 24 = .ok (.iconst (-1), 1) := by decide +kernel
theorem dX12_mend_25 : decode cX12_mend 25 = .ok (.ireturn, 1) := by decide +kernel
theorem dX12_order_0 : decode cX12_order 0 = .ok (.aload_n 0, 1) := by decide +kernel
theorem dX12_order_1 : decode cX12_order 1 = .ok (.getfield 382, 3) := by decide +kernel
theorem dX12_order_4 : decode cX12_order 4 = .ok (.ifCond .eq 24, 3) := by decide +kernel
theorem dX12_order_7 : decode cX12_order 7 = .ok (.iload_n 1, 1) := by decide +kernel
theorem dX12_order_8 : decode cX12_order 8 = .ok (.ifCond .lt 20, 3) := by decide +kernel
theorem dX12_order_11 : decode cX12_order 11 = .ok (.iload_n 1, 1) := by decide +kernel
theorem dX12_order_12 : decode cX12_order 12 = .ok (.aload_n 0, 1) := by decide +kernel
theorem dX12_order_13 : decode cX12_order 13 = .ok (.getfield 386, 3) := by decide +kernel
theorem dX12_order_16 : decode cX12_order 16 = .ok (.if_icmp .ge 12, 3) := by decide +kernel
theorem dX12_order_19 : decode cX12_order 19 = .ok (.aload_n 0, 1) := by decide +kernel
theorem dX12_order_20 : decode cX12_order 20 = .ok (.getfield 161, 3) := by decide +kernel
theorem dX12_order_23 : decode cX12_order 23 = .ok (.iload_n 1, 1) := by decide +kernel
theorem dX12_order_24 : decode cX12_order 24 = .ok (.iaload, 1) := by decide +kernel
theorem dX12_order_25 : decode cX12_order 25 = .ok (.goto 4, 3) := by decide +kernel
theorem dX12_order_28 : decode cX12_order 28 = .ok (.iconst (-1), 1) := by decide +kernel
theorem dX12_order_29 : decode cX12_order 29 = .ok (.ireturn, 1) := by decide +kernel
theorem dX12_isIn_0 : decode cX12_isIn 0 = .ok (.aload_n 0, 1) := by decide +kernel
theorem dX12_isIn_1 : decode cX12_isIn 1 = .ok (.getfield 382, 3) := by decide +kernel
theorem dX12_isIn_4 : decode cX12_isIn 4 = .ok (.ifCond .eq 25, 3) := by decide +kernel
theorem dX12_isIn_7 : decode cX12_isIn 7 = .ok (.aload_n 0, 1) := by decide +kernel
theorem dX12_isIn_8 : decode cX12_isIn 8 = .ok (.iload_n 1, 1) := by decide +kernel
theorem dX12_isIn_9 : decode cX12_isIn 9 = .ok (.invokevirtual 310, 3) := by decide +kernel
theorem dX12_isIn_12 : decode cX12_isIn 12 = .ok (.ifCond .eq 17, 3) := by decide +kernel
theorem dX12_isIn_15 : decode cX12_isIn 15 = .ok (.aload_n 0, 1) := by decide +kernel
theorem dX12_isIn_16 : decode cX12_isIn 16 = .ok (.getfield 167, 3) := by decide +kernel
theorem dX12_isIn_19 : decode cX12_isIn 19 = .ok (.iload_n 1, 1) := by decide +kernel
theorem dX12_isIn_20 : decode cX12_isIn 20 = .ok (.iaload, 1) := by decide +kernel
theorem dX12_isIn_21 : decode cX12_isIn 21 = .ok (.iconst (-1), 1) := by decide +kernel
theorem dX12_isIn_22 : decode cX12_isIn 22 = .ok (.if_icmp .eq 7, 3) := by decide +kernel
theorem dX12_isIn_25 : decode cX12_isIn 25 = .ok (.iconst 1, 1) := by decide +kernel
theorem dX12_isIn_26 : decode cX12_isIn 26 = .ok (.goto 4, 3) := by decide +kernel
theorem dX12_isIn_29 : decode cX12_isIn 29 = .ok (.iconst 0, 1) := by decide +kernel
theorem dX12_isIn_30 : decode cX12_isIn 30 = .ok (.ireturn, 1) := by decide +kernel
theorem dX12_told_0 : decode cX12_told 0 = .ok (.aload_n 0, 1) := by decide +kernel
theorem dX12_told_1 : decode cX12_told 1 = .ok (.iload_n 1, 1) := by decide +kernel
theorem dX12_told_2 : decode cX12_told 2 = .ok (.invokevirtual 393, 3) := by decide +kernel
theorem dX12_told_5 : decode cX12_told 5 = .ok (.ifCond .ne 5, 3) := by decide +kernel
theorem dX12_told_8 : decode cX12_told 8 = .ok (.iconst (-1), 1) := by decide +kernel
theorem dX12_told_9 : decode cX12_told 9 = .ok (.ireturn, 1) := by decide +kernel
theorem dX12_told_10 : decode cX12_told 10 = .ok (.iload_n 2, 1) := by decide +kernel
theorem dX12_told_11 : decode cX12_told 11 = .ok (.tableswitch 75 0 4 #[33, 40, 47, 54, 61], 33) := by decide +kernel
theorem dX12_told_44 : decode cX12_told 44 = .ok (.aload_n 0, 1) := by decide +kernel
theorem dX12_told_45 : decode cX12_told 45 = .ok (.getfield 164, 3) := by decide +kernel
theorem dX12_told_48 : decode cX12_told 48 = .ok (.iload_n 1, 1) := by decide +kernel
theorem dX12_told_49 : decode cX12_told 49 = .ok (.iaload, 1) := by decide +kernel
theorem dX12_told_50 : decode cX12_told 50 = .ok (.ireturn, 1) := by decide +kernel
theorem dX12_told_51 : decode cX12_told 51 = .ok (.aload_n 0, 1) := by decide +kernel
theorem dX12_told_52 : decode cX12_told 52 = .ok (.getfield 167, 3) := by decide +kernel
theorem dX12_told_55 : decode cX12_told 55 = .ok (.iload_n 1, 1) := by decide +kernel
theorem dX12_told_56 : decode cX12_told 56 = .ok (.iaload, 1) := by decide +kernel
theorem dX12_told_57 : decode cX12_told 57 = .ok (.ireturn, 1) := by decide +kernel
theorem dX12_told_58 : decode cX12_told 58 = .ok (.aload_n 0, 1) := by decide +kernel
theorem dX12_told_59 : decode cX12_told 59 = .ok (.getfield 170, 3) := by decide +kernel
theorem dX12_told_62 : decode cX12_told 62 = .ok (.iload_n 1, 1) := by decide +kernel
theorem dX12_told_63 : decode cX12_told 63 = .ok (.iaload, 1) := by decide +kernel
theorem dX12_told_64 : decode cX12_told 64 = .ok (.ireturn, 1) := by decide +kernel
theorem dX12_told_65 : decode cX12_told 65 = .ok (.aload_n 0, 1) := by decide +kernel
theorem dX12_told_66 : decode cX12_told 66 = .ok (.getfield 173, 3) := by decide +kernel
theorem dX12_told_69 : decode cX12_told 69 = .ok (.iload_n 1, 1) := by decide +kernel
theorem dX12_told_70 : decode cX12_told 70 = .ok (.iaload, 1) := by decide +kernel
theorem dX12_told_71 : decode cX12_told 71 = .ok (.ireturn, 1) := by decide +kernel
theorem dX12_told_72 : decode cX12_told 72 = .ok (.aload_n 0, 1) := by decide +kernel
theorem dX12_told_73 : decode cX12_told 73 = .ok (.getfield 170, 3) := by decide +kernel
theorem dX12_told_76 : decode cX12_told 76 = .ok (.iload_n 1, 1) := by decide +kernel
theorem dX12_told_77 : decode cX12_told 77 = .ok (.iaload, 1) := by decide +kernel
theorem dX12_told_78 : decode cX12_told 78 = .ok (.aload_n 0, 1) := by decide +kernel
theorem dX12_told_79 : decode cX12_told 79 = .ok (.getfield 167, 3) := by decide +kernel
theorem dX12_told_82 : decode cX12_told 82 = .ok (.iload_n 1, 1) := by decide +kernel
theorem dX12_told_83 : decode cX12_told 83 = .ok (.iaload, 1) := by decide +kernel
theorem dX12_told_84 : decode cX12_told 84 = .ok (.isub, 1) := by decide +kernel
theorem dX12_told_85 : decode cX12_told 85 = .ok (.ireturn, 1) := by decide +kernel
theorem dX12_told_86 : decode cX12_told 86 = .ok (.iconst (-1), 1) := by decide +kernel
theorem dX12_told_87 : decode cX12_told 87 = .ok (.ireturn, 1) := by decide +kernel
theorem dX12_runway_0 : decode cX12_runway 0 = .ok (.iload_n 1, 1) := by decide +kernel
theorem dX12_runway_1 : decode cX12_runway 1 = .ok (.invokestatic 316, 3) := by decide +kernel
theorem dX12_runway_4 : decode cX12_runway 4 = .ok (.ifCond .ne 5, 3) := by decide +kernel
theorem dX12_runway_7 : decode cX12_runway 7 = .ok (.iconst (-1), 1) := by decide +kernel
theorem dX12_runway_8 : decode cX12_runway 8 = .ok (.ireturn, 1) := by decide +kernel
theorem dX12_runway_9 : decode cX12_runway 9 = .ok (.iconst 0, 1) := by decide +kernel
theorem dX12_runway_10 : decode cX12_runway 10 = .ok (.istore_n 2, 1) := by decide +kernel
theorem dX12_runway_11 : decode cX12_runway 11 = .ok (.iload_n 2, 1) := by decide +kernel
theorem dX12_runway_12 : decode cX12_runway 12 = .ok (.aload_n 0, 1) := by decide +kernel
theorem dX12_runway_13 : decode cX12_runway 13 = .ok (.getfield 304, 3) := by decide +kernel
theorem dX12_runway_16 : decode cX12_runway 16 = .ok (.if_icmp .ge 47, 3) := by decide +kernel
theorem dX12_runway_19 : decode cX12_runway 19 = .ok (.aload_n 0, 1) := by decide +kernel
theorem dX12_runway_20 : decode cX12_runway 20 = .ok (.iload_n 2, 1) := by decide +kernel
theorem dX12_runway_21 : decode cX12_runway 21 = .ok (.invokevirtual 393, 3) := by decide +kernel
theorem dX12_runway_24 : decode cX12_runway 24 = .ok (.ifCond .ne 6, 3) := by decide +kernel
theorem dX12_runway_27 : decode cX12_runway 27 = .ok (.goto 30, 3) := by decide +kernel
theorem dX12_runway_30 : decode cX12_runway 30 = .ok (.aload_n 0, 1) := by decide +kernel
theorem dX12_runway_31 : decode cX12_runway 31 = .ok (.getfield 164, 3) := by decide +kernel
theorem dX12_runway_34 : decode cX12_runway 34 = .ok (.iload_n 2, 1) := by decide +kernel
theorem dX12_runway_35 : decode cX12_runway 35 = .ok (.iaload, 1) := by decide +kernel
theorem dX12_runway_36 : decode cX12_runway 36 = .ok (.iload_n 1, 1) := by decide +kernel
theorem dX12_runway_37 : decode cX12_runway 37 = .ok (.if_icmp .ne 5, 3) := by decide +kernel
theorem dX12_runway_40 : decode cX12_runway 40 = .ok (.iload_n 2, 1) := by decide +kernel
theorem dX12_runway_41 : decode cX12_runway 41 = .ok (.ireturn, 1) := by decide +kernel
theorem dX12_runway_42 : decode cX12_runway 42 = .ok (.aload_n 0, 1) := by decide +kernel
theorem dX12_runway_43 : decode cX12_runway 43 = .ok (.getfield 173, 3) := by decide +kernel
theorem dX12_runway_46 : decode cX12_runway 46 = .ok (.iload_n 2, 1) := by decide +kernel
theorem dX12_runway_47 : decode cX12_runway 47 = .ok (.iaload, 1) := by decide +kernel
theorem dX12_runway_48 : decode cX12_runway 48 = .ok (.iload_n 1, 1) := by decide +kernel
theorem dX12_runway_49 : decode cX12_runway 49 = .ok (.if_icmp .ne 8, 3) := by decide +kernel
theorem dX12_runway_52 : decode cX12_runway 52 = .ok (.bipush 100, 2) := by decide +kernel
theorem dX12_runway_54 : decode cX12_runway 54 = .ok (.iload_n 2, 1) := by decide +kernel
theorem dX12_runway_55 : decode cX12_runway 55 = .ok (.iadd, 1) := by decide +kernel
theorem dX12_runway_56 : decode cX12_runway 56 = .ok (.ireturn, 1) := by decide +kernel
theorem dX12_runway_57 : decode cX12_runway 57 = .ok (.iinc 2 1, 3) := by decide +kernel
theorem dX12_runway_60 : decode cX12_runway 60 = .ok (.goto (-49), 3) := by decide +kernel
theorem dX12_runway_63 : decode cX12_runway 63 = .ok (.iconst (-1), 1) := by decide +kernel
theorem dX12_runway_64 : decode cX12_runway 64 = .ok (.ireturn, 1) := by decide +kernel
theorem dX12_count_0 : decode cX12_count 0 = .ok (.iload_n 1, 1) := by decide +kernel
theorem dX12_count_1 : decode cX12_count 1 = .ok (.tableswitch 143 0 7 #[47, 52, 57, 67, 83, 128, 133, 138], 47) := by decide +kernel
theorem dX12_count_48 : decode cX12_count 48 = .ok (.aload_n 0, 1) := by decide +kernel
theorem dX12_count_49 : decode cX12_count 49 = .ok (.getfield 304, 3) := by decide +kernel
theorem dX12_count_52 : decode cX12_count 52 = .ok (.ireturn, 1) := by decide +kernel
theorem dX12_count_53 : decode cX12_count 53 = .ok (.aload_n 0, 1) := by decide +kernel
theorem dX12_count_54 : decode cX12_count 54 = .ok (.getfield 307, 3) := by decide +kernel
theorem dX12_count_57 : decode cX12_count 57 = .ok (.ireturn, 1) := by decide +kernel
theorem dX12_count_58 : decode cX12_count 58 = .ok (.aload_n 0, 1) := by decide +kernel
theorem dX12_count_59 : decode cX12_count 59 = .ok (.getfield 40, 3) := by decide +kernel
theorem dX12_count_62 : decode cX12_count 62 = .ok (.aload_n 0, 1) := by decide +kernel
theorem dX12_count_63 : decode cX12_count 63 = .ok (.getfield 272, 3) := by decide +kernel
theorem dX12_count_66 : decode cX12_count 66 = .ok (.iaload, 1) := by decide +kernel
theorem dX12_count_67 : decode cX12_count 67 = .ok (.ireturn, 1) := by decide +kernel
theorem dX12_count_68 : decode cX12_count 68 = .ok (.aload_n 0, 1) := by decide +kernel
theorem dX12_count_69 : decode cX12_count 69 = .ok (.getfield 382, 3) := by decide +kernel
theorem dX12_count_72 : decode cX12_count 72 = .ok (.ifCond .eq 10, 3) := by decide +kernel
theorem dX12_count_75 : decode cX12_count 75 = .ok (.aload_n 0, 1) := by decide +kernel
theorem dX12_count_76 : decode cX12_count 76 = .ok (.getfield 386, 3) := by decide +kernel
theorem dX12_count_79 : decode cX12_count 79 = .ok (.goto 4, 3) := by decide +kernel
theorem dX12_count_82 : decode cX12_count 82 = .ok (.iconst (-1), 1) := by decide +kernel
theorem dX12_count_83 : decode cX12_count 83 = .ok (.ireturn, 1) := by decide +kernel
theorem dX12_count_84 : decode cX12_count 84 = .ok (.iconst (-1), 1) := by decide +kernel
theorem dX12_count_85 : decode cX12_count 85 = .ok (.istore_n 2, 1) := by decide +kernel
theorem dX12_count_86 : decode cX12_count 86 = .ok (.iconst 0, 1) := by decide +kernel
theorem dX12_count_87 : decode cX12_count 87 = .ok (.istore_n 3, 1) := by decide +kernel
theorem dX12_count_88 : decode cX12_count 88 = .ok (.iload_n 3, 1) := by decide +kernel
theorem dX12_count_89 : decode cX12_count 89 = .ok (.aload_n 0, 1) := by decide +kernel
theorem dX12_count_90 : decode cX12_count 90 = .ok (.getfield 304, 3) := by decide +kernel
theorem dX12_count_93 : decode cX12_count 93 = .ok (.if_icmp .ge 34, 3) := by decide +kernel
theorem dX12_count_96 : decode cX12_count 96 = .ok (.aload_n 0, 1) := by decide +kernel
theorem dX12_count_97 : decode cX12_count 97 = .ok (.iload_n 3, 1) := by decide +kernel
theorem dX12_count_98 : decode cX12_count 98 = .ok (.invokevirtual 393, 3) := by decide +kernel
theorem dX12_count_101 : decode cX12_count 101 = .ok (.ifCond .eq 20, 3) := by decide +kernel
theorem dX12_count_104 : decode cX12_count 104 = .ok (.aload_n 0, 1) := by decide +kernel
theorem dX12_count_105 : decode cX12_count 105 = .ok (.getfield 173, 3) := by decide +kernel
theorem dX12_count_108 : decode cX12_count 108 = .ok (.iload_n 3, 1) := by decide +kernel
theorem dX12_count_109 : decode cX12_count 109 = .ok (.iaload, 1) := by decide +kernel
theorem dX12_count_110 : decode cX12_count 110 = .ok (.iload_n 2, 1) := by decide +kernel
theorem dX12_count_111 : decode cX12_count 111 = .ok (.if_icmp .le 10, 3) := by decide +kernel
theorem dX12_count_114 : decode cX12_count 114 = .ok (.aload_n 0, 1) := by decide +kernel
theorem dX12_count_115 : decode cX12_count 115 = .ok (.getfield 173, 3) := by decide +kernel
theorem dX12_count_118 : decode cX12_count 118 = .ok (.iload_n 3, 1) := by decide +kernel
theorem dX12_count_119 : decode cX12_count 119 = .ok (.iaload, 1) := by decide +kernel
theorem dX12_count_120 : decode cX12_count 120 = .ok (.istore_n 2, 1) := by decide +kernel
theorem dX12_count_121 : decode cX12_count 121 = .ok (.iinc 3 1, 3) := by decide +kernel
theorem dX12_count_124 : decode cX12_count 124 = .ok (.goto (-36), 3) := by decide +kernel
theorem dX12_count_127 : decode cX12_count 127 = .ok (.iload_n 2, 1) := by decide +kernel
theorem dX12_count_128 : decode cX12_count 128 = .ok (.ireturn, 1) := by decide +kernel
theorem dX12_count_129 : decode cX12_count 129 = .ok (.aload_n 0, 1) := by decide +kernel
theorem dX12_count_130 : decode cX12_count 130 = .ok (.getfield 204, 3) := by decide +kernel
theorem dX12_count_133 : decode cX12_count 133 = .ok (.ireturn, 1) := by decide +kernel
theorem dX12_count_134 : decode cX12_count 134 = .ok (.aload_n 0, 1) := by decide +kernel
theorem dX12_count_135 : decode cX12_count 135 = .ok (.getfield 313, 3) := by decide +kernel
theorem dX12_count_138 : decode cX12_count 138 = .ok (.ireturn, 1) := by decide +kernel
theorem dX12_count_139 : decode cX12_count 139 = .ok (.aload_n 0, 1) := by decide +kernel
theorem dX12_count_140 : decode cX12_count 140 = .ok (.getfield 198, 3) := by decide +kernel
theorem dX12_count_143 : decode cX12_count 143 = .ok (.ireturn, 1) := by decide +kernel
theorem dX12_count_144 : decode cX12_count 144 = .ok (.iconst (-1), 1) := by decide +kernel
theorem dX12_count_145 : decode cX12_count 145 = .ok (.ireturn, 1) := by decide +kernel
theorem dJ9_max_7cf53_0 : decode cJ9_max_7cf53 0 = .ok (.iload_n 0, 1) := by decide +kernel
theorem dJ9_max_7cf53_1 : decode cJ9_max_7cf53 1 = .ok (.iload_n 1, 1) := by decide +kernel
theorem dJ9_max_7cf53_2 : decode cJ9_max_7cf53 2 = .ok (.if_icmp .lt 7, 3) := by decide +kernel
theorem dJ9_max_7cf53_5 : decode cJ9_max_7cf53 5 = .ok (.iload_n 0, 1) := by decide +kernel
theorem dJ9_max_7cf53_6 : decode cJ9_max_7cf53 6 = .ok (.goto 4, 3) := by decide +kernel
theorem dJ9_max_7cf53_9 : decode cJ9_max_7cf53 9 = .ok (.iload_n 1, 1) := by decide +kernel
theorem dJ9_max_7cf53_10 : decode cJ9_max_7cf53 10 = .ok (.ireturn, 1) := by decide +kernel
theorem dJ9_min_7cf53_0 : decode cJ9_min_7cf53 0 = .ok (.iload_n 0, 1) := by decide +kernel
theorem dJ9_min_7cf53_1 : decode cJ9_min_7cf53 1 = .ok (.iload_n 1, 1) := by decide +kernel
theorem dJ9_min_7cf53_2 : decode cJ9_min_7cf53 2 = .ok (.if_icmp .gt 7, 3) := by decide +kernel
theorem dJ9_min_7cf53_5 : decode cJ9_min_7cf53 5 = .ok (.iload_n 0, 1) := by decide +kernel
theorem dJ9_min_7cf53_6 : decode cJ9_min_7cf53 6 = .ok (.goto 4, 3) := by decide +kernel
theorem dJ9_min_7cf53_9 : decode cJ9_min_7cf53 9 = .ok (.iload_n 1, 1) := by decide +kernel
theorem dJ9_min_7cf53_10 : decode cJ9_min_7cf53 10 = .ok (.ireturn, 1) := by decide +kernel
theorem dJ0_length_8abf5_0 : decode cJ0_length_8abf5 0 = .ok (.aload_n 0, 1) := by decide +kernel
theorem dJ0_length_8abf5_1 : decode cJ0_length_8abf5 1 = .ok (.getfield 9, 3) := by decide +kernel
theorem dJ0_length_8abf5_4 : decode cJ0_length_8abf5 4 = .ok (.arraylength, 1) := by decide +kernel
theorem dJ0_length_8abf5_5 : decode cJ0_length_8abf5 5 = .ok (.aload_n 0, 1) := by decide +kernel
theorem dJ0_length_8abf5_6 : decode cJ0_length_8abf5 6 = .ok (.invokevirtual 335, 3) := by decide +kernel
theorem dJ0_length_8abf5_9 : decode cJ0_length_8abf5 9 = .ok (.ishr, 1) := by decide +kernel
theorem dJ0_length_8abf5_10 : decode cJ0_length_8abf5 10 = .ok (.ireturn, 1) := by decide +kernel
theorem dJ0_charAt_5068e_0 : decode cJ0_charAt_5068e 0 = .ok (.aload_n 0, 1) := by decide +kernel
theorem dJ0_charAt_5068e_1 : decode cJ0_charAt_5068e 1 = .ok (.invokevirtual 492, 3) := by decide +kernel
theorem dJ0_charAt_5068e_4 : decode cJ0_charAt_5068e 4 = .ok (.ifCond .eq 12, 3) := by decide +kernel
theorem dJ0_charAt_5068e_7 : decode cJ0_charAt_5068e 7 = .ok (.aload_n 0, 1) := by decide +kernel
theorem dJ0_charAt_5068e_8 : decode cJ0_charAt_5068e 8 = .ok (.getfield 9, 3) := by decide +kernel
theorem dJ0_charAt_5068e_11 : decode cJ0_charAt_5068e 11 = .ok (.iload_n 1, 1) := by decide +kernel
theorem dJ0_charAt_5068e_12 : decode cJ0_charAt_5068e 12 = .ok (.invokestatic 495, 3) := by decide +kernel
theorem dJ0_charAt_5068e_15 : decode cJ0_charAt_5068e 15 = .ok (.ireturn, 1) := by decide +kernel
theorem dJ0_charAt_5068e_16 : decode cJ0_charAt_5068e 16 = .ok (.aload_n 0, 1) := by decide +kernel
theorem dJ0_charAt_5068e_17 : decode cJ0_charAt_5068e 17 = .ok (.getfield 9, 3) := by decide +kernel
theorem dJ0_charAt_5068e_20 : decode cJ0_charAt_5068e 20 = .ok (.iload_n 1, 1) := by decide +kernel
theorem dJ0_charAt_5068e_21 : decode cJ0_charAt_5068e 21 = .ok (.invokestatic 498, 3) := by decide +kernel
theorem dJ0_charAt_5068e_24 : decode cJ0_charAt_5068e 24 = .ok (.ireturn, 1) := by decide +kernel
theorem dJ0_coder_7d493_0 : decode cJ0_coder_7d493 0 = .ok (.getstatic 38, 3) := by decide +kernel
theorem dJ0_coder_7d493_3 : decode cJ0_coder_7d493 3 = .ok (.ifCond .eq 10, 3) := by decide +kernel
theorem dJ0_coder_7d493_6 : decode cJ0_coder_7d493 6 = .ok (.aload_n 0, 1) := by decide +kernel
theorem dJ0_coder_7d493_7 : decode cJ0_coder_7d493 7 = .ok (.getfield 15, 3) := by decide +kernel
theorem dJ0_coder_7d493_10 : decode cJ0_coder_7d493 10 = .ok (.goto 4, 3) := by decide +kernel
theorem dJ0_coder_7d493_13 : decode cJ0_coder_7d493 13 = .ok (.iconst 1, 1) := by decide +kernel
theorem dJ0_coder_7d493_14 : decode cJ0_coder_7d493 14 = .ok (.ireturn, 1) := by decide +kernel
theorem dJ0_isLatin1_aae02_0 : decode cJ0_isLatin1_aae02 0 = .ok (.getstatic 38, 3) := by decide +kernel
theorem dJ0_isLatin1_aae02_3 : decode cJ0_isLatin1_aae02 3 = .ok (.ifCond .eq 14, 3) := by decide +kernel
theorem dJ0_isLatin1_aae02_6 : decode cJ0_isLatin1_aae02 6 = .ok (.aload_n 0, 1) := by decide +kernel
theorem dJ0_isLatin1_aae02_7 : decode cJ0_isLatin1_aae02 7 = .ok (.getfield 15, 3) := by decide +kernel
theorem dJ0_isLatin1_aae02_10 : decode cJ0_isLatin1_aae02 10 = .ok (.ifCond .ne 7, 3) := by decide +kernel
theorem dJ0_isLatin1_aae02_13 : decode cJ0_isLatin1_aae02 13 = .ok (.iconst 1, 1) := by decide +kernel
theorem dJ0_isLatin1_aae02_14 : decode cJ0_isLatin1_aae02 14 = .ok (.goto 4, 3) := by decide +kernel
theorem dJ0_isLatin1_aae02_17 : decode cJ0_isLatin1_aae02 17 = .ok (.iconst 0, 1) := by decide +kernel
theorem dJ0_isLatin1_aae02_18 : decode cJ0_isLatin1_aae02 18 = .ok (.ireturn, 1) := by decide +kernel
theorem dJ0_checkIndex_df160_0 : decode cJ0_checkIndex_df160 0 = .ok (.iload_n 0, 1) := by decide +kernel
theorem dJ0_checkIndex_df160_1 : decode cJ0_checkIndex_df160 1 = .ok (.iload_n 1, 1) := by decide +kernel
theorem dJ0_checkIndex_df160_2 : decode cJ0_checkIndex_df160 2 = .ok (.getstatic 1053, 3) := by decide +kernel
theorem dJ0_checkIndex_df160_5 : decode cJ0_checkIndex_df160 5 = .ok (.invokestatic 1059, 3) := by decide +kernel
theorem dJ0_checkIndex_df160_8 : decode cJ0_checkIndex_df160 8 = .ok (.pop, 1) := by decide +kernel
theorem dJ0_checkIndex_df160_9 : decode cJ0_checkIndex_df160 9 = .ok (.return_, 1) := by decide +kernel
theorem dJ1_charAt_3b067_0 : decode cJ1_charAt_3b067 0 = .ok (.iload_n 1, 1) := by decide +kernel
theorem dJ1_charAt_3b067_1 : decode cJ1_charAt_3b067 1 = .ok (.aload_n 0, 1) := by decide +kernel
theorem dJ1_charAt_3b067_2 : decode cJ1_charAt_3b067 2 = .ok (.arraylength, 1) := by decide +kernel
theorem dJ1_charAt_3b067_3 : decode cJ1_charAt_3b067 3 = .ok (.invokestatic 9, 3) := by decide +kernel
theorem dJ1_charAt_3b067_6 : decode cJ1_charAt_3b067 6 = .ok (.aload_n 0, 1) := by decide +kernel
theorem dJ1_charAt_3b067_7 : decode cJ1_charAt_3b067 7 = .ok (.iload_n 1, 1) := by decide +kernel
theorem dJ1_charAt_3b067_8 : decode cJ1_charAt_3b067 8 = .ok (.baload, 1) := by decide +kernel
theorem dJ1_charAt_3b067_9 : decode cJ1_charAt_3b067 9 = .ok (.sipush 255, 3) := by decide +kernel
theorem dJ1_charAt_3b067_12 : decode cJ1_charAt_3b067 12 = .ok (.iand, 1) := by decide +kernel
theorem dJ1_charAt_3b067_13 : decode cJ1_charAt_3b067 13 = .ok (.i2c, 1) := by decide +kernel
theorem dJ1_charAt_3b067_14 : decode cJ1_charAt_3b067 14 = .ok (.ireturn, 1) := by decide +kernel
theorem dJ2_getChar_3b067_0 : decode cJ2_getChar_3b067 0 = .ok (.getstatic 44, 3) := by decide +kernel
theorem dJ2_getChar_3b067_3 : decode cJ2_getChar_3b067 3 = .ok (.ifCond .ne 25, 3) := by decide +kernel
theorem dJ2_getChar_3b067_6 : decode cJ2_getChar_3b067 6 = .ok (.iload_n 1, 1) := by decide +kernel
theorem dJ2_getChar_3b067_7 : decode cJ2_getChar_3b067 7 = .ok (.ifCond .lt 11, 3) := by decide +kernel
theorem dJ2_getChar_3b067_10 : decode cJ2_getChar_3b067 10 = .ok (.iload_n 1, 1) := by decide +kernel
theorem dJ2_getChar_3b067_11 : decode cJ2_getChar_3b067 11 = .ok (.aload_n 0, 1) := by decide +kernel
theorem dJ2_getChar_3b067_12 : decode cJ2_getChar_3b067 12 = .ok (.invokestatic 48, 3) := by decide +kernel
theorem dJ2_getChar_3b067_15 : decode cJ2_getChar_3b067 15 = .ok (.if_icmp .lt 13, 3) := by decide +kernel
theorem dJ2_getChar_3b067_18 : decode cJ2_getChar_3b067 18 = .ok (.new 52, 3) := by decide +kernel
theorem dJ2_getChar_3b067_21 : decode cJ2_getChar_3b067 21 = .ok (.dup, 1) := by decide +kernel
theorem dJ2_getChar_3b067_22 : decode cJ2_getChar_3b067 22 = .ok (.ldc 54, 2) := by decide +kernel
theorem dJ2_getChar_3b067_24 : decode cJ2_getChar_3b067 24 = .ok (.invokespecial 56, 3) := by decide +kernel
theorem dJ2_getChar_3b067_27 : decode cJ2_getChar_3b067 27 = .ok (.athrow, 1) := by decide +kernel
theorem dJ2_getChar_3b067_28 : decode cJ2_getChar_3b067 28 = .ok (.iload_n 1, 1) := by decide +kernel
theorem dJ2_getChar_3b067_29 : decode cJ2_getChar_3b067 29 = .ok (.iconst 1, 1) := by decide +kernel
theorem dJ2_getChar_3b067_30 : decode cJ2_getChar_3b067 30 = .ok (.ishl, 1) := by decide +kernel
theorem dJ2_getChar_3b067_31 : decode cJ2_getChar_3b067 31 = .ok (.istore_n 1, 1) := by decide +kernel
theorem dJ2_getChar_3b067_32 : decode cJ2_getChar_3b067 32 = .ok (.aload_n 0, 1) := by decide +kernel
theorem dJ2_getChar_3b067_33 : decode cJ2_getChar_3b067 33 = .ok (.iload_n 1, 1) := by decide +kernel
theorem dJ2_getChar_3b067_34 : decode cJ2_getChar_3b067 34 = .ok (.iinc 1 1, 3) := by decide +kernel
theorem dJ2_getChar_3b067_37 : decode cJ2_getChar_3b067 37 = .ok (.baload, 1) := by decide +kernel
theorem dJ2_getChar_3b067_38 : decode cJ2_getChar_3b067 38 = .ok (.sipush 255, 3) := by decide +kernel
theorem dJ2_getChar_3b067_41 : decode cJ2_getChar_3b067 41 = .ok (.iand, 1) := by decide +kernel
theorem dJ2_getChar_3b067_42 : decode cJ2_getChar_3b067 42 = .ok (.getstatic 59, 3) := by decide +kernel
theorem dJ2_getChar_3b067_45 : decode cJ2_getChar_3b067 45 = .ok (.ishl, 1) := by decide +kernel
theorem dJ2_getChar_3b067_46 : decode cJ2_getChar_3b067 46 = .ok (.aload_n 0, 1) := by decide +kernel
theorem dJ2_getChar_3b067_47 : decode cJ2_getChar_3b067 47 = .ok (.iload_n 1, 1) := by decide +kernel
theorem dJ2_getChar_3b067_48 : decode cJ2_getChar_3b067 48 = .ok (.baload, 1) := by decide +kernel
theorem dJ2_getChar_3b067_49 : decode cJ2_getChar_3b067 49 = .ok (.sipush 255, 3) := by decide +kernel
theorem dJ2_getChar_3b067_52 : decode cJ2_getChar_3b067 52 = .ok (.iand, 1) := by decide +kernel
theorem dJ2_getChar_3b067_53 : decode cJ2_getChar_3b067 53 = .ok (.getstatic 63, 3) := by decide +kernel
theorem dJ2_getChar_3b067_56 : decode cJ2_getChar_3b067 56 = .ok (.ishl, 1) := by decide +kernel
theorem dJ2_getChar_3b067_57 : decode cJ2_getChar_3b067 57 = .ok (.ior, 1) := by decide +kernel
theorem dJ2_getChar_3b067_58 : decode cJ2_getChar_3b067 58 = .ok (.i2c, 1) := by decide +kernel
theorem dJ2_getChar_3b067_59 : decode cJ2_getChar_3b067 59 = .ok (.ireturn, 1) := by decide +kernel
theorem dJ2_length_9d52b_0 : decode cJ2_length_9d52b 0 = .ok (.aload_n 0, 1) := by decide +kernel
theorem dJ2_length_9d52b_1 : decode cJ2_length_9d52b 1 = .ok (.arraylength, 1) := by decide +kernel
theorem dJ2_length_9d52b_2 : decode cJ2_length_9d52b 2 = .ok (.iconst 1, 1) := by decide +kernel
theorem dJ2_length_9d52b_3 : decode cJ2_length_9d52b 3 = .ok (.ishr, 1) := by decide +kernel
theorem dJ2_length_9d52b_4 : decode cJ2_length_9d52b 4 = .ok (.ireturn, 1) := by decide +kernel
theorem dJ2_charAt_3b067_0 : decode cJ2_charAt_3b067 0 = .ok (.iload_n 1, 1) := by decide +kernel
theorem dJ2_charAt_3b067_1 : decode cJ2_charAt_3b067 1 = .ok (.aload_n 0, 1) := by decide +kernel
theorem dJ2_charAt_3b067_2 : decode cJ2_charAt_3b067 2 = .ok (.invokestatic 67, 3) := by decide +kernel
theorem dJ2_charAt_3b067_5 : decode cJ2_charAt_3b067 5 = .ok (.aload_n 0, 1) := by decide +kernel
theorem dJ2_charAt_3b067_6 : decode cJ2_charAt_3b067 6 = .ok (.iload_n 1, 1) := by decide +kernel
theorem dJ2_charAt_3b067_7 : decode cJ2_charAt_3b067 7 = .ok (.invokestatic 71, 3) := by decide +kernel
theorem dJ2_charAt_3b067_10 : decode cJ2_charAt_3b067 10 = .ok (.ireturn, 1) := by decide +kernel
theorem dJ2_checkIndex_2214a_0 : decode cJ2_checkIndex_2214a 0 = .ok (.iload_n 0, 1) := by decide +kernel
theorem dJ2_checkIndex_2214a_1 : decode cJ2_checkIndex_2214a 1 = .ok (.aload_n 1, 1) := by decide +kernel
theorem dJ2_checkIndex_2214a_2 : decode cJ2_checkIndex_2214a 2 = .ok (.invokestatic 48, 3) := by decide +kernel
theorem dJ2_checkIndex_2214a_5 : decode cJ2_checkIndex_2214a 5 = .ok (.invokestatic 414, 3) := by decide +kernel
theorem dJ2_checkIndex_2214a_8 : decode cJ2_checkIndex_2214a 8 = .ok (.return_, 1) := by decide +kernel
theorem dJ7_fill_53178_0 : decode cJ7_fill_53178 0 = .ok (.iconst 0, 1) := by decide +kernel
theorem dJ7_fill_53178_1 : decode cJ7_fill_53178 1 = .ok (.istore_n 2, 1) := by decide +kernel
theorem dJ7_fill_53178_2 : decode cJ7_fill_53178 2 = .ok (.aload_n 0, 1) := by decide +kernel
theorem dJ7_fill_53178_3 : decode cJ7_fill_53178 3 = .ok (.arraylength, 1) := by decide +kernel
theorem dJ7_fill_53178_4 : decode cJ7_fill_53178 4 = .ok (.istore_n 3, 1) := by decide +kernel
theorem dJ7_fill_53178_5 : decode cJ7_fill_53178 5 = .ok (.iload_n 2, 1) := by decide +kernel
theorem dJ7_fill_53178_6 : decode cJ7_fill_53178 6 = .ok (.iload_n 3, 1) := by decide +kernel
theorem dJ7_fill_53178_7 : decode cJ7_fill_53178 7 = .ok (.if_icmp .ge 13, 3) := by decide +kernel
theorem dJ7_fill_53178_10 : decode cJ7_fill_53178 10 = .ok (.aload_n 0, 1) := by decide +kernel
theorem dJ7_fill_53178_11 : decode cJ7_fill_53178 11 = .ok (.iload_n 2, 1) := by decide +kernel
theorem dJ7_fill_53178_12 : decode cJ7_fill_53178 12 = .ok (.iload_n 1, 1) := by decide +kernel
theorem dJ7_fill_53178_13 : decode cJ7_fill_53178 13 = .ok (.iastore, 1) := by decide +kernel
theorem dJ7_fill_53178_14 : decode cJ7_fill_53178 14 = .ok (.iinc 2 1, 3) := by decide +kernel
theorem dJ7_fill_53178_17 : decode cJ7_fill_53178 17 = .ok (.goto (-12), 3) := by decide +kernel
theorem dJ7_fill_53178_20 : decode cJ7_fill_53178 20 = .ok (.return_, 1) := by decide +kernel
theorem dJ3_checkIndex_8e157_0 : decode cJ3_checkIndex_8e157 0 = .ok (.iload_n 0, 1) := by decide +kernel
theorem dJ3_checkIndex_8e157_1 : decode cJ3_checkIndex_8e157 1 = .ok (.ifCond .lt 8, 3) := by decide +kernel
theorem dJ3_checkIndex_8e157_4 : decode cJ3_checkIndex_8e157 4 = .ok (.iload_n 0, 1) := by decide +kernel
theorem dJ3_checkIndex_8e157_5 : decode cJ3_checkIndex_8e157 5 = .ok (.iload_n 1, 1) := by decide +kernel
theorem dJ3_checkIndex_8e157_6 : decode cJ3_checkIndex_8e157 6 = .ok (.if_icmp .lt 10, 3) := by decide +kernel
theorem dJ3_checkIndex_8e157_9 : decode cJ3_checkIndex_8e157 9 = .ok (.aload_n 2, 1) := by decide +kernel
theorem dJ3_checkIndex_8e157_10 : decode cJ3_checkIndex_8e157 10 = .ok (.iload_n 0, 1) := by decide +kernel
theorem dJ3_checkIndex_8e157_11 : decode cJ3_checkIndex_8e157 11 = .ok (.iload_n 1, 1) := by decide +kernel
theorem dJ3_checkIndex_8e157_12 : decode cJ3_checkIndex_8e157 12 = .ok (.invokestatic 95, 3) := by decide +kernel
theorem dJ3_checkIndex_8e157_15 : decode cJ3_checkIndex_8e157 15 = .ok (.athrow, 1) := by decide +kernel
theorem dJ3_checkIndex_8e157_16 : decode cJ3_checkIndex_8e157 16 = .ok (.iload_n 0, 1) := by decide +kernel
theorem dJ3_checkIndex_8e157_17 : decode cJ3_checkIndex_8e157 17 = .ok (.ireturn, 1) := by decide +kernel
theorem dL_law_0 : decode cL_law 0 = .ok (.new 7, 3) := by decide +kernel
theorem dL_law_3 : decode cL_law 3 = .ok (.dup, 1) := by decide +kernel
theorem dL_law_4 : decode cL_law 4 = .ok (.invokespecial 9, 3) := by decide +kernel
theorem dL_law_7 : decode cL_law 7 = .ok (.astore_n 1, 1) := by decide +kernel
theorem dL_law_8 : decode cL_law 8 = .ok (.new 10, 3) := by decide +kernel
theorem dL_law_11 : decode cL_law 11 = .ok (.dup, 1) := by decide +kernel
theorem dL_law_12 : decode cL_law 12 = .ok (.invokespecial 12, 3) := by decide +kernel
theorem dL_law_15 : decode cL_law 15 = .ok (.astore_n 2, 1) := by decide +kernel
theorem dL_law_16 : decode cL_law 16 = .ok (.iconst 0, 1) := by decide +kernel
theorem dL_law_17 : decode cL_law 17 = .ok (.istore_n 3, 1) := by decide +kernel
theorem dL_law_18 : decode cL_law 18 = .ok (.iload_n 3, 1) := by decide +kernel
theorem dL_law_19 : decode cL_law 19 = .ok (.aload_n 0, 1) := by decide +kernel
theorem dL_law_20 : decode cL_law 20 = .ok (.arraylength, 1) := by decide +kernel
theorem dL_law_21 : decode cL_law 21 = .ok (.bipush 7, 2) := by decide +kernel
theorem dL_law_23 : decode cL_law 23 = .ok (.isub, 1) := by decide +kernel
theorem dL_law_24 : decode cL_law 24 = .ok (.if_icmp .gt 966, 3) := by decide +kernel
theorem dL_law_27 : decode cL_law 27 = .ok (.aload_n 0, 1) := by decide +kernel
theorem dL_law_28 : decode cL_law 28 = .ok (.iload_n 3, 1) := by decide +kernel
theorem dL_law_29 : decode cL_law 29 = .ok (.iaload, 1) := by decide +kernel
theorem dL_law_30 : decode cL_law 30 = .ok (.bipush 31, 2) := by decide +kernel
theorem dL_law_32 : decode cL_law 32 = .ok (.iand, 1) := by decide +kernel
theorem dL_law_33 : decode cL_law 33 = .ok (.tableswitch 951 0 23 #[111, 174, 197, 210, 223, 298, 377, 400, 433, 466, 499, 532, 565, 598, 631, 664, 697, 720, 743, 766, 799, 842, 905, 928], 111) := by decide +kernel
theorem dL_law_144 : decode cL_law 144 = .ok (.aload_n 1, 1) := by decide +kernel
theorem dL_law_145 : decode cL_law 145 = .ok (.aload_n 0, 1) := by decide +kernel
theorem dL_law_146 : decode cL_law 146 = .ok (.iload_n 3, 1) := by decide +kernel
theorem dL_law_147 : decode cL_law 147 = .ok (.iconst 1, 1) := by decide +kernel
theorem dL_law_148 : decode cL_law 148 = .ok (.iadd, 1) := by decide +kernel
theorem dL_law_149 : decode cL_law 149 = .ok (.iaload, 1) := by decide +kernel
theorem dL_law_150 : decode cL_law 150 = .ok (.aload_n 0, 1) := by decide +kernel
theorem dL_law_151 : decode cL_law 151 = .ok (.iload_n 3, 1) := by decide +kernel
theorem dL_law_152 : decode cL_law 152 = .ok (.iconst 2, 1) := by decide +kernel
theorem dL_law_153 : decode cL_law 153 = .ok (.iadd, 1) := by decide +kernel
theorem dL_law_154 : decode cL_law 154 = .ok (.iaload, 1) := by decide +kernel
theorem dL_law_155 : decode cL_law 155 = .ok (.aload_n 0, 1) := by decide +kernel
theorem dL_law_156 : decode cL_law 156 = .ok (.iload_n 3, 1) := by decide +kernel
theorem dL_law_157 : decode cL_law 157 = .ok (.iconst 3, 1) := by decide +kernel
theorem dL_law_158 : decode cL_law 158 = .ok (.iadd, 1) := by decide +kernel
theorem dL_law_159 : decode cL_law 159 = .ok (.iaload, 1) := by decide +kernel
theorem dL_law_160 : decode cL_law 160 = .ok (.aload_n 0, 1) := by decide +kernel
theorem dL_law_161 : decode cL_law 161 = .ok (.iload_n 3, 1) := by decide +kernel
theorem dL_law_162 : decode cL_law 162 = .ok (.iconst 4, 1) := by decide +kernel
theorem dL_law_163 : decode cL_law 163 = .ok (.iadd, 1) := by decide +kernel
theorem dL_law_164 : decode cL_law 164 = .ok (.iaload, 1) := by decide +kernel
theorem dL_law_165 : decode cL_law 165 = .ok (.aload_n 0, 1) := by decide +kernel
theorem dL_law_166 : decode cL_law 166 = .ok (.iload_n 3, 1) := by decide +kernel
theorem dL_law_167 : decode cL_law 167 = .ok (.iconst 5, 1) := by decide +kernel
theorem dL_law_168 : decode cL_law 168 = .ok (.iadd, 1) := by decide +kernel
theorem dL_law_169 : decode cL_law 169 = .ok (.iaload, 1) := by decide +kernel
theorem dL_law_170 : decode cL_law 170 = .ok (.invokevirtual 13, 3) := by decide +kernel
theorem dL_law_173 : decode cL_law 173 = .ok (.aload_n 2, 1) := by decide +kernel
theorem dL_law_174 : decode cL_law 174 = .ok (.aload_n 0, 1) := by decide +kernel
theorem dL_law_175 : decode cL_law 175 = .ok (.iload_n 3, 1) := by decide +kernel
theorem dL_law_176 : decode cL_law 176 = .ok (.iconst 1, 1) := by decide +kernel
theorem dL_law_177 : decode cL_law 177 = .ok (.iadd, 1) := by decide +kernel
theorem dL_law_178 : decode cL_law 178 = .ok (.iaload, 1) := by decide +kernel
theorem dL_law_179 : decode cL_law 179 = .ok (.aload_n 0, 1) := by decide +kernel
theorem dL_law_180 : decode cL_law 180 = .ok (.iload_n 3, 1) := by decide +kernel
theorem dL_law_181 : decode cL_law 181 = .ok (.iconst 2, 1) := by decide +kernel
theorem dL_law_182 : decode cL_law 182 = .ok (.iadd, 1) := by decide +kernel
theorem dL_law_183 : decode cL_law 183 = .ok (.iaload, 1) := by decide +kernel
theorem dL_law_184 : decode cL_law 184 = .ok (.aload_n 0, 1) := by decide +kernel
theorem dL_law_185 : decode cL_law 185 = .ok (.iload_n 3, 1) := by decide +kernel
theorem dL_law_186 : decode cL_law 186 = .ok (.iconst 3, 1) := by decide +kernel
theorem dL_law_187 : decode cL_law 187 = .ok (.iadd, 1) := by decide +kernel
theorem dL_law_188 : decode cL_law 188 = .ok (.iaload, 1) := by decide +kernel
theorem dL_law_189 : decode cL_law 189 = .ok (.aload_n 0, 1) := by decide +kernel
theorem dL_law_190 : decode cL_law 190 = .ok (.iload_n 3, 1) := by decide +kernel
theorem dL_law_191 : decode cL_law 191 = .ok (.iconst 4, 1) := by decide +kernel
theorem dL_law_192 : decode cL_law 192 = .ok (.iadd, 1) := by decide +kernel
theorem dL_law_193 : decode cL_law 193 = .ok (.iaload, 1) := by decide +kernel
theorem dL_law_194 : decode cL_law 194 = .ok (.aload_n 0, 1) := by decide +kernel
theorem dL_law_195 : decode cL_law 195 = .ok (.iload_n 3, 1) := by decide +kernel
theorem dL_law_196 : decode cL_law 196 = .ok (.iconst 5, 1) := by decide +kernel
theorem dL_law_197 : decode cL_law 197 = .ok (.iadd, 1) := by decide +kernel
theorem dL_law_198 : decode cL_law 198 = .ok (.iaload, 1) := by decide +kernel
theorem dL_law_199 : decode cL_law 199 = .ok (.invokevirtual 17, 3) := by decide +kernel
theorem dL_law_202 : decode cL_law 202 = .ok (.if_icmp .eq 782, 3) := by decide +kernel
theorem dL_law_205 : decode cL_law 205 = .ok (.iconst 0, 1) := by decide +kernel
theorem dL_law_206 : decode cL_law 206 = .ok (.ireturn, 1) := by decide +kernel
theorem dL_law_207 : decode cL_law 207 = .ok (.aload_n 1, 1) := by decide +kernel
theorem dL_law_208 : decode cL_law 208 = .ok (.aload_n 0, 1) := by decide +kernel
theorem dL_law_209 : decode cL_law 209 = .ok (.iload_n 3, 1) := by decide +kernel
theorem dL_law_210 : decode cL_law 210 = .ok (.iconst 1, 1) := by decide +kernel
theorem dL_law_211 : decode cL_law 211 = .ok (.iadd, 1) := by decide +kernel
theorem dL_law_212 : decode cL_law 212 = .ok (.iaload, 1) := by decide +kernel
theorem dL_law_213 : decode cL_law 213 = .ok (.invokevirtual 18, 3) := by decide +kernel
theorem dL_law_216 : decode cL_law 216 = .ok (.aload_n 2, 1) := by decide +kernel
theorem dL_law_217 : decode cL_law 217 = .ok (.aload_n 0, 1) := by decide +kernel
theorem dL_law_218 : decode cL_law 218 = .ok (.iload_n 3, 1) := by decide +kernel
theorem dL_law_219 : decode cL_law 219 = .ok (.iconst 1, 1) := by decide +kernel
theorem dL_law_220 : decode cL_law 220 = .ok (.iadd, 1) := by decide +kernel
theorem dL_law_221 : decode cL_law 221 = .ok (.iaload, 1) := by decide +kernel
theorem dL_law_222 : decode cL_law 222 = .ok (.invokevirtual 22, 3) := by decide +kernel
theorem dL_law_225 : decode cL_law 225 = .ok (.if_icmp .eq 759, 3) := by decide +kernel
theorem dL_law_228 : decode cL_law 228 = .ok (.iconst 0, 1) := by decide +kernel
theorem dL_law_229 : decode cL_law 229 = .ok (.ireturn, 1) := by decide +kernel
theorem dL_law_230 : decode cL_law 230 = .ok (.aload_n 1, 1) := by decide +kernel
theorem dL_law_231 : decode cL_law 231 = .ok (.invokevirtual 23, 3) := by decide +kernel
theorem dL_law_234 : decode cL_law 234 = .ok (.aload_n 2, 1) := by decide +kernel
theorem dL_law_235 : decode cL_law 235 = .ok (.invokevirtual 27, 3) := by decide +kernel
theorem dL_law_238 : decode cL_law 238 = .ok (.if_icmp .eq 746, 3) := by decide +kernel
theorem dL_law_241 : decode cL_law 241 = .ok (.iconst 0, 1) := by decide +kernel
theorem dL_law_242 : decode cL_law 242 = .ok (.ireturn, 1) := by decide +kernel
theorem dL_law_243 : decode cL_law 243 = .ok (.aload_n 1, 1) := by decide +kernel
theorem dL_law_244 : decode cL_law 244 = .ok (.invokevirtual 28, 3) := by decide +kernel
theorem dL_law_247 : decode cL_law 247 = .ok (.aload_n 2, 1) := by decide +kernel
theorem dL_law_248 : decode cL_law 248 = .ok (.invokevirtual 31, 3) := by decide +kernel
theorem dL_law_251 : decode cL_law 251 = .ok (.if_icmp .eq 733, 3) := by decide +kernel
theorem dL_law_254 : decode cL_law 254 = .ok (.iconst 0, 1) := by decide +kernel
theorem dL_law_255 : decode cL_law 255 = .ok (.ireturn, 1) := by decide +kernel
theorem dL_law_256 : decode cL_law 256 = .ok (.aload_n 1, 1) := by decide +kernel
theorem dL_law_257 : decode cL_law 257 = .ok (.aload_n 0, 1) := by decide +kernel
theorem dL_law_258 : decode cL_law 258 = .ok (.iload_n 3, 1) := by decide +kernel
theorem dL_law_259 : decode cL_law 259 = .ok (.iconst 1, 1) := by decide +kernel
theorem dL_law_260 : decode cL_law 260 = .ok (.iadd, 1) := by decide +kernel
theorem dL_law_261 : decode cL_law 261 = .ok (.iaload, 1) := by decide +kernel
theorem dL_law_262 : decode cL_law 262 = .ok (.aload_n 0, 1) := by decide +kernel
theorem dL_law_263 : decode cL_law 263 = .ok (.iload_n 3, 1) := by decide +kernel
theorem dL_law_264 : decode cL_law 264 = .ok (.iconst 2, 1) := by decide +kernel
theorem dL_law_265 : decode cL_law 265 = .ok (.iadd, 1) := by decide +kernel
theorem dL_law_266 : decode cL_law 266 = .ok (.iaload, 1) := by decide +kernel
theorem dL_law_267 : decode cL_law 267 = .ok (.aload_n 0, 1) := by decide +kernel
theorem dL_law_268 : decode cL_law 268 = .ok (.iload_n 3, 1) := by decide +kernel
theorem dL_law_269 : decode cL_law 269 = .ok (.iconst 3, 1) := by decide +kernel
theorem dL_law_270 : decode cL_law 270 = .ok (.iadd, 1) := by decide +kernel
theorem dL_law_271 : decode cL_law 271 = .ok (.iaload, 1) := by decide +kernel
theorem dL_law_272 : decode cL_law 272 = .ok (.aload_n 0, 1) := by decide +kernel
theorem dL_law_273 : decode cL_law 273 = .ok (.iload_n 3, 1) := by decide +kernel
theorem dL_law_274 : decode cL_law 274 = .ok (.iconst 4, 1) := by decide +kernel
theorem dL_law_275 : decode cL_law 275 = .ok (.iadd, 1) := by decide +kernel
theorem dL_law_276 : decode cL_law 276 = .ok (.iaload, 1) := by decide +kernel
theorem dL_law_277 : decode cL_law 277 = .ok (.aload_n 0, 1) := by decide +kernel
theorem dL_law_278 : decode cL_law 278 = .ok (.iload_n 3, 1) := by decide +kernel
theorem dL_law_279 : decode cL_law 279 = .ok (.iconst 5, 1) := by decide +kernel
theorem dL_law_280 : decode cL_law 280 = .ok (.iadd, 1) := by decide +kernel
theorem dL_law_281 : decode cL_law 281 = .ok (.iaload, 1) := by decide +kernel
theorem dL_law_282 : decode cL_law 282 = .ok (.aload_n 0, 1) := by decide +kernel
theorem dL_law_283 : decode cL_law 283 = .ok (.iload_n 3, 1) := by decide +kernel
theorem dL_law_284 : decode cL_law 284 = .ok (.bipush 6, 2) := by decide +kernel
theorem dL_law_286 : decode cL_law 286 = .ok (.iadd, 1) := by decide +kernel
theorem dL_law_287 : decode cL_law 287 = .ok (.iaload, 1) := by decide +kernel
theorem dL_law_288 : decode cL_law 288 = .ok (.invokevirtual 32, 3) := by decide +kernel
theorem dL_law_291 : decode cL_law 291 = .ok (.aload_n 2, 1) := by decide +kernel
theorem dL_law_292 : decode cL_law 292 = .ok (.aload_n 0, 1) := by decide +kernel
theorem dL_law_293 : decode cL_law 293 = .ok (.iload_n 3, 1) := by decide +kernel
theorem dL_law_294 : decode cL_law 294 = .ok (.iconst 1, 1) := by decide +kernel
theorem dL_law_295 : decode cL_law 295 = .ok (.iadd, 1) := by decide +kernel
theorem dL_law_296 : decode cL_law 296 = .ok (.iaload, 1) := by decide +kernel
theorem dL_law_297 : decode cL_law 297 = .ok (.aload_n 0, 1) := by decide +kernel
theorem dL_law_298 : decode cL_law 298 = .ok (.iload_n 3, 1) := by decide +kernel
theorem dL_law_299 : decode cL_law 299 = .ok (.iconst 2, 1) := by decide +kernel
theorem dL_law_300 : decode cL_law 300 = .ok (.iadd, 1) := by decide +kernel
theorem dL_law_301 : decode cL_law 301 = .ok (.iaload, 1) := by decide +kernel
theorem dL_law_302 : decode cL_law 302 = .ok (.aload_n 0, 1) := by decide +kernel
theorem dL_law_303 : decode cL_law 303 = .ok (.iload_n 3, 1) := by decide +kernel
theorem dL_law_304 : decode cL_law 304 = .ok (.iconst 3, 1) := by decide +kernel
theorem dL_law_305 : decode cL_law 305 = .ok (.iadd, 1) := by decide +kernel
theorem dL_law_306 : decode cL_law 306 = .ok (.iaload, 1) := by decide +kernel
theorem dL_law_307 : decode cL_law 307 = .ok (.aload_n 0, 1) := by decide +kernel
theorem dL_law_308 : decode cL_law 308 = .ok (.iload_n 3, 1) := by decide +kernel
theorem dL_law_309 : decode cL_law 309 = .ok (.iconst 4, 1) := by decide +kernel
theorem dL_law_310 : decode cL_law 310 = .ok (.iadd, 1) := by decide +kernel
theorem dL_law_311 : decode cL_law 311 = .ok (.iaload, 1) := by decide +kernel
theorem dL_law_312 : decode cL_law 312 = .ok (.aload_n 0, 1) := by decide +kernel
theorem dL_law_313 : decode cL_law 313 = .ok (.iload_n 3, 1) := by decide +kernel
theorem dL_law_314 : decode cL_law 314 = .ok (.iconst 5, 1) := by decide +kernel
theorem dL_law_315 : decode cL_law 315 = .ok (.iadd, 1) := by decide +kernel
theorem dL_law_316 : decode cL_law 316 = .ok (.iaload, 1) := by decide +kernel
theorem dL_law_317 : decode cL_law 317 = .ok (.aload_n 0, 1) := by decide +kernel
theorem dL_law_318 : decode cL_law 318 = .ok (.iload_n 3, 1) := by decide +kernel
theorem dL_law_319 : decode cL_law 319 = .ok (.bipush 6, 2) := by decide +kernel
theorem dL_law_321 : decode cL_law 321 = .ok (.iadd, 1) := by decide +kernel
theorem dL_law_322 : decode cL_law 322 = .ok (.iaload, 1) := by decide +kernel
theorem dL_law_323 : decode cL_law 323 = .ok (.invokevirtual 36, 3) := by decide +kernel
theorem dL_law_326 : decode cL_law 326 = .ok (.if_icmp .eq 658, 3) := by decide +kernel
theorem dL_law_329 : decode cL_law 329 = .ok (.iconst 0, 1) := by decide +kernel
theorem dL_law_330 : decode cL_law 330 = .ok (.ireturn, 1) := by decide +kernel
theorem dL_law_331 : decode cL_law 331 = .ok (.aload_n 1, 1) := by decide +kernel
theorem dL_law_332 : decode cL_law 332 = .ok (.aload_n 0, 1) := by decide +kernel
theorem dL_law_333 : decode cL_law 333 = .ok (.iload_n 3, 1) := by decide +kernel
theorem dL_law_334 : decode cL_law 334 = .ok (.iconst 1, 1) := by decide +kernel
theorem dL_law_335 : decode cL_law 335 = .ok (.iadd, 1) := by decide +kernel
theorem dL_law_336 : decode cL_law 336 = .ok (.iaload, 1) := by decide +kernel
theorem dL_law_337 : decode cL_law 337 = .ok (.aload_n 0, 1) := by decide +kernel
theorem dL_law_338 : decode cL_law 338 = .ok (.iload_n 3, 1) := by decide +kernel
theorem dL_law_339 : decode cL_law 339 = .ok (.iconst 2, 1) := by decide +kernel
theorem dL_law_340 : decode cL_law 340 = .ok (.iadd, 1) := by decide +kernel
theorem dL_law_341 : decode cL_law 341 = .ok (.iaload, 1) := by decide +kernel
theorem dL_law_342 : decode cL_law 342 = .ok (.aload_n 0, 1) := by decide +kernel
theorem dL_law_343 : decode cL_law 343 = .ok (.iload_n 3, 1) := by decide +kernel
theorem dL_law_344 : decode cL_law 344 = .ok (.iconst 3, 1) := by decide +kernel
theorem dL_law_345 : decode cL_law 345 = .ok (.iadd, 1) := by decide +kernel
theorem dL_law_346 : decode cL_law 346 = .ok (.iaload, 1) := by decide +kernel
theorem dL_law_347 : decode cL_law 347 = .ok (.aload_n 0, 1) := by decide +kernel
theorem dL_law_348 : decode cL_law 348 = .ok (.iload_n 3, 1) := by decide +kernel
theorem dL_law_349 : decode cL_law 349 = .ok (.iconst 4, 1) := by decide +kernel
theorem dL_law_350 : decode cL_law 350 = .ok (.iadd, 1) := by decide +kernel
theorem dL_law_351 : decode cL_law 351 = .ok (.iaload, 1) := by decide +kernel
theorem dL_law_352 : decode cL_law 352 = .ok (.aload_n 0, 1) := by decide +kernel
theorem dL_law_353 : decode cL_law 353 = .ok (.iload_n 3, 1) := by decide +kernel
theorem dL_law_354 : decode cL_law 354 = .ok (.iconst 5, 1) := by decide +kernel
theorem dL_law_355 : decode cL_law 355 = .ok (.iadd, 1) := by decide +kernel
theorem dL_law_356 : decode cL_law 356 = .ok (.iaload, 1) := by decide +kernel
theorem dL_law_357 : decode cL_law 357 = .ok (.ifCond .eq 7, 3) := by decide +kernel
theorem dL_law_360 : decode cL_law 360 = .ok (.iconst 1, 1) := by decide +kernel
theorem dL_law_361 : decode cL_law 361 = .ok (.goto 4, 3) := by decide +kernel
theorem dL_law_364 : decode cL_law 364 = .ok (.iconst 0, 1) := by decide +kernel
theorem dL_law_365 : decode cL_law 365 = .ok (.invokevirtual 37, 3) := by decide +kernel
theorem dL_law_368 : decode cL_law 368 = .ok (.aload_n 2, 1) := by decide +kernel
theorem dL_law_369 : decode cL_law 369 = .ok (.aload_n 0, 1) := by decide +kernel
theorem dL_law_370 : decode cL_law 370 = .ok (.iload_n 3, 1) := by decide +kernel
theorem dL_law_371 : decode cL_law 371 = .ok (.iconst 1, 1) := by decide +kernel
theorem dL_law_372 : decode cL_law 372 = .ok (.iadd, 1) := by decide +kernel
theorem dL_law_373 : decode cL_law 373 = .ok (.iaload, 1) := by decide +kernel
theorem dL_law_374 : decode cL_law 374 = .ok (.aload_n 0, 1) := by decide +kernel
theorem dL_law_375 : decode cL_law 375 = .ok (.iload_n 3, 1) := by decide +kernel
theorem dL_law_376 : decode cL_law 376 = .ok (.iconst 2, 1) := by decide +kernel
theorem dL_law_377 : decode cL_law 377 = .ok (.iadd, 1) := by decide +kernel
theorem dL_law_378 : decode cL_law 378 = .ok (.iaload, 1) := by decide +kernel
theorem dL_law_379 : decode cL_law 379 = .ok (.aload_n 0, 1) := by decide +kernel
theorem dL_law_380 : decode cL_law 380 = .ok (.iload_n 3, 1) := by decide +kernel
theorem dL_law_381 : decode cL_law 381 = .ok (.iconst 3, 1) := by decide +kernel
theorem dL_law_382 : decode cL_law 382 = .ok (.iadd, 1) := by decide +kernel
theorem dL_law_383 : decode cL_law 383 = .ok (.iaload, 1) := by decide +kernel
theorem dL_law_384 : decode cL_law 384 = .ok (.aload_n 0, 1) := by decide +kernel
theorem dL_law_385 : decode cL_law 385 = .ok (.iload_n 3, 1) := by decide +kernel
theorem dL_law_386 : decode cL_law 386 = .ok (.iconst 4, 1) := by decide +kernel
theorem dL_law_387 : decode cL_law 387 = .ok (.iadd, 1) := by decide +kernel
theorem dL_law_388 : decode cL_law 388 = .ok (.iaload, 1) := by decide +kernel
theorem dL_law_389 : decode cL_law 389 = .ok (.aload_n 0, 1) := by decide +kernel
theorem dL_law_390 : decode cL_law 390 = .ok (.iload_n 3, 1) := by decide +kernel
theorem dL_law_391 : decode cL_law 391 = .ok (.iconst 5, 1) := by decide +kernel
theorem dL_law_392 : decode cL_law 392 = .ok (.iadd, 1) := by decide +kernel
theorem dL_law_393 : decode cL_law 393 = .ok (.iaload, 1) := by decide +kernel
theorem dL_law_394 : decode cL_law 394 = .ok (.ifCond .eq 7, 3) := by decide +kernel
theorem dL_law_397 : decode cL_law 397 = .ok (.iconst 1, 1) := by decide +kernel
theorem dL_law_398 : decode cL_law 398 = .ok (.goto 4, 3) := by decide +kernel
theorem dL_law_401 : decode cL_law 401 = .ok (.iconst 0, 1) := by decide +kernel
theorem dL_law_402 : decode cL_law 402 = .ok (.invokevirtual 41, 3) := by decide +kernel
theorem dL_law_405 : decode cL_law 405 = .ok (.if_icmp .eq 579, 3) := by decide +kernel
theorem dL_law_408 : decode cL_law 408 = .ok (.iconst 0, 1) := by decide +kernel
theorem dL_law_409 : decode cL_law 409 = .ok (.ireturn, 1) := by decide +kernel
theorem dL_law_410 : decode cL_law 410 = .ok (.aload_n 1, 1) := by decide +kernel
theorem dL_law_411 : decode cL_law 411 = .ok (.aload_n 0, 1) := by decide +kernel
theorem dL_law_412 : decode cL_law 412 = .ok (.iload_n 3, 1) := by decide +kernel
theorem dL_law_413 : decode cL_law 413 = .ok (.iconst 1, 1) := by decide +kernel
theorem dL_law_414 : decode cL_law 414 = .ok (.iadd, 1) := by decide +kernel
theorem dL_law_415 : decode cL_law 415 = .ok (.iaload, 1) := by decide +kernel
theorem dL_law_416 : decode cL_law 416 = .ok (.invokevirtual 42, 3) := by decide +kernel
theorem dL_law_419 : decode cL_law 419 = .ok (.aload_n 2, 1) := by decide +kernel
theorem dL_law_420 : decode cL_law 420 = .ok (.aload_n 0, 1) := by decide +kernel
theorem dL_law_421 : decode cL_law 421 = .ok (.iload_n 3, 1) := by decide +kernel
theorem dL_law_422 : decode cL_law 422 = .ok (.iconst 1, 1) := by decide +kernel
theorem dL_law_423 : decode cL_law 423 = .ok (.iadd, 1) := by decide +kernel
theorem dL_law_424 : decode cL_law 424 = .ok (.iaload, 1) := by decide +kernel
theorem dL_law_425 : decode cL_law 425 = .ok (.invokevirtual 46, 3) := by decide +kernel
theorem dL_law_428 : decode cL_law 428 = .ok (.if_icmp .eq 556, 3) := by decide +kernel
theorem dL_law_431 : decode cL_law 431 = .ok (.iconst 0, 1) := by decide +kernel
theorem dL_law_432 : decode cL_law 432 = .ok (.ireturn, 1) := by decide +kernel
theorem dL_law_433 : decode cL_law 433 = .ok (.aload_n 1, 1) := by decide +kernel
theorem dL_law_434 : decode cL_law 434 = .ok (.aload_n 0, 1) := by decide +kernel
theorem dL_law_435 : decode cL_law 435 = .ok (.iload_n 3, 1) := by decide +kernel
theorem dL_law_436 : decode cL_law 436 = .ok (.iconst 1, 1) := by decide +kernel
theorem dL_law_437 : decode cL_law 437 = .ok (.iadd, 1) := by decide +kernel
theorem dL_law_438 : decode cL_law 438 = .ok (.iaload, 1) := by decide +kernel
theorem dL_law_439 : decode cL_law 439 = .ok (.aload_n 0, 1) := by decide +kernel
theorem dL_law_440 : decode cL_law 440 = .ok (.iload_n 3, 1) := by decide +kernel
theorem dL_law_441 : decode cL_law 441 = .ok (.iconst 2, 1) := by decide +kernel
theorem dL_law_442 : decode cL_law 442 = .ok (.iadd, 1) := by decide +kernel
theorem dL_law_443 : decode cL_law 443 = .ok (.iaload, 1) := by decide +kernel
theorem dL_law_444 : decode cL_law 444 = .ok (.invokevirtual 47, 3) := by decide +kernel
theorem dL_law_447 : decode cL_law 447 = .ok (.aload_n 2, 1) := by decide +kernel
theorem dL_law_448 : decode cL_law 448 = .ok (.aload_n 0, 1) := by decide +kernel
theorem dL_law_449 : decode cL_law 449 = .ok (.iload_n 3, 1) := by decide +kernel
theorem dL_law_450 : decode cL_law 450 = .ok (.iconst 1, 1) := by decide +kernel
theorem dL_law_451 : decode cL_law 451 = .ok (.iadd, 1) := by decide +kernel
theorem dL_law_452 : decode cL_law 452 = .ok (.iaload, 1) := by decide +kernel
theorem dL_law_453 : decode cL_law 453 = .ok (.aload_n 0, 1) := by decide +kernel
theorem dL_law_454 : decode cL_law 454 = .ok (.iload_n 3, 1) := by decide +kernel
theorem dL_law_455 : decode cL_law 455 = .ok (.iconst 2, 1) := by decide +kernel
theorem dL_law_456 : decode cL_law 456 = .ok (.iadd, 1) := by decide +kernel
theorem dL_law_457 : decode cL_law 457 = .ok (.iaload, 1) := by decide +kernel
theorem dL_law_458 : decode cL_law 458 = .ok (.invokevirtual 51, 3) := by decide +kernel
theorem dL_law_461 : decode cL_law 461 = .ok (.if_icmp .eq 523, 3) := by decide +kernel
theorem dL_law_464 : decode cL_law 464 = .ok (.iconst 0, 1) := by decide +kernel
theorem dL_law_465 : decode cL_law 465 = .ok (.ireturn, 1) := by decide +kernel
theorem dL_law_466 : decode cL_law 466 = .ok (.aload_n 1, 1) := by decide +kernel
theorem dL_law_467 : decode cL_law 467 = .ok (.aload_n 0, 1) := by decide +kernel
theorem dL_law_468 : decode cL_law 468 = .ok (.iload_n 3, 1) := by decide +kernel
theorem dL_law_469 : decode cL_law 469 = .ok (.iconst 1, 1) := by decide +kernel
theorem dL_law_470 : decode cL_law 470 = .ok (.iadd, 1) := by decide +kernel
theorem dL_law_471 : decode cL_law 471 = .ok (.iaload, 1) := by decide +kernel
theorem dL_law_472 : decode cL_law 472 = .ok (.aload_n 0, 1) := by decide +kernel
theorem dL_law_473 : decode cL_law 473 = .ok (.iload_n 3, 1) := by decide +kernel
theorem dL_law_474 : decode cL_law 474 = .ok (.iconst 2, 1) := by decide +kernel
theorem dL_law_475 : decode cL_law 475 = .ok (.iadd, 1) := by decide +kernel
theorem dL_law_476 : decode cL_law 476 = .ok (.iaload, 1) := by decide +kernel
theorem dL_law_477 : decode cL_law 477 = .ok (.invokevirtual 52, 3) := by decide +kernel
theorem dL_law_480 : decode cL_law 480 = .ok (.aload_n 2, 1) := by decide +kernel
theorem dL_law_481 : decode cL_law 481 = .ok (.aload_n 0, 1) := by decide +kernel
theorem dL_law_482 : decode cL_law 482 = .ok (.iload_n 3, 1) := by decide +kernel
theorem dL_law_483 : decode cL_law 483 = .ok (.iconst 1, 1) := by decide +kernel
theorem dL_law_484 : decode cL_law 484 = .ok (.iadd, 1) := by decide +kernel
theorem dL_law_485 : decode cL_law 485 = .ok (.iaload, 1) := by decide +kernel
theorem dL_law_486 : decode cL_law 486 = .ok (.aload_n 0, 1) := by decide +kernel
theorem dL_law_487 : decode cL_law 487 = .ok (.iload_n 3, 1) := by decide +kernel
theorem dL_law_488 : decode cL_law 488 = .ok (.iconst 2, 1) := by decide +kernel
theorem dL_law_489 : decode cL_law 489 = .ok (.iadd, 1) := by decide +kernel
theorem dL_law_490 : decode cL_law 490 = .ok (.iaload, 1) := by decide +kernel
theorem dL_law_491 : decode cL_law 491 = .ok (.invokevirtual 55, 3) := by decide +kernel
theorem dL_law_494 : decode cL_law 494 = .ok (.if_icmp .eq 490, 3) := by decide +kernel
theorem dL_law_497 : decode cL_law 497 = .ok (.iconst 0, 1) := by decide +kernel
theorem dL_law_498 : decode cL_law 498 = .ok (.ireturn, 1) := by decide +kernel
theorem dL_law_499 : decode cL_law 499 = .ok (.aload_n 1, 1) := by decide +kernel
theorem dL_law_500 : decode cL_law 500 = .ok (.aload_n 0, 1) := by decide +kernel
theorem dL_law_501 : decode cL_law 501 = .ok (.iload_n 3, 1) := by decide +kernel
theorem dL_law_502 : decode cL_law 502 = .ok (.iconst 1, 1) := by decide +kernel
theorem dL_law_503 : decode cL_law 503 = .ok (.iadd, 1) := by decide +kernel
theorem dL_law_504 : decode cL_law 504 = .ok (.iaload, 1) := by decide +kernel
theorem dL_law_505 : decode cL_law 505 = .ok (.aload_n 0, 1) := by decide +kernel
theorem dL_law_506 : decode cL_law 506 = .ok (.iload_n 3, 1) := by decide +kernel
theorem dL_law_507 : decode cL_law 507 = .ok (.iconst 2, 1) := by decide +kernel
theorem dL_law_508 : decode cL_law 508 = .ok (.iadd, 1) := by decide +kernel
theorem dL_law_509 : decode cL_law 509 = .ok (.iaload, 1) := by decide +kernel
theorem dL_law_510 : decode cL_law 510 = .ok (.invokevirtual 56, 3) := by decide +kernel
theorem dL_law_513 : decode cL_law 513 = .ok (.aload_n 2, 1) := by decide +kernel
theorem dL_law_514 : decode cL_law 514 = .ok (.aload_n 0, 1) := by decide +kernel
theorem dL_law_515 : decode cL_law 515 = .ok (.iload_n 3, 1) := by decide +kernel
theorem dL_law_516 : decode cL_law 516 = .ok (.iconst 1, 1) := by decide +kernel
theorem dL_law_517 : decode cL_law 517 = .ok (.iadd, 1) := by decide +kernel
theorem dL_law_518 : decode cL_law 518 = .ok (.iaload, 1) := by decide +kernel
theorem dL_law_519 : decode cL_law 519 = .ok (.aload_n 0, 1) := by decide +kernel
theorem dL_law_520 : decode cL_law 520 = .ok (.iload_n 3, 1) := by decide +kernel
theorem dL_law_521 : decode cL_law 521 = .ok (.iconst 2, 1) := by decide +kernel
theorem dL_law_522 : decode cL_law 522 = .ok (.iadd, 1) := by decide +kernel
theorem dL_law_523 : decode cL_law 523 = .ok (.iaload, 1) := by decide +kernel
theorem dL_law_524 : decode cL_law 524 = .ok (.invokevirtual 60, 3) := by decide +kernel
theorem dL_law_527 : decode cL_law 527 = .ok (.if_icmp .eq 457, 3) := by decide +kernel
theorem dL_law_530 : decode cL_law 530 = .ok (.iconst 0, 1) := by decide +kernel
theorem dL_law_531 : decode cL_law 531 = .ok (.ireturn, 1) := by decide +kernel
theorem dL_law_532 : decode cL_law 532 = .ok (.aload_n 1, 1) := by decide +kernel
theorem dL_law_533 : decode cL_law 533 = .ok (.aload_n 0, 1) := by decide +kernel
theorem dL_law_534 : decode cL_law 534 = .ok (.iload_n 3, 1) := by decide +kernel
theorem dL_law_535 : decode cL_law 535 = .ok (.iconst 1, 1) := by decide +kernel
theorem dL_law_536 : decode cL_law 536 = .ok (.iadd, 1) := by decide +kernel
theorem dL_law_537 : decode cL_law 537 = .ok (.iaload, 1) := by decide +kernel
theorem dL_law_538 : decode cL_law 538 = .ok (.aload_n 0, 1) := by decide +kernel
theorem dL_law_539 : decode cL_law 539 = .ok (.iload_n 3, 1) := by decide +kernel
theorem dL_law_540 : decode cL_law 540 = .ok (.iconst 2, 1) := by decide +kernel
theorem dL_law_541 : decode cL_law 541 = .ok (.iadd, 1) := by decide +kernel
theorem dL_law_542 : decode cL_law 542 = .ok (.iaload, 1) := by decide +kernel
theorem dL_law_543 : decode cL_law 543 = .ok (.invokevirtual 61, 3) := by decide +kernel
theorem dL_law_546 : decode cL_law 546 = .ok (.aload_n 2, 1) := by decide +kernel
theorem dL_law_547 : decode cL_law 547 = .ok (.aload_n 0, 1) := by decide +kernel
theorem dL_law_548 : decode cL_law 548 = .ok (.iload_n 3, 1) := by decide +kernel
theorem dL_law_549 : decode cL_law 549 = .ok (.iconst 1, 1) := by decide +kernel
theorem dL_law_550 : decode cL_law 550 = .ok (.iadd, 1) := by decide +kernel
theorem dL_law_551 : decode cL_law 551 = .ok (.iaload, 1) := by decide +kernel
theorem dL_law_552 : decode cL_law 552 = .ok (.aload_n 0, 1) := by decide +kernel
theorem dL_law_553 : decode cL_law 553 = .ok (.iload_n 3, 1) := by decide +kernel
theorem dL_law_554 : decode cL_law 554 = .ok (.iconst 2, 1) := by decide +kernel
theorem dL_law_555 : decode cL_law 555 = .ok (.iadd, 1) := by decide +kernel
theorem dL_law_556 : decode cL_law 556 = .ok (.iaload, 1) := by decide +kernel
theorem dL_law_557 : decode cL_law 557 = .ok (.invokevirtual 64, 3) := by decide +kernel
theorem dL_law_560 : decode cL_law 560 = .ok (.if_icmp .eq 424, 3) := by decide +kernel
theorem dL_law_563 : decode cL_law 563 = .ok (.iconst 0, 1) := by decide +kernel
theorem dL_law_564 : decode cL_law 564 = .ok (.ireturn, 1) := by decide +kernel
theorem dL_law_565 : decode cL_law 565 = .ok (.aload_n 1, 1) := by decide +kernel
theorem dL_law_566 : decode cL_law 566 = .ok (.aload_n 0, 1) := by decide +kernel
theorem dL_law_567 : decode cL_law 567 = .ok (.iload_n 3, 1) := by decide +kernel
theorem dL_law_568 : decode cL_law 568 = .ok (.iconst 1, 1) := by decide +kernel
theorem dL_law_569 : decode cL_law 569 = .ok (.iadd, 1) := by decide +kernel
theorem dL_law_570 : decode cL_law 570 = .ok (.iaload, 1) := by decide +kernel
theorem dL_law_571 : decode cL_law 571 = .ok (.aload_n 0, 1) := by decide +kernel
theorem dL_law_572 : decode cL_law 572 = .ok (.iload_n 3, 1) := by decide +kernel
theorem dL_law_573 : decode cL_law 573 = .ok (.iconst 2, 1) := by decide +kernel
theorem dL_law_574 : decode cL_law 574 = .ok (.iadd, 1) := by decide +kernel
theorem dL_law_575 : decode cL_law 575 = .ok (.iaload, 1) := by decide +kernel
theorem dL_law_576 : decode cL_law 576 = .ok (.invokevirtual 65, 3) := by decide +kernel
theorem dL_law_579 : decode cL_law 579 = .ok (.aload_n 2, 1) := by decide +kernel
theorem dL_law_580 : decode cL_law 580 = .ok (.aload_n 0, 1) := by decide +kernel
theorem dL_law_581 : decode cL_law 581 = .ok (.iload_n 3, 1) := by decide +kernel
theorem dL_law_582 : decode cL_law 582 = .ok (.iconst 1, 1) := by decide +kernel
theorem dL_law_583 : decode cL_law 583 = .ok (.iadd, 1) := by decide +kernel
theorem dL_law_584 : decode cL_law 584 = .ok (.iaload, 1) := by decide +kernel
theorem dL_law_585 : decode cL_law 585 = .ok (.aload_n 0, 1) := by decide +kernel
theorem dL_law_586 : decode cL_law 586 = .ok (.iload_n 3, 1) := by decide +kernel
theorem dL_law_587 : decode cL_law 587 = .ok (.iconst 2, 1) := by decide +kernel
theorem dL_law_588 : decode cL_law 588 = .ok (.iadd, 1) := by decide +kernel
theorem dL_law_589 : decode cL_law 589 = .ok (.iaload, 1) := by decide +kernel
theorem dL_law_590 : decode cL_law 590 = .ok (.invokevirtual 68, 3) := by decide +kernel
theorem dL_law_593 : decode cL_law 593 = .ok (.if_icmp .eq 391, 3) := by decide +kernel
theorem dL_law_596 : decode cL_law 596 = .ok (.iconst 0, 1) := by decide +kernel
theorem dL_law_597 : decode cL_law 597 = .ok (.ireturn, 1) := by decide +kernel
theorem dL_law_598 : decode cL_law 598 = .ok (.aload_n 1, 1) := by decide +kernel
theorem dL_law_599 : decode cL_law 599 = .ok (.aload_n 0, 1) := by decide +kernel
theorem dL_law_600 : decode cL_law 600 = .ok (.iload_n 3, 1) := by decide +kernel
theorem dL_law_601 : decode cL_law 601 = .ok (.iconst 1, 1) := by decide +kernel
theorem dL_law_602 : decode cL_law 602 = .ok (.iadd, 1) := by decide +kernel
theorem dL_law_603 : decode cL_law 603 = .ok (.iaload, 1) := by decide +kernel
theorem dL_law_604 : decode cL_law 604 = .ok (.aload_n 0, 1) := by decide +kernel
theorem dL_law_605 : decode cL_law 605 = .ok (.iload_n 3, 1) := by decide +kernel
theorem dL_law_606 : decode cL_law 606 = .ok (.iconst 2, 1) := by decide +kernel
theorem dL_law_607 : decode cL_law 607 = .ok (.iadd, 1) := by decide +kernel
theorem dL_law_608 : decode cL_law 608 = .ok (.iaload, 1) := by decide +kernel
theorem dL_law_609 : decode cL_law 609 = .ok (.invokevirtual 69, 3) := by decide +kernel
theorem dL_law_612 : decode cL_law 612 = .ok (.aload_n 2, 1) := by decide +kernel
theorem dL_law_613 : decode cL_law 613 = .ok (.aload_n 0, 1) := by decide +kernel
theorem dL_law_614 : decode cL_law 614 = .ok (.iload_n 3, 1) := by decide +kernel
theorem dL_law_615 : decode cL_law 615 = .ok (.iconst 1, 1) := by decide +kernel
theorem dL_law_616 : decode cL_law 616 = .ok (.iadd, 1) := by decide +kernel
theorem dL_law_617 : decode cL_law 617 = .ok (.iaload, 1) := by decide +kernel
theorem dL_law_618 : decode cL_law 618 = .ok (.aload_n 0, 1) := by decide +kernel
theorem dL_law_619 : decode cL_law 619 = .ok (.iload_n 3, 1) := by decide +kernel
theorem dL_law_620 : decode cL_law 620 = .ok (.iconst 2, 1) := by decide +kernel
theorem dL_law_621 : decode cL_law 621 = .ok (.iadd, 1) := by decide +kernel
theorem dL_law_622 : decode cL_law 622 = .ok (.iaload, 1) := by decide +kernel
theorem dL_law_623 : decode cL_law 623 = .ok (.invokevirtual 72, 3) := by decide +kernel
theorem dL_law_626 : decode cL_law 626 = .ok (.if_icmp .eq 358, 3) := by decide +kernel
theorem dL_law_629 : decode cL_law 629 = .ok (.iconst 0, 1) := by decide +kernel
theorem dL_law_630 : decode cL_law 630 = .ok (.ireturn, 1) := by decide +kernel
theorem dL_law_631 : decode cL_law 631 = .ok (.aload_n 1, 1) := by decide +kernel
theorem dL_law_632 : decode cL_law 632 = .ok (.aload_n 0, 1) := by decide +kernel
theorem dL_law_633 : decode cL_law 633 = .ok (.iload_n 3, 1) := by decide +kernel
theorem dL_law_634 : decode cL_law 634 = .ok (.iconst 1, 1) := by decide +kernel
theorem dL_law_635 : decode cL_law 635 = .ok (.iadd, 1) := by decide +kernel
theorem dL_law_636 : decode cL_law 636 = .ok (.iaload, 1) := by decide +kernel
theorem dL_law_637 : decode cL_law 637 = .ok (.aload_n 0, 1) := by decide +kernel
theorem dL_law_638 : decode cL_law 638 = .ok (.iload_n 3, 1) := by decide +kernel
theorem dL_law_639 : decode cL_law 639 = .ok (.iconst 2, 1) := by decide +kernel
theorem dL_law_640 : decode cL_law 640 = .ok (.iadd, 1) := by decide +kernel
theorem dL_law_641 : decode cL_law 641 = .ok (.iaload, 1) := by decide +kernel
theorem dL_law_642 : decode cL_law 642 = .ok (.invokevirtual 73, 3) := by decide +kernel
theorem dL_law_645 : decode cL_law 645 = .ok (.aload_n 2, 1) := by decide +kernel
theorem dL_law_646 : decode cL_law 646 = .ok (.aload_n 0, 1) := by decide +kernel
theorem dL_law_647 : decode cL_law 647 = .ok (.iload_n 3, 1) := by decide +kernel
theorem dL_law_648 : decode cL_law 648 = .ok (.iconst 1, 1) := by decide +kernel
theorem dL_law_649 : decode cL_law 649 = .ok (.iadd, 1) := by decide +kernel
theorem dL_law_650 : decode cL_law 650 = .ok (.iaload, 1) := by decide +kernel
theorem dL_law_651 : decode cL_law 651 = .ok (.aload_n 0, 1) := by decide +kernel
theorem dL_law_652 : decode cL_law 652 = .ok (.iload_n 3, 1) := by decide +kernel
theorem dL_law_653 : decode cL_law 653 = .ok (.iconst 2, 1) := by decide +kernel
theorem dL_law_654 : decode cL_law 654 = .ok (.iadd, 1) := by decide +kernel
theorem dL_law_655 : decode cL_law 655 = .ok (.iaload, 1) := by decide +kernel
theorem dL_law_656 : decode cL_law 656 = .ok (.invokevirtual 76, 3) := by decide +kernel
theorem dL_law_659 : decode cL_law 659 = .ok (.if_icmp .eq 325, 3) := by decide +kernel
theorem dL_law_662 : decode cL_law 662 = .ok (.iconst 0, 1) := by decide +kernel
theorem dL_law_663 : decode cL_law 663 = .ok (.ireturn, 1) := by decide +kernel
theorem dL_law_664 : decode cL_law 664 = .ok (.aload_n 1, 1) := by decide +kernel
theorem dL_law_665 : decode cL_law 665 = .ok (.aload_n 0, 1) := by decide +kernel
theorem dL_law_666 : decode cL_law 666 = .ok (.iload_n 3, 1) := by decide +kernel
theorem dL_law_667 : decode cL_law 667 = .ok (.iconst 1, 1) := by decide +kernel
theorem dL_law_668 : decode cL_law 668 = .ok (.iadd, 1) := by decide +kernel
theorem dL_law_669 : decode cL_law 669 = .ok (.iaload, 1) := by decide +kernel
theorem dL_law_670 : decode cL_law 670 = .ok (.aload_n 0, 1) := by decide +kernel
theorem dL_law_671 : decode cL_law 671 = .ok (.iload_n 3, 1) := by decide +kernel
theorem dL_law_672 : decode cL_law 672 = .ok (.iconst 2, 1) := by decide +kernel
theorem dL_law_673 : decode cL_law 673 = .ok (.iadd, 1) := by decide +kernel
theorem dL_law_674 : decode cL_law 674 = .ok (.iaload, 1) := by decide +kernel
theorem dL_law_675 : decode cL_law 675 = .ok (.invokevirtual 77, 3) := by decide +kernel
theorem dL_law_678 : decode cL_law 678 = .ok (.aload_n 2, 1) := by decide +kernel
theorem dL_law_679 : decode cL_law 679 = .ok (.aload_n 0, 1) := by decide +kernel
theorem dL_law_680 : decode cL_law 680 = .ok (.iload_n 3, 1) := by decide +kernel
theorem dL_law_681 : decode cL_law 681 = .ok (.iconst 1, 1) := by decide +kernel
theorem dL_law_682 : decode cL_law 682 = .ok (.iadd, 1) := by decide +kernel
theorem dL_law_683 : decode cL_law 683 = .ok (.iaload, 1) := by decide +kernel
theorem dL_law_684 : decode cL_law 684 = .ok (.aload_n 0, 1) := by decide +kernel
theorem dL_law_685 : decode cL_law 685 = .ok (.iload_n 3, 1) := by decide +kernel
theorem dL_law_686 : decode cL_law 686 = .ok (.iconst 2, 1) := by decide +kernel
theorem dL_law_687 : decode cL_law 687 = .ok (.iadd, 1) := by decide +kernel
theorem dL_law_688 : decode cL_law 688 = .ok (.iaload, 1) := by decide +kernel
theorem dL_law_689 : decode cL_law 689 = .ok (.invokevirtual 80, 3) := by decide +kernel
theorem dL_law_692 : decode cL_law 692 = .ok (.if_icmp .eq 292, 3) := by decide +kernel
theorem dL_law_695 : decode cL_law 695 = .ok (.iconst 0, 1) := by decide +kernel
theorem dL_law_696 : decode cL_law 696 = .ok (.ireturn, 1) := by decide +kernel
theorem dL_law_697 : decode cL_law 697 = .ok (.aload_n 1, 1) := by decide +kernel
theorem dL_law_698 : decode cL_law 698 = .ok (.aload_n 0, 1) := by decide +kernel
theorem dL_law_699 : decode cL_law 699 = .ok (.iload_n 3, 1) := by decide +kernel
theorem dL_law_700 : decode cL_law 700 = .ok (.iconst 1, 1) := by decide +kernel
theorem dL_law_701 : decode cL_law 701 = .ok (.iadd, 1) := by decide +kernel
theorem dL_law_702 : decode cL_law 702 = .ok (.iaload, 1) := by decide +kernel
theorem dL_law_703 : decode cL_law 703 = .ok (.aload_n 0, 1) := by decide +kernel
theorem dL_law_704 : decode cL_law 704 = .ok (.iload_n 3, 1) := by decide +kernel
theorem dL_law_705 : decode cL_law 705 = .ok (.iconst 2, 1) := by decide +kernel
theorem dL_law_706 : decode cL_law 706 = .ok (.iadd, 1) := by decide +kernel
theorem dL_law_707 : decode cL_law 707 = .ok (.iaload, 1) := by decide +kernel
theorem dL_law_708 : decode cL_law 708 = .ok (.invokevirtual 81, 3) := by decide +kernel
theorem dL_law_711 : decode cL_law 711 = .ok (.aload_n 2, 1) := by decide +kernel
theorem dL_law_712 : decode cL_law 712 = .ok (.aload_n 0, 1) := by decide +kernel
theorem dL_law_713 : decode cL_law 713 = .ok (.iload_n 3, 1) := by decide +kernel
theorem dL_law_714 : decode cL_law 714 = .ok (.iconst 1, 1) := by decide +kernel
theorem dL_law_715 : decode cL_law 715 = .ok (.iadd, 1) := by decide +kernel
theorem dL_law_716 : decode cL_law 716 = .ok (.iaload, 1) := by decide +kernel
theorem dL_law_717 : decode cL_law 717 = .ok (.aload_n 0, 1) := by decide +kernel
theorem dL_law_718 : decode cL_law 718 = .ok (.iload_n 3, 1) := by decide +kernel
theorem dL_law_719 : decode cL_law 719 = .ok (.iconst 2, 1) := by decide +kernel
theorem dL_law_720 : decode cL_law 720 = .ok (.iadd, 1) := by decide +kernel
theorem dL_law_721 : decode cL_law 721 = .ok (.iaload, 1) := by decide +kernel
theorem dL_law_722 : decode cL_law 722 = .ok (.invokevirtual 84, 3) := by decide +kernel
theorem dL_law_725 : decode cL_law 725 = .ok (.if_icmp .eq 259, 3) := by decide +kernel
theorem dL_law_728 : decode cL_law 728 = .ok (.iconst 0, 1) := by decide +kernel
theorem dL_law_729 : decode cL_law 729 = .ok (.ireturn, 1) := by decide +kernel
theorem dL_law_730 : decode cL_law 730 = .ok (.aload_n 1, 1) := by decide +kernel
theorem dL_law_731 : decode cL_law 731 = .ok (.aload_n 0, 1) := by decide +kernel
theorem dL_law_732 : decode cL_law 732 = .ok (.iload_n 3, 1) := by decide +kernel
theorem dL_law_733 : decode cL_law 733 = .ok (.iconst 1, 1) := by decide +kernel
theorem dL_law_734 : decode cL_law 734 = .ok (.iadd, 1) := by decide +kernel
theorem dL_law_735 : decode cL_law 735 = .ok (.iaload, 1) := by decide +kernel
theorem dL_law_736 : decode cL_law 736 = .ok (.invokevirtual 85, 3) := by decide +kernel
theorem dL_law_739 : decode cL_law 739 = .ok (.aload_n 2, 1) := by decide +kernel
theorem dL_law_740 : decode cL_law 740 = .ok (.aload_n 0, 1) := by decide +kernel
theorem dL_law_741 : decode cL_law 741 = .ok (.iload_n 3, 1) := by decide +kernel
theorem dL_law_742 : decode cL_law 742 = .ok (.iconst 1, 1) := by decide +kernel
theorem dL_law_743 : decode cL_law 743 = .ok (.iadd, 1) := by decide +kernel
theorem dL_law_744 : decode cL_law 744 = .ok (.iaload, 1) := by decide +kernel
theorem dL_law_745 : decode cL_law 745 = .ok (.invokevirtual 88, 3) := by decide +kernel
theorem dL_law_748 : decode cL_law 748 = .ok (.if_icmp .eq 236, 3) := by decide +kernel
theorem dL_law_751 : decode cL_law 751 = .ok (.iconst 0, 1) := by decide +kernel
theorem dL_law_752 : decode cL_law 752 = .ok (.ireturn, 1) := by decide +kernel
theorem dL_law_753 : decode cL_law 753 = .ok (.aload_n 1, 1) := by decide +kernel
theorem dL_law_754 : decode cL_law 754 = .ok (.aload_n 0, 1) := by decide +kernel
theorem dL_law_755 : decode cL_law 755 = .ok (.iload_n 3, 1) := by decide +kernel
theorem dL_law_756 : decode cL_law 756 = .ok (.iconst 1, 1) := by decide +kernel
theorem dL_law_757 : decode cL_law 757 = .ok (.iadd, 1) := by decide +kernel
theorem dL_law_758 : decode cL_law 758 = .ok (.iaload, 1) := by decide +kernel
theorem dL_law_759 : decode cL_law 759 = .ok (.invokevirtual 89, 3) := by decide +kernel
theorem dL_law_762 : decode cL_law 762 = .ok (.aload_n 2, 1) := by decide +kernel
theorem dL_law_763 : decode cL_law 763 = .ok (.aload_n 0, 1) := by decide +kernel
theorem dL_law_764 : decode cL_law 764 = .ok (.iload_n 3, 1) := by decide +kernel
theorem dL_law_765 : decode cL_law 765 = .ok (.iconst 1, 1) := by decide +kernel
theorem dL_law_766 : decode cL_law 766 = .ok (.iadd, 1) := by decide +kernel
theorem dL_law_767 : decode cL_law 767 = .ok (.iaload, 1) := by decide +kernel
theorem dL_law_768 : decode cL_law 768 = .ok (.invokevirtual 92, 3) := by decide +kernel
theorem dL_law_771 : decode cL_law 771 = .ok (.if_icmp .eq 213, 3) := by decide +kernel
theorem dL_law_774 : decode cL_law 774 = .ok (.iconst 0, 1) := by decide +kernel
theorem dL_law_775 : decode cL_law 775 = .ok (.ireturn, 1) := by decide +kernel
theorem dL_law_776 : decode cL_law 776 = .ok (.aload_n 1, 1) := by decide +kernel
theorem dL_law_777 : decode cL_law 777 = .ok (.aload_n 0, 1) := by decide +kernel
theorem dL_law_778 : decode cL_law 778 = .ok (.iload_n 3, 1) := by decide +kernel
theorem dL_law_779 : decode cL_law 779 = .ok (.iconst 1, 1) := by decide +kernel
theorem dL_law_780 : decode cL_law 780 = .ok (.iadd, 1) := by decide +kernel
theorem dL_law_781 : decode cL_law 781 = .ok (.iaload, 1) := by decide +kernel
theorem dL_law_782 : decode cL_law 782 = .ok (.invokevirtual 93, 3) := by decide +kernel
theorem dL_law_785 : decode cL_law 785 = .ok (.aload_n 2, 1) := by decide +kernel
theorem dL_law_786 : decode cL_law 786 = .ok (.aload_n 0, 1) := by decide +kernel
theorem dL_law_787 : decode cL_law 787 = .ok (.iload_n 3, 1) := by decide +kernel
theorem dL_law_788 : decode cL_law 788 = .ok (.iconst 1, 1) := by decide +kernel
theorem dL_law_789 : decode cL_law 789 = .ok (.iadd, 1) := by decide +kernel
theorem dL_law_790 : decode cL_law 790 = .ok (.iaload, 1) := by decide +kernel
theorem dL_law_791 : decode cL_law 791 = .ok (.invokevirtual 96, 3) := by decide +kernel
theorem dL_law_794 : decode cL_law 794 = .ok (.if_icmp .eq 190, 3) := by decide +kernel
theorem dL_law_797 : decode cL_law 797 = .ok (.iconst 0, 1) := by decide +kernel
theorem dL_law_798 : decode cL_law 798 = .ok (.ireturn, 1) := by decide +kernel
theorem dL_law_799 : decode cL_law 799 = .ok (.aload_n 1, 1) := by decide +kernel
theorem dL_law_800 : decode cL_law 800 = .ok (.aload_n 0, 1) := by decide +kernel
theorem dL_law_801 : decode cL_law 801 = .ok (.iload_n 3, 1) := by decide +kernel
theorem dL_law_802 : decode cL_law 802 = .ok (.iconst 1, 1) := by decide +kernel
theorem dL_law_803 : decode cL_law 803 = .ok (.iadd, 1) := by decide +kernel
theorem dL_law_804 : decode cL_law 804 = .ok (.iaload, 1) := by decide +kernel
theorem dL_law_805 : decode cL_law 805 = .ok (.aload_n 0, 1) := by decide +kernel
theorem dL_law_806 : decode cL_law 806 = .ok (.iload_n 3, 1) := by decide +kernel
theorem dL_law_807 : decode cL_law 807 = .ok (.iconst 2, 1) := by decide +kernel
theorem dL_law_808 : decode cL_law 808 = .ok (.iadd, 1) := by decide +kernel
theorem dL_law_809 : decode cL_law 809 = .ok (.iaload, 1) := by decide +kernel
theorem dL_law_810 : decode cL_law 810 = .ok (.invokevirtual 97, 3) := by decide +kernel
theorem dL_law_813 : decode cL_law 813 = .ok (.aload_n 2, 1) := by decide +kernel
theorem dL_law_814 : decode cL_law 814 = .ok (.aload_n 0, 1) := by decide +kernel
theorem dL_law_815 : decode cL_law 815 = .ok (.iload_n 3, 1) := by decide +kernel
theorem dL_law_816 : decode cL_law 816 = .ok (.iconst 1, 1) := by decide +kernel
theorem dL_law_817 : decode cL_law 817 = .ok (.iadd, 1) := by decide +kernel
theorem dL_law_818 : decode cL_law 818 = .ok (.iaload, 1) := by decide +kernel
theorem dL_law_819 : decode cL_law 819 = .ok (.aload_n 0, 1) := by decide +kernel
theorem dL_law_820 : decode cL_law 820 = .ok (.iload_n 3, 1) := by decide +kernel
theorem dL_law_821 : decode cL_law 821 = .ok (.iconst 2, 1) := by decide +kernel
theorem dL_law_822 : decode cL_law 822 = .ok (.iadd, 1) := by decide +kernel
theorem dL_law_823 : decode cL_law 823 = .ok (.iaload, 1) := by decide +kernel
theorem dL_law_824 : decode cL_law 824 = .ok (.invokevirtual 100, 3) := by decide +kernel
theorem dL_law_827 : decode cL_law 827 = .ok (.if_icmp .eq 157, 3) := by decide +kernel
theorem dL_law_830 : decode cL_law 830 = .ok (.iconst 0, 1) := by decide +kernel
theorem dL_law_831 : decode cL_law 831 = .ok (.ireturn, 1) := by decide +kernel
theorem dL_law_832 : decode cL_law 832 = .ok (.aload_n 1, 1) := by decide +kernel
theorem dL_law_833 : decode cL_law 833 = .ok (.aload_n 0, 1) := by decide +kernel
theorem dL_law_834 : decode cL_law 834 = .ok (.iload_n 3, 1) := by decide +kernel
theorem dL_law_835 : decode cL_law 835 = .ok (.iconst 1, 1) := by decide +kernel
theorem dL_law_836 : decode cL_law 836 = .ok (.iadd, 1) := by decide +kernel
theorem dL_law_837 : decode cL_law 837 = .ok (.iaload, 1) := by decide +kernel
theorem dL_law_838 : decode cL_law 838 = .ok (.aload_n 0, 1) := by decide +kernel
theorem dL_law_839 : decode cL_law 839 = .ok (.iload_n 3, 1) := by decide +kernel
theorem dL_law_840 : decode cL_law 840 = .ok (.iconst 2, 1) := by decide +kernel
theorem dL_law_841 : decode cL_law 841 = .ok (.iadd, 1) := by decide +kernel
theorem dL_law_842 : decode cL_law 842 = .ok (.iaload, 1) := by decide +kernel
theorem dL_law_843 : decode cL_law 843 = .ok (.aload_n 0, 1) := by decide +kernel
theorem dL_law_844 : decode cL_law 844 = .ok (.iload_n 3, 1) := by decide +kernel
theorem dL_law_845 : decode cL_law 845 = .ok (.iconst 3, 1) := by decide +kernel
theorem dL_law_846 : decode cL_law 846 = .ok (.iadd, 1) := by decide +kernel
theorem dL_law_847 : decode cL_law 847 = .ok (.iaload, 1) := by decide +kernel
theorem dL_law_848 : decode cL_law 848 = .ok (.invokevirtual 101, 3) := by decide +kernel
theorem dL_law_851 : decode cL_law 851 = .ok (.aload_n 2, 1) := by decide +kernel
theorem dL_law_852 : decode cL_law 852 = .ok (.aload_n 0, 1) := by decide +kernel
theorem dL_law_853 : decode cL_law 853 = .ok (.iload_n 3, 1) := by decide +kernel
theorem dL_law_854 : decode cL_law 854 = .ok (.iconst 1, 1) := by decide +kernel
theorem dL_law_855 : decode cL_law 855 = .ok (.iadd, 1) := by decide +kernel
theorem dL_law_856 : decode cL_law 856 = .ok (.iaload, 1) := by decide +kernel
theorem dL_law_857 : decode cL_law 857 = .ok (.aload_n 0, 1) := by decide +kernel
theorem dL_law_858 : decode cL_law 858 = .ok (.iload_n 3, 1) := by decide +kernel
theorem dL_law_859 : decode cL_law 859 = .ok (.iconst 2, 1) := by decide +kernel
theorem dL_law_860 : decode cL_law 860 = .ok (.iadd, 1) := by decide +kernel
theorem dL_law_861 : decode cL_law 861 = .ok (.iaload, 1) := by decide +kernel
theorem dL_law_862 : decode cL_law 862 = .ok (.aload_n 0, 1) := by decide +kernel
theorem dL_law_863 : decode cL_law 863 = .ok (.iload_n 3, 1) := by decide +kernel
theorem dL_law_864 : decode cL_law 864 = .ok (.iconst 3, 1) := by decide +kernel
theorem dL_law_865 : decode cL_law 865 = .ok (.iadd, 1) := by decide +kernel
theorem dL_law_866 : decode cL_law 866 = .ok (.iaload, 1) := by decide +kernel
theorem dL_law_867 : decode cL_law 867 = .ok (.invokevirtual 105, 3) := by decide +kernel
theorem dL_law_870 : decode cL_law 870 = .ok (.if_icmp .eq 114, 3) := by decide +kernel
theorem dL_law_873 : decode cL_law 873 = .ok (.iconst 0, 1) := by decide +kernel
theorem dL_law_874 : decode cL_law 874 = .ok (.ireturn, 1) := by decide +kernel
theorem dL_law_875 : decode cL_law 875 = .ok (.aload_n 1, 1) := by decide +kernel
theorem dL_law_876 : decode cL_law 876 = .ok (.aload_n 0, 1) := by decide +kernel
theorem dL_law_877 : decode cL_law 877 = .ok (.iload_n 3, 1) := by decide +kernel
theorem dL_law_878 : decode cL_law 878 = .ok (.iconst 1, 1) := by decide +kernel
theorem dL_law_879 : decode cL_law 879 = .ok (.iadd, 1) := by decide +kernel
theorem dL_law_880 : decode cL_law 880 = .ok (.iaload, 1) := by decide +kernel
theorem dL_law_881 : decode cL_law 881 = .ok (.aload_n 0, 1) := by decide +kernel
theorem dL_law_882 : decode cL_law 882 = .ok (.iload_n 3, 1) := by decide +kernel
theorem dL_law_883 : decode cL_law 883 = .ok (.iconst 2, 1) := by decide +kernel
theorem dL_law_884 : decode cL_law 884 = .ok (.iadd, 1) := by decide +kernel
theorem dL_law_885 : decode cL_law 885 = .ok (.iaload, 1) := by decide +kernel
theorem dL_law_886 : decode cL_law 886 = .ok (.aload_n 0, 1) := by decide +kernel
theorem dL_law_887 : decode cL_law 887 = .ok (.iload_n 3, 1) := by decide +kernel
theorem dL_law_888 : decode cL_law 888 = .ok (.iconst 3, 1) := by decide +kernel
theorem dL_law_889 : decode cL_law 889 = .ok (.iadd, 1) := by decide +kernel
theorem dL_law_890 : decode cL_law 890 = .ok (.iaload, 1) := by decide +kernel
theorem dL_law_891 : decode cL_law 891 = .ok (.aload_n 0, 1) := by decide +kernel
theorem dL_law_892 : decode cL_law 892 = .ok (.iload_n 3, 1) := by decide +kernel
theorem dL_law_893 : decode cL_law 893 = .ok (.iconst 4, 1) := by decide +kernel
theorem dL_law_894 : decode cL_law 894 = .ok (.iadd, 1) := by decide +kernel
theorem dL_law_895 : decode cL_law 895 = .ok (.iaload, 1) := by decide +kernel
theorem dL_law_896 : decode cL_law 896 = .ok (.aload_n 0, 1) := by decide +kernel
theorem dL_law_897 : decode cL_law 897 = .ok (.iload_n 3, 1) := by decide +kernel
theorem dL_law_898 : decode cL_law 898 = .ok (.iconst 5, 1) := by decide +kernel
theorem dL_law_899 : decode cL_law 899 = .ok (.iadd, 1) := by decide +kernel
theorem dL_law_900 : decode cL_law 900 = .ok (.iaload, 1) := by decide +kernel
theorem dL_law_901 : decode cL_law 901 = .ok (.invokevirtual 106, 3) := by decide +kernel
theorem dL_law_904 : decode cL_law 904 = .ok (.aload_n 2, 1) := by decide +kernel
theorem dL_law_905 : decode cL_law 905 = .ok (.aload_n 0, 1) := by decide +kernel
theorem dL_law_906 : decode cL_law 906 = .ok (.iload_n 3, 1) := by decide +kernel
theorem dL_law_907 : decode cL_law 907 = .ok (.iconst 1, 1) := by decide +kernel
theorem dL_law_908 : decode cL_law 908 = .ok (.iadd, 1) := by decide +kernel
theorem dL_law_909 : decode cL_law 909 = .ok (.iaload, 1) := by decide +kernel
theorem dL_law_910 : decode cL_law 910 = .ok (.aload_n 0, 1) := by decide +kernel
theorem dL_law_911 : decode cL_law 911 = .ok (.iload_n 3, 1) := by decide +kernel
theorem dL_law_912 : decode cL_law 912 = .ok (.iconst 2, 1) := by decide +kernel
theorem dL_law_913 : decode cL_law 913 = .ok (.iadd, 1) := by decide +kernel
theorem dL_law_914 : decode cL_law 914 = .ok (.iaload, 1) := by decide +kernel
theorem dL_law_915 : decode cL_law 915 = .ok (.aload_n 0, 1) := by decide +kernel
theorem dL_law_916 : decode cL_law 916 = .ok (.iload_n 3, 1) := by decide +kernel
theorem dL_law_917 : decode cL_law 917 = .ok (.iconst 3, 1) := by decide +kernel
theorem dL_law_918 : decode cL_law 918 = .ok (.iadd, 1) := by decide +kernel
theorem dL_law_919 : decode cL_law 919 = .ok (.iaload, 1) := by decide +kernel
theorem dL_law_920 : decode cL_law 920 = .ok (.aload_n 0, 1) := by decide +kernel
theorem dL_law_921 : decode cL_law 921 = .ok (.iload_n 3, 1) := by decide +kernel
theorem dL_law_922 : decode cL_law 922 = .ok (.iconst 4, 1) := by decide +kernel
theorem dL_law_923 : decode cL_law 923 = .ok (.iadd, 1) := by decide +kernel
theorem dL_law_924 : decode cL_law 924 = .ok (.iaload, 1) := by decide +kernel
theorem dL_law_925 : decode cL_law 925 = .ok (.aload_n 0, 1) := by decide +kernel
theorem dL_law_926 : decode cL_law 926 = .ok (.iload_n 3, 1) := by decide +kernel
theorem dL_law_927 : decode cL_law 927 = .ok (.iconst 5, 1) := by decide +kernel
theorem dL_law_928 : decode cL_law 928 = .ok (.iadd, 1) := by decide +kernel
theorem dL_law_929 : decode cL_law 929 = .ok (.iaload, 1) := by decide +kernel
theorem dL_law_930 : decode cL_law 930 = .ok (.invokevirtual 109, 3) := by decide +kernel
theorem dL_law_933 : decode cL_law 933 = .ok (.if_icmp .eq 51, 3) := by decide +kernel
theorem dL_law_936 : decode cL_law 936 = .ok (.iconst 0, 1) := by decide +kernel
theorem dL_law_937 : decode cL_law 937 = .ok (.ireturn, 1) := by decide +kernel
theorem dL_law_938 : decode cL_law 938 = .ok (.aload_n 1, 1) := by decide +kernel
theorem dL_law_939 : decode cL_law 939 = .ok (.aload_n 0, 1) := by decide +kernel
theorem dL_law_940 : decode cL_law 940 = .ok (.iload_n 3, 1) := by decide +kernel
theorem dL_law_941 : decode cL_law 941 = .ok (.iconst 1, 1) := by decide +kernel
theorem dL_law_942 : decode cL_law 942 = .ok (.iadd, 1) := by decide +kernel
theorem dL_law_943 : decode cL_law 943 = .ok (.iaload, 1) := by decide +kernel
theorem dL_law_944 : decode cL_law 944 = .ok (.invokevirtual 110, 3) := by decide +kernel
theorem dL_law_947 : decode cL_law 947 = .ok (.aload_n 2, 1) := by decide +kernel
theorem dL_law_948 : decode cL_law 948 = .ok (.aload_n 0, 1) := by decide +kernel
theorem dL_law_949 : decode cL_law 949 = .ok (.iload_n 3, 1) := by decide +kernel
theorem dL_law_950 : decode cL_law 950 = .ok (.iconst 1, 1) := by decide +kernel
theorem dL_law_951 : decode cL_law 951 = .ok (.iadd, 1) := by decide +kernel
theorem dL_law_952 : decode cL_law 952 = .ok (.iaload, 1) := by decide +kernel
theorem dL_law_953 : decode cL_law 953 = .ok (.invokevirtual 113, 3) := by decide +kernel
theorem dL_law_956 : decode cL_law 956 = .ok (.if_icmp .eq 28, 3) := by decide +kernel
theorem dL_law_959 : decode cL_law 959 = .ok (.iconst 0, 1) := by decide +kernel
theorem dL_law_960 : decode cL_law 960 = .ok (.ireturn, 1) := by decide +kernel
theorem dL_law_961 : decode cL_law 961 = .ok (.aload_n 1, 1) := by decide +kernel
theorem dL_law_962 : decode cL_law 962 = .ok (.aload_n 0, 1) := by decide +kernel
theorem dL_law_963 : decode cL_law 963 = .ok (.iload_n 3, 1) := by decide +kernel
theorem dL_law_964 : decode cL_law 964 = .ok (.iconst 1, 1) := by decide +kernel
theorem dL_law_965 : decode cL_law 965 = .ok (.iadd, 1) := by decide +kernel
theorem dL_law_966 : decode cL_law 966 = .ok (.iaload, 1) := by decide +kernel
theorem dL_law_967 : decode cL_law 967 = .ok (.invokevirtual 114, 3) := by decide +kernel
theorem dL_law_970 : decode cL_law 970 = .ok (.aload_n 2, 1) := by decide +kernel
theorem dL_law_971 : decode cL_law 971 = .ok (.aload_n 0, 1) := by decide +kernel
theorem dL_law_972 : decode cL_law 972 = .ok (.iload_n 3, 1) := by decide +kernel
theorem dL_law_973 : decode cL_law 973 = .ok (.iconst 1, 1) := by decide +kernel
theorem dL_law_974 : decode cL_law 974 = .ok (.iadd, 1) := by decide +kernel
theorem dL_law_975 : decode cL_law 975 = .ok (.iaload, 1) := by decide +kernel
theorem dL_law_976 : decode cL_law 976 = .ok (.invokevirtual 117, 3) := by decide +kernel
theorem dL_law_979 : decode cL_law 979 = .ok (.if_icmp .eq 5, 3) := by decide +kernel
theorem dL_law_982 : decode cL_law 982 = .ok (.iconst 0, 1) := by decide +kernel
theorem dL_law_983 : decode cL_law 983 = .ok (.ireturn, 1) := by decide +kernel
theorem dL_law_984 : decode cL_law 984 = .ok (.iinc 3 7, 3) := by decide +kernel
theorem dL_law_987 : decode cL_law 987 = .ok (.goto (-969), 3) := by decide +kernel
theorem dL_law_990 : decode cL_law 990 = .ok (.iconst 1, 1) := by decide +kernel
theorem dL_law_991 : decode cL_law 991 = .ok (.ireturn, 1) := by decide +kernel
