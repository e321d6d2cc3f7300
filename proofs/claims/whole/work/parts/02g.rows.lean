set_option maxRecDepth 20000 in
theorem gX11_lineHolds_X11_rings : GoodIn wsX11_lineHolds (wsV RX11 180 RX11 yX11_rings wsX11_rings) := goodIn_app (goodIn_of _ (by decide +kernel)) ggX11_lineHolds_X11_rings
theorem dX11_lineHolds_0 : decode cX11_lineHolds 0 = .ok (.iconst 0, 1) := by decide +kernel
theorem dX11_lineHolds_1 : decode cX11_lineHolds 1 = .ok (.istore_n 3, 1) := by decide +kernel
theorem dX11_lineHolds_2 : decode cX11_lineHolds 2 = .ok (.iload_n 1, 1) := by decide +kernel
theorem dX11_lineHolds_3 : decode cX11_lineHolds 3 = .ok (.bipush 6, 2) := by decide +kernel
theorem dX11_lineHolds_5 : decode cX11_lineHolds 5 = .ok (.idiv, 1) := by decide +kernel
theorem dX11_lineHolds_6 : decode cX11_lineHolds 6 = .ok (.istore 4, 2) := by decide +kernel
theorem dX11_lineHolds_8 : decode cX11_lineHolds 8 = .ok (.sipush 334, 3) := by decide +kernel
theorem dX11_lineHolds_11 : decode cX11_lineHolds 11 = .ok (.sipush 140, 3) := by decide +kernel
theorem dX11_lineHolds_14 : decode cX11_lineHolds 14 = .ok (.iload 4, 2) := by decide +kernel
theorem dX11_lineHolds_16 : decode cX11_lineHolds 16 = .ok (.imul, 1) := by decide +kernel
theorem dX11_lineHolds_17 : decode cX11_lineHolds 17 = .ok (.iadd, 1) := by decide +kernel
theorem dX11_lineHolds_18 : decode cX11_lineHolds 18 = .ok (.aload_n 0, 1) := by decide +kernel
theorem dX11_lineHolds_19 : decode cX11_lineHolds 19 = .ok (.getfield 9, 3) := by decide +kernel
theorem dX11_lineHolds_22 : decode cX11_lineHolds 22 = .ok (.sipush 230, 3) := by decide +kernel
theorem dX11_lineHolds_25 : decode cX11_lineHolds 25 = .ok (.iload_n 1, 1) := by decide +kernel
theorem dX11_lineHolds_26 : decode cX11_lineHolds 26 = .ok (.iadd, 1) := by decide +kernel
theorem dX11_lineHolds_27 : decode cX11_lineHolds 27 = .ok (.iaload, 1) := by decide +kernel
theorem dX11_lineHolds_28 : decode cX11_lineHolds 28 = .ok (.iadd, 1) := by decide +kernel
theorem dX11_lineHolds_29 : decode cX11_lineHolds 29 = .ok (.istore 5, 2) := by decide +kernel
theorem dX11_lineHolds_31 : decode cX11_lineHolds 31 = .ok (.iload 5, 2) := by decide +kernel
theorem dX11_lineHolds_33 : decode cX11_lineHolds 33 = .ok (.sipush 334, 3) := by decide +kernel
theorem dX11_lineHolds_36 : decode cX11_lineHolds 36 = .ok (.sipush 140, 3) := by decide +kernel
theorem dX11_lineHolds_39 : decode cX11_lineHolds 39 = .ok (.iload 4, 2) := by decide +kernel
theorem dX11_lineHolds_41 : decode cX11_lineHolds 41 = .ok (.imul, 1) := by decide +kernel
theorem dX11_lineHolds_42 : decode cX11_lineHolds 42 = .ok (.iadd, 1) := by decide +kernel
theorem dX11_lineHolds_43 : decode cX11_lineHolds 43 = .ok (.aload_n 0, 1) := by decide +kernel
theorem dX11_lineHolds_44 : decode cX11_lineHolds 44 = .ok (.getfield 9, 3) := by decide +kernel
theorem dX11_lineHolds_47 : decode cX11_lineHolds 47 = .ok (.sipush 278, 3) := by decide +kernel
theorem dX11_lineHolds_50 : decode cX11_lineHolds 50 = .ok (.iload_n 1, 1) := by decide +kernel
theorem dX11_lineHolds_51 : decode cX11_lineHolds 51 = .ok (.iadd, 1) := by decide +kernel
theorem dX11_lineHolds_52 : decode cX11_lineHolds 52 = .ok (.iaload, 1) := by decide +kernel
theorem dX11_lineHolds_53 : decode cX11_lineHolds 53 = .ok (.iadd, 1) := by decide +kernel
theorem dX11_lineHolds_54 : decode cX11_lineHolds 54 = .ok (.if_icmp .ge 269, 3) := by decide +kernel
theorem dX11_lineHolds_57 : decode cX11_lineHolds 57 = .ok (.aload_n 0, 1) := by decide +kernel
theorem dX11_lineHolds_58 : decode cX11_lineHolds 58 = .ok (.getfield 9, 3) := by decide +kernel
theorem dX11_lineHolds_61 : decode cX11_lineHolds 61 = .ok (.iload 5, 2) := by decide +kernel
theorem dX11_lineHolds_63 : decode cX11_lineHolds 63 = .ok (.iaload, 1) := by decide +kernel
theorem dX11_lineHolds_64 : decode cX11_lineHolds 64 = .ok (.istore 6, 2) := by decide +kernel
theorem dX11_lineHolds_66 : decode cX11_lineHolds 66 = .ok (.iload 6, 2) := by decide +kernel
theorem dX11_lineHolds_68 : decode cX11_lineHolds 68 = .ok (.ifCond .lt 145, 3) := by decide +kernel
theorem dX11_lineHolds_71 : decode cX11_lineHolds 71 = .ok (.iload 6, 2) := by decide +kernel
theorem dX11_lineHolds_73 : decode cX11_lineHolds 73 = .ok (.iconst 4, 1) := by decide +kernel
theorem dX11_lineHolds_74 : decode cX11_lineHolds 74 = .ok (.irem, 1) := by decide +kernel
theorem dX11_lineHolds_75 : decode cX11_lineHolds 75 = .ok (.istore 7, 2) := by decide +kernel
theorem dX11_lineHolds_77 : decode cX11_lineHolds 77 = .ok (.iload 7, 2) := by decide +kernel
theorem dX11_lineHolds_79 : decode cX11_lineHolds 79 = .ok (.ifCond .ne 12, 3) := by decide +kernel
theorem dX11_lineHolds_82 : decode cX11_lineHolds 82 = .ok (.aload_n 0, 1) := by decide +kernel
theorem dX11_lineHolds_83 : decode cX11_lineHolds 83 = .ok (.getfield 27, 3) := by decide +kernel
theorem dX11_lineHolds_86 : decode cX11_lineHolds 86 = .ok (.iload_n 2, 1) := by decide +kernel
theorem dX11_lineHolds_87 : decode cX11_lineHolds 87 = .ok (.iaload, 1) := by decide +kernel
theorem dX11_lineHolds_88 : decode cX11_lineHolds 88 = .ok (.goto 43, 3) := by decide +kernel
theorem dX11_lineHolds_91 : decode cX11_lineHolds 91 = .ok (.iload 7, 2) := by decide +kernel
theorem dX11_lineHolds_93 : decode cX11_lineHolds 93 = .ok (.iconst 1, 1) := by decide +kernel
theorem dX11_lineHolds_94 : decode cX11_lineHolds 94 = .ok (.if_icmp .ne 10, 3) := by decide +kernel
theorem dX11_lineHolds_97 : decode cX11_lineHolds 97 = .ok (.aload_n 0, 1) := by decide +kernel
theorem dX11_lineHolds_98 : decode cX11_lineHolds 98 = .ok (.getfield 167, 3) := by decide +kernel
theorem dX11_lineHolds_101 : decode cX11_lineHolds 101 = .ok (.goto 30, 3) := by decide +kernel
theorem dX11_lineHolds_104 : decode cX11_lineHolds 104 = .ok (.iload 7, 2) := by decide +kernel
theorem dX11_lineHolds_106 : decode cX11_lineHolds 106 = .ok (.iconst 2, 1) := by decide +kernel
theorem dX11_lineHolds_107 : decode cX11_lineHolds 107 = .ok (.if_icmp .ne 12, 3) := by decide +kernel
theorem dX11_lineHolds_110 : decode cX11_lineHolds 110 = .ok (.aload_n 0, 1) := by decide +kernel
theorem dX11_lineHolds_111 : decode cX11_lineHolds 111 = .ok (.getfield 33, 3) := by decide +kernel
theorem dX11_lineHolds_114 : decode cX11_lineHolds 114 = .ok (.iload_n 2, 1) := by decide +kernel
theorem dX11_lineHolds_115 : decode cX11_lineHolds 115 = .ok (.iaload, 1) := by decide +kernel
theorem dX11_lineHolds_116 : decode cX11_lineHolds 116 = .ok (.goto 15, 3) := by decide +kernel
theorem dX11_lineHolds_119 : decode cX11_lineHolds 119 = .ok (.aload_n 0, 1) := by decide +kernel
theorem dX11_lineHolds_120 : decode cX11_lineHolds 120 = .ok (.invokevirtual 180, 3) := by decide +kernel
theorem dX11_lineHolds_123 : decode cX11_lineHolds 123 = .ok (.ifCond .eq 7, 3) := by decide +kernel
theorem dX11_lineHolds_126 : decode cX11_lineHolds 126 = .ok (.iconst 1, 1) := by decide +kernel
theorem dX11_lineHolds_127 : decode cX11_lineHolds 127 = .ok (.goto 4, 3) := by decide +kernel
theorem dX11_lineHolds_130 : decode cX11_lineHolds 130 = .ok (.iconst 0, 1) := by decide +kernel
theorem dX11_lineHolds_131 : decode cX11_lineHolds 131 = .ok (.istore 8, 2) := by decide +kernel
theorem dX11_lineHolds_133 : decode cX11_lineHolds 133 = .ok (.iload 6, 2) := by decide +kernel
theorem dX11_lineHolds_135 : decode cX11_lineHolds 135 = .ok (.iconst 4, 1) := by decide +kernel
theorem dX11_lineHolds_136 : decode cX11_lineHolds 136 = .ok (.idiv, 1) := by decide +kernel
theorem dX11_lineHolds_137 : decode cX11_lineHolds 137 = .ok (.iconst 4, 1) := by decide +kernel
theorem dX11_lineHolds_138 : decode cX11_lineHolds 138 = .ok (.irem, 1) := by decide +kernel
theorem dX11_lineHolds_139 : decode cX11_lineHolds 139 = .ok (.istore 9, 2) := by decide +kernel
theorem dX11_lineHolds_141 : decode cX11_lineHolds 141 = .ok (.iload 6, 2) := by decide +kernel
theorem dX11_lineHolds_143 : decode cX11_lineHolds 143 = .ok (.bipush 16, 2) := by decide +kernel
theorem dX11_lineHolds_145 : decode cX11_lineHolds 145 = .ok (.idiv, 1) := by decide +kernel
theorem dX11_lineHolds_146 : decode cX11_lineHolds 146 = .ok (.istore 10, 2) := by decide +kernel
theorem dX11_lineHolds_148 : decode cX11_lineHolds 148 = .ok (.aload_n 0, 1) := by decide +kernel
theorem dX11_lineHolds_149 : decode cX11_lineHolds 149 = .ok (.getfield 43, 3) := by decide +kernel
theorem dX11_lineHolds_152 : decode cX11_lineHolds 152 = .ok (.iload_n 3, 1) := by decide +kernel
theorem dX11_lineHolds_153 : decode cX11_lineHolds 153 = .ok (.iload 9, 2) := by decide +kernel
theorem dX11_lineHolds_155 : decode cX11_lineHolds 155 = .ok (.ifCond .ne 18, 3) := by decide +kernel
theorem dX11_lineHolds_158 : decode cX11_lineHolds 158 = .ok (.iload 8, 2) := by decide +kernel
theorem dX11_lineHolds_160 : decode cX11_lineHolds 160 = .ok (.iload 10, 2) := by decide +kernel
theorem dX11_lineHolds_162 : decode cX11_lineHolds 162 = .ok (.if_icmp .ge 7, 3) := by decide +kernel
theorem dX11_lineHolds_165 : decode cX11_lineHolds 165 = .ok (.iconst 1, 1) := by decide +kernel
theorem dX11_lineHolds_166 : decode cX11_lineHolds 166 = .ok (.goto 40, 3) := by decide +kernel
theorem dX11_lineHolds_169 : decode cX11_lineHolds 169 = .ok (.iconst 0, 1) := by decide +kernel
theorem dX11_lineHolds_170 : decode cX11_lineHolds 170 = .ok (.goto 36, 3) := by decide +kernel
theorem dX11_lineHolds_173 : decode cX11_lineHolds 173 = .ok (.iload 9, 2) := by decide +kernel
theorem dX11_lineHolds_175 : decode cX11_lineHolds 175 = .ok (.iconst 1, 1) := by decide +kernel
theorem dX11_lineHolds_176 : decode cX11_lineHolds 176 = .ok (.if_icmp .ne 18, 3) := by decide +kernel
theorem dX11_lineHolds_179 : decode cX11_lineHolds 179 = .ok (.iload 8, 2) := by decide +kernel
theorem dX11_lineHolds_181 : decode cX11_lineHolds 181 = .ok (.iload 10, 2) := by decide +kernel
theorem dX11_lineHolds_183 : decode cX11_lineHolds 183 = .ok (.if_icmp .ne 7, 3) := by decide +kernel
theorem dX11_lineHolds_186 : decode cX11_lineHolds 186 = .ok (.iconst 1, 1) := by decide +kernel
theorem dX11_lineHolds_187 : decode cX11_lineHolds 187 = .ok (.goto 19, 3) := by decide +kernel
theorem dX11_lineHolds_190 : decode cX11_lineHolds 190 = .ok (.iconst 0, 1) := by decide +kernel
theorem dX11_lineHolds_191 : decode cX11_lineHolds 191 = .ok (.goto 15, 3) := by decide +kernel
theorem dX11_lineHolds_194 : decode cX11_lineHolds 194 = .ok (.iload 8, 2) := by decide +kernel
theorem dX11_lineHolds_196 : decode cX11_lineHolds 196 = .ok (.iload 10, 2) := by decide +kernel
theorem dX11_lineHolds_198 : decode cX11_lineHolds 198 = .ok (.if_icmp .le 7, 3) := by decide +kernel
theorem dX11_lineHolds_201 : decode cX11_lineHolds 201 = .ok (.iconst 1, 1) := by decide +kernel
theorem dX11_lineHolds_202 : decode cX11_lineHolds 202 = .ok (.goto 4, 3) := by decide +kernel
theorem dX11_lineHolds_205 : decode cX11_lineHolds 205 = .ok (.iconst 0, 1) := by decide +kernel
theorem dX11_lineHolds_206 : decode cX11_lineHolds 206 = .ok (.bastore, 1) := by decide +kernel
theorem dX11_lineHolds_207 : decode cX11_lineHolds 207 = .ok (.iinc 3 1, 3) := by decide +kernel
theorem dX11_lineHolds_210 : decode cX11_lineHolds 210 = .ok (.goto 107, 3) := by decide +kernel
theorem dX11_lineHolds_213 : decode cX11_lineHolds 213 = .ok (.iload 6, 2) := by decide +kernel
theorem dX11_lineHolds_215 : decode cX11_lineHolds 215 = .ok (.iconst (-1), 1) := by decide +kernel
theorem dX11_lineHolds_216 : decode cX11_lineHolds 216 = .ok (.if_icmp .ne 30, 3) := by decide +kernel
theorem dX11_lineHolds_219 : decode cX11_lineHolds 219 = .ok (.aload_n 0, 1) := by decide +kernel
theorem dX11_lineHolds_220 : decode cX11_lineHolds 220 = .ok (.getfield 43, 3) := by decide +kernel
theorem dX11_lineHolds_223 : decode cX11_lineHolds 223 = .ok (.iload_n 3, 1) := by decide +kernel
theorem dX11_lineHolds_224 : decode cX11_lineHolds 224 = .ok (.iconst 1, 1) := by decide +kernel
theorem dX11_lineHolds_225 : decode cX11_lineHolds 225 = .ok (.isub, 1) := by decide +kernel
theorem dX11_lineHolds_226 : decode cX11_lineHolds 226 = .ok (.aload_n 0, 1) := by decide +kernel
theorem dX11_lineHolds_227 : decode cX11_lineHolds 227 = .ok (.getfield 43, 3) := by decide +kernel
theorem dX11_lineHolds_230 : decode cX11_lineHolds 230 = .ok (.iload_n 3, 1) := by decide +kernel
theorem dX11_lineHolds_231 : decode cX11_lineHolds 231 = .ok (.iconst 1, 1) := by decide +kernel
theorem dX11_lineHolds_232 : decode cX11_lineHolds 232 = .ok (.isub, 1) := by decide +kernel
theorem dX11_lineHolds_233 : decode cX11_lineHolds 233 = .ok (.baload, 1) := by decide +kernel
theorem dX11_lineHolds_234 : decode cX11_lineHolds 234 = .ok (.ifCond .ne 7, 3) := by decide +kernel
theorem dX11_lineHolds_237 : decode cX11_lineHolds 237 = .ok (.iconst 1, 1) := by decide +kernel
theorem dX11_lineHolds_238 : decode cX11_lineHolds 238 = .ok (.goto 4, 3) := by decide +kernel
theorem dX11_lineHolds_241 : decode cX11_lineHolds 241 = .ok (.iconst 0, 1) := by decide +kernel
theorem dX11_lineHolds_242 : decode cX11_lineHolds 242 = .ok (.bastore, 1) := by decide +kernel
theorem dX11_lineHolds_243 : decode cX11_lineHolds 243 = .ok (.goto 74, 3) := by decide +kernel
theorem dX11_lineHolds_246 : decode cX11_lineHolds 246 = .ok (.iinc 3 (-1), 3) := by decide +kernel
theorem dX11_lineHolds_249 : decode cX11_lineHolds 249 = .ok (.aload_n 0, 1) := by decide +kernel
theorem dX11_lineHolds_250 : decode cX11_lineHolds 250 = .ok (.getfield 43, 3) := by decide +kernel
theorem dX11_lineHolds_253 : decode cX11_lineHolds 253 = .ok (.iload_n 3, 1) := by decide +kernel
theorem dX11_lineHolds_254 : decode cX11_lineHolds 254 = .ok (.iconst 1, 1) := by decide +kernel
theorem dX11_lineHolds_255 : decode cX11_lineHolds 255 = .ok (.isub, 1) := by decide +kernel
theorem dX11_lineHolds_256 : decode cX11_lineHolds 256 = .ok (.iload 6, 2) := by decide +kernel
theorem dX11_lineHolds_258 : decode cX11_lineHolds 258 = .ok (.bipush (-2), 2) := by decide +kernel
theorem dX11_lineHolds_260 : decode cX11_lineHolds 260 = .ok (.if_icmp .ne 31, 3) := by decide +kernel
theorem dX11_lineHolds_263 : decode cX11_lineHolds 263 = .ok (.aload_n 0, 1) := by decide +kernel
theorem dX11_lineHolds_264 : decode cX11_lineHolds 264 = .ok (.getfield 43, 3) := by decide +kernel
theorem dX11_lineHolds_267 : decode cX11_lineHolds 267 = .ok (.iload_n 3, 1) := by decide +kernel
theorem dX11_lineHolds_268 : decode cX11_lineHolds 268 = .ok (.iconst 1, 1) := by decide +kernel
theorem dX11_lineHolds_269 : decode cX11_lineHolds 269 = .ok (.isub, 1) := by decide +kernel
theorem dX11_lineHolds_270 : decode cX11_lineHolds 270 = .ok (.baload, 1) := by decide +kernel
theorem dX11_lineHolds_271 : decode cX11_lineHolds 271 = .ok (.ifCond .eq 16, 3) := by decide +kernel
theorem dX11_lineHolds_274 : decode cX11_lineHolds 274 = .ok (.aload_n 0, 1) := by decide +kernel
theorem dX11_lineHolds_275 : decode cX11_lineHolds 275 = .ok (.getfield 43, 3) := by decide +kernel
theorem dX11_lineHolds_278 : decode cX11_lineHolds 278 = .ok (.iload_n 3, 1) := by decide +kernel
theorem dX11_lineHolds_279 : decode cX11_lineHolds 279 = .ok (.baload, 1) := by decide +kernel
theorem dX11_lineHolds_280 : decode cX11_lineHolds 280 = .ok (.ifCond .eq 7, 3) := by decide +kernel
theorem dX11_lineHolds_283 : decode cX11_lineHolds 283 = .ok (.iconst 1, 1) := by decide +kernel
theorem dX11_lineHolds_284 : decode cX11_lineHolds 284 = .ok (.goto 32, 3) := by decide +kernel
theorem dX11_lineHolds_287 : decode cX11_lineHolds 287 = .ok (.iconst 0, 1) := by decide +kernel
theorem dX11_lineHolds_288 : decode cX11_lineHolds 288 = .ok (.goto 28, 3) := by decide +kernel
theorem dX11_lineHolds_291 : decode cX11_lineHolds 291 = .ok (.aload_n 0, 1) := by decide +kernel
theorem dX11_lineHolds_292 : decode cX11_lineHolds 292 = .ok (.getfield 43, 3) := by decide +kernel
theorem dX11_lineHolds_295 : decode cX11_lineHolds 295 = .ok (.iload_n 3, 1) := by decide +kernel
theorem dX11_lineHolds_296 : decode cX11_lineHolds 296 = .ok (.iconst 1, 1) := by decide +kernel
theorem dX11_lineHolds_297 : decode cX11_lineHolds 297 = .ok (.isub, 1) := by decide +kernel
theorem dX11_lineHolds_298 : decode cX11_lineHolds 298 = .ok (.baload, 1) := by decide +kernel
theorem dX11_lineHolds_299 : decode cX11_lineHolds 299 = .ok (.ifCond .ne 12, 3) := by decide +kernel
theorem dX11_lineHolds_302 : decode cX11_lineHolds 302 = .ok (.aload_n 0, 1) := by decide +kernel
theorem dX11_lineHolds_303 : decode cX11_lineHolds 303 = .ok (.getfield 43, 3) := by decide +kernel
theorem dX11_lineHolds_306 : decode cX11_lineHolds 306 = .ok (.iload_n 3, 1) := by decide +kernel
theorem dX11_lineHolds_307 : decode cX11_lineHolds 307 = .ok (.baload, 1) := by decide +kernel
theorem dX11_lineHolds_308 : decode cX11_lineHolds 308 = .ok (.ifCond .eq 7, 3) := by decide +kernel
theorem dX11_lineHolds_311 : decode cX11_lineHolds 311 = .ok (.iconst 1, 1) := by decide +kernel
theorem dX11_lineHolds_312 : decode cX11_lineHolds 312 = .ok (.goto 4, 3) := by decide +kernel
theorem dX11_lineHolds_315 : decode cX11_lineHolds 315 = .ok (.iconst 0, 1) := by decide +kernel
theorem dX11_lineHolds_316 : decode cX11_lineHolds 316 = .ok (.bastore, 1) := by decide +kernel
theorem dX11_lineHolds_317 : decode cX11_lineHolds 317 = .ok (.iinc 5 1, 3) := by decide +kernel
theorem dX11_lineHolds_320 : decode cX11_lineHolds 320 = .ok (.goto (-289), 3) := by decide +kernel
theorem dX11_lineHolds_323 : decode cX11_lineHolds 323 = .ok (.aload_n 0, 1) := by decide +kernel
theorem dX11_lineHolds_324 : decode cX11_lineHolds 324 = .ok (.getfield 43, 3) := by decide +kernel
theorem dX11_lineHolds_327 : decode cX11_lineHolds 327 = .ok (.iconst 0, 1) := by decide +kernel
theorem dX11_lineHolds_328 : decode cX11_lineHolds 328 = .ok (.baload, 1) := by decide +kernel
theorem dX11_lineHolds_329 : decode cX11_lineHolds 329 = .ok (.ireturn, 1) := by decide +kernel
set_option maxRecDepth 20000 in
theorem ggX11_byLines_X11_lineHolds : GoodIn wsX11_byLines wsX11_lineHolds := goodIn_r _ [8, 1, 9, 10, 11, 12, 13, 14, 15, 7, 16, 17, 18, 19, 20, 21, 22, 23, 24, 25, 26, 27, 28, 29, 30, 31, 32, 33, 34, 35, 36, 37, 38, 39, 40, 41, 42, 43, 44, 45, 46, 47, 48, 49, 50, 51, 52, 53, 54, 55, 56, 57, 58, 59, 60] (by decide +kernel) (by decide +kernel)
set_option maxRecDepth 20000 in
theorem gX11_byLines_X11_lineHolds : GoodIn wsX11_byLines (wsV RX11 187 RX11 yX11_lineHolds wsX11_lineHolds) := goodIn_app (goodIn_of _ (by decide +kernel)) ggX11_byLines_X11_lineHolds
theorem dX11_byLines_0 : decode cX11_byLines 0 = .ok (.iconst 0, 1) := by decide +kernel
theorem dX11_byLines_1 : decode cX11_byLines 1 = .ok (.istore_n 3, 1) := by decide +kernel
theorem dX11_byLines_2 : decode cX11_byLines 2 = .ok (.iload_n 3, 1) := by decide +kernel
theorem dX11_byLines_3 : decode cX11_byLines 3 = .ok (.aload_n 0, 1) := by decide +kernel
theorem dX11_byLines_4 : decode cX11_byLines 4 = .ok (.getfield 9, 3) := by decide +kernel
theorem dX11_byLines_7 : decode cX11_byLines 7 = .ok (.sipush 174, 3) := by decide +kernel
theorem dX11_byLines_10 : decode cX11_byLines 10 = .ok (.iload_n 1, 1) := by decide +kernel
theorem dX11_byLines_11 : decode cX11_byLines 11 = .ok (.iadd, 1) := by decide +kernel
theorem dX11_byLines_12 : decode cX11_byLines 12 = .ok (.iaload, 1) := by decide +kernel
theorem dX11_byLines_13 : decode cX11_byLines 13 = .ok (.if_icmp .ge 55, 3) := by decide +kernel
theorem dX11_byLines_16 : decode cX11_byLines 16 = .ok (.iload_n 1, 1) := by decide +kernel
theorem dX11_byLines_17 : decode cX11_byLines 17 = .ok (.aload_n 0, 1) := by decide +kernel
theorem dX11_byLines_18 : decode cX11_byLines 18 = .ok (.getfield 39, 3) := by decide +kernel
theorem dX11_byLines_21 : decode cX11_byLines 21 = .ok (.if_icmp .ne 11, 3) := by decide +kernel
theorem dX11_byLines_24 : decode cX11_byLines 24 = .ok (.iload_n 3, 1) := by decide +kernel
theorem dX11_byLines_25 : decode cX11_byLines 25 = .ok (.aload_n 0, 1) := by decide +kernel
theorem dX11_byLines_26 : decode cX11_byLines 26 = .ok (.getfield 184, 3) := by decide +kernel
theorem dX11_byLines_29 : decode cX11_byLines 29 = .ok (.if_icmp .eq 33, 3) := by decide +kernel
theorem dX11_byLines_32 : decode cX11_byLines 32 = .ok (.aload_n 0, 1) := by decide +kernel
theorem dX11_byLines_33 : decode cX11_byLines 33 = .ok (.bipush 6, 2) := by decide +kernel
theorem dX11_byLines_35 : decode cX11_byLines 35 = .ok (.iload_n 1, 1) := by decide +kernel
theorem dX11_byLines_36 : decode cX11_byLines 36 = .ok (.imul, 1) := by decide +kernel
theorem dX11_byLines_37 : decode cX11_byLines 37 = .ok (.iload_n 3, 1) := by decide +kernel
theorem dX11_byLines_38 : decode cX11_byLines 38 = .ok (.iadd, 1) := by decide +kernel
theorem dX11_byLines_39 : decode cX11_byLines 39 = .ok (.iload_n 2, 1) := by decide +kernel
theorem dX11_byLines_40 : decode cX11_byLines 40 = .ok (.invokevirtual 187, 3) := by decide +kernel
theorem dX11_byLines_43 : decode cX11_byLines 43 = .ok (.ifCond .eq 19, 3) := by decide +kernel
theorem dX11_byLines_46 : decode cX11_byLines 46 = .ok (.aload_n 0, 1) := by decide +kernel
theorem dX11_byLines_47 : decode cX11_byLines 47 = .ok (.getfield 9, 3) := by decide +kernel
theorem dX11_byLines_50 : decode cX11_byLines 50 = .ok (.sipush 182, 3) := by decide +kernel
theorem dX11_byLines_53 : decode cX11_byLines 53 = .ok (.bipush 6, 2) := by decide +kernel
theorem dX11_byLines_55 : decode cX11_byLines 55 = .ok (.iload_n 1, 1) := by decide +kernel
theorem dX11_byLines_56 : decode cX11_byLines 56 = .ok (.imul, 1) := by decide +kernel
theorem dX11_byLines_57 : decode cX11_byLines 57 = .ok (.iadd, 1) := by decide +kernel
theorem dX11_byLines_58 : decode cX11_byLines 58 = .ok (.iload_n 3, 1) := by decide +kernel
theorem dX11_byLines_59 : decode cX11_byLines 59 = .ok (.iadd, 1) := by decide +kernel
theorem dX11_byLines_60 : decode cX11_byLines 60 = .ok (.iaload, 1) := by decide +kernel
theorem dX11_byLines_61 : decode cX11_byLines 61 = .ok (.ireturn, 1) := by decide +kernel
theorem dX11_byLines_62 : decode cX11_byLines 62 = .ok (.iinc 3 1, 3) := by decide +kernel
theorem dX11_byLines_65 : decode cX11_byLines 65 = .ok (.goto (-63), 3) := by decide +kernel
theorem dX11_byLines_68 : decode cX11_byLines 68 = .ok (.aload_n 0, 1) := by decide +kernel
theorem dX11_byLines_69 : decode cX11_byLines 69 = .ok (.getfield 9, 3) := by decide +kernel
theorem dX11_byLines_72 : decode cX11_byLines 72 = .ok (.sipush 166, 3) := by decide +kernel
theorem dX11_byLines_75 : decode cX11_byLines 75 = .ok (.iload_n 1, 1) := by decide +kernel
theorem dX11_byLines_76 : decode cX11_byLines 76 = .ok (.iadd, 1) := by decide +kernel
theorem dX11_byLines_77 : decode cX11_byLines 77 = .ok (.iaload, 1) := by decide +kernel
theorem dX11_byLines_78 : decode cX11_byLines 78 = .ok (.ireturn, 1) := by decide +kernel
theorem dX11_byTurns_0 : decode cX11_byTurns 0 = .ok (.iload_n 1, 1) := by decide +kernel
theorem dX11_byTurns_1 : decode cX11_byTurns 1 = .ok (.aload_n 0, 1) := by decide +kernel
theorem dX11_byTurns_2 : decode cX11_byTurns 2 = .ok (.getfield 39, 3) := by decide +kernel
theorem dX11_byTurns_5 : decode cX11_byTurns 5 = .ok (.if_icmp .ne 7, 3) := by decide +kernel
theorem dX11_byTurns_8 : decode cX11_byTurns 8 = .ok (.iconst 1, 1) := by decide +kernel
theorem dX11_byTurns_9 : decode cX11_byTurns 9 = .ok (.goto 4, 3) := by decide +kernel
theorem dX11_byTurns_12 : decode cX11_byTurns 12 = .ok (.iconst 0, 1) := by decide +kernel
theorem dX11_byTurns_13 : decode cX11_byTurns 13 = .ok (.istore_n 2, 1) := by decide +kernel
theorem dX11_byTurns_14 : decode cX11_byTurns 14 = .ok (.iload_n 2, 1) := by decide +kernel
theorem dX11_byTurns_15 : decode cX11_byTurns 15 = .ok (.ifCond .eq 18, 3) := by decide +kernel
theorem dX11_byTurns_18 : decode cX11_byTurns 18 = .ok (.aload_n 0, 1) := by decide +kernel
theorem dX11_byTurns_19 : decode cX11_byTurns 19 = .ok (.getfield 9, 3) := by decide +kernel
theorem dX11_byTurns_22 : decode cX11_byTurns 22 = .ok (.sipush 174, 3) := by decide +kernel
theorem dX11_byTurns_25 : decode cX11_byTurns 25 = .ok (.iload_n 1, 1) := by decide +kernel
theorem dX11_byTurns_26 : decode cX11_byTurns 26 = .ok (.iadd, 1) := by decide +kernel
theorem dX11_byTurns_27 : decode cX11_byTurns 27 = .ok (.iaload, 1) := by decide +kernel
theorem dX11_byTurns_28 : decode cX11_byTurns 28 = .ok (.iconst 1, 1) := by decide +kernel
theorem dX11_byTurns_29 : decode cX11_byTurns 29 = .ok (.isub, 1) := by decide +kernel
theorem dX11_byTurns_30 : decode cX11_byTurns 30 = .ok (.goto 13, 3) := by decide +kernel
theorem dX11_byTurns_33 : decode cX11_byTurns 33 = .ok (.aload_n 0, 1) := by decide +kernel
theorem dX11_byTurns_34 : decode cX11_byTurns 34 = .ok (.getfield 9, 3) := by decide +kernel
theorem dX11_byTurns_37 : decode cX11_byTurns 37 = .ok (.sipush 174, 3) := by decide +kernel
theorem dX11_byTurns_40 : decode cX11_byTurns 40 = .ok (.iload_n 1, 1) := by decide +kernel
theorem dX11_byTurns_41 : decode cX11_byTurns 41 = .ok (.iadd, 1) := by decide +kernel
theorem dX11_byTurns_42 : decode cX11_byTurns 42 = .ok (.iaload, 1) := by decide +kernel
theorem dX11_byTurns_43 : decode cX11_byTurns 43 = .ok (.istore_n 3, 1) := by decide +kernel
theorem dX11_byTurns_44 : decode cX11_byTurns 44 = .ok (.iload_n 3, 1) := by decide +kernel
theorem dX11_byTurns_45 : decode cX11_byTurns 45 = .ok (.ifCond .ne 14, 3) := by decide +kernel
theorem dX11_byTurns_48 : decode cX11_byTurns 48 = .ok (.aload_n 0, 1) := by decide +kernel
theorem dX11_byTurns_49 : decode cX11_byTurns 49 = .ok (.getfield 9, 3) := by decide +kernel
theorem dX11_byTurns_52 : decode cX11_byTurns 52 = .ok (.sipush 166, 3) := by decide +kernel
theorem dX11_byTurns_55 : decode cX11_byTurns 55 = .ok (.iload_n 1, 1) := by decide +kernel
theorem dX11_byTurns_56 : decode cX11_byTurns 56 = .ok (.iadd, 1) := by decide +kernel
theorem dX11_byTurns_57 : decode cX11_byTurns 57 = .ok (.iaload, 1) := by decide +kernel
theorem dX11_byTurns_58 : decode cX11_byTurns 58 = .ok (.ireturn, 1) := by decide +kernel
theorem dX11_byTurns_59 : decode cX11_byTurns 59 = .ok (.aload_n 0, 1) := by decide +kernel
theorem dX11_byTurns_60 : decode cX11_byTurns 60 = .ok (.getfield 167, 3) := by decide +kernel
theorem dX11_byTurns_63 : decode cX11_byTurns 63 = .ok (.iload_n 3, 1) := by decide +kernel
theorem dX11_byTurns_64 : decode cX11_byTurns 64 = .ok (.irem, 1) := by decide +kernel
theorem dX11_byTurns_65 : decode cX11_byTurns 65 = .ok (.istore 4, 2) := by decide +kernel
theorem dX11_byTurns_67 : decode cX11_byTurns 67 = .ok (.aload_n 0, 1) := by decide +kernel
theorem dX11_byTurns_68 : decode cX11_byTurns 68 = .ok (.getfield 9, 3) := by decide +kernel
theorem dX11_byTurns_71 : decode cX11_byTurns 71 = .ok (.sipush 182, 3) := by decide +kernel
theorem dX11_byTurns_74 : decode cX11_byTurns 74 = .ok (.bipush 6, 2) := by decide +kernel
theorem dX11_byTurns_76 : decode cX11_byTurns 76 = .ok (.iload_n 1, 1) := by decide +kernel
theorem dX11_byTurns_77 : decode cX11_byTurns 77 = .ok (.imul, 1) := by decide +kernel
theorem dX11_byTurns_78 : decode cX11_byTurns 78 = .ok (.iadd, 1) := by decide +kernel
theorem dX11_byTurns_79 : decode cX11_byTurns 79 = .ok (.iload_n 2, 1) := by decide +kernel
theorem dX11_byTurns_80 : decode cX11_byTurns 80 = .ok (.ifCond .eq 19, 3) := by decide +kernel
theorem dX11_byTurns_83 : decode cX11_byTurns 83 = .ok (.iload 4, 2) := by decide +kernel
theorem dX11_byTurns_85 : decode cX11_byTurns 85 = .ok (.aload_n 0, 1) := by decide +kernel
theorem dX11_byTurns_86 : decode cX11_byTurns 86 = .ok (.getfield 184, 3) := by decide +kernel
theorem dX11_byTurns_89 : decode cX11_byTurns 89 = .ok (.if_icmp .lt 10, 3) := by decide +kernel
theorem dX11_byTurns_92 : decode cX11_byTurns 92 = .ok (.iload 4, 2) := by decide +kernel
theorem dX11_byTurns_94 : decode cX11_byTurns 94 = .ok (.iconst 1, 1) := by decide +kernel
theorem dX11_byTurns_95 : decode cX11_byTurns 95 = .ok (.iadd, 1) := by decide +kernel
theorem dX11_byTurns_96 : decode cX11_byTurns 96 = .ok (.goto 5, 3) := by decide +kernel
theorem dX11_byTurns_99 : decode cX11_byTurns 99 = .ok (.iload 4, 2) := by decide +kernel
theorem dX11_byTurns_101 : decode cX11_byTurns 101 = .ok (.iadd, 1) := by decide +kernel
theorem dX11_byTurns_102 : decode cX11_byTurns 102 = .ok (.iaload, 1) := by decide +kernel
theorem dX11_byTurns_103 : decode cX11_byTurns 103 = .ok (.ireturn, 1) := by decide +kernel
set_option maxRecDepth 20000 in
theorem ggX11_rising_X11_byLines : GoodIn wsX11_rising wsX11_byLines := goodIn_r _ [6, 7, 8, 9, 10, 11, 12, 5, 13, 14, 15, 1, 16, 17, 18, 19, 20, 21, 22, 23, 24, 25, 26, 27, 28, 29, 30, 31, 32, 33, 34, 35, 36, 37, 38, 39, 40, 41, 42, 43, 44, 45, 46, 47, 48, 49, 50, 51, 52, 53, 54, 55, 56, 57, 58, 59, 60, 61, 62, 63, 64] (by decide +kernel) (by decide +kernel)
set_option maxRecDepth 20000 in
theorem gX11_rising_X11_byLines : GoodIn wsX11_rising (wsV RX11 191 RX11 yX11_byLines wsX11_byLines) := goodIn_app (goodIn_of _ (by decide +kernel)) ggX11_rising_X11_byLines
theorem dX11_rising_0 : decode cX11_rising 0 = .ok (.aload_n 0, 1) := by decide +kernel
theorem dX11_rising_1 : decode cX11_rising 1 = .ok (.iload_n 1, 1) := by decide +kernel
theorem dX11_rising_2 : decode cX11_rising 2 = .ok (.iload_n 2, 1) := by decide +kernel
theorem dX11_rising_3 : decode cX11_rising 3 = .ok (.invokevirtual 191, 3) := by decide +kernel
theorem dX11_rising_6 : decode cX11_rising 6 = .ok (.istore_n 3, 1) := by decide +kernel
theorem dX11_rising_7 : decode cX11_rising 7 = .ok (.aload_n 0, 1) := by decide +kernel
theorem dX11_rising_8 : decode cX11_rising 8 = .ok (.getfield 33, 3) := by decide +kernel
theorem dX11_rising_11 : decode cX11_rising 11 = .ok (.iload_n 2, 1) := by decide +kernel
theorem dX11_rising_12 : decode cX11_rising 12 = .ok (.iaload, 1) := by decide +kernel
theorem dX11_rising_13 : decode cX11_rising 13 = .ok (.iconst 2, 1) := by decide +kernel
theorem dX11_rising_14 : decode cX11_rising 14 = .ok (.if_icmp .ne 14, 3) := by decide +kernel
theorem dX11_rising_17 : decode cX11_rising 17 = .ok (.iload_n 3, 1) := by decide +kernel
theorem dX11_rising_18 : decode cX11_rising 18 = .ok (.iconst 3, 1) := by decide +kernel
theorem dX11_rising_19 : decode cX11_rising 19 = .ok (.if_icmp .ge 9, 3) := by decide +kernel
theorem dX11_rising_22 : decode cX11_rising 22 = .ok (.iload_n 3, 1) := by decide +kernel
theorem dX11_rising_23 : decode cX11_rising 23 = .ok (.iconst 1, 1) := by decide +kernel
theorem dX11_rising_24 : decode cX11_rising 24 = .ok (.iadd, 1) := by decide +kernel
theorem dX11_rising_25 : decode cX11_rising 25 = .ok (.goto 4, 3) := by decide +kernel
theorem dX11_rising_28 : decode cX11_rising 28 = .ok (.iload_n 3, 1) := by decide +kernel
theorem dX11_rising_29 : decode cX11_rising 29 = .ok (.ireturn, 1) := by decide +kernel
set_option maxRecDepth 20000 in
theorem ggX11_boardsBy_X11_byLines : GoodIn wsX11_boardsBy wsX11_byLines := goodIn_r _ [8, 2, 9, 10, 11, 12, 13, 7, 14, 15, 3, 16, 17, 18, 19, 20, 21, 22, 23, 24, 25, 26, 27, 36, 37, 38, 39, 40, 41, 42, 43, 44, 45, 46, 47, 48, 49, 50, 51, 52, 53, 54, 55, 56, 57, 58, 59, 60, 61, 62, 63, 64, 65, 66, 67, 68, 69, 70, 71, 72, 73] (by decide +kernel) (by decide +kernel)
set_option maxRecDepth 20000 in
theorem gX11_boardsBy_X11_byLines : GoodIn wsX11_boardsBy (wsV RX11 191 RX11 yX11_byLines wsX11_byLines) := goodIn_app (goodIn_of _ (by decide +kernel)) ggX11_boardsBy_X11_byLines
set_option maxRecDepth 20000 in
theorem ggX11_boardsBy_X11_rising : GoodIn wsX11_boardsBy wsX11_rising := goodIn_r _ [31, 16, 4, 5, 6, 7, 8, 2, 9, 10, 11, 12, 13, 14, 15, 3, 17, 18, 19, 20, 21, 22, 23, 24, 25, 26, 27, 36, 37, 38, 39, 40, 41, 42, 43, 44, 45, 46, 47, 48, 49, 50, 51, 52, 53, 54, 55, 56, 57, 58, 59, 60, 61, 62, 63, 64, 65, 66, 67, 68, 69, 70, 71, 72, 73] (by decide +kernel) (by decide +kernel)
set_option maxRecDepth 20000 in
theorem gX11_boardsBy_X11_rising : GoodIn wsX11_boardsBy (wsV RX11 194 RX11 yX11_rising wsX11_rising) := goodIn_app (goodIn_of _ (by decide +kernel)) ggX11_boardsBy_X11_rising
set_option maxRecDepth 20000 in
theorem ggX11_boardsBy_X11_rings : GoodIn wsX11_boardsBy wsX11_rings := goodIn_r _ [21, 22, 15, 23, 24, 25, 7, 26, 2, 27, 36, 37, 38, 39, 40, 41, 42, 43, 44, 45, 46, 47, 48, 49, 50, 51, 52, 53, 54, 55, 56, 57, 58, 59, 60, 61, 62, 63, 64, 65, 66, 67, 68, 69, 70, 71, 72, 73] (by decide +kernel) (by decide +kernel)
set_option maxRecDepth 20000 in
theorem gX11_boardsBy_X11_rings : GoodIn wsX11_boardsBy (wsV RX11 180 RX11 yX11_rings wsX11_rings) := goodIn_app (goodIn_of _ (by decide +kernel)) ggX11_boardsBy_X11_rings
set_option maxRecDepth 20000 in
theorem ggX11_boardsBy_X11_byTurns : GoodIn wsX11_boardsBy wsX11_byTurns := goodIn_r _ [35, 9, 2, 3, 10, 36, 37, 38, 39, 40, 41, 42, 43, 44, 45, 46, 47, 48, 49, 50, 51, 52, 53, 54, 55, 56, 57, 58, 59, 60, 61, 62, 63, 64, 65, 66, 67, 68, 69, 70, 71, 72, 73] (by decide +kernel) (by decide +kernel)
set_option maxRecDepth 20000 in
theorem gX11_boardsBy_X11_byTurns : GoodIn wsX11_boardsBy (wsV RX11 197 RX11 yX11_byTurns wsX11_byTurns) := goodIn_app (goodIn_of _ (by decide +kernel)) ggX11_boardsBy_X11_byTurns
theorem dX11_boardsBy_0 : decode cX11_boardsBy 0 = .ok (.aload_n 0, 1) := by decide +kernel
theorem dX11_boardsBy_1 : decode cX11_boardsBy 1 = .ok (.getfield 30, 3) := by decide +kernel
theorem dX11_boardsBy_4 : decode cX11_boardsBy 4 = .ok (.iload_n 2, 1) := by decide +kernel
theorem dX11_boardsBy_5 : decode cX11_boardsBy 5 = .ok (.iaload, 1) := by decide +kernel
theorem dX11_boardsBy_6 : decode cX11_boardsBy 6 = .ok (.istore_n 3, 1) := by decide +kernel
theorem dX11_boardsBy_7 : decode cX11_boardsBy 7 = .ok (.aload_n 0, 1) := by decide +kernel
theorem dX11_boardsBy_8 : decode cX11_boardsBy 8 = .ok (.getfield 9, 3) := by decide +kernel
theorem dX11_boardsBy_11 : decode cX11_boardsBy 11 = .ok (.sipush 158, 3) := by decide +kernel
theorem dX11_boardsBy_14 : decode cX11_boardsBy 14 = .ok (.iload_n 1, 1) := by decide +kernel
theorem dX11_boardsBy_15 : decode cX11_boardsBy 15 = .ok (.iadd, 1) := by decide +kernel
theorem dX11_boardsBy_16 : decode cX11_boardsBy 16 = .ok (.iaload, 1) := by decide +kernel
theorem dX11_boardsBy_17 : decode cX11_boardsBy 17 = .ok (.tableswitch 135 1 6 #[39, 46, 53, 92, 110, 116], 39) := by decide +kernel
theorem dX11_boardsBy_56 : decode cX11_boardsBy 56 = .ok (.aload_n 0, 1) := by decide +kernel
theorem dX11_boardsBy_57 : decode cX11_boardsBy 57 = .ok (.iload_n 1, 1) := by decide +kernel
theorem dX11_boardsBy_58 : decode cX11_boardsBy 58 = .ok (.iload_n 2, 1) := by decide +kernel
theorem dX11_boardsBy_59 : decode cX11_boardsBy 59 = .ok (.invokevirtual 191, 3) := by decide +kernel
theorem dX11_boardsBy_62 : decode cX11_boardsBy 62 = .ok (.ireturn, 1) := by decide +kernel
theorem dX11_boardsBy_63 : decode cX11_boardsBy 63 = .ok (.aload_n 0, 1) := by decide +kernel
theorem dX11_boardsBy_64 : decode cX11_boardsBy 64 = .ok (.iload_n 1, 1) := by decide +kernel
theorem dX11_boardsBy_65 : decode cX11_boardsBy 65 = .ok (.iload_n 2, 1) := by decide +kernel
theorem dX11_boardsBy_66 : decode cX11_boardsBy 66 = .ok (.invokevirtual 194, 3) := by decide +kernel
theorem dX11_boardsBy_69 : decode cX11_boardsBy 69 = .ok (.ireturn, 1) := by decide +kernel
theorem dX11_boardsBy_70 : decode cX11_boardsBy 70 = .ok (.aload_n 0, 1) := by decide +kernel
theorem dX11_boardsBy_71 : decode cX11_boardsBy 71 = .ok (.iload_n 1, 1) := by decide +kernel
theorem dX11_boardsBy_72 : decode cX11_boardsBy 72 = .ok (.iload_n 2, 1) := by decide +kernel
theorem dX11_boardsBy_73 : decode cX11_boardsBy 73 = .ok (.invokevirtual 194, 3) := by decide +kernel
theorem dX11_boardsBy_76 : decode cX11_boardsBy 76 = .ok (.istore 4, 2) := by decide +kernel
theorem dX11_boardsBy_78 : decode cX11_boardsBy 78 = .ok (.iload 4, 2) := by decide +kernel
theorem dX11_boardsBy_80 : decode cX11_boardsBy 80 = .ok (.iload_n 3, 1) := by decide +kernel
theorem dX11_boardsBy_81 : decode cX11_boardsBy 81 = .ok (.iconst 1, 1) := by decide +kernel
theorem dX11_boardsBy_82 : decode cX11_boardsBy 82 = .ok (.iadd, 1) := by decide +kernel
theorem dX11_boardsBy_83 : decode cX11_boardsBy 83 = .ok (.if_icmp .le 9, 3) := by decide +kernel
theorem dX11_boardsBy_86 : decode cX11_boardsBy 86 = .ok (.iload_n 3, 1) := by decide +kernel
theorem dX11_boardsBy_87 : decode cX11_boardsBy 87 = .ok (.iconst 1, 1) := by decide +kernel
theorem dX11_boardsBy_88 : decode cX11_boardsBy 88 = .ok (.iadd, 1) := by decide +kernel
theorem dX11_boardsBy_89 : decode cX11_boardsBy 89 = .ok (.goto 19, 3) := by decide +kernel
theorem dX11_boardsBy_92 : decode cX11_boardsBy 92 = .ok (.iload 4, 2) := by decide +kernel
theorem dX11_boardsBy_94 : decode cX11_boardsBy 94 = .ok (.iload_n 3, 1) := by decide +kernel
theorem dX11_boardsBy_95 : decode cX11_boardsBy 95 = .ok (.iconst 1, 1) := by decide +kernel
theorem dX11_boardsBy_96 : decode cX11_boardsBy 96 = .ok (.isub, 1) := by decide +kernel
theorem dX11_boardsBy_97 : decode cX11_boardsBy 97 = .ok (.if_icmp .ge 9, 3) := by decide +kernel
theorem dX11_boardsBy_100 : decode cX11_boardsBy 100 = .ok (.iload_n 3, 1) := by decide +kernel
theorem dX11_boardsBy_101 : decode cX11_boardsBy 101 = .ok (.iconst 1, 1) := by decide +kernel
theorem dX11_boardsBy_102 : decode cX11_boardsBy 102 = .ok (.isub, 1) := by decide +kernel
theorem dX11_boardsBy_103 : decode cX11_boardsBy 103 = .ok (.goto 5, 3) := by decide +kernel
theorem dX11_boardsBy_106 : decode cX11_boardsBy 106 = .ok (.iload 4, 2) := by decide +kernel
theorem dX11_boardsBy_108 : decode cX11_boardsBy 108 = .ok (.ireturn, 1) := by decide +kernel
theorem dX11_boardsBy_109 : decode cX11_boardsBy 109 = .ok (.aload_n 0, 1) := by decide +kernel
theorem dX11_boardsBy_110 : decode cX11_boardsBy 110 = .ok (.invokevirtual 180, 3) := by decide +kernel
theorem dX11_boardsBy_113 : decode cX11_boardsBy 113 = .ok (.ifCond .eq 7, 3) := by decide +kernel
theorem dX11_boardsBy_116 : decode cX11_boardsBy 116 = .ok (.iconst 3, 1) := by decide +kernel
theorem dX11_boardsBy_117 : decode cX11_boardsBy 117 = .ok (.goto 9, 3) := by decide +kernel
theorem dX11_boardsBy_120 : decode cX11_boardsBy 120 = .ok (.aload_n 0, 1) := by decide +kernel
theorem dX11_boardsBy_121 : decode cX11_boardsBy 121 = .ok (.iload_n 1, 1) := by decide +kernel
theorem dX11_boardsBy_122 : decode cX11_boardsBy 122 = .ok (.iload_n 2, 1) := by decide +kernel
theorem dX11_boardsBy_123 : decode cX11_boardsBy 123 = .ok (.invokevirtual 191, 3) := by decide +kernel
theorem dX11_boardsBy_126 : decode cX11_boardsBy 126 = .ok (.ireturn, 1) := by decide +kernel
theorem dX11_boardsBy_127 : decode cX11_boardsBy 127 = .ok (.aload_n 0, 1) := by decide +kernel
theorem dX11_boardsBy_128 : decode cX11_boardsBy 128 = .ok (.iload_n 1, 1) := by decide +kernel
theorem dX11_boardsBy_129 : decode cX11_boardsBy 129 = .ok (.invokevirtual 197, 3) := by decide +kernel
theorem dX11_boardsBy_132 : decode cX11_boardsBy 132 = .ok (.ireturn, 1) := by decide +kernel
theorem dX11_boardsBy_133 : decode cX11_boardsBy 133 = .ok (.aload_n 0, 1) := by decide +kernel
theorem dX11_boardsBy_134 : decode cX11_boardsBy 134 = .ok (.getfield 167, 3) := by decide +kernel
theorem dX11_boardsBy_137 : decode cX11_boardsBy 137 = .ok (.iconst 2, 1) := by decide +kernel
theorem dX11_boardsBy_138 : decode cX11_boardsBy 138 = .ok (.irem, 1) := by decide +kernel
theorem dX11_boardsBy_139 : decode cX11_boardsBy 139 = .ok (.ifCond .ne 11, 3) := by decide +kernel
theorem dX11_boardsBy_142 : decode cX11_boardsBy 142 = .ok (.aload_n 0, 1) := by decide +kernel
theorem dX11_boardsBy_143 : decode cX11_boardsBy 143 = .ok (.iload_n 1, 1) := by decide +kernel
theorem dX11_boardsBy_144 : decode cX11_boardsBy 144 = .ok (.invokevirtual 197, 3) := by decide +kernel
theorem dX11_boardsBy_147 : decode cX11_boardsBy 147 = .ok (.goto 4, 3) := by decide +kernel
theorem dX11_boardsBy_150 : decode cX11_boardsBy 150 = .ok (.iload_n 3, 1) := by decide +kernel
theorem dX11_boardsBy_151 : decode cX11_boardsBy 151 = .ok (.ireturn, 1) := by decide +kernel
theorem dX11_boardsBy_152 : decode cX11_boardsBy 152 = .ok (.aload_n 0, 1) := by decide +kernel
theorem dX11_boardsBy_153 : decode cX11_boardsBy 153 = .ok (.getfield 9, 3) := by decide +kernel
theorem dX11_boardsBy_156 : decode cX11_boardsBy 156 = .ok (.sipush 166, 3) := by decide +kernel
theorem dX11_boardsBy_159 : decode cX11_boardsBy 159 = .ok (.iload_n 1, 1) := by decide +kernel
theorem dX11_boardsBy_160 : decode cX11_boardsBy 160 = .ok (.iadd, 1) := by decide +kernel
theorem dX11_boardsBy_161 : decode cX11_boardsBy 161 = .ok (.iaload, 1) := by decide +kernel
theorem dX11_boardsBy_162 : decode cX11_boardsBy 162 = .ok (.ireturn, 1) := by decide +kernel
set_option maxRecDepth 20000 in
theorem ggX11_boardsOf_X11_boardsBy : GoodIn wsX11_boardsOf wsX11_boardsBy := goodIn_r _ [8, 3, 1, 9, 10, 11, 12, 7, 13, 14, 15, 16, 17, 18, 19, 20, 21, 22, 23, 24, 25, 26, 27, 28, 29, 30, 31, 32, 33, 34, 35, 36, 37, 38, 39, 40, 41, 42, 43, 44, 45, 46, 47, 48, 49, 50, 51, 52, 53, 54, 55, 56, 57, 58, 59, 60, 61, 62, 63, 64, 65, 66, 67, 68, 69, 70, 71, 72, 73, 74, 75, 76, 77, 78] (by decide +kernel) (by decide +kernel)
set_option maxRecDepth 20000 in
theorem gX11_boardsOf_X11_boardsBy : GoodIn wsX11_boardsOf (wsV RX11 203 RX11 yX11_boardsBy wsX11_boardsBy) := goodIn_app (goodIn_of _ (by decide +kernel)) ggX11_boardsOf_X11_boardsBy
theorem dX11_boardsOf_0 : decode cX11_boardsOf 0 = .ok (.aload_n 0, 1) := by decide +kernel
theorem dX11_boardsOf_1 : decode cX11_boardsOf 1 = .ok (.getfield 9, 3) := by decide +kernel
theorem dX11_boardsOf_4 : decode cX11_boardsOf 4 = .ok (.sipush 145, 3) := by decide +kernel
theorem dX11_boardsOf_7 : decode cX11_boardsOf 7 = .ok (.iload_n 1, 1) := by decide +kernel
theorem dX11_boardsOf_8 : decode cX11_boardsOf 8 = .ok (.iadd, 1) := by decide +kernel
theorem dX11_boardsOf_9 : decode cX11_boardsOf 9 = .ok (.iaload, 1) := by decide +kernel
theorem dX11_boardsOf_10 : decode cX11_boardsOf 10 = .ok (.istore_n 2, 1) := by decide +kernel
theorem dX11_boardsOf_11 : decode cX11_boardsOf 11 = .ok (.iload_n 2, 1) := by decide +kernel
theorem dX11_boardsOf_12 : decode cX11_boardsOf 12 = .ok (.iconst (-1), 1) := by decide +kernel
theorem dX11_boardsOf_13 : decode cX11_boardsOf 13 = .ok (.if_icmp .eq 15, 3) := by decide +kernel
theorem dX11_boardsOf_16 : decode cX11_boardsOf 16 = .ok (.aload_n 0, 1) := by decide +kernel
theorem dX11_boardsOf_17 : decode cX11_boardsOf 17 = .ok (.getfield 200, 3) := by decide +kernel
theorem dX11_boardsOf_20 : decode cX11_boardsOf 20 = .ok (.iload_n 1, 1) := by decide +kernel
theorem dX11_boardsOf_21 : decode cX11_boardsOf 21 = .ok (.ishr, 1) := by decide +kernel
theorem dX11_boardsOf_22 : decode cX11_boardsOf 22 = .ok (.iconst 1, 1) := by decide +kernel
theorem dX11_boardsOf_23 : decode cX11_boardsOf 23 = .ok (.iand, 1) := by decide +kernel
theorem dX11_boardsOf_24 : decode cX11_boardsOf 24 = .ok (.iconst 1, 1) := by decide +kernel
theorem dX11_boardsOf_25 : decode cX11_boardsOf 25 = .ok (.if_icmp .ne 12, 3) := by decide +kernel
theorem dX11_boardsOf_28 : decode cX11_boardsOf 28 = .ok (.aload_n 0, 1) := by decide +kernel
theorem dX11_boardsOf_29 : decode cX11_boardsOf 29 = .ok (.getfield 30, 3) := by decide +kernel
theorem dX11_boardsOf_32 : decode cX11_boardsOf 32 = .ok (.iload_n 1, 1) := by decide +kernel
theorem dX11_boardsOf_33 : decode cX11_boardsOf 33 = .ok (.iaload, 1) := by decide +kernel
theorem dX11_boardsOf_34 : decode cX11_boardsOf 34 = .ok (.goto 9, 3) := by decide +kernel
theorem dX11_boardsOf_37 : decode cX11_boardsOf 37 = .ok (.aload_n 0, 1) := by decide +kernel
theorem dX11_boardsOf_38 : decode cX11_boardsOf 38 = .ok (.iload_n 2, 1) := by decide +kernel
theorem dX11_boardsOf_39 : decode cX11_boardsOf 39 = .ok (.iload_n 1, 1) := by decide +kernel
theorem dX11_boardsOf_40 : decode cX11_boardsOf 40 = .ok (.invokevirtual 203, 3) := by decide +kernel
theorem dX11_boardsOf_43 : decode cX11_boardsOf 43 = .ok (.ireturn, 1) := by decide +kernel
set_option maxRecDepth 20000 in
theorem ggX11_hourGoes_X11_boardsOf : GoodIn wsX11_hourGoes wsX11_boardsOf := goodIn_r _ [13, 3, 14, 5, 15, 16, 17, 12, 18, 8, 19, 20, 21, 22, 23, 24, 25, 26, 27, 28, 6, 7, 29, 30, 31, 32, 33, 34, 35, 36, 37, 38, 39, 40, 41, 42, 43, 44, 45, 46, 47, 48, 49, 50, 51, 52, 53, 54, 55, 56, 57, 58, 59, 60, 61, 62, 63, 64, 65, 66, 67, 68, 69, 70, 71, 72, 73, 74, 75, 76, 77, 78, 79, 80, 81, 82, 83, 84, 85] (by decide +kernel) (by decide +kernel)
set_option maxRecDepth 20000 in
theorem gX11_hourGoes_X11_boardsOf : GoodIn wsX11_hourGoes (wsV RX11 212 RX11 yX11_boardsOf wsX11_boardsOf) := goodIn_app (goodIn_of _ (by decide +kernel)) ggX11_hourGoes_X11_boardsOf
set_option maxRecDepth 20000 in
theorem ggX11_hourGoes_X11_bank : GoodIn wsX11_hourGoes wsX11_bank := goodIn_r _ [38, 3, 39, 48, 49, 50, 51, 52, 53, 54, 55, 56, 57, 58, 59, 60, 61, 62, 63, 64, 65, 66, 67, 68, 69, 70, 71, 72, 73, 74, 75, 76, 77, 78, 79, 80, 81, 82, 83, 84, 85] (by decide +kernel) (by decide +kernel)
set_option maxRecDepth 20000 in
theorem gX11_hourGoes_X11_bank : GoodIn wsX11_hourGoes (wsV RX11 176 RX11 yX11_bank wsX11_bank) := goodIn_app (goodIn_of _ (by decide +kernel)) ggX11_hourGoes_X11_bank
theorem dX11_hourGoes_0 : decode cX11_hourGoes 0 = .ok (.aload_n 0, 1) := by decide +kernel
theorem dX11_hourGoes_1 : decode cX11_hourGoes 1 = .ok (.iconst 0, 1) := by decide +kernel
theorem dX11_hourGoes_2 : decode cX11_hourGoes 2 = .ok (.putfield 206, 3) := by decide +kernel
theorem dX11_hourGoes_5 : decode cX11_hourGoes 5 = .ok (.aload_n 0, 1) := by decide +kernel
theorem dX11_hourGoes_6 : decode cX11_hourGoes 6 = .ok (.iconst 0, 1) := by decide +kernel
theorem dX11_hourGoes_7 : decode cX11_hourGoes 7 = .ok (.putfield 209, 3) := by decide +kernel
theorem dX11_hourGoes_10 : decode cX11_hourGoes 10 = .ok (.iconst 0, 1) := by decide +kernel
theorem dX11_hourGoes_11 : decode cX11_hourGoes 11 = .ok (.istore_n 2, 1) := by decide +kernel
theorem dX11_hourGoes_12 : decode cX11_hourGoes 12 = .ok (.iload_n 2, 1) := by decide +kernel
theorem dX11_hourGoes_13 : decode cX11_hourGoes 13 = .ok (.aload_n 0, 1) := by decide +kernel
theorem dX11_hourGoes_14 : decode cX11_hourGoes 14 = .ok (.getfield 9, 3) := by decide +kernel
theorem dX11_hourGoes_17 : decode cX11_hourGoes 17 = .ok (.iconst 0, 1) := by decide +kernel
theorem dX11_hourGoes_18 : decode cX11_hourGoes 18 = .ok (.iaload, 1) := by decide +kernel
theorem dX11_hourGoes_19 : decode cX11_hourGoes 19 = .ok (.if_icmp .ge 20, 3) := by decide +kernel
theorem dX11_hourGoes_22 : decode cX11_hourGoes 22 = .ok (.aload_n 0, 1) := by decide +kernel
theorem dX11_hourGoes_23 : decode cX11_hourGoes 23 = .ok (.getfield 36, 3) := by decide +kernel
theorem dX11_hourGoes_26 : decode cX11_hourGoes 26 = .ok (.iload_n 2, 1) := by decide +kernel
theorem dX11_hourGoes_27 : decode cX11_hourGoes 27 = .ok (.aload_n 0, 1) := by decide +kernel
theorem dX11_hourGoes_28 : decode cX11_hourGoes 28 = .ok (.iload_n 2, 1) := by decide +kernel
theorem dX11_hourGoes_29 : decode cX11_hourGoes 29 = .ok (.invokevirtual 212, 3) := by decide +kernel
theorem dX11_hourGoes_32 : decode cX11_hourGoes 32 = .ok (.iastore, 1) := by decide +kernel
theorem dX11_hourGoes_33 : decode cX11_hourGoes 33 = .ok (.iinc 2 1, 3) := by decide +kernel
theorem dX11_hourGoes_36 : decode cX11_hourGoes 36 = .ok (.goto (-24), 3) := by decide +kernel
theorem dX11_hourGoes_39 : decode cX11_hourGoes 39 = .ok (.iconst 0, 1) := by decide +kernel
theorem dX11_hourGoes_40 : decode cX11_hourGoes 40 = .ok (.istore_n 2, 1) := by decide +kernel
theorem dX11_hourGoes_41 : decode cX11_hourGoes 41 = .ok (.iconst 0, 1) := by decide +kernel
theorem dX11_hourGoes_42 : decode cX11_hourGoes 42 = .ok (.istore_n 3, 1) := by decide +kernel
theorem dX11_hourGoes_43 : decode cX11_hourGoes 43 = .ok (.iload_n 3, 1) := by decide +kernel
theorem dX11_hourGoes_44 : decode cX11_hourGoes 44 = .ok (.aload_n 0, 1) := by decide +kernel
theorem dX11_hourGoes_45 : decode cX11_hourGoes 45 = .ok (.getfield 9, 3) := by decide +kernel
theorem dX11_hourGoes_48 : decode cX11_hourGoes 48 = .ok (.iconst 0, 1) := by decide +kernel
theorem dX11_hourGoes_49 : decode cX11_hourGoes 49 = .ok (.iaload, 1) := by decide +kernel
theorem dX11_hourGoes_50 : decode cX11_hourGoes 50 = .ok (.if_icmp .ge 79, 3) := by decide +kernel
theorem dX11_hourGoes_53 : decode cX11_hourGoes 53 = .ok (.aload_n 0, 1) := by decide +kernel
theorem dX11_hourGoes_54 : decode cX11_hourGoes 54 = .ok (.getfield 30, 3) := by decide +kernel
theorem dX11_hourGoes_57 : decode cX11_hourGoes 57 = .ok (.iload_n 3, 1) := by decide +kernel
theorem dX11_hourGoes_58 : decode cX11_hourGoes 58 = .ok (.aload_n 0, 1) := by decide +kernel
theorem dX11_hourGoes_59 : decode cX11_hourGoes 59 = .ok (.getfield 36, 3) := by decide +kernel
theorem dX11_hourGoes_62 : decode cX11_hourGoes 62 = .ok (.iload_n 3, 1) := by decide +kernel
theorem dX11_hourGoes_63 : decode cX11_hourGoes 63 = .ok (.iaload, 1) := by decide +kernel
theorem dX11_hourGoes_64 : decode cX11_hourGoes 64 = .ok (.iastore, 1) := by decide +kernel
theorem dX11_hourGoes_65 : decode cX11_hourGoes 65 = .ok (.aload_n 0, 1) := by decide +kernel
theorem dX11_hourGoes_66 : decode cX11_hourGoes 66 = .ok (.getfield 27, 3) := by decide +kernel
theorem dX11_hourGoes_69 : decode cX11_hourGoes 69 = .ok (.iload_n 3, 1) := by decide +kernel
theorem dX11_hourGoes_70 : decode cX11_hourGoes 70 = .ok (.iaload, 1) := by decide +kernel
theorem dX11_hourGoes_71 : decode cX11_hourGoes 71 = .ok (.aload_n 0, 1) := by decide +kernel
theorem dX11_hourGoes_72 : decode cX11_hourGoes 72 = .ok (.getfield 30, 3) := by decide +kernel
theorem dX11_hourGoes_75 : decode cX11_hourGoes 75 = .ok (.iload_n 3, 1) := by decide +kernel
theorem dX11_hourGoes_76 : decode cX11_hourGoes 76 = .ok (.iaload, 1) := by decide +kernel
theorem dX11_hourGoes_77 : decode cX11_hourGoes 77 = .ok (.if_icmp .ge 12, 3) := by decide +kernel
theorem dX11_hourGoes_80 : decode cX11_hourGoes 80 = .ok (.aload_n 0, 1) := by decide +kernel
theorem dX11_hourGoes_81 : decode cX11_hourGoes 81 = .ok (.getfield 27, 3) := by decide +kernel
theorem dX11_hourGoes_84 : decode cX11_hourGoes 84 = .ok (.iload_n 3, 1) := by decide +kernel
theorem dX11_hourGoes_85 : decode cX11_hourGoes 85 = .ok (.iaload, 1) := by decide +kernel
theorem dX11_hourGoes_86 : decode cX11_hourGoes 86 = .ok (.goto 9, 3) := by decide +kernel
theorem dX11_hourGoes_89 : decode cX11_hourGoes 89 = .ok (.aload_n 0, 1) := by decide +kernel
theorem dX11_hourGoes_90 : decode cX11_hourGoes 90 = .ok (.getfield 30, 3) := by decide +kernel
theorem dX11_hourGoes_93 : decode cX11_hourGoes 93 = .ok (.iload_n 3, 1) := by decide +kernel
theorem dX11_hourGoes_94 : decode cX11_hourGoes 94 = .ok (.iaload, 1) := by decide +kernel
theorem dX11_hourGoes_95 : decode cX11_hourGoes 95 = .ok (.istore 4, 2) := by decide +kernel
theorem dX11_hourGoes_97 : decode cX11_hourGoes 97 = .ok (.aload_n 0, 1) := by decide +kernel
theorem dX11_hourGoes_98 : decode cX11_hourGoes 98 = .ok (.getfield 36, 3) := by decide +kernel
theorem dX11_hourGoes_101 : decode cX11_hourGoes 101 = .ok (.iload_n 3, 1) := by decide +kernel
theorem dX11_hourGoes_102 : decode cX11_hourGoes 102 = .ok (.aload_n 0, 1) := by decide +kernel
theorem dX11_hourGoes_103 : decode cX11_hourGoes 103 = .ok (.getfield 27, 3) := by decide +kernel
theorem dX11_hourGoes_106 : decode cX11_hourGoes 106 = .ok (.iload_n 3, 1) := by decide +kernel
theorem dX11_hourGoes_107 : decode cX11_hourGoes 107 = .ok (.iaload, 1) := by decide +kernel
theorem dX11_hourGoes_108 : decode cX11_hourGoes 108 = .ok (.iload 4, 2) := by decide +kernel
theorem dX11_hourGoes_110 : decode cX11_hourGoes 110 = .ok (.isub, 1) := by decide +kernel
theorem dX11_hourGoes_111 : decode cX11_hourGoes 111 = .ok (.iload_n 2, 1) := by decide +kernel
theorem dX11_hourGoes_112 : decode cX11_hourGoes 112 = .ok (.iadd, 1) := by decide +kernel
theorem dX11_hourGoes_113 : decode cX11_hourGoes 113 = .ok (.iload_n 1, 1) := by decide +kernel
theorem dX11_hourGoes_114 : decode cX11_hourGoes 114 = .ok (.iload_n 3, 1) := by decide +kernel
theorem dX11_hourGoes_115 : decode cX11_hourGoes 115 = .ok (.ishr, 1) := by decide +kernel
theorem dX11_hourGoes_116 : decode cX11_hourGoes 116 = .ok (.iconst 1, 1) := by decide +kernel
theorem dX11_hourGoes_117 : decode cX11_hourGoes 117 = .ok (.iand, 1) := by decide +kernel
theorem dX11_hourGoes_118 : decode cX11_hourGoes 118 = .ok (.iadd, 1) := by decide +kernel
theorem dX11_hourGoes_119 : decode cX11_hourGoes 119 = .ok (.iastore, 1) := by decide +kernel
theorem dX11_hourGoes_120 : decode cX11_hourGoes 120 = .ok (.iload 4, 2) := by decide +kernel
theorem dX11_hourGoes_122 : decode cX11_hourGoes 122 = .ok (.istore_n 2, 1) := by decide +kernel
theorem dX11_hourGoes_123 : decode cX11_hourGoes 123 = .ok (.iinc 3 1, 3) := by decide +kernel
theorem dX11_hourGoes_126 : decode cX11_hourGoes 126 = .ok (.goto (-83), 3) := by decide +kernel
theorem dX11_hourGoes_129 : decode cX11_hourGoes 129 = .ok (.iconst 0, 1) := by decide +kernel
theorem dX11_hourGoes_130 : decode cX11_hourGoes 130 = .ok (.istore_n 3, 1) := by decide +kernel
theorem dX11_hourGoes_131 : decode cX11_hourGoes 131 = .ok (.iload_n 3, 1) := by decide +kernel
theorem dX11_hourGoes_132 : decode cX11_hourGoes 132 = .ok (.aload_n 0, 1) := by decide +kernel
theorem dX11_hourGoes_133 : decode cX11_hourGoes 133 = .ok (.getfield 9, 3) := by decide +kernel
theorem dX11_hourGoes_136 : decode cX11_hourGoes 136 = .ok (.iconst 0, 1) := by decide +kernel
theorem dX11_hourGoes_137 : decode cX11_hourGoes 137 = .ok (.iaload, 1) := by decide +kernel
theorem dX11_hourGoes_138 : decode cX11_hourGoes 138 = .ok (.if_icmp .ge 145, 3) := by decide +kernel
theorem dX11_hourGoes_141 : decode cX11_hourGoes 141 = .ok (.aload_n 0, 1) := by decide +kernel
theorem dX11_hourGoes_142 : decode cX11_hourGoes 142 = .ok (.dup, 1) := by decide +kernel
theorem dX11_hourGoes_143 : decode cX11_hourGoes 143 = .ok (.getfield 206, 3) := by decide +kernel
theorem dX11_hourGoes_146 : decode cX11_hourGoes 146 = .ok (.aload_n 0, 1) := by decide +kernel
theorem dX11_hourGoes_147 : decode cX11_hourGoes 147 = .ok (.getfield 36, 3) := by decide +kernel
theorem dX11_hourGoes_150 : decode cX11_hourGoes 150 = .ok (.iload_n 3, 1) := by decide +kernel
theorem dX11_hourGoes_151 : decode cX11_hourGoes 151 = .ok (.iaload, 1) := by decide +kernel
theorem dX11_hourGoes_152 : decode cX11_hourGoes 152 = .ok (.aload_n 0, 1) := by decide +kernel
theorem dX11_hourGoes_153 : decode cX11_hourGoes 153 = .ok (.iload_n 3, 1) := by decide +kernel
theorem dX11_hourGoes_154 : decode cX11_hourGoes 154 = .ok (.invokevirtual 176, 3) := by decide +kernel
theorem dX11_hourGoes_157 : decode cX11_hourGoes 157 = .ok (.if_icmp .le 9, 3) := by decide +kernel
theorem dX11_hourGoes_160 : decode cX11_hourGoes 160 = .ok (.iconst 1, 1) := by decide +kernel
theorem dX11_hourGoes_161 : decode cX11_hourGoes 161 = .ok (.iload_n 3, 1) := by decide +kernel
theorem dX11_hourGoes_162 : decode cX11_hourGoes 162 = .ok (.ishl, 1) := by decide +kernel
theorem dX11_hourGoes_163 : decode cX11_hourGoes 163 = .ok (.goto 4, 3) := by decide +kernel
theorem dX11_hourGoes_166 : decode cX11_hourGoes 166 = .ok (.iconst 0, 1) := by decide +kernel
theorem dX11_hourGoes_167 : decode cX11_hourGoes 167 = .ok (.ior, 1) := by decide +kernel
theorem dX11_hourGoes_168 : decode cX11_hourGoes 168 = .ok (.putfield 206, 3) := by decide +kernel
theorem dX11_hourGoes_171 : decode cX11_hourGoes 171 = .ok (.aload_n 0, 1) := by decide +kernel
theorem dX11_hourGoes_172 : decode cX11_hourGoes 172 = .ok (.getfield 36, 3) := by decide +kernel
theorem dX11_hourGoes_175 : decode cX11_hourGoes 175 = .ok (.iload_n 3, 1) := by decide +kernel
theorem dX11_hourGoes_176 : decode cX11_hourGoes 176 = .ok (.iaload, 1) := by decide +kernel
theorem dX11_hourGoes_177 : decode cX11_hourGoes 177 = .ok (.aload_n 0, 1) := by decide +kernel
theorem dX11_hourGoes_178 : decode cX11_hourGoes 178 = .ok (.iload_n 3, 1) := by decide +kernel
theorem dX11_hourGoes_179 : decode cX11_hourGoes 179 = .ok (.invokevirtual 176, 3) := by decide +kernel
theorem dX11_hourGoes_182 : decode cX11_hourGoes 182 = .ok (.if_icmp .le 11, 3) := by decide +kernel
theorem dX11_hourGoes_185 : decode cX11_hourGoes 185 = .ok (.aload_n 0, 1) := by decide +kernel
theorem dX11_hourGoes_186 : decode cX11_hourGoes 186 = .ok (.iload_n 3, 1) := by decide +kernel
theorem dX11_hourGoes_187 : decode cX11_hourGoes 187 = .ok (.invokevirtual 176, 3) := by decide +kernel
theorem dX11_hourGoes_190 : decode cX11_hourGoes 190 = .ok (.goto 9, 3) := by decide +kernel
theorem dX11_hourGoes_193 : decode cX11_hourGoes 193 = .ok (.aload_n 0, 1) := by decide +kernel
theorem dX11_hourGoes_194 : decode cX11_hourGoes 194 = .ok (.getfield 36, 3) := by decide +kernel
theorem dX11_hourGoes_197 : decode cX11_hourGoes 197 = .ok (.iload_n 3, 1) := by decide +kernel
theorem dX11_hourGoes_198 : decode cX11_hourGoes 198 = .ok (.iaload, 1) := by decide +kernel
theorem dX11_hourGoes_199 : decode cX11_hourGoes 199 = .ok (.istore 4, 2) := by decide +kernel
theorem dX11_hourGoes_201 : decode cX11_hourGoes 201 = .ok (.aload_n 0, 1) := by decide +kernel
theorem dX11_hourGoes_202 : decode cX11_hourGoes 202 = .ok (.dup, 1) := by decide +kernel
theorem dX11_hourGoes_203 : decode cX11_hourGoes 203 = .ok (.getfield 209, 3) := by decide +kernel
theorem dX11_hourGoes_206 : decode cX11_hourGoes 206 = .ok (.iload 4, 2) := by decide +kernel
theorem dX11_hourGoes_208 : decode cX11_hourGoes 208 = .ok (.aload_n 0, 1) := by decide +kernel
theorem dX11_hourGoes_209 : decode cX11_hourGoes 209 = .ok (.getfield 9, 3) := by decide +kernel
theorem dX11_hourGoes_212 : decode cX11_hourGoes 212 = .ok (.sipush 136, 3) := by decide +kernel
theorem dX11_hourGoes_215 : decode cX11_hourGoes 215 = .ok (.iload_n 3, 1) := by decide +kernel
theorem dX11_hourGoes_216 : decode cX11_hourGoes 216 = .ok (.iadd, 1) := by decide +kernel
theorem dX11_hourGoes_217 : decode cX11_hourGoes 217 = .ok (.iaload, 1) := by decide +kernel
theorem dX11_hourGoes_218 : decode cX11_hourGoes 218 = .ok (.if_icmp .ge 9, 3) := by decide +kernel
theorem dX11_hourGoes_221 : decode cX11_hourGoes 221 = .ok (.iconst 1, 1) := by decide +kernel
theorem dX11_hourGoes_222 : decode cX11_hourGoes 222 = .ok (.iload_n 3, 1) := by decide +kernel
theorem dX11_hourGoes_223 : decode cX11_hourGoes 223 = .ok (.ishl, 1) := by decide +kernel
theorem dX11_hourGoes_224 : decode cX11_hourGoes 224 = .ok (.goto 4, 3) := by decide +kernel
theorem dX11_hourGoes_227 : decode cX11_hourGoes 227 = .ok (.iconst 0, 1) := by decide +kernel
theorem dX11_hourGoes_228 : decode cX11_hourGoes 228 = .ok (.ior, 1) := by decide +kernel
theorem dX11_hourGoes_229 : decode cX11_hourGoes 229 = .ok (.putfield 209, 3) := by decide +kernel
theorem dX11_hourGoes_232 : decode cX11_hourGoes 232 = .ok (.aload_n 0, 1) := by decide +kernel
theorem dX11_hourGoes_233 : decode cX11_hourGoes 233 = .ok (.getfield 33, 3) := by decide +kernel
theorem dX11_hourGoes_236 : decode cX11_hourGoes 236 = .ok (.iload_n 3, 1) := by decide +kernel
theorem dX11_hourGoes_237 : decode cX11_hourGoes 237 = .ok (.iload 4, 2) := by decide +kernel
theorem dX11_hourGoes_239 : decode cX11_hourGoes 239 = .ok (.aload_n 0, 1) := by decide +kernel
theorem dX11_hourGoes_240 : decode cX11_hourGoes 240 = .ok (.getfield 27, 3) := by decide +kernel
theorem dX11_hourGoes_243 : decode cX11_hourGoes 243 = .ok (.iload_n 3, 1) := by decide +kernel
theorem dX11_hourGoes_244 : decode cX11_hourGoes 244 = .ok (.iaload, 1) := by decide +kernel
theorem dX11_hourGoes_245 : decode cX11_hourGoes 245 = .ok (.if_icmp .ge 7, 3) := by decide +kernel
theorem dX11_hourGoes_248 : decode cX11_hourGoes 248 = .ok (.iconst 0, 1) := by decide +kernel
theorem dX11_hourGoes_249 : decode cX11_hourGoes 249 = .ok (.goto 19, 3) := by decide +kernel
theorem dX11_hourGoes_252 : decode cX11_hourGoes 252 = .ok (.iload 4, 2) := by decide +kernel
theorem dX11_hourGoes_254 : decode cX11_hourGoes 254 = .ok (.aload_n 0, 1) := by decide +kernel
theorem dX11_hourGoes_255 : decode cX11_hourGoes 255 = .ok (.getfield 27, 3) := by decide +kernel
theorem dX11_hourGoes_258 : decode cX11_hourGoes 258 = .ok (.iload_n 3, 1) := by decide +kernel
theorem dX11_hourGoes_259 : decode cX11_hourGoes 259 = .ok (.iaload, 1) := by decide +kernel
theorem dX11_hourGoes_260 : decode cX11_hourGoes 260 = .ok (.if_icmp .ne 7, 3) := by decide +kernel
theorem dX11_hourGoes_263 : decode cX11_hourGoes 263 = .ok (.iconst 1, 1) := by decide +kernel
theorem dX11_hourGoes_264 : decode cX11_hourGoes 264 = .ok (.goto 4, 3) := by decide +kernel
theorem dX11_hourGoes_267 : decode cX11_hourGoes 267 = .ok (.iconst 2, 1) := by decide +kernel
theorem dX11_hourGoes_268 : decode cX11_hourGoes 268 = .ok (.iastore, 1) := by decide +kernel
theorem dX11_hourGoes_269 : decode cX11_hourGoes 269 = .ok (.aload_n 0, 1) := by decide +kernel
theorem dX11_hourGoes_270 : decode cX11_hourGoes 270 = .ok (.getfield 27, 3) := by decide +kernel
theorem dX11_hourGoes_273 : decode cX11_hourGoes 273 = .ok (.iload_n 3, 1) := by decide +kernel
theorem dX11_hourGoes_274 : decode cX11_hourGoes 274 = .ok (.iload 4, 2) := by decide +kernel
theorem dX11_hourGoes_276 : decode cX11_hourGoes 276 = .ok (.iastore, 1) := by decide +kernel
theorem dX11_hourGoes_277 : decode cX11_hourGoes 277 = .ok (.iinc 3 1, 3) := by decide +kernel
theorem dX11_hourGoes_280 : decode cX11_hourGoes 280 = .ok (.goto (-149), 3) := by decide +kernel
theorem dX11_hourGoes_283 : decode cX11_hourGoes 283 = .ok (.aload_n 0, 1) := by decide +kernel
theorem dX11_hourGoes_284 : decode cX11_hourGoes 284 = .ok (.dup, 1) := by decide +kernel
theorem dX11_hourGoes_285 : decode cX11_hourGoes 285 = .ok (.getfield 167, 3) := by decide +kernel
theorem dX11_hourGoes_288 : decode cX11_hourGoes 288 = .ok (.iconst 1, 1) := by decide +kernel
theorem dX11_hourGoes_289 : decode cX11_hourGoes 289 = .ok (.iadd, 1) := by decide +kernel
theorem dX11_hourGoes_290 : decode cX11_hourGoes 290 = .ok (.putfield 167, 3) := by decide +kernel
theorem dX11_hourGoes_293 : decode cX11_hourGoes 293 = .ok (.return_, 1) := by decide +kernel
set_option maxRecDepth 20000 in
theorem ggX11_of_X11_isReach : GoodIn wsX11_of wsX11_isReach := goodIn_r _ [6, 1, 7, 8, 5, 9, 10, 11, 12, 13, 14, 15, 16, 17, 18, 19, 20, 21, 22, 23, 24, 25, 26, 27, 28, 29, 30, 31, 32, 33, 34, 35, 36, 37, 38, 39, 40, 41, 42, 43, 44, 45, 46, 47] (by decide +kernel) (by decide +kernel)
set_option maxRecDepth 20000 in
theorem gX11_of_X11_isReach : GoodIn wsX11_of (wsV RX11 164 RX11 yX11_isReach wsX11_isReach) := goodIn_app (goodIn_of _ (by decide +kernel)) ggX11_of_X11_isReach
set_option maxRecDepth 20000 in
theorem ggX11_of_X11_in : GoodIn wsX11_of wsX11_in := goodIn_r _ [9] (by decide +kernel) (by decide +kernel)
set_option maxRecDepth 20000 in
theorem gX11_of_X11_in : GoodIn wsX11_of (va_wsS RX11 59 yX11_in wsX11_in) := goodIn_app (goodIn_of _ (by decide +kernel)) ggX11_of_X11_in
theorem dX11_of_0 : decode cX11_of 0 = .ok (.aload_n 0, 1) := by decide +kernel
theorem dX11_of_1 : decode cX11_of 1 = .ok (.iload_n 1, 1) := by decide +kernel
theorem dX11_of_2 : decode cX11_of 2 = .ok (.invokevirtual 164, 3) := by decide +kernel
theorem dX11_of_5 : decode cX11_of 5 = .ok (.ifCond .eq 29, 3) := by decide +kernel
theorem dX11_of_8 : decode cX11_of 8 = .ok (.iload_n 2, 1) := by decide +kernel
theorem dX11_of_9 : decode cX11_of 9 = .ok (.iconst 0, 1) := by decide +kernel
theorem dX11_of_10 : decode cX11_of 10 = .ok (.iconst 4, 1) := by decide +kernel
theorem dX11_of_11 : decode cX11_of 11 = .ok (.invokestatic 59, 3) := by decide +kernel
theorem dX11_of_14 : decode cX11_of 14 = .ok (.ifCond .eq 20, 3) := by decide +kernel
theorem dX11_of_17 : decode cX11_of 17 = .ok (.aload_n 0, 1) := by decide +kernel
theorem dX11_of_18 : decode cX11_of 18 = .ok (.getfield 9, 3) := by decide +kernel
theorem dX11_of_21 : decode cX11_of 21 = .ok (.sipush 130, 3) := by decide +kernel
theorem dX11_of_24 : decode cX11_of 24 = .ok (.iconst 3, 1) := by decide +kernel
theorem dX11_of_25 : decode cX11_of 25 = .ok (.iload_n 2, 1) := by decide +kernel
theorem dX11_of_26 : decode cX11_of 26 = .ok (.imul, 1) := by decide +kernel
theorem dX11_of_27 : decode cX11_of 27 = .ok (.iadd, 1) := by decide +kernel
theorem dX11_of_28 : decode cX11_of 28 = .ok (.iload_n 1, 1) := by decide +kernel
theorem dX11_of_29 : decode cX11_of 29 = .ok (.iadd, 1) := by decide +kernel
theorem dX11_of_30 : decode cX11_of 30 = .ok (.iaload, 1) := by decide +kernel
theorem dX11_of_31 : decode cX11_of 31 = .ok (.goto 4, 3) := by decide +kernel
theorem dX11_of_34 : decode cX11_of 34 = .ok (.iconst (-1), 1) := by decide +kernel
theorem dX11_of_35 : decode cX11_of 35 = .ok (.ireturn, 1) := by decide +kernel
set_option maxRecDepth 20000 in
theorem ggX11_stream_X11_in : GoodIn wsX11_stream wsX11_in := goodIn_r _ [5] (by decide +kernel) (by decide +kernel)
set_option maxRecDepth 20000 in
theorem gX11_stream_X11_in : GoodIn wsX11_stream (va_wsS RX11 59 yX11_in wsX11_in) := goodIn_app (goodIn_of _ (by decide +kernel)) ggX11_stream_X11_in
set_option maxRecDepth 20000 in
theorem ggX11_stream_X11_isRiver : GoodIn wsX11_stream wsX11_isRiver := goodIn_r _ [9, 1, 28, 29, 30, 31, 32, 33, 34, 35, 36, 37, 38, 39, 40, 41, 42, 43, 44, 45, 46, 47, 48, 49, 50, 51, 52, 53, 54, 55, 56, 57, 58, 59, 60, 61, 62, 63, 64, 65] (by decide +kernel) (by decide +kernel)
set_option maxRecDepth 20000 in
theorem gX11_stream_X11_isRiver : GoodIn wsX11_stream (wsV RX11 215 RX11 yX11_isRiver wsX11_isRiver) := goodIn_app (goodIn_of _ (by decide +kernel)) ggX11_stream_X11_isRiver
set_option maxRecDepth 20000 in
theorem ggX11_stream_X11_takes : GoodIn wsX11_stream wsX11_takes := goodIn_r _ [13, 14, 1, 15, 16, 17, 28, 29, 30, 31, 32, 33, 34, 35, 36, 37, 38, 39, 40, 41, 42, 43, 44, 45, 46, 47, 48, 49, 50, 51, 52, 53, 54, 55, 56, 57, 58, 59, 60, 61, 62, 63, 64, 65] (by decide +kernel) (by decide +kernel)
set_option maxRecDepth 20000 in
theorem gX11_stream_X11_takes : GoodIn wsX11_stream (wsV RX11 218 RX11 yX11_takes wsX11_takes) := goodIn_app (goodIn_of _ (by decide +kernel)) ggX11_stream_X11_takes
set_option maxRecDepth 20000 in
theorem ggX11_stream_X11_rings : GoodIn wsX11_stream wsX11_rings := goodIn_r _ [21, 22, 14, 23, 24, 25, 4, 26, 1, 27, 28, 29, 30, 31, 32, 33, 34, 35, 36, 37, 38, 39, 40, 41, 42, 43, 44, 45, 46, 47, 48, 49, 50, 51, 52, 53, 54, 55, 56, 57, 58, 59, 60, 61, 62, 63, 64, 65] (by decide +kernel) (by decide +kernel)
set_option maxRecDepth 20000 in
theorem gX11_stream_X11_rings : GoodIn wsX11_stream (wsV RX11 180 RX11 yX11_rings wsX11_rings) := goodIn_app (goodIn_of _ (by decide +kernel)) ggX11_stream_X11_rings
theorem dX11_stream_0 : decode cX11_stream 0 = .ok (.iload_n 1, 1) := by decide +kernel
theorem dX11_stream_1 : decode cX11_stream 1 = .ok (.iconst 0, 1) := by decide +kernel
theorem dX11_stream_2 : decode cX11_stream 2 = .ok (.iconst 4, 1) := by decide +kernel
theorem dX11_stream_3 : decode cX11_stream 3 = .ok (.invokestatic 59, 3) := by decide +kernel
theorem dX11_stream_6 : decode cX11_stream 6 = .ok (.ifCond .ne 5, 3) := by decide +kernel
theorem dX11_stream_9 : decode cX11_stream 9 = .ok (.iconst (-1), 1) := by decide +kernel
theorem dX11_stream_10 : decode cX11_stream 10 = .ok (.ireturn, 1) := by decide +kernel
theorem dX11_stream_11 : decode cX11_stream 11 = .ok (.aload_n 0, 1) := by decide +kernel
theorem dX11_stream_12 : decode cX11_stream 12 = .ok (.invokevirtual 215, 3) := by decide +kernel
theorem dX11_stream_15 : decode cX11_stream 15 = .ok (.ifCond .ne 6, 3) := by decide +kernel
theorem dX11_stream_18 : decode cX11_stream 18 = .ok (.bipush (-3), 2) := by decide +kernel
theorem dX11_stream_20 : decode cX11_stream 20 = .ok (.ireturn, 1) := by decide +kernel
theorem dX11_stream_21 : decode cX11_stream 21 = .ok (.aload_n 0, 1) := by decide +kernel
theorem dX11_stream_22 : decode cX11_stream 22 = .ok (.invokevirtual 218, 3) := by decide +kernel
theorem dX11_stream_25 : decode cX11_stream 25 = .ok (.iload_n 1, 1) := by decide +kernel
theorem dX11_stream_26 : decode cX11_stream 26 = .ok (.iconst 4, 1) := by decide +kernel
theorem dX11_stream_27 : decode cX11_stream 27 = .ok (.if_icmp .ne 18, 3) := by decide +kernel
theorem dX11_stream_30 : decode cX11_stream 30 = .ok (.aload_n 0, 1) := by decide +kernel
theorem dX11_stream_31 : decode cX11_stream 31 = .ok (.invokevirtual 180, 3) := by decide +kernel
theorem dX11_stream_34 : decode cX11_stream 34 = .ok (.ifCond .eq 7, 3) := by decide +kernel
theorem dX11_stream_37 : decode cX11_stream 37 = .ok (.iconst 1, 1) := by decide +kernel
theorem dX11_stream_38 : decode cX11_stream 38 = .ok (.goto 15, 3) := by decide +kernel
theorem dX11_stream_41 : decode cX11_stream 41 = .ok (.iconst 0, 1) := by decide +kernel
theorem dX11_stream_42 : decode cX11_stream 42 = .ok (.goto 11, 3) := by decide +kernel
theorem dX11_stream_45 : decode cX11_stream 45 = .ok (.aload_n 0, 1) := by decide +kernel
theorem dX11_stream_46 : decode cX11_stream 46 = .ok (.getfield 9, 3) := by decide +kernel
theorem dX11_stream_49 : decode cX11_stream 49 = .ok (.iconst 1, 1) := by decide +kernel
theorem dX11_stream_50 : decode cX11_stream 50 = .ok (.iload_n 1, 1) := by decide +kernel
theorem dX11_stream_51 : decode cX11_stream 51 = .ok (.iadd, 1) := by decide +kernel
theorem dX11_stream_52 : decode cX11_stream 52 = .ok (.iaload, 1) := by decide +kernel
theorem dX11_stream_53 : decode cX11_stream 53 = .ok (.ireturn, 1) := by decide +kernel
set_option maxRecDepth 20000 in
theorem ggX11_level_X11_isReach : GoodIn wsX11_level wsX11_isReach := goodIn_r _ [6, 1, 7, 8, 5, 9, 10, 11, 12, 13, 14, 15, 16, 17, 18, 19, 20, 21, 22, 23, 24, 25, 26, 27, 28, 29, 30, 31, 32, 33, 34, 35, 36, 37, 38, 39, 40, 41, 42, 43, 44, 45, 46, 47] (by decide +kernel) (by decide +kernel)
set_option maxRecDepth 20000 in
theorem gX11_level_X11_isReach : GoodIn wsX11_level (wsV RX11 164 RX11 yX11_isReach wsX11_isReach) := goodIn_app (goodIn_of _ (by decide +kernel)) ggX11_level_X11_isReach
set_option maxRecDepth 20000 in
theorem ggX11_level_X11_in : GoodIn wsX11_level wsX11_in := goodIn_r _ [9] (by decide +kernel) (by decide +kernel)
set_option maxRecDepth 20000 in
theorem gX11_level_X11_in : GoodIn wsX11_level (va_wsS RX11 59 yX11_in wsX11_in) := goodIn_app (goodIn_of _ (by decide +kernel)) ggX11_level_X11_in
theorem dX11_level_0 : decode cX11_level 0 = .ok (.aload_n 0, 1) := by decide +kernel
theorem dX11_level_1 : decode cX11_level 1 = .ok (.iload_n 1, 1) := by decide +kernel
theorem dX11_level_2 : decode cX11_level 2 = .ok (.invokevirtual 164, 3) := by decide +kernel
theorem dX11_level_5 : decode cX11_level 5 = .ok (.ifCond .ne 5, 3) := by decide +kernel
theorem dX11_level_8 : decode cX11_level 8 = .ok (.iconst (-1), 1) := by decide +kernel
theorem dX11_level_9 : decode cX11_level 9 = .ok (.ireturn, 1) := by decide +kernel
theorem dX11_level_10 : decode cX11_level 10 = .ok (.iload_n 2, 1) := by decide +kernel
theorem dX11_level_11 : decode cX11_level 11 = .ok (.iconst 0, 1) := by decide +kernel
theorem dX11_level_12 : decode cX11_level 12 = .ok (.aload_n 0, 1) := by decide +kernel
theorem dX11_level_13 : decode cX11_level 13 = .ok (.getfield 9, 3) := by decide +kernel
theorem dX11_level_16 : decode cX11_level 16 = .ok (.sipush 133, 3) := by decide +kernel
theorem dX11_level_19 : decode cX11_level 19 = .ok (.iload_n 1, 1) := by decide +kernel
theorem dX11_level_20 : decode cX11_level 20 = .ok (.iadd, 1) := by decide +kernel
theorem dX11_level_21 : decode cX11_level 21 = .ok (.iaload, 1) := by decide +kernel
theorem dX11_level_22 : decode cX11_level 22 = .ok (.invokestatic 59, 3) := by decide +kernel
theorem dX11_level_25 : decode cX11_level 25 = .ok (.ifCond .ne 6, 3) := by decide +kernel
theorem dX11_level_28 : decode cX11_level 28 = .ok (.bipush (-2), 2) := by decide +kernel
theorem dX11_level_30 : decode cX11_level 30 = .ok (.ireturn, 1) := by decide +kernel
theorem dX11_level_31 : decode cX11_level 31 = .ok (.aload_n 0, 1) := by decide +kernel
theorem dX11_level_32 : decode cX11_level 32 = .ok (.getfield 9, 3) := by decide +kernel
theorem dX11_level_35 : decode cX11_level 35 = .ok (.sipush 130, 3) := by decide +kernel
theorem dX11_level_38 : decode cX11_level 38 = .ok (.iload_n 1, 1) := by decide +kernel
theorem dX11_level_39 : decode cX11_level 39 = .ok (.iadd, 1) := by decide +kernel
theorem dX11_level_40 : decode cX11_level 40 = .ok (.iaload, 1) := by decide +kernel
theorem dX11_level_41 : decode cX11_level 41 = .ok (.istore_n 3, 1) := by decide +kernel
theorem dX11_level_42 : decode cX11_level 42 = .ok (.aload_n 0, 1) := by decide +kernel
theorem dX11_level_43 : decode cX11_level 43 = .ok (.getfield 9, 3) := by decide +kernel
theorem dX11_level_46 : decode cX11_level 46 = .ok (.sipush 130, 3) := by decide +kernel
theorem dX11_level_49 : decode cX11_level 49 = .ok (.iload_n 1, 1) := by decide +kernel
theorem dX11_level_50 : decode cX11_level 50 = .ok (.iadd, 1) := by decide +kernel
theorem dX11_level_51 : decode cX11_level 51 = .ok (.iload_n 2, 1) := by decide +kernel
theorem dX11_level_52 : decode cX11_level 52 = .ok (.iastore, 1) := by decide +kernel
theorem dX11_level_53 : decode cX11_level 53 = .ok (.aload_n 0, 1) := by decide +kernel
theorem dX11_level_54 : decode cX11_level 54 = .ok (.getfield 9, 3) := by decide +kernel
theorem dX11_level_57 : decode cX11_level 57 = .ok (.sipush 142, 3) := by decide +kernel
theorem dX11_level_60 : decode cX11_level 60 = .ok (.iload_n 1, 1) := by decide +kernel
theorem dX11_level_61 : decode cX11_level 61 = .ok (.iadd, 1) := by decide +kernel
theorem dX11_level_62 : decode cX11_level 62 = .ok (.iconst 1, 1) := by decide +kernel
theorem dX11_level_63 : decode cX11_level 63 = .ok (.iastore, 1) := by decide +kernel
theorem dX11_level_64 : decode cX11_level 64 = .ok (.iload_n 3, 1) := by decide +kernel
theorem dX11_level_65 : decode cX11_level 65 = .ok (.ireturn, 1) := by decide +kernel
set_option maxRecDepth 20000 in
theorem ggX11_boards_X11_isReach : GoodIn wsX11_boards wsX11_isReach := goodIn_r _ [5, 6, 7, 8, 4, 9, 56, 57, 58, 59, 60, 61, 62, 63, 64, 65, 66, 67, 68, 69, 70, 71, 72, 73, 74, 75, 76, 77, 78, 79, 80, 81, 82, 83, 84, 85, 86, 87, 88, 89, 90, 91, 92, 93] (by decide +kernel) (by decide +kernel)
set_option maxRecDepth 20000 in
theorem gX11_boards_X11_isReach : GoodIn wsX11_boards (wsV RX11 164 RX11 yX11_isReach wsX11_isReach) := goodIn_app (goodIn_of _ (by decide +kernel)) ggX11_boards_X11_isReach
set_option maxRecDepth 20000 in
theorem ggX11_boards_X11_takes : GoodIn wsX11_boards wsX11_takes := goodIn_r _ [13, 14, 6, 15, 16, 17, 56, 57, 58, 59, 60, 61, 62, 63, 64, 65, 66, 67, 68, 69, 70, 71, 72, 73, 74, 75, 76, 77, 78, 79, 80, 81, 82, 83, 84, 85, 86, 87, 88, 89, 90, 91, 92, 93] (by decide +kernel) (by decide +kernel)
set_option maxRecDepth 20000 in
theorem gX11_boards_X11_takes : GoodIn wsX11_boards (wsV RX11 218 RX11 yX11_takes wsX11_takes) := goodIn_app (goodIn_of _ (by decide +kernel)) ggX11_boards_X11_takes
set_option maxRecDepth 20000 in
theorem ggX11_boards_X11_boardsOf : GoodIn wsX11_boards wsX11_boardsOf := goodIn_r _ [21, 6, 22, 15, 23, 24, 25, 4, 26, 17, 27, 28, 29, 30, 31, 32, 33, 34, 35, 36, 14, 16, 37, 38, 39, 40, 41, 42, 43, 44, 45, 46, 47, 48, 49, 50, 51, 52, 53, 54, 55, 56, 57, 58, 59, 60, 61, 62, 63, 64, 65, 66, 67, 68, 69, 70, 71, 72, 73, 74, 75, 76, 77, 78, 79, 80, 81, 82, 83, 84, 85, 86, 87, 88, 89, 90, 91, 92, 93] (by decide +kernel) (by decide +kernel)
set_option maxRecDepth 20000 in
theorem gX11_boards_X11_boardsOf : GoodIn wsX11_boards (wsV RX11 212 RX11 yX11_boardsOf wsX11_boardsOf) := goodIn_app (goodIn_of _ (by decide +kernel)) ggX11_boards_X11_boardsOf
theorem dX11_boards_0 : decode cX11_boards 0 = .ok (.aload_n 0, 1) := by decide +kernel
theorem dX11_boards_1 : decode cX11_boards 1 = .ok (.iload_n 1, 1) := by decide +kernel
theorem dX11_boards_2 : decode cX11_boards 2 = .ok (.invokevirtual 164, 3) := by decide +kernel
theorem dX11_boards_5 : decode cX11_boards 5 = .ok (.ifCond .ne 5, 3) := by decide +kernel
theorem dX11_boards_8 : decode cX11_boards 8 = .ok (.iconst (-1), 1) := by decide +kernel
theorem dX11_boards_9 : decode cX11_boards 9 = .ok (.ireturn, 1) := by decide +kernel
theorem dX11_boards_10 : decode cX11_boards 10 = .ok (.aload_n 0, 1) := by decide +kernel
theorem dX11_boards_11 : decode cX11_boards 11 = .ok (.invokevirtual 218, 3) := by decide +kernel
theorem dX11_boards_14 : decode cX11_boards 14 = .ok (.aload_n 0, 1) := by decide +kernel
theorem dX11_boards_15 : decode cX11_boards 15 = .ok (.iload_n 1, 1) := by decide +kernel
theorem dX11_boards_16 : decode cX11_boards 16 = .ok (.invokevirtual 212, 3) := by decide +kernel
theorem dX11_boards_19 : decode cX11_boards 19 = .ok (.ireturn, 1) := by decide +kernel
set_option maxRecDepth 20000 in
theorem ggX11_hour_X11_in : GoodIn wsX11_hour wsX11_in := goodIn_r _ [9] (by decide +kernel) (by decide +kernel)
set_option maxRecDepth 20000 in
theorem gX11_hour_X11_in : GoodIn wsX11_hour (va_wsS RX11 59 yX11_in wsX11_in) := goodIn_app (goodIn_of _ (by decide +kernel)) ggX11_hour_X11_in
set_option maxRecDepth 20000 in
theorem ggX11_hour_X11_isRiver : GoodIn wsX11_hour wsX11_isRiver := goodIn_r _ [13, 1, 63, 64, 65, 66, 67, 68, 69, 70, 71, 72, 73, 74, 75, 76, 77, 78, 79, 80, 81, 82, 83, 84, 85, 86, 87, 88, 89, 90, 91, 92, 93, 94, 95, 96, 97, 98, 99, 100] (by decide +kernel) (by decide +kernel)
set_option maxRecDepth 20000 in
theorem gX11_hour_X11_isRiver : GoodIn wsX11_hour (wsV RX11 215 RX11 yX11_isRiver wsX11_isRiver) := goodIn_app (goodIn_of _ (by decide +kernel)) ggX11_hour_X11_isRiver
set_option maxRecDepth 20000 in
theorem ggX11_hour_X11_takes : GoodIn wsX11_hour wsX11_takes := goodIn_r _ [17, 2, 1, 3, 4, 18, 63, 64, 65, 66, 67, 68, 69, 70, 71, 72, 73, 74, 75, 76, 77, 78, 79, 80, 81, 82, 83, 84, 85, 86, 87, 88, 89, 90, 91, 92, 93, 94, 95, 96, 97, 98, 99, 100] (by decide +kernel) (by decide +kernel)
set_option maxRecDepth 20000 in
theorem gX11_hour_X11_takes : GoodIn wsX11_hour (wsV RX11 218 RX11 yX11_takes wsX11_takes) := goodIn_app (goodIn_of _ (by decide +kernel)) ggX11_hour_X11_takes
set_option maxRecDepth 20000 in
theorem ggX11_hour_X11_hourGoes : GoodIn wsX11_hour wsX11_hourGoes := goodIn_r _ [22, 5, 23, 1, 24, 3, 2, 4, 18, 25, 26, 27, 8, 28, 29, 30, 31, 32, 33, 34, 35, 36, 37, 38, 39, 40, 41, 42, 43, 44, 45, 46, 47, 48, 49, 50, 51, 52, 53, 54, 55, 56, 57, 58, 59, 60, 61, 62, 63, 64, 65, 66, 67, 68, 69, 70, 71, 72, 73, 74, 75, 76, 77, 78, 79, 80, 81, 82, 83, 84, 85, 86, 87, 88, 89, 90, 91, 92, 93, 94, 95, 96, 97, 98, 99, 100] (by decide +kernel) (by decide +kernel)
set_option maxRecDepth 20000 in
theorem gX11_hour_X11_hourGoes : GoodIn wsX11_hour (wsV RX11 221 RX11 yX11_hourGoes wsX11_hourGoes) := goodIn_app (goodIn_of _ (by decide +kernel)) ggX11_hour_X11_hourGoes
theorem dX11_hour_0 : decode cX11_hour 0 = .ok (.iload_n 1, 1) := by decide +kernel
theorem dX11_hour_1 : decode cX11_hour 1 = .ok (.iconst 0, 1) := by decide +kernel
theorem dX11_hour_2 : decode cX11_hour 2 = .ok (.bipush 7, 2) := by decide +kernel
theorem dX11_hour_4 : decode cX11_hour 4 = .ok (.invokestatic 59, 3) := by decide +kernel
theorem dX11_hour_7 : decode cX11_hour 7 = .ok (.ifCond .ne 6, 3) := by decide +kernel
theorem dX11_hour_10 : decode cX11_hour 10 = .ok (.bipush (-2), 2) := by decide +kernel
theorem dX11_hour_12 : decode cX11_hour 12 = .ok (.ireturn, 1) := by decide +kernel
theorem dX11_hour_13 : decode cX11_hour 13 = .ok (.aload_n 0, 1) := by decide +kernel
theorem dX11_hour_14 : decode cX11_hour 14 = .ok (.invokevirtual 215, 3) := by decide +kernel
theorem dX11_hour_17 : decode cX11_hour 17 = .ok (.ifCond .eq 14, 3) := by decide +kernel
theorem dX11_hour_20 : decode cX11_hour 20 = .ok (.aload_n 0, 1) := by decide +kernel
theorem dX11_hour_21 : decode cX11_hour 21 = .ok (.getfield 9, 3) := by decide +kernel
theorem dX11_hour_24 : decode cX11_hour 24 = .ok (.iconst 4, 1) := by decide +kernel
theorem dX11_hour_25 : decode cX11_hour 25 = .ok (.iaload, 1) := by decide +kernel
theorem dX11_hour_26 : decode cX11_hour 26 = .ok (.bipush 99, 2) := by decide +kernel
theorem dX11_hour_28 : decode cX11_hour 28 = .ok (.if_icmp .ne 6, 3) := by decide +kernel
theorem dX11_hour_31 : decode cX11_hour 31 = .ok (.bipush (-3), 2) := by decide +kernel
theorem dX11_hour_33 : decode cX11_hour 33 = .ok (.ireturn, 1) := by decide +kernel
theorem dX11_hour_34 : decode cX11_hour 34 = .ok (.aload_n 0, 1) := by decide +kernel
theorem dX11_hour_35 : decode cX11_hour 35 = .ok (.invokevirtual 218, 3) := by decide +kernel
theorem dX11_hour_38 : decode cX11_hour 38 = .ok (.aload_n 0, 1) := by decide +kernel
theorem dX11_hour_39 : decode cX11_hour 39 = .ok (.iload_n 1, 1) := by decide +kernel
theorem dX11_hour_40 : decode cX11_hour 40 = .ok (.invokevirtual 221, 3) := by decide +kernel
theorem dX11_hour_43 : decode cX11_hour 43 = .ok (.iconst 0, 1) := by decide +kernel
theorem dX11_hour_44 : decode cX11_hour 44 = .ok (.istore_n 2, 1) := by decide +kernel
theorem dX11_hour_45 : decode cX11_hour 45 = .ok (.iload_n 2, 1) := by decide +kernel
theorem dX11_hour_46 : decode cX11_hour 46 = .ok (.iconst 3, 1) := by decide +kernel
theorem dX11_hour_47 : decode cX11_hour 47 = .ok (.if_icmp .ge 57, 3) := by decide +kernel
theorem dX11_hour_50 : decode cX11_hour 50 = .ok (.aload_n 0, 1) := by decide +kernel
theorem dX11_hour_51 : decode cX11_hour 51 = .ok (.getfield 9, 3) := by decide +kernel
theorem dX11_hour_54 : decode cX11_hour 54 = .ok (.sipush 130, 3) := by decide +kernel
theorem dX11_hour_57 : decode cX11_hour 57 = .ok (.iload_n 2, 1) := by decide +kernel
theorem dX11_hour_58 : decode cX11_hour 58 = .ok (.iadd, 1) := by decide +kernel
theorem dX11_hour_59 : decode cX11_hour 59 = .ok (.aload_n 0, 1) := by decide +kernel
theorem dX11_hour_60 : decode cX11_hour 60 = .ok (.getfield 27, 3) := by decide +kernel
theorem dX11_hour_63 : decode cX11_hour 63 = .ok (.iload_n 2, 1) := by decide +kernel
theorem dX11_hour_64 : decode cX11_hour 64 = .ok (.iaload, 1) := by decide +kernel
theorem dX11_hour_65 : decode cX11_hour 65 = .ok (.iastore, 1) := by decide +kernel
theorem dX11_hour_66 : decode cX11_hour 66 = .ok (.aload_n 0, 1) := by decide +kernel
theorem dX11_hour_67 : decode cX11_hour 67 = .ok (.getfield 9, 3) := by decide +kernel
theorem dX11_hour_70 : decode cX11_hour 70 = .ok (.sipush 139, 3) := by decide +kernel
theorem dX11_hour_73 : decode cX11_hour 73 = .ok (.iload_n 2, 1) := by decide +kernel
theorem dX11_hour_74 : decode cX11_hour 74 = .ok (.iadd, 1) := by decide +kernel
theorem dX11_hour_75 : decode cX11_hour 75 = .ok (.aload_n 0, 1) := by decide +kernel
theorem dX11_hour_76 : decode cX11_hour 76 = .ok (.getfield 30, 3) := by decide +kernel
theorem dX11_hour_79 : decode cX11_hour 79 = .ok (.iload_n 2, 1) := by decide +kernel
theorem dX11_hour_80 : decode cX11_hour 80 = .ok (.iaload, 1) := by decide +kernel
theorem dX11_hour_81 : decode cX11_hour 81 = .ok (.iastore, 1) := by decide +kernel
theorem dX11_hour_82 : decode cX11_hour 82 = .ok (.aload_n 0, 1) := by decide +kernel
theorem dX11_hour_83 : decode cX11_hour 83 = .ok (.getfield 9, 3) := by decide +kernel
theorem dX11_hour_86 : decode cX11_hour 86 = .ok (.sipush 142, 3) := by decide +kernel
theorem dX11_hour_89 : decode cX11_hour 89 = .ok (.iload_n 2, 1) := by decide +kernel
theorem dX11_hour_90 : decode cX11_hour 90 = .ok (.iadd, 1) := by decide +kernel
theorem dX11_hour_91 : decode cX11_hour 91 = .ok (.aload_n 0, 1) := by decide +kernel
theorem dX11_hour_92 : decode cX11_hour 92 = .ok (.getfield 33, 3) := by decide +kernel
theorem dX11_hour_95 : decode cX11_hour 95 = .ok (.iload_n 2, 1) := by decide +kernel
theorem dX11_hour_96 : decode cX11_hour 96 = .ok (.iaload, 1) := by decide +kernel
theorem dX11_hour_97 : decode cX11_hour 97 = .ok (.iastore, 1) := by decide +kernel
theorem dX11_hour_98 : decode cX11_hour 98 = .ok (.iinc 2 1, 3) := by decide +kernel
theorem dX11_hour_101 : decode cX11_hour 101 = .ok (.goto (-56), 3) := by decide +kernel
theorem dX11_hour_104 : decode cX11_hour 104 = .ok (.aload_n 0, 1) := by decide +kernel
theorem dX11_hour_105 : decode cX11_hour 105 = .ok (.getfield 9, 3) := by decide +kernel
theorem dX11_hour_108 : decode cX11_hour 108 = .ok (.iconst 4, 1) := by decide +kernel
theorem dX11_hour_109 : decode cX11_hour 109 = .ok (.dup2, 1) := by decide +kernel
theorem dX11_hour_110 : decode cX11_hour 110 = .ok (.iaload, 1) := by decide +kernel
theorem dX11_hour_111 : decode cX11_hour 111 = .ok (.iconst 1, 1) := by decide +kernel
theorem dX11_hour_112 : decode cX11_hour 112 = .ok (.iadd, 1) := by decide +kernel
theorem dX11_hour_113 : decode cX11_hour 113 = .ok (.iastore, 1) := by decide +kernel
theorem dX11_hour_114 : decode cX11_hour 114 = .ok (.aload_n 0, 1) := by decide +kernel
theorem dX11_hour_115 : decode cX11_hour 115 = .ok (.getfield 206, 3) := by decide +kernel
theorem dX11_hour_118 : decode cX11_hour 118 = .ok (.ireturn, 1) := by decide +kernel
set_option maxRecDepth 20000 in
theorem ggX11_rain_X11_in : GoodIn wsX11_rain wsX11_in := goodIn_r _ [5] (by decide +kernel) (by decide +kernel)
set_option maxRecDepth 20000 in
theorem gX11_rain_X11_in : GoodIn wsX11_rain (va_wsS RX11 59 yX11_in wsX11_in) := goodIn_app (goodIn_of _ (by decide +kernel)) ggX11_rain_X11_in
theorem dX11_rain_0 : decode cX11_rain 0 = .ok (.iload_n 1, 1) := by decide +kernel
theorem dX11_rain_1 : decode cX11_rain 1 = .ok (.iconst (-1), 1) := by decide +kernel
theorem dX11_rain_2 : decode cX11_rain 2 = .ok (.if_icmp .ne 13, 3) := by decide +kernel
theorem dX11_rain_5 : decode cX11_rain 5 = .ok (.aload_n 0, 1) := by decide +kernel
theorem dX11_rain_6 : decode cX11_rain 6 = .ok (.getfield 9, 3) := by decide +kernel
theorem dX11_rain_9 : decode cX11_rain 9 = .ok (.bipush 6, 2) := by decide +kernel
theorem dX11_rain_11 : decode cX11_rain 11 = .ok (.iconst 0, 1) := by decide +kernel
theorem dX11_rain_12 : decode cX11_rain 12 = .ok (.iastore, 1) := by decide +kernel
theorem dX11_rain_13 : decode cX11_rain 13 = .ok (.iconst 0, 1) := by decide +kernel
theorem dX11_rain_14 : decode cX11_rain 14 = .ok (.ireturn, 1) := by decide +kernel
theorem dX11_rain_15 : decode cX11_rain 15 = .ok (.iload_n 1, 1) := by decide +kernel
theorem dX11_rain_16 : decode cX11_rain 16 = .ok (.iconst 0, 1) := by decide +kernel
theorem dX11_rain_17 : decode cX11_rain 17 = .ok (.bipush 7, 2) := by decide +kernel
theorem dX11_rain_19 : decode cX11_rain 19 = .ok (.invokestatic 59, 3) := by decide +kernel
theorem dX11_rain_22 : decode cX11_rain 22 = .ok (.ifCond .ne 6, 3) := by decide +kernel
theorem dX11_rain_25 : decode cX11_rain 25 = .ok (.bipush (-2), 2) := by decide +kernel
