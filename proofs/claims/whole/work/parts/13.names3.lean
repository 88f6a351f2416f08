theorem dX7_init_0 : decode cX7_init 0 = .ok (.aload_n 0, 1) := by decide +kernel
theorem dX7_init_1 : decode cX7_init 1 = .ok (.invokespecial 1, 3) := by decide +kernel
theorem dX7_init_4 : decode cX7_init 4 = .ok (.aload_n 0, 1) := by decide +kernel
theorem dX7_init_5 : decode cX7_init 5 = .ok (.iconst 1, 1) := by decide +kernel
theorem dX7_init_6 : decode cX7_init 6 = .ok (.putfield 7, 3) := by decide +kernel
theorem dX7_init_9 : decode cX7_init 9 = .ok (.aload_n 0, 1) := by decide +kernel
theorem dX7_init_10 : decode cX7_init 10 = .ok (.bipush 12, 2) := by decide +kernel
theorem dX7_init_12 : decode cX7_init 12 = .ok (.newarray .int, 2) := by decide +kernel
theorem dX7_init_14 : decode cX7_init 14 = .ok (.putfield 13, 3) := by decide +kernel
theorem dX7_init_17 : decode cX7_init 17 = .ok (.aload_n 0, 1) := by decide +kernel
theorem dX7_init_18 : decode cX7_init 18 = .ok (.bipush 12, 2) := by decide +kernel
theorem dX7_init_20 : decode cX7_init 20 = .ok (.newarray .int, 2) := by decide +kernel
theorem dX7_init_22 : decode cX7_init 22 = .ok (.putfield 17, 3) := by decide +kernel
theorem dX7_init_25 : decode cX7_init 25 = .ok (.aload_n 0, 1) := by decide +kernel
theorem dX7_init_26 : decode cX7_init 26 = .ok (.bipush 7, 2) := by decide +kernel
theorem dX7_init_28 : decode cX7_init 28 = .ok (.putfield 20, 3) := by decide +kernel
theorem dX7_init_31 : decode cX7_init 31 = .ok (.aload_n 0, 1) := by decide +kernel
theorem dX7_init_32 : decode cX7_init 32 = .ok (.bipush 80, 2) := by decide +kernel
theorem dX7_init_34 : decode cX7_init 34 = .ok (.newarray .int, 2) := by decide +kernel
theorem dX7_init_36 : decode cX7_init 36 = .ok (.putfield 23, 3) := by decide +kernel
theorem dX7_init_39 : decode cX7_init 39 = .ok (.aload_n 0, 1) := by decide +kernel
theorem dX7_init_40 : decode cX7_init 40 = .ok (.bipush 80, 2) := by decide +kernel
theorem dX7_init_42 : decode cX7_init 42 = .ok (.newarray .int, 2) := by decide +kernel
theorem dX7_init_44 : decode cX7_init 44 = .ok (.putfield 26, 3) := by decide +kernel
theorem dX7_init_47 : decode cX7_init 47 = .ok (.aload_n 0, 1) := by decide +kernel
theorem dX7_init_48 : decode cX7_init 48 = .ok (.bipush 80, 2) := by decide +kernel
theorem dX7_init_50 : decode cX7_init 50 = .ok (.newarray .int, 2) := by decide +kernel
theorem dX7_init_52 : decode cX7_init 52 = .ok (.putfield 29, 3) := by decide +kernel
theorem dX7_init_55 : decode cX7_init 55 = .ok (.aload_n 0, 1) := by decide +kernel
theorem dX7_init_56 : decode cX7_init 56 = .ok (.bipush 80, 2) := by decide +kernel
theorem dX7_init_58 : decode cX7_init 58 = .ok (.newarray .int, 2) := by decide +kernel
theorem dX7_init_60 : decode cX7_init 60 = .ok (.putfield 32, 3) := by decide +kernel
theorem dX7_init_63 : decode cX7_init 63 = .ok (.aload_n 0, 1) := by decide +kernel
theorem dX7_init_64 : decode cX7_init 64 = .ok (.bipush 80, 2) := by decide +kernel
theorem dX7_init_66 : decode cX7_init 66 = .ok (.newarray .int, 2) := by decide +kernel
theorem dX7_init_68 : decode cX7_init 68 = .ok (.putfield 35, 3) := by decide +kernel
theorem dX7_init_71 : decode cX7_init 71 = .ok (.aload_n 0, 1) := by decide +kernel
theorem dX7_init_72 : decode cX7_init 72 = .ok (.sipush 200, 3) := by decide +kernel
theorem dX7_init_75 : decode cX7_init 75 = .ok (.newarray .int, 2) := by decide +kernel
theorem dX7_init_77 : decode cX7_init 77 = .ok (.putfield 38, 3) := by decide +kernel
theorem dX7_init_80 : decode cX7_init 80 = .ok (.aload_n 0, 1) := by decide +kernel
theorem dX7_init_81 : decode cX7_init 81 = .ok (.bipush 24, 2) := by decide +kernel
theorem dX7_init_83 : decode cX7_init 83 = .ok (.newarray .int, 2) := by decide +kernel
theorem dX7_init_85 : decode cX7_init 85 = .ok (.putfield 41, 3) := by decide +kernel
theorem dX7_init_88 : decode cX7_init 88 = .ok (.aload_n 0, 1) := by decide +kernel
theorem dX7_init_89 : decode cX7_init 89 = .ok (.bipush 24, 2) := by decide +kernel
theorem dX7_init_91 : decode cX7_init 91 = .ok (.newarray .int, 2) := by decide +kernel
theorem dX7_init_93 : decode cX7_init 93 = .ok (.putfield 44, 3) := by decide +kernel
theorem dX7_init_96 : decode cX7_init 96 = .ok (.aload_n 0, 1) := by decide +kernel
theorem dX7_init_97 : decode cX7_init 97 = .ok (.bipush 16, 2) := by decide +kernel
theorem dX7_init_99 : decode cX7_init 99 = .ok (.newarray .int, 2) := by decide +kernel
theorem dX7_init_101 : decode cX7_init 101 = .ok (.putfield 47, 3) := by decide +kernel
theorem dX7_init_104 : decode cX7_init 104 = .ok (.aload_n 0, 1) := by decide +kernel
theorem dX7_init_105 : decode cX7_init 105 = .ok (.bipush 16, 2) := by decide +kernel
theorem dX7_init_107 : decode cX7_init 107 = .ok (.newarray .int, 2) := by decide +kernel
theorem dX7_init_109 : decode cX7_init 109 = .ok (.putfield 50, 3) := by decide +kernel
theorem dX7_init_112 : decode cX7_init 112 = .ok (.aload_n 0, 1) := by decide +kernel
theorem dX7_init_113 : decode cX7_init 113 = .ok (.bipush 16, 2) := by decide +kernel
theorem dX7_init_115 : decode cX7_init 115 = .ok (.newarray .int, 2) := by decide +kernel
theorem dX7_init_117 : decode cX7_init 117 = .ok (.putfield 53, 3) := by decide +kernel
theorem dX7_init_120 : decode cX7_init 120 = .ok (.aload_n 0, 1) := by decide +kernel
theorem dX7_init_121 : decode cX7_init 121 = .ok (.bipush 32, 2) := by decide +kernel
theorem dX7_init_123 : decode cX7_init 123 = .ok (.newarray .int, 2) := by decide +kernel
theorem dX7_init_125 : decode cX7_init 125 = .ok (.putfield 56, 3) := by decide +kernel
theorem dX7_init_128 : decode cX7_init 128 = .ok (.aload_n 0, 1) := by decide +kernel
theorem dX7_init_129 : decode cX7_init 129 = .ok (.iconst 2, 1) := by decide +kernel
theorem dX7_init_130 : decode cX7_init 130 = .ok (.newarray .int, 2) := by decide +kernel
theorem dX7_init_132 : decode cX7_init 132 = .ok (.putfield 59, 3) := by decide +kernel
theorem dX7_init_135 : decode cX7_init 135 = .ok (.aload_n 0, 1) := by decide +kernel
theorem dX7_init_136 : decode cX7_init 136 = .ok (.sipush 400, 3) := by decide +kernel
theorem dX7_init_139 : decode cX7_init 139 = .ok (.newarray .int, 2) := by decide +kernel
theorem dX7_init_141 : decode cX7_init 141 = .ok (.putfield 62, 3) := by decide +kernel
theorem dX7_init_144 : decode cX7_init 144 = .ok (.aload_n 0, 1) := by decide +kernel
theorem dX7_init_145 : decode cX7_init 145 = .ok (.sipush 6400, 3) := by decide +kernel
theorem dX7_init_148 : decode cX7_init 148 = .ok (.newarray .boolean, 2) := by decide +kernel
theorem dX7_init_150 : decode cX7_init 150 = .ok (.putfield 65, 3) := by decide +kernel
theorem dX7_init_153 : decode cX7_init 153 = .ok (.aload_n 0, 1) := by decide +kernel
theorem dX7_init_154 : decode cX7_init 154 = .ok (.bipush 24, 2) := by decide +kernel
theorem dX7_init_156 : decode cX7_init 156 = .ok (.newarray .int, 2) := by decide +kernel
theorem dX7_init_158 : decode cX7_init 158 = .ok (.putfield 69, 3) := by decide +kernel
theorem dX7_init_161 : decode cX7_init 161 = .ok (.aload_n 0, 1) := by decide +kernel
theorem dX7_init_162 : decode cX7_init 162 = .ok (.bipush 24, 2) := by decide +kernel
theorem dX7_init_164 : decode cX7_init 164 = .ok (.newarray .int, 2) := by decide +kernel
theorem dX7_init_166 : decode cX7_init 166 = .ok (.putfield 72, 3) := by decide +kernel
theorem dX7_init_169 : decode cX7_init 169 = .ok (.aload_n 0, 1) := by decide +kernel
theorem dX7_init_170 : decode cX7_init 170 = .ok (.bipush 24, 2) := by decide +kernel
theorem dX7_init_172 : decode cX7_init 172 = .ok (.newarray .int, 2) := by decide +kernel
theorem dX7_init_174 : decode cX7_init 174 = .ok (.putfield 75, 3) := by decide +kernel
theorem dX7_init_177 : decode cX7_init 177 = .ok (.aload_n 0, 1) := by decide +kernel
theorem dX7_init_178 : decode cX7_init 178 = .ok (.bipush 24, 2) := by decide +kernel
theorem dX7_init_180 : decode cX7_init 180 = .ok (.newarray .int, 2) := by decide +kernel
theorem dX7_init_182 : decode cX7_init 182 = .ok (.putfield 78, 3) := by decide +kernel
theorem dX7_init_185 : decode cX7_init 185 = .ok (.aload_n 0, 1) := by decide +kernel
theorem dX7_init_186 : decode cX7_init 186 = .ok (.bipush 24, 2) := by decide +kernel
theorem dX7_init_188 : decode cX7_init 188 = .ok (.newarray .int, 2) := by decide +kernel
theorem dX7_init_190 : decode cX7_init 190 = .ok (.putfield 81, 3) := by decide +kernel
theorem dX7_init_193 : decode cX7_init 193 = .ok (.aload_n 0, 1) := by decide +kernel
theorem dX7_init_194 : decode cX7_init 194 = .ok (.bipush 24, 2) := by decide +kernel
theorem dX7_init_196 : decode cX7_init 196 = .ok (.newarray .int, 2) := by decide +kernel
theorem dX7_init_198 : decode cX7_init 198 = .ok (.putfield 84, 3) := by decide +kernel
theorem dX7_init_201 : decode cX7_init 201 = .ok (.aload_n 0, 1) := by decide +kernel
theorem dX7_init_202 : decode cX7_init 202 = .ok (.bipush 24, 2) := by decide +kernel
theorem dX7_init_204 : decode cX7_init 204 = .ok (.newarray .int, 2) := by decide +kernel
theorem dX7_init_206 : decode cX7_init 206 = .ok (.putfield 87, 3) := by decide +kernel
theorem dX7_init_209 : decode cX7_init 209 = .ok (.aload_n 0, 1) := by decide +kernel
theorem dX7_init_210 : decode cX7_init 210 = .ok (.bipush 24, 2) := by decide +kernel
theorem dX7_init_212 : decode cX7_init 212 = .ok (.newarray .int, 2) := by decide +kernel
theorem dX7_init_214 : decode cX7_init 214 = .ok (.putfield 90, 3) := by decide +kernel
theorem dX7_init_217 : decode cX7_init 217 = .ok (.aload_n 0, 1) := by decide +kernel
theorem dX7_init_218 : decode cX7_init 218 = .ok (.bipush 24, 2) := by decide +kernel
theorem dX7_init_220 : decode cX7_init 220 = .ok (.newarray .boolean, 2) := by decide +kernel
theorem dX7_init_222 : decode cX7_init 222 = .ok (.putfield 93, 3) := by decide +kernel
theorem dX7_init_225 : decode cX7_init 225 = .ok (.aload_n 0, 1) := by decide +kernel
theorem dX7_init_226 : decode cX7_init 226 = .ok (.bipush 48, 2) := by decide +kernel
theorem dX7_init_228 : decode cX7_init 228 = .ok (.newarray .int, 2) := by decide +kernel
theorem dX7_init_230 : decode cX7_init 230 = .ok (.putfield 96, 3) := by decide +kernel
theorem dX7_init_233 : decode cX7_init 233 = .ok (.iconst 0, 1) := by decide +kernel
theorem dX7_init_234 : decode cX7_init 234 = .ok (.istore_n 1, 1) := by decide +kernel
theorem dX7_init_235 : decode cX7_init 235 = .ok (.iload_n 1, 1) := by decide +kernel
theorem dX7_init_236 : decode cX7_init 236 = .ok (.bipush 7, 2) := by decide +kernel
theorem dX7_init_238 : decode cX7_init 238 = .ok (.if_icmp .ge 65, 3) := by decide +kernel
theorem dX7_init_241 : decode cX7_init 241 = .ok (.aload_n 0, 1) := by decide +kernel
theorem dX7_init_242 : decode cX7_init 242 = .ok (.getfield 23, 3) := by decide +kernel
theorem dX7_init_245 : decode cX7_init 245 = .ok (.iload_n 1, 1) := by decide +kernel
theorem dX7_init_246 : decode cX7_init 246 = .ok (.iload_n 1, 1) := by decide +kernel
theorem dX7_init_247 : decode cX7_init 247 = .ok (.bipush 6, 2) := by decide +kernel
theorem dX7_init_249 : decode cX7_init 249 = .ok (.if_icmp .ne 7, 3) := by decide +kernel
theorem dX7_init_252 : decode cX7_init 252 = .ok (.iconst 0, 1) := by decide +kernel
theorem dX7_init_253 : decode cX7_init 253 = .ok (.goto 4, 3) := by decide +kernel
theorem dX7_init_256 : decode cX7_init 256 = .ok (.iconst (-1), 1) := by decide +kernel
theorem dX7_init_257 : decode cX7_init 257 = .ok (.iastore, 1) := by decide +kernel
theorem dX7_init_258 : decode cX7_init 258 = .ok (.aload_n 0, 1) := by decide +kernel
theorem dX7_init_259 : decode cX7_init 259 = .ok (.getfield 26, 3) := by decide +kernel
theorem dX7_init_262 : decode cX7_init 262 = .ok (.iload_n 1, 1) := by decide +kernel
theorem dX7_init_263 : decode cX7_init 263 = .ok (.iconst (-1), 1) := by decide +kernel
theorem dX7_init_264 : decode cX7_init 264 = .ok (.iastore, 1) := by decide +kernel
theorem dX7_init_265 : decode cX7_init 265 = .ok (.aload_n 0, 1) := by decide +kernel
theorem dX7_init_266 : decode cX7_init 266 = .ok (.getfield 29, 3) := by decide +kernel
theorem dX7_init_269 : decode cX7_init 269 = .ok (.iload_n 1, 1) := by decide +kernel
theorem dX7_init_270 : decode cX7_init 270 = .ok (.iconst (-1), 1) := by decide +kernel
theorem dX7_init_271 : decode cX7_init 271 = .ok (.iastore, 1) := by decide +kernel
theorem dX7_init_272 : decode cX7_init 272 = .ok (.aload_n 0, 1) := by decide +kernel
theorem dX7_init_273 : decode cX7_init 273 = .ok (.getfield 32, 3) := by decide +kernel
theorem dX7_init_276 : decode cX7_init 276 = .ok (.iload_n 1, 1) := by decide +kernel
theorem dX7_init_277 : decode cX7_init 277 = .ok (.iload_n 1, 1) := by decide +kernel
theorem dX7_init_278 : decode cX7_init 278 = .ok (.iconst 4, 1) := by decide +kernel
theorem dX7_init_279 : decode cX7_init 279 = .ok (.if_icmp .ne 7, 3) := by decide +kernel
theorem dX7_init_282 : decode cX7_init 282 = .ok (.iconst 1, 1) := by decide +kernel
theorem dX7_init_283 : decode cX7_init 283 = .ok (.goto 13, 3) := by decide +kernel
theorem dX7_init_286 : decode cX7_init 286 = .ok (.iload_n 1, 1) := by decide +kernel
theorem dX7_init_287 : decode cX7_init 287 = .ok (.iconst 5, 1) := by decide +kernel
theorem dX7_init_288 : decode cX7_init 288 = .ok (.if_icmp .ne 7, 3) := by decide +kernel
theorem dX7_init_291 : decode cX7_init 291 = .ok (.iconst 2, 1) := by decide +kernel
theorem dX7_init_292 : decode cX7_init 292 = .ok (.goto 4, 3) := by decide +kernel
theorem dX7_init_295 : decode cX7_init 295 = .ok (.iconst 0, 1) := by decide +kernel
theorem dX7_init_296 : decode cX7_init 296 = .ok (.iastore, 1) := by decide +kernel
theorem dX7_init_297 : decode cX7_init 297 = .ok (.iinc 1 1, 3) := by decide +kernel
theorem dX7_init_300 : decode cX7_init 300 = .ok (.goto (-65), 3) := by decide +kernel
theorem dX7_init_303 : decode cX7_init 303 = .ok (.aload_n 0, 1) := by decide +kernel
theorem dX7_init_304 : decode cX7_init 304 = .ok (.getfield 17, 3) := by decide +kernel
theorem dX7_init_307 : decode cX7_init 307 = .ok (.iconst 0, 1) := by decide +kernel
theorem dX7_init_308 : decode cX7_init 308 = .ok (.iconst (-1), 1) := by decide +kernel
theorem dX7_init_309 : decode cX7_init 309 = .ok (.iastore, 1) := by decide +kernel
theorem dX7_init_310 : decode cX7_init 310 = .ok (.return_, 1) := by decide +kernel
theorem dX7_isIn_0 : decode cX7_isIn 0 = .ok (.iload_n 0, 1) := by decide +kernel
theorem dX7_isIn_1 : decode cX7_isIn 1 = .ok (.iload_n 1, 1) := by decide +kernel
theorem dX7_isIn_2 : decode cX7_isIn 2 = .ok (.if_icmp .lt 12, 3) := by decide +kernel
theorem dX7_isIn_5 : decode cX7_isIn 5 = .ok (.iload_n 0, 1) := by decide +kernel
theorem dX7_isIn_6 : decode cX7_isIn 6 = .ok (.iload_n 2, 1) := by decide +kernel
theorem dX7_isIn_7 : decode cX7_isIn 7 = .ok (.if_icmp .gt 7, 3) := by decide +kernel
theorem dX7_isIn_10 : decode cX7_isIn 10 = .ok (.iconst 1, 1) := by decide +kernel
theorem dX7_isIn_11 : decode cX7_isIn 11 = .ok (.goto 4, 3) := by decide +kernel
theorem dX7_isIn_14 : decode cX7_isIn 14 = .ok (.iconst 0, 1) := by decide +kernel
theorem dX7_isIn_15 : decode cX7_isIn 15 = .ok (.ireturn, 1) := by decide +kernel
set_option maxRecDepth 20000 in
theorem ggX7_isClass_X7_isIn : GoodIn wsX7_isClass wsX7_isIn := goodIn_r _ [5] (by decide +kernel) (by decide +kernel)
set_option maxRecDepth 20000 in
theorem gX7_isClass_X7_isIn : GoodIn wsX7_isClass (va_wsS RX7 99 yX7_isIn wsX7_isIn) := goodIn_app (goodIn_of _ (by decide +kernel)) ggX7_isClass_X7_isIn
theorem dX7_isClass_0 : decode cX7_isClass 0 = .ok (.iload_n 1, 1) := by decide +kernel
theorem dX7_isClass_1 : decode cX7_isClass 1 = .ok (.iconst 0, 1) := by decide +kernel
theorem dX7_isClass_2 : decode cX7_isClass 2 = .ok (.aload_n 0, 1) := by decide +kernel
theorem dX7_isClass_3 : decode cX7_isClass 3 = .ok (.getfield 7, 3) := by decide +kernel
theorem dX7_isClass_6 : decode cX7_isClass 6 = .ok (.iconst 1, 1) := by decide +kernel
theorem dX7_isClass_7 : decode cX7_isClass 7 = .ok (.isub, 1) := by decide +kernel
theorem dX7_isClass_8 : decode cX7_isClass 8 = .ok (.invokestatic 99, 3) := by decide +kernel
theorem dX7_isClass_11 : decode cX7_isClass 11 = .ok (.ireturn, 1) := by decide +kernel
set_option maxRecDepth 20000 in
theorem ggX7_isType_X7_isIn : GoodIn wsX7_isType wsX7_isIn := goodIn_r _ [5] (by decide +kernel) (by decide +kernel)
set_option maxRecDepth 20000 in
theorem gX7_isType_X7_isIn : GoodIn wsX7_isType (va_wsS RX7 99 yX7_isIn wsX7_isIn) := goodIn_app (goodIn_of _ (by decide +kernel)) ggX7_isType_X7_isIn
theorem dX7_isType_0 : decode cX7_isType 0 = .ok (.iload_n 1, 1) := by decide +kernel
theorem dX7_isType_1 : decode cX7_isType 1 = .ok (.iconst 0, 1) := by decide +kernel
theorem dX7_isType_2 : decode cX7_isType 2 = .ok (.aload_n 0, 1) := by decide +kernel
theorem dX7_isType_3 : decode cX7_isType 3 = .ok (.getfield 20, 3) := by decide +kernel
theorem dX7_isType_6 : decode cX7_isType 6 = .ok (.iconst 1, 1) := by decide +kernel
theorem dX7_isType_7 : decode cX7_isType 7 = .ok (.isub, 1) := by decide +kernel
theorem dX7_isType_8 : decode cX7_isType 8 = .ok (.invokestatic 99, 3) := by decide +kernel
theorem dX7_isType_11 : decode cX7_isType 11 = .ok (.ireturn, 1) := by decide +kernel
set_option maxRecDepth 20000 in
theorem ggX7_isClosed_X7_isType : GoodIn wsX7_isClosed wsX7_isType := goodIn_r _ [6, 7, 8, 9, 5, 10, 11, 12, 13, 14, 15, 16, 17, 18, 19, 20, 21, 22, 23, 24, 25, 26, 27, 28, 29, 30, 31, 32, 33, 34, 35, 36, 37, 38, 39, 40, 41, 42, 43, 44, 45] (by decide +kernel) (by decide +kernel)
set_option maxRecDepth 20000 in
theorem gX7_isClosed_X7_isType : GoodIn wsX7_isClosed (wsV RX7 103 RX7 yX7_isType wsX7_isType) := goodIn_app (goodIn_of _ (by decide +kernel)) ggX7_isClosed_X7_isType
theorem dX7_isClosed_0 : decode cX7_isClosed 0 = .ok (.aload_n 0, 1) := by decide +kernel
theorem dX7_isClosed_1 : decode cX7_isClosed 1 = .ok (.iload_n 1, 1) := by decide +kernel
theorem dX7_isClosed_2 : decode cX7_isClosed 2 = .ok (.invokevirtual 103, 3) := by decide +kernel
theorem dX7_isClosed_5 : decode cX7_isClosed 5 = .ok (.ifCond .eq 16, 3) := by decide +kernel
theorem dX7_isClosed_8 : decode cX7_isClosed 8 = .ok (.aload_n 0, 1) := by decide +kernel
theorem dX7_isClosed_9 : decode cX7_isClosed 9 = .ok (.getfield 32, 3) := by decide +kernel
theorem dX7_isClosed_12 : decode cX7_isClosed 12 = .ok (.iload_n 1, 1) := by decide +kernel
theorem dX7_isClosed_13 : decode cX7_isClosed 13 = .ok (.iaload, 1) := by decide +kernel
theorem dX7_isClosed_14 : decode cX7_isClosed 14 = .ok (.ifCond .ne 7, 3) := by decide +kernel
theorem dX7_isClosed_17 : decode cX7_isClosed 17 = .ok (.iconst 1, 1) := by decide +kernel
theorem dX7_isClosed_18 : decode cX7_isClosed 18 = .ok (.goto 4, 3) := by decide +kernel
theorem dX7_isClosed_21 : decode cX7_isClosed 21 = .ok (.iconst 0, 1) := by decide +kernel
theorem dX7_isClosed_22 : decode cX7_isClosed 22 = .ok (.ireturn, 1) := by decide +kernel
set_option maxRecDepth 20000 in
theorem ggX7_isClassType_X7_isIn : GoodIn wsX7_isClassType wsX7_isIn := goodIn_r _ [5] (by decide +kernel) (by decide +kernel)
set_option maxRecDepth 20000 in
theorem gX7_isClassType_X7_isIn : GoodIn wsX7_isClassType (va_wsS RX7 99 yX7_isIn wsX7_isIn) := goodIn_app (goodIn_of _ (by decide +kernel)) ggX7_isClassType_X7_isIn
theorem dX7_isClassType_0 : decode cX7_isClassType 0 = .ok (.iload_n 1, 1) := by decide +kernel
theorem dX7_isClassType_1 : decode cX7_isClassType 1 = .ok (.bipush 6, 2) := by decide +kernel
theorem dX7_isClassType_3 : decode cX7_isClassType 3 = .ok (.aload_n 0, 1) := by decide +kernel
theorem dX7_isClassType_4 : decode cX7_isClassType 4 = .ok (.getfield 20, 3) := by decide +kernel
theorem dX7_isClassType_7 : decode cX7_isClassType 7 = .ok (.iconst 1, 1) := by decide +kernel
theorem dX7_isClassType_8 : decode cX7_isClassType 8 = .ok (.isub, 1) := by decide +kernel
theorem dX7_isClassType_9 : decode cX7_isClassType 9 = .ok (.invokestatic 99, 3) := by decide +kernel
theorem dX7_isClassType_12 : decode cX7_isClassType 12 = .ok (.ireturn, 1) := by decide +kernel
theorem dX7_isPrimitive_0 : decode cX7_isPrimitive 0 = .ok (.iload_n 0, 1) := by decide +kernel
theorem dX7_isPrimitive_1 : decode cX7_isPrimitive 1 = .ok (.iconst 4, 1) := by decide +kernel
theorem dX7_isPrimitive_2 : decode cX7_isPrimitive 2 = .ok (.if_icmp .ge 7, 3) := by decide +kernel
theorem dX7_isPrimitive_5 : decode cX7_isPrimitive 5 = .ok (.iconst 1, 1) := by decide +kernel
theorem dX7_isPrimitive_6 : decode cX7_isPrimitive 6 = .ok (.goto 4, 3) := by decide +kernel
theorem dX7_isPrimitive_9 : decode cX7_isPrimitive 9 = .ok (.iconst 0, 1) := by decide +kernel
theorem dX7_isPrimitive_10 : decode cX7_isPrimitive 10 = .ok (.ireturn, 1) := by decide +kernel
theorem dX7_made_0 : decode cX7_made 0 = .ok (.bipush 6, 2) := by decide +kernel
theorem dX7_made_2 : decode cX7_made 2 = .ok (.istore 4, 2) := by decide +kernel
theorem dX7_made_4 : decode cX7_made 4 = .ok (.iload 4, 2) := by decide +kernel
theorem dX7_made_6 : decode cX7_made 6 = .ok (.aload_n 0, 1) := by decide +kernel
theorem dX7_made_7 : decode cX7_made 7 = .ok (.getfield 20, 3) := by decide +kernel
theorem dX7_made_10 : decode cX7_made 10 = .ok (.if_icmp .ge 45, 3) := by decide +kernel
theorem dX7_made_13 : decode cX7_made 13 = .ok (.aload_n 0, 1) := by decide +kernel
theorem dX7_made_14 : decode cX7_made 14 = .ok (.getfield 23, 3) := by decide +kernel
theorem dX7_made_17 : decode cX7_made 17 = .ok (.iload 4, 2) := by decide +kernel
theorem dX7_made_19 : decode cX7_made 19 = .ok (.iaload, 1) := by decide +kernel
theorem dX7_made_20 : decode cX7_made 20 = .ok (.iload_n 1, 1) := by decide +kernel
theorem dX7_made_21 : decode cX7_made 21 = .ok (.if_icmp .ne 28, 3) := by decide +kernel
theorem dX7_made_24 : decode cX7_made 24 = .ok (.aload_n 0, 1) := by decide +kernel
theorem dX7_made_25 : decode cX7_made 25 = .ok (.getfield 26, 3) := by decide +kernel
theorem dX7_made_28 : decode cX7_made 28 = .ok (.iload 4, 2) := by decide +kernel
theorem dX7_made_30 : decode cX7_made 30 = .ok (.iaload, 1) := by decide +kernel
theorem dX7_made_31 : decode cX7_made 31 = .ok (.iload_n 2, 1) := by decide +kernel
theorem dX7_made_32 : decode cX7_made 32 = .ok (.if_icmp .ne 17, 3) := by decide +kernel
theorem dX7_made_35 : decode cX7_made 35 = .ok (.aload_n 0, 1) := by decide +kernel
theorem dX7_made_36 : decode cX7_made 36 = .ok (.getfield 29, 3) := by decide +kernel
theorem dX7_made_39 : decode cX7_made 39 = .ok (.iload 4, 2) := by decide +kernel
theorem dX7_made_41 : decode cX7_made 41 = .ok (.iaload, 1) := by decide +kernel
theorem dX7_made_42 : decode cX7_made 42 = .ok (.iload_n 3, 1) := by decide +kernel
theorem dX7_made_43 : decode cX7_made 43 = .ok (.if_icmp .ne 6, 3) := by decide +kernel
theorem dX7_made_46 : decode cX7_made 46 = .ok (.iload 4, 2) := by decide +kernel
theorem dX7_made_48 : decode cX7_made 48 = .ok (.ireturn, 1) := by decide +kernel
theorem dX7_made_49 : decode cX7_made 49 = .ok (.iinc 4 1, 3) := by decide +kernel
theorem dX7_made_52 : decode cX7_made 52 = .ok (.goto (-48), 3) := by decide +kernel
theorem dX7_made_55 : decode cX7_made 55 = .ok (.aload_n 0, 1) := by decide +kernel
theorem dX7_made_56 : decode cX7_made 56 = .ok (.getfield 20, 3) := by decide +kernel
theorem dX7_made_59 : decode cX7_made 59 = .ok (.bipush 80, 2) := by decide +kernel
theorem dX7_made_61 : decode cX7_made 61 = .ok (.if_icmp .ne 6, 3) := by decide +kernel
theorem dX7_made_64 : decode cX7_made 64 = .ok (.bipush (-3), 2) := by decide +kernel
theorem dX7_made_66 : decode cX7_made 66 = .ok (.ireturn, 1) := by decide +kernel
theorem dX7_made_67 : decode cX7_made 67 = .ok (.aload_n 0, 1) := by decide +kernel
theorem dX7_made_68 : decode cX7_made 68 = .ok (.getfield 23, 3) := by decide +kernel
theorem dX7_made_71 : decode cX7_made 71 = .ok (.aload_n 0, 1) := by decide +kernel
theorem dX7_made_72 : decode cX7_made 72 = .ok (.getfield 20, 3) := by decide +kernel
theorem dX7_made_75 : decode cX7_made 75 = .ok (.iload_n 1, 1) := by decide +kernel
theorem dX7_made_76 : decode cX7_made 76 = .ok (.iastore, 1) := by decide +kernel
theorem dX7_made_77 : decode cX7_made 77 = .ok (.aload_n 0, 1) := by decide +kernel
theorem dX7_made_78 : decode cX7_made 78 = .ok (.getfield 26, 3) := by decide +kernel
theorem dX7_made_81 : decode cX7_made 81 = .ok (.aload_n 0, 1) := by decide +kernel
theorem dX7_made_82 : decode cX7_made 82 = .ok (.getfield 20, 3) := by decide +kernel
theorem dX7_made_85 : decode cX7_made 85 = .ok (.iload_n 2, 1) := by decide +kernel
theorem dX7_made_86 : decode cX7_made 86 = .ok (.iastore, 1) := by decide +kernel
theorem dX7_made_87 : decode cX7_made 87 = .ok (.aload_n 0, 1) := by decide +kernel
theorem dX7_made_88 : decode cX7_made 88 = .ok (.getfield 29, 3) := by decide +kernel
theorem dX7_made_91 : decode cX7_made 91 = .ok (.aload_n 0, 1) := by decide +kernel
theorem dX7_made_92 : decode cX7_made 92 = .ok (.getfield 20, 3) := by decide +kernel
theorem dX7_made_95 : decode cX7_made 95 = .ok (.iload_n 3, 1) := by decide +kernel
theorem dX7_made_96 : decode cX7_made 96 = .ok (.iastore, 1) := by decide +kernel
theorem dX7_made_97 : decode cX7_made 97 = .ok (.aload_n 0, 1) := by decide +kernel
theorem dX7_made_98 : decode cX7_made 98 = .ok (.getfield 32, 3) := by decide +kernel
theorem dX7_made_101 : decode cX7_made 101 = .ok (.aload_n 0, 1) := by decide +kernel
theorem dX7_made_102 : decode cX7_made 102 = .ok (.getfield 20, 3) := by decide +kernel
theorem dX7_made_105 : decode cX7_made 105 = .ok (.iload_n 2, 1) := by decide +kernel
theorem dX7_made_106 : decode cX7_made 106 = .ok (.ifCond .ge 7, 3) := by decide +kernel
theorem dX7_made_109 : decode cX7_made 109 = .ok (.iconst 0, 1) := by decide +kernel
theorem dX7_made_110 : decode cX7_made 110 = .ok (.goto 9, 3) := by decide +kernel
theorem dX7_made_113 : decode cX7_made 113 = .ok (.aload_n 0, 1) := by decide +kernel
theorem dX7_made_114 : decode cX7_made 114 = .ok (.getfield 32, 3) := by decide +kernel
theorem dX7_made_117 : decode cX7_made 117 = .ok (.iload_n 2, 1) := by decide +kernel
theorem dX7_made_118 : decode cX7_made 118 = .ok (.iaload, 1) := by decide +kernel
theorem dX7_made_119 : decode cX7_made 119 = .ok (.iload_n 3, 1) := by decide +kernel
theorem dX7_made_120 : decode cX7_made 120 = .ok (.ifCond .ge 7, 3) := by decide +kernel
theorem dX7_made_123 : decode cX7_made 123 = .ok (.iconst 0, 1) := by decide +kernel
theorem dX7_made_124 : decode cX7_made 124 = .ok (.goto 9, 3) := by decide +kernel
theorem dX7_made_127 : decode cX7_made 127 = .ok (.aload_n 0, 1) := by decide +kernel
theorem dX7_made_128 : decode cX7_made 128 = .ok (.getfield 32, 3) := by decide +kernel
theorem dX7_made_131 : decode cX7_made 131 = .ok (.iload_n 3, 1) := by decide +kernel
theorem dX7_made_132 : decode cX7_made 132 = .ok (.iaload, 1) := by decide +kernel
theorem dX7_made_133 : decode cX7_made 133 = .ok (.ior, 1) := by decide +kernel
theorem dX7_made_134 : decode cX7_made 134 = .ok (.iastore, 1) := by decide +kernel
theorem dX7_made_135 : decode cX7_made 135 = .ok (.aload_n 0, 1) := by decide +kernel
theorem dX7_made_136 : decode cX7_made 136 = .ok (.dup, 1) := by decide +kernel
theorem dX7_made_137 : decode cX7_made 137 = .ok (.getfield 20, 3) := by decide +kernel
theorem dX7_made_140 : decode cX7_made 140 = .ok (.iconst 1, 1) := by decide +kernel
theorem dX7_made_141 : decode cX7_made 141 = .ok (.iadd, 1) := by decide +kernel
theorem dX7_made_142 : decode cX7_made 142 = .ok (.putfield 20, 3) := by decide +kernel
theorem dX7_made_145 : decode cX7_made 145 = .ok (.aload_n 0, 1) := by decide +kernel
theorem dX7_made_146 : decode cX7_made 146 = .ok (.getfield 20, 3) := by decide +kernel
theorem dX7_made_149 : decode cX7_made 149 = .ok (.iconst 1, 1) := by decide +kernel
theorem dX7_made_150 : decode cX7_made 150 = .ok (.isub, 1) := by decide +kernel
theorem dX7_made_151 : decode cX7_made 151 = .ok (.ireturn, 1) := by decide +kernel
set_option maxRecDepth 20000 in
theorem ggX7_classOf_X7_isIn : GoodIn wsX7_classOf wsX7_isIn := goodIn_r _ [8] (by decide +kernel) (by decide +kernel)
set_option maxRecDepth 20000 in
theorem gX7_classOf_X7_isIn : GoodIn wsX7_classOf (va_wsS RX7 99 yX7_isIn wsX7_isIn) := goodIn_app (goodIn_of _ (by decide +kernel)) ggX7_classOf_X7_isIn
set_option maxRecDepth 20000 in
theorem ggX7_classOf_X7_isClassType : GoodIn wsX7_classOf wsX7_isClassType := goodIn_r _ [12, 13, 5, 6, 7, 8, 14, 15, 16, 17, 18, 19, 20, 21, 22, 23, 24, 25, 26, 27, 28, 29, 30, 31, 32, 33, 34, 35, 36, 37, 38, 39, 40, 41, 42, 43, 44, 45, 46, 47, 48] (by decide +kernel) (by decide +kernel)
set_option maxRecDepth 20000 in
theorem gX7_classOf_X7_isClassType : GoodIn wsX7_classOf (wsV RX7 107 RX7 yX7_isClassType wsX7_isClassType) := goodIn_app (goodIn_of _ (by decide +kernel)) ggX7_classOf_X7_isClassType
theorem dX7_classOf_0 : decode cX7_classOf 0 = .ok (.iload_n 1, 1) := by decide +kernel
theorem dX7_classOf_1 : decode cX7_classOf 1 = .ok (.iconst 0, 1) := by decide +kernel
theorem dX7_classOf_2 : decode cX7_classOf 2 = .ok (.iconst 2, 1) := by decide +kernel
theorem dX7_classOf_3 : decode cX7_classOf 3 = .ok (.invokestatic 99, 3) := by decide +kernel
theorem dX7_classOf_6 : decode cX7_classOf 6 = .ok (.ifCond .eq 22, 3) := by decide +kernel
theorem dX7_classOf_9 : decode cX7_classOf 9 = .ok (.aload_n 0, 1) := by decide +kernel
theorem dX7_classOf_10 : decode cX7_classOf 10 = .ok (.iload_n 2, 1) := by decide +kernel
theorem dX7_classOf_11 : decode cX7_classOf 11 = .ok (.invokevirtual 107, 3) := by decide +kernel
theorem dX7_classOf_14 : decode cX7_classOf 14 = .ok (.ifCond .eq 14, 3) := by decide +kernel
theorem dX7_classOf_17 : decode cX7_classOf 17 = .ok (.aload_n 0, 1) := by decide +kernel
theorem dX7_classOf_18 : decode cX7_classOf 18 = .ok (.getfield 32, 3) := by decide +kernel
theorem dX7_classOf_21 : decode cX7_classOf 21 = .ok (.iload_n 2, 1) := by decide +kernel
theorem dX7_classOf_22 : decode cX7_classOf 22 = .ok (.iaload, 1) := by decide +kernel
theorem dX7_classOf_23 : decode cX7_classOf 23 = .ok (.iload_n 1, 1) := by decide +kernel
theorem dX7_classOf_24 : decode cX7_classOf 24 = .ok (.ishr, 1) := by decide +kernel
theorem dX7_classOf_25 : decode cX7_classOf 25 = .ok (.ifCond .eq 6, 3) := by decide +kernel
theorem dX7_classOf_28 : decode cX7_classOf 28 = .ok (.bipush (-2), 2) := by decide +kernel
theorem dX7_classOf_30 : decode cX7_classOf 30 = .ok (.ireturn, 1) := by decide +kernel
theorem dX7_classOf_31 : decode cX7_classOf 31 = .ok (.aload_n 0, 1) := by decide +kernel
theorem dX7_classOf_32 : decode cX7_classOf 32 = .ok (.getfield 7, 3) := by decide +kernel
theorem dX7_classOf_35 : decode cX7_classOf 35 = .ok (.bipush 12, 2) := by decide +kernel
theorem dX7_classOf_37 : decode cX7_classOf 37 = .ok (.if_icmp .ne 6, 3) := by decide +kernel
theorem dX7_classOf_40 : decode cX7_classOf 40 = .ok (.bipush (-3), 2) := by decide +kernel
theorem dX7_classOf_42 : decode cX7_classOf 42 = .ok (.ireturn, 1) := by decide +kernel
theorem dX7_classOf_43 : decode cX7_classOf 43 = .ok (.aload_n 0, 1) := by decide +kernel
theorem dX7_classOf_44 : decode cX7_classOf 44 = .ok (.getfield 13, 3) := by decide +kernel
theorem dX7_classOf_47 : decode cX7_classOf 47 = .ok (.aload_n 0, 1) := by decide +kernel
theorem dX7_classOf_48 : decode cX7_classOf 48 = .ok (.getfield 7, 3) := by decide +kernel
theorem dX7_classOf_51 : decode cX7_classOf 51 = .ok (.iload_n 1, 1) := by decide +kernel
theorem dX7_classOf_52 : decode cX7_classOf 52 = .ok (.iastore, 1) := by decide +kernel
theorem dX7_classOf_53 : decode cX7_classOf 53 = .ok (.aload_n 0, 1) := by decide +kernel
theorem dX7_classOf_54 : decode cX7_classOf 54 = .ok (.getfield 17, 3) := by decide +kernel
theorem dX7_classOf_57 : decode cX7_classOf 57 = .ok (.aload_n 0, 1) := by decide +kernel
theorem dX7_classOf_58 : decode cX7_classOf 58 = .ok (.getfield 7, 3) := by decide +kernel
theorem dX7_classOf_61 : decode cX7_classOf 61 = .ok (.iload_n 2, 1) := by decide +kernel
theorem dX7_classOf_62 : decode cX7_classOf 62 = .ok (.iastore, 1) := by decide +kernel
theorem dX7_classOf_63 : decode cX7_classOf 63 = .ok (.aload_n 0, 1) := by decide +kernel
theorem dX7_classOf_64 : decode cX7_classOf 64 = .ok (.dup, 1) := by decide +kernel
theorem dX7_classOf_65 : decode cX7_classOf 65 = .ok (.getfield 7, 3) := by decide +kernel
theorem dX7_classOf_68 : decode cX7_classOf 68 = .ok (.iconst 1, 1) := by decide +kernel
theorem dX7_classOf_69 : decode cX7_classOf 69 = .ok (.iadd, 1) := by decide +kernel
theorem dX7_classOf_70 : decode cX7_classOf 70 = .ok (.putfield 7, 3) := by decide +kernel
theorem dX7_classOf_73 : decode cX7_classOf 73 = .ok (.aload_n 0, 1) := by decide +kernel
theorem dX7_classOf_74 : decode cX7_classOf 74 = .ok (.getfield 7, 3) := by decide +kernel
theorem dX7_classOf_77 : decode cX7_classOf 77 = .ok (.iconst 1, 1) := by decide +kernel
theorem dX7_classOf_78 : decode cX7_classOf 78 = .ok (.isub, 1) := by decide +kernel
theorem dX7_classOf_79 : decode cX7_classOf 79 = .ok (.ireturn, 1) := by decide +kernel
set_option maxRecDepth 20000 in
theorem ggX7_isArgument_X7_isType : GoodIn wsX7_isArgument wsX7_isType := goodIn_r _ [5, 6, 7, 8, 4, 9, 13, 14, 15, 16, 17, 18, 19, 20, 21, 22, 23, 24, 25, 26, 27, 28, 29, 30, 31, 32, 33, 34, 35, 36, 37, 38, 39, 40, 41, 42, 43, 44, 45, 46, 47] (by decide +kernel) (by decide +kernel)
set_option maxRecDepth 20000 in
theorem gX7_isArgument_X7_isType : GoodIn wsX7_isArgument (wsV RX7 103 RX7 yX7_isType wsX7_isType) := goodIn_app (goodIn_of _ (by decide +kernel)) ggX7_isArgument_X7_isType
set_option maxRecDepth 20000 in
theorem ggX7_isArgument_X7_isPrimitive : GoodIn wsX7_isArgument wsX7_isPrimitive := goodIn_r _ [12] (by decide +kernel) (by decide +kernel)
set_option maxRecDepth 20000 in
theorem gX7_isArgument_X7_isPrimitive : GoodIn wsX7_isArgument (va_wsS RX7 110 yX7_isPrimitive wsX7_isPrimitive) := goodIn_app (goodIn_of _ (by decide +kernel)) ggX7_isArgument_X7_isPrimitive
theorem dX7_isArgument_0 : decode cX7_isArgument 0 = .ok (.aload_n 0, 1) := by decide +kernel
theorem dX7_isArgument_1 : decode cX7_isArgument 1 = .ok (.iload_n 1, 1) := by decide +kernel
theorem dX7_isArgument_2 : decode cX7_isArgument 2 = .ok (.invokevirtual 103, 3) := by decide +kernel
theorem dX7_isArgument_5 : decode cX7_isArgument 5 = .ok (.ifCond .eq 14, 3) := by decide +kernel
theorem dX7_isArgument_8 : decode cX7_isArgument 8 = .ok (.iload_n 1, 1) := by decide +kernel
theorem dX7_isArgument_9 : decode cX7_isArgument 9 = .ok (.invokestatic 110, 3) := by decide +kernel
theorem dX7_isArgument_12 : decode cX7_isArgument 12 = .ok (.ifCond .ne 7, 3) := by decide +kernel
theorem dX7_isArgument_15 : decode cX7_isArgument 15 = .ok (.iconst 1, 1) := by decide +kernel
theorem dX7_isArgument_16 : decode cX7_isArgument 16 = .ok (.goto 4, 3) := by decide +kernel
theorem dX7_isArgument_19 : decode cX7_isArgument 19 = .ok (.iconst 0, 1) := by decide +kernel
theorem dX7_isArgument_20 : decode cX7_isArgument 20 = .ok (.ireturn, 1) := by decide +kernel
set_option maxRecDepth 20000 in
theorem ggX7_type_X7_isClass : GoodIn wsX7_type wsX7_isClass := goodIn_r _ [6, 7, 8, 9, 5, 10, 31, 32, 33, 34, 35, 36, 37, 38, 39, 40, 41, 42, 43, 44, 45, 46, 47, 48, 49, 50, 51, 52, 53, 54, 55, 56, 57, 58, 59, 60, 61, 62, 63, 64, 65] (by decide +kernel) (by decide +kernel)
set_option maxRecDepth 20000 in
theorem gX7_type_X7_isClass : GoodIn wsX7_type (wsV RX7 113 RX7 yX7_isClass wsX7_isClass) := goodIn_app (goodIn_of _ (by decide +kernel)) ggX7_type_X7_isClass
set_option maxRecDepth 20000 in
theorem ggX7_type_X7_isArgument : GoodIn wsX7_type wsX7_isArgument := goodIn_r _ [14, 15, 16, 17, 5, 18, 19, 8, 9, 10, 20, 21, 22, 31, 32, 33, 34, 35, 36, 37, 38, 39, 40, 41, 42, 43, 44, 45, 46, 47, 48, 49, 50, 51, 52, 53, 54, 55, 56, 57, 58, 59, 60, 61, 62, 63, 64, 65] (by decide +kernel) (by decide +kernel)
set_option maxRecDepth 20000 in
theorem gX7_type_X7_isArgument : GoodIn wsX7_type (wsV RX7 116 RX7 yX7_isArgument wsX7_isArgument) := goodIn_app (goodIn_of _ (by decide +kernel)) ggX7_type_X7_isArgument
set_option maxRecDepth 20000 in
theorem ggX7_type_X7_made : GoodIn wsX7_type wsX7_made := goodIn_r _ [26, 19, 27, 28, 29, 30, 31, 32, 33, 34, 35, 36, 37, 38, 39, 40, 41, 42, 43, 44, 45, 46, 47, 48, 49, 50, 51, 52, 53, 54, 55, 56, 57, 58, 59, 60, 61, 62, 63, 64, 65] (by decide +kernel) (by decide +kernel)
set_option maxRecDepth 20000 in
theorem gX7_type_X7_made : GoodIn wsX7_type (wsV RX7 119 RX7 yX7_made wsX7_made) := goodIn_app (goodIn_of _ (by decide +kernel)) ggX7_type_X7_made
theorem dX7_type_0 : decode cX7_type 0 = .ok (.aload_n 0, 1) := by decide +kernel
theorem dX7_type_1 : decode cX7_type 1 = .ok (.iload_n 1, 1) := by decide +kernel
theorem dX7_type_2 : decode cX7_type 2 = .ok (.invokevirtual 113, 3) := by decide +kernel
theorem dX7_type_5 : decode cX7_type 5 = .ok (.ifCond .eq 38, 3) := by decide +kernel
theorem dX7_type_8 : decode cX7_type 8 = .ok (.aload_n 0, 1) := by decide +kernel
theorem dX7_type_9 : decode cX7_type 9 = .ok (.getfield 13, 3) := by decide +kernel
theorem dX7_type_12 : decode cX7_type 12 = .ok (.iload_n 1, 1) := by decide +kernel
theorem dX7_type_13 : decode cX7_type 13 = .ok (.iaload, 1) := by decide +kernel
theorem dX7_type_14 : decode cX7_type 14 = .ok (.ifCond .le 11, 3) := by decide +kernel
theorem dX7_type_17 : decode cX7_type 17 = .ok (.aload_n 0, 1) := by decide +kernel
theorem dX7_type_18 : decode cX7_type 18 = .ok (.iload_n 2, 1) := by decide +kernel
theorem dX7_type_19 : decode cX7_type 19 = .ok (.invokevirtual 116, 3) := by decide +kernel
theorem dX7_type_22 : decode cX7_type 22 = .ok (.ifCond .eq 21, 3) := by decide +kernel
theorem dX7_type_25 : decode cX7_type 25 = .ok (.aload_n 0, 1) := by decide +kernel
theorem dX7_type_26 : decode cX7_type 26 = .ok (.getfield 13, 3) := by decide +kernel
theorem dX7_type_29 : decode cX7_type 29 = .ok (.iload_n 1, 1) := by decide +kernel
theorem dX7_type_30 : decode cX7_type 30 = .ok (.iaload, 1) := by decide +kernel
theorem dX7_type_31 : decode cX7_type 31 = .ok (.iconst 1, 1) := by decide +kernel
theorem dX7_type_32 : decode cX7_type 32 = .ok (.if_icmp .le 14, 3) := by decide +kernel
theorem dX7_type_35 : decode cX7_type 35 = .ok (.aload_n 0, 1) := by decide +kernel
theorem dX7_type_36 : decode cX7_type 36 = .ok (.iload_n 3, 1) := by decide +kernel
theorem dX7_type_37 : decode cX7_type 37 = .ok (.invokevirtual 116, 3) := by decide +kernel
theorem dX7_type_40 : decode cX7_type 40 = .ok (.ifCond .ne 6, 3) := by decide +kernel
theorem dX7_type_43 : decode cX7_type 43 = .ok (.bipush (-2), 2) := by decide +kernel
theorem dX7_type_45 : decode cX7_type 45 = .ok (.ireturn, 1) := by decide +kernel
theorem dX7_type_46 : decode cX7_type 46 = .ok (.aload_n 0, 1) := by decide +kernel
theorem dX7_type_47 : decode cX7_type 47 = .ok (.iload_n 1, 1) := by decide +kernel
theorem dX7_type_48 : decode cX7_type 48 = .ok (.aload_n 0, 1) := by decide +kernel
theorem dX7_type_49 : decode cX7_type 49 = .ok (.getfield 13, 3) := by decide +kernel
theorem dX7_type_52 : decode cX7_type 52 = .ok (.iload_n 1, 1) := by decide +kernel
theorem dX7_type_53 : decode cX7_type 53 = .ok (.iaload, 1) := by decide +kernel
theorem dX7_type_54 : decode cX7_type 54 = .ok (.ifCond .le 7, 3) := by decide +kernel
theorem dX7_type_57 : decode cX7_type 57 = .ok (.iload_n 2, 1) := by decide +kernel
theorem dX7_type_58 : decode cX7_type 58 = .ok (.goto 4, 3) := by decide +kernel
theorem dX7_type_61 : decode cX7_type 61 = .ok (.iconst (-1), 1) := by decide +kernel
theorem dX7_type_62 : decode cX7_type 62 = .ok (.aload_n 0, 1) := by decide +kernel
theorem dX7_type_63 : decode cX7_type 63 = .ok (.getfield 13, 3) := by decide +kernel
theorem dX7_type_66 : decode cX7_type 66 = .ok (.iload_n 1, 1) := by decide +kernel
theorem dX7_type_67 : decode cX7_type 67 = .ok (.iaload, 1) := by decide +kernel
theorem dX7_type_68 : decode cX7_type 68 = .ok (.iconst 1, 1) := by decide +kernel
theorem dX7_type_69 : decode cX7_type 69 = .ok (.if_icmp .le 7, 3) := by decide +kernel
theorem dX7_type_72 : decode cX7_type 72 = .ok (.iload_n 3, 1) := by decide +kernel
theorem dX7_type_73 : decode cX7_type 73 = .ok (.goto 4, 3) := by decide +kernel
theorem dX7_type_76 : decode cX7_type 76 = .ok (.iconst (-1), 1) := by decide +kernel
theorem dX7_type_77 : decode cX7_type 77 = .ok (.invokevirtual 119, 3) := by decide +kernel
theorem dX7_type_80 : decode cX7_type 80 = .ok (.ireturn, 1) := by decide +kernel
set_option maxRecDepth 20000 in
theorem ggX7_about_X7_isType : GoodIn wsX7_about wsX7_isType := goodIn_r _ [9, 10, 11, 12, 8, 13, 14, 15, 16, 17, 18, 19, 20, 21, 22, 23, 24, 25, 26, 27, 28, 29, 30, 31, 32, 33, 34, 35, 36, 37, 38, 39, 40, 41, 42, 43, 44, 45, 46, 47, 48] (by decide +kernel) (by decide +kernel)
set_option maxRecDepth 20000 in
theorem gX7_about_X7_isType : GoodIn wsX7_about (wsV RX7 103 RX7 yX7_isType wsX7_isType) := goodIn_app (goodIn_of _ (by decide +kernel)) ggX7_about_X7_isType
set_option maxRecDepth 20000 in
theorem ggX7_about_X7_isIn : GoodIn wsX7_about wsX7_isIn := goodIn_r _ [13] (by decide +kernel) (by decide +kernel)
set_option maxRecDepth 20000 in
theorem gX7_about_X7_isIn : GoodIn wsX7_about (va_wsS RX7 99 yX7_isIn wsX7_isIn) := goodIn_app (goodIn_of _ (by decide +kernel)) ggX7_about_X7_isIn
theorem dX7_about_0 : decode cX7_about 0 = .ok (.aload_n 0, 1) := by decide +kernel
theorem dX7_about_1 : decode cX7_about 1 = .ok (.iload_n 1, 1) := by decide +kernel
theorem dX7_about_2 : decode cX7_about 2 = .ok (.invokevirtual 103, 3) := by decide +kernel
theorem dX7_about_5 : decode cX7_about 5 = .ok (.ifCond .eq 12, 3) := by decide +kernel
theorem dX7_about_8 : decode cX7_about 8 = .ok (.iload_n 2, 1) := by decide +kernel
theorem dX7_about_9 : decode cX7_about 9 = .ok (.iconst 0, 1) := by decide +kernel
theorem dX7_about_10 : decode cX7_about 10 = .ok (.iconst 3, 1) := by decide +kernel
theorem dX7_about_11 : decode cX7_about 11 = .ok (.invokestatic 99, 3) := by decide +kernel
theorem dX7_about_14 : decode cX7_about 14 = .ok (.ifCond .ne 6, 3) := by decide +kernel
theorem dX7_about_17 : decode cX7_about 17 = .ok (.bipush (-2), 2) := by decide +kernel
theorem dX7_about_19 : decode cX7_about 19 = .ok (.ireturn, 1) := by decide +kernel
theorem dX7_about_20 : decode cX7_about 20 = .ok (.iload_n 2, 1) := by decide +kernel
theorem dX7_about_21 : decode cX7_about 21 = .ok (.ifCond .ne 12, 3) := by decide +kernel
theorem dX7_about_24 : decode cX7_about 24 = .ok (.aload_n 0, 1) := by decide +kernel
theorem dX7_about_25 : decode cX7_about 25 = .ok (.getfield 23, 3) := by decide +kernel
theorem dX7_about_28 : decode cX7_about 28 = .ok (.iload_n 1, 1) := by decide +kernel
theorem dX7_about_29 : decode cX7_about 29 = .ok (.iaload, 1) := by decide +kernel
theorem dX7_about_30 : decode cX7_about 30 = .ok (.goto 45, 3) := by decide +kernel
theorem dX7_about_33 : decode cX7_about 33 = .ok (.iload_n 2, 1) := by decide +kernel
theorem dX7_about_34 : decode cX7_about 34 = .ok (.iconst 1, 1) := by decide +kernel
theorem dX7_about_35 : decode cX7_about 35 = .ok (.if_icmp .ne 12, 3) := by decide +kernel
theorem dX7_about_38 : decode cX7_about 38 = .ok (.aload_n 0, 1) := by decide +kernel
theorem dX7_about_39 : decode cX7_about 39 = .ok (.getfield 26, 3) := by decide +kernel
theorem dX7_about_42 : decode cX7_about 42 = .ok (.iload_n 1, 1) := by decide +kernel
theorem dX7_about_43 : decode cX7_about 43 = .ok (.iaload, 1) := by decide +kernel
theorem dX7_about_44 : decode cX7_about 44 = .ok (.goto 31, 3) := by decide +kernel
theorem dX7_about_47 : decode cX7_about 47 = .ok (.iload_n 2, 1) := by decide +kernel
theorem dX7_about_48 : decode cX7_about 48 = .ok (.iconst 2, 1) := by decide +kernel
theorem dX7_about_49 : decode cX7_about 49 = .ok (.if_icmp .ne 12, 3) := by decide +kernel
theorem dX7_about_52 : decode cX7_about 52 = .ok (.aload_n 0, 1) := by decide +kernel
theorem dX7_about_53 : decode cX7_about 53 = .ok (.getfield 29, 3) := by decide +kernel
theorem dX7_about_56 : decode cX7_about 56 = .ok (.iload_n 1, 1) := by decide +kernel
theorem dX7_about_57 : decode cX7_about 57 = .ok (.iaload, 1) := by decide +kernel
theorem dX7_about_58 : decode cX7_about 58 = .ok (.goto 17, 3) := by decide +kernel
theorem dX7_about_61 : decode cX7_about 61 = .ok (.aload_n 0, 1) := by decide +kernel
theorem dX7_about_62 : decode cX7_about 62 = .ok (.getfield 32, 3) := by decide +kernel
theorem dX7_about_65 : decode cX7_about 65 = .ok (.iload_n 1, 1) := by decide +kernel
theorem dX7_about_66 : decode cX7_about 66 = .ok (.iaload, 1) := by decide +kernel
theorem dX7_about_67 : decode cX7_about 67 = .ok (.ifCond .ne 7, 3) := by decide +kernel
theorem dX7_about_70 : decode cX7_about 70 = .ok (.iconst 1, 1) := by decide +kernel
theorem dX7_about_71 : decode cX7_about 71 = .ok (.goto 4, 3) := by decide +kernel
theorem dX7_about_74 : decode cX7_about 74 = .ok (.iconst 0, 1) := by decide +kernel
theorem dX7_about_75 : decode cX7_about 75 = .ok (.ireturn, 1) := by decide +kernel
theorem dX7_push_0 : decode cX7_push 0 = .ok (.aload_n 0, 1) := by decide +kernel
theorem dX7_push_1 : decode cX7_push 1 = .ok (.getfield 38, 3) := by decide +kernel
theorem dX7_push_4 : decode cX7_push 4 = .ok (.aload_n 0, 1) := by decide +kernel
theorem dX7_push_5 : decode cX7_push 5 = .ok (.getfield 123, 3) := by decide +kernel
theorem dX7_push_8 : decode cX7_push 8 = .ok (.iload_n 1, 1) := by decide +kernel
theorem dX7_push_9 : decode cX7_push 9 = .ok (.iastore, 1) := by decide +kernel
theorem dX7_push_10 : decode cX7_push 10 = .ok (.aload_n 0, 1) := by decide +kernel
theorem dX7_push_11 : decode cX7_push 11 = .ok (.dup, 1) := by decide +kernel
theorem dX7_push_12 : decode cX7_push 12 = .ok (.getfield 123, 3) := by decide +kernel
theorem dX7_push_15 : decode cX7_push 15 = .ok (.iconst 1, 1) := by decide +kernel
theorem dX7_push_16 : decode cX7_push 16 = .ok (.iadd, 1) := by decide +kernel
theorem dX7_push_17 : decode cX7_push 17 = .ok (.putfield 123, 3) := by decide +kernel
theorem dX7_push_20 : decode cX7_push 20 = .ok (.return_, 1) := by decide +kernel
set_option maxRecDepth 20000 in
theorem ggX7_put_X7_push : GoodIn wsX7_put wsX7_push := goodIn_r _ [12, 3, 2, 22, 23, 24, 25, 26, 27, 28, 29, 30, 31, 32, 33, 34, 35, 36, 37, 38, 39, 40, 41, 42, 43, 44, 45, 46, 47, 48, 49, 50, 51, 52, 53, 54, 55, 56] (by decide +kernel) (by decide +kernel)
set_option maxRecDepth 20000 in
theorem gX7_put_X7_push : GoodIn wsX7_put (wsV RX7 126 RX7 yX7_push wsX7_push) := goodIn_app (goodIn_of _ (by decide +kernel)) ggX7_put_X7_push
set_option maxRecDepth 20000 in
theorem ggX7_put_X7_isOpen : GoodIn wsX7_put wsX7_isOpen := goodIn_r _ [16, 1, 22, 23, 24, 25, 26, 27, 28, 29, 30, 31, 32, 33, 34, 35, 36, 37, 38, 39, 40, 41, 42, 43, 44, 45, 46, 47, 48, 49, 50, 51, 52, 53, 54, 55, 56] (by decide +kernel) (by decide +kernel)
set_option maxRecDepth 20000 in
theorem gX7_put_X7_isOpen : GoodIn wsX7_put (wsV RX7 130 RX7 yX7_isOpen wsX7_isOpen) := goodIn_app (goodIn_of _ (by decide +kernel)) ggX7_put_X7_isOpen
set_option maxRecDepth 20000 in
theorem ggX7_put_X7_made : GoodIn wsX7_put wsX7_made := goodIn_r _ [20, 21, 7, 5, 6, 4, 22, 23, 24, 25, 26, 27, 28, 29, 30, 31, 32, 33, 34, 35, 36, 37, 38, 39, 40, 41, 42, 43, 44, 45, 46, 47, 48, 49, 50, 51, 52, 53, 54, 55, 56] (by decide +kernel) (by decide +kernel)
set_option maxRecDepth 20000 in
theorem gX7_put_X7_made : GoodIn wsX7_put (wsV RX7 119 RX7 yX7_made wsX7_made) := goodIn_app (goodIn_of _ (by decide +kernel)) ggX7_put_X7_made
theorem dX7_put_0 : decode cX7_put 0 = .ok (.iconst 0, 1) := by decide +kernel
theorem dX7_put_1 : decode cX7_put 1 = .ok (.istore 4, 2) := by decide +kernel
theorem dX7_put_3 : decode cX7_put 3 = .ok (.iload 4, 2) := by decide +kernel
theorem dX7_put_5 : decode cX7_put 5 = .ok (.bipush 80, 2) := by decide +kernel
theorem dX7_put_7 : decode cX7_put 7 = .ok (.if_icmp .ge 17, 3) := by decide +kernel
theorem dX7_put_10 : decode cX7_put 10 = .ok (.aload_n 0, 1) := by decide +kernel
theorem dX7_put_11 : decode cX7_put 11 = .ok (.getfield 35, 3) := by decide +kernel
theorem dX7_put_14 : decode cX7_put 14 = .ok (.iload 4, 2) := by decide +kernel
theorem dX7_put_16 : decode cX7_put 16 = .ok (.iconst (-1), 1) := by decide +kernel
theorem dX7_put_17 : decode cX7_put 17 = .ok (.iastore, 1) := by decide +kernel
theorem dX7_put_18 : decode cX7_put 18 = .ok (.iinc 4 1, 3) := by decide +kernel
theorem dX7_put_21 : decode cX7_put 21 = .ok (.goto (-18), 3) := by decide +kernel
theorem dX7_put_24 : decode cX7_put 24 = .ok (.aload_n 0, 1) := by decide +kernel
theorem dX7_put_25 : decode cX7_put 25 = .ok (.getfield 35, 3) := by decide +kernel
theorem dX7_put_28 : decode cX7_put 28 = .ok (.iconst 4, 1) := by decide +kernel
theorem dX7_put_29 : decode cX7_put 29 = .ok (.iload_n 2, 1) := by decide +kernel
theorem dX7_put_30 : decode cX7_put 30 = .ok (.iastore, 1) := by decide +kernel
theorem dX7_put_31 : decode cX7_put 31 = .ok (.aload_n 0, 1) := by decide +kernel
theorem dX7_put_32 : decode cX7_put 32 = .ok (.getfield 35, 3) := by decide +kernel
theorem dX7_put_35 : decode cX7_put 35 = .ok (.iconst 5, 1) := by decide +kernel
theorem dX7_put_36 : decode cX7_put 36 = .ok (.iload_n 3, 1) := by decide +kernel
theorem dX7_put_37 : decode cX7_put 37 = .ok (.iastore, 1) := by decide +kernel
theorem dX7_put_38 : decode cX7_put 38 = .ok (.aload_n 0, 1) := by decide +kernel
theorem dX7_put_39 : decode cX7_put 39 = .ok (.iconst 0, 1) := by decide +kernel
theorem dX7_put_40 : decode cX7_put 40 = .ok (.putfield 123, 3) := by decide +kernel
theorem dX7_put_43 : decode cX7_put 43 = .ok (.aload_n 0, 1) := by decide +kernel
theorem dX7_put_44 : decode cX7_put 44 = .ok (.iload_n 1, 1) := by decide +kernel
theorem dX7_put_45 : decode cX7_put 45 = .ok (.invokevirtual 126, 3) := by decide +kernel
theorem dX7_put_48 : decode cX7_put 48 = .ok (.aload_n 0, 1) := by decide +kernel
theorem dX7_put_49 : decode cX7_put 49 = .ok (.getfield 123, 3) := by decide +kernel
theorem dX7_put_52 : decode cX7_put 52 = .ok (.ifCond .le 236, 3) := by decide +kernel
theorem dX7_put_55 : decode cX7_put 55 = .ok (.aload_n 0, 1) := by decide +kernel
theorem dX7_put_56 : decode cX7_put 56 = .ok (.getfield 38, 3) := by decide +kernel
theorem dX7_put_59 : decode cX7_put 59 = .ok (.aload_n 0, 1) := by decide +kernel
theorem dX7_put_60 : decode cX7_put 60 = .ok (.getfield 123, 3) := by decide +kernel
theorem dX7_put_63 : decode cX7_put 63 = .ok (.iconst 1, 1) := by decide +kernel
theorem dX7_put_64 : decode cX7_put 64 = .ok (.isub, 1) := by decide +kernel
theorem dX7_put_65 : decode cX7_put 65 = .ok (.iaload, 1) := by decide +kernel
theorem dX7_put_66 : decode cX7_put 66 = .ok (.istore 4, 2) := by decide +kernel
theorem dX7_put_68 : decode cX7_put 68 = .ok (.iload 4, 2) := by decide +kernel
theorem dX7_put_70 : decode cX7_put 70 = .ok (.iconst 4, 1) := by decide +kernel
theorem dX7_put_71 : decode cX7_put 71 = .ok (.if_icmp .eq 28, 3) := by decide +kernel
theorem dX7_put_74 : decode cX7_put 74 = .ok (.iload 4, 2) := by decide +kernel
theorem dX7_put_76 : decode cX7_put 76 = .ok (.iconst 5, 1) := by decide +kernel
theorem dX7_put_77 : decode cX7_put 77 = .ok (.if_icmp .eq 22, 3) := by decide +kernel
theorem dX7_put_80 : decode cX7_put 80 = .ok (.aload_n 0, 1) := by decide +kernel
theorem dX7_put_81 : decode cX7_put 81 = .ok (.getfield 32, 3) := by decide +kernel
theorem dX7_put_84 : decode cX7_put 84 = .ok (.iload 4, 2) := by decide +kernel
theorem dX7_put_86 : decode cX7_put 86 = .ok (.iaload, 1) := by decide +kernel
theorem dX7_put_87 : decode cX7_put 87 = .ok (.ifCond .ne 12, 3) := by decide +kernel
theorem dX7_put_90 : decode cX7_put 90 = .ok (.aload_n 0, 1) := by decide +kernel
theorem dX7_put_91 : decode cX7_put 91 = .ok (.getfield 35, 3) := by decide +kernel
theorem dX7_put_94 : decode cX7_put 94 = .ok (.iload 4, 2) := by decide +kernel
theorem dX7_put_96 : decode cX7_put 96 = .ok (.iload 4, 2) := by decide +kernel
theorem dX7_put_98 : decode cX7_put 98 = .ok (.iastore, 1) := by decide +kernel
theorem dX7_put_99 : decode cX7_put 99 = .ok (.iload 4, 2) := by decide +kernel
theorem dX7_put_101 : decode cX7_put 101 = .ok (.iconst 4, 1) := by decide +kernel
theorem dX7_put_102 : decode cX7_put 102 = .ok (.if_icmp .eq 20, 3) := by decide +kernel
theorem dX7_put_105 : decode cX7_put 105 = .ok (.iload 4, 2) := by decide +kernel
theorem dX7_put_107 : decode cX7_put 107 = .ok (.iconst 5, 1) := by decide +kernel
theorem dX7_put_108 : decode cX7_put 108 = .ok (.if_icmp .eq 14, 3) := by decide +kernel
theorem dX7_put_111 : decode cX7_put 111 = .ok (.aload_n 0, 1) := by decide +kernel
theorem dX7_put_112 : decode cX7_put 112 = .ok (.getfield 35, 3) := by decide +kernel
theorem dX7_put_115 : decode cX7_put 115 = .ok (.iload 4, 2) := by decide +kernel
theorem dX7_put_117 : decode cX7_put 117 = .ok (.iaload, 1) := by decide +kernel
theorem dX7_put_118 : decode cX7_put 118 = .ok (.iconst (-1), 1) := by decide +kernel
theorem dX7_put_119 : decode cX7_put 119 = .ok (.if_icmp .eq 16, 3) := by decide +kernel
theorem dX7_put_122 : decode cX7_put 122 = .ok (.aload_n 0, 1) := by decide +kernel
theorem dX7_put_123 : decode cX7_put 123 = .ok (.dup, 1) := by decide +kernel
theorem dX7_put_124 : decode cX7_put 124 = .ok (.getfield 123, 3) := by decide +kernel
theorem dX7_put_127 : decode cX7_put 127 = .ok (.iconst 1, 1) := by decide +kernel
theorem dX7_put_128 : decode cX7_put 128 = .ok (.isub, 1) := by decide +kernel
theorem dX7_put_129 : decode cX7_put 129 = .ok (.putfield 123, 3) := by decide +kernel
theorem dX7_put_132 : decode cX7_put 132 = .ok (.goto 153, 3) := by decide +kernel
theorem dX7_put_135 : decode cX7_put 135 = .ok (.aload_n 0, 1) := by decide +kernel
theorem dX7_put_136 : decode cX7_put 136 = .ok (.aload_n 0, 1) := by decide +kernel
theorem dX7_put_137 : decode cX7_put 137 = .ok (.getfield 26, 3) := by decide +kernel
theorem dX7_put_140 : decode cX7_put 140 = .ok (.iload 4, 2) := by decide +kernel
theorem dX7_put_142 : decode cX7_put 142 = .ok (.iaload, 1) := by decide +kernel
theorem dX7_put_143 : decode cX7_put 143 = .ok (.invokevirtual 130, 3) := by decide +kernel
theorem dX7_put_146 : decode cX7_put 146 = .ok (.ifCond .eq 17, 3) := by decide +kernel
theorem dX7_put_149 : decode cX7_put 149 = .ok (.aload_n 0, 1) := by decide +kernel
theorem dX7_put_150 : decode cX7_put 150 = .ok (.aload_n 0, 1) := by decide +kernel
theorem dX7_put_151 : decode cX7_put 151 = .ok (.getfield 26, 3) := by decide +kernel
theorem dX7_put_154 : decode cX7_put 154 = .ok (.iload 4, 2) := by decide +kernel
theorem dX7_put_156 : decode cX7_put 156 = .ok (.iaload, 1) := by decide +kernel
theorem dX7_put_157 : decode cX7_put 157 = .ok (.invokevirtual 126, 3) := by decide +kernel
theorem dX7_put_160 : decode cX7_put 160 = .ok (.goto 125, 3) := by decide +kernel
theorem dX7_put_163 : decode cX7_put 163 = .ok (.aload_n 0, 1) := by decide +kernel
theorem dX7_put_164 : decode cX7_put 164 = .ok (.aload_n 0, 1) := by decide +kernel
theorem dX7_put_165 : decode cX7_put 165 = .ok (.getfield 29, 3) := by decide +kernel
theorem dX7_put_168 : decode cX7_put 168 = .ok (.iload 4, 2) := by decide +kernel
theorem dX7_put_170 : decode cX7_put 170 = .ok (.iaload, 1) := by decide +kernel
theorem dX7_put_171 : decode cX7_put 171 = .ok (.invokevirtual 130, 3) := by decide +kernel
theorem dX7_put_174 : decode cX7_put 174 = .ok (.ifCond .eq 17, 3) := by decide +kernel
theorem dX7_put_177 : decode cX7_put 177 = .ok (.aload_n 0, 1) := by decide +kernel
theorem dX7_put_178 : decode cX7_put 178 = .ok (.aload_n 0, 1) := by decide +kernel
theorem dX7_put_179 : decode cX7_put 179 = .ok (.getfield 29, 3) := by decide +kernel
theorem dX7_put_182 : decode cX7_put 182 = .ok (.iload 4, 2) := by decide +kernel
theorem dX7_put_184 : decode cX7_put 184 = .ok (.iaload, 1) := by decide +kernel
theorem dX7_put_185 : decode cX7_put 185 = .ok (.invokevirtual 126, 3) := by decide +kernel
theorem dX7_put_188 : decode cX7_put 188 = .ok (.goto 97, 3) := by decide +kernel
theorem dX7_put_191 : decode cX7_put 191 = .ok (.aload_n 0, 1) := by decide +kernel
theorem dX7_put_192 : decode cX7_put 192 = .ok (.aload_n 0, 1) := by decide +kernel
theorem dX7_put_193 : decode cX7_put 193 = .ok (.getfield 23, 3) := by decide +kernel
theorem dX7_put_196 : decode cX7_put 196 = .ok (.iload 4, 2) := by decide +kernel
theorem dX7_put_198 : decode cX7_put 198 = .ok (.iaload, 1) := by decide +kernel
theorem dX7_put_199 : decode cX7_put 199 = .ok (.aload_n 0, 1) := by decide +kernel
theorem dX7_put_200 : decode cX7_put 200 = .ok (.getfield 26, 3) := by decide +kernel
theorem dX7_put_203 : decode cX7_put 203 = .ok (.iload 4, 2) := by decide +kernel
theorem dX7_put_205 : decode cX7_put 205 = .ok (.iaload, 1) := by decide +kernel
theorem dX7_put_206 : decode cX7_put 206 = .ok (.ifCond .ge 7, 3) := by decide +kernel
theorem dX7_put_209 : decode cX7_put 209 = .ok (.iconst (-1), 1) := by decide +kernel
theorem dX7_put_210 : decode cX7_put 210 = .ok (.goto 15, 3) := by decide +kernel
theorem dX7_put_213 : decode cX7_put 213 = .ok (.aload_n 0, 1) := by decide +kernel
theorem dX7_put_214 : decode cX7_put 214 = .ok (.getfield 35, 3) := by decide +kernel
theorem dX7_put_217 : decode cX7_put 217 = .ok (.aload_n 0, 1) := by decide +kernel
theorem dX7_put_218 : decode cX7_put 218 = .ok (.getfield 26, 3) := by decide +kernel
theorem dX7_put_221 : decode cX7_put 221 = .ok (.iload 4, 2) := by decide +kernel
theorem dX7_put_223 : decode cX7_put 223 = .ok (.iaload, 1) := by decide +kernel
theorem dX7_put_224 : decode cX7_put 224 = .ok (.iaload, 1) := by decide +kernel
theorem dX7_put_225 : decode cX7_put 225 = .ok (.aload_n 0, 1) := by decide +kernel
theorem dX7_put_226 : decode cX7_put 226 = .ok (.getfield 29, 3) := by decide +kernel
theorem dX7_put_229 : decode cX7_put 229 = .ok (.iload 4, 2) := by decide +kernel
theorem dX7_put_231 : decode cX7_put 231 = .ok (.iaload, 1) := by decide +kernel
theorem dX7_put_232 : decode cX7_put 232 = .ok (.ifCond .ge 7, 3) := by decide +kernel
theorem dX7_put_235 : decode cX7_put 235 = .ok (.iconst (-1), 1) := by decide +kernel
theorem dX7_put_236 : decode cX7_put 236 = .ok (.goto 15, 3) := by decide +kernel
theorem dX7_put_239 : decode cX7_put 239 = .ok (.aload_n 0, 1) := by decide +kernel
theorem dX7_put_240 : decode cX7_put 240 = .ok (.getfield 35, 3) := by decide +kernel
theorem dX7_put_243 : decode cX7_put 243 = .ok (.aload_n 0, 1) := by decide +kernel
theorem dX7_put_244 : decode cX7_put 244 = .ok (.getfield 29, 3) := by decide +kernel
theorem dX7_put_247 : decode cX7_put 247 = .ok (.iload 4, 2) := by decide +kernel
theorem dX7_put_249 : decode cX7_put 249 = .ok (.iaload, 1) := by decide +kernel
theorem dX7_put_250 : decode cX7_put 250 = .ok (.iaload, 1) := by decide +kernel
theorem dX7_put_251 : decode cX7_put 251 = .ok (.invokevirtual 119, 3) := by decide +kernel
theorem dX7_put_254 : decode cX7_put 254 = .ok (.istore 5, 2) := by decide +kernel
theorem dX7_put_256 : decode cX7_put 256 = .ok (.iload 5, 2) := by decide +kernel
theorem dX7_put_258 : decode cX7_put 258 = .ok (.bipush (-3), 2) := by decide +kernel
theorem dX7_put_260 : decode cX7_put 260 = .ok (.if_icmp .ne 6, 3) := by decide +kernel
theorem dX7_put_263 : decode cX7_put 263 = .ok (.bipush (-3), 2) := by decide +kernel
theorem dX7_put_265 : decode cX7_put 265 = .ok (.ireturn, 1) := by decide +kernel
theorem dX7_put_266 : decode cX7_put 266 = .ok (.aload_n 0, 1) := by decide +kernel
theorem dX7_put_267 : decode cX7_put 267 = .ok (.getfield 35, 3) := by decide +kernel
theorem dX7_put_270 : decode cX7_put 270 = .ok (.iload 4, 2) := by decide +kernel
theorem dX7_put_272 : decode cX7_put 272 = .ok (.iload 5, 2) := by decide +kernel
theorem dX7_put_274 : decode cX7_put 274 = .ok (.iastore, 1) := by decide +kernel
theorem dX7_put_275 : decode cX7_put 275 = .ok (.aload_n 0, 1) := by decide +kernel
theorem dX7_put_276 : decode cX7_put 276 = .ok (.dup, 1) := by decide +kernel
theorem dX7_put_277 : decode cX7_put 277 = .ok (.getfield 123, 3) := by decide +kernel
theorem dX7_put_280 : decode cX7_put 280 = .ok (.iconst 1, 1) := by decide +kernel
theorem dX7_put_281 : decode cX7_put 281 = .ok (.isub, 1) := by decide +kernel
theorem dX7_put_282 : decode cX7_put 282 = .ok (.putfield 123, 3) := by decide +kernel
theorem dX7_put_285 : decode cX7_put 285 = .ok (.goto (-237), 3) := by decide +kernel
theorem dX7_put_288 : decode cX7_put 288 = .ok (.aload_n 0, 1) := by decide +kernel
theorem dX7_put_289 : decode cX7_put 289 = .ok (.getfield 35, 3) := by decide +kernel
theorem dX7_put_292 : decode cX7_put 292 = .ok (.iload_n 1, 1) := by decide +kernel
theorem dX7_put_293 : decode cX7_put 293 = .ok (.iaload, 1) := by decide +kernel
theorem dX7_put_294 : decode cX7_put 294 = .ok (.ireturn, 1) := by decide +kernel
theorem dX7_isOpen_0 : decode cX7_isOpen 0 = .ok (.iload_n 1, 1) := by decide +kernel
theorem dX7_isOpen_1 : decode cX7_isOpen 1 = .ok (.iconst 5, 1) := by decide +kernel
theorem dX7_isOpen_2 : decode cX7_isOpen 2 = .ok (.if_icmp .le 17, 3) := by decide +kernel
theorem dX7_isOpen_5 : decode cX7_isOpen 5 = .ok (.aload_n 0, 1) := by decide +kernel
theorem dX7_isOpen_6 : decode cX7_isOpen 6 = .ok (.getfield 35, 3) := by decide +kernel
theorem dX7_isOpen_9 : decode cX7_isOpen 9 = .ok (.iload_n 1, 1) := by decide +kernel
theorem dX7_isOpen_10 : decode cX7_isOpen 10 = .ok (.iaload, 1) := by decide +kernel
theorem dX7_isOpen_11 : decode cX7_isOpen 11 = .ok (.iconst (-1), 1) := by decide +kernel
theorem dX7_isOpen_12 : decode cX7_isOpen 12 = .ok (.if_icmp .ne 7, 3) := by decide +kernel
theorem dX7_isOpen_15 : decode cX7_isOpen 15 = .ok (.iconst 1, 1) := by decide +kernel
theorem dX7_isOpen_16 : decode cX7_isOpen 16 = .ok (.goto 4, 3) := by decide +kernel
theorem dX7_isOpen_19 : decode cX7_isOpen 19 = .ok (.iconst 0, 1) := by decide +kernel
theorem dX7_isOpen_20 : decode cX7_isOpen 20 = .ok (.ireturn, 1) := by decide +kernel
theorem dX7_comesFrom_0 : decode cX7_comesFrom 0 = .ok (.iload_n 1, 1) := by decide +kernel
theorem dX7_comesFrom_1 : decode cX7_comesFrom 1 = .ok (.istore_n 3, 1) := by decide +kernel
theorem dX7_comesFrom_2 : decode cX7_comesFrom 2 = .ok (.iload_n 3, 1) := by decide +kernel
theorem dX7_comesFrom_3 : decode cX7_comesFrom 3 = .ok (.iload_n 2, 1) := by decide +kernel
theorem dX7_comesFrom_4 : decode cX7_comesFrom 4 = .ok (.if_icmp .eq 22, 3) := by decide +kernel
theorem dX7_comesFrom_7 : decode cX7_comesFrom 7 = .ok (.iload_n 3, 1) := by decide +kernel
theorem dX7_comesFrom_8 : decode cX7_comesFrom 8 = .ok (.ifCond .eq 18, 3) := by decide +kernel
theorem dX7_comesFrom_11 : decode cX7_comesFrom 11 = .ok (.aload_n 0, 1) := by decide +kernel
theorem dX7_comesFrom_12 : decode cX7_comesFrom 12 = .ok (.getfield 23, 3) := by decide +kernel
theorem dX7_comesFrom_15 : decode cX7_comesFrom 15 = .ok (.aload_n 0, 1) := by decide +kernel
theorem dX7_comesFrom_16 : decode cX7_comesFrom 16 = .ok (.getfield 17, 3) := by decide +kernel
theorem dX7_comesFrom_19 : decode cX7_comesFrom 19 = .ok (.iload_n 3, 1) := by decide +kernel
theorem dX7_comesFrom_20 : decode cX7_comesFrom 20 = .ok (.iaload, 1) := by decide +kernel
theorem dX7_comesFrom_21 : decode cX7_comesFrom 21 = .ok (.iaload, 1) := by decide +kernel
theorem dX7_comesFrom_22 : decode cX7_comesFrom 22 = .ok (.istore_n 3, 1) := by decide +kernel
theorem dX7_comesFrom_23 : decode cX7_comesFrom 23 = .ok (.goto (-21), 3) := by decide +kernel
theorem dX7_comesFrom_26 : decode cX7_comesFrom 26 = .ok (.iload_n 3, 1) := by decide +kernel
theorem dX7_comesFrom_27 : decode cX7_comesFrom 27 = .ok (.iload_n 2, 1) := by decide +kernel
theorem dX7_comesFrom_28 : decode cX7_comesFrom 28 = .ok (.if_icmp .ne 7, 3) := by decide +kernel
theorem dX7_comesFrom_31 : decode cX7_comesFrom 31 = .ok (.iconst 1, 1) := by decide +kernel
theorem dX7_comesFrom_32 : decode cX7_comesFrom 32 = .ok (.goto 4, 3) := by decide +kernel
theorem dX7_comesFrom_35 : decode cX7_comesFrom 35 = .ok (.iconst 0, 1) := by decide +kernel
theorem dX7_comesFrom_36 : decode cX7_comesFrom 36 = .ok (.ireturn, 1) := by decide +kernel
set_option maxRecDepth 20000 in
theorem ggX7_seenAs_X7_comesFrom : GoodIn wsX7_seenAs wsX7_comesFrom := goodIn_r _ [9, 1, 2, 31, 32, 33, 34, 35, 36, 37, 38, 39, 40, 41, 42, 43, 44, 45, 46, 47, 48, 49, 50, 51, 52, 53, 54, 55, 56, 57, 58, 59, 60, 61, 62, 63, 64, 65] (by decide +kernel) (by decide +kernel)
set_option maxRecDepth 20000 in
theorem gX7_seenAs_X7_comesFrom : GoodIn wsX7_seenAs (wsV RX7 133 RX7 yX7_comesFrom wsX7_comesFrom) := goodIn_app (goodIn_of _ (by decide +kernel)) ggX7_seenAs_X7_comesFrom
set_option maxRecDepth 20000 in
theorem ggX7_seenAs_X7_put : GoodIn wsX7_seenAs wsX7_put := goodIn_r _ [13, 14, 15, 16, 17, 3, 4, 1, 18, 19, 20, 8, 21, 22, 23, 24, 25, 26, 27, 28, 29, 30, 31, 32, 33, 34, 35, 36, 37, 38, 39, 40, 41, 42, 43, 44, 45, 46, 47, 48, 49, 50, 51, 52, 53, 54, 55, 56, 57, 58, 59, 60, 61, 62, 63, 64, 65] (by decide +kernel) (by decide +kernel)
set_option maxRecDepth 20000 in
theorem gX7_seenAs_X7_put : GoodIn wsX7_seenAs (wsV RX7 137 RX7 yX7_put wsX7_put) := goodIn_app (goodIn_of _ (by decide +kernel)) ggX7_seenAs_X7_put
theorem dX7_seenAs_0 : decode cX7_seenAs 0 = .ok (.aload_n 0, 1) := by decide +kernel
theorem dX7_seenAs_1 : decode cX7_seenAs 1 = .ok (.aload_n 0, 1) := by decide +kernel
theorem dX7_seenAs_2 : decode cX7_seenAs 2 = .ok (.getfield 23, 3) := by decide +kernel
theorem dX7_seenAs_5 : decode cX7_seenAs 5 = .ok (.iload_n 1, 1) := by decide +kernel
theorem dX7_seenAs_6 : decode cX7_seenAs 6 = .ok (.iaload, 1) := by decide +kernel
theorem dX7_seenAs_7 : decode cX7_seenAs 7 = .ok (.iload_n 2, 1) := by decide +kernel
theorem dX7_seenAs_8 : decode cX7_seenAs 8 = .ok (.invokevirtual 133, 3) := by decide +kernel
theorem dX7_seenAs_11 : decode cX7_seenAs 11 = .ok (.ifCond .ne 5, 3) := by decide +kernel
theorem dX7_seenAs_14 : decode cX7_seenAs 14 = .ok (.iconst (-1), 1) := by decide +kernel
theorem dX7_seenAs_15 : decode cX7_seenAs 15 = .ok (.ireturn, 1) := by decide +kernel
theorem dX7_seenAs_16 : decode cX7_seenAs 16 = .ok (.iload_n 1, 1) := by decide +kernel
theorem dX7_seenAs_17 : decode cX7_seenAs 17 = .ok (.istore_n 3, 1) := by decide +kernel
theorem dX7_seenAs_18 : decode cX7_seenAs 18 = .ok (.iload_n 3, 1) := by decide +kernel
theorem dX7_seenAs_19 : decode cX7_seenAs 19 = .ok (.ifCond .lt 44, 3) := by decide +kernel
theorem dX7_seenAs_22 : decode cX7_seenAs 22 = .ok (.aload_n 0, 1) := by decide +kernel
theorem dX7_seenAs_23 : decode cX7_seenAs 23 = .ok (.getfield 23, 3) := by decide +kernel
theorem dX7_seenAs_26 : decode cX7_seenAs 26 = .ok (.iload_n 3, 1) := by decide +kernel
theorem dX7_seenAs_27 : decode cX7_seenAs 27 = .ok (.iaload, 1) := by decide +kernel
theorem dX7_seenAs_28 : decode cX7_seenAs 28 = .ok (.iload_n 2, 1) := by decide +kernel
theorem dX7_seenAs_29 : decode cX7_seenAs 29 = .ok (.if_icmp .eq 34, 3) := by decide +kernel
theorem dX7_seenAs_32 : decode cX7_seenAs 32 = .ok (.aload_n 0, 1) := by decide +kernel
theorem dX7_seenAs_33 : decode cX7_seenAs 33 = .ok (.aload_n 0, 1) := by decide +kernel
theorem dX7_seenAs_34 : decode cX7_seenAs 34 = .ok (.getfield 17, 3) := by decide +kernel
theorem dX7_seenAs_37 : decode cX7_seenAs 37 = .ok (.aload_n 0, 1) := by decide +kernel
theorem dX7_seenAs_38 : decode cX7_seenAs 38 = .ok (.getfield 23, 3) := by decide +kernel
theorem dX7_seenAs_41 : decode cX7_seenAs 41 = .ok (.iload_n 3, 1) := by decide +kernel
theorem dX7_seenAs_42 : decode cX7_seenAs 42 = .ok (.iaload, 1) := by decide +kernel
theorem dX7_seenAs_43 : decode cX7_seenAs 43 = .ok (.iaload, 1) := by decide +kernel
theorem dX7_seenAs_44 : decode cX7_seenAs 44 = .ok (.aload_n 0, 1) := by decide +kernel
theorem dX7_seenAs_45 : decode cX7_seenAs 45 = .ok (.getfield 26, 3) := by decide +kernel
theorem dX7_seenAs_48 : decode cX7_seenAs 48 = .ok (.iload_n 3, 1) := by decide +kernel
theorem dX7_seenAs_49 : decode cX7_seenAs 49 = .ok (.iaload, 1) := by decide +kernel
theorem dX7_seenAs_50 : decode cX7_seenAs 50 = .ok (.aload_n 0, 1) := by decide +kernel
theorem dX7_seenAs_51 : decode cX7_seenAs 51 = .ok (.getfield 29, 3) := by decide +kernel
theorem dX7_seenAs_54 : decode cX7_seenAs 54 = .ok (.iload_n 3, 1) := by decide +kernel
theorem dX7_seenAs_55 : decode cX7_seenAs 55 = .ok (.iaload, 1) := by decide +kernel
theorem dX7_seenAs_56 : decode cX7_seenAs 56 = .ok (.invokevirtual 137, 3) := by decide +kernel
theorem dX7_seenAs_59 : decode cX7_seenAs 59 = .ok (.istore_n 3, 1) := by decide +kernel
theorem dX7_seenAs_60 : decode cX7_seenAs 60 = .ok (.goto (-42), 3) := by decide +kernel
theorem dX7_seenAs_63 : decode cX7_seenAs 63 = .ok (.iload_n 3, 1) := by decide +kernel
theorem dX7_seenAs_64 : decode cX7_seenAs 64 = .ok (.ireturn, 1) := by decide +kernel
set_option maxRecDepth 20000 in
theorem ggX7_seen_X7_isClassType : GoodIn wsX7_seen wsX7_isClassType := goodIn_r _ [5, 6, 7, 8, 4, 9, 47, 48, 49, 50, 51, 52, 53, 54, 55, 56, 57, 58, 59, 60, 61, 62, 63, 64, 65, 66, 67, 68, 69, 70, 71, 72, 73, 74, 75, 76, 77, 78, 79, 80, 81] (by decide +kernel) (by decide +kernel)
set_option maxRecDepth 20000 in
theorem gX7_seen_X7_isClassType : GoodIn wsX7_seen (wsV RX7 107 RX7 yX7_isClassType wsX7_isClassType) := goodIn_app (goodIn_of _ (by decide +kernel)) ggX7_seen_X7_isClassType
set_option maxRecDepth 20000 in
theorem ggX7_seen_X7_isClass : GoodIn wsX7_seen wsX7_isClass := goodIn_r _ [13, 14, 7, 8, 4, 9, 47, 48, 49, 50, 51, 52, 53, 54, 55, 56, 57, 58, 59, 60, 61, 62, 63, 64, 65, 66, 67, 68, 69, 70, 71, 72, 73, 74, 75, 76, 77, 78, 79, 80, 81] (by decide +kernel) (by decide +kernel)
set_option maxRecDepth 20000 in
theorem gX7_seen_X7_isClass : GoodIn wsX7_seen (wsV RX7 113 RX7 yX7_isClass wsX7_isClass) := goodIn_app (goodIn_of _ (by decide +kernel)) ggX7_seen_X7_isClass
set_option maxRecDepth 20000 in
theorem ggX7_seen_X7_seenAs : GoodIn wsX7_seen wsX7_seenAs := goodIn_r _ [18, 19, 20, 21, 22, 23, 24, 25, 4, 26, 27, 28, 29, 30, 31, 32, 33, 34, 35, 36, 37, 38, 39, 40, 41, 42, 43, 44, 45, 46, 6, 47, 48, 49, 50, 51, 52, 53, 54, 55, 56, 57, 58, 59, 60, 61, 62, 63, 64, 65, 66, 67, 68, 69, 70, 71, 72, 73, 74, 75, 76, 77, 78, 79, 80, 81] (by decide +kernel) (by decide +kernel)
set_option maxRecDepth 20000 in
theorem gX7_seen_X7_seenAs : GoodIn wsX7_seen (wsV RX7 140 RX7 yX7_seenAs wsX7_seenAs) := goodIn_app (goodIn_of _ (by decide +kernel)) ggX7_seen_X7_seenAs
theorem dX7_seen_0 : decode cX7_seen 0 = .ok (.aload_n 0, 1) := by decide +kernel
theorem dX7_seen_1 : decode cX7_seen 1 = .ok (.iload_n 1, 1) := by decide +kernel
theorem dX7_seen_2 : decode cX7_seen 2 = .ok (.invokevirtual 107, 3) := by decide +kernel
theorem dX7_seen_5 : decode cX7_seen 5 = .ok (.ifCond .eq 20, 3) := by decide +kernel
theorem dX7_seen_8 : decode cX7_seen 8 = .ok (.aload_n 0, 1) := by decide +kernel
theorem dX7_seen_9 : decode cX7_seen 9 = .ok (.iload_n 2, 1) := by decide +kernel
theorem dX7_seen_10 : decode cX7_seen 10 = .ok (.invokevirtual 113, 3) := by decide +kernel
theorem dX7_seen_13 : decode cX7_seen 13 = .ok (.ifCond .eq 12, 3) := by decide +kernel
theorem dX7_seen_16 : decode cX7_seen 16 = .ok (.aload_n 0, 1) := by decide +kernel
theorem dX7_seen_17 : decode cX7_seen 17 = .ok (.iload_n 1, 1) := by decide +kernel
theorem dX7_seen_18 : decode cX7_seen 18 = .ok (.iload_n 2, 1) := by decide +kernel
theorem dX7_seen_19 : decode cX7_seen 19 = .ok (.invokevirtual 140, 3) := by decide +kernel
theorem dX7_seen_22 : decode cX7_seen 22 = .ok (.goto 5, 3) := by decide +kernel
theorem dX7_seen_25 : decode cX7_seen 25 = .ok (.bipush (-2), 2) := by decide +kernel
theorem dX7_seen_27 : decode cX7_seen 27 = .ok (.ireturn, 1) := by decide +kernel
set_option maxRecDepth 20000 in
theorem ggX7_goesFor_X7_isPrimitive : GoodIn wsX7_goesFor wsX7_isPrimitive := goodIn_r _ [5] (by decide +kernel) (by decide +kernel)
set_option maxRecDepth 20000 in
theorem gX7_goesFor_X7_isPrimitive : GoodIn wsX7_goesFor (va_wsS RX7 110 yX7_isPrimitive wsX7_isPrimitive) := goodIn_app (goodIn_of _ (by decide +kernel)) ggX7_goesFor_X7_isPrimitive
set_option maxRecDepth 20000 in
theorem ggX7_goesFor_X7_seenAs : GoodIn wsX7_goesFor wsX7_seenAs := goodIn_r _ [9, 1, 10, 11, 12, 13, 14, 15, 4, 16, 17, 18, 19, 20, 21, 22, 23, 24, 25, 26, 27, 28, 29, 30, 31, 32, 33, 34, 35, 36, 37, 38, 39, 40, 41, 42, 43, 44, 45, 46, 47, 48, 49, 50, 51, 52, 53, 54, 55, 56, 57, 58, 59, 60, 61, 62, 63, 64, 65, 66, 67, 68, 69, 70, 71, 72] (by decide +kernel) (by decide +kernel)
set_option maxRecDepth 20000 in
theorem gX7_goesFor_X7_seenAs : GoodIn wsX7_goesFor (wsV RX7 140 RX7 yX7_seenAs wsX7_seenAs) := goodIn_app (goodIn_of _ (by decide +kernel)) ggX7_goesFor_X7_seenAs
theorem dX7_goesFor_0 : decode cX7_goesFor 0 = .ok (.iload_n 1, 1) := by decide +kernel
theorem dX7_goesFor_1 : decode cX7_goesFor 1 = .ok (.iload_n 2, 1) := by decide +kernel
theorem dX7_goesFor_2 : decode cX7_goesFor 2 = .ok (.if_icmp .ne 5, 3) := by decide +kernel
theorem dX7_goesFor_5 : decode cX7_goesFor 5 = .ok (.iconst 1, 1) := by decide +kernel
theorem dX7_goesFor_6 : decode cX7_goesFor 6 = .ok (.ireturn, 1) := by decide +kernel
theorem dX7_goesFor_7 : decode cX7_goesFor 7 = .ok (.iload_n 1, 1) := by decide +kernel
theorem dX7_goesFor_8 : decode cX7_goesFor 8 = .ok (.invokestatic 110, 3) := by decide +kernel
theorem dX7_goesFor_11 : decode cX7_goesFor 11 = .ok (.ifCond .ne 10, 3) := by decide +kernel
theorem dX7_goesFor_14 : decode cX7_goesFor 14 = .ok (.iload_n 2, 1) := by decide +kernel
theorem dX7_goesFor_15 : decode cX7_goesFor 15 = .ok (.invokestatic 110, 3) := by decide +kernel
theorem dX7_goesFor_18 : decode cX7_goesFor 18 = .ok (.ifCond .eq 24, 3) := by decide +kernel
theorem dX7_goesFor_21 : decode cX7_goesFor 21 = .ok (.iload_n 1, 1) := by decide +kernel
theorem dX7_goesFor_22 : decode cX7_goesFor 22 = .ok (.iconst 1, 1) := by decide +kernel
theorem dX7_goesFor_23 : decode cX7_goesFor 23 = .ok (.if_icmp .ne 17, 3) := by decide +kernel
theorem dX7_goesFor_26 : decode cX7_goesFor 26 = .ok (.iload_n 2, 1) := by decide +kernel
theorem dX7_goesFor_27 : decode cX7_goesFor 27 = .ok (.iconst 2, 1) := by decide +kernel
theorem dX7_goesFor_28 : decode cX7_goesFor 28 = .ok (.if_icmp .eq 8, 3) := by decide +kernel
theorem dX7_goesFor_31 : decode cX7_goesFor 31 = .ok (.iload_n 2, 1) := by decide +kernel
theorem dX7_goesFor_32 : decode cX7_goesFor 32 = .ok (.iconst 3, 1) := by decide +kernel
theorem dX7_goesFor_33 : decode cX7_goesFor 33 = .ok (.if_icmp .ne 7, 3) := by decide +kernel
theorem dX7_goesFor_36 : decode cX7_goesFor 36 = .ok (.iconst 1, 1) := by decide +kernel
theorem dX7_goesFor_37 : decode cX7_goesFor 37 = .ok (.goto 4, 3) := by decide +kernel
theorem dX7_goesFor_40 : decode cX7_goesFor 40 = .ok (.iconst 0, 1) := by decide +kernel
theorem dX7_goesFor_41 : decode cX7_goesFor 41 = .ok (.ireturn, 1) := by decide +kernel
theorem dX7_goesFor_42 : decode cX7_goesFor 42 = .ok (.aload_n 0, 1) := by decide +kernel
theorem dX7_goesFor_43 : decode cX7_goesFor 43 = .ok (.iload_n 1, 1) := by decide +kernel
theorem dX7_goesFor_44 : decode cX7_goesFor 44 = .ok (.aload_n 0, 1) := by decide +kernel
theorem dX7_goesFor_45 : decode cX7_goesFor 45 = .ok (.getfield 23, 3) := by decide +kernel
theorem dX7_goesFor_48 : decode cX7_goesFor 48 = .ok (.iload_n 2, 1) := by decide +kernel
theorem dX7_goesFor_49 : decode cX7_goesFor 49 = .ok (.iaload, 1) := by decide +kernel
theorem dX7_goesFor_50 : decode cX7_goesFor 50 = .ok (.invokevirtual 140, 3) := by decide +kernel
theorem dX7_goesFor_53 : decode cX7_goesFor 53 = .ok (.istore_n 3, 1) := by decide +kernel
theorem dX7_goesFor_54 : decode cX7_goesFor 54 = .ok (.iload_n 3, 1) := by decide +kernel
theorem dX7_goesFor_55 : decode cX7_goesFor 55 = .ok (.bipush (-3), 2) := by decide +kernel
theorem dX7_goesFor_57 : decode cX7_goesFor 57 = .ok (.if_icmp .ne 8, 3) := by decide +kernel
theorem dX7_goesFor_60 : decode cX7_goesFor 60 = .ok (.bipush (-3), 2) := by decide +kernel
theorem dX7_goesFor_62 : decode cX7_goesFor 62 = .ok (.goto 13, 3) := by decide +kernel
theorem dX7_goesFor_65 : decode cX7_goesFor 65 = .ok (.iload_n 3, 1) := by decide +kernel
theorem dX7_goesFor_66 : decode cX7_goesFor 66 = .ok (.iload_n 2, 1) := by decide +kernel
theorem dX7_goesFor_67 : decode cX7_goesFor 67 = .ok (.if_icmp .ne 7, 3) := by decide +kernel
theorem dX7_goesFor_70 : decode cX7_goesFor 70 = .ok (.iconst 1, 1) := by decide +kernel
theorem dX7_goesFor_71 : decode cX7_goesFor 71 = .ok (.goto 4, 3) := by decide +kernel
theorem dX7_goesFor_74 : decode cX7_goesFor 74 = .ok (.iconst 0, 1) := by decide +kernel
theorem dX7_goesFor_75 : decode cX7_goesFor 75 = .ok (.ireturn, 1) := by decide +kernel
set_option maxRecDepth 20000 in
theorem ggX7_goes_X7_isClosed : GoodIn wsX7_goes wsX7_isClosed := goodIn_r _ [5, 6, 7, 8, 9, 4, 10, 11, 12, 13, 14, 53, 54, 55, 56, 57, 58, 59, 60, 61, 62, 63, 64, 65, 66, 67, 68, 69, 70, 71, 72, 73, 74, 75, 76, 77, 78, 79, 80, 81, 82, 83, 84, 85, 86, 87] (by decide +kernel) (by decide +kernel)
set_option maxRecDepth 20000 in
theorem gX7_goes_X7_isClosed : GoodIn wsX7_goes (wsV RX7 144 RX7 yX7_isClosed wsX7_isClosed) := goodIn_app (goodIn_of _ (by decide +kernel)) ggX7_goes_X7_isClosed
set_option maxRecDepth 20000 in
theorem ggX7_goes_X7_goesFor : GoodIn wsX7_goes wsX7_goesFor := goodIn_r _ [18, 19, 20, 21, 4, 22, 23, 24, 25, 26, 27, 28, 29, 30, 31, 32, 33, 34, 35, 36, 37, 38, 39, 40, 6, 41, 42, 43, 44, 45, 46, 47, 48, 49, 50, 51, 52, 11, 53, 54, 55, 56, 57, 58, 59, 60, 61, 62, 63, 64, 65, 66, 67, 68, 69, 70, 71, 72, 73, 74, 75, 76, 77, 78, 79, 80, 81, 82, 83, 84, 85, 86, 87] (by decide +kernel) (by decide +kernel)
set_option maxRecDepth 20000 in
theorem gX7_goes_X7_goesFor : GoodIn wsX7_goes (wsV RX7 147 RX7 yX7_goesFor wsX7_goesFor) := goodIn_app (goodIn_of _ (by decide +kernel)) ggX7_goes_X7_goesFor
theorem dX7_goes_0 : decode cX7_goes 0 = .ok (.aload_n 0, 1) := by decide +kernel
theorem dX7_goes_1 : decode cX7_goes 1 = .ok (.iload_n 1, 1) := by decide +kernel
theorem dX7_goes_2 : decode cX7_goes 2 = .ok (.invokevirtual 144, 3) := by decide +kernel
theorem dX7_goes_5 : decode cX7_goes 5 = .ok (.ifCond .eq 20, 3) := by decide +kernel
theorem dX7_goes_8 : decode cX7_goes 8 = .ok (.aload_n 0, 1) := by decide +kernel
theorem dX7_goes_9 : decode cX7_goes 9 = .ok (.iload_n 2, 1) := by decide +kernel
theorem dX7_goes_10 : decode cX7_goes 10 = .ok (.invokevirtual 144, 3) := by decide +kernel
theorem dX7_goes_13 : decode cX7_goes 13 = .ok (.ifCond .eq 12, 3) := by decide +kernel
theorem dX7_goes_16 : decode cX7_goes 16 = .ok (.aload_n 0, 1) := by decide +kernel
theorem dX7_goes_17 : decode cX7_goes 17 = .ok (.iload_n 1, 1) := by decide +kernel
theorem dX7_goes_18 : decode cX7_goes 18 = .ok (.iload_n 2, 1) := by decide +kernel
theorem dX7_goes_19 : decode cX7_goes 19 = .ok (.invokevirtual 147, 3) := by decide +kernel
theorem dX7_goes_22 : decode cX7_goes 22 = .ok (.goto 5, 3) := by decide +kernel
theorem dX7_goes_25 : decode cX7_goes 25 = .ok (.bipush (-2), 2) := by decide +kernel
theorem dX7_goes_27 : decode cX7_goes 27 = .ok (.ireturn, 1) := by decide +kernel
set_option maxRecDepth 20000 in
theorem ggX7_commonOf_X7_isPrimitive : GoodIn wsX7_commonOf wsX7_isPrimitive := goodIn_r _ [6] (by decide +kernel) (by decide +kernel)
set_option maxRecDepth 20000 in
theorem gX7_commonOf_X7_isPrimitive : GoodIn wsX7_commonOf (va_wsS RX7 110 yX7_isPrimitive wsX7_isPrimitive) := goodIn_app (goodIn_of _ (by decide +kernel)) ggX7_commonOf_X7_isPrimitive
set_option maxRecDepth 20000 in
theorem ggX7_commonOf_X7_comesFrom : GoodIn wsX7_commonOf wsX7_comesFrom := goodIn_r _ [10, 1, 2, 38, 39, 40, 41, 42, 43, 44, 45, 46, 47, 48, 49, 50, 51, 52, 53, 54, 55, 56, 57, 58, 59, 60, 61, 62, 63, 64, 65, 66, 67, 68, 69, 70, 71, 72] (by decide +kernel) (by decide +kernel)
set_option maxRecDepth 20000 in
theorem gX7_commonOf_X7_comesFrom : GoodIn wsX7_commonOf (wsV RX7 133 RX7 yX7_comesFrom wsX7_comesFrom) := goodIn_app (goodIn_of _ (by decide +kernel)) ggX7_commonOf_X7_comesFrom
set_option maxRecDepth 20000 in
theorem ggX7_commonOf_X7_seenAs : GoodIn wsX7_commonOf wsX7_seenAs := goodIn_r _ [14, 1, 2, 15, 16, 7, 8, 9, 5, 10, 17, 18, 19, 20, 21, 22, 23, 24, 25, 26, 27, 28, 29, 30, 31, 32, 33, 34, 35, 36, 37, 38, 39, 40, 41, 42, 43, 44, 45, 46, 47, 48, 49, 50, 51, 52, 53, 54, 55, 56, 57, 58, 59, 60, 61, 62, 63, 64, 65, 66, 67, 68, 69, 70, 71, 72] (by decide +kernel) (by decide +kernel)
set_option maxRecDepth 20000 in
theorem gX7_commonOf_X7_seenAs : GoodIn wsX7_commonOf (wsV RX7 140 RX7 yX7_seenAs wsX7_seenAs) := goodIn_app (goodIn_of _ (by decide +kernel)) ggX7_commonOf_X7_seenAs
theorem dX7_commonOf_0 : decode cX7_commonOf 0 = .ok (.iload_n 1, 1) := by decide +kernel
theorem dX7_commonOf_1 : decode cX7_commonOf 1 = .ok (.iload_n 2, 1) := by decide +kernel
theorem dX7_commonOf_2 : decode cX7_commonOf 2 = .ok (.if_icmp .ne 5, 3) := by decide +kernel
theorem dX7_commonOf_5 : decode cX7_commonOf 5 = .ok (.iload_n 1, 1) := by decide +kernel
theorem dX7_commonOf_6 : decode cX7_commonOf 6 = .ok (.ireturn, 1) := by decide +kernel
theorem dX7_commonOf_7 : decode cX7_commonOf 7 = .ok (.iload_n 1, 1) := by decide +kernel
theorem dX7_commonOf_8 : decode cX7_commonOf 8 = .ok (.invokestatic 110, 3) := by decide +kernel
theorem dX7_commonOf_11 : decode cX7_commonOf 11 = .ok (.ifCond .ne 10, 3) := by decide +kernel
theorem dX7_commonOf_14 : decode cX7_commonOf 14 = .ok (.iload_n 2, 1) := by decide +kernel
theorem dX7_commonOf_15 : decode cX7_commonOf 15 = .ok (.invokestatic 110, 3) := by decide +kernel
theorem dX7_commonOf_18 : decode cX7_commonOf 18 = .ok (.ifCond .eq 39, 3) := by decide +kernel
theorem dX7_commonOf_21 : decode cX7_commonOf 21 = .ok (.iload_n 1, 1) := by decide +kernel
theorem dX7_commonOf_22 : decode cX7_commonOf 22 = .ok (.iconst 1, 1) := by decide +kernel
theorem dX7_commonOf_23 : decode cX7_commonOf 23 = .ok (.if_icmp .ne 7, 3) := by decide +kernel
theorem dX7_commonOf_26 : decode cX7_commonOf 26 = .ok (.iload_n 2, 1) := by decide +kernel
theorem dX7_commonOf_27 : decode cX7_commonOf 27 = .ok (.goto 13, 3) := by decide +kernel
theorem dX7_commonOf_30 : decode cX7_commonOf 30 = .ok (.iload_n 2, 1) := by decide +kernel
theorem dX7_commonOf_31 : decode cX7_commonOf 31 = .ok (.iconst 1, 1) := by decide +kernel
theorem dX7_commonOf_32 : decode cX7_commonOf 32 = .ok (.if_icmp .ne 7, 3) := by decide +kernel
theorem dX7_commonOf_35 : decode cX7_commonOf 35 = .ok (.iload_n 1, 1) := by decide +kernel
theorem dX7_commonOf_36 : decode cX7_commonOf 36 = .ok (.goto 4, 3) := by decide +kernel
theorem dX7_commonOf_39 : decode cX7_commonOf 39 = .ok (.iconst (-1), 1) := by decide +kernel
theorem dX7_commonOf_40 : decode cX7_commonOf 40 = .ok (.istore_n 3, 1) := by decide +kernel
theorem dX7_commonOf_41 : decode cX7_commonOf 41 = .ok (.iload_n 3, 1) := by decide +kernel
theorem dX7_commonOf_42 : decode cX7_commonOf 42 = .ok (.iconst 2, 1) := by decide +kernel
theorem dX7_commonOf_43 : decode cX7_commonOf 43 = .ok (.if_icmp .eq 8, 3) := by decide +kernel
theorem dX7_commonOf_46 : decode cX7_commonOf 46 = .ok (.iload_n 3, 1) := by decide +kernel
theorem dX7_commonOf_47 : decode cX7_commonOf 47 = .ok (.iconst 3, 1) := by decide +kernel
theorem dX7_commonOf_48 : decode cX7_commonOf 48 = .ok (.if_icmp .ne 7, 3) := by decide +kernel
theorem dX7_commonOf_51 : decode cX7_commonOf 51 = .ok (.iload_n 3, 1) := by decide +kernel
theorem dX7_commonOf_52 : decode cX7_commonOf 52 = .ok (.goto 4, 3) := by decide +kernel
theorem dX7_commonOf_55 : decode cX7_commonOf 55 = .ok (.iconst (-1), 1) := by decide +kernel
theorem dX7_commonOf_56 : decode cX7_commonOf 56 = .ok (.ireturn, 1) := by decide +kernel
theorem dX7_commonOf_57 : decode cX7_commonOf 57 = .ok (.aload_n 0, 1) := by decide +kernel
theorem dX7_commonOf_58 : decode cX7_commonOf 58 = .ok (.getfield 23, 3) := by decide +kernel
theorem dX7_commonOf_61 : decode cX7_commonOf 61 = .ok (.iload_n 1, 1) := by decide +kernel
theorem dX7_commonOf_62 : decode cX7_commonOf 62 = .ok (.iaload, 1) := by decide +kernel
theorem dX7_commonOf_63 : decode cX7_commonOf 63 = .ok (.istore_n 3, 1) := by decide +kernel
theorem dX7_commonOf_64 : decode cX7_commonOf 64 = .ok (.aload_n 0, 1) := by decide +kernel
theorem dX7_commonOf_65 : decode cX7_commonOf 65 = .ok (.aload_n 0, 1) := by decide +kernel
theorem dX7_commonOf_66 : decode cX7_commonOf 66 = .ok (.getfield 23, 3) := by decide +kernel
theorem dX7_commonOf_69 : decode cX7_commonOf 69 = .ok (.iload_n 2, 1) := by decide +kernel
theorem dX7_commonOf_70 : decode cX7_commonOf 70 = .ok (.iaload, 1) := by decide +kernel
theorem dX7_commonOf_71 : decode cX7_commonOf 71 = .ok (.iload_n 3, 1) := by decide +kernel
theorem dX7_commonOf_72 : decode cX7_commonOf 72 = .ok (.invokevirtual 133, 3) := by decide +kernel
theorem dX7_commonOf_75 : decode cX7_commonOf 75 = .ok (.ifCond .eq 48, 3) := by decide +kernel
theorem dX7_commonOf_78 : decode cX7_commonOf 78 = .ok (.aload_n 0, 1) := by decide +kernel
theorem dX7_commonOf_79 : decode cX7_commonOf 79 = .ok (.iload_n 1, 1) := by decide +kernel
theorem dX7_commonOf_80 : decode cX7_commonOf 80 = .ok (.iload_n 3, 1) := by decide +kernel
theorem dX7_commonOf_81 : decode cX7_commonOf 81 = .ok (.invokevirtual 140, 3) := by decide +kernel
theorem dX7_commonOf_84 : decode cX7_commonOf 84 = .ok (.istore 4, 2) := by decide +kernel
theorem dX7_commonOf_86 : decode cX7_commonOf 86 = .ok (.iload 4, 2) := by decide +kernel
theorem dX7_commonOf_88 : decode cX7_commonOf 88 = .ok (.bipush (-3), 2) := by decide +kernel
theorem dX7_commonOf_90 : decode cX7_commonOf 90 = .ok (.if_icmp .ne 8, 3) := by decide +kernel
theorem dX7_commonOf_93 : decode cX7_commonOf 93 = .ok (.bipush (-3), 2) := by decide +kernel
theorem dX7_commonOf_95 : decode cX7_commonOf 95 = .ok (.goto 9, 3) := by decide +kernel
theorem dX7_commonOf_98 : decode cX7_commonOf 98 = .ok (.aload_n 0, 1) := by decide +kernel
theorem dX7_commonOf_99 : decode cX7_commonOf 99 = .ok (.iload_n 2, 1) := by decide +kernel
theorem dX7_commonOf_100 : decode cX7_commonOf 100 = .ok (.iload_n 3, 1) := by decide +kernel
theorem dX7_commonOf_101 : decode cX7_commonOf 101 = .ok (.invokevirtual 140, 3) := by decide +kernel
theorem dX7_commonOf_104 : decode cX7_commonOf 104 = .ok (.istore 5, 2) := by decide +kernel
theorem dX7_commonOf_106 : decode cX7_commonOf 106 = .ok (.iload 5, 2) := by decide +kernel
theorem dX7_commonOf_108 : decode cX7_commonOf 108 = .ok (.bipush (-3), 2) := by decide +kernel
theorem dX7_commonOf_110 : decode cX7_commonOf 110 = .ok (.if_icmp .eq 10, 3) := by decide +kernel
theorem dX7_commonOf_113 : decode cX7_commonOf 113 = .ok (.iload 4, 2) := by decide +kernel
theorem dX7_commonOf_115 : decode cX7_commonOf 115 = .ok (.iload 5, 2) := by decide +kernel
theorem dX7_commonOf_117 : decode cX7_commonOf 117 = .ok (.if_icmp .ne 6, 3) := by decide +kernel
theorem dX7_commonOf_120 : decode cX7_commonOf 120 = .ok (.iload 5, 2) := by decide +kernel
theorem dX7_commonOf_122 : decode cX7_commonOf 122 = .ok (.ireturn, 1) := by decide +kernel
theorem dX7_commonOf_123 : decode cX7_commonOf 123 = .ok (.aload_n 0, 1) := by decide +kernel
theorem dX7_commonOf_124 : decode cX7_commonOf 124 = .ok (.getfield 23, 3) := by decide +kernel
theorem dX7_commonOf_127 : decode cX7_commonOf 127 = .ok (.aload_n 0, 1) := by decide +kernel
theorem dX7_commonOf_128 : decode cX7_commonOf 128 = .ok (.getfield 17, 3) := by decide +kernel
theorem dX7_commonOf_131 : decode cX7_commonOf 131 = .ok (.iload_n 3, 1) := by decide +kernel
theorem dX7_commonOf_132 : decode cX7_commonOf 132 = .ok (.iaload, 1) := by decide +kernel
theorem dX7_commonOf_133 : decode cX7_commonOf 133 = .ok (.iaload, 1) := by decide +kernel
theorem dX7_commonOf_134 : decode cX7_commonOf 134 = .ok (.istore_n 3, 1) := by decide +kernel
theorem dX7_commonOf_135 : decode cX7_commonOf 135 = .ok (.goto (-71), 3) := by decide +kernel
set_option maxRecDepth 20000 in
theorem ggX7_common_X7_isClosed : GoodIn wsX7_common wsX7_isClosed := goodIn_r _ [5, 6, 7, 8, 9, 4, 10, 11, 12, 13, 14, 53, 54, 55, 56, 57, 58, 59, 60, 61, 62, 63, 64, 65, 66, 67, 68, 69, 70, 71, 72, 73, 74, 75, 76, 77, 78, 79, 80, 81, 82, 83, 84, 85, 86, 87] (by decide +kernel) (by decide +kernel)
set_option maxRecDepth 20000 in
theorem gX7_common_X7_isClosed : GoodIn wsX7_common (wsV RX7 144 RX7 yX7_isClosed wsX7_isClosed) := goodIn_app (goodIn_of _ (by decide +kernel)) ggX7_common_X7_isClosed
set_option maxRecDepth 20000 in
theorem ggX7_common_X7_commonOf : GoodIn wsX7_common wsX7_commonOf := goodIn_r _ [18, 19, 20, 21, 22, 4, 23, 24, 25, 26, 27, 28, 29, 30, 31, 32, 33, 34, 35, 36, 37, 38, 39, 40, 6, 41, 42, 43, 44, 45, 46, 47, 48, 49, 50, 51, 52, 11, 53, 54, 55, 56, 57, 58, 59, 60, 61, 62, 63, 64, 65, 66, 67, 68, 69, 70, 71, 72, 73, 74, 75, 76, 77, 78, 79, 80, 81, 82, 83, 84, 85, 86, 87] (by decide +kernel) (by decide +kernel)
set_option maxRecDepth 20000 in
theorem gX7_common_X7_commonOf : GoodIn wsX7_common (wsV RX7 150 RX7 yX7_commonOf wsX7_commonOf) := goodIn_app (goodIn_of _ (by decide +kernel)) ggX7_common_X7_commonOf
theorem dX7_common_0 : decode cX7_common 0 = .ok (.aload_n 0, 1) := by decide +kernel
theorem dX7_common_1 : decode cX7_common 1 = .ok (.iload_n 1, 1) := by decide +kernel
theorem dX7_common_2 : decode cX7_common 2 = .ok (.invokevirtual 144, 3) := by decide +kernel
theorem dX7_common_5 : decode cX7_common 5 = .ok (.ifCond .eq 20, 3) := by decide +kernel
theorem dX7_common_8 : decode cX7_common 8 = .ok (.aload_n 0, 1) := by decide +kernel
theorem dX7_common_9 : decode cX7_common 9 = .ok (.iload_n 2, 1) := by decide +kernel
theorem dX7_common_10 : decode cX7_common 10 = .ok (.invokevirtual 144, 3) := by decide +kernel
theorem dX7_common_13 : decode cX7_common 13 = .ok (.ifCond .eq 12, 3) := by decide +kernel
theorem dX7_common_16 : decode cX7_common 16 = .ok (.aload_n 0, 1) := by decide +kernel
theorem dX7_common_17 : decode cX7_common 17 = .ok (.iload_n 1, 1) := by decide +kernel
theorem dX7_common_18 : decode cX7_common 18 = .ok (.iload_n 2, 1) := by decide +kernel
theorem dX7_common_19 : decode cX7_common 19 = .ok (.invokevirtual 150, 3) := by decide +kernel
theorem dX7_common_22 : decode cX7_common 22 = .ok (.goto 5, 3) := by decide +kernel
theorem dX7_common_25 : decode cX7_common 25 = .ok (.bipush (-2), 2) := by decide +kernel
theorem dX7_common_27 : decode cX7_common 27 = .ok (.ireturn, 1) := by decide +kernel
set_option maxRecDepth 20000 in
theorem ggX7_member_X7_isClass : GoodIn wsX7_member wsX7_isClass := goodIn_r _ [10, 11, 12, 13, 9, 14, 20, 21, 22, 23, 24, 25, 26, 27, 28, 29, 30, 31, 32, 33, 34, 35, 36, 37, 38, 39, 40, 41, 42, 43, 44, 45, 46, 47, 48, 49, 50, 51, 52, 53, 54] (by decide +kernel) (by decide +kernel)
set_option maxRecDepth 20000 in
theorem gX7_member_X7_isClass : GoodIn wsX7_member (wsV RX7 113 RX7 yX7_isClass wsX7_isClass) := goodIn_app (goodIn_of _ (by decide +kernel)) ggX7_member_X7_isClass
set_option maxRecDepth 20000 in
theorem ggX7_member_X7_isType : GoodIn wsX7_member wsX7_isType := goodIn_r _ [18, 19, 12, 13, 9, 14, 20, 21, 22, 23, 24, 25, 26, 27, 28, 29, 30, 31, 32, 33, 34, 35, 36, 37, 38, 39, 40, 41, 42, 43, 44, 45, 46, 47, 48, 49, 50, 51, 52, 53, 54] (by decide +kernel) (by decide +kernel)
set_option maxRecDepth 20000 in
theorem gX7_member_X7_isType : GoodIn wsX7_member (wsV RX7 103 RX7 yX7_isType wsX7_isType) := goodIn_app (goodIn_of _ (by decide +kernel)) ggX7_member_X7_isType
theorem dX7_member_0 : decode cX7_member 0 = .ok (.aload_n 0, 1) := by decide +kernel
theorem dX7_member_1 : decode cX7_member 1 = .ok (.iload_n 1, 1) := by decide +kernel
theorem dX7_member_2 : decode cX7_member 2 = .ok (.invokevirtual 113, 3) := by decide +kernel
theorem dX7_member_5 : decode cX7_member 5 = .ok (.ifCond .eq 27, 3) := by decide +kernel
theorem dX7_member_8 : decode cX7_member 8 = .ok (.aload_n 0, 1) := by decide +kernel
theorem dX7_member_9 : decode cX7_member 9 = .ok (.iload_n 2, 1) := by decide +kernel
theorem dX7_member_10 : decode cX7_member 10 = .ok (.invokevirtual 103, 3) := by decide +kernel
theorem dX7_member_13 : decode cX7_member 13 = .ok (.ifCond .eq 19, 3) := by decide +kernel
theorem dX7_member_16 : decode cX7_member 16 = .ok (.aload_n 0, 1) := by decide +kernel
theorem dX7_member_17 : decode cX7_member 17 = .ok (.getfield 32, 3) := by decide +kernel
theorem dX7_member_20 : decode cX7_member 20 = .ok (.iload_n 2, 1) := by decide +kernel
theorem dX7_member_21 : decode cX7_member 21 = .ok (.iaload, 1) := by decide +kernel
theorem dX7_member_22 : decode cX7_member 22 = .ok (.aload_n 0, 1) := by decide +kernel
theorem dX7_member_23 : decode cX7_member 23 = .ok (.getfield 13, 3) := by decide +kernel
theorem dX7_member_26 : decode cX7_member 26 = .ok (.iload_n 1, 1) := by decide +kernel
theorem dX7_member_27 : decode cX7_member 27 = .ok (.iaload, 1) := by decide +kernel
theorem dX7_member_28 : decode cX7_member 28 = .ok (.ishr, 1) := by decide +kernel
theorem dX7_member_29 : decode cX7_member 29 = .ok (.ifCond .eq 6, 3) := by decide +kernel
theorem dX7_member_32 : decode cX7_member 32 = .ok (.bipush (-2), 2) := by decide +kernel
theorem dX7_member_34 : decode cX7_member 34 = .ok (.ireturn, 1) := by decide +kernel
theorem dX7_member_35 : decode cX7_member 35 = .ok (.aload_n 0, 1) := by decide +kernel
theorem dX7_member_36 : decode cX7_member 36 = .ok (.getfield 153, 3) := by decide +kernel
theorem dX7_member_39 : decode cX7_member 39 = .ok (.bipush 24, 2) := by decide +kernel
theorem dX7_member_41 : decode cX7_member 41 = .ok (.if_icmp .ne 6, 3) := by decide +kernel
theorem dX7_member_44 : decode cX7_member 44 = .ok (.bipush (-3), 2) := by decide +kernel
theorem dX7_member_46 : decode cX7_member 46 = .ok (.ireturn, 1) := by decide +kernel
theorem dX7_member_47 : decode cX7_member 47 = .ok (.aload_n 0, 1) := by decide +kernel
theorem dX7_member_48 : decode cX7_member 48 = .ok (.getfield 41, 3) := by decide +kernel
theorem dX7_member_51 : decode cX7_member 51 = .ok (.aload_n 0, 1) := by decide +kernel
theorem dX7_member_52 : decode cX7_member 52 = .ok (.getfield 153, 3) := by decide +kernel
theorem dX7_member_55 : decode cX7_member 55 = .ok (.iload_n 1, 1) := by decide +kernel
theorem dX7_member_56 : decode cX7_member 56 = .ok (.iastore, 1) := by decide +kernel
theorem dX7_member_57 : decode cX7_member 57 = .ok (.aload_n 0, 1) := by decide +kernel
theorem dX7_member_58 : decode cX7_member 58 = .ok (.getfield 44, 3) := by decide +kernel
theorem dX7_member_61 : decode cX7_member 61 = .ok (.aload_n 0, 1) := by decide +kernel
theorem dX7_member_62 : decode cX7_member 62 = .ok (.getfield 153, 3) := by decide +kernel
theorem dX7_member_65 : decode cX7_member 65 = .ok (.iload_n 2, 1) := by decide +kernel
theorem dX7_member_66 : decode cX7_member 66 = .ok (.iastore, 1) := by decide +kernel
theorem dX7_member_67 : decode cX7_member 67 = .ok (.aload_n 0, 1) := by decide +kernel
theorem dX7_member_68 : decode cX7_member 68 = .ok (.dup, 1) := by decide +kernel
theorem dX7_member_69 : decode cX7_member 69 = .ok (.getfield 153, 3) := by decide +kernel
theorem dX7_member_72 : decode cX7_member 72 = .ok (.iconst 1, 1) := by decide +kernel
theorem dX7_member_73 : decode cX7_member 73 = .ok (.iadd, 1) := by decide +kernel
theorem dX7_member_74 : decode cX7_member 74 = .ok (.putfield 153, 3) := by decide +kernel
theorem dX7_member_77 : decode cX7_member 77 = .ok (.aload_n 0, 1) := by decide +kernel
theorem dX7_member_78 : decode cX7_member 78 = .ok (.getfield 153, 3) := by decide +kernel
theorem dX7_member_81 : decode cX7_member 81 = .ok (.iconst 1, 1) := by decide +kernel
theorem dX7_member_82 : decode cX7_member 82 = .ok (.isub, 1) := by decide +kernel
theorem dX7_member_83 : decode cX7_member 83 = .ok (.ireturn, 1) := by decide +kernel
set_option maxRecDepth 20000 in
theorem ggX7_function_X7_isType : GoodIn wsX7_function wsX7_isType := goodIn_r _ [10, 11, 12, 13, 9, 14, 15, 16, 17, 18, 19, 20, 21, 22, 23, 24, 25, 26, 27, 28, 29, 30, 31, 32, 33, 34, 35, 36, 37, 38, 39, 40, 41, 42, 43, 44, 45, 46, 47, 48, 49] (by decide +kernel) (by decide +kernel)
set_option maxRecDepth 20000 in
theorem gX7_function_X7_isType : GoodIn wsX7_function (wsV RX7 103 RX7 yX7_isType wsX7_isType) := goodIn_app (goodIn_of _ (by decide +kernel)) ggX7_function_X7_isType
theorem dX7_function_0 : decode cX7_function 0 = .ok (.aload_n 0, 1) := by decide +kernel
theorem dX7_function_1 : decode cX7_function 1 = .ok (.iload_n 1, 1) := by decide +kernel
theorem dX7_function_2 : decode cX7_function 2 = .ok (.invokevirtual 103, 3) := by decide +kernel
theorem dX7_function_5 : decode cX7_function 5 = .ok (.ifCond .eq 24, 3) := by decide +kernel
theorem dX7_function_8 : decode cX7_function 8 = .ok (.iload_n 2, 1) := by decide +kernel
theorem dX7_function_9 : decode cX7_function 9 = .ok (.iconst (-1), 1) := by decide +kernel
theorem dX7_function_10 : decode cX7_function 10 = .ok (.if_icmp .eq 11, 3) := by decide +kernel
theorem dX7_function_13 : decode cX7_function 13 = .ok (.aload_n 0, 1) := by decide +kernel
theorem dX7_function_14 : decode cX7_function 14 = .ok (.iload_n 2, 1) := by decide +kernel
theorem dX7_function_15 : decode cX7_function 15 = .ok (.invokevirtual 103, 3) := by decide +kernel
theorem dX7_function_18 : decode cX7_function 18 = .ok (.ifCond .eq 11, 3) := by decide +kernel
theorem dX7_function_21 : decode cX7_function 21 = .ok (.aload_n 0, 1) := by decide +kernel
theorem dX7_function_22 : decode cX7_function 22 = .ok (.iload_n 3, 1) := by decide +kernel
theorem dX7_function_23 : decode cX7_function 23 = .ok (.invokevirtual 103, 3) := by decide +kernel
theorem dX7_function_26 : decode cX7_function 26 = .ok (.ifCond .ne 6, 3) := by decide +kernel
theorem dX7_function_29 : decode cX7_function 29 = .ok (.bipush (-2), 2) := by decide +kernel
theorem dX7_function_31 : decode cX7_function 31 = .ok (.ireturn, 1) := by decide +kernel
theorem dX7_function_32 : decode cX7_function 32 = .ok (.aload_n 0, 1) := by decide +kernel
theorem dX7_function_33 : decode cX7_function 33 = .ok (.getfield 156, 3) := by decide +kernel
theorem dX7_function_36 : decode cX7_function 36 = .ok (.bipush 16, 2) := by decide +kernel
theorem dX7_function_38 : decode cX7_function 38 = .ok (.if_icmp .ne 6, 3) := by decide +kernel
theorem dX7_function_41 : decode cX7_function 41 = .ok (.bipush (-3), 2) := by decide +kernel
theorem dX7_function_43 : decode cX7_function 43 = .ok (.ireturn, 1) := by decide +kernel
theorem dX7_function_44 : decode cX7_function 44 = .ok (.aload_n 0, 1) := by decide +kernel
theorem dX7_function_45 : decode cX7_function 45 = .ok (.getfield 47, 3) := by decide +kernel
theorem dX7_function_48 : decode cX7_function 48 = .ok (.aload_n 0, 1) := by decide +kernel
theorem dX7_function_49 : decode cX7_function 49 = .ok (.getfield 156, 3) := by decide +kernel
theorem dX7_function_52 : decode cX7_function 52 = .ok (.iload_n 1, 1) := by decide +kernel
theorem dX7_function_53 : decode cX7_function 53 = .ok (.iastore, 1) := by decide +kernel
theorem dX7_function_54 : decode cX7_function 54 = .ok (.aload_n 0, 1) := by decide +kernel
theorem dX7_function_55 : decode cX7_function 55 = .ok (.getfield 50, 3) := by decide +kernel
theorem dX7_function_58 : decode cX7_function 58 = .ok (.aload_n 0, 1) := by decide +kernel
theorem dX7_function_59 : decode cX7_function 59 = .ok (.getfield 156, 3) := by decide +kernel
theorem dX7_function_62 : decode cX7_function 62 = .ok (.iload_n 2, 1) := by decide +kernel
theorem dX7_function_63 : decode cX7_function 63 = .ok (.iastore, 1) := by decide +kernel
theorem dX7_function_64 : decode cX7_function 64 = .ok (.aload_n 0, 1) := by decide +kernel
theorem dX7_function_65 : decode cX7_function 65 = .ok (.getfield 53, 3) := by decide +kernel
theorem dX7_function_68 : decode cX7_function 68 = .ok (.aload_n 0, 1) := by decide +kernel
theorem dX7_function_69 : decode cX7_function 69 = .ok (.getfield 156, 3) := by decide +kernel
theorem dX7_function_72 : decode cX7_function 72 = .ok (.iload_n 3, 1) := by decide +kernel
theorem dX7_function_73 : decode cX7_function 73 = .ok (.iastore, 1) := by decide +kernel
theorem dX7_function_74 : decode cX7_function 74 = .ok (.aload_n 0, 1) := by decide +kernel
theorem dX7_function_75 : decode cX7_function 75 = .ok (.getfield 56, 3) := by decide +kernel
theorem dX7_function_78 : decode cX7_function 78 = .ok (.iconst 2, 1) := by decide +kernel
theorem dX7_function_79 : decode cX7_function 79 = .ok (.aload_n 0, 1) := by decide +kernel
theorem dX7_function_80 : decode cX7_function 80 = .ok (.getfield 156, 3) := by decide +kernel
theorem dX7_function_83 : decode cX7_function 83 = .ok (.imul, 1) := by decide +kernel
theorem dX7_function_84 : decode cX7_function 84 = .ok (.iconst (-1), 1) := by decide +kernel
theorem dX7_function_85 : decode cX7_function 85 = .ok (.iastore, 1) := by decide +kernel
theorem dX7_function_86 : decode cX7_function 86 = .ok (.aload_n 0, 1) := by decide +kernel
theorem dX7_function_87 : decode cX7_function 87 = .ok (.getfield 56, 3) := by decide +kernel
theorem dX7_function_90 : decode cX7_function 90 = .ok (.iconst 2, 1) := by decide +kernel
theorem dX7_function_91 : decode cX7_function 91 = .ok (.aload_n 0, 1) := by decide +kernel
theorem dX7_function_92 : decode cX7_function 92 = .ok (.getfield 156, 3) := by decide +kernel
theorem dX7_function_95 : decode cX7_function 95 = .ok (.imul, 1) := by decide +kernel
theorem dX7_function_96 : decode cX7_function 96 = .ok (.iconst 1, 1) := by decide +kernel
theorem dX7_function_97 : decode cX7_function 97 = .ok (.iadd, 1) := by decide +kernel
theorem dX7_function_98 : decode cX7_function 98 = .ok (.iconst (-1), 1) := by decide +kernel
theorem dX7_function_99 : decode cX7_function 99 = .ok (.iastore, 1) := by decide +kernel
theorem dX7_function_100 : decode cX7_function 100 = .ok (.aload_n 0, 1) := by decide +kernel
theorem dX7_function_101 : decode cX7_function 101 = .ok (.dup, 1) := by decide +kernel
theorem dX7_function_102 : decode cX7_function 102 = .ok (.getfield 156, 3) := by decide +kernel
theorem dX7_function_105 : decode cX7_function 105 = .ok (.iconst 1, 1) := by decide +kernel
theorem dX7_function_106 : decode cX7_function 106 = .ok (.iadd, 1) := by decide +kernel
theorem dX7_function_107 : decode cX7_function 107 = .ok (.putfield 156, 3) := by decide +kernel
theorem dX7_function_110 : decode cX7_function 110 = .ok (.aload_n 0, 1) := by decide +kernel
theorem dX7_function_111 : decode cX7_function 111 = .ok (.getfield 156, 3) := by decide +kernel
theorem dX7_function_114 : decode cX7_function 114 = .ok (.iconst 1, 1) := by decide +kernel
theorem dX7_function_115 : decode cX7_function 115 = .ok (.isub, 1) := by decide +kernel
theorem dX7_function_116 : decode cX7_function 116 = .ok (.ireturn, 1) := by decide +kernel
set_option maxRecDepth 20000 in
theorem ggX7_bound_X7_isIn : GoodIn wsX7_bound wsX7_isIn := goodIn_r _ [6] (by decide +kernel) (by decide +kernel)
set_option maxRecDepth 20000 in
theorem gX7_bound_X7_isIn : GoodIn wsX7_bound (va_wsS RX7 99 yX7_isIn wsX7_isIn) := goodIn_app (goodIn_of _ (by decide +kernel)) ggX7_bound_X7_isIn
set_option maxRecDepth 20000 in
theorem ggX7_bound_X7_isClassType : GoodIn wsX7_bound wsX7_isClassType := goodIn_r _ [10, 11, 3, 4, 5, 6, 21, 22, 23, 24, 25, 26, 27, 28, 29, 30, 31, 32, 33, 34, 35, 36, 37, 38, 39, 40, 41, 42, 43, 44, 45, 46, 47, 48, 49, 50, 51, 52, 53, 54, 55] (by decide +kernel) (by decide +kernel)
set_option maxRecDepth 20000 in
theorem gX7_bound_X7_isClassType : GoodIn wsX7_bound (wsV RX7 107 RX7 yX7_isClassType wsX7_isClassType) := goodIn_app (goodIn_of _ (by decide +kernel)) ggX7_bound_X7_isClassType
set_option maxRecDepth 20000 in
theorem ggX7_bound_X7_isClosed : GoodIn wsX7_bound wsX7_isClosed := goodIn_r _ [15, 16, 17, 18, 19, 5, 20, 11, 3, 4, 6, 21, 22, 23, 24, 25, 26, 27, 28, 29, 30, 31, 32, 33, 34, 35, 36, 37, 38, 39, 40, 41, 42, 43, 44, 45, 46, 47, 48, 49, 50, 51, 52, 53, 54, 55] (by decide +kernel) (by decide +kernel)
set_option maxRecDepth 20000 in
theorem gX7_bound_X7_isClosed : GoodIn wsX7_bound (wsV RX7 144 RX7 yX7_isClosed wsX7_isClosed) := goodIn_app (goodIn_of _ (by decide +kernel)) ggX7_bound_X7_isClosed
theorem dX7_bound_0 : decode cX7_bound 0 = .ok (.iload_n 1, 1) := by decide +kernel
theorem dX7_bound_1 : decode cX7_bound 1 = .ok (.iconst 0, 1) := by decide +kernel
theorem dX7_bound_2 : decode cX7_bound 2 = .ok (.aload_n 0, 1) := by decide +kernel
theorem dX7_bound_3 : decode cX7_bound 3 = .ok (.getfield 156, 3) := by decide +kernel
theorem dX7_bound_6 : decode cX7_bound 6 = .ok (.iconst 1, 1) := by decide +kernel
theorem dX7_bound_7 : decode cX7_bound 7 = .ok (.isub, 1) := by decide +kernel
theorem dX7_bound_8 : decode cX7_bound 8 = .ok (.invokestatic 99, 3) := by decide +kernel
theorem dX7_bound_11 : decode cX7_bound 11 = .ok (.ifCond .eq 33, 3) := by decide +kernel
theorem dX7_bound_14 : decode cX7_bound 14 = .ok (.iload_n 2, 1) := by decide +kernel
theorem dX7_bound_15 : decode cX7_bound 15 = .ok (.iconst 0, 1) := by decide +kernel
theorem dX7_bound_16 : decode cX7_bound 16 = .ok (.iconst 1, 1) := by decide +kernel
theorem dX7_bound_17 : decode cX7_bound 17 = .ok (.invokestatic 99, 3) := by decide +kernel
theorem dX7_bound_20 : decode cX7_bound 20 = .ok (.ifCond .eq 24, 3) := by decide +kernel
theorem dX7_bound_23 : decode cX7_bound 23 = .ok (.iload_n 3, 1) := by decide +kernel
theorem dX7_bound_24 : decode cX7_bound 24 = .ok (.iconst (-1), 1) := by decide +kernel
theorem dX7_bound_25 : decode cX7_bound 25 = .ok (.if_icmp .eq 22, 3) := by decide +kernel
theorem dX7_bound_28 : decode cX7_bound 28 = .ok (.aload_n 0, 1) := by decide +kernel
theorem dX7_bound_29 : decode cX7_bound 29 = .ok (.iload_n 3, 1) := by decide +kernel
theorem dX7_bound_30 : decode cX7_bound 30 = .ok (.invokevirtual 107, 3) := by decide +kernel
theorem dX7_bound_33 : decode cX7_bound 33 = .ok (.ifCond .eq 11, 3) := by decide +kernel
theorem dX7_bound_36 : decode cX7_bound 36 = .ok (.aload_n 0, 1) := by decide +kernel
theorem dX7_bound_37 : decode cX7_bound 37 = .ok (.iload_n 3, 1) := by decide +kernel
theorem dX7_bound_38 : decode cX7_bound 38 = .ok (.invokevirtual 144, 3) := by decide +kernel
theorem dX7_bound_41 : decode cX7_bound 41 = .ok (.ifCond .ne 6, 3) := by decide +kernel
theorem dX7_bound_44 : decode cX7_bound 44 = .ok (.bipush (-2), 2) := by decide +kernel
theorem dX7_bound_46 : decode cX7_bound 46 = .ok (.ireturn, 1) := by decide +kernel
theorem dX7_bound_47 : decode cX7_bound 47 = .ok (.aload_n 0, 1) := by decide +kernel
theorem dX7_bound_48 : decode cX7_bound 48 = .ok (.getfield 56, 3) := by decide +kernel
theorem dX7_bound_51 : decode cX7_bound 51 = .ok (.iconst 2, 1) := by decide +kernel
theorem dX7_bound_52 : decode cX7_bound 52 = .ok (.iload_n 1, 1) := by decide +kernel
theorem dX7_bound_53 : decode cX7_bound 53 = .ok (.imul, 1) := by decide +kernel
theorem dX7_bound_54 : decode cX7_bound 54 = .ok (.iload_n 2, 1) := by decide +kernel
theorem dX7_bound_55 : decode cX7_bound 55 = .ok (.iadd, 1) := by decide +kernel
theorem dX7_bound_56 : decode cX7_bound 56 = .ok (.iload_n 3, 1) := by decide +kernel
theorem dX7_bound_57 : decode cX7_bound 57 = .ok (.iastore, 1) := by decide +kernel
theorem dX7_bound_58 : decode cX7_bound 58 = .ok (.iconst 1, 1) := by decide +kernel
theorem dX7_bound_59 : decode cX7_bound 59 = .ok (.ireturn, 1) := by decide +kernel
theorem dX7_fails_0 : decode cX7_fails 0 = .ok (.aload_n 0, 1) := by decide +kernel
theorem dX7_fails_1 : decode cX7_fails 1 = .ok (.iload_n 1, 1) := by decide +kernel
theorem dX7_fails_2 : decode cX7_fails 2 = .ok (.putfield 159, 3) := by decide +kernel
theorem dX7_fails_5 : decode cX7_fails 5 = .ok (.iconst 0, 1) := by decide +kernel
theorem dX7_fails_6 : decode cX7_fails 6 = .ok (.ireturn, 1) := by decide +kernel
set_option maxRecDepth 20000 in
theorem ggX7_binds_X7_fails : GoodIn wsX7_binds wsX7_fails := goodIn_r _ [6, 7, 8, 9, 10, 11, 12, 13, 14, 15, 16, 17, 18, 19, 20, 21, 22, 23, 24, 25, 26, 27, 28, 29, 30, 31, 32, 33, 34, 35, 36, 37, 38, 39, 40, 41, 42] (by decide +kernel) (by decide +kernel)
set_option maxRecDepth 20000 in
theorem gX7_binds_X7_fails : GoodIn wsX7_binds (wsV RX7 162 RX7 yX7_fails wsX7_fails) := goodIn_app (goodIn_of _ (by decide +kernel)) ggX7_binds_X7_fails
theorem dX7_binds_0 : decode cX7_binds 0 = .ok (.aload_n 0, 1) := by decide +kernel
theorem dX7_binds_1 : decode cX7_binds 1 = .ok (.getfield 59, 3) := by decide +kernel
theorem dX7_binds_4 : decode cX7_binds 4 = .ok (.iload_n 1, 1) := by decide +kernel
theorem dX7_binds_5 : decode cX7_binds 5 = .ok (.iaload, 1) := by decide +kernel
theorem dX7_binds_6 : decode cX7_binds 6 = .ok (.iconst (-1), 1) := by decide +kernel
theorem dX7_binds_7 : decode cX7_binds 7 = .ok (.if_icmp .eq 19, 3) := by decide +kernel
theorem dX7_binds_10 : decode cX7_binds 10 = .ok (.aload_n 0, 1) := by decide +kernel
theorem dX7_binds_11 : decode cX7_binds 11 = .ok (.getfield 59, 3) := by decide +kernel
theorem dX7_binds_14 : decode cX7_binds 14 = .ok (.iload_n 1, 1) := by decide +kernel
theorem dX7_binds_15 : decode cX7_binds 15 = .ok (.iaload, 1) := by decide +kernel
theorem dX7_binds_16 : decode cX7_binds 16 = .ok (.iload_n 2, 1) := by decide +kernel
theorem dX7_binds_17 : decode cX7_binds 17 = .ok (.if_icmp .eq 9, 3) := by decide +kernel
theorem dX7_binds_20 : decode cX7_binds 20 = .ok (.aload_n 0, 1) := by decide +kernel
theorem dX7_binds_21 : decode cX7_binds 21 = .ok (.iconst 2, 1) := by decide +kernel
theorem dX7_binds_22 : decode cX7_binds 22 = .ok (.invokevirtual 162, 3) := by decide +kernel
theorem dX7_binds_25 : decode cX7_binds 25 = .ok (.ireturn, 1) := by decide +kernel
theorem dX7_binds_26 : decode cX7_binds 26 = .ok (.aload_n 0, 1) := by decide +kernel
theorem dX7_binds_27 : decode cX7_binds 27 = .ok (.getfield 59, 3) := by decide +kernel
theorem dX7_binds_30 : decode cX7_binds 30 = .ok (.iload_n 1, 1) := by decide +kernel
theorem dX7_binds_31 : decode cX7_binds 31 = .ok (.iload_n 2, 1) := by decide +kernel
theorem dX7_binds_32 : decode cX7_binds 32 = .ok (.iastore, 1) := by decide +kernel
theorem dX7_binds_33 : decode cX7_binds 33 = .ok (.iconst 1, 1) := by decide +kernel
theorem dX7_binds_34 : decode cX7_binds 34 = .ok (.ireturn, 1) := by decide +kernel
theorem dX7_holdPair_0 : decode cX7_holdPair 0 = .ok (.aload_n 0, 1) := by decide +kernel
theorem dX7_holdPair_1 : decode cX7_holdPair 1 = .ok (.getfield 62, 3) := by decide +kernel
theorem dX7_holdPair_4 : decode cX7_holdPair 4 = .ok (.iconst 2, 1) := by decide +kernel
theorem dX7_holdPair_5 : decode cX7_holdPair 5 = .ok (.aload_n 0, 1) := by decide +kernel
theorem dX7_holdPair_6 : decode cX7_holdPair 6 = .ok (.getfield 165, 3) := by decide +kernel
theorem dX7_holdPair_9 : decode cX7_holdPair 9 = .ok (.imul, 1) := by decide +kernel
theorem dX7_holdPair_10 : decode cX7_holdPair 10 = .ok (.iload_n 1, 1) := by decide +kernel
theorem dX7_holdPair_11 : decode cX7_holdPair 11 = .ok (.iastore, 1) := by decide +kernel
theorem dX7_holdPair_12 : decode cX7_holdPair 12 = .ok (.aload_n 0, 1) := by decide +kernel
theorem dX7_holdPair_13 : decode cX7_holdPair 13 = .ok (.getfield 62, 3) := by decide +kernel
theorem dX7_holdPair_16 : decode cX7_holdPair 16 = .ok (.iconst 2, 1) := by decide +kernel
theorem dX7_holdPair_17 : decode cX7_holdPair 17 = .ok (.aload_n 0, 1) := by decide +kernel
theorem dX7_holdPair_18 : decode cX7_holdPair 18 = .ok (.getfield 165, 3) := by decide +kernel
theorem dX7_holdPair_21 : decode cX7_holdPair 21 = .ok (.imul, 1) := by decide +kernel
theorem dX7_holdPair_22 : decode cX7_holdPair 22 = .ok (.iconst 1, 1) := by decide +kernel
theorem dX7_holdPair_23 : decode cX7_holdPair 23 = .ok (.iadd, 1) := by decide +kernel
theorem dX7_holdPair_24 : decode cX7_holdPair 24 = .ok (.iload_n 2, 1) := by decide +kernel
theorem dX7_holdPair_25 : decode cX7_holdPair 25 = .ok (.iastore, 1) := by decide +kernel
theorem dX7_holdPair_26 : decode cX7_holdPair 26 = .ok (.aload_n 0, 1) := by decide +kernel
theorem dX7_holdPair_27 : decode cX7_holdPair 27 = .ok (.dup, 1) := by decide +kernel
theorem dX7_holdPair_28 : decode cX7_holdPair 28 = .ok (.getfield 165, 3) := by decide +kernel
theorem dX7_holdPair_31 : decode cX7_holdPair 31 = .ok (.iconst 1, 1) := by decide +kernel
theorem dX7_holdPair_32 : decode cX7_holdPair 32 = .ok (.iadd, 1) := by decide +kernel
theorem dX7_holdPair_33 : decode cX7_holdPair 33 = .ok (.putfield 165, 3) := by decide +kernel
theorem dX7_holdPair_36 : decode cX7_holdPair 36 = .ok (.return_, 1) := by decide +kernel
