set_option maxRecDepth 20000 in
theorem ggX10_make_X10_parted : GoodIn wsX10_make wsX10_parted := goodIn_r _ [13] (by decide +kernel) (by decide +kernel)
set_option maxRecDepth 20000 in
theorem gX10_make_X10_parted : GoodIn wsX10_make (wsV RX10 115 RX10 yX10_parted wsX10_parted) := goodIn_app (goodIn_of _ (by decide +kernel)) ggX10_make_X10_parted
set_option maxRecDepth 20000 in
theorem ggX10_make_X10_puts : GoodIn wsX10_make wsX10_puts := goodIn_r _ [17, 18, 1, 7, 19, 20, 21, 22, 23, 24, 25, 26, 27, 28, 29, 30, 31, 32, 33, 34, 35, 36, 37, 38, 39, 40, 41, 42, 43, 44, 45, 46, 47, 48, 49, 50, 51, 52, 53, 54, 55, 56, 57, 58, 59, 60, 61, 62, 63, 64, 65, 66, 67, 68, 69] (by decide +kernel) (by decide +kernel)
set_option maxRecDepth 20000 in
theorem gX10_make_X10_puts : GoodIn wsX10_make (wsV RX10 119 RX10 yX10_puts wsX10_puts) := goodIn_app (goodIn_of _ (by decide +kernel)) ggX10_make_X10_puts
theorem dX10_make_0 : decode cX10_make 0 = .ok (.aload_n 0, 1) := by decide +kernel
theorem dX10_make_1 : decode cX10_make 1 = .ok (.iconst 0, 1) := by decide +kernel
theorem dX10_make_2 : decode cX10_make 2 = .ok (.putfield 112, 3) := by decide +kernel
theorem dX10_make_5 : decode cX10_make 5 = .ok (.iconst 0, 1) := by decide +kernel
theorem dX10_make_6 : decode cX10_make 6 = .ok (.istore_n 1, 1) := by decide +kernel
theorem dX10_make_7 : decode cX10_make 7 = .ok (.iload_n 1, 1) := by decide +kernel
theorem dX10_make_8 : decode cX10_make 8 = .ok (.aload_n 0, 1) := by decide +kernel
theorem dX10_make_9 : decode cX10_make 9 = .ok (.getfield 7, 3) := by decide +kernel
theorem dX10_make_12 : decode cX10_make 12 = .ok (.iconst 4, 1) := by decide +kernel
theorem dX10_make_13 : decode cX10_make 13 = .ok (.iaload, 1) := by decide +kernel
theorem dX10_make_14 : decode cX10_make 14 = .ok (.if_icmp .ge 210, 3) := by decide +kernel
theorem dX10_make_17 : decode cX10_make 17 = .ok (.aload_n 0, 1) := by decide +kernel
theorem dX10_make_18 : decode cX10_make 18 = .ok (.getfield 20, 3) := by decide +kernel
theorem dX10_make_21 : decode cX10_make 21 = .ok (.iload_n 1, 1) := by decide +kernel
theorem dX10_make_22 : decode cX10_make 22 = .ok (.iaload, 1) := by decide +kernel
theorem dX10_make_23 : decode cX10_make 23 = .ok (.istore_n 2, 1) := by decide +kernel
theorem dX10_make_24 : decode cX10_make 24 = .ok (.iconst 0, 1) := by decide +kernel
theorem dX10_make_25 : decode cX10_make 25 = .ok (.istore_n 3, 1) := by decide +kernel
theorem dX10_make_26 : decode cX10_make 26 = .ok (.iload_n 3, 1) := by decide +kernel
theorem dX10_make_27 : decode cX10_make 27 = .ok (.iload_n 2, 1) := by decide +kernel
theorem dX10_make_28 : decode cX10_make 28 = .ok (.if_icmp .ge 85, 3) := by decide +kernel
theorem dX10_make_31 : decode cX10_make 31 = .ok (.aload_n 0, 1) := by decide +kernel
theorem dX10_make_32 : decode cX10_make 32 = .ok (.aload_n 0, 1) := by decide +kernel
theorem dX10_make_33 : decode cX10_make 33 = .ok (.getfield 7, 3) := by decide +kernel
theorem dX10_make_36 : decode cX10_make 36 = .ok (.bipush 8, 2) := by decide +kernel
theorem dX10_make_38 : decode cX10_make 38 = .ok (.iload_n 1, 1) := by decide +kernel
theorem dX10_make_39 : decode cX10_make 39 = .ok (.iadd, 1) := by decide +kernel
theorem dX10_make_40 : decode cX10_make 40 = .ok (.iaload, 1) := by decide +kernel
theorem dX10_make_41 : decode cX10_make 41 = .ok (.iload_n 2, 1) := by decide +kernel
theorem dX10_make_42 : decode cX10_make 42 = .ok (.iload_n 3, 1) := by decide +kernel
theorem dX10_make_43 : decode cX10_make 43 = .ok (.invokevirtual 115, 3) := by decide +kernel
theorem dX10_make_46 : decode cX10_make 46 = .ok (.istore 4, 2) := by decide +kernel
theorem dX10_make_48 : decode cX10_make 48 = .ok (.iload_n 1, 1) := by decide +kernel
theorem dX10_make_49 : decode cX10_make 49 = .ok (.ifCond .ne 22, 3) := by decide +kernel
theorem dX10_make_52 : decode cX10_make 52 = .ok (.iload_n 3, 1) := by decide +kernel
theorem dX10_make_53 : decode cX10_make 53 = .ok (.ifCond .ne 18, 3) := by decide +kernel
theorem dX10_make_56 : decode cX10_make 56 = .ok (.aload_n 0, 1) := by decide +kernel
theorem dX10_make_57 : decode cX10_make 57 = .ok (.getfield 7, 3) := by decide +kernel
theorem dX10_make_60 : decode cX10_make 60 = .ok (.bipush 13, 2) := by decide +kernel
theorem dX10_make_62 : decode cX10_make 62 = .ok (.iaload, 1) := by decide +kernel
theorem dX10_make_63 : decode cX10_make 63 = .ok (.iconst 1, 1) := by decide +kernel
theorem dX10_make_64 : decode cX10_make 64 = .ok (.if_icmp .ne 7, 3) := by decide +kernel
theorem dX10_make_67 : decode cX10_make 67 = .ok (.iconst 1, 1) := by decide +kernel
theorem dX10_make_68 : decode cX10_make 68 = .ok (.goto 4, 3) := by decide +kernel
theorem dX10_make_71 : decode cX10_make 71 = .ok (.iconst 0, 1) := by decide +kernel
theorem dX10_make_72 : decode cX10_make 72 = .ok (.istore 5, 2) := by decide +kernel
theorem dX10_make_74 : decode cX10_make 74 = .ok (.aload_n 0, 1) := by decide +kernel
theorem dX10_make_75 : decode cX10_make 75 = .ok (.iload 5, 2) := by decide +kernel
theorem dX10_make_77 : decode cX10_make 77 = .ok (.ifCond .eq 7, 3) := by decide +kernel
theorem dX10_make_80 : decode cX10_make 80 = .ok (.iconst 1, 1) := by decide +kernel
theorem dX10_make_81 : decode cX10_make 81 = .ok (.goto 4, 3) := by decide +kernel
theorem dX10_make_84 : decode cX10_make 84 = .ok (.iconst 0, 1) := by decide +kernel
theorem dX10_make_85 : decode cX10_make 85 = .ok (.iload 5, 2) := by decide +kernel
theorem dX10_make_87 : decode cX10_make 87 = .ok (.ifCond .eq 11, 3) := by decide +kernel
theorem dX10_make_90 : decode cX10_make 90 = .ok (.iload 4, 2) := by decide +kernel
theorem dX10_make_92 : decode cX10_make 92 = .ok (.bipush 30, 2) := by decide +kernel
theorem dX10_make_94 : decode cX10_make 94 = .ok (.iadd, 1) := by decide +kernel
theorem dX10_make_95 : decode cX10_make 95 = .ok (.goto 5, 3) := by decide +kernel
theorem dX10_make_98 : decode cX10_make 98 = .ok (.iload 4, 2) := by decide +kernel
theorem dX10_make_100 : decode cX10_make 100 = .ok (.iload 4, 2) := by decide +kernel
theorem dX10_make_102 : decode cX10_make 102 = .ok (.iload_n 1, 1) := by decide +kernel
theorem dX10_make_103 : decode cX10_make 103 = .ok (.iconst (-1), 1) := by decide +kernel
theorem dX10_make_104 : decode cX10_make 104 = .ok (.invokevirtual 119, 3) := by decide +kernel
theorem dX10_make_107 : decode cX10_make 107 = .ok (.iinc 3 1, 3) := by decide +kernel
theorem dX10_make_110 : decode cX10_make 110 = .ok (.goto (-84), 3) := by decide +kernel
theorem dX10_make_113 : decode cX10_make 113 = .ok (.iload_n 1, 1) := by decide +kernel
theorem dX10_make_114 : decode cX10_make 114 = .ok (.aload_n 0, 1) := by decide +kernel
theorem dX10_make_115 : decode cX10_make 115 = .ok (.getfield 7, 3) := by decide +kernel
theorem dX10_make_118 : decode cX10_make 118 = .ok (.iconst 4, 1) := by decide +kernel
theorem dX10_make_119 : decode cX10_make 119 = .ok (.iaload, 1) := by decide +kernel
theorem dX10_make_120 : decode cX10_make 120 = .ok (.iconst 1, 1) := by decide +kernel
theorem dX10_make_121 : decode cX10_make 121 = .ok (.isub, 1) := by decide +kernel
theorem dX10_make_122 : decode cX10_make 122 = .ok (.if_icmp .ne 6, 3) := by decide +kernel
theorem dX10_make_125 : decode cX10_make 125 = .ok (.goto 93, 3) := by decide +kernel
theorem dX10_make_128 : decode cX10_make 128 = .ok (.aload_n 0, 1) := by decide +kernel
theorem dX10_make_129 : decode cX10_make 129 = .ok (.getfield 7, 3) := by decide +kernel
theorem dX10_make_132 : decode cX10_make 132 = .ok (.bipush 11, 2) := by decide +kernel
theorem dX10_make_134 : decode cX10_make 134 = .ok (.iload_n 1, 1) := by decide +kernel
theorem dX10_make_135 : decode cX10_make 135 = .ok (.iadd, 1) := by decide +kernel
theorem dX10_make_136 : decode cX10_make 136 = .ok (.iaload, 1) := by decide +kernel
theorem dX10_make_137 : decode cX10_make 137 = .ok (.ifCond .ne 25, 3) := by decide +kernel
theorem dX10_make_140 : decode cX10_make 140 = .ok (.aload_n 0, 1) := by decide +kernel
theorem dX10_make_141 : decode cX10_make 141 = .ok (.iconst 2, 1) := by decide +kernel
theorem dX10_make_142 : decode cX10_make 142 = .ok (.aload_n 0, 1) := by decide +kernel
theorem dX10_make_143 : decode cX10_make 143 = .ok (.getfield 7, 3) := by decide +kernel
theorem dX10_make_146 : decode cX10_make 146 = .ok (.iconst 1, 1) := by decide +kernel
theorem dX10_make_147 : decode cX10_make 147 = .ok (.iaload, 1) := by decide +kernel
theorem dX10_make_148 : decode cX10_make 148 = .ok (.aload_n 0, 1) := by decide +kernel
theorem dX10_make_149 : decode cX10_make 149 = .ok (.getfield 7, 3) := by decide +kernel
theorem dX10_make_152 : decode cX10_make 152 = .ok (.iconst 1, 1) := by decide +kernel
theorem dX10_make_153 : decode cX10_make 153 = .ok (.iaload, 1) := by decide +kernel
theorem dX10_make_154 : decode cX10_make 154 = .ok (.iconst (-1), 1) := by decide +kernel
theorem dX10_make_155 : decode cX10_make 155 = .ok (.iload_n 1, 1) := by decide +kernel
theorem dX10_make_156 : decode cX10_make 156 = .ok (.invokevirtual 119, 3) := by decide +kernel
theorem dX10_make_159 : decode cX10_make 159 = .ok (.goto 59, 3) := by decide +kernel
theorem dX10_make_162 : decode cX10_make 162 = .ok (.iconst 0, 1) := by decide +kernel
theorem dX10_make_163 : decode cX10_make 163 = .ok (.istore_n 3, 1) := by decide +kernel
theorem dX10_make_164 : decode cX10_make 164 = .ok (.iload_n 3, 1) := by decide +kernel
theorem dX10_make_165 : decode cX10_make 165 = .ok (.iconst 3, 1) := by decide +kernel
theorem dX10_make_166 : decode cX10_make 166 = .ok (.if_icmp .ge 52, 3) := by decide +kernel
theorem dX10_make_169 : decode cX10_make 169 = .ok (.aload_n 0, 1) := by decide +kernel
theorem dX10_make_170 : decode cX10_make 170 = .ok (.iconst 3, 1) := by decide +kernel
theorem dX10_make_171 : decode cX10_make 171 = .ok (.aload_n 0, 1) := by decide +kernel
theorem dX10_make_172 : decode cX10_make 172 = .ok (.aload_n 0, 1) := by decide +kernel
theorem dX10_make_173 : decode cX10_make 173 = .ok (.getfield 7, 3) := by decide +kernel
theorem dX10_make_176 : decode cX10_make 176 = .ok (.iconst 2, 1) := by decide +kernel
theorem dX10_make_177 : decode cX10_make 177 = .ok (.iaload, 1) := by decide +kernel
theorem dX10_make_178 : decode cX10_make 178 = .ok (.bipush 11, 2) := by decide +kernel
theorem dX10_make_180 : decode cX10_make 180 = .ok (.imul, 1) := by decide +kernel
theorem dX10_make_181 : decode cX10_make 181 = .ok (.bipush 7, 2) := by decide +kernel
theorem dX10_make_183 : decode cX10_make 183 = .ok (.idiv, 1) := by decide +kernel
theorem dX10_make_184 : decode cX10_make 184 = .ok (.iconst 3, 1) := by decide +kernel
theorem dX10_make_185 : decode cX10_make 185 = .ok (.iload_n 3, 1) := by decide +kernel
theorem dX10_make_186 : decode cX10_make 186 = .ok (.invokevirtual 115, 3) := by decide +kernel
theorem dX10_make_189 : decode cX10_make 189 = .ok (.aload_n 0, 1) := by decide +kernel
theorem dX10_make_190 : decode cX10_make 190 = .ok (.aload_n 0, 1) := by decide +kernel
theorem dX10_make_191 : decode cX10_make 191 = .ok (.getfield 7, 3) := by decide +kernel
theorem dX10_make_194 : decode cX10_make 194 = .ok (.iconst 3, 1) := by decide +kernel
theorem dX10_make_195 : decode cX10_make 195 = .ok (.iaload, 1) := by decide +kernel
theorem dX10_make_196 : decode cX10_make 196 = .ok (.bipush 11, 2) := by decide +kernel
theorem dX10_make_198 : decode cX10_make 198 = .ok (.imul, 1) := by decide +kernel
theorem dX10_make_199 : decode cX10_make 199 = .ok (.bipush 7, 2) := by decide +kernel
theorem dX10_make_201 : decode cX10_make 201 = .ok (.idiv, 1) := by decide +kernel
theorem dX10_make_202 : decode cX10_make 202 = .ok (.iconst 3, 1) := by decide +kernel
theorem dX10_make_203 : decode cX10_make 203 = .ok (.iload_n 3, 1) := by decide +kernel
theorem dX10_make_204 : decode cX10_make 204 = .ok (.invokevirtual 115, 3) := by decide +kernel
theorem dX10_make_207 : decode cX10_make 207 = .ok (.iconst (-1), 1) := by decide +kernel
theorem dX10_make_208 : decode cX10_make 208 = .ok (.iload_n 1, 1) := by decide +kernel
theorem dX10_make_209 : decode cX10_make 209 = .ok (.invokevirtual 119, 3) := by decide +kernel
theorem dX10_make_212 : decode cX10_make 212 = .ok (.iinc 3 1, 3) := by decide +kernel
theorem dX10_make_215 : decode cX10_make 215 = .ok (.goto (-51), 3) := by decide +kernel
theorem dX10_make_218 : decode cX10_make 218 = .ok (.iinc 1 1, 3) := by decide +kernel
theorem dX10_make_221 : decode cX10_make 221 = .ok (.goto (-214), 3) := by decide +kernel
theorem dX10_make_224 : decode cX10_make 224 = .ok (.iconst 0, 1) := by decide +kernel
theorem dX10_make_225 : decode cX10_make 225 = .ok (.istore_n 1, 1) := by decide +kernel
theorem dX10_make_226 : decode cX10_make 226 = .ok (.iconst 0, 1) := by decide +kernel
theorem dX10_make_227 : decode cX10_make 227 = .ok (.istore_n 2, 1) := by decide +kernel
theorem dX10_make_228 : decode cX10_make 228 = .ok (.iconst 0, 1) := by decide +kernel
theorem dX10_make_229 : decode cX10_make 229 = .ok (.istore_n 3, 1) := by decide +kernel
theorem dX10_make_230 : decode cX10_make 230 = .ok (.iload_n 3, 1) := by decide +kernel
theorem dX10_make_231 : decode cX10_make 231 = .ok (.aload_n 0, 1) := by decide +kernel
theorem dX10_make_232 : decode cX10_make 232 = .ok (.getfield 112, 3) := by decide +kernel
theorem dX10_make_235 : decode cX10_make 235 = .ok (.if_icmp .gt 32, 3) := by decide +kernel
theorem dX10_make_238 : decode cX10_make 238 = .ok (.aload_n 0, 1) := by decide +kernel
theorem dX10_make_239 : decode cX10_make 239 = .ok (.getfield 26, 3) := by decide +kernel
theorem dX10_make_242 : decode cX10_make 242 = .ok (.iload_n 3, 1) := by decide +kernel
theorem dX10_make_243 : decode cX10_make 243 = .ok (.aload_n 0, 1) := by decide +kernel
theorem dX10_make_244 : decode cX10_make 244 = .ok (.aload_n 0, 1) := by decide +kernel
theorem dX10_make_245 : decode cX10_make 245 = .ok (.getfield 7, 3) := by decide +kernel
theorem dX10_make_248 : decode cX10_make 248 = .ok (.iconst 0, 1) := by decide +kernel
theorem dX10_make_249 : decode cX10_make 249 = .ok (.iaload, 1) := by decide +kernel
theorem dX10_make_250 : decode cX10_make 250 = .ok (.aload_n 0, 1) := by decide +kernel
theorem dX10_make_251 : decode cX10_make 251 = .ok (.getfield 112, 3) := by decide +kernel
theorem dX10_make_254 : decode cX10_make 254 = .ok (.iconst 1, 1) := by decide +kernel
theorem dX10_make_255 : decode cX10_make 255 = .ok (.iadd, 1) := by decide +kernel
theorem dX10_make_256 : decode cX10_make 256 = .ok (.iload_n 3, 1) := by decide +kernel
theorem dX10_make_257 : decode cX10_make 257 = .ok (.invokevirtual 115, 3) := by decide +kernel
theorem dX10_make_260 : decode cX10_make 260 = .ok (.iastore, 1) := by decide +kernel
theorem dX10_make_261 : decode cX10_make 261 = .ok (.iinc 3 1, 3) := by decide +kernel
theorem dX10_make_264 : decode cX10_make 264 = .ok (.goto (-34), 3) := by decide +kernel
theorem dX10_make_267 : decode cX10_make 267 = .ok (.iconst 0, 1) := by decide +kernel
theorem dX10_make_268 : decode cX10_make 268 = .ok (.istore_n 3, 1) := by decide +kernel
theorem dX10_make_269 : decode cX10_make 269 = .ok (.iload_n 3, 1) := by decide +kernel
theorem dX10_make_270 : decode cX10_make 270 = .ok (.aload_n 0, 1) := by decide +kernel
theorem dX10_make_271 : decode cX10_make 271 = .ok (.getfield 112, 3) := by decide +kernel
theorem dX10_make_274 : decode cX10_make 274 = .ok (.if_icmp .ge 171, 3) := by decide +kernel
theorem dX10_make_277 : decode cX10_make 277 = .ok (.iload_n 1, 1) := by decide +kernel
theorem dX10_make_278 : decode cX10_make 278 = .ok (.aload_n 0, 1) := by decide +kernel
theorem dX10_make_279 : decode cX10_make 279 = .ok (.getfield 26, 3) := by decide +kernel
theorem dX10_make_282 : decode cX10_make 282 = .ok (.iload_n 3, 1) := by decide +kernel
theorem dX10_make_283 : decode cX10_make 283 = .ok (.iaload, 1) := by decide +kernel
theorem dX10_make_284 : decode cX10_make 284 = .ok (.iadd, 1) := by decide +kernel
theorem dX10_make_285 : decode cX10_make 285 = .ok (.istore_n 1, 1) := by decide +kernel
theorem dX10_make_286 : decode cX10_make 286 = .ok (.aload_n 0, 1) := by decide +kernel
theorem dX10_make_287 : decode cX10_make 287 = .ok (.getfield 29, 3) := by decide +kernel
theorem dX10_make_290 : decode cX10_make 290 = .ok (.iload_n 3, 1) := by decide +kernel
theorem dX10_make_291 : decode cX10_make 291 = .ok (.iload_n 1, 1) := by decide +kernel
theorem dX10_make_292 : decode cX10_make 292 = .ok (.iastore, 1) := by decide +kernel
theorem dX10_make_293 : decode cX10_make 293 = .ok (.aload_n 0, 1) := by decide +kernel
theorem dX10_make_294 : decode cX10_make 294 = .ok (.getfield 38, 3) := by decide +kernel
theorem dX10_make_297 : decode cX10_make 297 = .ok (.iload_n 3, 1) := by decide +kernel
theorem dX10_make_298 : decode cX10_make 298 = .ok (.iload_n 2, 1) := by decide +kernel
theorem dX10_make_299 : decode cX10_make 299 = .ok (.iastore, 1) := by decide +kernel
theorem dX10_make_300 : decode cX10_make 300 = .ok (.sipush 9999, 3) := by decide +kernel
theorem dX10_make_303 : decode cX10_make 303 = .ok (.iload_n 1, 1) := by decide +kernel
theorem dX10_make_304 : decode cX10_make 304 = .ok (.iadd, 1) := by decide +kernel
theorem dX10_make_305 : decode cX10_make 305 = .ok (.istore 4, 2) := by decide +kernel
theorem dX10_make_307 : decode cX10_make 307 = .ok (.iconst 0, 1) := by decide +kernel
theorem dX10_make_308 : decode cX10_make 308 = .ok (.istore 5, 2) := by decide +kernel
theorem dX10_make_310 : decode cX10_make 310 = .ok (.iload 5, 2) := by decide +kernel
theorem dX10_make_312 : decode cX10_make 312 = .ok (.aload_n 0, 1) := by decide +kernel
theorem dX10_make_313 : decode cX10_make 313 = .ok (.getfield 7, 3) := by decide +kernel
theorem dX10_make_316 : decode cX10_make 316 = .ok (.bipush 19, 2) := by decide +kernel
theorem dX10_make_318 : decode cX10_make 318 = .ok (.iaload, 1) := by decide +kernel
theorem dX10_make_319 : decode cX10_make 319 = .ok (.if_icmp .ge 101, 3) := by decide +kernel
theorem dX10_make_322 : decode cX10_make 322 = .ok (.aload_n 0, 1) := by decide +kernel
theorem dX10_make_323 : decode cX10_make 323 = .ok (.getfield 7, 3) := by decide +kernel
theorem dX10_make_326 : decode cX10_make 326 = .ok (.bipush 20, 2) := by decide +kernel
theorem dX10_make_328 : decode cX10_make 328 = .ok (.iconst 3, 1) := by decide +kernel
theorem dX10_make_329 : decode cX10_make 329 = .ok (.iload 5, 2) := by decide +kernel
theorem dX10_make_331 : decode cX10_make 331 = .ok (.imul, 1) := by decide +kernel
theorem dX10_make_332 : decode cX10_make 332 = .ok (.iadd, 1) := by decide +kernel
theorem dX10_make_333 : decode cX10_make 333 = .ok (.iaload, 1) := by decide +kernel
theorem dX10_make_334 : decode cX10_make 334 = .ok (.istore 6, 2) := by decide +kernel
theorem dX10_make_336 : decode cX10_make 336 = .ok (.aload_n 0, 1) := by decide +kernel
theorem dX10_make_337 : decode cX10_make 337 = .ok (.getfield 7, 3) := by decide +kernel
theorem dX10_make_340 : decode cX10_make 340 = .ok (.bipush 20, 2) := by decide +kernel
theorem dX10_make_342 : decode cX10_make 342 = .ok (.iconst 3, 1) := by decide +kernel
theorem dX10_make_343 : decode cX10_make 343 = .ok (.iload 5, 2) := by decide +kernel
theorem dX10_make_345 : decode cX10_make 345 = .ok (.imul, 1) := by decide +kernel
theorem dX10_make_346 : decode cX10_make 346 = .ok (.iadd, 1) := by decide +kernel
theorem dX10_make_347 : decode cX10_make 347 = .ok (.iconst 1, 1) := by decide +kernel
theorem dX10_make_348 : decode cX10_make 348 = .ok (.iadd, 1) := by decide +kernel
theorem dX10_make_349 : decode cX10_make 349 = .ok (.iaload, 1) := by decide +kernel
theorem dX10_make_350 : decode cX10_make 350 = .ok (.istore 7, 2) := by decide +kernel
theorem dX10_make_352 : decode cX10_make 352 = .ok (.aload_n 0, 1) := by decide +kernel
theorem dX10_make_353 : decode cX10_make 353 = .ok (.getfield 7, 3) := by decide +kernel
theorem dX10_make_356 : decode cX10_make 356 = .ok (.bipush 20, 2) := by decide +kernel
theorem dX10_make_358 : decode cX10_make 358 = .ok (.iconst 3, 1) := by decide +kernel
theorem dX10_make_359 : decode cX10_make 359 = .ok (.iload 5, 2) := by decide +kernel
theorem dX10_make_361 : decode cX10_make 361 = .ok (.imul, 1) := by decide +kernel
theorem dX10_make_362 : decode cX10_make 362 = .ok (.iadd, 1) := by decide +kernel
theorem dX10_make_363 : decode cX10_make 363 = .ok (.iconst 2, 1) := by decide +kernel
theorem dX10_make_364 : decode cX10_make 364 = .ok (.iadd, 1) := by decide +kernel
theorem dX10_make_365 : decode cX10_make 365 = .ok (.iaload, 1) := by decide +kernel
theorem dX10_make_366 : decode cX10_make 366 = .ok (.istore 8, 2) := by decide +kernel
theorem dX10_make_368 : decode cX10_make 368 = .ok (.iload 6, 2) := by decide +kernel
theorem dX10_make_370 : decode cX10_make 370 = .ok (.iload_n 2, 1) := by decide +kernel
theorem dX10_make_371 : decode cX10_make 371 = .ok (.aload_n 0, 1) := by decide +kernel
theorem dX10_make_372 : decode cX10_make 372 = .ok (.getfield 32, 3) := by decide +kernel
theorem dX10_make_375 : decode cX10_make 375 = .ok (.iload_n 3, 1) := by decide +kernel
theorem dX10_make_376 : decode cX10_make 376 = .ok (.iaload, 1) := by decide +kernel
theorem dX10_make_377 : decode cX10_make 377 = .ok (.iadd, 1) := by decide +kernel
theorem dX10_make_378 : decode cX10_make 378 = .ok (.if_icmp .ge 36, 3) := by decide +kernel
theorem dX10_make_381 : decode cX10_make 381 = .ok (.iload 7, 2) := by decide +kernel
theorem dX10_make_383 : decode cX10_make 383 = .ok (.iload_n 2, 1) := by decide +kernel
theorem dX10_make_384 : decode cX10_make 384 = .ok (.if_icmp .le 30, 3) := by decide +kernel
theorem dX10_make_387 : decode cX10_make 387 = .ok (.iload 6, 2) := by decide +kernel
theorem dX10_make_389 : decode cX10_make 389 = .ok (.iload 7, 2) := by decide +kernel
theorem dX10_make_391 : decode cX10_make 391 = .ok (.if_icmp .ge 23, 3) := by decide +kernel
theorem dX10_make_394 : decode cX10_make 394 = .ok (.aload_n 0, 1) := by decide +kernel
theorem dX10_make_395 : decode cX10_make 395 = .ok (.getfield 32, 3) := by decide +kernel
theorem dX10_make_398 : decode cX10_make 398 = .ok (.iload_n 3, 1) := by decide +kernel
theorem dX10_make_399 : decode cX10_make 399 = .ok (.iaload, 1) := by decide +kernel
theorem dX10_make_400 : decode cX10_make 400 = .ok (.ifCond .le 14, 3) := by decide +kernel
theorem dX10_make_403 : decode cX10_make 403 = .ok (.iload 8, 2) := by decide +kernel
theorem dX10_make_405 : decode cX10_make 405 = .ok (.iload 4, 2) := by decide +kernel
theorem dX10_make_407 : decode cX10_make 407 = .ok (.if_icmp .ge 7, 3) := by decide +kernel
theorem dX10_make_410 : decode cX10_make 410 = .ok (.iload 8, 2) := by decide +kernel
theorem dX10_make_412 : decode cX10_make 412 = .ok (.istore 4, 2) := by decide +kernel
theorem dX10_make_414 : decode cX10_make 414 = .ok (.iinc 5 1, 3) := by decide +kernel
theorem dX10_make_417 : decode cX10_make 417 = .ok (.goto (-107), 3) := by decide +kernel
theorem dX10_make_420 : decode cX10_make 420 = .ok (.aload_n 0, 1) := by decide +kernel
theorem dX10_make_421 : decode cX10_make 421 = .ok (.getfield 41, 3) := by decide +kernel
theorem dX10_make_424 : decode cX10_make 424 = .ok (.iload_n 3, 1) := by decide +kernel
theorem dX10_make_425 : decode cX10_make 425 = .ok (.iload 4, 2) := by decide +kernel
theorem dX10_make_427 : decode cX10_make 427 = .ok (.iload_n 1, 1) := by decide +kernel
theorem dX10_make_428 : decode cX10_make 428 = .ok (.isub, 1) := by decide +kernel
theorem dX10_make_429 : decode cX10_make 429 = .ok (.iastore, 1) := by decide +kernel
theorem dX10_make_430 : decode cX10_make 430 = .ok (.iload_n 2, 1) := by decide +kernel
theorem dX10_make_431 : decode cX10_make 431 = .ok (.aload_n 0, 1) := by decide +kernel
theorem dX10_make_432 : decode cX10_make 432 = .ok (.getfield 32, 3) := by decide +kernel
theorem dX10_make_435 : decode cX10_make 435 = .ok (.iload_n 3, 1) := by decide +kernel
theorem dX10_make_436 : decode cX10_make 436 = .ok (.iaload, 1) := by decide +kernel
theorem dX10_make_437 : decode cX10_make 437 = .ok (.iadd, 1) := by decide +kernel
theorem dX10_make_438 : decode cX10_make 438 = .ok (.istore_n 2, 1) := by decide +kernel
theorem dX10_make_439 : decode cX10_make 439 = .ok (.iinc 3 1, 3) := by decide +kernel
theorem dX10_make_442 : decode cX10_make 442 = .ok (.goto (-173), 3) := by decide +kernel
theorem dX10_make_445 : decode cX10_make 445 = .ok (.return_, 1) := by decide +kernel
set_option maxHeartbeats 4000000 in
set_option maxRecDepth 100000 in
theorem k_X10_make (l : Launch) (D : va_G) (cy : Nat → ClassId) {L : List Nat} {τ : Nat → Ro} {E : Ec} (hI : Inv TB cy L τ E) {a0 : Nat} (ha0 : a0 ∈ L) (ta0 : τ a0 = (11, 0)) : CtV l yX10_make wsX10_make { frames := 1, cells := 0, slots := 0, locals := 25 } D TB cy L τ E [.ref a0] (inW [(11, 0), (63, 0), (64, 0), (65, 0), (66, 0), (67, 0), (68, 0), (69, 0), (70, 0), (71, 0)]) (fun E' => (∀ k : Nat, k ∉ ([8] : List Nat) → fi E' a0 k = fi E a0 k)) := by
  intro sz
  refine sta (cc := cX10_make) (maxL := 9) hI (by decide) rfl (Nat.le_of_ble_eq_true rfl) (fun p e s m args below meth c ls hsz Z S0 hl => ?_)
  have hx := Z.1.1
  have hb := Z.1.2.1
  have hts := Z.1.2.2.2.2
  have F0_ : Fr L τ (inW [(11, 0), (63, 0), (64, 0), (65, 0), (66, 0), (67, 0), (68, 0), (69, 0), (70, 0), (71, 0)]) E E := Fr.refl
  have hl : lv_has ls 9 [(0, .ref a0)] := hl
  generalize hQ : MQ below _ args s 0 0 _ = QQ
  obtain ⟨qn, hqn, tqn⟩ := ref_of (k := 0) hI ha0 ta0 rfl rfl
  have tqn : τ qn = (60, 0) := tqn
  have J269 : ∀ (n : Nat) (x1_269 : Int32) (x2_269 : Int32) (x3_269 : Int32) (E_269 : Ec) (H_269 : Heap) (k_269 : List Loc) (l_269 : Array Slot), Now D TB cy (va_A (va_pl L E) sz) s L τ E_269 H_269 k_269 → Fr L τ (inW [(11, 0), (63, 0), (64, 0), (65, 0), (66, 0), (67, 0), (68, 0), (69, 0), (70, 0), (71, 0)]) E E_269 → (0 ≤ x3_269.toInt) → (x3_269.toInt ≤ 66) → (∀ k : Nat, k ∉ ([8] : List Nat) → fi E_269 a0 k = fi E a0 k) → (66 - x3_269.toInt).toNat < n → lv_has l_269 9 [(0, .ref a0), (1, .int x1_269), (2, .int x2_269), (3, .int x3_269)] → W p l e { frames := 1, cells := 0, slots := 0, locals := 25 } s m args below meth c H_269 k_269 0 0 QQ (F0 m 269 l_269 []) := by
    intro n
    induction n with
    | zero => intro x1_269 x2_269 x3_269 E_269 H_269 k_269 l_269 S_269 F_269 z1 z2 z3 hm hl_269; exact absurd hm (Nat.not_lt_zero _)
    | succ n ih =>
      intro x1_269 x2_269 x3_269 E_269 H_269 k_269 l_269 S_269 F_269 z1 z2 z3 hm hl_269
      have ih_269 := ih
      have J310 : ∀ (n : Nat) (x1_310 : Int32) (x4_310 : Int32) (x5_310 : Int32) (E_310 : Ec) (H_310 : Heap) (k_310 : List Loc) (l_310 : Array Slot), Now D TB cy (va_A (va_pl L E) sz) s L τ E_310 H_310 k_310 → Fr L τ (inW [(11, 0), (63, 0), (64, 0), (65, 0), (66, 0), (67, 0), (68, 0), (69, 0), (70, 0), (71, 0)]) E E_310 → (0 ≤ x3_269.toInt) → (x3_269.toInt ≤ 65) → (0 ≤ x5_310.toInt) → (x5_310.toInt ≤ 8) → (∀ k : Nat, k ∉ ([8] : List Nat) → fi E_310 a0 k = fi E a0 k) → (8 - x5_310.toInt).toNat < n → lv_has l_310 9 [(0, .ref a0), (1, .int x1_310), (2, .int x2_269), (3, .int x3_269), (4, .int x4_310), (5, .int x5_310)] → W p l e { frames := 1, cells := 0, slots := 0, locals := 25 } s m args below meth c H_310 k_310 0 0 QQ (F0 m 310 l_310 []) := by
        intro n
        induction n with
        | zero => intro x1_310 x4_310 x5_310 E_310 H_310 k_310 l_310 S_310 F_310 z4 z5 z6 z7 z8 hm hl_310; exact absurd hm (Nat.not_lt_zero _)
        | succ n ih =>
          intro x1_310 x4_310 x5_310 E_310 H_310 k_310 l_310 S_310 F_310 z4 z5 z6 z7 z8 hm hl_310
          have ih_310 := ih
          have J414 : ∀ (x4_414 : Int32) (E_414 : Ec) (H_414 : Heap) (k_414 : List Loc) (l_414 : Array Slot), Now D TB cy (va_A (va_pl L E) sz) s L τ E_414 H_414 k_414 → Fr L τ (inW [(11, 0), (63, 0), (64, 0), (65, 0), (66, 0), (67, 0), (68, 0), (69, 0), (70, 0), (71, 0)]) E E_414 → (0 ≤ x3_269.toInt) → (x3_269.toInt ≤ 65) → (0 ≤ x5_310.toInt) → (x5_310.toInt ≤ 7) → (∀ k : Nat, k ∉ ([8] : List Nat) → fi E_414 a0 k = fi E a0 k) → lv_has l_414 9 [(0, .ref a0), (1, .int x1_310), (2, .int x2_269), (3, .int x3_269), (4, .int x4_414), (5, .int x5_310)] → W p l e { frames := 1, cells := 0, slots := 0, locals := 25 } s m args below meth c H_414 k_414 0 0 QQ (F0 m 414 l_414 []) := by
            intro x4_414 E_414 H_414 k_414 l_414 S_414 F_414 z9 z10 z11 z12 z13 hl_414
            obtain ⟨v14, ev14⟩ : ∃ y : Int32, x5_310 + Int32.ofInt (1) = y := ⟨_, rfl⟩
            have tv14 : v14.toInt = x5_310.toInt + (1) := by rw [← ev14]; exact (fb_addI (by rw [show (Int32.ofInt (1)).toInt = 1 from by decide +kernel]; omega) (by rw [show (Int32.ofInt (1)).toInt = 1 from by decide +kernel]; omega)).trans (by rw [show (Int32.ofInt (1)).toInt = 1 from by decide +kernel])
            refine lv_iinc (v := v14) (lv' := [(5, .int v14), (0, .ref a0), (1, .int x1_310), (2, .int x2_269), (3, .int x3_269), (4, .int x4_414)]) hx hb dX10_make_414 hl_414 (k := 5) rfl ev14 (by decide) rfl (fun l15 hl16 => ?_)
            refine lv_goto (tgt := 310) hx hb dX10_make_417 (by decide) ?_
            exact ih_310 x1_310 x4_414 v14 E_414 H_414 k_414 l15 S_414 F_414 (by have := fb_rng x1_310; have := fb_rng x2_269; have := fb_rng x4_414; omega) (by have := fb_rng x1_310; have := fb_rng x2_269; have := fb_rng x4_414; omega) (by have := fb_rng x1_310; have := fb_rng x2_269; have := fb_rng x4_414; omega) (by have := fb_rng x1_310; have := fb_rng x2_269; have := fb_rng x4_414; omega) (fun k hk => (z13 k hk)) (by omega) (lv_sub hl16 [1, 2, 3, 4, 5, 0] rfl)
          refine lv_iload hx hb dX10_make_310 (lv_at hl_310 5 rfl) ?_
          refine lv_aload_n hx hb dX10_make_312 rfl (lv_at hl_310 0 rfl) ?_
          refine tr_getr Z.1 Z.2.2.2.1 S_310.1 S_310.2 ha0 ta0 rfl rfl (fun _ h => List.mem_cons_of_mem _ (List.mem_append_right _ h)) 0 (by decide) rfl (hts _ (List.mem_of_getElem? (i := 2) rfl)) dX10_make_313 (fun q17 eq17 hq17 tq17 => ?_)
          have tq17 : τ q17 = (60, 0) := tq17
          have uq17 : qn = q17 := S_310.2.2.2.2 _ hqn _ hq17 (tqn.trans tq17.symm) (by rw [tqn]; rfl)
          subst uq17
          obtain ⟨v18, ev18, tv18⟩ : ∃ v : Int32, (Int8.ofInt (19)).toInt32 = v ∧ v.toInt = 19 := ⟨_, rfl, by decide +kernel⟩
          refine lv_bipush hx hb dX10_make_316 ev18 ?_
          refine tr_ialdx Z.1 Z.2.2.2.1 S_310.1 S_310.2 hqn tqn rfl (by omega) (by omega) dX10_make_318 (fun v19 ev19 lv19 uv19 => ?_)
          have bv19 : nowB v18.toNatClampNeg = (0, 8) := nb_19 (by show v18.toInt.toNat = 19; omega)
          rw [bv19] at lv19 uv19
          have lv19 : 0 ≤ v19.toInt := lv19
          have uv19 : v19.toInt ≤ 8 := uv19
          have av19 : ai E_310 qn 19 = v19 := ai_at ev19 (by omega)
          refine lv_icmp_ge (tgt := 420) hx hb dX10_make_319 (by decide) (fun c20 => ?_) (fun c20 => ?_)
          · skip
            have tc20 := nu_le c20
            refine lv_aload_n hx hb dX10_make_420 rfl (lv_at hl_310 0 rfl) ?_
            refine tr_getr Z.1 Z.2.2.2.1 S_310.1 S_310.2 ha0 ta0 rfl rfl (fun _ h => List.mem_cons_of_mem _ (List.mem_append_right _ h)) 15 (by decide) rfl (hts _ (List.mem_of_getElem? (i := 8) rfl)) dX10_make_421 (fun q21 eq21 hq21 tq21 => ?_)
            have tq21 : τ q21 = (69, 0) := tq21
            refine lv_iload_n hx hb dX10_make_424 rfl (lv_at hl_310 3 rfl) ?_
            refine lv_iload hx hb dX10_make_425 (lv_at hl_310 4 rfl) ?_
            refine lv_iload_n hx hb dX10_make_427 rfl (lv_at hl_310 1 rfl) ?_
            refine lv_isub hx hb dX10_make_428 ?_
            refine lv_topi (fun v22 ev22 => ?_)
            refine tr_iast Z.1 Z.2.2.2.1 S_310.1 S_310.2 hq21 tq21 rfl (by omega) (by omega) (by have := fb_rng v22; omega) (by have := fb_rng v22; omega) dX10_make_429 (fun E23 H24 k25 W23 I23 P23 => ?_)
            have S23 : Now D TB cy (va_A (va_pl L E) sz) s L τ E23 H24 k25 := ⟨W23, I23⟩
            have F23 : Fr L τ (inW [(11, 0), (63, 0), (64, 0), (65, 0), (66, 0), (67, 0), (68, 0), (69, 0), (70, 0), (71, 0)]) E E23 := Fr.set F_310 P23 tq21 rfl
            refine lv_iload_n hx hb dX10_make_430 rfl (lv_at hl_310 2 rfl) ?_
            refine lv_aload_n hx hb dX10_make_431 rfl (lv_at hl_310 0 rfl) ?_
            refine tr_getr Z.1 Z.2.2.2.1 S23.1 S23.2 ha0 ta0 rfl rfl (fun _ h => List.mem_cons_of_mem _ (List.mem_append_right _ h)) 12 (by decide) rfl (hts _ (List.mem_of_getElem? (i := 7) rfl)) dX10_make_432 (fun q26 eq26 hq26 tq26 => ?_)
            have tq26 : τ q26 = (66, 0) := tq26
            refine lv_iload_n hx hb dX10_make_435 rfl (lv_at hl_310 3 rfl) ?_
            refine tr_iald Z.1 Z.2.2.2.1 S23.1 S23.2 hq26 tq26 rfl (by omega) (by omega) dX10_make_436 (fun v27 ev27 lv27 uv27 => ?_)
            refine lv_iadd hx hb dX10_make_437 ?_
            refine lv_topi (fun v28 ev28 => ?_)
            refine lv_istore_n (lv' := [(2, .int v28), (0, .ref a0), (1, .int x1_310), (3, .int x3_269), (4, .int x4_310), (5, .int x5_310)]) hx hb dX10_make_438 rfl hl_310 (by decide) rfl (fun l29 hl30 => ?_)
            obtain ⟨v31, ev31⟩ : ∃ y : Int32, x3_269 + Int32.ofInt (1) = y := ⟨_, rfl⟩
            have tv31 : v31.toInt = x3_269.toInt + (1) := by rw [← ev31]; exact (fb_addI (by rw [show (Int32.ofInt (1)).toInt = 1 from by decide +kernel]; omega) (by rw [show (Int32.ofInt (1)).toInt = 1 from by decide +kernel]; omega)).trans (by rw [show (Int32.ofInt (1)).toInt = 1 from by decide +kernel])
            refine lv_iinc (v := v31) (lv' := [(3, .int v31), (2, .int v28), (0, .ref a0), (1, .int x1_310), (4, .int x4_310), (5, .int x5_310)]) hx hb dX10_make_439 hl30 (k := 3) rfl ev31 (by decide) rfl (fun l32 hl33 => ?_)
            refine lv_goto (tgt := 269) hx hb dX10_make_442 (by decide) ?_
            exact ih_269 x1_310 v28 v31 E23 H24 k25 l32 S23 F23 (by have := fb_rng v28; have := fb_rng x1_310; have := fb_rng x4_310; omega) (by have := fb_rng v28; have := fb_rng x1_310; have := fb_rng x4_310; omega) (fun k hk => ((fi_set P23 (ne_ro ta0 tq21 (by decide))).trans (z8 k hk))) (by omega) (lv_sub hl33 [2, 3, 1, 0] rfl)
          · skip
            have tc20 := nu_nle c20
            refine lv_aload_n hx hb dX10_make_322 rfl (lv_at hl_310 0 rfl) ?_
            refine tr_getr Z.1 Z.2.2.2.1 S_310.1 S_310.2 ha0 ta0 rfl rfl (fun _ h => List.mem_cons_of_mem _ (List.mem_append_right _ h)) 0 (by decide) rfl (hts _ (List.mem_of_getElem? (i := 2) rfl)) dX10_make_323 (fun q34 eq34 hq34 tq34 => ?_)
            have tq34 : τ q34 = (60, 0) := tq34
            have uq34 : qn = q34 := S_310.2.2.2.2 _ hqn _ hq34 (tqn.trans tq34.symm) (by rw [tqn]; rfl)
            subst uq34
            obtain ⟨v35, ev35, tv35⟩ : ∃ v : Int32, (Int8.ofInt (20)).toInt32 = v ∧ v.toInt = 20 := ⟨_, rfl, by decide +kernel⟩
            refine lv_bipush hx hb dX10_make_326 ev35 ?_
            obtain ⟨v36, ev36, tv36⟩ : ∃ v : Int32, Int32.ofInt (3) = v ∧ v.toInt = 3 := ⟨_, rfl, by decide +kernel⟩
            refine lv_iconst hx hb dX10_make_328 ev36 ?_
            refine lv_iload hx hb dX10_make_329 (lv_at hl_310 5 rfl) ?_
            refine lv_imul hx hb dX10_make_331 ?_
            refine lv_topi (fun v37 ev37 => ?_)
            have tv37 := nu_mulc' (3) ev37 (by omega) (by omega) (by omega)
            refine lv_iadd hx hb dX10_make_332 ?_
            refine lv_topi (fun v38 ev38 => ?_)
            have tv38 := nu_add ev38 (by omega) (by omega)
            refine tr_ialdx Z.1 Z.2.2.2.1 S_310.1 S_310.2 hqn tqn rfl (by omega) (by omega) dX10_make_333 (fun v39 ev39 lv39 uv39 => ?_)
            have bv39 : nowB v38.toNatClampNeg = (-2147483648, 2147483647) := nb_o (by show v38.toInt.toNat < 4 ∨ (8 ≤ v38.toInt.toNat ∧ v38.toInt.toNat ≤ 18) ∨ (20 ≤ v38.toInt.toNat ∧ v38.toInt.toNat ≤ 43); omega)
            rw [bv39] at lv39 uv39
            have lv39 : -2147483648 ≤ v39.toInt := lv39
            have uv39 : v39.toInt ≤ 2147483647 := uv39
            refine lv_istore (lv' := [(6, .int v39), (0, .ref a0), (1, .int x1_310), (2, .int x2_269), (3, .int x3_269), (4, .int x4_310), (5, .int x5_310)]) hx hb dX10_make_334 hl_310 (by decide) rfl (fun l40 hl41 => ?_)
            refine lv_aload_n hx hb dX10_make_336 rfl (lv_at hl41 1 rfl) ?_
            refine tr_getr Z.1 Z.2.2.2.1 S_310.1 S_310.2 ha0 ta0 rfl rfl (fun _ h => List.mem_cons_of_mem _ (List.mem_append_right _ h)) 0 (by decide) rfl (hts _ (List.mem_of_getElem? (i := 2) rfl)) dX10_make_337 (fun q42 eq42 hq42 tq42 => ?_)
            have tq42 : τ q42 = (60, 0) := tq42
            have uq42 : qn = q42 := S_310.2.2.2.2 _ hqn _ hq42 (tqn.trans tq42.symm) (by rw [tqn]; rfl)
            subst uq42
            obtain ⟨v43, ev43, tv43⟩ : ∃ v : Int32, (Int8.ofInt (20)).toInt32 = v ∧ v.toInt = 20 := ⟨_, rfl, by decide +kernel⟩
            refine lv_bipush hx hb dX10_make_340 ev43 ?_
            obtain ⟨v44, ev44, tv44⟩ : ∃ v : Int32, Int32.ofInt (3) = v ∧ v.toInt = 3 := ⟨_, rfl, by decide +kernel⟩
            refine lv_iconst hx hb dX10_make_342 ev44 ?_
            refine lv_iload hx hb dX10_make_343 (lv_at hl41 6 rfl) ?_
            refine lv_imul hx hb dX10_make_345 ?_
            refine lv_topi (fun v45 ev45 => ?_)
            have tv45 := nu_mulc' (3) ev45 (by omega) (by omega) (by omega)
            refine lv_iadd hx hb dX10_make_346 ?_
            refine lv_topi (fun v46 ev46 => ?_)
            have tv46 := nu_add ev46 (by omega) (by omega)
            obtain ⟨v47, ev47, tv47⟩ : ∃ v : Int32, Int32.ofInt (1) = v ∧ v.toInt = 1 := ⟨_, rfl, by decide +kernel⟩
            refine lv_iconst hx hb dX10_make_347 ev47 ?_
            refine lv_iadd hx hb dX10_make_348 ?_
            refine lv_topi (fun v48 ev48 => ?_)
            have tv48 := nu_add ev48 (by omega) (by omega)
            refine tr_ialdx Z.1 Z.2.2.2.1 S_310.1 S_310.2 hqn tqn rfl (by omega) (by omega) dX10_make_349 (fun v49 ev49 lv49 uv49 => ?_)
            have bv49 : nowB v48.toNatClampNeg = (-2147483648, 2147483647) := nb_o (by show v48.toInt.toNat < 4 ∨ (8 ≤ v48.toInt.toNat ∧ v48.toInt.toNat ≤ 18) ∨ (20 ≤ v48.toInt.toNat ∧ v48.toInt.toNat ≤ 43); omega)
            rw [bv49] at lv49 uv49
            have lv49 : -2147483648 ≤ v49.toInt := lv49
            have uv49 : v49.toInt ≤ 2147483647 := uv49
            refine lv_istore (lv' := [(7, .int v49), (6, .int v39), (0, .ref a0), (1, .int x1_310), (2, .int x2_269), (3, .int x3_269), (4, .int x4_310), (5, .int x5_310)]) hx hb dX10_make_350 hl41 (by decide) rfl (fun l50 hl51 => ?_)
            refine lv_aload_n hx hb dX10_make_352 rfl (lv_at hl51 2 rfl) ?_
            refine tr_getr Z.1 Z.2.2.2.1 S_310.1 S_310.2 ha0 ta0 rfl rfl (fun _ h => List.mem_cons_of_mem _ (List.mem_append_right _ h)) 0 (by decide) rfl (hts _ (List.mem_of_getElem? (i := 2) rfl)) dX10_make_353 (fun q52 eq52 hq52 tq52 => ?_)
            have tq52 : τ q52 = (60, 0) := tq52
            have uq52 : qn = q52 := S_310.2.2.2.2 _ hqn _ hq52 (tqn.trans tq52.symm) (by rw [tqn]; rfl)
            subst uq52
            obtain ⟨v53, ev53, tv53⟩ : ∃ v : Int32, (Int8.ofInt (20)).toInt32 = v ∧ v.toInt = 20 := ⟨_, rfl, by decide +kernel⟩
            refine lv_bipush hx hb dX10_make_356 ev53 ?_
            obtain ⟨v54, ev54, tv54⟩ : ∃ v : Int32, Int32.ofInt (3) = v ∧ v.toInt = 3 := ⟨_, rfl, by decide +kernel⟩
            refine lv_iconst hx hb dX10_make_358 ev54 ?_
            refine lv_iload hx hb dX10_make_359 (lv_at hl51 7 rfl) ?_
            refine lv_imul hx hb dX10_make_361 ?_
            refine lv_topi (fun v55 ev55 => ?_)
            have tv55 := nu_mulc' (3) ev55 (by omega) (by omega) (by omega)
            refine lv_iadd hx hb dX10_make_362 ?_
            refine lv_topi (fun v56 ev56 => ?_)
            have tv56 := nu_add ev56 (by omega) (by omega)
            obtain ⟨v57, ev57, tv57⟩ : ∃ v : Int32, Int32.ofInt (2) = v ∧ v.toInt = 2 := ⟨_, rfl, by decide +kernel⟩
            refine lv_iconst hx hb dX10_make_363 ev57 ?_
            refine lv_iadd hx hb dX10_make_364 ?_
            refine lv_topi (fun v58 ev58 => ?_)
            have tv58 := nu_add ev58 (by omega) (by omega)
            refine tr_ialdx Z.1 Z.2.2.2.1 S_310.1 S_310.2 hqn tqn rfl (by omega) (by omega) dX10_make_365 (fun v59 ev59 lv59 uv59 => ?_)
            have bv59 : nowB v58.toNatClampNeg = (-2147483648, 2147483647) := nb_o (by show v58.toInt.toNat < 4 ∨ (8 ≤ v58.toInt.toNat ∧ v58.toInt.toNat ≤ 18) ∨ (20 ≤ v58.toInt.toNat ∧ v58.toInt.toNat ≤ 43); omega)
            rw [bv59] at lv59 uv59
            have lv59 : -2147483648 ≤ v59.toInt := lv59
            have uv59 : v59.toInt ≤ 2147483647 := uv59
            refine lv_istore (lv' := [(8, .int v59), (7, .int v49), (6, .int v39), (0, .ref a0), (1, .int x1_310), (2, .int x2_269), (3, .int x3_269), (4, .int x4_310), (5, .int x5_310)]) hx hb dX10_make_366 hl51 (by decide) rfl (fun l60 hl61 => ?_)
            refine lv_iload hx hb dX10_make_368 (lv_at hl61 2 rfl) ?_
            refine lv_iload_n hx hb dX10_make_370 rfl (lv_at hl61 5 rfl) ?_
            refine lv_aload_n hx hb dX10_make_371 rfl (lv_at hl61 3 rfl) ?_
            refine tr_getr Z.1 Z.2.2.2.1 S_310.1 S_310.2 ha0 ta0 rfl rfl (fun _ h => List.mem_cons_of_mem _ (List.mem_append_right _ h)) 12 (by decide) rfl (hts _ (List.mem_of_getElem? (i := 7) rfl)) dX10_make_372 (fun q62 eq62 hq62 tq62 => ?_)
            have tq62 : τ q62 = (66, 0) := tq62
            refine lv_iload_n hx hb dX10_make_375 rfl (lv_at hl61 6 rfl) ?_
            refine tr_iald Z.1 Z.2.2.2.1 S_310.1 S_310.2 hq62 tq62 rfl (by omega) (by omega) dX10_make_376 (fun v63 ev63 lv63 uv63 => ?_)
            refine lv_iadd hx hb dX10_make_377 ?_
            refine lv_topi (fun v64 ev64 => ?_)
            refine lv_icmp_ge (tgt := 414) hx hb dX10_make_378 (by decide) (fun c65 => ?_) (fun c65 => ?_)
            · skip
              have tc65 := nu_le c65
              exact J414 x4_310 E_310 H_310 k_310 l60 S_310 F_310 (by have := fb_rng v59; have := fb_rng v49; have := fb_rng v39; have := fb_rng x1_310; have := fb_rng x2_269; have := fb_rng x4_310; omega) (by have := fb_rng v59; have := fb_rng v49; have := fb_rng v39; have := fb_rng x1_310; have := fb_rng x2_269; have := fb_rng x4_310; omega) (by have := fb_rng v59; have := fb_rng v49; have := fb_rng v39; have := fb_rng x1_310; have := fb_rng x2_269; have := fb_rng x4_310; omega) (by have := fb_rng v59; have := fb_rng v49; have := fb_rng v39; have := fb_rng x1_310; have := fb_rng x2_269; have := fb_rng x4_310; omega) (fun k hk => (z8 k hk)) (lv_sub hl61 [3, 4, 5, 6, 7, 8] rfl)
            · skip
              have tc65 := nu_nle c65
              refine lv_iload hx hb dX10_make_381 (lv_at hl61 1 rfl) ?_
              refine lv_iload_n hx hb dX10_make_383 rfl (lv_at hl61 5 rfl) ?_
              refine lv_icmp_le (tgt := 414) hx hb dX10_make_384 (by decide) (fun c66 => ?_) (fun c66 => ?_)
              · skip
                have tc66 := nu_le c66
                exact J414 x4_310 E_310 H_310 k_310 l60 S_310 F_310 (by have := fb_rng v59; have := fb_rng v49; have := fb_rng v39; have := fb_rng x1_310; have := fb_rng x2_269; have := fb_rng x4_310; omega) (by have := fb_rng v59; have := fb_rng v49; have := fb_rng v39; have := fb_rng x1_310; have := fb_rng x2_269; have := fb_rng x4_310; omega) (by have := fb_rng v59; have := fb_rng v49; have := fb_rng v39; have := fb_rng x1_310; have := fb_rng x2_269; have := fb_rng x4_310; omega) (by have := fb_rng v59; have := fb_rng v49; have := fb_rng v39; have := fb_rng x1_310; have := fb_rng x2_269; have := fb_rng x4_310; omega) (fun k hk => (z8 k hk)) (lv_sub hl61 [3, 4, 5, 6, 7, 8] rfl)
              · skip
                have tc66 := nu_nle c66
                refine lv_iload hx hb dX10_make_387 (lv_at hl61 2 rfl) ?_
                refine lv_iload hx hb dX10_make_389 (lv_at hl61 1 rfl) ?_
                refine lv_icmp_ge (tgt := 414) hx hb dX10_make_391 (by decide) (fun c67 => ?_) (fun c67 => ?_)
                · skip
                  have tc67 := nu_le c67
                  exact J414 x4_310 E_310 H_310 k_310 l60 S_310 F_310 (by have := fb_rng v59; have := fb_rng x1_310; have := fb_rng x2_269; have := fb_rng x4_310; omega) (by have := fb_rng v59; have := fb_rng x1_310; have := fb_rng x2_269; have := fb_rng x4_310; omega) (by have := fb_rng v59; have := fb_rng x1_310; have := fb_rng x2_269; have := fb_rng x4_310; omega) (by have := fb_rng v59; have := fb_rng x1_310; have := fb_rng x2_269; have := fb_rng x4_310; omega) (fun k hk => (z8 k hk)) (lv_sub hl61 [3, 4, 5, 6, 7, 8] rfl)
                · skip
                  have tc67 := nu_nle c67
                  refine lv_aload_n hx hb dX10_make_394 rfl (lv_at hl61 3 rfl) ?_
                  refine tr_getr Z.1 Z.2.2.2.1 S_310.1 S_310.2 ha0 ta0 rfl rfl (fun _ h => List.mem_cons_of_mem _ (List.mem_append_right _ h)) 12 (by decide) rfl (hts _ (List.mem_of_getElem? (i := 7) rfl)) dX10_make_395 (fun q68 eq68 hq68 tq68 => ?_)
                  have tq68 : τ q68 = (66, 0) := tq68
                  have uq68 : q62 = q68 := S_310.2.2.2.2 _ hq62 _ hq68 (tq62.trans tq68.symm) (by rw [tq62]; rfl)
                  subst uq68
                  refine lv_iload_n hx hb dX10_make_398 rfl (lv_at hl61 6 rfl) ?_
                  refine tr_iald Z.1 Z.2.2.2.1 S_310.1 S_310.2 hq62 tq62 rfl (by omega) (by omega) dX10_make_399 (fun v69 ev69 lv69 uv69 => ?_)
                  refine lv_if_le (tgt := 414) hx hb dX10_make_400 (by decide) (fun c70 => ?_) (fun c70 => ?_)
                  · skip
                    have tc70 := nu_le c70
                    have uc70 : (0 : Int32).toInt = 0 := rfl
                    exact J414 x4_310 E_310 H_310 k_310 l60 S_310 F_310 (by have := fb_rng v59; have := fb_rng v49; have := fb_rng v39; have := fb_rng x1_310; have := fb_rng x2_269; have := fb_rng x4_310; omega) (by have := fb_rng v59; have := fb_rng v49; have := fb_rng v39; have := fb_rng x1_310; have := fb_rng x2_269; have := fb_rng x4_310; omega) (by have := fb_rng v59; have := fb_rng v49; have := fb_rng v39; have := fb_rng x1_310; have := fb_rng x2_269; have := fb_rng x4_310; omega) (by have := fb_rng v59; have := fb_rng v49; have := fb_rng v39; have := fb_rng x1_310; have := fb_rng x2_269; have := fb_rng x4_310; omega) (fun k hk => (z8 k hk)) (lv_sub hl61 [3, 4, 5, 6, 7, 8] rfl)
                  · skip
                    have tc70 := nu_nle c70
                    have uc70 : (0 : Int32).toInt = 0 := rfl
                    refine lv_iload hx hb dX10_make_403 (lv_at hl61 0 rfl) ?_
                    refine lv_iload hx hb dX10_make_405 (lv_at hl61 7 rfl) ?_
                    refine lv_icmp_ge (tgt := 414) hx hb dX10_make_407 (by decide) (fun c71 => ?_) (fun c71 => ?_)
                    · skip
                      have tc71 := nu_le c71
                      exact J414 x4_310 E_310 H_310 k_310 l60 S_310 F_310 (by have := fb_rng v59; have := fb_rng v49; have := fb_rng v39; have := fb_rng x1_310; have := fb_rng x2_269; have := fb_rng x4_310; omega) (by have := fb_rng v59; have := fb_rng v49; have := fb_rng v39; have := fb_rng x1_310; have := fb_rng x2_269; have := fb_rng x4_310; omega) (by have := fb_rng v59; have := fb_rng v49; have := fb_rng v39; have := fb_rng x1_310; have := fb_rng x2_269; have := fb_rng x4_310; omega) (by have := fb_rng v59; have := fb_rng v49; have := fb_rng v39; have := fb_rng x1_310; have := fb_rng x2_269; have := fb_rng x4_310; omega) (fun k hk => (z8 k hk)) (lv_sub hl61 [3, 4, 5, 6, 7, 8] rfl)
                    · skip
                      have tc71 := nu_nle c71
                      refine lv_iload hx hb dX10_make_410 (lv_at hl61 0 rfl) ?_
                      refine lv_istore (lv' := [(4, .int v59), (8, .int v59), (7, .int v49), (6, .int v39), (0, .ref a0), (1, .int x1_310), (2, .int x2_269), (3, .int x3_269), (5, .int x5_310)]) hx hb dX10_make_412 hl61 (by decide) rfl (fun l72 hl73 => ?_)
                      exact J414 v59 E_310 H_310 k_310 l72 S_310 F_310 (by have := fb_rng v59; have := fb_rng v59; have := fb_rng v49; have := fb_rng v39; have := fb_rng x1_310; have := fb_rng x2_269; omega) (by have := fb_rng v59; have := fb_rng v59; have := fb_rng v49; have := fb_rng v39; have := fb_rng x1_310; have := fb_rng x2_269; omega) (by have := fb_rng v59; have := fb_rng v59; have := fb_rng v49; have := fb_rng v39; have := fb_rng x1_310; have := fb_rng x2_269; omega) (by have := fb_rng v59; have := fb_rng v59; have := fb_rng v49; have := fb_rng v39; have := fb_rng x1_310; have := fb_rng x2_269; omega) (fun k hk => (z8 k hk)) (lv_sub hl73 [4, 5, 6, 7, 0, 8] rfl)
      refine lv_iload_n hx hb dX10_make_269 rfl (lv_at hl_269 3 rfl) ?_
      refine lv_aload_n hx hb dX10_make_270 rfl (lv_at hl_269 0 rfl) ?_
      refine tr_geti Z.1 Z.2.2.2.1 S_269.1 S_269.2 ha0 ta0 rfl rfl (fun _ h => List.mem_cons_of_mem _ (List.mem_append_right _ h)) 8 (by decide) rfl (hts _ (List.mem_of_getElem? (i := 1) rfl)) dX10_make_271 (fun v74 ev74 lv74 uv74 => ?_)
      refine lv_icmp_ge (tgt := 445) hx hb dX10_make_274 (by decide) (fun c75 => ?_) (fun c75 => ?_)
      · skip
        have tc75 := nu_le c75
        rw [← hQ]
        exact en_v Z S_269 F_269 (fun k hk => (z3 k hk)) dX10_make_445
      · skip
        have tc75 := nu_nle c75
        refine lv_iload_n hx hb dX10_make_277 rfl (lv_at hl_269 1 rfl) ?_
        refine lv_aload_n hx hb dX10_make_278 rfl (lv_at hl_269 0 rfl) ?_
        refine tr_getr Z.1 Z.2.2.2.1 S_269.1 S_269.2 ha0 ta0 rfl rfl (fun _ h => List.mem_cons_of_mem _ (List.mem_append_right _ h)) 10 (by decide) rfl (hts _ (List.mem_of_getElem? (i := 4) rfl)) dX10_make_279 (fun q76 eq76 hq76 tq76 => ?_)
        have tq76 : τ q76 = (64, 0) := tq76
        refine lv_iload_n hx hb dX10_make_282 rfl (lv_at hl_269 3 rfl) ?_
        refine tr_iald Z.1 Z.2.2.2.1 S_269.1 S_269.2 hq76 tq76 rfl (by omega) (by omega) dX10_make_283 (fun v77 ev77 lv77 uv77 => ?_)
        refine lv_iadd hx hb dX10_make_284 ?_
        refine lv_topi (fun v78 ev78 => ?_)
        refine lv_istore_n (lv' := [(1, .int v78), (0, .ref a0), (2, .int x2_269), (3, .int x3_269)]) hx hb dX10_make_285 rfl hl_269 (by decide) rfl (fun l79 hl80 => ?_)
        refine lv_aload_n hx hb dX10_make_286 rfl (lv_at hl80 1 rfl) ?_
        refine tr_getr Z.1 Z.2.2.2.1 S_269.1 S_269.2 ha0 ta0 rfl rfl (fun _ h => List.mem_cons_of_mem _ (List.mem_append_right _ h)) 11 (by decide) rfl (hts _ (List.mem_of_getElem? (i := 5) rfl)) dX10_make_287 (fun q81 eq81 hq81 tq81 => ?_)
        have tq81 : τ q81 = (65, 0) := tq81
        refine lv_iload_n hx hb dX10_make_290 rfl (lv_at hl80 3 rfl) ?_
        refine lv_iload_n hx hb dX10_make_291 rfl (lv_at hl80 0 rfl) ?_
        refine tr_iast Z.1 Z.2.2.2.1 S_269.1 S_269.2 hq81 tq81 rfl (by omega) (by omega) (by have := fb_rng v78; omega) (by have := fb_rng v78; omega) dX10_make_292 (fun E82 H83 k84 W82 I82 P82 => ?_)
        have S82 : Now D TB cy (va_A (va_pl L E) sz) s L τ E82 H83 k84 := ⟨W82, I82⟩
        have F82 : Fr L τ (inW [(11, 0), (63, 0), (64, 0), (65, 0), (66, 0), (67, 0), (68, 0), (69, 0), (70, 0), (71, 0)]) E E82 := Fr.set F_269 P82 tq81 rfl
        refine lv_aload_n hx hb dX10_make_293 rfl (lv_at hl80 1 rfl) ?_
        refine tr_getr Z.1 Z.2.2.2.1 S82.1 S82.2 ha0 ta0 rfl rfl (fun _ h => List.mem_cons_of_mem _ (List.mem_append_right _ h)) 14 (by decide) rfl (hts _ (List.mem_of_getElem? (i := 6) rfl)) dX10_make_294 (fun q85 eq85 hq85 tq85 => ?_)
        have tq85 : τ q85 = (68, 0) := tq85
        refine lv_iload_n hx hb dX10_make_297 rfl (lv_at hl80 3 rfl) ?_
        refine lv_iload_n hx hb dX10_make_298 rfl (lv_at hl80 2 rfl) ?_
        refine tr_iast Z.1 Z.2.2.2.1 S82.1 S82.2 hq85 tq85 rfl (by omega) (by omega) (by have := fb_rng x2_269; omega) (by have := fb_rng x2_269; omega) dX10_make_299 (fun E86 H87 k88 W86 I86 P86 => ?_)
        have S86 : Now D TB cy (va_A (va_pl L E) sz) s L τ E86 H87 k88 := ⟨W86, I86⟩
        have F86 : Fr L τ (inW [(11, 0), (63, 0), (64, 0), (65, 0), (66, 0), (67, 0), (68, 0), (69, 0), (70, 0), (71, 0)]) E E86 := Fr.set F82 P86 tq85 rfl
        obtain ⟨v89, ev89, tv89⟩ : ∃ v : Int32, (Int16.ofInt (9999)).toInt32 = v ∧ v.toInt = 9999 := ⟨_, rfl, by decide +kernel⟩
        refine lv_sipush hx hb dX10_make_300 ev89 ?_
        refine lv_iload_n hx hb dX10_make_303 rfl (lv_at hl80 0 rfl) ?_
        refine lv_iadd hx hb dX10_make_304 ?_
        refine lv_topi (fun v90 ev90 => ?_)
        refine lv_istore (lv' := [(4, .int v90), (1, .int v78), (0, .ref a0), (2, .int x2_269), (3, .int x3_269)]) hx hb dX10_make_305 hl80 (by decide) rfl (fun l91 hl92 => ?_)
        obtain ⟨v93, ev93, tv93⟩ : ∃ v : Int32, Int32.ofInt (0) = v ∧ v.toInt = 0 := ⟨_, rfl, by decide +kernel⟩
        refine lv_iconst hx hb dX10_make_307 ev93 ?_
        refine lv_istore (lv' := [(5, .int v93), (4, .int v90), (1, .int v78), (0, .ref a0), (2, .int x2_269), (3, .int x3_269)]) hx hb dX10_make_308 hl92 (by decide) rfl (fun l94 hl95 => ?_)
        exact J310 _ v78 v90 v93 E86 H87 k88 l94 S86 F86 (by have := fb_rng v90; have := fb_rng v78; have := fb_rng x2_269; omega) (by have := fb_rng v90; have := fb_rng v78; have := fb_rng x2_269; omega) (by have := fb_rng v90; have := fb_rng v78; have := fb_rng x2_269; omega) (by have := fb_rng v90; have := fb_rng v78; have := fb_rng x2_269; omega) (fun k hk => ((fi_set P86 (ne_ro ta0 tq85 (by decide))).trans ((fi_set P82 (ne_ro ta0 tq81 (by decide))).trans (z3 k hk)))) (Nat.lt_succ_self _) (lv_sub hl95 [3, 2, 4, 5, 1, 0] rfl)
  have J230 : ∀ (n : Nat) (x1_230 : Int32) (x2_230 : Int32) (x3_230 : Int32) (E_230 : Ec) (H_230 : Heap) (k_230 : List Loc) (l_230 : Array Slot), Now D TB cy (va_A (va_pl L E) sz) s L τ E_230 H_230 k_230 → Fr L τ (inW [(11, 0), (63, 0), (64, 0), (65, 0), (66, 0), (67, 0), (68, 0), (69, 0), (70, 0), (71, 0)]) E E_230 → (0 ≤ x1_230.toInt) → (x1_230.toInt ≤ 0) → (0 ≤ x2_230.toInt) → (x2_230.toInt ≤ 0) → (0 ≤ x3_230.toInt) → (x3_230.toInt ≤ 67) → (∀ k : Nat, k ∉ ([8] : List Nat) → fi E_230 a0 k = fi E a0 k) → (67 - x3_230.toInt).toNat < n → lv_has l_230 9 [(0, .ref a0), (1, .int x1_230), (2, .int x2_230), (3, .int x3_230)] → W p l e { frames := 1, cells := 0, slots := 0, locals := 25 } s m args below meth c H_230 k_230 0 0 QQ (F0 m 230 l_230 []) := by
    intro n
    induction n with
    | zero => intro x1_230 x2_230 x3_230 E_230 H_230 k_230 l_230 S_230 F_230 z96 z97 z98 z99 z100 z101 z102 hm hl_230; exact absurd hm (Nat.not_lt_zero _)
    | succ n ih =>
      intro x1_230 x2_230 x3_230 E_230 H_230 k_230 l_230 S_230 F_230 z96 z97 z98 z99 z100 z101 z102 hm hl_230
      have ih_230 := ih
      refine lv_iload_n hx hb dX10_make_230 rfl (lv_at hl_230 3 rfl) ?_
      refine lv_aload_n hx hb dX10_make_231 rfl (lv_at hl_230 0 rfl) ?_
      refine tr_geti Z.1 Z.2.2.2.1 S_230.1 S_230.2 ha0 ta0 rfl rfl (fun _ h => List.mem_cons_of_mem _ (List.mem_append_right _ h)) 8 (by decide) rfl (hts _ (List.mem_of_getElem? (i := 1) rfl)) dX10_make_232 (fun v103 ev103 lv103 uv103 => ?_)
      refine lv_icmp_gt (tgt := 267) hx hb dX10_make_235 (by decide) (fun c104 => ?_) (fun c104 => ?_)
      · skip
        have tc104 := nu_lt c104
        obtain ⟨v105, ev105, tv105⟩ : ∃ v : Int32, Int32.ofInt (0) = v ∧ v.toInt = 0 := ⟨_, rfl, by decide +kernel⟩
        refine lv_iconst hx hb dX10_make_267 ev105 ?_
        refine lv_istore_n (lv' := [(3, .int v105), (0, .ref a0), (1, .int x1_230), (2, .int x2_230)]) hx hb dX10_make_268 rfl hl_230 (by decide) rfl (fun l106 hl107 => ?_)
        exact J269 _ x1_230 x2_230 v105 E_230 H_230 k_230 l106 S_230 F_230 (by omega) (by omega) (fun k hk => (z102 k hk)) (Nat.lt_succ_self _) (lv_sub hl107 [1, 2, 3, 0] rfl)
      · skip
        have tc104 := nu_nlt c104
        refine lv_aload_n hx hb dX10_make_238 rfl (lv_at hl_230 0 rfl) ?_
        refine tr_getr Z.1 Z.2.2.2.1 S_230.1 S_230.2 ha0 ta0 rfl rfl (fun _ h => List.mem_cons_of_mem _ (List.mem_append_right _ h)) 10 (by decide) rfl (hts _ (List.mem_of_getElem? (i := 4) rfl)) dX10_make_239 (fun q108 eq108 hq108 tq108 => ?_)
        have tq108 : τ q108 = (64, 0) := tq108
        refine lv_iload_n hx hb dX10_make_242 rfl (lv_at hl_230 3 rfl) ?_
        refine lv_aload_n hx hb dX10_make_243 rfl (lv_at hl_230 0 rfl) ?_
        refine lv_aload_n hx hb dX10_make_244 rfl (lv_at hl_230 0 rfl) ?_
        refine tr_getr Z.1 Z.2.2.2.1 S_230.1 S_230.2 ha0 ta0 rfl rfl (fun _ h => List.mem_cons_of_mem _ (List.mem_append_right _ h)) 0 (by decide) rfl (hts _ (List.mem_of_getElem? (i := 2) rfl)) dX10_make_245 (fun q109 eq109 hq109 tq109 => ?_)
        have tq109 : τ q109 = (60, 0) := tq109
        have uq109 : qn = q109 := S_230.2.2.2.2 _ hqn _ hq109 (tqn.trans tq109.symm) (by rw [tqn]; rfl)
        subst uq109
        obtain ⟨v110, ev110, tv110⟩ : ∃ v : Int32, Int32.ofInt (0) = v ∧ v.toInt = 0 := ⟨_, rfl, by decide +kernel⟩
        refine lv_iconst hx hb dX10_make_248 ev110 ?_
        refine tr_ialdx Z.1 Z.2.2.2.1 S_230.1 S_230.2 hqn tqn rfl (by omega) (by omega) dX10_make_249 (fun v111 ev111 lv111 uv111 => ?_)
        have bv111 : nowB v110.toNatClampNeg = (-2147483648, 2147483647) := nb_o (by show v110.toInt.toNat < 4 ∨ (8 ≤ v110.toInt.toNat ∧ v110.toInt.toNat ≤ 18) ∨ (20 ≤ v110.toInt.toNat ∧ v110.toInt.toNat ≤ 43); omega)
        rw [bv111] at lv111 uv111
        have lv111 : -2147483648 ≤ v111.toInt := lv111
        have uv111 : v111.toInt ≤ 2147483647 := uv111
        have av111 : ai E_230 qn 0 = v111 := ai_at ev111 (by omega)
        refine lv_aload_n hx hb dX10_make_250 rfl (lv_at hl_230 0 rfl) ?_
        refine tr_geti Z.1 Z.2.2.2.1 S_230.1 S_230.2 ha0 ta0 rfl rfl (fun _ h => List.mem_cons_of_mem _ (List.mem_append_right _ h)) 8 (by decide) rfl (hts _ (List.mem_of_getElem? (i := 1) rfl)) dX10_make_251 (fun v112 ev112 lv112 uv112 => ?_)
        have wv112 : v112 = v103 := ev112.symm.trans ev103
        have xv112 : v112.toInt = v103.toInt := by rw [wv112]
        obtain ⟨v113, ev113, tv113⟩ : ∃ v : Int32, Int32.ofInt (1) = v ∧ v.toInt = 1 := ⟨_, rfl, by decide +kernel⟩
        refine lv_iconst hx hb dX10_make_254 ev113 ?_
        refine lv_iadd hx hb dX10_make_255 ?_
        refine lv_topi (fun v114 ev114 => ?_)
        have tv114 := nu_add ev114 (by omega) (by omega)
        refine lv_iload_n hx hb dX10_make_256 rfl (lv_at hl_230 3 rfl) ?_
        refine tc_vi Z.1 Z.2.2.2.1 Z.2.2.2.2.1 Z.2.2.2.2.2 S_230.1 S_230.2 ha0 ta0 rfl rfl (k_X10_parted l D cy S_230.2 ha0 ta0 v111 v114 (by omega) x3_230) (cwV 3 hts gX10_make_X10_parted rfl rfl rfl (by decide +kernel) ⟨Nat.le_of_ble_eq_true rfl, Nat.le_of_ble_eq_true rfl⟩) rfl hl_230.1 rfl (Nat.le_of_ble_eq_true rfl) dX10_make_257 ⟨Nat.zero_le _, Nat.zero_le _⟩ (fun v118 E115 H116 k117 W115 I115 G115 p115 => ?_)
        have q115 := p115
        have q115 := q115.symm
        subst q115
        have S115 : Now D TB cy (va_A (va_pl L E) sz) s L τ E_230 H116 k117 := ⟨W115, I115⟩
        refine tr_iast Z.1 Z.2.2.2.1 S115.1 S115.2 hq108 tq108 rfl (by omega) (by omega) (by have := fb_rng v118; omega) (by have := fb_rng v118; omega) dX10_make_260 (fun E119 H120 k121 W119 I119 P119 => ?_)
        have S119 : Now D TB cy (va_A (va_pl L E) sz) s L τ E119 H120 k121 := ⟨W119, I119⟩
        have F119 : Fr L τ (inW [(11, 0), (63, 0), (64, 0), (65, 0), (66, 0), (67, 0), (68, 0), (69, 0), (70, 0), (71, 0)]) E E119 := Fr.set F_230 P119 tq108 rfl
        obtain ⟨v122, ev122⟩ : ∃ y : Int32, x3_230 + Int32.ofInt (1) = y := ⟨_, rfl⟩
        have tv122 : v122.toInt = x3_230.toInt + (1) := by rw [← ev122]; exact (fb_addI (by rw [show (Int32.ofInt (1)).toInt = 1 from by decide +kernel]; omega) (by rw [show (Int32.ofInt (1)).toInt = 1 from by decide +kernel]; omega)).trans (by rw [show (Int32.ofInt (1)).toInt = 1 from by decide +kernel])
        refine lv_iinc (v := v122) (lv' := [(3, .int v122), (0, .ref a0), (1, .int x1_230), (2, .int x2_230)]) hx hb dX10_make_261 hl_230 (k := 3) rfl ev122 (by decide) rfl (fun l123 hl124 => ?_)
        refine lv_goto (tgt := 230) hx hb dX10_make_264 (by decide) ?_
        exact ih_230 x1_230 x2_230 v122 E119 H120 k121 l123 S119 F119 (by omega) (by omega) (by omega) (by omega) (by omega) (by omega) (fun k hk => ((fi_set P119 (ne_ro ta0 tq108 (by decide))).trans (z102 k hk))) (by omega) (lv_sub hl124 [1, 2, 3, 0] rfl)
  have J7 : ∀ (n : Nat) (x1_7 : Int32) (E_7 : Ec) (H_7 : Heap) (k_7 : List Loc) (l_7 : Array Slot), Now D TB cy (va_A (va_pl L E) sz) s L τ E_7 H_7 k_7 → Fr L τ (inW [(11, 0), (63, 0), (64, 0), (65, 0), (66, 0), (67, 0), (68, 0), (69, 0), (70, 0), (71, 0)]) E E_7 → (0 ≤ x1_7.toInt) → (x1_7.toInt ≤ 3) → (∀ k : Nat, k ∉ ([8] : List Nat) → fi E_7 a0 k = fi E a0 k) → (0 ≤ (fi E_7 a0 8).toInt ∧ (fi E_7 a0 8).toInt ≤ 66 ∧ (fi E_7 a0 8).toInt ≤ 23 * x1_7.toInt) → (3 - x1_7.toInt).toNat < n → lv_has l_7 9 [(0, .ref a0), (1, .int x1_7)] → W p l e { frames := 1, cells := 0, slots := 0, locals := 25 } s m args below meth c H_7 k_7 0 0 QQ (F0 m 7 l_7 []) := by
    intro n
    induction n with
    | zero => intro x1_7 E_7 H_7 k_7 l_7 S_7 F_7 z125 z126 z127 z128 hm hl_7; exact absurd hm (Nat.not_lt_zero _)
    | succ n ih =>
      intro x1_7 E_7 H_7 k_7 l_7 S_7 F_7 z125 z126 z127 z128 hm hl_7
      have ih_7 := ih
      have J218 : ∀  (E_218 : Ec) (H_218 : Heap) (k_218 : List Loc) (l_218 : Array Slot), Now D TB cy (va_A (va_pl L E) sz) s L τ E_218 H_218 k_218 → Fr L τ (inW [(11, 0), (63, 0), (64, 0), (65, 0), (66, 0), (67, 0), (68, 0), (69, 0), (70, 0), (71, 0)]) E E_218 → (0 ≤ x1_7.toInt) → (x1_7.toInt ≤ 2) → (∀ k : Nat, k ∉ ([8] : List Nat) → fi E_218 a0 k = fi E a0 k) → (0 ≤ (fi E_218 a0 8).toInt ∧ (fi E_218 a0 8).toInt ≤ 66 ∧ (fi E_218 a0 8).toInt ≤ 23 * x1_7.toInt + 23) → lv_has l_218 9 [(0, .ref a0), (1, .int x1_7)] → W p l e { frames := 1, cells := 0, slots := 0, locals := 25 } s m args below meth c H_218 k_218 0 0 QQ (F0 m 218 l_218 []) := by
        intro  E_218 H_218 k_218 l_218 S_218 F_218 z129 z130 z131 z132 hl_218
        obtain ⟨v133, ev133⟩ : ∃ y : Int32, x1_7 + Int32.ofInt (1) = y := ⟨_, rfl⟩
        have tv133 : v133.toInt = x1_7.toInt + (1) := by rw [← ev133]; exact (fb_addI (by rw [show (Int32.ofInt (1)).toInt = 1 from by decide +kernel]; omega) (by rw [show (Int32.ofInt (1)).toInt = 1 from by decide +kernel]; omega)).trans (by rw [show (Int32.ofInt (1)).toInt = 1 from by decide +kernel])
        refine lv_iinc (v := v133) (lv' := [(1, .int v133), (0, .ref a0)]) hx hb dX10_make_218 hl_218 (k := 1) rfl ev133 (by decide) rfl (fun l134 hl135 => ?_)
        refine lv_goto (tgt := 7) hx hb dX10_make_221 (by decide) ?_
        exact ih_7 v133 E_218 H_218 k_218 l134 S_218 F_218 (by omega) (by omega) (fun k hk => (z131 k hk)) (by omega) (by omega) (lv_sub hl135 [1, 0] rfl)
      have J164 : ∀ (n : Nat) (x3_164 : Int32) (E_164 : Ec) (H_164 : Heap) (k_164 : List Loc) (l_164 : Array Slot), Now D TB cy (va_A (va_pl L E) sz) s L τ E_164 H_164 k_164 → Fr L τ (inW [(11, 0), (63, 0), (64, 0), (65, 0), (66, 0), (67, 0), (68, 0), (69, 0), (70, 0), (71, 0)]) E E_164 → (0 ≤ x1_7.toInt) → (x1_7.toInt ≤ 1) → (0 ≤ x3_164.toInt) → (x3_164.toInt ≤ 3) → (∀ k : Nat, k ∉ ([8] : List Nat) → fi E_164 a0 k = fi E a0 k) → (0 ≤ (fi E_164 a0 8).toInt ∧ (fi E_164 a0 8).toInt ≤ 66 ∧ (fi E_164 a0 8).toInt ≤ 23 * x1_7.toInt + 20 + x3_164.toInt) → (3 - x3_164.toInt).toNat < n → lv_has l_164 9 [(0, .ref a0), (1, .int x1_7), (3, .int x3_164)] → W p l e { frames := 1, cells := 0, slots := 0, locals := 25 } s m args below meth c H_164 k_164 0 0 QQ (F0 m 164 l_164 []) := by
        intro n
        induction n with
        | zero => intro x3_164 E_164 H_164 k_164 l_164 S_164 F_164 z136 z137 z138 z139 z140 z141 hm hl_164; exact absurd hm (Nat.not_lt_zero _)
        | succ n ih =>
          intro x3_164 E_164 H_164 k_164 l_164 S_164 F_164 z136 z137 z138 z139 z140 z141 hm hl_164
          have ih_164 := ih
          refine lv_iload_n hx hb dX10_make_164 rfl (lv_at hl_164 2 rfl) ?_
          obtain ⟨v142, ev142, tv142⟩ : ∃ v : Int32, Int32.ofInt (3) = v ∧ v.toInt = 3 := ⟨_, rfl, by decide +kernel⟩
          refine lv_iconst hx hb dX10_make_165 ev142 ?_
          refine lv_icmp_ge (tgt := 218) hx hb dX10_make_166 (by decide) (fun c143 => ?_) (fun c143 => ?_)
          · skip
            have tc143 := nu_le c143
            exact J218 E_164 H_164 k_164 l_164 S_164 F_164 (by omega) (by omega) (fun k hk => (z140 k hk)) (by omega) (lv_sub hl_164 [0, 1] rfl)
          · skip
            have tc143 := nu_nle c143
            refine lv_aload_n hx hb dX10_make_169 rfl (lv_at hl_164 0 rfl) ?_
            obtain ⟨v144, ev144, tv144⟩ : ∃ v : Int32, Int32.ofInt (3) = v ∧ v.toInt = 3 := ⟨_, rfl, by decide +kernel⟩
            refine lv_iconst hx hb dX10_make_170 ev144 ?_
            refine lv_aload_n hx hb dX10_make_171 rfl (lv_at hl_164 0 rfl) ?_
            refine lv_aload_n hx hb dX10_make_172 rfl (lv_at hl_164 0 rfl) ?_
            refine tr_getr Z.1 Z.2.2.2.1 S_164.1 S_164.2 ha0 ta0 rfl rfl (fun _ h => List.mem_cons_of_mem _ (List.mem_append_right _ h)) 0 (by decide) rfl (hts _ (List.mem_of_getElem? (i := 2) rfl)) dX10_make_173 (fun q145 eq145 hq145 tq145 => ?_)
            have tq145 : τ q145 = (60, 0) := tq145
            have uq145 : qn = q145 := S_164.2.2.2.2 _ hqn _ hq145 (tqn.trans tq145.symm) (by rw [tqn]; rfl)
            subst uq145
            obtain ⟨v146, ev146, tv146⟩ : ∃ v : Int32, Int32.ofInt (2) = v ∧ v.toInt = 2 := ⟨_, rfl, by decide +kernel⟩
            refine lv_iconst hx hb dX10_make_176 ev146 ?_
            refine tr_ialdx Z.1 Z.2.2.2.1 S_164.1 S_164.2 hqn tqn rfl (by omega) (by omega) dX10_make_177 (fun v147 ev147 lv147 uv147 => ?_)
            have bv147 : nowB v146.toNatClampNeg = (-2147483648, 2147483647) := nb_o (by show v146.toInt.toNat < 4 ∨ (8 ≤ v146.toInt.toNat ∧ v146.toInt.toNat ≤ 18) ∨ (20 ≤ v146.toInt.toNat ∧ v146.toInt.toNat ≤ 43); omega)
            rw [bv147] at lv147 uv147
            have lv147 : -2147483648 ≤ v147.toInt := lv147
            have uv147 : v147.toInt ≤ 2147483647 := uv147
            have av147 : ai E_164 qn 2 = v147 := ai_at ev147 (by omega)
            obtain ⟨v148, ev148, tv148⟩ : ∃ v : Int32, (Int8.ofInt (11)).toInt32 = v ∧ v.toInt = 11 := ⟨_, rfl, by decide +kernel⟩
            refine lv_bipush hx hb dX10_make_178 ev148 ?_
            refine lv_imul hx hb dX10_make_180 ?_
            refine lv_topi (fun v149 ev149 => ?_)
            obtain ⟨v150, ev150, tv150⟩ : ∃ v : Int32, (Int8.ofInt (7)).toInt32 = v ∧ v.toInt = 7 := ⟨_, rfl, by decide +kernel⟩
            refine lv_bipush hx hb dX10_make_181 ev150 ?_
            refine lv_idiv hx hb dX10_make_183 (fun q => by have := nu_eq0 q; omega) ?_
            refine lv_topi (fun v151 ev151 => ?_)
            obtain ⟨v152, ev152, tv152⟩ : ∃ v : Int32, Int32.ofInt (3) = v ∧ v.toInt = 3 := ⟨_, rfl, by decide +kernel⟩
            refine lv_iconst hx hb dX10_make_184 ev152 ?_
            refine lv_iload_n hx hb dX10_make_185 rfl (lv_at hl_164 2 rfl) ?_
            refine tc_vi Z.1 Z.2.2.2.1 Z.2.2.2.2.1 Z.2.2.2.2.2 S_164.1 S_164.2 ha0 ta0 rfl rfl (k_X10_parted l D cy S_164.2 ha0 ta0 v151 v152 (by omega) x3_164) (cwV 3 hts gX10_make_X10_parted rfl rfl rfl (by decide +kernel) ⟨Nat.le_of_ble_eq_true rfl, Nat.le_of_ble_eq_true rfl⟩) rfl hl_164.1 rfl (Nat.le_of_ble_eq_true rfl) dX10_make_186 ⟨Nat.zero_le _, Nat.zero_le _⟩ (fun v156 E153 H154 k155 W153 I153 G153 p153 => ?_)
            have q153 := p153
            have q153 := q153.symm
            subst q153
            have S153 : Now D TB cy (va_A (va_pl L E) sz) s L τ E_164 H154 k155 := ⟨W153, I153⟩
            refine lv_aload_n hx hb dX10_make_189 rfl (lv_at hl_164 0 rfl) ?_
            refine lv_aload_n hx hb dX10_make_190 rfl (lv_at hl_164 0 rfl) ?_
            refine tr_getr Z.1 Z.2.2.2.1 S153.1 S153.2 ha0 ta0 rfl rfl (fun _ h => List.mem_cons_of_mem _ (List.mem_append_right _ h)) 0 (by decide) rfl (hts _ (List.mem_of_getElem? (i := 2) rfl)) dX10_make_191 (fun q157 eq157 hq157 tq157 => ?_)
            have tq157 : τ q157 = (60, 0) := tq157
            have uq157 : qn = q157 := S153.2.2.2.2 _ hqn _ hq157 (tqn.trans tq157.symm) (by rw [tqn]; rfl)
            subst uq157
            obtain ⟨v158, ev158, tv158⟩ : ∃ v : Int32, Int32.ofInt (3) = v ∧ v.toInt = 3 := ⟨_, rfl, by decide +kernel⟩
            refine lv_iconst hx hb dX10_make_194 ev158 ?_
            refine tr_ialdx Z.1 Z.2.2.2.1 S153.1 S153.2 hqn tqn rfl (by omega) (by omega) dX10_make_195 (fun v159 ev159 lv159 uv159 => ?_)
            have bv159 : nowB v158.toNatClampNeg = (-2147483648, 2147483647) := nb_o (by show v158.toInt.toNat < 4 ∨ (8 ≤ v158.toInt.toNat ∧ v158.toInt.toNat ≤ 18) ∨ (20 ≤ v158.toInt.toNat ∧ v158.toInt.toNat ≤ 43); omega)
            rw [bv159] at lv159 uv159
            have lv159 : -2147483648 ≤ v159.toInt := lv159
            have uv159 : v159.toInt ≤ 2147483647 := uv159
            have av159 : ai E_164 qn 3 = v159 := ai_at ev159 (by omega)
            obtain ⟨v160, ev160, tv160⟩ : ∃ v : Int32, (Int8.ofInt (11)).toInt32 = v ∧ v.toInt = 11 := ⟨_, rfl, by decide +kernel⟩
            refine lv_bipush hx hb dX10_make_196 ev160 ?_
            refine lv_imul hx hb dX10_make_198 ?_
            refine lv_topi (fun v161 ev161 => ?_)
            obtain ⟨v162, ev162, tv162⟩ : ∃ v : Int32, (Int8.ofInt (7)).toInt32 = v ∧ v.toInt = 7 := ⟨_, rfl, by decide +kernel⟩
            refine lv_bipush hx hb dX10_make_199 ev162 ?_
            refine lv_idiv hx hb dX10_make_201 (fun q => by have := nu_eq0 q; omega) ?_
            refine lv_topi (fun v163 ev163 => ?_)
            obtain ⟨v164, ev164, tv164⟩ : ∃ v : Int32, Int32.ofInt (3) = v ∧ v.toInt = 3 := ⟨_, rfl, by decide +kernel⟩
            refine lv_iconst hx hb dX10_make_202 ev164 ?_
            refine lv_iload_n hx hb dX10_make_203 rfl (lv_at hl_164 2 rfl) ?_
            refine tc_vi Z.1 Z.2.2.2.1 Z.2.2.2.2.1 Z.2.2.2.2.2 S153.1 S153.2 ha0 ta0 rfl rfl (k_X10_parted l D cy S153.2 ha0 ta0 v163 v164 (by omega) x3_164) (cwV 3 hts gX10_make_X10_parted rfl rfl rfl (by decide +kernel) ⟨Nat.le_of_ble_eq_true rfl, Nat.le_of_ble_eq_true rfl⟩) rfl hl_164.1 rfl (Nat.le_of_ble_eq_true rfl) dX10_make_204 ⟨Nat.zero_le _, Nat.zero_le _⟩ (fun v168 E165 H166 k167 W165 I165 G165 p165 => ?_)
            have q165 := p165
            have q165 := q165.symm
            subst q165
            have S165 : Now D TB cy (va_A (va_pl L E) sz) s L τ E_164 H166 k167 := ⟨W165, I165⟩
            obtain ⟨v169, ev169, tv169⟩ : ∃ v : Int32, Int32.ofInt (-1) = v ∧ v.toInt = -1 := ⟨_, rfl, by decide +kernel⟩
            refine lv_iconst hx hb dX10_make_207 ev169 ?_
            refine lv_iload_n hx hb dX10_make_208 rfl (lv_at hl_164 1 rfl) ?_
            refine tc_vv Z.1 Z.2.2.2.1 Z.2.2.2.2.1 Z.2.2.2.2.2 S165.1 S165.2 ha0 ta0 rfl rfl (k_X10_puts l D cy S165.2 ha0 ta0 v144 (by omega) (by omega) v156 v168 v169 x1_7 (by omega)) (cwV 5 hts gX10_make_X10_puts rfl rfl rfl (by decide +kernel) ⟨Nat.le_of_ble_eq_true rfl, Nat.le_of_ble_eq_true rfl⟩) rfl hl_164.1 rfl (Nat.le_of_ble_eq_true rfl) dX10_make_209 ⟨Nat.zero_le _, Nat.zero_le _⟩ (fun E170 H171 k172 W170 I170 G170 p170 => ?_)
            obtain ⟨p170_0, p170_1⟩ := p170
            have S170 : Now D TB cy (va_A (va_pl L E) sz) s L τ E170 H171 k172 := ⟨W170, I170⟩
            have F170 : Fr L τ (inW [(11, 0), (63, 0), (64, 0), (65, 0), (66, 0), (67, 0), (68, 0), (69, 0), (70, 0), (71, 0)]) E E170 := F_164.trans (G170.mono (inW_mono (by decide)))
            obtain ⟨v174, ev174⟩ : ∃ y : Int32, x3_164 + Int32.ofInt (1) = y := ⟨_, rfl⟩
            have tv174 : v174.toInt = x3_164.toInt + (1) := by rw [← ev174]; exact (fb_addI (by rw [show (Int32.ofInt (1)).toInt = 1 from by decide +kernel]; omega) (by rw [show (Int32.ofInt (1)).toInt = 1 from by decide +kernel]; omega)).trans (by rw [show (Int32.ofInt (1)).toInt = 1 from by decide +kernel])
            refine lv_iinc (v := v174) (lv' := [(3, .int v174), (0, .ref a0), (1, .int x1_7)]) hx hb dX10_make_212 hl_164 (k := 2) rfl ev174 (by decide) rfl (fun l175 hl176 => ?_)
            refine lv_goto (tgt := 164) hx hb dX10_make_215 (by decide) ?_
            exact ih_164 v174 E170 H171 k172 l175 S170 F170 (by omega) (by omega) (by omega) (by omega) (fun k hk => ((p170_1 k (fw_sub (by decide) hk)).trans (z140 k hk))) (by omega) (by omega) (lv_sub hl176 [1, 2, 0] rfl)
      have J26 : ∀ (n : Nat) (x2_26 : Int32) (x3_26 : Int32) (E_26 : Ec) (H_26 : Heap) (k_26 : List Loc) (l_26 : Array Slot), Now D TB cy (va_A (va_pl L E) sz) s L τ E_26 H_26 k_26 → Fr L τ (inW [(11, 0), (63, 0), (64, 0), (65, 0), (66, 0), (67, 0), (68, 0), (69, 0), (70, 0), (71, 0)]) E E_26 → (0 ≤ x1_7.toInt) → (x1_7.toInt ≤ 2) → (0 ≤ x2_26.toInt) → (x2_26.toInt ≤ 20) → (0 ≤ x3_26.toInt) → (x3_26.toInt ≤ 20) → (∀ k : Nat, k ∉ ([8] : List Nat) → fi E_26 a0 k = fi E a0 k) → (0 ≤ (ai E_26 qn 4).toInt ∧ (ai E_26 qn 4).toInt ≤ 3 ∧ x1_7.toInt < (ai E_26 qn 4).toInt) → (0 ≤ (fi E_26 a0 8).toInt ∧ (fi E_26 a0 8).toInt ≤ 66 ∧ (fi E_26 a0 8).toInt ≤ 23 * x1_7.toInt + x3_26.toInt) → (20 - x3_26.toInt).toNat < n → lv_has l_26 9 [(0, .ref a0), (1, .int x1_7), (2, .int x2_26), (3, .int x3_26)] → W p l e { frames := 1, cells := 0, slots := 0, locals := 25 } s m args below meth c H_26 k_26 0 0 QQ (F0 m 26 l_26 []) := by
        intro n
        induction n with
        | zero => intro x2_26 x3_26 E_26 H_26 k_26 l_26 S_26 F_26 z177 z178 z179 z180 z181 z182 z183 z184 z185 hm hl_26; exact absurd hm (Nat.not_lt_zero _)
        | succ n ih =>
          intro x2_26 x3_26 E_26 H_26 k_26 l_26 S_26 F_26 z177 z178 z179 z180 z181 z182 z183 z184 z185 hm hl_26
          have ih_26 := ih
          have J100 : ∀ (x4_100 : Int32) (y1_100 : Int32) (y2_100 : Int32) (E_100 : Ec) (H_100 : Heap) (k_100 : List Loc) (l_100 : Array Slot), Now D TB cy (va_A (va_pl L E) sz) s L τ E_100 H_100 k_100 → Fr L τ (inW [(11, 0), (63, 0), (64, 0), (65, 0), (66, 0), (67, 0), (68, 0), (69, 0), (70, 0), (71, 0)]) E E_100 → (0 ≤ x1_7.toInt) → (x1_7.toInt ≤ 2) → (1 ≤ x2_26.toInt) → (x2_26.toInt ≤ 20) → (0 ≤ x3_26.toInt) → (x3_26.toInt ≤ 19) → (0 ≤ y1_100.toInt) → (y1_100.toInt ≤ 1) → (∀ k : Nat, k ∉ ([8] : List Nat) → fi E_100 a0 k = fi E a0 k) → (0 ≤ (ai E_100 qn 4).toInt ∧ (ai E_100 qn 4).toInt ≤ 3 ∧ x1_7.toInt < (ai E_100 qn 4).toInt) → (0 ≤ (fi E_100 a0 8).toInt ∧ (fi E_100 a0 8).toInt ≤ 66 ∧ (fi E_100 a0 8).toInt ≤ 23 * x1_7.toInt + x3_26.toInt) → lv_has l_100 9 [(0, .ref a0), (1, .int x1_7), (2, .int x2_26), (3, .int x3_26), (4, .int x4_100)] → W p l e { frames := 1, cells := 0, slots := 0, locals := 25 } s m args below meth c H_100 k_100 0 0 QQ (F0 m 100 l_100 [.int y2_100, .int y1_100, .ref a0]) := by
            intro x4_100 y1_100 y2_100 E_100 H_100 k_100 l_100 S_100 F_100 z186 z187 z188 z189 z190 z191 z192 z193 z194 z195 z196 hl_100
            refine lv_iload hx hb dX10_make_100 (lv_at hl_100 4 rfl) ?_
            refine lv_iload_n hx hb dX10_make_102 rfl (lv_at hl_100 1 rfl) ?_
            obtain ⟨v197, ev197, tv197⟩ : ∃ v : Int32, Int32.ofInt (-1) = v ∧ v.toInt = -1 := ⟨_, rfl, by decide +kernel⟩
            refine lv_iconst hx hb dX10_make_103 ev197 ?_
            refine tc_vv Z.1 Z.2.2.2.1 Z.2.2.2.2.1 Z.2.2.2.2.2 S_100.1 S_100.2 ha0 ta0 rfl rfl (k_X10_puts l D cy S_100.2 ha0 ta0 y1_100 (by omega) (by omega) y2_100 x4_100 x1_7 v197 (by omega)) (cwV 5 hts gX10_make_X10_puts rfl rfl rfl (by decide +kernel) ⟨Nat.le_of_ble_eq_true rfl, Nat.le_of_ble_eq_true rfl⟩) rfl hl_100.1 rfl (Nat.le_of_ble_eq_true rfl) dX10_make_104 ⟨Nat.zero_le _, Nat.zero_le _⟩ (fun E198 H199 k200 W198 I198 G198 p198 => ?_)
            obtain ⟨p198_0, p198_1⟩ := p198
            have S198 : Now D TB cy (va_A (va_pl L E) sz) s L τ E198 H199 k200 := ⟨W198, I198⟩
            have F198 : Fr L τ (inW [(11, 0), (63, 0), (64, 0), (65, 0), (66, 0), (67, 0), (68, 0), (69, 0), (70, 0), (71, 0)]) E E198 := F_100.trans (G198.mono (inW_mono (by decide)))
            obtain ⟨v202, ev202⟩ : ∃ y : Int32, x3_26 + Int32.ofInt (1) = y := ⟨_, rfl⟩
            have tv202 : v202.toInt = x3_26.toInt + (1) := by rw [← ev202]; exact (fb_addI (by rw [show (Int32.ofInt (1)).toInt = 1 from by decide +kernel]; omega) (by rw [show (Int32.ofInt (1)).toInt = 1 from by decide +kernel]; omega)).trans (by rw [show (Int32.ofInt (1)).toInt = 1 from by decide +kernel])
            refine lv_iinc (v := v202) (lv' := [(3, .int v202), (0, .ref a0), (1, .int x1_7), (2, .int x2_26), (4, .int x4_100)]) hx hb dX10_make_107 hl_100 (k := 3) rfl ev202 (by decide) rfl (fun l203 hl204 => ?_)
            refine lv_goto (tgt := 26) hx hb dX10_make_110 (by decide) ?_
            exact ih_26 x2_26 v202 E198 H199 k200 l203 S198 F198 (by have := fb_rng x4_100; omega) (by have := fb_rng x4_100; omega) (by have := fb_rng x4_100; omega) (by have := fb_rng x4_100; omega) (by have := fb_rng x4_100; omega) (by have := fb_rng x4_100; omega) (fun k hk => ((p198_1 k (fw_sub (by decide) hk)).trans (z194 k hk))) (by rw [((ai_fr G198 hqn (by rw [tqn]; rfl)).trans rfl)]; have := fb_rng x4_100; omega) (by have := fb_rng x4_100; omega) (by omega) (lv_sub hl204 [1, 2, 3, 0] rfl)
          have J85 : ∀ (x4_85 : Int32) (x5_85 : Int32) (y1_85 : Int32) (E_85 : Ec) (H_85 : Heap) (k_85 : List Loc) (l_85 : Array Slot), Now D TB cy (va_A (va_pl L E) sz) s L τ E_85 H_85 k_85 → Fr L τ (inW [(11, 0), (63, 0), (64, 0), (65, 0), (66, 0), (67, 0), (68, 0), (69, 0), (70, 0), (71, 0)]) E E_85 → (0 ≤ x1_7.toInt) → (x1_7.toInt ≤ 2) → (1 ≤ x2_26.toInt) → (x2_26.toInt ≤ 20) → (0 ≤ x3_26.toInt) → (x3_26.toInt ≤ 19) → (0 ≤ x5_85.toInt) → (x5_85.toInt ≤ 1) → (0 ≤ y1_85.toInt) → (y1_85.toInt ≤ 1) → (∀ k : Nat, k ∉ ([8] : List Nat) → fi E_85 a0 k = fi E a0 k) → (0 ≤ (ai E_85 qn 4).toInt ∧ (ai E_85 qn 4).toInt ≤ 3 ∧ x1_7.toInt < (ai E_85 qn 4).toInt) → (0 ≤ (fi E_85 a0 8).toInt ∧ (fi E_85 a0 8).toInt ≤ 66 ∧ (fi E_85 a0 8).toInt ≤ 23 * x1_7.toInt + x3_26.toInt) → lv_has l_85 9 [(0, .ref a0), (1, .int x1_7), (2, .int x2_26), (3, .int x3_26), (4, .int x4_85), (5, .int x5_85)] → W p l e { frames := 1, cells := 0, slots := 0, locals := 25 } s m args below meth c H_85 k_85 0 0 QQ (F0 m 85 l_85 [.int y1_85, .ref a0]) := by
            intro x4_85 x5_85 y1_85 E_85 H_85 k_85 l_85 S_85 F_85 z205 z206 z207 z208 z209 z210 z211 z212 z213 z214 z215 z216 z217 hl_85
            refine lv_iload hx hb dX10_make_85 (lv_at hl_85 5 rfl) ?_
            refine lv_if_eq (tgt := 98) hx hb dX10_make_87 (by decide) (fun c218 => ?_) (fun c218 => ?_)
            · skip
              have tc218 := nu_eq c218
              have uc218 : (0 : Int32).toInt = 0 := rfl
              refine lv_iload hx hb dX10_make_98 (lv_at hl_85 4 rfl) ?_
              exact J100 x4_85 y1_85 x4_85 E_85 H_85 k_85 l_85 S_85 F_85 (by have := fb_rng x4_85; omega) (by have := fb_rng x4_85; omega) (by have := fb_rng x4_85; omega) (by have := fb_rng x4_85; omega) (by have := fb_rng x4_85; omega) (by have := fb_rng x4_85; omega) (by have := fb_rng x4_85; omega) (by have := fb_rng x4_85; omega) (fun k hk => (z215 k hk)) (by have := fb_rng x4_85; omega) (by have := fb_rng x4_85; omega) (lv_sub hl_85 [0, 1, 2, 3, 4] rfl)
            · skip
              have tc218 := nu_ne c218
              have uc218 : (0 : Int32).toInt = 0 := rfl
              refine lv_iload hx hb dX10_make_90 (lv_at hl_85 4 rfl) ?_
              obtain ⟨v219, ev219, tv219⟩ : ∃ v : Int32, (Int8.ofInt (30)).toInt32 = v ∧ v.toInt = 30 := ⟨_, rfl, by decide +kernel⟩
              refine lv_bipush hx hb dX10_make_92 ev219 ?_
              refine lv_iadd hx hb dX10_make_94 ?_
              refine lv_topi (fun v220 ev220 => ?_)
              refine lv_goto (tgt := 100) hx hb dX10_make_95 (by decide) ?_
              exact J100 x4_85 y1_85 v220 E_85 H_85 k_85 l_85 S_85 F_85 (by have := fb_rng x4_85; omega) (by have := fb_rng x4_85; omega) (by have := fb_rng x4_85; omega) (by have := fb_rng x4_85; omega) (by have := fb_rng x4_85; omega) (by have := fb_rng x4_85; omega) (by have := fb_rng x4_85; omega) (by have := fb_rng x4_85; omega) (fun k hk => (z215 k hk)) (by have := fb_rng x4_85; omega) (by have := fb_rng x4_85; omega) (lv_sub hl_85 [0, 1, 2, 3, 4] rfl)
          have J72 : ∀ (x4_72 : Int32) (y0_72 : Int32) (E_72 : Ec) (H_72 : Heap) (k_72 : List Loc) (l_72 : Array Slot), Now D TB cy (va_A (va_pl L E) sz) s L τ E_72 H_72 k_72 → Fr L τ (inW [(11, 0), (63, 0), (64, 0), (65, 0), (66, 0), (67, 0), (68, 0), (69, 0), (70, 0), (71, 0)]) E E_72 → (0 ≤ x1_7.toInt) → (x1_7.toInt ≤ 2) → (1 ≤ x2_26.toInt) → (x2_26.toInt ≤ 20) → (0 ≤ x3_26.toInt) → (x3_26.toInt ≤ 19) → (0 ≤ y0_72.toInt) → (y0_72.toInt ≤ 1) → (∀ k : Nat, k ∉ ([8] : List Nat) → fi E_72 a0 k = fi E a0 k) → (0 ≤ (ai E_72 qn 4).toInt ∧ (ai E_72 qn 4).toInt ≤ 3 ∧ x1_7.toInt < (ai E_72 qn 4).toInt) → (0 ≤ (fi E_72 a0 8).toInt ∧ (fi E_72 a0 8).toInt ≤ 66 ∧ (fi E_72 a0 8).toInt ≤ 23 * x1_7.toInt + x3_26.toInt) → lv_has l_72 9 [(0, .ref a0), (1, .int x1_7), (2, .int x2_26), (3, .int x3_26), (4, .int x4_72)] → W p l e { frames := 1, cells := 0, slots := 0, locals := 25 } s m args below meth c H_72 k_72 0 0 QQ (F0 m 72 l_72 [.int y0_72]) := by
            intro x4_72 y0_72 E_72 H_72 k_72 l_72 S_72 F_72 z221 z222 z223 z224 z225 z226 z227 z228 z229 z230 z231 hl_72
            refine lv_istore (lv' := [(5, .int y0_72), (0, .ref a0), (1, .int x1_7), (2, .int x2_26), (3, .int x3_26), (4, .int x4_72)]) hx hb dX10_make_72 hl_72 (by decide) rfl (fun l232 hl233 => ?_)
            refine lv_aload_n hx hb dX10_make_74 rfl (lv_at hl233 1 rfl) ?_
            refine lv_iload hx hb dX10_make_75 (lv_at hl233 0 rfl) ?_
            refine lv_if_eq (tgt := 84) hx hb dX10_make_77 (by decide) (fun c234 => ?_) (fun c234 => ?_)
            · skip
              have tc234 := nu_eq c234
              have uc234 : (0 : Int32).toInt = 0 := rfl
              obtain ⟨v235, ev235, tv235⟩ : ∃ v : Int32, Int32.ofInt (0) = v ∧ v.toInt = 0 := ⟨_, rfl, by decide +kernel⟩
              refine lv_iconst hx hb dX10_make_84 ev235 ?_
              exact J85 x4_72 y0_72 v235 E_72 H_72 k_72 l232 S_72 F_72 (by have := fb_rng x4_72; omega) (by have := fb_rng x4_72; omega) (by have := fb_rng x4_72; omega) (by have := fb_rng x4_72; omega) (by have := fb_rng x4_72; omega) (by have := fb_rng x4_72; omega) (by have := fb_rng x4_72; omega) (by have := fb_rng x4_72; omega) (by have := fb_rng x4_72; omega) (by have := fb_rng x4_72; omega) (fun k hk => (z229 k hk)) (by have := fb_rng x4_72; omega) (by have := fb_rng x4_72; omega) (lv_sub hl233 [1, 2, 3, 4, 5, 0] rfl)
            · skip
              have tc234 := nu_ne c234
              have uc234 : (0 : Int32).toInt = 0 := rfl
              obtain ⟨v236, ev236, tv236⟩ : ∃ v : Int32, Int32.ofInt (1) = v ∧ v.toInt = 1 := ⟨_, rfl, by decide +kernel⟩
              refine lv_iconst hx hb dX10_make_80 ev236 ?_
              refine lv_goto (tgt := 85) hx hb dX10_make_81 (by decide) ?_
              exact J85 x4_72 y0_72 v236 E_72 H_72 k_72 l232 S_72 F_72 (by have := fb_rng x4_72; omega) (by have := fb_rng x4_72; omega) (by have := fb_rng x4_72; omega) (by have := fb_rng x4_72; omega) (by have := fb_rng x4_72; omega) (by have := fb_rng x4_72; omega) (by have := fb_rng x4_72; omega) (by have := fb_rng x4_72; omega) (by have := fb_rng x4_72; omega) (by have := fb_rng x4_72; omega) (fun k hk => (z229 k hk)) (by have := fb_rng x4_72; omega) (by have := fb_rng x4_72; omega) (lv_sub hl233 [1, 2, 3, 4, 5, 0] rfl)
          have J71 : ∀ (x4_71 : Int32) (E_71 : Ec) (H_71 : Heap) (k_71 : List Loc) (l_71 : Array Slot), Now D TB cy (va_A (va_pl L E) sz) s L τ E_71 H_71 k_71 → Fr L τ (inW [(11, 0), (63, 0), (64, 0), (65, 0), (66, 0), (67, 0), (68, 0), (69, 0), (70, 0), (71, 0)]) E E_71 → (0 ≤ x1_7.toInt) → (x1_7.toInt ≤ 2) → (1 ≤ x2_26.toInt) → (x2_26.toInt ≤ 20) → (0 ≤ x3_26.toInt) → (x3_26.toInt ≤ 19) → (∀ k : Nat, k ∉ ([8] : List Nat) → fi E_71 a0 k = fi E a0 k) → (0 ≤ (ai E_71 qn 4).toInt ∧ (ai E_71 qn 4).toInt ≤ 3 ∧ x1_7.toInt < (ai E_71 qn 4).toInt) → (0 ≤ (fi E_71 a0 8).toInt ∧ (fi E_71 a0 8).toInt ≤ 66 ∧ (fi E_71 a0 8).toInt ≤ 23 * x1_7.toInt + x3_26.toInt) → lv_has l_71 9 [(0, .ref a0), (1, .int x1_7), (2, .int x2_26), (3, .int x3_26), (4, .int x4_71)] → W p l e { frames := 1, cells := 0, slots := 0, locals := 25 } s m args below meth c H_71 k_71 0 0 QQ (F0 m 71 l_71 []) := by
            intro x4_71 E_71 H_71 k_71 l_71 S_71 F_71 z237 z238 z239 z240 z241 z242 z243 z244 z245 hl_71
            obtain ⟨v246, ev246, tv246⟩ : ∃ v : Int32, Int32.ofInt (0) = v ∧ v.toInt = 0 := ⟨_, rfl, by decide +kernel⟩
            refine lv_iconst hx hb dX10_make_71 ev246 ?_
            exact J72 x4_71 v246 E_71 H_71 k_71 l_71 S_71 F_71 (by have := fb_rng x4_71; omega) (by have := fb_rng x4_71; omega) (by have := fb_rng x4_71; omega) (by have := fb_rng x4_71; omega) (by have := fb_rng x4_71; omega) (by have := fb_rng x4_71; omega) (by have := fb_rng x4_71; omega) (by have := fb_rng x4_71; omega) (fun k hk => (z243 k hk)) (by have := fb_rng x4_71; omega) (by have := fb_rng x4_71; omega) (lv_sub hl_71 [0, 1, 2, 3, 4] rfl)
          refine lv_iload_n hx hb dX10_make_26 rfl (lv_at hl_26 3 rfl) ?_
          refine lv_iload_n hx hb dX10_make_27 rfl (lv_at hl_26 2 rfl) ?_
          refine lv_icmp_ge (tgt := 113) hx hb dX10_make_28 (by decide) (fun c247 => ?_) (fun c247 => ?_)
          · skip
            have tc247 := nu_le c247
            refine lv_iload_n hx hb dX10_make_113 rfl (lv_at hl_26 1 rfl) ?_
            refine lv_aload_n hx hb dX10_make_114 rfl (lv_at hl_26 0 rfl) ?_
            refine tr_getr Z.1 Z.2.2.2.1 S_26.1 S_26.2 ha0 ta0 rfl rfl (fun _ h => List.mem_cons_of_mem _ (List.mem_append_right _ h)) 0 (by decide) rfl (hts _ (List.mem_of_getElem? (i := 2) rfl)) dX10_make_115 (fun q248 eq248 hq248 tq248 => ?_)
            have tq248 : τ q248 = (60, 0) := tq248
            have uq248 : qn = q248 := S_26.2.2.2.2 _ hqn _ hq248 (tqn.trans tq248.symm) (by rw [tqn]; rfl)
            subst uq248
            obtain ⟨v249, ev249, tv249⟩ : ∃ v : Int32, Int32.ofInt (4) = v ∧ v.toInt = 4 := ⟨_, rfl, by decide +kernel⟩
            refine lv_iconst hx hb dX10_make_118 ev249 ?_
            refine tr_ialdx Z.1 Z.2.2.2.1 S_26.1 S_26.2 hqn tqn rfl (by omega) (by omega) dX10_make_119 (fun v250 ev250 lv250 uv250 => ?_)
            have bv250 : nowB v249.toNatClampNeg = (0, 3) := nb_4 (by show v249.toInt.toNat = 4; omega)
            rw [bv250] at lv250 uv250
            have lv250 : 0 ≤ v250.toInt := lv250
            have uv250 : v250.toInt ≤ 3 := uv250
            have av250 : ai E_26 qn 4 = v250 := ai_at ev250 (by omega)
            have wv250 : v250 = (ai E_26 qn 4) := av250.symm.trans rfl
            have xv250 : v250.toInt = (ai E_26 qn 4).toInt := by rw [wv250]
            obtain ⟨v251, ev251, tv251⟩ : ∃ v : Int32, Int32.ofInt (1) = v ∧ v.toInt = 1 := ⟨_, rfl, by decide +kernel⟩
            refine lv_iconst hx hb dX10_make_120 ev251 ?_
            refine lv_isub hx hb dX10_make_121 ?_
            refine lv_topi (fun v252 ev252 => ?_)
            have tv252 := nu_sub ev252 (by omega) (by omega)
            refine lv_icmp_ne (tgt := 128) hx hb dX10_make_122 (by decide) (fun c253 => ?_) (fun c253 => ?_)
            · skip
              have tc253 := nu_ne c253
              refine lv_aload_n hx hb dX10_make_128 rfl (lv_at hl_26 0 rfl) ?_
              refine tr_getr Z.1 Z.2.2.2.1 S_26.1 S_26.2 ha0 ta0 rfl rfl (fun _ h => List.mem_cons_of_mem _ (List.mem_append_right _ h)) 0 (by decide) rfl (hts _ (List.mem_of_getElem? (i := 2) rfl)) dX10_make_129 (fun q254 eq254 hq254 tq254 => ?_)
              have tq254 : τ q254 = (60, 0) := tq254
              have uq254 : qn = q254 := S_26.2.2.2.2 _ hqn _ hq254 (tqn.trans tq254.symm) (by rw [tqn]; rfl)
              subst uq254
              obtain ⟨v255, ev255, tv255⟩ : ∃ v : Int32, (Int8.ofInt (11)).toInt32 = v ∧ v.toInt = 11 := ⟨_, rfl, by decide +kernel⟩
              refine lv_bipush hx hb dX10_make_132 ev255 ?_
              refine lv_iload_n hx hb dX10_make_134 rfl (lv_at hl_26 1 rfl) ?_
              refine lv_iadd hx hb dX10_make_135 ?_
              refine lv_topi (fun v256 ev256 => ?_)
              have tv256 := nu_add ev256 (by omega) (by omega)
              refine tr_ialdx Z.1 Z.2.2.2.1 S_26.1 S_26.2 hqn tqn rfl (by omega) (by omega) dX10_make_136 (fun v257 ev257 lv257 uv257 => ?_)
              have bv257 : nowB v256.toNatClampNeg = (-2147483648, 2147483647) := nb_o (by show v256.toInt.toNat < 4 ∨ (8 ≤ v256.toInt.toNat ∧ v256.toInt.toNat ≤ 18) ∨ (20 ≤ v256.toInt.toNat ∧ v256.toInt.toNat ≤ 43); omega)
              rw [bv257] at lv257 uv257
              have lv257 : -2147483648 ≤ v257.toInt := lv257
              have uv257 : v257.toInt ≤ 2147483647 := uv257
              refine lv_if_ne (tgt := 162) hx hb dX10_make_137 (by decide) (fun c258 => ?_) (fun c258 => ?_)
              · skip
                have tc258 := nu_ne c258
                have uc258 : (0 : Int32).toInt = 0 := rfl
                obtain ⟨v259, ev259, tv259⟩ : ∃ v : Int32, Int32.ofInt (0) = v ∧ v.toInt = 0 := ⟨_, rfl, by decide +kernel⟩
                refine lv_iconst hx hb dX10_make_162 ev259 ?_
                refine lv_istore_n (lv' := [(3, .int v259), (0, .ref a0), (1, .int x1_7), (2, .int x2_26)]) hx hb dX10_make_163 rfl hl_26 (by decide) rfl (fun l260 hl261 => ?_)
                exact J164 _ v259 E_26 H_26 k_26 l260 S_26 F_26 (by omega) (by omega) (by omega) (by omega) (fun k hk => (z183 k hk)) (by omega) (Nat.lt_succ_self _) (lv_sub hl261 [1, 2, 0] rfl)
              · skip
                have tc258 := nu_eq c258
                have uc258 : (0 : Int32).toInt = 0 := rfl
                refine lv_aload_n hx hb dX10_make_140 rfl (lv_at hl_26 0 rfl) ?_
                obtain ⟨v262, ev262, tv262⟩ : ∃ v : Int32, Int32.ofInt (2) = v ∧ v.toInt = 2 := ⟨_, rfl, by decide +kernel⟩
                refine lv_iconst hx hb dX10_make_141 ev262 ?_
                refine lv_aload_n hx hb dX10_make_142 rfl (lv_at hl_26 0 rfl) ?_
                refine tr_getr Z.1 Z.2.2.2.1 S_26.1 S_26.2 ha0 ta0 rfl rfl (fun _ h => List.mem_cons_of_mem _ (List.mem_append_right _ h)) 0 (by decide) rfl (hts _ (List.mem_of_getElem? (i := 2) rfl)) dX10_make_143 (fun q263 eq263 hq263 tq263 => ?_)
                have tq263 : τ q263 = (60, 0) := tq263
                have uq263 : qn = q263 := S_26.2.2.2.2 _ hqn _ hq263 (tqn.trans tq263.symm) (by rw [tqn]; rfl)
                subst uq263
                obtain ⟨v264, ev264, tv264⟩ : ∃ v : Int32, Int32.ofInt (1) = v ∧ v.toInt = 1 := ⟨_, rfl, by decide +kernel⟩
                refine lv_iconst hx hb dX10_make_146 ev264 ?_
                refine tr_ialdx Z.1 Z.2.2.2.1 S_26.1 S_26.2 hqn tqn rfl (by omega) (by omega) dX10_make_147 (fun v265 ev265 lv265 uv265 => ?_)
                have bv265 : nowB v264.toNatClampNeg = (-2147483648, 2147483647) := nb_o (by show v264.toInt.toNat < 4 ∨ (8 ≤ v264.toInt.toNat ∧ v264.toInt.toNat ≤ 18) ∨ (20 ≤ v264.toInt.toNat ∧ v264.toInt.toNat ≤ 43); omega)
                rw [bv265] at lv265 uv265
                have lv265 : -2147483648 ≤ v265.toInt := lv265
                have uv265 : v265.toInt ≤ 2147483647 := uv265
                have av265 : ai E_26 qn 1 = v265 := ai_at ev265 (by omega)
                refine lv_aload_n hx hb dX10_make_148 rfl (lv_at hl_26 0 rfl) ?_
                refine tr_getr Z.1 Z.2.2.2.1 S_26.1 S_26.2 ha0 ta0 rfl rfl (fun _ h => List.mem_cons_of_mem _ (List.mem_append_right _ h)) 0 (by decide) rfl (hts _ (List.mem_of_getElem? (i := 2) rfl)) dX10_make_149 (fun q266 eq266 hq266 tq266 => ?_)
                have tq266 : τ q266 = (60, 0) := tq266
                have uq266 : qn = q266 := S_26.2.2.2.2 _ hqn _ hq266 (tqn.trans tq266.symm) (by rw [tqn]; rfl)
                subst uq266
                obtain ⟨v267, ev267, tv267⟩ : ∃ v : Int32, Int32.ofInt (1) = v ∧ v.toInt = 1 := ⟨_, rfl, by decide +kernel⟩
                refine lv_iconst hx hb dX10_make_152 ev267 ?_
                refine tr_ialdx Z.1 Z.2.2.2.1 S_26.1 S_26.2 hqn tqn rfl (by omega) (by omega) dX10_make_153 (fun v268 ev268 lv268 uv268 => ?_)
                have bv268 : nowB v267.toNatClampNeg = (-2147483648, 2147483647) := nb_o (by show v267.toInt.toNat < 4 ∨ (8 ≤ v267.toInt.toNat ∧ v267.toInt.toNat ≤ 18) ∨ (20 ≤ v267.toInt.toNat ∧ v267.toInt.toNat ≤ 43); omega)
                rw [bv268] at lv268 uv268
                have lv268 : -2147483648 ≤ v268.toInt := lv268
                have uv268 : v268.toInt ≤ 2147483647 := uv268
                have av268 : ai E_26 qn 1 = v268 := ai_at ev268 (by omega)
                have wv268 : v268 = v265 := av268.symm.trans av265
                have xv268 : v268.toInt = v265.toInt := by rw [wv268]
                obtain ⟨v269, ev269, tv269⟩ : ∃ v : Int32, Int32.ofInt (-1) = v ∧ v.toInt = -1 := ⟨_, rfl, by decide +kernel⟩
                refine lv_iconst hx hb dX10_make_154 ev269 ?_
                refine lv_iload_n hx hb dX10_make_155 rfl (lv_at hl_26 1 rfl) ?_
                refine tc_vv Z.1 Z.2.2.2.1 Z.2.2.2.2.1 Z.2.2.2.2.2 S_26.1 S_26.2 ha0 ta0 rfl rfl (k_X10_puts l D cy S_26.2 ha0 ta0 v262 (by omega) (by omega) v265 v268 v269 x1_7 (by omega)) (cwV 5 hts gX10_make_X10_puts rfl rfl rfl (by decide +kernel) ⟨Nat.le_of_ble_eq_true rfl, Nat.le_of_ble_eq_true rfl⟩) rfl hl_26.1 rfl (Nat.le_of_ble_eq_true rfl) dX10_make_156 ⟨Nat.zero_le _, Nat.zero_le _⟩ (fun E270 H271 k272 W270 I270 G270 p270 => ?_)
                obtain ⟨p270_0, p270_1⟩ := p270
                have S270 : Now D TB cy (va_A (va_pl L E) sz) s L τ E270 H271 k272 := ⟨W270, I270⟩
                have F270 : Fr L τ (inW [(11, 0), (63, 0), (64, 0), (65, 0), (66, 0), (67, 0), (68, 0), (69, 0), (70, 0), (71, 0)]) E E270 := F_26.trans (G270.mono (inW_mono (by decide)))
                refine lv_goto (tgt := 218) hx hb dX10_make_159 (by decide) ?_
                exact J218 E270 H271 k272 l_26 S270 F270 (by omega) (by omega) (fun k hk => ((p270_1 k (fw_sub (by decide) hk)).trans (z183 k hk))) (by omega) (lv_sub hl_26 [0, 1] rfl)
            · skip
              have tc253 := nu_eq c253
              refine lv_goto (tgt := 218) hx hb dX10_make_125 (by decide) ?_
              exact J218 E_26 H_26 k_26 l_26 S_26 F_26 (by omega) (by omega) (fun k hk => (z183 k hk)) (by omega) (lv_sub hl_26 [0, 1] rfl)
          · skip
            have tc247 := nu_nle c247
            refine lv_aload_n hx hb dX10_make_31 rfl (lv_at hl_26 0 rfl) ?_
            refine lv_aload_n hx hb dX10_make_32 rfl (lv_at hl_26 0 rfl) ?_
            refine tr_getr Z.1 Z.2.2.2.1 S_26.1 S_26.2 ha0 ta0 rfl rfl (fun _ h => List.mem_cons_of_mem _ (List.mem_append_right _ h)) 0 (by decide) rfl (hts _ (List.mem_of_getElem? (i := 2) rfl)) dX10_make_33 (fun q274 eq274 hq274 tq274 => ?_)
            have tq274 : τ q274 = (60, 0) := tq274
            have uq274 : qn = q274 := S_26.2.2.2.2 _ hqn _ hq274 (tqn.trans tq274.symm) (by rw [tqn]; rfl)
            subst uq274
            obtain ⟨v275, ev275, tv275⟩ : ∃ v : Int32, (Int8.ofInt (8)).toInt32 = v ∧ v.toInt = 8 := ⟨_, rfl, by decide +kernel⟩
            refine lv_bipush hx hb dX10_make_36 ev275 ?_
            refine lv_iload_n hx hb dX10_make_38 rfl (lv_at hl_26 1 rfl) ?_
            refine lv_iadd hx hb dX10_make_39 ?_
            refine lv_topi (fun v276 ev276 => ?_)
            have tv276 := nu_add ev276 (by omega) (by omega)
            refine tr_ialdx Z.1 Z.2.2.2.1 S_26.1 S_26.2 hqn tqn rfl (by omega) (by omega) dX10_make_40 (fun v277 ev277 lv277 uv277 => ?_)
            have bv277 : nowB v276.toNatClampNeg = (-2147483648, 2147483647) := nb_o (by show v276.toInt.toNat < 4 ∨ (8 ≤ v276.toInt.toNat ∧ v276.toInt.toNat ≤ 18) ∨ (20 ≤ v276.toInt.toNat ∧ v276.toInt.toNat ≤ 43); omega)
            rw [bv277] at lv277 uv277
            have lv277 : -2147483648 ≤ v277.toInt := lv277
            have uv277 : v277.toInt ≤ 2147483647 := uv277
            refine lv_iload_n hx hb dX10_make_41 rfl (lv_at hl_26 2 rfl) ?_
            refine lv_iload_n hx hb dX10_make_42 rfl (lv_at hl_26 3 rfl) ?_
            refine tc_vi Z.1 Z.2.2.2.1 Z.2.2.2.2.1 Z.2.2.2.2.2 S_26.1 S_26.2 ha0 ta0 rfl rfl (k_X10_parted l D cy S_26.2 ha0 ta0 v277 x2_26 (by omega) x3_26) (cwV 3 hts gX10_make_X10_parted rfl rfl rfl (by decide +kernel) ⟨Nat.le_of_ble_eq_true rfl, Nat.le_of_ble_eq_true rfl⟩) rfl hl_26.1 rfl (Nat.le_of_ble_eq_true rfl) dX10_make_43 ⟨Nat.zero_le _, Nat.zero_le _⟩ (fun v281 E278 H279 k280 W278 I278 G278 p278 => ?_)
            have q278 := p278
            have q278 := q278.symm
            subst q278
            have S278 : Now D TB cy (va_A (va_pl L E) sz) s L τ E_26 H279 k280 := ⟨W278, I278⟩
            refine lv_istore (lv' := [(4, .int v281), (0, .ref a0), (1, .int x1_7), (2, .int x2_26), (3, .int x3_26)]) hx hb dX10_make_46 hl_26 (by decide) rfl (fun l282 hl283 => ?_)
            refine lv_iload_n hx hb dX10_make_48 rfl (lv_at hl283 2 rfl) ?_
            refine lv_if_ne (tgt := 71) hx hb dX10_make_49 (by decide) (fun c284 => ?_) (fun c284 => ?_)
            · skip
              have tc284 := nu_ne c284
              have uc284 : (0 : Int32).toInt = 0 := rfl
              exact J71 v281 E_26 H279 k280 l282 S278 F_26 (by have := fb_rng v281; omega) (by have := fb_rng v281; omega) (by have := fb_rng v281; omega) (by have := fb_rng v281; omega) (by have := fb_rng v281; omega) (by have := fb_rng v281; omega) (fun k hk => (z183 k hk)) (by have := fb_rng v281; omega) (by have := fb_rng v281; omega) (lv_sub hl283 [1, 2, 3, 4, 0] rfl)
            · skip
              have tc284 := nu_eq c284
              have uc284 : (0 : Int32).toInt = 0 := rfl
              refine lv_iload_n hx hb dX10_make_52 rfl (lv_at hl283 4 rfl) ?_
              refine lv_if_ne (tgt := 71) hx hb dX10_make_53 (by decide) (fun c285 => ?_) (fun c285 => ?_)
              · skip
                have tc285 := nu_ne c285
                have uc285 : (0 : Int32).toInt = 0 := rfl
                exact J71 v281 E_26 H279 k280 l282 S278 F_26 (by have := fb_rng v281; omega) (by have := fb_rng v281; omega) (by have := fb_rng v281; omega) (by have := fb_rng v281; omega) (by have := fb_rng v281; omega) (by have := fb_rng v281; omega) (fun k hk => (z183 k hk)) (by have := fb_rng v281; omega) (by have := fb_rng v281; omega) (lv_sub hl283 [1, 2, 3, 4, 0] rfl)
              · skip
                have tc285 := nu_eq c285
                have uc285 : (0 : Int32).toInt = 0 := rfl
                refine lv_aload_n hx hb dX10_make_56 rfl (lv_at hl283 1 rfl) ?_
                refine tr_getr Z.1 Z.2.2.2.1 S278.1 S278.2 ha0 ta0 rfl rfl (fun _ h => List.mem_cons_of_mem _ (List.mem_append_right _ h)) 0 (by decide) rfl (hts _ (List.mem_of_getElem? (i := 2) rfl)) dX10_make_57 (fun q286 eq286 hq286 tq286 => ?_)
                have tq286 : τ q286 = (60, 0) := tq286
                have uq286 : qn = q286 := S278.2.2.2.2 _ hqn _ hq286 (tqn.trans tq286.symm) (by rw [tqn]; rfl)
                subst uq286
                obtain ⟨v287, ev287, tv287⟩ : ∃ v : Int32, (Int8.ofInt (13)).toInt32 = v ∧ v.toInt = 13 := ⟨_, rfl, by decide +kernel⟩
                refine lv_bipush hx hb dX10_make_60 ev287 ?_
                refine tr_ialdx Z.1 Z.2.2.2.1 S278.1 S278.2 hqn tqn rfl (by omega) (by omega) dX10_make_62 (fun v288 ev288 lv288 uv288 => ?_)
                have bv288 : nowB v287.toNatClampNeg = (-2147483648, 2147483647) := nb_o (by show v287.toInt.toNat < 4 ∨ (8 ≤ v287.toInt.toNat ∧ v287.toInt.toNat ≤ 18) ∨ (20 ≤ v287.toInt.toNat ∧ v287.toInt.toNat ≤ 43); omega)
                rw [bv288] at lv288 uv288
                have lv288 : -2147483648 ≤ v288.toInt := lv288
                have uv288 : v288.toInt ≤ 2147483647 := uv288
                have av288 : ai E_26 qn 13 = v288 := ai_at ev288 (by omega)
                obtain ⟨v289, ev289, tv289⟩ : ∃ v : Int32, Int32.ofInt (1) = v ∧ v.toInt = 1 := ⟨_, rfl, by decide +kernel⟩
                refine lv_iconst hx hb dX10_make_63 ev289 ?_
                refine lv_icmp_ne (tgt := 71) hx hb dX10_make_64 (by decide) (fun c290 => ?_) (fun c290 => ?_)
                · skip
                  have tc290 := nu_ne c290
                  exact J71 v281 E_26 H279 k280 l282 S278 F_26 (by have := fb_rng v281; omega) (by have := fb_rng v281; omega) (by have := fb_rng v281; omega) (by have := fb_rng v281; omega) (by have := fb_rng v281; omega) (by have := fb_rng v281; omega) (fun k hk => (z183 k hk)) (by have := fb_rng v281; omega) (by have := fb_rng v281; omega) (lv_sub hl283 [1, 2, 3, 4, 0] rfl)
                · skip
                  have tc290 := nu_eq c290
                  obtain ⟨v291, ev291, tv291⟩ : ∃ v : Int32, Int32.ofInt (1) = v ∧ v.toInt = 1 := ⟨_, rfl, by decide +kernel⟩
                  refine lv_iconst hx hb dX10_make_67 ev291 ?_
                  refine lv_goto (tgt := 72) hx hb dX10_make_68 (by decide) ?_
                  exact J72 v281 v291 E_26 H279 k280 l282 S278 F_26 (by have := fb_rng v281; omega) (by have := fb_rng v281; omega) (by have := fb_rng v281; omega) (by have := fb_rng v281; omega) (by have := fb_rng v281; omega) (by have := fb_rng v281; omega) (by have := fb_rng v281; omega) (by have := fb_rng v281; omega) (fun k hk => (z183 k hk)) (by have := fb_rng v281; omega) (by have := fb_rng v281; omega) (lv_sub hl283 [1, 2, 3, 4, 0] rfl)
      refine lv_iload_n hx hb dX10_make_7 rfl (lv_at hl_7 1 rfl) ?_
      refine lv_aload_n hx hb dX10_make_8 rfl (lv_at hl_7 0 rfl) ?_
      refine tr_getr Z.1 Z.2.2.2.1 S_7.1 S_7.2 ha0 ta0 rfl rfl (fun _ h => List.mem_cons_of_mem _ (List.mem_append_right _ h)) 0 (by decide) rfl (hts _ (List.mem_of_getElem? (i := 2) rfl)) dX10_make_9 (fun q292 eq292 hq292 tq292 => ?_)
      have tq292 : τ q292 = (60, 0) := tq292
      have uq292 : qn = q292 := S_7.2.2.2.2 _ hqn _ hq292 (tqn.trans tq292.symm) (by rw [tqn]; rfl)
      subst uq292
      obtain ⟨v293, ev293, tv293⟩ : ∃ v : Int32, Int32.ofInt (4) = v ∧ v.toInt = 4 := ⟨_, rfl, by decide +kernel⟩
      refine lv_iconst hx hb dX10_make_12 ev293 ?_
      refine tr_ialdx Z.1 Z.2.2.2.1 S_7.1 S_7.2 hqn tqn rfl (by omega) (by omega) dX10_make_13 (fun v294 ev294 lv294 uv294 => ?_)
      have bv294 : nowB v293.toNatClampNeg = (0, 3) := nb_4 (by show v293.toInt.toNat = 4; omega)
      rw [bv294] at lv294 uv294
      have lv294 : 0 ≤ v294.toInt := lv294
      have uv294 : v294.toInt ≤ 3 := uv294
      have av294 : ai E_7 qn 4 = v294 := ai_at ev294 (by omega)
      refine lv_icmp_ge (tgt := 224) hx hb dX10_make_14 (by decide) (fun c295 => ?_) (fun c295 => ?_)
      · skip
        have tc295 := nu_le c295
        obtain ⟨v296, ev296, tv296⟩ : ∃ v : Int32, Int32.ofInt (0) = v ∧ v.toInt = 0 := ⟨_, rfl, by decide +kernel⟩
        refine lv_iconst hx hb dX10_make_224 ev296 ?_
        refine lv_istore_n (lv' := [(1, .int v296), (0, .ref a0)]) hx hb dX10_make_225 rfl hl_7 (by decide) rfl (fun l297 hl298 => ?_)
        obtain ⟨v299, ev299, tv299⟩ : ∃ v : Int32, Int32.ofInt (0) = v ∧ v.toInt = 0 := ⟨_, rfl, by decide +kernel⟩
        refine lv_iconst hx hb dX10_make_226 ev299 ?_
        refine lv_istore_n (lv' := [(2, .int v299), (1, .int v296), (0, .ref a0)]) hx hb dX10_make_227 rfl hl298 (by decide) rfl (fun l300 hl301 => ?_)
        obtain ⟨v302, ev302, tv302⟩ : ∃ v : Int32, Int32.ofInt (0) = v ∧ v.toInt = 0 := ⟨_, rfl, by decide +kernel⟩
        refine lv_iconst hx hb dX10_make_228 ev302 ?_
        refine lv_istore_n (lv' := [(3, .int v302), (2, .int v299), (1, .int v296), (0, .ref a0)]) hx hb dX10_make_229 rfl hl301 (by decide) rfl (fun l303 hl304 => ?_)
        exact J230 _ v296 v299 v302 E_7 H_7 k_7 l303 S_7 F_7 (by omega) (by omega) (by omega) (by omega) (by omega) (by omega) (fun k hk => (z127 k hk)) (Nat.lt_succ_self _) (lv_sub hl304 [3, 2, 1, 0] rfl)
      · skip
        have tc295 := nu_nle c295
        refine lv_aload_n hx hb dX10_make_17 rfl (lv_at hl_7 0 rfl) ?_
        refine tr_getr Z.1 Z.2.2.2.1 S_7.1 S_7.2 ha0 ta0 rfl rfl (fun _ h => List.mem_cons_of_mem _ (List.mem_append_right _ h)) 7 (by decide) rfl (hts _ (List.mem_of_getElem? (i := 3) rfl)) dX10_make_18 (fun q305 eq305 hq305 tq305 => ?_)
        have tq305 : τ q305 = (62, 0) := tq305
        refine lv_iload_n hx hb dX10_make_21 rfl (lv_at hl_7 1 rfl) ?_
        refine tr_iald Z.1 Z.2.2.2.1 S_7.1 S_7.2 hq305 tq305 rfl (by omega) (by omega) dX10_make_22 (fun v306 ev306 lv306 uv306 => ?_)
        refine lv_istore_n (lv' := [(2, .int v306), (0, .ref a0), (1, .int x1_7)]) hx hb dX10_make_23 rfl hl_7 (by decide) rfl (fun l307 hl308 => ?_)
        obtain ⟨v309, ev309, tv309⟩ : ∃ v : Int32, Int32.ofInt (0) = v ∧ v.toInt = 0 := ⟨_, rfl, by decide +kernel⟩
        refine lv_iconst hx hb dX10_make_24 ev309 ?_
        refine lv_istore_n (lv' := [(3, .int v309), (2, .int v306), (0, .ref a0), (1, .int x1_7)]) hx hb dX10_make_25 rfl hl308 (by decide) rfl (fun l310 hl311 => ?_)
        exact J26 _ v306 v309 E_7 H_7 k_7 l310 S_7 F_7 (by omega) (by omega) (by omega) (by omega) (by omega) (by omega) (fun k hk => (z127 k hk)) (by rw [av294]; omega) (by omega) (Nat.lt_succ_self _) (lv_sub hl311 [2, 3, 1, 0] rfl)
  refine lv_aload_n hx hb dX10_make_0 rfl (lv_at hl 0 rfl) ?_
  obtain ⟨v312, ev312, tv312⟩ : ∃ v : Int32, Int32.ofInt (0) = v ∧ v.toInt = 0 := ⟨_, rfl, by decide +kernel⟩
  refine lv_iconst hx hb dX10_make_1 ev312 ?_
  refine tr_puti Z.1 Z.2.2.2.1 S0.1 S0.2 ha0 ta0 rfl rfl (fun _ h => List.mem_cons_of_mem _ (List.mem_append_right _ h)) tyX10_ok nmX10 8 (by decide) rfl rfl rfl (hts _ (List.mem_of_getElem? (i := 1) rfl)) dX10_make_2 (by omega) (by omega) (fun E313 H314 k315 W313 I313 P313 => ?_)
  have S313 : Now D TB cy (va_A (va_pl L E) sz) s L τ E313 H314 k315 := ⟨W313, I313⟩
  have F313 : Fr L τ (inW [(11, 0), (63, 0), (64, 0), (65, 0), (66, 0), (67, 0), (68, 0), (69, 0), (70, 0), (71, 0)]) E E313 := Fr.put F0_ P313 ta0 rfl
  obtain ⟨v316, ev316, tv316⟩ : ∃ v : Int32, Int32.ofInt (0) = v ∧ v.toInt = 0 := ⟨_, rfl, by decide +kernel⟩
  refine lv_iconst hx hb dX10_make_5 ev316 ?_
  refine lv_istore_n (lv' := [(1, .int v316), (0, .ref a0)]) hx hb dX10_make_6 rfl hl (by decide) rfl (fun l317 hl318 => ?_)
  exact J7 _ v316 E313 H314 k315 l317 S313 F313 (by omega) (by omega) (fun k hk => ((fi_put P313 (Or.inr (fw_ne (by decide) hk))).trans ((fun k hk => rfl) k hk))) (by rw [(fi_at P313)]; omega) (Nat.lt_succ_self _) (lv_sub hl318 [1, 0] rfl)

set_option maxRecDepth 20000 in
theorem ggX10_asTold_X10_make : GoodIn wsX10_asTold wsX10_make := goodIn_r _ [7, 8, 2, 1, 9, 10, 11, 12, 13, 14, 15, 16, 6, 17, 18, 19, 20, 21, 22, 23, 24, 25, 26, 27, 28, 29, 30, 31, 32, 33, 34, 35, 36, 37, 38, 39, 40, 41, 42, 43, 44, 45, 46, 47, 48, 49, 50, 51, 52, 53, 54, 55, 56, 57, 58, 59, 60, 61, 62, 63, 64, 65, 66, 67, 68, 69, 70, 71, 72, 73] (by decide +kernel) (by decide +kernel)
set_option maxRecDepth 20000 in
theorem gX10_asTold_X10_make : GoodIn wsX10_asTold (wsV RX10 109 RX10 yX10_make wsX10_make) := goodIn_app (goodIn_of _ (by decide +kernel)) ggX10_asTold_X10_make
theorem dX10_asTold_0 : decode cX10_asTold 0 = .ok (.iconst 0, 1) := by decide +kernel
theorem dX10_asTold_1 : decode cX10_asTold 1 = .ok (.istore_n 1, 1) := by decide +kernel
theorem dX10_asTold_2 : decode cX10_asTold 2 = .ok (.iload_n 1, 1) := by decide +kernel
theorem dX10_asTold_3 : decode cX10_asTold 3 = .ok (.iconst 3, 1) := by decide +kernel
theorem dX10_asTold_4 : decode cX10_asTold 4 = .ok (.if_icmp .ge 37, 3) := by decide +kernel
theorem dX10_asTold_7 : decode cX10_asTold 7 = .ok (.aload_n 0, 1) := by decide +kernel
theorem dX10_asTold_8 : decode cX10_asTold 8 = .ok (.getfield 20, 3) := by decide +kernel
theorem dX10_asTold_11 : decode cX10_asTold 11 = .ok (.iload_n 1, 1) := by decide +kernel
theorem dX10_asTold_12 : decode cX10_asTold 12 = .ok (.iload_n 1, 1) := by decide +kernel
theorem dX10_asTold_13 : decode cX10_asTold 13 = .ok (.aload_n 0, 1) := by decide +kernel
theorem dX10_asTold_14 : decode cX10_asTold 14 = .ok (.getfield 7, 3) := by decide +kernel
theorem dX10_asTold_17 : decode cX10_asTold 17 = .ok (.iconst 4, 1) := by decide +kernel
theorem dX10_asTold_18 : decode cX10_asTold 18 = .ok (.iaload, 1) := by decide +kernel
theorem dX10_asTold_19 : decode cX10_asTold 19 = .ok (.if_icmp .ge 14, 3) := by decide +kernel
theorem dX10_asTold_22 : decode cX10_asTold 22 = .ok (.aload_n 0, 1) := by decide +kernel
theorem dX10_asTold_23 : decode cX10_asTold 23 = .ok (.getfield 7, 3) := by decide +kernel
theorem dX10_asTold_26 : decode cX10_asTold 26 = .ok (.iconst 5, 1) := by decide +kernel
theorem dX10_asTold_27 : decode cX10_asTold 27 = .ok (.iload_n 1, 1) := by decide +kernel
theorem dX10_asTold_28 : decode cX10_asTold 28 = .ok (.iadd, 1) := by decide +kernel
theorem dX10_asTold_29 : decode cX10_asTold 29 = .ok (.iaload, 1) := by decide +kernel
theorem dX10_asTold_30 : decode cX10_asTold 30 = .ok (.goto 4, 3) := by decide +kernel
theorem dX10_asTold_33 : decode cX10_asTold 33 = .ok (.iconst 0, 1) := by decide +kernel
theorem dX10_asTold_34 : decode cX10_asTold 34 = .ok (.iastore, 1) := by decide +kernel
theorem dX10_asTold_35 : decode cX10_asTold 35 = .ok (.iinc 1 1, 3) := by decide +kernel
theorem dX10_asTold_38 : decode cX10_asTold 38 = .ok (.goto (-36), 3) := by decide +kernel
theorem dX10_asTold_41 : decode cX10_asTold 41 = .ok (.aload_n 0, 1) := by decide +kernel
theorem dX10_asTold_42 : decode cX10_asTold 42 = .ok (.invokevirtual 109, 3) := by decide +kernel
theorem dX10_asTold_45 : decode cX10_asTold 45 = .ok (.return_, 1) := by decide +kernel
set_option maxHeartbeats 4000000 in
set_option maxRecDepth 100000 in
theorem k_X10_asTold (l : Launch) (D : va_G) (cy : Nat → ClassId) {L : List Nat} {τ : Nat → Ro} {E : Ec} (hI : Inv TB cy L τ E) {a0 : Nat} (ha0 : a0 ∈ L) (ta0 : τ a0 = (11, 0)) : CtV l yX10_asTold wsX10_asTold { frames := 2, cells := 0, slots := 0, locals := 53 } D TB cy L τ E [.ref a0] (inW [(11, 0), (63, 0), (64, 0), (65, 0), (66, 0), (67, 0), (68, 0), (69, 0), (70, 0), (71, 0), (62, 0)]) (fun E' => (∀ k : Nat, k ∉ ([8] : List Nat) → fi E' a0 k = fi E a0 k)) := by
  intro sz
  refine sta (cc := cX10_asTold) (maxL := 2) hI (by decide) rfl (Nat.le_of_ble_eq_true rfl) (fun p e s m args below meth c ls hsz Z S0 hl => ?_)
  have hx := Z.1.1
  have hb := Z.1.2.1
  have hts := Z.1.2.2.2.2
  have F0_ : Fr L τ (inW [(11, 0), (63, 0), (64, 0), (65, 0), (66, 0), (67, 0), (68, 0), (69, 0), (70, 0), (71, 0), (62, 0)]) E E := Fr.refl
  have hl : lv_has ls 2 [(0, .ref a0)] := hl
  generalize hQ : MQ below _ args s 0 0 _ = QQ
  have J2 : ∀ (n : Nat) (x1_2 : Int32) (E_2 : Ec) (H_2 : Heap) (k_2 : List Loc) (l_2 : Array Slot), Now D TB cy (va_A (va_pl L E) sz) s L τ E_2 H_2 k_2 → Fr L τ (inW [(11, 0), (63, 0), (64, 0), (65, 0), (66, 0), (67, 0), (68, 0), (69, 0), (70, 0), (71, 0), (62, 0)]) E E_2 → (0 ≤ x1_2.toInt) → (x1_2.toInt ≤ 3) → (∀ k : Nat, k ∉ ([8] : List Nat) → fi E_2 a0 k = fi E a0 k) → (3 - x1_2.toInt).toNat < n → lv_has l_2 2 [(0, .ref a0), (1, .int x1_2)] → W p l e { frames := 2, cells := 0, slots := 0, locals := 53 } s m args below meth c H_2 k_2 0 0 QQ (F0 m 2 l_2 []) := by
    intro n
    induction n with
    | zero => intro x1_2 E_2 H_2 k_2 l_2 S_2 F_2 z1 z2 z3 hm hl_2; exact absurd hm (Nat.not_lt_zero _)
    | succ n ih =>
      intro x1_2 E_2 H_2 k_2 l_2 S_2 F_2 z1 z2 z3 hm hl_2
      have ih_2 := ih
      have J34 : ∀ (y0_34 : Nat) (y1_34 : Int32) (y2_34 : Int32) (E_34 : Ec) (H_34 : Heap) (k_34 : List Loc) (l_34 : Array Slot), Now D TB cy (va_A (va_pl L E) sz) s L τ E_34 H_34 k_34 → Fr L τ (inW [(11, 0), (63, 0), (64, 0), (65, 0), (66, 0), (67, 0), (68, 0), (69, 0), (70, 0), (71, 0), (62, 0)]) E E_34 → (0 ≤ x1_2.toInt) → (x1_2.toInt ≤ 2) → (y0_34 ∈ L) → (τ y0_34 = (62, 0)) → (0 ≤ y1_34.toInt) → (y1_34.toInt ≤ 2) → (0 ≤ y2_34.toInt) → (y2_34.toInt ≤ 20) → (∀ k : Nat, k ∉ ([8] : List Nat) → fi E_34 a0 k = fi E a0 k) → lv_has l_34 2 [(0, .ref a0), (1, .int x1_2)] → W p l e { frames := 2, cells := 0, slots := 0, locals := 53 } s m args below meth c H_34 k_34 0 0 QQ (F0 m 34 l_34 [.int y2_34, .int y1_34, .ref y0_34]) := by
        intro y0_34 y1_34 y2_34 E_34 H_34 k_34 l_34 S_34 F_34 z4 z5 z6 z7 z8 z9 z10 z11 z12 hl_34
        refine tr_iast Z.1 Z.2.2.2.1 S_34.1 S_34.2 z6 z7 rfl (by omega) (by omega) (by omega) (by omega) dX10_asTold_34 (fun E13 H14 k15 W13 I13 P13 => ?_)
        have S13 : Now D TB cy (va_A (va_pl L E) sz) s L τ E13 H14 k15 := ⟨W13, I13⟩
        have F13 : Fr L τ (inW [(11, 0), (63, 0), (64, 0), (65, 0), (66, 0), (67, 0), (68, 0), (69, 0), (70, 0), (71, 0), (62, 0)]) E E13 := Fr.set F_34 P13 z7 rfl
        obtain ⟨v16, ev16⟩ : ∃ y : Int32, x1_2 + Int32.ofInt (1) = y := ⟨_, rfl⟩
        have tv16 : v16.toInt = x1_2.toInt + (1) := by rw [← ev16]; exact (fb_addI (by rw [show (Int32.ofInt (1)).toInt = 1 from by decide +kernel]; omega) (by rw [show (Int32.ofInt (1)).toInt = 1 from by decide +kernel]; omega)).trans (by rw [show (Int32.ofInt (1)).toInt = 1 from by decide +kernel])
        refine lv_iinc (v := v16) (lv' := [(1, .int v16), (0, .ref a0)]) hx hb dX10_asTold_35 hl_34 (k := 1) rfl ev16 (by decide) rfl (fun l17 hl18 => ?_)
        refine lv_goto (tgt := 2) hx hb dX10_asTold_38 (by decide) ?_
        exact ih_2 v16 E13 H14 k15 l17 S13 F13 (by omega) (by omega) (fun k hk => ((fi_set P13 (ne_ro ta0 z7 (by decide))).trans (z12 k hk))) (by omega) (lv_sub hl18 [1, 0] rfl)
      refine lv_iload_n hx hb dX10_asTold_2 rfl (lv_at hl_2 1 rfl) ?_
      obtain ⟨v19, ev19, tv19⟩ : ∃ v : Int32, Int32.ofInt (3) = v ∧ v.toInt = 3 := ⟨_, rfl, by decide +kernel⟩
      refine lv_iconst hx hb dX10_asTold_3 ev19 ?_
      refine lv_icmp_ge (tgt := 41) hx hb dX10_asTold_4 (by decide) (fun c20 => ?_) (fun c20 => ?_)
      · skip
        have tc20 := nu_le c20
        refine lv_aload_n hx hb dX10_asTold_41 rfl (lv_at hl_2 0 rfl) ?_
        refine tc_vv Z.1 Z.2.2.2.1 Z.2.2.2.2.1 Z.2.2.2.2.2 S_2.1 S_2.2 ha0 ta0 rfl rfl (k_X10_make l D cy S_2.2 ha0 ta0) (cwV 0 hts gX10_asTold_X10_make rfl rfl rfl (by decide +kernel) ⟨Nat.le_of_ble_eq_true rfl, Nat.le_of_ble_eq_true rfl⟩) rfl hl_2.1 rfl (Nat.le_of_ble_eq_true rfl) dX10_asTold_42 ⟨Nat.zero_le _, Nat.zero_le _⟩ (fun E21 H22 k23 W21 I21 G21 p21 => ?_)
        have p21_0 := p21
        have S21 : Now D TB cy (va_A (va_pl L E) sz) s L τ E21 H22 k23 := ⟨W21, I21⟩
        have F21 : Fr L τ (inW [(11, 0), (63, 0), (64, 0), (65, 0), (66, 0), (67, 0), (68, 0), (69, 0), (70, 0), (71, 0), (62, 0)]) E E21 := F_2.trans (G21.mono (inW_mono (by decide)))
        rw [← hQ]
        exact en_v Z S21 F21 (fun k hk => ((p21_0 k (fw_sub (by decide) hk)).trans (z3 k hk))) dX10_asTold_45
      · skip
        have tc20 := nu_nle c20
        refine lv_aload_n hx hb dX10_asTold_7 rfl (lv_at hl_2 0 rfl) ?_
        refine tr_getr Z.1 Z.2.2.2.1 S_2.1 S_2.2 ha0 ta0 rfl rfl (fun _ h => List.mem_cons_of_mem _ (List.mem_append_right _ h)) 7 (by decide) rfl (hts _ (List.mem_of_getElem? (i := 1) rfl)) dX10_asTold_8 (fun q25 eq25 hq25 tq25 => ?_)
        have tq25 : τ q25 = (62, 0) := tq25
        refine lv_iload_n hx hb dX10_asTold_11 rfl (lv_at hl_2 1 rfl) ?_
        refine lv_iload_n hx hb dX10_asTold_12 rfl (lv_at hl_2 1 rfl) ?_
        refine lv_aload_n hx hb dX10_asTold_13 rfl (lv_at hl_2 0 rfl) ?_
        refine tr_getr Z.1 Z.2.2.2.1 S_2.1 S_2.2 ha0 ta0 rfl rfl (fun _ h => List.mem_cons_of_mem _ (List.mem_append_right _ h)) 0 (by decide) rfl (hts _ (List.mem_of_getElem? (i := 2) rfl)) dX10_asTold_14 (fun q26 eq26 hq26 tq26 => ?_)
        have tq26 : τ q26 = (60, 0) := tq26
        obtain ⟨v27, ev27, tv27⟩ : ∃ v : Int32, Int32.ofInt (4) = v ∧ v.toInt = 4 := ⟨_, rfl, by decide +kernel⟩
        refine lv_iconst hx hb dX10_asTold_17 ev27 ?_
        refine tr_ialdx Z.1 Z.2.2.2.1 S_2.1 S_2.2 hq26 tq26 rfl (by omega) (by omega) dX10_asTold_18 (fun v28 ev28 lv28 uv28 => ?_)
        have bv28 : nowB v27.toNatClampNeg = (0, 3) := nb_4 (by show v27.toInt.toNat = 4; omega)
        rw [bv28] at lv28 uv28
        have lv28 : 0 ≤ v28.toInt := lv28
        have uv28 : v28.toInt ≤ 3 := uv28
        have av28 : ai E_2 q26 4 = v28 := ai_at ev28 (by omega)
        refine lv_icmp_ge (tgt := 33) hx hb dX10_asTold_19 (by decide) (fun c29 => ?_) (fun c29 => ?_)
        · skip
          have tc29 := nu_le c29
          obtain ⟨v30, ev30, tv30⟩ : ∃ v : Int32, Int32.ofInt (0) = v ∧ v.toInt = 0 := ⟨_, rfl, by decide +kernel⟩
          refine lv_iconst hx hb dX10_asTold_33 ev30 ?_
          exact J34 q25 x1_2 v30 E_2 H_2 k_2 l_2 S_2 F_2 (by omega) (by omega) hq25 tq25 (by omega) (by omega) (by omega) (by omega) (fun k hk => (z3 k hk)) (lv_sub hl_2 [0, 1] rfl)
        · skip
          have tc29 := nu_nle c29
          refine lv_aload_n hx hb dX10_asTold_22 rfl (lv_at hl_2 0 rfl) ?_
          refine tr_getr Z.1 Z.2.2.2.1 S_2.1 S_2.2 ha0 ta0 rfl rfl (fun _ h => List.mem_cons_of_mem _ (List.mem_append_right _ h)) 0 (by decide) rfl (hts _ (List.mem_of_getElem? (i := 2) rfl)) dX10_asTold_23 (fun q31 eq31 hq31 tq31 => ?_)
          have tq31 : τ q31 = (60, 0) := tq31
          have uq31 : q26 = q31 := S_2.2.2.2.2 _ hq26 _ hq31 (tq26.trans tq31.symm) (by rw [tq26]; rfl)
          subst uq31
          obtain ⟨v32, ev32, tv32⟩ : ∃ v : Int32, Int32.ofInt (5) = v ∧ v.toInt = 5 := ⟨_, rfl, by decide +kernel⟩
          refine lv_iconst hx hb dX10_asTold_26 ev32 ?_
          refine lv_iload_n hx hb dX10_asTold_27 rfl (lv_at hl_2 1 rfl) ?_
          refine lv_iadd hx hb dX10_asTold_28 ?_
          refine lv_topi (fun v33 ev33 => ?_)
          have tv33 := nu_add ev33 (by omega) (by omega)
          refine tr_ialdx Z.1 Z.2.2.2.1 S_2.1 S_2.2 hq26 tq26 rfl (by omega) (by omega) dX10_asTold_29 (fun v34 ev34 lv34 uv34 => ?_)
          have bv34 : nowB v33.toNatClampNeg = (0, 20) := nb_5 (by show 5 ≤ v33.toInt.toNat ∧ v33.toInt.toNat ≤ 7; omega)
          rw [bv34] at lv34 uv34
          have lv34 : 0 ≤ v34.toInt := lv34
          have uv34 : v34.toInt ≤ 20 := uv34
          refine lv_goto (tgt := 34) hx hb dX10_asTold_30 (by decide) ?_
          exact J34 q25 x1_2 v34 E_2 H_2 k_2 l_2 S_2 F_2 (by omega) (by omega) hq25 tq25 (by omega) (by omega) (by omega) (by omega) (fun k hk => (z3 k hk)) (lv_sub hl_2 [0, 1] rfl)
  obtain ⟨v35, ev35, tv35⟩ : ∃ v : Int32, Int32.ofInt (0) = v ∧ v.toInt = 0 := ⟨_, rfl, by decide +kernel⟩
  refine lv_iconst hx hb dX10_asTold_0 ev35 ?_
  refine lv_istore_n (lv' := [(1, .int v35), (0, .ref a0)]) hx hb dX10_asTold_1 rfl hl (by decide) rfl (fun l36 hl37 => ?_)
  exact J2 _ v35 E s.heap [] l36 S0 F0_ (by omega) (by omega) (fun k hk => ((fun k hk => rfl) k hk)) (Nat.lt_succ_self _) (lv_sub hl37 [1, 0] rfl)

