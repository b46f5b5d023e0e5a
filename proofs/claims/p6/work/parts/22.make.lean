set_option maxRecDepth 20000 in
theorem ggX10_make_X10_parted : GoodIn wsX10_make wsX10_parted := goodIn_r _ [13] (by decide +kernel) (by decide +kernel)
set_option maxRecDepth 20000 in
theorem gX10_make_X10_parted : GoodIn wsX10_make (wsV RX10 115 RX10 yX10_parted wsX10_parted) := goodIn_app (goodIn_of _ (by decide +kernel)) ggX10_make_X10_parted
set_option maxRecDepth 20000 in
theorem ggX10_make_X10_puts : GoodIn wsX10_make wsX10_puts := goodIn_r _ [17, 18, 1, 7, 19, 20, 21, 22, 23, 24, 25, 26, 27, 28, 29, 30, 31, 32, 33, 34, 35, 36, 37, 38, 39, 40, 41, 42, 43, 44, 45, 46, 47, 48, 49, 50, 51, 52, 53, 54, 55, 56, 57, 58, 59, 60, 61, 62, 63, 64, 65, 66, 67, 68, 69] (by decide +kernel) (by decide +kernel)
set_option maxRecDepth 20000 in
theorem gX10_make_X10_puts : GoodIn wsX10_make (wsV RX10 119 RX10 yX10_puts wsX10_puts) := goodIn_app (goodIn_of _ (by decide +kernel)) ggX10_make_X10_puts
theorem dX10_make_0 : decode cX10_make 0 = .ok (.aload_n 0, 1) := by decide +kernel
theorem dX10_make_1 : decode cX10_make 1 = .ok (.iconst 0, 1) := by decide +kernel
theorem dX10_make_2 : decode cX10_make 2 = .ok (.putfield 112, 3) := by decide +kernel
theorem dX10_make_5 : decode cX10_make 5 = .ok (.iconst 0, 1) := by decide +kernel
theorem dX10_make_6 : decode cX10_make 6 = .ok (.istore_n 1, 1) := by decide +kernel
theorem dX10_make_7 : decode cX10_make 7 = .ok (.iload_n 1, 1) := by decide +kernel
theorem dX10_make_8 : decode cX10_make 8 = .ok (.aload_n 0, 1) := by decide +kernel
theorem dX10_make_9 : decode cX10_make 9 = .ok (.getfield 7, 3) := by decide +kernel
theorem dX10_make_12 : decode cX10_make 12 = .ok (.iconst 4, 1) := by decide +kernel
theorem dX10_make_13 : decode cX10_make 13 = .ok (.iaload, 1) := by decide +kernel
theorem dX10_make_14 : decode cX10_make 14 = .ok (.if_icmp .ge 210, 3) := by decide +kernel
theorem dX10_make_17 : decode cX10_make 17 = .ok (.aload_n 0, 1) := by decide +kernel
theorem dX10_make_18 : decode cX10_make 18 = .ok (.getfield 20, 3) := by decide +kernel
theorem dX10_make_21 : decode cX10_make 21 = .ok (.iload_n 1, 1) := by decide +kernel
theorem dX10_make_22 : decode cX10_make 22 = .ok (.iaload, 1) := by decide +kernel
theorem dX10_make_23 : decode cX10_make 23 = .ok (.istore_n 2, 1) := by decide +kernel
theorem dX10_make_24 : decode cX10_make 24 = .ok (.iconst 0, 1) := by decide +kernel
theorem dX10_make_25 : decode cX10_make 25 = .ok (.istore_n 3, 1) := by decide +kernel
theorem dX10_make_26 : decode cX10_make 26 = .ok (.iload_n 3, 1) := by decide +kernel
theorem dX10_make_27 : decode cX10_make 27 = .ok (.iload_n 2, 1) := by decide +kernel
theorem dX10_make_28 : decode cX10_make 28 = .ok (.if_icmp .ge 85, 3) := by decide +kernel
theorem dX10_make_31 : decode cX10_make 31 = .ok (.aload_n 0, 1) := by decide +kernel
theorem dX10_make_32 : decode cX10_make 32 = .ok (.aload_n 0, 1) := by decide +kernel
theorem dX10_make_33 : decode cX10_make 33 = .ok (.getfield 7, 3) := by decide +kernel
theorem dX10_make_36 : decode cX10_make 36 = .ok (.bipush 8, 2) := by decide +kernel
theorem dX10_make_38 : decode cX10_make 38 = .ok (.iload_n 1, 1) := by decide +kernel
theorem dX10_make_39 : decode cX10_make 39 = .ok (.iadd, 1) := by decide +kernel
theorem dX10_make_40 : decode cX10_make 40 = .ok (.iaload, 1) := by decide +kernel
theorem dX10_make_41 : decode cX10_make 41 = .ok (.iload_n 2, 1) := by decide +kernel
theorem dX10_make_42 : decode cX10_make 42 = .ok (.iload_n 3, 1) := by decide +kernel
theorem dX10_make_43 : decode cX10_make 43 = .ok (.invokevirtual 115, 3) := by decide +kernel
theorem dX10_make_46 : decode cX10_make 46 = .ok (.istore 4, 2) := by decide +kernel
theorem dX10_make_48 : decode cX10_make 48 = .ok (.iload_n 1, 1) := by decide +kernel
theorem dX10_make_49 : decode cX10_make 49 = .ok (.ifCond .ne 22, 3) := by decide +kernel
theorem dX10_make_52 : decode cX10_make 52 = .ok (.iload_n 3, 1) := by decide +kernel
theorem dX10_make_53 : decode cX10_make 53 = .ok (.ifCond .ne 18, 3) := by decide +kernel
theorem dX10_make_56 : decode cX10_make 56 = .ok (.aload_n 0, 1) := by decide +kernel
theorem dX10_make_57 : decode cX10_make 57 = .ok (.getfield 7, 3) := by decide +kernel
theorem dX10_make_60 : decode cX10_make 60 = .ok (.bipush 13, 2) := by decide +kernel
theorem dX10_make_62 : decode cX10_make 62 = .ok (.iaload, 1) := by decide +kernel
theorem dX10_make_63 : decode cX10_make 63 = .ok (.iconst 1, 1) := by decide +kernel
theorem dX10_make_64 : decode cX10_make 64 = .ok (.if_icmp .ne 7, 3) := by decide +kernel
theorem dX10_make_67 : decode cX10_make 67 = .ok (.iconst 1, 1) := by decide +kernel
theorem dX10_make_68 : decode cX10_make 68 = .ok (.goto 4, 3) := by decide +kernel
theorem dX10_make_71 : decode cX10_make 71 = .ok (.iconst 0, 1) := by decide +kernel
theorem dX10_make_72 : decode cX10_make 72 = .ok (.istore 5, 2) := by decide +kernel
theorem dX10_make_74 : decode cX10_make 74 = .ok (.aload_n 0, 1) := by decide +kernel
theorem dX10_make_75 : decode cX10_make 75 = .ok (.iload 5, 2) := by decide +kernel
theorem dX10_make_77 : decode cX10_make 77 = .ok (.ifCond .eq 7, 3) := by decide +kernel
theorem dX10_make_80 : decode cX10_make 80 = .ok (.iconst 1, 1) := by decide +kernel
theorem dX10_make_81 : decode cX10_make 81 = .ok (.goto 4, 3) := by decide +kernel
theorem dX10_make_84 : decode cX10_make 84 = .ok (.iconst 0, 1) := by decide +kernel
theorem dX10_make_85 : decode cX10_make 85 = .ok (.iload 5, 2) := by decide +kernel
theorem dX10_make_87 : decode cX10_make 87 = .ok (.ifCond .eq 11, 3) := by decide +kernel
theorem dX10_make_90 : decode cX10_make 90 = .ok (.iload 4, 2) := by decide +kernel
theorem dX10_make_92 : decode cX10_make 92 = .ok (.bipush 30, 2) := by decide +kernel
theorem dX10_make_94 : decode cX10_make 94 = .ok (.iadd, 1) := by decide +kernel
theorem dX10_make_95 : decode cX10_make 95 = .ok (.goto 5, 3) := by decide +kernel
theorem dX10_make_98 : decode cX10_make 98 = .ok (.iload 4, 2) := by decide +kernel
theorem dX10_make_100 : decode cX10_make 100 = .ok (.iload 4, 2) := by decide +kernel
theorem dX10_make_102 : decode cX10_make 102 = .ok (.iload_n 1, 1) := by decide +kernel
theorem dX10_make_103 : decode cX10_make 103 = .ok (.iconst (-1), 1) := by decide +kernel
theorem dX10_make_104 : decode cX10_make 104 = .ok (.invokevirtual 119, 3) := by decide +kernel
theorem dX10_make_107 : decode cX10_make 107 = .ok (.iinc 3 1, 3) := by decide +kernel
theorem dX10_make_110 : decode cX10_make 110 = .ok (.goto (-84), 3) := by decide +kernel
theorem dX10_make_113 : decode cX10_make 113 = .ok (.iload_n 1, 1) := by decide +kernel
theorem dX10_make_114 : decode cX10_make 114 = .ok (.aload_n 0, 1) := by decide +kernel
theorem dX10_make_115 : decode cX10_make 115 = .ok (.getfield 7, 3) := by decide +kernel
theorem dX10_make_118 : decode cX10_make 118 = .ok (.iconst 4, 1) := by decide +kernel
theorem dX10_make_119 : decode cX10_make 119 = .ok (.iaload, 1) := by decide +kernel
theorem dX10_make_120 : decode cX10_make 120 = .ok (.iconst 1, 1) := by decide +kernel
theorem dX10_make_121 : decode cX10_make 121 = .ok (.isub, 1) := by decide +kernel
theorem dX10_make_122 : decode cX10_make 122 = .ok (.if_icmp .ne 6, 3) := by decide +kernel
theorem dX10_make_125 : decode cX10_make 125 = .ok (.goto 93, 3) := by decide +kernel
theorem dX10_make_128 : decode cX10_make 128 = .ok (.aload_n 0, 1) := by decide +kernel
theorem dX10_make_129 : decode cX10_make 129 = .ok (.getfield 7, 3) := by decide +kernel
theorem dX10_make_132 : decode cX10_make 132 = .ok (.bipush 11, 2) := by decide +kernel
theorem dX10_make_134 : decode cX10_make 134 = .ok (.iload_n 1, 1) := by decide +kernel
theorem dX10_make_135 : decode cX10_make 135 = .ok (.iadd, 1) := by decide +kernel
theorem dX10_make_136 : decode cX10_make 136 = .ok (.iaload, 1) := by decide +kernel
theorem dX10_make_137 : decode cX10_make 137 = .ok (.ifCond .ne 25, 3) := by decide +kernel
theorem dX10_make_140 : decode cX10_make 140 = .ok (.aload_n 0, 1) := by decide +kernel
theorem dX10_make_141 : decode cX10_make 141 = .ok (.iconst 2, 1) := by decide +kernel
theorem dX10_make_142 : decode cX10_make 142 = .ok (.aload_n 0, 1) := by decide +kernel
theorem dX10_make_143 : decode cX10_make 143 = .ok (.getfield 7, 3) := by decide +kernel
theorem dX10_make_146 : decode cX10_make 146 = .ok (.iconst 1, 1) := by decide +kernel
theorem dX10_make_147 : decode cX10_make 147 = .ok (.iaload, 1) := by decide +kernel
theorem dX10_make_148 : decode cX10_make 148 = .ok (.aload_n 0, 1) := by decide +kernel
theorem dX10_make_149 : decode cX10_make 149 = .ok (.getfield 7, 3) := by decide +kernel
theorem dX10_make_152 : decode cX10_make 152 = .ok (.iconst 1, 1) := by decide +kernel
theorem dX10_make_153 : decode cX10_make 153 = .ok (.iaload, 1) := by decide +kernel
theorem dX10_make_154 : decode cX10_make 154 = .ok (.iconst (-1), 1) := by decide +kernel
theorem dX10_make_155 : decode cX10_make 155 = .ok (.iload_n 1, 1) := by decide +kernel
theorem dX10_make_156 : decode cX10_make 156 = .ok (.invokevirtual 119, 3) := by decide +kernel
theorem dX10_make_159 : decode cX10_make 159 = .ok (.goto 59, 3) := by decide +kernel
theorem dX10_make_162 : decode cX10_make 162 = .ok (.iconst 0, 1) := by decide +kernel
theorem dX10_make_163 : decode cX10_make 163 = .ok (.istore_n 3, 1) := by decide +kernel
theorem dX10_make_164 : decode cX10_make 164 = .ok (.iload_n 3, 1) := by decide +kernel
theorem dX10_make_165 : decode cX10_make 165 = .ok (.iconst 3, 1) := by decide +kernel
theorem dX10_make_166 : decode cX10_make 166 = .ok (.if_icmp .ge 52, 3) := by decide +kernel
theorem dX10_make_169 : decode cX10_make 169 = .ok (.aload_n 0, 1) := by decide +kernel
theorem dX10_make_170 : decode cX10_make 170 = .ok (.iconst 3, 1) := by decide +kernel
theorem dX10_make_171 : decode cX10_make 171 = .ok (.aload_n 0, 1) := by decide +kernel
theorem dX10_make_172 : decode cX10_make 172 = .ok (.aload_n 0, 1) := by decide +kernel
theorem dX10_make_173 : decode cX10_make 173 = .ok (.getfield 7, 3) := by decide +kernel
theorem dX10_make_176 : decode cX10_make 176 = .ok (.iconst 2, 1) := by decide +kernel
theorem dX10_make_177 : decode cX10_make 177 = .ok (.iaload, 1) := by decide +kernel
theorem dX10_make_178 : decode cX10_make 178 = .ok (.bipush 11, 2) := by decide +kernel
theorem dX10_make_180 : decode cX10_make 180 = .ok (.imul, 1) := by decide +kernel
theorem dX10_make_181 : decode cX10_make 181 = .ok (.bipush 7, 2) := by decide +kernel
theorem dX10_make_183 : decode cX10_make 183 = .ok (.idiv, 1) := by decide +kernel
theorem dX10_make_184 : decode cX10_make 184 = .ok (.iconst 3, 1) := by decide +kernel
theorem dX10_make_185 : decode cX10_make 185 = .ok (.iload_n 3, 1) := by decide +kernel
theorem dX10_make_186 : decode cX10_make 186 = .ok (.invokevirtual 115, 3) := by decide +kernel
theorem dX10_make_189 : decode cX10_make 189 = .ok (.aload_n 0, 1) := by decide +kernel
theorem dX10_make_190 : decode cX10_make 190 = .ok (.aload_n 0, 1) := by decide +kernel
theorem dX10_make_191 : decode cX10_make 191 = .ok (.getfield 7, 3) := by decide +kernel
theorem dX10_make_194 : decode cX10_make 194 = .ok (.iconst 3, 1) := by decide +kernel
theorem dX10_make_195 : decode cX10_make 195 = .ok (.iaload, 1) := by decide +kernel
theorem dX10_make_196 : decode cX10_make 196 = .ok (.bipush 11, 2) := by decide +kernel
theorem dX10_make_198 : decode cX10_make 198 = .ok (.imul, 1) := by decide +kernel
theorem dX10_make_199 : decode cX10_make 199 = .ok (.bipush 7, 2) := by decide +kernel
theorem dX10_make_201 : decode cX10_make 201 = .ok (.idiv, 1) := by decide +kernel
theorem dX10_make_202 : decode cX10_make 202 = .ok (.iconst 3, 1) := by decide +kernel
theorem dX10_make_203 : decode cX10_make 203 = .ok (.iload_n 3, 1) := by decide +kernel
theorem dX10_make_204 : decode cX10_make 204 = .ok (.invokevirtual 115, 3) := by decide +kernel
theorem dX10_make_207 : decode cX10_make 207 = .ok (.iconst (-1), 1) := by decide +kernel
theorem dX10_make_208 : decode cX10_make 208 = .ok (.iload_n 1, 1) := by decide +kernel
theorem dX10_make_209 : decode cX10_make 209 = .ok (.invokevirtual 119, 3) := by decide +kernel
theorem dX10_make_212 : decode cX10_make 212 = .ok (.iinc 3 1, 3) := by decide +kernel
theorem dX10_make_215 : decode cX10_make 215 = .ok (.goto (-51), 3) := by decide +kernel
theorem dX10_make_218 : decode cX10_make 218 = .ok (.iinc 1 1, 3) := by decide +kernel
theorem dX10_make_221 : decode cX10_make 221 = .ok (.goto (-214), 3) := by decide +kernel
theorem dX10_make_224 : decode cX10_make 224 = .ok (.iconst 0, 1) := by decide +kernel
theorem dX10_make_225 : decode cX10_make 225 = .ok (.istore_n 1, 1) := by decide +kernel
theorem dX10_make_226 : decode cX10_make 226 = .ok (.iconst 0, 1) := by decide +kernel
theorem dX10_make_227 : decode cX10_make 227 = .ok (.istore_n 2, 1) := by decide +kernel
theorem dX10_make_228 : decode cX10_make 228 = .ok (.iconst 0, 1) := by decide +kernel
theorem dX10_make_229 : decode cX10_make 229 = .ok (.istore_n 3, 1) := by decide +kernel
theorem dX10_make_230 : decode cX10_make 230 = .ok (.iload_n 3, 1) := by decide +kernel
theorem dX10_make_231 : decode cX10_make 231 = .ok (.aload_n 0, 1) := by decide +kernel
theorem dX10_make_232 : decode cX10_make 232 = .ok (.getfield 112, 3) := by decide +kernel
theorem dX10_make_235 : decode cX10_make 235 = .ok (.if_icmp .gt 32, 3) := by decide +kernel
theorem dX10_make_238 : decode cX10_make 238 = .ok (.aload_n 0, 1) := by decide +kernel
theorem dX10_make_239 : decode cX10_make 239 = .ok (.getfield 26, 3) := by decide +kernel
theorem dX10_make_242 : decode cX10_make 242 = .ok (.iload_n 3, 1) := by decide +kernel
theorem dX10_make_243 : decode cX10_make 243 = .ok (.aload_n 0, 1) := by decide +kernel
theorem dX10_make_244 : decode cX10_make 244 = .ok (.aload_n 0, 1) := by decide +kernel
theorem dX10_make_245 : decode cX10_make 245 = .ok (.getfield 7, 3) := by decide +kernel
theorem dX10_make_248 : decode cX10_make 248 = .ok (.iconst 0, 1) := by decide +kernel
theorem dX10_make_249 : decode cX10_make 249 = .ok (.iaload, 1) := by decide +kernel
theorem dX10_make_250 : decode cX10_make 250 = .ok (.aload_n 0, 1) := by decide +kernel
theorem dX10_make_251 : decode cX10_make 251 = .ok (.getfield 112, 3) := by decide +kernel
theorem dX10_make_254 : decode cX10_make 254 = .ok (.iconst 1, 1) := by decide +kernel
theorem dX10_make_255 : decode cX10_make 255 = .ok (.iadd, 1) := by decide +kernel
theorem dX10_make_256 : decode cX10_make 256 = .ok (.iload_n 3, 1) := by decide +kernel
theorem dX10_make_257 : decode cX10_make 257 = .ok (.invokevirtual 115, 3) := by decide +kernel
theorem dX10_make_260 : decode cX10_make 260 = .ok (.iastore, 1) := by decide +kernel
theorem dX10_make_261 : decode cX10_make 261 = .ok (.iinc 3 1, 3) := by decide +kernel
theorem dX10_make_264 : decode cX10_make 264 = .ok (.goto (-34), 3) := by decide +kernel
theorem dX10_make_267 : decode cX10_make 267 = .ok (.iconst 0, 1) := by decide +kernel
theorem dX10_make_268 : decode cX10_make 268 = .ok (.istore_n 3, 1) := by decide +kernel
theorem dX10_make_269 : decode cX10_make 269 = .ok (.iload_n 3, 1) := by decide +kernel
theorem dX10_make_270 : decode cX10_make 270 = .ok (.aload_n 0, 1) := by decide +kernel
theorem dX10_make_271 : decode cX10_make 271 = .ok (.getfield 112, 3) := by decide +kernel
theorem dX10_make_274 : decode cX10_make 274 = .ok (.if_icmp .ge 171, 3) := by decide +kernel
theorem dX10_make_277 : decode cX10_make 277 = .ok (.iload_n 1, 1) := by decide +kernel
theorem dX10_make_278 : decode cX10_make 278 = .ok (.aload_n 0, 1) := by decide +kernel
theorem dX10_make_279 : decode cX10_make 279 = .ok (.getfield 26, 3) := by decide +kernel
theorem dX10_make_282 : decode cX10_make 282 = .ok (.iload_n 3, 1) := by decide +kernel
theorem dX10_make_283 : decode cX10_make 283 = .ok (.iaload, 1) := by decide +kernel
theorem dX10_make_284 : decode cX10_make 284 = .ok (.iadd, 1) := by decide +kernel
theorem dX10_make_285 : decode cX10_make 285 = .ok (.istore_n 1, 1) := by decide +kernel
theorem dX10_make_286 : decode cX10_make 286 = .ok (.aload_n 0, 1) := by decide +kernel
theorem dX10_make_287 : decode cX10_make 287 = .ok (.getfield 29, 3) := by decide +kernel
theorem dX10_make_290 : decode cX10_make 290 = .ok (.iload_n 3, 1) := by decide +kernel
theorem dX10_make_291 : decode cX10_make 291 = .ok (.iload_n 1, 1) := by decide +kernel
theorem dX10_make_292 : decode cX10_make 292 = .ok (.iastore, 1) := by decide +kernel
theorem dX10_make_293 : decode cX10_make 293 = .ok (.aload_n 0, 1) := by decide +kernel
theorem dX10_make_294 : decode cX10_make 294 = .ok (.getfield 38, 3) := by decide +kernel
theorem dX10_make_297 : decode cX10_make 297 = .ok (.iload_n 3, 1) := by decide +kernel
theorem dX10_make_298 : decode cX10_make 298 = .ok (.iload_n 2, 1) := by decide +kernel
theorem dX10_make_299 : decode cX10_make 299 = .ok (.iastore, 1) := by decide +kernel
theorem dX10_make_300 : decode cX10_make 300 = .ok (.sipush 9999, 3) := by decide +kernel
theorem dX10_make_303 : decode cX10_make 303 = .ok (.iload_n 1, 1) := by decide +kernel
theorem dX10_make_304 : decode cX10_make 304 = .ok (.iadd, 1) := by decide +kernel
theorem dX10_make_305 : decode cX10_make 305 = .ok (.istore 4, 2) := by decide +kernel
theorem dX10_make_307 : decode cX10_make 307 = .ok (.iconst 0, 1) := by decide +kernel
theorem dX10_make_308 : decode cX10_make 308 = .ok (.istore 5, 2) := by decide +kernel
theorem dX10_make_310 : decode cX10_make 310 = .ok (.iload 5, 2) := by decide +kernel
theorem dX10_make_312 : decode cX10_make 312 = .ok (.aload_n 0, 1) := by decide +kernel
theorem dX10_make_313 : decode cX10_make 313 = .ok (.getfield 7, 3) := by decide +kernel
theorem dX10_make_316 : decode cX10_make 316 = .ok (.bipush 19, 2) := by decide +kernel
theorem dX10_make_318 : decode cX10_make 318 = .ok (.iaload, 1) := by decide +kernel
theorem dX10_make_319 : decode cX10_make 319 = .ok (.if_icmp .ge 101, 3) := by decide +kernel
theorem dX10_make_322 : decode cX10_make 322 = .ok (.aload_n 0, 1) := by decide +kernel
theorem dX10_make_323 : decode cX10_make 323 = .ok (.getfield 7, 3) := by decide +kernel
theorem dX10_make_326 : decode cX10_make 326 = .ok (.bipush 20, 2) := by decide +kernel
theorem dX10_make_328 : decode cX10_make 328 = .ok (.iconst 3, 1) := by decide +kernel
theorem dX10_make_329 : decode cX10_make 329 = .ok (.iload 5, 2) := by decide +kernel
theorem dX10_make_331 : decode cX10_make 331 = .ok (.imul, 1) := by decide +kernel
theorem dX10_make_332 : decode cX10_make 332 = .ok (.iadd, 1) := by decide +kernel
theorem dX10_make_333 : decode cX10_make 333 = .ok (.iaload, 1) := by decide +kernel
theorem dX10_make_334 : decode cX10_make 334 = .ok (.istore 6, 2) := by decide +kernel
theorem dX10_make_336 : decode cX10_make 336 = .ok (.aload_n 0, 1) := by decide +kernel
theorem dX10_make_337 : decode cX10_make 337 = .ok (.getfield 7, 3) := by decide +kernel
theorem dX10_make_340 : decode cX10_make 340 = .ok (.bipush 20, 2) := by decide +kernel
theorem dX10_make_342 : decode cX10_make 342 = .ok (.iconst 3, 1) := by decide +kernel
theorem dX10_make_343 : decode cX10_make 343 = .ok (.iload 5, 2) := by decide +kernel
theorem dX10_make_345 : decode cX10_make 345 = .ok (.imul, 1) := by decide +kernel
theorem dX10_make_346 : decode cX10_make 346 = .ok (.iadd, 1) := by decide +kernel
theorem dX10_make_347 : decode cX10_make 347 = .ok (.iconst 1, 1) := by decide +kernel
theorem dX10_make_348 : decode cX10_make 348 = .ok (.iadd, 1) := by decide +kernel
theorem dX10_make_349 : decode cX10_make 349 = .ok (.iaload, 1) := by decide +kernel
theorem dX10_make_350 : decode cX10_make 350 = .ok (.istore 7, 2) := by decide +kernel
theorem dX10_make_352 : decode cX10_make 352 = .ok (.aload_n 0, 1) := by decide +kernel
theorem dX10_make_353 : decode cX10_make 353 = .ok (.getfield 7, 3) := by decide +kernel
theorem dX10_make_356 : decode cX10_make 356 = .ok (.bipush 20, 2) := by decide +kernel
theorem dX10_make_358 : decode cX10_make 358 = .ok (.iconst 3, 1) := by decide +kernel
theorem dX10_make_359 : decode cX10_make 359 = .ok (.iload 5, 2) := by decide +kernel
theorem dX10_make_361 : decode cX10_make 361 = .ok (.imul, 1) := by decide +kernel
theorem dX10_make_362 : decode cX10_make 362 = .ok (.iadd, 1) := by decide +kernel
theorem dX10_make_363 : decode cX10_make 363 = .ok (.iconst 2, 1) := by decide +kernel
theorem dX10_make_364 : decode cX10_make 364 = .ok (.iadd, 1) := by decide +kernel
theorem dX10_make_365 : decode cX10_make 365 = .ok (.iaload, 1) := by decide +kernel
theorem dX10_make_366 : decode cX10_make 366 = .ok (.istore 8, 2) := by decide +kernel
theorem dX10_make_368 : decode cX10_make 368 = .ok (.iload 6, 2) := by decide +kernel
theorem dX10_make_370 : decode cX10_make 370 = .ok (.iload_n 2, 1) := by decide +kernel
theorem dX10_make_371 : decode cX10_make 371 = .ok (.aload_n 0, 1) := by decide +kernel
theorem dX10_make_372 : decode cX10_make 372 = .ok (.getfield 32, 3) := by decide +kernel
theorem dX10_make_375 : decode cX10_make 375 = .ok (.iload_n 3, 1) := by decide +kernel
theorem dX10_make_376 : decode cX10_make 376 = .ok (.iaload, 1) := by decide +kernel
theorem dX10_make_377 : decode cX10_make 377 = .ok (.iadd, 1) := by decide +kernel
theorem dX10_make_378 : decode cX10_make 378 = .ok (.if_icmp .ge 36, 3) := by decide +kernel
theorem dX10_make_381 : decode cX10_make 381 = .ok (.iload 7, 2) := by decide +kernel
theorem dX10_make_383 : decode cX10_make 383 = .ok (.iload_n 2, 1) := by decide +kernel
theorem dX10_make_384 : decode cX10_make 384 = .ok (.if_icmp .le 30, 3) := by decide +kernel
theorem dX10_make_387 : decode cX10_make 387 = .ok (.iload 6, 2) := by decide +kernel
theorem dX10_make_389 : decode cX10_make 389 = .ok (.iload 7, 2) := by decide +kernel
theorem dX10_make_391 : decode cX10_make 391 = .ok (.if_icmp .ge 23, 3) := by decide +kernel
theorem dX10_make_394 : decode cX10_make 394 = .ok (.aload_n 0, 1) := by decide +kernel
theorem dX10_make_395 : decode cX10_make 395 = .ok (.getfield 32, 3) := by decide +kernel
theorem dX10_make_398 : decode cX10_make 398 = .ok (.iload_n 3, 1) := by decide +kernel
theorem dX10_make_399 : decode cX10_make 399 = .ok (.iaload, 1) := by decide +kernel
theorem dX10_make_400 : decode cX10_make 400 = .ok (.ifCond .le 14, 3) := by decide +kernel
theorem dX10_make_403 : decode cX10_make 403 = .ok (.iload 8, 2) := by decide +kernel
theorem dX10_make_405 : decode cX10_make 405 = .ok (.iload 4, 2) := by decide +kernel
theorem dX10_make_407 : decode cX10_make 407 = .ok (.if_icmp .ge 7, 3) := by decide +kernel
theorem dX10_make_410 : decode cX10_make 410 = .ok (.iload 8, 2) := by decide +kernel
theorem dX10_make_412 : decode cX10_make 412 = .ok (.istore 4, 2) := by decide +kernel
theorem dX10_make_414 : decode cX10_make 414 = .ok (.iinc 5 1, 3) := by decide +kernel
theorem dX10_make_417 : decode cX10_make 417 = .ok (.goto (-107), 3) := by decide +kernel
theorem dX10_make_420 : decode cX10_make 420 = .ok (.aload_n 0, 1) := by decide +kernel
theorem dX10_make_421 : decode cX10_make 421 = .ok (.getfield 41, 3) := by decide +kernel
theorem dX10_make_424 : decode cX10_make 424 = .ok (.iload_n 3, 1) := by decide +kernel
theorem dX10_make_425 : decode cX10_make 425 = .ok (.iload 4, 2) := by decide +kernel
theorem dX10_make_427 : decode cX10_make 427 = .ok (.iload_n 1, 1) := by decide +kernel
theorem dX10_make_428 : decode cX10_make 428 = .ok (.isub, 1) := by decide +kernel
theorem dX10_make_429 : decode cX10_make 429 = .ok (.iastore, 1) := by decide +kernel
theorem dX10_make_430 : decode cX10_make 430 = .ok (.iload_n 2, 1) := by decide +kernel
theorem dX10_make_431 : decode cX10_make 431 = .ok (.aload_n 0, 1) := by decide +kernel
theorem dX10_make_432 : decode cX10_make 432 = .ok (.getfield 32, 3) := by decide +kernel
theorem dX10_make_435 : decode cX10_make 435 = .ok (.iload_n 3, 1) := by decide +kernel
theorem dX10_make_436 : decode cX10_make 436 = .ok (.iaload, 1) := by decide +kernel
theorem dX10_make_437 : decode cX10_make 437 = .ok (.iadd, 1) := by decide +kernel
theorem dX10_make_438 : decode cX10_make 438 = .ok (.istore_n 2, 1) := by decide +kernel
theorem dX10_make_439 : decode cX10_make 439 = .ok (.iinc 3 1, 3) := by decide +kernel
theorem dX10_make_442 : decode cX10_make 442 = .ok (.goto (-173), 3) := by decide +kernel
theorem dX10_make_445 : decode cX10_make 445 = .ok (.return_, 1) := by decide +kernel
set_option maxHeartbeats 4000000 in
set_option maxRecDepth 100000 in
theorem k_X10_make (l : Launch) (D : va_G) (cy : Nat → ClassId) {L : List Nat} {τ : Nat → Ro} {E : Ec} (hI : Inv TB cy L τ E) {a0 : Nat} (ha0 : a0 ∈ L) (ta0 : τ a0 = (11, 0)) : CtV l yX10_make wsX10_make { frames := 1, cells := 0, slots := 0, locals := 25 } D TB cy L τ E [.ref a0] (inW [(11, 0), (63, 0), (64, 0), (65, 0), (66, 0), (67, 0), (68, 0), (69, 0), (70, 0), (71, 0)]) (fun E' => True) := by
  intro sz
  refine sta (cc := cX10_make) (maxL := 9) hI (by decide) rfl (Nat.le_of_ble_eq_true rfl) (fun p e s m args below meth c ls hsz Z S0 hl => ?_)
  have hx := Z.1.1
  have hb := Z.1.2.1
  have hts := Z.1.2.2.2.2
  have F0_ : Fr L τ (inW [(11, 0), (63, 0), (64, 0), (65, 0), (66, 0), (67, 0), (68, 0), (69, 0), (70, 0), (71, 0)]) E E := Fr.refl
  have hl : lv_has ls 9 [(0, .ref a0)] := hl
  generalize hQ : MQ below _ args s 0 0 _ = QQ
  obtain ⟨qn, hqn, tqn⟩ := ref_of (k := 0) hI ha0 ta0 rfl rfl
  have tqn : τ qn = (60, 0) := tqn
  have J269 : ∀ (n : Nat) (x1_269 : Int32) (x2_269 : Int32) (x3_269 : Int32) (E_269 : Ec) (H_269 : Heap) (k_269 : List Loc) (l_269 : Array Slot), Now D TB cy (va_A (va_pl L E) sz) s L τ E_269 H_269 k_269 → Fr L τ (inW [(11, 0), (63, 0), (64, 0), (65, 0), (66, 0), (67, 0), (68, 0), (69, 0), (70, 0), (71, 0)]) E E_269 → (0 ≤ x3_269.toInt) → (x3_269.toInt ≤ 66) → (66 - x3_269.toInt).toNat < n → lv_has l_269 9 [(0, .ref a0), (1, .int x1_269), (2, .int x2_269), (3, .int x3_269)] → W p l e { frames := 1, cells := 0, slots := 0, locals := 25 } s m args below meth c H_269 k_269 0 0 QQ (F0 m 269 l_269 []) := by
    intro n
    induction n with
    | zero => intro x1_269 x2_269 x3_269 E_269 H_269 k_269 l_269 S_269 F_269 z1 z2 hm hl_269; exact absurd hm (Nat.not_lt_zero _)
    | succ n ih =>
      intro x1_269 x2_269 x3_269 E_269 H_269 k_269 l_269 S_269 F_269 z1 z2 hm hl_269
      have ih_269 := ih
      have J310 : ∀ (n : Nat) (x1_310 : Int32) (x4_310 : Int32) (x5_310 : Int32) (E_310 : Ec) (H_310 : Heap) (k_310 : List Loc) (l_310 : Array Slot), Now D TB cy (va_A (va_pl L E) sz) s L τ E_310 H_310 k_310 → Fr L τ (inW [(11, 0), (63, 0), (64, 0), (65, 0), (66, 0), (67, 0), (68, 0), (69, 0), (70, 0), (71, 0)]) E E_310 → (0 ≤ x3_269.toInt) → (x3_269.toInt ≤ 65) → (0 ≤ x5_310.toInt) → (x5_310.toInt ≤ 8) → (8 - x5_310.toInt).toNat < n → lv_has l_310 9 [(0, .ref a0), (1, .int x1_310), (2, .int x2_269), (3, .int x3_269), (4, .int x4_310), (5, .int x5_310)] → W p l e { frames := 1, cells := 0, slots := 0, locals := 25 } s m args below meth c H_310 k_310 0 0 QQ (F0 m 310 l_310 []) := by
        intro n
        induction n with
        | zero => intro x1_310 x4_310 x5_310 E_310 H_310 k_310 l_310 S_310 F_310 z3 z4 z5 z6 hm hl_310; exact absurd hm (Nat.not_lt_zero _)
        | succ n ih =>
          intro x1_310 x4_310 x5_310 E_310 H_310 k_310 l_310 S_310 F_310 z3 z4 z5 z6 hm hl_310
          have ih_310 := ih
          have J414 : ∀ (x4_414 : Int32) (E_414 : Ec) (H_414 : Heap) (k_414 : List Loc) (l_414 : Array Slot), Now D TB cy (va_A (va_pl L E) sz) s L τ E_414 H_414 k_414 → Fr L τ (inW [(11, 0), (63, 0), (64, 0), (65, 0), (66, 0), (67, 0), (68, 0), (69, 0), (70, 0), (71, 0)]) E E_414 → (0 ≤ x3_269.toInt) → (x3_269.toInt ≤ 65) → (0 ≤ x5_310.toInt) → (x5_310.toInt ≤ 7) → lv_has l_414 9 [(0, .ref a0), (1, .int x1_310), (2, .int x2_269), (3, .int x3_269), (4, .int x4_414), (5, .int x5_310)] → W p l e { frames := 1, cells := 0, slots := 0, locals := 25 } s m args below meth c H_414 k_414 0 0 QQ (F0 m 414 l_414 []) := by
            intro x4_414 E_414 H_414 k_414 l_414 S_414 F_414 z7 z8 z9 z10 hl_414
            obtain ⟨v11, ev11⟩ : ∃ y : Int32, x5_310 + Int32.ofInt (1) = y := ⟨_, rfl⟩
            have tv11 : v11.toInt = x5_310.toInt + (1) := by rw [← ev11]; exact (fb_addI (by rw [show (Int32.ofInt (1)).toInt = 1 from by decide +kernel]; omega) (by rw [show (Int32.ofInt (1)).toInt = 1 from by decide +kernel]; omega)).trans (by rw [show (Int32.ofInt (1)).toInt = 1 from by decide +kernel])
            refine lv_iinc (v := v11) (lv' := [(5, .int v11), (0, .ref a0), (1, .int x1_310), (2, .int x2_269), (3, .int x3_269), (4, .int x4_414)]) hx hb dX10_make_414 hl_414 (k := 5) rfl ev11 (by decide) rfl (fun l12 hl13 => ?_)
            refine lv_goto (tgt := 310) hx hb dX10_make_417 (by decide) ?_
            exact ih_310 x1_310 x4_414 v11 E_414 H_414 k_414 l12 S_414 F_414 (by have := fb_rng x1_310; have := fb_rng x2_269; have := fb_rng x4_414; omega) (by have := fb_rng x1_310; have := fb_rng x2_269; have := fb_rng x4_414; omega) (by have := fb_rng x1_310; have := fb_rng x2_269; have := fb_rng x4_414; omega) (by have := fb_rng x1_310; have := fb_rng x2_269; have := fb_rng x4_414; omega) (by omega) (lv_sub hl13 [1, 2, 3, 4, 5, 0] rfl)
          refine lv_iload hx hb dX10_make_310 (lv_at hl_310 5 rfl) ?_
          refine lv_aload_n hx hb dX10_make_312 rfl (lv_at hl_310 0 rfl) ?_
          refine tr_getr Z.1 Z.2.2.2.1 S_310.1 S_310.2 ha0 ta0 rfl rfl (fun _ h => List.mem_cons_of_mem _ (List.mem_append_right _ h)) 0 (by decide) rfl (hts _ (List.mem_of_getElem? (i := 2) rfl)) dX10_make_313 (fun q14 eq14 hq14 tq14 => ?_)
          have tq14 : τ q14 = (60, 0) := tq14
          have uq14 : qn = q14 := S_310.2.2.2.2 _ hqn _ hq14 (tqn.trans tq14.symm) (by rw [tqn]; rfl)
          subst uq14
          obtain ⟨v15, ev15, tv15⟩ : ∃ v : Int32, (Int8.ofInt (19)).toInt32 = v ∧ v.toInt = 19 := ⟨_, rfl, by decide +kernel⟩
          refine lv_bipush hx hb dX10_make_316 ev15 ?_
          refine tr_ialdx Z.1 Z.2.2.2.1 S_310.1 S_310.2 hqn tqn rfl (by omega) (by omega) dX10_make_318 (fun v16 ev16 lv16 uv16 => ?_)
          have bv16 : nowB v15.toNatClampNeg = (0, 8) := nb_19 (by show v15.toInt.toNat = 19; omega)
          rw [bv16] at lv16 uv16
          have lv16 : 0 ≤ v16.toInt := lv16
          have uv16 : v16.toInt ≤ 8 := uv16
          have av16 : ai E_310 qn 19 = v16 := ai_at ev16 (by omega)
          refine lv_icmp_ge (tgt := 420) hx hb dX10_make_319 (by decide) (fun c17 => ?_) (fun c17 => ?_)
          · skip
            have tc17 := nu_le c17
            refine lv_aload_n hx hb dX10_make_420 rfl (lv_at hl_310 0 rfl) ?_
            refine tr_getr Z.1 Z.2.2.2.1 S_310.1 S_310.2 ha0 ta0 rfl rfl (fun _ h => List.mem_cons_of_mem _ (List.mem_append_right _ h)) 15 (by decide) rfl (hts _ (List.mem_of_getElem? (i := 8) rfl)) dX10_make_421 (fun q18 eq18 hq18 tq18 => ?_)
            have tq18 : τ q18 = (69, 0) := tq18
            refine lv_iload_n hx hb dX10_make_424 rfl (lv_at hl_310 3 rfl) ?_
            refine lv_iload hx hb dX10_make_425 (lv_at hl_310 4 rfl) ?_
            refine lv_iload_n hx hb dX10_make_427 rfl (lv_at hl_310 1 rfl) ?_
            refine lv_isub hx hb dX10_make_428 ?_
            refine lv_topi (fun v19 ev19 => ?_)
            refine tr_iast Z.1 Z.2.2.2.1 S_310.1 S_310.2 hq18 tq18 rfl (by omega) (by omega) (by have := fb_rng v19; omega) (by have := fb_rng v19; omega) dX10_make_429 (fun E20 H21 k22 W20 I20 P20 => ?_)
            have S20 : Now D TB cy (va_A (va_pl L E) sz) s L τ E20 H21 k22 := ⟨W20, I20⟩
            have F20 : Fr L τ (inW [(11, 0), (63, 0), (64, 0), (65, 0), (66, 0), (67, 0), (68, 0), (69, 0), (70, 0), (71, 0)]) E E20 := Fr.set F_310 P20 tq18 rfl
            refine lv_iload_n hx hb dX10_make_430 rfl (lv_at hl_310 2 rfl) ?_
            refine lv_aload_n hx hb dX10_make_431 rfl (lv_at hl_310 0 rfl) ?_
            refine tr_getr Z.1 Z.2.2.2.1 S20.1 S20.2 ha0 ta0 rfl rfl (fun _ h => List.mem_cons_of_mem _ (List.mem_append_right _ h)) 12 (by decide) rfl (hts _ (List.mem_of_getElem? (i := 7) rfl)) dX10_make_432 (fun q23 eq23 hq23 tq23 => ?_)
            have tq23 : τ q23 = (66, 0) := tq23
            refine lv_iload_n hx hb dX10_make_435 rfl (lv_at hl_310 3 rfl) ?_
            refine tr_iald Z.1 Z.2.2.2.1 S20.1 S20.2 hq23 tq23 rfl (by omega) (by omega) dX10_make_436 (fun v24 ev24 lv24 uv24 => ?_)
            refine lv_iadd hx hb dX10_make_437 ?_
            refine lv_topi (fun v25 ev25 => ?_)
            refine lv_istore_n (lv' := [(2, .int v25), (0, .ref a0), (1, .int x1_310), (3, .int x3_269), (4, .int x4_310), (5, .int x5_310)]) hx hb dX10_make_438 rfl hl_310 (by decide) rfl (fun l26 hl27 => ?_)
            obtain ⟨v28, ev28⟩ : ∃ y : Int32, x3_269 + Int32.ofInt (1) = y := ⟨_, rfl⟩
            have tv28 : v28.toInt = x3_269.toInt + (1) := by rw [← ev28]; exact (fb_addI (by rw [show (Int32.ofInt (1)).toInt = 1 from by decide +kernel]; omega) (by rw [show (Int32.ofInt (1)).toInt = 1 from by decide +kernel]; omega)).trans (by rw [show (Int32.ofInt (1)).toInt = 1 from by decide +kernel])
            refine lv_iinc (v := v28) (lv' := [(3, .int v28), (2, .int v25), (0, .ref a0), (1, .int x1_310), (4, .int x4_310), (5, .int x5_310)]) hx hb dX10_make_439 hl27 (k := 3) rfl ev28 (by decide) rfl (fun l29 hl30 => ?_)
            refine lv_goto (tgt := 269) hx hb dX10_make_442 (by decide) ?_
            exact ih_269 x1_310 v25 v28 E20 H21 k22 l29 S20 F20 (by have := fb_rng v25; have := fb_rng x1_310; have := fb_rng x4_310; omega) (by have := fb_rng v25; have := fb_rng x1_310; have := fb_rng x4_310; omega) (by omega) (lv_sub hl30 [2, 3, 1, 0] rfl)
          · skip
            have tc17 := nu_nle c17
            refine lv_aload_n hx hb dX10_make_322 rfl (lv_at hl_310 0 rfl) ?_
            refine tr_getr Z.1 Z.2.2.2.1 S_310.1 S_310.2 ha0 ta0 rfl rfl (fun _ h => List.mem_cons_of_mem _ (List.mem_append_right _ h)) 0 (by decide) rfl (hts _ (List.mem_of_getElem? (i := 2) rfl)) dX10_make_323 (fun q31 eq31 hq31 tq31 => ?_)
            have tq31 : τ q31 = (60, 0) := tq31
            have uq31 : qn = q31 := S_310.2.2.2.2 _ hqn _ hq31 (tqn.trans tq31.symm) (by rw [tqn]; rfl)
            subst uq31
            obtain ⟨v32, ev32, tv32⟩ : ∃ v : Int32, (Int8.ofInt (20)).toInt32 = v ∧ v.toInt = 20 := ⟨_, rfl, by decide +kernel⟩
            refine lv_bipush hx hb dX10_make_326 ev32 ?_
            obtain ⟨v33, ev33, tv33⟩ : ∃ v : Int32, Int32.ofInt (3) = v ∧ v.toInt = 3 := ⟨_, rfl, by decide +kernel⟩
            refine lv_iconst hx hb dX10_make_328 ev33 ?_
            refine lv_iload hx hb dX10_make_329 (lv_at hl_310 5 rfl) ?_
            refine lv_imul hx hb dX10_make_331 ?_
            refine lv_topi (fun v34 ev34 => ?_)
            have tv34 := nu_mulc' (3) ev34 (by omega) (by omega) (by omega)
            refine lv_iadd hx hb dX10_make_332 ?_
            refine lv_topi (fun v35 ev35 => ?_)
            have tv35 := nu_add ev35 (by omega) (by omega)
            refine tr_ialdx Z.1 Z.2.2.2.1 S_310.1 S_310.2 hqn tqn rfl (by omega) (by omega) dX10_make_333 (fun v36 ev36 lv36 uv36 => ?_)
            have bv36 : nowB v35.toNatClampNeg = (-2147483648, 2147483647) := nb_o (by show v35.toInt.toNat < 4 ∨ (8 ≤ v35.toInt.toNat ∧ v35.toInt.toNat ≤ 18) ∨ (20 ≤ v35.toInt.toNat ∧ v35.toInt.toNat ≤ 43); omega)
            rw [bv36] at lv36 uv36
            have lv36 : -2147483648 ≤ v36.toInt := lv36
            have uv36 : v36.toInt ≤ 2147483647 := uv36
            refine lv_istore (lv' := [(6, .int v36), (0, .ref a0), (1, .int x1_310), (2, .int x2_269), (3, .int x3_269), (4, .int x4_310), (5, .int x5_310)]) hx hb dX10_make_334 hl_310 (by decide) rfl (fun l37 hl38 => ?_)
            refine lv_aload_n hx hb dX10_make_336 rfl (lv_at hl38 1 rfl) ?_
            refine tr_getr Z.1 Z.2.2.2.1 S_310.1 S_310.2 ha0 ta0 rfl rfl (fun _ h => List.mem_cons_of_mem _ (List.mem_append_right _ h)) 0 (by decide) rfl (hts _ (List.mem_of_getElem? (i := 2) rfl)) dX10_make_337 (fun q39 eq39 hq39 tq39 => ?_)
            have tq39 : τ q39 = (60, 0) := tq39
            have uq39 : qn = q39 := S_310.2.2.2.2 _ hqn _ hq39 (tqn.trans tq39.symm) (by rw [tqn]; rfl)
            subst uq39
            obtain ⟨v40, ev40, tv40⟩ : ∃ v : Int32, (Int8.ofInt (20)).toInt32 = v ∧ v.toInt = 20 := ⟨_, rfl, by decide +kernel⟩
            refine lv_bipush hx hb dX10_make_340 ev40 ?_
            obtain ⟨v41, ev41, tv41⟩ : ∃ v : Int32, Int32.ofInt (3) = v ∧ v.toInt = 3 := ⟨_, rfl, by decide +kernel⟩
            refine lv_iconst hx hb dX10_make_342 ev41 ?_
            refine lv_iload hx hb dX10_make_343 (lv_at hl38 6 rfl) ?_
            refine lv_imul hx hb dX10_make_345 ?_
            refine lv_topi (fun v42 ev42 => ?_)
            have tv42 := nu_mulc' (3) ev42 (by omega) (by omega) (by omega)
            refine lv_iadd hx hb dX10_make_346 ?_
            refine lv_topi (fun v43 ev43 => ?_)
            have tv43 := nu_add ev43 (by omega) (by omega)
            obtain ⟨v44, ev44, tv44⟩ : ∃ v : Int32, Int32.ofInt (1) = v ∧ v.toInt = 1 := ⟨_, rfl, by decide +kernel⟩
            refine lv_iconst hx hb dX10_make_347 ev44 ?_
            refine lv_iadd hx hb dX10_make_348 ?_
            refine lv_topi (fun v45 ev45 => ?_)
            have tv45 := nu_add ev45 (by omega) (by omega)
            refine tr_ialdx Z.1 Z.2.2.2.1 S_310.1 S_310.2 hqn tqn rfl (by omega) (by omega) dX10_make_349 (fun v46 ev46 lv46 uv46 => ?_)
            have bv46 : nowB v45.toNatClampNeg = (-2147483648, 2147483647) := nb_o (by show v45.toInt.toNat < 4 ∨ (8 ≤ v45.toInt.toNat ∧ v45.toInt.toNat ≤ 18) ∨ (20 ≤ v45.toInt.toNat ∧ v45.toInt.toNat ≤ 43); omega)
            rw [bv46] at lv46 uv46
            have lv46 : -2147483648 ≤ v46.toInt := lv46
            have uv46 : v46.toInt ≤ 2147483647 := uv46
            refine lv_istore (lv' := [(7, .int v46), (6, .int v36), (0, .ref a0), (1, .int x1_310), (2, .int x2_269), (3, .int x3_269), (4, .int x4_310), (5, .int x5_310)]) hx hb dX10_make_350 hl38 (by decide) rfl (fun l47 hl48 => ?_)
            refine lv_aload_n hx hb dX10_make_352 rfl (lv_at hl48 2 rfl) ?_
            refine tr_getr Z.1 Z.2.2.2.1 S_310.1 S_310.2 ha0 ta0 rfl rfl (fun _ h => List.mem_cons_of_mem _ (List.mem_append_right _ h)) 0 (by decide) rfl (hts _ (List.mem_of_getElem? (i := 2) rfl)) dX10_make_353 (fun q49 eq49 hq49 tq49 => ?_)
            have tq49 : τ q49 = (60, 0) := tq49
            have uq49 : qn = q49 := S_310.2.2.2.2 _ hqn _ hq49 (tqn.trans tq49.symm) (by rw [tqn]; rfl)
            subst uq49
            obtain ⟨v50, ev50, tv50⟩ : ∃ v : Int32, (Int8.ofInt (20)).toInt32 = v ∧ v.toInt = 20 := ⟨_, rfl, by decide +kernel⟩
            refine lv_bipush hx hb dX10_make_356 ev50 ?_
            obtain ⟨v51, ev51, tv51⟩ : ∃ v : Int32, Int32.ofInt (3) = v ∧ v.toInt = 3 := ⟨_, rfl, by decide +kernel⟩
            refine lv_iconst hx hb dX10_make_358 ev51 ?_
            refine lv_iload hx hb dX10_make_359 (lv_at hl48 7 rfl) ?_
            refine lv_imul hx hb dX10_make_361 ?_
            refine lv_topi (fun v52 ev52 => ?_)
            have tv52 := nu_mulc' (3) ev52 (by omega) (by omega) (by omega)
            refine lv_iadd hx hb dX10_make_362 ?_
            refine lv_topi (fun v53 ev53 => ?_)
            have tv53 := nu_add ev53 (by omega) (by omega)
            obtain ⟨v54, ev54, tv54⟩ : ∃ v : Int32, Int32.ofInt (2) = v ∧ v.toInt = 2 := ⟨_, rfl, by decide +kernel⟩
            refine lv_iconst hx hb dX10_make_363 ev54 ?_
            refine lv_iadd hx hb dX10_make_364 ?_
            refine lv_topi (fun v55 ev55 => ?_)
            have tv55 := nu_add ev55 (by omega) (by omega)
            refine tr_ialdx Z.1 Z.2.2.2.1 S_310.1 S_310.2 hqn tqn rfl (by omega) (by omega) dX10_make_365 (fun v56 ev56 lv56 uv56 => ?_)
            have bv56 : nowB v55.toNatClampNeg = (-2147483648, 2147483647) := nb_o (by show v55.toInt.toNat < 4 ∨ (8 ≤ v55.toInt.toNat ∧ v55.toInt.toNat ≤ 18) ∨ (20 ≤ v55.toInt.toNat ∧ v55.toInt.toNat ≤ 43); omega)
            rw [bv56] at lv56 uv56
            have lv56 : -2147483648 ≤ v56.toInt := lv56
            have uv56 : v56.toInt ≤ 2147483647 := uv56
            refine lv_istore (lv' := [(8, .int v56), (7, .int v46), (6, .int v36), (0, .ref a0), (1, .int x1_310), (2, .int x2_269), (3, .int x3_269), (4, .int x4_310), (5, .int x5_310)]) hx hb dX10_make_366 hl48 (by decide) rfl (fun l57 hl58 => ?_)
            refine lv_iload hx hb dX10_make_368 (lv_at hl58 2 rfl) ?_
            refine lv_iload_n hx hb dX10_make_370 rfl (lv_at hl58 5 rfl) ?_
            refine lv_aload_n hx hb dX10_make_371 rfl (lv_at hl58 3 rfl) ?_
            refine tr_getr Z.1 Z.2.2.2.1 S_310.1 S_310.2 ha0 ta0 rfl rfl (fun _ h => List.mem_cons_of_mem _ (List.mem_append_right _ h)) 12 (by decide) rfl (hts _ (List.mem_of_getElem? (i := 7) rfl)) dX10_make_372 (fun q59 eq59 hq59 tq59 => ?_)
            have tq59 : τ q59 = (66, 0) := tq59
            refine lv_iload_n hx hb dX10_make_375 rfl (lv_at hl58 6 rfl) ?_
            refine tr_iald Z.1 Z.2.2.2.1 S_310.1 S_310.2 hq59 tq59 rfl (by omega) (by omega) dX10_make_376 (fun v60 ev60 lv60 uv60 => ?_)
            refine lv_iadd hx hb dX10_make_377 ?_
            refine lv_topi (fun v61 ev61 => ?_)
            refine lv_icmp_ge (tgt := 414) hx hb dX10_make_378 (by decide) (fun c62 => ?_) (fun c62 => ?_)
            · skip
              have tc62 := nu_le c62
              exact J414 x4_310 E_310 H_310 k_310 l57 S_310 F_310 (by have := fb_rng v56; have := fb_rng v46; have := fb_rng v36; have := fb_rng x1_310; have := fb_rng x2_269; have := fb_rng x4_310; omega) (by have := fb_rng v56; have := fb_rng v46; have := fb_rng v36; have := fb_rng x1_310; have := fb_rng x2_269; have := fb_rng x4_310; omega) (by have := fb_rng v56; have := fb_rng v46; have := fb_rng v36; have := fb_rng x1_310; have := fb_rng x2_269; have := fb_rng x4_310; omega) (by have := fb_rng v56; have := fb_rng v46; have := fb_rng v36; have := fb_rng x1_310; have := fb_rng x2_269; have := fb_rng x4_310; omega) (lv_sub hl58 [3, 4, 5, 6, 7, 8] rfl)
            · skip
              have tc62 := nu_nle c62
              refine lv_iload hx hb dX10_make_381 (lv_at hl58 1 rfl) ?_
              refine lv_iload_n hx hb dX10_make_383 rfl (lv_at hl58 5 rfl) ?_
              refine lv_icmp_le (tgt := 414) hx hb dX10_make_384 (by decide) (fun c63 => ?_) (fun c63 => ?_)
              · skip
                have tc63 := nu_le c63
                exact J414 x4_310 E_310 H_310 k_310 l57 S_310 F_310 (by have := fb_rng v56; have := fb_rng v46; have := fb_rng v36; have := fb_rng x1_310; have := fb_rng x2_269; have := fb_rng x4_310; omega) (by have := fb_rng v56; have := fb_rng v46; have := fb_rng v36; have := fb_rng x1_310; have := fb_rng x2_269; have := fb_rng x4_310; omega) (by have := fb_rng v56; have := fb_rng v46; have := fb_rng v36; have := fb_rng x1_310; have := fb_rng x2_269; have := fb_rng x4_310; omega) (by have := fb_rng v56; have := fb_rng v46; have := fb_rng v36; have := fb_rng x1_310; have := fb_rng x2_269; have := fb_rng x4_310; omega) (lv_sub hl58 [3, 4, 5, 6, 7, 8] rfl)
              · skip
                have tc63 := nu_nle c63
                refine lv_iload hx hb dX10_make_387 (lv_at hl58 2 rfl) ?_
                refine lv_iload hx hb dX10_make_389 (lv_at hl58 1 rfl) ?_
                refine lv_icmp_ge (tgt := 414) hx hb dX10_make_391 (by decide) (fun c64 => ?_) (fun c64 => ?_)
                · skip
                  have tc64 := nu_le c64
                  exact J414 x4_310 E_310 H_310 k_310 l57 S_310 F_310 (by have := fb_rng v56; have := fb_rng x1_310; have := fb_rng x2_269; have := fb_rng x4_310; omega) (by have := fb_rng v56; have := fb_rng x1_310; have := fb_rng x2_269; have := fb_rng x4_310; omega) (by have := fb_rng v56; have := fb_rng x1_310; have := fb_rng x2_269; have := fb_rng x4_310; omega) (by have := fb_rng v56; have := fb_rng x1_310; have := fb_rng x2_269; have := fb_rng x4_310; omega) (lv_sub hl58 [3, 4, 5, 6, 7, 8] rfl)
                · skip
                  have tc64 := nu_nle c64
                  refine lv_aload_n hx hb dX10_make_394 rfl (lv_at hl58 3 rfl) ?_
                  refine tr_getr Z.1 Z.2.2.2.1 S_310.1 S_310.2 ha0 ta0 rfl rfl (fun _ h => List.mem_cons_of_mem _ (List.mem_append_right _ h)) 12 (by decide) rfl (hts _ (List.mem_of_getElem? (i := 7) rfl)) dX10_make_395 (fun q65 eq65 hq65 tq65 => ?_)
                  have tq65 : τ q65 = (66, 0) := tq65
                  have uq65 : q59 = q65 := S_310.2.2.2.2 _ hq59 _ hq65 (tq59.trans tq65.symm) (by rw [tq59]; rfl)
                  subst uq65
                  refine lv_iload_n hx hb dX10_make_398 rfl (lv_at hl58 6 rfl) ?_
                  refine tr_iald Z.1 Z.2.2.2.1 S_310.1 S_310.2 hq59 tq59 rfl (by omega) (by omega) dX10_make_399 (fun v66 ev66 lv66 uv66 => ?_)
                  refine lv_if_le (tgt := 414) hx hb dX10_make_400 (by decide) (fun c67 => ?_) (fun c67 => ?_)
                  · skip
                    have tc67 := nu_le c67
                    have uc67 : (0 : Int32).toInt = 0 := rfl
                    exact J414 x4_310 E_310 H_310 k_310 l57 S_310 F_310 (by have := fb_rng v56; have := fb_rng v46; have := fb_rng v36; have := fb_rng x1_310; have := fb_rng x2_269; have := fb_rng x4_310; omega) (by have := fb_rng v56; have := fb_rng v46; have := fb_rng v36; have := fb_rng x1_310; have := fb_rng x2_269; have := fb_rng x4_310; omega) (by have := fb_rng v56; have := fb_rng v46; have := fb_rng v36; have := fb_rng x1_310; have := fb_rng x2_269; have := fb_rng x4_310; omega) (by have := fb_rng v56; have := fb_rng v46; have := fb_rng v36; have := fb_rng x1_310; have := fb_rng x2_269; have := fb_rng x4_310; omega) (lv_sub hl58 [3, 4, 5, 6, 7, 8] rfl)
                  · skip
                    have tc67 := nu_nle c67
                    have uc67 : (0 : Int32).toInt = 0 := rfl
                    refine lv_iload hx hb dX10_make_403 (lv_at hl58 0 rfl) ?_
                    refine lv_iload hx hb dX10_make_405 (lv_at hl58 7 rfl) ?_
                    refine lv_icmp_ge (tgt := 414) hx hb dX10_make_407 (by decide) (fun c68 => ?_) (fun c68 => ?_)
                    · skip
                      have tc68 := nu_le c68
                      exact J414 x4_310 E_310 H_310 k_310 l57 S_310 F_310 (by have := fb_rng v56; have := fb_rng v46; have := fb_rng v36; have := fb_rng x1_310; have := fb_rng x2_269; have := fb_rng x4_310; omega) (by have := fb_rng v56; have := fb_rng v46; have := fb_rng v36; have := fb_rng x1_310; have := fb_rng x2_269; have := fb_rng x4_310; omega) (by have := fb_rng v56; have := fb_rng v46; have := fb_rng v36; have := fb_rng x1_310; have := fb_rng x2_269; have := fb_rng x4_310; omega) (by have := fb_rng v56; have := fb_rng v46; have := fb_rng v36; have := fb_rng x1_310; have := fb_rng x2_269; have := fb_rng x4_310; omega) (lv_sub hl58 [3, 4, 5, 6, 7, 8] rfl)
                    · skip
                      have tc68 := nu_nle c68
                      refine lv_iload hx hb dX10_make_410 (lv_at hl58 0 rfl) ?_
                      refine lv_istore (lv' := [(4, .int v56), (8, .int v56), (7, .int v46), (6, .int v36), (0, .ref a0), (1, .int x1_310), (2, .int x2_269), (3, .int x3_269), (5, .int x5_310)]) hx hb dX10_make_412 hl58 (by decide) rfl (fun l69 hl70 => ?_)
                      exact J414 v56 E_310 H_310 k_310 l69 S_310 F_310 (by have := fb_rng v56; have := fb_rng v56; have := fb_rng v46; have := fb_rng v36; have := fb_rng x1_310; have := fb_rng x2_269; omega) (by have := fb_rng v56; have := fb_rng v56; have := fb_rng v46; have := fb_rng v36; have := fb_rng x1_310; have := fb_rng x2_269; omega) (by have := fb_rng v56; have := fb_rng v56; have := fb_rng v46; have := fb_rng v36; have := fb_rng x1_310; have := fb_rng x2_269; omega) (by have := fb_rng v56; have := fb_rng v56; have := fb_rng v46; have := fb_rng v36; have := fb_rng x1_310; have := fb_rng x2_269; omega) (lv_sub hl70 [4, 5, 6, 7, 0, 8] rfl)
      refine lv_iload_n hx hb dX10_make_269 rfl (lv_at hl_269 3 rfl) ?_
      refine lv_aload_n hx hb dX10_make_270 rfl (lv_at hl_269 0 rfl) ?_
      refine tr_geti Z.1 Z.2.2.2.1 S_269.1 S_269.2 ha0 ta0 rfl rfl (fun _ h => List.mem_cons_of_mem _ (List.mem_append_right _ h)) 8 (by decide) rfl (hts _ (List.mem_of_getElem? (i := 1) rfl)) dX10_make_271 (fun v71 ev71 lv71 uv71 => ?_)
      refine lv_icmp_ge (tgt := 445) hx hb dX10_make_274 (by decide) (fun c72 => ?_) (fun c72 => ?_)
      · skip
        have tc72 := nu_le c72
        rw [← hQ]
        exact en_v Z S_269 F_269 trivial dX10_make_445
      · skip
        have tc72 := nu_nle c72
        refine lv_iload_n hx hb dX10_make_277 rfl (lv_at hl_269 1 rfl) ?_
        refine lv_aload_n hx hb dX10_make_278 rfl (lv_at hl_269 0 rfl) ?_
        refine tr_getr Z.1 Z.2.2.2.1 S_269.1 S_269.2 ha0 ta0 rfl rfl (fun _ h => List.mem_cons_of_mem _ (List.mem_append_right _ h)) 10 (by decide) rfl (hts _ (List.mem_of_getElem? (i := 4) rfl)) dX10_make_279 (fun q73 eq73 hq73 tq73 => ?_)
        have tq73 : τ q73 = (64, 0) := tq73
        refine lv_iload_n hx hb dX10_make_282 rfl (lv_at hl_269 3 rfl) ?_
        refine tr_iald Z.1 Z.2.2.2.1 S_269.1 S_269.2 hq73 tq73 rfl (by omega) (by omega) dX10_make_283 (fun v74 ev74 lv74 uv74 => ?_)
        refine lv_iadd hx hb dX10_make_284 ?_
        refine lv_topi (fun v75 ev75 => ?_)
        refine lv_istore_n (lv' := [(1, .int v75), (0, .ref a0), (2, .int x2_269), (3, .int x3_269)]) hx hb dX10_make_285 rfl hl_269 (by decide) rfl (fun l76 hl77 => ?_)
        refine lv_aload_n hx hb dX10_make_286 rfl (lv_at hl77 1 rfl) ?_
        refine tr_getr Z.1 Z.2.2.2.1 S_269.1 S_269.2 ha0 ta0 rfl rfl (fun _ h => List.mem_cons_of_mem _ (List.mem_append_right _ h)) 11 (by decide) rfl (hts _ (List.mem_of_getElem? (i := 5) rfl)) dX10_make_287 (fun q78 eq78 hq78 tq78 => ?_)
        have tq78 : τ q78 = (65, 0) := tq78
        refine lv_iload_n hx hb dX10_make_290 rfl (lv_at hl77 3 rfl) ?_
        refine lv_iload_n hx hb dX10_make_291 rfl (lv_at hl77 0 rfl) ?_
        refine tr_iast Z.1 Z.2.2.2.1 S_269.1 S_269.2 hq78 tq78 rfl (by omega) (by omega) (by have := fb_rng v75; omega) (by have := fb_rng v75; omega) dX10_make_292 (fun E79 H80 k81 W79 I79 P79 => ?_)
        have S79 : Now D TB cy (va_A (va_pl L E) sz) s L τ E79 H80 k81 := ⟨W79, I79⟩
        have F79 : Fr L τ (inW [(11, 0), (63, 0), (64, 0), (65, 0), (66, 0), (67, 0), (68, 0), (69, 0), (70, 0), (71, 0)]) E E79 := Fr.set F_269 P79 tq78 rfl
        refine lv_aload_n hx hb dX10_make_293 rfl (lv_at hl77 1 rfl) ?_
        refine tr_getr Z.1 Z.2.2.2.1 S79.1 S79.2 ha0 ta0 rfl rfl (fun _ h => List.mem_cons_of_mem _ (List.mem_append_right _ h)) 14 (by decide) rfl (hts _ (List.mem_of_getElem? (i := 6) rfl)) dX10_make_294 (fun q82 eq82 hq82 tq82 => ?_)
        have tq82 : τ q82 = (68, 0) := tq82
        refine lv_iload_n hx hb dX10_make_297 rfl (lv_at hl77 3 rfl) ?_
        refine lv_iload_n hx hb dX10_make_298 rfl (lv_at hl77 2 rfl) ?_
        refine tr_iast Z.1 Z.2.2.2.1 S79.1 S79.2 hq82 tq82 rfl (by omega) (by omega) (by have := fb_rng x2_269; omega) (by have := fb_rng x2_269; omega) dX10_make_299 (fun E83 H84 k85 W83 I83 P83 => ?_)
        have S83 : Now D TB cy (va_A (va_pl L E) sz) s L τ E83 H84 k85 := ⟨W83, I83⟩
        have F83 : Fr L τ (inW [(11, 0), (63, 0), (64, 0), (65, 0), (66, 0), (67, 0), (68, 0), (69, 0), (70, 0), (71, 0)]) E E83 := Fr.set F79 P83 tq82 rfl
        obtain ⟨v86, ev86, tv86⟩ : ∃ v : Int32, (Int16.ofInt (9999)).toInt32 = v ∧ v.toInt = 9999 := ⟨_, rfl, by decide +kernel⟩
        refine lv_sipush hx hb dX10_make_300 ev86 ?_
        refine lv_iload_n hx hb dX10_make_303 rfl (lv_at hl77 0 rfl) ?_
        refine lv_iadd hx hb dX10_make_304 ?_
        refine lv_topi (fun v87 ev87 => ?_)
        refine lv_istore (lv' := [(4, .int v87), (1, .int v75), (0, .ref a0), (2, .int x2_269), (3, .int x3_269)]) hx hb dX10_make_305 hl77 (by decide) rfl (fun l88 hl89 => ?_)
        obtain ⟨v90, ev90, tv90⟩ : ∃ v : Int32, Int32.ofInt (0) = v ∧ v.toInt = 0 := ⟨_, rfl, by decide +kernel⟩
        refine lv_iconst hx hb dX10_make_307 ev90 ?_
        refine lv_istore (lv' := [(5, .int v90), (4, .int v87), (1, .int v75), (0, .ref a0), (2, .int x2_269), (3, .int x3_269)]) hx hb dX10_make_308 hl89 (by decide) rfl (fun l91 hl92 => ?_)
        exact J310 _ v75 v87 v90 E83 H84 k85 l91 S83 F83 (by have := fb_rng v87; have := fb_rng v75; have := fb_rng x2_269; omega) (by have := fb_rng v87; have := fb_rng v75; have := fb_rng x2_269; omega) (by have := fb_rng v87; have := fb_rng v75; have := fb_rng x2_269; omega) (by have := fb_rng v87; have := fb_rng v75; have := fb_rng x2_269; omega) (Nat.lt_succ_self _) (lv_sub hl92 [3, 2, 4, 5, 1, 0] rfl)
  have J230 : ∀ (n : Nat) (x1_230 : Int32) (x2_230 : Int32) (x3_230 : Int32) (E_230 : Ec) (H_230 : Heap) (k_230 : List Loc) (l_230 : Array Slot), Now D TB cy (va_A (va_pl L E) sz) s L τ E_230 H_230 k_230 → Fr L τ (inW [(11, 0), (63, 0), (64, 0), (65, 0), (66, 0), (67, 0), (68, 0), (69, 0), (70, 0), (71, 0)]) E E_230 → (0 ≤ x1_230.toInt) → (x1_230.toInt ≤ 0) → (0 ≤ x2_230.toInt) → (x2_230.toInt ≤ 0) → (0 ≤ x3_230.toInt) → (x3_230.toInt ≤ 67) → (67 - x3_230.toInt).toNat < n → lv_has l_230 9 [(0, .ref a0), (1, .int x1_230), (2, .int x2_230), (3, .int x3_230)] → W p l e { frames := 1, cells := 0, slots := 0, locals := 25 } s m args below meth c H_230 k_230 0 0 QQ (F0 m 230 l_230 []) := by
    intro n
    induction n with
    | zero => intro x1_230 x2_230 x3_230 E_230 H_230 k_230 l_230 S_230 F_230 z93 z94 z95 z96 z97 z98 hm hl_230; exact absurd hm (Nat.not_lt_zero _)
    | succ n ih =>
      intro x1_230 x2_230 x3_230 E_230 H_230 k_230 l_230 S_230 F_230 z93 z94 z95 z96 z97 z98 hm hl_230
      have ih_230 := ih
      refine lv_iload_n hx hb dX10_make_230 rfl (lv_at hl_230 3 rfl) ?_
      refine lv_aload_n hx hb dX10_make_231 rfl (lv_at hl_230 0 rfl) ?_
      refine tr_geti Z.1 Z.2.2.2.1 S_230.1 S_230.2 ha0 ta0 rfl rfl (fun _ h => List.mem_cons_of_mem _ (List.mem_append_right _ h)) 8 (by decide) rfl (hts _ (List.mem_of_getElem? (i := 1) rfl)) dX10_make_232 (fun v99 ev99 lv99 uv99 => ?_)
      refine lv_icmp_gt (tgt := 267) hx hb dX10_make_235 (by decide) (fun c100 => ?_) (fun c100 => ?_)
      · skip
        have tc100 := nu_lt c100
        obtain ⟨v101, ev101, tv101⟩ : ∃ v : Int32, Int32.ofInt (0) = v ∧ v.toInt = 0 := ⟨_, rfl, by decide +kernel⟩
        refine lv_iconst hx hb dX10_make_267 ev101 ?_
        refine lv_istore_n (lv' := [(3, .int v101), (0, .ref a0), (1, .int x1_230), (2, .int x2_230)]) hx hb dX10_make_268 rfl hl_230 (by decide) rfl (fun l102 hl103 => ?_)
        exact J269 _ x1_230 x2_230 v101 E_230 H_230 k_230 l102 S_230 F_230 (by omega) (by omega) (Nat.lt_succ_self _) (lv_sub hl103 [1, 2, 3, 0] rfl)
      · skip
        have tc100 := nu_nlt c100
        refine lv_aload_n hx hb dX10_make_238 rfl (lv_at hl_230 0 rfl) ?_
        refine tr_getr Z.1 Z.2.2.2.1 S_230.1 S_230.2 ha0 ta0 rfl rfl (fun _ h => List.mem_cons_of_mem _ (List.mem_append_right _ h)) 10 (by decide) rfl (hts _ (List.mem_of_getElem? (i := 4) rfl)) dX10_make_239 (fun q104 eq104 hq104 tq104 => ?_)
        have tq104 : τ q104 = (64, 0) := tq104
        refine lv_iload_n hx hb dX10_make_242 rfl (lv_at hl_230 3 rfl) ?_
        refine lv_aload_n hx hb dX10_make_243 rfl (lv_at hl_230 0 rfl) ?_
        refine lv_aload_n hx hb dX10_make_244 rfl (lv_at hl_230 0 rfl) ?_
        refine tr_getr Z.1 Z.2.2.2.1 S_230.1 S_230.2 ha0 ta0 rfl rfl (fun _ h => List.mem_cons_of_mem _ (List.mem_append_right _ h)) 0 (by decide) rfl (hts _ (List.mem_of_getElem? (i := 2) rfl)) dX10_make_245 (fun q105 eq105 hq105 tq105 => ?_)
        have tq105 : τ q105 = (60, 0) := tq105
        have uq105 : qn = q105 := S_230.2.2.2.2 _ hqn _ hq105 (tqn.trans tq105.symm) (by rw [tqn]; rfl)
        subst uq105
        obtain ⟨v106, ev106, tv106⟩ : ∃ v : Int32, Int32.ofInt (0) = v ∧ v.toInt = 0 := ⟨_, rfl, by decide +kernel⟩
        refine lv_iconst hx hb dX10_make_248 ev106 ?_
        refine tr_ialdx Z.1 Z.2.2.2.1 S_230.1 S_230.2 hqn tqn rfl (by omega) (by omega) dX10_make_249 (fun v107 ev107 lv107 uv107 => ?_)
        have bv107 : nowB v106.toNatClampNeg = (-2147483648, 2147483647) := nb_o (by show v106.toInt.toNat < 4 ∨ (8 ≤ v106.toInt.toNat ∧ v106.toInt.toNat ≤ 18) ∨ (20 ≤ v106.toInt.toNat ∧ v106.toInt.toNat ≤ 43); omega)
        rw [bv107] at lv107 uv107
        have lv107 : -2147483648 ≤ v107.toInt := lv107
        have uv107 : v107.toInt ≤ 2147483647 := uv107
        have av107 : ai E_230 qn 0 = v107 := ai_at ev107 (by omega)
        refine lv_aload_n hx hb dX10_make_250 rfl (lv_at hl_230 0 rfl) ?_
        refine tr_geti Z.1 Z.2.2.2.1 S_230.1 S_230.2 ha0 ta0 rfl rfl (fun _ h => List.mem_cons_of_mem _ (List.mem_append_right _ h)) 8 (by decide) rfl (hts _ (List.mem_of_getElem? (i := 1) rfl)) dX10_make_251 (fun v108 ev108 lv108 uv108 => ?_)
        have wv108 : v108 = v99 := ev108.symm.trans ev99
        have xv108 : v108.toInt = v99.toInt := by rw [wv108]
        obtain ⟨v109, ev109, tv109⟩ : ∃ v : Int32, Int32.ofInt (1) = v ∧ v.toInt = 1 := ⟨_, rfl, by decide +kernel⟩
        refine lv_iconst hx hb dX10_make_254 ev109 ?_
        refine lv_iadd hx hb dX10_make_255 ?_
        refine lv_topi (fun v110 ev110 => ?_)
        have tv110 := nu_add ev110 (by omega) (by omega)
        refine lv_iload_n hx hb dX10_make_256 rfl (lv_at hl_230 3 rfl) ?_
        refine tc_vi Z.1 Z.2.2.2.1 Z.2.2.2.2.1 Z.2.2.2.2.2 S_230.1 S_230.2 ha0 ta0 rfl rfl (k_X10_parted l D cy S_230.2 ha0 ta0 v107 v110 (by omega) x3_230) (cwV 3 hts gX10_make_X10_parted rfl rfl rfl (by decide +kernel) ⟨Nat.le_of_ble_eq_true rfl, Nat.le_of_ble_eq_true rfl⟩) rfl hl_230.1 rfl (Nat.le_of_ble_eq_true rfl) dX10_make_257 ⟨Nat.zero_le _, Nat.zero_le _⟩ (fun v114 E111 H112 k113 W111 I111 G111 p111 => ?_)
        have q111 := p111
        have q111 := q111.symm
        subst q111
        have S111 : Now D TB cy (va_A (va_pl L E) sz) s L τ E_230 H112 k113 := ⟨W111, I111⟩
        refine tr_iast Z.1 Z.2.2.2.1 S111.1 S111.2 hq104 tq104 rfl (by omega) (by omega) (by have := fb_rng v114; omega) (by have := fb_rng v114; omega) dX10_make_260 (fun E115 H116 k117 W115 I115 P115 => ?_)
        have S115 : Now D TB cy (va_A (va_pl L E) sz) s L τ E115 H116 k117 := ⟨W115, I115⟩
        have F115 : Fr L τ (inW [(11, 0), (63, 0), (64, 0), (65, 0), (66, 0), (67, 0), (68, 0), (69, 0), (70, 0), (71, 0)]) E E115 := Fr.set F_230 P115 tq104 rfl
        obtain ⟨v118, ev118⟩ : ∃ y : Int32, x3_230 + Int32.ofInt (1) = y := ⟨_, rfl⟩
        have tv118 : v118.toInt = x3_230.toInt + (1) := by rw [← ev118]; exact (fb_addI (by rw [show (Int32.ofInt (1)).toInt = 1 from by decide +kernel]; omega) (by rw [show (Int32.ofInt (1)).toInt = 1 from by decide +kernel]; omega)).trans (by rw [show (Int32.ofInt (1)).toInt = 1 from by decide +kernel])
        refine lv_iinc (v := v118) (lv' := [(3, .int v118), (0, .ref a0), (1, .int x1_230), (2, .int x2_230)]) hx hb dX10_make_261 hl_230 (k := 3) rfl ev118 (by decide) rfl (fun l119 hl120 => ?_)
        refine lv_goto (tgt := 230) hx hb dX10_make_264 (by decide) ?_
        exact ih_230 x1_230 x2_230 v118 E115 H116 k117 l119 S115 F115 (by omega) (by omega) (by omega) (by omega) (by omega) (by omega) (by omega) (lv_sub hl120 [1, 2, 3, 0] rfl)
  have J7 : ∀ (n : Nat) (x1_7 : Int32) (E_7 : Ec) (H_7 : Heap) (k_7 : List Loc) (l_7 : Array Slot), Now D TB cy (va_A (va_pl L E) sz) s L τ E_7 H_7 k_7 → Fr L τ (inW [(11, 0), (63, 0), (64, 0), (65, 0), (66, 0), (67, 0), (68, 0), (69, 0), (70, 0), (71, 0)]) E E_7 → (0 ≤ x1_7.toInt) → (x1_7.toInt ≤ 3) → (0 ≤ (fi E_7 a0 8).toInt ∧ (fi E_7 a0 8).toInt ≤ 66 ∧ (fi E_7 a0 8).toInt ≤ 23 * x1_7.toInt) → (3 - x1_7.toInt).toNat < n → lv_has l_7 9 [(0, .ref a0), (1, .int x1_7)] → W p l e { frames := 1, cells := 0, slots := 0, locals := 25 } s m args below meth c H_7 k_7 0 0 QQ (F0 m 7 l_7 []) := by
    intro n
    induction n with
    | zero => intro x1_7 E_7 H_7 k_7 l_7 S_7 F_7 z121 z122 z123 hm hl_7; exact absurd hm (Nat.not_lt_zero _)
    | succ n ih =>
      intro x1_7 E_7 H_7 k_7 l_7 S_7 F_7 z121 z122 z123 hm hl_7
      have ih_7 := ih
      have J218 : ∀  (E_218 : Ec) (H_218 : Heap) (k_218 : List Loc) (l_218 : Array Slot), Now D TB cy (va_A (va_pl L E) sz) s L τ E_218 H_218 k_218 → Fr L τ (inW [(11, 0), (63, 0), (64, 0), (65, 0), (66, 0), (67, 0), (68, 0), (69, 0), (70, 0), (71, 0)]) E E_218 → (0 ≤ x1_7.toInt) → (x1_7.toInt ≤ 2) → (0 ≤ (fi E_218 a0 8).toInt ∧ (fi E_218 a0 8).toInt ≤ 66 ∧ (fi E_218 a0 8).toInt ≤ 23 * x1_7.toInt + 23) → lv_has l_218 9 [(0, .ref a0), (1, .int x1_7)] → W p l e { frames := 1, cells := 0, slots := 0, locals := 25 } s m args below meth c H_218 k_218 0 0 QQ (F0 m 218 l_218 []) := by
        intro  E_218 H_218 k_218 l_218 S_218 F_218 z124 z125 z126 hl_218
        obtain ⟨v127, ev127⟩ : ∃ y : Int32, x1_7 + Int32.ofInt (1) = y := ⟨_, rfl⟩
        have tv127 : v127.toInt = x1_7.toInt + (1) := by rw [← ev127]; exact (fb_addI (by rw [show (Int32.ofInt (1)).toInt = 1 from by decide +kernel]; omega) (by rw [show (Int32.ofInt (1)).toInt = 1 from by decide +kernel]; omega)).trans (by rw [show (Int32.ofInt (1)).toInt = 1 from by decide +kernel])
        refine lv_iinc (v := v127) (lv' := [(1, .int v127), (0, .ref a0)]) hx hb dX10_make_218 hl_218 (k := 1) rfl ev127 (by decide) rfl (fun l128 hl129 => ?_)
        refine lv_goto (tgt := 7) hx hb dX10_make_221 (by decide) ?_
        exact ih_7 v127 E_218 H_218 k_218 l128 S_218 F_218 (by omega) (by omega) (by omega) (by omega) (lv_sub hl129 [1, 0] rfl)
      have J164 : ∀ (n : Nat) (x3_164 : Int32) (E_164 : Ec) (H_164 : Heap) (k_164 : List Loc) (l_164 : Array Slot), Now D TB cy (va_A (va_pl L E) sz) s L τ E_164 H_164 k_164 → Fr L τ (inW [(11, 0), (63, 0), (64, 0), (65, 0), (66, 0), (67, 0), (68, 0), (69, 0), (70, 0), (71, 0)]) E E_164 → (0 ≤ x1_7.toInt) → (x1_7.toInt ≤ 1) → (0 ≤ x3_164.toInt) → (x3_164.toInt ≤ 3) → (0 ≤ (fi E_164 a0 8).toInt ∧ (fi E_164 a0 8).toInt ≤ 66 ∧ (fi E_164 a0 8).toInt ≤ 23 * x1_7.toInt + 20 + x3_164.toInt) → (3 - x3_164.toInt).toNat < n → lv_has l_164 9 [(0, .ref a0), (1, .int x1_7), (3, .int x3_164)] → W p l e { frames := 1, cells := 0, slots := 0, locals := 25 } s m args below meth c H_164 k_164 0 0 QQ (F0 m 164 l_164 []) := by
        intro n
        induction n with
        | zero => intro x3_164 E_164 H_164 k_164 l_164 S_164 F_164 z130 z131 z132 z133 z134 hm hl_164; exact absurd hm (Nat.not_lt_zero _)
        | succ n ih =>
          intro x3_164 E_164 H_164 k_164 l_164 S_164 F_164 z130 z131 z132 z133 z134 hm hl_164
          have ih_164 := ih
          refine lv_iload_n hx hb dX10_make_164 rfl (lv_at hl_164 2 rfl) ?_
          obtain ⟨v135, ev135, tv135⟩ : ∃ v : Int32, Int32.ofInt (3) = v ∧ v.toInt = 3 := ⟨_, rfl, by decide +kernel⟩
          refine lv_iconst hx hb dX10_make_165 ev135 ?_
          refine lv_icmp_ge (tgt := 218) hx hb dX10_make_166 (by decide) (fun c136 => ?_) (fun c136 => ?_)
          · skip
            have tc136 := nu_le c136
            exact J218 E_164 H_164 k_164 l_164 S_164 F_164 (by omega) (by omega) (by omega) (lv_sub hl_164 [0, 1] rfl)
          · skip
            have tc136 := nu_nle c136
            refine lv_aload_n hx hb dX10_make_169 rfl (lv_at hl_164 0 rfl) ?_
            obtain ⟨v137, ev137, tv137⟩ : ∃ v : Int32, Int32.ofInt (3) = v ∧ v.toInt = 3 := ⟨_, rfl, by decide +kernel⟩
            refine lv_iconst hx hb dX10_make_170 ev137 ?_
            refine lv_aload_n hx hb dX10_make_171 rfl (lv_at hl_164 0 rfl) ?_
            refine lv_aload_n hx hb dX10_make_172 rfl (lv_at hl_164 0 rfl) ?_
            refine tr_getr Z.1 Z.2.2.2.1 S_164.1 S_164.2 ha0 ta0 rfl rfl (fun _ h => List.mem_cons_of_mem _ (List.mem_append_right _ h)) 0 (by decide) rfl (hts _ (List.mem_of_getElem? (i := 2) rfl)) dX10_make_173 (fun q138 eq138 hq138 tq138 => ?_)
            have tq138 : τ q138 = (60, 0) := tq138
            have uq138 : qn = q138 := S_164.2.2.2.2 _ hqn _ hq138 (tqn.trans tq138.symm) (by rw [tqn]; rfl)
            subst uq138
            obtain ⟨v139, ev139, tv139⟩ : ∃ v : Int32, Int32.ofInt (2) = v ∧ v.toInt = 2 := ⟨_, rfl, by decide +kernel⟩
            refine lv_iconst hx hb dX10_make_176 ev139 ?_
            refine tr_ialdx Z.1 Z.2.2.2.1 S_164.1 S_164.2 hqn tqn rfl (by omega) (by omega) dX10_make_177 (fun v140 ev140 lv140 uv140 => ?_)
            have bv140 : nowB v139.toNatClampNeg = (-2147483648, 2147483647) := nb_o (by show v139.toInt.toNat < 4 ∨ (8 ≤ v139.toInt.toNat ∧ v139.toInt.toNat ≤ 18) ∨ (20 ≤ v139.toInt.toNat ∧ v139.toInt.toNat ≤ 43); omega)
            rw [bv140] at lv140 uv140
            have lv140 : -2147483648 ≤ v140.toInt := lv140
            have uv140 : v140.toInt ≤ 2147483647 := uv140
            have av140 : ai E_164 qn 2 = v140 := ai_at ev140 (by omega)
            obtain ⟨v141, ev141, tv141⟩ : ∃ v : Int32, (Int8.ofInt (11)).toInt32 = v ∧ v.toInt = 11 := ⟨_, rfl, by decide +kernel⟩
            refine lv_bipush hx hb dX10_make_178 ev141 ?_
            refine lv_imul hx hb dX10_make_180 ?_
            refine lv_topi (fun v142 ev142 => ?_)
            obtain ⟨v143, ev143, tv143⟩ : ∃ v : Int32, (Int8.ofInt (7)).toInt32 = v ∧ v.toInt = 7 := ⟨_, rfl, by decide +kernel⟩
            refine lv_bipush hx hb dX10_make_181 ev143 ?_
            refine lv_idiv hx hb dX10_make_183 (fun q => by have := nu_eq0 q; omega) ?_
            refine lv_topi (fun v144 ev144 => ?_)
            obtain ⟨v145, ev145, tv145⟩ : ∃ v : Int32, Int32.ofInt (3) = v ∧ v.toInt = 3 := ⟨_, rfl, by decide +kernel⟩
            refine lv_iconst hx hb dX10_make_184 ev145 ?_
            refine lv_iload_n hx hb dX10_make_185 rfl (lv_at hl_164 2 rfl) ?_
            refine tc_vi Z.1 Z.2.2.2.1 Z.2.2.2.2.1 Z.2.2.2.2.2 S_164.1 S_164.2 ha0 ta0 rfl rfl (k_X10_parted l D cy S_164.2 ha0 ta0 v144 v145 (by omega) x3_164) (cwV 3 hts gX10_make_X10_parted rfl rfl rfl (by decide +kernel) ⟨Nat.le_of_ble_eq_true rfl, Nat.le_of_ble_eq_true rfl⟩) rfl hl_164.1 rfl (Nat.le_of_ble_eq_true rfl) dX10_make_186 ⟨Nat.zero_le _, Nat.zero_le _⟩ (fun v149 E146 H147 k148 W146 I146 G146 p146 => ?_)
            have q146 := p146
            have q146 := q146.symm
            subst q146
            have S146 : Now D TB cy (va_A (va_pl L E) sz) s L τ E_164 H147 k148 := ⟨W146, I146⟩
            refine lv_aload_n hx hb dX10_make_189 rfl (lv_at hl_164 0 rfl) ?_
            refine lv_aload_n hx hb dX10_make_190 rfl (lv_at hl_164 0 rfl) ?_
            refine tr_getr Z.1 Z.2.2.2.1 S146.1 S146.2 ha0 ta0 rfl rfl (fun _ h => List.mem_cons_of_mem _ (List.mem_append_right _ h)) 0 (by decide) rfl (hts _ (List.mem_of_getElem? (i := 2) rfl)) dX10_make_191 (fun q150 eq150 hq150 tq150 => ?_)
            have tq150 : τ q150 = (60, 0) := tq150
            have uq150 : qn = q150 := S146.2.2.2.2 _ hqn _ hq150 (tqn.trans tq150.symm) (by rw [tqn]; rfl)
            subst uq150
            obtain ⟨v151, ev151, tv151⟩ : ∃ v : Int32, Int32.ofInt (3) = v ∧ v.toInt = 3 := ⟨_, rfl, by decide +kernel⟩
            refine lv_iconst hx hb dX10_make_194 ev151 ?_
            refine tr_ialdx Z.1 Z.2.2.2.1 S146.1 S146.2 hqn tqn rfl (by omega) (by omega) dX10_make_195 (fun v152 ev152 lv152 uv152 => ?_)
            have bv152 : nowB v151.toNatClampNeg = (-2147483648, 2147483647) := nb_o (by show v151.toInt.toNat < 4 ∨ (8 ≤ v151.toInt.toNat ∧ v151.toInt.toNat ≤ 18) ∨ (20 ≤ v151.toInt.toNat ∧ v151.toInt.toNat ≤ 43); omega)
            rw [bv152] at lv152 uv152
            have lv152 : -2147483648 ≤ v152.toInt := lv152
            have uv152 : v152.toInt ≤ 2147483647 := uv152
            have av152 : ai E_164 qn 3 = v152 := ai_at ev152 (by omega)
            obtain ⟨v153, ev153, tv153⟩ : ∃ v : Int32, (Int8.ofInt (11)).toInt32 = v ∧ v.toInt = 11 := ⟨_, rfl, by decide +kernel⟩
            refine lv_bipush hx hb dX10_make_196 ev153 ?_
            refine lv_imul hx hb dX10_make_198 ?_
            refine lv_topi (fun v154 ev154 => ?_)
            obtain ⟨v155, ev155, tv155⟩ : ∃ v : Int32, (Int8.ofInt (7)).toInt32 = v ∧ v.toInt = 7 := ⟨_, rfl, by decide +kernel⟩
            refine lv_bipush hx hb dX10_make_199 ev155 ?_
            refine lv_idiv hx hb dX10_make_201 (fun q => by have := nu_eq0 q; omega) ?_
            refine lv_topi (fun v156 ev156 => ?_)
            obtain ⟨v157, ev157, tv157⟩ : ∃ v : Int32, Int32.ofInt (3) = v ∧ v.toInt = 3 := ⟨_, rfl, by decide +kernel⟩
            refine lv_iconst hx hb dX10_make_202 ev157 ?_
            refine lv_iload_n hx hb dX10_make_203 rfl (lv_at hl_164 2 rfl) ?_
            refine tc_vi Z.1 Z.2.2.2.1 Z.2.2.2.2.1 Z.2.2.2.2.2 S146.1 S146.2 ha0 ta0 rfl rfl (k_X10_parted l D cy S146.2 ha0 ta0 v156 v157 (by omega) x3_164) (cwV 3 hts gX10_make_X10_parted rfl rfl rfl (by decide +kernel) ⟨Nat.le_of_ble_eq_true rfl, Nat.le_of_ble_eq_true rfl⟩) rfl hl_164.1 rfl (Nat.le_of_ble_eq_true rfl) dX10_make_204 ⟨Nat.zero_le _, Nat.zero_le _⟩ (fun v161 E158 H159 k160 W158 I158 G158 p158 => ?_)
            have q158 := p158
            have q158 := q158.symm
            subst q158
            have S158 : Now D TB cy (va_A (va_pl L E) sz) s L τ E_164 H159 k160 := ⟨W158, I158⟩
            obtain ⟨v162, ev162, tv162⟩ : ∃ v : Int32, Int32.ofInt (-1) = v ∧ v.toInt = -1 := ⟨_, rfl, by decide +kernel⟩
            refine lv_iconst hx hb dX10_make_207 ev162 ?_
            refine lv_iload_n hx hb dX10_make_208 rfl (lv_at hl_164 1 rfl) ?_
            refine tc_vv Z.1 Z.2.2.2.1 Z.2.2.2.2.1 Z.2.2.2.2.2 S158.1 S158.2 ha0 ta0 rfl rfl (k_X10_puts l D cy S158.2 ha0 ta0 v137 (by omega) (by omega) v149 v161 v162 x1_7 (by omega)) (cwV 5 hts gX10_make_X10_puts rfl rfl rfl (by decide +kernel) ⟨Nat.le_of_ble_eq_true rfl, Nat.le_of_ble_eq_true rfl⟩) rfl hl_164.1 rfl (Nat.le_of_ble_eq_true rfl) dX10_make_209 ⟨Nat.zero_le _, Nat.zero_le _⟩ (fun E163 H164 k165 W163 I163 G163 p163 => ?_)
            have p163_0 := p163
            have S163 : Now D TB cy (va_A (va_pl L E) sz) s L τ E163 H164 k165 := ⟨W163, I163⟩
            have F163 : Fr L τ (inW [(11, 0), (63, 0), (64, 0), (65, 0), (66, 0), (67, 0), (68, 0), (69, 0), (70, 0), (71, 0)]) E E163 := F_164.trans (G163.mono (inW_mono (by decide)))
            obtain ⟨v167, ev167⟩ : ∃ y : Int32, x3_164 + Int32.ofInt (1) = y := ⟨_, rfl⟩
            have tv167 : v167.toInt = x3_164.toInt + (1) := by rw [← ev167]; exact (fb_addI (by rw [show (Int32.ofInt (1)).toInt = 1 from by decide +kernel]; omega) (by rw [show (Int32.ofInt (1)).toInt = 1 from by decide +kernel]; omega)).trans (by rw [show (Int32.ofInt (1)).toInt = 1 from by decide +kernel])
            refine lv_iinc (v := v167) (lv' := [(3, .int v167), (0, .ref a0), (1, .int x1_7)]) hx hb dX10_make_212 hl_164 (k := 2) rfl ev167 (by decide) rfl (fun l168 hl169 => ?_)
            refine lv_goto (tgt := 164) hx hb dX10_make_215 (by decide) ?_
            exact ih_164 v167 E163 H164 k165 l168 S163 F163 (by omega) (by omega) (by omega) (by omega) (by omega) (by omega) (lv_sub hl169 [1, 2, 0] rfl)
      have J26 : ∀ (n : Nat) (x2_26 : Int32) (x3_26 : Int32) (E_26 : Ec) (H_26 : Heap) (k_26 : List Loc) (l_26 : Array Slot), Now D TB cy (va_A (va_pl L E) sz) s L τ E_26 H_26 k_26 → Fr L τ (inW [(11, 0), (63, 0), (64, 0), (65, 0), (66, 0), (67, 0), (68, 0), (69, 0), (70, 0), (71, 0)]) E E_26 → (0 ≤ x1_7.toInt) → (x1_7.toInt ≤ 2) → (0 ≤ x2_26.toInt) → (x2_26.toInt ≤ 20) → (0 ≤ x3_26.toInt) → (x3_26.toInt ≤ 20) → (0 ≤ (ai E_26 qn 4).toInt ∧ (ai E_26 qn 4).toInt ≤ 3 ∧ x1_7.toInt < (ai E_26 qn 4).toInt) → (0 ≤ (fi E_26 a0 8).toInt ∧ (fi E_26 a0 8).toInt ≤ 66 ∧ (fi E_26 a0 8).toInt ≤ 23 * x1_7.toInt + x3_26.toInt) → (20 - x3_26.toInt).toNat < n → lv_has l_26 9 [(0, .ref a0), (1, .int x1_7), (2, .int x2_26), (3, .int x3_26)] → W p l e { frames := 1, cells := 0, slots := 0, locals := 25 } s m args below meth c H_26 k_26 0 0 QQ (F0 m 26 l_26 []) := by
        intro n
        induction n with
        | zero => intro x2_26 x3_26 E_26 H_26 k_26 l_26 S_26 F_26 z170 z171 z172 z173 z174 z175 z176 z177 hm hl_26; exact absurd hm (Nat.not_lt_zero _)
        | succ n ih =>
          intro x2_26 x3_26 E_26 H_26 k_26 l_26 S_26 F_26 z170 z171 z172 z173 z174 z175 z176 z177 hm hl_26
          have ih_26 := ih
          have J100 : ∀ (x4_100 : Int32) (y1_100 : Int32) (y2_100 : Int32) (E_100 : Ec) (H_100 : Heap) (k_100 : List Loc) (l_100 : Array Slot), Now D TB cy (va_A (va_pl L E) sz) s L τ E_100 H_100 k_100 → Fr L τ (inW [(11, 0), (63, 0), (64, 0), (65, 0), (66, 0), (67, 0), (68, 0), (69, 0), (70, 0), (71, 0)]) E E_100 → (0 ≤ x1_7.toInt) → (x1_7.toInt ≤ 2) → (1 ≤ x2_26.toInt) → (x2_26.toInt ≤ 20) → (0 ≤ x3_26.toInt) → (x3_26.toInt ≤ 19) → (0 ≤ y1_100.toInt) → (y1_100.toInt ≤ 1) → (0 ≤ (ai E_100 qn 4).toInt ∧ (ai E_100 qn 4).toInt ≤ 3 ∧ x1_7.toInt < (ai E_100 qn 4).toInt) → (0 ≤ (fi E_100 a0 8).toInt ∧ (fi E_100 a0 8).toInt ≤ 66 ∧ (fi E_100 a0 8).toInt ≤ 23 * x1_7.toInt + x3_26.toInt) → lv_has l_100 9 [(0, .ref a0), (1, .int x1_7), (2, .int x2_26), (3, .int x3_26), (4, .int x4_100)] → W p l e { frames := 1, cells := 0, slots := 0, locals := 25 } s m args below meth c H_100 k_100 0 0 QQ (F0 m 100 l_100 [.int y2_100, .int y1_100, .ref a0]) := by
            intro x4_100 y1_100 y2_100 E_100 H_100 k_100 l_100 S_100 F_100 z178 z179 z180 z181 z182 z183 z184 z185 z186 z187 hl_100
            refine lv_iload hx hb dX10_make_100 (lv_at hl_100 4 rfl) ?_
            refine lv_iload_n hx hb dX10_make_102 rfl (lv_at hl_100 1 rfl) ?_
            obtain ⟨v188, ev188, tv188⟩ : ∃ v : Int32, Int32.ofInt (-1) = v ∧ v.toInt = -1 := ⟨_, rfl, by decide +kernel⟩
            refine lv_iconst hx hb dX10_make_103 ev188 ?_
            refine tc_vv Z.1 Z.2.2.2.1 Z.2.2.2.2.1 Z.2.2.2.2.2 S_100.1 S_100.2 ha0 ta0 rfl rfl (k_X10_puts l D cy S_100.2 ha0 ta0 y1_100 (by omega) (by omega) y2_100 x4_100 x1_7 v188 (by omega)) (cwV 5 hts gX10_make_X10_puts rfl rfl rfl (by decide +kernel) ⟨Nat.le_of_ble_eq_true rfl, Nat.le_of_ble_eq_true rfl⟩) rfl hl_100.1 rfl (Nat.le_of_ble_eq_true rfl) dX10_make_104 ⟨Nat.zero_le _, Nat.zero_le _⟩ (fun E189 H190 k191 W189 I189 G189 p189 => ?_)
            have p189_0 := p189
            have S189 : Now D TB cy (va_A (va_pl L E) sz) s L τ E189 H190 k191 := ⟨W189, I189⟩
            have F189 : Fr L τ (inW [(11, 0), (63, 0), (64, 0), (65, 0), (66, 0), (67, 0), (68, 0), (69, 0), (70, 0), (71, 0)]) E E189 := F_100.trans (G189.mono (inW_mono (by decide)))
            obtain ⟨v193, ev193⟩ : ∃ y : Int32, x3_26 + Int32.ofInt (1) = y := ⟨_, rfl⟩
            have tv193 : v193.toInt = x3_26.toInt + (1) := by rw [← ev193]; exact (fb_addI (by rw [show (Int32.ofInt (1)).toInt = 1 from by decide +kernel]; omega) (by rw [show (Int32.ofInt (1)).toInt = 1 from by decide +kernel]; omega)).trans (by rw [show (Int32.ofInt (1)).toInt = 1 from by decide +kernel])
            refine lv_iinc (v := v193) (lv' := [(3, .int v193), (0, .ref a0), (1, .int x1_7), (2, .int x2_26), (4, .int x4_100)]) hx hb dX10_make_107 hl_100 (k := 3) rfl ev193 (by decide) rfl (fun l194 hl195 => ?_)
            refine lv_goto (tgt := 26) hx hb dX10_make_110 (by decide) ?_
            exact ih_26 x2_26 v193 E189 H190 k191 l194 S189 F189 (by have := fb_rng x4_100; omega) (by have := fb_rng x4_100; omega) (by have := fb_rng x4_100; omega) (by have := fb_rng x4_100; omega) (by have := fb_rng x4_100; omega) (by have := fb_rng x4_100; omega) (by rw [((ai_fr G189 hqn (by rw [tqn]; rfl)).trans rfl)]; have := fb_rng x4_100; omega) (by have := fb_rng x4_100; omega) (by omega) (lv_sub hl195 [1, 2, 3, 0] rfl)
          have J85 : ∀ (x4_85 : Int32) (x5_85 : Int32) (y1_85 : Int32) (E_85 : Ec) (H_85 : Heap) (k_85 : List Loc) (l_85 : Array Slot), Now D TB cy (va_A (va_pl L E) sz) s L τ E_85 H_85 k_85 → Fr L τ (inW [(11, 0), (63, 0), (64, 0), (65, 0), (66, 0), (67, 0), (68, 0), (69, 0), (70, 0), (71, 0)]) E E_85 → (0 ≤ x1_7.toInt) → (x1_7.toInt ≤ 2) → (1 ≤ x2_26.toInt) → (x2_26.toInt ≤ 20) → (0 ≤ x3_26.toInt) → (x3_26.toInt ≤ 19) → (0 ≤ x5_85.toInt) → (x5_85.toInt ≤ 1) → (0 ≤ y1_85.toInt) → (y1_85.toInt ≤ 1) → (0 ≤ (ai E_85 qn 4).toInt ∧ (ai E_85 qn 4).toInt ≤ 3 ∧ x1_7.toInt < (ai E_85 qn 4).toInt) → (0 ≤ (fi E_85 a0 8).toInt ∧ (fi E_85 a0 8).toInt ≤ 66 ∧ (fi E_85 a0 8).toInt ≤ 23 * x1_7.toInt + x3_26.toInt) → lv_has l_85 9 [(0, .ref a0), (1, .int x1_7), (2, .int x2_26), (3, .int x3_26), (4, .int x4_85), (5, .int x5_85)] → W p l e { frames := 1, cells := 0, slots := 0, locals := 25 } s m args below meth c H_85 k_85 0 0 QQ (F0 m 85 l_85 [.int y1_85, .ref a0]) := by
            intro x4_85 x5_85 y1_85 E_85 H_85 k_85 l_85 S_85 F_85 z196 z197 z198 z199 z200 z201 z202 z203 z204 z205 z206 z207 hl_85
            refine lv_iload hx hb dX10_make_85 (lv_at hl_85 5 rfl) ?_
            refine lv_if_eq (tgt := 98) hx hb dX10_make_87 (by decide) (fun c208 => ?_) (fun c208 => ?_)
            · skip
              have tc208 := nu_eq c208
              have uc208 : (0 : Int32).toInt = 0 := rfl
              refine lv_iload hx hb dX10_make_98 (lv_at hl_85 4 rfl) ?_
              exact J100 x4_85 y1_85 x4_85 E_85 H_85 k_85 l_85 S_85 F_85 (by have := fb_rng x4_85; omega) (by have := fb_rng x4_85; omega) (by have := fb_rng x4_85; omega) (by have := fb_rng x4_85; omega) (by have := fb_rng x4_85; omega) (by have := fb_rng x4_85; omega) (by have := fb_rng x4_85; omega) (by have := fb_rng x4_85; omega) (by have := fb_rng x4_85; omega) (by have := fb_rng x4_85; omega) (lv_sub hl_85 [0, 1, 2, 3, 4] rfl)
            · skip
              have tc208 := nu_ne c208
              have uc208 : (0 : Int32).toInt = 0 := rfl
              refine lv_iload hx hb dX10_make_90 (lv_at hl_85 4 rfl) ?_
              obtain ⟨v209, ev209, tv209⟩ : ∃ v : Int32, (Int8.ofInt (30)).toInt32 = v ∧ v.toInt = 30 := ⟨_, rfl, by decide +kernel⟩
              refine lv_bipush hx hb dX10_make_92 ev209 ?_
              refine lv_iadd hx hb dX10_make_94 ?_
              refine lv_topi (fun v210 ev210 => ?_)
              refine lv_goto (tgt := 100) hx hb dX10_make_95 (by decide) ?_
              exact J100 x4_85 y1_85 v210 E_85 H_85 k_85 l_85 S_85 F_85 (by have := fb_rng x4_85; omega) (by have := fb_rng x4_85; omega) (by have := fb_rng x4_85; omega) (by have := fb_rng x4_85; omega) (by have := fb_rng x4_85; omega) (by have := fb_rng x4_85; omega) (by have := fb_rng x4_85; omega) (by have := fb_rng x4_85; omega) (by have := fb_rng x4_85; omega) (by have := fb_rng x4_85; omega) (lv_sub hl_85 [0, 1, 2, 3, 4] rfl)
          have J72 : ∀ (x4_72 : Int32) (y0_72 : Int32) (E_72 : Ec) (H_72 : Heap) (k_72 : List Loc) (l_72 : Array Slot), Now D TB cy (va_A (va_pl L E) sz) s L τ E_72 H_72 k_72 → Fr L τ (inW [(11, 0), (63, 0), (64, 0), (65, 0), (66, 0), (67, 0), (68, 0), (69, 0), (70, 0), (71, 0)]) E E_72 → (0 ≤ x1_7.toInt) → (x1_7.toInt ≤ 2) → (1 ≤ x2_26.toInt) → (x2_26.toInt ≤ 20) → (0 ≤ x3_26.toInt) → (x3_26.toInt ≤ 19) → (0 ≤ y0_72.toInt) → (y0_72.toInt ≤ 1) → (0 ≤ (ai E_72 qn 4).toInt ∧ (ai E_72 qn 4).toInt ≤ 3 ∧ x1_7.toInt < (ai E_72 qn 4).toInt) → (0 ≤ (fi E_72 a0 8).toInt ∧ (fi E_72 a0 8).toInt ≤ 66 ∧ (fi E_72 a0 8).toInt ≤ 23 * x1_7.toInt + x3_26.toInt) → lv_has l_72 9 [(0, .ref a0), (1, .int x1_7), (2, .int x2_26), (3, .int x3_26), (4, .int x4_72)] → W p l e { frames := 1, cells := 0, slots := 0, locals := 25 } s m args below meth c H_72 k_72 0 0 QQ (F0 m 72 l_72 [.int y0_72]) := by
            intro x4_72 y0_72 E_72 H_72 k_72 l_72 S_72 F_72 z211 z212 z213 z214 z215 z216 z217 z218 z219 z220 hl_72
            refine lv_istore (lv' := [(5, .int y0_72), (0, .ref a0), (1, .int x1_7), (2, .int x2_26), (3, .int x3_26), (4, .int x4_72)]) hx hb dX10_make_72 hl_72 (by decide) rfl (fun l221 hl222 => ?_)
            refine lv_aload_n hx hb dX10_make_74 rfl (lv_at hl222 1 rfl) ?_
            refine lv_iload hx hb dX10_make_75 (lv_at hl222 0 rfl) ?_
            refine lv_if_eq (tgt := 84) hx hb dX10_make_77 (by decide) (fun c223 => ?_) (fun c223 => ?_)
            · skip
              have tc223 := nu_eq c223
              have uc223 : (0 : Int32).toInt = 0 := rfl
              obtain ⟨v224, ev224, tv224⟩ : ∃ v : Int32, Int32.ofInt (0) = v ∧ v.toInt = 0 := ⟨_, rfl, by decide +kernel⟩
              refine lv_iconst hx hb dX10_make_84 ev224 ?_
              exact J85 x4_72 y0_72 v224 E_72 H_72 k_72 l221 S_72 F_72 (by have := fb_rng x4_72; omega) (by have := fb_rng x4_72; omega) (by have := fb_rng x4_72; omega) (by have := fb_rng x4_72; omega) (by have := fb_rng x4_72; omega) (by have := fb_rng x4_72; omega) (by have := fb_rng x4_72; omega) (by have := fb_rng x4_72; omega) (by have := fb_rng x4_72; omega) (by have := fb_rng x4_72; omega) (by have := fb_rng x4_72; omega) (by have := fb_rng x4_72; omega) (lv_sub hl222 [1, 2, 3, 4, 5, 0] rfl)
            · skip
              have tc223 := nu_ne c223
              have uc223 : (0 : Int32).toInt = 0 := rfl
              obtain ⟨v225, ev225, tv225⟩ : ∃ v : Int32, Int32.ofInt (1) = v ∧ v.toInt = 1 := ⟨_, rfl, by decide +kernel⟩
              refine lv_iconst hx hb dX10_make_80 ev225 ?_
              refine lv_goto (tgt := 85) hx hb dX10_make_81 (by decide) ?_
              exact J85 x4_72 y0_72 v225 E_72 H_72 k_72 l221 S_72 F_72 (by have := fb_rng x4_72; omega) (by have := fb_rng x4_72; omega) (by have := fb_rng x4_72; omega) (by have := fb_rng x4_72; omega) (by have := fb_rng x4_72; omega) (by have := fb_rng x4_72; omega) (by have := fb_rng x4_72; omega) (by have := fb_rng x4_72; omega) (by have := fb_rng x4_72; omega) (by have := fb_rng x4_72; omega) (by have := fb_rng x4_72; omega) (by have := fb_rng x4_72; omega) (lv_sub hl222 [1, 2, 3, 4, 5, 0] rfl)
          have J71 : ∀ (x4_71 : Int32) (E_71 : Ec) (H_71 : Heap) (k_71 : List Loc) (l_71 : Array Slot), Now D TB cy (va_A (va_pl L E) sz) s L τ E_71 H_71 k_71 → Fr L τ (inW [(11, 0), (63, 0), (64, 0), (65, 0), (66, 0), (67, 0), (68, 0), (69, 0), (70, 0), (71, 0)]) E E_71 → (0 ≤ x1_7.toInt) → (x1_7.toInt ≤ 2) → (1 ≤ x2_26.toInt) → (x2_26.toInt ≤ 20) → (0 ≤ x3_26.toInt) → (x3_26.toInt ≤ 19) → (0 ≤ (ai E_71 qn 4).toInt ∧ (ai E_71 qn 4).toInt ≤ 3 ∧ x1_7.toInt < (ai E_71 qn 4).toInt) → (0 ≤ (fi E_71 a0 8).toInt ∧ (fi E_71 a0 8).toInt ≤ 66 ∧ (fi E_71 a0 8).toInt ≤ 23 * x1_7.toInt + x3_26.toInt) → lv_has l_71 9 [(0, .ref a0), (1, .int x1_7), (2, .int x2_26), (3, .int x3_26), (4, .int x4_71)] → W p l e { frames := 1, cells := 0, slots := 0, locals := 25 } s m args below meth c H_71 k_71 0 0 QQ (F0 m 71 l_71 []) := by
            intro x4_71 E_71 H_71 k_71 l_71 S_71 F_71 z226 z227 z228 z229 z230 z231 z232 z233 hl_71
            obtain ⟨v234, ev234, tv234⟩ : ∃ v : Int32, Int32.ofInt (0) = v ∧ v.toInt = 0 := ⟨_, rfl, by decide +kernel⟩
            refine lv_iconst hx hb dX10_make_71 ev234 ?_
            exact J72 x4_71 v234 E_71 H_71 k_71 l_71 S_71 F_71 (by have := fb_rng x4_71; omega) (by have := fb_rng x4_71; omega) (by have := fb_rng x4_71; omega) (by have := fb_rng x4_71; omega) (by have := fb_rng x4_71; omega) (by have := fb_rng x4_71; omega) (by have := fb_rng x4_71; omega) (by have := fb_rng x4_71; omega) (by have := fb_rng x4_71; omega) (by have := fb_rng x4_71; omega) (lv_sub hl_71 [0, 1, 2, 3, 4] rfl)
          refine lv_iload_n hx hb dX10_make_26 rfl (lv_at hl_26 3 rfl) ?_
          refine lv_iload_n hx hb dX10_make_27 rfl (lv_at hl_26 2 rfl) ?_
          refine lv_icmp_ge (tgt := 113) hx hb dX10_make_28 (by decide) (fun c235 => ?_) (fun c235 => ?_)
          · skip
            have tc235 := nu_le c235
            refine lv_iload_n hx hb dX10_make_113 rfl (lv_at hl_26 1 rfl) ?_
            refine lv_aload_n hx hb dX10_make_114 rfl (lv_at hl_26 0 rfl) ?_
            refine tr_getr Z.1 Z.2.2.2.1 S_26.1 S_26.2 ha0 ta0 rfl rfl (fun _ h => List.mem_cons_of_mem _ (List.mem_append_right _ h)) 0 (by decide) rfl (hts _ (List.mem_of_getElem? (i := 2) rfl)) dX10_make_115 (fun q236 eq236 hq236 tq236 => ?_)
            have tq236 : τ q236 = (60, 0) := tq236
            have uq236 : qn = q236 := S_26.2.2.2.2 _ hqn _ hq236 (tqn.trans tq236.symm) (by rw [tqn]; rfl)
            subst uq236
            obtain ⟨v237, ev237, tv237⟩ : ∃ v : Int32, Int32.ofInt (4) = v ∧ v.toInt = 4 := ⟨_, rfl, by decide +kernel⟩
            refine lv_iconst hx hb dX10_make_118 ev237 ?_
            refine tr_ialdx Z.1 Z.2.2.2.1 S_26.1 S_26.2 hqn tqn rfl (by omega) (by omega) dX10_make_119 (fun v238 ev238 lv238 uv238 => ?_)
            have bv238 : nowB v237.toNatClampNeg = (0, 3) := nb_4 (by show v237.toInt.toNat = 4; omega)
            rw [bv238] at lv238 uv238
            have lv238 : 0 ≤ v238.toInt := lv238
            have uv238 : v238.toInt ≤ 3 := uv238
            have av238 : ai E_26 qn 4 = v238 := ai_at ev238 (by omega)
            have wv238 : v238 = (ai E_26 qn 4) := av238.symm.trans rfl
            have xv238 : v238.toInt = (ai E_26 qn 4).toInt := by rw [wv238]
            obtain ⟨v239, ev239, tv239⟩ : ∃ v : Int32, Int32.ofInt (1) = v ∧ v.toInt = 1 := ⟨_, rfl, by decide +kernel⟩
            refine lv_iconst hx hb dX10_make_120 ev239 ?_
            refine lv_isub hx hb dX10_make_121 ?_
            refine lv_topi (fun v240 ev240 => ?_)
            have tv240 := nu_sub ev240 (by omega) (by omega)
            refine lv_icmp_ne (tgt := 128) hx hb dX10_make_122 (by decide) (fun c241 => ?_) (fun c241 => ?_)
            · skip
              have tc241 := nu_ne c241
              refine lv_aload_n hx hb dX10_make_128 rfl (lv_at hl_26 0 rfl) ?_
              refine tr_getr Z.1 Z.2.2.2.1 S_26.1 S_26.2 ha0 ta0 rfl rfl (fun _ h => List.mem_cons_of_mem _ (List.mem_append_right _ h)) 0 (by decide) rfl (hts _ (List.mem_of_getElem? (i := 2) rfl)) dX10_make_129 (fun q242 eq242 hq242 tq242 => ?_)
              have tq242 : τ q242 = (60, 0) := tq242
              have uq242 : qn = q242 := S_26.2.2.2.2 _ hqn _ hq242 (tqn.trans tq242.symm) (by rw [tqn]; rfl)
              subst uq242
              obtain ⟨v243, ev243, tv243⟩ : ∃ v : Int32, (Int8.ofInt (11)).toInt32 = v ∧ v.toInt = 11 := ⟨_, rfl, by decide +kernel⟩
              refine lv_bipush hx hb dX10_make_132 ev243 ?_
              refine lv_iload_n hx hb dX10_make_134 rfl (lv_at hl_26 1 rfl) ?_
              refine lv_iadd hx hb dX10_make_135 ?_
              refine lv_topi (fun v244 ev244 => ?_)
              have tv244 := nu_add ev244 (by omega) (by omega)
              refine tr_ialdx Z.1 Z.2.2.2.1 S_26.1 S_26.2 hqn tqn rfl (by omega) (by omega) dX10_make_136 (fun v245 ev245 lv245 uv245 => ?_)
              have bv245 : nowB v244.toNatClampNeg = (-2147483648, 2147483647) := nb_o (by show v244.toInt.toNat < 4 ∨ (8 ≤ v244.toInt.toNat ∧ v244.toInt.toNat ≤ 18) ∨ (20 ≤ v244.toInt.toNat ∧ v244.toInt.toNat ≤ 43); omega)
              rw [bv245] at lv245 uv245
              have lv245 : -2147483648 ≤ v245.toInt := lv245
              have uv245 : v245.toInt ≤ 2147483647 := uv245
              refine lv_if_ne (tgt := 162) hx hb dX10_make_137 (by decide) (fun c246 => ?_) (fun c246 => ?_)
              · skip
                have tc246 := nu_ne c246
                have uc246 : (0 : Int32).toInt = 0 := rfl
                obtain ⟨v247, ev247, tv247⟩ : ∃ v : Int32, Int32.ofInt (0) = v ∧ v.toInt = 0 := ⟨_, rfl, by decide +kernel⟩
                refine lv_iconst hx hb dX10_make_162 ev247 ?_
                refine lv_istore_n (lv' := [(3, .int v247), (0, .ref a0), (1, .int x1_7), (2, .int x2_26)]) hx hb dX10_make_163 rfl hl_26 (by decide) rfl (fun l248 hl249 => ?_)
                exact J164 _ v247 E_26 H_26 k_26 l248 S_26 F_26 (by omega) (by omega) (by omega) (by omega) (by omega) (Nat.lt_succ_self _) (lv_sub hl249 [1, 2, 0] rfl)
              · skip
                have tc246 := nu_eq c246
                have uc246 : (0 : Int32).toInt = 0 := rfl
                refine lv_aload_n hx hb dX10_make_140 rfl (lv_at hl_26 0 rfl) ?_
                obtain ⟨v250, ev250, tv250⟩ : ∃ v : Int32, Int32.ofInt (2) = v ∧ v.toInt = 2 := ⟨_, rfl, by decide +kernel⟩
                refine lv_iconst hx hb dX10_make_141 ev250 ?_
                refine lv_aload_n hx hb dX10_make_142 rfl (lv_at hl_26 0 rfl) ?_
                refine tr_getr Z.1 Z.2.2.2.1 S_26.1 S_26.2 ha0 ta0 rfl rfl (fun _ h => List.mem_cons_of_mem _ (List.mem_append_right _ h)) 0 (by decide) rfl (hts _ (List.mem_of_getElem? (i := 2) rfl)) dX10_make_143 (fun q251 eq251 hq251 tq251 => ?_)
                have tq251 : τ q251 = (60, 0) := tq251
                have uq251 : qn = q251 := S_26.2.2.2.2 _ hqn _ hq251 (tqn.trans tq251.symm) (by rw [tqn]; rfl)
                subst uq251
                obtain ⟨v252, ev252, tv252⟩ : ∃ v : Int32, Int32.ofInt (1) = v ∧ v.toInt = 1 := ⟨_, rfl, by decide +kernel⟩
                refine lv_iconst hx hb dX10_make_146 ev252 ?_
                refine tr_ialdx Z.1 Z.2.2.2.1 S_26.1 S_26.2 hqn tqn rfl (by omega) (by omega) dX10_make_147 (fun v253 ev253 lv253 uv253 => ?_)
                have bv253 : nowB v252.toNatClampNeg = (-2147483648, 2147483647) := nb_o (by show v252.toInt.toNat < 4 ∨ (8 ≤ v252.toInt.toNat ∧ v252.toInt.toNat ≤ 18) ∨ (20 ≤ v252.toInt.toNat ∧ v252.toInt.toNat ≤ 43); omega)
                rw [bv253] at lv253 uv253
                have lv253 : -2147483648 ≤ v253.toInt := lv253
                have uv253 : v253.toInt ≤ 2147483647 := uv253
                have av253 : ai E_26 qn 1 = v253 := ai_at ev253 (by omega)
                refine lv_aload_n hx hb dX10_make_148 rfl (lv_at hl_26 0 rfl) ?_
                refine tr_getr Z.1 Z.2.2.2.1 S_26.1 S_26.2 ha0 ta0 rfl rfl (fun _ h => List.mem_cons_of_mem _ (List.mem_append_right _ h)) 0 (by decide) rfl (hts _ (List.mem_of_getElem? (i := 2) rfl)) dX10_make_149 (fun q254 eq254 hq254 tq254 => ?_)
                have tq254 : τ q254 = (60, 0) := tq254
                have uq254 : qn = q254 := S_26.2.2.2.2 _ hqn _ hq254 (tqn.trans tq254.symm) (by rw [tqn]; rfl)
                subst uq254
                obtain ⟨v255, ev255, tv255⟩ : ∃ v : Int32, Int32.ofInt (1) = v ∧ v.toInt = 1 := ⟨_, rfl, by decide +kernel⟩
                refine lv_iconst hx hb dX10_make_152 ev255 ?_
                refine tr_ialdx Z.1 Z.2.2.2.1 S_26.1 S_26.2 hqn tqn rfl (by omega) (by omega) dX10_make_153 (fun v256 ev256 lv256 uv256 => ?_)
                have bv256 : nowB v255.toNatClampNeg = (-2147483648, 2147483647) := nb_o (by show v255.toInt.toNat < 4 ∨ (8 ≤ v255.toInt.toNat ∧ v255.toInt.toNat ≤ 18) ∨ (20 ≤ v255.toInt.toNat ∧ v255.toInt.toNat ≤ 43); omega)
                rw [bv256] at lv256 uv256
                have lv256 : -2147483648 ≤ v256.toInt := lv256
                have uv256 : v256.toInt ≤ 2147483647 := uv256
                have av256 : ai E_26 qn 1 = v256 := ai_at ev256 (by omega)
                have wv256 : v256 = v253 := av256.symm.trans av253
                have xv256 : v256.toInt = v253.toInt := by rw [wv256]
                obtain ⟨v257, ev257, tv257⟩ : ∃ v : Int32, Int32.ofInt (-1) = v ∧ v.toInt = -1 := ⟨_, rfl, by decide +kernel⟩
                refine lv_iconst hx hb dX10_make_154 ev257 ?_
                refine lv_iload_n hx hb dX10_make_155 rfl (lv_at hl_26 1 rfl) ?_
                refine tc_vv Z.1 Z.2.2.2.1 Z.2.2.2.2.1 Z.2.2.2.2.2 S_26.1 S_26.2 ha0 ta0 rfl rfl (k_X10_puts l D cy S_26.2 ha0 ta0 v250 (by omega) (by omega) v253 v256 v257 x1_7 (by omega)) (cwV 5 hts gX10_make_X10_puts rfl rfl rfl (by decide +kernel) ⟨Nat.le_of_ble_eq_true rfl, Nat.le_of_ble_eq_true rfl⟩) rfl hl_26.1 rfl (Nat.le_of_ble_eq_true rfl) dX10_make_156 ⟨Nat.zero_le _, Nat.zero_le _⟩ (fun E258 H259 k260 W258 I258 G258 p258 => ?_)
                have p258_0 := p258
                have S258 : Now D TB cy (va_A (va_pl L E) sz) s L τ E258 H259 k260 := ⟨W258, I258⟩
                have F258 : Fr L τ (inW [(11, 0), (63, 0), (64, 0), (65, 0), (66, 0), (67, 0), (68, 0), (69, 0), (70, 0), (71, 0)]) E E258 := F_26.trans (G258.mono (inW_mono (by decide)))
                refine lv_goto (tgt := 218) hx hb dX10_make_159 (by decide) ?_
                exact J218 E258 H259 k260 l_26 S258 F258 (by omega) (by omega) (by omega) (lv_sub hl_26 [0, 1] rfl)
            · skip
              have tc241 := nu_eq c241
              refine lv_goto (tgt := 218) hx hb dX10_make_125 (by decide) ?_
              exact J218 E_26 H_26 k_26 l_26 S_26 F_26 (by omega) (by omega) (by omega) (lv_sub hl_26 [0, 1] rfl)
          · skip
            have tc235 := nu_nle c235
            refine lv_aload_n hx hb dX10_make_31 rfl (lv_at hl_26 0 rfl) ?_
            refine lv_aload_n hx hb dX10_make_32 rfl (lv_at hl_26 0 rfl) ?_
            refine tr_getr Z.1 Z.2.2.2.1 S_26.1 S_26.2 ha0 ta0 rfl rfl (fun _ h => List.mem_cons_of_mem _ (List.mem_append_right _ h)) 0 (by decide) rfl (hts _ (List.mem_of_getElem? (i := 2) rfl)) dX10_make_33 (fun q262 eq262 hq262 tq262 => ?_)
            have tq262 : τ q262 = (60, 0) := tq262
            have uq262 : qn = q262 := S_26.2.2.2.2 _ hqn _ hq262 (tqn.trans tq262.symm) (by rw [tqn]; rfl)
            subst uq262
            obtain ⟨v263, ev263, tv263⟩ : ∃ v : Int32, (Int8.ofInt (8)).toInt32 = v ∧ v.toInt = 8 := ⟨_, rfl, by decide +kernel⟩
            refine lv_bipush hx hb dX10_make_36 ev263 ?_
            refine lv_iload_n hx hb dX10_make_38 rfl (lv_at hl_26 1 rfl) ?_
            refine lv_iadd hx hb dX10_make_39 ?_
            refine lv_topi (fun v264 ev264 => ?_)
            have tv264 := nu_add ev264 (by omega) (by omega)
            refine tr_ialdx Z.1 Z.2.2.2.1 S_26.1 S_26.2 hqn tqn rfl (by omega) (by omega) dX10_make_40 (fun v265 ev265 lv265 uv265 => ?_)
            have bv265 : nowB v264.toNatClampNeg = (-2147483648, 2147483647) := nb_o (by show v264.toInt.toNat < 4 ∨ (8 ≤ v264.toInt.toNat ∧ v264.toInt.toNat ≤ 18) ∨ (20 ≤ v264.toInt.toNat ∧ v264.toInt.toNat ≤ 43); omega)
            rw [bv265] at lv265 uv265
            have lv265 : -2147483648 ≤ v265.toInt := lv265
            have uv265 : v265.toInt ≤ 2147483647 := uv265
            refine lv_iload_n hx hb dX10_make_41 rfl (lv_at hl_26 2 rfl) ?_
            refine lv_iload_n hx hb dX10_make_42 rfl (lv_at hl_26 3 rfl) ?_
            refine tc_vi Z.1 Z.2.2.2.1 Z.2.2.2.2.1 Z.2.2.2.2.2 S_26.1 S_26.2 ha0 ta0 rfl rfl (k_X10_parted l D cy S_26.2 ha0 ta0 v265 x2_26 (by omega) x3_26) (cwV 3 hts gX10_make_X10_parted rfl rfl rfl (by decide +kernel) ⟨Nat.le_of_ble_eq_true rfl, Nat.le_of_ble_eq_true rfl⟩) rfl hl_26.1 rfl (Nat.le_of_ble_eq_true rfl) dX10_make_43 ⟨Nat.zero_le _, Nat.zero_le _⟩ (fun v269 E266 H267 k268 W266 I266 G266 p266 => ?_)
            have q266 := p266
            have q266 := q266.symm
            subst q266
            have S266 : Now D TB cy (va_A (va_pl L E) sz) s L τ E_26 H267 k268 := ⟨W266, I266⟩
            refine lv_istore (lv' := [(4, .int v269), (0, .ref a0), (1, .int x1_7), (2, .int x2_26), (3, .int x3_26)]) hx hb dX10_make_46 hl_26 (by decide) rfl (fun l270 hl271 => ?_)
            refine lv_iload_n hx hb dX10_make_48 rfl (lv_at hl271 2 rfl) ?_
            refine lv_if_ne (tgt := 71) hx hb dX10_make_49 (by decide) (fun c272 => ?_) (fun c272 => ?_)
            · skip
              have tc272 := nu_ne c272
              have uc272 : (0 : Int32).toInt = 0 := rfl
              exact J71 v269 E_26 H267 k268 l270 S266 F_26 (by have := fb_rng v269; omega) (by have := fb_rng v269; omega) (by have := fb_rng v269; omega) (by have := fb_rng v269; omega) (by have := fb_rng v269; omega) (by have := fb_rng v269; omega) (by have := fb_rng v269; omega) (by have := fb_rng v269; omega) (lv_sub hl271 [1, 2, 3, 4, 0] rfl)
            · skip
              have tc272 := nu_eq c272
              have uc272 : (0 : Int32).toInt = 0 := rfl
              refine lv_iload_n hx hb dX10_make_52 rfl (lv_at hl271 4 rfl) ?_
              refine lv_if_ne (tgt := 71) hx hb dX10_make_53 (by decide) (fun c273 => ?_) (fun c273 => ?_)
              · skip
                have tc273 := nu_ne c273
                have uc273 : (0 : Int32).toInt = 0 := rfl
                exact J71 v269 E_26 H267 k268 l270 S266 F_26 (by have := fb_rng v269; omega) (by have := fb_rng v269; omega) (by have := fb_rng v269; omega) (by have := fb_rng v269; omega) (by have := fb_rng v269; omega) (by have := fb_rng v269; omega) (by have := fb_rng v269; omega) (by have := fb_rng v269; omega) (lv_sub hl271 [1, 2, 3, 4, 0] rfl)
              · skip
                have tc273 := nu_eq c273
                have uc273 : (0 : Int32).toInt = 0 := rfl
                refine lv_aload_n hx hb dX10_make_56 rfl (lv_at hl271 1 rfl) ?_
                refine tr_getr Z.1 Z.2.2.2.1 S266.1 S266.2 ha0 ta0 rfl rfl (fun _ h => List.mem_cons_of_mem _ (List.mem_append_right _ h)) 0 (by decide) rfl (hts _ (List.mem_of_getElem? (i := 2) rfl)) dX10_make_57 (fun q274 eq274 hq274 tq274 => ?_)
                have tq274 : τ q274 = (60, 0) := tq274
                have uq274 : qn = q274 := S266.2.2.2.2 _ hqn _ hq274 (tqn.trans tq274.symm) (by rw [tqn]; rfl)
                subst uq274
                obtain ⟨v275, ev275, tv275⟩ : ∃ v : Int32, (Int8.ofInt (13)).toInt32 = v ∧ v.toInt = 13 := ⟨_, rfl, by decide +kernel⟩
                refine lv_bipush hx hb dX10_make_60 ev275 ?_
                refine tr_ialdx Z.1 Z.2.2.2.1 S266.1 S266.2 hqn tqn rfl (by omega) (by omega) dX10_make_62 (fun v276 ev276 lv276 uv276 => ?_)
                have bv276 : nowB v275.toNatClampNeg = (-2147483648, 2147483647) := nb_o (by show v275.toInt.toNat < 4 ∨ (8 ≤ v275.toInt.toNat ∧ v275.toInt.toNat ≤ 18) ∨ (20 ≤ v275.toInt.toNat ∧ v275.toInt.toNat ≤ 43); omega)
                rw [bv276] at lv276 uv276
                have lv276 : -2147483648 ≤ v276.toInt := lv276
                have uv276 : v276.toInt ≤ 2147483647 := uv276
                have av276 : ai E_26 qn 13 = v276 := ai_at ev276 (by omega)
                obtain ⟨v277, ev277, tv277⟩ : ∃ v : Int32, Int32.ofInt (1) = v ∧ v.toInt = 1 := ⟨_, rfl, by decide +kernel⟩
                refine lv_iconst hx hb dX10_make_63 ev277 ?_
                refine lv_icmp_ne (tgt := 71) hx hb dX10_make_64 (by decide) (fun c278 => ?_) (fun c278 => ?_)
                · skip
                  have tc278 := nu_ne c278
                  exact J71 v269 E_26 H267 k268 l270 S266 F_26 (by have := fb_rng v269; omega) (by have := fb_rng v269; omega) (by have := fb_rng v269; omega) (by have := fb_rng v269; omega) (by have := fb_rng v269; omega) (by have := fb_rng v269; omega) (by have := fb_rng v269; omega) (by have := fb_rng v269; omega) (lv_sub hl271 [1, 2, 3, 4, 0] rfl)
                · skip
                  have tc278 := nu_eq c278
                  obtain ⟨v279, ev279, tv279⟩ : ∃ v : Int32, Int32.ofInt (1) = v ∧ v.toInt = 1 := ⟨_, rfl, by decide +kernel⟩
                  refine lv_iconst hx hb dX10_make_67 ev279 ?_
                  refine lv_goto (tgt := 72) hx hb dX10_make_68 (by decide) ?_
                  exact J72 v269 v279 E_26 H267 k268 l270 S266 F_26 (by have := fb_rng v269; omega) (by have := fb_rng v269; omega) (by have := fb_rng v269; omega) (by have := fb_rng v269; omega) (by have := fb_rng v269; omega) (by have := fb_rng v269; omega) (by have := fb_rng v269; omega) (by have := fb_rng v269; omega) (by have := fb_rng v269; omega) (by have := fb_rng v269; omega) (lv_sub hl271 [1, 2, 3, 4, 0] rfl)
      refine lv_iload_n hx hb dX10_make_7 rfl (lv_at hl_7 1 rfl) ?_
      refine lv_aload_n hx hb dX10_make_8 rfl (lv_at hl_7 0 rfl) ?_
      refine tr_getr Z.1 Z.2.2.2.1 S_7.1 S_7.2 ha0 ta0 rfl rfl (fun _ h => List.mem_cons_of_mem _ (List.mem_append_right _ h)) 0 (by decide) rfl (hts _ (List.mem_of_getElem? (i := 2) rfl)) dX10_make_9 (fun q280 eq280 hq280 tq280 => ?_)
      have tq280 : τ q280 = (60, 0) := tq280
      have uq280 : qn = q280 := S_7.2.2.2.2 _ hqn _ hq280 (tqn.trans tq280.symm) (by rw [tqn]; rfl)
      subst uq280
      obtain ⟨v281, ev281, tv281⟩ : ∃ v : Int32, Int32.ofInt (4) = v ∧ v.toInt = 4 := ⟨_, rfl, by decide +kernel⟩
      refine lv_iconst hx hb dX10_make_12 ev281 ?_
      refine tr_ialdx Z.1 Z.2.2.2.1 S_7.1 S_7.2 hqn tqn rfl (by omega) (by omega) dX10_make_13 (fun v282 ev282 lv282 uv282 => ?_)
      have bv282 : nowB v281.toNatClampNeg = (0, 3) := nb_4 (by show v281.toInt.toNat = 4; omega)
      rw [bv282] at lv282 uv282
      have lv282 : 0 ≤ v282.toInt := lv282
      have uv282 : v282.toInt ≤ 3 := uv282
      have av282 : ai E_7 qn 4 = v282 := ai_at ev282 (by omega)
      refine lv_icmp_ge (tgt := 224) hx hb dX10_make_14 (by decide) (fun c283 => ?_) (fun c283 => ?_)
      · skip
        have tc283 := nu_le c283
        obtain ⟨v284, ev284, tv284⟩ : ∃ v : Int32, Int32.ofInt (0) = v ∧ v.toInt = 0 := ⟨_, rfl, by decide +kernel⟩
        refine lv_iconst hx hb dX10_make_224 ev284 ?_
        refine lv_istore_n (lv' := [(1, .int v284), (0, .ref a0)]) hx hb dX10_make_225 rfl hl_7 (by decide) rfl (fun l285 hl286 => ?_)
        obtain ⟨v287, ev287, tv287⟩ : ∃ v : Int32, Int32.ofInt (0) = v ∧ v.toInt = 0 := ⟨_, rfl, by decide +kernel⟩
        refine lv_iconst hx hb dX10_make_226 ev287 ?_
        refine lv_istore_n (lv' := [(2, .int v287), (1, .int v284), (0, .ref a0)]) hx hb dX10_make_227 rfl hl286 (by decide) rfl (fun l288 hl289 => ?_)
        obtain ⟨v290, ev290, tv290⟩ : ∃ v : Int32, Int32.ofInt (0) = v ∧ v.toInt = 0 := ⟨_, rfl, by decide +kernel⟩
        refine lv_iconst hx hb dX10_make_228 ev290 ?_
        refine lv_istore_n (lv' := [(3, .int v290), (2, .int v287), (1, .int v284), (0, .ref a0)]) hx hb dX10_make_229 rfl hl289 (by decide) rfl (fun l291 hl292 => ?_)
        exact J230 _ v284 v287 v290 E_7 H_7 k_7 l291 S_7 F_7 (by omega) (by omega) (by omega) (by omega) (by omega) (by omega) (Nat.lt_succ_self _) (lv_sub hl292 [3, 2, 1, 0] rfl)
      · skip
        have tc283 := nu_nle c283
        refine lv_aload_n hx hb dX10_make_17 rfl (lv_at hl_7 0 rfl) ?_
        refine tr_getr Z.1 Z.2.2.2.1 S_7.1 S_7.2 ha0 ta0 rfl rfl (fun _ h => List.mem_cons_of_mem _ (List.mem_append_right _ h)) 7 (by decide) rfl (hts _ (List.mem_of_getElem? (i := 3) rfl)) dX10_make_18 (fun q293 eq293 hq293 tq293 => ?_)
        have tq293 : τ q293 = (62, 0) := tq293
        refine lv_iload_n hx hb dX10_make_21 rfl (lv_at hl_7 1 rfl) ?_
        refine tr_iald Z.1 Z.2.2.2.1 S_7.1 S_7.2 hq293 tq293 rfl (by omega) (by omega) dX10_make_22 (fun v294 ev294 lv294 uv294 => ?_)
        refine lv_istore_n (lv' := [(2, .int v294), (0, .ref a0), (1, .int x1_7)]) hx hb dX10_make_23 rfl hl_7 (by decide) rfl (fun l295 hl296 => ?_)
        obtain ⟨v297, ev297, tv297⟩ : ∃ v : Int32, Int32.ofInt (0) = v ∧ v.toInt = 0 := ⟨_, rfl, by decide +kernel⟩
        refine lv_iconst hx hb dX10_make_24 ev297 ?_
        refine lv_istore_n (lv' := [(3, .int v297), (2, .int v294), (0, .ref a0), (1, .int x1_7)]) hx hb dX10_make_25 rfl hl296 (by decide) rfl (fun l298 hl299 => ?_)
        exact J26 _ v294 v297 E_7 H_7 k_7 l298 S_7 F_7 (by omega) (by omega) (by omega) (by omega) (by omega) (by omega) (by rw [av282]; omega) (by omega) (Nat.lt_succ_self _) (lv_sub hl299 [2, 3, 1, 0] rfl)
  refine lv_aload_n hx hb dX10_make_0 rfl (lv_at hl 0 rfl) ?_
  obtain ⟨v300, ev300, tv300⟩ : ∃ v : Int32, Int32.ofInt (0) = v ∧ v.toInt = 0 := ⟨_, rfl, by decide +kernel⟩
  refine lv_iconst hx hb dX10_make_1 ev300 ?_
  refine tr_puti Z.1 Z.2.2.2.1 S0.1 S0.2 ha0 ta0 rfl rfl (fun _ h => List.mem_cons_of_mem _ (List.mem_append_right _ h)) tyX10_ok nmX10 8 (by decide) rfl rfl rfl (hts _ (List.mem_of_getElem? (i := 1) rfl)) dX10_make_2 (by omega) (by omega) (fun E301 H302 k303 W301 I301 P301 => ?_)
  have S301 : Now D TB cy (va_A (va_pl L E) sz) s L τ E301 H302 k303 := ⟨W301, I301⟩
  have F301 : Fr L τ (inW [(11, 0), (63, 0), (64, 0), (65, 0), (66, 0), (67, 0), (68, 0), (69, 0), (70, 0), (71, 0)]) E E301 := Fr.put F0_ P301 ta0 rfl
  obtain ⟨v304, ev304, tv304⟩ : ∃ v : Int32, Int32.ofInt (0) = v ∧ v.toInt = 0 := ⟨_, rfl, by decide +kernel⟩
  refine lv_iconst hx hb dX10_make_5 ev304 ?_
  refine lv_istore_n (lv' := [(1, .int v304), (0, .ref a0)]) hx hb dX10_make_6 rfl hl (by decide) rfl (fun l305 hl306 => ?_)
  exact J7 _ v304 E301 H302 k303 l305 S301 F301 (by omega) (by omega) (by rw [(fi_at P301)]; omega) (Nat.lt_succ_self _) (lv_sub hl306 [1, 0] rfl)

set_option maxRecDepth 20000 in
theorem ggX10_asTold_X10_make : GoodIn wsX10_asTold wsX10_make := goodIn_r _ [7, 8, 2, 1, 9, 10, 11, 12, 13, 14, 15, 16, 6, 17, 18, 19, 20, 21, 22, 23, 24, 25, 26, 27, 28, 29, 30, 31, 32, 33, 34, 35, 36, 37, 38, 39, 40, 41, 42, 43, 44, 45, 46, 47, 48, 49, 50, 51, 52, 53, 54, 55, 56, 57, 58, 59, 60, 61, 62, 63, 64, 65, 66, 67, 68, 69, 70, 71, 72, 73] (by decide +kernel) (by decide +kernel)
set_option maxRecDepth 20000 in
theorem gX10_asTold_X10_make : GoodIn wsX10_asTold (wsV RX10 109 RX10 yX10_make wsX10_make) := goodIn_app (goodIn_of _ (by decide +kernel)) ggX10_asTold_X10_make
theorem dX10_asTold_0 : decode cX10_asTold 0 = .ok (.iconst 0, 1) := by decide +kernel
theorem dX10_asTold_1 : decode cX10_asTold 1 = .ok (.istore_n 1, 1) := by decide +kernel
theorem dX10_asTold_2 : decode cX10_asTold 2 = .ok (.iload_n 1, 1) := by decide +kernel
theorem dX10_asTold_3 : decode cX10_asTold 3 = .ok (.iconst 3, 1) := by decide +kernel
theorem dX10_asTold_4 : decode cX10_asTold 4 = .ok (.if_icmp .ge 37, 3) := by decide +kernel
theorem dX10_asTold_7 : decode cX10_asTold 7 = .ok (.aload_n 0, 1) := by decide +kernel
theorem dX10_asTold_8 : decode cX10_asTold 8 = .ok (.getfield 20, 3) := by decide +kernel
theorem dX10_asTold_11 : decode cX10_asTold 11 = .ok (.iload_n 1, 1) := by decide +kernel
theorem dX10_asTold_12 : decode cX10_asTold 12 = .ok (.iload_n 1, 1) := by decide +kernel
theorem dX10_asTold_13 : decode cX10_asTold 13 = .ok (.aload_n 0, 1) := by decide +kernel
theorem dX10_asTold_14 : decode cX10_asTold 14 = .ok (.getfield 7, 3) := by decide +kernel
theorem dX10_asTold_17 : decode cX10_asTold 17 = .ok (.iconst 4, 1) := by decide +kernel
theorem dX10_asTold_18 : decode cX10_asTold 18 = .ok (.iaload, 1) := by decide +kernel
theorem dX10_asTold_19 : decode cX10_asTold 19 = .ok (.if_icmp .ge 14, 3) := by decide +kernel
theorem dX10_asTold_22 : decode cX10_asTold 22 = .ok (.aload_n 0, 1) := by decide +kernel
theorem dX10_asTold_23 : decode cX10_asTold 23 = .ok (.getfield 7, 3) := by decide +kernel
theorem dX10_asTold_26 : decode cX10_asTold 26 = .ok (.iconst 5, 1) := by decide +kernel
theorem dX10_asTold_27 : decode cX10_asTold 27 = .ok (.iload_n 1, 1) := by decide +kernel
theorem dX10_asTold_28 : decode cX10_asTold 28 = .ok (.iadd, 1) := by decide +kernel
theorem dX10_asTold_29 : decode cX10_asTold 29 = .ok (.iaload, 1) := by decide +kernel
theorem dX10_asTold_30 : decode cX10_asTold 30 = .ok (.goto 4, 3) := by decide +kernel
theorem dX10_asTold_33 : decode cX10_asTold 33 = .ok (.iconst 0, 1) := by decide +kernel
theorem dX10_asTold_34 : decode cX10_asTold 34 = .ok (.iastore, 1) := by decide +kernel
theorem dX10_asTold_35 : decode cX10_asTold 35 = .ok (.iinc 1 1, 3) := by decide +kernel
theorem dX10_asTold_38 : decode cX10_asTold 38 = .ok (.goto (-36), 3) := by decide +kernel
theorem dX10_asTold_41 : decode cX10_asTold 41 = .ok (.aload_n 0, 1) := by decide +kernel
theorem dX10_asTold_42 : decode cX10_asTold 42 = .ok (.invokevirtual 109, 3) := by decide +kernel
theorem dX10_asTold_45 : decode cX10_asTold 45 = .ok (.return_, 1) := by decide +kernel
set_option maxHeartbeats 4000000 in
set_option maxRecDepth 100000 in
theorem k_X10_asTold (l : Launch) (D : va_G) (cy : Nat → ClassId) {L : List Nat} {τ : Nat → Ro} {E : Ec} (hI : Inv TB cy L τ E) {a0 : Nat} (ha0 : a0 ∈ L) (ta0 : τ a0 = (11, 0)) : CtV l yX10_asTold wsX10_asTold { frames := 2, cells := 0, slots := 0, locals := 53 } D TB cy L τ E [.ref a0] (inW [(11, 0), (63, 0), (64, 0), (65, 0), (66, 0), (67, 0), (68, 0), (69, 0), (70, 0), (71, 0), (62, 0)]) (fun E' => True) := by
  intro sz
  refine sta (cc := cX10_asTold) (maxL := 2) hI (by decide) rfl (Nat.le_of_ble_eq_true rfl) (fun p e s m args below meth c ls hsz Z S0 hl => ?_)
  have hx := Z.1.1
  have hb := Z.1.2.1
  have hts := Z.1.2.2.2.2
  have F0_ : Fr L τ (inW [(11, 0), (63, 0), (64, 0), (65, 0), (66, 0), (67, 0), (68, 0), (69, 0), (70, 0), (71, 0), (62, 0)]) E E := Fr.refl
  have hl : lv_has ls 2 [(0, .ref a0)] := hl
  generalize hQ : MQ below _ args s 0 0 _ = QQ
  have J2 : ∀ (n : Nat) (x1_2 : Int32) (E_2 : Ec) (H_2 : Heap) (k_2 : List Loc) (l_2 : Array Slot), Now D TB cy (va_A (va_pl L E) sz) s L τ E_2 H_2 k_2 → Fr L τ (inW [(11, 0), (63, 0), (64, 0), (65, 0), (66, 0), (67, 0), (68, 0), (69, 0), (70, 0), (71, 0), (62, 0)]) E E_2 → (0 ≤ x1_2.toInt) → (x1_2.toInt ≤ 3) → (3 - x1_2.toInt).toNat < n → lv_has l_2 2 [(0, .ref a0), (1, .int x1_2)] → W p l e { frames := 2, cells := 0, slots := 0, locals := 53 } s m args below meth c H_2 k_2 0 0 QQ (F0 m 2 l_2 []) := by
    intro n
    induction n with
    | zero => intro x1_2 E_2 H_2 k_2 l_2 S_2 F_2 z1 z2 hm hl_2; exact absurd hm (Nat.not_lt_zero _)
    | succ n ih =>
      intro x1_2 E_2 H_2 k_2 l_2 S_2 F_2 z1 z2 hm hl_2
      have ih_2 := ih
      have J34 : ∀ (y0_34 : Nat) (y1_34 : Int32) (y2_34 : Int32) (E_34 : Ec) (H_34 : Heap) (k_34 : List Loc) (l_34 : Array Slot), Now D TB cy (va_A (va_pl L E) sz) s L τ E_34 H_34 k_34 → Fr L τ (inW [(11, 0), (63, 0), (64, 0), (65, 0), (66, 0), (67, 0), (68, 0), (69, 0), (70, 0), (71, 0), (62, 0)]) E E_34 → (0 ≤ x1_2.toInt) → (x1_2.toInt ≤ 2) → (y0_34 ∈ L) → (τ y0_34 = (62, 0)) → (0 ≤ y1_34.toInt) → (y1_34.toInt ≤ 2) → (0 ≤ y2_34.toInt) → (y2_34.toInt ≤ 20) → lv_has l_34 2 [(0, .ref a0), (1, .int x1_2)] → W p l e { frames := 2, cells := 0, slots := 0, locals := 53 } s m args below meth c H_34 k_34 0 0 QQ (F0 m 34 l_34 [.int y2_34, .int y1_34, .ref y0_34]) := by
        intro y0_34 y1_34 y2_34 E_34 H_34 k_34 l_34 S_34 F_34 z3 z4 z5 z6 z7 z8 z9 z10 hl_34
        refine tr_iast Z.1 Z.2.2.2.1 S_34.1 S_34.2 z5 z6 rfl (by omega) (by omega) (by omega) (by omega) dX10_asTold_34 (fun E11 H12 k13 W11 I11 P11 => ?_)
        have S11 : Now D TB cy (va_A (va_pl L E) sz) s L τ E11 H12 k13 := ⟨W11, I11⟩
        have F11 : Fr L τ (inW [(11, 0), (63, 0), (64, 0), (65, 0), (66, 0), (67, 0), (68, 0), (69, 0), (70, 0), (71, 0), (62, 0)]) E E11 := Fr.set F_34 P11 z6 rfl
        obtain ⟨v14, ev14⟩ : ∃ y : Int32, x1_2 + Int32.ofInt (1) = y := ⟨_, rfl⟩
        have tv14 : v14.toInt = x1_2.toInt + (1) := by rw [← ev14]; exact (fb_addI (by rw [show (Int32.ofInt (1)).toInt = 1 from by decide +kernel]; omega) (by rw [show (Int32.ofInt (1)).toInt = 1 from by decide +kernel]; omega)).trans (by rw [show (Int32.ofInt (1)).toInt = 1 from by decide +kernel])
        refine lv_iinc (v := v14) (lv' := [(1, .int v14), (0, .ref a0)]) hx hb dX10_asTold_35 hl_34 (k := 1) rfl ev14 (by decide) rfl (fun l15 hl16 => ?_)
        refine lv_goto (tgt := 2) hx hb dX10_asTold_38 (by decide) ?_
        exact ih_2 v14 E11 H12 k13 l15 S11 F11 (by omega) (by omega) (by omega) (lv_sub hl16 [1, 0] rfl)
      refine lv_iload_n hx hb dX10_asTold_2 rfl (lv_at hl_2 1 rfl) ?_
      obtain ⟨v17, ev17, tv17⟩ : ∃ v : Int32, Int32.ofInt (3) = v ∧ v.toInt = 3 := ⟨_, rfl, by decide +kernel⟩
      refine lv_iconst hx hb dX10_asTold_3 ev17 ?_
      refine lv_icmp_ge (tgt := 41) hx hb dX10_asTold_4 (by decide) (fun c18 => ?_) (fun c18 => ?_)
      · skip
        have tc18 := nu_le c18
        refine lv_aload_n hx hb dX10_asTold_41 rfl (lv_at hl_2 0 rfl) ?_
        refine tc_vv Z.1 Z.2.2.2.1 Z.2.2.2.2.1 Z.2.2.2.2.2 S_2.1 S_2.2 ha0 ta0 rfl rfl (k_X10_make l D cy S_2.2 ha0 ta0) (cwV 0 hts gX10_asTold_X10_make rfl rfl rfl (by decide +kernel) ⟨Nat.le_of_ble_eq_true rfl, Nat.le_of_ble_eq_true rfl⟩) rfl hl_2.1 rfl (Nat.le_of_ble_eq_true rfl) dX10_asTold_42 ⟨Nat.zero_le _, Nat.zero_le _⟩ (fun E19 H20 k21 W19 I19 G19 p19 => ?_)
        have S19 : Now D TB cy (va_A (va_pl L E) sz) s L τ E19 H20 k21 := ⟨W19, I19⟩
        have F19 : Fr L τ (inW [(11, 0), (63, 0), (64, 0), (65, 0), (66, 0), (67, 0), (68, 0), (69, 0), (70, 0), (71, 0), (62, 0)]) E E19 := F_2.trans (G19.mono (inW_mono (by decide)))
        rw [← hQ]
        exact en_v Z S19 F19 trivial dX10_asTold_45
      · skip
        have tc18 := nu_nle c18
        refine lv_aload_n hx hb dX10_asTold_7 rfl (lv_at hl_2 0 rfl) ?_
        refine tr_getr Z.1 Z.2.2.2.1 S_2.1 S_2.2 ha0 ta0 rfl rfl (fun _ h => List.mem_cons_of_mem _ (List.mem_append_right _ h)) 7 (by decide) rfl (hts _ (List.mem_of_getElem? (i := 1) rfl)) dX10_asTold_8 (fun q23 eq23 hq23 tq23 => ?_)
        have tq23 : τ q23 = (62, 0) := tq23
        refine lv_iload_n hx hb dX10_asTold_11 rfl (lv_at hl_2 1 rfl) ?_
        refine lv_iload_n hx hb dX10_asTold_12 rfl (lv_at hl_2 1 rfl) ?_
        refine lv_aload_n hx hb dX10_asTold_13 rfl (lv_at hl_2 0 rfl) ?_
        refine tr_getr Z.1 Z.2.2.2.1 S_2.1 S_2.2 ha0 ta0 rfl rfl (fun _ h => List.mem_cons_of_mem _ (List.mem_append_right _ h)) 0 (by decide) rfl (hts _ (List.mem_of_getElem? (i := 2) rfl)) dX10_asTold_14 (fun q24 eq24 hq24 tq24 => ?_)
        have tq24 : τ q24 = (60, 0) := tq24
        obtain ⟨v25, ev25, tv25⟩ : ∃ v : Int32, Int32.ofInt (4) = v ∧ v.toInt = 4 := ⟨_, rfl, by decide +kernel⟩
        refine lv_iconst hx hb dX10_asTold_17 ev25 ?_
        refine tr_ialdx Z.1 Z.2.2.2.1 S_2.1 S_2.2 hq24 tq24 rfl (by omega) (by omega) dX10_asTold_18 (fun v26 ev26 lv26 uv26 => ?_)
        have bv26 : nowB v25.toNatClampNeg = (0, 3) := nb_4 (by show v25.toInt.toNat = 4; omega)
        rw [bv26] at lv26 uv26
        have lv26 : 0 ≤ v26.toInt := lv26
        have uv26 : v26.toInt ≤ 3 := uv26
        have av26 : ai E_2 q24 4 = v26 := ai_at ev26 (by omega)
        refine lv_icmp_ge (tgt := 33) hx hb dX10_asTold_19 (by decide) (fun c27 => ?_) (fun c27 => ?_)
        · skip
          have tc27 := nu_le c27
          obtain ⟨v28, ev28, tv28⟩ : ∃ v : Int32, Int32.ofInt (0) = v ∧ v.toInt = 0 := ⟨_, rfl, by decide +kernel⟩
          refine lv_iconst hx hb dX10_asTold_33 ev28 ?_
          exact J34 q23 x1_2 v28 E_2 H_2 k_2 l_2 S_2 F_2 (by omega) (by omega) hq23 tq23 (by omega) (by omega) (by omega) (by omega) (lv_sub hl_2 [0, 1] rfl)
        · skip
          have tc27 := nu_nle c27
          refine lv_aload_n hx hb dX10_asTold_22 rfl (lv_at hl_2 0 rfl) ?_
          refine tr_getr Z.1 Z.2.2.2.1 S_2.1 S_2.2 ha0 ta0 rfl rfl (fun _ h => List.mem_cons_of_mem _ (List.mem_append_right _ h)) 0 (by decide) rfl (hts _ (List.mem_of_getElem? (i := 2) rfl)) dX10_asTold_23 (fun q29 eq29 hq29 tq29 => ?_)
          have tq29 : τ q29 = (60, 0) := tq29
          have uq29 : q24 = q29 := S_2.2.2.2.2 _ hq24 _ hq29 (tq24.trans tq29.symm) (by rw [tq24]; rfl)
          subst uq29
          obtain ⟨v30, ev30, tv30⟩ : ∃ v : Int32, Int32.ofInt (5) = v ∧ v.toInt = 5 := ⟨_, rfl, by decide +kernel⟩
          refine lv_iconst hx hb dX10_asTold_26 ev30 ?_
          refine lv_iload_n hx hb dX10_asTold_27 rfl (lv_at hl_2 1 rfl) ?_
          refine lv_iadd hx hb dX10_asTold_28 ?_
          refine lv_topi (fun v31 ev31 => ?_)
          have tv31 := nu_add ev31 (by omega) (by omega)
          refine tr_ialdx Z.1 Z.2.2.2.1 S_2.1 S_2.2 hq24 tq24 rfl (by omega) (by omega) dX10_asTold_29 (fun v32 ev32 lv32 uv32 => ?_)
          have bv32 : nowB v31.toNatClampNeg = (0, 20) := nb_5 (by show 5 ≤ v31.toInt.toNat ∧ v31.toInt.toNat ≤ 7; omega)
          rw [bv32] at lv32 uv32
          have lv32 : 0 ≤ v32.toInt := lv32
          have uv32 : v32.toInt ≤ 20 := uv32
          refine lv_goto (tgt := 34) hx hb dX10_asTold_30 (by decide) ?_
          exact J34 q23 x1_2 v32 E_2 H_2 k_2 l_2 S_2 F_2 (by omega) (by omega) hq23 tq23 (by omega) (by omega) (by omega) (by omega) (lv_sub hl_2 [0, 1] rfl)
  obtain ⟨v33, ev33, tv33⟩ : ∃ v : Int32, Int32.ofInt (0) = v ∧ v.toInt = 0 := ⟨_, rfl, by decide +kernel⟩
  refine lv_iconst hx hb dX10_asTold_0 ev33 ?_
  refine lv_istore_n (lv' := [(1, .int v33), (0, .ref a0)]) hx hb dX10_asTold_1 rfl hl (by decide) rfl (fun l34 hl35 => ?_)
  exact J2 _ v33 E s.heap [] l34 S0 F0_ (by omega) (by omega) (Nat.lt_succ_self _) (lv_sub hl35 [1, 0] rfl)

