theorem dX10_init_0 : decode cX10_init 0 = .ok (.aload_n 0, 1) := by decide +kernel
theorem dX10_init_1 : decode cX10_init 1 = .ok (.invokespecial 1, 3) := by decide +kernel
theorem dX10_init_4 : decode cX10_init 4 = .ok (.aload_n 0, 1) := by decide +kernel
theorem dX10_init_5 : decode cX10_init 5 = .ok (.bipush 53, 2) := by decide +kernel
theorem dX10_init_7 : decode cX10_init 7 = .ok (.newarray .int, 2) := by decide +kernel
theorem dX10_init_9 : decode cX10_init 9 = .ok (.putfield 7, 3) := by decide +kernel
theorem dX10_init_12 : decode cX10_init 12 = .ok (.aload_n 0, 1) := by decide +kernel
theorem dX10_init_13 : decode cX10_init 13 = .ok (.sipush 2120, 3) := by decide +kernel
theorem dX10_init_16 : decode cX10_init 16 = .ok (.newarray .int, 2) := by decide +kernel
theorem dX10_init_18 : decode cX10_init 18 = .ok (.putfield 13, 3) := by decide +kernel
theorem dX10_init_21 : decode cX10_init 21 = .ok (.aload_n 0, 1) := by decide +kernel
theorem dX10_init_22 : decode cX10_init 22 = .ok (.iconst (-1), 1) := by decide +kernel
theorem dX10_init_23 : decode cX10_init 23 = .ok (.putfield 16, 3) := by decide +kernel
theorem dX10_init_26 : decode cX10_init 26 = .ok (.aload_n 0, 1) := by decide +kernel
theorem dX10_init_27 : decode cX10_init 27 = .ok (.iconst 3, 1) := by decide +kernel
theorem dX10_init_28 : decode cX10_init 28 = .ok (.newarray .int, 2) := by decide +kernel
theorem dX10_init_30 : decode cX10_init 30 = .ok (.putfield 20, 3) := by decide +kernel
theorem dX10_init_33 : decode cX10_init 33 = .ok (.aload_n 0, 1) := by decide +kernel
theorem dX10_init_34 : decode cX10_init 34 = .ok (.bipush 66, 2) := by decide +kernel
theorem dX10_init_36 : decode cX10_init 36 = .ok (.newarray .int, 2) := by decide +kernel
theorem dX10_init_38 : decode cX10_init 38 = .ok (.putfield 23, 3) := by decide +kernel
theorem dX10_init_41 : decode cX10_init 41 = .ok (.aload_n 0, 1) := by decide +kernel
theorem dX10_init_42 : decode cX10_init 42 = .ok (.bipush 67, 2) := by decide +kernel
theorem dX10_init_44 : decode cX10_init 44 = .ok (.newarray .int, 2) := by decide +kernel
theorem dX10_init_46 : decode cX10_init 46 = .ok (.putfield 26, 3) := by decide +kernel
theorem dX10_init_49 : decode cX10_init 49 = .ok (.aload_n 0, 1) := by decide +kernel
theorem dX10_init_50 : decode cX10_init 50 = .ok (.bipush 66, 2) := by decide +kernel
theorem dX10_init_52 : decode cX10_init 52 = .ok (.newarray .int, 2) := by decide +kernel
theorem dX10_init_54 : decode cX10_init 54 = .ok (.putfield 29, 3) := by decide +kernel
theorem dX10_init_57 : decode cX10_init 57 = .ok (.aload_n 0, 1) := by decide +kernel
theorem dX10_init_58 : decode cX10_init 58 = .ok (.bipush 66, 2) := by decide +kernel
theorem dX10_init_60 : decode cX10_init 60 = .ok (.newarray .int, 2) := by decide +kernel
theorem dX10_init_62 : decode cX10_init 62 = .ok (.putfield 32, 3) := by decide +kernel
theorem dX10_init_65 : decode cX10_init 65 = .ok (.aload_n 0, 1) := by decide +kernel
theorem dX10_init_66 : decode cX10_init 66 = .ok (.bipush 66, 2) := by decide +kernel
theorem dX10_init_68 : decode cX10_init 68 = .ok (.newarray .int, 2) := by decide +kernel
theorem dX10_init_70 : decode cX10_init 70 = .ok (.putfield 35, 3) := by decide +kernel
theorem dX10_init_73 : decode cX10_init 73 = .ok (.aload_n 0, 1) := by decide +kernel
theorem dX10_init_74 : decode cX10_init 74 = .ok (.bipush 66, 2) := by decide +kernel
theorem dX10_init_76 : decode cX10_init 76 = .ok (.newarray .int, 2) := by decide +kernel
theorem dX10_init_78 : decode cX10_init 78 = .ok (.putfield 38, 3) := by decide +kernel
theorem dX10_init_81 : decode cX10_init 81 = .ok (.aload_n 0, 1) := by decide +kernel
theorem dX10_init_82 : decode cX10_init 82 = .ok (.bipush 66, 2) := by decide +kernel
theorem dX10_init_84 : decode cX10_init 84 = .ok (.newarray .int, 2) := by decide +kernel
theorem dX10_init_86 : decode cX10_init 86 = .ok (.putfield 41, 3) := by decide +kernel
theorem dX10_init_89 : decode cX10_init 89 = .ok (.aload_n 0, 1) := by decide +kernel
theorem dX10_init_90 : decode cX10_init 90 = .ok (.bipush 66, 2) := by decide +kernel
theorem dX10_init_92 : decode cX10_init 92 = .ok (.newarray .int, 2) := by decide +kernel
theorem dX10_init_94 : decode cX10_init 94 = .ok (.putfield 44, 3) := by decide +kernel
theorem dX10_init_97 : decode cX10_init 97 = .ok (.aload_n 0, 1) := by decide +kernel
theorem dX10_init_98 : decode cX10_init 98 = .ok (.bipush 66, 2) := by decide +kernel
theorem dX10_init_100 : decode cX10_init 100 = .ok (.newarray .int, 2) := by decide +kernel
theorem dX10_init_102 : decode cX10_init 102 = .ok (.putfield 47, 3) := by decide +kernel
theorem dX10_init_105 : decode cX10_init 105 = .ok (.aload_n 0, 1) := by decide +kernel
theorem dX10_init_106 : decode cX10_init 106 = .ok (.bipush 120, 2) := by decide +kernel
theorem dX10_init_108 : decode cX10_init 108 = .ok (.newarray .byte, 2) := by decide +kernel
theorem dX10_init_110 : decode cX10_init 110 = .ok (.putfield 50, 3) := by decide +kernel
theorem dX10_init_113 : decode cX10_init 113 = .ok (.aload_n 0, 1) := by decide +kernel
theorem dX10_init_114 : decode cX10_init 114 = .ok (.bipush 120, 2) := by decide +kernel
theorem dX10_init_116 : decode cX10_init 116 = .ok (.newarray .byte, 2) := by decide +kernel
theorem dX10_init_118 : decode cX10_init 118 = .ok (.putfield 54, 3) := by decide +kernel
theorem dX10_init_121 : decode cX10_init 121 = .ok (.aload_n 0, 1) := by decide +kernel
theorem dX10_init_122 : decode cX10_init 122 = .ok (.bipush 50, 2) := by decide +kernel
theorem dX10_init_124 : decode cX10_init 124 = .ok (.newarray .boolean, 2) := by decide +kernel
theorem dX10_init_126 : decode cX10_init 126 = .ok (.putfield 57, 3) := by decide +kernel
theorem dX10_init_129 : decode cX10_init 129 = .ok (.aload_n 0, 1) := by decide +kernel
theorem dX10_init_130 : decode cX10_init 130 = .ok (.bipush 50, 2) := by decide +kernel
theorem dX10_init_132 : decode cX10_init 132 = .ok (.newarray .boolean, 2) := by decide +kernel
theorem dX10_init_134 : decode cX10_init 134 = .ok (.putfield 61, 3) := by decide +kernel
theorem dX10_init_137 : decode cX10_init 137 = .ok (.aload_n 0, 1) := by decide +kernel
theorem dX10_init_138 : decode cX10_init 138 = .ok (.bipush 50, 2) := by decide +kernel
theorem dX10_init_140 : decode cX10_init 140 = .ok (.newarray .int, 2) := by decide +kernel
theorem dX10_init_142 : decode cX10_init 142 = .ok (.putfield 64, 3) := by decide +kernel
theorem dX10_init_145 : decode cX10_init 145 = .ok (.aload_n 0, 1) := by decide +kernel
theorem dX10_init_146 : decode cX10_init 146 = .ok (.sipush 400, 3) := by decide +kernel
theorem dX10_init_149 : decode cX10_init 149 = .ok (.newarray .int, 2) := by decide +kernel
theorem dX10_init_151 : decode cX10_init 151 = .ok (.putfield 67, 3) := by decide +kernel
theorem dX10_init_154 : decode cX10_init 154 = .ok (.aload_n 0, 1) := by decide +kernel
theorem dX10_init_155 : decode cX10_init 155 = .ok (.sipush 3200, 3) := by decide +kernel
theorem dX10_init_158 : decode cX10_init 158 = .ok (.newarray .int, 2) := by decide +kernel
theorem dX10_init_160 : decode cX10_init 160 = .ok (.putfield 70, 3) := by decide +kernel
theorem dX10_init_163 : decode cX10_init 163 = .ok (.aload_n 0, 1) := by decide +kernel
theorem dX10_init_164 : decode cX10_init 164 = .ok (.sipush 3200, 3) := by decide +kernel
theorem dX10_init_167 : decode cX10_init 167 = .ok (.newarray .int, 2) := by decide +kernel
theorem dX10_init_169 : decode cX10_init 169 = .ok (.putfield 73, 3) := by decide +kernel
theorem dX10_init_172 : decode cX10_init 172 = .ok (.aload_n 0, 1) := by decide +kernel
theorem dX10_init_173 : decode cX10_init 173 = .ok (.sipush 200, 3) := by decide +kernel
theorem dX10_init_176 : decode cX10_init 176 = .ok (.newarray .int, 2) := by decide +kernel
theorem dX10_init_178 : decode cX10_init 178 = .ok (.putfield 76, 3) := by decide +kernel
theorem dX10_init_181 : decode cX10_init 181 = .ok (.aload_n 0, 1) := by decide +kernel
theorem dX10_init_182 : decode cX10_init 182 = .ok (.sipush 200, 3) := by decide +kernel
theorem dX10_init_185 : decode cX10_init 185 = .ok (.newarray .int, 2) := by decide +kernel
theorem dX10_init_187 : decode cX10_init 187 = .ok (.putfield 79, 3) := by decide +kernel
theorem dX10_init_190 : decode cX10_init 190 = .ok (.aload_n 0, 1) := by decide +kernel
theorem dX10_init_191 : decode cX10_init 191 = .ok (.iconst 3, 1) := by decide +kernel
theorem dX10_init_192 : decode cX10_init 192 = .ok (.newarray .int, 2) := by decide +kernel
theorem dX10_init_194 : decode cX10_init 194 = .ok (.putfield 82, 3) := by decide +kernel
theorem dX10_init_197 : decode cX10_init 197 = .ok (.aload_n 0, 1) := by decide +kernel
theorem dX10_init_198 : decode cX10_init 198 = .ok (.bipush 12, 2) := by decide +kernel
theorem dX10_init_200 : decode cX10_init 200 = .ok (.newarray .int, 2) := by decide +kernel
theorem dX10_init_202 : decode cX10_init 202 = .ok (.putfield 85, 3) := by decide +kernel
theorem dX10_init_205 : decode cX10_init 205 = .ok (.aload_n 0, 1) := by decide +kernel
theorem dX10_init_206 : decode cX10_init 206 = .ok (.sipush 4096, 3) := by decide +kernel
theorem dX10_init_209 : decode cX10_init 209 = .ok (.newarray .int, 2) := by decide +kernel
theorem dX10_init_211 : decode cX10_init 211 = .ok (.putfield 88, 3) := by decide +kernel
theorem dX10_init_214 : decode cX10_init 214 = .ok (.aload_n 0, 1) := by decide +kernel
theorem dX10_init_215 : decode cX10_init 215 = .ok (.sipush 4096, 3) := by decide +kernel
theorem dX10_init_218 : decode cX10_init 218 = .ok (.newarray .int, 2) := by decide +kernel
theorem dX10_init_220 : decode cX10_init 220 = .ok (.putfield 91, 3) := by decide +kernel
theorem dX10_init_223 : decode cX10_init 223 = .ok (.aload_n 0, 1) := by decide +kernel
theorem dX10_init_224 : decode cX10_init 224 = .ok (.sipush 264, 3) := by decide +kernel
theorem dX10_init_227 : decode cX10_init 227 = .ok (.newarray .int, 2) := by decide +kernel
theorem dX10_init_229 : decode cX10_init 229 = .ok (.putfield 94, 3) := by decide +kernel
theorem dX10_init_232 : decode cX10_init 232 = .ok (.aload_n 0, 1) := by decide +kernel
theorem dX10_init_233 : decode cX10_init 233 = .ok (.getfield 7, 3) := by decide +kernel
theorem dX10_init_236 : decode cX10_init 236 = .ok (.iconst 0, 1) := by decide +kernel
theorem dX10_init_237 : decode cX10_init 237 = .ok (.sipush 2600, 3) := by decide +kernel
theorem dX10_init_240 : decode cX10_init 240 = .ok (.iastore, 1) := by decide +kernel
theorem dX10_init_241 : decode cX10_init 241 = .ok (.aload_n 0, 1) := by decide +kernel
theorem dX10_init_242 : decode cX10_init 242 = .ok (.getfield 7, 3) := by decide +kernel
theorem dX10_init_245 : decode cX10_init 245 = .ok (.iconst 1, 1) := by decide +kernel
theorem dX10_init_246 : decode cX10_init 246 = .ok (.sipush 900, 3) := by decide +kernel
theorem dX10_init_249 : decode cX10_init 249 = .ok (.iastore, 1) := by decide +kernel
theorem dX10_init_250 : decode cX10_init 250 = .ok (.aload_n 0, 1) := by decide +kernel
theorem dX10_init_251 : decode cX10_init 251 = .ok (.getfield 7, 3) := by decide +kernel
theorem dX10_init_254 : decode cX10_init 254 = .ok (.iconst 2, 1) := by decide +kernel
theorem dX10_init_255 : decode cX10_init 255 = .ok (.sipush 400, 3) := by decide +kernel
theorem dX10_init_258 : decode cX10_init 258 = .ok (.iastore, 1) := by decide +kernel
theorem dX10_init_259 : decode cX10_init 259 = .ok (.aload_n 0, 1) := by decide +kernel
theorem dX10_init_260 : decode cX10_init 260 = .ok (.getfield 7, 3) := by decide +kernel
theorem dX10_init_263 : decode cX10_init 263 = .ok (.iconst 3, 1) := by decide +kernel
theorem dX10_init_264 : decode cX10_init 264 = .ok (.bipush 60, 2) := by decide +kernel
theorem dX10_init_266 : decode cX10_init 266 = .ok (.iastore, 1) := by decide +kernel
theorem dX10_init_267 : decode cX10_init 267 = .ok (.aload_n 0, 1) := by decide +kernel
theorem dX10_init_268 : decode cX10_init 268 = .ok (.getfield 7, 3) := by decide +kernel
theorem dX10_init_271 : decode cX10_init 271 = .ok (.iconst 4, 1) := by decide +kernel
theorem dX10_init_272 : decode cX10_init 272 = .ok (.iconst 1, 1) := by decide +kernel
theorem dX10_init_273 : decode cX10_init 273 = .ok (.iastore, 1) := by decide +kernel
theorem dX10_init_274 : decode cX10_init 274 = .ok (.aload_n 0, 1) := by decide +kernel
theorem dX10_init_275 : decode cX10_init 275 = .ok (.getfield 7, 3) := by decide +kernel
theorem dX10_init_278 : decode cX10_init 278 = .ok (.iconst 5, 1) := by decide +kernel
theorem dX10_init_279 : decode cX10_init 279 = .ok (.bipush 12, 2) := by decide +kernel
theorem dX10_init_281 : decode cX10_init 281 = .ok (.iastore, 1) := by decide +kernel
theorem dX10_init_282 : decode cX10_init 282 = .ok (.aload_n 0, 1) := by decide +kernel
theorem dX10_init_283 : decode cX10_init 283 = .ok (.getfield 7, 3) := by decide +kernel
theorem dX10_init_286 : decode cX10_init 286 = .ok (.bipush 8, 2) := by decide +kernel
theorem dX10_init_288 : decode cX10_init 288 = .ok (.sipush 2640, 3) := by decide +kernel
theorem dX10_init_291 : decode cX10_init 291 = .ok (.iastore, 1) := by decide +kernel
theorem dX10_init_292 : decode cX10_init 292 = .ok (.aload_n 0, 1) := by decide +kernel
theorem dX10_init_293 : decode cX10_init 293 = .ok (.getfield 7, 3) := by decide +kernel
theorem dX10_init_296 : decode cX10_init 296 = .ok (.bipush 14, 2) := by decide +kernel
theorem dX10_init_298 : decode cX10_init 298 = .ok (.bipush 50, 2) := by decide +kernel
theorem dX10_init_300 : decode cX10_init 300 = .ok (.iastore, 1) := by decide +kernel
theorem dX10_init_301 : decode cX10_init 301 = .ok (.aload_n 0, 1) := by decide +kernel
theorem dX10_init_302 : decode cX10_init 302 = .ok (.getfield 7, 3) := by decide +kernel
theorem dX10_init_305 : decode cX10_init 305 = .ok (.bipush 15, 2) := by decide +kernel
theorem dX10_init_307 : decode cX10_init 307 = .ok (.bipush 80, 2) := by decide +kernel
theorem dX10_init_309 : decode cX10_init 309 = .ok (.iastore, 1) := by decide +kernel
theorem dX10_init_310 : decode cX10_init 310 = .ok (.aload_n 0, 1) := by decide +kernel
theorem dX10_init_311 : decode cX10_init 311 = .ok (.getfield 7, 3) := by decide +kernel
theorem dX10_init_314 : decode cX10_init 314 = .ok (.bipush 16, 2) := by decide +kernel
theorem dX10_init_316 : decode cX10_init 316 = .ok (.sipush 200, 3) := by decide +kernel
theorem dX10_init_319 : decode cX10_init 319 = .ok (.iastore, 1) := by decide +kernel
theorem dX10_init_320 : decode cX10_init 320 = .ok (.aload_n 0, 1) := by decide +kernel
theorem dX10_init_321 : decode cX10_init 321 = .ok (.getfield 7, 3) := by decide +kernel
theorem dX10_init_324 : decode cX10_init 324 = .ok (.bipush 17, 2) := by decide +kernel
theorem dX10_init_326 : decode cX10_init 326 = .ok (.bipush 120, 2) := by decide +kernel
theorem dX10_init_328 : decode cX10_init 328 = .ok (.iastore, 1) := by decide +kernel
theorem dX10_init_329 : decode cX10_init 329 = .ok (.aload_n 0, 1) := by decide +kernel
theorem dX10_init_330 : decode cX10_init 330 = .ok (.getfield 7, 3) := by decide +kernel
theorem dX10_init_333 : decode cX10_init 333 = .ok (.bipush 18, 2) := by decide +kernel
theorem dX10_init_335 : decode cX10_init 335 = .ok (.bipush 20, 2) := by decide +kernel
theorem dX10_init_337 : decode cX10_init 337 = .ok (.iastore, 1) := by decide +kernel
theorem dX10_init_338 : decode cX10_init 338 = .ok (.return_, 1) := by decide +kernel
set_option maxHeartbeats 4000000 in
set_option maxRecDepth 100000 in
theorem k_X10_init_0 (l : Launch) (D : va_G) (cy : Nat → ClassId) {L : List Nat} {τ : Nat → Ro} {E : Ec} (hI : Inv TB cy L τ E) {a0 : Nat} (ha0 : a0 ∈ L) (ta0 : τ a0 = (211, 0)) (he0 : E a0 = .inr (9, [.null, .null, .int 0, .int 0, .int 0, .int 0, .int 0, .null, .int 0, .null, .null, .null, .null, .null, .null, .null, .null, .null, .null, .null, .int 0, .int 0, .int 0, .null, .null, .null, .null, .null, .null, .null, .int 0, .int 0, .int 0, .null, .null, .int 0, .int 0, .int 0, .int 0, .int 0, .int 0, .int 0, .null, .null, .null, .int 0, .null, .int 0])) (hab0 : Ab L τ [(11, 0), (60, 0), (61, 0), (62, 0), (63, 0), (64, 0), (65, 0), (66, 0), (67, 0), (68, 0), (69, 0), (70, 0), (71, 0), (72, 0), (73, 0), (74, 0), (75, 0), (76, 0), (77, 0), (78, 0), (79, 0), (80, 0), (81, 0), (82, 0), (83, 0), (84, 0), (85, 0), (86, 0)]) : CtG l yX10_init wsX10_init { frames := 1, cells := 27, slots := 18832, locals := 20 } D cy L τ E [.ref a0] a0 [(86, 0), (85, 0), (84, 0), (83, 0), (82, 0), (81, 0), (80, 0), (79, 0), (78, 0), (77, 0), (76, 0), (75, 0), (74, 0), (73, 0), (72, 0), (71, 0), (70, 0), (69, 0), (68, 0), (67, 0), (66, 0), (65, 0), (64, 0), (63, 0), (62, 0), (61, 0), (60, 0)] 27 18832 (fun L' τ' E' => τ' a0 = (11, 0) ∧ (fi E' a0 2).toInt = 0 ∧ (fi E' a0 45).toInt = 0 ∧ (fi E' a0 20).toInt = 0 ∧ (fi E' a0 5).toInt = 0 ∧ (fi E' a0 3).toInt = 0 ∧ ∃ q : Nat, q ∈ L' ∧ τ' q = (76, 0) ∧ ∀ j : Nat, ai E' q j = 0) := by
  intro sz
  refine staG (cc := cX10_init) (maxL := 1) hI (by decide) rfl (Nat.le_of_ble_eq_true rfl) (fun p e s m args below meth c ls hsz hnm Z hO S0 hl => ?_)
  have hx := Z.1.1
  have hb := Z.1.2.1
  have hts := Z.1.2.2.2.2
  have hnm : meth.name = "<init>" := hnm
  have G0 : Gr a0 [] L τ E L τ E := Gr.refl
  have hl : lv_has ls 1 [(0, .ref a0)] := hl
  refine lv_aload_n hx hb dX10_init_0 rfl (lv_at hl 0 rfl) ?_
  refine tr_obj Z.1 hl.1 (hts _ (List.mem_of_getElem? (i := 1) rfl)) (hts _ (List.mem_of_getElem? (i := 2) rfl)) (hts _ (List.mem_of_getElem? (i := 3) rfl)) dX10_init_1 (Nat.le_of_ble_eq_true rfl) (Nat.le_of_ble_eq_true rfl) ?_
  refine lv_aload_n hx hb dX10_init_4 rfl (lv_at hl 0 rfl) ?_
  obtain ⟨v1, ev1, tv1⟩ : ∃ v : Int32, (Int8.ofInt (53)).toInt32 = v ∧ v.toInt = 53 := ⟨_, rfl, by decide +kernel⟩
  refine lv_bipush hx hb dX10_init_5 ev1 ?_
  refine tr_newi Z.1 Z.2.2.2.1 Z.2.2.2.2.2 S0 (hts _ (List.mem_of_getElem? (i := 4) rfl)) rfl 0 rfl 53 (by omega) (vc_ty _ rfl _) (Nat.le_of_ble_eq_true rfl) (60, 0) rfl rfl rfl (fun i => nb_low i) (fun _ => Ab.ne hab0 (by decide)) (Nat.le_of_ble_eq_true rfl) (Nat.le_of_ble_eq_true rfl) dX10_init_7 (fun Lq2 Tq2 Eq2 q2 Hq2 Sq2 Pq2 => ?_)
  have Wq2 : Gr a0 [(60, 0)] L τ E Lq2 Tq2 Eq2 := Gr.push G0 Pq2
  have f3 : q2 ∉ L := Gr.fresh G0 Pq2
  have Aq2 : Ab Lq2 Tq2 [(11, 0), (61, 0), (62, 0), (63, 0), (64, 0), (65, 0), (66, 0), (67, 0), (68, 0), (69, 0), (70, 0), (71, 0), (72, 0), (73, 0), (74, 0), (75, 0), (76, 0), (77, 0), (78, 0), (79, 0), (80, 0), (81, 0), (82, 0), (83, 0), (84, 0), (85, 0), (86, 0)] := Ab.push hab0 Pq2 (by decide) (by decide)
  have eq2 : Eq2 a0 = .inr (9, [.null, .null, .int 0, .int 0, .int 0, .int 0, .int 0, .null, .int 0, .null, .null, .null, .null, .null, .null, .null, .null, .null, .null, .null, .int 0, .int 0, .int 0, .null, .null, .null, .null, .null, .null, .null, .int 0, .int 0, .int 0, .null, .null, .int 0, .int 0, .int 0, .int 0, .int 0, .int 0, .int 0, .null, .null, .null, .int 0, .null, .int 0]) := (Pq2.2.2.1 a0 ha0).trans he0
  have hm4 : a0 ∈ Lq2 := Pq2.1 _ ha0
  have tm4 : Tq2 a0 = (211, 0) := (Pq2.2.1 _ ha0).trans ta0
  refine tr_putR Z.1 Z.2.2.2.1 Sq2 hm4 tm4 rfl rfl rfl eq2 rfl (fun _ h => List.mem_cons_of_mem _ (List.mem_append_right _ h)) tyX10_ok nmX10 0 (by decide) (Nat.le_of_ble_eq_true rfl) (Or.inr ⟨hnm, rfl, rfl⟩) (hts _ (List.mem_of_getElem? (i := 5) rfl)) dX10_init_9 rfl rfl (fun Eu5 Hu5 ku5 Su5 ou5 gu5 => ?_)
  have hu5 : Eu5 a0 = .inr (9, [.ref q2, .null, .int 0, .int 0, .int 0, .int 0, .int 0, .null, .int 0, .null, .null, .null, .null, .null, .null, .null, .null, .null, .null, .null, .int 0, .int 0, .int 0, .null, .null, .null, .null, .null, .null, .null, .int 0, .int 0, .int 0, .null, .null, .int 0, .int 0, .int 0, .int 0, .int 0, .int 0, .int 0, .null, .null, .null, .int 0, .null, .int 0]) := gu5
  have Wu5 : Gr a0 [(60, 0)] L τ E Lq2 Tq2 Eu5 := Gr.wr Wq2 ou5 (Or.inl rfl)
  refine lv_aload_n hx hb dX10_init_12 rfl (lv_at hl 0 rfl) ?_
  obtain ⟨v6, ev6, tv6⟩ : ∃ v : Int32, (Int16.ofInt (2120)).toInt32 = v ∧ v.toInt = 2120 := ⟨_, rfl, by decide +kernel⟩
  refine lv_sipush hx hb dX10_init_13 ev6 ?_
  refine tr_newi Z.1 Z.2.2.2.1 Z.2.2.2.2.2 Su5 (hts _ (List.mem_of_getElem? (i := 4) rfl)) rfl 0 rfl 2120 (by omega) (vc_ty _ rfl _) (Nat.le_of_ble_eq_true rfl) (61, 0) rfl rfl rfl (fun i => nb_low (i % 53)) (fun _ => Ab.ne Aq2 (by decide)) (Nat.le_of_ble_eq_true rfl) (Nat.le_of_ble_eq_true rfl) dX10_init_16 (fun Lq7 Tq7 Eq7 q7 Hq7 Sq7 Pq7 => ?_)
  have Wq7 : Gr a0 [(61, 0), (60, 0)] L τ E Lq7 Tq7 Eq7 := Gr.push Wu5 Pq7
  have f8 : q7 ∉ L := Gr.fresh Wu5 Pq7
  have Aq7 : Ab Lq7 Tq7 [(11, 0), (62, 0), (63, 0), (64, 0), (65, 0), (66, 0), (67, 0), (68, 0), (69, 0), (70, 0), (71, 0), (72, 0), (73, 0), (74, 0), (75, 0), (76, 0), (77, 0), (78, 0), (79, 0), (80, 0), (81, 0), (82, 0), (83, 0), (84, 0), (85, 0), (86, 0)] := Ab.push Aq2 Pq7 (by decide) (by decide)
  have eq7 : Eq7 a0 = .inr (9, [.ref q2, .null, .int 0, .int 0, .int 0, .int 0, .int 0, .null, .int 0, .null, .null, .null, .null, .null, .null, .null, .null, .null, .null, .null, .int 0, .int 0, .int 0, .null, .null, .null, .null, .null, .null, .null, .int 0, .int 0, .int 0, .null, .null, .int 0, .int 0, .int 0, .int 0, .int 0, .int 0, .int 0, .null, .null, .null, .int 0, .null, .int 0]) := (Pq7.2.2.1 a0 hm4).trans hu5
  have hm9 : a0 ∈ Lq7 := Pq7.1 _ hm4
  have tm9 : Tq7 a0 = (211, 0) := (Pq7.2.1 _ hm4).trans tm4
  have hm10 : q2 ∈ Lq7 := Pq7.1 _ Pq2.2.2.2.1
  have tm10 : Tq7 q2 = (60, 0) := (Pq7.2.1 _ Pq2.2.2.2.1).trans Pq2.2.2.2.2.1
  refine tr_putR Z.1 Z.2.2.2.1 Sq7 hm9 tm9 rfl rfl rfl eq7 rfl (fun _ h => List.mem_cons_of_mem _ (List.mem_append_right _ h)) tyX10_ok nmX10 1 (by decide) (Nat.le_of_ble_eq_true rfl) (Or.inr ⟨hnm, rfl, rfl⟩) (hts _ (List.mem_of_getElem? (i := 6) rfl)) dX10_init_18 rfl rfl (fun Eu11 Hu11 ku11 Su11 ou11 gu11 => ?_)
  have hu11 : Eu11 a0 = .inr (9, [.ref q2, .ref q7, .int 0, .int 0, .int 0, .int 0, .int 0, .null, .int 0, .null, .null, .null, .null, .null, .null, .null, .null, .null, .null, .null, .int 0, .int 0, .int 0, .null, .null, .null, .null, .null, .null, .null, .int 0, .int 0, .int 0, .null, .null, .int 0, .int 0, .int 0, .int 0, .int 0, .int 0, .int 0, .null, .null, .null, .int 0, .null, .int 0]) := gu11
  have Wu11 : Gr a0 [(61, 0), (60, 0)] L τ E Lq7 Tq7 Eu11 := Gr.wr Wq7 ou11 (Or.inl rfl)
  refine lv_aload_n hx hb dX10_init_21 rfl (lv_at hl 0 rfl) ?_
  obtain ⟨v12, ev12, tv12⟩ : ∃ v : Int32, Int32.ofInt (-1) = v ∧ v.toInt = -1 := ⟨_, rfl, by decide +kernel⟩
  refine lv_iconst hx hb dX10_init_22 ev12 ?_
  refine tr_putR Z.1 Z.2.2.2.1 Su11 hm9 tm9 rfl rfl rfl hu11 rfl (fun _ h => List.mem_cons_of_mem _ (List.mem_append_right _ h)) tyX10_ok nmX10 6 (by decide) (Nat.le_of_ble_eq_true rfl) (Or.inl rfl) (hts _ (List.mem_of_getElem? (i := 7) rfl)) dX10_init_23 rfl rfl (fun Eu13 Hu13 ku13 Su13 ou13 gu13 => ?_)
  have hu13 : Eu13 a0 = .inr (9, [.ref q2, .ref q7, .int 0, .int 0, .int 0, .int 0, .int v12, .null, .int 0, .null, .null, .null, .null, .null, .null, .null, .null, .null, .null, .null, .int 0, .int 0, .int 0, .null, .null, .null, .null, .null, .null, .null, .int 0, .int 0, .int 0, .null, .null, .int 0, .int 0, .int 0, .int 0, .int 0, .int 0, .int 0, .null, .null, .null, .int 0, .null, .int 0]) := gu13
  have Wu13 : Gr a0 [(61, 0), (60, 0)] L τ E Lq7 Tq7 Eu13 := Gr.wr Wu11 ou13 (Or.inl rfl)
  refine lv_aload_n hx hb dX10_init_26 rfl (lv_at hl 0 rfl) ?_
  obtain ⟨v14, ev14, tv14⟩ : ∃ v : Int32, Int32.ofInt (3) = v ∧ v.toInt = 3 := ⟨_, rfl, by decide +kernel⟩
  refine lv_iconst hx hb dX10_init_27 ev14 ?_
  refine tr_newi Z.1 Z.2.2.2.1 Z.2.2.2.2.2 Su13 (hts _ (List.mem_of_getElem? (i := 4) rfl)) rfl 0 rfl 3 (by omega) (vc_ty _ rfl _) (Nat.le_of_ble_eq_true rfl) (62, 0) rfl rfl rfl (fun i => ⟨(by decide : (0 : Int) ≤ 0), (by decide : (0 : Int) ≤ 20)⟩) (fun _ => Ab.ne Aq7 (by decide)) (Nat.le_of_ble_eq_true rfl) (Nat.le_of_ble_eq_true rfl) dX10_init_28 (fun Lq15 Tq15 Eq15 q15 Hq15 Sq15 Pq15 => ?_)
  have Wq15 : Gr a0 [(62, 0), (61, 0), (60, 0)] L τ E Lq15 Tq15 Eq15 := Gr.push Wu13 Pq15
  have f16 : q15 ∉ L := Gr.fresh Wu13 Pq15
  have Aq15 : Ab Lq15 Tq15 [(11, 0), (63, 0), (64, 0), (65, 0), (66, 0), (67, 0), (68, 0), (69, 0), (70, 0), (71, 0), (72, 0), (73, 0), (74, 0), (75, 0), (76, 0), (77, 0), (78, 0), (79, 0), (80, 0), (81, 0), (82, 0), (83, 0), (84, 0), (85, 0), (86, 0)] := Ab.push Aq7 Pq15 (by decide) (by decide)
  have eq15 : Eq15 a0 = .inr (9, [.ref q2, .ref q7, .int 0, .int 0, .int 0, .int 0, .int v12, .null, .int 0, .null, .null, .null, .null, .null, .null, .null, .null, .null, .null, .null, .int 0, .int 0, .int 0, .null, .null, .null, .null, .null, .null, .null, .int 0, .int 0, .int 0, .null, .null, .int 0, .int 0, .int 0, .int 0, .int 0, .int 0, .int 0, .null, .null, .null, .int 0, .null, .int 0]) := (Pq15.2.2.1 a0 hm9).trans hu13
  have hm17 : a0 ∈ Lq15 := Pq15.1 _ hm9
  have tm17 : Tq15 a0 = (211, 0) := (Pq15.2.1 _ hm9).trans tm9
  have hm18 : q2 ∈ Lq15 := Pq15.1 _ hm10
  have tm18 : Tq15 q2 = (60, 0) := (Pq15.2.1 _ hm10).trans tm10
  have hm19 : q7 ∈ Lq15 := Pq15.1 _ Pq7.2.2.2.1
  have tm19 : Tq15 q7 = (61, 0) := (Pq15.2.1 _ Pq7.2.2.2.1).trans Pq7.2.2.2.2.1
  refine tr_putR Z.1 Z.2.2.2.1 Sq15 hm17 tm17 rfl rfl rfl eq15 rfl (fun _ h => List.mem_cons_of_mem _ (List.mem_append_right _ h)) tyX10_ok nmX10 7 (by decide) (Nat.le_of_ble_eq_true rfl) (Or.inr ⟨hnm, rfl, rfl⟩) (hts _ (List.mem_of_getElem? (i := 8) rfl)) dX10_init_30 rfl rfl (fun Eu20 Hu20 ku20 Su20 ou20 gu20 => ?_)
  have hu20 : Eu20 a0 = .inr (9, [.ref q2, .ref q7, .int 0, .int 0, .int 0, .int 0, .int v12, .ref q15, .int 0, .null, .null, .null, .null, .null, .null, .null, .null, .null, .null, .null, .int 0, .int 0, .int 0, .null, .null, .null, .null, .null, .null, .null, .int 0, .int 0, .int 0, .null, .null, .int 0, .int 0, .int 0, .int 0, .int 0, .int 0, .int 0, .null, .null, .null, .int 0, .null, .int 0]) := gu20
  have Wu20 : Gr a0 [(62, 0), (61, 0), (60, 0)] L τ E Lq15 Tq15 Eu20 := Gr.wr Wq15 ou20 (Or.inl rfl)
  refine lv_aload_n hx hb dX10_init_33 rfl (lv_at hl 0 rfl) ?_
  obtain ⟨v21, ev21, tv21⟩ : ∃ v : Int32, (Int8.ofInt (66)).toInt32 = v ∧ v.toInt = 66 := ⟨_, rfl, by decide +kernel⟩
  refine lv_bipush hx hb dX10_init_34 ev21 ?_
  refine tr_newi Z.1 Z.2.2.2.1 Z.2.2.2.2.2 Su20 (hts _ (List.mem_of_getElem? (i := 4) rfl)) rfl 0 rfl 66 (by omega) (vc_ty _ rfl _) (Nat.le_of_ble_eq_true rfl) (63, 0) rfl rfl rfl (fun i => ⟨(by decide : (0 : Int) ≤ 0), (by decide : (0 : Int) ≤ 3)⟩) (fun _ => Ab.ne Aq15 (by decide)) (Nat.le_of_ble_eq_true rfl) (Nat.le_of_ble_eq_true rfl) dX10_init_36 (fun Lq22 Tq22 Eq22 q22 Hq22 Sq22 Pq22 => ?_)
  have Wq22 : Gr a0 [(63, 0), (62, 0), (61, 0), (60, 0)] L τ E Lq22 Tq22 Eq22 := Gr.push Wu20 Pq22
  have f23 : q22 ∉ L := Gr.fresh Wu20 Pq22
  have Aq22 : Ab Lq22 Tq22 [(11, 0), (64, 0), (65, 0), (66, 0), (67, 0), (68, 0), (69, 0), (70, 0), (71, 0), (72, 0), (73, 0), (74, 0), (75, 0), (76, 0), (77, 0), (78, 0), (79, 0), (80, 0), (81, 0), (82, 0), (83, 0), (84, 0), (85, 0), (86, 0)] := Ab.push Aq15 Pq22 (by decide) (by decide)
  have eq22 : Eq22 a0 = .inr (9, [.ref q2, .ref q7, .int 0, .int 0, .int 0, .int 0, .int v12, .ref q15, .int 0, .null, .null, .null, .null, .null, .null, .null, .null, .null, .null, .null, .int 0, .int 0, .int 0, .null, .null, .null, .null, .null, .null, .null, .int 0, .int 0, .int 0, .null, .null, .int 0, .int 0, .int 0, .int 0, .int 0, .int 0, .int 0, .null, .null, .null, .int 0, .null, .int 0]) := (Pq22.2.2.1 a0 hm17).trans hu20
  have hm24 : a0 ∈ Lq22 := Pq22.1 _ hm17
  have tm24 : Tq22 a0 = (211, 0) := (Pq22.2.1 _ hm17).trans tm17
  have hm25 : q2 ∈ Lq22 := Pq22.1 _ hm18
  have tm25 : Tq22 q2 = (60, 0) := (Pq22.2.1 _ hm18).trans tm18
  have hm26 : q7 ∈ Lq22 := Pq22.1 _ hm19
  have tm26 : Tq22 q7 = (61, 0) := (Pq22.2.1 _ hm19).trans tm19
  have hm27 : q15 ∈ Lq22 := Pq22.1 _ Pq15.2.2.2.1
  have tm27 : Tq22 q15 = (62, 0) := (Pq22.2.1 _ Pq15.2.2.2.1).trans Pq15.2.2.2.2.1
  refine tr_putR Z.1 Z.2.2.2.1 Sq22 hm24 tm24 rfl rfl rfl eq22 rfl (fun _ h => List.mem_cons_of_mem _ (List.mem_append_right _ h)) tyX10_ok nmX10 9 (by decide) (Nat.le_of_ble_eq_true rfl) (Or.inr ⟨hnm, rfl, rfl⟩) (hts _ (List.mem_of_getElem? (i := 9) rfl)) dX10_init_38 rfl rfl (fun Eu28 Hu28 ku28 Su28 ou28 gu28 => ?_)
  have hu28 : Eu28 a0 = .inr (9, [.ref q2, .ref q7, .int 0, .int 0, .int 0, .int 0, .int v12, .ref q15, .int 0, .ref q22, .null, .null, .null, .null, .null, .null, .null, .null, .null, .null, .int 0, .int 0, .int 0, .null, .null, .null, .null, .null, .null, .null, .int 0, .int 0, .int 0, .null, .null, .int 0, .int 0, .int 0, .int 0, .int 0, .int 0, .int 0, .null, .null, .null, .int 0, .null, .int 0]) := gu28
  have Wu28 : Gr a0 [(63, 0), (62, 0), (61, 0), (60, 0)] L τ E Lq22 Tq22 Eu28 := Gr.wr Wq22 ou28 (Or.inl rfl)
  refine lv_aload_n hx hb dX10_init_41 rfl (lv_at hl 0 rfl) ?_
  obtain ⟨v29, ev29, tv29⟩ : ∃ v : Int32, (Int8.ofInt (67)).toInt32 = v ∧ v.toInt = 67 := ⟨_, rfl, by decide +kernel⟩
  refine lv_bipush hx hb dX10_init_42 ev29 ?_
  refine tr_newi Z.1 Z.2.2.2.1 Z.2.2.2.2.2 Su28 (hts _ (List.mem_of_getElem? (i := 4) rfl)) rfl 0 rfl 67 (by omega) (vc_ty _ rfl _) (Nat.le_of_ble_eq_true rfl) (64, 0) rfl rfl rfl (fun i => ⟨(by decide : (-2147483648 : Int) ≤ 0), (by decide : (0 : Int) ≤ 2147483647)⟩) (fun _ => Ab.ne Aq22 (by decide)) (Nat.le_of_ble_eq_true rfl) (Nat.le_of_ble_eq_true rfl) dX10_init_44 (fun Lq30 Tq30 Eq30 q30 Hq30 Sq30 Pq30 => ?_)
  have Wq30 : Gr a0 [(64, 0), (63, 0), (62, 0), (61, 0), (60, 0)] L τ E Lq30 Tq30 Eq30 := Gr.push Wu28 Pq30
  have f31 : q30 ∉ L := Gr.fresh Wu28 Pq30
  have Aq30 : Ab Lq30 Tq30 [(11, 0), (65, 0), (66, 0), (67, 0), (68, 0), (69, 0), (70, 0), (71, 0), (72, 0), (73, 0), (74, 0), (75, 0), (76, 0), (77, 0), (78, 0), (79, 0), (80, 0), (81, 0), (82, 0), (83, 0), (84, 0), (85, 0), (86, 0)] := Ab.push Aq22 Pq30 (by decide) (by decide)
  have eq30 : Eq30 a0 = .inr (9, [.ref q2, .ref q7, .int 0, .int 0, .int 0, .int 0, .int v12, .ref q15, .int 0, .ref q22, .null, .null, .null, .null, .null, .null, .null, .null, .null, .null, .int 0, .int 0, .int 0, .null, .null, .null, .null, .null, .null, .null, .int 0, .int 0, .int 0, .null, .null, .int 0, .int 0, .int 0, .int 0, .int 0, .int 0, .int 0, .null, .null, .null, .int 0, .null, .int 0]) := (Pq30.2.2.1 a0 hm24).trans hu28
  have hm32 : a0 ∈ Lq30 := Pq30.1 _ hm24
  have tm32 : Tq30 a0 = (211, 0) := (Pq30.2.1 _ hm24).trans tm24
  have hm33 : q2 ∈ Lq30 := Pq30.1 _ hm25
  have tm33 : Tq30 q2 = (60, 0) := (Pq30.2.1 _ hm25).trans tm25
  have hm34 : q7 ∈ Lq30 := Pq30.1 _ hm26
  have tm34 : Tq30 q7 = (61, 0) := (Pq30.2.1 _ hm26).trans tm26
  have hm35 : q15 ∈ Lq30 := Pq30.1 _ hm27
  have tm35 : Tq30 q15 = (62, 0) := (Pq30.2.1 _ hm27).trans tm27
  have hm36 : q22 ∈ Lq30 := Pq30.1 _ Pq22.2.2.2.1
  have tm36 : Tq30 q22 = (63, 0) := (Pq30.2.1 _ Pq22.2.2.2.1).trans Pq22.2.2.2.2.1
  refine tr_putR Z.1 Z.2.2.2.1 Sq30 hm32 tm32 rfl rfl rfl eq30 rfl (fun _ h => List.mem_cons_of_mem _ (List.mem_append_right _ h)) tyX10_ok nmX10 10 (by decide) (Nat.le_of_ble_eq_true rfl) (Or.inr ⟨hnm, rfl, rfl⟩) (hts _ (List.mem_of_getElem? (i := 10) rfl)) dX10_init_46 rfl rfl (fun Eu37 Hu37 ku37 Su37 ou37 gu37 => ?_)
  have hu37 : Eu37 a0 = .inr (9, [.ref q2, .ref q7, .int 0, .int 0, .int 0, .int 0, .int v12, .ref q15, .int 0, .ref q22, .ref q30, .null, .null, .null, .null, .null, .null, .null, .null, .null, .int 0, .int 0, .int 0, .null, .null, .null, .null, .null, .null, .null, .int 0, .int 0, .int 0, .null, .null, .int 0, .int 0, .int 0, .int 0, .int 0, .int 0, .int 0, .null, .null, .null, .int 0, .null, .int 0]) := gu37
  have Wu37 : Gr a0 [(64, 0), (63, 0), (62, 0), (61, 0), (60, 0)] L τ E Lq30 Tq30 Eu37 := Gr.wr Wq30 ou37 (Or.inl rfl)
  refine lv_aload_n hx hb dX10_init_49 rfl (lv_at hl 0 rfl) ?_
  obtain ⟨v38, ev38, tv38⟩ : ∃ v : Int32, (Int8.ofInt (66)).toInt32 = v ∧ v.toInt = 66 := ⟨_, rfl, by decide +kernel⟩
  refine lv_bipush hx hb dX10_init_50 ev38 ?_
  refine tr_newi Z.1 Z.2.2.2.1 Z.2.2.2.2.2 Su37 (hts _ (List.mem_of_getElem? (i := 4) rfl)) rfl 0 rfl 66 (by omega) (vc_ty _ rfl _) (Nat.le_of_ble_eq_true rfl) (65, 0) rfl rfl rfl (fun i => ⟨(by decide : (-2147483648 : Int) ≤ 0), (by decide : (0 : Int) ≤ 2147483647)⟩) (fun _ => Ab.ne Aq30 (by decide)) (Nat.le_of_ble_eq_true rfl) (Nat.le_of_ble_eq_true rfl) dX10_init_52 (fun Lq39 Tq39 Eq39 q39 Hq39 Sq39 Pq39 => ?_)
  have Wq39 : Gr a0 [(65, 0), (64, 0), (63, 0), (62, 0), (61, 0), (60, 0)] L τ E Lq39 Tq39 Eq39 := Gr.push Wu37 Pq39
  have f40 : q39 ∉ L := Gr.fresh Wu37 Pq39
  have Aq39 : Ab Lq39 Tq39 [(11, 0), (66, 0), (67, 0), (68, 0), (69, 0), (70, 0), (71, 0), (72, 0), (73, 0), (74, 0), (75, 0), (76, 0), (77, 0), (78, 0), (79, 0), (80, 0), (81, 0), (82, 0), (83, 0), (84, 0), (85, 0), (86, 0)] := Ab.push Aq30 Pq39 (by decide) (by decide)
  have eq39 : Eq39 a0 = .inr (9, [.ref q2, .ref q7, .int 0, .int 0, .int 0, .int 0, .int v12, .ref q15, .int 0, .ref q22, .ref q30, .null, .null, .null, .null, .null, .null, .null, .null, .null, .int 0, .int 0, .int 0, .null, .null, .null, .null, .null, .null, .null, .int 0, .int 0, .int 0, .null, .null, .int 0, .int 0, .int 0, .int 0, .int 0, .int 0, .int 0, .null, .null, .null, .int 0, .null, .int 0]) := (Pq39.2.2.1 a0 hm32).trans hu37
  have hm41 : a0 ∈ Lq39 := Pq39.1 _ hm32
  have tm41 : Tq39 a0 = (211, 0) := (Pq39.2.1 _ hm32).trans tm32
  have hm42 : q2 ∈ Lq39 := Pq39.1 _ hm33
  have tm42 : Tq39 q2 = (60, 0) := (Pq39.2.1 _ hm33).trans tm33
  have hm43 : q7 ∈ Lq39 := Pq39.1 _ hm34
  have tm43 : Tq39 q7 = (61, 0) := (Pq39.2.1 _ hm34).trans tm34
  have hm44 : q15 ∈ Lq39 := Pq39.1 _ hm35
  have tm44 : Tq39 q15 = (62, 0) := (Pq39.2.1 _ hm35).trans tm35
  have hm45 : q22 ∈ Lq39 := Pq39.1 _ hm36
  have tm45 : Tq39 q22 = (63, 0) := (Pq39.2.1 _ hm36).trans tm36
  have hm46 : q30 ∈ Lq39 := Pq39.1 _ Pq30.2.2.2.1
  have tm46 : Tq39 q30 = (64, 0) := (Pq39.2.1 _ Pq30.2.2.2.1).trans Pq30.2.2.2.2.1
  refine tr_putR Z.1 Z.2.2.2.1 Sq39 hm41 tm41 rfl rfl rfl eq39 rfl (fun _ h => List.mem_cons_of_mem _ (List.mem_append_right _ h)) tyX10_ok nmX10 11 (by decide) (Nat.le_of_ble_eq_true rfl) (Or.inr ⟨hnm, rfl, rfl⟩) (hts _ (List.mem_of_getElem? (i := 11) rfl)) dX10_init_54 rfl rfl (fun Eu47 Hu47 ku47 Su47 ou47 gu47 => ?_)
  have hu47 : Eu47 a0 = .inr (9, [.ref q2, .ref q7, .int 0, .int 0, .int 0, .int 0, .int v12, .ref q15, .int 0, .ref q22, .ref q30, .ref q39, .null, .null, .null, .null, .null, .null, .null, .null, .int 0, .int 0, .int 0, .null, .null, .null, .null, .null, .null, .null, .int 0, .int 0, .int 0, .null, .null, .int 0, .int 0, .int 0, .int 0, .int 0, .int 0, .int 0, .null, .null, .null, .int 0, .null, .int 0]) := gu47
  have Wu47 : Gr a0 [(65, 0), (64, 0), (63, 0), (62, 0), (61, 0), (60, 0)] L τ E Lq39 Tq39 Eu47 := Gr.wr Wq39 ou47 (Or.inl rfl)
  refine lv_aload_n hx hb dX10_init_57 rfl (lv_at hl 0 rfl) ?_
  obtain ⟨v48, ev48, tv48⟩ : ∃ v : Int32, (Int8.ofInt (66)).toInt32 = v ∧ v.toInt = 66 := ⟨_, rfl, by decide +kernel⟩
  refine lv_bipush hx hb dX10_init_58 ev48 ?_
  refine tr_newi Z.1 Z.2.2.2.1 Z.2.2.2.2.2 Su47 (hts _ (List.mem_of_getElem? (i := 4) rfl)) rfl 0 rfl 66 (by omega) (vc_ty _ rfl _) (Nat.le_of_ble_eq_true rfl) (66, 0) rfl rfl rfl (fun i => ⟨(by decide : (-2147483648 : Int) ≤ 0), (by decide : (0 : Int) ≤ 2147483647)⟩) (fun _ => Ab.ne Aq39 (by decide)) (Nat.le_of_ble_eq_true rfl) (Nat.le_of_ble_eq_true rfl) dX10_init_60 (fun Lq49 Tq49 Eq49 q49 Hq49 Sq49 Pq49 => ?_)
  have Wq49 : Gr a0 [(66, 0), (65, 0), (64, 0), (63, 0), (62, 0), (61, 0), (60, 0)] L τ E Lq49 Tq49 Eq49 := Gr.push Wu47 Pq49
  have f50 : q49 ∉ L := Gr.fresh Wu47 Pq49
  have Aq49 : Ab Lq49 Tq49 [(11, 0), (67, 0), (68, 0), (69, 0), (70, 0), (71, 0), (72, 0), (73, 0), (74, 0), (75, 0), (76, 0), (77, 0), (78, 0), (79, 0), (80, 0), (81, 0), (82, 0), (83, 0), (84, 0), (85, 0), (86, 0)] := Ab.push Aq39 Pq49 (by decide) (by decide)
  have eq49 : Eq49 a0 = .inr (9, [.ref q2, .ref q7, .int 0, .int 0, .int 0, .int 0, .int v12, .ref q15, .int 0, .ref q22, .ref q30, .ref q39, .null, .null, .null, .null, .null, .null, .null, .null, .int 0, .int 0, .int 0, .null, .null, .null, .null, .null, .null, .null, .int 0, .int 0, .int 0, .null, .null, .int 0, .int 0, .int 0, .int 0, .int 0, .int 0, .int 0, .null, .null, .null, .int 0, .null, .int 0]) := (Pq49.2.2.1 a0 hm41).trans hu47
  have hm51 : a0 ∈ Lq49 := Pq49.1 _ hm41
  have tm51 : Tq49 a0 = (211, 0) := (Pq49.2.1 _ hm41).trans tm41
  have hm52 : q2 ∈ Lq49 := Pq49.1 _ hm42
  have tm52 : Tq49 q2 = (60, 0) := (Pq49.2.1 _ hm42).trans tm42
  have hm53 : q7 ∈ Lq49 := Pq49.1 _ hm43
  have tm53 : Tq49 q7 = (61, 0) := (Pq49.2.1 _ hm43).trans tm43
  have hm54 : q15 ∈ Lq49 := Pq49.1 _ hm44
  have tm54 : Tq49 q15 = (62, 0) := (Pq49.2.1 _ hm44).trans tm44
  have hm55 : q22 ∈ Lq49 := Pq49.1 _ hm45
  have tm55 : Tq49 q22 = (63, 0) := (Pq49.2.1 _ hm45).trans tm45
  have hm56 : q30 ∈ Lq49 := Pq49.1 _ hm46
  have tm56 : Tq49 q30 = (64, 0) := (Pq49.2.1 _ hm46).trans tm46
  have hm57 : q39 ∈ Lq49 := Pq49.1 _ Pq39.2.2.2.1
  have tm57 : Tq49 q39 = (65, 0) := (Pq49.2.1 _ Pq39.2.2.2.1).trans Pq39.2.2.2.2.1
  refine tr_putR Z.1 Z.2.2.2.1 Sq49 hm51 tm51 rfl rfl rfl eq49 rfl (fun _ h => List.mem_cons_of_mem _ (List.mem_append_right _ h)) tyX10_ok nmX10 12 (by decide) (Nat.le_of_ble_eq_true rfl) (Or.inr ⟨hnm, rfl, rfl⟩) (hts _ (List.mem_of_getElem? (i := 12) rfl)) dX10_init_62 rfl rfl (fun Eu58 Hu58 ku58 Su58 ou58 gu58 => ?_)
  have hu58 : Eu58 a0 = .inr (9, [.ref q2, .ref q7, .int 0, .int 0, .int 0, .int 0, .int v12, .ref q15, .int 0, .ref q22, .ref q30, .ref q39, .ref q49, .null, .null, .null, .null, .null, .null, .null, .int 0, .int 0, .int 0, .null, .null, .null, .null, .null, .null, .null, .int 0, .int 0, .int 0, .null, .null, .int 0, .int 0, .int 0, .int 0, .int 0, .int 0, .int 0, .null, .null, .null, .int 0, .null, .int 0]) := gu58
  have Wu58 : Gr a0 [(66, 0), (65, 0), (64, 0), (63, 0), (62, 0), (61, 0), (60, 0)] L τ E Lq49 Tq49 Eu58 := Gr.wr Wq49 ou58 (Or.inl rfl)
  refine lv_aload_n hx hb dX10_init_65 rfl (lv_at hl 0 rfl) ?_
  obtain ⟨v59, ev59, tv59⟩ : ∃ v : Int32, (Int8.ofInt (66)).toInt32 = v ∧ v.toInt = 66 := ⟨_, rfl, by decide +kernel⟩
  refine lv_bipush hx hb dX10_init_66 ev59 ?_
  refine tr_newi Z.1 Z.2.2.2.1 Z.2.2.2.2.2 Su58 (hts _ (List.mem_of_getElem? (i := 4) rfl)) rfl 0 rfl 66 (by omega) (vc_ty _ rfl _) (Nat.le_of_ble_eq_true rfl) (67, 0) rfl rfl rfl (fun i => ⟨(by decide : (-2147483648 : Int) ≤ 0), (by decide : (0 : Int) ≤ 2147483647)⟩) (fun _ => Ab.ne Aq49 (by decide)) (Nat.le_of_ble_eq_true rfl) (Nat.le_of_ble_eq_true rfl) dX10_init_68 (fun Lq60 Tq60 Eq60 q60 Hq60 Sq60 Pq60 => ?_)
  have Wq60 : Gr a0 [(67, 0), (66, 0), (65, 0), (64, 0), (63, 0), (62, 0), (61, 0), (60, 0)] L τ E Lq60 Tq60 Eq60 := Gr.push Wu58 Pq60
  have f61 : q60 ∉ L := Gr.fresh Wu58 Pq60
  have Aq60 : Ab Lq60 Tq60 [(11, 0), (68, 0), (69, 0), (70, 0), (71, 0), (72, 0), (73, 0), (74, 0), (75, 0), (76, 0), (77, 0), (78, 0), (79, 0), (80, 0), (81, 0), (82, 0), (83, 0), (84, 0), (85, 0), (86, 0)] := Ab.push Aq49 Pq60 (by decide) (by decide)
  have eq60 : Eq60 a0 = .inr (9, [.ref q2, .ref q7, .int 0, .int 0, .int 0, .int 0, .int v12, .ref q15, .int 0, .ref q22, .ref q30, .ref q39, .ref q49, .null, .null, .null, .null, .null, .null, .null, .int 0, .int 0, .int 0, .null, .null, .null, .null, .null, .null, .null, .int 0, .int 0, .int 0, .null, .null, .int 0, .int 0, .int 0, .int 0, .int 0, .int 0, .int 0, .null, .null, .null, .int 0, .null, .int 0]) := (Pq60.2.2.1 a0 hm51).trans hu58
  have hm62 : a0 ∈ Lq60 := Pq60.1 _ hm51
  have tm62 : Tq60 a0 = (211, 0) := (Pq60.2.1 _ hm51).trans tm51
  have hm63 : q2 ∈ Lq60 := Pq60.1 _ hm52
  have tm63 : Tq60 q2 = (60, 0) := (Pq60.2.1 _ hm52).trans tm52
  have hm64 : q7 ∈ Lq60 := Pq60.1 _ hm53
  have tm64 : Tq60 q7 = (61, 0) := (Pq60.2.1 _ hm53).trans tm53
  have hm65 : q15 ∈ Lq60 := Pq60.1 _ hm54
  have tm65 : Tq60 q15 = (62, 0) := (Pq60.2.1 _ hm54).trans tm54
  have hm66 : q22 ∈ Lq60 := Pq60.1 _ hm55
  have tm66 : Tq60 q22 = (63, 0) := (Pq60.2.1 _ hm55).trans tm55
  have hm67 : q30 ∈ Lq60 := Pq60.1 _ hm56
  have tm67 : Tq60 q30 = (64, 0) := (Pq60.2.1 _ hm56).trans tm56
  have hm68 : q39 ∈ Lq60 := Pq60.1 _ hm57
  have tm68 : Tq60 q39 = (65, 0) := (Pq60.2.1 _ hm57).trans tm57
  have hm69 : q49 ∈ Lq60 := Pq60.1 _ Pq49.2.2.2.1
  have tm69 : Tq60 q49 = (66, 0) := (Pq60.2.1 _ Pq49.2.2.2.1).trans Pq49.2.2.2.2.1
  refine tr_putR Z.1 Z.2.2.2.1 Sq60 hm62 tm62 rfl rfl rfl eq60 rfl (fun _ h => List.mem_cons_of_mem _ (List.mem_append_right _ h)) tyX10_ok nmX10 13 (by decide) (Nat.le_of_ble_eq_true rfl) (Or.inr ⟨hnm, rfl, rfl⟩) (hts _ (List.mem_of_getElem? (i := 13) rfl)) dX10_init_70 rfl rfl (fun Eu70 Hu70 ku70 Su70 ou70 gu70 => ?_)
  have hu70 : Eu70 a0 = .inr (9, [.ref q2, .ref q7, .int 0, .int 0, .int 0, .int 0, .int v12, .ref q15, .int 0, .ref q22, .ref q30, .ref q39, .ref q49, .ref q60, .null, .null, .null, .null, .null, .null, .int 0, .int 0, .int 0, .null, .null, .null, .null, .null, .null, .null, .int 0, .int 0, .int 0, .null, .null, .int 0, .int 0, .int 0, .int 0, .int 0, .int 0, .int 0, .null, .null, .null, .int 0, .null, .int 0]) := gu70
  have Wu70 : Gr a0 [(67, 0), (66, 0), (65, 0), (64, 0), (63, 0), (62, 0), (61, 0), (60, 0)] L τ E Lq60 Tq60 Eu70 := Gr.wr Wq60 ou70 (Or.inl rfl)
  refine lv_aload_n hx hb dX10_init_73 rfl (lv_at hl 0 rfl) ?_
  obtain ⟨v71, ev71, tv71⟩ : ∃ v : Int32, (Int8.ofInt (66)).toInt32 = v ∧ v.toInt = 66 := ⟨_, rfl, by decide +kernel⟩
  refine lv_bipush hx hb dX10_init_74 ev71 ?_
  refine tr_newi Z.1 Z.2.2.2.1 Z.2.2.2.2.2 Su70 (hts _ (List.mem_of_getElem? (i := 4) rfl)) rfl 0 rfl 66 (by omega) (vc_ty _ rfl _) (Nat.le_of_ble_eq_true rfl) (68, 0) rfl rfl rfl (fun i => ⟨(by decide : (-2147483648 : Int) ≤ 0), (by decide : (0 : Int) ≤ 2147483647)⟩) (fun _ => Ab.ne Aq60 (by decide)) (Nat.le_of_ble_eq_true rfl) (Nat.le_of_ble_eq_true rfl) dX10_init_76 (fun Lq72 Tq72 Eq72 q72 Hq72 Sq72 Pq72 => ?_)
  have Wq72 : Gr a0 [(68, 0), (67, 0), (66, 0), (65, 0), (64, 0), (63, 0), (62, 0), (61, 0), (60, 0)] L τ E Lq72 Tq72 Eq72 := Gr.push Wu70 Pq72
  have f73 : q72 ∉ L := Gr.fresh Wu70 Pq72
  have Aq72 : Ab Lq72 Tq72 [(11, 0), (69, 0), (70, 0), (71, 0), (72, 0), (73, 0), (74, 0), (75, 0), (76, 0), (77, 0), (78, 0), (79, 0), (80, 0), (81, 0), (82, 0), (83, 0), (84, 0), (85, 0), (86, 0)] := Ab.push Aq60 Pq72 (by decide) (by decide)
  have eq72 : Eq72 a0 = .inr (9, [.ref q2, .ref q7, .int 0, .int 0, .int 0, .int 0, .int v12, .ref q15, .int 0, .ref q22, .ref q30, .ref q39, .ref q49, .ref q60, .null, .null, .null, .null, .null, .null, .int 0, .int 0, .int 0, .null, .null, .null, .null, .null, .null, .null, .int 0, .int 0, .int 0, .null, .null, .int 0, .int 0, .int 0, .int 0, .int 0, .int 0, .int 0, .null, .null, .null, .int 0, .null, .int 0]) := (Pq72.2.2.1 a0 hm62).trans hu70
  have hm74 : a0 ∈ Lq72 := Pq72.1 _ hm62
  have tm74 : Tq72 a0 = (211, 0) := (Pq72.2.1 _ hm62).trans tm62
  have hm75 : q2 ∈ Lq72 := Pq72.1 _ hm63
  have tm75 : Tq72 q2 = (60, 0) := (Pq72.2.1 _ hm63).trans tm63
  have hm76 : q7 ∈ Lq72 := Pq72.1 _ hm64
  have tm76 : Tq72 q7 = (61, 0) := (Pq72.2.1 _ hm64).trans tm64
  have hm77 : q15 ∈ Lq72 := Pq72.1 _ hm65
  have tm77 : Tq72 q15 = (62, 0) := (Pq72.2.1 _ hm65).trans tm65
  have hm78 : q22 ∈ Lq72 := Pq72.1 _ hm66
  have tm78 : Tq72 q22 = (63, 0) := (Pq72.2.1 _ hm66).trans tm66
  have hm79 : q30 ∈ Lq72 := Pq72.1 _ hm67
  have tm79 : Tq72 q30 = (64, 0) := (Pq72.2.1 _ hm67).trans tm67
  have hm80 : q39 ∈ Lq72 := Pq72.1 _ hm68
  have tm80 : Tq72 q39 = (65, 0) := (Pq72.2.1 _ hm68).trans tm68
  have hm81 : q49 ∈ Lq72 := Pq72.1 _ hm69
  have tm81 : Tq72 q49 = (66, 0) := (Pq72.2.1 _ hm69).trans tm69
  have hm82 : q60 ∈ Lq72 := Pq72.1 _ Pq60.2.2.2.1
  have tm82 : Tq72 q60 = (67, 0) := (Pq72.2.1 _ Pq60.2.2.2.1).trans Pq60.2.2.2.2.1
  refine tr_putR Z.1 Z.2.2.2.1 Sq72 hm74 tm74 rfl rfl rfl eq72 rfl (fun _ h => List.mem_cons_of_mem _ (List.mem_append_right _ h)) tyX10_ok nmX10 14 (by decide) (Nat.le_of_ble_eq_true rfl) (Or.inr ⟨hnm, rfl, rfl⟩) (hts _ (List.mem_of_getElem? (i := 14) rfl)) dX10_init_78 rfl rfl (fun Eu83 Hu83 ku83 Su83 ou83 gu83 => ?_)
  have hu83 : Eu83 a0 = .inr (9, [.ref q2, .ref q7, .int 0, .int 0, .int 0, .int 0, .int v12, .ref q15, .int 0, .ref q22, .ref q30, .ref q39, .ref q49, .ref q60, .ref q72, .null, .null, .null, .null, .null, .int 0, .int 0, .int 0, .null, .null, .null, .null, .null, .null, .null, .int 0, .int 0, .int 0, .null, .null, .int 0, .int 0, .int 0, .int 0, .int 0, .int 0, .int 0, .null, .null, .null, .int 0, .null, .int 0]) := gu83
  have Wu83 : Gr a0 [(68, 0), (67, 0), (66, 0), (65, 0), (64, 0), (63, 0), (62, 0), (61, 0), (60, 0)] L τ E Lq72 Tq72 Eu83 := Gr.wr Wq72 ou83 (Or.inl rfl)
  refine lv_aload_n hx hb dX10_init_81 rfl (lv_at hl 0 rfl) ?_
  obtain ⟨v84, ev84, tv84⟩ : ∃ v : Int32, (Int8.ofInt (66)).toInt32 = v ∧ v.toInt = 66 := ⟨_, rfl, by decide +kernel⟩
  refine lv_bipush hx hb dX10_init_82 ev84 ?_
  refine tr_newi Z.1 Z.2.2.2.1 Z.2.2.2.2.2 Su83 (hts _ (List.mem_of_getElem? (i := 4) rfl)) rfl 0 rfl 66 (by omega) (vc_ty _ rfl _) (Nat.le_of_ble_eq_true rfl) (69, 0) rfl rfl rfl (fun i => ⟨(by decide : (-2147483648 : Int) ≤ 0), (by decide : (0 : Int) ≤ 2147483647)⟩) (fun _ => Ab.ne Aq72 (by decide)) (Nat.le_of_ble_eq_true rfl) (Nat.le_of_ble_eq_true rfl) dX10_init_84 (fun Lq85 Tq85 Eq85 q85 Hq85 Sq85 Pq85 => ?_)
  have Wq85 : Gr a0 [(69, 0), (68, 0), (67, 0), (66, 0), (65, 0), (64, 0), (63, 0), (62, 0), (61, 0), (60, 0)] L τ E Lq85 Tq85 Eq85 := Gr.push Wu83 Pq85
  have f86 : q85 ∉ L := Gr.fresh Wu83 Pq85
  have Aq85 : Ab Lq85 Tq85 [(11, 0), (70, 0), (71, 0), (72, 0), (73, 0), (74, 0), (75, 0), (76, 0), (77, 0), (78, 0), (79, 0), (80, 0), (81, 0), (82, 0), (83, 0), (84, 0), (85, 0), (86, 0)] := Ab.push Aq72 Pq85 (by decide) (by decide)
  have eq85 : Eq85 a0 = .inr (9, [.ref q2, .ref q7, .int 0, .int 0, .int 0, .int 0, .int v12, .ref q15, .int 0, .ref q22, .ref q30, .ref q39, .ref q49, .ref q60, .ref q72, .null, .null, .null, .null, .null, .int 0, .int 0, .int 0, .null, .null, .null, .null, .null, .null, .null, .int 0, .int 0, .int 0, .null, .null, .int 0, .int 0, .int 0, .int 0, .int 0, .int 0, .int 0, .null, .null, .null, .int 0, .null, .int 0]) := (Pq85.2.2.1 a0 hm74).trans hu83
  have hm87 : a0 ∈ Lq85 := Pq85.1 _ hm74
  have tm87 : Tq85 a0 = (211, 0) := (Pq85.2.1 _ hm74).trans tm74
  have hm88 : q2 ∈ Lq85 := Pq85.1 _ hm75
  have tm88 : Tq85 q2 = (60, 0) := (Pq85.2.1 _ hm75).trans tm75
  have hm89 : q7 ∈ Lq85 := Pq85.1 _ hm76
  have tm89 : Tq85 q7 = (61, 0) := (Pq85.2.1 _ hm76).trans tm76
  have hm90 : q15 ∈ Lq85 := Pq85.1 _ hm77
  have tm90 : Tq85 q15 = (62, 0) := (Pq85.2.1 _ hm77).trans tm77
  have hm91 : q22 ∈ Lq85 := Pq85.1 _ hm78
  have tm91 : Tq85 q22 = (63, 0) := (Pq85.2.1 _ hm78).trans tm78
  have hm92 : q30 ∈ Lq85 := Pq85.1 _ hm79
  have tm92 : Tq85 q30 = (64, 0) := (Pq85.2.1 _ hm79).trans tm79
  have hm93 : q39 ∈ Lq85 := Pq85.1 _ hm80
  have tm93 : Tq85 q39 = (65, 0) := (Pq85.2.1 _ hm80).trans tm80
  have hm94 : q49 ∈ Lq85 := Pq85.1 _ hm81
  have tm94 : Tq85 q49 = (66, 0) := (Pq85.2.1 _ hm81).trans tm81
  have hm95 : q60 ∈ Lq85 := Pq85.1 _ hm82
  have tm95 : Tq85 q60 = (67, 0) := (Pq85.2.1 _ hm82).trans tm82
  have hm96 : q72 ∈ Lq85 := Pq85.1 _ Pq72.2.2.2.1
  have tm96 : Tq85 q72 = (68, 0) := (Pq85.2.1 _ Pq72.2.2.2.1).trans Pq72.2.2.2.2.1
  refine tr_putR Z.1 Z.2.2.2.1 Sq85 hm87 tm87 rfl rfl rfl eq85 rfl (fun _ h => List.mem_cons_of_mem _ (List.mem_append_right _ h)) tyX10_ok nmX10 15 (by decide) (Nat.le_of_ble_eq_true rfl) (Or.inr ⟨hnm, rfl, rfl⟩) (hts _ (List.mem_of_getElem? (i := 15) rfl)) dX10_init_86 rfl rfl (fun Eu97 Hu97 ku97 Su97 ou97 gu97 => ?_)
  have hu97 : Eu97 a0 = .inr (9, [.ref q2, .ref q7, .int 0, .int 0, .int 0, .int 0, .int v12, .ref q15, .int 0, .ref q22, .ref q30, .ref q39, .ref q49, .ref q60, .ref q72, .ref q85, .null, .null, .null, .null, .int 0, .int 0, .int 0, .null, .null, .null, .null, .null, .null, .null, .int 0, .int 0, .int 0, .null, .null, .int 0, .int 0, .int 0, .int 0, .int 0, .int 0, .int 0, .null, .null, .null, .int 0, .null, .int 0]) := gu97
  have Wu97 : Gr a0 [(69, 0), (68, 0), (67, 0), (66, 0), (65, 0), (64, 0), (63, 0), (62, 0), (61, 0), (60, 0)] L τ E Lq85 Tq85 Eu97 := Gr.wr Wq85 ou97 (Or.inl rfl)
  refine lv_aload_n hx hb dX10_init_89 rfl (lv_at hl 0 rfl) ?_
  obtain ⟨v98, ev98, tv98⟩ : ∃ v : Int32, (Int8.ofInt (66)).toInt32 = v ∧ v.toInt = 66 := ⟨_, rfl, by decide +kernel⟩
  refine lv_bipush hx hb dX10_init_90 ev98 ?_
  refine tr_newi Z.1 Z.2.2.2.1 Z.2.2.2.2.2 Su97 (hts _ (List.mem_of_getElem? (i := 4) rfl)) rfl 0 rfl 66 (by omega) (vc_ty _ rfl _) (Nat.le_of_ble_eq_true rfl) (70, 0) rfl rfl rfl (fun i => ⟨(by decide : (-2147483648 : Int) ≤ 0), (by decide : (0 : Int) ≤ 2147483647)⟩) (fun _ => Ab.ne Aq85 (by decide)) (Nat.le_of_ble_eq_true rfl) (Nat.le_of_ble_eq_true rfl) dX10_init_92 (fun Lq99 Tq99 Eq99 q99 Hq99 Sq99 Pq99 => ?_)
  have Wq99 : Gr a0 [(70, 0), (69, 0), (68, 0), (67, 0), (66, 0), (65, 0), (64, 0), (63, 0), (62, 0), (61, 0), (60, 0)] L τ E Lq99 Tq99 Eq99 := Gr.push Wu97 Pq99
  have f100 : q99 ∉ L := Gr.fresh Wu97 Pq99
  have Aq99 : Ab Lq99 Tq99 [(11, 0), (71, 0), (72, 0), (73, 0), (74, 0), (75, 0), (76, 0), (77, 0), (78, 0), (79, 0), (80, 0), (81, 0), (82, 0), (83, 0), (84, 0), (85, 0), (86, 0)] := Ab.push Aq85 Pq99 (by decide) (by decide)
  have eq99 : Eq99 a0 = .inr (9, [.ref q2, .ref q7, .int 0, .int 0, .int 0, .int 0, .int v12, .ref q15, .int 0, .ref q22, .ref q30, .ref q39, .ref q49, .ref q60, .ref q72, .ref q85, .null, .null, .null, .null, .int 0, .int 0, .int 0, .null, .null, .null, .null, .null, .null, .null, .int 0, .int 0, .int 0, .null, .null, .int 0, .int 0, .int 0, .int 0, .int 0, .int 0, .int 0, .null, .null, .null, .int 0, .null, .int 0]) := (Pq99.2.2.1 a0 hm87).trans hu97
  have hm101 : a0 ∈ Lq99 := Pq99.1 _ hm87
  have tm101 : Tq99 a0 = (211, 0) := (Pq99.2.1 _ hm87).trans tm87
  have hm102 : q2 ∈ Lq99 := Pq99.1 _ hm88
  have tm102 : Tq99 q2 = (60, 0) := (Pq99.2.1 _ hm88).trans tm88
  have hm103 : q7 ∈ Lq99 := Pq99.1 _ hm89
  have tm103 : Tq99 q7 = (61, 0) := (Pq99.2.1 _ hm89).trans tm89
  have hm104 : q15 ∈ Lq99 := Pq99.1 _ hm90
  have tm104 : Tq99 q15 = (62, 0) := (Pq99.2.1 _ hm90).trans tm90
  have hm105 : q22 ∈ Lq99 := Pq99.1 _ hm91
  have tm105 : Tq99 q22 = (63, 0) := (Pq99.2.1 _ hm91).trans tm91
  have hm106 : q30 ∈ Lq99 := Pq99.1 _ hm92
  have tm106 : Tq99 q30 = (64, 0) := (Pq99.2.1 _ hm92).trans tm92
  have hm107 : q39 ∈ Lq99 := Pq99.1 _ hm93
  have tm107 : Tq99 q39 = (65, 0) := (Pq99.2.1 _ hm93).trans tm93
  have hm108 : q49 ∈ Lq99 := Pq99.1 _ hm94
  have tm108 : Tq99 q49 = (66, 0) := (Pq99.2.1 _ hm94).trans tm94
  have hm109 : q60 ∈ Lq99 := Pq99.1 _ hm95
  have tm109 : Tq99 q60 = (67, 0) := (Pq99.2.1 _ hm95).trans tm95
  have hm110 : q72 ∈ Lq99 := Pq99.1 _ hm96
  have tm110 : Tq99 q72 = (68, 0) := (Pq99.2.1 _ hm96).trans tm96
  have hm111 : q85 ∈ Lq99 := Pq99.1 _ Pq85.2.2.2.1
  have tm111 : Tq99 q85 = (69, 0) := (Pq99.2.1 _ Pq85.2.2.2.1).trans Pq85.2.2.2.2.1
  refine tr_putR Z.1 Z.2.2.2.1 Sq99 hm101 tm101 rfl rfl rfl eq99 rfl (fun _ h => List.mem_cons_of_mem _ (List.mem_append_right _ h)) tyX10_ok nmX10 16 (by decide) (Nat.le_of_ble_eq_true rfl) (Or.inr ⟨hnm, rfl, rfl⟩) (hts _ (List.mem_of_getElem? (i := 16) rfl)) dX10_init_94 rfl rfl (fun Eu112 Hu112 ku112 Su112 ou112 gu112 => ?_)
  have hu112 : Eu112 a0 = .inr (9, [.ref q2, .ref q7, .int 0, .int 0, .int 0, .int 0, .int v12, .ref q15, .int 0, .ref q22, .ref q30, .ref q39, .ref q49, .ref q60, .ref q72, .ref q85, .ref q99, .null, .null, .null, .int 0, .int 0, .int 0, .null, .null, .null, .null, .null, .null, .null, .int 0, .int 0, .int 0, .null, .null, .int 0, .int 0, .int 0, .int 0, .int 0, .int 0, .int 0, .null, .null, .null, .int 0, .null, .int 0]) := gu112
  have Wu112 : Gr a0 [(70, 0), (69, 0), (68, 0), (67, 0), (66, 0), (65, 0), (64, 0), (63, 0), (62, 0), (61, 0), (60, 0)] L τ E Lq99 Tq99 Eu112 := Gr.wr Wq99 ou112 (Or.inl rfl)
  refine lv_aload_n hx hb dX10_init_97 rfl (lv_at hl 0 rfl) ?_
  obtain ⟨v113, ev113, tv113⟩ : ∃ v : Int32, (Int8.ofInt (66)).toInt32 = v ∧ v.toInt = 66 := ⟨_, rfl, by decide +kernel⟩
  refine lv_bipush hx hb dX10_init_98 ev113 ?_
  refine tr_newi Z.1 Z.2.2.2.1 Z.2.2.2.2.2 Su112 (hts _ (List.mem_of_getElem? (i := 4) rfl)) rfl 0 rfl 66 (by omega) (vc_ty _ rfl _) (Nat.le_of_ble_eq_true rfl) (71, 0) rfl rfl rfl (fun i => ⟨(by decide : (-2147483648 : Int) ≤ 0), (by decide : (0 : Int) ≤ 2147483647)⟩) (fun _ => Ab.ne Aq99 (by decide)) (Nat.le_of_ble_eq_true rfl) (Nat.le_of_ble_eq_true rfl) dX10_init_100 (fun Lq114 Tq114 Eq114 q114 Hq114 Sq114 Pq114 => ?_)
  have Wq114 : Gr a0 [(71, 0), (70, 0), (69, 0), (68, 0), (67, 0), (66, 0), (65, 0), (64, 0), (63, 0), (62, 0), (61, 0), (60, 0)] L τ E Lq114 Tq114 Eq114 := Gr.push Wu112 Pq114
  have f115 : q114 ∉ L := Gr.fresh Wu112 Pq114
  have Aq114 : Ab Lq114 Tq114 [(11, 0), (72, 0), (73, 0), (74, 0), (75, 0), (76, 0), (77, 0), (78, 0), (79, 0), (80, 0), (81, 0), (82, 0), (83, 0), (84, 0), (85, 0), (86, 0)] := Ab.push Aq99 Pq114 (by decide) (by decide)
  have eq114 : Eq114 a0 = .inr (9, [.ref q2, .ref q7, .int 0, .int 0, .int 0, .int 0, .int v12, .ref q15, .int 0, .ref q22, .ref q30, .ref q39, .ref q49, .ref q60, .ref q72, .ref q85, .ref q99, .null, .null, .null, .int 0, .int 0, .int 0, .null, .null, .null, .null, .null, .null, .null, .int 0, .int 0, .int 0, .null, .null, .int 0, .int 0, .int 0, .int 0, .int 0, .int 0, .int 0, .null, .null, .null, .int 0, .null, .int 0]) := (Pq114.2.2.1 a0 hm101).trans hu112
  have hm116 : a0 ∈ Lq114 := Pq114.1 _ hm101
  have tm116 : Tq114 a0 = (211, 0) := (Pq114.2.1 _ hm101).trans tm101
  have hm117 : q2 ∈ Lq114 := Pq114.1 _ hm102
  have tm117 : Tq114 q2 = (60, 0) := (Pq114.2.1 _ hm102).trans tm102
  have hm118 : q7 ∈ Lq114 := Pq114.1 _ hm103
  have tm118 : Tq114 q7 = (61, 0) := (Pq114.2.1 _ hm103).trans tm103
  have hm119 : q15 ∈ Lq114 := Pq114.1 _ hm104
  have tm119 : Tq114 q15 = (62, 0) := (Pq114.2.1 _ hm104).trans tm104
  have hm120 : q22 ∈ Lq114 := Pq114.1 _ hm105
  have tm120 : Tq114 q22 = (63, 0) := (Pq114.2.1 _ hm105).trans tm105
  have hm121 : q30 ∈ Lq114 := Pq114.1 _ hm106
  have tm121 : Tq114 q30 = (64, 0) := (Pq114.2.1 _ hm106).trans tm106
  have hm122 : q39 ∈ Lq114 := Pq114.1 _ hm107
  have tm122 : Tq114 q39 = (65, 0) := (Pq114.2.1 _ hm107).trans tm107
  have hm123 : q49 ∈ Lq114 := Pq114.1 _ hm108
  have tm123 : Tq114 q49 = (66, 0) := (Pq114.2.1 _ hm108).trans tm108
  have hm124 : q60 ∈ Lq114 := Pq114.1 _ hm109
  have tm124 : Tq114 q60 = (67, 0) := (Pq114.2.1 _ hm109).trans tm109
  have hm125 : q72 ∈ Lq114 := Pq114.1 _ hm110
  have tm125 : Tq114 q72 = (68, 0) := (Pq114.2.1 _ hm110).trans tm110
  have hm126 : q85 ∈ Lq114 := Pq114.1 _ hm111
  have tm126 : Tq114 q85 = (69, 0) := (Pq114.2.1 _ hm111).trans tm111
  have hm127 : q99 ∈ Lq114 := Pq114.1 _ Pq99.2.2.2.1
  have tm127 : Tq114 q99 = (70, 0) := (Pq114.2.1 _ Pq99.2.2.2.1).trans Pq99.2.2.2.2.1
  refine tr_putR Z.1 Z.2.2.2.1 Sq114 hm116 tm116 rfl rfl rfl eq114 rfl (fun _ h => List.mem_cons_of_mem _ (List.mem_append_right _ h)) tyX10_ok nmX10 17 (by decide) (Nat.le_of_ble_eq_true rfl) (Or.inr ⟨hnm, rfl, rfl⟩) (hts _ (List.mem_of_getElem? (i := 17) rfl)) dX10_init_102 rfl rfl (fun Eu128 Hu128 ku128 Su128 ou128 gu128 => ?_)
  have hu128 : Eu128 a0 = .inr (9, [.ref q2, .ref q7, .int 0, .int 0, .int 0, .int 0, .int v12, .ref q15, .int 0, .ref q22, .ref q30, .ref q39, .ref q49, .ref q60, .ref q72, .ref q85, .ref q99, .ref q114, .null, .null, .int 0, .int 0, .int 0, .null, .null, .null, .null, .null, .null, .null, .int 0, .int 0, .int 0, .null, .null, .int 0, .int 0, .int 0, .int 0, .int 0, .int 0, .int 0, .null, .null, .null, .int 0, .null, .int 0]) := gu128
  have Wu128 : Gr a0 [(71, 0), (70, 0), (69, 0), (68, 0), (67, 0), (66, 0), (65, 0), (64, 0), (63, 0), (62, 0), (61, 0), (60, 0)] L τ E Lq114 Tq114 Eu128 := Gr.wr Wq114 ou128 (Or.inl rfl)
  refine lv_aload_n hx hb dX10_init_105 rfl (lv_at hl 0 rfl) ?_
  obtain ⟨v129, ev129, tv129⟩ : ∃ v : Int32, (Int8.ofInt (120)).toInt32 = v ∧ v.toInt = 120 := ⟨_, rfl, by decide +kernel⟩
  refine lv_bipush hx hb dX10_init_106 ev129 ?_
  refine tr_newi Z.1 Z.2.2.2.1 Z.2.2.2.2.2 Su128 (hts _ (List.mem_of_getElem? (i := 18) rfl)) rfl 1 rfl 120 (by omega) (vc_ty _ rfl _) (Nat.le_of_ble_eq_true rfl) (72, 0) rfl rfl rfl (fun i => ⟨(by decide : (-128 : Int) ≤ 0), (by decide : (0 : Int) ≤ 127)⟩) (fun _ => Ab.ne Aq114 (by decide)) (Nat.le_of_ble_eq_true rfl) (Nat.le_of_ble_eq_true rfl) dX10_init_108 (fun Lq130 Tq130 Eq130 q130 Hq130 Sq130 Pq130 => ?_)
  have Wq130 : Gr a0 [(72, 0), (71, 0), (70, 0), (69, 0), (68, 0), (67, 0), (66, 0), (65, 0), (64, 0), (63, 0), (62, 0), (61, 0), (60, 0)] L τ E Lq130 Tq130 Eq130 := Gr.push Wu128 Pq130
  have f131 : q130 ∉ L := Gr.fresh Wu128 Pq130
  have Aq130 : Ab Lq130 Tq130 [(11, 0), (73, 0), (74, 0), (75, 0), (76, 0), (77, 0), (78, 0), (79, 0), (80, 0), (81, 0), (82, 0), (83, 0), (84, 0), (85, 0), (86, 0)] := Ab.push Aq114 Pq130 (by decide) (by decide)
  have eq130 : Eq130 a0 = .inr (9, [.ref q2, .ref q7, .int 0, .int 0, .int 0, .int 0, .int v12, .ref q15, .int 0, .ref q22, .ref q30, .ref q39, .ref q49, .ref q60, .ref q72, .ref q85, .ref q99, .ref q114, .null, .null, .int 0, .int 0, .int 0, .null, .null, .null, .null, .null, .null, .null, .int 0, .int 0, .int 0, .null, .null, .int 0, .int 0, .int 0, .int 0, .int 0, .int 0, .int 0, .null, .null, .null, .int 0, .null, .int 0]) := (Pq130.2.2.1 a0 hm116).trans hu128
  have hm132 : a0 ∈ Lq130 := Pq130.1 _ hm116
  have tm132 : Tq130 a0 = (211, 0) := (Pq130.2.1 _ hm116).trans tm116
  have hm133 : q2 ∈ Lq130 := Pq130.1 _ hm117
  have tm133 : Tq130 q2 = (60, 0) := (Pq130.2.1 _ hm117).trans tm117
  have hm134 : q7 ∈ Lq130 := Pq130.1 _ hm118
  have tm134 : Tq130 q7 = (61, 0) := (Pq130.2.1 _ hm118).trans tm118
  have hm135 : q15 ∈ Lq130 := Pq130.1 _ hm119
  have tm135 : Tq130 q15 = (62, 0) := (Pq130.2.1 _ hm119).trans tm119
  have hm136 : q22 ∈ Lq130 := Pq130.1 _ hm120
  have tm136 : Tq130 q22 = (63, 0) := (Pq130.2.1 _ hm120).trans tm120
  have hm137 : q30 ∈ Lq130 := Pq130.1 _ hm121
  have tm137 : Tq130 q30 = (64, 0) := (Pq130.2.1 _ hm121).trans tm121
  have hm138 : q39 ∈ Lq130 := Pq130.1 _ hm122
  have tm138 : Tq130 q39 = (65, 0) := (Pq130.2.1 _ hm122).trans tm122
  have hm139 : q49 ∈ Lq130 := Pq130.1 _ hm123
  have tm139 : Tq130 q49 = (66, 0) := (Pq130.2.1 _ hm123).trans tm123
  have hm140 : q60 ∈ Lq130 := Pq130.1 _ hm124
  have tm140 : Tq130 q60 = (67, 0) := (Pq130.2.1 _ hm124).trans tm124
  have hm141 : q72 ∈ Lq130 := Pq130.1 _ hm125
  have tm141 : Tq130 q72 = (68, 0) := (Pq130.2.1 _ hm125).trans tm125
  have hm142 : q85 ∈ Lq130 := Pq130.1 _ hm126
  have tm142 : Tq130 q85 = (69, 0) := (Pq130.2.1 _ hm126).trans tm126
  have hm143 : q99 ∈ Lq130 := Pq130.1 _ hm127
  have tm143 : Tq130 q99 = (70, 0) := (Pq130.2.1 _ hm127).trans tm127
  have hm144 : q114 ∈ Lq130 := Pq130.1 _ Pq114.2.2.2.1
  have tm144 : Tq130 q114 = (71, 0) := (Pq130.2.1 _ Pq114.2.2.2.1).trans Pq114.2.2.2.2.1
  refine tr_putR Z.1 Z.2.2.2.1 Sq130 hm132 tm132 rfl rfl rfl eq130 rfl (fun _ h => List.mem_cons_of_mem _ (List.mem_append_right _ h)) tyX10_ok nmX10 18 (by decide) (Nat.le_of_ble_eq_true rfl) (Or.inr ⟨hnm, rfl, rfl⟩) (hts _ (List.mem_of_getElem? (i := 19) rfl)) dX10_init_110 rfl rfl (fun Eu145 Hu145 ku145 Su145 ou145 gu145 => ?_)
  have hu145 : Eu145 a0 = .inr (9, [.ref q2, .ref q7, .int 0, .int 0, .int 0, .int 0, .int v12, .ref q15, .int 0, .ref q22, .ref q30, .ref q39, .ref q49, .ref q60, .ref q72, .ref q85, .ref q99, .ref q114, .ref q130, .null, .int 0, .int 0, .int 0, .null, .null, .null, .null, .null, .null, .null, .int 0, .int 0, .int 0, .null, .null, .int 0, .int 0, .int 0, .int 0, .int 0, .int 0, .int 0, .null, .null, .null, .int 0, .null, .int 0]) := gu145
  have Wu145 : Gr a0 [(72, 0), (71, 0), (70, 0), (69, 0), (68, 0), (67, 0), (66, 0), (65, 0), (64, 0), (63, 0), (62, 0), (61, 0), (60, 0)] L τ E Lq130 Tq130 Eu145 := Gr.wr Wq130 ou145 (Or.inl rfl)
  refine lv_aload_n hx hb dX10_init_113 rfl (lv_at hl 0 rfl) ?_
  obtain ⟨v146, ev146, tv146⟩ : ∃ v : Int32, (Int8.ofInt (120)).toInt32 = v ∧ v.toInt = 120 := ⟨_, rfl, by decide +kernel⟩
  refine lv_bipush hx hb dX10_init_114 ev146 ?_
  refine tr_newi Z.1 Z.2.2.2.1 Z.2.2.2.2.2 Su145 (hts _ (List.mem_of_getElem? (i := 18) rfl)) rfl 1 rfl 120 (by omega) (vc_ty _ rfl _) (Nat.le_of_ble_eq_true rfl) (73, 0) rfl rfl rfl (fun i => ⟨(by decide : (-128 : Int) ≤ 0), (by decide : (0 : Int) ≤ 127)⟩) (fun _ => Ab.ne Aq130 (by decide)) (Nat.le_of_ble_eq_true rfl) (Nat.le_of_ble_eq_true rfl) dX10_init_116 (fun Lq147 Tq147 Eq147 q147 Hq147 Sq147 Pq147 => ?_)
  have Wq147 : Gr a0 [(73, 0), (72, 0), (71, 0), (70, 0), (69, 0), (68, 0), (67, 0), (66, 0), (65, 0), (64, 0), (63, 0), (62, 0), (61, 0), (60, 0)] L τ E Lq147 Tq147 Eq147 := Gr.push Wu145 Pq147
  have f148 : q147 ∉ L := Gr.fresh Wu145 Pq147
  have Aq147 : Ab Lq147 Tq147 [(11, 0), (74, 0), (75, 0), (76, 0), (77, 0), (78, 0), (79, 0), (80, 0), (81, 0), (82, 0), (83, 0), (84, 0), (85, 0), (86, 0)] := Ab.push Aq130 Pq147 (by decide) (by decide)
  have eq147 : Eq147 a0 = .inr (9, [.ref q2, .ref q7, .int 0, .int 0, .int 0, .int 0, .int v12, .ref q15, .int 0, .ref q22, .ref q30, .ref q39, .ref q49, .ref q60, .ref q72, .ref q85, .ref q99, .ref q114, .ref q130, .null, .int 0, .int 0, .int 0, .null, .null, .null, .null, .null, .null, .null, .int 0, .int 0, .int 0, .null, .null, .int 0, .int 0, .int 0, .int 0, .int 0, .int 0, .int 0, .null, .null, .null, .int 0, .null, .int 0]) := (Pq147.2.2.1 a0 hm132).trans hu145
  have hm149 : a0 ∈ Lq147 := Pq147.1 _ hm132
  have tm149 : Tq147 a0 = (211, 0) := (Pq147.2.1 _ hm132).trans tm132
  have hm150 : q2 ∈ Lq147 := Pq147.1 _ hm133
  have tm150 : Tq147 q2 = (60, 0) := (Pq147.2.1 _ hm133).trans tm133
  have hm151 : q7 ∈ Lq147 := Pq147.1 _ hm134
  have tm151 : Tq147 q7 = (61, 0) := (Pq147.2.1 _ hm134).trans tm134
  have hm152 : q15 ∈ Lq147 := Pq147.1 _ hm135
  have tm152 : Tq147 q15 = (62, 0) := (Pq147.2.1 _ hm135).trans tm135
  have hm153 : q22 ∈ Lq147 := Pq147.1 _ hm136
  have tm153 : Tq147 q22 = (63, 0) := (Pq147.2.1 _ hm136).trans tm136
  have hm154 : q30 ∈ Lq147 := Pq147.1 _ hm137
  have tm154 : Tq147 q30 = (64, 0) := (Pq147.2.1 _ hm137).trans tm137
  have hm155 : q39 ∈ Lq147 := Pq147.1 _ hm138
  have tm155 : Tq147 q39 = (65, 0) := (Pq147.2.1 _ hm138).trans tm138
  have hm156 : q49 ∈ Lq147 := Pq147.1 _ hm139
  have tm156 : Tq147 q49 = (66, 0) := (Pq147.2.1 _ hm139).trans tm139
  have hm157 : q60 ∈ Lq147 := Pq147.1 _ hm140
  have tm157 : Tq147 q60 = (67, 0) := (Pq147.2.1 _ hm140).trans tm140
  have hm158 : q72 ∈ Lq147 := Pq147.1 _ hm141
  have tm158 : Tq147 q72 = (68, 0) := (Pq147.2.1 _ hm141).trans tm141
  have hm159 : q85 ∈ Lq147 := Pq147.1 _ hm142
  have tm159 : Tq147 q85 = (69, 0) := (Pq147.2.1 _ hm142).trans tm142
  have hm160 : q99 ∈ Lq147 := Pq147.1 _ hm143
  have tm160 : Tq147 q99 = (70, 0) := (Pq147.2.1 _ hm143).trans tm143
  have hm161 : q114 ∈ Lq147 := Pq147.1 _ hm144
  have tm161 : Tq147 q114 = (71, 0) := (Pq147.2.1 _ hm144).trans tm144
  have hm162 : q130 ∈ Lq147 := Pq147.1 _ Pq130.2.2.2.1
  have tm162 : Tq147 q130 = (72, 0) := (Pq147.2.1 _ Pq130.2.2.2.1).trans Pq130.2.2.2.2.1
  refine tr_putR Z.1 Z.2.2.2.1 Sq147 hm149 tm149 rfl rfl rfl eq147 rfl (fun _ h => List.mem_cons_of_mem _ (List.mem_append_right _ h)) tyX10_ok nmX10 19 (by decide) (Nat.le_of_ble_eq_true rfl) (Or.inr ⟨hnm, rfl, rfl⟩) (hts _ (List.mem_of_getElem? (i := 20) rfl)) dX10_init_118 rfl rfl (fun Eu163 Hu163 ku163 Su163 ou163 gu163 => ?_)
  have hu163 : Eu163 a0 = .inr (9, [.ref q2, .ref q7, .int 0, .int 0, .int 0, .int 0, .int v12, .ref q15, .int 0, .ref q22, .ref q30, .ref q39, .ref q49, .ref q60, .ref q72, .ref q85, .ref q99, .ref q114, .ref q130, .ref q147, .int 0, .int 0, .int 0, .null, .null, .null, .null, .null, .null, .null, .int 0, .int 0, .int 0, .null, .null, .int 0, .int 0, .int 0, .int 0, .int 0, .int 0, .int 0, .null, .null, .null, .int 0, .null, .int 0]) := gu163
  have Wu163 : Gr a0 [(73, 0), (72, 0), (71, 0), (70, 0), (69, 0), (68, 0), (67, 0), (66, 0), (65, 0), (64, 0), (63, 0), (62, 0), (61, 0), (60, 0)] L τ E Lq147 Tq147 Eu163 := Gr.wr Wq147 ou163 (Or.inl rfl)
  refine lv_aload_n hx hb dX10_init_121 rfl (lv_at hl 0 rfl) ?_
  obtain ⟨v164, ev164, tv164⟩ : ∃ v : Int32, (Int8.ofInt (50)).toInt32 = v ∧ v.toInt = 50 := ⟨_, rfl, by decide +kernel⟩
  refine lv_bipush hx hb dX10_init_122 ev164 ?_
  refine tr_newi Z.1 Z.2.2.2.1 Z.2.2.2.2.2 Su163 (hts _ (List.mem_of_getElem? (i := 21) rfl)) rfl 2 rfl 50 (by omega) (vc_ty _ rfl _) (Nat.le_of_ble_eq_true rfl) (74, 0) rfl rfl rfl (fun i => ⟨(by decide : (0 : Int) ≤ 0), (by decide : (0 : Int) ≤ 1)⟩) (fun _ => Ab.ne Aq147 (by decide)) (Nat.le_of_ble_eq_true rfl) (Nat.le_of_ble_eq_true rfl) dX10_init_124 (fun Lq165 Tq165 Eq165 q165 Hq165 Sq165 Pq165 => ?_)
  have Wq165 : Gr a0 [(74, 0), (73, 0), (72, 0), (71, 0), (70, 0), (69, 0), (68, 0), (67, 0), (66, 0), (65, 0), (64, 0), (63, 0), (62, 0), (61, 0), (60, 0)] L τ E Lq165 Tq165 Eq165 := Gr.push Wu163 Pq165
  have f166 : q165 ∉ L := Gr.fresh Wu163 Pq165
  have Aq165 : Ab Lq165 Tq165 [(11, 0), (75, 0), (76, 0), (77, 0), (78, 0), (79, 0), (80, 0), (81, 0), (82, 0), (83, 0), (84, 0), (85, 0), (86, 0)] := Ab.push Aq147 Pq165 (by decide) (by decide)
  have eq165 : Eq165 a0 = .inr (9, [.ref q2, .ref q7, .int 0, .int 0, .int 0, .int 0, .int v12, .ref q15, .int 0, .ref q22, .ref q30, .ref q39, .ref q49, .ref q60, .ref q72, .ref q85, .ref q99, .ref q114, .ref q130, .ref q147, .int 0, .int 0, .int 0, .null, .null, .null, .null, .null, .null, .null, .int 0, .int 0, .int 0, .null, .null, .int 0, .int 0, .int 0, .int 0, .int 0, .int 0, .int 0, .null, .null, .null, .int 0, .null, .int 0]) := (Pq165.2.2.1 a0 hm149).trans hu163
  have hm167 : a0 ∈ Lq165 := Pq165.1 _ hm149
  have tm167 : Tq165 a0 = (211, 0) := (Pq165.2.1 _ hm149).trans tm149
  have hm168 : q2 ∈ Lq165 := Pq165.1 _ hm150
  have tm168 : Tq165 q2 = (60, 0) := (Pq165.2.1 _ hm150).trans tm150
  have hm169 : q7 ∈ Lq165 := Pq165.1 _ hm151
  have tm169 : Tq165 q7 = (61, 0) := (Pq165.2.1 _ hm151).trans tm151
  have hm170 : q15 ∈ Lq165 := Pq165.1 _ hm152
  have tm170 : Tq165 q15 = (62, 0) := (Pq165.2.1 _ hm152).trans tm152
  have hm171 : q22 ∈ Lq165 := Pq165.1 _ hm153
  have tm171 : Tq165 q22 = (63, 0) := (Pq165.2.1 _ hm153).trans tm153
  have hm172 : q30 ∈ Lq165 := Pq165.1 _ hm154
  have tm172 : Tq165 q30 = (64, 0) := (Pq165.2.1 _ hm154).trans tm154
  have hm173 : q39 ∈ Lq165 := Pq165.1 _ hm155
  have tm173 : Tq165 q39 = (65, 0) := (Pq165.2.1 _ hm155).trans tm155
  have hm174 : q49 ∈ Lq165 := Pq165.1 _ hm156
  have tm174 : Tq165 q49 = (66, 0) := (Pq165.2.1 _ hm156).trans tm156
  have hm175 : q60 ∈ Lq165 := Pq165.1 _ hm157
  have tm175 : Tq165 q60 = (67, 0) := (Pq165.2.1 _ hm157).trans tm157
  have hm176 : q72 ∈ Lq165 := Pq165.1 _ hm158
  have tm176 : Tq165 q72 = (68, 0) := (Pq165.2.1 _ hm158).trans tm158
  have hm177 : q85 ∈ Lq165 := Pq165.1 _ hm159
  have tm177 : Tq165 q85 = (69, 0) := (Pq165.2.1 _ hm159).trans tm159
  have hm178 : q99 ∈ Lq165 := Pq165.1 _ hm160
  have tm178 : Tq165 q99 = (70, 0) := (Pq165.2.1 _ hm160).trans tm160
  have hm179 : q114 ∈ Lq165 := Pq165.1 _ hm161
  have tm179 : Tq165 q114 = (71, 0) := (Pq165.2.1 _ hm161).trans tm161
  have hm180 : q130 ∈ Lq165 := Pq165.1 _ hm162
  have tm180 : Tq165 q130 = (72, 0) := (Pq165.2.1 _ hm162).trans tm162
  have hm181 : q147 ∈ Lq165 := Pq165.1 _ Pq147.2.2.2.1
  have tm181 : Tq165 q147 = (73, 0) := (Pq165.2.1 _ Pq147.2.2.2.1).trans Pq147.2.2.2.2.1
  refine tr_putR Z.1 Z.2.2.2.1 Sq165 hm167 tm167 rfl rfl rfl eq165 rfl (fun _ h => List.mem_cons_of_mem _ (List.mem_append_right _ h)) tyX10_ok nmX10 23 (by decide) (Nat.le_of_ble_eq_true rfl) (Or.inr ⟨hnm, rfl, rfl⟩) (hts _ (List.mem_of_getElem? (i := 22) rfl)) dX10_init_126 rfl rfl (fun Eu182 Hu182 ku182 Su182 ou182 gu182 => ?_)
  have hu182 : Eu182 a0 = .inr (9, [.ref q2, .ref q7, .int 0, .int 0, .int 0, .int 0, .int v12, .ref q15, .int 0, .ref q22, .ref q30, .ref q39, .ref q49, .ref q60, .ref q72, .ref q85, .ref q99, .ref q114, .ref q130, .ref q147, .int 0, .int 0, .int 0, .ref q165, .null, .null, .null, .null, .null, .null, .int 0, .int 0, .int 0, .null, .null, .int 0, .int 0, .int 0, .int 0, .int 0, .int 0, .int 0, .null, .null, .null, .int 0, .null, .int 0]) := gu182
  have Wu182 : Gr a0 [(74, 0), (73, 0), (72, 0), (71, 0), (70, 0), (69, 0), (68, 0), (67, 0), (66, 0), (65, 0), (64, 0), (63, 0), (62, 0), (61, 0), (60, 0)] L τ E Lq165 Tq165 Eu182 := Gr.wr Wq165 ou182 (Or.inl rfl)
  refine lv_aload_n hx hb dX10_init_129 rfl (lv_at hl 0 rfl) ?_
  obtain ⟨v183, ev183, tv183⟩ : ∃ v : Int32, (Int8.ofInt (50)).toInt32 = v ∧ v.toInt = 50 := ⟨_, rfl, by decide +kernel⟩
  refine lv_bipush hx hb dX10_init_130 ev183 ?_
  refine tr_newi Z.1 Z.2.2.2.1 Z.2.2.2.2.2 Su182 (hts _ (List.mem_of_getElem? (i := 21) rfl)) rfl 2 rfl 50 (by omega) (vc_ty _ rfl _) (Nat.le_of_ble_eq_true rfl) (75, 0) rfl rfl rfl (fun i => ⟨(by decide : (0 : Int) ≤ 0), (by decide : (0 : Int) ≤ 1)⟩) (fun _ => Ab.ne Aq165 (by decide)) (Nat.le_of_ble_eq_true rfl) (Nat.le_of_ble_eq_true rfl) dX10_init_132 (fun Lq184 Tq184 Eq184 q184 Hq184 Sq184 Pq184 => ?_)
  have Wq184 : Gr a0 [(75, 0), (74, 0), (73, 0), (72, 0), (71, 0), (70, 0), (69, 0), (68, 0), (67, 0), (66, 0), (65, 0), (64, 0), (63, 0), (62, 0), (61, 0), (60, 0)] L τ E Lq184 Tq184 Eq184 := Gr.push Wu182 Pq184
  have f185 : q184 ∉ L := Gr.fresh Wu182 Pq184
  have Aq184 : Ab Lq184 Tq184 [(11, 0), (76, 0), (77, 0), (78, 0), (79, 0), (80, 0), (81, 0), (82, 0), (83, 0), (84, 0), (85, 0), (86, 0)] := Ab.push Aq165 Pq184 (by decide) (by decide)
  have eq184 : Eq184 a0 = .inr (9, [.ref q2, .ref q7, .int 0, .int 0, .int 0, .int 0, .int v12, .ref q15, .int 0, .ref q22, .ref q30, .ref q39, .ref q49, .ref q60, .ref q72, .ref q85, .ref q99, .ref q114, .ref q130, .ref q147, .int 0, .int 0, .int 0, .ref q165, .null, .null, .null, .null, .null, .null, .int 0, .int 0, .int 0, .null, .null, .int 0, .int 0, .int 0, .int 0, .int 0, .int 0, .int 0, .null, .null, .null, .int 0, .null, .int 0]) := (Pq184.2.2.1 a0 hm167).trans hu182
  have hm186 : a0 ∈ Lq184 := Pq184.1 _ hm167
  have tm186 : Tq184 a0 = (211, 0) := (Pq184.2.1 _ hm167).trans tm167
  have hm187 : q2 ∈ Lq184 := Pq184.1 _ hm168
  have tm187 : Tq184 q2 = (60, 0) := (Pq184.2.1 _ hm168).trans tm168
  have hm188 : q7 ∈ Lq184 := Pq184.1 _ hm169
  have tm188 : Tq184 q7 = (61, 0) := (Pq184.2.1 _ hm169).trans tm169
  have hm189 : q15 ∈ Lq184 := Pq184.1 _ hm170
  have tm189 : Tq184 q15 = (62, 0) := (Pq184.2.1 _ hm170).trans tm170
  have hm190 : q22 ∈ Lq184 := Pq184.1 _ hm171
  have tm190 : Tq184 q22 = (63, 0) := (Pq184.2.1 _ hm171).trans tm171
  have hm191 : q30 ∈ Lq184 := Pq184.1 _ hm172
  have tm191 : Tq184 q30 = (64, 0) := (Pq184.2.1 _ hm172).trans tm172
  have hm192 : q39 ∈ Lq184 := Pq184.1 _ hm173
  have tm192 : Tq184 q39 = (65, 0) := (Pq184.2.1 _ hm173).trans tm173
  have hm193 : q49 ∈ Lq184 := Pq184.1 _ hm174
  have tm193 : Tq184 q49 = (66, 0) := (Pq184.2.1 _ hm174).trans tm174
  have hm194 : q60 ∈ Lq184 := Pq184.1 _ hm175
  have tm194 : Tq184 q60 = (67, 0) := (Pq184.2.1 _ hm175).trans tm175
  have hm195 : q72 ∈ Lq184 := Pq184.1 _ hm176
  have tm195 : Tq184 q72 = (68, 0) := (Pq184.2.1 _ hm176).trans tm176
  have hm196 : q85 ∈ Lq184 := Pq184.1 _ hm177
  have tm196 : Tq184 q85 = (69, 0) := (Pq184.2.1 _ hm177).trans tm177
  have hm197 : q99 ∈ Lq184 := Pq184.1 _ hm178
  have tm197 : Tq184 q99 = (70, 0) := (Pq184.2.1 _ hm178).trans tm178
  have hm198 : q114 ∈ Lq184 := Pq184.1 _ hm179
  have tm198 : Tq184 q114 = (71, 0) := (Pq184.2.1 _ hm179).trans tm179
  have hm199 : q130 ∈ Lq184 := Pq184.1 _ hm180
  have tm199 : Tq184 q130 = (72, 0) := (Pq184.2.1 _ hm180).trans tm180
  have hm200 : q147 ∈ Lq184 := Pq184.1 _ hm181
  have tm200 : Tq184 q147 = (73, 0) := (Pq184.2.1 _ hm181).trans tm181
  have hm201 : q165 ∈ Lq184 := Pq184.1 _ Pq165.2.2.2.1
  have tm201 : Tq184 q165 = (74, 0) := (Pq184.2.1 _ Pq165.2.2.2.1).trans Pq165.2.2.2.2.1
  refine tr_putR Z.1 Z.2.2.2.1 Sq184 hm186 tm186 rfl rfl rfl eq184 rfl (fun _ h => List.mem_cons_of_mem _ (List.mem_append_right _ h)) tyX10_ok nmX10 24 (by decide) (Nat.le_of_ble_eq_true rfl) (Or.inr ⟨hnm, rfl, rfl⟩) (hts _ (List.mem_of_getElem? (i := 23) rfl)) dX10_init_134 rfl rfl (fun Eu202 Hu202 ku202 Su202 ou202 gu202 => ?_)
  have hu202 : Eu202 a0 = .inr (9, [.ref q2, .ref q7, .int 0, .int 0, .int 0, .int 0, .int v12, .ref q15, .int 0, .ref q22, .ref q30, .ref q39, .ref q49, .ref q60, .ref q72, .ref q85, .ref q99, .ref q114, .ref q130, .ref q147, .int 0, .int 0, .int 0, .ref q165, .ref q184, .null, .null, .null, .null, .null, .int 0, .int 0, .int 0, .null, .null, .int 0, .int 0, .int 0, .int 0, .int 0, .int 0, .int 0, .null, .null, .null, .int 0, .null, .int 0]) := gu202
  have Wu202 : Gr a0 [(75, 0), (74, 0), (73, 0), (72, 0), (71, 0), (70, 0), (69, 0), (68, 0), (67, 0), (66, 0), (65, 0), (64, 0), (63, 0), (62, 0), (61, 0), (60, 0)] L τ E Lq184 Tq184 Eu202 := Gr.wr Wq184 ou202 (Or.inl rfl)
  refine lv_aload_n hx hb dX10_init_137 rfl (lv_at hl 0 rfl) ?_
  obtain ⟨v203, ev203, tv203⟩ : ∃ v : Int32, (Int8.ofInt (50)).toInt32 = v ∧ v.toInt = 50 := ⟨_, rfl, by decide +kernel⟩
  refine lv_bipush hx hb dX10_init_138 ev203 ?_
  refine tr_newi0 Z.1 Z.2.2.2.1 Z.2.2.2.2.2 Su202 (hts _ (List.mem_of_getElem? (i := 4) rfl)) rfl 0 rfl 50 (by omega) (vc_ty _ rfl _) (Nat.le_of_ble_eq_true rfl) (76, 0) rfl rfl rfl (fun i => ⟨(by decide : (0 : Int) ≤ 0), (by decide : (0 : Int) ≤ 4)⟩) (fun _ => Ab.ne Aq184 (by decide)) (Nat.le_of_ble_eq_true rfl) (Nat.le_of_ble_eq_true rfl) dX10_init_140 (fun Lq204 Tq204 Eq204 q204 Hq204 Sq204 Pq204 zr0 => ?_)
  have Wq204 : Gr a0 [(76, 0), (75, 0), (74, 0), (73, 0), (72, 0), (71, 0), (70, 0), (69, 0), (68, 0), (67, 0), (66, 0), (65, 0), (64, 0), (63, 0), (62, 0), (61, 0), (60, 0)] L τ E Lq204 Tq204 Eq204 := Gr.push Wu202 Pq204
  have f205 : q204 ∉ L := Gr.fresh Wu202 Pq204
  have Aq204 : Ab Lq204 Tq204 [(11, 0), (77, 0), (78, 0), (79, 0), (80, 0), (81, 0), (82, 0), (83, 0), (84, 0), (85, 0), (86, 0)] := Ab.push Aq184 Pq204 (by decide) (by decide)
  have eq204 : Eq204 a0 = .inr (9, [.ref q2, .ref q7, .int 0, .int 0, .int 0, .int 0, .int v12, .ref q15, .int 0, .ref q22, .ref q30, .ref q39, .ref q49, .ref q60, .ref q72, .ref q85, .ref q99, .ref q114, .ref q130, .ref q147, .int 0, .int 0, .int 0, .ref q165, .ref q184, .null, .null, .null, .null, .null, .int 0, .int 0, .int 0, .null, .null, .int 0, .int 0, .int 0, .int 0, .int 0, .int 0, .int 0, .null, .null, .null, .int 0, .null, .int 0]) := (Pq204.2.2.1 a0 hm186).trans hu202
  have hm206 : a0 ∈ Lq204 := Pq204.1 _ hm186
  have tm206 : Tq204 a0 = (211, 0) := (Pq204.2.1 _ hm186).trans tm186
  have hm207 : q2 ∈ Lq204 := Pq204.1 _ hm187
  have tm207 : Tq204 q2 = (60, 0) := (Pq204.2.1 _ hm187).trans tm187
  have hm208 : q7 ∈ Lq204 := Pq204.1 _ hm188
  have tm208 : Tq204 q7 = (61, 0) := (Pq204.2.1 _ hm188).trans tm188
  have hm209 : q15 ∈ Lq204 := Pq204.1 _ hm189
  have tm209 : Tq204 q15 = (62, 0) := (Pq204.2.1 _ hm189).trans tm189
  have hm210 : q22 ∈ Lq204 := Pq204.1 _ hm190
  have tm210 : Tq204 q22 = (63, 0) := (Pq204.2.1 _ hm190).trans tm190
  have hm211 : q30 ∈ Lq204 := Pq204.1 _ hm191
  have tm211 : Tq204 q30 = (64, 0) := (Pq204.2.1 _ hm191).trans tm191
  have hm212 : q39 ∈ Lq204 := Pq204.1 _ hm192
  have tm212 : Tq204 q39 = (65, 0) := (Pq204.2.1 _ hm192).trans tm192
  have hm213 : q49 ∈ Lq204 := Pq204.1 _ hm193
  have tm213 : Tq204 q49 = (66, 0) := (Pq204.2.1 _ hm193).trans tm193
  have hm214 : q60 ∈ Lq204 := Pq204.1 _ hm194
  have tm214 : Tq204 q60 = (67, 0) := (Pq204.2.1 _ hm194).trans tm194
  have hm215 : q72 ∈ Lq204 := Pq204.1 _ hm195
  have tm215 : Tq204 q72 = (68, 0) := (Pq204.2.1 _ hm195).trans tm195
  have hm216 : q85 ∈ Lq204 := Pq204.1 _ hm196
  have tm216 : Tq204 q85 = (69, 0) := (Pq204.2.1 _ hm196).trans tm196
  have hm217 : q99 ∈ Lq204 := Pq204.1 _ hm197
  have tm217 : Tq204 q99 = (70, 0) := (Pq204.2.1 _ hm197).trans tm197
  have hm218 : q114 ∈ Lq204 := Pq204.1 _ hm198
  have tm218 : Tq204 q114 = (71, 0) := (Pq204.2.1 _ hm198).trans tm198
  have hm219 : q130 ∈ Lq204 := Pq204.1 _ hm199
  have tm219 : Tq204 q130 = (72, 0) := (Pq204.2.1 _ hm199).trans tm199
  have hm220 : q147 ∈ Lq204 := Pq204.1 _ hm200
  have tm220 : Tq204 q147 = (73, 0) := (Pq204.2.1 _ hm200).trans tm200
  have hm221 : q165 ∈ Lq204 := Pq204.1 _ hm201
  have tm221 : Tq204 q165 = (74, 0) := (Pq204.2.1 _ hm201).trans tm201
  have hm222 : q184 ∈ Lq204 := Pq204.1 _ Pq184.2.2.2.1
  have tm222 : Tq204 q184 = (75, 0) := (Pq204.2.1 _ Pq184.2.2.2.1).trans Pq184.2.2.2.2.1
  refine tr_putR Z.1 Z.2.2.2.1 Sq204 hm206 tm206 rfl rfl rfl eq204 rfl (fun _ h => List.mem_cons_of_mem _ (List.mem_append_right _ h)) tyX10_ok nmX10 25 (by decide) (Nat.le_of_ble_eq_true rfl) (Or.inr ⟨hnm, rfl, rfl⟩) (hts _ (List.mem_of_getElem? (i := 24) rfl)) dX10_init_142 rfl rfl (fun Eu223 Hu223 ku223 Su223 ou223 gu223 => ?_)
  have hu223 : Eu223 a0 = .inr (9, [.ref q2, .ref q7, .int 0, .int 0, .int 0, .int 0, .int v12, .ref q15, .int 0, .ref q22, .ref q30, .ref q39, .ref q49, .ref q60, .ref q72, .ref q85, .ref q99, .ref q114, .ref q130, .ref q147, .int 0, .int 0, .int 0, .ref q165, .ref q184, .ref q204, .null, .null, .null, .null, .int 0, .int 0, .int 0, .null, .null, .int 0, .int 0, .int 0, .int 0, .int 0, .int 0, .int 0, .null, .null, .null, .int 0, .null, .int 0]) := gu223
  have Wu223 : Gr a0 [(76, 0), (75, 0), (74, 0), (73, 0), (72, 0), (71, 0), (70, 0), (69, 0), (68, 0), (67, 0), (66, 0), (65, 0), (64, 0), (63, 0), (62, 0), (61, 0), (60, 0)] L τ E Lq204 Tq204 Eu223 := Gr.wr Wq204 ou223 (Or.inl rfl)
  have zru223 : Eu223 q204 = .inl (cy 0, 50, .inl (fun _ => 0)) := (ou223 q204 (ne_ro Pq204.2.2.2.2.1 tm206 (by decide))).trans zr0
  refine lv_aload_n hx hb dX10_init_145 rfl (lv_at hl 0 rfl) ?_
  obtain ⟨v224, ev224, tv224⟩ : ∃ v : Int32, (Int16.ofInt (400)).toInt32 = v ∧ v.toInt = 400 := ⟨_, rfl, by decide +kernel⟩
  refine lv_sipush hx hb dX10_init_146 ev224 ?_
  refine tr_newi Z.1 Z.2.2.2.1 Z.2.2.2.2.2 Su223 (hts _ (List.mem_of_getElem? (i := 4) rfl)) rfl 0 rfl 400 (by omega) (vc_ty _ rfl _) (Nat.le_of_ble_eq_true rfl) (77, 0) rfl rfl rfl (fun i => ⟨(by decide : (0 : Int) ≤ 0), (by decide : (0 : Int) ≤ 8)⟩) (fun _ => Ab.ne Aq204 (by decide)) (Nat.le_of_ble_eq_true rfl) (Nat.le_of_ble_eq_true rfl) dX10_init_149 (fun Lq225 Tq225 Eq225 q225 Hq225 Sq225 Pq225 => ?_)
  have Wq225 : Gr a0 [(77, 0), (76, 0), (75, 0), (74, 0), (73, 0), (72, 0), (71, 0), (70, 0), (69, 0), (68, 0), (67, 0), (66, 0), (65, 0), (64, 0), (63, 0), (62, 0), (61, 0), (60, 0)] L τ E Lq225 Tq225 Eq225 := Gr.push Wu223 Pq225
  have f226 : q225 ∉ L := Gr.fresh Wu223 Pq225
  have Aq225 : Ab Lq225 Tq225 [(11, 0), (78, 0), (79, 0), (80, 0), (81, 0), (82, 0), (83, 0), (84, 0), (85, 0), (86, 0)] := Ab.push Aq204 Pq225 (by decide) (by decide)
  have eq225 : Eq225 a0 = .inr (9, [.ref q2, .ref q7, .int 0, .int 0, .int 0, .int 0, .int v12, .ref q15, .int 0, .ref q22, .ref q30, .ref q39, .ref q49, .ref q60, .ref q72, .ref q85, .ref q99, .ref q114, .ref q130, .ref q147, .int 0, .int 0, .int 0, .ref q165, .ref q184, .ref q204, .null, .null, .null, .null, .int 0, .int 0, .int 0, .null, .null, .int 0, .int 0, .int 0, .int 0, .int 0, .int 0, .int 0, .null, .null, .null, .int 0, .null, .int 0]) := (Pq225.2.2.1 a0 hm206).trans hu223
  have hm227 : a0 ∈ Lq225 := Pq225.1 _ hm206
  have tm227 : Tq225 a0 = (211, 0) := (Pq225.2.1 _ hm206).trans tm206
  have hm228 : q2 ∈ Lq225 := Pq225.1 _ hm207
  have tm228 : Tq225 q2 = (60, 0) := (Pq225.2.1 _ hm207).trans tm207
  have hm229 : q7 ∈ Lq225 := Pq225.1 _ hm208
  have tm229 : Tq225 q7 = (61, 0) := (Pq225.2.1 _ hm208).trans tm208
  have hm230 : q15 ∈ Lq225 := Pq225.1 _ hm209
  have tm230 : Tq225 q15 = (62, 0) := (Pq225.2.1 _ hm209).trans tm209
  have hm231 : q22 ∈ Lq225 := Pq225.1 _ hm210
  have tm231 : Tq225 q22 = (63, 0) := (Pq225.2.1 _ hm210).trans tm210
  have hm232 : q30 ∈ Lq225 := Pq225.1 _ hm211
  have tm232 : Tq225 q30 = (64, 0) := (Pq225.2.1 _ hm211).trans tm211
  have hm233 : q39 ∈ Lq225 := Pq225.1 _ hm212
  have tm233 : Tq225 q39 = (65, 0) := (Pq225.2.1 _ hm212).trans tm212
  have hm234 : q49 ∈ Lq225 := Pq225.1 _ hm213
  have tm234 : Tq225 q49 = (66, 0) := (Pq225.2.1 _ hm213).trans tm213
  have hm235 : q60 ∈ Lq225 := Pq225.1 _ hm214
  have tm235 : Tq225 q60 = (67, 0) := (Pq225.2.1 _ hm214).trans tm214
  have hm236 : q72 ∈ Lq225 := Pq225.1 _ hm215
  have tm236 : Tq225 q72 = (68, 0) := (Pq225.2.1 _ hm215).trans tm215
  have hm237 : q85 ∈ Lq225 := Pq225.1 _ hm216
  have tm237 : Tq225 q85 = (69, 0) := (Pq225.2.1 _ hm216).trans tm216
  have hm238 : q99 ∈ Lq225 := Pq225.1 _ hm217
  have tm238 : Tq225 q99 = (70, 0) := (Pq225.2.1 _ hm217).trans tm217
  have hm239 : q114 ∈ Lq225 := Pq225.1 _ hm218
  have tm239 : Tq225 q114 = (71, 0) := (Pq225.2.1 _ hm218).trans tm218
  have hm240 : q130 ∈ Lq225 := Pq225.1 _ hm219
  have tm240 : Tq225 q130 = (72, 0) := (Pq225.2.1 _ hm219).trans tm219
  have hm241 : q147 ∈ Lq225 := Pq225.1 _ hm220
  have tm241 : Tq225 q147 = (73, 0) := (Pq225.2.1 _ hm220).trans tm220
  have hm242 : q165 ∈ Lq225 := Pq225.1 _ hm221
  have tm242 : Tq225 q165 = (74, 0) := (Pq225.2.1 _ hm221).trans tm221
  have hm243 : q184 ∈ Lq225 := Pq225.1 _ hm222
  have tm243 : Tq225 q184 = (75, 0) := (Pq225.2.1 _ hm222).trans tm222
  have hm244 : q204 ∈ Lq225 := Pq225.1 _ Pq204.2.2.2.1
  have tm244 : Tq225 q204 = (76, 0) := (Pq225.2.1 _ Pq204.2.2.2.1).trans Pq204.2.2.2.2.1
  have zrq225 : Eq225 q204 = .inl (cy 0, 50, .inl (fun _ => 0)) := (Pq225.2.2.1 q204 Pq204.2.2.2.1).trans zru223
  refine tr_putR Z.1 Z.2.2.2.1 Sq225 hm227 tm227 rfl rfl rfl eq225 rfl (fun _ h => List.mem_cons_of_mem _ (List.mem_append_right _ h)) tyX10_ok nmX10 26 (by decide) (Nat.le_of_ble_eq_true rfl) (Or.inr ⟨hnm, rfl, rfl⟩) (hts _ (List.mem_of_getElem? (i := 25) rfl)) dX10_init_151 rfl rfl (fun Eu245 Hu245 ku245 Su245 ou245 gu245 => ?_)
  have hu245 : Eu245 a0 = .inr (9, [.ref q2, .ref q7, .int 0, .int 0, .int 0, .int 0, .int v12, .ref q15, .int 0, .ref q22, .ref q30, .ref q39, .ref q49, .ref q60, .ref q72, .ref q85, .ref q99, .ref q114, .ref q130, .ref q147, .int 0, .int 0, .int 0, .ref q165, .ref q184, .ref q204, .ref q225, .null, .null, .null, .int 0, .int 0, .int 0, .null, .null, .int 0, .int 0, .int 0, .int 0, .int 0, .int 0, .int 0, .null, .null, .null, .int 0, .null, .int 0]) := gu245
  have Wu245 : Gr a0 [(77, 0), (76, 0), (75, 0), (74, 0), (73, 0), (72, 0), (71, 0), (70, 0), (69, 0), (68, 0), (67, 0), (66, 0), (65, 0), (64, 0), (63, 0), (62, 0), (61, 0), (60, 0)] L τ E Lq225 Tq225 Eu245 := Gr.wr Wq225 ou245 (Or.inl rfl)
  have zru245 : Eu245 q204 = .inl (cy 0, 50, .inl (fun _ => 0)) := (ou245 q204 (ne_ro tm244 tm227 (by decide))).trans zrq225
  refine lv_aload_n hx hb dX10_init_154 rfl (lv_at hl 0 rfl) ?_
  obtain ⟨v246, ev246, tv246⟩ : ∃ v : Int32, (Int16.ofInt (3200)).toInt32 = v ∧ v.toInt = 3200 := ⟨_, rfl, by decide +kernel⟩
  refine lv_sipush hx hb dX10_init_155 ev246 ?_
  refine tr_newi Z.1 Z.2.2.2.1 Z.2.2.2.2.2 Su245 (hts _ (List.mem_of_getElem? (i := 4) rfl)) rfl 0 rfl 3200 (by omega) (vc_ty _ rfl _) (Nat.le_of_ble_eq_true rfl) (78, 0) rfl rfl rfl (fun i => ⟨(by decide : (-2147483648 : Int) ≤ 0), (by decide : (0 : Int) ≤ 2147483647)⟩) (fun _ => Ab.ne Aq225 (by decide)) (Nat.le_of_ble_eq_true rfl) (Nat.le_of_ble_eq_true rfl) dX10_init_158 (fun Lq247 Tq247 Eq247 q247 Hq247 Sq247 Pq247 => ?_)
  have Wq247 : Gr a0 [(78, 0), (77, 0), (76, 0), (75, 0), (74, 0), (73, 0), (72, 0), (71, 0), (70, 0), (69, 0), (68, 0), (67, 0), (66, 0), (65, 0), (64, 0), (63, 0), (62, 0), (61, 0), (60, 0)] L τ E Lq247 Tq247 Eq247 := Gr.push Wu245 Pq247
  have f248 : q247 ∉ L := Gr.fresh Wu245 Pq247
  have Aq247 : Ab Lq247 Tq247 [(11, 0), (79, 0), (80, 0), (81, 0), (82, 0), (83, 0), (84, 0), (85, 0), (86, 0)] := Ab.push Aq225 Pq247 (by decide) (by decide)
  have eq247 : Eq247 a0 = .inr (9, [.ref q2, .ref q7, .int 0, .int 0, .int 0, .int 0, .int v12, .ref q15, .int 0, .ref q22, .ref q30, .ref q39, .ref q49, .ref q60, .ref q72, .ref q85, .ref q99, .ref q114, .ref q130, .ref q147, .int 0, .int 0, .int 0, .ref q165, .ref q184, .ref q204, .ref q225, .null, .null, .null, .int 0, .int 0, .int 0, .null, .null, .int 0, .int 0, .int 0, .int 0, .int 0, .int 0, .int 0, .null, .null, .null, .int 0, .null, .int 0]) := (Pq247.2.2.1 a0 hm227).trans hu245
  have hm249 : a0 ∈ Lq247 := Pq247.1 _ hm227
  have tm249 : Tq247 a0 = (211, 0) := (Pq247.2.1 _ hm227).trans tm227
  have hm250 : q2 ∈ Lq247 := Pq247.1 _ hm228
  have tm250 : Tq247 q2 = (60, 0) := (Pq247.2.1 _ hm228).trans tm228
  have hm251 : q7 ∈ Lq247 := Pq247.1 _ hm229
  have tm251 : Tq247 q7 = (61, 0) := (Pq247.2.1 _ hm229).trans tm229
  have hm252 : q15 ∈ Lq247 := Pq247.1 _ hm230
  have tm252 : Tq247 q15 = (62, 0) := (Pq247.2.1 _ hm230).trans tm230
  have hm253 : q22 ∈ Lq247 := Pq247.1 _ hm231
  have tm253 : Tq247 q22 = (63, 0) := (Pq247.2.1 _ hm231).trans tm231
  have hm254 : q30 ∈ Lq247 := Pq247.1 _ hm232
  have tm254 : Tq247 q30 = (64, 0) := (Pq247.2.1 _ hm232).trans tm232
  have hm255 : q39 ∈ Lq247 := Pq247.1 _ hm233
  have tm255 : Tq247 q39 = (65, 0) := (Pq247.2.1 _ hm233).trans tm233
  have hm256 : q49 ∈ Lq247 := Pq247.1 _ hm234
  have tm256 : Tq247 q49 = (66, 0) := (Pq247.2.1 _ hm234).trans tm234
  have hm257 : q60 ∈ Lq247 := Pq247.1 _ hm235
  have tm257 : Tq247 q60 = (67, 0) := (Pq247.2.1 _ hm235).trans tm235
  have hm258 : q72 ∈ Lq247 := Pq247.1 _ hm236
  have tm258 : Tq247 q72 = (68, 0) := (Pq247.2.1 _ hm236).trans tm236
  have hm259 : q85 ∈ Lq247 := Pq247.1 _ hm237
  have tm259 : Tq247 q85 = (69, 0) := (Pq247.2.1 _ hm237).trans tm237
  have hm260 : q99 ∈ Lq247 := Pq247.1 _ hm238
  have tm260 : Tq247 q99 = (70, 0) := (Pq247.2.1 _ hm238).trans tm238
  have hm261 : q114 ∈ Lq247 := Pq247.1 _ hm239
  have tm261 : Tq247 q114 = (71, 0) := (Pq247.2.1 _ hm239).trans tm239
  have hm262 : q130 ∈ Lq247 := Pq247.1 _ hm240
  have tm262 : Tq247 q130 = (72, 0) := (Pq247.2.1 _ hm240).trans tm240
  have hm263 : q147 ∈ Lq247 := Pq247.1 _ hm241
  have tm263 : Tq247 q147 = (73, 0) := (Pq247.2.1 _ hm241).trans tm241
  have hm264 : q165 ∈ Lq247 := Pq247.1 _ hm242
  have tm264 : Tq247 q165 = (74, 0) := (Pq247.2.1 _ hm242).trans tm242
  have hm265 : q184 ∈ Lq247 := Pq247.1 _ hm243
  have tm265 : Tq247 q184 = (75, 0) := (Pq247.2.1 _ hm243).trans tm243
  have hm266 : q204 ∈ Lq247 := Pq247.1 _ hm244
  have tm266 : Tq247 q204 = (76, 0) := (Pq247.2.1 _ hm244).trans tm244
  have hm267 : q225 ∈ Lq247 := Pq247.1 _ Pq225.2.2.2.1
  have tm267 : Tq247 q225 = (77, 0) := (Pq247.2.1 _ Pq225.2.2.2.1).trans Pq225.2.2.2.2.1
  have zrq247 : Eq247 q204 = .inl (cy 0, 50, .inl (fun _ => 0)) := (Pq247.2.2.1 q204 hm244).trans zru245
  refine tr_putR Z.1 Z.2.2.2.1 Sq247 hm249 tm249 rfl rfl rfl eq247 rfl (fun _ h => List.mem_cons_of_mem _ (List.mem_append_right _ h)) tyX10_ok nmX10 27 (by decide) (Nat.le_of_ble_eq_true rfl) (Or.inr ⟨hnm, rfl, rfl⟩) (hts _ (List.mem_of_getElem? (i := 26) rfl)) dX10_init_160 rfl rfl (fun Eu268 Hu268 ku268 Su268 ou268 gu268 => ?_)
  have hu268 : Eu268 a0 = .inr (9, [.ref q2, .ref q7, .int 0, .int 0, .int 0, .int 0, .int v12, .ref q15, .int 0, .ref q22, .ref q30, .ref q39, .ref q49, .ref q60, .ref q72, .ref q85, .ref q99, .ref q114, .ref q130, .ref q147, .int 0, .int 0, .int 0, .ref q165, .ref q184, .ref q204, .ref q225, .ref q247, .null, .null, .int 0, .int 0, .int 0, .null, .null, .int 0, .int 0, .int 0, .int 0, .int 0, .int 0, .int 0, .null, .null, .null, .int 0, .null, .int 0]) := gu268
  have Wu268 : Gr a0 [(78, 0), (77, 0), (76, 0), (75, 0), (74, 0), (73, 0), (72, 0), (71, 0), (70, 0), (69, 0), (68, 0), (67, 0), (66, 0), (65, 0), (64, 0), (63, 0), (62, 0), (61, 0), (60, 0)] L τ E Lq247 Tq247 Eu268 := Gr.wr Wq247 ou268 (Or.inl rfl)
  have zru268 : Eu268 q204 = .inl (cy 0, 50, .inl (fun _ => 0)) := (ou268 q204 (ne_ro tm266 tm249 (by decide))).trans zrq247
  refine lv_aload_n hx hb dX10_init_163 rfl (lv_at hl 0 rfl) ?_
  obtain ⟨v269, ev269, tv269⟩ : ∃ v : Int32, (Int16.ofInt (3200)).toInt32 = v ∧ v.toInt = 3200 := ⟨_, rfl, by decide +kernel⟩
  refine lv_sipush hx hb dX10_init_164 ev269 ?_
  refine tr_newi Z.1 Z.2.2.2.1 Z.2.2.2.2.2 Su268 (hts _ (List.mem_of_getElem? (i := 4) rfl)) rfl 0 rfl 3200 (by omega) (vc_ty _ rfl _) (Nat.le_of_ble_eq_true rfl) (79, 0) rfl rfl rfl (fun i => ⟨(by decide : (0 : Int) ≤ 0), (by decide : (0 : Int) ≤ 24)⟩) (fun _ => Ab.ne Aq247 (by decide)) (Nat.le_of_ble_eq_true rfl) (Nat.le_of_ble_eq_true rfl) dX10_init_167 (fun Lq270 Tq270 Eq270 q270 Hq270 Sq270 Pq270 => ?_)
  have Wq270 : Gr a0 [(79, 0), (78, 0), (77, 0), (76, 0), (75, 0), (74, 0), (73, 0), (72, 0), (71, 0), (70, 0), (69, 0), (68, 0), (67, 0), (66, 0), (65, 0), (64, 0), (63, 0), (62, 0), (61, 0), (60, 0)] L τ E Lq270 Tq270 Eq270 := Gr.push Wu268 Pq270
  have f271 : q270 ∉ L := Gr.fresh Wu268 Pq270
  have Aq270 : Ab Lq270 Tq270 [(11, 0), (80, 0), (81, 0), (82, 0), (83, 0), (84, 0), (85, 0), (86, 0)] := Ab.push Aq247 Pq270 (by decide) (by decide)
  have eq270 : Eq270 a0 = .inr (9, [.ref q2, .ref q7, .int 0, .int 0, .int 0, .int 0, .int v12, .ref q15, .int 0, .ref q22, .ref q30, .ref q39, .ref q49, .ref q60, .ref q72, .ref q85, .ref q99, .ref q114, .ref q130, .ref q147, .int 0, .int 0, .int 0, .ref q165, .ref q184, .ref q204, .ref q225, .ref q247, .null, .null, .int 0, .int 0, .int 0, .null, .null, .int 0, .int 0, .int 0, .int 0, .int 0, .int 0, .int 0, .null, .null, .null, .int 0, .null, .int 0]) := (Pq270.2.2.1 a0 hm249).trans hu268
  have hm272 : a0 ∈ Lq270 := Pq270.1 _ hm249
  have tm272 : Tq270 a0 = (211, 0) := (Pq270.2.1 _ hm249).trans tm249
  have hm273 : q2 ∈ Lq270 := Pq270.1 _ hm250
  have tm273 : Tq270 q2 = (60, 0) := (Pq270.2.1 _ hm250).trans tm250
  have hm274 : q7 ∈ Lq270 := Pq270.1 _ hm251
  have tm274 : Tq270 q7 = (61, 0) := (Pq270.2.1 _ hm251).trans tm251
  have hm275 : q15 ∈ Lq270 := Pq270.1 _ hm252
  have tm275 : Tq270 q15 = (62, 0) := (Pq270.2.1 _ hm252).trans tm252
  have hm276 : q22 ∈ Lq270 := Pq270.1 _ hm253
  have tm276 : Tq270 q22 = (63, 0) := (Pq270.2.1 _ hm253).trans tm253
  have hm277 : q30 ∈ Lq270 := Pq270.1 _ hm254
  have tm277 : Tq270 q30 = (64, 0) := (Pq270.2.1 _ hm254).trans tm254
  have hm278 : q39 ∈ Lq270 := Pq270.1 _ hm255
  have tm278 : Tq270 q39 = (65, 0) := (Pq270.2.1 _ hm255).trans tm255
  have hm279 : q49 ∈ Lq270 := Pq270.1 _ hm256
  have tm279 : Tq270 q49 = (66, 0) := (Pq270.2.1 _ hm256).trans tm256
  have hm280 : q60 ∈ Lq270 := Pq270.1 _ hm257
  have tm280 : Tq270 q60 = (67, 0) := (Pq270.2.1 _ hm257).trans tm257
  have hm281 : q72 ∈ Lq270 := Pq270.1 _ hm258
  have tm281 : Tq270 q72 = (68, 0) := (Pq270.2.1 _ hm258).trans tm258
  have hm282 : q85 ∈ Lq270 := Pq270.1 _ hm259
  have tm282 : Tq270 q85 = (69, 0) := (Pq270.2.1 _ hm259).trans tm259
  have hm283 : q99 ∈ Lq270 := Pq270.1 _ hm260
  have tm283 : Tq270 q99 = (70, 0) := (Pq270.2.1 _ hm260).trans tm260
  have hm284 : q114 ∈ Lq270 := Pq270.1 _ hm261
  have tm284 : Tq270 q114 = (71, 0) := (Pq270.2.1 _ hm261).trans tm261
  have hm285 : q130 ∈ Lq270 := Pq270.1 _ hm262
  have tm285 : Tq270 q130 = (72, 0) := (Pq270.2.1 _ hm262).trans tm262
  have hm286 : q147 ∈ Lq270 := Pq270.1 _ hm263
  have tm286 : Tq270 q147 = (73, 0) := (Pq270.2.1 _ hm263).trans tm263
  have hm287 : q165 ∈ Lq270 := Pq270.1 _ hm264
  have tm287 : Tq270 q165 = (74, 0) := (Pq270.2.1 _ hm264).trans tm264
  have hm288 : q184 ∈ Lq270 := Pq270.1 _ hm265
  have tm288 : Tq270 q184 = (75, 0) := (Pq270.2.1 _ hm265).trans tm265
  have hm289 : q204 ∈ Lq270 := Pq270.1 _ hm266
  have tm289 : Tq270 q204 = (76, 0) := (Pq270.2.1 _ hm266).trans tm266
  have hm290 : q225 ∈ Lq270 := Pq270.1 _ hm267
  have tm290 : Tq270 q225 = (77, 0) := (Pq270.2.1 _ hm267).trans tm267
  have hm291 : q247 ∈ Lq270 := Pq270.1 _ Pq247.2.2.2.1
  have tm291 : Tq270 q247 = (78, 0) := (Pq270.2.1 _ Pq247.2.2.2.1).trans Pq247.2.2.2.2.1
  have zrq270 : Eq270 q204 = .inl (cy 0, 50, .inl (fun _ => 0)) := (Pq270.2.2.1 q204 hm266).trans zru268
  refine tr_putR Z.1 Z.2.2.2.1 Sq270 hm272 tm272 rfl rfl rfl eq270 rfl (fun _ h => List.mem_cons_of_mem _ (List.mem_append_right _ h)) tyX10_ok nmX10 28 (by decide) (Nat.le_of_ble_eq_true rfl) (Or.inr ⟨hnm, rfl, rfl⟩) (hts _ (List.mem_of_getElem? (i := 27) rfl)) dX10_init_169 rfl rfl (fun Eu292 Hu292 ku292 Su292 ou292 gu292 => ?_)
  have hu292 : Eu292 a0 = .inr (9, [.ref q2, .ref q7, .int 0, .int 0, .int 0, .int 0, .int v12, .ref q15, .int 0, .ref q22, .ref q30, .ref q39, .ref q49, .ref q60, .ref q72, .ref q85, .ref q99, .ref q114, .ref q130, .ref q147, .int 0, .int 0, .int 0, .ref q165, .ref q184, .ref q204, .ref q225, .ref q247, .ref q270, .null, .int 0, .int 0, .int 0, .null, .null, .int 0, .int 0, .int 0, .int 0, .int 0, .int 0, .int 0, .null, .null, .null, .int 0, .null, .int 0]) := gu292
  have Wu292 : Gr a0 [(79, 0), (78, 0), (77, 0), (76, 0), (75, 0), (74, 0), (73, 0), (72, 0), (71, 0), (70, 0), (69, 0), (68, 0), (67, 0), (66, 0), (65, 0), (64, 0), (63, 0), (62, 0), (61, 0), (60, 0)] L τ E Lq270 Tq270 Eu292 := Gr.wr Wq270 ou292 (Or.inl rfl)
  have zru292 : Eu292 q204 = .inl (cy 0, 50, .inl (fun _ => 0)) := (ou292 q204 (ne_ro tm289 tm272 (by decide))).trans zrq270
  refine lv_aload_n hx hb dX10_init_172 rfl (lv_at hl 0 rfl) ?_
  obtain ⟨v293, ev293, tv293⟩ : ∃ v : Int32, (Int16.ofInt (200)).toInt32 = v ∧ v.toInt = 200 := ⟨_, rfl, by decide +kernel⟩
  refine lv_sipush hx hb dX10_init_173 ev293 ?_
  refine tr_newi Z.1 Z.2.2.2.1 Z.2.2.2.2.2 Su292 (hts _ (List.mem_of_getElem? (i := 4) rfl)) rfl 0 rfl 200 (by omega) (vc_ty _ rfl _) (Nat.le_of_ble_eq_true rfl) (80, 0) rfl rfl rfl (fun i => ⟨(by decide : (-2147483648 : Int) ≤ 0), (by decide : (0 : Int) ≤ 2147483647)⟩) (fun _ => Ab.ne Aq270 (by decide)) (Nat.le_of_ble_eq_true rfl) (Nat.le_of_ble_eq_true rfl) dX10_init_176 (fun Lq294 Tq294 Eq294 q294 Hq294 Sq294 Pq294 => ?_)
  have Wq294 : Gr a0 [(80, 0), (79, 0), (78, 0), (77, 0), (76, 0), (75, 0), (74, 0), (73, 0), (72, 0), (71, 0), (70, 0), (69, 0), (68, 0), (67, 0), (66, 0), (65, 0), (64, 0), (63, 0), (62, 0), (61, 0), (60, 0)] L τ E Lq294 Tq294 Eq294 := Gr.push Wu292 Pq294
  have f295 : q294 ∉ L := Gr.fresh Wu292 Pq294
  have Aq294 : Ab Lq294 Tq294 [(11, 0), (81, 0), (82, 0), (83, 0), (84, 0), (85, 0), (86, 0)] := Ab.push Aq270 Pq294 (by decide) (by decide)
  have eq294 : Eq294 a0 = .inr (9, [.ref q2, .ref q7, .int 0, .int 0, .int 0, .int 0, .int v12, .ref q15, .int 0, .ref q22, .ref q30, .ref q39, .ref q49, .ref q60, .ref q72, .ref q85, .ref q99, .ref q114, .ref q130, .ref q147, .int 0, .int 0, .int 0, .ref q165, .ref q184, .ref q204, .ref q225, .ref q247, .ref q270, .null, .int 0, .int 0, .int 0, .null, .null, .int 0, .int 0, .int 0, .int 0, .int 0, .int 0, .int 0, .null, .null, .null, .int 0, .null, .int 0]) := (Pq294.2.2.1 a0 hm272).trans hu292
  have hm296 : a0 ∈ Lq294 := Pq294.1 _ hm272
  have tm296 : Tq294 a0 = (211, 0) := (Pq294.2.1 _ hm272).trans tm272
  have hm297 : q2 ∈ Lq294 := Pq294.1 _ hm273
  have tm297 : Tq294 q2 = (60, 0) := (Pq294.2.1 _ hm273).trans tm273
  have hm298 : q7 ∈ Lq294 := Pq294.1 _ hm274
  have tm298 : Tq294 q7 = (61, 0) := (Pq294.2.1 _ hm274).trans tm274
  have hm299 : q15 ∈ Lq294 := Pq294.1 _ hm275
  have tm299 : Tq294 q15 = (62, 0) := (Pq294.2.1 _ hm275).trans tm275
  have hm300 : q22 ∈ Lq294 := Pq294.1 _ hm276
  have tm300 : Tq294 q22 = (63, 0) := (Pq294.2.1 _ hm276).trans tm276
  have hm301 : q30 ∈ Lq294 := Pq294.1 _ hm277
  have tm301 : Tq294 q30 = (64, 0) := (Pq294.2.1 _ hm277).trans tm277
  have hm302 : q39 ∈ Lq294 := Pq294.1 _ hm278
  have tm302 : Tq294 q39 = (65, 0) := (Pq294.2.1 _ hm278).trans tm278
  have hm303 : q49 ∈ Lq294 := Pq294.1 _ hm279
  have tm303 : Tq294 q49 = (66, 0) := (Pq294.2.1 _ hm279).trans tm279
  have hm304 : q60 ∈ Lq294 := Pq294.1 _ hm280
  have tm304 : Tq294 q60 = (67, 0) := (Pq294.2.1 _ hm280).trans tm280
  have hm305 : q72 ∈ Lq294 := Pq294.1 _ hm281
  have tm305 : Tq294 q72 = (68, 0) := (Pq294.2.1 _ hm281).trans tm281
  have hm306 : q85 ∈ Lq294 := Pq294.1 _ hm282
  have tm306 : Tq294 q85 = (69, 0) := (Pq294.2.1 _ hm282).trans tm282
  have hm307 : q99 ∈ Lq294 := Pq294.1 _ hm283
  have tm307 : Tq294 q99 = (70, 0) := (Pq294.2.1 _ hm283).trans tm283
  have hm308 : q114 ∈ Lq294 := Pq294.1 _ hm284
  have tm308 : Tq294 q114 = (71, 0) := (Pq294.2.1 _ hm284).trans tm284
  have hm309 : q130 ∈ Lq294 := Pq294.1 _ hm285
  have tm309 : Tq294 q130 = (72, 0) := (Pq294.2.1 _ hm285).trans tm285
  have hm310 : q147 ∈ Lq294 := Pq294.1 _ hm286
  have tm310 : Tq294 q147 = (73, 0) := (Pq294.2.1 _ hm286).trans tm286
  have hm311 : q165 ∈ Lq294 := Pq294.1 _ hm287
  have tm311 : Tq294 q165 = (74, 0) := (Pq294.2.1 _ hm287).trans tm287
  have hm312 : q184 ∈ Lq294 := Pq294.1 _ hm288
  have tm312 : Tq294 q184 = (75, 0) := (Pq294.2.1 _ hm288).trans tm288
  have hm313 : q204 ∈ Lq294 := Pq294.1 _ hm289
  have tm313 : Tq294 q204 = (76, 0) := (Pq294.2.1 _ hm289).trans tm289
  have hm314 : q225 ∈ Lq294 := Pq294.1 _ hm290
  have tm314 : Tq294 q225 = (77, 0) := (Pq294.2.1 _ hm290).trans tm290
  have hm315 : q247 ∈ Lq294 := Pq294.1 _ hm291
  have tm315 : Tq294 q247 = (78, 0) := (Pq294.2.1 _ hm291).trans tm291
  have hm316 : q270 ∈ Lq294 := Pq294.1 _ Pq270.2.2.2.1
  have tm316 : Tq294 q270 = (79, 0) := (Pq294.2.1 _ Pq270.2.2.2.1).trans Pq270.2.2.2.2.1
  have zrq294 : Eq294 q204 = .inl (cy 0, 50, .inl (fun _ => 0)) := (Pq294.2.2.1 q204 hm289).trans zru292
  refine tr_putR Z.1 Z.2.2.2.1 Sq294 hm296 tm296 rfl rfl rfl eq294 rfl (fun _ h => List.mem_cons_of_mem _ (List.mem_append_right _ h)) tyX10_ok nmX10 29 (by decide) (Nat.le_of_ble_eq_true rfl) (Or.inr ⟨hnm, rfl, rfl⟩) (hts _ (List.mem_of_getElem? (i := 28) rfl)) dX10_init_178 rfl rfl (fun Eu317 Hu317 ku317 Su317 ou317 gu317 => ?_)
  have hu317 : Eu317 a0 = .inr (9, [.ref q2, .ref q7, .int 0, .int 0, .int 0, .int 0, .int v12, .ref q15, .int 0, .ref q22, .ref q30, .ref q39, .ref q49, .ref q60, .ref q72, .ref q85, .ref q99, .ref q114, .ref q130, .ref q147, .int 0, .int 0, .int 0, .ref q165, .ref q184, .ref q204, .ref q225, .ref q247, .ref q270, .ref q294, .int 0, .int 0, .int 0, .null, .null, .int 0, .int 0, .int 0, .int 0, .int 0, .int 0, .int 0, .null, .null, .null, .int 0, .null, .int 0]) := gu317
  have Wu317 : Gr a0 [(80, 0), (79, 0), (78, 0), (77, 0), (76, 0), (75, 0), (74, 0), (73, 0), (72, 0), (71, 0), (70, 0), (69, 0), (68, 0), (67, 0), (66, 0), (65, 0), (64, 0), (63, 0), (62, 0), (61, 0), (60, 0)] L τ E Lq294 Tq294 Eu317 := Gr.wr Wq294 ou317 (Or.inl rfl)
  have zru317 : Eu317 q204 = .inl (cy 0, 50, .inl (fun _ => 0)) := (ou317 q204 (ne_ro tm313 tm296 (by decide))).trans zrq294
  refine lv_aload_n hx hb dX10_init_181 rfl (lv_at hl 0 rfl) ?_
  obtain ⟨v318, ev318, tv318⟩ : ∃ v : Int32, (Int16.ofInt (200)).toInt32 = v ∧ v.toInt = 200 := ⟨_, rfl, by decide +kernel⟩
  refine lv_sipush hx hb dX10_init_182 ev318 ?_
  refine tr_newi Z.1 Z.2.2.2.1 Z.2.2.2.2.2 Su317 (hts _ (List.mem_of_getElem? (i := 4) rfl)) rfl 0 rfl 200 (by omega) (vc_ty _ rfl _) (Nat.le_of_ble_eq_true rfl) (81, 0) rfl rfl rfl (fun i => ⟨(by decide : (-2147483648 : Int) ≤ 0), (by decide : (0 : Int) ≤ 2147483647)⟩) (fun _ => Ab.ne Aq294 (by decide)) (Nat.le_of_ble_eq_true rfl) (Nat.le_of_ble_eq_true rfl) dX10_init_185 (fun Lq319 Tq319 Eq319 q319 Hq319 Sq319 Pq319 => ?_)
  have Wq319 : Gr a0 [(81, 0), (80, 0), (79, 0), (78, 0), (77, 0), (76, 0), (75, 0), (74, 0), (73, 0), (72, 0), (71, 0), (70, 0), (69, 0), (68, 0), (67, 0), (66, 0), (65, 0), (64, 0), (63, 0), (62, 0), (61, 0), (60, 0)] L τ E Lq319 Tq319 Eq319 := Gr.push Wu317 Pq319
  have f320 : q319 ∉ L := Gr.fresh Wu317 Pq319
  have Aq319 : Ab Lq319 Tq319 [(11, 0), (82, 0), (83, 0), (84, 0), (85, 0), (86, 0)] := Ab.push Aq294 Pq319 (by decide) (by decide)
  have eq319 : Eq319 a0 = .inr (9, [.ref q2, .ref q7, .int 0, .int 0, .int 0, .int 0, .int v12, .ref q15, .int 0, .ref q22, .ref q30, .ref q39, .ref q49, .ref q60, .ref q72, .ref q85, .ref q99, .ref q114, .ref q130, .ref q147, .int 0, .int 0, .int 0, .ref q165, .ref q184, .ref q204, .ref q225, .ref q247, .ref q270, .ref q294, .int 0, .int 0, .int 0, .null, .null, .int 0, .int 0, .int 0, .int 0, .int 0, .int 0, .int 0, .null, .null, .null, .int 0, .null, .int 0]) := (Pq319.2.2.1 a0 hm296).trans hu317
  have hm321 : a0 ∈ Lq319 := Pq319.1 _ hm296
  have tm321 : Tq319 a0 = (211, 0) := (Pq319.2.1 _ hm296).trans tm296
  have hm322 : q2 ∈ Lq319 := Pq319.1 _ hm297
  have tm322 : Tq319 q2 = (60, 0) := (Pq319.2.1 _ hm297).trans tm297
  have hm323 : q7 ∈ Lq319 := Pq319.1 _ hm298
  have tm323 : Tq319 q7 = (61, 0) := (Pq319.2.1 _ hm298).trans tm298
  have hm324 : q15 ∈ Lq319 := Pq319.1 _ hm299
  have tm324 : Tq319 q15 = (62, 0) := (Pq319.2.1 _ hm299).trans tm299
  have hm325 : q22 ∈ Lq319 := Pq319.1 _ hm300
  have tm325 : Tq319 q22 = (63, 0) := (Pq319.2.1 _ hm300).trans tm300
  have hm326 : q30 ∈ Lq319 := Pq319.1 _ hm301
  have tm326 : Tq319 q30 = (64, 0) := (Pq319.2.1 _ hm301).trans tm301
  have hm327 : q39 ∈ Lq319 := Pq319.1 _ hm302
  have tm327 : Tq319 q39 = (65, 0) := (Pq319.2.1 _ hm302).trans tm302
  have hm328 : q49 ∈ Lq319 := Pq319.1 _ hm303
  have tm328 : Tq319 q49 = (66, 0) := (Pq319.2.1 _ hm303).trans tm303
  have hm329 : q60 ∈ Lq319 := Pq319.1 _ hm304
  have tm329 : Tq319 q60 = (67, 0) := (Pq319.2.1 _ hm304).trans tm304
  have hm330 : q72 ∈ Lq319 := Pq319.1 _ hm305
  have tm330 : Tq319 q72 = (68, 0) := (Pq319.2.1 _ hm305).trans tm305
  have hm331 : q85 ∈ Lq319 := Pq319.1 _ hm306
  have tm331 : Tq319 q85 = (69, 0) := (Pq319.2.1 _ hm306).trans tm306
  have hm332 : q99 ∈ Lq319 := Pq319.1 _ hm307
  have tm332 : Tq319 q99 = (70, 0) := (Pq319.2.1 _ hm307).trans tm307
  have hm333 : q114 ∈ Lq319 := Pq319.1 _ hm308
  have tm333 : Tq319 q114 = (71, 0) := (Pq319.2.1 _ hm308).trans tm308
  have hm334 : q130 ∈ Lq319 := Pq319.1 _ hm309
  have tm334 : Tq319 q130 = (72, 0) := (Pq319.2.1 _ hm309).trans tm309
  have hm335 : q147 ∈ Lq319 := Pq319.1 _ hm310
  have tm335 : Tq319 q147 = (73, 0) := (Pq319.2.1 _ hm310).trans tm310
  have hm336 : q165 ∈ Lq319 := Pq319.1 _ hm311
  have tm336 : Tq319 q165 = (74, 0) := (Pq319.2.1 _ hm311).trans tm311
  have hm337 : q184 ∈ Lq319 := Pq319.1 _ hm312
  have tm337 : Tq319 q184 = (75, 0) := (Pq319.2.1 _ hm312).trans tm312
  have hm338 : q204 ∈ Lq319 := Pq319.1 _ hm313
  have tm338 : Tq319 q204 = (76, 0) := (Pq319.2.1 _ hm313).trans tm313
  have hm339 : q225 ∈ Lq319 := Pq319.1 _ hm314
  have tm339 : Tq319 q225 = (77, 0) := (Pq319.2.1 _ hm314).trans tm314
  have hm340 : q247 ∈ Lq319 := Pq319.1 _ hm315
  have tm340 : Tq319 q247 = (78, 0) := (Pq319.2.1 _ hm315).trans tm315
  have hm341 : q270 ∈ Lq319 := Pq319.1 _ hm316
  have tm341 : Tq319 q270 = (79, 0) := (Pq319.2.1 _ hm316).trans tm316
  have hm342 : q294 ∈ Lq319 := Pq319.1 _ Pq294.2.2.2.1
  have tm342 : Tq319 q294 = (80, 0) := (Pq319.2.1 _ Pq294.2.2.2.1).trans Pq294.2.2.2.2.1
  have zrq319 : Eq319 q204 = .inl (cy 0, 50, .inl (fun _ => 0)) := (Pq319.2.2.1 q204 hm313).trans zru317
  refine tr_putR Z.1 Z.2.2.2.1 Sq319 hm321 tm321 rfl rfl rfl eq319 rfl (fun _ h => List.mem_cons_of_mem _ (List.mem_append_right _ h)) tyX10_ok nmX10 33 (by decide) (Nat.le_of_ble_eq_true rfl) (Or.inr ⟨hnm, rfl, rfl⟩) (hts _ (List.mem_of_getElem? (i := 29) rfl)) dX10_init_187 rfl rfl (fun Eu343 Hu343 ku343 Su343 ou343 gu343 => ?_)
  have hu343 : Eu343 a0 = .inr (9, [.ref q2, .ref q7, .int 0, .int 0, .int 0, .int 0, .int v12, .ref q15, .int 0, .ref q22, .ref q30, .ref q39, .ref q49, .ref q60, .ref q72, .ref q85, .ref q99, .ref q114, .ref q130, .ref q147, .int 0, .int 0, .int 0, .ref q165, .ref q184, .ref q204, .ref q225, .ref q247, .ref q270, .ref q294, .int 0, .int 0, .int 0, .ref q319, .null, .int 0, .int 0, .int 0, .int 0, .int 0, .int 0, .int 0, .null, .null, .null, .int 0, .null, .int 0]) := gu343
  have Wu343 : Gr a0 [(81, 0), (80, 0), (79, 0), (78, 0), (77, 0), (76, 0), (75, 0), (74, 0), (73, 0), (72, 0), (71, 0), (70, 0), (69, 0), (68, 0), (67, 0), (66, 0), (65, 0), (64, 0), (63, 0), (62, 0), (61, 0), (60, 0)] L τ E Lq319 Tq319 Eu343 := Gr.wr Wq319 ou343 (Or.inl rfl)
  have zru343 : Eu343 q204 = .inl (cy 0, 50, .inl (fun _ => 0)) := (ou343 q204 (ne_ro tm338 tm321 (by decide))).trans zrq319
  refine lv_aload_n hx hb dX10_init_190 rfl (lv_at hl 0 rfl) ?_
  obtain ⟨v344, ev344, tv344⟩ : ∃ v : Int32, Int32.ofInt (3) = v ∧ v.toInt = 3 := ⟨_, rfl, by decide +kernel⟩
  refine lv_iconst hx hb dX10_init_191 ev344 ?_
  refine tr_newi Z.1 Z.2.2.2.1 Z.2.2.2.2.2 Su343 (hts _ (List.mem_of_getElem? (i := 4) rfl)) rfl 0 rfl 3 (by omega) (vc_ty _ rfl _) (Nat.le_of_ble_eq_true rfl) (82, 0) rfl rfl rfl (fun i => ⟨(by decide : (0 : Int) ≤ 0), (by decide : (0 : Int) ≤ 20)⟩) (fun _ => Ab.ne Aq319 (by decide)) (Nat.le_of_ble_eq_true rfl) (Nat.le_of_ble_eq_true rfl) dX10_init_192 (fun Lq345 Tq345 Eq345 q345 Hq345 Sq345 Pq345 => ?_)
  have Wq345 : Gr a0 [(82, 0), (81, 0), (80, 0), (79, 0), (78, 0), (77, 0), (76, 0), (75, 0), (74, 0), (73, 0), (72, 0), (71, 0), (70, 0), (69, 0), (68, 0), (67, 0), (66, 0), (65, 0), (64, 0), (63, 0), (62, 0), (61, 0), (60, 0)] L τ E Lq345 Tq345 Eq345 := Gr.push Wu343 Pq345
  have f346 : q345 ∉ L := Gr.fresh Wu343 Pq345
  have Aq345 : Ab Lq345 Tq345 [(11, 0), (83, 0), (84, 0), (85, 0), (86, 0)] := Ab.push Aq319 Pq345 (by decide) (by decide)
  have eq345 : Eq345 a0 = .inr (9, [.ref q2, .ref q7, .int 0, .int 0, .int 0, .int 0, .int v12, .ref q15, .int 0, .ref q22, .ref q30, .ref q39, .ref q49, .ref q60, .ref q72, .ref q85, .ref q99, .ref q114, .ref q130, .ref q147, .int 0, .int 0, .int 0, .ref q165, .ref q184, .ref q204, .ref q225, .ref q247, .ref q270, .ref q294, .int 0, .int 0, .int 0, .ref q319, .null, .int 0, .int 0, .int 0, .int 0, .int 0, .int 0, .int 0, .null, .null, .null, .int 0, .null, .int 0]) := (Pq345.2.2.1 a0 hm321).trans hu343
  have hm347 : a0 ∈ Lq345 := Pq345.1 _ hm321
  have tm347 : Tq345 a0 = (211, 0) := (Pq345.2.1 _ hm321).trans tm321
  have hm348 : q2 ∈ Lq345 := Pq345.1 _ hm322
  have tm348 : Tq345 q2 = (60, 0) := (Pq345.2.1 _ hm322).trans tm322
  have hm349 : q7 ∈ Lq345 := Pq345.1 _ hm323
  have tm349 : Tq345 q7 = (61, 0) := (Pq345.2.1 _ hm323).trans tm323
  have hm350 : q15 ∈ Lq345 := Pq345.1 _ hm324
  have tm350 : Tq345 q15 = (62, 0) := (Pq345.2.1 _ hm324).trans tm324
  have hm351 : q22 ∈ Lq345 := Pq345.1 _ hm325
  have tm351 : Tq345 q22 = (63, 0) := (Pq345.2.1 _ hm325).trans tm325
  have hm352 : q30 ∈ Lq345 := Pq345.1 _ hm326
  have tm352 : Tq345 q30 = (64, 0) := (Pq345.2.1 _ hm326).trans tm326
  have hm353 : q39 ∈ Lq345 := Pq345.1 _ hm327
  have tm353 : Tq345 q39 = (65, 0) := (Pq345.2.1 _ hm327).trans tm327
  have hm354 : q49 ∈ Lq345 := Pq345.1 _ hm328
  have tm354 : Tq345 q49 = (66, 0) := (Pq345.2.1 _ hm328).trans tm328
  have hm355 : q60 ∈ Lq345 := Pq345.1 _ hm329
  have tm355 : Tq345 q60 = (67, 0) := (Pq345.2.1 _ hm329).trans tm329
  have hm356 : q72 ∈ Lq345 := Pq345.1 _ hm330
  have tm356 : Tq345 q72 = (68, 0) := (Pq345.2.1 _ hm330).trans tm330
  have hm357 : q85 ∈ Lq345 := Pq345.1 _ hm331
  have tm357 : Tq345 q85 = (69, 0) := (Pq345.2.1 _ hm331).trans tm331
  have hm358 : q99 ∈ Lq345 := Pq345.1 _ hm332
  have tm358 : Tq345 q99 = (70, 0) := (Pq345.2.1 _ hm332).trans tm332
  have hm359 : q114 ∈ Lq345 := Pq345.1 _ hm333
  have tm359 : Tq345 q114 = (71, 0) := (Pq345.2.1 _ hm333).trans tm333
  have hm360 : q130 ∈ Lq345 := Pq345.1 _ hm334
  have tm360 : Tq345 q130 = (72, 0) := (Pq345.2.1 _ hm334).trans tm334
  have hm361 : q147 ∈ Lq345 := Pq345.1 _ hm335
  have tm361 : Tq345 q147 = (73, 0) := (Pq345.2.1 _ hm335).trans tm335
  have hm362 : q165 ∈ Lq345 := Pq345.1 _ hm336
  have tm362 : Tq345 q165 = (74, 0) := (Pq345.2.1 _ hm336).trans tm336
  have hm363 : q184 ∈ Lq345 := Pq345.1 _ hm337
  have tm363 : Tq345 q184 = (75, 0) := (Pq345.2.1 _ hm337).trans tm337
  have hm364 : q204 ∈ Lq345 := Pq345.1 _ hm338
  have tm364 : Tq345 q204 = (76, 0) := (Pq345.2.1 _ hm338).trans tm338
  have hm365 : q225 ∈ Lq345 := Pq345.1 _ hm339
  have tm365 : Tq345 q225 = (77, 0) := (Pq345.2.1 _ hm339).trans tm339
  have hm366 : q247 ∈ Lq345 := Pq345.1 _ hm340
  have tm366 : Tq345 q247 = (78, 0) := (Pq345.2.1 _ hm340).trans tm340
  have hm367 : q270 ∈ Lq345 := Pq345.1 _ hm341
  have tm367 : Tq345 q270 = (79, 0) := (Pq345.2.1 _ hm341).trans tm341
  have hm368 : q294 ∈ Lq345 := Pq345.1 _ hm342
  have tm368 : Tq345 q294 = (80, 0) := (Pq345.2.1 _ hm342).trans tm342
  have hm369 : q319 ∈ Lq345 := Pq345.1 _ Pq319.2.2.2.1
  have tm369 : Tq345 q319 = (81, 0) := (Pq345.2.1 _ Pq319.2.2.2.1).trans Pq319.2.2.2.2.1
  have zrq345 : Eq345 q204 = .inl (cy 0, 50, .inl (fun _ => 0)) := (Pq345.2.2.1 q204 hm338).trans zru343
  refine tr_putR Z.1 Z.2.2.2.1 Sq345 hm347 tm347 rfl rfl rfl eq345 rfl (fun _ h => List.mem_cons_of_mem _ (List.mem_append_right _ h)) tyX10_ok nmX10 34 (by decide) (Nat.le_of_ble_eq_true rfl) (Or.inr ⟨hnm, rfl, rfl⟩) (hts _ (List.mem_of_getElem? (i := 30) rfl)) dX10_init_194 rfl rfl (fun Eu370 Hu370 ku370 Su370 ou370 gu370 => ?_)
  have hu370 : Eu370 a0 = .inr (9, [.ref q2, .ref q7, .int 0, .int 0, .int 0, .int 0, .int v12, .ref q15, .int 0, .ref q22, .ref q30, .ref q39, .ref q49, .ref q60, .ref q72, .ref q85, .ref q99, .ref q114, .ref q130, .ref q147, .int 0, .int 0, .int 0, .ref q165, .ref q184, .ref q204, .ref q225, .ref q247, .ref q270, .ref q294, .int 0, .int 0, .int 0, .ref q319, .ref q345, .int 0, .int 0, .int 0, .int 0, .int 0, .int 0, .int 0, .null, .null, .null, .int 0, .null, .int 0]) := gu370
  have Wu370 : Gr a0 [(82, 0), (81, 0), (80, 0), (79, 0), (78, 0), (77, 0), (76, 0), (75, 0), (74, 0), (73, 0), (72, 0), (71, 0), (70, 0), (69, 0), (68, 0), (67, 0), (66, 0), (65, 0), (64, 0), (63, 0), (62, 0), (61, 0), (60, 0)] L τ E Lq345 Tq345 Eu370 := Gr.wr Wq345 ou370 (Or.inl rfl)
  have zru370 : Eu370 q204 = .inl (cy 0, 50, .inl (fun _ => 0)) := (ou370 q204 (ne_ro tm364 tm347 (by decide))).trans zrq345
  refine lv_aload_n hx hb dX10_init_197 rfl (lv_at hl 0 rfl) ?_
  obtain ⟨v371, ev371, tv371⟩ : ∃ v : Int32, (Int8.ofInt (12)).toInt32 = v ∧ v.toInt = 12 := ⟨_, rfl, by decide +kernel⟩
  refine lv_bipush hx hb dX10_init_198 ev371 ?_
  refine tr_newi Z.1 Z.2.2.2.1 Z.2.2.2.2.2 Su370 (hts _ (List.mem_of_getElem? (i := 4) rfl)) rfl 0 rfl 12 (by omega) (vc_ty _ rfl _) (Nat.le_of_ble_eq_true rfl) (83, 0) rfl rfl rfl (fun i => ⟨(by decide : (-2147483648 : Int) ≤ 0), (by decide : (0 : Int) ≤ 2147483647)⟩) (fun _ => Ab.ne Aq345 (by decide)) (Nat.le_of_ble_eq_true rfl) (Nat.le_of_ble_eq_true rfl) dX10_init_200 (fun Lq372 Tq372 Eq372 q372 Hq372 Sq372 Pq372 => ?_)
  have Wq372 : Gr a0 [(83, 0), (82, 0), (81, 0), (80, 0), (79, 0), (78, 0), (77, 0), (76, 0), (75, 0), (74, 0), (73, 0), (72, 0), (71, 0), (70, 0), (69, 0), (68, 0), (67, 0), (66, 0), (65, 0), (64, 0), (63, 0), (62, 0), (61, 0), (60, 0)] L τ E Lq372 Tq372 Eq372 := Gr.push Wu370 Pq372
  have f373 : q372 ∉ L := Gr.fresh Wu370 Pq372
  have Aq372 : Ab Lq372 Tq372 [(11, 0), (84, 0), (85, 0), (86, 0)] := Ab.push Aq345 Pq372 (by decide) (by decide)
  have eq372 : Eq372 a0 = .inr (9, [.ref q2, .ref q7, .int 0, .int 0, .int 0, .int 0, .int v12, .ref q15, .int 0, .ref q22, .ref q30, .ref q39, .ref q49, .ref q60, .ref q72, .ref q85, .ref q99, .ref q114, .ref q130, .ref q147, .int 0, .int 0, .int 0, .ref q165, .ref q184, .ref q204, .ref q225, .ref q247, .ref q270, .ref q294, .int 0, .int 0, .int 0, .ref q319, .ref q345, .int 0, .int 0, .int 0, .int 0, .int 0, .int 0, .int 0, .null, .null, .null, .int 0, .null, .int 0]) := (Pq372.2.2.1 a0 hm347).trans hu370
  have hm374 : a0 ∈ Lq372 := Pq372.1 _ hm347
  have tm374 : Tq372 a0 = (211, 0) := (Pq372.2.1 _ hm347).trans tm347
  have hm375 : q2 ∈ Lq372 := Pq372.1 _ hm348
  have tm375 : Tq372 q2 = (60, 0) := (Pq372.2.1 _ hm348).trans tm348
  have hm376 : q7 ∈ Lq372 := Pq372.1 _ hm349
  have tm376 : Tq372 q7 = (61, 0) := (Pq372.2.1 _ hm349).trans tm349
  have hm377 : q15 ∈ Lq372 := Pq372.1 _ hm350
  have tm377 : Tq372 q15 = (62, 0) := (Pq372.2.1 _ hm350).trans tm350
  have hm378 : q22 ∈ Lq372 := Pq372.1 _ hm351
  have tm378 : Tq372 q22 = (63, 0) := (Pq372.2.1 _ hm351).trans tm351
  have hm379 : q30 ∈ Lq372 := Pq372.1 _ hm352
  have tm379 : Tq372 q30 = (64, 0) := (Pq372.2.1 _ hm352).trans tm352
  have hm380 : q39 ∈ Lq372 := Pq372.1 _ hm353
  have tm380 : Tq372 q39 = (65, 0) := (Pq372.2.1 _ hm353).trans tm353
  have hm381 : q49 ∈ Lq372 := Pq372.1 _ hm354
  have tm381 : Tq372 q49 = (66, 0) := (Pq372.2.1 _ hm354).trans tm354
  have hm382 : q60 ∈ Lq372 := Pq372.1 _ hm355
  have tm382 : Tq372 q60 = (67, 0) := (Pq372.2.1 _ hm355).trans tm355
  have hm383 : q72 ∈ Lq372 := Pq372.1 _ hm356
  have tm383 : Tq372 q72 = (68, 0) := (Pq372.2.1 _ hm356).trans tm356
  have hm384 : q85 ∈ Lq372 := Pq372.1 _ hm357
  have tm384 : Tq372 q85 = (69, 0) := (Pq372.2.1 _ hm357).trans tm357
  have hm385 : q99 ∈ Lq372 := Pq372.1 _ hm358
  have tm385 : Tq372 q99 = (70, 0) := (Pq372.2.1 _ hm358).trans tm358
  have hm386 : q114 ∈ Lq372 := Pq372.1 _ hm359
  have tm386 : Tq372 q114 = (71, 0) := (Pq372.2.1 _ hm359).trans tm359
  have hm387 : q130 ∈ Lq372 := Pq372.1 _ hm360
  have tm387 : Tq372 q130 = (72, 0) := (Pq372.2.1 _ hm360).trans tm360
  have hm388 : q147 ∈ Lq372 := Pq372.1 _ hm361
  have tm388 : Tq372 q147 = (73, 0) := (Pq372.2.1 _ hm361).trans tm361
  have hm389 : q165 ∈ Lq372 := Pq372.1 _ hm362
  have tm389 : Tq372 q165 = (74, 0) := (Pq372.2.1 _ hm362).trans tm362
  have hm390 : q184 ∈ Lq372 := Pq372.1 _ hm363
  have tm390 : Tq372 q184 = (75, 0) := (Pq372.2.1 _ hm363).trans tm363
  have hm391 : q204 ∈ Lq372 := Pq372.1 _ hm364
  have tm391 : Tq372 q204 = (76, 0) := (Pq372.2.1 _ hm364).trans tm364
  have hm392 : q225 ∈ Lq372 := Pq372.1 _ hm365
  have tm392 : Tq372 q225 = (77, 0) := (Pq372.2.1 _ hm365).trans tm365
  have hm393 : q247 ∈ Lq372 := Pq372.1 _ hm366
  have tm393 : Tq372 q247 = (78, 0) := (Pq372.2.1 _ hm366).trans tm366
  have hm394 : q270 ∈ Lq372 := Pq372.1 _ hm367
  have tm394 : Tq372 q270 = (79, 0) := (Pq372.2.1 _ hm367).trans tm367
  have hm395 : q294 ∈ Lq372 := Pq372.1 _ hm368
  have tm395 : Tq372 q294 = (80, 0) := (Pq372.2.1 _ hm368).trans tm368
  have hm396 : q319 ∈ Lq372 := Pq372.1 _ hm369
  have tm396 : Tq372 q319 = (81, 0) := (Pq372.2.1 _ hm369).trans tm369
  have hm397 : q345 ∈ Lq372 := Pq372.1 _ Pq345.2.2.2.1
  have tm397 : Tq372 q345 = (82, 0) := (Pq372.2.1 _ Pq345.2.2.2.1).trans Pq345.2.2.2.2.1
  have zrq372 : Eq372 q204 = .inl (cy 0, 50, .inl (fun _ => 0)) := (Pq372.2.2.1 q204 hm364).trans zru370
  refine tr_putR Z.1 Z.2.2.2.1 Sq372 hm374 tm374 rfl rfl rfl eq372 rfl (fun _ h => List.mem_cons_of_mem _ (List.mem_append_right _ h)) tyX10_ok nmX10 42 (by decide) (Nat.le_of_ble_eq_true rfl) (Or.inr ⟨hnm, rfl, rfl⟩) (hts _ (List.mem_of_getElem? (i := 31) rfl)) dX10_init_202 rfl rfl (fun Eu398 Hu398 ku398 Su398 ou398 gu398 => ?_)
  have hu398 : Eu398 a0 = .inr (9, [.ref q2, .ref q7, .int 0, .int 0, .int 0, .int 0, .int v12, .ref q15, .int 0, .ref q22, .ref q30, .ref q39, .ref q49, .ref q60, .ref q72, .ref q85, .ref q99, .ref q114, .ref q130, .ref q147, .int 0, .int 0, .int 0, .ref q165, .ref q184, .ref q204, .ref q225, .ref q247, .ref q270, .ref q294, .int 0, .int 0, .int 0, .ref q319, .ref q345, .int 0, .int 0, .int 0, .int 0, .int 0, .int 0, .int 0, .ref q372, .null, .null, .int 0, .null, .int 0]) := gu398
  have Wu398 : Gr a0 [(83, 0), (82, 0), (81, 0), (80, 0), (79, 0), (78, 0), (77, 0), (76, 0), (75, 0), (74, 0), (73, 0), (72, 0), (71, 0), (70, 0), (69, 0), (68, 0), (67, 0), (66, 0), (65, 0), (64, 0), (63, 0), (62, 0), (61, 0), (60, 0)] L τ E Lq372 Tq372 Eu398 := Gr.wr Wq372 ou398 (Or.inl rfl)
  have zru398 : Eu398 q204 = .inl (cy 0, 50, .inl (fun _ => 0)) := (ou398 q204 (ne_ro tm391 tm374 (by decide))).trans zrq372
  refine lv_aload_n hx hb dX10_init_205 rfl (lv_at hl 0 rfl) ?_
  obtain ⟨v399, ev399, tv399⟩ : ∃ v : Int32, (Int16.ofInt (4096)).toInt32 = v ∧ v.toInt = 4096 := ⟨_, rfl, by decide +kernel⟩
  refine lv_sipush hx hb dX10_init_206 ev399 ?_
  refine tr_newi Z.1 Z.2.2.2.1 Z.2.2.2.2.2 Su398 (hts _ (List.mem_of_getElem? (i := 4) rfl)) rfl 0 rfl 4096 (by omega) (vc_ty _ rfl _) (Nat.le_of_ble_eq_true rfl) (84, 0) rfl rfl rfl (fun i => ⟨(by decide : (-2147483648 : Int) ≤ 0), (by decide : (0 : Int) ≤ 2147483647)⟩) (fun _ => Ab.ne Aq372 (by decide)) (Nat.le_of_ble_eq_true rfl) (Nat.le_of_ble_eq_true rfl) dX10_init_209 (fun Lq400 Tq400 Eq400 q400 Hq400 Sq400 Pq400 => ?_)
  have Wq400 : Gr a0 [(84, 0), (83, 0), (82, 0), (81, 0), (80, 0), (79, 0), (78, 0), (77, 0), (76, 0), (75, 0), (74, 0), (73, 0), (72, 0), (71, 0), (70, 0), (69, 0), (68, 0), (67, 0), (66, 0), (65, 0), (64, 0), (63, 0), (62, 0), (61, 0), (60, 0)] L τ E Lq400 Tq400 Eq400 := Gr.push Wu398 Pq400
  have f401 : q400 ∉ L := Gr.fresh Wu398 Pq400
  have Aq400 : Ab Lq400 Tq400 [(11, 0), (85, 0), (86, 0)] := Ab.push Aq372 Pq400 (by decide) (by decide)
  have eq400 : Eq400 a0 = .inr (9, [.ref q2, .ref q7, .int 0, .int 0, .int 0, .int 0, .int v12, .ref q15, .int 0, .ref q22, .ref q30, .ref q39, .ref q49, .ref q60, .ref q72, .ref q85, .ref q99, .ref q114, .ref q130, .ref q147, .int 0, .int 0, .int 0, .ref q165, .ref q184, .ref q204, .ref q225, .ref q247, .ref q270, .ref q294, .int 0, .int 0, .int 0, .ref q319, .ref q345, .int 0, .int 0, .int 0, .int 0, .int 0, .int 0, .int 0, .ref q372, .null, .null, .int 0, .null, .int 0]) := (Pq400.2.2.1 a0 hm374).trans hu398
  have hm402 : a0 ∈ Lq400 := Pq400.1 _ hm374
  have tm402 : Tq400 a0 = (211, 0) := (Pq400.2.1 _ hm374).trans tm374
  have hm403 : q2 ∈ Lq400 := Pq400.1 _ hm375
  have tm403 : Tq400 q2 = (60, 0) := (Pq400.2.1 _ hm375).trans tm375
  have hm404 : q7 ∈ Lq400 := Pq400.1 _ hm376
  have tm404 : Tq400 q7 = (61, 0) := (Pq400.2.1 _ hm376).trans tm376
  have hm405 : q15 ∈ Lq400 := Pq400.1 _ hm377
  have tm405 : Tq400 q15 = (62, 0) := (Pq400.2.1 _ hm377).trans tm377
  have hm406 : q22 ∈ Lq400 := Pq400.1 _ hm378
  have tm406 : Tq400 q22 = (63, 0) := (Pq400.2.1 _ hm378).trans tm378
  have hm407 : q30 ∈ Lq400 := Pq400.1 _ hm379
  have tm407 : Tq400 q30 = (64, 0) := (Pq400.2.1 _ hm379).trans tm379
  have hm408 : q39 ∈ Lq400 := Pq400.1 _ hm380
  have tm408 : Tq400 q39 = (65, 0) := (Pq400.2.1 _ hm380).trans tm380
  have hm409 : q49 ∈ Lq400 := Pq400.1 _ hm381
  have tm409 : Tq400 q49 = (66, 0) := (Pq400.2.1 _ hm381).trans tm381
  have hm410 : q60 ∈ Lq400 := Pq400.1 _ hm382
  have tm410 : Tq400 q60 = (67, 0) := (Pq400.2.1 _ hm382).trans tm382
  have hm411 : q72 ∈ Lq400 := Pq400.1 _ hm383
  have tm411 : Tq400 q72 = (68, 0) := (Pq400.2.1 _ hm383).trans tm383
  have hm412 : q85 ∈ Lq400 := Pq400.1 _ hm384
  have tm412 : Tq400 q85 = (69, 0) := (Pq400.2.1 _ hm384).trans tm384
  have hm413 : q99 ∈ Lq400 := Pq400.1 _ hm385
  have tm413 : Tq400 q99 = (70, 0) := (Pq400.2.1 _ hm385).trans tm385
  have hm414 : q114 ∈ Lq400 := Pq400.1 _ hm386
  have tm414 : Tq400 q114 = (71, 0) := (Pq400.2.1 _ hm386).trans tm386
  have hm415 : q130 ∈ Lq400 := Pq400.1 _ hm387
  have tm415 : Tq400 q130 = (72, 0) := (Pq400.2.1 _ hm387).trans tm387
  have hm416 : q147 ∈ Lq400 := Pq400.1 _ hm388
  have tm416 : Tq400 q147 = (73, 0) := (Pq400.2.1 _ hm388).trans tm388
  have hm417 : q165 ∈ Lq400 := Pq400.1 _ hm389
  have tm417 : Tq400 q165 = (74, 0) := (Pq400.2.1 _ hm389).trans tm389
  have hm418 : q184 ∈ Lq400 := Pq400.1 _ hm390
  have tm418 : Tq400 q184 = (75, 0) := (Pq400.2.1 _ hm390).trans tm390
  have hm419 : q204 ∈ Lq400 := Pq400.1 _ hm391
  have tm419 : Tq400 q204 = (76, 0) := (Pq400.2.1 _ hm391).trans tm391
  have hm420 : q225 ∈ Lq400 := Pq400.1 _ hm392
  have tm420 : Tq400 q225 = (77, 0) := (Pq400.2.1 _ hm392).trans tm392
  have hm421 : q247 ∈ Lq400 := Pq400.1 _ hm393
  have tm421 : Tq400 q247 = (78, 0) := (Pq400.2.1 _ hm393).trans tm393
  have hm422 : q270 ∈ Lq400 := Pq400.1 _ hm394
  have tm422 : Tq400 q270 = (79, 0) := (Pq400.2.1 _ hm394).trans tm394
  have hm423 : q294 ∈ Lq400 := Pq400.1 _ hm395
  have tm423 : Tq400 q294 = (80, 0) := (Pq400.2.1 _ hm395).trans tm395
  have hm424 : q319 ∈ Lq400 := Pq400.1 _ hm396
  have tm424 : Tq400 q319 = (81, 0) := (Pq400.2.1 _ hm396).trans tm396
  have hm425 : q345 ∈ Lq400 := Pq400.1 _ hm397
  have tm425 : Tq400 q345 = (82, 0) := (Pq400.2.1 _ hm397).trans tm397
  have hm426 : q372 ∈ Lq400 := Pq400.1 _ Pq372.2.2.2.1
  have tm426 : Tq400 q372 = (83, 0) := (Pq400.2.1 _ Pq372.2.2.2.1).trans Pq372.2.2.2.2.1
  have zrq400 : Eq400 q204 = .inl (cy 0, 50, .inl (fun _ => 0)) := (Pq400.2.2.1 q204 hm391).trans zru398
  refine tr_putR Z.1 Z.2.2.2.1 Sq400 hm402 tm402 rfl rfl rfl eq400 rfl (fun _ h => List.mem_cons_of_mem _ (List.mem_append_right _ h)) tyX10_ok nmX10 43 (by decide) (Nat.le_of_ble_eq_true rfl) (Or.inr ⟨hnm, rfl, rfl⟩) (hts _ (List.mem_of_getElem? (i := 32) rfl)) dX10_init_211 rfl rfl (fun Eu427 Hu427 ku427 Su427 ou427 gu427 => ?_)
  have hu427 : Eu427 a0 = .inr (9, [.ref q2, .ref q7, .int 0, .int 0, .int 0, .int 0, .int v12, .ref q15, .int 0, .ref q22, .ref q30, .ref q39, .ref q49, .ref q60, .ref q72, .ref q85, .ref q99, .ref q114, .ref q130, .ref q147, .int 0, .int 0, .int 0, .ref q165, .ref q184, .ref q204, .ref q225, .ref q247, .ref q270, .ref q294, .int 0, .int 0, .int 0, .ref q319, .ref q345, .int 0, .int 0, .int 0, .int 0, .int 0, .int 0, .int 0, .ref q372, .ref q400, .null, .int 0, .null, .int 0]) := gu427
  have Wu427 : Gr a0 [(84, 0), (83, 0), (82, 0), (81, 0), (80, 0), (79, 0), (78, 0), (77, 0), (76, 0), (75, 0), (74, 0), (73, 0), (72, 0), (71, 0), (70, 0), (69, 0), (68, 0), (67, 0), (66, 0), (65, 0), (64, 0), (63, 0), (62, 0), (61, 0), (60, 0)] L τ E Lq400 Tq400 Eu427 := Gr.wr Wq400 ou427 (Or.inl rfl)
  have zru427 : Eu427 q204 = .inl (cy 0, 50, .inl (fun _ => 0)) := (ou427 q204 (ne_ro tm419 tm402 (by decide))).trans zrq400
  refine lv_aload_n hx hb dX10_init_214 rfl (lv_at hl 0 rfl) ?_
  obtain ⟨v428, ev428, tv428⟩ : ∃ v : Int32, (Int16.ofInt (4096)).toInt32 = v ∧ v.toInt = 4096 := ⟨_, rfl, by decide +kernel⟩
  refine lv_sipush hx hb dX10_init_215 ev428 ?_
  refine tr_newi Z.1 Z.2.2.2.1 Z.2.2.2.2.2 Su427 (hts _ (List.mem_of_getElem? (i := 4) rfl)) rfl 0 rfl 4096 (by omega) (vc_ty _ rfl _) (Nat.le_of_ble_eq_true rfl) (85, 0) rfl rfl rfl (fun i => ⟨(by decide : (-2147483648 : Int) ≤ 0), (by decide : (0 : Int) ≤ 2147483647)⟩) (fun _ => Ab.ne Aq400 (by decide)) (Nat.le_of_ble_eq_true rfl) (Nat.le_of_ble_eq_true rfl) dX10_init_218 (fun Lq429 Tq429 Eq429 q429 Hq429 Sq429 Pq429 => ?_)
  have Wq429 : Gr a0 [(85, 0), (84, 0), (83, 0), (82, 0), (81, 0), (80, 0), (79, 0), (78, 0), (77, 0), (76, 0), (75, 0), (74, 0), (73, 0), (72, 0), (71, 0), (70, 0), (69, 0), (68, 0), (67, 0), (66, 0), (65, 0), (64, 0), (63, 0), (62, 0), (61, 0), (60, 0)] L τ E Lq429 Tq429 Eq429 := Gr.push Wu427 Pq429
  have f430 : q429 ∉ L := Gr.fresh Wu427 Pq429
  have Aq429 : Ab Lq429 Tq429 [(11, 0), (86, 0)] := Ab.push Aq400 Pq429 (by decide) (by decide)
  have eq429 : Eq429 a0 = .inr (9, [.ref q2, .ref q7, .int 0, .int 0, .int 0, .int 0, .int v12, .ref q15, .int 0, .ref q22, .ref q30, .ref q39, .ref q49, .ref q60, .ref q72, .ref q85, .ref q99, .ref q114, .ref q130, .ref q147, .int 0, .int 0, .int 0, .ref q165, .ref q184, .ref q204, .ref q225, .ref q247, .ref q270, .ref q294, .int 0, .int 0, .int 0, .ref q319, .ref q345, .int 0, .int 0, .int 0, .int 0, .int 0, .int 0, .int 0, .ref q372, .ref q400, .null, .int 0, .null, .int 0]) := (Pq429.2.2.1 a0 hm402).trans hu427
  have hm431 : a0 ∈ Lq429 := Pq429.1 _ hm402
  have tm431 : Tq429 a0 = (211, 0) := (Pq429.2.1 _ hm402).trans tm402
  have hm432 : q2 ∈ Lq429 := Pq429.1 _ hm403
  have tm432 : Tq429 q2 = (60, 0) := (Pq429.2.1 _ hm403).trans tm403
  have hm433 : q7 ∈ Lq429 := Pq429.1 _ hm404
  have tm433 : Tq429 q7 = (61, 0) := (Pq429.2.1 _ hm404).trans tm404
  have hm434 : q15 ∈ Lq429 := Pq429.1 _ hm405
  have tm434 : Tq429 q15 = (62, 0) := (Pq429.2.1 _ hm405).trans tm405
  have hm435 : q22 ∈ Lq429 := Pq429.1 _ hm406
  have tm435 : Tq429 q22 = (63, 0) := (Pq429.2.1 _ hm406).trans tm406
  have hm436 : q30 ∈ Lq429 := Pq429.1 _ hm407
  have tm436 : Tq429 q30 = (64, 0) := (Pq429.2.1 _ hm407).trans tm407
  have hm437 : q39 ∈ Lq429 := Pq429.1 _ hm408
  have tm437 : Tq429 q39 = (65, 0) := (Pq429.2.1 _ hm408).trans tm408
  have hm438 : q49 ∈ Lq429 := Pq429.1 _ hm409
  have tm438 : Tq429 q49 = (66, 0) := (Pq429.2.1 _ hm409).trans tm409
  have hm439 : q60 ∈ Lq429 := Pq429.1 _ hm410
  have tm439 : Tq429 q60 = (67, 0) := (Pq429.2.1 _ hm410).trans tm410
  have hm440 : q72 ∈ Lq429 := Pq429.1 _ hm411
  have tm440 : Tq429 q72 = (68, 0) := (Pq429.2.1 _ hm411).trans tm411
  have hm441 : q85 ∈ Lq429 := Pq429.1 _ hm412
  have tm441 : Tq429 q85 = (69, 0) := (Pq429.2.1 _ hm412).trans tm412
  have hm442 : q99 ∈ Lq429 := Pq429.1 _ hm413
  have tm442 : Tq429 q99 = (70, 0) := (Pq429.2.1 _ hm413).trans tm413
  have hm443 : q114 ∈ Lq429 := Pq429.1 _ hm414
  have tm443 : Tq429 q114 = (71, 0) := (Pq429.2.1 _ hm414).trans tm414
  have hm444 : q130 ∈ Lq429 := Pq429.1 _ hm415
  have tm444 : Tq429 q130 = (72, 0) := (Pq429.2.1 _ hm415).trans tm415
  have hm445 : q147 ∈ Lq429 := Pq429.1 _ hm416
  have tm445 : Tq429 q147 = (73, 0) := (Pq429.2.1 _ hm416).trans tm416
  have hm446 : q165 ∈ Lq429 := Pq429.1 _ hm417
  have tm446 : Tq429 q165 = (74, 0) := (Pq429.2.1 _ hm417).trans tm417
  have hm447 : q184 ∈ Lq429 := Pq429.1 _ hm418
  have tm447 : Tq429 q184 = (75, 0) := (Pq429.2.1 _ hm418).trans tm418
  have hm448 : q204 ∈ Lq429 := Pq429.1 _ hm419
  have tm448 : Tq429 q204 = (76, 0) := (Pq429.2.1 _ hm419).trans tm419
  have hm449 : q225 ∈ Lq429 := Pq429.1 _ hm420
  have tm449 : Tq429 q225 = (77, 0) := (Pq429.2.1 _ hm420).trans tm420
  have hm450 : q247 ∈ Lq429 := Pq429.1 _ hm421
  have tm450 : Tq429 q247 = (78, 0) := (Pq429.2.1 _ hm421).trans tm421
  have hm451 : q270 ∈ Lq429 := Pq429.1 _ hm422
  have tm451 : Tq429 q270 = (79, 0) := (Pq429.2.1 _ hm422).trans tm422
  have hm452 : q294 ∈ Lq429 := Pq429.1 _ hm423
  have tm452 : Tq429 q294 = (80, 0) := (Pq429.2.1 _ hm423).trans tm423
  have hm453 : q319 ∈ Lq429 := Pq429.1 _ hm424
  have tm453 : Tq429 q319 = (81, 0) := (Pq429.2.1 _ hm424).trans tm424
  have hm454 : q345 ∈ Lq429 := Pq429.1 _ hm425
  have tm454 : Tq429 q345 = (82, 0) := (Pq429.2.1 _ hm425).trans tm425
  have hm455 : q372 ∈ Lq429 := Pq429.1 _ hm426
  have tm455 : Tq429 q372 = (83, 0) := (Pq429.2.1 _ hm426).trans tm426
  have hm456 : q400 ∈ Lq429 := Pq429.1 _ Pq400.2.2.2.1
  have tm456 : Tq429 q400 = (84, 0) := (Pq429.2.1 _ Pq400.2.2.2.1).trans Pq400.2.2.2.2.1
  have zrq429 : Eq429 q204 = .inl (cy 0, 50, .inl (fun _ => 0)) := (Pq429.2.2.1 q204 hm419).trans zru427
  refine tr_putR Z.1 Z.2.2.2.1 Sq429 hm431 tm431 rfl rfl rfl eq429 rfl (fun _ h => List.mem_cons_of_mem _ (List.mem_append_right _ h)) tyX10_ok nmX10 44 (by decide) (Nat.le_of_ble_eq_true rfl) (Or.inr ⟨hnm, rfl, rfl⟩) (hts _ (List.mem_of_getElem? (i := 33) rfl)) dX10_init_220 rfl rfl (fun Eu457 Hu457 ku457 Su457 ou457 gu457 => ?_)
  have hu457 : Eu457 a0 = .inr (9, [.ref q2, .ref q7, .int 0, .int 0, .int 0, .int 0, .int v12, .ref q15, .int 0, .ref q22, .ref q30, .ref q39, .ref q49, .ref q60, .ref q72, .ref q85, .ref q99, .ref q114, .ref q130, .ref q147, .int 0, .int 0, .int 0, .ref q165, .ref q184, .ref q204, .ref q225, .ref q247, .ref q270, .ref q294, .int 0, .int 0, .int 0, .ref q319, .ref q345, .int 0, .int 0, .int 0, .int 0, .int 0, .int 0, .int 0, .ref q372, .ref q400, .ref q429, .int 0, .null, .int 0]) := gu457
  have Wu457 : Gr a0 [(85, 0), (84, 0), (83, 0), (82, 0), (81, 0), (80, 0), (79, 0), (78, 0), (77, 0), (76, 0), (75, 0), (74, 0), (73, 0), (72, 0), (71, 0), (70, 0), (69, 0), (68, 0), (67, 0), (66, 0), (65, 0), (64, 0), (63, 0), (62, 0), (61, 0), (60, 0)] L τ E Lq429 Tq429 Eu457 := Gr.wr Wq429 ou457 (Or.inl rfl)
  have zru457 : Eu457 q204 = .inl (cy 0, 50, .inl (fun _ => 0)) := (ou457 q204 (ne_ro tm448 tm431 (by decide))).trans zrq429
  refine lv_aload_n hx hb dX10_init_223 rfl (lv_at hl 0 rfl) ?_
  obtain ⟨v458, ev458, tv458⟩ : ∃ v : Int32, (Int16.ofInt (264)).toInt32 = v ∧ v.toInt = 264 := ⟨_, rfl, by decide +kernel⟩
  refine lv_sipush hx hb dX10_init_224 ev458 ?_
  refine tr_newi Z.1 Z.2.2.2.1 Z.2.2.2.2.2 Su457 (hts _ (List.mem_of_getElem? (i := 4) rfl)) rfl 0 rfl 264 (by omega) (vc_ty _ rfl _) (Nat.le_of_ble_eq_true rfl) (86, 0) rfl rfl rfl (fun i => ⟨(by decide : (-2147483648 : Int) ≤ 0), (by decide : (0 : Int) ≤ 2147483647)⟩) (fun _ => Ab.ne Aq429 (by decide)) (Nat.le_of_ble_eq_true rfl) (Nat.le_of_ble_eq_true rfl) dX10_init_227 (fun Lq459 Tq459 Eq459 q459 Hq459 Sq459 Pq459 => ?_)
  have Wq459 : Gr a0 [(86, 0), (85, 0), (84, 0), (83, 0), (82, 0), (81, 0), (80, 0), (79, 0), (78, 0), (77, 0), (76, 0), (75, 0), (74, 0), (73, 0), (72, 0), (71, 0), (70, 0), (69, 0), (68, 0), (67, 0), (66, 0), (65, 0), (64, 0), (63, 0), (62, 0), (61, 0), (60, 0)] L τ E Lq459 Tq459 Eq459 := Gr.push Wu457 Pq459
  have f460 : q459 ∉ L := Gr.fresh Wu457 Pq459
  have Aq459 : Ab Lq459 Tq459 [(11, 0)] := Ab.push Aq429 Pq459 (by decide) (by decide)
  have eq459 : Eq459 a0 = .inr (9, [.ref q2, .ref q7, .int 0, .int 0, .int 0, .int 0, .int v12, .ref q15, .int 0, .ref q22, .ref q30, .ref q39, .ref q49, .ref q60, .ref q72, .ref q85, .ref q99, .ref q114, .ref q130, .ref q147, .int 0, .int 0, .int 0, .ref q165, .ref q184, .ref q204, .ref q225, .ref q247, .ref q270, .ref q294, .int 0, .int 0, .int 0, .ref q319, .ref q345, .int 0, .int 0, .int 0, .int 0, .int 0, .int 0, .int 0, .ref q372, .ref q400, .ref q429, .int 0, .null, .int 0]) := (Pq459.2.2.1 a0 hm431).trans hu457
  have hm461 : a0 ∈ Lq459 := Pq459.1 _ hm431
  have tm461 : Tq459 a0 = (211, 0) := (Pq459.2.1 _ hm431).trans tm431
  have hm462 : q2 ∈ Lq459 := Pq459.1 _ hm432
  have tm462 : Tq459 q2 = (60, 0) := (Pq459.2.1 _ hm432).trans tm432
  have hm463 : q7 ∈ Lq459 := Pq459.1 _ hm433
  have tm463 : Tq459 q7 = (61, 0) := (Pq459.2.1 _ hm433).trans tm433
  have hm464 : q15 ∈ Lq459 := Pq459.1 _ hm434
  have tm464 : Tq459 q15 = (62, 0) := (Pq459.2.1 _ hm434).trans tm434
  have hm465 : q22 ∈ Lq459 := Pq459.1 _ hm435
  have tm465 : Tq459 q22 = (63, 0) := (Pq459.2.1 _ hm435).trans tm435
  have hm466 : q30 ∈ Lq459 := Pq459.1 _ hm436
  have tm466 : Tq459 q30 = (64, 0) := (Pq459.2.1 _ hm436).trans tm436
  have hm467 : q39 ∈ Lq459 := Pq459.1 _ hm437
  have tm467 : Tq459 q39 = (65, 0) := (Pq459.2.1 _ hm437).trans tm437
  have hm468 : q49 ∈ Lq459 := Pq459.1 _ hm438
  have tm468 : Tq459 q49 = (66, 0) := (Pq459.2.1 _ hm438).trans tm438
  have hm469 : q60 ∈ Lq459 := Pq459.1 _ hm439
  have tm469 : Tq459 q60 = (67, 0) := (Pq459.2.1 _ hm439).trans tm439
  have hm470 : q72 ∈ Lq459 := Pq459.1 _ hm440
  have tm470 : Tq459 q72 = (68, 0) := (Pq459.2.1 _ hm440).trans tm440
  have hm471 : q85 ∈ Lq459 := Pq459.1 _ hm441
  have tm471 : Tq459 q85 = (69, 0) := (Pq459.2.1 _ hm441).trans tm441
  have hm472 : q99 ∈ Lq459 := Pq459.1 _ hm442
  have tm472 : Tq459 q99 = (70, 0) := (Pq459.2.1 _ hm442).trans tm442
  have hm473 : q114 ∈ Lq459 := Pq459.1 _ hm443
  have tm473 : Tq459 q114 = (71, 0) := (Pq459.2.1 _ hm443).trans tm443
  have hm474 : q130 ∈ Lq459 := Pq459.1 _ hm444
  have tm474 : Tq459 q130 = (72, 0) := (Pq459.2.1 _ hm444).trans tm444
  have hm475 : q147 ∈ Lq459 := Pq459.1 _ hm445
  have tm475 : Tq459 q147 = (73, 0) := (Pq459.2.1 _ hm445).trans tm445
  have hm476 : q165 ∈ Lq459 := Pq459.1 _ hm446
  have tm476 : Tq459 q165 = (74, 0) := (Pq459.2.1 _ hm446).trans tm446
  have hm477 : q184 ∈ Lq459 := Pq459.1 _ hm447
  have tm477 : Tq459 q184 = (75, 0) := (Pq459.2.1 _ hm447).trans tm447
  have hm478 : q204 ∈ Lq459 := Pq459.1 _ hm448
  have tm478 : Tq459 q204 = (76, 0) := (Pq459.2.1 _ hm448).trans tm448
  have hm479 : q225 ∈ Lq459 := Pq459.1 _ hm449
  have tm479 : Tq459 q225 = (77, 0) := (Pq459.2.1 _ hm449).trans tm449
  have hm480 : q247 ∈ Lq459 := Pq459.1 _ hm450
  have tm480 : Tq459 q247 = (78, 0) := (Pq459.2.1 _ hm450).trans tm450
  have hm481 : q270 ∈ Lq459 := Pq459.1 _ hm451
  have tm481 : Tq459 q270 = (79, 0) := (Pq459.2.1 _ hm451).trans tm451
  have hm482 : q294 ∈ Lq459 := Pq459.1 _ hm452
  have tm482 : Tq459 q294 = (80, 0) := (Pq459.2.1 _ hm452).trans tm452
  have hm483 : q319 ∈ Lq459 := Pq459.1 _ hm453
  have tm483 : Tq459 q319 = (81, 0) := (Pq459.2.1 _ hm453).trans tm453
  have hm484 : q345 ∈ Lq459 := Pq459.1 _ hm454
  have tm484 : Tq459 q345 = (82, 0) := (Pq459.2.1 _ hm454).trans tm454
  have hm485 : q372 ∈ Lq459 := Pq459.1 _ hm455
  have tm485 : Tq459 q372 = (83, 0) := (Pq459.2.1 _ hm455).trans tm455
  have hm486 : q400 ∈ Lq459 := Pq459.1 _ hm456
  have tm486 : Tq459 q400 = (84, 0) := (Pq459.2.1 _ hm456).trans tm456
  have hm487 : q429 ∈ Lq459 := Pq459.1 _ Pq429.2.2.2.1
  have tm487 : Tq459 q429 = (85, 0) := (Pq459.2.1 _ Pq429.2.2.2.1).trans Pq429.2.2.2.2.1
  have zrq459 : Eq459 q204 = .inl (cy 0, 50, .inl (fun _ => 0)) := (Pq459.2.2.1 q204 hm448).trans zru457
  refine tr_putR Z.1 Z.2.2.2.1 Sq459 hm461 tm461 rfl rfl rfl eq459 rfl (fun _ h => List.mem_cons_of_mem _ (List.mem_append_right _ h)) tyX10_ok nmX10 46 (by decide) (Nat.le_of_ble_eq_true rfl) (Or.inr ⟨hnm, rfl, rfl⟩) (hts _ (List.mem_of_getElem? (i := 34) rfl)) dX10_init_229 rfl rfl (fun Eu488 Hu488 ku488 Su488 ou488 gu488 => ?_)
  have hu488 : Eu488 a0 = .inr (9, [.ref q2, .ref q7, .int 0, .int 0, .int 0, .int 0, .int v12, .ref q15, .int 0, .ref q22, .ref q30, .ref q39, .ref q49, .ref q60, .ref q72, .ref q85, .ref q99, .ref q114, .ref q130, .ref q147, .int 0, .int 0, .int 0, .ref q165, .ref q184, .ref q204, .ref q225, .ref q247, .ref q270, .ref q294, .int 0, .int 0, .int 0, .ref q319, .ref q345, .int 0, .int 0, .int 0, .int 0, .int 0, .int 0, .int 0, .ref q372, .ref q400, .ref q429, .int 0, .ref q459, .int 0]) := gu488
  have Wu488 : Gr a0 [(86, 0), (85, 0), (84, 0), (83, 0), (82, 0), (81, 0), (80, 0), (79, 0), (78, 0), (77, 0), (76, 0), (75, 0), (74, 0), (73, 0), (72, 0), (71, 0), (70, 0), (69, 0), (68, 0), (67, 0), (66, 0), (65, 0), (64, 0), (63, 0), (62, 0), (61, 0), (60, 0)] L τ E Lq459 Tq459 Eu488 := Gr.wr Wq459 ou488 (Or.inl rfl)
  have zru488 : Eu488 q204 = .inl (cy 0, 50, .inl (fun _ => 0)) := (ou488 q204 (ne_ro tm478 tm461 (by decide))).trans zrq459
  refine lv_aload_n hx hb dX10_init_232 rfl (lv_at hl 0 rfl) ?_
  refine tr_getR Z.1 Z.2.2.2.1 Su488 hm461 hu488 rfl (fun _ h => List.mem_cons_of_mem _ (List.mem_append_right _ h)) 0 (Nat.le_of_ble_eq_true rfl) rfl (hts _ (List.mem_of_getElem? (i := 5) rfl)) dX10_init_233 ?_
  obtain ⟨v489, ev489, tv489⟩ : ∃ v : Int32, Int32.ofInt (0) = v ∧ v.toInt = 0 := ⟨_, rfl, by decide +kernel⟩
  refine lv_iconst hx hb dX10_init_236 ev489 ?_
  obtain ⟨v490, ev490, tv490⟩ : ∃ v : Int32, (Int16.ofInt (2600)).toInt32 = v ∧ v.toInt = 2600 := ⟨_, rfl, by decide +kernel⟩
  refine lv_sipush hx hb dX10_init_237 ev490 ?_
  have bu491 : nowB v489.toNatClampNeg = (-2147483648, 2147483647) := nb_o (by show v489.toInt.toNat < 4 ∨ (8 ≤ v489.toInt.toNat ∧ v489.toInt.toNat ≤ 18) ∨ (20 ≤ v489.toInt.toNat ∧ v489.toInt.toNat ≤ 43); omega)
  refine tr_iastx Z.1 Z.2.2.2.1 Su488.1 Su488.2 hm462 tm462 rfl (by omega) (by omega) (by rw [bu491]; show -2147483648 ≤ _; omega) (by rw [bu491]; show _ ≤ 2147483647; omega) dX10_init_240 (fun Eu491 Hu491 ku491 wu491 iu491 Pu491 => ?_)
  have Su491 : NowG D cy (va_A (va_pl L _) sz) s Lq459 Tq459 Eu491 Hu491 ku491 := ⟨wu491, iu491⟩
  have hu491 : Eu491 a0 = .inr (9, [.ref q2, .ref q7, .int 0, .int 0, .int 0, .int 0, .int v12, .ref q15, .int 0, .ref q22, .ref q30, .ref q39, .ref q49, .ref q60, .ref q72, .ref q85, .ref q99, .ref q114, .ref q130, .ref q147, .int 0, .int 0, .int 0, .ref q165, .ref q184, .ref q204, .ref q225, .ref q247, .ref q270, .ref q294, .int 0, .int 0, .int 0, .ref q319, .ref q345, .int 0, .int 0, .int 0, .int 0, .int 0, .int 0, .int 0, .ref q372, .ref q400, .ref q429, .int 0, .ref q459, .int 0]) := (Pu491.1 a0 (ne_ro tm461 tm462 (by decide))).trans hu488
  have Wu491 : Gr a0 [(86, 0), (85, 0), (84, 0), (83, 0), (82, 0), (81, 0), (80, 0), (79, 0), (78, 0), (77, 0), (76, 0), (75, 0), (74, 0), (73, 0), (72, 0), (71, 0), (70, 0), (69, 0), (68, 0), (67, 0), (66, 0), (65, 0), (64, 0), (63, 0), (62, 0), (61, 0), (60, 0)] L τ E Lq459 Tq459 Eu491 := Gr.wr Wu488 Pu491.1 (Or.inr f3)
  have zru491 : Eu491 q204 = .inl (cy 0, 50, .inl (fun _ => 0)) := (Pu491.1 q204 (ne_ro tm478 tm462 (by decide))).trans zru488
  refine lv_aload_n hx hb dX10_init_241 rfl (lv_at hl 0 rfl) ?_
  refine tr_getR Z.1 Z.2.2.2.1 Su491 hm461 hu491 rfl (fun _ h => List.mem_cons_of_mem _ (List.mem_append_right _ h)) 0 (Nat.le_of_ble_eq_true rfl) rfl (hts _ (List.mem_of_getElem? (i := 5) rfl)) dX10_init_242 ?_
  obtain ⟨v492, ev492, tv492⟩ : ∃ v : Int32, Int32.ofInt (1) = v ∧ v.toInt = 1 := ⟨_, rfl, by decide +kernel⟩
  refine lv_iconst hx hb dX10_init_245 ev492 ?_
  obtain ⟨v493, ev493, tv493⟩ : ∃ v : Int32, (Int16.ofInt (900)).toInt32 = v ∧ v.toInt = 900 := ⟨_, rfl, by decide +kernel⟩
  refine lv_sipush hx hb dX10_init_246 ev493 ?_
  have bu494 : nowB v492.toNatClampNeg = (-2147483648, 2147483647) := nb_o (by show v492.toInt.toNat < 4 ∨ (8 ≤ v492.toInt.toNat ∧ v492.toInt.toNat ≤ 18) ∨ (20 ≤ v492.toInt.toNat ∧ v492.toInt.toNat ≤ 43); omega)
  refine tr_iastx Z.1 Z.2.2.2.1 Su491.1 Su491.2 hm462 tm462 rfl (by omega) (by omega) (by rw [bu494]; show -2147483648 ≤ _; omega) (by rw [bu494]; show _ ≤ 2147483647; omega) dX10_init_249 (fun Eu494 Hu494 ku494 wu494 iu494 Pu494 => ?_)
  have Su494 : NowG D cy (va_A (va_pl L _) sz) s Lq459 Tq459 Eu494 Hu494 ku494 := ⟨wu494, iu494⟩
  have hu494 : Eu494 a0 = .inr (9, [.ref q2, .ref q7, .int 0, .int 0, .int 0, .int 0, .int v12, .ref q15, .int 0, .ref q22, .ref q30, .ref q39, .ref q49, .ref q60, .ref q72, .ref q85, .ref q99, .ref q114, .ref q130, .ref q147, .int 0, .int 0, .int 0, .ref q165, .ref q184, .ref q204, .ref q225, .ref q247, .ref q270, .ref q294, .int 0, .int 0, .int 0, .ref q319, .ref q345, .int 0, .int 0, .int 0, .int 0, .int 0, .int 0, .int 0, .ref q372, .ref q400, .ref q429, .int 0, .ref q459, .int 0]) := (Pu494.1 a0 (ne_ro tm461 tm462 (by decide))).trans hu491
  have Wu494 : Gr a0 [(86, 0), (85, 0), (84, 0), (83, 0), (82, 0), (81, 0), (80, 0), (79, 0), (78, 0), (77, 0), (76, 0), (75, 0), (74, 0), (73, 0), (72, 0), (71, 0), (70, 0), (69, 0), (68, 0), (67, 0), (66, 0), (65, 0), (64, 0), (63, 0), (62, 0), (61, 0), (60, 0)] L τ E Lq459 Tq459 Eu494 := Gr.wr Wu491 Pu494.1 (Or.inr f3)
  have zru494 : Eu494 q204 = .inl (cy 0, 50, .inl (fun _ => 0)) := (Pu494.1 q204 (ne_ro tm478 tm462 (by decide))).trans zru491
  refine lv_aload_n hx hb dX10_init_250 rfl (lv_at hl 0 rfl) ?_
  refine tr_getR Z.1 Z.2.2.2.1 Su494 hm461 hu494 rfl (fun _ h => List.mem_cons_of_mem _ (List.mem_append_right _ h)) 0 (Nat.le_of_ble_eq_true rfl) rfl (hts _ (List.mem_of_getElem? (i := 5) rfl)) dX10_init_251 ?_
  obtain ⟨v495, ev495, tv495⟩ : ∃ v : Int32, Int32.ofInt (2) = v ∧ v.toInt = 2 := ⟨_, rfl, by decide +kernel⟩
  refine lv_iconst hx hb dX10_init_254 ev495 ?_
  obtain ⟨v496, ev496, tv496⟩ : ∃ v : Int32, (Int16.ofInt (400)).toInt32 = v ∧ v.toInt = 400 := ⟨_, rfl, by decide +kernel⟩
  refine lv_sipush hx hb dX10_init_255 ev496 ?_
  have bu497 : nowB v495.toNatClampNeg = (-2147483648, 2147483647) := nb_o (by show v495.toInt.toNat < 4 ∨ (8 ≤ v495.toInt.toNat ∧ v495.toInt.toNat ≤ 18) ∨ (20 ≤ v495.toInt.toNat ∧ v495.toInt.toNat ≤ 43); omega)
  refine tr_iastx Z.1 Z.2.2.2.1 Su494.1 Su494.2 hm462 tm462 rfl (by omega) (by omega) (by rw [bu497]; show -2147483648 ≤ _; omega) (by rw [bu497]; show _ ≤ 2147483647; omega) dX10_init_258 (fun Eu497 Hu497 ku497 wu497 iu497 Pu497 => ?_)
  have Su497 : NowG D cy (va_A (va_pl L _) sz) s Lq459 Tq459 Eu497 Hu497 ku497 := ⟨wu497, iu497⟩
  have hu497 : Eu497 a0 = .inr (9, [.ref q2, .ref q7, .int 0, .int 0, .int 0, .int 0, .int v12, .ref q15, .int 0, .ref q22, .ref q30, .ref q39, .ref q49, .ref q60, .ref q72, .ref q85, .ref q99, .ref q114, .ref q130, .ref q147, .int 0, .int 0, .int 0, .ref q165, .ref q184, .ref q204, .ref q225, .ref q247, .ref q270, .ref q294, .int 0, .int 0, .int 0, .ref q319, .ref q345, .int 0, .int 0, .int 0, .int 0, .int 0, .int 0, .int 0, .ref q372, .ref q400, .ref q429, .int 0, .ref q459, .int 0]) := (Pu497.1 a0 (ne_ro tm461 tm462 (by decide))).trans hu494
  have Wu497 : Gr a0 [(86, 0), (85, 0), (84, 0), (83, 0), (82, 0), (81, 0), (80, 0), (79, 0), (78, 0), (77, 0), (76, 0), (75, 0), (74, 0), (73, 0), (72, 0), (71, 0), (70, 0), (69, 0), (68, 0), (67, 0), (66, 0), (65, 0), (64, 0), (63, 0), (62, 0), (61, 0), (60, 0)] L τ E Lq459 Tq459 Eu497 := Gr.wr Wu494 Pu497.1 (Or.inr f3)
  have zru497 : Eu497 q204 = .inl (cy 0, 50, .inl (fun _ => 0)) := (Pu497.1 q204 (ne_ro tm478 tm462 (by decide))).trans zru494
  refine lv_aload_n hx hb dX10_init_259 rfl (lv_at hl 0 rfl) ?_
  refine tr_getR Z.1 Z.2.2.2.1 Su497 hm461 hu497 rfl (fun _ h => List.mem_cons_of_mem _ (List.mem_append_right _ h)) 0 (Nat.le_of_ble_eq_true rfl) rfl (hts _ (List.mem_of_getElem? (i := 5) rfl)) dX10_init_260 ?_
  obtain ⟨v498, ev498, tv498⟩ : ∃ v : Int32, Int32.ofInt (3) = v ∧ v.toInt = 3 := ⟨_, rfl, by decide +kernel⟩
  refine lv_iconst hx hb dX10_init_263 ev498 ?_
  obtain ⟨v499, ev499, tv499⟩ : ∃ v : Int32, (Int8.ofInt (60)).toInt32 = v ∧ v.toInt = 60 := ⟨_, rfl, by decide +kernel⟩
  refine lv_bipush hx hb dX10_init_264 ev499 ?_
  have bu500 : nowB v498.toNatClampNeg = (-2147483648, 2147483647) := nb_o (by show v498.toInt.toNat < 4 ∨ (8 ≤ v498.toInt.toNat ∧ v498.toInt.toNat ≤ 18) ∨ (20 ≤ v498.toInt.toNat ∧ v498.toInt.toNat ≤ 43); omega)
  refine tr_iastx Z.1 Z.2.2.2.1 Su497.1 Su497.2 hm462 tm462 rfl (by omega) (by omega) (by rw [bu500]; show -2147483648 ≤ _; omega) (by rw [bu500]; show _ ≤ 2147483647; omega) dX10_init_266 (fun Eu500 Hu500 ku500 wu500 iu500 Pu500 => ?_)
  have Su500 : NowG D cy (va_A (va_pl L _) sz) s Lq459 Tq459 Eu500 Hu500 ku500 := ⟨wu500, iu500⟩
  have hu500 : Eu500 a0 = .inr (9, [.ref q2, .ref q7, .int 0, .int 0, .int 0, .int 0, .int v12, .ref q15, .int 0, .ref q22, .ref q30, .ref q39, .ref q49, .ref q60, .ref q72, .ref q85, .ref q99, .ref q114, .ref q130, .ref q147, .int 0, .int 0, .int 0, .ref q165, .ref q184, .ref q204, .ref q225, .ref q247, .ref q270, .ref q294, .int 0, .int 0, .int 0, .ref q319, .ref q345, .int 0, .int 0, .int 0, .int 0, .int 0, .int 0, .int 0, .ref q372, .ref q400, .ref q429, .int 0, .ref q459, .int 0]) := (Pu500.1 a0 (ne_ro tm461 tm462 (by decide))).trans hu497
  have Wu500 : Gr a0 [(86, 0), (85, 0), (84, 0), (83, 0), (82, 0), (81, 0), (80, 0), (79, 0), (78, 0), (77, 0), (76, 0), (75, 0), (74, 0), (73, 0), (72, 0), (71, 0), (70, 0), (69, 0), (68, 0), (67, 0), (66, 0), (65, 0), (64, 0), (63, 0), (62, 0), (61, 0), (60, 0)] L τ E Lq459 Tq459 Eu500 := Gr.wr Wu497 Pu500.1 (Or.inr f3)
  have zru500 : Eu500 q204 = .inl (cy 0, 50, .inl (fun _ => 0)) := (Pu500.1 q204 (ne_ro tm478 tm462 (by decide))).trans zru497
  refine lv_aload_n hx hb dX10_init_267 rfl (lv_at hl 0 rfl) ?_
  refine tr_getR Z.1 Z.2.2.2.1 Su500 hm461 hu500 rfl (fun _ h => List.mem_cons_of_mem _ (List.mem_append_right _ h)) 0 (Nat.le_of_ble_eq_true rfl) rfl (hts _ (List.mem_of_getElem? (i := 5) rfl)) dX10_init_268 ?_
  obtain ⟨v501, ev501, tv501⟩ : ∃ v : Int32, Int32.ofInt (4) = v ∧ v.toInt = 4 := ⟨_, rfl, by decide +kernel⟩
  refine lv_iconst hx hb dX10_init_271 ev501 ?_
  obtain ⟨v502, ev502, tv502⟩ : ∃ v : Int32, Int32.ofInt (1) = v ∧ v.toInt = 1 := ⟨_, rfl, by decide +kernel⟩
  refine lv_iconst hx hb dX10_init_272 ev502 ?_
  have bu503 : nowB v501.toNatClampNeg = (0, 3) := nb_4 (by show v501.toInt.toNat = 4; omega)
  refine tr_iastx Z.1 Z.2.2.2.1 Su500.1 Su500.2 hm462 tm462 rfl (by omega) (by omega) (by rw [bu503]; show 0 ≤ _; omega) (by rw [bu503]; show _ ≤ 3; omega) dX10_init_273 (fun Eu503 Hu503 ku503 wu503 iu503 Pu503 => ?_)
  have Su503 : NowG D cy (va_A (va_pl L _) sz) s Lq459 Tq459 Eu503 Hu503 ku503 := ⟨wu503, iu503⟩
  have hu503 : Eu503 a0 = .inr (9, [.ref q2, .ref q7, .int 0, .int 0, .int 0, .int 0, .int v12, .ref q15, .int 0, .ref q22, .ref q30, .ref q39, .ref q49, .ref q60, .ref q72, .ref q85, .ref q99, .ref q114, .ref q130, .ref q147, .int 0, .int 0, .int 0, .ref q165, .ref q184, .ref q204, .ref q225, .ref q247, .ref q270, .ref q294, .int 0, .int 0, .int 0, .ref q319, .ref q345, .int 0, .int 0, .int 0, .int 0, .int 0, .int 0, .int 0, .ref q372, .ref q400, .ref q429, .int 0, .ref q459, .int 0]) := (Pu503.1 a0 (ne_ro tm461 tm462 (by decide))).trans hu500
  have Wu503 : Gr a0 [(86, 0), (85, 0), (84, 0), (83, 0), (82, 0), (81, 0), (80, 0), (79, 0), (78, 0), (77, 0), (76, 0), (75, 0), (74, 0), (73, 0), (72, 0), (71, 0), (70, 0), (69, 0), (68, 0), (67, 0), (66, 0), (65, 0), (64, 0), (63, 0), (62, 0), (61, 0), (60, 0)] L τ E Lq459 Tq459 Eu503 := Gr.wr Wu500 Pu503.1 (Or.inr f3)
  have zru503 : Eu503 q204 = .inl (cy 0, 50, .inl (fun _ => 0)) := (Pu503.1 q204 (ne_ro tm478 tm462 (by decide))).trans zru500
  refine lv_aload_n hx hb dX10_init_274 rfl (lv_at hl 0 rfl) ?_
  refine tr_getR Z.1 Z.2.2.2.1 Su503 hm461 hu503 rfl (fun _ h => List.mem_cons_of_mem _ (List.mem_append_right _ h)) 0 (Nat.le_of_ble_eq_true rfl) rfl (hts _ (List.mem_of_getElem? (i := 5) rfl)) dX10_init_275 ?_
  obtain ⟨v504, ev504, tv504⟩ : ∃ v : Int32, Int32.ofInt (5) = v ∧ v.toInt = 5 := ⟨_, rfl, by decide +kernel⟩
  refine lv_iconst hx hb dX10_init_278 ev504 ?_
  obtain ⟨v505, ev505, tv505⟩ : ∃ v : Int32, (Int8.ofInt (12)).toInt32 = v ∧ v.toInt = 12 := ⟨_, rfl, by decide +kernel⟩
  refine lv_bipush hx hb dX10_init_279 ev505 ?_
  have bu506 : nowB v504.toNatClampNeg = (0, 20) := nb_5 (by show 5 ≤ v504.toInt.toNat ∧ v504.toInt.toNat ≤ 7; omega)
  refine tr_iastx Z.1 Z.2.2.2.1 Su503.1 Su503.2 hm462 tm462 rfl (by omega) (by omega) (by rw [bu506]; show 0 ≤ _; omega) (by rw [bu506]; show _ ≤ 20; omega) dX10_init_281 (fun Eu506 Hu506 ku506 wu506 iu506 Pu506 => ?_)
  have Su506 : NowG D cy (va_A (va_pl L _) sz) s Lq459 Tq459 Eu506 Hu506 ku506 := ⟨wu506, iu506⟩
  have hu506 : Eu506 a0 = .inr (9, [.ref q2, .ref q7, .int 0, .int 0, .int 0, .int 0, .int v12, .ref q15, .int 0, .ref q22, .ref q30, .ref q39, .ref q49, .ref q60, .ref q72, .ref q85, .ref q99, .ref q114, .ref q130, .ref q147, .int 0, .int 0, .int 0, .ref q165, .ref q184, .ref q204, .ref q225, .ref q247, .ref q270, .ref q294, .int 0, .int 0, .int 0, .ref q319, .ref q345, .int 0, .int 0, .int 0, .int 0, .int 0, .int 0, .int 0, .ref q372, .ref q400, .ref q429, .int 0, .ref q459, .int 0]) := (Pu506.1 a0 (ne_ro tm461 tm462 (by decide))).trans hu503
  have Wu506 : Gr a0 [(86, 0), (85, 0), (84, 0), (83, 0), (82, 0), (81, 0), (80, 0), (79, 0), (78, 0), (77, 0), (76, 0), (75, 0), (74, 0), (73, 0), (72, 0), (71, 0), (70, 0), (69, 0), (68, 0), (67, 0), (66, 0), (65, 0), (64, 0), (63, 0), (62, 0), (61, 0), (60, 0)] L τ E Lq459 Tq459 Eu506 := Gr.wr Wu503 Pu506.1 (Or.inr f3)
  have zru506 : Eu506 q204 = .inl (cy 0, 50, .inl (fun _ => 0)) := (Pu506.1 q204 (ne_ro tm478 tm462 (by decide))).trans zru503
  refine lv_aload_n hx hb dX10_init_282 rfl (lv_at hl 0 rfl) ?_
  refine tr_getR Z.1 Z.2.2.2.1 Su506 hm461 hu506 rfl (fun _ h => List.mem_cons_of_mem _ (List.mem_append_right _ h)) 0 (Nat.le_of_ble_eq_true rfl) rfl (hts _ (List.mem_of_getElem? (i := 5) rfl)) dX10_init_283 ?_
  obtain ⟨v507, ev507, tv507⟩ : ∃ v : Int32, (Int8.ofInt (8)).toInt32 = v ∧ v.toInt = 8 := ⟨_, rfl, by decide +kernel⟩
  refine lv_bipush hx hb dX10_init_286 ev507 ?_
  obtain ⟨v508, ev508, tv508⟩ : ∃ v : Int32, (Int16.ofInt (2640)).toInt32 = v ∧ v.toInt = 2640 := ⟨_, rfl, by decide +kernel⟩
  refine lv_sipush hx hb dX10_init_288 ev508 ?_
  have bu509 : nowB v507.toNatClampNeg = (-2147483648, 2147483647) := nb_o (by show v507.toInt.toNat < 4 ∨ (8 ≤ v507.toInt.toNat ∧ v507.toInt.toNat ≤ 18) ∨ (20 ≤ v507.toInt.toNat ∧ v507.toInt.toNat ≤ 43); omega)
  refine tr_iastx Z.1 Z.2.2.2.1 Su506.1 Su506.2 hm462 tm462 rfl (by omega) (by omega) (by rw [bu509]; show -2147483648 ≤ _; omega) (by rw [bu509]; show _ ≤ 2147483647; omega) dX10_init_291 (fun Eu509 Hu509 ku509 wu509 iu509 Pu509 => ?_)
  have Su509 : NowG D cy (va_A (va_pl L _) sz) s Lq459 Tq459 Eu509 Hu509 ku509 := ⟨wu509, iu509⟩
  have hu509 : Eu509 a0 = .inr (9, [.ref q2, .ref q7, .int 0, .int 0, .int 0, .int 0, .int v12, .ref q15, .int 0, .ref q22, .ref q30, .ref q39, .ref q49, .ref q60, .ref q72, .ref q85, .ref q99, .ref q114, .ref q130, .ref q147, .int 0, .int 0, .int 0, .ref q165, .ref q184, .ref q204, .ref q225, .ref q247, .ref q270, .ref q294, .int 0, .int 0, .int 0, .ref q319, .ref q345, .int 0, .int 0, .int 0, .int 0, .int 0, .int 0, .int 0, .ref q372, .ref q400, .ref q429, .int 0, .ref q459, .int 0]) := (Pu509.1 a0 (ne_ro tm461 tm462 (by decide))).trans hu506
  have Wu509 : Gr a0 [(86, 0), (85, 0), (84, 0), (83, 0), (82, 0), (81, 0), (80, 0), (79, 0), (78, 0), (77, 0), (76, 0), (75, 0), (74, 0), (73, 0), (72, 0), (71, 0), (70, 0), (69, 0), (68, 0), (67, 0), (66, 0), (65, 0), (64, 0), (63, 0), (62, 0), (61, 0), (60, 0)] L τ E Lq459 Tq459 Eu509 := Gr.wr Wu506 Pu509.1 (Or.inr f3)
  have zru509 : Eu509 q204 = .inl (cy 0, 50, .inl (fun _ => 0)) := (Pu509.1 q204 (ne_ro tm478 tm462 (by decide))).trans zru506
  refine lv_aload_n hx hb dX10_init_292 rfl (lv_at hl 0 rfl) ?_
  refine tr_getR Z.1 Z.2.2.2.1 Su509 hm461 hu509 rfl (fun _ h => List.mem_cons_of_mem _ (List.mem_append_right _ h)) 0 (Nat.le_of_ble_eq_true rfl) rfl (hts _ (List.mem_of_getElem? (i := 5) rfl)) dX10_init_293 ?_
  obtain ⟨v510, ev510, tv510⟩ : ∃ v : Int32, (Int8.ofInt (14)).toInt32 = v ∧ v.toInt = 14 := ⟨_, rfl, by decide +kernel⟩
  refine lv_bipush hx hb dX10_init_296 ev510 ?_
  obtain ⟨v511, ev511, tv511⟩ : ∃ v : Int32, (Int8.ofInt (50)).toInt32 = v ∧ v.toInt = 50 := ⟨_, rfl, by decide +kernel⟩
  refine lv_bipush hx hb dX10_init_298 ev511 ?_
  have bu512 : nowB v510.toNatClampNeg = (-2147483648, 2147483647) := nb_o (by show v510.toInt.toNat < 4 ∨ (8 ≤ v510.toInt.toNat ∧ v510.toInt.toNat ≤ 18) ∨ (20 ≤ v510.toInt.toNat ∧ v510.toInt.toNat ≤ 43); omega)
  refine tr_iastx Z.1 Z.2.2.2.1 Su509.1 Su509.2 hm462 tm462 rfl (by omega) (by omega) (by rw [bu512]; show -2147483648 ≤ _; omega) (by rw [bu512]; show _ ≤ 2147483647; omega) dX10_init_300 (fun Eu512 Hu512 ku512 wu512 iu512 Pu512 => ?_)
  have Su512 : NowG D cy (va_A (va_pl L _) sz) s Lq459 Tq459 Eu512 Hu512 ku512 := ⟨wu512, iu512⟩
  have hu512 : Eu512 a0 = .inr (9, [.ref q2, .ref q7, .int 0, .int 0, .int 0, .int 0, .int v12, .ref q15, .int 0, .ref q22, .ref q30, .ref q39, .ref q49, .ref q60, .ref q72, .ref q85, .ref q99, .ref q114, .ref q130, .ref q147, .int 0, .int 0, .int 0, .ref q165, .ref q184, .ref q204, .ref q225, .ref q247, .ref q270, .ref q294, .int 0, .int 0, .int 0, .ref q319, .ref q345, .int 0, .int 0, .int 0, .int 0, .int 0, .int 0, .int 0, .ref q372, .ref q400, .ref q429, .int 0, .ref q459, .int 0]) := (Pu512.1 a0 (ne_ro tm461 tm462 (by decide))).trans hu509
  have Wu512 : Gr a0 [(86, 0), (85, 0), (84, 0), (83, 0), (82, 0), (81, 0), (80, 0), (79, 0), (78, 0), (77, 0), (76, 0), (75, 0), (74, 0), (73, 0), (72, 0), (71, 0), (70, 0), (69, 0), (68, 0), (67, 0), (66, 0), (65, 0), (64, 0), (63, 0), (62, 0), (61, 0), (60, 0)] L τ E Lq459 Tq459 Eu512 := Gr.wr Wu509 Pu512.1 (Or.inr f3)
  have zru512 : Eu512 q204 = .inl (cy 0, 50, .inl (fun _ => 0)) := (Pu512.1 q204 (ne_ro tm478 tm462 (by decide))).trans zru509
  refine lv_aload_n hx hb dX10_init_301 rfl (lv_at hl 0 rfl) ?_
  refine tr_getR Z.1 Z.2.2.2.1 Su512 hm461 hu512 rfl (fun _ h => List.mem_cons_of_mem _ (List.mem_append_right _ h)) 0 (Nat.le_of_ble_eq_true rfl) rfl (hts _ (List.mem_of_getElem? (i := 5) rfl)) dX10_init_302 ?_
  obtain ⟨v513, ev513, tv513⟩ : ∃ v : Int32, (Int8.ofInt (15)).toInt32 = v ∧ v.toInt = 15 := ⟨_, rfl, by decide +kernel⟩
  refine lv_bipush hx hb dX10_init_305 ev513 ?_
  obtain ⟨v514, ev514, tv514⟩ : ∃ v : Int32, (Int8.ofInt (80)).toInt32 = v ∧ v.toInt = 80 := ⟨_, rfl, by decide +kernel⟩
  refine lv_bipush hx hb dX10_init_307 ev514 ?_
  have bu515 : nowB v513.toNatClampNeg = (-2147483648, 2147483647) := nb_o (by show v513.toInt.toNat < 4 ∨ (8 ≤ v513.toInt.toNat ∧ v513.toInt.toNat ≤ 18) ∨ (20 ≤ v513.toInt.toNat ∧ v513.toInt.toNat ≤ 43); omega)
  refine tr_iastx Z.1 Z.2.2.2.1 Su512.1 Su512.2 hm462 tm462 rfl (by omega) (by omega) (by rw [bu515]; show -2147483648 ≤ _; omega) (by rw [bu515]; show _ ≤ 2147483647; omega) dX10_init_309 (fun Eu515 Hu515 ku515 wu515 iu515 Pu515 => ?_)
  have Su515 : NowG D cy (va_A (va_pl L _) sz) s Lq459 Tq459 Eu515 Hu515 ku515 := ⟨wu515, iu515⟩
  have hu515 : Eu515 a0 = .inr (9, [.ref q2, .ref q7, .int 0, .int 0, .int 0, .int 0, .int v12, .ref q15, .int 0, .ref q22, .ref q30, .ref q39, .ref q49, .ref q60, .ref q72, .ref q85, .ref q99, .ref q114, .ref q130, .ref q147, .int 0, .int 0, .int 0, .ref q165, .ref q184, .ref q204, .ref q225, .ref q247, .ref q270, .ref q294, .int 0, .int 0, .int 0, .ref q319, .ref q345, .int 0, .int 0, .int 0, .int 0, .int 0, .int 0, .int 0, .ref q372, .ref q400, .ref q429, .int 0, .ref q459, .int 0]) := (Pu515.1 a0 (ne_ro tm461 tm462 (by decide))).trans hu512
  have Wu515 : Gr a0 [(86, 0), (85, 0), (84, 0), (83, 0), (82, 0), (81, 0), (80, 0), (79, 0), (78, 0), (77, 0), (76, 0), (75, 0), (74, 0), (73, 0), (72, 0), (71, 0), (70, 0), (69, 0), (68, 0), (67, 0), (66, 0), (65, 0), (64, 0), (63, 0), (62, 0), (61, 0), (60, 0)] L τ E Lq459 Tq459 Eu515 := Gr.wr Wu512 Pu515.1 (Or.inr f3)
  have zru515 : Eu515 q204 = .inl (cy 0, 50, .inl (fun _ => 0)) := (Pu515.1 q204 (ne_ro tm478 tm462 (by decide))).trans zru512
  refine lv_aload_n hx hb dX10_init_310 rfl (lv_at hl 0 rfl) ?_
  refine tr_getR Z.1 Z.2.2.2.1 Su515 hm461 hu515 rfl (fun _ h => List.mem_cons_of_mem _ (List.mem_append_right _ h)) 0 (Nat.le_of_ble_eq_true rfl) rfl (hts _ (List.mem_of_getElem? (i := 5) rfl)) dX10_init_311 ?_
  obtain ⟨v516, ev516, tv516⟩ : ∃ v : Int32, (Int8.ofInt (16)).toInt32 = v ∧ v.toInt = 16 := ⟨_, rfl, by decide +kernel⟩
  refine lv_bipush hx hb dX10_init_314 ev516 ?_
  obtain ⟨v517, ev517, tv517⟩ : ∃ v : Int32, (Int16.ofInt (200)).toInt32 = v ∧ v.toInt = 200 := ⟨_, rfl, by decide +kernel⟩
  refine lv_sipush hx hb dX10_init_316 ev517 ?_
  have bu518 : nowB v516.toNatClampNeg = (-2147483648, 2147483647) := nb_o (by show v516.toInt.toNat < 4 ∨ (8 ≤ v516.toInt.toNat ∧ v516.toInt.toNat ≤ 18) ∨ (20 ≤ v516.toInt.toNat ∧ v516.toInt.toNat ≤ 43); omega)
  refine tr_iastx Z.1 Z.2.2.2.1 Su515.1 Su515.2 hm462 tm462 rfl (by omega) (by omega) (by rw [bu518]; show -2147483648 ≤ _; omega) (by rw [bu518]; show _ ≤ 2147483647; omega) dX10_init_319 (fun Eu518 Hu518 ku518 wu518 iu518 Pu518 => ?_)
  have Su518 : NowG D cy (va_A (va_pl L _) sz) s Lq459 Tq459 Eu518 Hu518 ku518 := ⟨wu518, iu518⟩
  have hu518 : Eu518 a0 = .inr (9, [.ref q2, .ref q7, .int 0, .int 0, .int 0, .int 0, .int v12, .ref q15, .int 0, .ref q22, .ref q30, .ref q39, .ref q49, .ref q60, .ref q72, .ref q85, .ref q99, .ref q114, .ref q130, .ref q147, .int 0, .int 0, .int 0, .ref q165, .ref q184, .ref q204, .ref q225, .ref q247, .ref q270, .ref q294, .int 0, .int 0, .int 0, .ref q319, .ref q345, .int 0, .int 0, .int 0, .int 0, .int 0, .int 0, .int 0, .ref q372, .ref q400, .ref q429, .int 0, .ref q459, .int 0]) := (Pu518.1 a0 (ne_ro tm461 tm462 (by decide))).trans hu515
  have Wu518 : Gr a0 [(86, 0), (85, 0), (84, 0), (83, 0), (82, 0), (81, 0), (80, 0), (79, 0), (78, 0), (77, 0), (76, 0), (75, 0), (74, 0), (73, 0), (72, 0), (71, 0), (70, 0), (69, 0), (68, 0), (67, 0), (66, 0), (65, 0), (64, 0), (63, 0), (62, 0), (61, 0), (60, 0)] L τ E Lq459 Tq459 Eu518 := Gr.wr Wu515 Pu518.1 (Or.inr f3)
  have zru518 : Eu518 q204 = .inl (cy 0, 50, .inl (fun _ => 0)) := (Pu518.1 q204 (ne_ro tm478 tm462 (by decide))).trans zru515
  refine lv_aload_n hx hb dX10_init_320 rfl (lv_at hl 0 rfl) ?_
  refine tr_getR Z.1 Z.2.2.2.1 Su518 hm461 hu518 rfl (fun _ h => List.mem_cons_of_mem _ (List.mem_append_right _ h)) 0 (Nat.le_of_ble_eq_true rfl) rfl (hts _ (List.mem_of_getElem? (i := 5) rfl)) dX10_init_321 ?_
  obtain ⟨v519, ev519, tv519⟩ : ∃ v : Int32, (Int8.ofInt (17)).toInt32 = v ∧ v.toInt = 17 := ⟨_, rfl, by decide +kernel⟩
  refine lv_bipush hx hb dX10_init_324 ev519 ?_
  obtain ⟨v520, ev520, tv520⟩ : ∃ v : Int32, (Int8.ofInt (120)).toInt32 = v ∧ v.toInt = 120 := ⟨_, rfl, by decide +kernel⟩
  refine lv_bipush hx hb dX10_init_326 ev520 ?_
  have bu521 : nowB v519.toNatClampNeg = (-2147483648, 2147483647) := nb_o (by show v519.toInt.toNat < 4 ∨ (8 ≤ v519.toInt.toNat ∧ v519.toInt.toNat ≤ 18) ∨ (20 ≤ v519.toInt.toNat ∧ v519.toInt.toNat ≤ 43); omega)
  refine tr_iastx Z.1 Z.2.2.2.1 Su518.1 Su518.2 hm462 tm462 rfl (by omega) (by omega) (by rw [bu521]; show -2147483648 ≤ _; omega) (by rw [bu521]; show _ ≤ 2147483647; omega) dX10_init_328 (fun Eu521 Hu521 ku521 wu521 iu521 Pu521 => ?_)
  have Su521 : NowG D cy (va_A (va_pl L _) sz) s Lq459 Tq459 Eu521 Hu521 ku521 := ⟨wu521, iu521⟩
  have hu521 : Eu521 a0 = .inr (9, [.ref q2, .ref q7, .int 0, .int 0, .int 0, .int 0, .int v12, .ref q15, .int 0, .ref q22, .ref q30, .ref q39, .ref q49, .ref q60, .ref q72, .ref q85, .ref q99, .ref q114, .ref q130, .ref q147, .int 0, .int 0, .int 0, .ref q165, .ref q184, .ref q204, .ref q225, .ref q247, .ref q270, .ref q294, .int 0, .int 0, .int 0, .ref q319, .ref q345, .int 0, .int 0, .int 0, .int 0, .int 0, .int 0, .int 0, .ref q372, .ref q400, .ref q429, .int 0, .ref q459, .int 0]) := (Pu521.1 a0 (ne_ro tm461 tm462 (by decide))).trans hu518
  have Wu521 : Gr a0 [(86, 0), (85, 0), (84, 0), (83, 0), (82, 0), (81, 0), (80, 0), (79, 0), (78, 0), (77, 0), (76, 0), (75, 0), (74, 0), (73, 0), (72, 0), (71, 0), (70, 0), (69, 0), (68, 0), (67, 0), (66, 0), (65, 0), (64, 0), (63, 0), (62, 0), (61, 0), (60, 0)] L τ E Lq459 Tq459 Eu521 := Gr.wr Wu518 Pu521.1 (Or.inr f3)
  have zru521 : Eu521 q204 = .inl (cy 0, 50, .inl (fun _ => 0)) := (Pu521.1 q204 (ne_ro tm478 tm462 (by decide))).trans zru518
  refine lv_aload_n hx hb dX10_init_329 rfl (lv_at hl 0 rfl) ?_
  refine tr_getR Z.1 Z.2.2.2.1 Su521 hm461 hu521 rfl (fun _ h => List.mem_cons_of_mem _ (List.mem_append_right _ h)) 0 (Nat.le_of_ble_eq_true rfl) rfl (hts _ (List.mem_of_getElem? (i := 5) rfl)) dX10_init_330 ?_
  obtain ⟨v522, ev522, tv522⟩ : ∃ v : Int32, (Int8.ofInt (18)).toInt32 = v ∧ v.toInt = 18 := ⟨_, rfl, by decide +kernel⟩
  refine lv_bipush hx hb dX10_init_333 ev522 ?_
  obtain ⟨v523, ev523, tv523⟩ : ∃ v : Int32, (Int8.ofInt (20)).toInt32 = v ∧ v.toInt = 20 := ⟨_, rfl, by decide +kernel⟩
  refine lv_bipush hx hb dX10_init_335 ev523 ?_
  have bu524 : nowB v522.toNatClampNeg = (-2147483648, 2147483647) := nb_o (by show v522.toInt.toNat < 4 ∨ (8 ≤ v522.toInt.toNat ∧ v522.toInt.toNat ≤ 18) ∨ (20 ≤ v522.toInt.toNat ∧ v522.toInt.toNat ≤ 43); omega)
  refine tr_iastx Z.1 Z.2.2.2.1 Su521.1 Su521.2 hm462 tm462 rfl (by omega) (by omega) (by rw [bu524]; show -2147483648 ≤ _; omega) (by rw [bu524]; show _ ≤ 2147483647; omega) dX10_init_337 (fun Eu524 Hu524 ku524 wu524 iu524 Pu524 => ?_)
  have Su524 : NowG D cy (va_A (va_pl L _) sz) s Lq459 Tq459 Eu524 Hu524 ku524 := ⟨wu524, iu524⟩
  have hu524 : Eu524 a0 = .inr (9, [.ref q2, .ref q7, .int 0, .int 0, .int 0, .int 0, .int v12, .ref q15, .int 0, .ref q22, .ref q30, .ref q39, .ref q49, .ref q60, .ref q72, .ref q85, .ref q99, .ref q114, .ref q130, .ref q147, .int 0, .int 0, .int 0, .ref q165, .ref q184, .ref q204, .ref q225, .ref q247, .ref q270, .ref q294, .int 0, .int 0, .int 0, .ref q319, .ref q345, .int 0, .int 0, .int 0, .int 0, .int 0, .int 0, .int 0, .ref q372, .ref q400, .ref q429, .int 0, .ref q459, .int 0]) := (Pu524.1 a0 (ne_ro tm461 tm462 (by decide))).trans hu521
  have Wu524 : Gr a0 [(86, 0), (85, 0), (84, 0), (83, 0), (82, 0), (81, 0), (80, 0), (79, 0), (78, 0), (77, 0), (76, 0), (75, 0), (74, 0), (73, 0), (72, 0), (71, 0), (70, 0), (69, 0), (68, 0), (67, 0), (66, 0), (65, 0), (64, 0), (63, 0), (62, 0), (61, 0), (60, 0)] L τ E Lq459 Tq459 Eu524 := Gr.wr Wu521 Pu524.1 (Or.inr f3)
  have zru524 : Eu524 q204 = .inl (cy 0, 50, .inl (fun _ => 0)) := (Pu524.1 q204 (ne_ro tm478 tm462 (by decide))).trans zru521
  have IR : Inv TB cy Lq459 (upT Tq459 a0 (11, 0)) Eu524 := inv_role Su524.2 tm461 (by decide) (fun _ => Ab.ne Aq459 (by decide)) (fun ci ts h => by
      have h : some ((9 : Nat), ([(1, 60, 0), (1, 61, 0), (0, 0, 40), (0, -2147483648, 2147483647), (0, 0, 1), (0, -2147483648, 2147483647), (0, -2147483648, 2147483647), (1, 62, 0), (0, 0, 66), (1, 63, 0), (1, 64, 0), (1, 65, 0), (1, 66, 0), (1, 67, 0), (1, 68, 0), (1, 69, 0), (1, 70, 0), (1, 71, 0), (1, 72, 0), (1, 73, 0), (0, 0, 120), (0, 0, 120), (0, 0, 120), (1, 74, 0), (1, 75, 0), (1, 76, 0), (1, 77, 0), (1, 78, 0), (1, 79, 0), (1, 80, 0), (0, -2147483648, 2147483647), (0, -2147483648, 2147483647), (0, -2147483648, 2147483647), (1, 81, 0), (1, 82, 0), (0, 0, 2000), (0, -2147483648, 2147483647), (0, -2147483648, 2147483647), (0, 0, 3), (0, -2147483648, 2147483647), (0, 0, 1), (0, 0, 1), (1, 83, 0), (1, 84, 0), (1, 85, 0), (0, 0, 12), (1, 86, 0), (0, 0, 264)] : List Ft)) = some (ci, ts) := h
      cases h
      exact okO_of hu524 ⟨⟨q2, rfl, hm462, (upT_ne (ne_ro tm462 tm461 (by decide))).trans tm462⟩, ⟨q7, rfl, hm463, (upT_ne (ne_ro tm463 tm461 (by decide))).trans tm463⟩, ⟨0, rfl, by decide, by decide⟩, ⟨0, rfl, by decide, by decide⟩, ⟨0, rfl, by decide, by decide⟩, ⟨0, rfl, by decide, by decide⟩, ⟨v12, rfl, by dsimp only; omega, by dsimp only; omega⟩, ⟨q15, rfl, hm464, (upT_ne (ne_ro tm464 tm461 (by decide))).trans tm464⟩, ⟨0, rfl, by decide, by decide⟩, ⟨q22, rfl, hm465, (upT_ne (ne_ro tm465 tm461 (by decide))).trans tm465⟩, ⟨q30, rfl, hm466, (upT_ne (ne_ro tm466 tm461 (by decide))).trans tm466⟩, ⟨q39, rfl, hm467, (upT_ne (ne_ro tm467 tm461 (by decide))).trans tm467⟩, ⟨q49, rfl, hm468, (upT_ne (ne_ro tm468 tm461 (by decide))).trans tm468⟩, ⟨q60, rfl, hm469, (upT_ne (ne_ro tm469 tm461 (by decide))).trans tm469⟩, ⟨q72, rfl, hm470, (upT_ne (ne_ro tm470 tm461 (by decide))).trans tm470⟩, ⟨q85, rfl, hm471, (upT_ne (ne_ro tm471 tm461 (by decide))).trans tm471⟩, ⟨q99, rfl, hm472, (upT_ne (ne_ro tm472 tm461 (by decide))).trans tm472⟩, ⟨q114, rfl, hm473, (upT_ne (ne_ro tm473 tm461 (by decide))).trans tm473⟩, ⟨q130, rfl, hm474, (upT_ne (ne_ro tm474 tm461 (by decide))).trans tm474⟩, ⟨q147, rfl, hm475, (upT_ne (ne_ro tm475 tm461 (by decide))).trans tm475⟩, ⟨0, rfl, by decide, by decide⟩, ⟨0, rfl, by decide, by decide⟩, ⟨0, rfl, by decide, by decide⟩, ⟨q165, rfl, hm476, (upT_ne (ne_ro tm476 tm461 (by decide))).trans tm476⟩, ⟨q184, rfl, hm477, (upT_ne (ne_ro tm477 tm461 (by decide))).trans tm477⟩, ⟨q204, rfl, hm478, (upT_ne (ne_ro tm478 tm461 (by decide))).trans tm478⟩, ⟨q225, rfl, hm479, (upT_ne (ne_ro tm479 tm461 (by decide))).trans tm479⟩, ⟨q247, rfl, hm480, (upT_ne (ne_ro tm480 tm461 (by decide))).trans tm480⟩, ⟨q270, rfl, hm481, (upT_ne (ne_ro tm481 tm461 (by decide))).trans tm481⟩, ⟨q294, rfl, hm482, (upT_ne (ne_ro tm482 tm461 (by decide))).trans tm482⟩, ⟨0, rfl, by decide, by decide⟩, ⟨0, rfl, by decide, by decide⟩, ⟨0, rfl, by decide, by decide⟩, ⟨q319, rfl, hm483, (upT_ne (ne_ro tm483 tm461 (by decide))).trans tm483⟩, ⟨q345, rfl, hm484, (upT_ne (ne_ro tm484 tm461 (by decide))).trans tm484⟩, ⟨0, rfl, by decide, by decide⟩, ⟨0, rfl, by decide, by decide⟩, ⟨0, rfl, by decide, by decide⟩, ⟨0, rfl, by decide, by decide⟩, ⟨0, rfl, by decide, by decide⟩, ⟨0, rfl, by decide, by decide⟩, ⟨0, rfl, by decide, by decide⟩, ⟨q372, rfl, hm485, (upT_ne (ne_ro tm485 tm461 (by decide))).trans tm485⟩, ⟨q400, rfl, hm486, (upT_ne (ne_ro tm486 tm461 (by decide))).trans tm486⟩, ⟨q429, rfl, hm487, (upT_ne (ne_ro tm487 tm461 (by decide))).trans tm487⟩, ⟨0, rfl, by decide, by decide⟩, ⟨q459, rfl, Pq459.2.2.2.1, (upT_ne (ne_ro Pq459.2.2.2.2.1 tm461 (by decide))).trans Pq459.2.2.2.2.1⟩, ⟨0, rfl, by decide, by decide⟩, trivial⟩) (fun _ _ _ h => nomatch h) (fun _ _ _ h => nomatch h)
  exact en_vG Z ⟨Su524.1, IR⟩ (post := fun L' τ' E' => τ' a0 = (11, 0) ∧ (fi E' a0 2).toInt = 0 ∧ (fi E' a0 45).toInt = 0 ∧ (fi E' a0 20).toInt = 0 ∧ (fi E' a0 5).toInt = 0 ∧ (fi E' a0 3).toInt = 0 ∧ ∃ q : Nat, q ∈ L' ∧ τ' q = (76, 0) ∧ ∀ j : Nat, ai E' q j = 0) (Gr.role Wu524 ha0) ⟨upT_self _ _ _, (by rw [show fi Eu524 a0 2 = 0 by simp only [fi, fv, hu524]; rfl]; rfl), (by rw [show fi Eu524 a0 45 = 0 by simp only [fi, fv, hu524]; rfl]; rfl), (by rw [show fi Eu524 a0 20 = 0 by simp only [fi, fv, hu524]; rfl]; rfl), (by rw [show fi Eu524 a0 5 = 0 by simp only [fi, fv, hu524]; rfl]; rfl), (by rw [show fi Eu524 a0 3 = 0 by simp only [fi, fv, hu524]; rfl]; rfl), q204, hm478, (upT_ne (ne_ro tm478 tm461 (by decide))).trans tm478, fun j => by simp only [ai, zru524]⟩ dX10_init_338

