set_option maxRecDepth 20000 in
theorem ggX10_best_X10_no : GoodIn wsX10_best wsX10_no := goodIn_r _ [13, 14, 15, 88, 89, 90, 91, 92, 93, 94, 95, 96, 97, 98, 99, 100, 101, 102, 103, 104, 105, 106, 107, 108, 109, 110, 111, 112, 113, 114, 115, 116, 117, 118, 119, 120, 121, 122, 123, 124, 125, 126, 127, 128, 129, 130, 131, 132, 133, 134, 135] (by decide +kernel) (by decide +kernel)
set_option maxRecDepth 20000 in
theorem gX10_best_X10_no : GoodIn wsX10_best (wsV RX10 144 RX10 yX10_no wsX10_no) := goodIn_app (goodIn_of _ (by decide +kernel)) ggX10_best_X10_no
set_option maxRecDepth 20000 in
theorem ggX10_best_X10_good : GoodIn wsX10_best wsX10_good := goodIn_r _ [19, 14, 15, 88, 89, 90, 91, 92, 93, 94, 95, 96, 97, 98, 99, 100, 101, 102, 103, 104, 105, 106, 107, 108, 109, 110, 111, 112, 113, 114, 115, 116, 117, 118, 119, 120, 121, 122, 123, 124, 125, 126, 127, 128, 129, 130, 131, 132, 133, 134, 135] (by decide +kernel) (by decide +kernel)
set_option maxRecDepth 20000 in
theorem gX10_best_X10_good : GoodIn wsX10_best (wsV RX10 106 RX10 yX10_good wsX10_good) := goodIn_app (goodIn_of _ (by decide +kernel)) ggX10_best_X10_good
set_option maxRecDepth 20000 in
theorem ggX10_best_X10_tryOne : GoodIn wsX10_best wsX10_tryOne := goodIn_r _ [23, 2, 24, 25, 3, 5, 8, 26, 27, 28, 29, 30, 31, 12, 32, 6, 33, 34, 35, 36, 37, 38, 39, 40, 41, 42, 43, 44, 45, 46, 47, 48, 49, 50, 51, 52, 53, 54, 55, 56, 57, 58, 59, 60, 61, 62, 63, 64, 65, 66, 67, 68, 69, 70, 71, 72, 73, 74, 75, 76, 77, 78, 79, 80, 81, 82, 83, 88, 89, 90, 91, 92, 93, 94, 95, 96, 97, 98, 99, 100, 101, 102, 103, 104, 105, 106, 107, 108, 109, 110, 111, 112, 113, 114, 115, 116, 117, 118, 119, 120, 121, 122, 123, 124, 125, 126, 127, 128, 129, 130, 131, 132, 133, 134, 135] (by decide +kernel) (by decide +kernel)
set_option maxRecDepth 20000 in
theorem gX10_best_X10_tryOne : GoodIn wsX10_best (wsV RX10 260 RX10 yX10_tryOne wsX10_tryOne) := goodIn_app (goodIn_of _ (by decide +kernel)) ggX10_best_X10_tryOne
set_option maxRecDepth 20000 in
theorem ggX10_best_X10_in : GoodIn wsX10_best wsX10_in := goodIn_r _ [87] (by decide +kernel) (by decide +kernel)
set_option maxRecDepth 20000 in
theorem gX10_best_X10_in : GoodIn wsX10_best (wsV RX10 123 RX10 yX10_in wsX10_in) := goodIn_app (goodIn_of _ (by decide +kernel)) ggX10_best_X10_in
theorem dX10_best_0 : decode cX10_best 0 = .ok (.aload_n 0, 1) := by decide +kernel
theorem dX10_best_1 : decode cX10_best 1 = .ok (.iconst 0, 1) := by decide +kernel
theorem dX10_best_2 : decode cX10_best 2 = .ok (.putfield 97, 3) := by decide +kernel
theorem dX10_best_5 : decode cX10_best 5 = .ok (.iload_n 1, 1) := by decide +kernel
theorem dX10_best_6 : decode cX10_best 6 = .ok (.iconst 2, 1) := by decide +kernel
theorem dX10_best_7 : decode cX10_best 7 = .ok (.if_icmp .lt 14, 3) := by decide +kernel
theorem dX10_best_10 : decode cX10_best 10 = .ok (.iload_n 1, 1) := by decide +kernel
theorem dX10_best_11 : decode cX10_best 11 = .ok (.iload_n 2, 1) := by decide +kernel
theorem dX10_best_12 : decode cX10_best 12 = .ok (.if_icmp .gt 9, 3) := by decide +kernel
theorem dX10_best_15 : decode cX10_best 15 = .ok (.iload_n 2, 1) := by decide +kernel
theorem dX10_best_16 : decode cX10_best 16 = .ok (.bipush 67, 2) := by decide +kernel
theorem dX10_best_18 : decode cX10_best 18 = .ok (.if_icmp .le 9, 3) := by decide +kernel
theorem dX10_best_21 : decode cX10_best 21 = .ok (.aload_n 0, 1) := by decide +kernel
theorem dX10_best_22 : decode cX10_best 22 = .ok (.iconst 1, 1) := by decide +kernel
theorem dX10_best_23 : decode cX10_best 23 = .ok (.invokevirtual 144, 3) := by decide +kernel
theorem dX10_best_26 : decode cX10_best 26 = .ok (.ireturn, 1) := by decide +kernel
theorem dX10_best_27 : decode cX10_best 27 = .ok (.aload_n 0, 1) := by decide +kernel
theorem dX10_best_28 : decode cX10_best 28 = .ok (.invokevirtual 106, 3) := by decide +kernel
theorem dX10_best_31 : decode cX10_best 31 = .ok (.aload_n 0, 1) := by decide +kernel
theorem dX10_best_32 : decode cX10_best 32 = .ok (.iconst 0, 1) := by decide +kernel
theorem dX10_best_33 : decode cX10_best 33 = .ok (.putfield 238, 3) := by decide +kernel
theorem dX10_best_36 : decode cX10_best 36 = .ok (.aload_n 0, 1) := by decide +kernel
theorem dX10_best_37 : decode cX10_best 37 = .ok (.iconst 0, 1) := by decide +kernel
theorem dX10_best_38 : decode cX10_best 38 = .ok (.putfield 241, 3) := by decide +kernel
theorem dX10_best_41 : decode cX10_best 41 = .ok (.aload_n 0, 1) := by decide +kernel
theorem dX10_best_42 : decode cX10_best 42 = .ok (.iconst 1, 1) := by decide +kernel
theorem dX10_best_43 : decode cX10_best 43 = .ok (.putfield 254, 3) := by decide +kernel
theorem dX10_best_46 : decode cX10_best 46 = .ok (.aload_n 0, 1) := by decide +kernel
theorem dX10_best_47 : decode cX10_best 47 = .ok (.iconst 0, 1) := by decide +kernel
theorem dX10_best_48 : decode cX10_best 48 = .ok (.putfield 244, 3) := by decide +kernel
theorem dX10_best_51 : decode cX10_best 51 = .ok (.aload_n 0, 1) := by decide +kernel
theorem dX10_best_52 : decode cX10_best 52 = .ok (.getfield 7, 3) := by decide +kernel
theorem dX10_best_55 : decode cX10_best 55 = .ok (.iconst 4, 1) := by decide +kernel
theorem dX10_best_56 : decode cX10_best 56 = .ok (.iaload, 1) := by decide +kernel
theorem dX10_best_57 : decode cX10_best 57 = .ok (.istore_n 3, 1) := by decide +kernel
theorem dX10_best_58 : decode cX10_best 58 = .ok (.aload_n 0, 1) := by decide +kernel
theorem dX10_best_59 : decode cX10_best 59 = .ok (.iload_n 3, 1) := by decide +kernel
theorem dX10_best_60 : decode cX10_best 60 = .ok (.putfield 257, 3) := by decide +kernel
theorem dX10_best_63 : decode cX10_best 63 = .ok (.iconst 0, 1) := by decide +kernel
theorem dX10_best_64 : decode cX10_best 64 = .ok (.istore 4, 2) := by decide +kernel
theorem dX10_best_66 : decode cX10_best 66 = .ok (.iconst 0, 1) := by decide +kernel
theorem dX10_best_67 : decode cX10_best 67 = .ok (.istore 5, 2) := by decide +kernel
theorem dX10_best_69 : decode cX10_best 69 = .ok (.iload 5, 2) := by decide +kernel
theorem dX10_best_71 : decode cX10_best 71 = .ok (.iload_n 3, 1) := by decide +kernel
theorem dX10_best_72 : decode cX10_best 72 = .ok (.iconst 1, 1) := by decide +kernel
theorem dX10_best_73 : decode cX10_best 73 = .ok (.isub, 1) := by decide +kernel
theorem dX10_best_74 : decode cX10_best 74 = .ok (.if_icmp .ge 32, 3) := by decide +kernel
theorem dX10_best_77 : decode cX10_best 77 = .ok (.iload 4, 2) := by decide +kernel
theorem dX10_best_79 : decode cX10_best 79 = .ok (.aload_n 0, 1) := by decide +kernel
theorem dX10_best_80 : decode cX10_best 80 = .ok (.getfield 7, 3) := by decide +kernel
theorem dX10_best_83 : decode cX10_best 83 = .ok (.bipush 11, 2) := by decide +kernel
theorem dX10_best_85 : decode cX10_best 85 = .ok (.iload 5, 2) := by decide +kernel
theorem dX10_best_87 : decode cX10_best 87 = .ok (.iadd, 1) := by decide +kernel
theorem dX10_best_88 : decode cX10_best 88 = .ok (.iaload, 1) := by decide +kernel
theorem dX10_best_89 : decode cX10_best 89 = .ok (.ifCond .ne 7, 3) := by decide +kernel
theorem dX10_best_92 : decode cX10_best 92 = .ok (.iconst 1, 1) := by decide +kernel
theorem dX10_best_93 : decode cX10_best 93 = .ok (.goto 4, 3) := by decide +kernel
theorem dX10_best_96 : decode cX10_best 96 = .ok (.iconst 3, 1) := by decide +kernel
theorem dX10_best_97 : decode cX10_best 97 = .ok (.iadd, 1) := by decide +kernel
theorem dX10_best_98 : decode cX10_best 98 = .ok (.istore 4, 2) := by decide +kernel
theorem dX10_best_100 : decode cX10_best 100 = .ok (.iinc 5 1, 3) := by decide +kernel
theorem dX10_best_103 : decode cX10_best 103 = .ok (.goto (-34), 3) := by decide +kernel
theorem dX10_best_106 : decode cX10_best 106 = .ok (.iload_n 1, 1) := by decide +kernel
theorem dX10_best_107 : decode cX10_best 107 = .ok (.istore 5, 2) := by decide +kernel
theorem dX10_best_109 : decode cX10_best 109 = .ok (.iload 5, 2) := by decide +kernel
theorem dX10_best_111 : decode cX10_best 111 = .ok (.iload_n 2, 1) := by decide +kernel
theorem dX10_best_112 : decode cX10_best 112 = .ok (.if_icmp .gt 139, 3) := by decide +kernel
theorem dX10_best_115 : decode cX10_best 115 = .ok (.aload_n 0, 1) := by decide +kernel
theorem dX10_best_116 : decode cX10_best 116 = .ok (.getfield 238, 3) := by decide +kernel
theorem dX10_best_119 : decode cX10_best 119 = .ok (.sipush 2000, 3) := by decide +kernel
theorem dX10_best_122 : decode cX10_best 122 = .ok (.if_icmp .ge 129, 3) := by decide +kernel
theorem dX10_best_125 : decode cX10_best 125 = .ok (.iload 5, 2) := by decide +kernel
theorem dX10_best_127 : decode cX10_best 127 = .ok (.iconst 1, 1) := by decide +kernel
theorem dX10_best_128 : decode cX10_best 128 = .ok (.isub, 1) := by decide +kernel
theorem dX10_best_129 : decode cX10_best 129 = .ok (.iload 4, 2) := by decide +kernel
theorem dX10_best_131 : decode cX10_best 131 = .ok (.isub, 1) := by decide +kernel
theorem dX10_best_132 : decode cX10_best 132 = .ok (.istore 6, 2) := by decide +kernel
theorem dX10_best_134 : decode cX10_best 134 = .ok (.iconst 1, 1) := by decide +kernel
theorem dX10_best_135 : decode cX10_best 135 = .ok (.istore 7, 2) := by decide +kernel
theorem dX10_best_137 : decode cX10_best 137 = .ok (.iload 7, 2) := by decide +kernel
theorem dX10_best_139 : decode cX10_best 139 = .ok (.bipush 20, 2) := by decide +kernel
theorem dX10_best_141 : decode cX10_best 141 = .ok (.if_icmp .gt 104, 3) := by decide +kernel
theorem dX10_best_144 : decode cX10_best 144 = .ok (.iload_n 3, 1) := by decide +kernel
theorem dX10_best_145 : decode cX10_best 145 = .ok (.iconst 1, 1) := by decide +kernel
theorem dX10_best_146 : decode cX10_best 146 = .ok (.if_icmp .ne 21, 3) := by decide +kernel
theorem dX10_best_149 : decode cX10_best 149 = .ok (.iload 7, 2) := by decide +kernel
theorem dX10_best_151 : decode cX10_best 151 = .ok (.iload 6, 2) := by decide +kernel
theorem dX10_best_153 : decode cX10_best 153 = .ok (.if_icmp .ne 86, 3) := by decide +kernel
theorem dX10_best_156 : decode cX10_best 156 = .ok (.aload_n 0, 1) := by decide +kernel
theorem dX10_best_157 : decode cX10_best 157 = .ok (.iload 7, 2) := by decide +kernel
theorem dX10_best_159 : decode cX10_best 159 = .ok (.iconst 0, 1) := by decide +kernel
theorem dX10_best_160 : decode cX10_best 160 = .ok (.iconst 0, 1) := by decide +kernel
theorem dX10_best_161 : decode cX10_best 161 = .ok (.invokevirtual 260, 3) := by decide +kernel
theorem dX10_best_164 : decode cX10_best 164 = .ok (.goto 75, 3) := by decide +kernel
theorem dX10_best_167 : decode cX10_best 167 = .ok (.iconst 1, 1) := by decide +kernel
theorem dX10_best_168 : decode cX10_best 168 = .ok (.istore 8, 2) := by decide +kernel
theorem dX10_best_170 : decode cX10_best 170 = .ok (.iload 8, 2) := by decide +kernel
theorem dX10_best_172 : decode cX10_best 172 = .ok (.bipush 20, 2) := by decide +kernel
theorem dX10_best_174 : decode cX10_best 174 = .ok (.if_icmp .gt 65, 3) := by decide +kernel
theorem dX10_best_177 : decode cX10_best 177 = .ok (.iload 6, 2) := by decide +kernel
theorem dX10_best_179 : decode cX10_best 179 = .ok (.iload 7, 2) := by decide +kernel
theorem dX10_best_181 : decode cX10_best 181 = .ok (.isub, 1) := by decide +kernel
theorem dX10_best_182 : decode cX10_best 182 = .ok (.iload 8, 2) := by decide +kernel
theorem dX10_best_184 : decode cX10_best 184 = .ok (.isub, 1) := by decide +kernel
theorem dX10_best_185 : decode cX10_best 185 = .ok (.istore 9, 2) := by decide +kernel
theorem dX10_best_187 : decode cX10_best 187 = .ok (.iload_n 3, 1) := by decide +kernel
theorem dX10_best_188 : decode cX10_best 188 = .ok (.iconst 2, 1) := by decide +kernel
theorem dX10_best_189 : decode cX10_best 189 = .ok (.if_icmp .ne 17, 3) := by decide +kernel
theorem dX10_best_192 : decode cX10_best 192 = .ok (.iload 9, 2) := by decide +kernel
theorem dX10_best_194 : decode cX10_best 194 = .ok (.ifCond .ne 12, 3) := by decide +kernel
theorem dX10_best_197 : decode cX10_best 197 = .ok (.aload_n 0, 1) := by decide +kernel
theorem dX10_best_198 : decode cX10_best 198 = .ok (.iload 7, 2) := by decide +kernel
theorem dX10_best_200 : decode cX10_best 200 = .ok (.iload 8, 2) := by decide +kernel
theorem dX10_best_202 : decode cX10_best 202 = .ok (.iconst 0, 1) := by decide +kernel
theorem dX10_best_203 : decode cX10_best 203 = .ok (.invokevirtual 260, 3) := by decide +kernel
theorem dX10_best_206 : decode cX10_best 206 = .ok (.iload_n 3, 1) := by decide +kernel
theorem dX10_best_207 : decode cX10_best 207 = .ok (.iconst 3, 1) := by decide +kernel
theorem dX10_best_208 : decode cX10_best 208 = .ok (.if_icmp .ne 25, 3) := by decide +kernel
theorem dX10_best_211 : decode cX10_best 211 = .ok (.aload_n 0, 1) := by decide +kernel
theorem dX10_best_212 : decode cX10_best 212 = .ok (.iload 9, 2) := by decide +kernel
theorem dX10_best_214 : decode cX10_best 214 = .ok (.iconst 1, 1) := by decide +kernel
theorem dX10_best_215 : decode cX10_best 215 = .ok (.bipush 20, 2) := by decide +kernel
theorem dX10_best_217 : decode cX10_best 217 = .ok (.invokevirtual 123, 3) := by decide +kernel
theorem dX10_best_220 : decode cX10_best 220 = .ok (.ifCond .eq 13, 3) := by decide +kernel
theorem dX10_best_223 : decode cX10_best 223 = .ok (.aload_n 0, 1) := by decide +kernel
theorem dX10_best_224 : decode cX10_best 224 = .ok (.iload 7, 2) := by decide +kernel
theorem dX10_best_226 : decode cX10_best 226 = .ok (.iload 8, 2) := by decide +kernel
theorem dX10_best_228 : decode cX10_best 228 = .ok (.iload 9, 2) := by decide +kernel
theorem dX10_best_230 : decode cX10_best 230 = .ok (.invokevirtual 260, 3) := by decide +kernel
theorem dX10_best_233 : decode cX10_best 233 = .ok (.iinc 8 1, 3) := by decide +kernel
theorem dX10_best_236 : decode cX10_best 236 = .ok (.goto (-66), 3) := by decide +kernel
theorem dX10_best_239 : decode cX10_best 239 = .ok (.iinc 7 1, 3) := by decide +kernel
theorem dX10_best_242 : decode cX10_best 242 = .ok (.goto (-105), 3) := by decide +kernel
theorem dX10_best_245 : decode cX10_best 245 = .ok (.iinc 5 1, 3) := by decide +kernel
theorem dX10_best_248 : decode cX10_best 248 = .ok (.goto (-139), 3) := by decide +kernel
theorem dX10_best_251 : decode cX10_best 251 = .ok (.aload_n 0, 1) := by decide +kernel
theorem dX10_best_252 : decode cX10_best 252 = .ok (.getfield 244, 3) := by decide +kernel
theorem dX10_best_255 : decode cX10_best 255 = .ok (.ifCond .eq 10, 3) := by decide +kernel
theorem dX10_best_258 : decode cX10_best 258 = .ok (.aload_n 0, 1) := by decide +kernel
theorem dX10_best_259 : decode cX10_best 259 = .ok (.getfield 248, 3) := by decide +kernel
theorem dX10_best_262 : decode cX10_best 262 = .ok (.goto 5, 3) := by decide +kernel
theorem dX10_best_265 : decode cX10_best 265 = .ok (.bipush (-2), 2) := by decide +kernel
theorem dX10_best_267 : decode cX10_best 267 = .ok (.ireturn, 1) := by decide +kernel
set_option maxHeartbeats 4000000 in
set_option maxRecDepth 100000 in
theorem k_X10_best (l : Launch) (D : va_G) (cy : Nat → ClassId) {L : List Nat} {τ : Nat → Ro} {E : Ec} (hI : Inv TB cy L τ E) {a0 : Nat} (ha0 : a0 ∈ L) (ta0 : τ a0 = (11, 0)) (a1 : Int32) (a2 : Int32) (hS : SlotOK L τ E) : CtI l yX10_best wsX10_best { frames := 6, cells := 0, slots := 0, locals := 142 } D TB cy L τ E [.ref a0, .int a1, .int a2] (inW [(11, 0), (62, 0), (63, 0), (64, 0), (65, 0), (66, 0), (67, 0), (68, 0), (69, 0), (70, 0), (71, 0), (81, 0), (82, 0)]) (fun r E' => (∀ k : Nat, k ∉ ([3, 4, 6, 8, 30, 31, 32, 35, 36, 37, 38, 39, 40, 41] : List Nat) → fi E' a0 k = fi E a0 k)) := by
  intro sz
  refine sta (cc := cX10_best) (maxL := 10) hI (by decide) rfl (Nat.le_of_ble_eq_true rfl) (fun p e s m args below meth c ls hsz Z S0 hl => ?_)
  have hx := Z.1.1
  have hb := Z.1.2.1
  have hts := Z.1.2.2.2.2
  have F0_ : Fr L τ (inW [(11, 0), (62, 0), (63, 0), (64, 0), (65, 0), (66, 0), (67, 0), (68, 0), (69, 0), (70, 0), (71, 0), (81, 0), (82, 0)]) E E := Fr.refl
  have hl : lv_has ls 10 [(0, .ref a0), (1, .int a1), (2, .int a2)] := hl
  generalize hQ : MQ below _ args s 0 0 _ = QQ
  have J251 : ∀  (E_251 : Ec) (H_251 : Heap) (k_251 : List Loc) (l_251 : Array Slot), Now D TB cy (va_A (va_pl L E) sz) s L τ E_251 H_251 k_251 → Fr L τ (inW [(11, 0), (62, 0), (63, 0), (64, 0), (65, 0), (66, 0), (67, 0), (68, 0), (69, 0), (70, 0), (71, 0), (81, 0), (82, 0)]) E E_251 → (∀ k : Nat, k ∉ ([3, 4, 6, 8, 30, 31, 32, 35, 36, 37, 38, 39, 40, 41] : List Nat) → fi E_251 a0 k = fi E a0 k) → lv_has l_251 10 [(0, .ref a0)] → W p l e { frames := 6, cells := 0, slots := 0, locals := 142 } s m args below meth c H_251 k_251 0 0 QQ (F0 m 251 l_251 []) := by
    intro  E_251 H_251 k_251 l_251 S_251 F_251 z1 hl_251
    refine lv_aload_n hx hb dX10_best_251 rfl (lv_at hl_251 0 rfl) ?_
    refine tr_geti Z.1 Z.2.2.2.1 S_251.1 S_251.2 ha0 ta0 rfl rfl (fun _ h => List.mem_cons_of_mem _ (List.mem_append_right _ h)) 41 (by decide) rfl (hts _ (List.mem_of_getElem? (i := 5) rfl)) dX10_best_252 (fun v2 ev2 lv2 uv2 => ?_)
    refine lv_if_eq (tgt := 265) hx hb dX10_best_255 (by decide) (fun c3 => ?_) (fun c3 => ?_)
    · skip
      have tc3 := nu_eq c3
      have uc3 : (0 : Int32).toInt = 0 := rfl
      obtain ⟨v4, ev4, tv4⟩ : ∃ v : Int32, (Int8.ofInt (-2)).toInt32 = v ∧ v.toInt = -2 := ⟨_, rfl, by decide +kernel⟩
      refine lv_bipush hx hb dX10_best_265 ev4 ?_
      rw [← hQ]
      exact en_i Z S_251 F_251 (fun k hk => (z1 k hk)) dX10_best_267
    · skip
      have tc3 := nu_ne c3
      have uc3 : (0 : Int32).toInt = 0 := rfl
      refine lv_aload_n hx hb dX10_best_258 rfl (lv_at hl_251 0 rfl) ?_
      refine tr_geti Z.1 Z.2.2.2.1 S_251.1 S_251.2 ha0 ta0 rfl rfl (fun _ h => List.mem_cons_of_mem _ (List.mem_append_right _ h)) 39 (by decide) rfl (hts _ (List.mem_of_getElem? (i := 8) rfl)) dX10_best_259 (fun v5 ev5 lv5 uv5 => ?_)
      refine lv_goto (tgt := 267) hx hb dX10_best_262 (by decide) ?_
      rw [← hQ]
      exact en_i Z S_251 F_251 (fun k hk => (z1 k hk)) dX10_best_267
  have J109 : ∀ (n : Nat) (x3_109 : Int32) (x4_109 : Int32) (x5_109 : Int32) (E_109 : Ec) (H_109 : Heap) (k_109 : List Loc) (l_109 : Array Slot), Now D TB cy (va_A (va_pl L E) sz) s L τ E_109 H_109 k_109 → Fr L τ (inW [(11, 0), (62, 0), (63, 0), (64, 0), (65, 0), (66, 0), (67, 0), (68, 0), (69, 0), (70, 0), (71, 0), (81, 0), (82, 0)]) E E_109 → (2 ≤ a2.toInt) → (a2.toInt ≤ 67) → (0 ≤ x3_109.toInt) → (x3_109.toInt ≤ 3) → (2 ≤ x5_109.toInt) → (∀ k : Nat, k ∉ ([3, 4, 6, 8, 30, 31, 32, 35, 36, 37, 38, 39, 40, 41] : List Nat) → fi E_109 a0 k = fi E a0 k) → (2147483647 - x5_109.toInt).toNat < n → lv_has l_109 10 [(0, .ref a0), (2, .int a2), (3, .int x3_109), (4, .int x4_109), (5, .int x5_109)] → W p l e { frames := 6, cells := 0, slots := 0, locals := 142 } s m args below meth c H_109 k_109 0 0 QQ (F0 m 109 l_109 []) := by
    intro n
    induction n with
    | zero => intro x3_109 x4_109 x5_109 E_109 H_109 k_109 l_109 S_109 F_109 z6 z7 z8 z9 z10 z11 hm hl_109; exact absurd hm (Nat.not_lt_zero _)
    | succ n ih =>
      intro x3_109 x4_109 x5_109 E_109 H_109 k_109 l_109 S_109 F_109 z6 z7 z8 z9 z10 z11 hm hl_109
      have ih_109 := ih
      have J137 : ∀ (n : Nat) (x6_137 : Int32) (x7_137 : Int32) (E_137 : Ec) (H_137 : Heap) (k_137 : List Loc) (l_137 : Array Slot), Now D TB cy (va_A (va_pl L E) sz) s L τ E_137 H_137 k_137 → Fr L τ (inW [(11, 0), (62, 0), (63, 0), (64, 0), (65, 0), (66, 0), (67, 0), (68, 0), (69, 0), (70, 0), (71, 0), (81, 0), (82, 0)]) E E_137 → (2 ≤ a2.toInt) → (a2.toInt ≤ 67) → (0 ≤ x3_109.toInt) → (x3_109.toInt ≤ 3) → (2 ≤ x5_109.toInt) → (x5_109.toInt ≤ 67) → (1 ≤ x7_137.toInt) → (x7_137.toInt ≤ 21) → (∀ k : Nat, k ∉ ([3, 4, 6, 8, 30, 31, 32, 35, 36, 37, 38, 39, 40, 41] : List Nat) → fi E_137 a0 k = fi E a0 k) → (21 - x7_137.toInt).toNat < n → lv_has l_137 10 [(0, .ref a0), (2, .int a2), (3, .int x3_109), (4, .int x4_109), (5, .int x5_109), (6, .int x6_137), (7, .int x7_137)] → W p l e { frames := 6, cells := 0, slots := 0, locals := 142 } s m args below meth c H_137 k_137 0 0 QQ (F0 m 137 l_137 []) := by
        intro n
        induction n with
        | zero => intro x6_137 x7_137 E_137 H_137 k_137 l_137 S_137 F_137 z12 z13 z14 z15 z16 z17 z18 z19 z20 hm hl_137; exact absurd hm (Nat.not_lt_zero _)
        | succ n ih =>
          intro x6_137 x7_137 E_137 H_137 k_137 l_137 S_137 F_137 z12 z13 z14 z15 z16 z17 z18 z19 z20 hm hl_137
          have ih_137 := ih
          have J239 : ∀  (E_239 : Ec) (H_239 : Heap) (k_239 : List Loc) (l_239 : Array Slot), Now D TB cy (va_A (va_pl L E) sz) s L τ E_239 H_239 k_239 → Fr L τ (inW [(11, 0), (62, 0), (63, 0), (64, 0), (65, 0), (66, 0), (67, 0), (68, 0), (69, 0), (70, 0), (71, 0), (81, 0), (82, 0)]) E E_239 → (2 ≤ a2.toInt) → (a2.toInt ≤ 67) → (0 ≤ x3_109.toInt) → (x3_109.toInt ≤ 3) → (2 ≤ x5_109.toInt) → (x5_109.toInt ≤ 67) → (1 ≤ x7_137.toInt) → (x7_137.toInt ≤ 20) → (∀ k : Nat, k ∉ ([3, 4, 6, 8, 30, 31, 32, 35, 36, 37, 38, 39, 40, 41] : List Nat) → fi E_239 a0 k = fi E a0 k) → lv_has l_239 10 [(0, .ref a0), (2, .int a2), (3, .int x3_109), (4, .int x4_109), (5, .int x5_109), (6, .int x6_137), (7, .int x7_137)] → W p l e { frames := 6, cells := 0, slots := 0, locals := 142 } s m args below meth c H_239 k_239 0 0 QQ (F0 m 239 l_239 []) := by
            intro  E_239 H_239 k_239 l_239 S_239 F_239 z21 z22 z23 z24 z25 z26 z27 z28 z29 hl_239
            obtain ⟨v30, ev30⟩ : ∃ y : Int32, x7_137 + Int32.ofInt (1) = y := ⟨_, rfl⟩
            have tv30 : v30.toInt = x7_137.toInt + (1) := by rw [← ev30]; exact (fb_addI (by rw [show (Int32.ofInt (1)).toInt = 1 from by decide +kernel]; omega) (by rw [show (Int32.ofInt (1)).toInt = 1 from by decide +kernel]; omega)).trans (by rw [show (Int32.ofInt (1)).toInt = 1 from by decide +kernel])
            refine lv_iinc (v := v30) (lv' := [(7, .int v30), (0, .ref a0), (2, .int a2), (3, .int x3_109), (4, .int x4_109), (5, .int x5_109), (6, .int x6_137)]) hx hb dX10_best_239 hl_239 (k := 6) rfl ev30 (by decide) rfl (fun l31 hl32 => ?_)
            refine lv_goto (tgt := 137) hx hb dX10_best_242 (by decide) ?_
            exact ih_137 x6_137 v30 E_239 H_239 k_239 l31 S_239 F_239 (by have := fb_rng x4_109; have := fb_rng x6_137; omega) (by have := fb_rng x4_109; have := fb_rng x6_137; omega) (by have := fb_rng x4_109; have := fb_rng x6_137; omega) (by have := fb_rng x4_109; have := fb_rng x6_137; omega) (by have := fb_rng x4_109; have := fb_rng x6_137; omega) (by have := fb_rng x4_109; have := fb_rng x6_137; omega) (by have := fb_rng x4_109; have := fb_rng x6_137; omega) (by have := fb_rng x4_109; have := fb_rng x6_137; omega) (fun k hk => (z29 k hk)) (by omega) (lv_sub hl32 [1, 2, 3, 4, 5, 6, 0] rfl)
          have J170 : ∀ (n : Nat) (x8_170 : Int32) (E_170 : Ec) (H_170 : Heap) (k_170 : List Loc) (l_170 : Array Slot), Now D TB cy (va_A (va_pl L E) sz) s L τ E_170 H_170 k_170 → Fr L τ (inW [(11, 0), (62, 0), (63, 0), (64, 0), (65, 0), (66, 0), (67, 0), (68, 0), (69, 0), (70, 0), (71, 0), (81, 0), (82, 0)]) E E_170 → (2 ≤ a2.toInt) → (a2.toInt ≤ 67) → (0 ≤ x3_109.toInt) → (x3_109.toInt ≤ 3) → (2 ≤ x5_109.toInt) → (x5_109.toInt ≤ 67) → (1 ≤ x7_137.toInt) → (x7_137.toInt ≤ 20) → (1 ≤ x8_170.toInt) → (x8_170.toInt ≤ 21) → (∀ k : Nat, k ∉ ([3, 4, 6, 8, 30, 31, 32, 35, 36, 37, 38, 39, 40, 41] : List Nat) → fi E_170 a0 k = fi E a0 k) → (21 - x8_170.toInt).toNat < n → lv_has l_170 10 [(0, .ref a0), (2, .int a2), (3, .int x3_109), (4, .int x4_109), (5, .int x5_109), (6, .int x6_137), (7, .int x7_137), (8, .int x8_170)] → W p l e { frames := 6, cells := 0, slots := 0, locals := 142 } s m args below meth c H_170 k_170 0 0 QQ (F0 m 170 l_170 []) := by
            intro n
            induction n with
            | zero => intro x8_170 E_170 H_170 k_170 l_170 S_170 F_170 z33 z34 z35 z36 z37 z38 z39 z40 z41 z42 z43 hm hl_170; exact absurd hm (Nat.not_lt_zero _)
            | succ n ih =>
              intro x8_170 E_170 H_170 k_170 l_170 S_170 F_170 z33 z34 z35 z36 z37 z38 z39 z40 z41 z42 z43 hm hl_170
              have ih_170 := ih
              have J233 : ∀  (E_233 : Ec) (H_233 : Heap) (k_233 : List Loc) (l_233 : Array Slot), Now D TB cy (va_A (va_pl L E) sz) s L τ E_233 H_233 k_233 → Fr L τ (inW [(11, 0), (62, 0), (63, 0), (64, 0), (65, 0), (66, 0), (67, 0), (68, 0), (69, 0), (70, 0), (71, 0), (81, 0), (82, 0)]) E E_233 → (2 ≤ a2.toInt) → (a2.toInt ≤ 67) → (0 ≤ x3_109.toInt) → (x3_109.toInt ≤ 3) → (2 ≤ x5_109.toInt) → (x5_109.toInt ≤ 67) → (1 ≤ x7_137.toInt) → (x7_137.toInt ≤ 20) → (1 ≤ x8_170.toInt) → (x8_170.toInt ≤ 20) → (∀ k : Nat, k ∉ ([3, 4, 6, 8, 30, 31, 32, 35, 36, 37, 38, 39, 40, 41] : List Nat) → fi E_233 a0 k = fi E a0 k) → lv_has l_233 10 [(0, .ref a0), (2, .int a2), (3, .int x3_109), (4, .int x4_109), (5, .int x5_109), (6, .int x6_137), (7, .int x7_137), (8, .int x8_170)] → W p l e { frames := 6, cells := 0, slots := 0, locals := 142 } s m args below meth c H_233 k_233 0 0 QQ (F0 m 233 l_233 []) := by
                intro  E_233 H_233 k_233 l_233 S_233 F_233 z44 z45 z46 z47 z48 z49 z50 z51 z52 z53 z54 hl_233
                obtain ⟨v55, ev55⟩ : ∃ y : Int32, x8_170 + Int32.ofInt (1) = y := ⟨_, rfl⟩
                have tv55 : v55.toInt = x8_170.toInt + (1) := by rw [← ev55]; exact (fb_addI (by rw [show (Int32.ofInt (1)).toInt = 1 from by decide +kernel]; omega) (by rw [show (Int32.ofInt (1)).toInt = 1 from by decide +kernel]; omega)).trans (by rw [show (Int32.ofInt (1)).toInt = 1 from by decide +kernel])
                refine lv_iinc (v := v55) (lv' := [(8, .int v55), (0, .ref a0), (2, .int a2), (3, .int x3_109), (4, .int x4_109), (5, .int x5_109), (6, .int x6_137), (7, .int x7_137)]) hx hb dX10_best_233 hl_233 (k := 7) rfl ev55 (by decide) rfl (fun l56 hl57 => ?_)
                refine lv_goto (tgt := 170) hx hb dX10_best_236 (by decide) ?_
                exact ih_170 v55 E_233 H_233 k_233 l56 S_233 F_233 (by have := fb_rng x4_109; have := fb_rng x6_137; omega) (by have := fb_rng x4_109; have := fb_rng x6_137; omega) (by have := fb_rng x4_109; have := fb_rng x6_137; omega) (by have := fb_rng x4_109; have := fb_rng x6_137; omega) (by have := fb_rng x4_109; have := fb_rng x6_137; omega) (by have := fb_rng x4_109; have := fb_rng x6_137; omega) (by have := fb_rng x4_109; have := fb_rng x6_137; omega) (by have := fb_rng x4_109; have := fb_rng x6_137; omega) (by have := fb_rng x4_109; have := fb_rng x6_137; omega) (by have := fb_rng x4_109; have := fb_rng x6_137; omega) (fun k hk => (z54 k hk)) (by omega) (lv_sub hl57 [1, 2, 3, 4, 5, 6, 7, 0] rfl)
              have J206 : ∀ (x9_206 : Int32) (E_206 : Ec) (H_206 : Heap) (k_206 : List Loc) (l_206 : Array Slot), Now D TB cy (va_A (va_pl L E) sz) s L τ E_206 H_206 k_206 → Fr L τ (inW [(11, 0), (62, 0), (63, 0), (64, 0), (65, 0), (66, 0), (67, 0), (68, 0), (69, 0), (70, 0), (71, 0), (81, 0), (82, 0)]) E E_206 → (2 ≤ a2.toInt) → (a2.toInt ≤ 67) → (0 ≤ x3_109.toInt) → (x3_109.toInt ≤ 3) → (2 ≤ x5_109.toInt) → (x5_109.toInt ≤ 67) → (1 ≤ x7_137.toInt) → (x7_137.toInt ≤ 20) → (1 ≤ x8_170.toInt) → (x8_170.toInt ≤ 20) → (∀ k : Nat, k ∉ ([3, 4, 6, 8, 30, 31, 32, 35, 36, 37, 38, 39, 40, 41] : List Nat) → fi E_206 a0 k = fi E a0 k) → lv_has l_206 10 [(0, .ref a0), (2, .int a2), (3, .int x3_109), (4, .int x4_109), (5, .int x5_109), (6, .int x6_137), (7, .int x7_137), (8, .int x8_170), (9, .int x9_206)] → W p l e { frames := 6, cells := 0, slots := 0, locals := 142 } s m args below meth c H_206 k_206 0 0 QQ (F0 m 206 l_206 []) := by
                intro x9_206 E_206 H_206 k_206 l_206 S_206 F_206 z58 z59 z60 z61 z62 z63 z64 z65 z66 z67 z68 hl_206
                refine lv_iload_n hx hb dX10_best_206 rfl (lv_at hl_206 2 rfl) ?_
                obtain ⟨v69, ev69, tv69⟩ : ∃ v : Int32, Int32.ofInt (3) = v ∧ v.toInt = 3 := ⟨_, rfl, by decide +kernel⟩
                refine lv_iconst hx hb dX10_best_207 ev69 ?_
                refine lv_icmp_ne (tgt := 233) hx hb dX10_best_208 (by decide) (fun c70 => ?_) (fun c70 => ?_)
                · skip
                  have tc70 := nu_ne c70
                  exact J233 E_206 H_206 k_206 l_206 S_206 F_206 (by have := fb_rng x4_109; have := fb_rng x6_137; have := fb_rng x9_206; omega) (by have := fb_rng x4_109; have := fb_rng x6_137; have := fb_rng x9_206; omega) (by have := fb_rng x4_109; have := fb_rng x6_137; have := fb_rng x9_206; omega) (by have := fb_rng x4_109; have := fb_rng x6_137; have := fb_rng x9_206; omega) (by have := fb_rng x4_109; have := fb_rng x6_137; have := fb_rng x9_206; omega) (by have := fb_rng x4_109; have := fb_rng x6_137; have := fb_rng x9_206; omega) (by have := fb_rng x4_109; have := fb_rng x6_137; have := fb_rng x9_206; omega) (by have := fb_rng x4_109; have := fb_rng x6_137; have := fb_rng x9_206; omega) (by have := fb_rng x4_109; have := fb_rng x6_137; have := fb_rng x9_206; omega) (by have := fb_rng x4_109; have := fb_rng x6_137; have := fb_rng x9_206; omega) (fun k hk => (z68 k hk)) (lv_sub hl_206 [0, 1, 2, 3, 4, 5, 6, 7] rfl)
                · skip
                  have tc70 := nu_eq c70
                  refine lv_aload_n hx hb dX10_best_211 rfl (lv_at hl_206 0 rfl) ?_
                  refine lv_iload hx hb dX10_best_212 (lv_at hl_206 8 rfl) ?_
                  obtain ⟨v71, ev71, tv71⟩ : ∃ v : Int32, Int32.ofInt (1) = v ∧ v.toInt = 1 := ⟨_, rfl, by decide +kernel⟩
                  refine lv_iconst hx hb dX10_best_214 ev71 ?_
                  obtain ⟨v72, ev72, tv72⟩ : ∃ v : Int32, (Int8.ofInt (20)).toInt32 = v ∧ v.toInt = 20 := ⟨_, rfl, by decide +kernel⟩
                  refine lv_bipush hx hb dX10_best_215 ev72 ?_
                  refine tc_vi Z.1 Z.2.2.2.1 Z.2.2.2.2.1 Z.2.2.2.2.2 S_206.1 S_206.2 ha0 ta0 rfl rfl (k_X10_in l D cy S_206.2 ha0 ta0 x9_206 v71 v72) (cwV 3 hts gX10_best_X10_in rfl rfl rfl (by decide +kernel) ⟨Nat.le_of_ble_eq_true rfl, Nat.le_of_ble_eq_true rfl⟩) rfl hl_206.1 rfl (Nat.le_of_ble_eq_true rfl) dX10_best_217 ⟨Nat.zero_le _, Nat.zero_le _⟩ (fun v76 E73 H74 k75 W73 I73 G73 p73 => ?_)
                  obtain ⟨q73, p73_0, p73_1, p73_2⟩ := p73
                  have q73 := q73.symm
                  subst q73
                  have S73 : Now D TB cy (va_A (va_pl L E) sz) s L τ E_206 H74 k75 := ⟨W73, I73⟩
                  refine lv_if_eq (tgt := 233) hx hb dX10_best_220 (by decide) (fun c77 => ?_) (fun c77 => ?_)
                  · skip
                    have tc77 := nu_eq c77
                    have uc77 : (0 : Int32).toInt = 0 := rfl
                    exact J233 E_206 H74 k75 l_206 S73 F_206 (by have := fb_rng x4_109; have := fb_rng x6_137; have := fb_rng x9_206; omega) (by have := fb_rng x4_109; have := fb_rng x6_137; have := fb_rng x9_206; omega) (by have := fb_rng x4_109; have := fb_rng x6_137; have := fb_rng x9_206; omega) (by have := fb_rng x4_109; have := fb_rng x6_137; have := fb_rng x9_206; omega) (by have := fb_rng x4_109; have := fb_rng x6_137; have := fb_rng x9_206; omega) (by have := fb_rng x4_109; have := fb_rng x6_137; have := fb_rng x9_206; omega) (by have := fb_rng x4_109; have := fb_rng x6_137; have := fb_rng x9_206; omega) (by have := fb_rng x4_109; have := fb_rng x6_137; have := fb_rng x9_206; omega) (by have := fb_rng x4_109; have := fb_rng x6_137; have := fb_rng x9_206; omega) (by have := fb_rng x4_109; have := fb_rng x6_137; have := fb_rng x9_206; omega) (fun k hk => (z68 k hk)) (lv_sub hl_206 [0, 1, 2, 3, 4, 5, 6, 7] rfl)
                  · skip
                    have tc77 := nu_ne c77
                    have uc77 : (0 : Int32).toInt = 0 := rfl
                    refine lv_aload_n hx hb dX10_best_223 rfl (lv_at hl_206 0 rfl) ?_
                    refine lv_iload hx hb dX10_best_224 (lv_at hl_206 6 rfl) ?_
                    refine lv_iload hx hb dX10_best_226 (lv_at hl_206 7 rfl) ?_
                    refine lv_iload hx hb dX10_best_228 (lv_at hl_206 8 rfl) ?_
                    refine tc_vv Z.1 Z.2.2.2.1 Z.2.2.2.2.1 Z.2.2.2.2.2 S73.1 S73.2 ha0 ta0 rfl rfl (k_X10_tryOne l D cy S73.2 ha0 ta0 x7_137 (by omega) (by omega) x8_170 (by omega) (by omega) x9_206 (by omega) (by omega) (SlotOK.fr F_206 rfl rfl rfl rfl hS)) (cwV 3 hts gX10_best_X10_tryOne rfl rfl rfl (by decide +kernel) ⟨Nat.le_of_ble_eq_true rfl, Nat.le_of_ble_eq_true rfl⟩) rfl hl_206.1 rfl (Nat.le_of_ble_eq_true rfl) dX10_best_230 ⟨Nat.zero_le _, Nat.zero_le _⟩ (fun E78 H79 k80 W78 I78 G78 p78 => ?_)
                    have p78_0 := p78
                    have S78 : Now D TB cy (va_A (va_pl L E) sz) s L τ E78 H79 k80 := ⟨W78, I78⟩
                    have F78 : Fr L τ (inW [(11, 0), (62, 0), (63, 0), (64, 0), (65, 0), (66, 0), (67, 0), (68, 0), (69, 0), (70, 0), (71, 0), (81, 0), (82, 0)]) E E78 := F_206.trans (G78.mono (inW_mono (by decide)))
                    exact J233 E78 H79 k80 l_206 S78 F78 (by have := fb_rng x4_109; have := fb_rng x6_137; omega) (by have := fb_rng x4_109; have := fb_rng x6_137; omega) (by have := fb_rng x4_109; have := fb_rng x6_137; omega) (by have := fb_rng x4_109; have := fb_rng x6_137; omega) (by have := fb_rng x4_109; have := fb_rng x6_137; omega) (by have := fb_rng x4_109; have := fb_rng x6_137; omega) (by have := fb_rng x4_109; have := fb_rng x6_137; omega) (by have := fb_rng x4_109; have := fb_rng x6_137; omega) (by have := fb_rng x4_109; have := fb_rng x6_137; omega) (by have := fb_rng x4_109; have := fb_rng x6_137; omega) (fun k hk => ((p78_0 k (fw_sub (by decide) hk)).trans (z68 k hk))) (lv_sub hl_206 [0, 1, 2, 3, 4, 5, 6, 7] rfl)
              refine lv_iload hx hb dX10_best_170 (lv_at hl_170 7 rfl) ?_
              obtain ⟨v82, ev82, tv82⟩ : ∃ v : Int32, (Int8.ofInt (20)).toInt32 = v ∧ v.toInt = 20 := ⟨_, rfl, by decide +kernel⟩
              refine lv_bipush hx hb dX10_best_172 ev82 ?_
              refine lv_icmp_gt (tgt := 239) hx hb dX10_best_174 (by decide) (fun c83 => ?_) (fun c83 => ?_)
              · skip
                have tc83 := nu_lt c83
                exact J239 E_170 H_170 k_170 l_170 S_170 F_170 (by have := fb_rng x4_109; have := fb_rng x6_137; omega) (by have := fb_rng x4_109; have := fb_rng x6_137; omega) (by have := fb_rng x4_109; have := fb_rng x6_137; omega) (by have := fb_rng x4_109; have := fb_rng x6_137; omega) (by have := fb_rng x4_109; have := fb_rng x6_137; omega) (by have := fb_rng x4_109; have := fb_rng x6_137; omega) (by have := fb_rng x4_109; have := fb_rng x6_137; omega) (by have := fb_rng x4_109; have := fb_rng x6_137; omega) (fun k hk => (z43 k hk)) (lv_sub hl_170 [0, 1, 2, 3, 4, 5, 6] rfl)
              · skip
                have tc83 := nu_nlt c83
                refine lv_iload hx hb dX10_best_177 (lv_at hl_170 5 rfl) ?_
                refine lv_iload hx hb dX10_best_179 (lv_at hl_170 6 rfl) ?_
                refine lv_isub hx hb dX10_best_181 ?_
                refine lv_topi (fun v84 ev84 => ?_)
                refine lv_iload hx hb dX10_best_182 (lv_at hl_170 7 rfl) ?_
                refine lv_isub hx hb dX10_best_184 ?_
                refine lv_topi (fun v85 ev85 => ?_)
                refine lv_istore (lv' := [(9, .int v85), (0, .ref a0), (2, .int a2), (3, .int x3_109), (4, .int x4_109), (5, .int x5_109), (6, .int x6_137), (7, .int x7_137), (8, .int x8_170)]) hx hb dX10_best_185 hl_170 (by decide) rfl (fun l86 hl87 => ?_)
                refine lv_iload_n hx hb dX10_best_187 rfl (lv_at hl87 3 rfl) ?_
                obtain ⟨v88, ev88, tv88⟩ : ∃ v : Int32, Int32.ofInt (2) = v ∧ v.toInt = 2 := ⟨_, rfl, by decide +kernel⟩
                refine lv_iconst hx hb dX10_best_188 ev88 ?_
                refine lv_icmp_ne (tgt := 206) hx hb dX10_best_189 (by decide) (fun c89 => ?_) (fun c89 => ?_)
                · skip
                  have tc89 := nu_ne c89
                  exact J206 v85 E_170 H_170 k_170 l86 S_170 F_170 (by have := fb_rng v85; have := fb_rng x4_109; have := fb_rng x6_137; omega) (by have := fb_rng v85; have := fb_rng x4_109; have := fb_rng x6_137; omega) (by have := fb_rng v85; have := fb_rng x4_109; have := fb_rng x6_137; omega) (by have := fb_rng v85; have := fb_rng x4_109; have := fb_rng x6_137; omega) (by have := fb_rng v85; have := fb_rng x4_109; have := fb_rng x6_137; omega) (by have := fb_rng v85; have := fb_rng x4_109; have := fb_rng x6_137; omega) (by have := fb_rng v85; have := fb_rng x4_109; have := fb_rng x6_137; omega) (by have := fb_rng v85; have := fb_rng x4_109; have := fb_rng x6_137; omega) (by have := fb_rng v85; have := fb_rng x4_109; have := fb_rng x6_137; omega) (by have := fb_rng v85; have := fb_rng x4_109; have := fb_rng x6_137; omega) (fun k hk => (z43 k hk)) (lv_sub hl87 [1, 2, 3, 4, 5, 6, 7, 8, 0] rfl)
                · skip
                  have tc89 := nu_eq c89
                  refine lv_iload hx hb dX10_best_192 (lv_at hl87 0 rfl) ?_
                  refine lv_if_ne (tgt := 206) hx hb dX10_best_194 (by decide) (fun c90 => ?_) (fun c90 => ?_)
                  · skip
                    have tc90 := nu_ne c90
                    have uc90 : (0 : Int32).toInt = 0 := rfl
                    exact J206 v85 E_170 H_170 k_170 l86 S_170 F_170 (by have := fb_rng v85; have := fb_rng x4_109; have := fb_rng x6_137; omega) (by have := fb_rng v85; have := fb_rng x4_109; have := fb_rng x6_137; omega) (by have := fb_rng v85; have := fb_rng x4_109; have := fb_rng x6_137; omega) (by have := fb_rng v85; have := fb_rng x4_109; have := fb_rng x6_137; omega) (by have := fb_rng v85; have := fb_rng x4_109; have := fb_rng x6_137; omega) (by have := fb_rng v85; have := fb_rng x4_109; have := fb_rng x6_137; omega) (by have := fb_rng v85; have := fb_rng x4_109; have := fb_rng x6_137; omega) (by have := fb_rng v85; have := fb_rng x4_109; have := fb_rng x6_137; omega) (by have := fb_rng v85; have := fb_rng x4_109; have := fb_rng x6_137; omega) (by have := fb_rng v85; have := fb_rng x4_109; have := fb_rng x6_137; omega) (fun k hk => (z43 k hk)) (lv_sub hl87 [1, 2, 3, 4, 5, 6, 7, 8, 0] rfl)
                  · skip
                    have tc90 := nu_eq c90
                    have uc90 : (0 : Int32).toInt = 0 := rfl
                    refine lv_aload_n hx hb dX10_best_197 rfl (lv_at hl87 1 rfl) ?_
                    refine lv_iload hx hb dX10_best_198 (lv_at hl87 7 rfl) ?_
                    refine lv_iload hx hb dX10_best_200 (lv_at hl87 8 rfl) ?_
                    obtain ⟨v91, ev91, tv91⟩ : ∃ v : Int32, Int32.ofInt (0) = v ∧ v.toInt = 0 := ⟨_, rfl, by decide +kernel⟩
                    refine lv_iconst hx hb dX10_best_202 ev91 ?_
                    refine tc_vv Z.1 Z.2.2.2.1 Z.2.2.2.2.1 Z.2.2.2.2.2 S_170.1 S_170.2 ha0 ta0 rfl rfl (k_X10_tryOne l D cy S_170.2 ha0 ta0 x7_137 (by omega) (by omega) x8_170 (by omega) (by omega) v91 (by omega) (by omega) (SlotOK.fr F_170 rfl rfl rfl rfl hS)) (cwV 3 hts gX10_best_X10_tryOne rfl rfl rfl (by decide +kernel) ⟨Nat.le_of_ble_eq_true rfl, Nat.le_of_ble_eq_true rfl⟩) rfl hl87.1 rfl (Nat.le_of_ble_eq_true rfl) dX10_best_203 ⟨Nat.zero_le _, Nat.zero_le _⟩ (fun E92 H93 k94 W92 I92 G92 p92 => ?_)
                    have p92_0 := p92
                    have S92 : Now D TB cy (va_A (va_pl L E) sz) s L τ E92 H93 k94 := ⟨W92, I92⟩
                    have F92 : Fr L τ (inW [(11, 0), (62, 0), (63, 0), (64, 0), (65, 0), (66, 0), (67, 0), (68, 0), (69, 0), (70, 0), (71, 0), (81, 0), (82, 0)]) E E92 := F_170.trans (G92.mono (inW_mono (by decide)))
                    exact J206 v85 E92 H93 k94 l86 S92 F92 (by have := fb_rng x4_109; have := fb_rng x6_137; omega) (by have := fb_rng x4_109; have := fb_rng x6_137; omega) (by have := fb_rng x4_109; have := fb_rng x6_137; omega) (by have := fb_rng x4_109; have := fb_rng x6_137; omega) (by have := fb_rng x4_109; have := fb_rng x6_137; omega) (by have := fb_rng x4_109; have := fb_rng x6_137; omega) (by have := fb_rng x4_109; have := fb_rng x6_137; omega) (by have := fb_rng x4_109; have := fb_rng x6_137; omega) (by have := fb_rng x4_109; have := fb_rng x6_137; omega) (by have := fb_rng x4_109; have := fb_rng x6_137; omega) (fun k hk => ((p92_0 k (fw_sub (by decide) hk)).trans (z43 k hk))) (lv_sub hl87 [1, 2, 3, 4, 5, 6, 7, 8, 0] rfl)
          refine lv_iload hx hb dX10_best_137 (lv_at hl_137 6 rfl) ?_
          obtain ⟨v96, ev96, tv96⟩ : ∃ v : Int32, (Int8.ofInt (20)).toInt32 = v ∧ v.toInt = 20 := ⟨_, rfl, by decide +kernel⟩
          refine lv_bipush hx hb dX10_best_139 ev96 ?_
          refine lv_icmp_gt (tgt := 245) hx hb dX10_best_141 (by decide) (fun c97 => ?_) (fun c97 => ?_)
          · skip
            have tc97 := nu_lt c97
            obtain ⟨v98, ev98⟩ : ∃ y : Int32, x5_109 + Int32.ofInt (1) = y := ⟨_, rfl⟩
            have tv98 : v98.toInt = x5_109.toInt + (1) := by rw [← ev98]; exact (fb_addI (by rw [show (Int32.ofInt (1)).toInt = 1 from by decide +kernel]; omega) (by rw [show (Int32.ofInt (1)).toInt = 1 from by decide +kernel]; omega)).trans (by rw [show (Int32.ofInt (1)).toInt = 1 from by decide +kernel])
            refine lv_iinc (v := v98) (lv' := [(5, .int v98), (0, .ref a0), (2, .int a2), (3, .int x3_109), (4, .int x4_109), (6, .int x6_137), (7, .int x7_137)]) hx hb dX10_best_245 hl_137 (k := 4) rfl ev98 (by decide) rfl (fun l99 hl100 => ?_)
            refine lv_goto (tgt := 109) hx hb dX10_best_248 (by decide) ?_
            exact ih_109 x3_109 x4_109 v98 E_137 H_137 k_137 l99 S_137 F_137 (by have := fb_rng x4_109; have := fb_rng x6_137; omega) (by have := fb_rng x4_109; have := fb_rng x6_137; omega) (by have := fb_rng x4_109; have := fb_rng x6_137; omega) (by have := fb_rng x4_109; have := fb_rng x6_137; omega) (by have := fb_rng x4_109; have := fb_rng x6_137; omega) (fun k hk => (z20 k hk)) (by omega) (lv_sub hl100 [1, 2, 3, 4, 0] rfl)
          · skip
            have tc97 := nu_nlt c97
            refine lv_iload_n hx hb dX10_best_144 rfl (lv_at hl_137 2 rfl) ?_
            obtain ⟨v101, ev101, tv101⟩ : ∃ v : Int32, Int32.ofInt (1) = v ∧ v.toInt = 1 := ⟨_, rfl, by decide +kernel⟩
            refine lv_iconst hx hb dX10_best_145 ev101 ?_
            refine lv_icmp_ne (tgt := 167) hx hb dX10_best_146 (by decide) (fun c102 => ?_) (fun c102 => ?_)
            · skip
              have tc102 := nu_ne c102
              obtain ⟨v103, ev103, tv103⟩ : ∃ v : Int32, Int32.ofInt (1) = v ∧ v.toInt = 1 := ⟨_, rfl, by decide +kernel⟩
              refine lv_iconst hx hb dX10_best_167 ev103 ?_
              refine lv_istore (lv' := [(8, .int v103), (0, .ref a0), (2, .int a2), (3, .int x3_109), (4, .int x4_109), (5, .int x5_109), (6, .int x6_137), (7, .int x7_137)]) hx hb dX10_best_168 hl_137 (by decide) rfl (fun l104 hl105 => ?_)
              exact J170 _ v103 E_137 H_137 k_137 l104 S_137 F_137 (by have := fb_rng x4_109; have := fb_rng x6_137; omega) (by have := fb_rng x4_109; have := fb_rng x6_137; omega) (by have := fb_rng x4_109; have := fb_rng x6_137; omega) (by have := fb_rng x4_109; have := fb_rng x6_137; omega) (by have := fb_rng x4_109; have := fb_rng x6_137; omega) (by have := fb_rng x4_109; have := fb_rng x6_137; omega) (by have := fb_rng x4_109; have := fb_rng x6_137; omega) (by have := fb_rng x4_109; have := fb_rng x6_137; omega) (by have := fb_rng x4_109; have := fb_rng x6_137; omega) (by have := fb_rng x4_109; have := fb_rng x6_137; omega) (fun k hk => (z20 k hk)) (Nat.lt_succ_self _) (lv_sub hl105 [1, 2, 3, 4, 5, 6, 7, 0] rfl)
            · skip
              have tc102 := nu_eq c102
              refine lv_iload hx hb dX10_best_149 (lv_at hl_137 6 rfl) ?_
              refine lv_iload hx hb dX10_best_151 (lv_at hl_137 5 rfl) ?_
              refine lv_icmp_ne (tgt := 239) hx hb dX10_best_153 (by decide) (fun c106 => ?_) (fun c106 => ?_)
              · skip
                have tc106 := nu_ne c106
                exact J239 E_137 H_137 k_137 l_137 S_137 F_137 (by have := fb_rng x4_109; have := fb_rng x6_137; omega) (by have := fb_rng x4_109; have := fb_rng x6_137; omega) (by have := fb_rng x4_109; have := fb_rng x6_137; omega) (by have := fb_rng x4_109; have := fb_rng x6_137; omega) (by have := fb_rng x4_109; have := fb_rng x6_137; omega) (by have := fb_rng x4_109; have := fb_rng x6_137; omega) (by have := fb_rng x4_109; have := fb_rng x6_137; omega) (by have := fb_rng x4_109; have := fb_rng x6_137; omega) (fun k hk => (z20 k hk)) (lv_sub hl_137 [0, 1, 2, 3, 4, 5, 6] rfl)
              · skip
                have tc106 := nu_eq c106
                refine lv_aload_n hx hb dX10_best_156 rfl (lv_at hl_137 0 rfl) ?_
                refine lv_iload hx hb dX10_best_157 (lv_at hl_137 6 rfl) ?_
                obtain ⟨v107, ev107, tv107⟩ : ∃ v : Int32, Int32.ofInt (0) = v ∧ v.toInt = 0 := ⟨_, rfl, by decide +kernel⟩
                refine lv_iconst hx hb dX10_best_159 ev107 ?_
                obtain ⟨v108, ev108, tv108⟩ : ∃ v : Int32, Int32.ofInt (0) = v ∧ v.toInt = 0 := ⟨_, rfl, by decide +kernel⟩
                refine lv_iconst hx hb dX10_best_160 ev108 ?_
                refine tc_vv Z.1 Z.2.2.2.1 Z.2.2.2.2.1 Z.2.2.2.2.2 S_137.1 S_137.2 ha0 ta0 rfl rfl (k_X10_tryOne l D cy S_137.2 ha0 ta0 x7_137 (by omega) (by omega) v107 (by omega) (by omega) v108 (by omega) (by omega) (SlotOK.fr F_137 rfl rfl rfl rfl hS)) (cwV 3 hts gX10_best_X10_tryOne rfl rfl rfl (by decide +kernel) ⟨Nat.le_of_ble_eq_true rfl, Nat.le_of_ble_eq_true rfl⟩) rfl hl_137.1 rfl (Nat.le_of_ble_eq_true rfl) dX10_best_161 ⟨Nat.zero_le _, Nat.zero_le _⟩ (fun E109 H110 k111 W109 I109 G109 p109 => ?_)
                have p109_0 := p109
                have S109 : Now D TB cy (va_A (va_pl L E) sz) s L τ E109 H110 k111 := ⟨W109, I109⟩
                have F109 : Fr L τ (inW [(11, 0), (62, 0), (63, 0), (64, 0), (65, 0), (66, 0), (67, 0), (68, 0), (69, 0), (70, 0), (71, 0), (81, 0), (82, 0)]) E E109 := F_137.trans (G109.mono (inW_mono (by decide)))
                refine lv_goto (tgt := 239) hx hb dX10_best_164 (by decide) ?_
                exact J239 E109 H110 k111 l_137 S109 F109 (by have := fb_rng x4_109; omega) (by have := fb_rng x4_109; omega) (by have := fb_rng x4_109; omega) (by have := fb_rng x4_109; omega) (by have := fb_rng x4_109; omega) (by have := fb_rng x4_109; omega) (by have := fb_rng x4_109; omega) (by have := fb_rng x4_109; omega) (fun k hk => ((p109_0 k (fw_sub (by decide) hk)).trans (z20 k hk))) (lv_sub hl_137 [0, 1, 2, 3, 4, 5, 6] rfl)
      refine lv_iload hx hb dX10_best_109 (lv_at hl_109 4 rfl) ?_
      refine lv_iload_n hx hb dX10_best_111 rfl (lv_at hl_109 1 rfl) ?_
      refine lv_icmp_gt (tgt := 251) hx hb dX10_best_112 (by decide) (fun c113 => ?_) (fun c113 => ?_)
      · skip
        have tc113 := nu_lt c113
        exact J251 E_109 H_109 k_109 l_109 S_109 F_109 (fun k hk => (z11 k hk)) (lv_sub hl_109 [0] rfl)
      · skip
        have tc113 := nu_nlt c113
        refine lv_aload_n hx hb dX10_best_115 rfl (lv_at hl_109 0 rfl) ?_
        refine tr_geti Z.1 Z.2.2.2.1 S_109.1 S_109.2 ha0 ta0 rfl rfl (fun _ h => List.mem_cons_of_mem _ (List.mem_append_right _ h)) 35 (by decide) rfl (hts _ (List.mem_of_getElem? (i := 2) rfl)) dX10_best_116 (fun v114 ev114 lv114 uv114 => ?_)
        obtain ⟨v115, ev115, tv115⟩ : ∃ v : Int32, (Int16.ofInt (2000)).toInt32 = v ∧ v.toInt = 2000 := ⟨_, rfl, by decide +kernel⟩
        refine lv_sipush hx hb dX10_best_119 ev115 ?_
        refine lv_icmp_ge (tgt := 251) hx hb dX10_best_122 (by decide) (fun c116 => ?_) (fun c116 => ?_)
        · skip
          have tc116 := nu_le c116
          exact J251 E_109 H_109 k_109 l_109 S_109 F_109 (fun k hk => (z11 k hk)) (lv_sub hl_109 [0] rfl)
        · skip
          have tc116 := nu_nle c116
          refine lv_iload hx hb dX10_best_125 (lv_at hl_109 4 rfl) ?_
          obtain ⟨v117, ev117, tv117⟩ : ∃ v : Int32, Int32.ofInt (1) = v ∧ v.toInt = 1 := ⟨_, rfl, by decide +kernel⟩
          refine lv_iconst hx hb dX10_best_127 ev117 ?_
          refine lv_isub hx hb dX10_best_128 ?_
          refine lv_topi (fun v118 ev118 => ?_)
          have tv118 := nu_sub ev118 (by omega) (by omega)
          refine lv_iload hx hb dX10_best_129 (lv_at hl_109 3 rfl) ?_
          refine lv_isub hx hb dX10_best_131 ?_
          refine lv_topi (fun v119 ev119 => ?_)
          refine lv_istore (lv' := [(6, .int v119), (0, .ref a0), (2, .int a2), (3, .int x3_109), (4, .int x4_109), (5, .int x5_109)]) hx hb dX10_best_132 hl_109 (by decide) rfl (fun l120 hl121 => ?_)
          obtain ⟨v122, ev122, tv122⟩ : ∃ v : Int32, Int32.ofInt (1) = v ∧ v.toInt = 1 := ⟨_, rfl, by decide +kernel⟩
          refine lv_iconst hx hb dX10_best_134 ev122 ?_
          refine lv_istore (lv' := [(7, .int v122), (6, .int v119), (0, .ref a0), (2, .int a2), (3, .int x3_109), (4, .int x4_109), (5, .int x5_109)]) hx hb dX10_best_135 hl121 (by decide) rfl (fun l123 hl124 => ?_)
          exact J137 _ v119 v122 E_109 H_109 k_109 l123 S_109 F_109 (by have := fb_rng v119; have := fb_rng x4_109; omega) (by have := fb_rng v119; have := fb_rng x4_109; omega) (by have := fb_rng v119; have := fb_rng x4_109; omega) (by have := fb_rng v119; have := fb_rng x4_109; omega) (by have := fb_rng v119; have := fb_rng x4_109; omega) (by have := fb_rng v119; have := fb_rng x4_109; omega) (by have := fb_rng v119; have := fb_rng x4_109; omega) (by have := fb_rng v119; have := fb_rng x4_109; omega) (fun k hk => (z11 k hk)) (Nat.lt_succ_self _) (lv_sub hl124 [2, 3, 4, 5, 6, 1, 0] rfl)
  have J69 : ∀ (n : Nat) (x3_69 : Int32) (x4_69 : Int32) (x5_69 : Int32) (E_69 : Ec) (H_69 : Heap) (k_69 : List Loc) (l_69 : Array Slot), Now D TB cy (va_A (va_pl L E) sz) s L τ E_69 H_69 k_69 → Fr L τ (inW [(11, 0), (62, 0), (63, 0), (64, 0), (65, 0), (66, 0), (67, 0), (68, 0), (69, 0), (70, 0), (71, 0), (81, 0), (82, 0)]) E E_69 → (2 ≤ a1.toInt) → (2 ≤ a2.toInt) → (a2.toInt ≤ 67) → (0 ≤ x3_69.toInt) → (x3_69.toInt ≤ 3) → (0 ≤ x5_69.toInt) → (x5_69.toInt ≤ 2) → (∀ k : Nat, k ∉ ([3, 4, 6, 8, 30, 31, 32, 35, 36, 37, 38, 39, 40, 41] : List Nat) → fi E_69 a0 k = fi E a0 k) → (2 - x5_69.toInt).toNat < n → lv_has l_69 10 [(0, .ref a0), (1, .int a1), (2, .int a2), (3, .int x3_69), (4, .int x4_69), (5, .int x5_69)] → W p l e { frames := 6, cells := 0, slots := 0, locals := 142 } s m args below meth c H_69 k_69 0 0 QQ (F0 m 69 l_69 []) := by
    intro n
    induction n with
    | zero => intro x3_69 x4_69 x5_69 E_69 H_69 k_69 l_69 S_69 F_69 z125 z126 z127 z128 z129 z130 z131 z132 hm hl_69; exact absurd hm (Nat.not_lt_zero _)
    | succ n ih =>
      intro x3_69 x4_69 x5_69 E_69 H_69 k_69 l_69 S_69 F_69 z125 z126 z127 z128 z129 z130 z131 z132 hm hl_69
      have ih_69 := ih
      have J97 : ∀ (y0_97 : Int32) (y1_97 : Int32) (E_97 : Ec) (H_97 : Heap) (k_97 : List Loc) (l_97 : Array Slot), Now D TB cy (va_A (va_pl L E) sz) s L τ E_97 H_97 k_97 → Fr L τ (inW [(11, 0), (62, 0), (63, 0), (64, 0), (65, 0), (66, 0), (67, 0), (68, 0), (69, 0), (70, 0), (71, 0), (81, 0), (82, 0)]) E E_97 → (2 ≤ a1.toInt) → (2 ≤ a2.toInt) → (a2.toInt ≤ 67) → (0 ≤ x3_69.toInt) → (x3_69.toInt ≤ 3) → (0 ≤ x5_69.toInt) → (x5_69.toInt ≤ 1) → (1 ≤ y1_97.toInt) → (y1_97.toInt ≤ 3) → (∀ k : Nat, k ∉ ([3, 4, 6, 8, 30, 31, 32, 35, 36, 37, 38, 39, 40, 41] : List Nat) → fi E_97 a0 k = fi E a0 k) → lv_has l_97 10 [(0, .ref a0), (1, .int a1), (2, .int a2), (3, .int x3_69), (5, .int x5_69)] → W p l e { frames := 6, cells := 0, slots := 0, locals := 142 } s m args below meth c H_97 k_97 0 0 QQ (F0 m 97 l_97 [.int y1_97, .int y0_97]) := by
        intro y0_97 y1_97 E_97 H_97 k_97 l_97 S_97 F_97 z133 z134 z135 z136 z137 z138 z139 z140 z141 z142 hl_97
        refine lv_iadd hx hb dX10_best_97 ?_
        refine lv_topi (fun v143 ev143 => ?_)
        refine lv_istore (lv' := [(4, .int v143), (0, .ref a0), (1, .int a1), (2, .int a2), (3, .int x3_69), (5, .int x5_69)]) hx hb dX10_best_98 hl_97 (by decide) rfl (fun l144 hl145 => ?_)
        obtain ⟨v146, ev146⟩ : ∃ y : Int32, x5_69 + Int32.ofInt (1) = y := ⟨_, rfl⟩
        have tv146 : v146.toInt = x5_69.toInt + (1) := by rw [← ev146]; exact (fb_addI (by rw [show (Int32.ofInt (1)).toInt = 1 from by decide +kernel]; omega) (by rw [show (Int32.ofInt (1)).toInt = 1 from by decide +kernel]; omega)).trans (by rw [show (Int32.ofInt (1)).toInt = 1 from by decide +kernel])
        refine lv_iinc (v := v146) (lv' := [(5, .int v146), (4, .int v143), (0, .ref a0), (1, .int a1), (2, .int a2), (3, .int x3_69)]) hx hb dX10_best_100 hl145 (k := 5) rfl ev146 (by decide) rfl (fun l147 hl148 => ?_)
        refine lv_goto (tgt := 69) hx hb dX10_best_103 (by decide) ?_
        exact ih_69 x3_69 v143 v146 E_97 H_97 k_97 l147 S_97 F_97 (by have := fb_rng v143; have := fb_rng a1; omega) (by have := fb_rng v143; have := fb_rng a1; omega) (by have := fb_rng v143; have := fb_rng a1; omega) (by have := fb_rng v143; have := fb_rng a1; omega) (by have := fb_rng v143; have := fb_rng a1; omega) (by have := fb_rng v143; have := fb_rng a1; omega) (by have := fb_rng v143; have := fb_rng a1; omega) (fun k hk => (z142 k hk)) (by omega) (lv_sub hl148 [2, 3, 4, 5, 1, 0] rfl)
      refine lv_iload hx hb dX10_best_69 (lv_at hl_69 5 rfl) ?_
      refine lv_iload_n hx hb dX10_best_71 rfl (lv_at hl_69 3 rfl) ?_
      obtain ⟨v149, ev149, tv149⟩ : ∃ v : Int32, Int32.ofInt (1) = v ∧ v.toInt = 1 := ⟨_, rfl, by decide +kernel⟩
      refine lv_iconst hx hb dX10_best_72 ev149 ?_
      refine lv_isub hx hb dX10_best_73 ?_
      refine lv_topi (fun v150 ev150 => ?_)
      have tv150 := nu_sub ev150 (by omega) (by omega)
      refine lv_icmp_ge (tgt := 106) hx hb dX10_best_74 (by decide) (fun c151 => ?_) (fun c151 => ?_)
      · skip
        have tc151 := nu_le c151
        refine lv_iload_n hx hb dX10_best_106 rfl (lv_at hl_69 1 rfl) ?_
        refine lv_istore (lv' := [(5, .int a1), (0, .ref a0), (1, .int a1), (2, .int a2), (3, .int x3_69), (4, .int x4_69)]) hx hb dX10_best_107 hl_69 (by decide) rfl (fun l152 hl153 => ?_)
        exact J109 _ x3_69 x4_69 a1 E_69 H_69 k_69 l152 S_69 F_69 (by have := fb_rng a1; have := fb_rng a1; have := fb_rng x4_69; omega) (by have := fb_rng a1; have := fb_rng a1; have := fb_rng x4_69; omega) (by have := fb_rng a1; have := fb_rng a1; have := fb_rng x4_69; omega) (by have := fb_rng a1; have := fb_rng a1; have := fb_rng x4_69; omega) (by have := fb_rng a1; have := fb_rng a1; have := fb_rng x4_69; omega) (fun k hk => (z132 k hk)) (Nat.lt_succ_self _) (lv_sub hl153 [1, 3, 4, 5, 0] rfl)
      · skip
        have tc151 := nu_nle c151
        refine lv_iload hx hb dX10_best_77 (lv_at hl_69 4 rfl) ?_
        refine lv_aload_n hx hb dX10_best_79 rfl (lv_at hl_69 0 rfl) ?_
        refine tr_getr Z.1 Z.2.2.2.1 S_69.1 S_69.2 ha0 ta0 rfl rfl (fun _ h => List.mem_cons_of_mem _ (List.mem_append_right _ h)) 0 (by decide) rfl (hts _ (List.mem_of_getElem? (i := 6) rfl)) dX10_best_80 (fun q154 eq154 hq154 tq154 => ?_)
        have tq154 : τ q154 = (60, 0) := tq154
        obtain ⟨v155, ev155, tv155⟩ : ∃ v : Int32, (Int8.ofInt (11)).toInt32 = v ∧ v.toInt = 11 := ⟨_, rfl, by decide +kernel⟩
        refine lv_bipush hx hb dX10_best_83 ev155 ?_
        refine lv_iload hx hb dX10_best_85 (lv_at hl_69 5 rfl) ?_
        refine lv_iadd hx hb dX10_best_87 ?_
        refine lv_topi (fun v156 ev156 => ?_)
        have tv156 := nu_add ev156 (by omega) (by omega)
        refine tr_ialdx Z.1 Z.2.2.2.1 S_69.1 S_69.2 hq154 tq154 rfl (by omega) (by omega) dX10_best_88 (fun v157 ev157 lv157 uv157 => ?_)
        have bv157 : nowB v156.toNatClampNeg = (-2147483648, 2147483647) := nb_o (by show v156.toInt.toNat < 4 ∨ (8 ≤ v156.toInt.toNat ∧ v156.toInt.toNat ≤ 18) ∨ (20 ≤ v156.toInt.toNat ∧ v156.toInt.toNat ≤ 43); omega)
        rw [bv157] at lv157 uv157
        have lv157 : -2147483648 ≤ v157.toInt := lv157
        have uv157 : v157.toInt ≤ 2147483647 := uv157
        refine lv_if_ne (tgt := 96) hx hb dX10_best_89 (by decide) (fun c158 => ?_) (fun c158 => ?_)
        · skip
          have tc158 := nu_ne c158
          have uc158 : (0 : Int32).toInt = 0 := rfl
          obtain ⟨v159, ev159, tv159⟩ : ∃ v : Int32, Int32.ofInt (3) = v ∧ v.toInt = 3 := ⟨_, rfl, by decide +kernel⟩
          refine lv_iconst hx hb dX10_best_96 ev159 ?_
          exact J97 x4_69 v159 E_69 H_69 k_69 l_69 S_69 F_69 (by have := fb_rng a1; have := fb_rng x4_69; omega) (by have := fb_rng a1; have := fb_rng x4_69; omega) (by have := fb_rng a1; have := fb_rng x4_69; omega) (by have := fb_rng a1; have := fb_rng x4_69; omega) (by have := fb_rng a1; have := fb_rng x4_69; omega) (by have := fb_rng a1; have := fb_rng x4_69; omega) (by have := fb_rng a1; have := fb_rng x4_69; omega) (by have := fb_rng a1; have := fb_rng x4_69; omega) (by have := fb_rng a1; have := fb_rng x4_69; omega) (fun k hk => (z132 k hk)) (lv_sub hl_69 [0, 1, 2, 3, 5] rfl)
        · skip
          have tc158 := nu_eq c158
          have uc158 : (0 : Int32).toInt = 0 := rfl
          obtain ⟨v160, ev160, tv160⟩ : ∃ v : Int32, Int32.ofInt (1) = v ∧ v.toInt = 1 := ⟨_, rfl, by decide +kernel⟩
          refine lv_iconst hx hb dX10_best_92 ev160 ?_
          refine lv_goto (tgt := 97) hx hb dX10_best_93 (by decide) ?_
          exact J97 x4_69 v160 E_69 H_69 k_69 l_69 S_69 F_69 (by have := fb_rng a1; have := fb_rng x4_69; omega) (by have := fb_rng a1; have := fb_rng x4_69; omega) (by have := fb_rng a1; have := fb_rng x4_69; omega) (by have := fb_rng a1; have := fb_rng x4_69; omega) (by have := fb_rng a1; have := fb_rng x4_69; omega) (by have := fb_rng a1; have := fb_rng x4_69; omega) (by have := fb_rng a1; have := fb_rng x4_69; omega) (by have := fb_rng a1; have := fb_rng x4_69; omega) (by have := fb_rng a1; have := fb_rng x4_69; omega) (fun k hk => (z132 k hk)) (lv_sub hl_69 [0, 1, 2, 3, 5] rfl)
  have J21 : ∀  (E_21 : Ec) (H_21 : Heap) (k_21 : List Loc) (l_21 : Array Slot), Now D TB cy (va_A (va_pl L E) sz) s L τ E_21 H_21 k_21 → Fr L τ (inW [(11, 0), (62, 0), (63, 0), (64, 0), (65, 0), (66, 0), (67, 0), (68, 0), (69, 0), (70, 0), (71, 0), (81, 0), (82, 0)]) E E_21 → (∀ k : Nat, k ∉ ([3, 4, 6, 8, 30, 31, 32, 35, 36, 37, 38, 39, 40, 41] : List Nat) → fi E_21 a0 k = fi E a0 k) → lv_has l_21 10 [(0, .ref a0)] → W p l e { frames := 6, cells := 0, slots := 0, locals := 142 } s m args below meth c H_21 k_21 0 0 QQ (F0 m 21 l_21 []) := by
    intro  E_21 H_21 k_21 l_21 S_21 F_21 z161 hl_21
    refine lv_aload_n hx hb dX10_best_21 rfl (lv_at hl_21 0 rfl) ?_
    obtain ⟨v162, ev162, tv162⟩ : ∃ v : Int32, Int32.ofInt (1) = v ∧ v.toInt = 1 := ⟨_, rfl, by decide +kernel⟩
    refine lv_iconst hx hb dX10_best_22 ev162 ?_
    refine tc_vi Z.1 Z.2.2.2.1 Z.2.2.2.2.1 Z.2.2.2.2.2 S_21.1 S_21.2 ha0 ta0 rfl rfl (k_X10_no l D cy S_21.2 ha0 ta0 v162) (cwV 1 hts gX10_best_X10_no rfl rfl rfl (by decide +kernel) ⟨Nat.le_of_ble_eq_true rfl, Nat.le_of_ble_eq_true rfl⟩) rfl hl_21.1 rfl (Nat.le_of_ble_eq_true rfl) dX10_best_23 ⟨Nat.zero_le _, Nat.zero_le _⟩ (fun v166 E163 H164 k165 W163 I163 G163 p163 => ?_)
    obtain ⟨p163_0, p163_1, p163_2⟩ := p163
    have S163 : Now D TB cy (va_A (va_pl L E) sz) s L τ E163 H164 k165 := ⟨W163, I163⟩
    have F163 : Fr L τ (inW [(11, 0), (62, 0), (63, 0), (64, 0), (65, 0), (66, 0), (67, 0), (68, 0), (69, 0), (70, 0), (71, 0), (81, 0), (82, 0)]) E E163 := F_21.trans (G163.mono (inW_mono (by decide)))
    rw [← hQ]
    exact en_i Z S163 F163 (fun k hk => ((p163_2 k (fw_sub (by decide) hk)).trans (z161 k hk))) dX10_best_26
  refine lv_aload_n hx hb dX10_best_0 rfl (lv_at hl 0 rfl) ?_
  obtain ⟨v167, ev167, tv167⟩ : ∃ v : Int32, Int32.ofInt (0) = v ∧ v.toInt = 0 := ⟨_, rfl, by decide +kernel⟩
  refine lv_iconst hx hb dX10_best_1 ev167 ?_
  refine tr_puti Z.1 Z.2.2.2.1 S0.1 S0.2 ha0 ta0 rfl rfl (fun _ h => List.mem_cons_of_mem _ (List.mem_append_right _ h)) tyX10_ok nmX10 4 (by decide) rfl rfl rfl (hts _ (List.mem_of_getElem? (i := 1) rfl)) dX10_best_2 (by omega) (by omega) (fun E168 H169 k170 W168 I168 P168 => ?_)
  have S168 : Now D TB cy (va_A (va_pl L E) sz) s L τ E168 H169 k170 := ⟨W168, I168⟩
  have F168 : Fr L τ (inW [(11, 0), (62, 0), (63, 0), (64, 0), (65, 0), (66, 0), (67, 0), (68, 0), (69, 0), (70, 0), (71, 0), (81, 0), (82, 0)]) E E168 := Fr.put F0_ P168 ta0 rfl
  refine lv_iload_n hx hb dX10_best_5 rfl (lv_at hl 1 rfl) ?_
  obtain ⟨v171, ev171, tv171⟩ : ∃ v : Int32, Int32.ofInt (2) = v ∧ v.toInt = 2 := ⟨_, rfl, by decide +kernel⟩
  refine lv_iconst hx hb dX10_best_6 ev171 ?_
  refine lv_icmp_lt (tgt := 21) hx hb dX10_best_7 (by decide) (fun c172 => ?_) (fun c172 => ?_)
  · skip
    have tc172 := nu_lt c172
    exact J21 E168 H169 k170 ls S168 F168 (fun k hk => ((fi_put P168 (Or.inr (fw_ne (by decide) hk))).trans ((fun k hk => rfl) k hk))) (lv_sub hl [0] rfl)
  · skip
    have tc172 := nu_nlt c172
    refine lv_iload_n hx hb dX10_best_10 rfl (lv_at hl 1 rfl) ?_
    refine lv_iload_n hx hb dX10_best_11 rfl (lv_at hl 2 rfl) ?_
    refine lv_icmp_gt (tgt := 21) hx hb dX10_best_12 (by decide) (fun c173 => ?_) (fun c173 => ?_)
    · skip
      have tc173 := nu_lt c173
      exact J21 E168 H169 k170 ls S168 F168 (fun k hk => ((fi_put P168 (Or.inr (fw_ne (by decide) hk))).trans ((fun k hk => rfl) k hk))) (lv_sub hl [0] rfl)
    · skip
      have tc173 := nu_nlt c173
      refine lv_iload_n hx hb dX10_best_15 rfl (lv_at hl 2 rfl) ?_
      obtain ⟨v174, ev174, tv174⟩ : ∃ v : Int32, (Int8.ofInt (67)).toInt32 = v ∧ v.toInt = 67 := ⟨_, rfl, by decide +kernel⟩
      refine lv_bipush hx hb dX10_best_16 ev174 ?_
      refine lv_icmp_le (tgt := 27) hx hb dX10_best_18 (by decide) (fun c175 => ?_) (fun c175 => ?_)
      · skip
        have tc175 := nu_le c175
        refine lv_aload_n hx hb dX10_best_27 rfl (lv_at hl 0 rfl) ?_
        refine tc_vv Z.1 Z.2.2.2.1 Z.2.2.2.2.1 Z.2.2.2.2.2 S168.1 S168.2 ha0 ta0 rfl rfl (k_X10_good l D cy S168.2 ha0 ta0) (cwV 0 hts gX10_best_X10_good rfl rfl rfl (by decide +kernel) ⟨Nat.le_of_ble_eq_true rfl, Nat.le_of_ble_eq_true rfl⟩) rfl hl.1 rfl (Nat.le_of_ble_eq_true rfl) dX10_best_28 ⟨Nat.zero_le _, Nat.zero_le _⟩ (fun E176 H177 k178 W176 I176 G176 p176 => ?_)
        have p176_0 := p176
        have S176 : Now D TB cy (va_A (va_pl L E) sz) s L τ E176 H177 k178 := ⟨W176, I176⟩
        have F176 : Fr L τ (inW [(11, 0), (62, 0), (63, 0), (64, 0), (65, 0), (66, 0), (67, 0), (68, 0), (69, 0), (70, 0), (71, 0), (81, 0), (82, 0)]) E E176 := F168.trans (G176.mono (inW_mono (by decide)))
        refine lv_aload_n hx hb dX10_best_31 rfl (lv_at hl 0 rfl) ?_
        obtain ⟨v180, ev180, tv180⟩ : ∃ v : Int32, Int32.ofInt (0) = v ∧ v.toInt = 0 := ⟨_, rfl, by decide +kernel⟩
        refine lv_iconst hx hb dX10_best_32 ev180 ?_
        refine tr_puti Z.1 Z.2.2.2.1 S176.1 S176.2 ha0 ta0 rfl rfl (fun _ h => List.mem_cons_of_mem _ (List.mem_append_right _ h)) tyX10_ok nmX10 35 (by decide) rfl rfl rfl (hts _ (List.mem_of_getElem? (i := 2) rfl)) dX10_best_33 (by omega) (by omega) (fun E181 H182 k183 W181 I181 P181 => ?_)
        have S181 : Now D TB cy (va_A (va_pl L E) sz) s L τ E181 H182 k183 := ⟨W181, I181⟩
        have F181 : Fr L τ (inW [(11, 0), (62, 0), (63, 0), (64, 0), (65, 0), (66, 0), (67, 0), (68, 0), (69, 0), (70, 0), (71, 0), (81, 0), (82, 0)]) E E181 := Fr.put F176 P181 ta0 rfl
        refine lv_aload_n hx hb dX10_best_36 rfl (lv_at hl 0 rfl) ?_
        obtain ⟨v184, ev184, tv184⟩ : ∃ v : Int32, Int32.ofInt (0) = v ∧ v.toInt = 0 := ⟨_, rfl, by decide +kernel⟩
        refine lv_iconst hx hb dX10_best_37 ev184 ?_
        refine tr_puti Z.1 Z.2.2.2.1 S181.1 S181.2 ha0 ta0 rfl rfl (fun _ h => List.mem_cons_of_mem _ (List.mem_append_right _ h)) tyX10_ok nmX10 36 (by decide) rfl rfl rfl (hts _ (List.mem_of_getElem? (i := 3) rfl)) dX10_best_38 (by have := fb_rng v184; omega) (by have := fb_rng v184; omega) (fun E185 H186 k187 W185 I185 P185 => ?_)
        have S185 : Now D TB cy (va_A (va_pl L E) sz) s L τ E185 H186 k187 := ⟨W185, I185⟩
        have F185 : Fr L τ (inW [(11, 0), (62, 0), (63, 0), (64, 0), (65, 0), (66, 0), (67, 0), (68, 0), (69, 0), (70, 0), (71, 0), (81, 0), (82, 0)]) E E185 := Fr.put F181 P185 ta0 rfl
        refine lv_aload_n hx hb dX10_best_41 rfl (lv_at hl 0 rfl) ?_
        obtain ⟨v188, ev188, tv188⟩ : ∃ v : Int32, Int32.ofInt (1) = v ∧ v.toInt = 1 := ⟨_, rfl, by decide +kernel⟩
        refine lv_iconst hx hb dX10_best_42 ev188 ?_
        refine tr_putz Z.1 Z.2.2.2.1 S185.1 S185.2 ha0 ta0 rfl rfl (fun _ h => List.mem_cons_of_mem _ (List.mem_append_right _ h)) tyX10_ok nmX10 40 (by decide) rfl rfl rfl (hts _ (List.mem_of_getElem? (i := 4) rfl)) dX10_best_43 (by omega) (by omega) (fun E189 H190 k191 W189 I189 P189 => ?_)
        have S189 : Now D TB cy (va_A (va_pl L E) sz) s L τ E189 H190 k191 := ⟨W189, I189⟩
        have F189 : Fr L τ (inW [(11, 0), (62, 0), (63, 0), (64, 0), (65, 0), (66, 0), (67, 0), (68, 0), (69, 0), (70, 0), (71, 0), (81, 0), (82, 0)]) E E189 := Fr.put F185 P189 ta0 rfl
        refine lv_aload_n hx hb dX10_best_46 rfl (lv_at hl 0 rfl) ?_
        obtain ⟨v192, ev192, tv192⟩ : ∃ v : Int32, Int32.ofInt (0) = v ∧ v.toInt = 0 := ⟨_, rfl, by decide +kernel⟩
        refine lv_iconst hx hb dX10_best_47 ev192 ?_
        refine tr_putz Z.1 Z.2.2.2.1 S189.1 S189.2 ha0 ta0 rfl rfl (fun _ h => List.mem_cons_of_mem _ (List.mem_append_right _ h)) tyX10_ok nmX10 41 (by decide) rfl rfl rfl (hts _ (List.mem_of_getElem? (i := 5) rfl)) dX10_best_48 (by omega) (by omega) (fun E193 H194 k195 W193 I193 P193 => ?_)
        have S193 : Now D TB cy (va_A (va_pl L E) sz) s L τ E193 H194 k195 := ⟨W193, I193⟩
        have F193 : Fr L τ (inW [(11, 0), (62, 0), (63, 0), (64, 0), (65, 0), (66, 0), (67, 0), (68, 0), (69, 0), (70, 0), (71, 0), (81, 0), (82, 0)]) E E193 := Fr.put F189 P193 ta0 rfl
        refine lv_aload_n hx hb dX10_best_51 rfl (lv_at hl 0 rfl) ?_
        refine tr_getr Z.1 Z.2.2.2.1 S193.1 S193.2 ha0 ta0 rfl rfl (fun _ h => List.mem_cons_of_mem _ (List.mem_append_right _ h)) 0 (by decide) rfl (hts _ (List.mem_of_getElem? (i := 6) rfl)) dX10_best_52 (fun q196 eq196 hq196 tq196 => ?_)
        have tq196 : τ q196 = (60, 0) := tq196
        obtain ⟨v197, ev197, tv197⟩ : ∃ v : Int32, Int32.ofInt (4) = v ∧ v.toInt = 4 := ⟨_, rfl, by decide +kernel⟩
        refine lv_iconst hx hb dX10_best_55 ev197 ?_
        refine tr_ialdx Z.1 Z.2.2.2.1 S193.1 S193.2 hq196 tq196 rfl (by omega) (by omega) dX10_best_56 (fun v198 ev198 lv198 uv198 => ?_)
        have bv198 : nowB v197.toNatClampNeg = (0, 3) := nb_4 (by show v197.toInt.toNat = 4; omega)
        rw [bv198] at lv198 uv198
        have lv198 : 0 ≤ v198.toInt := lv198
        have uv198 : v198.toInt ≤ 3 := uv198
        have av198 : ai E193 q196 4 = v198 := ai_at ev198 (by omega)
        refine lv_istore_n (lv' := [(3, .int v198), (0, .ref a0), (1, .int a1), (2, .int a2)]) hx hb dX10_best_57 rfl hl (by decide) rfl (fun l199 hl200 => ?_)
        refine lv_aload_n hx hb dX10_best_58 rfl (lv_at hl200 1 rfl) ?_
        refine lv_iload_n hx hb dX10_best_59 rfl (lv_at hl200 0 rfl) ?_
        refine tr_puti Z.1 Z.2.2.2.1 S193.1 S193.2 ha0 ta0 rfl rfl (fun _ h => List.mem_cons_of_mem _ (List.mem_append_right _ h)) tyX10_ok nmX10 38 (by decide) rfl rfl rfl (hts _ (List.mem_of_getElem? (i := 7) rfl)) dX10_best_60 (by omega) (by omega) (fun E201 H202 k203 W201 I201 P201 => ?_)
        have S201 : Now D TB cy (va_A (va_pl L E) sz) s L τ E201 H202 k203 := ⟨W201, I201⟩
        have F201 : Fr L τ (inW [(11, 0), (62, 0), (63, 0), (64, 0), (65, 0), (66, 0), (67, 0), (68, 0), (69, 0), (70, 0), (71, 0), (81, 0), (82, 0)]) E E201 := Fr.put F193 P201 ta0 rfl
        obtain ⟨v204, ev204, tv204⟩ : ∃ v : Int32, Int32.ofInt (0) = v ∧ v.toInt = 0 := ⟨_, rfl, by decide +kernel⟩
        refine lv_iconst hx hb dX10_best_63 ev204 ?_
        refine lv_istore (lv' := [(4, .int v204), (3, .int v198), (0, .ref a0), (1, .int a1), (2, .int a2)]) hx hb dX10_best_64 hl200 (by decide) rfl (fun l205 hl206 => ?_)
        obtain ⟨v207, ev207, tv207⟩ : ∃ v : Int32, Int32.ofInt (0) = v ∧ v.toInt = 0 := ⟨_, rfl, by decide +kernel⟩
        refine lv_iconst hx hb dX10_best_66 ev207 ?_
        refine lv_istore (lv' := [(5, .int v207), (4, .int v204), (3, .int v198), (0, .ref a0), (1, .int a1), (2, .int a2)]) hx hb dX10_best_67 hl206 (by decide) rfl (fun l208 hl209 => ?_)
        exact J69 _ v198 v204 v207 E201 H202 k203 l208 S201 F201 (by have := fb_rng a1; omega) (by have := fb_rng a1; omega) (by have := fb_rng a1; omega) (by have := fb_rng a1; omega) (by have := fb_rng a1; omega) (by have := fb_rng a1; omega) (by have := fb_rng a1; omega) (fun k hk => ((fi_put P201 (Or.inr (fw_ne (by decide) hk))).trans ((fi_put P193 (Or.inr (fw_ne (by decide) hk))).trans ((fi_put P189 (Or.inr (fw_ne (by decide) hk))).trans ((fi_put P185 (Or.inr (fw_ne (by decide) hk))).trans ((fi_put P181 (Or.inr (fw_ne (by decide) hk))).trans ((p176_0 k (fw_sub (by decide) hk)).trans ((fi_put P168 (Or.inr (fw_ne (by decide) hk))).trans ((fun k hk => rfl) k hk))))))))) (Nat.lt_succ_self _) (lv_sub hl209 [3, 4, 5, 2, 1, 0] rfl)
      · skip
        have tc175 := nu_nle c175
        exact J21 E168 H169 k170 ls S168 F168 (fun k hk => ((fi_put P168 (Or.inr (fw_ne (by decide) hk))).trans ((fun k hk => rfl) k hk))) (lv_sub hl [0] rfl)

theorem dX10_root_0 : decode cX10_root 0 = .ok (.lconst 0, 1) := by decide +kernel
theorem dX10_root_1 : decode cX10_root 1 = .ok (.lstore_n 3, 1) := by decide +kernel
theorem dX10_root_2 : decode cX10_root 2 = .ok (.ldc2_w 264, 3) := by decide +kernel
theorem dX10_root_5 : decode cX10_root 5 = .ok (.lstore 5, 2) := by decide +kernel
theorem dX10_root_7 : decode cX10_root 7 = .ok (.lload_n 3, 1) := by decide +kernel
theorem dX10_root_8 : decode cX10_root 8 = .ok (.lload 5, 2) := by decide +kernel
theorem dX10_root_10 : decode cX10_root 10 = .ok (.lcmp, 1) := by decide +kernel
theorem dX10_root_11 : decode cX10_root 11 = .ok (.ifCond .ge 40, 3) := by decide +kernel
theorem dX10_root_14 : decode cX10_root 14 = .ok (.lload_n 3, 1) := by decide +kernel
theorem dX10_root_15 : decode cX10_root 15 = .ok (.lload 5, 2) := by decide +kernel
theorem dX10_root_17 : decode cX10_root 17 = .ok (.ladd, 1) := by decide +kernel
theorem dX10_root_18 : decode cX10_root 18 = .ok (.lconst 1, 1) := by decide +kernel
theorem dX10_root_19 : decode cX10_root 19 = .ok (.ladd, 1) := by decide +kernel
theorem dX10_root_20 : decode cX10_root 20 = .ok (.ldc2_w 266, 3) := by decide +kernel
theorem dX10_root_23 : decode cX10_root 23 = .ok (.ldiv, 1) := by decide +kernel
theorem dX10_root_24 : decode cX10_root 24 = .ok (.lstore 7, 2) := by decide +kernel
theorem dX10_root_26 : decode cX10_root 26 = .ok (.lload 7, 2) := by decide +kernel
theorem dX10_root_28 : decode cX10_root 28 = .ok (.lload 7, 2) := by decide +kernel
theorem dX10_root_30 : decode cX10_root 30 = .ok (.lmul, 1) := by decide +kernel
theorem dX10_root_31 : decode cX10_root 31 = .ok (.lload_n 1, 1) := by decide +kernel
theorem dX10_root_32 : decode cX10_root 32 = .ok (.lcmp, 1) := by decide +kernel
theorem dX10_root_33 : decode cX10_root 33 = .ok (.ifCond .gt 9, 3) := by decide +kernel
theorem dX10_root_36 : decode cX10_root 36 = .ok (.lload 7, 2) := by decide +kernel
theorem dX10_root_38 : decode cX10_root 38 = .ok (.lstore_n 3, 1) := by decide +kernel
theorem dX10_root_39 : decode cX10_root 39 = .ok (.goto 9, 3) := by decide +kernel
theorem dX10_root_42 : decode cX10_root 42 = .ok (.lload 7, 2) := by decide +kernel
theorem dX10_root_44 : decode cX10_root 44 = .ok (.lconst 1, 1) := by decide +kernel
theorem dX10_root_45 : decode cX10_root 45 = .ok (.lsub, 1) := by decide +kernel
theorem dX10_root_46 : decode cX10_root 46 = .ok (.lstore 5, 2) := by decide +kernel
theorem dX10_root_48 : decode cX10_root 48 = .ok (.goto (-41), 3) := by decide +kernel
theorem dX10_root_51 : decode cX10_root 51 = .ok (.lload_n 3, 1) := by decide +kernel
theorem dX10_root_52 : decode cX10_root 52 = .ok (.l2i, 1) := by decide +kernel
theorem dX10_root_53 : decode cX10_root 53 = .ok (.ireturn, 1) := by decide +kernel
set_option maxHeartbeats 4000000 in
set_option maxRecDepth 100000 in
theorem k_X10_root (l : Launch) (D : va_G) (cy : Nat → ClassId) {L : List Nat} {τ : Nat → Ro} {E : Ec} (hI : Inv TB cy L τ E) {a0 : Nat} (ha0 : a0 ∈ L) (ta0 : τ a0 = (11, 0)) (a1 : Int64) : CtI l yX10_root wsX10_root { frames := 0, cells := 0, slots := 0, locals := 0 } D TB cy L τ E [.ref a0, .long a1] (inW []) (fun r E' => E' = E) := by
  intro sz
  refine sta (cc := cX10_root) (maxL := 9) hI (by decide) rfl (Nat.le_of_ble_eq_true rfl) (fun p e s m args below meth c ls hsz Z S0 hl => ?_)
  have hx := Z.1.1
  have hb := Z.1.2.1
  have hts := Z.1.2.2.2.2
  have F0_ : Fr L τ (inW []) E E := Fr.refl
  have hl : lv_has ls 9 [(0, .ref a0), (1, .long a1)] := hl
  generalize hQ : MQ below _ args s 0 0 _ = QQ
  have J7 : ∀ (n : Nat) (x3_7 : Int64) (x5_7 : Int64) (H_7 : Heap) (k_7 : List Loc) (l_7 : Array Slot), Now D TB cy (va_A (va_pl L E) sz) s L τ E H_7 k_7 → (0 ≤ x3_7.toInt) → (x3_7.toInt ≤ 100000) → (0 ≤ x5_7.toInt) → (x5_7.toInt ≤ 100000) → (x3_7.toInt ≤ x5_7.toInt) → (x5_7.toInt - x3_7.toInt).toNat < n → lv_has l_7 9 [(1, .long a1), (3, .long x3_7), (5, .long x5_7)] → W p l e { frames := 0, cells := 0, slots := 0, locals := 0 } s m args below meth c H_7 k_7 0 0 QQ (F0 m 7 l_7 []) := by
    intro n
    induction n with
    | zero => intro x3_7 x5_7 H_7 k_7 l_7 S_7 z1 z2 z3 z4 z5 hm hl_7; exact absurd hm (Nat.not_lt_zero _)
    | succ n ih =>
      intro x3_7 x5_7 H_7 k_7 l_7 S_7 z1 z2 z3 z4 z5 hm hl_7
      have ih_7 := ih
      have J48 : ∀ (x3_48 : Int64) (x5_48 : Int64) (H_48 : Heap) (k_48 : List Loc) (l_48 : Array Slot), Now D TB cy (va_A (va_pl L E) sz) s L τ E H_48 k_48 → (0 ≤ x3_48.toInt) → (x3_48.toInt ≤ 100000) → (0 ≤ x5_48.toInt) → (x5_48.toInt ≤ 100000) → (x3_48.toInt ≤ x5_48.toInt ∧ x5_48.toInt - x3_48.toInt < x5_7.toInt - x3_7.toInt) → lv_has l_48 9 [(1, .long a1), (3, .long x3_48), (5, .long x5_48)] → W p l e { frames := 0, cells := 0, slots := 0, locals := 0 } s m args below meth c H_48 k_48 0 0 QQ (F0 m 48 l_48 []) := by
        intro x3_48 x5_48 H_48 k_48 l_48 S_48 z6 z7 z8 z9 z10 hl_48
        refine lv_goto (tgt := 7) hx hb dX10_root_48 (by decide) ?_
        exact ih_7 x3_48 x5_48 H_48 k_48 l_48 S_48 (by omega) (by omega) (by omega) (by omega) (by omega) (by omega) (lv_sub hl_48 [0, 1, 2] rfl)
      refine lv_lload_n hx hb dX10_root_7 rfl (lv_at hl_7 1 rfl) ?_
      refine lv_lload hx hb dX10_root_8 (lv_at hl_7 2 rfl) ?_
      refine W.lcmp hx hb dX10_root_10 ?_
      refine lv_topi (fun v11 ev11 => ?_)
      have tv11 := nl_cmp ev11
      refine lv_if_ge (tgt := 51) hx hb dX10_root_11 (by decide) (fun c12 => ?_) (fun c12 => ?_)
      · skip
        have tc12 := nu_le c12
        have uc12 : (0 : Int32).toInt = 0 := rfl
        refine lv_lload_n hx hb dX10_root_51 rfl (lv_at hl_7 1 rfl) ?_
        obtain ⟨v13, ev13⟩ : ∃ y : Int32, x3_7.toInt32 = y := ⟨_, rfl⟩
        refine lv_l2i hx hb dX10_root_52 ev13 ?_
        rw [← hQ]
        exact en_i Z S_7 F0_ rfl dX10_root_53
      · skip
        have tc12 := nu_nle c12
        have uc12 : (0 : Int32).toInt = 0 := rfl
        refine lv_lload_n hx hb dX10_root_14 rfl (lv_at hl_7 1 rfl) ?_
        refine lv_lload hx hb dX10_root_15 (lv_at hl_7 2 rfl) ?_
        refine lv_ladd hx hb dX10_root_17 ?_
        refine lv_topl (fun w14 ew14 => ?_)
        have tw14 := nl_add ew14 (by omega) (by omega)
        refine lv_lconst (v := 1) hx hb dX10_root_18 (by decide +kernel) ?_
        refine lv_topl (fun w15 ew15 => ?_)
        have tw15 : w15.toInt = 1 := by rw [ew15]; decide +kernel
        refine lv_ladd hx hb dX10_root_19 ?_
        refine lv_topl (fun w16 ew16 => ?_)
        have tw16 := nl_add ew16 (by omega) (by omega)
        refine lv_ldc2 (v := (2)) hx hb Z.1.2.2.2.1 (hts _ (List.mem_of_getElem? (i := 2) rfl)) dX10_root_20 ?_
        refine lv_topl (fun w17 ew17 => ?_)
        have tw17 : w17.toInt = 2 := by rw [ew17]; decide +kernel
        refine lv_ldiv hx hb dX10_root_23 (fun q => by have := nl_eq0 q; omega) ?_
        refine lv_topl (fun w18 ew18 => ?_)
        have tw18 := nl_divc (2) ew18 (by omega) (by omega) (by omega)
        refine lv_lstore (lv' := [(7, .long w18), (1, .long a1), (3, .long x3_7), (5, .long x5_7)]) hx hb dX10_root_24 hl_7 (by decide) rfl (fun l19 hl20 => ?_)
        refine lv_lload hx hb dX10_root_26 (lv_at hl20 0 rfl) ?_
        refine lv_lload hx hb dX10_root_28 (lv_at hl20 0 rfl) ?_
        refine lv_lmul hx hb dX10_root_30 ?_
        refine lv_topl (fun w21 ew21 => ?_)
        refine lv_lload_n hx hb dX10_root_31 rfl (lv_at hl20 1 rfl) ?_
        refine W.lcmp hx hb dX10_root_32 ?_
        refine lv_topi (fun v22 ev22 => ?_)
        have tv22 := nl_cmp ev22
        refine lv_if_gt (tgt := 42) hx hb dX10_root_33 (by decide) (fun c23 => ?_) (fun c23 => ?_)
        · skip
          have tc23 := nu_lt c23
          have uc23 : (0 : Int32).toInt = 0 := rfl
          refine lv_lload hx hb dX10_root_42 (lv_at hl20 0 rfl) ?_
          refine lv_lconst (v := 1) hx hb dX10_root_44 (by decide +kernel) ?_
          refine lv_topl (fun w24 ew24 => ?_)
          have tw24 : w24.toInt = 1 := by rw [ew24]; decide +kernel
          refine lv_lsub hx hb dX10_root_45 ?_
          refine lv_topl (fun w25 ew25 => ?_)
          have tw25 := nl_sub ew25 (by omega) (by omega)
          refine lv_lstore (lv' := [(5, .long w25), (7, .long w18), (1, .long a1), (3, .long x3_7)]) hx hb dX10_root_46 hl20 (by decide) rfl (fun l26 hl27 => ?_)
          exact J48 x3_7 w25 H_7 k_7 l26 S_7 (by omega) (by omega) (by omega) (by omega) (by omega) (lv_sub hl27 [2, 3, 0] rfl)
        · skip
          have tc23 := nu_nlt c23
          have uc23 : (0 : Int32).toInt = 0 := rfl
          refine lv_lload hx hb dX10_root_36 (lv_at hl20 0 rfl) ?_
          refine lv_lstore_n (lv' := [(3, .long w18), (7, .long w18), (1, .long a1), (5, .long x5_7)]) hx hb dX10_root_38 rfl hl20 (by decide) rfl (fun l28 hl29 => ?_)
          refine lv_goto (tgt := 48) hx hb dX10_root_39 (by decide) ?_
          exact J48 w18 x5_7 H_7 k_7 l28 S_7 (by omega) (by omega) (by omega) (by omega) (by omega) (lv_sub hl29 [2, 0, 3] rfl)
  refine lv_lconst (v := 0) hx hb dX10_root_0 (by decide +kernel) ?_
  refine lv_topl (fun w30 ew30 => ?_)
  have tw30 : w30.toInt = 0 := by rw [ew30]; decide +kernel
  refine lv_lstore_n (lv' := [(3, .long w30), (0, .ref a0), (1, .long a1)]) hx hb dX10_root_1 rfl hl (by decide) rfl (fun l31 hl32 => ?_)
  refine lv_ldc2 (v := (100000)) hx hb Z.1.2.2.2.1 (hts _ (List.mem_of_getElem? (i := 1) rfl)) dX10_root_2 ?_
  refine lv_topl (fun w33 ew33 => ?_)
  have tw33 : w33.toInt = 100000 := by rw [ew33]; decide +kernel
  refine lv_lstore (lv' := [(5, .long w33), (3, .long w30), (0, .ref a0), (1, .long a1)]) hx hb dX10_root_5 hl32 (by decide) rfl (fun l34 hl35 => ?_)
  exact J7 _ w30 w33 s.heap [] l34 S0 (by omega) (by omega) (by omega) (by omega) (by omega) (Nat.lt_succ_self _) (lv_sub hl35 [3, 1, 0] rfl)

set_option maxRecDepth 20000 in
theorem ggX10_string_X10_in : GoodIn wsX10_string wsX10_in := goodIn_r _ [11] (by decide +kernel) (by decide +kernel)
set_option maxRecDepth 20000 in
theorem gX10_string_X10_in : GoodIn wsX10_string (wsV RX10 123 RX10 yX10_in wsX10_in) := goodIn_app (goodIn_of _ (by decide +kernel)) ggX10_string_X10_in
set_option maxRecDepth 20000 in
theorem ggX10_string_X10_no : GoodIn wsX10_string wsX10_no := goodIn_r _ [15, 16, 17, 52, 53, 54, 55, 56, 57, 58, 59, 60, 61, 62, 63, 64, 65, 66, 67, 68, 69, 70, 71, 72, 73, 74, 75, 76, 77, 78, 79, 80, 81, 82, 83, 84, 85, 86, 87, 88, 89, 90, 91, 92, 93, 94, 95, 96, 97, 98, 99] (by decide +kernel) (by decide +kernel)
set_option maxRecDepth 20000 in
theorem gX10_string_X10_no : GoodIn wsX10_string (wsV RX10 144 RX10 yX10_no wsX10_no) := goodIn_app (goodIn_of _ (by decide +kernel)) ggX10_string_X10_no
set_option maxRecDepth 20000 in
theorem ggX10_string_X10_good : GoodIn wsX10_string wsX10_good := goodIn_r _ [21, 16, 17, 52, 53, 54, 55, 56, 57, 58, 59, 60, 61, 62, 63, 64, 65, 66, 67, 68, 69, 70, 71, 72, 73, 74, 75, 76, 77, 78, 79, 80, 81, 82, 83, 84, 85, 86, 87, 88, 89, 90, 91, 92, 93, 94, 95, 96, 97, 98, 99] (by decide +kernel) (by decide +kernel)
set_option maxRecDepth 20000 in
theorem gX10_string_X10_good : GoodIn wsX10_string (wsV RX10 106 RX10 yX10_good wsX10_good) := goodIn_app (goodIn_of _ (by decide +kernel)) ggX10_string_X10_good
set_option maxRecDepth 20000 in
theorem ggX10_string_X10_asTold : GoodIn wsX10_string wsX10_asTold := goodIn_r _ [25, 26, 2, 27, 28, 29, 10, 30, 3, 5, 31, 32, 33, 34, 35, 36, 37, 38, 39, 40, 41, 42, 43, 44, 4, 45, 52, 53, 54, 55, 56, 57, 58, 59, 60, 61, 62, 63, 64, 65, 66, 67, 68, 69, 70, 71, 72, 73, 74, 75, 76, 77, 78, 79, 80, 81, 82, 83, 84, 85, 86, 87, 88, 89, 90, 91, 92, 93, 94, 95, 96, 97, 98, 99] (by decide +kernel) (by decide +kernel)
set_option maxRecDepth 20000 in
theorem gX10_string_X10_asTold : GoodIn wsX10_string (wsV RX10 134 RX10 yX10_asTold wsX10_asTold) := goodIn_app (goodIn_of _ (by decide +kernel)) ggX10_string_X10_asTold
set_option maxRecDepth 20000 in
theorem ggX10_string_X10_root : GoodIn wsX10_string wsX10_root := goodIn_r _ [49, 50, 51] (by decide +kernel) (by decide +kernel)
set_option maxRecDepth 20000 in
theorem gX10_string_X10_root : GoodIn wsX10_string (wsV RX10 270 RX10 yX10_root wsX10_root) := goodIn_app (goodIn_of _ (by decide +kernel)) ggX10_string_X10_root
theorem dX10_string_0 : decode cX10_string 0 = .ok (.aload_n 0, 1) := by decide +kernel
theorem dX10_string_1 : decode cX10_string 1 = .ok (.iconst 0, 1) := by decide +kernel
theorem dX10_string_2 : decode cX10_string 2 = .ok (.putfield 97, 3) := by decide +kernel
theorem dX10_string_5 : decode cX10_string 5 = .ok (.aload_n 0, 1) := by decide +kernel
theorem dX10_string_6 : decode cX10_string 6 = .ok (.iload_n 1, 1) := by decide +kernel
theorem dX10_string_7 : decode cX10_string 7 = .ok (.iconst 0, 1) := by decide +kernel
theorem dX10_string_8 : decode cX10_string 8 = .ok (.aload_n 0, 1) := by decide +kernel
theorem dX10_string_9 : decode cX10_string 9 = .ok (.getfield 7, 3) := by decide +kernel
theorem dX10_string_12 : decode cX10_string 12 = .ok (.iconst 4, 1) := by decide +kernel
theorem dX10_string_13 : decode cX10_string 13 = .ok (.iaload, 1) := by decide +kernel
theorem dX10_string_14 : decode cX10_string 14 = .ok (.iconst 1, 1) := by decide +kernel
theorem dX10_string_15 : decode cX10_string 15 = .ok (.isub, 1) := by decide +kernel
theorem dX10_string_16 : decode cX10_string 16 = .ok (.invokevirtual 123, 3) := by decide +kernel
theorem dX10_string_19 : decode cX10_string 19 = .ok (.ifCond .ne 9, 3) := by decide +kernel
theorem dX10_string_22 : decode cX10_string 22 = .ok (.aload_n 0, 1) := by decide +kernel
theorem dX10_string_23 : decode cX10_string 23 = .ok (.iconst 4, 1) := by decide +kernel
theorem dX10_string_24 : decode cX10_string 24 = .ok (.invokevirtual 144, 3) := by decide +kernel
theorem dX10_string_27 : decode cX10_string 27 = .ok (.ireturn, 1) := by decide +kernel
theorem dX10_string_28 : decode cX10_string 28 = .ok (.aload_n 0, 1) := by decide +kernel
theorem dX10_string_29 : decode cX10_string 29 = .ok (.invokevirtual 106, 3) := by decide +kernel
theorem dX10_string_32 : decode cX10_string 32 = .ok (.aload_n 0, 1) := by decide +kernel
theorem dX10_string_33 : decode cX10_string 33 = .ok (.invokevirtual 134, 3) := by decide +kernel
theorem dX10_string_36 : decode cX10_string 36 = .ok (.lconst 0, 1) := by decide +kernel
theorem dX10_string_37 : decode cX10_string 37 = .ok (.lstore_n 2, 1) := by decide +kernel
theorem dX10_string_38 : decode cX10_string 38 = .ok (.iconst 0, 1) := by decide +kernel
theorem dX10_string_39 : decode cX10_string 39 = .ok (.istore 4, 2) := by decide +kernel
theorem dX10_string_41 : decode cX10_string 41 = .ok (.iload 4, 2) := by decide +kernel
theorem dX10_string_43 : decode cX10_string 43 = .ok (.aload_n 0, 1) := by decide +kernel
theorem dX10_string_44 : decode cX10_string 44 = .ok (.getfield 112, 3) := by decide +kernel
theorem dX10_string_47 : decode cX10_string 47 = .ok (.if_icmp .ge 35, 3) := by decide +kernel
theorem dX10_string_50 : decode cX10_string 50 = .ok (.lload_n 2, 1) := by decide +kernel
theorem dX10_string_51 : decode cX10_string 51 = .ok (.aload_n 0, 1) := by decide +kernel
theorem dX10_string_52 : decode cX10_string 52 = .ok (.getfield 44, 3) := by decide +kernel
theorem dX10_string_55 : decode cX10_string 55 = .ok (.iload 4, 2) := by decide +kernel
theorem dX10_string_57 : decode cX10_string 57 = .ok (.iaload, 1) := by decide +kernel
theorem dX10_string_58 : decode cX10_string 58 = .ok (.iload_n 1, 1) := by decide +kernel
theorem dX10_string_59 : decode cX10_string 59 = .ok (.if_icmp .ne 14, 3) := by decide +kernel
theorem dX10_string_62 : decode cX10_string 62 = .ok (.aload_n 0, 1) := by decide +kernel
theorem dX10_string_63 : decode cX10_string 63 = .ok (.getfield 26, 3) := by decide +kernel
theorem dX10_string_66 : decode cX10_string 66 = .ok (.iload 4, 2) := by decide +kernel
theorem dX10_string_68 : decode cX10_string 68 = .ok (.iaload, 1) := by decide +kernel
theorem dX10_string_69 : decode cX10_string 69 = .ok (.i2l, 1) := by decide +kernel
theorem dX10_string_70 : decode cX10_string 70 = .ok (.goto 4, 3) := by decide +kernel
theorem dX10_string_73 : decode cX10_string 73 = .ok (.lconst 0, 1) := by decide +kernel
theorem dX10_string_74 : decode cX10_string 74 = .ok (.ladd, 1) := by decide +kernel
theorem dX10_string_75 : decode cX10_string 75 = .ok (.lstore_n 2, 1) := by decide +kernel
theorem dX10_string_76 : decode cX10_string 76 = .ok (.iinc 4 1, 3) := by decide +kernel
theorem dX10_string_79 : decode cX10_string 79 = .ok (.goto (-38), 3) := by decide +kernel
theorem dX10_string_82 : decode cX10_string 82 = .ok (.aload_n 0, 1) := by decide +kernel
theorem dX10_string_83 : decode cX10_string 83 = .ok (.getfield 7, 3) := by decide +kernel
theorem dX10_string_86 : decode cX10_string 86 = .ok (.bipush 8, 2) := by decide +kernel
theorem dX10_string_88 : decode cX10_string 88 = .ok (.iload_n 1, 1) := by decide +kernel
theorem dX10_string_89 : decode cX10_string 89 = .ok (.iadd, 1) := by decide +kernel
theorem dX10_string_90 : decode cX10_string 90 = .ok (.iaload, 1) := by decide +kernel
theorem dX10_string_91 : decode cX10_string 91 = .ok (.i2l, 1) := by decide +kernel
theorem dX10_string_92 : decode cX10_string 92 = .ok (.lstore 4, 2) := by decide +kernel
theorem dX10_string_94 : decode cX10_string 94 = .ok (.aload_n 0, 1) := by decide +kernel
theorem dX10_string_95 : decode cX10_string 95 = .ok (.ldc2_w 268, 3) := by decide +kernel
theorem dX10_string_98 : decode cX10_string 98 = .ok (.lload 4, 2) := by decide +kernel
theorem dX10_string_100 : decode cX10_string 100 = .ok (.lload 4, 2) := by decide +kernel
theorem dX10_string_102 : decode cX10_string 102 = .ok (.lmul, 1) := by decide +kernel
theorem dX10_string_103 : decode cX10_string 103 = .ok (.lload_n 2, 1) := by decide +kernel
theorem dX10_string_104 : decode cX10_string 104 = .ok (.lload_n 2, 1) := by decide +kernel
theorem dX10_string_105 : decode cX10_string 105 = .ok (.lmul, 1) := by decide +kernel
theorem dX10_string_106 : decode cX10_string 106 = .ok (.ladd, 1) := by decide +kernel
theorem dX10_string_107 : decode cX10_string 107 = .ok (.lmul, 1) := by decide +kernel
theorem dX10_string_108 : decode cX10_string 108 = .ok (.invokevirtual 270, 3) := by decide +kernel
theorem dX10_string_111 : decode cX10_string 111 = .ok (.ireturn, 1) := by decide +kernel
set_option maxHeartbeats 4000000 in
set_option maxRecDepth 100000 in
theorem k_X10_string (l : Launch) (D : va_G) (cy : Nat → ClassId) {L : List Nat} {τ : Nat → Ro} {E : Ec} (hI : Inv TB cy L τ E) {a0 : Nat} (ha0 : a0 ∈ L) (ta0 : τ a0 = (11, 0)) (a1 : Int32) : CtI l yX10_string wsX10_string { frames := 3, cells := 0, slots := 0, locals := 74 } D TB cy L τ E [.ref a0, .int a1] (inW [(11, 0), (62, 0), (63, 0), (64, 0), (65, 0), (66, 0), (67, 0), (68, 0), (69, 0), (70, 0), (71, 0)]) (fun r E' => (∀ k : Nat, k ∉ ([3, 4, 6, 8] : List Nat) → fi E' a0 k = fi E a0 k)) := by
  intro sz
  refine sta (cc := cX10_string) (maxL := 6) hI (by decide) rfl (Nat.le_of_ble_eq_true rfl) (fun p e s m args below meth c ls hsz Z S0 hl => ?_)
  have hx := Z.1.1
  have hb := Z.1.2.1
  have hts := Z.1.2.2.2.2
  have F0_ : Fr L τ (inW [(11, 0), (62, 0), (63, 0), (64, 0), (65, 0), (66, 0), (67, 0), (68, 0), (69, 0), (70, 0), (71, 0)]) E E := Fr.refl
  have hl : lv_has ls 6 [(0, .ref a0), (1, .int a1)] := hl
  generalize hQ : MQ below _ args s 0 0 _ = QQ
  have J41 : ∀ (n : Nat) (x2_41 : Int64) (x4_41 : Int32) (E_41 : Ec) (H_41 : Heap) (k_41 : List Loc) (l_41 : Array Slot), Now D TB cy (va_A (va_pl L E) sz) s L τ E_41 H_41 k_41 → Fr L τ (inW [(11, 0), (62, 0), (63, 0), (64, 0), (65, 0), (66, 0), (67, 0), (68, 0), (69, 0), (70, 0), (71, 0)]) E E_41 → (0 ≤ a1.toInt) → (a1.toInt ≤ 2) → (0 ≤ x4_41.toInt) → (x4_41.toInt ≤ 66) → (∀ k : Nat, k ∉ ([3, 4, 6, 8] : List Nat) → fi E_41 a0 k = fi E a0 k) → (66 - x4_41.toInt).toNat < n → lv_has l_41 6 [(0, .ref a0), (1, .int a1), (2, .long x2_41), (4, .int x4_41)] → W p l e { frames := 3, cells := 0, slots := 0, locals := 74 } s m args below meth c H_41 k_41 0 0 QQ (F0 m 41 l_41 []) := by
    intro n
    induction n with
    | zero => intro x2_41 x4_41 E_41 H_41 k_41 l_41 S_41 F_41 z1 z2 z3 z4 z5 hm hl_41; exact absurd hm (Nat.not_lt_zero _)
    | succ n ih =>
      intro x2_41 x4_41 E_41 H_41 k_41 l_41 S_41 F_41 z1 z2 z3 z4 z5 hm hl_41
      have ih_41 := ih
      have J74 : ∀ (y0_74 : Int64) (y1_74 : Int64) (E_74 : Ec) (H_74 : Heap) (k_74 : List Loc) (l_74 : Array Slot), Now D TB cy (va_A (va_pl L E) sz) s L τ E_74 H_74 k_74 → Fr L τ (inW [(11, 0), (62, 0), (63, 0), (64, 0), (65, 0), (66, 0), (67, 0), (68, 0), (69, 0), (70, 0), (71, 0)]) E E_74 → (0 ≤ a1.toInt) → (a1.toInt ≤ 2) → (0 ≤ x4_41.toInt) → (x4_41.toInt ≤ 65) → (∀ k : Nat, k ∉ ([3, 4, 6, 8] : List Nat) → fi E_74 a0 k = fi E a0 k) → lv_has l_74 6 [(0, .ref a0), (1, .int a1), (4, .int x4_41)] → W p l e { frames := 3, cells := 0, slots := 0, locals := 74 } s m args below meth c H_74 k_74 0 0 QQ (F0 m 74 l_74 [.long y1_74, .long y0_74]) := by
        intro y0_74 y1_74 E_74 H_74 k_74 l_74 S_74 F_74 z6 z7 z8 z9 z10 hl_74
        refine lv_ladd hx hb dX10_string_74 ?_
        refine lv_topl (fun w11 ew11 => ?_)
        refine lv_lstore_n (lv' := [(2, .long w11), (0, .ref a0), (1, .int a1), (4, .int x4_41)]) hx hb dX10_string_75 rfl hl_74 (by decide) rfl (fun l12 hl13 => ?_)
        obtain ⟨v14, ev14⟩ : ∃ y : Int32, x4_41 + Int32.ofInt (1) = y := ⟨_, rfl⟩
        have tv14 : v14.toInt = x4_41.toInt + (1) := by rw [← ev14]; exact (fb_addI (by rw [show (Int32.ofInt (1)).toInt = 1 from by decide +kernel]; omega) (by rw [show (Int32.ofInt (1)).toInt = 1 from by decide +kernel]; omega)).trans (by rw [show (Int32.ofInt (1)).toInt = 1 from by decide +kernel])
        refine lv_iinc (v := v14) (lv' := [(4, .int v14), (2, .long w11), (0, .ref a0), (1, .int a1)]) hx hb dX10_string_76 hl13 (k := 3) rfl ev14 (by decide) rfl (fun l15 hl16 => ?_)
        refine lv_goto (tgt := 41) hx hb dX10_string_79 (by decide) ?_
        exact ih_41 w11 v14 E_74 H_74 k_74 l15 S_74 F_74 (by omega) (by omega) (by omega) (by omega) (fun k hk => (z10 k hk)) (by omega) (lv_sub hl16 [2, 3, 1, 0] rfl)
      refine lv_iload hx hb dX10_string_41 (lv_at hl_41 3 rfl) ?_
      refine lv_aload_n hx hb dX10_string_43 rfl (lv_at hl_41 0 rfl) ?_
      refine tr_geti Z.1 Z.2.2.2.1 S_41.1 S_41.2 ha0 ta0 rfl rfl (fun _ h => List.mem_cons_of_mem _ (List.mem_append_right _ h)) 8 (by decide) rfl (hts _ (List.mem_of_getElem? (i := 3) rfl)) dX10_string_44 (fun v17 ev17 lv17 uv17 => ?_)
      refine lv_icmp_ge (tgt := 82) hx hb dX10_string_47 (by decide) (fun c18 => ?_) (fun c18 => ?_)
      · skip
        have tc18 := nu_le c18
        refine lv_aload_n hx hb dX10_string_82 rfl (lv_at hl_41 0 rfl) ?_
        refine tr_getr Z.1 Z.2.2.2.1 S_41.1 S_41.2 ha0 ta0 rfl rfl (fun _ h => List.mem_cons_of_mem _ (List.mem_append_right _ h)) 0 (by decide) rfl (hts _ (List.mem_of_getElem? (i := 2) rfl)) dX10_string_83 (fun q19 eq19 hq19 tq19 => ?_)
        have tq19 : τ q19 = (60, 0) := tq19
        obtain ⟨v20, ev20, tv20⟩ : ∃ v : Int32, (Int8.ofInt (8)).toInt32 = v ∧ v.toInt = 8 := ⟨_, rfl, by decide +kernel⟩
        refine lv_bipush hx hb dX10_string_86 ev20 ?_
        refine lv_iload_n hx hb dX10_string_88 rfl (lv_at hl_41 1 rfl) ?_
        refine lv_iadd hx hb dX10_string_89 ?_
        refine lv_topi (fun v21 ev21 => ?_)
        have tv21 := nu_add ev21 (by omega) (by omega)
        refine tr_ialdx Z.1 Z.2.2.2.1 S_41.1 S_41.2 hq19 tq19 rfl (by omega) (by omega) dX10_string_90 (fun v22 ev22 lv22 uv22 => ?_)
        have bv22 : nowB v21.toNatClampNeg = (-2147483648, 2147483647) := nb_o (by show v21.toInt.toNat < 4 ∨ (8 ≤ v21.toInt.toNat ∧ v21.toInt.toNat ≤ 18) ∨ (20 ≤ v21.toInt.toNat ∧ v21.toInt.toNat ≤ 43); omega)
        rw [bv22] at lv22 uv22
        have lv22 : -2147483648 ≤ v22.toInt := lv22
        have uv22 : v22.toInt ≤ 2147483647 := uv22
        obtain ⟨w23, ew23⟩ : ∃ y : Int64, v22.toInt64 = y := ⟨_, rfl⟩
        refine lv_i2l hx hb dX10_string_91 ew23 ?_
        refine lv_lstore (lv' := [(4, .long w23), (0, .ref a0), (1, .int a1), (2, .long x2_41)]) hx hb dX10_string_92 hl_41 (by decide) rfl (fun l24 hl25 => ?_)
        refine lv_aload_n hx hb dX10_string_94 rfl (lv_at hl25 1 rfl) ?_
        refine lv_ldc2 (v := (100)) hx hb Z.1.2.2.2.1 (hts _ (List.mem_of_getElem? (i := 6) rfl)) dX10_string_95 ?_
        refine lv_topl (fun w26 ew26 => ?_)
        have tw26 : w26.toInt = 100 := by rw [ew26]; decide +kernel
        refine lv_lload hx hb dX10_string_98 (lv_at hl25 0 rfl) ?_
        refine lv_lload hx hb dX10_string_100 (lv_at hl25 0 rfl) ?_
        refine lv_lmul hx hb dX10_string_102 ?_
        refine lv_topl (fun w27 ew27 => ?_)
        refine lv_lload_n hx hb dX10_string_103 rfl (lv_at hl25 3 rfl) ?_
        refine lv_lload_n hx hb dX10_string_104 rfl (lv_at hl25 3 rfl) ?_
        refine lv_lmul hx hb dX10_string_105 ?_
        refine lv_topl (fun w28 ew28 => ?_)
        refine lv_ladd hx hb dX10_string_106 ?_
        refine lv_topl (fun w29 ew29 => ?_)
        refine lv_lmul hx hb dX10_string_107 ?_
        refine lv_topl (fun w30 ew30 => ?_)
        refine tc_vi Z.1 Z.2.2.2.1 Z.2.2.2.2.1 Z.2.2.2.2.2 S_41.1 S_41.2 ha0 ta0 rfl rfl (k_X10_root l D cy S_41.2 ha0 ta0 w30) (cwV 1 hts gX10_string_X10_root rfl rfl rfl (by decide +kernel) ⟨Nat.le_of_ble_eq_true rfl, Nat.le_of_ble_eq_true rfl⟩) rfl hl25.1 rfl (Nat.le_of_ble_eq_true rfl) dX10_string_108 ⟨Nat.zero_le _, Nat.zero_le _⟩ (fun v34 E31 H32 k33 W31 I31 G31 p31 => ?_)
        have q31 := p31
        have q31 := q31.symm
        subst q31
        have S31 : Now D TB cy (va_A (va_pl L E) sz) s L τ E_41 H32 k33 := ⟨W31, I31⟩
        rw [← hQ]
        exact en_i Z S31 F_41 (fun k hk => (z5 k hk)) dX10_string_111
      · skip
        have tc18 := nu_nle c18
        refine lv_lload_n hx hb dX10_string_50 rfl (lv_at hl_41 2 rfl) ?_
        refine lv_aload_n hx hb dX10_string_51 rfl (lv_at hl_41 0 rfl) ?_
        refine tr_getr Z.1 Z.2.2.2.1 S_41.1 S_41.2 ha0 ta0 rfl rfl (fun _ h => List.mem_cons_of_mem _ (List.mem_append_right _ h)) 16 (by decide) rfl (hts _ (List.mem_of_getElem? (i := 4) rfl)) dX10_string_52 (fun q35 eq35 hq35 tq35 => ?_)
        have tq35 : τ q35 = (70, 0) := tq35
        refine lv_iload hx hb dX10_string_55 (lv_at hl_41 3 rfl) ?_
        refine tr_iald Z.1 Z.2.2.2.1 S_41.1 S_41.2 hq35 tq35 rfl (by omega) (by omega) dX10_string_57 (fun v36 ev36 lv36 uv36 => ?_)
        refine lv_iload_n hx hb dX10_string_58 rfl (lv_at hl_41 1 rfl) ?_
        refine lv_icmp_ne (tgt := 73) hx hb dX10_string_59 (by decide) (fun c37 => ?_) (fun c37 => ?_)
        · skip
          have tc37 := nu_ne c37
          refine lv_lconst (v := 0) hx hb dX10_string_73 (by decide +kernel) ?_
          refine lv_topl (fun w38 ew38 => ?_)
          have tw38 : w38.toInt = 0 := by rw [ew38]; decide +kernel
          exact J74 x2_41 w38 E_41 H_41 k_41 l_41 S_41 F_41 (by omega) (by omega) (by omega) (by omega) (fun k hk => (z5 k hk)) (lv_sub hl_41 [0, 1, 3] rfl)
        · skip
          have tc37 := nu_eq c37
          refine lv_aload_n hx hb dX10_string_62 rfl (lv_at hl_41 0 rfl) ?_
          refine tr_getr Z.1 Z.2.2.2.1 S_41.1 S_41.2 ha0 ta0 rfl rfl (fun _ h => List.mem_cons_of_mem _ (List.mem_append_right _ h)) 10 (by decide) rfl (hts _ (List.mem_of_getElem? (i := 5) rfl)) dX10_string_63 (fun q39 eq39 hq39 tq39 => ?_)
          have tq39 : τ q39 = (64, 0) := tq39
          refine lv_iload hx hb dX10_string_66 (lv_at hl_41 3 rfl) ?_
          refine tr_iald Z.1 Z.2.2.2.1 S_41.1 S_41.2 hq39 tq39 rfl (by omega) (by omega) dX10_string_68 (fun v40 ev40 lv40 uv40 => ?_)
          obtain ⟨w41, ew41⟩ : ∃ y : Int64, v40.toInt64 = y := ⟨_, rfl⟩
          refine lv_i2l hx hb dX10_string_69 ew41 ?_
          refine lv_goto (tgt := 74) hx hb dX10_string_70 (by decide) ?_
          exact J74 x2_41 w41 E_41 H_41 k_41 l_41 S_41 F_41 (by omega) (by omega) (by omega) (by omega) (fun k hk => (z5 k hk)) (lv_sub hl_41 [0, 1, 3] rfl)
  refine lv_aload_n hx hb dX10_string_0 rfl (lv_at hl 0 rfl) ?_
  obtain ⟨v42, ev42, tv42⟩ : ∃ v : Int32, Int32.ofInt (0) = v ∧ v.toInt = 0 := ⟨_, rfl, by decide +kernel⟩
  refine lv_iconst hx hb dX10_string_1 ev42 ?_
  refine tr_puti Z.1 Z.2.2.2.1 S0.1 S0.2 ha0 ta0 rfl rfl (fun _ h => List.mem_cons_of_mem _ (List.mem_append_right _ h)) tyX10_ok nmX10 4 (by decide) rfl rfl rfl (hts _ (List.mem_of_getElem? (i := 1) rfl)) dX10_string_2 (by omega) (by omega) (fun E43 H44 k45 W43 I43 P43 => ?_)
  have S43 : Now D TB cy (va_A (va_pl L E) sz) s L τ E43 H44 k45 := ⟨W43, I43⟩
  have F43 : Fr L τ (inW [(11, 0), (62, 0), (63, 0), (64, 0), (65, 0), (66, 0), (67, 0), (68, 0), (69, 0), (70, 0), (71, 0)]) E E43 := Fr.put F0_ P43 ta0 rfl
  refine lv_aload_n hx hb dX10_string_5 rfl (lv_at hl 0 rfl) ?_
  refine lv_iload_n hx hb dX10_string_6 rfl (lv_at hl 1 rfl) ?_
  obtain ⟨v46, ev46, tv46⟩ : ∃ v : Int32, Int32.ofInt (0) = v ∧ v.toInt = 0 := ⟨_, rfl, by decide +kernel⟩
  refine lv_iconst hx hb dX10_string_7 ev46 ?_
  refine lv_aload_n hx hb dX10_string_8 rfl (lv_at hl 0 rfl) ?_
  refine tr_getr Z.1 Z.2.2.2.1 S43.1 S43.2 ha0 ta0 rfl rfl (fun _ h => List.mem_cons_of_mem _ (List.mem_append_right _ h)) 0 (by decide) rfl (hts _ (List.mem_of_getElem? (i := 2) rfl)) dX10_string_9 (fun q47 eq47 hq47 tq47 => ?_)
  have tq47 : τ q47 = (60, 0) := tq47
  obtain ⟨v48, ev48, tv48⟩ : ∃ v : Int32, Int32.ofInt (4) = v ∧ v.toInt = 4 := ⟨_, rfl, by decide +kernel⟩
  refine lv_iconst hx hb dX10_string_12 ev48 ?_
  refine tr_ialdx Z.1 Z.2.2.2.1 S43.1 S43.2 hq47 tq47 rfl (by omega) (by omega) dX10_string_13 (fun v49 ev49 lv49 uv49 => ?_)
  have bv49 : nowB v48.toNatClampNeg = (0, 3) := nb_4 (by show v48.toInt.toNat = 4; omega)
  rw [bv49] at lv49 uv49
  have lv49 : 0 ≤ v49.toInt := lv49
  have uv49 : v49.toInt ≤ 3 := uv49
  have av49 : ai E43 q47 4 = v49 := ai_at ev49 (by omega)
  obtain ⟨v50, ev50, tv50⟩ : ∃ v : Int32, Int32.ofInt (1) = v ∧ v.toInt = 1 := ⟨_, rfl, by decide +kernel⟩
  refine lv_iconst hx hb dX10_string_14 ev50 ?_
  refine lv_isub hx hb dX10_string_15 ?_
  refine lv_topi (fun v51 ev51 => ?_)
  have tv51 := nu_sub ev51 (by omega) (by omega)
  refine tc_vi Z.1 Z.2.2.2.1 Z.2.2.2.2.1 Z.2.2.2.2.2 S43.1 S43.2 ha0 ta0 rfl rfl (k_X10_in l D cy S43.2 ha0 ta0 a1 v46 v51) (cwV 3 hts gX10_string_X10_in rfl rfl rfl (by decide +kernel) ⟨Nat.le_of_ble_eq_true rfl, Nat.le_of_ble_eq_true rfl⟩) rfl hl.1 rfl (Nat.le_of_ble_eq_true rfl) dX10_string_16 ⟨Nat.zero_le _, Nat.zero_le _⟩ (fun v55 E52 H53 k54 W52 I52 G52 p52 => ?_)
  obtain ⟨q52, p52_0, p52_1, p52_2⟩ := p52
  have q52 := q52.symm
  subst q52
  have S52 : Now D TB cy (va_A (va_pl L E) sz) s L τ E43 H53 k54 := ⟨W52, I52⟩
  refine lv_if_ne (tgt := 28) hx hb dX10_string_19 (by decide) (fun c56 => ?_) (fun c56 => ?_)
  · skip
    have tc56 := nu_ne c56
    have uc56 : (0 : Int32).toInt = 0 := rfl
    refine lv_aload_n hx hb dX10_string_28 rfl (lv_at hl 0 rfl) ?_
    refine tc_vv Z.1 Z.2.2.2.1 Z.2.2.2.2.1 Z.2.2.2.2.2 S52.1 S52.2 ha0 ta0 rfl rfl (k_X10_good l D cy S52.2 ha0 ta0) (cwV 0 hts gX10_string_X10_good rfl rfl rfl (by decide +kernel) ⟨Nat.le_of_ble_eq_true rfl, Nat.le_of_ble_eq_true rfl⟩) rfl hl.1 rfl (Nat.le_of_ble_eq_true rfl) dX10_string_29 ⟨Nat.zero_le _, Nat.zero_le _⟩ (fun E57 H58 k59 W57 I57 G57 p57 => ?_)
    have p57_0 := p57
    have S57 : Now D TB cy (va_A (va_pl L E) sz) s L τ E57 H58 k59 := ⟨W57, I57⟩
    have F57 : Fr L τ (inW [(11, 0), (62, 0), (63, 0), (64, 0), (65, 0), (66, 0), (67, 0), (68, 0), (69, 0), (70, 0), (71, 0)]) E E57 := F43.trans (G57.mono (inW_mono (by decide)))
    refine lv_aload_n hx hb dX10_string_32 rfl (lv_at hl 0 rfl) ?_
    refine tc_vv Z.1 Z.2.2.2.1 Z.2.2.2.2.1 Z.2.2.2.2.2 S57.1 S57.2 ha0 ta0 rfl rfl (k_X10_asTold l D cy S57.2 ha0 ta0) (cwV 0 hts gX10_string_X10_asTold rfl rfl rfl (by decide +kernel) ⟨Nat.le_of_ble_eq_true rfl, Nat.le_of_ble_eq_true rfl⟩) rfl hl.1 rfl (Nat.le_of_ble_eq_true rfl) dX10_string_33 ⟨Nat.zero_le _, Nat.zero_le _⟩ (fun E61 H62 k63 W61 I61 G61 p61 => ?_)
    have p61_0 := p61
    have S61 : Now D TB cy (va_A (va_pl L E) sz) s L τ E61 H62 k63 := ⟨W61, I61⟩
    have F61 : Fr L τ (inW [(11, 0), (62, 0), (63, 0), (64, 0), (65, 0), (66, 0), (67, 0), (68, 0), (69, 0), (70, 0), (71, 0)]) E E61 := F57.trans (G61.mono (inW_mono (by decide)))
    refine lv_lconst (v := 0) hx hb dX10_string_36 (by decide +kernel) ?_
    refine lv_topl (fun w65 ew65 => ?_)
    have tw65 : w65.toInt = 0 := by rw [ew65]; decide +kernel
    refine lv_lstore_n (lv' := [(2, .long w65), (0, .ref a0), (1, .int a1)]) hx hb dX10_string_37 rfl hl (by decide) rfl (fun l66 hl67 => ?_)
    obtain ⟨v68, ev68, tv68⟩ : ∃ v : Int32, Int32.ofInt (0) = v ∧ v.toInt = 0 := ⟨_, rfl, by decide +kernel⟩
    refine lv_iconst hx hb dX10_string_38 ev68 ?_
    refine lv_istore (lv' := [(4, .int v68), (2, .long w65), (0, .ref a0), (1, .int a1)]) hx hb dX10_string_39 hl67 (by decide) rfl (fun l69 hl70 => ?_)
    exact J41 _ w65 v68 E61 H62 k63 l69 S61 F61 (by omega) (by omega) (by omega) (by omega) (fun k hk => ((p61_0 k (fw_sub (by decide) hk)).trans ((p57_0 k (fw_sub (by decide) hk)).trans ((fi_put P43 (Or.inr (fw_ne (by decide) hk))).trans ((fun k hk => rfl) k hk))))) (Nat.lt_succ_self _) (lv_sub hl70 [2, 3, 1, 0] rfl)
  · skip
    have tc56 := nu_eq c56
    have uc56 : (0 : Int32).toInt = 0 := rfl
    refine lv_aload_n hx hb dX10_string_22 rfl (lv_at hl 0 rfl) ?_
    obtain ⟨v71, ev71, tv71⟩ : ∃ v : Int32, Int32.ofInt (4) = v ∧ v.toInt = 4 := ⟨_, rfl, by decide +kernel⟩
    refine lv_iconst hx hb dX10_string_23 ev71 ?_
    refine tc_vi Z.1 Z.2.2.2.1 Z.2.2.2.2.1 Z.2.2.2.2.2 S52.1 S52.2 ha0 ta0 rfl rfl (k_X10_no l D cy S52.2 ha0 ta0 v71) (cwV 1 hts gX10_string_X10_no rfl rfl rfl (by decide +kernel) ⟨Nat.le_of_ble_eq_true rfl, Nat.le_of_ble_eq_true rfl⟩) rfl hl.1 rfl (Nat.le_of_ble_eq_true rfl) dX10_string_24 ⟨Nat.zero_le _, Nat.zero_le _⟩ (fun v75 E72 H73 k74 W72 I72 G72 p72 => ?_)
    obtain ⟨p72_0, p72_1, p72_2⟩ := p72
    have S72 : Now D TB cy (va_A (va_pl L E) sz) s L τ E72 H73 k74 := ⟨W72, I72⟩
    have F72 : Fr L τ (inW [(11, 0), (62, 0), (63, 0), (64, 0), (65, 0), (66, 0), (67, 0), (68, 0), (69, 0), (70, 0), (71, 0)]) E E72 := F43.trans (G72.mono (inW_mono (by decide)))
    rw [← hQ]
    exact en_i Z S72 F72 (fun k hk => ((p72_2 k (fw_sub (by decide) hk)).trans ((fi_put P43 (Or.inr (fw_ne (by decide) hk))).trans ((fun k hk => rfl) k hk)))) dX10_string_27

