set_option maxRecDepth 20000 in
theorem ggX10_read_X10_blanks : GoodIn wsX10_read wsX10_blanks := goodIn_r _ [10, 1, 11, 12, 13, 9, 14, 15, 16, 64, 65, 66, 67, 68, 69, 70, 71, 72, 73, 74, 75, 76, 77, 78, 79, 80, 81, 82, 83, 84, 85, 86, 87, 88, 89, 90, 91, 92, 93, 94, 95, 96, 97, 98, 99, 100, 101, 102, 103, 104, 105, 106, 107, 108, 109, 110, 111] (by decide +kernel) (by decide +kernel)
set_option maxRecDepth 20000 in
theorem gX10_read_X10_blanks : GoodIn wsX10_read (wsV RX10 189 RX10 yX10_blanks wsX10_blanks) := goodIn_app (goodIn_of _ (by decide +kernel)) ggX10_read_X10_blanks
set_option maxRecDepth 20000 in
theorem ggX10_read_X10_wordAt : GoodIn wsX10_read wsX10_wordAt := goodIn_r _ [20, 1, 15, 16, 21, 22, 23, 24, 25, 9, 26, 64, 65, 66, 67, 68, 69, 70, 71, 72, 73, 74, 75, 76, 77, 78, 79, 80, 81, 82, 83, 84, 85, 86, 87, 88, 89, 90, 91, 92, 93, 94, 95, 96, 97, 98, 99, 100, 101, 102, 103, 104, 105, 106, 107, 108, 109, 110, 111] (by decide +kernel) (by decide +kernel)
set_option maxRecDepth 20000 in
theorem gX10_read_X10_wordAt : GoodIn wsX10_read (wsV RX10 178 RX10 yX10_wordAt wsX10_wordAt) := goodIn_app (goodIn_of _ (by decide +kernel)) ggX10_read_X10_wordAt
set_option maxRecDepth 20000 in
theorem ggX10_read_X10_packed : GoodIn wsX10_read wsX10_packed := goodIn_r _ [30, 21, 22] (by decide +kernel) (by decide +kernel)
set_option maxRecDepth 20000 in
theorem gX10_read_X10_packed : GoodIn wsX10_read (wsV RX10 170 RX10 yX10_packed wsX10_packed) := goodIn_app (goodIn_of _ (by decide +kernel)) ggX10_read_X10_packed
set_option maxRecDepth 20000 in
theorem ggX10_read_X10_wrong : GoodIn wsX10_read wsX10_wrong := goodIn_r _ [34, 35, 36, 64, 65, 66, 67, 68, 69, 70, 71, 72, 73, 74, 75, 76, 77, 78, 79, 80, 81, 82, 83, 84, 85, 86, 87, 88, 89, 90, 91, 92, 93, 94, 95, 96, 97, 98, 99, 100, 101, 102, 103, 104, 105, 106, 107, 108, 109, 110, 111] (by decide +kernel) (by decide +kernel)
set_option maxRecDepth 20000 in
theorem gX10_read_X10_wrong : GoodIn wsX10_read (wsV RX10 174 RX10 yX10_wrong wsX10_wrong) := goodIn_app (goodIn_of _ (by decide +kernel)) ggX10_read_X10_wrong
set_option maxRecDepth 20000 in
theorem ggX10_read_X10_passWord : GoodIn wsX10_read wsX10_passWord := goodIn_r _ [40, 1, 11, 12, 13, 9, 14, 15, 16, 23, 24, 25, 26, 64, 65, 66, 67, 68, 69, 70, 71, 72, 73, 74, 75, 76, 77, 78, 79, 80, 81, 82, 83, 84, 85, 86, 87, 88, 89, 90, 91, 92, 93, 94, 95, 96, 97, 98, 99, 100, 101, 102, 103, 104, 105, 106, 107, 108, 109, 110, 111] (by decide +kernel) (by decide +kernel)
set_option maxRecDepth 20000 in
theorem gX10_read_X10_passWord : GoodIn wsX10_read (wsV RX10 186 RX10 yX10_passWord wsX10_passWord) := goodIn_app (goodIn_of _ (by decide +kernel)) ggX10_read_X10_passWord
set_option maxRecDepth 20000 in
theorem ggX10_read_X10_bad : GoodIn wsX10_read wsX10_bad := goodIn_r _ [44, 35, 64, 65, 66, 67, 68, 69, 70, 71, 72, 73, 74, 75, 76, 77, 78, 79, 80, 81, 82, 83, 84, 85, 86, 87, 88, 89, 90, 91, 92, 93, 94, 95, 96, 97, 98, 99, 100, 101, 102, 103, 104, 105, 106, 107, 108, 109, 110, 111] (by decide +kernel) (by decide +kernel)
set_option maxRecDepth 20000 in
theorem gX10_read_X10_bad : GoodIn wsX10_read (wsV RX10 192 RX10 yX10_bad wsX10_bad) := goodIn_app (goodIn_of _ (by decide +kernel)) ggX10_read_X10_bad
set_option maxRecDepth 20000 in
theorem ggX10_read_X10_sum : GoodIn wsX10_read wsX10_sum := goodIn_r _ [48, 1, 49, 50, 51, 41, 42, 43, 9, 44, 35, 6, 7, 8, 10, 11, 12, 13, 14, 15, 16, 17, 18, 19, 20, 21, 22, 23, 24, 25, 26, 52, 53, 54, 55, 27, 28, 29, 30, 31, 32, 33, 34, 36, 56, 57, 58, 59, 60, 61, 62, 63, 2, 37, 38, 39, 40, 64, 65, 66, 67, 68, 69, 70, 71, 72, 73, 74, 75, 76, 77, 78, 79, 80, 81, 82, 83, 84, 85, 86, 87, 88, 89, 90, 91, 92, 93, 94, 95, 96, 97, 98, 99, 100, 101, 102, 103, 104, 105, 106, 107, 108, 109, 110, 111] (by decide +kernel) (by decide +kernel)
set_option maxRecDepth 20000 in
theorem gX10_read_X10_sum : GoodIn wsX10_read (wsV RX10 202 RX10 yX10_sum wsX10_sum) := goodIn_app (goodIn_of _ (by decide +kernel)) ggX10_read_X10_sum
set_option maxRecDepth 20000 in
theorem ggX10_read_X10_look : GoodIn wsX10_read wsX10_look := goodIn_r _ [14, 1, 15, 16, 64, 65, 66, 67, 68, 69, 70, 71, 72, 73, 74, 75, 76, 77, 78, 79, 80, 81, 82, 83, 84, 85, 86, 87, 88, 89, 90, 91, 92, 93, 94, 95, 96, 97, 98, 99, 100, 101, 102, 103, 104, 105, 106, 107, 108, 109, 110, 111] (by decide +kernel) (by decide +kernel)
set_option maxRecDepth 20000 in
theorem gX10_read_X10_look : GoodIn wsX10_read (wsV RX10 157 RX10 yX10_look wsX10_look) := goodIn_app (goodIn_of _ (by decide +kernel)) ggX10_read_X10_look
theorem dX10_read_0 : decode cX10_read 0 = .ok (.aload_n 0, 1) := by decide +kernel
theorem dX10_read_1 : decode cX10_read 1 = .ok (.iconst 0, 1) := by decide +kernel
theorem dX10_read_2 : decode cX10_read 2 = .ok (.putfield 151, 3) := by decide +kernel
theorem dX10_read_5 : decode cX10_read 5 = .ok (.aload_n 0, 1) := by decide +kernel
theorem dX10_read_6 : decode cX10_read 6 = .ok (.getfield 61, 3) := by decide +kernel
theorem dX10_read_9 : decode cX10_read 9 = .ok (.iload_n 1, 1) := by decide +kernel
theorem dX10_read_10 : decode cX10_read 10 = .ok (.iconst 0, 1) := by decide +kernel
theorem dX10_read_11 : decode cX10_read 11 = .ok (.bastore, 1) := by decide +kernel
theorem dX10_read_12 : decode cX10_read 12 = .ok (.aload_n 0, 1) := by decide +kernel
theorem dX10_read_13 : decode cX10_read 13 = .ok (.getfield 64, 3) := by decide +kernel
theorem dX10_read_16 : decode cX10_read 16 = .ok (.iload_n 1, 1) := by decide +kernel
theorem dX10_read_17 : decode cX10_read 17 = .ok (.iconst 0, 1) := by decide +kernel
theorem dX10_read_18 : decode cX10_read 18 = .ok (.iastore, 1) := by decide +kernel
theorem dX10_read_19 : decode cX10_read 19 = .ok (.aload_n 0, 1) := by decide +kernel
theorem dX10_read_20 : decode cX10_read 20 = .ok (.invokevirtual 189, 3) := by decide +kernel
theorem dX10_read_23 : decode cX10_read 23 = .ok (.aload_n 0, 1) := by decide +kernel
theorem dX10_read_24 : decode cX10_read 24 = .ok (.invokevirtual 178, 3) := by decide +kernel
theorem dX10_read_27 : decode cX10_read 27 = .ok (.lstore_n 2, 1) := by decide +kernel
theorem dX10_read_28 : decode cX10_read 28 = .ok (.lload_n 2, 1) := by decide +kernel
theorem dX10_read_29 : decode cX10_read 29 = .ok (.aload_n 0, 1) := by decide +kernel
theorem dX10_read_30 : decode cX10_read 30 = .ok (.bipush 97, 2) := by decide +kernel
theorem dX10_read_32 : decode cX10_read 32 = .ok (.bipush 108, 2) := by decide +kernel
theorem dX10_read_34 : decode cX10_read 34 = .ok (.bipush 108, 2) := by decide +kernel
theorem dX10_read_36 : decode cX10_read 36 = .ok (.iconst 0, 1) := by decide +kernel
theorem dX10_read_37 : decode cX10_read 37 = .ok (.iconst 0, 1) := by decide +kernel
theorem dX10_read_38 : decode cX10_read 38 = .ok (.iconst 0, 1) := by decide +kernel
theorem dX10_read_39 : decode cX10_read 39 = .ok (.invokevirtual 170, 3) := by decide +kernel
theorem dX10_read_42 : decode cX10_read 42 = .ok (.lcmp, 1) := by decide +kernel
theorem dX10_read_43 : decode cX10_read 43 = .ok (.ifCond .eq 32, 3) := by decide +kernel
theorem dX10_read_46 : decode cX10_read 46 = .ok (.lload_n 2, 1) := by decide +kernel
theorem dX10_read_47 : decode cX10_read 47 = .ok (.aload_n 0, 1) := by decide +kernel
theorem dX10_read_48 : decode cX10_read 48 = .ok (.bipush 115, 2) := by decide +kernel
theorem dX10_read_50 : decode cX10_read 50 = .ok (.bipush 111, 2) := by decide +kernel
theorem dX10_read_52 : decode cX10_read 52 = .ok (.bipush 109, 2) := by decide +kernel
theorem dX10_read_54 : decode cX10_read 54 = .ok (.bipush 101, 2) := by decide +kernel
theorem dX10_read_56 : decode cX10_read 56 = .ok (.iconst 0, 1) := by decide +kernel
theorem dX10_read_57 : decode cX10_read 57 = .ok (.iconst 0, 1) := by decide +kernel
theorem dX10_read_58 : decode cX10_read 58 = .ok (.invokevirtual 170, 3) := by decide +kernel
theorem dX10_read_61 : decode cX10_read 61 = .ok (.lcmp, 1) := by decide +kernel
theorem dX10_read_62 : decode cX10_read 62 = .ok (.ifCond .eq 13, 3) := by decide +kernel
theorem dX10_read_65 : decode cX10_read 65 = .ok (.aload_n 0, 1) := by decide +kernel
theorem dX10_read_66 : decode cX10_read 66 = .ok (.iconst 1, 1) := by decide +kernel
theorem dX10_read_67 : decode cX10_read 67 = .ok (.aload_n 0, 1) := by decide +kernel
theorem dX10_read_68 : decode cX10_read 68 = .ok (.getfield 151, 3) := by decide +kernel
theorem dX10_read_71 : decode cX10_read 71 = .ok (.invokevirtual 174, 3) := by decide +kernel
theorem dX10_read_74 : decode cX10_read 74 = .ok (.return_, 1) := by decide +kernel
theorem dX10_read_75 : decode cX10_read 75 = .ok (.aload_n 0, 1) := by decide +kernel
theorem dX10_read_76 : decode cX10_read 76 = .ok (.getfield 57, 3) := by decide +kernel
theorem dX10_read_79 : decode cX10_read 79 = .ok (.iload_n 1, 1) := by decide +kernel
theorem dX10_read_80 : decode cX10_read 80 = .ok (.lload_n 2, 1) := by decide +kernel
theorem dX10_read_81 : decode cX10_read 81 = .ok (.aload_n 0, 1) := by decide +kernel
theorem dX10_read_82 : decode cX10_read 82 = .ok (.bipush 115, 2) := by decide +kernel
theorem dX10_read_84 : decode cX10_read 84 = .ok (.bipush 111, 2) := by decide +kernel
theorem dX10_read_86 : decode cX10_read 86 = .ok (.bipush 109, 2) := by decide +kernel
theorem dX10_read_88 : decode cX10_read 88 = .ok (.bipush 101, 2) := by decide +kernel
theorem dX10_read_90 : decode cX10_read 90 = .ok (.iconst 0, 1) := by decide +kernel
theorem dX10_read_91 : decode cX10_read 91 = .ok (.iconst 0, 1) := by decide +kernel
theorem dX10_read_92 : decode cX10_read 92 = .ok (.invokevirtual 170, 3) := by decide +kernel
theorem dX10_read_95 : decode cX10_read 95 = .ok (.lcmp, 1) := by decide +kernel
theorem dX10_read_96 : decode cX10_read 96 = .ok (.ifCond .ne 7, 3) := by decide +kernel
theorem dX10_read_99 : decode cX10_read 99 = .ok (.iconst 1, 1) := by decide +kernel
theorem dX10_read_100 : decode cX10_read 100 = .ok (.goto 4, 3) := by decide +kernel
theorem dX10_read_103 : decode cX10_read 103 = .ok (.iconst 0, 1) := by decide +kernel
theorem dX10_read_104 : decode cX10_read 104 = .ok (.bastore, 1) := by decide +kernel
theorem dX10_read_105 : decode cX10_read 105 = .ok (.aload_n 0, 1) := by decide +kernel
theorem dX10_read_106 : decode cX10_read 106 = .ok (.invokevirtual 186, 3) := by decide +kernel
theorem dX10_read_109 : decode cX10_read 109 = .ok (.iconst 1, 1) := by decide +kernel
theorem dX10_read_110 : decode cX10_read 110 = .ok (.istore 4, 2) := by decide +kernel
theorem dX10_read_112 : decode cX10_read 112 = .ok (.iload 4, 2) := by decide +kernel
theorem dX10_read_114 : decode cX10_read 114 = .ok (.ifCond .eq 229, 3) := by decide +kernel
theorem dX10_read_117 : decode cX10_read 117 = .ok (.aload_n 0, 1) := by decide +kernel
theorem dX10_read_118 : decode cX10_read 118 = .ok (.invokevirtual 192, 3) := by decide +kernel
theorem dX10_read_121 : decode cX10_read 121 = .ok (.ifCond .ne 222, 3) := by decide +kernel
theorem dX10_read_124 : decode cX10_read 124 = .ok (.aload_n 0, 1) := by decide +kernel
theorem dX10_read_125 : decode cX10_read 125 = .ok (.getfield 64, 3) := by decide +kernel
theorem dX10_read_128 : decode cX10_read 128 = .ok (.iload_n 1, 1) := by decide +kernel
theorem dX10_read_129 : decode cX10_read 129 = .ok (.iaload, 1) := by decide +kernel
theorem dX10_read_130 : decode cX10_read 130 = .ok (.istore 5, 2) := by decide +kernel
theorem dX10_read_132 : decode cX10_read 132 = .ok (.aload_n 0, 1) := by decide +kernel
theorem dX10_read_133 : decode cX10_read 133 = .ok (.iload_n 1, 1) := by decide +kernel
theorem dX10_read_134 : decode cX10_read 134 = .ok (.iconst 2, 1) := by decide +kernel
theorem dX10_read_135 : decode cX10_read 135 = .ok (.iload 5, 2) := by decide +kernel
theorem dX10_read_137 : decode cX10_read 137 = .ok (.imul, 1) := by decide +kernel
theorem dX10_read_138 : decode cX10_read 138 = .ok (.invokevirtual 202, 3) := by decide +kernel
theorem dX10_read_141 : decode cX10_read 141 = .ok (.aload_n 0, 1) := by decide +kernel
theorem dX10_read_142 : decode cX10_read 142 = .ok (.invokevirtual 192, 3) := by decide +kernel
theorem dX10_read_145 : decode cX10_read 145 = .ok (.ifCond .eq 4, 3) := by decide +kernel
theorem dX10_read_148 : decode cX10_read 148 = .ok (.return_, 1) := by decide +kernel
theorem dX10_read_149 : decode cX10_read 149 = .ok (.aload_n 0, 1) := by decide +kernel
theorem dX10_read_150 : decode cX10_read 150 = .ok (.invokevirtual 157, 3) := by decide +kernel
theorem dX10_read_153 : decode cX10_read 153 = .ok (.istore 6, 2) := by decide +kernel
theorem dX10_read_155 : decode cX10_read 155 = .ok (.iload 6, 2) := by decide +kernel
theorem dX10_read_157 : decode cX10_read 157 = .ok (.bipush 60, 2) := by decide +kernel
theorem dX10_read_159 : decode cX10_read 159 = .ok (.if_icmp .eq 20, 3) := by decide +kernel
theorem dX10_read_162 : decode cX10_read 162 = .ok (.iload 6, 2) := by decide +kernel
theorem dX10_read_164 : decode cX10_read 164 = .ok (.bipush 62, 2) := by decide +kernel
theorem dX10_read_166 : decode cX10_read 166 = .ok (.if_icmp .eq 13, 3) := by decide +kernel
theorem dX10_read_169 : decode cX10_read 169 = .ok (.aload_n 0, 1) := by decide +kernel
theorem dX10_read_170 : decode cX10_read 170 = .ok (.iconst 1, 1) := by decide +kernel
theorem dX10_read_171 : decode cX10_read 171 = .ok (.aload_n 0, 1) := by decide +kernel
theorem dX10_read_172 : decode cX10_read 172 = .ok (.getfield 151, 3) := by decide +kernel
theorem dX10_read_175 : decode cX10_read 175 = .ok (.invokevirtual 174, 3) := by decide +kernel
theorem dX10_read_178 : decode cX10_read 178 = .ok (.return_, 1) := by decide +kernel
theorem dX10_read_179 : decode cX10_read 179 = .ok (.aload_n 0, 1) := by decide +kernel
theorem dX10_read_180 : decode cX10_read 180 = .ok (.dup, 1) := by decide +kernel
theorem dX10_read_181 : decode cX10_read 181 = .ok (.getfield 151, 3) := by decide +kernel
theorem dX10_read_184 : decode cX10_read 184 = .ok (.iconst 1, 1) := by decide +kernel
theorem dX10_read_185 : decode cX10_read 185 = .ok (.iadd, 1) := by decide +kernel
theorem dX10_read_186 : decode cX10_read 186 = .ok (.putfield 151, 3) := by decide +kernel
theorem dX10_read_189 : decode cX10_read 189 = .ok (.aload_n 0, 1) := by decide +kernel
theorem dX10_read_190 : decode cX10_read 190 = .ok (.invokevirtual 157, 3) := by decide +kernel
theorem dX10_read_193 : decode cX10_read 193 = .ok (.bipush 61, 2) := by decide +kernel
theorem dX10_read_195 : decode cX10_read 195 = .ok (.if_icmp .eq 13, 3) := by decide +kernel
theorem dX10_read_198 : decode cX10_read 198 = .ok (.aload_n 0, 1) := by decide +kernel
theorem dX10_read_199 : decode cX10_read 199 = .ok (.iconst 1, 1) := by decide +kernel
theorem dX10_read_200 : decode cX10_read 200 = .ok (.aload_n 0, 1) := by decide +kernel
theorem dX10_read_201 : decode cX10_read 201 = .ok (.getfield 151, 3) := by decide +kernel
theorem dX10_read_204 : decode cX10_read 204 = .ok (.invokevirtual 174, 3) := by decide +kernel
theorem dX10_read_207 : decode cX10_read 207 = .ok (.return_, 1) := by decide +kernel
theorem dX10_read_208 : decode cX10_read 208 = .ok (.aload_n 0, 1) := by decide +kernel
theorem dX10_read_209 : decode cX10_read 209 = .ok (.dup, 1) := by decide +kernel
theorem dX10_read_210 : decode cX10_read 210 = .ok (.getfield 151, 3) := by decide +kernel
theorem dX10_read_213 : decode cX10_read 213 = .ok (.iconst 1, 1) := by decide +kernel
theorem dX10_read_214 : decode cX10_read 214 = .ok (.iadd, 1) := by decide +kernel
theorem dX10_read_215 : decode cX10_read 215 = .ok (.putfield 151, 3) := by decide +kernel
theorem dX10_read_218 : decode cX10_read 218 = .ok (.aload_n 0, 1) := by decide +kernel
theorem dX10_read_219 : decode cX10_read 219 = .ok (.getfield 76, 3) := by decide +kernel
theorem dX10_read_222 : decode cX10_read 222 = .ok (.iconst 4, 1) := by decide +kernel
theorem dX10_read_223 : decode cX10_read 223 = .ok (.iload_n 1, 1) := by decide +kernel
theorem dX10_read_224 : decode cX10_read 224 = .ok (.imul, 1) := by decide +kernel
theorem dX10_read_225 : decode cX10_read 225 = .ok (.iload 5, 2) := by decide +kernel
theorem dX10_read_227 : decode cX10_read 227 = .ok (.iadd, 1) := by decide +kernel
theorem dX10_read_228 : decode cX10_read 228 = .ok (.iload 6, 2) := by decide +kernel
theorem dX10_read_230 : decode cX10_read 230 = .ok (.bipush 60, 2) := by decide +kernel
theorem dX10_read_232 : decode cX10_read 232 = .ok (.if_icmp .ne 7, 3) := by decide +kernel
theorem dX10_read_235 : decode cX10_read 235 = .ok (.iconst 1, 1) := by decide +kernel
theorem dX10_read_236 : decode cX10_read 236 = .ok (.goto 4, 3) := by decide +kernel
theorem dX10_read_239 : decode cX10_read 239 = .ok (.iconst (-1), 1) := by decide +kernel
theorem dX10_read_240 : decode cX10_read 240 = .ok (.iastore, 1) := by decide +kernel
theorem dX10_read_241 : decode cX10_read 241 = .ok (.aload_n 0, 1) := by decide +kernel
theorem dX10_read_242 : decode cX10_read 242 = .ok (.iload_n 1, 1) := by decide +kernel
theorem dX10_read_243 : decode cX10_read 243 = .ok (.iconst 2, 1) := by decide +kernel
theorem dX10_read_244 : decode cX10_read 244 = .ok (.iload 5, 2) := by decide +kernel
theorem dX10_read_246 : decode cX10_read 246 = .ok (.imul, 1) := by decide +kernel
theorem dX10_read_247 : decode cX10_read 247 = .ok (.iconst 1, 1) := by decide +kernel
theorem dX10_read_248 : decode cX10_read 248 = .ok (.iadd, 1) := by decide +kernel
theorem dX10_read_249 : decode cX10_read 249 = .ok (.invokevirtual 202, 3) := by decide +kernel
theorem dX10_read_252 : decode cX10_read 252 = .ok (.aload_n 0, 1) := by decide +kernel
theorem dX10_read_253 : decode cX10_read 253 = .ok (.invokevirtual 192, 3) := by decide +kernel
theorem dX10_read_256 : decode cX10_read 256 = .ok (.ifCond .eq 4, 3) := by decide +kernel
theorem dX10_read_259 : decode cX10_read 259 = .ok (.return_, 1) := by decide +kernel
theorem dX10_read_260 : decode cX10_read 260 = .ok (.aload_n 0, 1) := by decide +kernel
theorem dX10_read_261 : decode cX10_read 261 = .ok (.getfield 64, 3) := by decide +kernel
theorem dX10_read_264 : decode cX10_read 264 = .ok (.iload_n 1, 1) := by decide +kernel
theorem dX10_read_265 : decode cX10_read 265 = .ok (.dup2, 1) := by decide +kernel
theorem dX10_read_266 : decode cX10_read 266 = .ok (.iaload, 1) := by decide +kernel
theorem dX10_read_267 : decode cX10_read 267 = .ok (.iconst 1, 1) := by decide +kernel
theorem dX10_read_268 : decode cX10_read 268 = .ok (.iadd, 1) := by decide +kernel
theorem dX10_read_269 : decode cX10_read 269 = .ok (.iastore, 1) := by decide +kernel
theorem dX10_read_270 : decode cX10_read 270 = .ok (.aload_n 0, 1) := by decide +kernel
theorem dX10_read_271 : decode cX10_read 271 = .ok (.invokevirtual 157, 3) := by decide +kernel
theorem dX10_read_274 : decode cX10_read 274 = .ok (.iconst (-1), 1) := by decide +kernel
theorem dX10_read_275 : decode cX10_read 275 = .ok (.if_icmp .ne 9, 3) := by decide +kernel
theorem dX10_read_278 : decode cX10_read 278 = .ok (.iconst 0, 1) := by decide +kernel
theorem dX10_read_279 : decode cX10_read 279 = .ok (.istore 4, 2) := by decide +kernel
theorem dX10_read_281 : decode cX10_read 281 = .ok (.goto (-169), 3) := by decide +kernel
theorem dX10_read_284 : decode cX10_read 284 = .ok (.aload_n 0, 1) := by decide +kernel
theorem dX10_read_285 : decode cX10_read 285 = .ok (.invokevirtual 178, 3) := by decide +kernel
theorem dX10_read_288 : decode cX10_read 288 = .ok (.aload_n 0, 1) := by decide +kernel
theorem dX10_read_289 : decode cX10_read 289 = .ok (.bipush 97, 2) := by decide +kernel
theorem dX10_read_291 : decode cX10_read 291 = .ok (.bipush 110, 2) := by decide +kernel
theorem dX10_read_293 : decode cX10_read 293 = .ok (.bipush 100, 2) := by decide +kernel
theorem dX10_read_295 : decode cX10_read 295 = .ok (.iconst 0, 1) := by decide +kernel
theorem dX10_read_296 : decode cX10_read 296 = .ok (.iconst 0, 1) := by decide +kernel
theorem dX10_read_297 : decode cX10_read 297 = .ok (.iconst 0, 1) := by decide +kernel
theorem dX10_read_298 : decode cX10_read 298 = .ok (.invokevirtual 170, 3) := by decide +kernel
theorem dX10_read_301 : decode cX10_read 301 = .ok (.lcmp, 1) := by decide +kernel
theorem dX10_read_302 : decode cX10_read 302 = .ok (.ifCond .eq 15, 3) := by decide +kernel
theorem dX10_read_305 : decode cX10_read 305 = .ok (.aload_n 0, 1) := by decide +kernel
theorem dX10_read_306 : decode cX10_read 306 = .ok (.iconst 1, 1) := by decide +kernel
theorem dX10_read_307 : decode cX10_read 307 = .ok (.aload_n 0, 1) := by decide +kernel
theorem dX10_read_308 : decode cX10_read 308 = .ok (.getfield 151, 3) := by decide +kernel
theorem dX10_read_311 : decode cX10_read 311 = .ok (.invokevirtual 174, 3) := by decide +kernel
theorem dX10_read_314 : decode cX10_read 314 = .ok (.goto 22, 3) := by decide +kernel
theorem dX10_read_317 : decode cX10_read 317 = .ok (.aload_n 0, 1) := by decide +kernel
theorem dX10_read_318 : decode cX10_read 318 = .ok (.getfield 64, 3) := by decide +kernel
theorem dX10_read_321 : decode cX10_read 321 = .ok (.iload_n 1, 1) := by decide +kernel
theorem dX10_read_322 : decode cX10_read 322 = .ok (.iaload, 1) := by decide +kernel
theorem dX10_read_323 : decode cX10_read 323 = .ok (.iconst 4, 1) := by decide +kernel
theorem dX10_read_324 : decode cX10_read 324 = .ok (.if_icmp .ne 12, 3) := by decide +kernel
theorem dX10_read_327 : decode cX10_read 327 = .ok (.aload_n 0, 1) := by decide +kernel
theorem dX10_read_328 : decode cX10_read 328 = .ok (.iconst 3, 1) := by decide +kernel
theorem dX10_read_329 : decode cX10_read 329 = .ok (.aload_n 0, 1) := by decide +kernel
theorem dX10_read_330 : decode cX10_read 330 = .ok (.getfield 151, 3) := by decide +kernel
theorem dX10_read_333 : decode cX10_read 333 = .ok (.invokevirtual 174, 3) := by decide +kernel
theorem dX10_read_336 : decode cX10_read 336 = .ok (.aload_n 0, 1) := by decide +kernel
theorem dX10_read_337 : decode cX10_read 337 = .ok (.invokevirtual 186, 3) := by decide +kernel
theorem dX10_read_340 : decode cX10_read 340 = .ok (.goto (-228), 3) := by decide +kernel
theorem dX10_read_343 : decode cX10_read 343 = .ok (.return_, 1) := by decide +kernel
set_option maxHeartbeats 4000000 in
set_option maxRecDepth 100000 in
theorem k_X10_read (l : Launch) (D : va_G) (cy : Nat → ClassId) {L : List Nat} {τ : Nat → Ro} {E : Ec} (hI : Inv TB cy L τ E) {a0 : Nat} (ha0 : a0 ∈ L) (ta0 : τ a0 = (11, 0)) (a1 : Int32) (la1 : 0 ≤ a1.toInt) (ua1 : a1.toInt ≤ 49) (hS : SlotOK L τ E) : CtV l yX10_read wsX10_read { frames := 4, cells := 0, slots := 0, locals := 101 } D TB cy L τ E [.ref a0, .int a1] (inW [(11, 0), (74, 0), (75, 0), (76, 0), (77, 0), (78, 0), (79, 0), (80, 0)]) (fun E' => (∀ k : Nat, k ∉ ([5, 6, 22] : List Nat) → fi E' a0 k = fi E a0 k) ∧ SlotOK L τ E') := by
  intro sz
  refine sta (cc := cX10_read) (maxL := 7) hI (by decide) rfl (Nat.le_of_ble_eq_true rfl) (fun p e s m args below meth c ls hsz Z S0 hl => ?_)
  have hx := Z.1.1
  have hb := Z.1.2.1
  have hts := Z.1.2.2.2.2
  have F0_ : Fr L τ (inW [(11, 0), (74, 0), (75, 0), (76, 0), (77, 0), (78, 0), (79, 0), (80, 0)]) E E := Fr.refl
  have hl : lv_has ls 7 [(0, .ref a0), (1, .int a1)] := hl
  generalize hQ : MQ below _ args s 0 0 _ = QQ
  obtain ⟨ql, hql, tql⟩ := ref_of (k := 24) hI ha0 ta0 rfl rfl
  have tql : τ ql = (75, 0) := tql
  obtain ⟨qr, hqr, tqr⟩ := ref_of (k := 25) hI ha0 ta0 rfl rfl
  have tqr : τ qr = (76, 0) := tqr
  obtain ⟨qm, hqm, tqm⟩ := ref_of (k := 26) hI ha0 ta0 rfl rfl
  have tqm : τ qm = (77, 0) := tqm
  obtain ⟨qd, hqd, tqd⟩ := ref_of (k := 28) hI ha0 ta0 rfl rfl
  have tqd : τ qd = (79, 0) := tqd
  have J112 : ∀ (n : Nat) (x4_112 : Int32) (E_112 : Ec) (H_112 : Heap) (k_112 : List Loc) (l_112 : Array Slot), Now D TB cy (va_A (va_pl L E) sz) s L τ E_112 H_112 k_112 → Fr L τ (inW [(11, 0), (74, 0), (75, 0), (76, 0), (77, 0), (78, 0), (79, 0), (80, 0)]) E E_112 → (0 ≤ a1.toInt) → (a1.toInt ≤ 49) → (0 ≤ x4_112.toInt) → (x4_112.toInt ≤ 1) → (SlotW E_112 ql qr qm qd) → (((fi E_112 a0 5).toInt ≤ 0 ∧ x4_112.toInt = 1) → (ai E_112 qr a1.toInt.toNat).toInt ≤ 3) → (∀ k : Nat, k ∉ ([5, 6, 22] : List Nat) → fi E_112 a0 k = fi E a0 k) → (-2147483648 ≤ (fi E_112 a0 5).toInt ∧ (fi E_112 a0 5).toInt ≤ 2147483647) → (5 - (ai E_112 qr a1.toInt.toNat).toInt).toNat < n → lv_has l_112 7 [(0, .ref a0), (1, .int a1), (4, .int x4_112)] → W p l e { frames := 4, cells := 0, slots := 0, locals := 101 } s m args below meth c H_112 k_112 0 0 QQ (F0 m 112 l_112 []) := by
    intro n
    induction n with
    | zero => intro x4_112 E_112 H_112 k_112 l_112 S_112 F_112 z1 z2 z3 z4 z5 z6 z7 z8 hm hl_112; exact absurd hm (Nat.not_lt_zero _)
    | succ n ih =>
      intro x4_112 E_112 H_112 k_112 l_112 S_112 F_112 z1 z2 z3 z4 z5 z6 z7 z8 hm hl_112
      have ih_112 := ih
      have J336 : ∀ (x4_336 : Int32) (E_336 : Ec) (H_336 : Heap) (k_336 : List Loc) (l_336 : Array Slot), Now D TB cy (va_A (va_pl L E) sz) s L τ E_336 H_336 k_336 → Fr L τ (inW [(11, 0), (74, 0), (75, 0), (76, 0), (77, 0), (78, 0), (79, 0), (80, 0)]) E E_336 → (0 ≤ a1.toInt) → (a1.toInt ≤ 49) → (1 ≤ x4_336.toInt) → (x4_336.toInt ≤ 1) → (SlotW E_336 ql qr qm qd) → ((fi E_336 a0 5).toInt ≤ 0 → (ai E_336 qr a1.toInt.toNat).toInt ≤ 3) → ((ai E_336 qr a1.toInt.toNat).toInt = (ai E_112 qr a1.toInt.toNat).toInt + 1 ∧ (ai E_336 qr a1.toInt.toNat).toInt ≤ 4) → (∀ k : Nat, k ∉ ([5, 6, 22] : List Nat) → fi E_336 a0 k = fi E a0 k) → (-2147483648 ≤ (fi E_336 a0 5).toInt ∧ (fi E_336 a0 5).toInt ≤ 2147483647) → lv_has l_336 7 [(0, .ref a0), (1, .int a1), (4, .int x4_336)] → W p l e { frames := 4, cells := 0, slots := 0, locals := 101 } s m args below meth c H_336 k_336 0 0 QQ (F0 m 336 l_336 []) := by
        intro x4_336 E_336 H_336 k_336 l_336 S_336 F_336 z9 z10 z11 z12 z13 z14 z15 z16 z17 hl_336
        refine lv_aload_n hx hb dX10_read_336 rfl (lv_at hl_336 0 rfl) ?_
        refine tc_vv Z.1 Z.2.2.2.1 Z.2.2.2.2.1 Z.2.2.2.2.2 S_336.1 S_336.2 ha0 ta0 rfl rfl (k_X10_passWord l D cy S_336.2 ha0 ta0) (cwV 0 hts gX10_read_X10_passWord rfl rfl rfl (by decide +kernel) ⟨Nat.le_of_ble_eq_true rfl, Nat.le_of_ble_eq_true rfl⟩) rfl hl_336.1 rfl (Nat.le_of_ble_eq_true rfl) dX10_read_337 ⟨Nat.zero_le _, Nat.zero_le _⟩ (fun E18 H19 k20 W18 I18 G18 p18 => ?_)
        obtain ⟨p18_0, p18_1⟩ := p18
        have S18 : Now D TB cy (va_A (va_pl L E) sz) s L τ E18 H19 k20 := ⟨W18, I18⟩
        have F18 : Fr L τ (inW [(11, 0), (74, 0), (75, 0), (76, 0), (77, 0), (78, 0), (79, 0), (80, 0)]) E E18 := F_336.trans (G18.mono (inW_mono (by decide)))
        have kz18_22 := fi_rng (k := 22) S18.2 ha0 ta0 rfl rfl
        refine lv_goto (tgt := 112) hx hb dX10_read_340 (by decide) ?_
        exact ih_112 x4_336 E18 H19 k20 l_336 S18 F18 (by omega) (by omega) (by omega) (by omega) (SlotW.same z13 (G18 ql hql (by rw [tql]; rfl)) (G18 qr hqr (by rw [tqr]; rfl)) (G18 qm hqm (by rw [tqm]; rfl)) (G18 qd hqd (by rw [tqd]; rfl))) (fun h => (by rw [show ai E18 qr a1.toInt.toNat = ai E_336 qr a1.toInt.toNat from (ai_fr G18 hqr (by rw [tqr]; rfl))]; exact z14 (by have h1 := h.1; rw [(p18_1 5 (by decide))] at h1; exact h1))) (fun k hk => ((p18_1 k (fw_sub (by decide) hk)).trans (z16 k hk))) (by rw [((p18_1 5 (by decide)).trans rfl)]; omega) (by rw [show ai E18 qr a1.toInt.toNat = ai E_336 qr a1.toInt.toNat from (ai_fr G18 hqr (by rw [tqr]; rfl))]; omega) (lv_sub hl_336 [0, 1, 2] rfl)
      have J240 : ∀ (x5_240 : Int32) (y0_240 : Nat) (y1_240 : Int32) (y2_240 : Int32) (E_240 : Ec) (H_240 : Heap) (k_240 : List Loc) (l_240 : Array Slot), Now D TB cy (va_A (va_pl L E) sz) s L τ E_240 H_240 k_240 → Fr L τ (inW [(11, 0), (74, 0), (75, 0), (76, 0), (77, 0), (78, 0), (79, 0), (80, 0)]) E E_240 → (0 ≤ a1.toInt) → (a1.toInt ≤ 49) → (1 ≤ x4_112.toInt) → (x4_112.toInt ≤ 1) → (0 ≤ x5_240.toInt) → (x5_240.toInt ≤ 3) → (y0_240 ∈ L) → (τ y0_240 = (80, 0)) → (0 ≤ y1_240.toInt) → (y1_240.toInt ≤ 199) → (-1 ≤ y2_240.toInt) → (y2_240.toInt ≤ 1) → (SlotW E_240 ql qr qm qd) → ((ai E_240 qr a1.toInt.toNat).toInt = x5_240.toInt ∧ x5_240.toInt ≤ 3 ∧ x5_240.toInt = (ai E_112 qr a1.toInt.toNat).toInt) → (PartOK E_240 ql qm qd a1.toInt.toNat (2 * x5_240.toInt.toNat)) → (∀ k : Nat, k ∉ ([5, 6, 22] : List Nat) → fi E_240 a0 k = fi E a0 k) → lv_has l_240 7 [(0, .ref a0), (1, .int a1), (4, .int x4_112), (5, .int x5_240)] → W p l e { frames := 4, cells := 0, slots := 0, locals := 101 } s m args below meth c H_240 k_240 0 0 QQ (F0 m 240 l_240 [.int y2_240, .int y1_240, .ref y0_240]) := by
        intro x5_240 y0_240 y1_240 y2_240 E_240 H_240 k_240 l_240 S_240 F_240 z22 z23 z24 z25 z26 z27 z28 z29 z30 z31 z32 z33 z34 z35 z36 z37 hl_240
        refine tr_iast Z.1 Z.2.2.2.1 S_240.1 S_240.2 z28 z29 rfl (by omega) (by omega) (by have := fb_rng y2_240; omega) (by have := fb_rng y2_240; omega) dX10_read_240 (fun E38 H39 k40 W38 I38 P38 => ?_)
        have S38 : Now D TB cy (va_A (va_pl L E) sz) s L τ E38 H39 k40 := ⟨W38, I38⟩
        have F38 : Fr L τ (inW [(11, 0), (74, 0), (75, 0), (76, 0), (77, 0), (78, 0), (79, 0), (80, 0)]) E E38 := Fr.set F_240 P38 z29 rfl
        refine lv_aload_n hx hb dX10_read_241 rfl (lv_at hl_240 0 rfl) ?_
        refine lv_iload_n hx hb dX10_read_242 rfl (lv_at hl_240 1 rfl) ?_
        obtain ⟨v41, ev41, tv41⟩ : ∃ v : Int32, Int32.ofInt (2) = v ∧ v.toInt = 2 := ⟨_, rfl, by decide +kernel⟩
        refine lv_iconst hx hb dX10_read_243 ev41 ?_
        refine lv_iload hx hb dX10_read_244 (lv_at hl_240 3 rfl) ?_
        refine lv_imul hx hb dX10_read_246 ?_
        refine lv_topi (fun v42 ev42 => ?_)
        have tv42 := nu_mulc' (2) ev42 (by omega) (by omega) (by omega)
        obtain ⟨v43, ev43, tv43⟩ : ∃ v : Int32, Int32.ofInt (1) = v ∧ v.toInt = 1 := ⟨_, rfl, by decide +kernel⟩
        refine lv_iconst hx hb dX10_read_247 ev43 ?_
        refine lv_iadd hx hb dX10_read_248 ?_
        refine lv_topi (fun v44 ev44 => ?_)
        have tv44 := nu_add ev44 (by omega) (by omega)
        refine tc_vv Z.1 Z.2.2.2.1 Z.2.2.2.2.1 Z.2.2.2.2.2 S38.1 S38.2 ha0 ta0 rfl rfl (k_X10_sum l D cy S38.2 ha0 ta0 a1 (by omega) (by omega) v44 (by omega) (by omega) hql tql hqm tqm hqd tqd) (cwV 2 hts gX10_read_X10_sum rfl rfl rfl (by decide +kernel) ⟨Nat.le_of_ble_eq_true rfl, Nat.le_of_ble_eq_true rfl⟩) rfl hl_240.1 rfl (Nat.le_of_ble_eq_true rfl) dX10_read_249 ⟨Nat.zero_le _, Nat.zero_le _⟩ (fun E45 H46 k47 W45 I45 G45 p45 => ?_)
        obtain ⟨p45_0, p45_1, p45_2, p45_3, p45_4⟩ := p45
        have S45 : Now D TB cy (va_A (va_pl L E) sz) s L τ E45 H46 k47 := ⟨W45, I45⟩
        have F45 : Fr L τ (inW [(11, 0), (74, 0), (75, 0), (76, 0), (77, 0), (78, 0), (79, 0), (80, 0)]) E E45 := F38.trans (G45.mono (inW_mono (by decide)))
        have q45e : ai E38 qr a1.toInt.toNat = ai E_240 qr a1.toInt.toNat := (ai_set P38 (ne_ro tqr z29 (by decide)))
        have q45r : 2 * (ai E38 qr a1.toInt.toNat).toInt ≤ ((v44.toInt.toNat : Nat) : Int) := by rw [q45e]; omega
        have q45a0 := part_sum S38.2 hqm tqm (z36.same (P38.1 ql (ne_ro tql z29 (by decide))) (P38.1 qm (ne_ro tqm z29 (by decide))) (P38.1 qd (ne_ro tqd z29 (by decide)))) p45_0 p45_1 p45_2 (by omega) (by omega) (by omega)
        refine lv_aload_n hx hb dX10_read_252 rfl (lv_at hl_240 0 rfl) ?_
        refine tc_vi Z.1 Z.2.2.2.1 Z.2.2.2.2.1 Z.2.2.2.2.2 S45.1 S45.2 ha0 ta0 rfl rfl (k_X10_bad l D cy S45.2 ha0 ta0) (cwV 0 hts gX10_read_X10_bad rfl rfl rfl (by decide +kernel) ⟨Nat.le_of_ble_eq_true rfl, Nat.le_of_ble_eq_true rfl⟩) rfl hl_240.1 rfl (Nat.le_of_ble_eq_true rfl) dX10_read_253 ⟨Nat.zero_le _, Nat.zero_le _⟩ (fun v52 E49 H50 k51 W49 I49 G49 p49 => ?_)
        obtain ⟨q49, p49_0, p49_1, p49_2⟩ := p49
        have q49 := q49.symm
        subst q49
        have S49 : Now D TB cy (va_A (va_pl L E) sz) s L τ E45 H50 k51 := ⟨W49, I49⟩
        have kz49_5 := fi_rng (k := 5) S49.2 ha0 ta0 rfl rfl
        refine lv_if_eq (tgt := 260) hx hb dX10_read_256 (by decide) (fun c53 => ?_) (fun c53 => ?_)
        · skip
          have tc53 := nu_eq c53
          have uc53 : (0 : Int32).toInt = 0 := rfl
          refine lv_aload_n hx hb dX10_read_260 rfl (lv_at hl_240 0 rfl) ?_
          refine tr_getr Z.1 Z.2.2.2.1 S49.1 S49.2 ha0 ta0 rfl rfl (fun _ h => List.mem_cons_of_mem _ (List.mem_append_right _ h)) 25 (by decide) rfl (hts _ (List.mem_of_getElem? (i := 3) rfl)) dX10_read_261 (fun q54 eq54 hq54 tq54 => ?_)
          have tq54 : τ q54 = (76, 0) := tq54
          have uq54 : qr = q54 := S49.2.2.2.2 _ hqr _ hq54 (tqr.trans tq54.symm) (by rw [tqr]; rfl)
          subst uq54
          refine lv_iload_n hx hb dX10_read_264 rfl (lv_at hl_240 1 rfl) ?_
          refine lv_dup2_11 hx hb dX10_read_265 rfl rfl ?_
          refine tr_iald Z.1 Z.2.2.2.1 S49.1 S49.2 hqr tqr rfl (by omega) (by omega) dX10_read_266 (fun v55 ev55 lv55 uv55 => ?_)
          have q45v : v55.toInt = x5_240.toInt := by rw [← show ai E45 qr a1.toInt.toNat = v55 from ev55, show ai E45 qr a1.toInt.toNat = ai E38 qr a1.toInt.toNat from congrFun (ai_cell (G45 qr hqr (by rw [tqr]; rfl))) _, q45e]; omega
          have q45a : PartOK E45 ql qm qd a1.toInt.toNat (2 * v55.toInt.toNat) := by rw [q45v]; exact q45a0
          have q45b : PartOK E45 ql qm qd a1.toInt.toNat (2 * v55.toInt.toNat + 1) := by have q := p45_3 (by omega); rw [show v44.toInt.toNat = 2 * v55.toInt.toNat + 1 from by omega] at q; exact q
          obtain ⟨v56, ev56, tv56⟩ : ∃ v : Int32, Int32.ofInt (1) = v ∧ v.toInt = 1 := ⟨_, rfl, by decide +kernel⟩
          refine lv_iconst hx hb dX10_read_267 ev56 ?_
          refine lv_iadd hx hb dX10_read_268 ?_
          refine lv_topi (fun v57 ev57 => ?_)
          have tv57 := nu_add ev57 (by omega) (by omega)
          refine tr_iast Z.1 Z.2.2.2.1 S49.1 S49.2 hqr tqr rfl (by omega) (by omega) (by omega) (by omega) dX10_read_269 (fun E58 H59 k60 W58 I58 P58 => ?_)
          have S58 : Now D TB cy (va_A (va_pl L E) sz) s L τ E58 H59 k60 := ⟨W58, I58⟩
          have F58 : Fr L τ (inW [(11, 0), (74, 0), (75, 0), (76, 0), (77, 0), (78, 0), (79, 0), (80, 0)]) E E58 := Fr.set F45 P58 tqr rfl
          refine lv_aload_n hx hb dX10_read_270 rfl (lv_at hl_240 0 rfl) ?_
          refine tc_vi Z.1 Z.2.2.2.1 Z.2.2.2.2.1 Z.2.2.2.2.2 S58.1 S58.2 ha0 ta0 rfl rfl (k_X10_look l D cy S58.2 ha0 ta0) (cwV 0 hts gX10_read_X10_look rfl rfl rfl (by decide +kernel) ⟨Nat.le_of_ble_eq_true rfl, Nat.le_of_ble_eq_true rfl⟩) rfl hl_240.1 rfl (Nat.le_of_ble_eq_true rfl) dX10_read_271 ⟨Nat.zero_le _, Nat.zero_le _⟩ (fun v64 E61 H62 k63 W61 I61 G61 p61 => ?_)
          obtain ⟨q61, p61_0, p61_1, p61_2⟩ := p61
          have q61 := q61.symm
          subst q61
          have S61 : Now D TB cy (va_A (va_pl L E) sz) s L τ E58 H62 k63 := ⟨W61, I61⟩
          have kz61_22 := fi_rng (k := 22) S61.2 ha0 ta0 rfl rfl
          obtain ⟨v65, ev65, tv65⟩ : ∃ v : Int32, Int32.ofInt (-1) = v ∧ v.toInt = -1 := ⟨_, rfl, by decide +kernel⟩
          refine lv_iconst hx hb dX10_read_274 ev65 ?_
          refine lv_icmp_ne (tgt := 284) hx hb dX10_read_275 (by decide) (fun c66 => ?_) (fun c66 => ?_)
          · skip
            have tc66 := nu_ne c66
            refine lv_aload_n hx hb dX10_read_284 rfl (lv_at hl_240 0 rfl) ?_
            refine tc_vl Z.1 Z.2.2.2.1 Z.2.2.2.2.1 Z.2.2.2.2.2 S61.1 S61.2 ha0 ta0 rfl rfl (k_X10_wordAt l D cy S61.2 ha0 ta0) (cwV 0 hts gX10_read_X10_wordAt rfl rfl rfl (by decide +kernel) ⟨Nat.le_of_ble_eq_true rfl, Nat.le_of_ble_eq_true rfl⟩) rfl hl_240.1 rfl (Nat.le_of_ble_eq_true rfl) dX10_read_285 ⟨Nat.zero_le _, Nat.zero_le _⟩ (fun v70 E67 H68 k69 W67 I67 G67 p67 => ?_)
            have q67 := p67
            have q67 := q67.symm
            subst q67
            have S67 : Now D TB cy (va_A (va_pl L E) sz) s L τ E58 H68 k69 := ⟨W67, I67⟩
            refine lv_aload_n hx hb dX10_read_288 rfl (lv_at hl_240 0 rfl) ?_
            obtain ⟨v71, ev71, tv71⟩ : ∃ v : Int32, (Int8.ofInt (97)).toInt32 = v ∧ v.toInt = 97 := ⟨_, rfl, by decide +kernel⟩
            refine lv_bipush hx hb dX10_read_289 ev71 ?_
            obtain ⟨v72, ev72, tv72⟩ : ∃ v : Int32, (Int8.ofInt (110)).toInt32 = v ∧ v.toInt = 110 := ⟨_, rfl, by decide +kernel⟩
            refine lv_bipush hx hb dX10_read_291 ev72 ?_
            obtain ⟨v73, ev73, tv73⟩ : ∃ v : Int32, (Int8.ofInt (100)).toInt32 = v ∧ v.toInt = 100 := ⟨_, rfl, by decide +kernel⟩
            refine lv_bipush hx hb dX10_read_293 ev73 ?_
            obtain ⟨v74, ev74, tv74⟩ : ∃ v : Int32, Int32.ofInt (0) = v ∧ v.toInt = 0 := ⟨_, rfl, by decide +kernel⟩
            refine lv_iconst hx hb dX10_read_295 ev74 ?_
            obtain ⟨v75, ev75, tv75⟩ : ∃ v : Int32, Int32.ofInt (0) = v ∧ v.toInt = 0 := ⟨_, rfl, by decide +kernel⟩
            refine lv_iconst hx hb dX10_read_296 ev75 ?_
            obtain ⟨v76, ev76, tv76⟩ : ∃ v : Int32, Int32.ofInt (0) = v ∧ v.toInt = 0 := ⟨_, rfl, by decide +kernel⟩
            refine lv_iconst hx hb dX10_read_297 ev76 ?_
            refine tc_vl Z.1 Z.2.2.2.1 Z.2.2.2.2.1 Z.2.2.2.2.2 S67.1 S67.2 ha0 ta0 rfl rfl (k_X10_packed l D cy S67.2 ha0 ta0 v71 v72 v73 v74 v75 v76) (cwV 6 hts gX10_read_X10_packed rfl rfl rfl (by decide +kernel) ⟨Nat.le_of_ble_eq_true rfl, Nat.le_of_ble_eq_true rfl⟩) rfl hl_240.1 rfl (Nat.le_of_ble_eq_true rfl) dX10_read_298 ⟨Nat.zero_le _, Nat.zero_le _⟩ (fun v80 E77 H78 k79 W77 I77 G77 p77 => ?_)
            have q77 := p77
            have q77 := q77.symm
            subst q77
            have S77 : Now D TB cy (va_A (va_pl L E) sz) s L τ E58 H78 k79 := ⟨W77, I77⟩
            refine W.lcmp hx hb dX10_read_301 ?_
            refine lv_topi (fun v81 ev81 => ?_)
            have tv81 := nl_cmp ev81
            refine lv_if_eq (tgt := 317) hx hb dX10_read_302 (by decide) (fun c82 => ?_) (fun c82 => ?_)
            · skip
              have tc82 := nu_eq c82
              have uc82 : (0 : Int32).toInt = 0 := rfl
              refine lv_aload_n hx hb dX10_read_317 rfl (lv_at hl_240 0 rfl) ?_
              refine tr_getr Z.1 Z.2.2.2.1 S77.1 S77.2 ha0 ta0 rfl rfl (fun _ h => List.mem_cons_of_mem _ (List.mem_append_right _ h)) 25 (by decide) rfl (hts _ (List.mem_of_getElem? (i := 3) rfl)) dX10_read_318 (fun q83 eq83 hq83 tq83 => ?_)
              have tq83 : τ q83 = (76, 0) := tq83
              have uq83 : qr = q83 := S77.2.2.2.2 _ hqr _ hq83 (tqr.trans tq83.symm) (by rw [tqr]; rfl)
              subst uq83
              refine lv_iload_n hx hb dX10_read_321 rfl (lv_at hl_240 1 rfl) ?_
              refine tr_iald Z.1 Z.2.2.2.1 S77.1 S77.2 hqr tqr rfl (by omega) (by omega) dX10_read_322 (fun v84 ev84 lv84 uv84 => ?_)
              obtain ⟨v85, ev85, tv85⟩ : ∃ v : Int32, Int32.ofInt (4) = v ∧ v.toInt = 4 := ⟨_, rfl, by decide +kernel⟩
              refine lv_iconst hx hb dX10_read_323 ev85 ?_
              refine lv_icmp_ne (tgt := 336) hx hb dX10_read_324 (by decide) (fun c86 => ?_) (fun c86 => ?_)
              · skip
                have tc86 := nu_ne c86
                exact J336 x4_112 E58 H78 k79 l_240 S77 F58 (by omega) (by omega) (by omega) (by omega) (slot_inc (sl_sum S38.2 hqr tqr hqm tqm (SlotW.same z34 (P38.1 ql (ne_ro tql z29 (by decide))) (P38.1 qr (ne_ro tqr z29 (by decide))) (P38.1 qm (ne_ro tqm z29 (by decide))) (P38.1 qd (ne_ro tqd z29 (by decide)))) p45_0 (G45 qr hqr (by rw [tqr]; rfl)) p45_1 p45_2 (by omega) (by have := q45r; omega)) (r := v55) ev55 (by omega) (by omega) q45a q45b P58 (ne_ro tql tqr (by decide)) (ne_ro tqm tqr (by decide)) (ne_ro tqd tqr (by decide))) (fun _ => by have q : ai E58 qr a1.toInt.toNat = v84 := ev84; rw [q]; omega) (by rw [show ai E58 qr a1.toInt.toNat = v57 from P58.2.1]; omega) (fun k hk => ((fi_set P58 (ne_ro ta0 tqr (by decide))).trans ((p45_4 k (fw_sub (by decide) hk)).trans ((fi_set P38 (ne_ro ta0 z29 (by decide))).trans (z37 k hk))))) (by rw [((fi_set P58 (ne_ro ta0 tqr (by decide))).trans rfl)]; omega) (lv_sub hl_240 [0, 1, 2] rfl)
              · skip
                have tc86 := nu_eq c86
                refine lv_aload_n hx hb dX10_read_327 rfl (lv_at hl_240 0 rfl) ?_
                obtain ⟨v87, ev87, tv87⟩ : ∃ v : Int32, Int32.ofInt (3) = v ∧ v.toInt = 3 := ⟨_, rfl, by decide +kernel⟩
                refine lv_iconst hx hb dX10_read_328 ev87 ?_
                refine lv_aload_n hx hb dX10_read_329 rfl (lv_at hl_240 0 rfl) ?_
                refine tr_geti Z.1 Z.2.2.2.1 S77.1 S77.2 ha0 ta0 rfl rfl (fun _ h => List.mem_cons_of_mem _ (List.mem_append_right _ h)) 22 (by decide) rfl (hts _ (List.mem_of_getElem? (i := 1) rfl)) dX10_read_330 (fun v88 ev88 lv88 uv88 => ?_)
                have wv88 : v88 = (fi E58 a0 22) := ev88.symm.trans rfl
                have xv88 : v88.toInt = (fi E58 a0 22).toInt := by rw [wv88]
                refine tc_vv Z.1 Z.2.2.2.1 Z.2.2.2.2.1 Z.2.2.2.2.2 S77.1 S77.2 ha0 ta0 rfl rfl (k_X10_wrong l D cy S77.2 ha0 ta0 v87 (by omega) (by omega) v88) (cwV 2 hts gX10_read_X10_wrong rfl rfl rfl (by decide +kernel) ⟨Nat.le_of_ble_eq_true rfl, Nat.le_of_ble_eq_true rfl⟩) rfl hl_240.1 rfl (Nat.le_of_ble_eq_true rfl) dX10_read_333 ⟨Nat.zero_le _, Nat.zero_le _⟩ (fun E89 H90 k91 W89 I89 G89 p89 => ?_)
                obtain ⟨p89_0, p89_1⟩ := p89
                have S89 : Now D TB cy (va_A (va_pl L E) sz) s L τ E89 H90 k91 := ⟨W89, I89⟩
                have F89 : Fr L τ (inW [(11, 0), (74, 0), (75, 0), (76, 0), (77, 0), (78, 0), (79, 0), (80, 0)]) E E89 := F58.trans (G89.mono (inW_mono (by decide)))
                try rw [((fi_set P58 (ne_ro ta0 tqr (by decide))).trans rfl)] at p89_0
                have kz89_5 := fi_rng (k := 5) S89.2 ha0 ta0 rfl rfl
                exact J336 x4_112 E89 H90 k91 l_240 S89 F89 (by omega) (by omega) (by omega) (by omega) (SlotW.same (slot_inc (sl_sum S38.2 hqr tqr hqm tqm (SlotW.same z34 (P38.1 ql (ne_ro tql z29 (by decide))) (P38.1 qr (ne_ro tqr z29 (by decide))) (P38.1 qm (ne_ro tqm z29 (by decide))) (P38.1 qd (ne_ro tqd z29 (by decide)))) p45_0 (G45 qr hqr (by rw [tqr]; rfl)) p45_1 p45_2 (by omega) (by have := q45r; omega)) (r := v55) ev55 (by omega) (by omega) q45a q45b P58 (ne_ro tql tqr (by decide)) (ne_ro tqm tqr (by decide)) (ne_ro tqd tqr (by decide))) (G89 ql hql (by rw [tql]; rfl)) (G89 qr hqr (by rw [tqr]; rfl)) (G89 qm hqm (by rw [tqm]; rfl)) (G89 qd hqd (by rw [tqd]; rfl))) (fun h => absurd h (by omega)) (by rw [show ai E89 qr a1.toInt.toNat = v57 from ((ai_fr G89 hqr (by rw [tqr]; rfl)).trans P58.2.1)]; omega) (fun k hk => ((p89_1 k (fw_sub (by decide) hk)).trans ((fi_set P58 (ne_ro ta0 tqr (by decide))).trans ((p45_4 k (fw_sub (by decide) hk)).trans ((fi_set P38 (ne_ro ta0 z29 (by decide))).trans (z37 k hk)))))) (by omega) (lv_sub hl_240 [0, 1, 2] rfl)
            · skip
              have tc82 := nu_ne c82
              have uc82 : (0 : Int32).toInt = 0 := rfl
              refine lv_aload_n hx hb dX10_read_305 rfl (lv_at hl_240 0 rfl) ?_
              obtain ⟨v93, ev93, tv93⟩ : ∃ v : Int32, Int32.ofInt (1) = v ∧ v.toInt = 1 := ⟨_, rfl, by decide +kernel⟩
              refine lv_iconst hx hb dX10_read_306 ev93 ?_
              refine lv_aload_n hx hb dX10_read_307 rfl (lv_at hl_240 0 rfl) ?_
              refine tr_geti Z.1 Z.2.2.2.1 S77.1 S77.2 ha0 ta0 rfl rfl (fun _ h => List.mem_cons_of_mem _ (List.mem_append_right _ h)) 22 (by decide) rfl (hts _ (List.mem_of_getElem? (i := 1) rfl)) dX10_read_308 (fun v94 ev94 lv94 uv94 => ?_)
              have wv94 : v94 = (fi E58 a0 22) := ev94.symm.trans rfl
              have xv94 : v94.toInt = (fi E58 a0 22).toInt := by rw [wv94]
              refine tc_vv Z.1 Z.2.2.2.1 Z.2.2.2.2.1 Z.2.2.2.2.2 S77.1 S77.2 ha0 ta0 rfl rfl (k_X10_wrong l D cy S77.2 ha0 ta0 v93 (by omega) (by omega) v94) (cwV 2 hts gX10_read_X10_wrong rfl rfl rfl (by decide +kernel) ⟨Nat.le_of_ble_eq_true rfl, Nat.le_of_ble_eq_true rfl⟩) rfl hl_240.1 rfl (Nat.le_of_ble_eq_true rfl) dX10_read_311 ⟨Nat.zero_le _, Nat.zero_le _⟩ (fun E95 H96 k97 W95 I95 G95 p95 => ?_)
              obtain ⟨p95_0, p95_1⟩ := p95
              have S95 : Now D TB cy (va_A (va_pl L E) sz) s L τ E95 H96 k97 := ⟨W95, I95⟩
              have F95 : Fr L τ (inW [(11, 0), (74, 0), (75, 0), (76, 0), (77, 0), (78, 0), (79, 0), (80, 0)]) E E95 := F58.trans (G95.mono (inW_mono (by decide)))
              try rw [((fi_set P58 (ne_ro ta0 tqr (by decide))).trans rfl)] at p95_0
              have kz95_5 := fi_rng (k := 5) S95.2 ha0 ta0 rfl rfl
              refine lv_goto (tgt := 336) hx hb dX10_read_314 (by decide) ?_
              exact J336 x4_112 E95 H96 k97 l_240 S95 F95 (by omega) (by omega) (by omega) (by omega) (SlotW.same (slot_inc (sl_sum S38.2 hqr tqr hqm tqm (SlotW.same z34 (P38.1 ql (ne_ro tql z29 (by decide))) (P38.1 qr (ne_ro tqr z29 (by decide))) (P38.1 qm (ne_ro tqm z29 (by decide))) (P38.1 qd (ne_ro tqd z29 (by decide)))) p45_0 (G45 qr hqr (by rw [tqr]; rfl)) p45_1 p45_2 (by omega) (by have := q45r; omega)) (r := v55) ev55 (by omega) (by omega) q45a q45b P58 (ne_ro tql tqr (by decide)) (ne_ro tqm tqr (by decide)) (ne_ro tqd tqr (by decide))) (G95 ql hql (by rw [tql]; rfl)) (G95 qr hqr (by rw [tqr]; rfl)) (G95 qm hqm (by rw [tqm]; rfl)) (G95 qd hqd (by rw [tqd]; rfl))) (fun h => absurd h (by omega)) (by rw [show ai E95 qr a1.toInt.toNat = v57 from ((ai_fr G95 hqr (by rw [tqr]; rfl)).trans P58.2.1)]; omega) (fun k hk => ((p95_1 k (fw_sub (by decide) hk)).trans ((fi_set P58 (ne_ro ta0 tqr (by decide))).trans ((p45_4 k (fw_sub (by decide) hk)).trans ((fi_set P38 (ne_ro ta0 z29 (by decide))).trans (z37 k hk)))))) (by omega) (lv_sub hl_240 [0, 1, 2] rfl)
          · skip
            have tc66 := nu_eq c66
            obtain ⟨v99, ev99, tv99⟩ : ∃ v : Int32, Int32.ofInt (0) = v ∧ v.toInt = 0 := ⟨_, rfl, by decide +kernel⟩
            refine lv_iconst hx hb dX10_read_278 ev99 ?_
            refine lv_istore (lv' := [(4, .int v99), (0, .ref a0), (1, .int a1), (5, .int x5_240)]) hx hb dX10_read_279 hl_240 (by decide) rfl (fun l100 hl101 => ?_)
            refine lv_goto (tgt := 112) hx hb dX10_read_281 (by decide) ?_
            exact ih_112 v99 E58 H62 k63 l100 S61 F58 (by omega) (by omega) (by omega) (by omega) (slot_inc (sl_sum S38.2 hqr tqr hqm tqm (SlotW.same z34 (P38.1 ql (ne_ro tql z29 (by decide))) (P38.1 qr (ne_ro tqr z29 (by decide))) (P38.1 qm (ne_ro tqm z29 (by decide))) (P38.1 qd (ne_ro tqd z29 (by decide)))) p45_0 (G45 qr hqr (by rw [tqr]; rfl)) p45_1 p45_2 (by omega) (by have := q45r; omega)) (r := v55) ev55 (by omega) (by omega) q45a q45b P58 (ne_ro tql tqr (by decide)) (ne_ro tqm tqr (by decide)) (ne_ro tqd tqr (by decide))) (fun h => by omega) (fun k hk => ((fi_set P58 (ne_ro ta0 tqr (by decide))).trans ((p45_4 k (fw_sub (by decide) hk)).trans ((fi_set P38 (ne_ro ta0 z29 (by decide))).trans (z37 k hk))))) (by rw [((fi_set P58 (ne_ro ta0 tqr (by decide))).trans rfl)]; omega) (by rw [show ai E58 qr a1.toInt.toNat = v57 from P58.2.1]; omega) (lv_sub hl101 [1, 2, 0] rfl)
        · skip
          have tc53 := nu_ne c53
          have uc53 : (0 : Int32).toInt = 0 := rfl
          rw [← hQ]
          exact en_v Z S49 F45 ⟨(fun k hk => ((p45_4 k (fw_sub (by decide) hk)).trans ((fi_set P38 (ne_ro ta0 z29 (by decide))).trans (z37 k hk)))), (SlotOK.fin S49.2 hql tql hqr tqr hqm tqm hqd tqd (sl_sum S38.2 hqr tqr hqm tqm (SlotW.same z34 (P38.1 ql (ne_ro tql z29 (by decide))) (P38.1 qr (ne_ro tqr z29 (by decide))) (P38.1 qm (ne_ro tqm z29 (by decide))) (P38.1 qd (ne_ro tqd z29 (by decide)))) p45_0 (G45 qr hqr (by rw [tqr]; rfl)) p45_1 p45_2 (by omega) (by have := q45r; omega)))⟩ dX10_read_259
      have J179 : ∀ (x5_179 : Int32) (x6_179 : Int32) (E_179 : Ec) (H_179 : Heap) (k_179 : List Loc) (l_179 : Array Slot), Now D TB cy (va_A (va_pl L E) sz) s L τ E_179 H_179 k_179 → Fr L τ (inW [(11, 0), (74, 0), (75, 0), (76, 0), (77, 0), (78, 0), (79, 0), (80, 0)]) E E_179 → (0 ≤ a1.toInt) → (a1.toInt ≤ 49) → (1 ≤ x4_112.toInt) → (x4_112.toInt ≤ 1) → (0 ≤ x5_179.toInt) → (x5_179.toInt ≤ 3) → (60 ≤ x6_179.toInt) → (x6_179.toInt ≤ 62) → (SlotW E_179 ql qr qm qd) → ((ai E_179 qr a1.toInt.toNat).toInt = x5_179.toInt ∧ x5_179.toInt ≤ 3 ∧ x5_179.toInt = (ai E_112 qr a1.toInt.toNat).toInt) → (PartOK E_179 ql qm qd a1.toInt.toNat (2 * x5_179.toInt.toNat)) → (∀ k : Nat, k ∉ ([5, 6, 22] : List Nat) → fi E_179 a0 k = fi E a0 k) → (0 ≤ (fi E_179 a0 22).toInt ∧ (fi E_179 a0 22).toInt ≤ 119) → lv_has l_179 7 [(0, .ref a0), (1, .int a1), (4, .int x4_112), (5, .int x5_179), (6, .int x6_179)] → W p l e { frames := 4, cells := 0, slots := 0, locals := 101 } s m args below meth c H_179 k_179 0 0 QQ (F0 m 179 l_179 []) := by
        intro x5_179 x6_179 E_179 H_179 k_179 l_179 S_179 F_179 z102 z103 z104 z105 z106 z107 z108 z109 z110 z111 z112 z113 z114 hl_179
        refine lv_aload_n hx hb dX10_read_179 rfl (lv_at hl_179 0 rfl) ?_
        refine lv_dup hx hb dX10_read_180 rfl ?_
        refine tr_geti Z.1 Z.2.2.2.1 S_179.1 S_179.2 ha0 ta0 rfl rfl (fun _ h => List.mem_cons_of_mem _ (List.mem_append_right _ h)) 22 (by decide) rfl (hts _ (List.mem_of_getElem? (i := 1) rfl)) dX10_read_181 (fun v115 ev115 lv115 uv115 => ?_)
        have wv115 : v115 = (fi E_179 a0 22) := ev115.symm.trans rfl
        have xv115 : v115.toInt = (fi E_179 a0 22).toInt := by rw [wv115]
        obtain ⟨v116, ev116, tv116⟩ : ∃ v : Int32, Int32.ofInt (1) = v ∧ v.toInt = 1 := ⟨_, rfl, by decide +kernel⟩
        refine lv_iconst hx hb dX10_read_184 ev116 ?_
        refine lv_iadd hx hb dX10_read_185 ?_
        refine lv_topi (fun v117 ev117 => ?_)
        have tv117 := nu_add ev117 (by omega) (by omega)
        refine tr_puti Z.1 Z.2.2.2.1 S_179.1 S_179.2 ha0 ta0 rfl rfl (fun _ h => List.mem_cons_of_mem _ (List.mem_append_right _ h)) tyX10_ok nmX10 22 (by decide) rfl rfl rfl (hts _ (List.mem_of_getElem? (i := 1) rfl)) dX10_read_186 (by omega) (by omega) (fun E118 H119 k120 W118 I118 P118 => ?_)
        have S118 : Now D TB cy (va_A (va_pl L E) sz) s L τ E118 H119 k120 := ⟨W118, I118⟩
        have F118 : Fr L τ (inW [(11, 0), (74, 0), (75, 0), (76, 0), (77, 0), (78, 0), (79, 0), (80, 0)]) E E118 := Fr.put F_179 P118 ta0 rfl
        refine lv_aload_n hx hb dX10_read_189 rfl (lv_at hl_179 0 rfl) ?_
        refine tc_vi Z.1 Z.2.2.2.1 Z.2.2.2.2.1 Z.2.2.2.2.2 S118.1 S118.2 ha0 ta0 rfl rfl (k_X10_look l D cy S118.2 ha0 ta0) (cwV 0 hts gX10_read_X10_look rfl rfl rfl (by decide +kernel) ⟨Nat.le_of_ble_eq_true rfl, Nat.le_of_ble_eq_true rfl⟩) rfl hl_179.1 rfl (Nat.le_of_ble_eq_true rfl) dX10_read_190 ⟨Nat.zero_le _, Nat.zero_le _⟩ (fun v124 E121 H122 k123 W121 I121 G121 p121 => ?_)
        obtain ⟨q121, p121_0, p121_1, p121_2⟩ := p121
        have q121 := q121.symm
        subst q121
        have S121 : Now D TB cy (va_A (va_pl L E) sz) s L τ E118 H122 k123 := ⟨W121, I121⟩
        try rw [(fi_at P118)] at p121_0
        obtain ⟨v125, ev125, tv125⟩ : ∃ v : Int32, (Int8.ofInt (61)).toInt32 = v ∧ v.toInt = 61 := ⟨_, rfl, by decide +kernel⟩
        refine lv_bipush hx hb dX10_read_193 ev125 ?_
        refine lv_icmp_eq (tgt := 208) hx hb dX10_read_195 (by decide) (fun c126 => ?_) (fun c126 => ?_)
        · skip
          have tc126 := nu_eq c126
          refine lv_aload_n hx hb dX10_read_208 rfl (lv_at hl_179 0 rfl) ?_
          refine lv_dup hx hb dX10_read_209 rfl ?_
          refine tr_geti Z.1 Z.2.2.2.1 S121.1 S121.2 ha0 ta0 rfl rfl (fun _ h => List.mem_cons_of_mem _ (List.mem_append_right _ h)) 22 (by decide) rfl (hts _ (List.mem_of_getElem? (i := 1) rfl)) dX10_read_210 (fun v127 ev127 lv127 uv127 => ?_)
          have wv127 : v127 = v117 := ev127.symm.trans (fi_at P118)
          have xv127 : v127.toInt = v117.toInt := by rw [wv127]
          obtain ⟨v128, ev128, tv128⟩ : ∃ v : Int32, Int32.ofInt (1) = v ∧ v.toInt = 1 := ⟨_, rfl, by decide +kernel⟩
          refine lv_iconst hx hb dX10_read_213 ev128 ?_
          refine lv_iadd hx hb dX10_read_214 ?_
          refine lv_topi (fun v129 ev129 => ?_)
          have tv129 := nu_add ev129 (by omega) (by omega)
          refine tr_puti Z.1 Z.2.2.2.1 S121.1 S121.2 ha0 ta0 rfl rfl (fun _ h => List.mem_cons_of_mem _ (List.mem_append_right _ h)) tyX10_ok nmX10 22 (by decide) rfl rfl rfl (hts _ (List.mem_of_getElem? (i := 1) rfl)) dX10_read_215 (by omega) (by omega) (fun E130 H131 k132 W130 I130 P130 => ?_)
          have S130 : Now D TB cy (va_A (va_pl L E) sz) s L τ E130 H131 k132 := ⟨W130, I130⟩
          have F130 : Fr L τ (inW [(11, 0), (74, 0), (75, 0), (76, 0), (77, 0), (78, 0), (79, 0), (80, 0)]) E E130 := Fr.put F118 P130 ta0 rfl
          refine lv_aload_n hx hb dX10_read_218 rfl (lv_at hl_179 0 rfl) ?_
          refine tr_getr Z.1 Z.2.2.2.1 S130.1 S130.2 ha0 ta0 rfl rfl (fun _ h => List.mem_cons_of_mem _ (List.mem_append_right _ h)) 29 (by decide) rfl (hts _ (List.mem_of_getElem? (i := 5) rfl)) dX10_read_219 (fun q133 eq133 hq133 tq133 => ?_)
          have tq133 : τ q133 = (80, 0) := tq133
          obtain ⟨v134, ev134, tv134⟩ : ∃ v : Int32, Int32.ofInt (4) = v ∧ v.toInt = 4 := ⟨_, rfl, by decide +kernel⟩
          refine lv_iconst hx hb dX10_read_222 ev134 ?_
          refine lv_iload_n hx hb dX10_read_223 rfl (lv_at hl_179 1 rfl) ?_
          refine lv_imul hx hb dX10_read_224 ?_
          refine lv_topi (fun v135 ev135 => ?_)
          have tv135 := nu_mulc' (4) ev135 (by omega) (by omega) (by omega)
          refine lv_iload hx hb dX10_read_225 (lv_at hl_179 3 rfl) ?_
          refine lv_iadd hx hb dX10_read_227 ?_
          refine lv_topi (fun v136 ev136 => ?_)
          have tv136 := nu_add ev136 (by omega) (by omega)
          refine lv_iload hx hb dX10_read_228 (lv_at hl_179 4 rfl) ?_
          obtain ⟨v137, ev137, tv137⟩ : ∃ v : Int32, (Int8.ofInt (60)).toInt32 = v ∧ v.toInt = 60 := ⟨_, rfl, by decide +kernel⟩
          refine lv_bipush hx hb dX10_read_230 ev137 ?_
          refine lv_icmp_ne (tgt := 239) hx hb dX10_read_232 (by decide) (fun c138 => ?_) (fun c138 => ?_)
          · skip
            have tc138 := nu_ne c138
            obtain ⟨v139, ev139, tv139⟩ : ∃ v : Int32, Int32.ofInt (-1) = v ∧ v.toInt = -1 := ⟨_, rfl, by decide +kernel⟩
            refine lv_iconst hx hb dX10_read_239 ev139 ?_
            exact J240 x5_179 q133 v136 v139 E130 H131 k132 l_179 S130 F130 (by omega) (by omega) (by omega) (by omega) (by omega) (by omega) hq133 tq133 (by omega) (by omega) (by omega) (by omega) (SlotW.same (SlotW.same z110 (P118.1 ql (ne_ro tql ta0 (by decide))) (P118.1 qr (ne_ro tqr ta0 (by decide))) (P118.1 qm (ne_ro tqm ta0 (by decide))) (P118.1 qd (ne_ro tqd ta0 (by decide)))) (P130.1 ql (ne_ro tql ta0 (by decide))) (P130.1 qr (ne_ro tqr ta0 (by decide))) (P130.1 qm (ne_ro tqm ta0 (by decide))) (P130.1 qd (ne_ro tqd ta0 (by decide)))) (by rw [show ai E130 qr a1.toInt.toNat = ai E_179 qr a1.toInt.toNat from ((ai_put P130 (ne_ro tqr ta0 (by decide))).trans (ai_put P118 (ne_ro tqr ta0 (by decide))))]; omega) (z112.same ((P130.1 ql (ne_ro tql ta0 (by decide))).trans (P118.1 ql (ne_ro tql ta0 (by decide)))) ((P130.1 qm (ne_ro tqm ta0 (by decide))).trans (P118.1 qm (ne_ro tqm ta0 (by decide)))) ((P130.1 qd (ne_ro tqd ta0 (by decide))).trans (P118.1 qd (ne_ro tqd ta0 (by decide))))) (fun k hk => ((fi_put P130 (Or.inr (fw_ne (by decide) hk))).trans ((fi_put P118 (Or.inr (fw_ne (by decide) hk))).trans (z113 k hk)))) (lv_sub hl_179 [0, 1, 2, 3] rfl)
          · skip
            have tc138 := nu_eq c138
            obtain ⟨v140, ev140, tv140⟩ : ∃ v : Int32, Int32.ofInt (1) = v ∧ v.toInt = 1 := ⟨_, rfl, by decide +kernel⟩
            refine lv_iconst hx hb dX10_read_235 ev140 ?_
            refine lv_goto (tgt := 240) hx hb dX10_read_236 (by decide) ?_
            exact J240 x5_179 q133 v136 v140 E130 H131 k132 l_179 S130 F130 (by omega) (by omega) (by omega) (by omega) (by omega) (by omega) hq133 tq133 (by omega) (by omega) (by omega) (by omega) (SlotW.same (SlotW.same z110 (P118.1 ql (ne_ro tql ta0 (by decide))) (P118.1 qr (ne_ro tqr ta0 (by decide))) (P118.1 qm (ne_ro tqm ta0 (by decide))) (P118.1 qd (ne_ro tqd ta0 (by decide)))) (P130.1 ql (ne_ro tql ta0 (by decide))) (P130.1 qr (ne_ro tqr ta0 (by decide))) (P130.1 qm (ne_ro tqm ta0 (by decide))) (P130.1 qd (ne_ro tqd ta0 (by decide)))) (by rw [show ai E130 qr a1.toInt.toNat = ai E_179 qr a1.toInt.toNat from ((ai_put P130 (ne_ro tqr ta0 (by decide))).trans (ai_put P118 (ne_ro tqr ta0 (by decide))))]; omega) (z112.same ((P130.1 ql (ne_ro tql ta0 (by decide))).trans (P118.1 ql (ne_ro tql ta0 (by decide)))) ((P130.1 qm (ne_ro tqm ta0 (by decide))).trans (P118.1 qm (ne_ro tqm ta0 (by decide)))) ((P130.1 qd (ne_ro tqd ta0 (by decide))).trans (P118.1 qd (ne_ro tqd ta0 (by decide))))) (fun k hk => ((fi_put P130 (Or.inr (fw_ne (by decide) hk))).trans ((fi_put P118 (Or.inr (fw_ne (by decide) hk))).trans (z113 k hk)))) (lv_sub hl_179 [0, 1, 2, 3] rfl)
        · skip
          have tc126 := nu_ne c126
          refine lv_aload_n hx hb dX10_read_198 rfl (lv_at hl_179 0 rfl) ?_
          obtain ⟨v141, ev141, tv141⟩ : ∃ v : Int32, Int32.ofInt (1) = v ∧ v.toInt = 1 := ⟨_, rfl, by decide +kernel⟩
          refine lv_iconst hx hb dX10_read_199 ev141 ?_
          refine lv_aload_n hx hb dX10_read_200 rfl (lv_at hl_179 0 rfl) ?_
          refine tr_geti Z.1 Z.2.2.2.1 S121.1 S121.2 ha0 ta0 rfl rfl (fun _ h => List.mem_cons_of_mem _ (List.mem_append_right _ h)) 22 (by decide) rfl (hts _ (List.mem_of_getElem? (i := 1) rfl)) dX10_read_201 (fun v142 ev142 lv142 uv142 => ?_)
          have wv142 : v142 = v117 := ev142.symm.trans (fi_at P118)
          have xv142 : v142.toInt = v117.toInt := by rw [wv142]
          refine tc_vv Z.1 Z.2.2.2.1 Z.2.2.2.2.1 Z.2.2.2.2.2 S121.1 S121.2 ha0 ta0 rfl rfl (k_X10_wrong l D cy S121.2 ha0 ta0 v141 (by omega) (by omega) v142) (cwV 2 hts gX10_read_X10_wrong rfl rfl rfl (by decide +kernel) ⟨Nat.le_of_ble_eq_true rfl, Nat.le_of_ble_eq_true rfl⟩) rfl hl_179.1 rfl (Nat.le_of_ble_eq_true rfl) dX10_read_204 ⟨Nat.zero_le _, Nat.zero_le _⟩ (fun E143 H144 k145 W143 I143 G143 p143 => ?_)
          obtain ⟨p143_0, p143_1⟩ := p143
          have S143 : Now D TB cy (va_A (va_pl L E) sz) s L τ E143 H144 k145 := ⟨W143, I143⟩
          have F143 : Fr L τ (inW [(11, 0), (74, 0), (75, 0), (76, 0), (77, 0), (78, 0), (79, 0), (80, 0)]) E E143 := F118.trans (G143.mono (inW_mono (by decide)))
          have kz143_5 := fi_rng (k := 5) S143.2 ha0 ta0 rfl rfl
          rw [← hQ]
          exact en_v Z S143 F143 ⟨(fun k hk => ((p143_1 k (fw_sub (by decide) hk)).trans ((fi_put P118 (Or.inr (fw_ne (by decide) hk))).trans (z113 k hk)))), (SlotOK.fin S143.2 hql tql hqr tqr hqm tqm hqd tqd (SlotW.same (SlotW.same z110 (P118.1 ql (ne_ro tql ta0 (by decide))) (P118.1 qr (ne_ro tqr ta0 (by decide))) (P118.1 qm (ne_ro tqm ta0 (by decide))) (P118.1 qd (ne_ro tqd ta0 (by decide)))) (G143 ql hql (by rw [tql]; rfl)) (G143 qr hqr (by rw [tqr]; rfl)) (G143 qm hqm (by rw [tqm]; rfl)) (G143 qd hqd (by rw [tqd]; rfl))))⟩ dX10_read_207
      refine lv_iload hx hb dX10_read_112 (lv_at hl_112 2 rfl) ?_
      refine lv_if_eq (tgt := 343) hx hb dX10_read_114 (by decide) (fun c147 => ?_) (fun c147 => ?_)
      · skip
        have tc147 := nu_eq c147
        have uc147 : (0 : Int32).toInt = 0 := rfl
        rw [← hQ]
        exact en_v Z S_112 F_112 ⟨(fun k hk => (z7 k hk)), (SlotOK.fin S_112.2 hql tql hqr tqr hqm tqm hqd tqd z5)⟩ dX10_read_343
      · skip
        have tc147 := nu_ne c147
        have uc147 : (0 : Int32).toInt = 0 := rfl
        refine lv_aload_n hx hb dX10_read_117 rfl (lv_at hl_112 0 rfl) ?_
        refine tc_vi Z.1 Z.2.2.2.1 Z.2.2.2.2.1 Z.2.2.2.2.2 S_112.1 S_112.2 ha0 ta0 rfl rfl (k_X10_bad l D cy S_112.2 ha0 ta0) (cwV 0 hts gX10_read_X10_bad rfl rfl rfl (by decide +kernel) ⟨Nat.le_of_ble_eq_true rfl, Nat.le_of_ble_eq_true rfl⟩) rfl hl_112.1 rfl (Nat.le_of_ble_eq_true rfl) dX10_read_118 ⟨Nat.zero_le _, Nat.zero_le _⟩ (fun v151 E148 H149 k150 W148 I148 G148 p148 => ?_)
        obtain ⟨q148, p148_0, p148_1, p148_2⟩ := p148
        have q148 := q148.symm
        subst q148
        have S148 : Now D TB cy (va_A (va_pl L E) sz) s L τ E_112 H149 k150 := ⟨W148, I148⟩
        refine lv_if_ne (tgt := 343) hx hb dX10_read_121 (by decide) (fun c152 => ?_) (fun c152 => ?_)
        · skip
          have tc152 := nu_ne c152
          have uc152 : (0 : Int32).toInt = 0 := rfl
          rw [← hQ]
          exact en_v Z S148 F_112 ⟨(fun k hk => (z7 k hk)), (SlotOK.fin S148.2 hql tql hqr tqr hqm tqm hqd tqd z5)⟩ dX10_read_343
        · skip
          have tc152 := nu_eq c152
          have uc152 : (0 : Int32).toInt = 0 := rfl
          refine lv_aload_n hx hb dX10_read_124 rfl (lv_at hl_112 0 rfl) ?_
          refine tr_getr Z.1 Z.2.2.2.1 S148.1 S148.2 ha0 ta0 rfl rfl (fun _ h => List.mem_cons_of_mem _ (List.mem_append_right _ h)) 25 (by decide) rfl (hts _ (List.mem_of_getElem? (i := 3) rfl)) dX10_read_125 (fun q153 eq153 hq153 tq153 => ?_)
          have tq153 : τ q153 = (76, 0) := tq153
          have uq153 : qr = q153 := S148.2.2.2.2 _ hqr _ hq153 (tqr.trans tq153.symm) (by rw [tqr]; rfl)
          subst uq153
          refine lv_iload_n hx hb dX10_read_128 rfl (lv_at hl_112 1 rfl) ?_
          refine tr_iald Z.1 Z.2.2.2.1 S148.1 S148.2 hqr tqr rfl (by omega) (by omega) dX10_read_129 (fun v154 ev154 lv154 uv154 => ?_)
          have q129 : v154.toInt = (ai E_112 qr a1.toInt.toNat).toInt := by rw [← show ai E_112 qr a1.toInt.toNat = v154 from ev154]
          refine lv_istore (lv' := [(5, .int v154), (0, .ref a0), (1, .int a1), (4, .int x4_112)]) hx hb dX10_read_130 hl_112 (by decide) rfl (fun l155 hl156 => ?_)
          refine lv_aload_n hx hb dX10_read_132 rfl (lv_at hl156 1 rfl) ?_
          refine lv_iload_n hx hb dX10_read_133 rfl (lv_at hl156 2 rfl) ?_
          obtain ⟨v157, ev157, tv157⟩ : ∃ v : Int32, Int32.ofInt (2) = v ∧ v.toInt = 2 := ⟨_, rfl, by decide +kernel⟩
          refine lv_iconst hx hb dX10_read_134 ev157 ?_
          refine lv_iload hx hb dX10_read_135 (lv_at hl156 0 rfl) ?_
          refine lv_imul hx hb dX10_read_137 ?_
          refine lv_topi (fun v158 ev158 => ?_)
          have tv158 := nu_mulc' (2) ev158 (by omega) (by omega) (by omega)
          refine tc_vv Z.1 Z.2.2.2.1 Z.2.2.2.2.1 Z.2.2.2.2.2 S148.1 S148.2 ha0 ta0 rfl rfl (k_X10_sum l D cy S148.2 ha0 ta0 a1 (by omega) (by omega) v158 (by omega) (by omega) hql tql hqm tqm hqd tqd) (cwV 2 hts gX10_read_X10_sum rfl rfl rfl (by decide +kernel) ⟨Nat.le_of_ble_eq_true rfl, Nat.le_of_ble_eq_true rfl⟩) rfl hl156.1 rfl (Nat.le_of_ble_eq_true rfl) dX10_read_138 ⟨Nat.zero_le _, Nat.zero_le _⟩ (fun E159 H160 k161 W159 I159 G159 p159 => ?_)
          obtain ⟨p159_0, p159_1, p159_2, p159_3, p159_4⟩ := p159
          have S159 : Now D TB cy (va_A (va_pl L E) sz) s L τ E159 H160 k161 := ⟨W159, I159⟩
          have F159 : Fr L τ (inW [(11, 0), (74, 0), (75, 0), (76, 0), (77, 0), (78, 0), (79, 0), (80, 0)]) E E159 := F_112.trans (G159.mono (inW_mono (by decide)))
          have q159r : 2 * (ai E_112 qr a1.toInt.toNat).toInt ≤ ((v158.toInt.toNat : Nat) : Int) := by have q : ai E_112 qr a1.toInt.toNat = v154 := ev154; rw [q]; omega
          refine lv_aload_n hx hb dX10_read_141 rfl (lv_at hl156 1 rfl) ?_
          refine tc_vi Z.1 Z.2.2.2.1 Z.2.2.2.2.1 Z.2.2.2.2.2 S159.1 S159.2 ha0 ta0 rfl rfl (k_X10_bad l D cy S159.2 ha0 ta0) (cwV 0 hts gX10_read_X10_bad rfl rfl rfl (by decide +kernel) ⟨Nat.le_of_ble_eq_true rfl, Nat.le_of_ble_eq_true rfl⟩) rfl hl156.1 rfl (Nat.le_of_ble_eq_true rfl) dX10_read_142 ⟨Nat.zero_le _, Nat.zero_le _⟩ (fun v166 E163 H164 k165 W163 I163 G163 p163 => ?_)
          obtain ⟨q163, p163_0, p163_1, p163_2⟩ := p163
          have q163 := q163.symm
          subst q163
          have S163 : Now D TB cy (va_A (va_pl L E) sz) s L τ E159 H164 k165 := ⟨W163, I163⟩
          have kz163_5 := fi_rng (k := 5) S163.2 ha0 ta0 rfl rfl
          refine lv_if_eq (tgt := 149) hx hb dX10_read_145 (by decide) (fun c167 => ?_) (fun c167 => ?_)
          · skip
            have tc167 := nu_eq c167
            have uc167 : (0 : Int32).toInt = 0 := rfl
            refine lv_aload_n hx hb dX10_read_149 rfl (lv_at hl156 1 rfl) ?_
            have q159p : PartOK E159 ql qm qd a1.toInt.toNat (2 * v154.toInt.toNat) := by have q := p159_3 (by omega); rw [show v158.toInt.toNat = 2 * v154.toInt.toNat from by omega] at q; exact q
            refine tc_vi Z.1 Z.2.2.2.1 Z.2.2.2.2.1 Z.2.2.2.2.2 S163.1 S163.2 ha0 ta0 rfl rfl (k_X10_look l D cy S163.2 ha0 ta0) (cwV 0 hts gX10_read_X10_look rfl rfl rfl (by decide +kernel) ⟨Nat.le_of_ble_eq_true rfl, Nat.le_of_ble_eq_true rfl⟩) rfl hl156.1 rfl (Nat.le_of_ble_eq_true rfl) dX10_read_150 ⟨Nat.zero_le _, Nat.zero_le _⟩ (fun v171 E168 H169 k170 W168 I168 G168 p168 => ?_)
            obtain ⟨q168, p168_0, p168_1, p168_2⟩ := p168
            have q168 := q168.symm
            subst q168
            have S168 : Now D TB cy (va_A (va_pl L E) sz) s L τ E159 H169 k170 := ⟨W168, I168⟩
            have kz168_22 := fi_rng (k := 22) S168.2 ha0 ta0 rfl rfl
            refine lv_istore (lv' := [(6, .int v171), (5, .int v154), (0, .ref a0), (1, .int a1), (4, .int x4_112)]) hx hb dX10_read_153 hl156 (by decide) rfl (fun l172 hl173 => ?_)
            refine lv_iload hx hb dX10_read_155 (lv_at hl173 0 rfl) ?_
            obtain ⟨v174, ev174, tv174⟩ : ∃ v : Int32, (Int8.ofInt (60)).toInt32 = v ∧ v.toInt = 60 := ⟨_, rfl, by decide +kernel⟩
            refine lv_bipush hx hb dX10_read_157 ev174 ?_
            refine lv_icmp_eq (tgt := 179) hx hb dX10_read_159 (by decide) (fun c175 => ?_) (fun c175 => ?_)
            · skip
              have tc175 := nu_eq c175
              exact J179 v154 v171 E159 H169 k170 l172 S168 F159 (by omega) (by omega) (by omega) (by omega) (by omega) (by omega) (by omega) (by omega) (sl_sum S148.2 hqr tqr hqm tqm z5 p159_0 (G159 qr hqr (by rw [tqr]; rfl)) p159_1 p159_2 (by omega) (by have := q159r; omega)) (by have q : ai E_112 qr a1.toInt.toNat = v154 := ev154; rw [show ai E159 qr a1.toInt.toNat = ai E_112 qr a1.toInt.toNat from (ai_fr G159 hqr (by rw [tqr]; rfl)), q]; omega) q159p (fun k hk => ((p159_4 k (fw_sub (by decide) hk)).trans (z7 k hk))) (by omega) (lv_sub hl173 [2, 3, 4, 1, 0] rfl)
            · skip
              have tc175 := nu_ne c175
              refine lv_iload hx hb dX10_read_162 (lv_at hl173 0 rfl) ?_
              obtain ⟨v176, ev176, tv176⟩ : ∃ v : Int32, (Int8.ofInt (62)).toInt32 = v ∧ v.toInt = 62 := ⟨_, rfl, by decide +kernel⟩
              refine lv_bipush hx hb dX10_read_164 ev176 ?_
              refine lv_icmp_eq (tgt := 179) hx hb dX10_read_166 (by decide) (fun c177 => ?_) (fun c177 => ?_)
              · skip
                have tc177 := nu_eq c177
                exact J179 v154 v171 E159 H169 k170 l172 S168 F159 (by omega) (by omega) (by omega) (by omega) (by omega) (by omega) (by omega) (by omega) (sl_sum S148.2 hqr tqr hqm tqm z5 p159_0 (G159 qr hqr (by rw [tqr]; rfl)) p159_1 p159_2 (by omega) (by have := q159r; omega)) (by have q : ai E_112 qr a1.toInt.toNat = v154 := ev154; rw [show ai E159 qr a1.toInt.toNat = ai E_112 qr a1.toInt.toNat from (ai_fr G159 hqr (by rw [tqr]; rfl)), q]; omega) q159p (fun k hk => ((p159_4 k (fw_sub (by decide) hk)).trans (z7 k hk))) (by omega) (lv_sub hl173 [2, 3, 4, 1, 0] rfl)
              · skip
                have tc177 := nu_ne c177
                refine lv_aload_n hx hb dX10_read_169 rfl (lv_at hl173 2 rfl) ?_
                obtain ⟨v178, ev178, tv178⟩ : ∃ v : Int32, Int32.ofInt (1) = v ∧ v.toInt = 1 := ⟨_, rfl, by decide +kernel⟩
                refine lv_iconst hx hb dX10_read_170 ev178 ?_
                refine lv_aload_n hx hb dX10_read_171 rfl (lv_at hl173 2 rfl) ?_
                refine tr_geti Z.1 Z.2.2.2.1 S168.1 S168.2 ha0 ta0 rfl rfl (fun _ h => List.mem_cons_of_mem _ (List.mem_append_right _ h)) 22 (by decide) rfl (hts _ (List.mem_of_getElem? (i := 1) rfl)) dX10_read_172 (fun v179 ev179 lv179 uv179 => ?_)
                have wv179 : v179 = (fi E159 a0 22) := ev179.symm.trans rfl
                have xv179 : v179.toInt = (fi E159 a0 22).toInt := by rw [wv179]
                refine tc_vv Z.1 Z.2.2.2.1 Z.2.2.2.2.1 Z.2.2.2.2.2 S168.1 S168.2 ha0 ta0 rfl rfl (k_X10_wrong l D cy S168.2 ha0 ta0 v178 (by omega) (by omega) v179) (cwV 2 hts gX10_read_X10_wrong rfl rfl rfl (by decide +kernel) ⟨Nat.le_of_ble_eq_true rfl, Nat.le_of_ble_eq_true rfl⟩) rfl hl173.1 rfl (Nat.le_of_ble_eq_true rfl) dX10_read_175 ⟨Nat.zero_le _, Nat.zero_le _⟩ (fun E180 H181 k182 W180 I180 G180 p180 => ?_)
                obtain ⟨p180_0, p180_1⟩ := p180
                have S180 : Now D TB cy (va_A (va_pl L E) sz) s L τ E180 H181 k182 := ⟨W180, I180⟩
                have F180 : Fr L τ (inW [(11, 0), (74, 0), (75, 0), (76, 0), (77, 0), (78, 0), (79, 0), (80, 0)]) E E180 := F159.trans (G180.mono (inW_mono (by decide)))
                have kz180_5 := fi_rng (k := 5) S180.2 ha0 ta0 rfl rfl
                rw [← hQ]
                exact en_v Z S180 F180 ⟨(fun k hk => ((p180_1 k (fw_sub (by decide) hk)).trans ((p159_4 k (fw_sub (by decide) hk)).trans (z7 k hk)))), (SlotOK.fin S180.2 hql tql hqr tqr hqm tqm hqd tqd (SlotW.same (sl_sum S148.2 hqr tqr hqm tqm z5 p159_0 (G159 qr hqr (by rw [tqr]; rfl)) p159_1 p159_2 (by omega) (by have := q159r; omega)) (G180 ql hql (by rw [tql]; rfl)) (G180 qr hqr (by rw [tqr]; rfl)) (G180 qm hqm (by rw [tqm]; rfl)) (G180 qd hqd (by rw [tqd]; rfl))))⟩ dX10_read_178
          · skip
            have tc167 := nu_ne c167
            have uc167 : (0 : Int32).toInt = 0 := rfl
            rw [← hQ]
            exact en_v Z S163 F159 ⟨(fun k hk => ((p159_4 k (fw_sub (by decide) hk)).trans (z7 k hk))), (SlotOK.fin S163.2 hql tql hqr tqr hqm tqm hqd tqd (sl_sum S148.2 hqr tqr hqm tqm z5 p159_0 (G159 qr hqr (by rw [tqr]; rfl)) p159_1 p159_2 (by omega) (by have := q159r; omega)))⟩ dX10_read_148
  have J104 : ∀ (y0_104 : Nat) (y1_104 : Int32) (y2_104 : Int32) (E_104 : Ec) (H_104 : Heap) (k_104 : List Loc) (l_104 : Array Slot), Now D TB cy (va_A (va_pl L E) sz) s L τ E_104 H_104 k_104 → Fr L τ (inW [(11, 0), (74, 0), (75, 0), (76, 0), (77, 0), (78, 0), (79, 0), (80, 0)]) E E_104 → (0 ≤ a1.toInt) → (a1.toInt ≤ 49) → (y0_104 ∈ L) → (τ y0_104 = (74, 0)) → (0 ≤ y1_104.toInt) → (y1_104.toInt ≤ 49) → (0 ≤ y2_104.toInt) → (y2_104.toInt ≤ 1) → (SlotW E_104 ql qr qm qd) → ((ai E_104 qr a1.toInt.toNat).toInt = 0) → (∀ k : Nat, k ∉ ([5, 6, 22] : List Nat) → fi E_104 a0 k = fi E a0 k) → lv_has l_104 7 [(0, .ref a0), (1, .int a1)] → W p l e { frames := 4, cells := 0, slots := 0, locals := 101 } s m args below meth c H_104 k_104 0 0 QQ (F0 m 104 l_104 [.int y2_104, .int y1_104, .ref y0_104]) := by
    intro y0_104 y1_104 y2_104 E_104 H_104 k_104 l_104 S_104 F_104 z184 z185 z186 z187 z188 z189 z190 z191 z192 z193 z194 hl_104
    refine tr_zast Z.1 Z.2.2.2.1 S_104.1 S_104.2 z186 z187 rfl (by omega) (by omega) (by omega) (by omega) dX10_read_104 (fun E195 H196 k197 W195 I195 P195 => ?_)
    have S195 : Now D TB cy (va_A (va_pl L E) sz) s L τ E195 H196 k197 := ⟨W195, I195⟩
    have F195 : Fr L τ (inW [(11, 0), (74, 0), (75, 0), (76, 0), (77, 0), (78, 0), (79, 0), (80, 0)]) E E195 := Fr.set F_104 P195 z187 rfl
    refine lv_aload_n hx hb dX10_read_105 rfl (lv_at hl_104 0 rfl) ?_
    refine tc_vv Z.1 Z.2.2.2.1 Z.2.2.2.2.1 Z.2.2.2.2.2 S195.1 S195.2 ha0 ta0 rfl rfl (k_X10_passWord l D cy S195.2 ha0 ta0) (cwV 0 hts gX10_read_X10_passWord rfl rfl rfl (by decide +kernel) ⟨Nat.le_of_ble_eq_true rfl, Nat.le_of_ble_eq_true rfl⟩) rfl hl_104.1 rfl (Nat.le_of_ble_eq_true rfl) dX10_read_106 ⟨Nat.zero_le _, Nat.zero_le _⟩ (fun E198 H199 k200 W198 I198 G198 p198 => ?_)
    obtain ⟨p198_0, p198_1⟩ := p198
    have S198 : Now D TB cy (va_A (va_pl L E) sz) s L τ E198 H199 k200 := ⟨W198, I198⟩
    have F198 : Fr L τ (inW [(11, 0), (74, 0), (75, 0), (76, 0), (77, 0), (78, 0), (79, 0), (80, 0)]) E E198 := F195.trans (G198.mono (inW_mono (by decide)))
    have kz198_22 := fi_rng (k := 22) S198.2 ha0 ta0 rfl rfl
    obtain ⟨v202, ev202, tv202⟩ : ∃ v : Int32, Int32.ofInt (1) = v ∧ v.toInt = 1 := ⟨_, rfl, by decide +kernel⟩
    refine lv_iconst hx hb dX10_read_109 ev202 ?_
    refine lv_istore (lv' := [(4, .int v202), (0, .ref a0), (1, .int a1)]) hx hb dX10_read_110 hl_104 (by decide) rfl (fun l203 hl204 => ?_)
    exact J112 _ v202 E198 H199 k200 l203 S198 F198 (by omega) (by omega) (by omega) (by omega) (SlotW.same (SlotW.same z192 (P195.1 ql (ne_ro tql z187 (by decide))) (P195.1 qr (ne_ro tqr z187 (by decide))) (P195.1 qm (ne_ro tqm z187 (by decide))) (P195.1 qd (ne_ro tqd z187 (by decide)))) (G198 ql hql (by rw [tql]; rfl)) (G198 qr hqr (by rw [tqr]; rfl)) (G198 qm hqm (by rw [tqm]; rfl)) (G198 qd hqd (by rw [tqd]; rfl))) (fun _ => (by rw [show ai E198 qr a1.toInt.toNat = ai E_104 qr a1.toInt.toNat from ((ai_fr G198 hqr (by rw [tqr]; rfl)).trans (ai_set P195 (ne_ro tqr z187 (by decide))))]; omega)) (fun k hk => ((p198_1 k (fw_sub (by decide) hk)).trans ((fi_set P195 (ne_ro ta0 z187 (by decide))).trans (z194 k hk)))) (fi_rng S198.2 ha0 ta0 rfl rfl) (Nat.lt_succ_self _) (lv_sub hl204 [1, 2, 0] rfl)
  have J75 : ∀ (x2_75 : Int64) (E_75 : Ec) (H_75 : Heap) (k_75 : List Loc) (l_75 : Array Slot), Now D TB cy (va_A (va_pl L E) sz) s L τ E_75 H_75 k_75 → Fr L τ (inW [(11, 0), (74, 0), (75, 0), (76, 0), (77, 0), (78, 0), (79, 0), (80, 0)]) E E_75 → (0 ≤ a1.toInt) → (a1.toInt ≤ 49) → (SlotW E_75 ql qr qm qd) → ((ai E_75 qr a1.toInt.toNat).toInt = 0) → (∀ k : Nat, k ∉ ([5, 6, 22] : List Nat) → fi E_75 a0 k = fi E a0 k) → lv_has l_75 7 [(0, .ref a0), (1, .int a1), (2, .long x2_75)] → W p l e { frames := 4, cells := 0, slots := 0, locals := 101 } s m args below meth c H_75 k_75 0 0 QQ (F0 m 75 l_75 []) := by
    intro x2_75 E_75 H_75 k_75 l_75 S_75 F_75 z205 z206 z207 z208 z209 hl_75
    refine lv_aload_n hx hb dX10_read_75 rfl (lv_at hl_75 0 rfl) ?_
    refine tr_getr Z.1 Z.2.2.2.1 S_75.1 S_75.2 ha0 ta0 rfl rfl (fun _ h => List.mem_cons_of_mem _ (List.mem_append_right _ h)) 23 (by decide) rfl (hts _ (List.mem_of_getElem? (i := 4) rfl)) dX10_read_76 (fun q210 eq210 hq210 tq210 => ?_)
    have tq210 : τ q210 = (74, 0) := tq210
    refine lv_iload_n hx hb dX10_read_79 rfl (lv_at hl_75 1 rfl) ?_
    refine lv_lload_n hx hb dX10_read_80 rfl (lv_at hl_75 2 rfl) ?_
    refine lv_aload_n hx hb dX10_read_81 rfl (lv_at hl_75 0 rfl) ?_
    obtain ⟨v211, ev211, tv211⟩ : ∃ v : Int32, (Int8.ofInt (115)).toInt32 = v ∧ v.toInt = 115 := ⟨_, rfl, by decide +kernel⟩
    refine lv_bipush hx hb dX10_read_82 ev211 ?_
    obtain ⟨v212, ev212, tv212⟩ : ∃ v : Int32, (Int8.ofInt (111)).toInt32 = v ∧ v.toInt = 111 := ⟨_, rfl, by decide +kernel⟩
    refine lv_bipush hx hb dX10_read_84 ev212 ?_
    obtain ⟨v213, ev213, tv213⟩ : ∃ v : Int32, (Int8.ofInt (109)).toInt32 = v ∧ v.toInt = 109 := ⟨_, rfl, by decide +kernel⟩
    refine lv_bipush hx hb dX10_read_86 ev213 ?_
    obtain ⟨v214, ev214, tv214⟩ : ∃ v : Int32, (Int8.ofInt (101)).toInt32 = v ∧ v.toInt = 101 := ⟨_, rfl, by decide +kernel⟩
    refine lv_bipush hx hb dX10_read_88 ev214 ?_
    obtain ⟨v215, ev215, tv215⟩ : ∃ v : Int32, Int32.ofInt (0) = v ∧ v.toInt = 0 := ⟨_, rfl, by decide +kernel⟩
    refine lv_iconst hx hb dX10_read_90 ev215 ?_
    obtain ⟨v216, ev216, tv216⟩ : ∃ v : Int32, Int32.ofInt (0) = v ∧ v.toInt = 0 := ⟨_, rfl, by decide +kernel⟩
    refine lv_iconst hx hb dX10_read_91 ev216 ?_
    refine tc_vl Z.1 Z.2.2.2.1 Z.2.2.2.2.1 Z.2.2.2.2.2 S_75.1 S_75.2 ha0 ta0 rfl rfl (k_X10_packed l D cy S_75.2 ha0 ta0 v211 v212 v213 v214 v215 v216) (cwV 6 hts gX10_read_X10_packed rfl rfl rfl (by decide +kernel) ⟨Nat.le_of_ble_eq_true rfl, Nat.le_of_ble_eq_true rfl⟩) rfl hl_75.1 rfl (Nat.le_of_ble_eq_true rfl) dX10_read_92 ⟨Nat.zero_le _, Nat.zero_le _⟩ (fun v220 E217 H218 k219 W217 I217 G217 p217 => ?_)
    have q217 := p217
    have q217 := q217.symm
    subst q217
    have S217 : Now D TB cy (va_A (va_pl L E) sz) s L τ E_75 H218 k219 := ⟨W217, I217⟩
    refine W.lcmp hx hb dX10_read_95 ?_
    refine lv_topi (fun v221 ev221 => ?_)
    have tv221 := nl_cmp ev221
    refine lv_if_ne (tgt := 103) hx hb dX10_read_96 (by decide) (fun c222 => ?_) (fun c222 => ?_)
    · skip
      have tc222 := nu_ne c222
      have uc222 : (0 : Int32).toInt = 0 := rfl
      obtain ⟨v223, ev223, tv223⟩ : ∃ v : Int32, Int32.ofInt (0) = v ∧ v.toInt = 0 := ⟨_, rfl, by decide +kernel⟩
      refine lv_iconst hx hb dX10_read_103 ev223 ?_
      exact J104 q210 a1 v223 E_75 H218 k219 l_75 S217 F_75 (by omega) (by omega) hq210 tq210 (by omega) (by omega) (by omega) (by omega) z207 z208 (fun k hk => (z209 k hk)) (lv_sub hl_75 [0, 1] rfl)
    · skip
      have tc222 := nu_eq c222
      have uc222 : (0 : Int32).toInt = 0 := rfl
      obtain ⟨v224, ev224, tv224⟩ : ∃ v : Int32, Int32.ofInt (1) = v ∧ v.toInt = 1 := ⟨_, rfl, by decide +kernel⟩
      refine lv_iconst hx hb dX10_read_99 ev224 ?_
      refine lv_goto (tgt := 104) hx hb dX10_read_100 (by decide) ?_
      exact J104 q210 a1 v224 E_75 H218 k219 l_75 S217 F_75 (by omega) (by omega) hq210 tq210 (by omega) (by omega) (by omega) (by omega) z207 z208 (fun k hk => (z209 k hk)) (lv_sub hl_75 [0, 1] rfl)
  refine lv_aload_n hx hb dX10_read_0 rfl (lv_at hl 0 rfl) ?_
  obtain ⟨v225, ev225, tv225⟩ : ∃ v : Int32, Int32.ofInt (0) = v ∧ v.toInt = 0 := ⟨_, rfl, by decide +kernel⟩
  refine lv_iconst hx hb dX10_read_1 ev225 ?_
  refine tr_puti Z.1 Z.2.2.2.1 S0.1 S0.2 ha0 ta0 rfl rfl (fun _ h => List.mem_cons_of_mem _ (List.mem_append_right _ h)) tyX10_ok nmX10 22 (by decide) rfl rfl rfl (hts _ (List.mem_of_getElem? (i := 1) rfl)) dX10_read_2 (by omega) (by omega) (fun E226 H227 k228 W226 I226 P226 => ?_)
  have S226 : Now D TB cy (va_A (va_pl L E) sz) s L τ E226 H227 k228 := ⟨W226, I226⟩
  have F226 : Fr L τ (inW [(11, 0), (74, 0), (75, 0), (76, 0), (77, 0), (78, 0), (79, 0), (80, 0)]) E E226 := Fr.put F0_ P226 ta0 rfl
  refine lv_aload_n hx hb dX10_read_5 rfl (lv_at hl 0 rfl) ?_
  refine tr_getr Z.1 Z.2.2.2.1 S226.1 S226.2 ha0 ta0 rfl rfl (fun _ h => List.mem_cons_of_mem _ (List.mem_append_right _ h)) 24 (by decide) rfl (hts _ (List.mem_of_getElem? (i := 2) rfl)) dX10_read_6 (fun q229 eq229 hq229 tq229 => ?_)
  have tq229 : τ q229 = (75, 0) := tq229
  have uq229 : ql = q229 := S226.2.2.2.2 _ hql _ hq229 (tql.trans tq229.symm) (by rw [tql]; rfl)
  subst uq229
  refine lv_iload_n hx hb dX10_read_9 rfl (lv_at hl 1 rfl) ?_
  obtain ⟨v230, ev230, tv230⟩ : ∃ v : Int32, Int32.ofInt (0) = v ∧ v.toInt = 0 := ⟨_, rfl, by decide +kernel⟩
  refine lv_iconst hx hb dX10_read_10 ev230 ?_
  refine tr_zast Z.1 Z.2.2.2.1 S226.1 S226.2 hql tql rfl (by omega) (by omega) (by omega) (by omega) dX10_read_11 (fun E231 H232 k233 W231 I231 P231 => ?_)
  have S231 : Now D TB cy (va_A (va_pl L E) sz) s L τ E231 H232 k233 := ⟨W231, I231⟩
  have F231 : Fr L τ (inW [(11, 0), (74, 0), (75, 0), (76, 0), (77, 0), (78, 0), (79, 0), (80, 0)]) E E231 := Fr.set F226 P231 tql rfl
  refine lv_aload_n hx hb dX10_read_12 rfl (lv_at hl 0 rfl) ?_
  refine tr_getr Z.1 Z.2.2.2.1 S231.1 S231.2 ha0 ta0 rfl rfl (fun _ h => List.mem_cons_of_mem _ (List.mem_append_right _ h)) 25 (by decide) rfl (hts _ (List.mem_of_getElem? (i := 3) rfl)) dX10_read_13 (fun q234 eq234 hq234 tq234 => ?_)
  have tq234 : τ q234 = (76, 0) := tq234
  have uq234 : qr = q234 := S231.2.2.2.2 _ hqr _ hq234 (tqr.trans tq234.symm) (by rw [tqr]; rfl)
  subst uq234
  refine lv_iload_n hx hb dX10_read_16 rfl (lv_at hl 1 rfl) ?_
  obtain ⟨v235, ev235, tv235⟩ : ∃ v : Int32, Int32.ofInt (0) = v ∧ v.toInt = 0 := ⟨_, rfl, by decide +kernel⟩
  refine lv_iconst hx hb dX10_read_17 ev235 ?_
  refine tr_iast Z.1 Z.2.2.2.1 S231.1 S231.2 hqr tqr rfl (by omega) (by omega) (by omega) (by omega) dX10_read_18 (fun E236 H237 k238 W236 I236 P236 => ?_)
  have S236 : Now D TB cy (va_A (va_pl L E) sz) s L τ E236 H237 k238 := ⟨W236, I236⟩
  have F236 : Fr L τ (inW [(11, 0), (74, 0), (75, 0), (76, 0), (77, 0), (78, 0), (79, 0), (80, 0)]) E E236 := Fr.set F231 P236 tqr rfl
  refine lv_aload_n hx hb dX10_read_19 rfl (lv_at hl 0 rfl) ?_
  refine tc_vv Z.1 Z.2.2.2.1 Z.2.2.2.2.1 Z.2.2.2.2.2 S236.1 S236.2 ha0 ta0 rfl rfl (k_X10_blanks l D cy S236.2 ha0 ta0) (cwV 0 hts gX10_read_X10_blanks rfl rfl rfl (by decide +kernel) ⟨Nat.le_of_ble_eq_true rfl, Nat.le_of_ble_eq_true rfl⟩) rfl hl.1 rfl (Nat.le_of_ble_eq_true rfl) dX10_read_20 ⟨Nat.zero_le _, Nat.zero_le _⟩ (fun E239 H240 k241 W239 I239 G239 p239 => ?_)
  obtain ⟨p239_0, p239_1⟩ := p239
  have S239 : Now D TB cy (va_A (va_pl L E) sz) s L τ E239 H240 k241 := ⟨W239, I239⟩
  have F239 : Fr L τ (inW [(11, 0), (74, 0), (75, 0), (76, 0), (77, 0), (78, 0), (79, 0), (80, 0)]) E E239 := F236.trans (G239.mono (inW_mono (by decide)))
  try rw [((fi_set P236 (ne_ro ta0 tqr (by decide))).trans ((fi_set P231 (ne_ro ta0 tql (by decide))).trans (fi_at P226)))] at p239_0
  have kz239_22 := fi_rng (k := 22) S239.2 ha0 ta0 rfl rfl
  refine lv_aload_n hx hb dX10_read_23 rfl (lv_at hl 0 rfl) ?_
  refine tc_vl Z.1 Z.2.2.2.1 Z.2.2.2.2.1 Z.2.2.2.2.2 S239.1 S239.2 ha0 ta0 rfl rfl (k_X10_wordAt l D cy S239.2 ha0 ta0) (cwV 0 hts gX10_read_X10_wordAt rfl rfl rfl (by decide +kernel) ⟨Nat.le_of_ble_eq_true rfl, Nat.le_of_ble_eq_true rfl⟩) rfl hl.1 rfl (Nat.le_of_ble_eq_true rfl) dX10_read_24 ⟨Nat.zero_le _, Nat.zero_le _⟩ (fun v246 E243 H244 k245 W243 I243 G243 p243 => ?_)
  have q243 := p243
  have q243 := q243.symm
  subst q243
  have S243 : Now D TB cy (va_A (va_pl L E) sz) s L τ E239 H244 k245 := ⟨W243, I243⟩
  refine lv_lstore_n (lv' := [(2, .long v246), (0, .ref a0), (1, .int a1)]) hx hb dX10_read_27 rfl hl (by decide) rfl (fun l247 hl248 => ?_)
  refine lv_lload_n hx hb dX10_read_28 rfl (lv_at hl248 0 rfl) ?_
  refine lv_aload_n hx hb dX10_read_29 rfl (lv_at hl248 1 rfl) ?_
  obtain ⟨v249, ev249, tv249⟩ : ∃ v : Int32, (Int8.ofInt (97)).toInt32 = v ∧ v.toInt = 97 := ⟨_, rfl, by decide +kernel⟩
  refine lv_bipush hx hb dX10_read_30 ev249 ?_
  obtain ⟨v250, ev250, tv250⟩ : ∃ v : Int32, (Int8.ofInt (108)).toInt32 = v ∧ v.toInt = 108 := ⟨_, rfl, by decide +kernel⟩
  refine lv_bipush hx hb dX10_read_32 ev250 ?_
  obtain ⟨v251, ev251, tv251⟩ : ∃ v : Int32, (Int8.ofInt (108)).toInt32 = v ∧ v.toInt = 108 := ⟨_, rfl, by decide +kernel⟩
  refine lv_bipush hx hb dX10_read_34 ev251 ?_
  obtain ⟨v252, ev252, tv252⟩ : ∃ v : Int32, Int32.ofInt (0) = v ∧ v.toInt = 0 := ⟨_, rfl, by decide +kernel⟩
  refine lv_iconst hx hb dX10_read_36 ev252 ?_
  obtain ⟨v253, ev253, tv253⟩ : ∃ v : Int32, Int32.ofInt (0) = v ∧ v.toInt = 0 := ⟨_, rfl, by decide +kernel⟩
  refine lv_iconst hx hb dX10_read_37 ev253 ?_
  obtain ⟨v254, ev254, tv254⟩ : ∃ v : Int32, Int32.ofInt (0) = v ∧ v.toInt = 0 := ⟨_, rfl, by decide +kernel⟩
  refine lv_iconst hx hb dX10_read_38 ev254 ?_
  refine tc_vl Z.1 Z.2.2.2.1 Z.2.2.2.2.1 Z.2.2.2.2.2 S243.1 S243.2 ha0 ta0 rfl rfl (k_X10_packed l D cy S243.2 ha0 ta0 v249 v250 v251 v252 v253 v254) (cwV 6 hts gX10_read_X10_packed rfl rfl rfl (by decide +kernel) ⟨Nat.le_of_ble_eq_true rfl, Nat.le_of_ble_eq_true rfl⟩) rfl hl248.1 rfl (Nat.le_of_ble_eq_true rfl) dX10_read_39 ⟨Nat.zero_le _, Nat.zero_le _⟩ (fun v258 E255 H256 k257 W255 I255 G255 p255 => ?_)
  have q255 := p255
  have q255 := q255.symm
  subst q255
  have S255 : Now D TB cy (va_A (va_pl L E) sz) s L τ E239 H256 k257 := ⟨W255, I255⟩
  refine W.lcmp hx hb dX10_read_42 ?_
  refine lv_topi (fun v259 ev259 => ?_)
  have tv259 := nl_cmp ev259
  refine lv_if_eq (tgt := 75) hx hb dX10_read_43 (by decide) (fun c260 => ?_) (fun c260 => ?_)
  · skip
    have tc260 := nu_eq c260
    have uc260 : (0 : Int32).toInt = 0 := rfl
    exact J75 v246 E239 H256 k257 l247 S255 F239 (by omega) (by omega) (SlotW.same (slot_reset2 (SlotW.same (hS ql hql tql qr hqr tqr qm hqm tqm qd hqd tqd) (P226.1 ql (ne_ro tql ta0 (by decide))) (P226.1 qr (ne_ro tqr ta0 (by decide))) (P226.1 qm (ne_ro tqm ta0 (by decide))) (P226.1 qd (ne_ro tqd ta0 (by decide)))) P231 P236 (by omega) (ne_ro tql tqr (by decide)) (ne_ro tqm tql (by decide)) (ne_ro tqd tql (by decide)) (ne_ro tqm tqr (by decide)) (ne_ro tqd tqr (by decide))) (G239 ql hql (by rw [tql]; rfl)) (G239 qr hqr (by rw [tqr]; rfl)) (G239 qm hqm (by rw [tqm]; rfl)) (G239 qd hqd (by rw [tqd]; rfl))) (by rw [show ai E239 qr a1.toInt.toNat = v235 from ((ai_fr G239 hqr (by rw [tqr]; rfl)).trans P236.2.1)]; omega) (fun k hk => ((p239_1 k (fw_sub (by decide) hk)).trans ((fi_set P236 (ne_ro ta0 tqr (by decide))).trans ((fi_set P231 (ne_ro ta0 tql (by decide))).trans ((fi_put P226 (Or.inr (fw_ne (by decide) hk))).trans ((fun k hk => rfl) k hk)))))) (lv_sub hl248 [1, 2, 0] rfl)
  · skip
    have tc260 := nu_ne c260
    have uc260 : (0 : Int32).toInt = 0 := rfl
    refine lv_lload_n hx hb dX10_read_46 rfl (lv_at hl248 0 rfl) ?_
    refine lv_aload_n hx hb dX10_read_47 rfl (lv_at hl248 1 rfl) ?_
    obtain ⟨v261, ev261, tv261⟩ : ∃ v : Int32, (Int8.ofInt (115)).toInt32 = v ∧ v.toInt = 115 := ⟨_, rfl, by decide +kernel⟩
    refine lv_bipush hx hb dX10_read_48 ev261 ?_
    obtain ⟨v262, ev262, tv262⟩ : ∃ v : Int32, (Int8.ofInt (111)).toInt32 = v ∧ v.toInt = 111 := ⟨_, rfl, by decide +kernel⟩
    refine lv_bipush hx hb dX10_read_50 ev262 ?_
    obtain ⟨v263, ev263, tv263⟩ : ∃ v : Int32, (Int8.ofInt (109)).toInt32 = v ∧ v.toInt = 109 := ⟨_, rfl, by decide +kernel⟩
    refine lv_bipush hx hb dX10_read_52 ev263 ?_
    obtain ⟨v264, ev264, tv264⟩ : ∃ v : Int32, (Int8.ofInt (101)).toInt32 = v ∧ v.toInt = 101 := ⟨_, rfl, by decide +kernel⟩
    refine lv_bipush hx hb dX10_read_54 ev264 ?_
    obtain ⟨v265, ev265, tv265⟩ : ∃ v : Int32, Int32.ofInt (0) = v ∧ v.toInt = 0 := ⟨_, rfl, by decide +kernel⟩
    refine lv_iconst hx hb dX10_read_56 ev265 ?_
    obtain ⟨v266, ev266, tv266⟩ : ∃ v : Int32, Int32.ofInt (0) = v ∧ v.toInt = 0 := ⟨_, rfl, by decide +kernel⟩
    refine lv_iconst hx hb dX10_read_57 ev266 ?_
    refine tc_vl Z.1 Z.2.2.2.1 Z.2.2.2.2.1 Z.2.2.2.2.2 S255.1 S255.2 ha0 ta0 rfl rfl (k_X10_packed l D cy S255.2 ha0 ta0 v261 v262 v263 v264 v265 v266) (cwV 6 hts gX10_read_X10_packed rfl rfl rfl (by decide +kernel) ⟨Nat.le_of_ble_eq_true rfl, Nat.le_of_ble_eq_true rfl⟩) rfl hl248.1 rfl (Nat.le_of_ble_eq_true rfl) dX10_read_58 ⟨Nat.zero_le _, Nat.zero_le _⟩ (fun v270 E267 H268 k269 W267 I267 G267 p267 => ?_)
    have q267 := p267
    have q267 := q267.symm
    subst q267
    have S267 : Now D TB cy (va_A (va_pl L E) sz) s L τ E239 H268 k269 := ⟨W267, I267⟩
    refine W.lcmp hx hb dX10_read_61 ?_
    refine lv_topi (fun v271 ev271 => ?_)
    have tv271 := nl_cmp ev271
    refine lv_if_eq (tgt := 75) hx hb dX10_read_62 (by decide) (fun c272 => ?_) (fun c272 => ?_)
    · skip
      have tc272 := nu_eq c272
      have uc272 : (0 : Int32).toInt = 0 := rfl
      exact J75 v246 E239 H268 k269 l247 S267 F239 (by omega) (by omega) (SlotW.same (slot_reset2 (SlotW.same (hS ql hql tql qr hqr tqr qm hqm tqm qd hqd tqd) (P226.1 ql (ne_ro tql ta0 (by decide))) (P226.1 qr (ne_ro tqr ta0 (by decide))) (P226.1 qm (ne_ro tqm ta0 (by decide))) (P226.1 qd (ne_ro tqd ta0 (by decide)))) P231 P236 (by omega) (ne_ro tql tqr (by decide)) (ne_ro tqm tql (by decide)) (ne_ro tqd tql (by decide)) (ne_ro tqm tqr (by decide)) (ne_ro tqd tqr (by decide))) (G239 ql hql (by rw [tql]; rfl)) (G239 qr hqr (by rw [tqr]; rfl)) (G239 qm hqm (by rw [tqm]; rfl)) (G239 qd hqd (by rw [tqd]; rfl))) (by rw [show ai E239 qr a1.toInt.toNat = v235 from ((ai_fr G239 hqr (by rw [tqr]; rfl)).trans P236.2.1)]; omega) (fun k hk => ((p239_1 k (fw_sub (by decide) hk)).trans ((fi_set P236 (ne_ro ta0 tqr (by decide))).trans ((fi_set P231 (ne_ro ta0 tql (by decide))).trans ((fi_put P226 (Or.inr (fw_ne (by decide) hk))).trans ((fun k hk => rfl) k hk)))))) (lv_sub hl248 [1, 2, 0] rfl)
    · skip
      have tc272 := nu_ne c272
      have uc272 : (0 : Int32).toInt = 0 := rfl
      refine lv_aload_n hx hb dX10_read_65 rfl (lv_at hl248 1 rfl) ?_
      obtain ⟨v273, ev273, tv273⟩ : ∃ v : Int32, Int32.ofInt (1) = v ∧ v.toInt = 1 := ⟨_, rfl, by decide +kernel⟩
      refine lv_iconst hx hb dX10_read_66 ev273 ?_
      refine lv_aload_n hx hb dX10_read_67 rfl (lv_at hl248 1 rfl) ?_
      refine tr_geti Z.1 Z.2.2.2.1 S267.1 S267.2 ha0 ta0 rfl rfl (fun _ h => List.mem_cons_of_mem _ (List.mem_append_right _ h)) 22 (by decide) rfl (hts _ (List.mem_of_getElem? (i := 1) rfl)) dX10_read_68 (fun v274 ev274 lv274 uv274 => ?_)
      have wv274 : v274 = (fi E239 a0 22) := ev274.symm.trans rfl
      have xv274 : v274.toInt = (fi E239 a0 22).toInt := by rw [wv274]
      refine tc_vv Z.1 Z.2.2.2.1 Z.2.2.2.2.1 Z.2.2.2.2.2 S267.1 S267.2 ha0 ta0 rfl rfl (k_X10_wrong l D cy S267.2 ha0 ta0 v273 (by omega) (by omega) v274) (cwV 2 hts gX10_read_X10_wrong rfl rfl rfl (by decide +kernel) ⟨Nat.le_of_ble_eq_true rfl, Nat.le_of_ble_eq_true rfl⟩) rfl hl248.1 rfl (Nat.le_of_ble_eq_true rfl) dX10_read_71 ⟨Nat.zero_le _, Nat.zero_le _⟩ (fun E275 H276 k277 W275 I275 G275 p275 => ?_)
      obtain ⟨p275_0, p275_1⟩ := p275
      have S275 : Now D TB cy (va_A (va_pl L E) sz) s L τ E275 H276 k277 := ⟨W275, I275⟩
      have F275 : Fr L τ (inW [(11, 0), (74, 0), (75, 0), (76, 0), (77, 0), (78, 0), (79, 0), (80, 0)]) E E275 := F239.trans (G275.mono (inW_mono (by decide)))
      have kz275_5 := fi_rng (k := 5) S275.2 ha0 ta0 rfl rfl
      rw [← hQ]
      exact en_v Z S275 F275 ⟨(fun k hk => ((p275_1 k (fw_sub (by decide) hk)).trans ((p239_1 k (fw_sub (by decide) hk)).trans ((fi_set P236 (ne_ro ta0 tqr (by decide))).trans ((fi_set P231 (ne_ro ta0 tql (by decide))).trans ((fi_put P226 (Or.inr (fw_ne (by decide) hk))).trans ((fun k hk => rfl) k hk))))))), (SlotOK.fin S275.2 hql tql hqr tqr hqm tqm hqd tqd (SlotW.same (SlotW.same (slot_reset2 (SlotW.same (hS ql hql tql qr hqr tqr qm hqm tqm qd hqd tqd) (P226.1 ql (ne_ro tql ta0 (by decide))) (P226.1 qr (ne_ro tqr ta0 (by decide))) (P226.1 qm (ne_ro tqm ta0 (by decide))) (P226.1 qd (ne_ro tqd ta0 (by decide)))) P231 P236 (by omega) (ne_ro tql tqr (by decide)) (ne_ro tqm tql (by decide)) (ne_ro tqd tql (by decide)) (ne_ro tqm tqr (by decide)) (ne_ro tqd tqr (by decide))) (G239 ql hql (by rw [tql]; rfl)) (G239 qr hqr (by rw [tqr]; rfl)) (G239 qm hqm (by rw [tqm]; rfl)) (G239 qd hqd (by rw [tqd]; rfl))) (G275 ql hql (by rw [tql]; rfl)) (G275 qr hqr (by rw [tqr]; rfl)) (G275 qm hqm (by rw [tqm]; rfl)) (G275 qd hqd (by rw [tqd]; rfl))))⟩ dX10_read_74

set_option maxRecDepth 20000 in
theorem ggX10_law_X10_in : GoodIn wsX10_law wsX10_in := goodIn_r _ [14] (by decide +kernel) (by decide +kernel)
set_option maxRecDepth 20000 in
theorem gX10_law_X10_in : GoodIn wsX10_law (wsV RX10 123 RX10 yX10_in wsX10_in) := goodIn_app (goodIn_of _ (by decide +kernel)) ggX10_law_X10_in
set_option maxRecDepth 20000 in
theorem ggX10_law_X10_no : GoodIn wsX10_law wsX10_no := goodIn_r _ [18, 8, 7, 95, 96, 97, 98, 99, 100, 101, 102, 103, 104, 105, 106, 107, 108, 109, 110, 111, 112, 113, 114, 115, 116, 117, 118, 119, 120, 121, 122, 123, 124, 125, 126, 127, 128, 129, 130, 131, 132, 133, 134, 135, 136, 137, 138, 139, 140, 141, 142] (by decide +kernel) (by decide +kernel)
set_option maxRecDepth 20000 in
theorem gX10_law_X10_no : GoodIn wsX10_law (wsV RX10 144 RX10 yX10_no wsX10_no) := goodIn_app (goodIn_of _ (by decide +kernel)) ggX10_law_X10_no
set_option maxRecDepth 20000 in
theorem ggX10_law_X10_freeSlot : GoodIn wsX10_law wsX10_freeSlot := goodIn_r _ [22, 9, 23, 24, 95, 96, 97, 98, 99, 100, 101, 102, 103, 104, 105, 106, 107, 108, 109, 110, 111, 112, 113, 114, 115, 116, 117, 118, 119, 120, 121, 122, 123, 124, 125, 126, 127, 128, 129, 130, 131, 132, 133, 134, 135, 136, 137, 138, 139, 140, 141, 142] (by decide +kernel) (by decide +kernel)
set_option maxRecDepth 20000 in
theorem gX10_law_X10_freeSlot : GoodIn wsX10_law (wsV RX10 205 RX10 yX10_freeSlot wsX10_freeSlot) := goodIn_app (goodIn_of _ (by decide +kernel)) ggX10_law_X10_freeSlot
set_option maxRecDepth 20000 in
theorem ggX10_law_X10_read : GoodIn wsX10_law wsX10_read := goodIn_r _ [28, 29, 30, 31, 32, 33, 34, 35, 36, 13, 37, 38, 39, 40, 41, 5, 3, 42, 43, 44, 45, 46, 47, 48, 49, 50, 51, 52, 53, 54, 55, 56, 57, 58, 59, 6, 7, 60, 61, 62, 63, 64, 65, 66, 67, 68, 69, 70, 71, 72, 73, 74, 75, 76, 77, 78, 79, 80, 81, 82, 83, 84, 85, 86, 95, 96, 97, 98, 99, 100, 101, 102, 103, 104, 105, 106, 107, 108, 109, 110, 111, 112, 113, 114, 115, 116, 117, 118, 119, 120, 121, 122, 123, 124, 125, 126, 127, 128, 129, 130, 131, 132, 133, 134, 135, 136, 137, 138, 139, 140, 141, 142] (by decide +kernel) (by decide +kernel)
set_option maxRecDepth 20000 in
theorem gX10_law_X10_read : GoodIn wsX10_law (wsV RX10 208 RX10 yX10_read wsX10_read) := goodIn_app (goodIn_of _ (by decide +kernel)) ggX10_law_X10_read
set_option maxRecDepth 20000 in
theorem ggX10_law_X10_bad : GoodIn wsX10_law wsX10_bad := goodIn_r _ [67, 6, 95, 96, 97, 98, 99, 100, 101, 102, 103, 104, 105, 106, 107, 108, 109, 110, 111, 112, 113, 114, 115, 116, 117, 118, 119, 120, 121, 122, 123, 124, 125, 126, 127, 128, 129, 130, 131, 132, 133, 134, 135, 136, 137, 138, 139, 140, 141, 142] (by decide +kernel) (by decide +kernel)
set_option maxRecDepth 20000 in
theorem gX10_law_X10_bad : GoodIn wsX10_law (wsV RX10 192 RX10 yX10_bad wsX10_bad) := goodIn_app (goodIn_of _ (by decide +kernel)) ggX10_law_X10_bad
set_option maxRecDepth 20000 in
theorem ggX10_law_X10_act : GoodIn wsX10_law wsX10_act := goodIn_r _ [90, 23, 24, 9, 91, 92, 93, 13, 94, 8, 7, 95, 96, 97, 98, 99, 100, 101, 102, 103, 104, 105, 106, 107, 108, 109, 110, 111, 112, 113, 114, 115, 116, 117, 118, 119, 120, 121, 122, 123, 124, 125, 126, 127, 128, 129, 130, 131, 132, 133, 134, 135, 136, 137, 138, 139, 140, 141, 142] (by decide +kernel) (by decide +kernel)
set_option maxRecDepth 20000 in
theorem gX10_law_X10_act : GoodIn wsX10_law (wsV RX10 131 RX10 yX10_act wsX10_act) := goodIn_app (goodIn_of _ (by decide +kernel)) ggX10_law_X10_act
theorem dX10_law_0 : decode cX10_law 0 = .ok (.aload_n 0, 1) := by decide +kernel
theorem dX10_law_1 : decode cX10_law 1 = .ok (.iconst 0, 1) := by decide +kernel
theorem dX10_law_2 : decode cX10_law 2 = .ok (.putfield 97, 3) := by decide +kernel
theorem dX10_law_5 : decode cX10_law 5 = .ok (.aload_n 0, 1) := by decide +kernel
theorem dX10_law_6 : decode cX10_law 6 = .ok (.iload_n 1, 1) := by decide +kernel
theorem dX10_law_7 : decode cX10_law 7 = .ok (.iconst 0, 1) := by decide +kernel
theorem dX10_law_8 : decode cX10_law 8 = .ok (.aload_n 0, 1) := by decide +kernel
theorem dX10_law_9 : decode cX10_law 9 = .ok (.getfield 148, 3) := by decide +kernel
theorem dX10_law_12 : decode cX10_law 12 = .ok (.invokevirtual 123, 3) := by decide +kernel
theorem dX10_law_15 : decode cX10_law 15 = .ok (.ifCond .ne 9, 3) := by decide +kernel
theorem dX10_law_18 : decode cX10_law 18 = .ok (.aload_n 0, 1) := by decide +kernel
theorem dX10_law_19 : decode cX10_law 19 = .ok (.iconst 1, 1) := by decide +kernel
theorem dX10_law_20 : decode cX10_law 20 = .ok (.invokevirtual 144, 3) := by decide +kernel
theorem dX10_law_23 : decode cX10_law 23 = .ok (.ireturn, 1) := by decide +kernel
theorem dX10_law_24 : decode cX10_law 24 = .ok (.iconst 0, 1) := by decide +kernel
theorem dX10_law_25 : decode cX10_law 25 = .ok (.istore_n 2, 1) := by decide +kernel
theorem dX10_law_26 : decode cX10_law 26 = .ok (.iload_n 2, 1) := by decide +kernel
theorem dX10_law_27 : decode cX10_law 27 = .ok (.iload_n 1, 1) := by decide +kernel
theorem dX10_law_28 : decode cX10_law 28 = .ok (.if_icmp .ge 21, 3) := by decide +kernel
theorem dX10_law_31 : decode cX10_law 31 = .ok (.aload_n 0, 1) := by decide +kernel
theorem dX10_law_32 : decode cX10_law 32 = .ok (.getfield 54, 3) := by decide +kernel
theorem dX10_law_35 : decode cX10_law 35 = .ok (.iload_n 2, 1) := by decide +kernel
theorem dX10_law_36 : decode cX10_law 36 = .ok (.aload_n 0, 1) := by decide +kernel
theorem dX10_law_37 : decode cX10_law 37 = .ok (.getfield 50, 3) := by decide +kernel
theorem dX10_law_40 : decode cX10_law 40 = .ok (.iload_n 2, 1) := by decide +kernel
theorem dX10_law_41 : decode cX10_law 41 = .ok (.baload, 1) := by decide +kernel
theorem dX10_law_42 : decode cX10_law 42 = .ok (.bastore, 1) := by decide +kernel
theorem dX10_law_43 : decode cX10_law 43 = .ok (.iinc 2 1, 3) := by decide +kernel
theorem dX10_law_46 : decode cX10_law 46 = .ok (.goto (-20), 3) := by decide +kernel
theorem dX10_law_49 : decode cX10_law 49 = .ok (.aload_n 0, 1) := by decide +kernel
theorem dX10_law_50 : decode cX10_law 50 = .ok (.iload_n 1, 1) := by decide +kernel
theorem dX10_law_51 : decode cX10_law 51 = .ok (.putfield 154, 3) := by decide +kernel
theorem dX10_law_54 : decode cX10_law 54 = .ok (.aload_n 0, 1) := by decide +kernel
theorem dX10_law_55 : decode cX10_law 55 = .ok (.iconst 0, 1) := by decide +kernel
theorem dX10_law_56 : decode cX10_law 56 = .ok (.putfield 148, 3) := by decide +kernel
theorem dX10_law_59 : decode cX10_law 59 = .ok (.aload_n 0, 1) := by decide +kernel
theorem dX10_law_60 : decode cX10_law 60 = .ok (.iconst 0, 1) := by decide +kernel
theorem dX10_law_61 : decode cX10_law 61 = .ok (.putfield 160, 3) := by decide +kernel
theorem dX10_law_64 : decode cX10_law 64 = .ok (.aload_n 0, 1) := by decide +kernel
theorem dX10_law_65 : decode cX10_law 65 = .ok (.iconst (-1), 1) := by decide +kernel
theorem dX10_law_66 : decode cX10_law 66 = .ok (.putfield 16, 3) := by decide +kernel
theorem dX10_law_69 : decode cX10_law 69 = .ok (.aload_n 0, 1) := by decide +kernel
theorem dX10_law_70 : decode cX10_law 70 = .ok (.invokevirtual 205, 3) := by decide +kernel
theorem dX10_law_73 : decode cX10_law 73 = .ok (.istore_n 2, 1) := by decide +kernel
theorem dX10_law_74 : decode cX10_law 74 = .ok (.aload_n 0, 1) := by decide +kernel
theorem dX10_law_75 : decode cX10_law 75 = .ok (.iload_n 2, 1) := by decide +kernel
theorem dX10_law_76 : decode cX10_law 76 = .ok (.invokevirtual 208, 3) := by decide +kernel
theorem dX10_law_79 : decode cX10_law 79 = .ok (.aload_n 0, 1) := by decide +kernel
theorem dX10_law_80 : decode cX10_law 80 = .ok (.invokevirtual 192, 3) := by decide +kernel
theorem dX10_law_83 : decode cX10_law 83 = .ok (.ifCond .eq 10, 3) := by decide +kernel
theorem dX10_law_86 : decode cX10_law 86 = .ok (.aload_n 0, 1) := by decide +kernel
theorem dX10_law_87 : decode cX10_law 87 = .ok (.iconst 2, 1) := by decide +kernel
theorem dX10_law_88 : decode cX10_law 88 = .ok (.putfield 100, 3) := by decide +kernel
theorem dX10_law_91 : decode cX10_law 91 = .ok (.iconst (-1), 1) := by decide +kernel
theorem dX10_law_92 : decode cX10_law 92 = .ok (.ireturn, 1) := by decide +kernel
theorem dX10_law_93 : decode cX10_law 93 = .ok (.aload_n 0, 1) := by decide +kernel
theorem dX10_law_94 : decode cX10_law 94 = .ok (.getfield 7, 3) := by decide +kernel
theorem dX10_law_97 : decode cX10_law 97 = .ok (.bipush 44, 2) := by decide +kernel
theorem dX10_law_99 : decode cX10_law 99 = .ok (.iaload, 1) := by decide +kernel
theorem dX10_law_100 : decode cX10_law 100 = .ok (.bipush 8, 2) := by decide +kernel
theorem dX10_law_102 : decode cX10_law 102 = .ok (.if_icmp .ne 9, 3) := by decide +kernel
theorem dX10_law_105 : decode cX10_law 105 = .ok (.aload_n 0, 1) := by decide +kernel
theorem dX10_law_106 : decode cX10_law 106 = .ok (.iconst 3, 1) := by decide +kernel
theorem dX10_law_107 : decode cX10_law 107 = .ok (.invokevirtual 144, 3) := by decide +kernel
theorem dX10_law_110 : decode cX10_law 110 = .ok (.ireturn, 1) := by decide +kernel
theorem dX10_law_111 : decode cX10_law 111 = .ok (.aload_n 0, 1) := by decide +kernel
theorem dX10_law_112 : decode cX10_law 112 = .ok (.invokevirtual 131, 3) := by decide +kernel
theorem dX10_law_115 : decode cX10_law 115 = .ok (.aload_n 0, 1) := by decide +kernel
theorem dX10_law_116 : decode cX10_law 116 = .ok (.getfield 7, 3) := by decide +kernel
theorem dX10_law_119 : decode cX10_law 119 = .ok (.bipush 45, 2) := by decide +kernel
theorem dX10_law_121 : decode cX10_law 121 = .ok (.aload_n 0, 1) := by decide +kernel
theorem dX10_law_122 : decode cX10_law 122 = .ok (.getfield 7, 3) := by decide +kernel
theorem dX10_law_125 : decode cX10_law 125 = .ok (.bipush 44, 2) := by decide +kernel
theorem dX10_law_127 : decode cX10_law 127 = .ok (.iaload, 1) := by decide +kernel
theorem dX10_law_128 : decode cX10_law 128 = .ok (.iadd, 1) := by decide +kernel
theorem dX10_law_129 : decode cX10_law 129 = .ok (.iload_n 2, 1) := by decide +kernel
theorem dX10_law_130 : decode cX10_law 130 = .ok (.iastore, 1) := by decide +kernel
theorem dX10_law_131 : decode cX10_law 131 = .ok (.aload_n 0, 1) := by decide +kernel
theorem dX10_law_132 : decode cX10_law 132 = .ok (.getfield 7, 3) := by decide +kernel
theorem dX10_law_135 : decode cX10_law 135 = .ok (.bipush 44, 2) := by decide +kernel
theorem dX10_law_137 : decode cX10_law 137 = .ok (.dup2, 1) := by decide +kernel
theorem dX10_law_138 : decode cX10_law 138 = .ok (.iaload, 1) := by decide +kernel
theorem dX10_law_139 : decode cX10_law 139 = .ok (.iconst 1, 1) := by decide +kernel
theorem dX10_law_140 : decode cX10_law 140 = .ok (.iadd, 1) := by decide +kernel
theorem dX10_law_141 : decode cX10_law 141 = .ok (.iastore, 1) := by decide +kernel
theorem dX10_law_142 : decode cX10_law 142 = .ok (.aload_n 0, 1) := by decide +kernel
theorem dX10_law_143 : decode cX10_law 143 = .ok (.getfield 7, 3) := by decide +kernel
theorem dX10_law_146 : decode cX10_law 146 = .ok (.bipush 44, 2) := by decide +kernel
theorem dX10_law_148 : decode cX10_law 148 = .ok (.iaload, 1) := by decide +kernel
theorem dX10_law_149 : decode cX10_law 149 = .ok (.iconst 1, 1) := by decide +kernel
theorem dX10_law_150 : decode cX10_law 150 = .ok (.isub, 1) := by decide +kernel
theorem dX10_law_151 : decode cX10_law 151 = .ok (.ireturn, 1) := by decide +kernel
set_option maxHeartbeats 4000000 in
set_option maxRecDepth 100000 in
theorem k_X10_law (l : Launch) (D : va_G) (cy : Nat → ClassId) {L : List Nat} {τ : Nat → Ro} {E : Ec} (hI : Inv TB cy L τ E) {a0 : Nat} (ha0 : a0 ∈ L) (ta0 : τ a0 = (11, 0)) (a1 : Int32) (hC : Chain L τ E) (hS : SlotOK L τ E) : CtI l yX10_law wsX10_law { frames := 5, cells := 0, slots := 0, locals := 127 } D TB cy L τ E [.ref a0, .int a1] (inW [(11, 0), (74, 0), (75, 0), (76, 0), (77, 0), (78, 0), (79, 0), (80, 0), (73, 0), (60, 0), (61, 0)]) (fun r E' => ((0 ≤ a1.toInt ∧ a1.toInt ≤ (fi E a0 20).toInt ∧ (fi E' a0 20).toInt = 0) ∨ (¬ (0 ≤ a1.toInt ∧ a1.toInt ≤ (fi E a0 20).toInt) ∧ (fi E' a0 20).toInt = (fi E a0 20).toInt)) ∧ (∀ k : Nat, k ∉ ([2, 3, 4, 5, 6, 20, 21, 22] : List Nat) → fi E' a0 k = fi E a0 k) ∧ Chain L τ E' ∧ SlotOK L τ E') := by
  intro sz
  refine sta (cc := cX10_law) (maxL := 3) hI (by decide) rfl (Nat.le_of_ble_eq_true rfl) (fun p e s m args below meth c ls hsz Z S0 hl => ?_)
  have hx := Z.1.1
  have hb := Z.1.2.1
  have hts := Z.1.2.2.2.2
  have F0_ : Fr L τ (inW [(11, 0), (74, 0), (75, 0), (76, 0), (77, 0), (78, 0), (79, 0), (80, 0), (73, 0), (60, 0), (61, 0)]) E E := Fr.refl
  have hl : lv_has ls 3 [(0, .ref a0), (1, .int a1)] := hl
  generalize hQ : MQ below _ args s 0 0 _ = QQ
  obtain ⟨qn, hqn, tqn⟩ := ref_of (k := 0) hI ha0 ta0 rfl rfl
  have tqn : τ qn = (60, 0) := tqn
  obtain ⟨qp, hqp, tqp⟩ := ref_of (k := 1) hI ha0 ta0 rfl rfl
  have tqp : τ qp = (61, 0) := tqp
  obtain ⟨ql, hql, tql⟩ := ref_of (k := 24) hI ha0 ta0 rfl rfl
  have tql : τ ql = (75, 0) := tql
  obtain ⟨qr, hqr, tqr⟩ := ref_of (k := 25) hI ha0 ta0 rfl rfl
  have tqr : τ qr = (76, 0) := tqr
  obtain ⟨qm, hqm, tqm⟩ := ref_of (k := 26) hI ha0 ta0 rfl rfl
  have tqm : τ qm = (77, 0) := tqm
  obtain ⟨qd, hqd, tqd⟩ := ref_of (k := 28) hI ha0 ta0 rfl rfl
  have tqd : τ qd = (79, 0) := tqd
  have kz_a0_20 := fi_rng (k := 20) hI ha0 ta0 rfl rfl
  have J26 : ∀ (n : Nat) (x2_26 : Int32) (E_26 : Ec) (H_26 : Heap) (k_26 : List Loc) (l_26 : Array Slot), Now D TB cy (va_A (va_pl L E) sz) s L τ E_26 H_26 k_26 → Fr L τ (inW [(11, 0), (74, 0), (75, 0), (76, 0), (77, 0), (78, 0), (79, 0), (80, 0), (73, 0), (60, 0), (61, 0)]) E E_26 → (0 ≤ a1.toInt) → (a1.toInt ≤ 120) → (0 ≤ x2_26.toInt) → (x2_26.toInt ≤ 120) → (SlotOK L τ E_26) → (Chain L τ E_26) → (∀ k : Nat, k ∉ ([2, 3, 4, 5, 6, 20, 21, 22] : List Nat) → fi E_26 a0 k = fi E a0 k) → (0 ≤ (fi E_26 a0 20).toInt ∧ (fi E_26 a0 20).toInt ≤ 120 ∧ (fi E_26 a0 20).toInt = (fi E a0 20).toInt ∧ 0 ≤ a1.toInt ∧ a1.toInt ≤ (fi E a0 20).toInt) → (120 - x2_26.toInt).toNat < n → lv_has l_26 3 [(0, .ref a0), (1, .int a1), (2, .int x2_26)] → W p l e { frames := 5, cells := 0, slots := 0, locals := 127 } s m args below meth c H_26 k_26 0 0 QQ (F0 m 26 l_26 []) := by
    intro n
    induction n with
    | zero => intro x2_26 E_26 H_26 k_26 l_26 S_26 F_26 z1 z2 z3 z4 z5 z6 z7 z8 hm hl_26; exact absurd hm (Nat.not_lt_zero _)
    | succ n ih =>
      intro x2_26 E_26 H_26 k_26 l_26 S_26 F_26 z1 z2 z3 z4 z5 z6 z7 z8 hm hl_26
      have ih_26 := ih
      refine lv_iload_n hx hb dX10_law_26 rfl (lv_at hl_26 2 rfl) ?_
      refine lv_iload_n hx hb dX10_law_27 rfl (lv_at hl_26 1 rfl) ?_
      refine lv_icmp_ge (tgt := 49) hx hb dX10_law_28 (by decide) (fun c9 => ?_) (fun c9 => ?_)
      · skip
        have tc9 := nu_le c9
        refine lv_aload_n hx hb dX10_law_49 rfl (lv_at hl_26 0 rfl) ?_
        refine lv_iload_n hx hb dX10_law_50 rfl (lv_at hl_26 1 rfl) ?_
        refine tr_puti Z.1 Z.2.2.2.1 S_26.1 S_26.2 ha0 ta0 rfl rfl (fun _ h => List.mem_cons_of_mem _ (List.mem_append_right _ h)) tyX10_ok nmX10 21 (by decide) rfl rfl rfl (hts _ (List.mem_of_getElem? (i := 5) rfl)) dX10_law_51 (by omega) (by omega) (fun E10 H11 k12 W10 I10 P10 => ?_)
        have S10 : Now D TB cy (va_A (va_pl L E) sz) s L τ E10 H11 k12 := ⟨W10, I10⟩
        have F10 : Fr L τ (inW [(11, 0), (74, 0), (75, 0), (76, 0), (77, 0), (78, 0), (79, 0), (80, 0), (73, 0), (60, 0), (61, 0)]) E E10 := Fr.put F_26 P10 ta0 rfl
        refine lv_aload_n hx hb dX10_law_54 rfl (lv_at hl_26 0 rfl) ?_
        obtain ⟨v13, ev13, tv13⟩ : ∃ v : Int32, Int32.ofInt (0) = v ∧ v.toInt = 0 := ⟨_, rfl, by decide +kernel⟩
        refine lv_iconst hx hb dX10_law_55 ev13 ?_
        refine tr_puti Z.1 Z.2.2.2.1 S10.1 S10.2 ha0 ta0 rfl rfl (fun _ h => List.mem_cons_of_mem _ (List.mem_append_right _ h)) tyX10_ok nmX10 20 (by decide) rfl rfl rfl (hts _ (List.mem_of_getElem? (i := 2) rfl)) dX10_law_56 (by omega) (by omega) (fun E14 H15 k16 W14 I14 P14 => ?_)
        have S14 : Now D TB cy (va_A (va_pl L E) sz) s L τ E14 H15 k16 := ⟨W14, I14⟩
        have F14 : Fr L τ (inW [(11, 0), (74, 0), (75, 0), (76, 0), (77, 0), (78, 0), (79, 0), (80, 0), (73, 0), (60, 0), (61, 0)]) E E14 := Fr.put F10 P14 ta0 rfl
        refine lv_aload_n hx hb dX10_law_59 rfl (lv_at hl_26 0 rfl) ?_
        obtain ⟨v17, ev17, tv17⟩ : ∃ v : Int32, Int32.ofInt (0) = v ∧ v.toInt = 0 := ⟨_, rfl, by decide +kernel⟩
        refine lv_iconst hx hb dX10_law_60 ev17 ?_
        refine tr_puti Z.1 Z.2.2.2.1 S14.1 S14.2 ha0 ta0 rfl rfl (fun _ h => List.mem_cons_of_mem _ (List.mem_append_right _ h)) tyX10_ok nmX10 5 (by decide) rfl rfl rfl (hts _ (List.mem_of_getElem? (i := 6) rfl)) dX10_law_61 (by have := fb_rng v17; omega) (by have := fb_rng v17; omega) (fun E18 H19 k20 W18 I18 P18 => ?_)
        have S18 : Now D TB cy (va_A (va_pl L E) sz) s L τ E18 H19 k20 := ⟨W18, I18⟩
        have F18 : Fr L τ (inW [(11, 0), (74, 0), (75, 0), (76, 0), (77, 0), (78, 0), (79, 0), (80, 0), (73, 0), (60, 0), (61, 0)]) E E18 := Fr.put F14 P18 ta0 rfl
        refine lv_aload_n hx hb dX10_law_64 rfl (lv_at hl_26 0 rfl) ?_
        obtain ⟨v21, ev21, tv21⟩ : ∃ v : Int32, Int32.ofInt (-1) = v ∧ v.toInt = -1 := ⟨_, rfl, by decide +kernel⟩
        refine lv_iconst hx hb dX10_law_65 ev21 ?_
        refine tr_puti Z.1 Z.2.2.2.1 S18.1 S18.2 ha0 ta0 rfl rfl (fun _ h => List.mem_cons_of_mem _ (List.mem_append_right _ h)) tyX10_ok nmX10 6 (by decide) rfl rfl rfl (hts _ (List.mem_of_getElem? (i := 7) rfl)) dX10_law_66 (by have := fb_rng v21; omega) (by have := fb_rng v21; omega) (fun E22 H23 k24 W22 I22 P22 => ?_)
        have S22 : Now D TB cy (va_A (va_pl L E) sz) s L τ E22 H23 k24 := ⟨W22, I22⟩
        have F22 : Fr L τ (inW [(11, 0), (74, 0), (75, 0), (76, 0), (77, 0), (78, 0), (79, 0), (80, 0), (73, 0), (60, 0), (61, 0)]) E E22 := Fr.put F18 P22 ta0 rfl
        refine lv_aload_n hx hb dX10_law_69 rfl (lv_at hl_26 0 rfl) ?_
        refine tc_vi Z.1 Z.2.2.2.1 Z.2.2.2.2.1 Z.2.2.2.2.2 S22.1 S22.2 ha0 ta0 rfl rfl (k_X10_freeSlot l D cy S22.2 ha0 ta0 (Chain.same z6 S22.2 ha0 ta0 hqn tqn hqp tqp ((P22.1 qn (ne_ro tqn ta0 (by decide))).trans ((P18.1 qn (ne_ro tqn ta0 (by decide))).trans ((P14.1 qn (ne_ro tqn ta0 (by decide))).trans (P10.1 qn (ne_ro tqn ta0 (by decide)))))) ((P22.1 qp (ne_ro tqp ta0 (by decide))).trans ((P18.1 qp (ne_ro tqp ta0 (by decide))).trans ((P14.1 qp (ne_ro tqp ta0 (by decide))).trans (P10.1 qp (ne_ro tqp ta0 (by decide)))))) ((fi_put P22 (Or.inr (by decide))).trans ((fi_put P18 (Or.inr (by decide))).trans ((fi_put P14 (Or.inr (by decide))).trans (fi_put P10 (Or.inr (by decide)))))))) (cwV 0 hts gX10_law_X10_freeSlot rfl rfl rfl (by decide +kernel) ⟨Nat.le_of_ble_eq_true rfl, Nat.le_of_ble_eq_true rfl⟩) rfl hl_26.1 rfl (Nat.le_of_ble_eq_true rfl) dX10_law_70 ⟨Nat.zero_le _, Nat.zero_le _⟩ (fun v28 E25 H26 k27 W25 I25 G25 p25 => ?_)
        obtain ⟨q25, p25_0, p25_1⟩ := p25
        have q25 := q25.symm
        subst q25
        have S25 : Now D TB cy (va_A (va_pl L E) sz) s L τ E22 H26 k27 := ⟨W25, I25⟩
        refine lv_istore_n (lv' := [(2, .int v28), (0, .ref a0), (1, .int a1)]) hx hb dX10_law_73 rfl hl_26 (by decide) rfl (fun l29 hl30 => ?_)
        refine lv_aload_n hx hb dX10_law_74 rfl (lv_at hl30 1 rfl) ?_
        refine lv_iload_n hx hb dX10_law_75 rfl (lv_at hl30 0 rfl) ?_
        refine tc_vv Z.1 Z.2.2.2.1 Z.2.2.2.2.1 Z.2.2.2.2.2 S25.1 S25.2 ha0 ta0 rfl rfl (k_X10_read l D cy S25.2 ha0 ta0 v28 (by omega) (by omega) (SlotOK.same z5 S25.2 hql tql hqr tqr hqm tqm hqd tqd ((P22.1 ql (ne_ro tql ta0 (by decide))).trans ((P18.1 ql (ne_ro tql ta0 (by decide))).trans ((P14.1 ql (ne_ro tql ta0 (by decide))).trans (P10.1 ql (ne_ro tql ta0 (by decide)))))) ((P22.1 qr (ne_ro tqr ta0 (by decide))).trans ((P18.1 qr (ne_ro tqr ta0 (by decide))).trans ((P14.1 qr (ne_ro tqr ta0 (by decide))).trans (P10.1 qr (ne_ro tqr ta0 (by decide)))))) ((P22.1 qm (ne_ro tqm ta0 (by decide))).trans ((P18.1 qm (ne_ro tqm ta0 (by decide))).trans ((P14.1 qm (ne_ro tqm ta0 (by decide))).trans (P10.1 qm (ne_ro tqm ta0 (by decide)))))) ((P22.1 qd (ne_ro tqd ta0 (by decide))).trans ((P18.1 qd (ne_ro tqd ta0 (by decide))).trans ((P14.1 qd (ne_ro tqd ta0 (by decide))).trans (P10.1 qd (ne_ro tqd ta0 (by decide)))))))) (cwV 1 hts gX10_law_X10_read rfl rfl rfl (by decide +kernel) ⟨Nat.le_of_ble_eq_true rfl, Nat.le_of_ble_eq_true rfl⟩) rfl hl30.1 rfl (Nat.le_of_ble_eq_true rfl) dX10_law_76 ⟨Nat.zero_le _, Nat.zero_le _⟩ (fun E31 H32 k33 W31 I31 G31 p31 => ?_)
        obtain ⟨p31_0, p31_1⟩ := p31
        have S31 : Now D TB cy (va_A (va_pl L E) sz) s L τ E31 H32 k33 := ⟨W31, I31⟩
        have F31 : Fr L τ (inW [(11, 0), (74, 0), (75, 0), (76, 0), (77, 0), (78, 0), (79, 0), (80, 0), (73, 0), (60, 0), (61, 0)]) E E31 := F22.trans (G31.mono (inW_mono (by decide)))
        refine lv_aload_n hx hb dX10_law_79 rfl (lv_at hl30 1 rfl) ?_
        refine tc_vi Z.1 Z.2.2.2.1 Z.2.2.2.2.1 Z.2.2.2.2.2 S31.1 S31.2 ha0 ta0 rfl rfl (k_X10_bad l D cy S31.2 ha0 ta0) (cwV 0 hts gX10_law_X10_bad rfl rfl rfl (by decide +kernel) ⟨Nat.le_of_ble_eq_true rfl, Nat.le_of_ble_eq_true rfl⟩) rfl hl30.1 rfl (Nat.le_of_ble_eq_true rfl) dX10_law_80 ⟨Nat.zero_le _, Nat.zero_le _⟩ (fun v38 E35 H36 k37 W35 I35 G35 p35 => ?_)
        obtain ⟨q35, p35_0, p35_1, p35_2⟩ := p35
        have q35 := q35.symm
        subst q35
        have S35 : Now D TB cy (va_A (va_pl L E) sz) s L τ E31 H36 k37 := ⟨W35, I35⟩
        have kz35_5 := fi_rng (k := 5) S35.2 ha0 ta0 rfl rfl
        refine lv_if_eq (tgt := 93) hx hb dX10_law_83 (by decide) (fun c39 => ?_) (fun c39 => ?_)
        · skip
          have tc39 := nu_eq c39
          have uc39 : (0 : Int32).toInt = 0 := rfl
          refine lv_aload_n hx hb dX10_law_93 rfl (lv_at hl30 1 rfl) ?_
          refine tr_getr Z.1 Z.2.2.2.1 S35.1 S35.2 ha0 ta0 rfl rfl (fun _ h => List.mem_cons_of_mem _ (List.mem_append_right _ h)) 0 (by decide) rfl (hts _ (List.mem_of_getElem? (i := 9) rfl)) dX10_law_94 (fun q40 eq40 hq40 tq40 => ?_)
          have tq40 : τ q40 = (60, 0) := tq40
          have uq40 : qn = q40 := S35.2.2.2.2 _ hqn _ hq40 (tqn.trans tq40.symm) (by rw [tqn]; rfl)
          subst uq40
          obtain ⟨v41, ev41, tv41⟩ : ∃ v : Int32, (Int8.ofInt (44)).toInt32 = v ∧ v.toInt = 44 := ⟨_, rfl, by decide +kernel⟩
          refine lv_bipush hx hb dX10_law_97 ev41 ?_
          refine tr_ialdx Z.1 Z.2.2.2.1 S35.1 S35.2 hqn tqn rfl (by omega) (by omega) dX10_law_99 (fun v42 ev42 lv42 uv42 => ?_)
          have bv42 : nowB v41.toNatClampNeg = (0, 8) := nb_44 (by show v41.toInt.toNat = 44; omega)
          rw [bv42] at lv42 uv42
          have lv42 : 0 ≤ v42.toInt := lv42
          have uv42 : v42.toInt ≤ 8 := uv42
          have av42 : ai E31 qn 44 = v42 := ai_at ev42 (by omega)
          obtain ⟨v43, ev43, tv43⟩ : ∃ v : Int32, (Int8.ofInt (8)).toInt32 = v ∧ v.toInt = 8 := ⟨_, rfl, by decide +kernel⟩
          refine lv_bipush hx hb dX10_law_100 ev43 ?_
          refine lv_icmp_ne (tgt := 111) hx hb dX10_law_102 (by decide) (fun c44 => ?_) (fun c44 => ?_)
          · skip
            have tc44 := nu_ne c44
            refine lv_aload_n hx hb dX10_law_111 rfl (lv_at hl30 1 rfl) ?_
            refine tc_vv Z.1 Z.2.2.2.1 Z.2.2.2.2.1 Z.2.2.2.2.2 S35.1 S35.2 ha0 ta0 rfl rfl (k_X10_act l D cy S35.2 ha0 ta0 (Chain.same z6 S35.2 ha0 ta0 hqn tqn hqp tqp ((G31 qn hqn (by rw [tqn]; rfl)).trans ((P22.1 qn (ne_ro tqn ta0 (by decide))).trans ((P18.1 qn (ne_ro tqn ta0 (by decide))).trans ((P14.1 qn (ne_ro tqn ta0 (by decide))).trans (P10.1 qn (ne_ro tqn ta0 (by decide))))))) ((G31 qp hqp (by rw [tqp]; rfl)).trans ((P22.1 qp (ne_ro tqp ta0 (by decide))).trans ((P18.1 qp (ne_ro tqp ta0 (by decide))).trans ((P14.1 qp (ne_ro tqp ta0 (by decide))).trans (P10.1 qp (ne_ro tqp ta0 (by decide))))))) ((p31_0 2 (by decide)).trans ((fi_put P22 (Or.inr (by decide))).trans ((fi_put P18 (Or.inr (by decide))).trans ((fi_put P14 (Or.inr (by decide))).trans (fi_put P10 (Or.inr (by decide))))))))) (cwV 0 hts gX10_law_X10_act rfl rfl rfl (by decide +kernel) ⟨Nat.le_of_ble_eq_true rfl, Nat.le_of_ble_eq_true rfl⟩) rfl hl30.1 rfl (Nat.le_of_ble_eq_true rfl) dX10_law_112 ⟨Nat.zero_le _, Nat.zero_le _⟩ (fun E45 H46 k47 W45 I45 G45 p45 => ?_)
            obtain ⟨p45_0, p45_1⟩ := p45
            have S45 : Now D TB cy (va_A (va_pl L E) sz) s L τ E45 H46 k47 := ⟨W45, I45⟩
            have F45 : Fr L τ (inW [(11, 0), (74, 0), (75, 0), (76, 0), (77, 0), (78, 0), (79, 0), (80, 0), (73, 0), (60, 0), (61, 0)]) E E45 := F31.trans (G45.mono (inW_mono (by decide)))
            have C49 : ∀ T : Nat → Int32, Link (ai E_26 qn) T → ChW E45 a0 qp T := fun T hT => p45_0 qn hqn tqn qp hqp tqp T (by rw [ai_cell ((G31 qn hqn (by rw [tqn]; rfl)).trans ((P22.1 qn (ne_ro tqn ta0 (by decide))).trans ((P18.1 qn (ne_ro tqn ta0 (by decide))).trans ((P14.1 qn (ne_ro tqn ta0 (by decide))).trans (P10.1 qn (ne_ro tqn ta0 (by decide)))))))]; exact hT)
            have B50 : ∀ j : Nat, 44 ≤ j → j ≤ 52 → ai E45 qn j = ai E_26 qn j := fun j _ _ => ((ai_fr G45 hqn (by rw [tqn]; rfl)).trans ((ai_fr G31 hqn (by rw [tqn]; rfl)).trans ((ai_put P22 (ne_ro tqn ta0 (by decide))).trans ((ai_put P18 (ne_ro tqn ta0 (by decide))).trans ((ai_put P14 (ne_ro tqn ta0 (by decide))).trans (ai_put P10 (ne_ro tqn ta0 (by decide))))))))
            refine lv_aload_n hx hb dX10_law_115 rfl (lv_at hl30 1 rfl) ?_
            refine tr_getr Z.1 Z.2.2.2.1 S45.1 S45.2 ha0 ta0 rfl rfl (fun _ h => List.mem_cons_of_mem _ (List.mem_append_right _ h)) 0 (by decide) rfl (hts _ (List.mem_of_getElem? (i := 9) rfl)) dX10_law_116 (fun q51 eq51 hq51 tq51 => ?_)
            have tq51 : τ q51 = (60, 0) := tq51
            have uq51 : qn = q51 := S45.2.2.2.2 _ hqn _ hq51 (tqn.trans tq51.symm) (by rw [tqn]; rfl)
            subst uq51
            obtain ⟨v52, ev52, tv52⟩ : ∃ v : Int32, (Int8.ofInt (45)).toInt32 = v ∧ v.toInt = 45 := ⟨_, rfl, by decide +kernel⟩
            refine lv_bipush hx hb dX10_law_119 ev52 ?_
            refine lv_aload_n hx hb dX10_law_121 rfl (lv_at hl30 1 rfl) ?_
            refine tr_getr Z.1 Z.2.2.2.1 S45.1 S45.2 ha0 ta0 rfl rfl (fun _ h => List.mem_cons_of_mem _ (List.mem_append_right _ h)) 0 (by decide) rfl (hts _ (List.mem_of_getElem? (i := 9) rfl)) dX10_law_122 (fun q53 eq53 hq53 tq53 => ?_)
            have tq53 : τ q53 = (60, 0) := tq53
            have uq53 : qn = q53 := S45.2.2.2.2 _ hqn _ hq53 (tqn.trans tq53.symm) (by rw [tqn]; rfl)
            subst uq53
            obtain ⟨v54, ev54, tv54⟩ : ∃ v : Int32, (Int8.ofInt (44)).toInt32 = v ∧ v.toInt = 44 := ⟨_, rfl, by decide +kernel⟩
            refine lv_bipush hx hb dX10_law_125 ev54 ?_
            refine tr_ialdx Z.1 Z.2.2.2.1 S45.1 S45.2 hqn tqn rfl (by omega) (by omega) dX10_law_127 (fun v55 ev55 lv55 uv55 => ?_)
            have bv55 : nowB v54.toNatClampNeg = (0, 8) := nb_44 (by show v54.toInt.toNat = 44; omega)
            rw [bv55] at lv55 uv55
            have lv55 : 0 ≤ v55.toInt := lv55
            have uv55 : v55.toInt ≤ 8 := uv55
            have av55 : ai E45 qn 44 = v55 := ai_at ev55 (by omega)
            have wv55 : v55 = v42 := av55.symm.trans ((ai_fr G45 hqn (by rw [tqn]; rfl)).trans av42)
            have xv55 : v55.toInt = v42.toInt := by rw [wv55]
            refine lv_iadd hx hb dX10_law_128 ?_
            refine lv_topi (fun v56 ev56 => ?_)
            have tv56 := nu_add ev56 (by omega) (by omega)
            refine lv_iload_n hx hb dX10_law_129 rfl (lv_at hl30 0 rfl) ?_
            have b57 : nowB v56.toNatClampNeg = (0, 49) := nb_45 (by show 45 ≤ v56.toInt.toNat ∧ v56.toInt.toNat ≤ 52; omega)
            have b57 : (nowB v56.toNatClampNeg).1 ≤ v28.toInt ∧ v28.toInt ≤ (nowB v56.toNatClampNeg).2 := by rw [b57]; have := fb_rng v28; show 0 ≤ v28.toInt ∧ v28.toInt ≤ 49; omega
            refine tr_iastx Z.1 Z.2.2.2.1 S45.1 S45.2 hqn tqn rfl (by omega) (by omega) b57.1 b57.2 dX10_law_130 (fun E57 H58 k59 W57 I57 P57 => ?_)
            have S57 : Now D TB cy (va_A (va_pl L E) sz) s L τ E57 H58 k59 := ⟨W57, I57⟩
            have F57 : Fr L τ (inW [(11, 0), (74, 0), (75, 0), (76, 0), (77, 0), (78, 0), (79, 0), (80, 0), (73, 0), (60, 0), (61, 0)]) E E57 := Fr.set F45 P57 tqn rfl
            refine lv_aload_n hx hb dX10_law_131 rfl (lv_at hl30 1 rfl) ?_
            refine tr_getr Z.1 Z.2.2.2.1 S57.1 S57.2 ha0 ta0 rfl rfl (fun _ h => List.mem_cons_of_mem _ (List.mem_append_right _ h)) 0 (by decide) rfl (hts _ (List.mem_of_getElem? (i := 9) rfl)) dX10_law_132 (fun q60 eq60 hq60 tq60 => ?_)
            have tq60 : τ q60 = (60, 0) := tq60
            have uq60 : qn = q60 := S57.2.2.2.2 _ hqn _ hq60 (tqn.trans tq60.symm) (by rw [tqn]; rfl)
            subst uq60
            obtain ⟨v61, ev61, tv61⟩ : ∃ v : Int32, (Int8.ofInt (44)).toInt32 = v ∧ v.toInt = 44 := ⟨_, rfl, by decide +kernel⟩
            refine lv_bipush hx hb dX10_law_135 ev61 ?_
            refine lv_dup2_11 hx hb dX10_law_137 rfl rfl ?_
            refine tr_ialdx Z.1 Z.2.2.2.1 S57.1 S57.2 hqn tqn rfl (by omega) (by omega) dX10_law_138 (fun v62 ev62 lv62 uv62 => ?_)
            have bv62 : nowB v61.toNatClampNeg = (0, 8) := nb_44 (by show v61.toInt.toNat = 44; omega)
            rw [bv62] at lv62 uv62
            have lv62 : 0 ≤ v62.toInt := lv62
            have uv62 : v62.toInt ≤ 8 := uv62
            have av62 : ai E57 qn 44 = v62 := ai_at ev62 (by omega)
            have wv62 : v62 = v55 := av62.symm.trans ((ai_setk P57 (by show (44 : Nat) ≠ v56.toInt.toNat; omega)).trans av55)
            have xv62 : v62.toInt = v55.toInt := by rw [wv62]
            obtain ⟨v63, ev63, tv63⟩ : ∃ v : Int32, Int32.ofInt (1) = v ∧ v.toInt = 1 := ⟨_, rfl, by decide +kernel⟩
            refine lv_iconst hx hb dX10_law_139 ev63 ?_
            refine lv_iadd hx hb dX10_law_140 ?_
            refine lv_topi (fun v64 ev64 => ?_)
            have tv64 := nu_add ev64 (by omega) (by omega)
            have b65 : nowB v61.toNatClampNeg = (0, 8) := nb_44 (by show v61.toInt.toNat = 44; omega)
            have b65 : (nowB v61.toNatClampNeg).1 ≤ v64.toInt ∧ v64.toInt ≤ (nowB v61.toNatClampNeg).2 := by rw [b65]; have := fb_rng v64; show 0 ≤ v64.toInt ∧ v64.toInt ≤ 8; omega
            refine tr_iastx Z.1 Z.2.2.2.1 S57.1 S57.2 hqn tqn rfl (by omega) (by omega) b65.1 b65.2 dX10_law_141 (fun E65 H66 k67 W65 I65 P65 => ?_)
            have S65 : Now D TB cy (va_A (va_pl L E) sz) s L τ E65 H66 k67 := ⟨W65, I65⟩
            have F65 : Fr L τ (inW [(11, 0), (74, 0), (75, 0), (76, 0), (77, 0), (78, 0), (79, 0), (80, 0), (73, 0), (60, 0), (61, 0)]) E E65 := Fr.set F57 P65 tqn rfl
            refine lv_aload_n hx hb dX10_law_142 rfl (lv_at hl30 1 rfl) ?_
            refine tr_getr Z.1 Z.2.2.2.1 S65.1 S65.2 ha0 ta0 rfl rfl (fun _ h => List.mem_cons_of_mem _ (List.mem_append_right _ h)) 0 (by decide) rfl (hts _ (List.mem_of_getElem? (i := 9) rfl)) dX10_law_143 (fun q68 eq68 hq68 tq68 => ?_)
            have tq68 : τ q68 = (60, 0) := tq68
            have uq68 : qn = q68 := S65.2.2.2.2 _ hqn _ hq68 (tqn.trans tq68.symm) (by rw [tqn]; rfl)
            subst uq68
            obtain ⟨v69, ev69, tv69⟩ : ∃ v : Int32, (Int8.ofInt (44)).toInt32 = v ∧ v.toInt = 44 := ⟨_, rfl, by decide +kernel⟩
            refine lv_bipush hx hb dX10_law_146 ev69 ?_
            refine tr_ialdx Z.1 Z.2.2.2.1 S65.1 S65.2 hqn tqn rfl (by omega) (by omega) dX10_law_148 (fun v70 ev70 lv70 uv70 => ?_)
            have bv70 : nowB v69.toNatClampNeg = (0, 8) := nb_44 (by show v69.toInt.toNat = 44; omega)
            rw [bv70] at lv70 uv70
            have lv70 : 0 ≤ v70.toInt := lv70
            have uv70 : v70.toInt ≤ 8 := uv70
            have av70 : ai E65 qn 44 = v70 := ai_at ev70 (by omega)
            have wv70 : v70 = v64 := av70.symm.trans (ai_at P65.2.1 (show v61.toInt = 44 by omega))
            have xv70 : v70.toInt = v64.toInt := by rw [wv70]
            obtain ⟨v71, ev71, tv71⟩ : ∃ v : Int32, Int32.ofInt (1) = v ∧ v.toInt = 1 := ⟨_, rfl, by decide +kernel⟩
            refine lv_iconst hx hb dX10_law_149 ev71 ?_
            refine lv_isub hx hb dX10_law_150 ?_
            refine lv_topi (fun v72 ev72 => ?_)
            have tv72 := nu_sub ev72 (by omega) (by omega)
            rw [← hQ]
            exact en_i Z S65 F65 ⟨(by rw [((fi_set P65 (ne_ro ta0 tqn (by decide))).trans ((fi_set P57 (ne_ro ta0 tqn (by decide))).trans ((p45_1 20 (by decide)).trans ((p31_0 20 (by decide)).trans ((fi_put P22 (Or.inr (by decide))).trans ((fi_put P18 (Or.inr (by decide))).trans (fi_at P14)))))))]; omega), (fun k hk => ((fi_set P65 (ne_ro ta0 tqn (by decide))).trans ((fi_set P57 (ne_ro ta0 tqn (by decide))).trans ((p45_1 k (fw_sub (by decide) hk)).trans ((p31_0 k (fw_sub (by decide) hk)).trans ((fi_put P22 (Or.inr (fw_ne (by decide) hk))).trans ((fi_put P18 (Or.inr (fw_ne (by decide) hk))).trans ((fi_put P14 (Or.inr (fw_ne (by decide) hk))).trans ((fi_put P10 (Or.inr (fw_ne (by decide) hk))).trans (z7 k hk)))))))))), (Chain.post C49 S65.2 ha0 ta0 hqn tqn hqp tqp ((P65.1 qp (ne_ro tqp tqn (by decide))).trans (P57.1 qp (ne_ro tqp tqn (by decide)))) ((fi_set P65 (ne_ro ta0 tqn (by decide))).trans (fi_set P57 (ne_ro ta0 tqn (by decide)))) (Link.law v55.toInt.toNat (by rw [← B50 44 (by omega) (by omega), av55]; omega) (by rw [show ai E65 qn 44 = v64 from ai_at P65.2.1 (by omega)]; omega) (fun j h1 h2 h3 => ((ai_setk P65 (by show j ≠ v61.toInt.toNat; omega)).trans ((ai_setk P57 (by show j ≠ v56.toInt.toNat; omega)).trans (B50 j (by omega) h2)))))), (SlotOK.same p31_1 S65.2 hql tql hqr tqr hqm tqm hqd tqd ((P65.1 ql (ne_ro tql tqn (by decide))).trans ((P57.1 ql (ne_ro tql tqn (by decide))).trans (G45 ql hql (by rw [tql]; rfl)))) ((P65.1 qr (ne_ro tqr tqn (by decide))).trans ((P57.1 qr (ne_ro tqr tqn (by decide))).trans (G45 qr hqr (by rw [tqr]; rfl)))) ((P65.1 qm (ne_ro tqm tqn (by decide))).trans ((P57.1 qm (ne_ro tqm tqn (by decide))).trans (G45 qm hqm (by rw [tqm]; rfl)))) ((P65.1 qd (ne_ro tqd tqn (by decide))).trans ((P57.1 qd (ne_ro tqd tqn (by decide))).trans (G45 qd hqd (by rw [tqd]; rfl)))))⟩ dX10_law_151
          · skip
            have tc44 := nu_eq c44
            refine lv_aload_n hx hb dX10_law_105 rfl (lv_at hl30 1 rfl) ?_
            obtain ⟨v73, ev73, tv73⟩ : ∃ v : Int32, Int32.ofInt (3) = v ∧ v.toInt = 3 := ⟨_, rfl, by decide +kernel⟩
            refine lv_iconst hx hb dX10_law_106 ev73 ?_
            refine tc_vi Z.1 Z.2.2.2.1 Z.2.2.2.2.1 Z.2.2.2.2.2 S35.1 S35.2 ha0 ta0 rfl rfl (k_X10_no l D cy S35.2 ha0 ta0 v73) (cwV 1 hts gX10_law_X10_no rfl rfl rfl (by decide +kernel) ⟨Nat.le_of_ble_eq_true rfl, Nat.le_of_ble_eq_true rfl⟩) rfl hl30.1 rfl (Nat.le_of_ble_eq_true rfl) dX10_law_107 ⟨Nat.zero_le _, Nat.zero_le _⟩ (fun v77 E74 H75 k76 W74 I74 G74 p74 => ?_)
            obtain ⟨p74_0, p74_1, p74_2⟩ := p74
            have S74 : Now D TB cy (va_A (va_pl L E) sz) s L τ E74 H75 k76 := ⟨W74, I74⟩
            have F74 : Fr L τ (inW [(11, 0), (74, 0), (75, 0), (76, 0), (77, 0), (78, 0), (79, 0), (80, 0), (73, 0), (60, 0), (61, 0)]) E E74 := F31.trans (G74.mono (inW_mono (by decide)))
            rw [← hQ]
            exact en_i Z S74 F74 ⟨(by rw [((p74_2 20 (by decide)).trans ((p31_0 20 (by decide)).trans ((fi_put P22 (Or.inr (by decide))).trans ((fi_put P18 (Or.inr (by decide))).trans (fi_at P14)))))]; omega), (fun k hk => ((p74_2 k (fw_sub (by decide) hk)).trans ((p31_0 k (fw_sub (by decide) hk)).trans ((fi_put P22 (Or.inr (fw_ne (by decide) hk))).trans ((fi_put P18 (Or.inr (fw_ne (by decide) hk))).trans ((fi_put P14 (Or.inr (fw_ne (by decide) hk))).trans ((fi_put P10 (Or.inr (fw_ne (by decide) hk))).trans (z7 k hk)))))))), (Chain.same z6 S74.2 ha0 ta0 hqn tqn hqp tqp ((G74 qn hqn (by rw [tqn]; rfl)).trans ((G31 qn hqn (by rw [tqn]; rfl)).trans ((P22.1 qn (ne_ro tqn ta0 (by decide))).trans ((P18.1 qn (ne_ro tqn ta0 (by decide))).trans ((P14.1 qn (ne_ro tqn ta0 (by decide))).trans (P10.1 qn (ne_ro tqn ta0 (by decide)))))))) ((G74 qp hqp (by rw [tqp]; rfl)).trans ((G31 qp hqp (by rw [tqp]; rfl)).trans ((P22.1 qp (ne_ro tqp ta0 (by decide))).trans ((P18.1 qp (ne_ro tqp ta0 (by decide))).trans ((P14.1 qp (ne_ro tqp ta0 (by decide))).trans (P10.1 qp (ne_ro tqp ta0 (by decide)))))))) ((p74_2 2 (by decide)).trans ((p31_0 2 (by decide)).trans ((fi_put P22 (Or.inr (by decide))).trans ((fi_put P18 (Or.inr (by decide))).trans ((fi_put P14 (Or.inr (by decide))).trans (fi_put P10 (Or.inr (by decide))))))))), (SlotOK.same p31_1 S74.2 hql tql hqr tqr hqm tqm hqd tqd (G74 ql hql (by rw [tql]; rfl)) (G74 qr hqr (by rw [tqr]; rfl)) (G74 qm hqm (by rw [tqm]; rfl)) (G74 qd hqd (by rw [tqd]; rfl)))⟩ dX10_law_110
        · skip
          have tc39 := nu_ne c39
          have uc39 : (0 : Int32).toInt = 0 := rfl
          refine lv_aload_n hx hb dX10_law_86 rfl (lv_at hl30 1 rfl) ?_
          obtain ⟨v78, ev78, tv78⟩ : ∃ v : Int32, Int32.ofInt (2) = v ∧ v.toInt = 2 := ⟨_, rfl, by decide +kernel⟩
          refine lv_iconst hx hb dX10_law_87 ev78 ?_
          refine tr_puti Z.1 Z.2.2.2.1 S35.1 S35.2 ha0 ta0 rfl rfl (fun _ h => List.mem_cons_of_mem _ (List.mem_append_right _ h)) tyX10_ok nmX10 3 (by decide) rfl rfl rfl (hts _ (List.mem_of_getElem? (i := 8) rfl)) dX10_law_88 (by have := fb_rng v78; omega) (by have := fb_rng v78; omega) (fun E79 H80 k81 W79 I79 P79 => ?_)
          have S79 : Now D TB cy (va_A (va_pl L E) sz) s L τ E79 H80 k81 := ⟨W79, I79⟩
          have F79 : Fr L τ (inW [(11, 0), (74, 0), (75, 0), (76, 0), (77, 0), (78, 0), (79, 0), (80, 0), (73, 0), (60, 0), (61, 0)]) E E79 := Fr.put F31 P79 ta0 rfl
          obtain ⟨v82, ev82, tv82⟩ : ∃ v : Int32, Int32.ofInt (-1) = v ∧ v.toInt = -1 := ⟨_, rfl, by decide +kernel⟩
          refine lv_iconst hx hb dX10_law_91 ev82 ?_
          rw [← hQ]
          exact en_i Z S79 F79 ⟨(by rw [((fi_put P79 (Or.inr (by decide))).trans ((p31_0 20 (by decide)).trans ((fi_put P22 (Or.inr (by decide))).trans ((fi_put P18 (Or.inr (by decide))).trans (fi_at P14)))))]; omega), (fun k hk => ((fi_put P79 (Or.inr (fw_ne (by decide) hk))).trans ((p31_0 k (fw_sub (by decide) hk)).trans ((fi_put P22 (Or.inr (fw_ne (by decide) hk))).trans ((fi_put P18 (Or.inr (fw_ne (by decide) hk))).trans ((fi_put P14 (Or.inr (fw_ne (by decide) hk))).trans ((fi_put P10 (Or.inr (fw_ne (by decide) hk))).trans (z7 k hk)))))))), (Chain.same z6 S79.2 ha0 ta0 hqn tqn hqp tqp ((P79.1 qn (ne_ro tqn ta0 (by decide))).trans ((G31 qn hqn (by rw [tqn]; rfl)).trans ((P22.1 qn (ne_ro tqn ta0 (by decide))).trans ((P18.1 qn (ne_ro tqn ta0 (by decide))).trans ((P14.1 qn (ne_ro tqn ta0 (by decide))).trans (P10.1 qn (ne_ro tqn ta0 (by decide)))))))) ((P79.1 qp (ne_ro tqp ta0 (by decide))).trans ((G31 qp hqp (by rw [tqp]; rfl)).trans ((P22.1 qp (ne_ro tqp ta0 (by decide))).trans ((P18.1 qp (ne_ro tqp ta0 (by decide))).trans ((P14.1 qp (ne_ro tqp ta0 (by decide))).trans (P10.1 qp (ne_ro tqp ta0 (by decide)))))))) ((fi_put P79 (Or.inr (by decide))).trans ((p31_0 2 (by decide)).trans ((fi_put P22 (Or.inr (by decide))).trans ((fi_put P18 (Or.inr (by decide))).trans ((fi_put P14 (Or.inr (by decide))).trans (fi_put P10 (Or.inr (by decide))))))))), (SlotOK.same p31_1 S79.2 hql tql hqr tqr hqm tqm hqd tqd (P79.1 ql (ne_ro tql ta0 (by decide))) (P79.1 qr (ne_ro tqr ta0 (by decide))) (P79.1 qm (ne_ro tqm ta0 (by decide))) (P79.1 qd (ne_ro tqd ta0 (by decide))))⟩ dX10_law_92
      · skip
        have tc9 := nu_nle c9
        refine lv_aload_n hx hb dX10_law_31 rfl (lv_at hl_26 0 rfl) ?_
        refine tr_getr Z.1 Z.2.2.2.1 S_26.1 S_26.2 ha0 ta0 rfl rfl (fun _ h => List.mem_cons_of_mem _ (List.mem_append_right _ h)) 19 (by decide) rfl (hts _ (List.mem_of_getElem? (i := 3) rfl)) dX10_law_32 (fun q83 eq83 hq83 tq83 => ?_)
        have tq83 : τ q83 = (73, 0) := tq83
        refine lv_iload_n hx hb dX10_law_35 rfl (lv_at hl_26 2 rfl) ?_
        refine lv_aload_n hx hb dX10_law_36 rfl (lv_at hl_26 0 rfl) ?_
        refine tr_getr Z.1 Z.2.2.2.1 S_26.1 S_26.2 ha0 ta0 rfl rfl (fun _ h => List.mem_cons_of_mem _ (List.mem_append_right _ h)) 18 (by decide) rfl (hts _ (List.mem_of_getElem? (i := 4) rfl)) dX10_law_37 (fun q84 eq84 hq84 tq84 => ?_)
        have tq84 : τ q84 = (72, 0) := tq84
        refine lv_iload_n hx hb dX10_law_40 rfl (lv_at hl_26 2 rfl) ?_
        refine tr_bald Z.1 Z.2.2.2.1 S_26.1 S_26.2 hq84 tq84 rfl (by omega) (by omega) dX10_law_41 (fun v85 ev85 lv85 uv85 => ?_)
        refine tr_bast Z.1 Z.2.2.2.1 S_26.1 S_26.2 hq83 tq83 rfl (by omega) (by omega) dX10_law_42 (fun E86 H87 k88 W86 I86 P86 => ?_)
        have S86 : Now D TB cy (va_A (va_pl L E) sz) s L τ E86 H87 k88 := ⟨W86, I86⟩
        have F86 : Fr L τ (inW [(11, 0), (74, 0), (75, 0), (76, 0), (77, 0), (78, 0), (79, 0), (80, 0), (73, 0), (60, 0), (61, 0)]) E E86 := Fr.set F_26 P86 tq83 rfl
        obtain ⟨v89, ev89⟩ : ∃ y : Int32, x2_26 + Int32.ofInt (1) = y := ⟨_, rfl⟩
        have tv89 : v89.toInt = x2_26.toInt + (1) := by rw [← ev89]; exact (fb_addI (by rw [show (Int32.ofInt (1)).toInt = 1 from by decide +kernel]; omega) (by rw [show (Int32.ofInt (1)).toInt = 1 from by decide +kernel]; omega)).trans (by rw [show (Int32.ofInt (1)).toInt = 1 from by decide +kernel])
        refine lv_iinc (v := v89) (lv' := [(2, .int v89), (0, .ref a0), (1, .int a1)]) hx hb dX10_law_43 hl_26 (k := 2) rfl ev89 (by decide) rfl (fun l90 hl91 => ?_)
        refine lv_goto (tgt := 26) hx hb dX10_law_46 (by decide) ?_
        exact ih_26 v89 E86 H87 k88 l90 S86 F86 (by omega) (by omega) (by omega) (by omega) (SlotOK.same z5 S86.2 hql tql hqr tqr hqm tqm hqd tqd (P86.1 ql (ne_ro tql tq83 (by decide))) (P86.1 qr (ne_ro tqr tq83 (by decide))) (P86.1 qm (ne_ro tqm tq83 (by decide))) (P86.1 qd (ne_ro tqd tq83 (by decide)))) (Chain.same z6 S86.2 ha0 ta0 hqn tqn hqp tqp (P86.1 qn (ne_ro tqn tq83 (by decide))) (P86.1 qp (ne_ro tqp tq83 (by decide))) (fi_set P86 (ne_ro ta0 tq83 (by decide)))) (fun k hk => ((fi_set P86 (ne_ro ta0 tq83 (by decide))).trans (z7 k hk))) (by rw [((fi_set P86 (ne_ro ta0 tq83 (by decide))).trans rfl)]; omega) (by omega) (lv_sub hl91 [1, 2, 0] rfl)
  refine lv_aload_n hx hb dX10_law_0 rfl (lv_at hl 0 rfl) ?_
  obtain ⟨v92, ev92, tv92⟩ : ∃ v : Int32, Int32.ofInt (0) = v ∧ v.toInt = 0 := ⟨_, rfl, by decide +kernel⟩
  refine lv_iconst hx hb dX10_law_1 ev92 ?_
  refine tr_puti Z.1 Z.2.2.2.1 S0.1 S0.2 ha0 ta0 rfl rfl (fun _ h => List.mem_cons_of_mem _ (List.mem_append_right _ h)) tyX10_ok nmX10 4 (by decide) rfl rfl rfl (hts _ (List.mem_of_getElem? (i := 1) rfl)) dX10_law_2 (by omega) (by omega) (fun E93 H94 k95 W93 I93 P93 => ?_)
  have S93 : Now D TB cy (va_A (va_pl L E) sz) s L τ E93 H94 k95 := ⟨W93, I93⟩
  have F93 : Fr L τ (inW [(11, 0), (74, 0), (75, 0), (76, 0), (77, 0), (78, 0), (79, 0), (80, 0), (73, 0), (60, 0), (61, 0)]) E E93 := Fr.put F0_ P93 ta0 rfl
  refine lv_aload_n hx hb dX10_law_5 rfl (lv_at hl 0 rfl) ?_
  refine lv_iload_n hx hb dX10_law_6 rfl (lv_at hl 1 rfl) ?_
  obtain ⟨v96, ev96, tv96⟩ : ∃ v : Int32, Int32.ofInt (0) = v ∧ v.toInt = 0 := ⟨_, rfl, by decide +kernel⟩
  refine lv_iconst hx hb dX10_law_7 ev96 ?_
  refine lv_aload_n hx hb dX10_law_8 rfl (lv_at hl 0 rfl) ?_
  refine tr_geti Z.1 Z.2.2.2.1 S93.1 S93.2 ha0 ta0 rfl rfl (fun _ h => List.mem_cons_of_mem _ (List.mem_append_right _ h)) 20 (by decide) rfl (hts _ (List.mem_of_getElem? (i := 2) rfl)) dX10_law_9 (fun v97 ev97 lv97 uv97 => ?_)
  have wv97 : v97 = (fi E a0 20) := ev97.symm.trans ((fi_put P93 (Or.inr (by decide))).trans rfl)
  have xv97 : v97.toInt = (fi E a0 20).toInt := by rw [wv97]
  refine tc_vi Z.1 Z.2.2.2.1 Z.2.2.2.2.1 Z.2.2.2.2.2 S93.1 S93.2 ha0 ta0 rfl rfl (k_X10_in l D cy S93.2 ha0 ta0 a1 v96 v97) (cwV 3 hts gX10_law_X10_in rfl rfl rfl (by decide +kernel) ⟨Nat.le_of_ble_eq_true rfl, Nat.le_of_ble_eq_true rfl⟩) rfl hl.1 rfl (Nat.le_of_ble_eq_true rfl) dX10_law_12 ⟨Nat.zero_le _, Nat.zero_le _⟩ (fun v101 E98 H99 k100 W98 I98 G98 p98 => ?_)
  obtain ⟨q98, p98_0, p98_1, p98_2⟩ := p98
  have q98 := q98.symm
  subst q98
  have S98 : Now D TB cy (va_A (va_pl L E) sz) s L τ E93 H99 k100 := ⟨W98, I98⟩
  refine lv_if_ne (tgt := 24) hx hb dX10_law_15 (by decide) (fun c102 => ?_) (fun c102 => ?_)
  · skip
    have tc102 := nu_ne c102
    have uc102 : (0 : Int32).toInt = 0 := rfl
    obtain ⟨v103, ev103, tv103⟩ : ∃ v : Int32, Int32.ofInt (0) = v ∧ v.toInt = 0 := ⟨_, rfl, by decide +kernel⟩
    refine lv_iconst hx hb dX10_law_24 ev103 ?_
    refine lv_istore_n (lv' := [(2, .int v103), (0, .ref a0), (1, .int a1)]) hx hb dX10_law_25 rfl hl (by decide) rfl (fun l104 hl105 => ?_)
    exact J26 _ v103 E93 H99 k100 l104 S98 F93 (by omega) (by omega) (by omega) (by omega) (SlotOK.same hS S98.2 hql tql hqr tqr hqm tqm hqd tqd (P93.1 ql (ne_ro tql ta0 (by decide))) (P93.1 qr (ne_ro tqr ta0 (by decide))) (P93.1 qm (ne_ro tqm ta0 (by decide))) (P93.1 qd (ne_ro tqd ta0 (by decide)))) (Chain.same hC S98.2 ha0 ta0 hqn tqn hqp tqp (P93.1 qn (ne_ro tqn ta0 (by decide))) (P93.1 qp (ne_ro tqp ta0 (by decide))) (fi_put P93 (Or.inr (by decide)))) (fun k hk => ((fi_put P93 (Or.inr (fw_ne (by decide) hk))).trans ((fun k hk => rfl) k hk))) (by rw [ev97]; omega) (Nat.lt_succ_self _) (lv_sub hl105 [1, 2, 0] rfl)
  · skip
    have tc102 := nu_eq c102
    have uc102 : (0 : Int32).toInt = 0 := rfl
    refine lv_aload_n hx hb dX10_law_18 rfl (lv_at hl 0 rfl) ?_
    obtain ⟨v106, ev106, tv106⟩ : ∃ v : Int32, Int32.ofInt (1) = v ∧ v.toInt = 1 := ⟨_, rfl, by decide +kernel⟩
    refine lv_iconst hx hb dX10_law_19 ev106 ?_
    refine tc_vi Z.1 Z.2.2.2.1 Z.2.2.2.2.1 Z.2.2.2.2.2 S98.1 S98.2 ha0 ta0 rfl rfl (k_X10_no l D cy S98.2 ha0 ta0 v106) (cwV 1 hts gX10_law_X10_no rfl rfl rfl (by decide +kernel) ⟨Nat.le_of_ble_eq_true rfl, Nat.le_of_ble_eq_true rfl⟩) rfl hl.1 rfl (Nat.le_of_ble_eq_true rfl) dX10_law_20 ⟨Nat.zero_le _, Nat.zero_le _⟩ (fun v110 E107 H108 k109 W107 I107 G107 p107 => ?_)
    obtain ⟨p107_0, p107_1, p107_2⟩ := p107
    have S107 : Now D TB cy (va_A (va_pl L E) sz) s L τ E107 H108 k109 := ⟨W107, I107⟩
    have F107 : Fr L τ (inW [(11, 0), (74, 0), (75, 0), (76, 0), (77, 0), (78, 0), (79, 0), (80, 0), (73, 0), (60, 0), (61, 0)]) E E107 := F93.trans (G107.mono (inW_mono (by decide)))
    rw [← hQ]
    exact en_i Z S107 F107 ⟨(by rw [((p107_2 20 (by decide)).trans ev97)]; omega), (fun k hk => ((p107_2 k (fw_sub (by decide) hk)).trans ((fi_put P93 (Or.inr (fw_ne (by decide) hk))).trans ((fun k hk => rfl) k hk)))), (Chain.same hC S107.2 ha0 ta0 hqn tqn hqp tqp ((G107 qn hqn (by rw [tqn]; rfl)).trans (P93.1 qn (ne_ro tqn ta0 (by decide)))) ((G107 qp hqp (by rw [tqp]; rfl)).trans (P93.1 qp (ne_ro tqp ta0 (by decide)))) ((p107_2 2 (by decide)).trans (fi_put P93 (Or.inr (by decide))))), (SlotOK.same hS S107.2 hql tql hqr tqr hqm tqm hqd tqd ((G107 ql hql (by rw [tql]; rfl)).trans (P93.1 ql (ne_ro tql ta0 (by decide)))) ((G107 qr hqr (by rw [tqr]; rfl)).trans (P93.1 qr (ne_ro tqr ta0 (by decide)))) ((G107 qm hqm (by rw [tqm]; rfl)).trans (P93.1 qm (ne_ro tqm ta0 (by decide)))) ((G107 qd hqd (by rw [tqd]; rfl)).trans (P93.1 qd (ne_ro tqd ta0 (by decide)))))⟩ dX10_law_23

