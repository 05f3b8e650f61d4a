set_option maxRecDepth 20000 in
theorem ggX9_readClause_X9_kindBy : GoodIn wsX9_readClause wsX9_kindBy := goodIn_r _ [9, 3, 4, 10, 11, 8, 12, 13, 49, 50, 51, 52, 53, 54, 55, 56, 57, 58, 59, 60, 61, 62, 63, 64, 65, 66, 67, 68, 69, 70, 71] (by decide +kernel) (by decide +kernel)
set_option maxRecDepth 20000 in
theorem gX9_readClause_X9_kindBy : GoodIn wsX9_readClause (wsV RX9 112 RX9 yX9_kindBy wsX9_kindBy) := goodIn_app (goodIn_of _ (by decide +kernel)) ggX9_readClause_X9_kindBy
set_option maxRecDepth 20000 in
theorem ggX9_readClause_X9_bad : GoodIn wsX9_readClause wsX9_bad := goodIn_r _ [17, 2, 18, 19, 49, 50, 51, 52, 53, 54, 55, 56, 57, 58, 59, 60, 61, 62, 63, 64, 65, 66, 67, 68, 69, 70, 71] (by decide +kernel) (by decide +kernel)
set_option maxRecDepth 20000 in
theorem gX9_readClause_X9_bad : GoodIn wsX9_readClause (wsV RX9 102 RX9 yX9_bad wsX9_bad) := goodIn_app (goodIn_of _ (by decide +kernel)) ggX9_readClause_X9_bad
set_option maxRecDepth 20000 in
theorem ggX9_readClause_X9_next : GoodIn wsX9_readClause wsX9_next := goodIn_r _ [23, 24, 25, 26, 19, 4, 3, 13, 27, 28, 29, 30, 8, 31, 32, 33, 34, 35, 36, 37, 38, 39, 40, 41, 49, 50, 51, 52, 53, 54, 55, 56, 57, 58, 59, 60, 61, 62, 63, 64, 65, 66, 67, 68, 69, 70, 71] (by decide +kernel) (by decide +kernel)
set_option maxRecDepth 20000 in
theorem gX9_readClause_X9_next : GoodIn wsX9_readClause (wsV RX9 105 RX9 yX9_next wsX9_next) := goodIn_app (goodIn_of _ (by decide +kernel)) ggX9_readClause_X9_next
set_option maxRecDepth 20000 in
theorem ggX9_readClause_X9_number : GoodIn wsX9_readClause wsX9_number := goodIn_r _ [45, 3, 4, 2, 34, 35, 8, 36, 14, 15, 16, 17, 18, 19, 20, 21, 22, 23, 24, 25, 26, 13, 27, 28, 29, 30, 31, 32, 33, 37, 38, 39, 40, 41, 49, 50, 51, 52, 53, 54, 55, 56, 57, 58, 59, 60, 61, 62, 63, 64, 65, 66, 67, 68, 69, 70, 71] (by decide +kernel) (by decide +kernel)
set_option maxRecDepth 20000 in
theorem gX9_readClause_X9_number : GoodIn wsX9_readClause (wsV RX9 116 RX9 yX9_number wsX9_number) := goodIn_app (goodIn_of _ (by decide +kernel)) ggX9_readClause_X9_number
set_option maxRecDepth 20000 in
theorem ggX9_readClause_X9_word : GoodIn wsX9_readClause wsX9_word := goodIn_r _ [12, 13] (by decide +kernel) (by decide +kernel)
set_option maxRecDepth 20000 in
theorem gX9_readClause_X9_word : GoodIn wsX9_readClause (va_wsS RX9 108 yX9_word wsX9_word) := goodIn_app (goodIn_of _ (by decide +kernel)) ggX9_readClause_X9_word
set_option maxRecDepth 20000 in
theorem ggX9_readClause_X9_layRoad : GoodIn wsX9_readClause wsX9_layRoad := goodIn_r _ [48] (by decide +kernel) (by decide +kernel)
set_option maxRecDepth 20000 in
theorem gX9_readClause_X9_layRoad : GoodIn wsX9_readClause (va_wsS RX9 44 yX9_layRoad wsX9_layRoad) := goodIn_app (goodIn_of _ (by decide +kernel)) ggX9_readClause_X9_layRoad
theorem dX9_readClause_0 : decode cX9_readClause 0 = .ok (.aload_n 0, 1) := by decide +kernel
theorem dX9_readClause_1 : decode cX9_readClause 1 = .ok (.invokevirtual 112, 3) := by decide +kernel
theorem dX9_readClause_4 : decode cX9_readClause 4 = .ok (.istore_n 1, 1) := by decide +kernel
theorem dX9_readClause_5 : decode cX9_readClause 5 = .ok (.iload_n 1, 1) := by decide +kernel
theorem dX9_readClause_6 : decode cX9_readClause 6 = .ok (.iconst (-1), 1) := by decide +kernel
theorem dX9_readClause_7 : decode cX9_readClause 7 = .ok (.if_icmp .eq 81, 3) := by decide +kernel
theorem dX9_readClause_10 : decode cX9_readClause 10 = .ok (.aload_n 0, 1) := by decide +kernel
theorem dX9_readClause_11 : decode cX9_readClause 11 = .ok (.getfield 16, 3) := by decide +kernel
theorem dX9_readClause_14 : decode cX9_readClause 14 = .ok (.iconst 2, 1) := by decide +kernel
theorem dX9_readClause_15 : decode cX9_readClause 15 = .ok (.iaload, 1) := by decide +kernel
theorem dX9_readClause_16 : decode cX9_readClause 16 = .ok (.bipush 6, 2) := by decide +kernel
theorem dX9_readClause_18 : decode cX9_readClause 18 = .ok (.if_icmp .ne 8, 3) := by decide +kernel
theorem dX9_readClause_21 : decode cX9_readClause 21 = .ok (.aload_n 0, 1) := by decide +kernel
theorem dX9_readClause_22 : decode cX9_readClause 22 = .ok (.invokevirtual 102, 3) := by decide +kernel
theorem dX9_readClause_25 : decode cX9_readClause 25 = .ok (.return_, 1) := by decide +kernel
theorem dX9_readClause_26 : decode cX9_readClause 26 = .ok (.aload_n 0, 1) := by decide +kernel
theorem dX9_readClause_27 : decode cX9_readClause 27 = .ok (.invokevirtual 105, 3) := by decide +kernel
theorem dX9_readClause_30 : decode cX9_readClause 30 = .ok (.aload_n 0, 1) := by decide +kernel
theorem dX9_readClause_31 : decode cX9_readClause 31 = .ok (.iconst 1, 1) := by decide +kernel
theorem dX9_readClause_32 : decode cX9_readClause 32 = .ok (.bipush 9, 2) := by decide +kernel
theorem dX9_readClause_34 : decode cX9_readClause 34 = .ok (.invokevirtual 116, 3) := by decide +kernel
theorem dX9_readClause_37 : decode cX9_readClause 37 = .ok (.istore_n 2, 1) := by decide +kernel
theorem dX9_readClause_38 : decode cX9_readClause 38 = .ok (.aload_n 0, 1) := by decide +kernel
theorem dX9_readClause_39 : decode cX9_readClause 39 = .ok (.getfield 95, 3) := by decide +kernel
theorem dX9_readClause_42 : decode cX9_readClause 42 = .ok (.ifCond .ne 43, 3) := by decide +kernel
theorem dX9_readClause_45 : decode cX9_readClause 45 = .ok (.aload_n 0, 1) := by decide +kernel
theorem dX9_readClause_46 : decode cX9_readClause 46 = .ok (.getfield 16, 3) := by decide +kernel
theorem dX9_readClause_49 : decode cX9_readClause 49 = .ok (.bipush 24, 2) := by decide +kernel
theorem dX9_readClause_51 : decode cX9_readClause 51 = .ok (.aload_n 0, 1) := by decide +kernel
theorem dX9_readClause_52 : decode cX9_readClause 52 = .ok (.getfield 16, 3) := by decide +kernel
theorem dX9_readClause_55 : decode cX9_readClause 55 = .ok (.iconst 2, 1) := by decide +kernel
theorem dX9_readClause_56 : decode cX9_readClause 56 = .ok (.iaload, 1) := by decide +kernel
theorem dX9_readClause_57 : decode cX9_readClause 57 = .ok (.iadd, 1) := by decide +kernel
theorem dX9_readClause_58 : decode cX9_readClause 58 = .ok (.iload_n 1, 1) := by decide +kernel
theorem dX9_readClause_59 : decode cX9_readClause 59 = .ok (.iastore, 1) := by decide +kernel
theorem dX9_readClause_60 : decode cX9_readClause 60 = .ok (.aload_n 0, 1) := by decide +kernel
theorem dX9_readClause_61 : decode cX9_readClause 61 = .ok (.getfield 16, 3) := by decide +kernel
theorem dX9_readClause_64 : decode cX9_readClause 64 = .ok (.bipush 30, 2) := by decide +kernel
theorem dX9_readClause_66 : decode cX9_readClause 66 = .ok (.aload_n 0, 1) := by decide +kernel
theorem dX9_readClause_67 : decode cX9_readClause 67 = .ok (.getfield 16, 3) := by decide +kernel
theorem dX9_readClause_70 : decode cX9_readClause 70 = .ok (.iconst 2, 1) := by decide +kernel
theorem dX9_readClause_71 : decode cX9_readClause 71 = .ok (.iaload, 1) := by decide +kernel
theorem dX9_readClause_72 : decode cX9_readClause 72 = .ok (.iadd, 1) := by decide +kernel
theorem dX9_readClause_73 : decode cX9_readClause 73 = .ok (.iload_n 2, 1) := by decide +kernel
theorem dX9_readClause_74 : decode cX9_readClause 74 = .ok (.iastore, 1) := by decide +kernel
theorem dX9_readClause_75 : decode cX9_readClause 75 = .ok (.aload_n 0, 1) := by decide +kernel
theorem dX9_readClause_76 : decode cX9_readClause 76 = .ok (.getfield 16, 3) := by decide +kernel
theorem dX9_readClause_79 : decode cX9_readClause 79 = .ok (.iconst 2, 1) := by decide +kernel
theorem dX9_readClause_80 : decode cX9_readClause 80 = .ok (.dup2, 1) := by decide +kernel
theorem dX9_readClause_81 : decode cX9_readClause 81 = .ok (.iaload, 1) := by decide +kernel
theorem dX9_readClause_82 : decode cX9_readClause 82 = .ok (.iconst 1, 1) := by decide +kernel
theorem dX9_readClause_83 : decode cX9_readClause 83 = .ok (.iadd, 1) := by decide +kernel
theorem dX9_readClause_84 : decode cX9_readClause 84 = .ok (.iastore, 1) := by decide +kernel
theorem dX9_readClause_85 : decode cX9_readClause 85 = .ok (.goto 299, 3) := by decide +kernel
theorem dX9_readClause_88 : decode cX9_readClause 88 = .ok (.aload_n 0, 1) := by decide +kernel
theorem dX9_readClause_89 : decode cX9_readClause 89 = .ok (.getfield 79, 3) := by decide +kernel
theorem dX9_readClause_92 : decode cX9_readClause 92 = .ok (.iconst 1, 1) := by decide +kernel
theorem dX9_readClause_93 : decode cX9_readClause 93 = .ok (.if_icmp .ne 52, 3) := by decide +kernel
theorem dX9_readClause_96 : decode cX9_readClause 96 = .ok (.aload_n 0, 1) := by decide +kernel
theorem dX9_readClause_97 : decode cX9_readClause 97 = .ok (.getfield 75, 3) := by decide +kernel
theorem dX9_readClause_100 : decode cX9_readClause 100 = .ok (.bipush 18, 2) := by decide +kernel
theorem dX9_readClause_102 : decode cX9_readClause 102 = .ok (.bipush 15, 2) := by decide +kernel
theorem dX9_readClause_104 : decode cX9_readClause 104 = .ok (.iconst 1, 1) := by decide +kernel
theorem dX9_readClause_105 : decode cX9_readClause 105 = .ok (.iconst 4, 1) := by decide +kernel
theorem dX9_readClause_106 : decode cX9_readClause 106 = .ok (.iconst 0, 1) := by decide +kernel
theorem dX9_readClause_107 : decode cX9_readClause 107 = .ok (.iconst 0, 1) := by decide +kernel
theorem dX9_readClause_108 : decode cX9_readClause 108 = .ok (.invokestatic 108, 3) := by decide +kernel
theorem dX9_readClause_111 : decode cX9_readClause 111 = .ok (.lcmp, 1) := by decide +kernel
theorem dX9_readClause_112 : decode cX9_readClause 112 = .ok (.ifCond .ne 33, 3) := by decide +kernel
theorem dX9_readClause_115 : decode cX9_readClause 115 = .ok (.aload_n 0, 1) := by decide +kernel
theorem dX9_readClause_116 : decode cX9_readClause 116 = .ok (.invokevirtual 105, 3) := by decide +kernel
theorem dX9_readClause_119 : decode cX9_readClause 119 = .ok (.aload_n 0, 1) := by decide +kernel
theorem dX9_readClause_120 : decode cX9_readClause 120 = .ok (.iconst 4, 1) := by decide +kernel
theorem dX9_readClause_121 : decode cX9_readClause 121 = .ok (.bipush 20, 2) := by decide +kernel
theorem dX9_readClause_123 : decode cX9_readClause 123 = .ok (.invokevirtual 116, 3) := by decide +kernel
theorem dX9_readClause_126 : decode cX9_readClause 126 = .ok (.istore_n 2, 1) := by decide +kernel
theorem dX9_readClause_127 : decode cX9_readClause 127 = .ok (.aload_n 0, 1) := by decide +kernel
theorem dX9_readClause_128 : decode cX9_readClause 128 = .ok (.getfield 95, 3) := by decide +kernel
theorem dX9_readClause_131 : decode cX9_readClause 131 = .ok (.ifCond .ne 11, 3) := by decide +kernel
theorem dX9_readClause_134 : decode cX9_readClause 134 = .ok (.aload_n 0, 1) := by decide +kernel
theorem dX9_readClause_135 : decode cX9_readClause 135 = .ok (.getfield 16, 3) := by decide +kernel
theorem dX9_readClause_138 : decode cX9_readClause 138 = .ok (.iload_n 2, 1) := by decide +kernel
theorem dX9_readClause_139 : decode cX9_readClause 139 = .ok (.invokestatic 44, 3) := by decide +kernel
theorem dX9_readClause_142 : decode cX9_readClause 142 = .ok (.goto 242, 3) := by decide +kernel
theorem dX9_readClause_145 : decode cX9_readClause 145 = .ok (.aload_n 0, 1) := by decide +kernel
theorem dX9_readClause_146 : decode cX9_readClause 146 = .ok (.getfield 79, 3) := by decide +kernel
theorem dX9_readClause_149 : decode cX9_readClause 149 = .ok (.iconst 1, 1) := by decide +kernel
theorem dX9_readClause_150 : decode cX9_readClause 150 = .ok (.if_icmp .ne 121, 3) := by decide +kernel
theorem dX9_readClause_153 : decode cX9_readClause 153 = .ok (.aload_n 0, 1) := by decide +kernel
theorem dX9_readClause_154 : decode cX9_readClause 154 = .ok (.getfield 75, 3) := by decide +kernel
theorem dX9_readClause_157 : decode cX9_readClause 157 = .ok (.bipush 8, 2) := by decide +kernel
theorem dX9_readClause_159 : decode cX9_readClause 159 = .ok (.bipush 9, 2) := by decide +kernel
theorem dX9_readClause_161 : decode cX9_readClause 161 = .ok (.bipush 12, 2) := by decide +kernel
theorem dX9_readClause_163 : decode cX9_readClause 163 = .ok (.bipush 12, 2) := by decide +kernel
theorem dX9_readClause_165 : decode cX9_readClause 165 = .ok (.iconst 0, 1) := by decide +kernel
theorem dX9_readClause_166 : decode cX9_readClause 166 = .ok (.iconst 0, 1) := by decide +kernel
theorem dX9_readClause_167 : decode cX9_readClause 167 = .ok (.invokestatic 108, 3) := by decide +kernel
theorem dX9_readClause_170 : decode cX9_readClause 170 = .ok (.lcmp, 1) := by decide +kernel
theorem dX9_readClause_171 : decode cX9_readClause 171 = .ok (.ifCond .ne 100, 3) := by decide +kernel
theorem dX9_readClause_174 : decode cX9_readClause 174 = .ok (.aload_n 0, 1) := by decide +kernel
theorem dX9_readClause_175 : decode cX9_readClause 175 = .ok (.invokevirtual 105, 3) := by decide +kernel
theorem dX9_readClause_178 : decode cX9_readClause 178 = .ok (.aload_n 0, 1) := by decide +kernel
theorem dX9_readClause_179 : decode cX9_readClause 179 = .ok (.iconst 1, 1) := by decide +kernel
theorem dX9_readClause_180 : decode cX9_readClause 180 = .ok (.aload_n 0, 1) := by decide +kernel
theorem dX9_readClause_181 : decode cX9_readClause 181 = .ok (.getfield 16, 3) := by decide +kernel
theorem dX9_readClause_184 : decode cX9_readClause 184 = .ok (.iconst 0, 1) := by decide +kernel
theorem dX9_readClause_185 : decode cX9_readClause 185 = .ok (.iaload, 1) := by decide +kernel
theorem dX9_readClause_186 : decode cX9_readClause 186 = .ok (.invokevirtual 116, 3) := by decide +kernel
theorem dX9_readClause_189 : decode cX9_readClause 189 = .ok (.istore_n 2, 1) := by decide +kernel
theorem dX9_readClause_190 : decode cX9_readClause 190 = .ok (.aload_n 0, 1) := by decide +kernel
theorem dX9_readClause_191 : decode cX9_readClause 191 = .ok (.getfield 95, 3) := by decide +kernel
theorem dX9_readClause_194 : decode cX9_readClause 194 = .ok (.ifCond .eq 7, 3) := by decide +kernel
theorem dX9_readClause_197 : decode cX9_readClause 197 = .ok (.iload_n 2, 1) := by decide +kernel
theorem dX9_readClause_198 : decode cX9_readClause 198 = .ok (.goto 14, 3) := by decide +kernel
theorem dX9_readClause_201 : decode cX9_readClause 201 = .ok (.aload_n 0, 1) := by decide +kernel
theorem dX9_readClause_202 : decode cX9_readClause 202 = .ok (.iload_n 2, 1) := by decide +kernel
theorem dX9_readClause_203 : decode cX9_readClause 203 = .ok (.aload_n 0, 1) := by decide +kernel
theorem dX9_readClause_204 : decode cX9_readClause 204 = .ok (.getfield 16, 3) := by decide +kernel
theorem dX9_readClause_207 : decode cX9_readClause 207 = .ok (.iconst 0, 1) := by decide +kernel
theorem dX9_readClause_208 : decode cX9_readClause 208 = .ok (.iaload, 1) := by decide +kernel
theorem dX9_readClause_209 : decode cX9_readClause 209 = .ok (.invokevirtual 116, 3) := by decide +kernel
theorem dX9_readClause_212 : decode cX9_readClause 212 = .ok (.istore_n 3, 1) := by decide +kernel
theorem dX9_readClause_213 : decode cX9_readClause 213 = .ok (.aload_n 0, 1) := by decide +kernel
theorem dX9_readClause_214 : decode cX9_readClause 214 = .ok (.getfield 95, 3) := by decide +kernel
theorem dX9_readClause_217 : decode cX9_readClause 217 = .ok (.ifCond .eq 7, 3) := by decide +kernel
theorem dX9_readClause_220 : decode cX9_readClause 220 = .ok (.iconst 0, 1) := by decide +kernel
theorem dX9_readClause_221 : decode cX9_readClause 221 = .ok (.goto 10, 3) := by decide +kernel
theorem dX9_readClause_224 : decode cX9_readClause 224 = .ok (.aload_n 0, 1) := by decide +kernel
theorem dX9_readClause_225 : decode cX9_readClause 225 = .ok (.iconst 1, 1) := by decide +kernel
theorem dX9_readClause_226 : decode cX9_readClause 226 = .ok (.bipush 9, 2) := by decide +kernel
theorem dX9_readClause_228 : decode cX9_readClause 228 = .ok (.invokevirtual 116, 3) := by decide +kernel
theorem dX9_readClause_231 : decode cX9_readClause 231 = .ok (.istore 4, 2) := by decide +kernel
theorem dX9_readClause_233 : decode cX9_readClause 233 = .ok (.iload_n 2, 1) := by decide +kernel
theorem dX9_readClause_234 : decode cX9_readClause 234 = .ok (.istore 5, 2) := by decide +kernel
theorem dX9_readClause_236 : decode cX9_readClause 236 = .ok (.iload 5, 2) := by decide +kernel
theorem dX9_readClause_238 : decode cX9_readClause 238 = .ok (.iload_n 3, 1) := by decide +kernel
theorem dX9_readClause_239 : decode cX9_readClause 239 = .ok (.if_icmp .gt 29, 3) := by decide +kernel
theorem dX9_readClause_242 : decode cX9_readClause 242 = .ok (.aload_n 0, 1) := by decide +kernel
theorem dX9_readClause_243 : decode cX9_readClause 243 = .ok (.getfield 95, 3) := by decide +kernel
theorem dX9_readClause_246 : decode cX9_readClause 246 = .ok (.ifCond .ne 22, 3) := by decide +kernel
theorem dX9_readClause_249 : decode cX9_readClause 249 = .ok (.aload_n 0, 1) := by decide +kernel
theorem dX9_readClause_250 : decode cX9_readClause 250 = .ok (.getfield 16, 3) := by decide +kernel
theorem dX9_readClause_253 : decode cX9_readClause 253 = .ok (.iconst 4, 1) := by decide +kernel
theorem dX9_readClause_254 : decode cX9_readClause 254 = .ok (.iload 5, 2) := by decide +kernel
theorem dX9_readClause_256 : decode cX9_readClause 256 = .ok (.iadd, 1) := by decide +kernel
theorem dX9_readClause_257 : decode cX9_readClause 257 = .ok (.iconst 1, 1) := by decide +kernel
theorem dX9_readClause_258 : decode cX9_readClause 258 = .ok (.isub, 1) := by decide +kernel
theorem dX9_readClause_259 : decode cX9_readClause 259 = .ok (.iload 4, 2) := by decide +kernel
theorem dX9_readClause_261 : decode cX9_readClause 261 = .ok (.iastore, 1) := by decide +kernel
theorem dX9_readClause_262 : decode cX9_readClause 262 = .ok (.iinc 5 1, 3) := by decide +kernel
theorem dX9_readClause_265 : decode cX9_readClause 265 = .ok (.goto (-29), 3) := by decide +kernel
theorem dX9_readClause_268 : decode cX9_readClause 268 = .ok (.goto 116, 3) := by decide +kernel
theorem dX9_readClause_271 : decode cX9_readClause 271 = .ok (.aload_n 0, 1) := by decide +kernel
theorem dX9_readClause_272 : decode cX9_readClause 272 = .ok (.getfield 79, 3) := by decide +kernel
theorem dX9_readClause_275 : decode cX9_readClause 275 = .ok (.iconst 1, 1) := by decide +kernel
theorem dX9_readClause_276 : decode cX9_readClause 276 = .ok (.if_icmp .ne 61, 3) := by decide +kernel
theorem dX9_readClause_279 : decode cX9_readClause 279 = .ok (.aload_n 0, 1) := by decide +kernel
theorem dX9_readClause_280 : decode cX9_readClause 280 = .ok (.getfield 75, 3) := by decide +kernel
theorem dX9_readClause_283 : decode cX9_readClause 283 = .ok (.bipush 13, 2) := by decide +kernel
theorem dX9_readClause_285 : decode cX9_readClause 285 = .ok (.bipush 9, 2) := by decide +kernel
theorem dX9_readClause_287 : decode cX9_readClause 287 = .ok (.bipush 12, 2) := by decide +kernel
theorem dX9_readClause_289 : decode cX9_readClause 289 = .ok (.iconst 5, 1) := by decide +kernel
theorem dX9_readClause_290 : decode cX9_readClause 290 = .ok (.iconst 0, 1) := by decide +kernel
theorem dX9_readClause_291 : decode cX9_readClause 291 = .ok (.iconst 0, 1) := by decide +kernel
theorem dX9_readClause_292 : decode cX9_readClause 292 = .ok (.invokestatic 108, 3) := by decide +kernel
theorem dX9_readClause_295 : decode cX9_readClause 295 = .ok (.lcmp, 1) := by decide +kernel
theorem dX9_readClause_296 : decode cX9_readClause 296 = .ok (.ifCond .ne 41, 3) := by decide +kernel
theorem dX9_readClause_299 : decode cX9_readClause 299 = .ok (.aload_n 0, 1) := by decide +kernel
theorem dX9_readClause_300 : decode cX9_readClause 300 = .ok (.invokevirtual 105, 3) := by decide +kernel
theorem dX9_readClause_303 : decode cX9_readClause 303 = .ok (.aload_n 0, 1) := by decide +kernel
theorem dX9_readClause_304 : decode cX9_readClause 304 = .ok (.iconst 1, 1) := by decide +kernel
theorem dX9_readClause_305 : decode cX9_readClause 305 = .ok (.bipush 40, 2) := by decide +kernel
theorem dX9_readClause_307 : decode cX9_readClause 307 = .ok (.invokevirtual 116, 3) := by decide +kernel
theorem dX9_readClause_310 : decode cX9_readClause 310 = .ok (.istore_n 2, 1) := by decide +kernel
theorem dX9_readClause_311 : decode cX9_readClause 311 = .ok (.aload_n 0, 1) := by decide +kernel
theorem dX9_readClause_312 : decode cX9_readClause 312 = .ok (.getfield 16, 3) := by decide +kernel
theorem dX9_readClause_315 : decode cX9_readClause 315 = .ok (.iconst 1, 1) := by decide +kernel
theorem dX9_readClause_316 : decode cX9_readClause 316 = .ok (.aload_n 0, 1) := by decide +kernel
theorem dX9_readClause_317 : decode cX9_readClause 317 = .ok (.getfield 95, 3) := by decide +kernel
theorem dX9_readClause_320 : decode cX9_readClause 320 = .ok (.ifCond .eq 12, 3) := by decide +kernel
theorem dX9_readClause_323 : decode cX9_readClause 323 = .ok (.aload_n 0, 1) := by decide +kernel
theorem dX9_readClause_324 : decode cX9_readClause 324 = .ok (.getfield 16, 3) := by decide +kernel
theorem dX9_readClause_327 : decode cX9_readClause 327 = .ok (.iconst 1, 1) := by decide +kernel
theorem dX9_readClause_328 : decode cX9_readClause 328 = .ok (.iaload, 1) := by decide +kernel
theorem dX9_readClause_329 : decode cX9_readClause 329 = .ok (.goto 4, 3) := by decide +kernel
theorem dX9_readClause_332 : decode cX9_readClause 332 = .ok (.iload_n 2, 1) := by decide +kernel
theorem dX9_readClause_333 : decode cX9_readClause 333 = .ok (.iastore, 1) := by decide +kernel
theorem dX9_readClause_334 : decode cX9_readClause 334 = .ok (.goto 50, 3) := by decide +kernel
theorem dX9_readClause_337 : decode cX9_readClause 337 = .ok (.aload_n 0, 1) := by decide +kernel
theorem dX9_readClause_338 : decode cX9_readClause 338 = .ok (.getfield 79, 3) := by decide +kernel
theorem dX9_readClause_341 : decode cX9_readClause 341 = .ok (.iconst 1, 1) := by decide +kernel
theorem dX9_readClause_342 : decode cX9_readClause 342 = .ok (.if_icmp .ne 38, 3) := by decide +kernel
theorem dX9_readClause_345 : decode cX9_readClause 345 = .ok (.aload_n 0, 1) := by decide +kernel
theorem dX9_readClause_346 : decode cX9_readClause 346 = .ok (.getfield 75, 3) := by decide +kernel
theorem dX9_readClause_349 : decode cX9_readClause 349 = .ok (.bipush 14, 2) := by decide +kernel
theorem dX9_readClause_351 : decode cX9_readClause 351 = .ok (.bipush 15, 2) := by decide +kernel
theorem dX9_readClause_353 : decode cX9_readClause 353 = .ok (.iconst 2, 1) := by decide +kernel
theorem dX9_readClause_354 : decode cX9_readClause 354 = .ok (.bipush 15, 2) := by decide +kernel
theorem dX9_readClause_356 : decode cX9_readClause 356 = .ok (.iconst 4, 1) := by decide +kernel
theorem dX9_readClause_357 : decode cX9_readClause 357 = .ok (.bipush 25, 2) := by decide +kernel
theorem dX9_readClause_359 : decode cX9_readClause 359 = .ok (.invokestatic 108, 3) := by decide +kernel
theorem dX9_readClause_362 : decode cX9_readClause 362 = .ok (.lcmp, 1) := by decide +kernel
theorem dX9_readClause_363 : decode cX9_readClause 363 = .ok (.ifCond .ne 17, 3) := by decide +kernel
theorem dX9_readClause_366 : decode cX9_readClause 366 = .ok (.aload_n 0, 1) := by decide +kernel
theorem dX9_readClause_367 : decode cX9_readClause 367 = .ok (.invokevirtual 105, 3) := by decide +kernel
theorem dX9_readClause_370 : decode cX9_readClause 370 = .ok (.aload_n 0, 1) := by decide +kernel
theorem dX9_readClause_371 : decode cX9_readClause 371 = .ok (.getfield 16, 3) := by decide +kernel
theorem dX9_readClause_374 : decode cX9_readClause 374 = .ok (.iconst 2, 1) := by decide +kernel
theorem dX9_readClause_375 : decode cX9_readClause 375 = .ok (.iconst 0, 1) := by decide +kernel
theorem dX9_readClause_376 : decode cX9_readClause 376 = .ok (.iastore, 1) := by decide +kernel
theorem dX9_readClause_377 : decode cX9_readClause 377 = .ok (.goto 7, 3) := by decide +kernel
theorem dX9_readClause_380 : decode cX9_readClause 380 = .ok (.aload_n 0, 1) := by decide +kernel
theorem dX9_readClause_381 : decode cX9_readClause 381 = .ok (.invokevirtual 102, 3) := by decide +kernel
theorem dX9_readClause_384 : decode cX9_readClause 384 = .ok (.return_, 1) := by decide +kernel
def fX9_readClause_236   : Nat → (Nat → Int32) → Int32 → Int32 → Int32 → Int32 → Int32 → Int32 → Int32 → Int64 → Int32 → Int32 → Int32 × Int32 × Int32 × Int64 × Int32 × Int32 × (Nat → Int32)
  | 0, _, _, _, _, _, _, _, _, _, _, _ => default
  | n + 1, o_fresh_f_236, v236_2, v236_3, v236_4, v236_5, o_cursor_236, o_token_236, o_start_236, o_value_236, o_isFault_236, o_faultAt_236 => if v236_3 < v236_5 then ((o_cursor_236, o_token_236, o_start_236, o_value_236, o_isFault_236, o_faultAt_236, o_fresh_f_236)) else (if o_isFault_236 = 0 then (fX9_readClause_236 n (upd o_fresh_f_236 ((4 + v236_5) - 1).toNatClampNeg v236_4) v236_2 v236_3 v236_4 (v236_5 + 1) o_cursor_236 o_token_236 o_start_236 o_value_236 o_isFault_236 o_faultAt_236) else ((o_cursor_236, o_token_236, o_start_236, o_value_236, o_isFault_236, o_faultAt_236, o_fresh_f_236)))
def fX9_readClause (o_letters : Int32) (o_cursor : Int32) (o_token : Int32) (o_start : Int32) (o_value : Int64) (o_isFault : Int32) (o_faultAt : Int32) (o_text_f : Nat → Int32) (o_fresh_f : Nat → Int32) : Int32 × Int32 × Int32 × Int64 × Int32 × Int32 × (Nat → Int32) := if (fX9_kindBy o_token o_value) = (-1) then (if o_token = 1 then (if (lg_cmp o_value (fX9_word 18 15 1 4 0 0)) = 0 then (match fX9_next o_letters o_cursor o_text_f with | (u48, u49, u50, u51) => match fX9_number 4 20 o_letters u48 u49 u50 u51 o_isFault o_faultAt o_text_f with | (r58, u52, u53, u54, u55, u56, u57) => if u56 = 0 then (xlet (fX9_layRoad r58 o_fresh_f) (fun u59 => (u52, u53, u54, u55, u56, u57, u59))) else ((u52, u53, u54, u55, u56, u57, o_fresh_f))) else (if (lg_cmp o_value (fX9_word 8 9 12 12 0 0)) = 0 then (match fX9_next o_letters o_cursor o_text_f with | (u23, u24, u25, u26) => match fX9_number 1 (o_fresh_f 0) o_letters u23 u24 u25 u26 o_isFault o_faultAt o_text_f with | (r33, u27, u28, u29, u30, u31, u32) => if u31 = 0 then (match fX9_number r33 (o_fresh_f 0) o_letters u27 u28 u29 u30 u31 u32 o_text_f with | (r40, u34, u35, u36, u37, u38, u39) => if u38 = 0 then (match fX9_number 1 9 o_letters u34 u35 u36 u37 u38 u39 o_text_f with | (r47, u41, u42, u43, u44, u45, u46) => fX9_readClause_236 1000 o_fresh_f r33 r40 r47 r33 u41 u42 u43 u44 u45 u46) else (fX9_readClause_236 1000 o_fresh_f r33 r40 0 r33 u34 u35 u36 u37 u38 u39)) else (fX9_readClause_236 1000 o_fresh_f r33 r33 0 r33 u27 u28 u29 u30 u31 u32)) else (if (lg_cmp o_value (fX9_word 13 9 12 5 0 0)) = 0 then (match fX9_next o_letters o_cursor o_text_f with | (u12, u13, u14, u15) => match fX9_number 1 40 o_letters u12 u13 u14 u15 o_isFault o_faultAt o_text_f with | (r22, u16, u17, u18, u19, u20, u21) => xlet (if u20 = 0 then r22 else (o_fresh_f 1)) (fun y_1 => (u16, u17, u18, u19, u20, u21, (upd o_fresh_f 1 y_1)))) else (if (lg_cmp o_value (fX9_word 14 15 2 15 4 25)) = 0 then (match fX9_next o_letters o_cursor o_text_f with | (u8, u9, u10, u11) => (u8, u9, u10, u11, o_isFault, o_faultAt, (upd o_fresh_f 2 0))) else (xlet (fX9_bad o_start o_isFault o_faultAt) (fun u7 => (o_cursor, o_token, o_start, o_value, 1, u7, o_fresh_f))))))) else (xlet (fX9_bad o_start o_isFault o_faultAt) (fun u2 => (o_cursor, o_token, o_start, o_value, 1, u2, o_fresh_f)))) else (if (o_fresh_f 2) = 6 then (xlet (fX9_bad o_start o_isFault o_faultAt) (fun u71 => (o_cursor, o_token, o_start, o_value, 1, u71, o_fresh_f))) else (match fX9_next o_letters o_cursor o_text_f with | (u60, u61, u62, u63) => match fX9_number 1 9 o_letters u60 u61 u62 u63 o_isFault o_faultAt o_text_f with | (r70, u64, u65, u66, u67, u68, u69) => if u68 = 0 then ((u64, u65, u66, u67, u68, u69, (upd (upd (upd o_fresh_f (24 + (o_fresh_f 2)).toNatClampNeg (fX9_kindBy o_token o_value)) (30 + ((upd o_fresh_f (24 + (o_fresh_f 2)).toNatClampNeg (fX9_kindBy o_token o_value)) 2)).toNatClampNeg r70) 2 (((upd (upd o_fresh_f (24 + (o_fresh_f 2)).toNatClampNeg (fX9_kindBy o_token o_value)) (30 + ((upd o_fresh_f (24 + (o_fresh_f 2)).toNatClampNeg (fX9_kindBy o_token o_value)) 2)).toNatClampNeg r70) 2) + 1)))) else ((u64, u65, u66, u67, u68, u69, o_fresh_f))))
set_option maxHeartbeats 4000000 in
set_option maxRecDepth 100000 in
theorem c_X9_readClause (l : Launch) (D : va_G) (cI cZ : ClassId) (sz : Nat) (o : Nat) (o_road : Nat) (o_told : Nat) (o_fresh : Nat) (o_was : Nat) (o_acts : Int32) (o_kept : Nat) (o_isKept : Nat) (o_sights : Nat) (o_many : Int32) (o_text : Nat) (o_letters : Int32) (o_thrown : Int32) (o_cursor : Int32) (o_token : Int32) (o_start : Int32) (o_value : Int64) (o_isFault : Int32) (o_faultAt : Int32) (o_above : Int32) (o_below : Int32) (o_topOf : Nat) (o_partsOf : Nat) (o_sent : Nat) (o_text_f : Nat → Int32) (o_fresh_f : Nat → Int32) (hl0 : 0 ≤ o_letters.toInt) (hl1 : o_letters.toInt ≤ 160) (hc0 : 0 ≤ o_cursor.toInt) (hc1 : o_cursor.toInt ≤ o_letters.toInt) (hf0 : (o_fresh_f 0).toInt ≤ 20) (hf2 : 0 ≤ (o_fresh_f 2).toInt) (hf6 : (o_fresh_f 2).toInt ≤ 6) : Met l yX9_readClause wsX9_readClause ({ frames := 4, cells := 0, slots := 0, locals := 88 } : Room) (va_Pc [.ref o] (xP D cI cZ [(o, .inr (9, [.ref o_road, .ref o_told, .ref o_fresh, .ref o_was, .int o_acts, .ref o_kept, .ref o_isKept, .ref o_sights, .int o_many, .ref o_text, .int o_letters, .int o_thrown, .int o_cursor, .int o_token, .int o_start, .long o_value, .int o_isFault, .int o_faultAt, .int o_above, .int o_below, .ref o_topOf, .ref o_partsOf, .ref o_sent])), (o_text, .inl (cI, 160, .inl o_text_f)), (o_fresh, .inl (cI, 36, .inl o_fresh_f))] sz)) (va_Qv (fun (u : Int32 × Int32 × Int32 × Int64 × Int32 × Int32 × (Nat → Int32)) => u = fX9_readClause o_letters o_cursor o_token o_start o_value o_isFault o_faultAt o_text_f o_fresh_f) (fun (u : Int32 × Int32 × Int32 × Int64 × Int32 × Int32 × (Nat → Int32)) t => xB D cI cZ [(o, .inr (9, [.ref o_road, .ref o_told, .ref o_fresh, .ref o_was, .int o_acts, .ref o_kept, .ref o_isKept, .ref o_sights, .int o_many, .ref o_text, .int o_letters, .int o_thrown, .int u.1, .int u.2.1, .int u.2.2.1, .long u.2.2.2.1, .int u.2.2.2.2.1, .int u.2.2.2.2.2.1, .int o_above, .int o_below, .ref o_topOf, .ref o_partsOf, .ref o_sent])), (o_text, .inl (cI, 160, .inl o_text_f)), (o_fresh, .inl (cI, 36, .inl u.2.2.2.2.2.2))] (va_A [(o, .inr (9, [.ref o_road, .ref o_told, .ref o_fresh, .ref o_was, .int o_acts, .ref o_kept, .ref o_isKept, .ref o_sights, .int o_many, .ref o_text, .int o_letters, .int o_thrown, .int o_cursor, .int o_token, .int o_start, .long o_value, .int o_isFault, .int o_faultAt, .int o_above, .int o_below, .ref o_topOf, .ref o_partsOf, .ref o_sent])), (o_text, .inl (cI, 160, .inl o_text_f)), (o_fresh, .inl (cI, 36, .inl o_fresh_f))] sz) t) (va_A [(o, .inr (9, [.ref o_road, .ref o_told, .ref o_fresh, .ref o_was, .int o_acts, .ref o_kept, .ref o_isKept, .ref o_sights, .int o_many, .ref o_text, .int o_letters, .int o_thrown, .int o_cursor, .int o_token, .int o_start, .long o_value, .int o_isFault, .int o_faultAt, .int o_above, .int o_below, .ref o_topOf, .ref o_partsOf, .ref o_sent])), (o_text, .inl (cI, 160, .inl o_text_f)), (o_fresh, .inl (cI, 36, .inl o_fresh_f))] sz)) 0 0 (va_A [(o, .inr (9, [.ref o_road, .ref o_told, .ref o_fresh, .ref o_was, .int o_acts, .ref o_kept, .ref o_isKept, .ref o_sights, .int o_many, .ref o_text, .int o_letters, .int o_thrown, .int o_cursor, .int o_token, .int o_start, .long o_value, .int o_isFault, .int o_faultAt, .int o_above, .int o_below, .ref o_topOf, .ref o_partsOf, .ref o_sent])), (o_text, .inl (cI, 160, .inl o_text_f)), (o_fresh, .inl (cI, 36, .inl o_fresh_f))] sz) := by
  refine Met.ofW (cc := cX9_readClause) (maxL := 6) (ret := none) (by decide) rfl ?_
  intro p e s m args below meth c s₁ B hml hv
  obtain ⟨hargs, hsz, hP, hK, hD0, hE⟩ := hv
  subst hargs
  have hx := B.exec
  have hb := B.bytes
  have hr := B.returns
  have hts := atoms_spec (ws := wsX9_readClause) B.pre
  have hown : s.vm.findClass RX9 = some m.cls := findClass_of_methodNamed B.named
  have hlocks := B.notSynchronized
  subst hsz
  have hD := hD0.self (sz := s.heap.size)
  generalize hAe : va_A [(o, .inr (9, [.ref o_road, .ref o_told, .ref o_fresh, .ref o_was, .int o_acts, .ref o_kept, .ref o_isKept, .ref o_sights, .int o_many, .ref o_text, .int o_letters, .int o_thrown, .int o_cursor, .int o_token, .int o_start, .long o_value, .int o_isFault, .int o_faultAt, .int o_above, .int o_below, .ref o_topOf, .ref o_partsOf, .ref o_sent])), (o_text, .inl (cI, 160, .inl o_text_f)), (o_fresh, .inl (cI, 36, .inl o_fresh_f))] s.heap.size = A at hD ⊢
  have hA : ∀ q : Nat, s.heap.size ≤ q → A q := fun q h => by rw [← hAe]; exact Or.inr h
  have hS : va_S A s.heap s.heap [] := va_S.rf
  have hl := lv_entry ([.ref o]) (n := 6) (Nat.le_of_ble_eq_true rfl)
  rw [lg_entry_eq]
  generalize (lg_sl ([.ref o]) ++ List.replicate (6 - (lg_sl ([.ref o])).length) Slot.unset).toArray = ls at hl ⊢
  have hl : lv_has ls 6 [(0, .ref o)] := hl
  refine wq (X := fun Q => ∀ (pc : Nat) (H : Heap) (locs : List Loc) (ls : Array Slot) (u : Int32 × Int32 × Int32 × Int64 × Int32 × Int32 × (Nat → Int32)) (hd : decode cX9_readClause pc = .ok (.return_, 1)) (hp : u = fX9_readClause o_letters o_cursor o_token o_start o_value o_isFault o_faultAt o_text_f o_fresh_f) (hP : va_P D vwCl [(o, .inr (9, [.ref o_road, .ref o_told, .ref o_fresh, .ref o_was, .int o_acts, .ref o_kept, .ref o_isKept, .ref o_sights, .int o_many, .ref o_text, .int o_letters, .int o_thrown, .int u.1, .int u.2.1, .int u.2.2.1, .long u.2.2.2.1, .int u.2.2.2.2.1, .int u.2.2.2.2.2.1, .int o_above, .int o_below, .ref o_topOf, .ref o_partsOf, .ref o_sent])), (o_text, .inl (cI, 160, .inl o_text_f)), (o_fresh, .inl (cI, 36, .inl u.2.2.2.2.2.2))] H) (hD : va_D A [(o, .inr (9, [.ref o_road, .ref o_told, .ref o_fresh, .ref o_was, .int o_acts, .ref o_kept, .ref o_isKept, .ref o_sights, .int o_many, .ref o_text, .int o_letters, .int o_thrown, .int u.1, .int u.2.1, .int u.2.2.1, .long u.2.2.2.1, .int u.2.2.2.2.1, .int u.2.2.2.2.2.1, .int o_above, .int o_below, .ref o_topOf, .ref o_partsOf, .ref o_sent])), (o_text, .inl (cI, 160, .inl o_text_f)), (o_fresh, .inl (cI, 36, .inl u.2.2.2.2.2.2))]) (hS : va_S A s.heap H locs), W p l e ({ frames := 4, cells := 0, slots := 0, locals := 88 } : Room) s m ([.ref o] : List Value).toArray below meth c H locs 0 0 Q (F0 m pc ls [])) ?_ (fun Q hret => ?_)
  · intro pc H locs ls u hd hp hP hD hS
    exact W.vret hx hb hr (fun t ht hW => ⟨⟨u, rfl, hp, by rw [ht]; exact hP, va_K.moved hW.alike hK, hD⟩, hS.F ht⟩) hS.2.2 hd
  have hin_9 : ∀ w ∈ u_ws RX9 TX9 23, w ∈ wsX9_readClause := by decide +kernel
  have fl_16 := hts (.fieldLink RX9 16 "MileRoadModel" "fresh" "[I") (by decide +kernel)
  have fl_75 := hts (.fieldLink RX9 75 "MileRoadModel" "value" "J") (by decide +kernel)
  have fl_79 := hts (.fieldLink RX9 79 "MileRoadModel" "token" "I") (by decide +kernel)
  have fl_95 := hts (.fieldLink RX9 95 "MileRoadModel" "isFault" "Z") (by decide +kernel)
  have zl_m1 : ((-1) : Int32).toInt = (-1) := by decide
  have zl_0 : (0 : Int32).toInt = 0 := by decide
  have zl_1 : (1 : Int32).toInt = 1 := by decide
  have zl_2 : (2 : Int32).toInt = 2 := by decide
  have zl_4 : (4 : Int32).toInt = 4 := by decide
  have zl_6 : (6 : Int32).toInt = 6 := by decide
  have zl_24 : (24 : Int32).toInt = 24 := by decide
  have zl_30 : (30 : Int32).toInt = 30 := by decide
  have hF : fX9_readClause o_letters o_cursor o_token o_start o_value o_isFault o_faultAt o_text_f o_fresh_f = fX9_readClause o_letters o_cursor o_token o_start o_value o_isFault o_faultAt o_text_f o_fresh_f := rfl
  have L_236 : ∀  (n_236 : Nat) (o_fresh_f_236 : Nat → Int32) (v236_2 : Int32) (v236_3 : Int32) (v236_4 : Int32) (v236_5 : Int32) (o_cursor_236 : Int32) (o_token_236 : Int32) (o_start_236 : Int32) (o_value_236 : Int64) (o_isFault_236 : Int32) (o_faultAt_236 : Int32) (hinv : o_isFault_236 = 0 → 1 ≤ v236_5.toInt ∧ v236_3.toInt ≤ 20 ∧ v236_5.toInt ≤ 21) (hm : (if o_isFault_236 = 0 then 21 - v236_5.toInt else 0) < (n_236 : Int)) (H : Heap) (locs : List Loc) (ls : Array Slot) (hl : lv_has ls 6 [(0, .ref o), (1, .int (fX9_kindBy o_token o_value)), (2, .int v236_2), (3, .int v236_3), (4, .int v236_4), (5, .int v236_5)]) (hP : va_P D vwCl [(o, .inr (9, [.ref o_road, .ref o_told, .ref o_fresh, .ref o_was, .int o_acts, .ref o_kept, .ref o_isKept, .ref o_sights, .int o_many, .ref o_text, .int o_letters, .int o_thrown, .int o_cursor_236, .int o_token_236, .int o_start_236, .long o_value_236, .int o_isFault_236, .int o_faultAt_236, .int o_above, .int o_below, .ref o_topOf, .ref o_partsOf, .ref o_sent])), (o_text, .inl (cI, 160, .inl o_text_f)), (o_fresh, .inl (cI, 36, .inl o_fresh_f_236))] H) (hD : va_D A [(o, .inr (9, [.ref o_road, .ref o_told, .ref o_fresh, .ref o_was, .int o_acts, .ref o_kept, .ref o_isKept, .ref o_sights, .int o_many, .ref o_text, .int o_letters, .int o_thrown, .int o_cursor_236, .int o_token_236, .int o_start_236, .long o_value_236, .int o_isFault_236, .int o_faultAt_236, .int o_above, .int o_below, .ref o_topOf, .ref o_partsOf, .ref o_sent])), (o_text, .inl (cI, 160, .inl o_text_f)), (o_fresh, .inl (cI, 36, .inl o_fresh_f_236))]) (hS : va_S A s.heap H locs) (hF : fX9_readClause o_letters o_cursor o_token o_start o_value o_isFault o_faultAt o_text_f o_fresh_f = fX9_readClause_236 n_236 o_fresh_f_236 v236_2 v236_3 v236_4 v236_5 o_cursor_236 o_token_236 o_start_236 o_value_236 o_isFault_236 o_faultAt_236), W p l e ({ frames := 4, cells := 0, slots := 0, locals := 88 } : Room) s m ([.ref o] : List Value).toArray below meth c H locs 0 0 Q (F0 m 236 ls []) := by
    intro  n_236
    induction n_236 with
    | zero =>
      intro o_fresh_f_236 v236_2 v236_3 v236_4 v236_5 o_cursor_236 o_token_236 o_start_236 o_value_236 o_isFault_236 o_faultAt_236 hinv hm H locs ls hl hP hD hS hF
      exact absurd hm (if h9 : o_isFault_236 = 0 then (by have h8 := hinv h9; rw [if_pos h9]; with_reducible omega) else (by rw [if_neg h9]; decide))
    | succ n_236 ih_236 =>
      intro o_fresh_f_236 v236_2 v236_3 v236_4 v236_5 o_cursor_236 o_token_236 o_start_236 o_value_236 o_isFault_236 o_faultAt_236 hinv hm H locs ls hl hP hD hS hF
      refine lv_iload hx hb dX9_readClause_236 (lv_at hl 5 rfl) ?_
      refine lv_iload_n hx hb dX9_readClause_238 rfl (lv_at hl 3 rfl) ?_
      refine lv_icmp_gt (tgt := 268) hx hb dX9_readClause_239 (by decide) (fun c_20 => ?_) (fun c_20 => ?_)
      · have kc_20 := t_lt c_20
        refine lv_goto (tgt := 384) hx hb dX9_readClause_268 (by decide) ?_
        exact hret _ _ _ _ (o_cursor_236, o_token_236, o_start_236, o_value_236, o_isFault_236, o_faultAt_236, o_fresh_f_236) dX9_readClause_384 ((hF.trans (by simp only [fX9_readClause_236, ↓if_pos c_20])).symm) hP hD hS
      · have kc_20 := t_nlt c_20
        refine lv_aload_n hx hb dX9_readClause_242 rfl (lv_at hl 0 rfl) ?_
        refine xget hx hb hts hown hK 9 (C2 := RX9) (T := TX9) (N := 23) rfl hin_9 hP 0 rfl 16 (by decide) fl_95 rfl rfl rfl dX9_readClause_243 ?_
        refine lv_if_ne (tgt := 268) hx hb dX9_readClause_246 (by decide) (fun c_21 => ?_) (fun c_21 => ?_)
        · have kc_21 := t_neq c_21
          refine lv_goto (tgt := 384) hx hb dX9_readClause_268 (by decide) ?_
          exact hret _ _ _ _ (o_cursor_236, o_token_236, o_start_236, o_value_236, o_isFault_236, o_faultAt_236, o_fresh_f_236) dX9_readClause_384 ((hF.trans (by simp only [fX9_readClause_236, ↓if_neg c_20, ↓if_neg c_21])).symm) hP hD hS
        · have kc_21 := t_eq c_21
          have hi := hinv (by with_reducible assumption)
          refine lv_aload_n hx hb dX9_readClause_249 rfl (lv_at hl 0 rfl) ?_
          refine xget hx hb hts hown hK 9 (C2 := RX9) (T := TX9) (N := 23) rfl hin_9 hP 0 rfl 2 (by decide) fl_16 rfl rfl rfl dX9_readClause_250 ?_
          refine lv_iconst (v := 4) hx hb dX9_readClause_253 (by decide) ?_
          refine lv_iload hx hb dX9_readClause_254 (lv_at hl 5 rfl) ?_
          refine lv_iadd hx hb dX9_readClause_256 ?_
          refine lv_iconst (v := 1) hx hb dX9_readClause_257 (by decide) ?_
          refine lv_isub hx hb dX9_readClause_258 ?_
          refine lv_iload hx hb dX9_readClause_259 (lv_at hl 4 rfl) ?_
          have z_3 : (4 + v236_5).toInt = (4 : Int32).toInt + v236_5.toInt := z_add (by with_reducible omega) (by with_reducible omega)
          have z_4 : ((4 + v236_5) - 1).toInt = (4 + v236_5).toInt - (1 : Int32).toInt := z_sub (by with_reducible omega) (by with_reducible omega)
          refine xast hx hb hK hP hD hS 2 0 (k := ((4 + v236_5) - 1).toNatClampNeg) rfl rfl (vi (by with_reducible omega) (by with_reducible omega)) rfl dX9_readClause_261 [(o, .inr (9, [.ref o_road, .ref o_told, .ref o_fresh, .ref o_was, .int o_acts, .ref o_kept, .ref o_isKept, .ref o_sights, .int o_many, .ref o_text, .int o_letters, .int o_thrown, .int o_cursor_236, .int o_token_236, .int o_start_236, .long o_value_236, .int o_isFault_236, .int o_faultAt_236, .int o_above, .int o_below, .ref o_topOf, .ref o_partsOf, .ref o_sent])), (o_text, .inl (cI, 160, .inl o_text_f)), (o_fresh, .inl (cI, 36, .inl (upd o_fresh_f_236 ((4 + v236_5) - 1).toNatClampNeg v236_4)))] rfl (fun H locs hP hD hS => ?_)
          refine lv_iinc (v := (v236_5 + 1)) (lv' := [(5, .int (v236_5 + 1)), (0, .ref o), (1, .int (fX9_kindBy o_token o_value)), (2, .int v236_2), (3, .int v236_3), (4, .int v236_4)]) hx hb dX9_readClause_262 hl (k := 5) rfl (by rfl) (by decide) rfl (fun ls hl => ?_)
          refine lv_goto (tgt := 236) hx hb dX9_readClause_265 (by decide) ?_
          have z_5 : (v236_5 + 1).toInt = v236_5.toInt + (1 : Int32).toInt := z_add (by with_reducible omega) (by with_reducible omega)
          exact ih_236 (upd o_fresh_f_236 ((4 + v236_5) - 1).toNatClampNeg v236_4) v236_2 v236_3 v236_4 (v236_5 + 1) o_cursor_236 o_token_236 o_start_236 o_value_236 o_isFault_236 o_faultAt_236 (fun _ => by with_reducible omega) (by rw [if_pos (by with_reducible assumption)] at hm ⊢; with_reducible omega) _ _ _ (lv_sub hl [1, 2, 3, 4, 5, 0] rfl) hP hD hS (hF.trans (by simp only [fX9_readClause_236, ↓if_neg c_20, ↓if_pos c_21]))
  refine lv_aload_n hx hb dX9_readClause_0 rfl (lv_at hl 0 rfl) ?_
  refine xcalli (S := Unit) (Wc := [(o, .inr (9, [.ref o_road, .ref o_told, .ref o_fresh, .ref o_was, .int o_acts, .ref o_kept, .ref o_isKept, .ref o_sights, .int o_many, .ref o_text, .int o_letters, .int o_thrown, .int o_cursor, .int o_token, .int o_start, .long o_value, .int o_isFault, .int o_faultAt, .int o_above, .int o_below, .ref o_topOf, .ref o_partsOf, .ref o_sent]))]) (wr := [(o_text, .inl (cI, 160, .inl o_text_f)), (o_fresh, .inl (cI, 36, .inl o_fresh_f))]) (W1 := (fun (u : Unit) => [(o, .inr (9, [.ref o_road, .ref o_told, .ref o_fresh, .ref o_was, .int o_acts, .ref o_kept, .ref o_isKept, .ref o_sights, .int o_many, .ref o_text, .int o_letters, .int o_thrown, .int o_cursor, .int o_token, .int o_start, .long o_value, .int o_isFault, .int o_faultAt, .int o_above, .int o_below, .ref o_topOf, .ref o_partsOf, .ref o_sent]))])) (Wn := (fun (u : Unit) => [(o, .inr (9, [.ref o_road, .ref o_told, .ref o_fresh, .ref o_was, .int o_acts, .ref o_kept, .ref o_isKept, .ref o_sights, .int o_many, .ref o_text, .int o_letters, .int o_thrown, .int o_cursor, .int o_token, .int o_start, .long o_value, .int o_isFault, .int o_faultAt, .int o_above, .int o_below, .ref o_topOf, .ref o_partsOf, .ref o_sent])), (o_text, .inl (cI, 160, .inl o_text_f)), (o_fresh, .inl (cI, 36, .inl o_fresh_f))])) (xrunV hx hb hml hown hts (c_X9_kindBy l D cI cZ _ o o_road o_told o_fresh o_was o_acts o_kept o_isKept o_sights o_many o_text o_letters o_thrown o_cursor o_token o_start o_value o_isFault o_faultAt o_above o_below o_topOf o_partsOf o_sent ) (cwV 0 hts gX9_readClause_X9_kindBy rfl rfl rfl (by decide +kernel) ⟨Nat.le_of_ble_eq_true rfl, Nat.le_of_ble_eq_true rfl⟩) hE hK hP hD [0] rfl rfl 0 9 (T := TX9) (N := 23) rfl rfl rfl hl.1 rfl (Nat.le_of_ble_eq_true rfl) dX9_readClause_1 ⟨Nat.le_of_ble_eq_true rfl, Nat.le_of_ble_eq_true rfl⟩) hP hD hS hA [0] [1, 2] [2, 0, 1] rfl rfl rfl (by decide) (fun _ => rfl) rfl (fun r1 u H locs hw hz hP hD hS => ?_)
  subst hw
  refine lv_istore_n (lv' := [(1, .int (fX9_kindBy o_token o_value)), (0, .ref o)]) hx hb dX9_readClause_4 rfl hl (by decide) rfl (fun ls hl => ?_)
  refine lv_iload_n hx hb dX9_readClause_5 rfl (lv_at hl 0 rfl) ?_
  refine lv_iconst (v := (-1)) hx hb dX9_readClause_6 (by decide) ?_
  refine lv_icmp_eq (tgt := 88) hx hb dX9_readClause_7 (by decide) (fun c_1 => ?_) (fun c_1 => ?_)
  · refine lv_aload_n hx hb dX9_readClause_88 rfl (lv_at hl 1 rfl) ?_
    refine xget hx hb hts hown hK 9 (C2 := RX9) (T := TX9) (N := 23) rfl hin_9 hP 0 rfl 13 (by decide) fl_79 rfl rfl rfl dX9_readClause_89 ?_
    refine lv_iconst (v := 1) hx hb dX9_readClause_92 (by decide) ?_
    refine lv_icmp_ne (tgt := 145) hx hb dX9_readClause_93 (by decide) (fun c_2 => ?_) (fun c_2 => ?_)
    · have kc_2 := t_neq c_2
      refine lv_aload_n hx hb dX9_readClause_145 rfl (lv_at hl 1 rfl) ?_
      refine xget hx hb hts hown hK 9 (C2 := RX9) (T := TX9) (N := 23) rfl hin_9 hP 0 rfl 13 (by decide) fl_79 rfl rfl rfl dX9_readClause_146 ?_
      refine lv_iconst (v := 1) hx hb dX9_readClause_149 (by decide) ?_
      refine lv_icmp_ne (tgt := 271) hx hb dX9_readClause_150 (by decide) (fun c_3 => ?_) (fun c_3 => ?_)
      · refine lv_aload_n hx hb dX9_readClause_271 rfl (lv_at hl 1 rfl) ?_
        refine xget hx hb hts hown hK 9 (C2 := RX9) (T := TX9) (N := 23) rfl hin_9 hP 0 rfl 13 (by decide) fl_79 rfl rfl rfl dX9_readClause_272 ?_
        refine lv_iconst (v := 1) hx hb dX9_readClause_275 (by decide) ?_
        refine lv_icmp_ne (tgt := 337) hx hb dX9_readClause_276 (by decide) (fun c_4 => ?_) (fun c_4 => ?_)
        · refine lv_aload_n hx hb dX9_readClause_337 rfl (lv_at hl 1 rfl) ?_
          refine xget hx hb hts hown hK 9 (C2 := RX9) (T := TX9) (N := 23) rfl hin_9 hP 0 rfl 13 (by decide) fl_79 rfl rfl rfl dX9_readClause_338 ?_
          refine lv_iconst (v := 1) hx hb dX9_readClause_341 (by decide) ?_
          refine lv_icmp_ne (tgt := 380) hx hb dX9_readClause_342 (by decide) (fun c_5 => ?_) (fun c_5 => ?_)
          · refine lv_aload_n hx hb dX9_readClause_380 rfl (lv_at hl 1 rfl) ?_
            refine xcallv (S := Int32) (Wc := [(o, .inr (9, [.ref o_road, .ref o_told, .ref o_fresh, .ref o_was, .int o_acts, .ref o_kept, .ref o_isKept, .ref o_sights, .int o_many, .ref o_text, .int o_letters, .int o_thrown, .int o_cursor, .int o_token, .int o_start, .long o_value, .int o_isFault, .int o_faultAt, .int o_above, .int o_below, .ref o_topOf, .ref o_partsOf, .ref o_sent]))]) (wr := [(o_text, .inl (cI, 160, .inl o_text_f)), (o_fresh, .inl (cI, 36, .inl o_fresh_f))]) (W1 := (fun (u : Int32) => [(o, .inr (9, [.ref o_road, .ref o_told, .ref o_fresh, .ref o_was, .int o_acts, .ref o_kept, .ref o_isKept, .ref o_sights, .int o_many, .ref o_text, .int o_letters, .int o_thrown, .int o_cursor, .int o_token, .int o_start, .long o_value, .int 1, .int u, .int o_above, .int o_below, .ref o_topOf, .ref o_partsOf, .ref o_sent]))])) (Wn := (fun (u : Int32) => [(o, .inr (9, [.ref o_road, .ref o_told, .ref o_fresh, .ref o_was, .int o_acts, .ref o_kept, .ref o_isKept, .ref o_sights, .int o_many, .ref o_text, .int o_letters, .int o_thrown, .int o_cursor, .int o_token, .int o_start, .long o_value, .int 1, .int u, .int o_above, .int o_below, .ref o_topOf, .ref o_partsOf, .ref o_sent])), (o_text, .inl (cI, 160, .inl o_text_f)), (o_fresh, .inl (cI, 36, .inl o_fresh_f))])) (xrunV hx hb hml hown hts (c_X9_bad l D cI cZ _ o o_road o_told o_fresh o_was o_acts o_kept o_isKept o_sights o_many o_text o_letters o_thrown o_cursor o_token o_start o_value o_isFault o_faultAt o_above o_below o_topOf o_partsOf o_sent ) (cwV 0 hts gX9_readClause_X9_bad rfl rfl rfl (by decide +kernel) ⟨Nat.le_of_ble_eq_true rfl, Nat.le_of_ble_eq_true rfl⟩) hE hK hP hD [0] rfl rfl 0 9 (T := TX9) (N := 23) rfl rfl rfl hl.1 rfl (Nat.le_of_ble_eq_true rfl) dX9_readClause_381 ⟨Nat.le_of_ble_eq_true rfl, Nat.le_of_ble_eq_true rfl⟩) hP hD hS hA [0] [1, 2] [2, 0, 1] rfl rfl rfl (by decide) (fun _ => rfl) rfl (fun  u H locs hw hz hP hD hS => ?_)
            obtain ⟨u2, hu⟩ : ∃ z, z = u := ⟨u, rfl⟩
            subst hu
            have hw_3 := hw.symm
            have hP : va_P D vwCl [(o, .inr (9, [.ref o_road, .ref o_told, .ref o_fresh, .ref o_was, .int o_acts, .ref o_kept, .ref o_isKept, .ref o_sights, .int o_many, .ref o_text, .int o_letters, .int o_thrown, .int o_cursor, .int o_token, .int o_start, .long o_value, .int 1, .int u2, .int o_above, .int o_below, .ref o_topOf, .ref o_partsOf, .ref o_sent])), (o_text, .inl (cI, 160, .inl o_text_f)), (o_fresh, .inl (cI, 36, .inl o_fresh_f))] H := hP
            have hD : va_D A [(o, .inr (9, [.ref o_road, .ref o_told, .ref o_fresh, .ref o_was, .int o_acts, .ref o_kept, .ref o_isKept, .ref o_sights, .int o_many, .ref o_text, .int o_letters, .int o_thrown, .int o_cursor, .int o_token, .int o_start, .long o_value, .int 1, .int u2, .int o_above, .int o_below, .ref o_topOf, .ref o_partsOf, .ref o_sent])), (o_text, .inl (cI, 160, .inl o_text_f)), (o_fresh, .inl (cI, 36, .inl o_fresh_f))] := hD
            exact hret _ _ _ _ (o_cursor, o_token, o_start, o_value, 1, u2, o_fresh_f) dX9_readClause_384 ((hF.trans (by simp only [fX9_readClause, ↓if_pos c_1, ↓if_neg c_2, ↓(xlet_of hw_3)])).symm) hP hD hS
          · exact absurd c_5 c_2
        · exact absurd c_4 c_2
      · exact absurd c_3 c_2
    · have kc_2 := t_eq c_2
      refine lv_aload_n hx hb dX9_readClause_96 rfl (lv_at hl 1 rfl) ?_
      refine xget hx hb hts hown hK 9 (C2 := RX9) (T := TX9) (N := 23) rfl hin_9 hP 0 rfl 15 (by decide) fl_75 rfl rfl rfl dX9_readClause_97 ?_
      refine lv_bipush (v := 18) hx hb dX9_readClause_100 (by decide) ?_
      refine lv_bipush (v := 15) hx hb dX9_readClause_102 (by decide) ?_
      refine lv_iconst (v := 1) hx hb dX9_readClause_104 (by decide) ?_
      refine lv_iconst (v := 4) hx hb dX9_readClause_105 (by decide) ?_
      refine lv_iconst (v := 0) hx hb dX9_readClause_106 (by decide) ?_
      refine lv_iconst (v := 0) hx hb dX9_readClause_107 (by decide) ?_
      refine xcalll (S := Unit) (Wc := []) (wr := [(o, .inr (9, [.ref o_road, .ref o_told, .ref o_fresh, .ref o_was, .int o_acts, .ref o_kept, .ref o_isKept, .ref o_sights, .int o_many, .ref o_text, .int o_letters, .int o_thrown, .int o_cursor, .int o_token, .int o_start, .long o_value, .int o_isFault, .int o_faultAt, .int o_above, .int o_below, .ref o_topOf, .ref o_partsOf, .ref o_sent])), (o_text, .inl (cI, 160, .inl o_text_f)), (o_fresh, .inl (cI, 36, .inl o_fresh_f))]) (W1 := (fun (u : Unit) => [])) (Wn := (fun (u : Unit) => [(o, .inr (9, [.ref o_road, .ref o_told, .ref o_fresh, .ref o_was, .int o_acts, .ref o_kept, .ref o_isKept, .ref o_sights, .int o_many, .ref o_text, .int o_letters, .int o_thrown, .int o_cursor, .int o_token, .int o_start, .long o_value, .int o_isFault, .int o_faultAt, .int o_above, .int o_below, .ref o_topOf, .ref o_partsOf, .ref o_sent])), (o_text, .inl (cI, 160, .inl o_text_f)), (o_fresh, .inl (cI, 36, .inl o_fresh_f))])) (xrunS hx hb hml hown hts (c_X9_word l D cI cZ _ 18 15 1 4 0 0 ) (va_cwS 6 hts gX9_readClause_X9_word rfl rfl rfl (by decide +kernel) ⟨Nat.le_of_ble_eq_true rfl, Nat.le_of_ble_eq_true rfl⟩) hE hK hP hD [] rfl rfl rfl hl.1 rfl (Nat.le_of_ble_eq_true rfl) dX9_readClause_108 ⟨Nat.le_of_ble_eq_true rfl, Nat.le_of_ble_eq_true rfl⟩) hP hD hS hA [] [0, 1, 2] [0, 1, 2] rfl rfl rfl (by decide) (fun _ => rfl) rfl (fun r3 u H locs hw hz hP hD hS => ?_)
      subst hw
      refine W.lcmp hx hb dX9_readClause_111 ?_
      refine lv_if_ne (tgt := 145) hx hb dX9_readClause_112 (by decide) (fun c_6 => ?_) (fun c_6 => ?_)
      · refine lv_aload_n hx hb dX9_readClause_145 rfl (lv_at hl 1 rfl) ?_
        refine xget hx hb hts hown hK 9 (C2 := RX9) (T := TX9) (N := 23) rfl hin_9 hP 0 rfl 13 (by decide) fl_79 rfl rfl rfl dX9_readClause_146 ?_
        refine lv_iconst (v := 1) hx hb dX9_readClause_149 (by decide) ?_
        refine lv_icmp_ne (tgt := 271) hx hb dX9_readClause_150 (by decide) (fun c_7 => ?_) (fun c_7 => ?_)
        · exact absurd c_2 c_7
        · refine lv_aload_n hx hb dX9_readClause_153 rfl (lv_at hl 1 rfl) ?_
          refine xget hx hb hts hown hK 9 (C2 := RX9) (T := TX9) (N := 23) rfl hin_9 hP 0 rfl 15 (by decide) fl_75 rfl rfl rfl dX9_readClause_154 ?_
          refine lv_bipush (v := 8) hx hb dX9_readClause_157 (by decide) ?_
          refine lv_bipush (v := 9) hx hb dX9_readClause_159 (by decide) ?_
          refine lv_bipush (v := 12) hx hb dX9_readClause_161 (by decide) ?_
          refine lv_bipush (v := 12) hx hb dX9_readClause_163 (by decide) ?_
          refine lv_iconst (v := 0) hx hb dX9_readClause_165 (by decide) ?_
          refine lv_iconst (v := 0) hx hb dX9_readClause_166 (by decide) ?_
          refine xcalll (S := Unit) (Wc := []) (wr := [(o, .inr (9, [.ref o_road, .ref o_told, .ref o_fresh, .ref o_was, .int o_acts, .ref o_kept, .ref o_isKept, .ref o_sights, .int o_many, .ref o_text, .int o_letters, .int o_thrown, .int o_cursor, .int o_token, .int o_start, .long o_value, .int o_isFault, .int o_faultAt, .int o_above, .int o_below, .ref o_topOf, .ref o_partsOf, .ref o_sent])), (o_text, .inl (cI, 160, .inl o_text_f)), (o_fresh, .inl (cI, 36, .inl o_fresh_f))]) (W1 := (fun (u : Unit) => [])) (Wn := (fun (u : Unit) => [(o, .inr (9, [.ref o_road, .ref o_told, .ref o_fresh, .ref o_was, .int o_acts, .ref o_kept, .ref o_isKept, .ref o_sights, .int o_many, .ref o_text, .int o_letters, .int o_thrown, .int o_cursor, .int o_token, .int o_start, .long o_value, .int o_isFault, .int o_faultAt, .int o_above, .int o_below, .ref o_topOf, .ref o_partsOf, .ref o_sent])), (o_text, .inl (cI, 160, .inl o_text_f)), (o_fresh, .inl (cI, 36, .inl o_fresh_f))])) (xrunS hx hb hml hown hts (c_X9_word l D cI cZ _ 8 9 12 12 0 0 ) (va_cwS 6 hts gX9_readClause_X9_word rfl rfl rfl (by decide +kernel) ⟨Nat.le_of_ble_eq_true rfl, Nat.le_of_ble_eq_true rfl⟩) hE hK hP hD [] rfl rfl rfl hl.1 rfl (Nat.le_of_ble_eq_true rfl) dX9_readClause_167 ⟨Nat.le_of_ble_eq_true rfl, Nat.le_of_ble_eq_true rfl⟩) hP hD hS hA [] [0, 1, 2] [0, 1, 2] rfl rfl rfl (by decide) (fun _ => rfl) rfl (fun r4 u H locs hw hz hP hD hS => ?_)
          subst hw
          refine W.lcmp hx hb dX9_readClause_170 ?_
          refine lv_if_ne (tgt := 271) hx hb dX9_readClause_171 (by decide) (fun c_8 => ?_) (fun c_8 => ?_)
          · refine lv_aload_n hx hb dX9_readClause_271 rfl (lv_at hl 1 rfl) ?_
            refine xget hx hb hts hown hK 9 (C2 := RX9) (T := TX9) (N := 23) rfl hin_9 hP 0 rfl 13 (by decide) fl_79 rfl rfl rfl dX9_readClause_272 ?_
            refine lv_iconst (v := 1) hx hb dX9_readClause_275 (by decide) ?_
            refine lv_icmp_ne (tgt := 337) hx hb dX9_readClause_276 (by decide) (fun c_9 => ?_) (fun c_9 => ?_)
            · exact absurd c_2 c_9
            · refine lv_aload_n hx hb dX9_readClause_279 rfl (lv_at hl 1 rfl) ?_
              refine xget hx hb hts hown hK 9 (C2 := RX9) (T := TX9) (N := 23) rfl hin_9 hP 0 rfl 15 (by decide) fl_75 rfl rfl rfl dX9_readClause_280 ?_
              refine lv_bipush (v := 13) hx hb dX9_readClause_283 (by decide) ?_
              refine lv_bipush (v := 9) hx hb dX9_readClause_285 (by decide) ?_
              refine lv_bipush (v := 12) hx hb dX9_readClause_287 (by decide) ?_
              refine lv_iconst (v := 5) hx hb dX9_readClause_289 (by decide) ?_
              refine lv_iconst (v := 0) hx hb dX9_readClause_290 (by decide) ?_
              refine lv_iconst (v := 0) hx hb dX9_readClause_291 (by decide) ?_
              refine xcalll (S := Unit) (Wc := []) (wr := [(o, .inr (9, [.ref o_road, .ref o_told, .ref o_fresh, .ref o_was, .int o_acts, .ref o_kept, .ref o_isKept, .ref o_sights, .int o_many, .ref o_text, .int o_letters, .int o_thrown, .int o_cursor, .int o_token, .int o_start, .long o_value, .int o_isFault, .int o_faultAt, .int o_above, .int o_below, .ref o_topOf, .ref o_partsOf, .ref o_sent])), (o_text, .inl (cI, 160, .inl o_text_f)), (o_fresh, .inl (cI, 36, .inl o_fresh_f))]) (W1 := (fun (u : Unit) => [])) (Wn := (fun (u : Unit) => [(o, .inr (9, [.ref o_road, .ref o_told, .ref o_fresh, .ref o_was, .int o_acts, .ref o_kept, .ref o_isKept, .ref o_sights, .int o_many, .ref o_text, .int o_letters, .int o_thrown, .int o_cursor, .int o_token, .int o_start, .long o_value, .int o_isFault, .int o_faultAt, .int o_above, .int o_below, .ref o_topOf, .ref o_partsOf, .ref o_sent])), (o_text, .inl (cI, 160, .inl o_text_f)), (o_fresh, .inl (cI, 36, .inl o_fresh_f))])) (xrunS hx hb hml hown hts (c_X9_word l D cI cZ _ 13 9 12 5 0 0 ) (va_cwS 6 hts gX9_readClause_X9_word rfl rfl rfl (by decide +kernel) ⟨Nat.le_of_ble_eq_true rfl, Nat.le_of_ble_eq_true rfl⟩) hE hK hP hD [] rfl rfl rfl hl.1 rfl (Nat.le_of_ble_eq_true rfl) dX9_readClause_292 ⟨Nat.le_of_ble_eq_true rfl, Nat.le_of_ble_eq_true rfl⟩) hP hD hS hA [] [0, 1, 2] [0, 1, 2] rfl rfl rfl (by decide) (fun _ => rfl) rfl (fun r5 u H locs hw hz hP hD hS => ?_)
              subst hw
              refine W.lcmp hx hb dX9_readClause_295 ?_
              refine lv_if_ne (tgt := 337) hx hb dX9_readClause_296 (by decide) (fun c_10 => ?_) (fun c_10 => ?_)
              · refine lv_aload_n hx hb dX9_readClause_337 rfl (lv_at hl 1 rfl) ?_
                refine xget hx hb hts hown hK 9 (C2 := RX9) (T := TX9) (N := 23) rfl hin_9 hP 0 rfl 13 (by decide) fl_79 rfl rfl rfl dX9_readClause_338 ?_
                refine lv_iconst (v := 1) hx hb dX9_readClause_341 (by decide) ?_
                refine lv_icmp_ne (tgt := 380) hx hb dX9_readClause_342 (by decide) (fun c_11 => ?_) (fun c_11 => ?_)
                · exact absurd c_2 c_11
                · refine lv_aload_n hx hb dX9_readClause_345 rfl (lv_at hl 1 rfl) ?_
                  refine xget hx hb hts hown hK 9 (C2 := RX9) (T := TX9) (N := 23) rfl hin_9 hP 0 rfl 15 (by decide) fl_75 rfl rfl rfl dX9_readClause_346 ?_
                  refine lv_bipush (v := 14) hx hb dX9_readClause_349 (by decide) ?_
                  refine lv_bipush (v := 15) hx hb dX9_readClause_351 (by decide) ?_
                  refine lv_iconst (v := 2) hx hb dX9_readClause_353 (by decide) ?_
                  refine lv_bipush (v := 15) hx hb dX9_readClause_354 (by decide) ?_
                  refine lv_iconst (v := 4) hx hb dX9_readClause_356 (by decide) ?_
                  refine lv_bipush (v := 25) hx hb dX9_readClause_357 (by decide) ?_
                  refine xcalll (S := Unit) (Wc := []) (wr := [(o, .inr (9, [.ref o_road, .ref o_told, .ref o_fresh, .ref o_was, .int o_acts, .ref o_kept, .ref o_isKept, .ref o_sights, .int o_many, .ref o_text, .int o_letters, .int o_thrown, .int o_cursor, .int o_token, .int o_start, .long o_value, .int o_isFault, .int o_faultAt, .int o_above, .int o_below, .ref o_topOf, .ref o_partsOf, .ref o_sent])), (o_text, .inl (cI, 160, .inl o_text_f)), (o_fresh, .inl (cI, 36, .inl o_fresh_f))]) (W1 := (fun (u : Unit) => [])) (Wn := (fun (u : Unit) => [(o, .inr (9, [.ref o_road, .ref o_told, .ref o_fresh, .ref o_was, .int o_acts, .ref o_kept, .ref o_isKept, .ref o_sights, .int o_many, .ref o_text, .int o_letters, .int o_thrown, .int o_cursor, .int o_token, .int o_start, .long o_value, .int o_isFault, .int o_faultAt, .int o_above, .int o_below, .ref o_topOf, .ref o_partsOf, .ref o_sent])), (o_text, .inl (cI, 160, .inl o_text_f)), (o_fresh, .inl (cI, 36, .inl o_fresh_f))])) (xrunS hx hb hml hown hts (c_X9_word l D cI cZ _ 14 15 2 15 4 25 ) (va_cwS 6 hts gX9_readClause_X9_word rfl rfl rfl (by decide +kernel) ⟨Nat.le_of_ble_eq_true rfl, Nat.le_of_ble_eq_true rfl⟩) hE hK hP hD [] rfl rfl rfl hl.1 rfl (Nat.le_of_ble_eq_true rfl) dX9_readClause_359 ⟨Nat.le_of_ble_eq_true rfl, Nat.le_of_ble_eq_true rfl⟩) hP hD hS hA [] [0, 1, 2] [0, 1, 2] rfl rfl rfl (by decide) (fun _ => rfl) rfl (fun r6 u H locs hw hz hP hD hS => ?_)
                  subst hw
                  refine W.lcmp hx hb dX9_readClause_362 ?_
                  refine lv_if_ne (tgt := 380) hx hb dX9_readClause_363 (by decide) (fun c_12 => ?_) (fun c_12 => ?_)
                  · refine lv_aload_n hx hb dX9_readClause_380 rfl (lv_at hl 1 rfl) ?_
                    refine xcallv (S := Int32) (Wc := [(o, .inr (9, [.ref o_road, .ref o_told, .ref o_fresh, .ref o_was, .int o_acts, .ref o_kept, .ref o_isKept, .ref o_sights, .int o_many, .ref o_text, .int o_letters, .int o_thrown, .int o_cursor, .int o_token, .int o_start, .long o_value, .int o_isFault, .int o_faultAt, .int o_above, .int o_below, .ref o_topOf, .ref o_partsOf, .ref o_sent]))]) (wr := [(o_text, .inl (cI, 160, .inl o_text_f)), (o_fresh, .inl (cI, 36, .inl o_fresh_f))]) (W1 := (fun (u : Int32) => [(o, .inr (9, [.ref o_road, .ref o_told, .ref o_fresh, .ref o_was, .int o_acts, .ref o_kept, .ref o_isKept, .ref o_sights, .int o_many, .ref o_text, .int o_letters, .int o_thrown, .int o_cursor, .int o_token, .int o_start, .long o_value, .int 1, .int u, .int o_above, .int o_below, .ref o_topOf, .ref o_partsOf, .ref o_sent]))])) (Wn := (fun (u : Int32) => [(o, .inr (9, [.ref o_road, .ref o_told, .ref o_fresh, .ref o_was, .int o_acts, .ref o_kept, .ref o_isKept, .ref o_sights, .int o_many, .ref o_text, .int o_letters, .int o_thrown, .int o_cursor, .int o_token, .int o_start, .long o_value, .int 1, .int u, .int o_above, .int o_below, .ref o_topOf, .ref o_partsOf, .ref o_sent])), (o_text, .inl (cI, 160, .inl o_text_f)), (o_fresh, .inl (cI, 36, .inl o_fresh_f))])) (xrunV hx hb hml hown hts (c_X9_bad l D cI cZ _ o o_road o_told o_fresh o_was o_acts o_kept o_isKept o_sights o_many o_text o_letters o_thrown o_cursor o_token o_start o_value o_isFault o_faultAt o_above o_below o_topOf o_partsOf o_sent ) (cwV 0 hts gX9_readClause_X9_bad rfl rfl rfl (by decide +kernel) ⟨Nat.le_of_ble_eq_true rfl, Nat.le_of_ble_eq_true rfl⟩) hE hK hP hD [0] rfl rfl 0 9 (T := TX9) (N := 23) rfl rfl rfl hl.1 rfl (Nat.le_of_ble_eq_true rfl) dX9_readClause_381 ⟨Nat.le_of_ble_eq_true rfl, Nat.le_of_ble_eq_true rfl⟩) hP hD hS hA [0] [1, 2] [2, 0, 1] rfl rfl rfl (by decide) (fun _ => rfl) rfl (fun  u H locs hw hz hP hD hS => ?_)
                    obtain ⟨u7, hu⟩ : ∃ z, z = u := ⟨u, rfl⟩
                    subst hu
                    have hw_18 := hw.symm
                    have hP : va_P D vwCl [(o, .inr (9, [.ref o_road, .ref o_told, .ref o_fresh, .ref o_was, .int o_acts, .ref o_kept, .ref o_isKept, .ref o_sights, .int o_many, .ref o_text, .int o_letters, .int o_thrown, .int o_cursor, .int o_token, .int o_start, .long o_value, .int 1, .int u7, .int o_above, .int o_below, .ref o_topOf, .ref o_partsOf, .ref o_sent])), (o_text, .inl (cI, 160, .inl o_text_f)), (o_fresh, .inl (cI, 36, .inl o_fresh_f))] H := hP
                    have hD : va_D A [(o, .inr (9, [.ref o_road, .ref o_told, .ref o_fresh, .ref o_was, .int o_acts, .ref o_kept, .ref o_isKept, .ref o_sights, .int o_many, .ref o_text, .int o_letters, .int o_thrown, .int o_cursor, .int o_token, .int o_start, .long o_value, .int 1, .int u7, .int o_above, .int o_below, .ref o_topOf, .ref o_partsOf, .ref o_sent])), (o_text, .inl (cI, 160, .inl o_text_f)), (o_fresh, .inl (cI, 36, .inl o_fresh_f))] := hD
                    exact hret _ _ _ _ (o_cursor, o_token, o_start, o_value, 1, u7, o_fresh_f) dX9_readClause_384 ((hF.trans (by simp only [fX9_readClause, ↓if_pos c_1, ↓if_pos c_2, ↓if_neg c_6, ↓if_neg c_8, ↓if_neg c_10, ↓if_neg c_12, ↓(xlet_of hw_18)])).symm) hP hD hS
                  · refine lv_aload_n hx hb dX9_readClause_366 rfl (lv_at hl 1 rfl) ?_
                    refine xcallv (S := Int32 × Int32 × Int32 × Int64) (Wc := [(o, .inr (9, [.ref o_road, .ref o_told, .ref o_fresh, .ref o_was, .int o_acts, .ref o_kept, .ref o_isKept, .ref o_sights, .int o_many, .ref o_text, .int o_letters, .int o_thrown, .int o_cursor, .int o_token, .int o_start, .long o_value, .int o_isFault, .int o_faultAt, .int o_above, .int o_below, .ref o_topOf, .ref o_partsOf, .ref o_sent])), (o_text, .inl (cI, 160, .inl o_text_f))]) (wr := [(o_fresh, .inl (cI, 36, .inl o_fresh_f))]) (W1 := (fun (u : Int32 × Int32 × Int32 × Int64) => [(o, .inr (9, [.ref o_road, .ref o_told, .ref o_fresh, .ref o_was, .int o_acts, .ref o_kept, .ref o_isKept, .ref o_sights, .int o_many, .ref o_text, .int o_letters, .int o_thrown, .int u.1, .int u.2.1, .int u.2.2.1, .long u.2.2.2, .int o_isFault, .int o_faultAt, .int o_above, .int o_below, .ref o_topOf, .ref o_partsOf, .ref o_sent])), (o_text, .inl (cI, 160, .inl o_text_f))])) (Wn := (fun (u : Int32 × Int32 × Int32 × Int64) => [(o, .inr (9, [.ref o_road, .ref o_told, .ref o_fresh, .ref o_was, .int o_acts, .ref o_kept, .ref o_isKept, .ref o_sights, .int o_many, .ref o_text, .int o_letters, .int o_thrown, .int u.1, .int u.2.1, .int u.2.2.1, .long u.2.2.2, .int o_isFault, .int o_faultAt, .int o_above, .int o_below, .ref o_topOf, .ref o_partsOf, .ref o_sent])), (o_text, .inl (cI, 160, .inl o_text_f)), (o_fresh, .inl (cI, 36, .inl o_fresh_f))])) (xrunV hx hb hml hown hts (c_X9_next l D cI cZ _ o o_road o_told o_fresh o_was o_acts o_kept o_isKept o_sights o_many o_text o_letters o_thrown o_cursor o_token o_start o_value o_isFault o_faultAt o_above o_below o_topOf o_partsOf o_sent o_text_f hl0 hl1 hc0 hc1) (cwV 0 hts gX9_readClause_X9_next rfl rfl rfl (by decide +kernel) ⟨Nat.le_of_ble_eq_true rfl, Nat.le_of_ble_eq_true rfl⟩) hE hK hP hD [0, 1] rfl rfl 0 9 (T := TX9) (N := 23) rfl rfl rfl hl.1 rfl (Nat.le_of_ble_eq_true rfl) dX9_readClause_367 ⟨Nat.le_of_ble_eq_true rfl, Nat.le_of_ble_eq_true rfl⟩) hP hD hS hA [0, 1] [2] [1, 2, 0] rfl rfl rfl (by decide) (fun _ => rfl) rfl (fun  u H locs hw hz hP hD hS => ?_)
                    obtain ⟨u8, u9, u10, u11⟩ := u
                    have hw_19 := hw.symm
                    have hP : va_P D vwCl [(o, .inr (9, [.ref o_road, .ref o_told, .ref o_fresh, .ref o_was, .int o_acts, .ref o_kept, .ref o_isKept, .ref o_sights, .int o_many, .ref o_text, .int o_letters, .int o_thrown, .int u8, .int u9, .int u10, .long u11, .int o_isFault, .int o_faultAt, .int o_above, .int o_below, .ref o_topOf, .ref o_partsOf, .ref o_sent])), (o_text, .inl (cI, 160, .inl o_text_f)), (o_fresh, .inl (cI, 36, .inl o_fresh_f))] H := hP
                    have hD : va_D A [(o, .inr (9, [.ref o_road, .ref o_told, .ref o_fresh, .ref o_was, .int o_acts, .ref o_kept, .ref o_isKept, .ref o_sights, .int o_many, .ref o_text, .int o_letters, .int o_thrown, .int u8, .int u9, .int u10, .long u11, .int o_isFault, .int o_faultAt, .int o_above, .int o_below, .ref o_topOf, .ref o_partsOf, .ref o_sent])), (o_text, .inl (cI, 160, .inl o_text_f)), (o_fresh, .inl (cI, 36, .inl o_fresh_f))] := hD
                    have hb_19 := next_b o_letters o_cursor o_text_f hl0 hl1 hc0 hc1
                    rw [hw_19] at hb_19
                    try dsimp only at hb_19
                    refine lv_aload_n hx hb dX9_readClause_370 rfl (lv_at hl 1 rfl) ?_
                    refine xget hx hb hts hown hK 9 (C2 := RX9) (T := TX9) (N := 23) rfl hin_9 hP 0 rfl 2 (by decide) fl_16 rfl rfl rfl dX9_readClause_371 ?_
                    refine lv_iconst (v := 2) hx hb dX9_readClause_374 (by decide) ?_
                    refine lv_iconst (v := 0) hx hb dX9_readClause_375 (by decide) ?_
                    refine xast hx hb hK hP hD hS 2 0 (k := 2) rfl rfl (vi (by decide) (by decide)) (by decide) dX9_readClause_376 [(o, .inr (9, [.ref o_road, .ref o_told, .ref o_fresh, .ref o_was, .int o_acts, .ref o_kept, .ref o_isKept, .ref o_sights, .int o_many, .ref o_text, .int o_letters, .int o_thrown, .int u8, .int u9, .int u10, .long u11, .int o_isFault, .int o_faultAt, .int o_above, .int o_below, .ref o_topOf, .ref o_partsOf, .ref o_sent])), (o_text, .inl (cI, 160, .inl o_text_f)), (o_fresh, .inl (cI, 36, .inl (upd o_fresh_f 2 0)))] rfl (fun H locs hP hD hS => ?_)
                    refine lv_goto (tgt := 384) hx hb dX9_readClause_377 (by decide) ?_
                    exact hret _ _ _ _ (u8, u9, u10, u11, o_isFault, o_faultAt, (upd o_fresh_f 2 0)) dX9_readClause_384 ((hF.trans (by simp only [fX9_readClause, ↓if_pos c_1, ↓if_pos c_2, ↓if_neg c_6, ↓if_neg c_8, ↓if_neg c_10, ↓if_pos c_12, ↓hw_19])).symm) hP hD hS
              · refine lv_aload_n hx hb dX9_readClause_299 rfl (lv_at hl 1 rfl) ?_
                refine xcallv (S := Int32 × Int32 × Int32 × Int64) (Wc := [(o, .inr (9, [.ref o_road, .ref o_told, .ref o_fresh, .ref o_was, .int o_acts, .ref o_kept, .ref o_isKept, .ref o_sights, .int o_many, .ref o_text, .int o_letters, .int o_thrown, .int o_cursor, .int o_token, .int o_start, .long o_value, .int o_isFault, .int o_faultAt, .int o_above, .int o_below, .ref o_topOf, .ref o_partsOf, .ref o_sent])), (o_text, .inl (cI, 160, .inl o_text_f))]) (wr := [(o_fresh, .inl (cI, 36, .inl o_fresh_f))]) (W1 := (fun (u : Int32 × Int32 × Int32 × Int64) => [(o, .inr (9, [.ref o_road, .ref o_told, .ref o_fresh, .ref o_was, .int o_acts, .ref o_kept, .ref o_isKept, .ref o_sights, .int o_many, .ref o_text, .int o_letters, .int o_thrown, .int u.1, .int u.2.1, .int u.2.2.1, .long u.2.2.2, .int o_isFault, .int o_faultAt, .int o_above, .int o_below, .ref o_topOf, .ref o_partsOf, .ref o_sent])), (o_text, .inl (cI, 160, .inl o_text_f))])) (Wn := (fun (u : Int32 × Int32 × Int32 × Int64) => [(o, .inr (9, [.ref o_road, .ref o_told, .ref o_fresh, .ref o_was, .int o_acts, .ref o_kept, .ref o_isKept, .ref o_sights, .int o_many, .ref o_text, .int o_letters, .int o_thrown, .int u.1, .int u.2.1, .int u.2.2.1, .long u.2.2.2, .int o_isFault, .int o_faultAt, .int o_above, .int o_below, .ref o_topOf, .ref o_partsOf, .ref o_sent])), (o_text, .inl (cI, 160, .inl o_text_f)), (o_fresh, .inl (cI, 36, .inl o_fresh_f))])) (xrunV hx hb hml hown hts (c_X9_next l D cI cZ _ o o_road o_told o_fresh o_was o_acts o_kept o_isKept o_sights o_many o_text o_letters o_thrown o_cursor o_token o_start o_value o_isFault o_faultAt o_above o_below o_topOf o_partsOf o_sent o_text_f hl0 hl1 hc0 hc1) (cwV 0 hts gX9_readClause_X9_next rfl rfl rfl (by decide +kernel) ⟨Nat.le_of_ble_eq_true rfl, Nat.le_of_ble_eq_true rfl⟩) hE hK hP hD [0, 1] rfl rfl 0 9 (T := TX9) (N := 23) rfl rfl rfl hl.1 rfl (Nat.le_of_ble_eq_true rfl) dX9_readClause_300 ⟨Nat.le_of_ble_eq_true rfl, Nat.le_of_ble_eq_true rfl⟩) hP hD hS hA [0, 1] [2] [1, 2, 0] rfl rfl rfl (by decide) (fun _ => rfl) rfl (fun  u H locs hw hz hP hD hS => ?_)
                obtain ⟨u12, u13, u14, u15⟩ := u
                have hw_20 := hw.symm
                have hP : va_P D vwCl [(o, .inr (9, [.ref o_road, .ref o_told, .ref o_fresh, .ref o_was, .int o_acts, .ref o_kept, .ref o_isKept, .ref o_sights, .int o_many, .ref o_text, .int o_letters, .int o_thrown, .int u12, .int u13, .int u14, .long u15, .int o_isFault, .int o_faultAt, .int o_above, .int o_below, .ref o_topOf, .ref o_partsOf, .ref o_sent])), (o_text, .inl (cI, 160, .inl o_text_f)), (o_fresh, .inl (cI, 36, .inl o_fresh_f))] H := hP
                have hD : va_D A [(o, .inr (9, [.ref o_road, .ref o_told, .ref o_fresh, .ref o_was, .int o_acts, .ref o_kept, .ref o_isKept, .ref o_sights, .int o_many, .ref o_text, .int o_letters, .int o_thrown, .int u12, .int u13, .int u14, .long u15, .int o_isFault, .int o_faultAt, .int o_above, .int o_below, .ref o_topOf, .ref o_partsOf, .ref o_sent])), (o_text, .inl (cI, 160, .inl o_text_f)), (o_fresh, .inl (cI, 36, .inl o_fresh_f))] := hD
                have hb_20 := next_b o_letters o_cursor o_text_f hl0 hl1 hc0 hc1
                rw [hw_20] at hb_20
                try dsimp only at hb_20
                refine lv_aload_n hx hb dX9_readClause_303 rfl (lv_at hl 1 rfl) ?_
                refine lv_iconst (v := 1) hx hb dX9_readClause_304 (by decide) ?_
                refine lv_bipush (v := 40) hx hb dX9_readClause_305 (by decide) ?_
                refine xcalli (S := Int32 × Int32 × Int32 × Int64 × Int32 × Int32) (Wc := [(o, .inr (9, [.ref o_road, .ref o_told, .ref o_fresh, .ref o_was, .int o_acts, .ref o_kept, .ref o_isKept, .ref o_sights, .int o_many, .ref o_text, .int o_letters, .int o_thrown, .int u12, .int u13, .int u14, .long u15, .int o_isFault, .int o_faultAt, .int o_above, .int o_below, .ref o_topOf, .ref o_partsOf, .ref o_sent])), (o_text, .inl (cI, 160, .inl o_text_f))]) (wr := [(o_fresh, .inl (cI, 36, .inl o_fresh_f))]) (W1 := (fun (u : Int32 × Int32 × Int32 × Int64 × Int32 × Int32) => [(o, .inr (9, [.ref o_road, .ref o_told, .ref o_fresh, .ref o_was, .int o_acts, .ref o_kept, .ref o_isKept, .ref o_sights, .int o_many, .ref o_text, .int o_letters, .int o_thrown, .int u.1, .int u.2.1, .int u.2.2.1, .long u.2.2.2.1, .int u.2.2.2.2.1, .int u.2.2.2.2.2, .int o_above, .int o_below, .ref o_topOf, .ref o_partsOf, .ref o_sent])), (o_text, .inl (cI, 160, .inl o_text_f))])) (Wn := (fun (u : Int32 × Int32 × Int32 × Int64 × Int32 × Int32) => [(o, .inr (9, [.ref o_road, .ref o_told, .ref o_fresh, .ref o_was, .int o_acts, .ref o_kept, .ref o_isKept, .ref o_sights, .int o_many, .ref o_text, .int o_letters, .int o_thrown, .int u.1, .int u.2.1, .int u.2.2.1, .long u.2.2.2.1, .int u.2.2.2.2.1, .int u.2.2.2.2.2, .int o_above, .int o_below, .ref o_topOf, .ref o_partsOf, .ref o_sent])), (o_text, .inl (cI, 160, .inl o_text_f)), (o_fresh, .inl (cI, 36, .inl o_fresh_f))])) (xrunV hx hb hml hown hts (c_X9_number l D cI cZ _ o 1 40 o_road o_told o_fresh o_was o_acts o_kept o_isKept o_sights o_many o_text o_letters o_thrown u12 u13 u14 u15 o_isFault o_faultAt o_above o_below o_topOf o_partsOf o_sent o_text_f hl0 hl1 (by first | with_reducible assumption | with_reducible omega | decide) (by first | with_reducible assumption | with_reducible omega | decide)) (cwV 2 hts gX9_readClause_X9_number rfl rfl rfl (by decide +kernel) ⟨Nat.le_of_ble_eq_true rfl, Nat.le_of_ble_eq_true rfl⟩) hE hK hP hD [0, 1] rfl rfl 0 9 (T := TX9) (N := 23) rfl rfl rfl hl.1 rfl (Nat.le_of_ble_eq_true rfl) dX9_readClause_307 ⟨Nat.le_of_ble_eq_true rfl, Nat.le_of_ble_eq_true rfl⟩) hP hD hS hA [0, 1] [2] [1, 2, 0] rfl rfl rfl (by decide) (fun _ => rfl) rfl (fun r22 u H locs hw hz hP hD hS => ?_)
                obtain ⟨u16, u17, u18, u19, u20, u21⟩ := u
                have hw_21 := hw.symm
                have hP : va_P D vwCl [(o, .inr (9, [.ref o_road, .ref o_told, .ref o_fresh, .ref o_was, .int o_acts, .ref o_kept, .ref o_isKept, .ref o_sights, .int o_many, .ref o_text, .int o_letters, .int o_thrown, .int u16, .int u17, .int u18, .long u19, .int u20, .int u21, .int o_above, .int o_below, .ref o_topOf, .ref o_partsOf, .ref o_sent])), (o_text, .inl (cI, 160, .inl o_text_f)), (o_fresh, .inl (cI, 36, .inl o_fresh_f))] H := hP
                have hD : va_D A [(o, .inr (9, [.ref o_road, .ref o_told, .ref o_fresh, .ref o_was, .int o_acts, .ref o_kept, .ref o_isKept, .ref o_sights, .int o_many, .ref o_text, .int o_letters, .int o_thrown, .int u16, .int u17, .int u18, .long u19, .int u20, .int u21, .int o_above, .int o_below, .ref o_topOf, .ref o_partsOf, .ref o_sent])), (o_text, .inl (cI, 160, .inl o_text_f)), (o_fresh, .inl (cI, 36, .inl o_fresh_f))] := hD
                have hb_21 := number_b 1 40 o_letters u12 u13 u14 u15 o_isFault o_faultAt o_text_f hl0 hl1 (by first | with_reducible assumption | with_reducible omega | decide) (by first | with_reducible assumption | with_reducible omega | decide)
                rw [hw_21] at hb_21
                try dsimp only at hb_21
                refine lv_istore_n (lv' := [(2, .int r22), (1, .int (fX9_kindBy o_token o_value)), (0, .ref o)]) hx hb dX9_readClause_310 rfl hl (by decide) rfl (fun ls hl => ?_)
                refine lv_aload_n hx hb dX9_readClause_311 rfl (lv_at hl 2 rfl) ?_
                refine xget hx hb hts hown hK 9 (C2 := RX9) (T := TX9) (N := 23) rfl hin_9 hP 0 rfl 2 (by decide) fl_16 rfl rfl rfl dX9_readClause_312 ?_
                refine lv_iconst (v := 1) hx hb dX9_readClause_315 (by decide) ?_
                refine lv_aload_n hx hb dX9_readClause_316 rfl (lv_at hl 2 rfl) ?_
                refine xget hx hb hts hown hK 9 (C2 := RX9) (T := TX9) (N := 23) rfl hin_9 hP 0 rfl 16 (by decide) fl_95 rfl rfl rfl dX9_readClause_317 ?_
                have K_y_1 : ∀ (y_1 : Int32) (hy_y_1 : (if u20 = 0 then r22 else (o_fresh_f 1)) = y_1) (H : Heap) (locs : List Loc) (hP : va_P D vwCl [(o, .inr (9, [.ref o_road, .ref o_told, .ref o_fresh, .ref o_was, .int o_acts, .ref o_kept, .ref o_isKept, .ref o_sights, .int o_many, .ref o_text, .int o_letters, .int o_thrown, .int u16, .int u17, .int u18, .long u19, .int u20, .int u21, .int o_above, .int o_below, .ref o_topOf, .ref o_partsOf, .ref o_sent])), (o_text, .inl (cI, 160, .inl o_text_f)), (o_fresh, .inl (cI, 36, .inl o_fresh_f))] H) (hD : va_D A [(o, .inr (9, [.ref o_road, .ref o_told, .ref o_fresh, .ref o_was, .int o_acts, .ref o_kept, .ref o_isKept, .ref o_sights, .int o_many, .ref o_text, .int o_letters, .int o_thrown, .int u16, .int u17, .int u18, .long u19, .int u20, .int u21, .int o_above, .int o_below, .ref o_topOf, .ref o_partsOf, .ref o_sent])), (o_text, .inl (cI, 160, .inl o_text_f)), (o_fresh, .inl (cI, 36, .inl o_fresh_f))]) (hS : va_S A s.heap H locs), W p l e ({ frames := 4, cells := 0, slots := 0, locals := 88 } : Room) s m ([.ref o] : List Value).toArray below meth c H locs 0 0 Q (F0 m 333 ls [.int y_1, .int 1, .ref o_fresh]) := by
                  intro y_1 hy_y_1 H locs hP hD hS
                  have ky_y_1 : y_1 = (o_fresh_f 1) ∨ y_1 = r22 := by rw [← hy_y_1]; (repeat' split) <;> simp
                  refine xast hx hb hK hP hD hS 2 0 (k := 1) rfl rfl (vi (by decide) (by decide)) (by decide) dX9_readClause_333 [(o, .inr (9, [.ref o_road, .ref o_told, .ref o_fresh, .ref o_was, .int o_acts, .ref o_kept, .ref o_isKept, .ref o_sights, .int o_many, .ref o_text, .int o_letters, .int o_thrown, .int u16, .int u17, .int u18, .long u19, .int u20, .int u21, .int o_above, .int o_below, .ref o_topOf, .ref o_partsOf, .ref o_sent])), (o_text, .inl (cI, 160, .inl o_text_f)), (o_fresh, .inl (cI, 36, .inl (upd o_fresh_f 1 y_1)))] rfl (fun H locs hP hD hS => ?_)
                  refine lv_goto (tgt := 384) hx hb dX9_readClause_334 (by decide) ?_
                  exact hret _ _ _ _ (u16, u17, u18, u19, u20, u21, (upd o_fresh_f 1 y_1)) dX9_readClause_384 ((hF.trans (by simp only [fX9_readClause, ↓if_pos c_1, ↓if_pos c_2, ↓if_neg c_6, ↓if_neg c_8, ↓if_pos c_10, ↓hw_20, ↓hw_21, ↓(xlet_of hy_y_1)])).symm) hP hD hS
                refine lv_if_eq (tgt := 332) hx hb dX9_readClause_320 (by decide) (fun c_13 => ?_) (fun c_13 => ?_)
                · have kc_13 := t_eq c_13
                  refine lv_iload_n hx hb dX9_readClause_332 rfl (lv_at hl 0 rfl) ?_
                  exact K_y_1 _ (by simp only [↓if_pos c_13]) _ _ hP hD hS
                · have kc_13 := t_neq c_13
                  refine lv_aload_n hx hb dX9_readClause_323 rfl (lv_at hl 2 rfl) ?_
                  refine xget hx hb hts hown hK 9 (C2 := RX9) (T := TX9) (N := 23) rfl hin_9 hP 0 rfl 2 (by decide) fl_16 rfl rfl rfl dX9_readClause_324 ?_
                  refine lv_iconst (v := 1) hx hb dX9_readClause_327 (by decide) ?_
                  refine xald hx hb hK hP 2 0 (k := 1) rfl rfl (vi (by decide) (by decide)) (by decide) dX9_readClause_328 ?_
                  refine lv_goto (tgt := 333) hx hb dX9_readClause_329 (by decide) ?_
                  exact K_y_1 _ (by simp only [↓if_neg c_13]) _ _ hP hD hS
          · refine lv_aload_n hx hb dX9_readClause_174 rfl (lv_at hl 1 rfl) ?_
            refine xcallv (S := Int32 × Int32 × Int32 × Int64) (Wc := [(o, .inr (9, [.ref o_road, .ref o_told, .ref o_fresh, .ref o_was, .int o_acts, .ref o_kept, .ref o_isKept, .ref o_sights, .int o_many, .ref o_text, .int o_letters, .int o_thrown, .int o_cursor, .int o_token, .int o_start, .long o_value, .int o_isFault, .int o_faultAt, .int o_above, .int o_below, .ref o_topOf, .ref o_partsOf, .ref o_sent])), (o_text, .inl (cI, 160, .inl o_text_f))]) (wr := [(o_fresh, .inl (cI, 36, .inl o_fresh_f))]) (W1 := (fun (u : Int32 × Int32 × Int32 × Int64) => [(o, .inr (9, [.ref o_road, .ref o_told, .ref o_fresh, .ref o_was, .int o_acts, .ref o_kept, .ref o_isKept, .ref o_sights, .int o_many, .ref o_text, .int o_letters, .int o_thrown, .int u.1, .int u.2.1, .int u.2.2.1, .long u.2.2.2, .int o_isFault, .int o_faultAt, .int o_above, .int o_below, .ref o_topOf, .ref o_partsOf, .ref o_sent])), (o_text, .inl (cI, 160, .inl o_text_f))])) (Wn := (fun (u : Int32 × Int32 × Int32 × Int64) => [(o, .inr (9, [.ref o_road, .ref o_told, .ref o_fresh, .ref o_was, .int o_acts, .ref o_kept, .ref o_isKept, .ref o_sights, .int o_many, .ref o_text, .int o_letters, .int o_thrown, .int u.1, .int u.2.1, .int u.2.2.1, .long u.2.2.2, .int o_isFault, .int o_faultAt, .int o_above, .int o_below, .ref o_topOf, .ref o_partsOf, .ref o_sent])), (o_text, .inl (cI, 160, .inl o_text_f)), (o_fresh, .inl (cI, 36, .inl o_fresh_f))])) (xrunV hx hb hml hown hts (c_X9_next l D cI cZ _ o o_road o_told o_fresh o_was o_acts o_kept o_isKept o_sights o_many o_text o_letters o_thrown o_cursor o_token o_start o_value o_isFault o_faultAt o_above o_below o_topOf o_partsOf o_sent o_text_f hl0 hl1 hc0 hc1) (cwV 0 hts gX9_readClause_X9_next rfl rfl rfl (by decide +kernel) ⟨Nat.le_of_ble_eq_true rfl, Nat.le_of_ble_eq_true rfl⟩) hE hK hP hD [0, 1] rfl rfl 0 9 (T := TX9) (N := 23) rfl rfl rfl hl.1 rfl (Nat.le_of_ble_eq_true rfl) dX9_readClause_175 ⟨Nat.le_of_ble_eq_true rfl, Nat.le_of_ble_eq_true rfl⟩) hP hD hS hA [0, 1] [2] [1, 2, 0] rfl rfl rfl (by decide) (fun _ => rfl) rfl (fun  u H locs hw hz hP hD hS => ?_)
            obtain ⟨u23, u24, u25, u26⟩ := u
            have hw_22 := hw.symm
            have hP : va_P D vwCl [(o, .inr (9, [.ref o_road, .ref o_told, .ref o_fresh, .ref o_was, .int o_acts, .ref o_kept, .ref o_isKept, .ref o_sights, .int o_many, .ref o_text, .int o_letters, .int o_thrown, .int u23, .int u24, .int u25, .long u26, .int o_isFault, .int o_faultAt, .int o_above, .int o_below, .ref o_topOf, .ref o_partsOf, .ref o_sent])), (o_text, .inl (cI, 160, .inl o_text_f)), (o_fresh, .inl (cI, 36, .inl o_fresh_f))] H := hP
            have hD : va_D A [(o, .inr (9, [.ref o_road, .ref o_told, .ref o_fresh, .ref o_was, .int o_acts, .ref o_kept, .ref o_isKept, .ref o_sights, .int o_many, .ref o_text, .int o_letters, .int o_thrown, .int u23, .int u24, .int u25, .long u26, .int o_isFault, .int o_faultAt, .int o_above, .int o_below, .ref o_topOf, .ref o_partsOf, .ref o_sent])), (o_text, .inl (cI, 160, .inl o_text_f)), (o_fresh, .inl (cI, 36, .inl o_fresh_f))] := hD
            have hb_22 := next_b o_letters o_cursor o_text_f hl0 hl1 hc0 hc1
            rw [hw_22] at hb_22
            try dsimp only at hb_22
            refine lv_aload_n hx hb dX9_readClause_178 rfl (lv_at hl 1 rfl) ?_
            refine lv_iconst (v := 1) hx hb dX9_readClause_179 (by decide) ?_
            refine lv_aload_n hx hb dX9_readClause_180 rfl (lv_at hl 1 rfl) ?_
            refine xget hx hb hts hown hK 9 (C2 := RX9) (T := TX9) (N := 23) rfl hin_9 hP 0 rfl 2 (by decide) fl_16 rfl rfl rfl dX9_readClause_181 ?_
            refine lv_iconst (v := 0) hx hb dX9_readClause_184 (by decide) ?_
            refine xald hx hb hK hP 2 0 (k := 0) rfl rfl (vi (by decide) (by decide)) (by decide) dX9_readClause_185 ?_
            refine xcalli (S := Int32 × Int32 × Int32 × Int64 × Int32 × Int32) (Wc := [(o, .inr (9, [.ref o_road, .ref o_told, .ref o_fresh, .ref o_was, .int o_acts, .ref o_kept, .ref o_isKept, .ref o_sights, .int o_many, .ref o_text, .int o_letters, .int o_thrown, .int u23, .int u24, .int u25, .long u26, .int o_isFault, .int o_faultAt, .int o_above, .int o_below, .ref o_topOf, .ref o_partsOf, .ref o_sent])), (o_text, .inl (cI, 160, .inl o_text_f))]) (wr := [(o_fresh, .inl (cI, 36, .inl o_fresh_f))]) (W1 := (fun (u : Int32 × Int32 × Int32 × Int64 × Int32 × Int32) => [(o, .inr (9, [.ref o_road, .ref o_told, .ref o_fresh, .ref o_was, .int o_acts, .ref o_kept, .ref o_isKept, .ref o_sights, .int o_many, .ref o_text, .int o_letters, .int o_thrown, .int u.1, .int u.2.1, .int u.2.2.1, .long u.2.2.2.1, .int u.2.2.2.2.1, .int u.2.2.2.2.2, .int o_above, .int o_below, .ref o_topOf, .ref o_partsOf, .ref o_sent])), (o_text, .inl (cI, 160, .inl o_text_f))])) (Wn := (fun (u : Int32 × Int32 × Int32 × Int64 × Int32 × Int32) => [(o, .inr (9, [.ref o_road, .ref o_told, .ref o_fresh, .ref o_was, .int o_acts, .ref o_kept, .ref o_isKept, .ref o_sights, .int o_many, .ref o_text, .int o_letters, .int o_thrown, .int u.1, .int u.2.1, .int u.2.2.1, .long u.2.2.2.1, .int u.2.2.2.2.1, .int u.2.2.2.2.2, .int o_above, .int o_below, .ref o_topOf, .ref o_partsOf, .ref o_sent])), (o_text, .inl (cI, 160, .inl o_text_f)), (o_fresh, .inl (cI, 36, .inl o_fresh_f))])) (xrunV hx hb hml hown hts (c_X9_number l D cI cZ _ o 1 (o_fresh_f 0) o_road o_told o_fresh o_was o_acts o_kept o_isKept o_sights o_many o_text o_letters o_thrown u23 u24 u25 u26 o_isFault o_faultAt o_above o_below o_topOf o_partsOf o_sent o_text_f hl0 hl1 (by first | with_reducible assumption | with_reducible omega | decide) (by first | with_reducible assumption | with_reducible omega | decide)) (cwV 2 hts gX9_readClause_X9_number rfl rfl rfl (by decide +kernel) ⟨Nat.le_of_ble_eq_true rfl, Nat.le_of_ble_eq_true rfl⟩) hE hK hP hD [0, 1] rfl rfl 0 9 (T := TX9) (N := 23) rfl rfl rfl hl.1 rfl (Nat.le_of_ble_eq_true rfl) dX9_readClause_186 ⟨Nat.le_of_ble_eq_true rfl, Nat.le_of_ble_eq_true rfl⟩) hP hD hS hA [0, 1] [2] [1, 2, 0] rfl rfl rfl (by decide) (fun _ => rfl) rfl (fun r33 u H locs hw hz hP hD hS => ?_)
            obtain ⟨u27, u28, u29, u30, u31, u32⟩ := u
            have hw_23 := hw.symm
            have hP : va_P D vwCl [(o, .inr (9, [.ref o_road, .ref o_told, .ref o_fresh, .ref o_was, .int o_acts, .ref o_kept, .ref o_isKept, .ref o_sights, .int o_many, .ref o_text, .int o_letters, .int o_thrown, .int u27, .int u28, .int u29, .long u30, .int u31, .int u32, .int o_above, .int o_below, .ref o_topOf, .ref o_partsOf, .ref o_sent])), (o_text, .inl (cI, 160, .inl o_text_f)), (o_fresh, .inl (cI, 36, .inl o_fresh_f))] H := hP
            have hD : va_D A [(o, .inr (9, [.ref o_road, .ref o_told, .ref o_fresh, .ref o_was, .int o_acts, .ref o_kept, .ref o_isKept, .ref o_sights, .int o_many, .ref o_text, .int o_letters, .int o_thrown, .int u27, .int u28, .int u29, .long u30, .int u31, .int u32, .int o_above, .int o_below, .ref o_topOf, .ref o_partsOf, .ref o_sent])), (o_text, .inl (cI, 160, .inl o_text_f)), (o_fresh, .inl (cI, 36, .inl o_fresh_f))] := hD
            have hb_23 := number_b 1 (o_fresh_f 0) o_letters u23 u24 u25 u26 o_isFault o_faultAt o_text_f hl0 hl1 (by first | with_reducible assumption | with_reducible omega | decide) (by first | with_reducible assumption | with_reducible omega | decide)
            rw [hw_23] at hb_23
            try dsimp only at hb_23
            refine lv_istore_n (lv' := [(2, .int r33), (1, .int (fX9_kindBy o_token o_value)), (0, .ref o)]) hx hb dX9_readClause_189 rfl hl (by decide) rfl (fun ls hl => ?_)
            refine lv_aload_n hx hb dX9_readClause_190 rfl (lv_at hl 2 rfl) ?_
            refine xget hx hb hts hown hK 9 (C2 := RX9) (T := TX9) (N := 23) rfl hin_9 hP 0 rfl 16 (by decide) fl_95 rfl rfl rfl dX9_readClause_191 ?_
            refine lv_if_eq (tgt := 201) hx hb dX9_readClause_194 (by decide) (fun c_14 => ?_) (fun c_14 => ?_)
            · have kc_14 := t_eq c_14
              have q1 := hb_23.2 (by with_reducible assumption)
              have zz1 : (1 : Int32).toInt = 1 := by decide
              refine lv_aload_n hx hb dX9_readClause_201 rfl (lv_at hl 2 rfl) ?_
              refine lv_iload_n hx hb dX9_readClause_202 rfl (lv_at hl 0 rfl) ?_
              refine lv_aload_n hx hb dX9_readClause_203 rfl (lv_at hl 2 rfl) ?_
              refine xget hx hb hts hown hK 9 (C2 := RX9) (T := TX9) (N := 23) rfl hin_9 hP 0 rfl 2 (by decide) fl_16 rfl rfl rfl dX9_readClause_204 ?_
              refine lv_iconst (v := 0) hx hb dX9_readClause_207 (by decide) ?_
              refine xald hx hb hK hP 2 0 (k := 0) rfl rfl (vi (by decide) (by decide)) (by decide) dX9_readClause_208 ?_
              refine xcalli (S := Int32 × Int32 × Int32 × Int64 × Int32 × Int32) (Wc := [(o, .inr (9, [.ref o_road, .ref o_told, .ref o_fresh, .ref o_was, .int o_acts, .ref o_kept, .ref o_isKept, .ref o_sights, .int o_many, .ref o_text, .int o_letters, .int o_thrown, .int u27, .int u28, .int u29, .long u30, .int u31, .int u32, .int o_above, .int o_below, .ref o_topOf, .ref o_partsOf, .ref o_sent])), (o_text, .inl (cI, 160, .inl o_text_f))]) (wr := [(o_fresh, .inl (cI, 36, .inl o_fresh_f))]) (W1 := (fun (u : Int32 × Int32 × Int32 × Int64 × Int32 × Int32) => [(o, .inr (9, [.ref o_road, .ref o_told, .ref o_fresh, .ref o_was, .int o_acts, .ref o_kept, .ref o_isKept, .ref o_sights, .int o_many, .ref o_text, .int o_letters, .int o_thrown, .int u.1, .int u.2.1, .int u.2.2.1, .long u.2.2.2.1, .int u.2.2.2.2.1, .int u.2.2.2.2.2, .int o_above, .int o_below, .ref o_topOf, .ref o_partsOf, .ref o_sent])), (o_text, .inl (cI, 160, .inl o_text_f))])) (Wn := (fun (u : Int32 × Int32 × Int32 × Int64 × Int32 × Int32) => [(o, .inr (9, [.ref o_road, .ref o_told, .ref o_fresh, .ref o_was, .int o_acts, .ref o_kept, .ref o_isKept, .ref o_sights, .int o_many, .ref o_text, .int o_letters, .int o_thrown, .int u.1, .int u.2.1, .int u.2.2.1, .long u.2.2.2.1, .int u.2.2.2.2.1, .int u.2.2.2.2.2, .int o_above, .int o_below, .ref o_topOf, .ref o_partsOf, .ref o_sent])), (o_text, .inl (cI, 160, .inl o_text_f)), (o_fresh, .inl (cI, 36, .inl o_fresh_f))])) (xrunV hx hb hml hown hts (c_X9_number l D cI cZ _ o r33 (o_fresh_f 0) o_road o_told o_fresh o_was o_acts o_kept o_isKept o_sights o_many o_text o_letters o_thrown u27 u28 u29 u30 u31 u32 o_above o_below o_topOf o_partsOf o_sent o_text_f hl0 hl1 (by first | with_reducible assumption | with_reducible omega | decide) (by first | with_reducible assumption | with_reducible omega | decide)) (cwV 2 hts gX9_readClause_X9_number rfl rfl rfl (by decide +kernel) ⟨Nat.le_of_ble_eq_true rfl, Nat.le_of_ble_eq_true rfl⟩) hE hK hP hD [0, 1] rfl rfl 0 9 (T := TX9) (N := 23) rfl rfl rfl hl.1 rfl (Nat.le_of_ble_eq_true rfl) dX9_readClause_209 ⟨Nat.le_of_ble_eq_true rfl, Nat.le_of_ble_eq_true rfl⟩) hP hD hS hA [0, 1] [2] [1, 2, 0] rfl rfl rfl (by decide) (fun _ => rfl) rfl (fun r40 u H locs hw hz hP hD hS => ?_)
              obtain ⟨u34, u35, u36, u37, u38, u39⟩ := u
              have hw_25 := hw.symm
              have hP : va_P D vwCl [(o, .inr (9, [.ref o_road, .ref o_told, .ref o_fresh, .ref o_was, .int o_acts, .ref o_kept, .ref o_isKept, .ref o_sights, .int o_many, .ref o_text, .int o_letters, .int o_thrown, .int u34, .int u35, .int u36, .long u37, .int u38, .int u39, .int o_above, .int o_below, .ref o_topOf, .ref o_partsOf, .ref o_sent])), (o_text, .inl (cI, 160, .inl o_text_f)), (o_fresh, .inl (cI, 36, .inl o_fresh_f))] H := hP
              have hD : va_D A [(o, .inr (9, [.ref o_road, .ref o_told, .ref o_fresh, .ref o_was, .int o_acts, .ref o_kept, .ref o_isKept, .ref o_sights, .int o_many, .ref o_text, .int o_letters, .int o_thrown, .int u34, .int u35, .int u36, .long u37, .int u38, .int u39, .int o_above, .int o_below, .ref o_topOf, .ref o_partsOf, .ref o_sent])), (o_text, .inl (cI, 160, .inl o_text_f)), (o_fresh, .inl (cI, 36, .inl o_fresh_f))] := hD
              have hb_25 := number_b r33 (o_fresh_f 0) o_letters u27 u28 u29 u30 u31 u32 o_text_f hl0 hl1 (by first | with_reducible assumption | with_reducible omega | decide) (by first | with_reducible assumption | with_reducible omega | decide)
              rw [hw_25] at hb_25
              try dsimp only at hb_25
              refine lv_istore_n (lv' := [(3, .int r40), (2, .int r33), (1, .int (fX9_kindBy o_token o_value)), (0, .ref o)]) hx hb dX9_readClause_212 rfl hl (by decide) rfl (fun ls hl => ?_)
              refine lv_aload_n hx hb dX9_readClause_213 rfl (lv_at hl 3 rfl) ?_
              refine xget hx hb hts hown hK 9 (C2 := RX9) (T := TX9) (N := 23) rfl hin_9 hP 0 rfl 16 (by decide) fl_95 rfl rfl rfl dX9_readClause_214 ?_
              refine lv_if_eq (tgt := 224) hx hb dX9_readClause_217 (by decide) (fun c_15 => ?_) (fun c_15 => ?_)
              · have kc_15 := t_eq c_15
                have q2 := hb_25.2 (by with_reducible assumption)
                refine lv_aload_n hx hb dX9_readClause_224 rfl (lv_at hl 3 rfl) ?_
                refine lv_iconst (v := 1) hx hb dX9_readClause_225 (by decide) ?_
                refine lv_bipush (v := 9) hx hb dX9_readClause_226 (by decide) ?_
                refine xcalli (S := Int32 × Int32 × Int32 × Int64 × Int32 × Int32) (Wc := [(o, .inr (9, [.ref o_road, .ref o_told, .ref o_fresh, .ref o_was, .int o_acts, .ref o_kept, .ref o_isKept, .ref o_sights, .int o_many, .ref o_text, .int o_letters, .int o_thrown, .int u34, .int u35, .int u36, .long u37, .int u38, .int u39, .int o_above, .int o_below, .ref o_topOf, .ref o_partsOf, .ref o_sent])), (o_text, .inl (cI, 160, .inl o_text_f))]) (wr := [(o_fresh, .inl (cI, 36, .inl o_fresh_f))]) (W1 := (fun (u : Int32 × Int32 × Int32 × Int64 × Int32 × Int32) => [(o, .inr (9, [.ref o_road, .ref o_told, .ref o_fresh, .ref o_was, .int o_acts, .ref o_kept, .ref o_isKept, .ref o_sights, .int o_many, .ref o_text, .int o_letters, .int o_thrown, .int u.1, .int u.2.1, .int u.2.2.1, .long u.2.2.2.1, .int u.2.2.2.2.1, .int u.2.2.2.2.2, .int o_above, .int o_below, .ref o_topOf, .ref o_partsOf, .ref o_sent])), (o_text, .inl (cI, 160, .inl o_text_f))])) (Wn := (fun (u : Int32 × Int32 × Int32 × Int64 × Int32 × Int32) => [(o, .inr (9, [.ref o_road, .ref o_told, .ref o_fresh, .ref o_was, .int o_acts, .ref o_kept, .ref o_isKept, .ref o_sights, .int o_many, .ref o_text, .int o_letters, .int o_thrown, .int u.1, .int u.2.1, .int u.2.2.1, .long u.2.2.2.1, .int u.2.2.2.2.1, .int u.2.2.2.2.2, .int o_above, .int o_below, .ref o_topOf, .ref o_partsOf, .ref o_sent])), (o_text, .inl (cI, 160, .inl o_text_f)), (o_fresh, .inl (cI, 36, .inl o_fresh_f))])) (xrunV hx hb hml hown hts (c_X9_number l D cI cZ _ o 1 9 o_road o_told o_fresh o_was o_acts o_kept o_isKept o_sights o_many o_text o_letters o_thrown u34 u35 u36 u37 u38 u39 o_above o_below o_topOf o_partsOf o_sent o_text_f hl0 hl1 (by first | with_reducible assumption | with_reducible omega | decide) (by first | with_reducible assumption | with_reducible omega | decide)) (cwV 2 hts gX9_readClause_X9_number rfl rfl rfl (by decide +kernel) ⟨Nat.le_of_ble_eq_true rfl, Nat.le_of_ble_eq_true rfl⟩) hE hK hP hD [0, 1] rfl rfl 0 9 (T := TX9) (N := 23) rfl rfl rfl hl.1 rfl (Nat.le_of_ble_eq_true rfl) dX9_readClause_228 ⟨Nat.le_of_ble_eq_true rfl, Nat.le_of_ble_eq_true rfl⟩) hP hD hS hA [0, 1] [2] [1, 2, 0] rfl rfl rfl (by decide) (fun _ => rfl) rfl (fun r47 u H locs hw hz hP hD hS => ?_)
                obtain ⟨u41, u42, u43, u44, u45, u46⟩ := u
                have hw_27 := hw.symm
                have hP : va_P D vwCl [(o, .inr (9, [.ref o_road, .ref o_told, .ref o_fresh, .ref o_was, .int o_acts, .ref o_kept, .ref o_isKept, .ref o_sights, .int o_many, .ref o_text, .int o_letters, .int o_thrown, .int u41, .int u42, .int u43, .long u44, .int u45, .int u46, .int o_above, .int o_below, .ref o_topOf, .ref o_partsOf, .ref o_sent])), (o_text, .inl (cI, 160, .inl o_text_f)), (o_fresh, .inl (cI, 36, .inl o_fresh_f))] H := hP
                have hD : va_D A [(o, .inr (9, [.ref o_road, .ref o_told, .ref o_fresh, .ref o_was, .int o_acts, .ref o_kept, .ref o_isKept, .ref o_sights, .int o_many, .ref o_text, .int o_letters, .int o_thrown, .int u41, .int u42, .int u43, .long u44, .int u45, .int u46, .int o_above, .int o_below, .ref o_topOf, .ref o_partsOf, .ref o_sent])), (o_text, .inl (cI, 160, .inl o_text_f)), (o_fresh, .inl (cI, 36, .inl o_fresh_f))] := hD
                have hb_27 := number_b 1 9 o_letters u34 u35 u36 u37 u38 u39 o_text_f hl0 hl1 (by first | with_reducible assumption | with_reducible omega | decide) (by first | with_reducible assumption | with_reducible omega | decide)
                rw [hw_27] at hb_27
                try dsimp only at hb_27
                refine lv_istore (lv' := [(4, .int r47), (3, .int r40), (2, .int r33), (1, .int (fX9_kindBy o_token o_value)), (0, .ref o)]) hx hb dX9_readClause_231 hl (by decide) rfl (fun ls hl => ?_)
                refine lv_iload_n hx hb dX9_readClause_233 rfl (lv_at hl 2 rfl) ?_
                refine lv_istore (lv' := [(5, .int r33), (4, .int r47), (3, .int r40), (2, .int r33), (1, .int (fX9_kindBy o_token o_value)), (0, .ref o)]) hx hb dX9_readClause_234 hl (by decide) rfl (fun ls hl => ?_)
                exact L_236 1000 o_fresh_f r33 r40 r47 r33 u41 u42 u43 u44 u45 u46 (fun h9 => by first | exact absurd h9 (by with_reducible assumption) | with_reducible omega) (by split <;> rename_i hh <;> first | exact absurd hh (by with_reducible assumption) | with_reducible omega) _ _ _ (lv_sub hl [5, 4, 3, 2, 1, 0] rfl) hP hD hS (hF.trans (by simp only [fX9_readClause, ↓if_pos c_1, ↓if_pos c_2, ↓if_neg c_6, ↓if_pos c_8, ↓hw_22, ↓hw_23, ↓if_pos c_14, ↓hw_25, ↓if_pos c_15, ↓hw_27]))
              · have kc_15 := t_neq c_15
                refine lv_iconst (v := 0) hx hb dX9_readClause_220 (by decide) ?_
                refine lv_goto (tgt := 231) hx hb dX9_readClause_221 (by decide) ?_
                refine lv_istore (lv' := [(4, .int 0), (3, .int r40), (2, .int r33), (1, .int (fX9_kindBy o_token o_value)), (0, .ref o)]) hx hb dX9_readClause_231 hl (by decide) rfl (fun ls hl => ?_)
                refine lv_iload_n hx hb dX9_readClause_233 rfl (lv_at hl 2 rfl) ?_
                refine lv_istore (lv' := [(5, .int r33), (4, .int 0), (3, .int r40), (2, .int r33), (1, .int (fX9_kindBy o_token o_value)), (0, .ref o)]) hx hb dX9_readClause_234 hl (by decide) rfl (fun ls hl => ?_)
                exact L_236 1000 o_fresh_f r33 r40 0 r33 u34 u35 u36 u37 u38 u39 (fun h9 => by first | exact absurd h9 (by with_reducible assumption) | with_reducible omega) (by split <;> rename_i hh <;> first | exact absurd hh (by with_reducible assumption) | with_reducible omega) _ _ _ (lv_sub hl [5, 4, 3, 2, 1, 0] rfl) hP hD hS (hF.trans (by simp only [fX9_readClause, ↓if_pos c_1, ↓if_pos c_2, ↓if_neg c_6, ↓if_pos c_8, ↓hw_22, ↓hw_23, ↓if_pos c_14, ↓hw_25, ↓if_neg c_15]))
            · have kc_14 := t_neq c_14
              refine lv_iload_n hx hb dX9_readClause_197 rfl (lv_at hl 0 rfl) ?_
              refine lv_goto (tgt := 212) hx hb dX9_readClause_198 (by decide) ?_
              refine lv_istore_n (lv' := [(3, .int r33), (2, .int r33), (1, .int (fX9_kindBy o_token o_value)), (0, .ref o)]) hx hb dX9_readClause_212 rfl hl (by decide) rfl (fun ls hl => ?_)
              refine lv_aload_n hx hb dX9_readClause_213 rfl (lv_at hl 3 rfl) ?_
              refine xget hx hb hts hown hK 9 (C2 := RX9) (T := TX9) (N := 23) rfl hin_9 hP 0 rfl 16 (by decide) fl_95 rfl rfl rfl dX9_readClause_214 ?_
              refine lv_if_eq (tgt := 224) hx hb dX9_readClause_217 (by decide) (fun c_16 => ?_) (fun c_16 => ?_)
              · exact absurd c_16 c_14
              · refine lv_iconst (v := 0) hx hb dX9_readClause_220 (by decide) ?_
                refine lv_goto (tgt := 231) hx hb dX9_readClause_221 (by decide) ?_
                refine lv_istore (lv' := [(4, .int 0), (3, .int r33), (2, .int r33), (1, .int (fX9_kindBy o_token o_value)), (0, .ref o)]) hx hb dX9_readClause_231 hl (by decide) rfl (fun ls hl => ?_)
                refine lv_iload_n hx hb dX9_readClause_233 rfl (lv_at hl 2 rfl) ?_
                refine lv_istore (lv' := [(5, .int r33), (4, .int 0), (3, .int r33), (2, .int r33), (1, .int (fX9_kindBy o_token o_value)), (0, .ref o)]) hx hb dX9_readClause_234 hl (by decide) rfl (fun ls hl => ?_)
                exact L_236 1000 o_fresh_f r33 r33 0 r33 u27 u28 u29 u30 u31 u32 (fun h9 => by first | exact absurd h9 (by with_reducible assumption) | with_reducible omega) (by split <;> rename_i hh <;> first | exact absurd hh (by with_reducible assumption) | with_reducible omega) _ _ _ (lv_sub hl [5, 4, 3, 2, 1, 0] rfl) hP hD hS (hF.trans (by simp only [fX9_readClause, ↓if_pos c_1, ↓if_pos c_2, ↓if_neg c_6, ↓if_pos c_8, ↓hw_22, ↓hw_23, ↓if_neg c_14]))
      · refine lv_aload_n hx hb dX9_readClause_115 rfl (lv_at hl 1 rfl) ?_
        refine xcallv (S := Int32 × Int32 × Int32 × Int64) (Wc := [(o, .inr (9, [.ref o_road, .ref o_told, .ref o_fresh, .ref o_was, .int o_acts, .ref o_kept, .ref o_isKept, .ref o_sights, .int o_many, .ref o_text, .int o_letters, .int o_thrown, .int o_cursor, .int o_token, .int o_start, .long o_value, .int o_isFault, .int o_faultAt, .int o_above, .int o_below, .ref o_topOf, .ref o_partsOf, .ref o_sent])), (o_text, .inl (cI, 160, .inl o_text_f))]) (wr := [(o_fresh, .inl (cI, 36, .inl o_fresh_f))]) (W1 := (fun (u : Int32 × Int32 × Int32 × Int64) => [(o, .inr (9, [.ref o_road, .ref o_told, .ref o_fresh, .ref o_was, .int o_acts, .ref o_kept, .ref o_isKept, .ref o_sights, .int o_many, .ref o_text, .int o_letters, .int o_thrown, .int u.1, .int u.2.1, .int u.2.2.1, .long u.2.2.2, .int o_isFault, .int o_faultAt, .int o_above, .int o_below, .ref o_topOf, .ref o_partsOf, .ref o_sent])), (o_text, .inl (cI, 160, .inl o_text_f))])) (Wn := (fun (u : Int32 × Int32 × Int32 × Int64) => [(o, .inr (9, [.ref o_road, .ref o_told, .ref o_fresh, .ref o_was, .int o_acts, .ref o_kept, .ref o_isKept, .ref o_sights, .int o_many, .ref o_text, .int o_letters, .int o_thrown, .int u.1, .int u.2.1, .int u.2.2.1, .long u.2.2.2, .int o_isFault, .int o_faultAt, .int o_above, .int o_below, .ref o_topOf, .ref o_partsOf, .ref o_sent])), (o_text, .inl (cI, 160, .inl o_text_f)), (o_fresh, .inl (cI, 36, .inl o_fresh_f))])) (xrunV hx hb hml hown hts (c_X9_next l D cI cZ _ o o_road o_told o_fresh o_was o_acts o_kept o_isKept o_sights o_many o_text o_letters o_thrown o_cursor o_token o_start o_value o_isFault o_faultAt o_above o_below o_topOf o_partsOf o_sent o_text_f hl0 hl1 hc0 hc1) (cwV 0 hts gX9_readClause_X9_next rfl rfl rfl (by decide +kernel) ⟨Nat.le_of_ble_eq_true rfl, Nat.le_of_ble_eq_true rfl⟩) hE hK hP hD [0, 1] rfl rfl 0 9 (T := TX9) (N := 23) rfl rfl rfl hl.1 rfl (Nat.le_of_ble_eq_true rfl) dX9_readClause_116 ⟨Nat.le_of_ble_eq_true rfl, Nat.le_of_ble_eq_true rfl⟩) hP hD hS hA [0, 1] [2] [1, 2, 0] rfl rfl rfl (by decide) (fun _ => rfl) rfl (fun  u H locs hw hz hP hD hS => ?_)
        obtain ⟨u48, u49, u50, u51⟩ := u
        have hw_28 := hw.symm
        have hP : va_P D vwCl [(o, .inr (9, [.ref o_road, .ref o_told, .ref o_fresh, .ref o_was, .int o_acts, .ref o_kept, .ref o_isKept, .ref o_sights, .int o_many, .ref o_text, .int o_letters, .int o_thrown, .int u48, .int u49, .int u50, .long u51, .int o_isFault, .int o_faultAt, .int o_above, .int o_below, .ref o_topOf, .ref o_partsOf, .ref o_sent])), (o_text, .inl (cI, 160, .inl o_text_f)), (o_fresh, .inl (cI, 36, .inl o_fresh_f))] H := hP
        have hD : va_D A [(o, .inr (9, [.ref o_road, .ref o_told, .ref o_fresh, .ref o_was, .int o_acts, .ref o_kept, .ref o_isKept, .ref o_sights, .int o_many, .ref o_text, .int o_letters, .int o_thrown, .int u48, .int u49, .int u50, .long u51, .int o_isFault, .int o_faultAt, .int o_above, .int o_below, .ref o_topOf, .ref o_partsOf, .ref o_sent])), (o_text, .inl (cI, 160, .inl o_text_f)), (o_fresh, .inl (cI, 36, .inl o_fresh_f))] := hD
        have hb_28 := next_b o_letters o_cursor o_text_f hl0 hl1 hc0 hc1
        rw [hw_28] at hb_28
        try dsimp only at hb_28
        refine lv_aload_n hx hb dX9_readClause_119 rfl (lv_at hl 1 rfl) ?_
        refine lv_iconst (v := 4) hx hb dX9_readClause_120 (by decide) ?_
        refine lv_bipush (v := 20) hx hb dX9_readClause_121 (by decide) ?_
        refine xcalli (S := Int32 × Int32 × Int32 × Int64 × Int32 × Int32) (Wc := [(o, .inr (9, [.ref o_road, .ref o_told, .ref o_fresh, .ref o_was, .int o_acts, .ref o_kept, .ref o_isKept, .ref o_sights, .int o_many, .ref o_text, .int o_letters, .int o_thrown, .int u48, .int u49, .int u50, .long u51, .int o_isFault, .int o_faultAt, .int o_above, .int o_below, .ref o_topOf, .ref o_partsOf, .ref o_sent])), (o_text, .inl (cI, 160, .inl o_text_f))]) (wr := [(o_fresh, .inl (cI, 36, .inl o_fresh_f))]) (W1 := (fun (u : Int32 × Int32 × Int32 × Int64 × Int32 × Int32) => [(o, .inr (9, [.ref o_road, .ref o_told, .ref o_fresh, .ref o_was, .int o_acts, .ref o_kept, .ref o_isKept, .ref o_sights, .int o_many, .ref o_text, .int o_letters, .int o_thrown, .int u.1, .int u.2.1, .int u.2.2.1, .long u.2.2.2.1, .int u.2.2.2.2.1, .int u.2.2.2.2.2, .int o_above, .int o_below, .ref o_topOf, .ref o_partsOf, .ref o_sent])), (o_text, .inl (cI, 160, .inl o_text_f))])) (Wn := (fun (u : Int32 × Int32 × Int32 × Int64 × Int32 × Int32) => [(o, .inr (9, [.ref o_road, .ref o_told, .ref o_fresh, .ref o_was, .int o_acts, .ref o_kept, .ref o_isKept, .ref o_sights, .int o_many, .ref o_text, .int o_letters, .int o_thrown, .int u.1, .int u.2.1, .int u.2.2.1, .long u.2.2.2.1, .int u.2.2.2.2.1, .int u.2.2.2.2.2, .int o_above, .int o_below, .ref o_topOf, .ref o_partsOf, .ref o_sent])), (o_text, .inl (cI, 160, .inl o_text_f)), (o_fresh, .inl (cI, 36, .inl o_fresh_f))])) (xrunV hx hb hml hown hts (c_X9_number l D cI cZ _ o 4 20 o_road o_told o_fresh o_was o_acts o_kept o_isKept o_sights o_many o_text o_letters o_thrown u48 u49 u50 u51 o_isFault o_faultAt o_above o_below o_topOf o_partsOf o_sent o_text_f hl0 hl1 (by first | with_reducible assumption | with_reducible omega | decide) (by first | with_reducible assumption | with_reducible omega | decide)) (cwV 2 hts gX9_readClause_X9_number rfl rfl rfl (by decide +kernel) ⟨Nat.le_of_ble_eq_true rfl, Nat.le_of_ble_eq_true rfl⟩) hE hK hP hD [0, 1] rfl rfl 0 9 (T := TX9) (N := 23) rfl rfl rfl hl.1 rfl (Nat.le_of_ble_eq_true rfl) dX9_readClause_123 ⟨Nat.le_of_ble_eq_true rfl, Nat.le_of_ble_eq_true rfl⟩) hP hD hS hA [0, 1] [2] [1, 2, 0] rfl rfl rfl (by decide) (fun _ => rfl) rfl (fun r58 u H locs hw hz hP hD hS => ?_)
        obtain ⟨u52, u53, u54, u55, u56, u57⟩ := u
        have hw_29 := hw.symm
        have hP : va_P D vwCl [(o, .inr (9, [.ref o_road, .ref o_told, .ref o_fresh, .ref o_was, .int o_acts, .ref o_kept, .ref o_isKept, .ref o_sights, .int o_many, .ref o_text, .int o_letters, .int o_thrown, .int u52, .int u53, .int u54, .long u55, .int u56, .int u57, .int o_above, .int o_below, .ref o_topOf, .ref o_partsOf, .ref o_sent])), (o_text, .inl (cI, 160, .inl o_text_f)), (o_fresh, .inl (cI, 36, .inl o_fresh_f))] H := hP
        have hD : va_D A [(o, .inr (9, [.ref o_road, .ref o_told, .ref o_fresh, .ref o_was, .int o_acts, .ref o_kept, .ref o_isKept, .ref o_sights, .int o_many, .ref o_text, .int o_letters, .int o_thrown, .int u52, .int u53, .int u54, .long u55, .int u56, .int u57, .int o_above, .int o_below, .ref o_topOf, .ref o_partsOf, .ref o_sent])), (o_text, .inl (cI, 160, .inl o_text_f)), (o_fresh, .inl (cI, 36, .inl o_fresh_f))] := hD
        have hb_29 := number_b 4 20 o_letters u48 u49 u50 u51 o_isFault o_faultAt o_text_f hl0 hl1 (by first | with_reducible assumption | with_reducible omega | decide) (by first | with_reducible assumption | with_reducible omega | decide)
        rw [hw_29] at hb_29
        try dsimp only at hb_29
        refine lv_istore_n (lv' := [(2, .int r58), (1, .int (fX9_kindBy o_token o_value)), (0, .ref o)]) hx hb dX9_readClause_126 rfl hl (by decide) rfl (fun ls hl => ?_)
        refine lv_aload_n hx hb dX9_readClause_127 rfl (lv_at hl 2 rfl) ?_
        refine xget hx hb hts hown hK 9 (C2 := RX9) (T := TX9) (N := 23) rfl hin_9 hP 0 rfl 16 (by decide) fl_95 rfl rfl rfl dX9_readClause_128 ?_
        refine lv_if_ne (tgt := 142) hx hb dX9_readClause_131 (by decide) (fun c_17 => ?_) (fun c_17 => ?_)
        · have kc_17 := t_neq c_17
          refine lv_goto (tgt := 384) hx hb dX9_readClause_142 (by decide) ?_
          exact hret _ _ _ _ (u52, u53, u54, u55, u56, u57, o_fresh_f) dX9_readClause_384 ((hF.trans (by simp only [fX9_readClause, ↓if_pos c_1, ↓if_pos c_2, ↓if_pos c_6, ↓hw_28, ↓hw_29, ↓if_neg c_17])).symm) hP hD hS
        · have kc_17 := t_eq c_17
          have q3 := hb_29.2 (by with_reducible assumption)
          have zz20 : (20 : Int32).toInt = 20 := by decide
          refine lv_aload_n hx hb dX9_readClause_134 rfl (lv_at hl 2 rfl) ?_
          refine xget hx hb hts hown hK 9 (C2 := RX9) (T := TX9) (N := 23) rfl hin_9 hP 0 rfl 2 (by decide) fl_16 rfl rfl rfl dX9_readClause_135 ?_
          refine lv_iload_n hx hb dX9_readClause_138 rfl (lv_at hl 0 rfl) ?_
          refine xcallv (S := (Nat → Int32)) (Wc := [(o_fresh, .inl (cI, 36, .inl o_fresh_f))]) (wr := [(o, .inr (9, [.ref o_road, .ref o_told, .ref o_fresh, .ref o_was, .int o_acts, .ref o_kept, .ref o_isKept, .ref o_sights, .int o_many, .ref o_text, .int o_letters, .int o_thrown, .int u52, .int u53, .int u54, .long u55, .int u56, .int u57, .int o_above, .int o_below, .ref o_topOf, .ref o_partsOf, .ref o_sent])), (o_text, .inl (cI, 160, .inl o_text_f))]) (W1 := (fun (u : (Nat → Int32)) => [(o_fresh, .inl (cI, 36, .inl u))])) (Wn := (fun (u : (Nat → Int32)) => [(o, .inr (9, [.ref o_road, .ref o_told, .ref o_fresh, .ref o_was, .int o_acts, .ref o_kept, .ref o_isKept, .ref o_sights, .int o_many, .ref o_text, .int o_letters, .int o_thrown, .int u52, .int u53, .int u54, .long u55, .int u56, .int u57, .int o_above, .int o_below, .ref o_topOf, .ref o_partsOf, .ref o_sent])), (o_text, .inl (cI, 160, .inl o_text_f)), (o_fresh, .inl (cI, 36, .inl u))])) (xrunS hx hb hml hown hts (c_X9_layRoad l D cI cZ _ o_fresh r58 o_fresh_f (by first | with_reducible assumption | with_reducible omega | decide)) (va_cwS 2 hts gX9_readClause_X9_layRoad rfl rfl rfl (by decide +kernel) ⟨Nat.le_of_ble_eq_true rfl, Nat.le_of_ble_eq_true rfl⟩) hE hK hP hD [2] rfl rfl rfl hl.1 rfl (Nat.le_of_ble_eq_true rfl) dX9_readClause_139 ⟨Nat.le_of_ble_eq_true rfl, Nat.le_of_ble_eq_true rfl⟩) hP hD hS hA [2] [0, 1] [0, 1, 2] rfl rfl rfl (by decide) (fun _ => rfl) rfl (fun  u H locs hw hz hP hD hS => ?_)
          obtain ⟨u59, hu⟩ : ∃ z, z = u := ⟨u, rfl⟩
          subst hu
          have hw_31 := hw.symm
          have hP : va_P D vwCl [(o, .inr (9, [.ref o_road, .ref o_told, .ref o_fresh, .ref o_was, .int o_acts, .ref o_kept, .ref o_isKept, .ref o_sights, .int o_many, .ref o_text, .int o_letters, .int o_thrown, .int u52, .int u53, .int u54, .long u55, .int u56, .int u57, .int o_above, .int o_below, .ref o_topOf, .ref o_partsOf, .ref o_sent])), (o_text, .inl (cI, 160, .inl o_text_f)), (o_fresh, .inl (cI, 36, .inl u59))] H := hP
          have hD : va_D A [(o, .inr (9, [.ref o_road, .ref o_told, .ref o_fresh, .ref o_was, .int o_acts, .ref o_kept, .ref o_isKept, .ref o_sights, .int o_many, .ref o_text, .int o_letters, .int o_thrown, .int u52, .int u53, .int u54, .long u55, .int u56, .int u57, .int o_above, .int o_below, .ref o_topOf, .ref o_partsOf, .ref o_sent])), (o_text, .inl (cI, 160, .inl o_text_f)), (o_fresh, .inl (cI, 36, .inl u59))] := hD
          refine lv_goto (tgt := 384) hx hb dX9_readClause_142 (by decide) ?_
          exact hret _ _ _ _ (u52, u53, u54, u55, u56, u57, u59) dX9_readClause_384 ((hF.trans (by simp only [fX9_readClause, ↓if_pos c_1, ↓if_pos c_2, ↓if_pos c_6, ↓hw_28, ↓hw_29, ↓if_pos c_17, ↓(xlet_of hw_31)])).symm) hP hD hS
  · refine lv_aload_n hx hb dX9_readClause_10 rfl (lv_at hl 1 rfl) ?_
    refine xget hx hb hts hown hK 9 (C2 := RX9) (T := TX9) (N := 23) rfl hin_9 hP 0 rfl 2 (by decide) fl_16 rfl rfl rfl dX9_readClause_11 ?_
    refine lv_iconst (v := 2) hx hb dX9_readClause_14 (by decide) ?_
    refine xald hx hb hK hP 2 0 (k := 2) rfl rfl (vi (by decide) (by decide)) (by decide) dX9_readClause_15 ?_
    refine lv_bipush (v := 6) hx hb dX9_readClause_16 (by decide) ?_
    refine lv_icmp_ne (tgt := 26) hx hb dX9_readClause_18 (by decide) (fun c_18 => ?_) (fun c_18 => ?_)
    · have kc_18 := t_neq c_18
      refine lv_aload_n hx hb dX9_readClause_26 rfl (lv_at hl 1 rfl) ?_
      refine xcallv (S := Int32 × Int32 × Int32 × Int64) (Wc := [(o, .inr (9, [.ref o_road, .ref o_told, .ref o_fresh, .ref o_was, .int o_acts, .ref o_kept, .ref o_isKept, .ref o_sights, .int o_many, .ref o_text, .int o_letters, .int o_thrown, .int o_cursor, .int o_token, .int o_start, .long o_value, .int o_isFault, .int o_faultAt, .int o_above, .int o_below, .ref o_topOf, .ref o_partsOf, .ref o_sent])), (o_text, .inl (cI, 160, .inl o_text_f))]) (wr := [(o_fresh, .inl (cI, 36, .inl o_fresh_f))]) (W1 := (fun (u : Int32 × Int32 × Int32 × Int64) => [(o, .inr (9, [.ref o_road, .ref o_told, .ref o_fresh, .ref o_was, .int o_acts, .ref o_kept, .ref o_isKept, .ref o_sights, .int o_many, .ref o_text, .int o_letters, .int o_thrown, .int u.1, .int u.2.1, .int u.2.2.1, .long u.2.2.2, .int o_isFault, .int o_faultAt, .int o_above, .int o_below, .ref o_topOf, .ref o_partsOf, .ref o_sent])), (o_text, .inl (cI, 160, .inl o_text_f))])) (Wn := (fun (u : Int32 × Int32 × Int32 × Int64) => [(o, .inr (9, [.ref o_road, .ref o_told, .ref o_fresh, .ref o_was, .int o_acts, .ref o_kept, .ref o_isKept, .ref o_sights, .int o_many, .ref o_text, .int o_letters, .int o_thrown, .int u.1, .int u.2.1, .int u.2.2.1, .long u.2.2.2, .int o_isFault, .int o_faultAt, .int o_above, .int o_below, .ref o_topOf, .ref o_partsOf, .ref o_sent])), (o_text, .inl (cI, 160, .inl o_text_f)), (o_fresh, .inl (cI, 36, .inl o_fresh_f))])) (xrunV hx hb hml hown hts (c_X9_next l D cI cZ _ o o_road o_told o_fresh o_was o_acts o_kept o_isKept o_sights o_many o_text o_letters o_thrown o_cursor o_token o_start o_value o_isFault o_faultAt o_above o_below o_topOf o_partsOf o_sent o_text_f hl0 hl1 hc0 hc1) (cwV 0 hts gX9_readClause_X9_next rfl rfl rfl (by decide +kernel) ⟨Nat.le_of_ble_eq_true rfl, Nat.le_of_ble_eq_true rfl⟩) hE hK hP hD [0, 1] rfl rfl 0 9 (T := TX9) (N := 23) rfl rfl rfl hl.1 rfl (Nat.le_of_ble_eq_true rfl) dX9_readClause_27 ⟨Nat.le_of_ble_eq_true rfl, Nat.le_of_ble_eq_true rfl⟩) hP hD hS hA [0, 1] [2] [1, 2, 0] rfl rfl rfl (by decide) (fun _ => rfl) rfl (fun  u H locs hw hz hP hD hS => ?_)
      obtain ⟨u60, u61, u62, u63⟩ := u
      have hw_32 := hw.symm
      have hP : va_P D vwCl [(o, .inr (9, [.ref o_road, .ref o_told, .ref o_fresh, .ref o_was, .int o_acts, .ref o_kept, .ref o_isKept, .ref o_sights, .int o_many, .ref o_text, .int o_letters, .int o_thrown, .int u60, .int u61, .int u62, .long u63, .int o_isFault, .int o_faultAt, .int o_above, .int o_below, .ref o_topOf, .ref o_partsOf, .ref o_sent])), (o_text, .inl (cI, 160, .inl o_text_f)), (o_fresh, .inl (cI, 36, .inl o_fresh_f))] H := hP
      have hD : va_D A [(o, .inr (9, [.ref o_road, .ref o_told, .ref o_fresh, .ref o_was, .int o_acts, .ref o_kept, .ref o_isKept, .ref o_sights, .int o_many, .ref o_text, .int o_letters, .int o_thrown, .int u60, .int u61, .int u62, .long u63, .int o_isFault, .int o_faultAt, .int o_above, .int o_below, .ref o_topOf, .ref o_partsOf, .ref o_sent])), (o_text, .inl (cI, 160, .inl o_text_f)), (o_fresh, .inl (cI, 36, .inl o_fresh_f))] := hD
      have hb_32 := next_b o_letters o_cursor o_text_f hl0 hl1 hc0 hc1
      rw [hw_32] at hb_32
      try dsimp only at hb_32
      refine lv_aload_n hx hb dX9_readClause_30 rfl (lv_at hl 1 rfl) ?_
      refine lv_iconst (v := 1) hx hb dX9_readClause_31 (by decide) ?_
      refine lv_bipush (v := 9) hx hb dX9_readClause_32 (by decide) ?_
      refine xcalli (S := Int32 × Int32 × Int32 × Int64 × Int32 × Int32) (Wc := [(o, .inr (9, [.ref o_road, .ref o_told, .ref o_fresh, .ref o_was, .int o_acts, .ref o_kept, .ref o_isKept, .ref o_sights, .int o_many, .ref o_text, .int o_letters, .int o_thrown, .int u60, .int u61, .int u62, .long u63, .int o_isFault, .int o_faultAt, .int o_above, .int o_below, .ref o_topOf, .ref o_partsOf, .ref o_sent])), (o_text, .inl (cI, 160, .inl o_text_f))]) (wr := [(o_fresh, .inl (cI, 36, .inl o_fresh_f))]) (W1 := (fun (u : Int32 × Int32 × Int32 × Int64 × Int32 × Int32) => [(o, .inr (9, [.ref o_road, .ref o_told, .ref o_fresh, .ref o_was, .int o_acts, .ref o_kept, .ref o_isKept, .ref o_sights, .int o_many, .ref o_text, .int o_letters, .int o_thrown, .int u.1, .int u.2.1, .int u.2.2.1, .long u.2.2.2.1, .int u.2.2.2.2.1, .int u.2.2.2.2.2, .int o_above, .int o_below, .ref o_topOf, .ref o_partsOf, .ref o_sent])), (o_text, .inl (cI, 160, .inl o_text_f))])) (Wn := (fun (u : Int32 × Int32 × Int32 × Int64 × Int32 × Int32) => [(o, .inr (9, [.ref o_road, .ref o_told, .ref o_fresh, .ref o_was, .int o_acts, .ref o_kept, .ref o_isKept, .ref o_sights, .int o_many, .ref o_text, .int o_letters, .int o_thrown, .int u.1, .int u.2.1, .int u.2.2.1, .long u.2.2.2.1, .int u.2.2.2.2.1, .int u.2.2.2.2.2, .int o_above, .int o_below, .ref o_topOf, .ref o_partsOf, .ref o_sent])), (o_text, .inl (cI, 160, .inl o_text_f)), (o_fresh, .inl (cI, 36, .inl o_fresh_f))])) (xrunV hx hb hml hown hts (c_X9_number l D cI cZ _ o 1 9 o_road o_told o_fresh o_was o_acts o_kept o_isKept o_sights o_many o_text o_letters o_thrown u60 u61 u62 u63 o_isFault o_faultAt o_above o_below o_topOf o_partsOf o_sent o_text_f hl0 hl1 (by first | with_reducible assumption | with_reducible omega | decide) (by first | with_reducible assumption | with_reducible omega | decide)) (cwV 2 hts gX9_readClause_X9_number rfl rfl rfl (by decide +kernel) ⟨Nat.le_of_ble_eq_true rfl, Nat.le_of_ble_eq_true rfl⟩) hE hK hP hD [0, 1] rfl rfl 0 9 (T := TX9) (N := 23) rfl rfl rfl hl.1 rfl (Nat.le_of_ble_eq_true rfl) dX9_readClause_34 ⟨Nat.le_of_ble_eq_true rfl, Nat.le_of_ble_eq_true rfl⟩) hP hD hS hA [0, 1] [2] [1, 2, 0] rfl rfl rfl (by decide) (fun _ => rfl) rfl (fun r70 u H locs hw hz hP hD hS => ?_)
      obtain ⟨u64, u65, u66, u67, u68, u69⟩ := u
      have hw_33 := hw.symm
      have hP : va_P D vwCl [(o, .inr (9, [.ref o_road, .ref o_told, .ref o_fresh, .ref o_was, .int o_acts, .ref o_kept, .ref o_isKept, .ref o_sights, .int o_many, .ref o_text, .int o_letters, .int o_thrown, .int u64, .int u65, .int u66, .long u67, .int u68, .int u69, .int o_above, .int o_below, .ref o_topOf, .ref o_partsOf, .ref o_sent])), (o_text, .inl (cI, 160, .inl o_text_f)), (o_fresh, .inl (cI, 36, .inl o_fresh_f))] H := hP
      have hD : va_D A [(o, .inr (9, [.ref o_road, .ref o_told, .ref o_fresh, .ref o_was, .int o_acts, .ref o_kept, .ref o_isKept, .ref o_sights, .int o_many, .ref o_text, .int o_letters, .int o_thrown, .int u64, .int u65, .int u66, .long u67, .int u68, .int u69, .int o_above, .int o_below, .ref o_topOf, .ref o_partsOf, .ref o_sent])), (o_text, .inl (cI, 160, .inl o_text_f)), (o_fresh, .inl (cI, 36, .inl o_fresh_f))] := hD
      have hb_33 := number_b 1 9 o_letters u60 u61 u62 u63 o_isFault o_faultAt o_text_f hl0 hl1 (by first | with_reducible assumption | with_reducible omega | decide) (by first | with_reducible assumption | with_reducible omega | decide)
      rw [hw_33] at hb_33
      try dsimp only at hb_33
      refine lv_istore_n (lv' := [(2, .int r70), (1, .int (fX9_kindBy o_token o_value)), (0, .ref o)]) hx hb dX9_readClause_37 rfl hl (by decide) rfl (fun ls hl => ?_)
      refine lv_aload_n hx hb dX9_readClause_38 rfl (lv_at hl 2 rfl) ?_
      refine xget hx hb hts hown hK 9 (C2 := RX9) (T := TX9) (N := 23) rfl hin_9 hP 0 rfl 16 (by decide) fl_95 rfl rfl rfl dX9_readClause_39 ?_
      refine lv_if_ne (tgt := 85) hx hb dX9_readClause_42 (by decide) (fun c_19 => ?_) (fun c_19 => ?_)
      · have kc_19 := t_neq c_19
        refine lv_goto (tgt := 384) hx hb dX9_readClause_85 (by decide) ?_
        exact hret _ _ _ _ (u64, u65, u66, u67, u68, u69, o_fresh_f) dX9_readClause_384 ((hF.trans (by simp only [fX9_readClause, ↓if_neg c_1, ↓if_neg c_18, ↓hw_32, ↓hw_33, ↓if_neg c_19])).symm) hP hD hS
      · have kc_19 := t_eq c_19
        refine lv_aload_n hx hb dX9_readClause_45 rfl (lv_at hl 2 rfl) ?_
        refine xget hx hb hts hown hK 9 (C2 := RX9) (T := TX9) (N := 23) rfl hin_9 hP 0 rfl 2 (by decide) fl_16 rfl rfl rfl dX9_readClause_46 ?_
        refine lv_bipush (v := 24) hx hb dX9_readClause_49 (by decide) ?_
        refine lv_aload_n hx hb dX9_readClause_51 rfl (lv_at hl 2 rfl) ?_
        refine xget hx hb hts hown hK 9 (C2 := RX9) (T := TX9) (N := 23) rfl hin_9 hP 0 rfl 2 (by decide) fl_16 rfl rfl rfl dX9_readClause_52 ?_
        refine lv_iconst (v := 2) hx hb dX9_readClause_55 (by decide) ?_
        refine xald hx hb hK hP 2 0 (k := 2) rfl rfl (vi (by decide) (by decide)) (by decide) dX9_readClause_56 ?_
        refine lv_iadd hx hb dX9_readClause_57 ?_
        refine lv_iload_n hx hb dX9_readClause_58 rfl (lv_at hl 1 rfl) ?_
        have z_1 : (24 + (o_fresh_f 2)).toInt = (24 : Int32).toInt + (o_fresh_f 2).toInt := z_add (by with_reducible omega) (by with_reducible omega)
        refine xast hx hb hK hP hD hS 2 0 (k := (24 + (o_fresh_f 2)).toNatClampNeg) rfl rfl (vi (by with_reducible omega) (by with_reducible omega)) rfl dX9_readClause_59 [(o, .inr (9, [.ref o_road, .ref o_told, .ref o_fresh, .ref o_was, .int o_acts, .ref o_kept, .ref o_isKept, .ref o_sights, .int o_many, .ref o_text, .int o_letters, .int o_thrown, .int u64, .int u65, .int u66, .long u67, .int u68, .int u69, .int o_above, .int o_below, .ref o_topOf, .ref o_partsOf, .ref o_sent])), (o_text, .inl (cI, 160, .inl o_text_f)), (o_fresh, .inl (cI, 36, .inl (upd o_fresh_f (24 + (o_fresh_f 2)).toNatClampNeg (fX9_kindBy o_token o_value))))] rfl (fun H locs hP hD hS => ?_)
        have zk : (24 + (o_fresh_f 2)).toNatClampNeg = 24 + (o_fresh_f 2).toInt.toNat := ix_add 24 24 (by decide) (by decide) hf2 (by with_reducible omega)
        have ek : (upd o_fresh_f (24 + (o_fresh_f 2)).toNatClampNeg (fX9_kindBy o_token o_value)) 2 = o_fresh_f 2 := upd_ne _ _ (by rw [zk]; with_reducible omega)
        have ek2 : ((upd o_fresh_f (24 + (o_fresh_f 2)).toNatClampNeg (fX9_kindBy o_token o_value)) 2).toInt = (o_fresh_f 2).toInt := by rw [ek]
        refine lv_aload_n hx hb dX9_readClause_60 rfl (lv_at hl 2 rfl) ?_
        refine xget hx hb hts hown hK 9 (C2 := RX9) (T := TX9) (N := 23) rfl hin_9 hP 0 rfl 2 (by decide) fl_16 rfl rfl rfl dX9_readClause_61 ?_
        refine lv_bipush (v := 30) hx hb dX9_readClause_64 (by decide) ?_
        refine lv_aload_n hx hb dX9_readClause_66 rfl (lv_at hl 2 rfl) ?_
        refine xget hx hb hts hown hK 9 (C2 := RX9) (T := TX9) (N := 23) rfl hin_9 hP 0 rfl 2 (by decide) fl_16 rfl rfl rfl dX9_readClause_67 ?_
        refine lv_iconst (v := 2) hx hb dX9_readClause_70 (by decide) ?_
        refine xald hx hb hK hP 2 0 (k := 2) rfl rfl (vi (by decide) (by decide)) (by decide) dX9_readClause_71 ?_
        refine lv_iadd hx hb dX9_readClause_72 ?_
        refine lv_iload_n hx hb dX9_readClause_73 rfl (lv_at hl 0 rfl) ?_
        have z_2 : (30 + ((upd o_fresh_f (24 + (o_fresh_f 2)).toNatClampNeg (fX9_kindBy o_token o_value)) 2)).toInt = (30 : Int32).toInt + ((upd o_fresh_f (24 + (o_fresh_f 2)).toNatClampNeg (fX9_kindBy o_token o_value)) 2).toInt := z_add (by with_reducible omega) (by with_reducible omega)
        refine xast hx hb hK hP hD hS 2 0 (k := (30 + ((upd o_fresh_f (24 + (o_fresh_f 2)).toNatClampNeg (fX9_kindBy o_token o_value)) 2)).toNatClampNeg) rfl rfl (vi (by with_reducible omega) (by with_reducible omega)) rfl dX9_readClause_74 [(o, .inr (9, [.ref o_road, .ref o_told, .ref o_fresh, .ref o_was, .int o_acts, .ref o_kept, .ref o_isKept, .ref o_sights, .int o_many, .ref o_text, .int o_letters, .int o_thrown, .int u64, .int u65, .int u66, .long u67, .int u68, .int u69, .int o_above, .int o_below, .ref o_topOf, .ref o_partsOf, .ref o_sent])), (o_text, .inl (cI, 160, .inl o_text_f)), (o_fresh, .inl (cI, 36, .inl (upd (upd o_fresh_f (24 + (o_fresh_f 2)).toNatClampNeg (fX9_kindBy o_token o_value)) (30 + ((upd o_fresh_f (24 + (o_fresh_f 2)).toNatClampNeg (fX9_kindBy o_token o_value)) 2)).toNatClampNeg r70)))] rfl (fun H locs hP hD hS => ?_)
        refine lv_aload_n hx hb dX9_readClause_75 rfl (lv_at hl 2 rfl) ?_
        refine xget hx hb hts hown hK 9 (C2 := RX9) (T := TX9) (N := 23) rfl hin_9 hP 0 rfl 2 (by decide) fl_16 rfl rfl rfl dX9_readClause_76 ?_
        refine lv_iconst (v := 2) hx hb dX9_readClause_79 (by decide) ?_
        refine lv_dup2_11 hx hb dX9_readClause_80 rfl rfl ?_
        refine xald hx hb hK hP 2 0 (k := 2) rfl rfl (vi (by decide) (by decide)) (by decide) dX9_readClause_81 ?_
        refine lv_iconst (v := 1) hx hb dX9_readClause_82 (by decide) ?_
        refine lv_iadd hx hb dX9_readClause_83 ?_
        refine xast hx hb hK hP hD hS 2 0 (k := 2) rfl rfl (vi (by decide) (by decide)) (by decide) dX9_readClause_84 [(o, .inr (9, [.ref o_road, .ref o_told, .ref o_fresh, .ref o_was, .int o_acts, .ref o_kept, .ref o_isKept, .ref o_sights, .int o_many, .ref o_text, .int o_letters, .int o_thrown, .int u64, .int u65, .int u66, .long u67, .int u68, .int u69, .int o_above, .int o_below, .ref o_topOf, .ref o_partsOf, .ref o_sent])), (o_text, .inl (cI, 160, .inl o_text_f)), (o_fresh, .inl (cI, 36, .inl (upd (upd (upd o_fresh_f (24 + (o_fresh_f 2)).toNatClampNeg (fX9_kindBy o_token o_value)) (30 + ((upd o_fresh_f (24 + (o_fresh_f 2)).toNatClampNeg (fX9_kindBy o_token o_value)) 2)).toNatClampNeg r70) 2 (((upd (upd o_fresh_f (24 + (o_fresh_f 2)).toNatClampNeg (fX9_kindBy o_token o_value)) (30 + ((upd o_fresh_f (24 + (o_fresh_f 2)).toNatClampNeg (fX9_kindBy o_token o_value)) 2)).toNatClampNeg r70) 2) + 1))))] rfl (fun H locs hP hD hS => ?_)
        refine lv_goto (tgt := 384) hx hb dX9_readClause_85 (by decide) ?_
        exact hret _ _ _ _ (u64, u65, u66, u67, u68, u69, (upd (upd (upd o_fresh_f (24 + (o_fresh_f 2)).toNatClampNeg (fX9_kindBy o_token o_value)) (30 + ((upd o_fresh_f (24 + (o_fresh_f 2)).toNatClampNeg (fX9_kindBy o_token o_value)) 2)).toNatClampNeg r70) 2 (((upd (upd o_fresh_f (24 + (o_fresh_f 2)).toNatClampNeg (fX9_kindBy o_token o_value)) (30 + ((upd o_fresh_f (24 + (o_fresh_f 2)).toNatClampNeg (fX9_kindBy o_token o_value)) 2)).toNatClampNeg r70) 2) + 1))) dX9_readClause_384 ((hF.trans (by simp only [fX9_readClause, ↓if_neg c_1, ↓if_neg c_18, ↓hw_32, ↓hw_33, ↓if_pos c_19])).symm) hP hD hS
    · have kc_18 := t_eq c_18
      refine lv_aload_n hx hb dX9_readClause_21 rfl (lv_at hl 1 rfl) ?_
      refine xcallv (S := Int32) (Wc := [(o, .inr (9, [.ref o_road, .ref o_told, .ref o_fresh, .ref o_was, .int o_acts, .ref o_kept, .ref o_isKept, .ref o_sights, .int o_many, .ref o_text, .int o_letters, .int o_thrown, .int o_cursor, .int o_token, .int o_start, .long o_value, .int o_isFault, .int o_faultAt, .int o_above, .int o_below, .ref o_topOf, .ref o_partsOf, .ref o_sent]))]) (wr := [(o_text, .inl (cI, 160, .inl o_text_f)), (o_fresh, .inl (cI, 36, .inl o_fresh_f))]) (W1 := (fun (u : Int32) => [(o, .inr (9, [.ref o_road, .ref o_told, .ref o_fresh, .ref o_was, .int o_acts, .ref o_kept, .ref o_isKept, .ref o_sights, .int o_many, .ref o_text, .int o_letters, .int o_thrown, .int o_cursor, .int o_token, .int o_start, .long o_value, .int 1, .int u, .int o_above, .int o_below, .ref o_topOf, .ref o_partsOf, .ref o_sent]))])) (Wn := (fun (u : Int32) => [(o, .inr (9, [.ref o_road, .ref o_told, .ref o_fresh, .ref o_was, .int o_acts, .ref o_kept, .ref o_isKept, .ref o_sights, .int o_many, .ref o_text, .int o_letters, .int o_thrown, .int o_cursor, .int o_token, .int o_start, .long o_value, .int 1, .int u, .int o_above, .int o_below, .ref o_topOf, .ref o_partsOf, .ref o_sent])), (o_text, .inl (cI, 160, .inl o_text_f)), (o_fresh, .inl (cI, 36, .inl o_fresh_f))])) (xrunV hx hb hml hown hts (c_X9_bad l D cI cZ _ o o_road o_told o_fresh o_was o_acts o_kept o_isKept o_sights o_many o_text o_letters o_thrown o_cursor o_token o_start o_value o_isFault o_faultAt o_above o_below o_topOf o_partsOf o_sent ) (cwV 0 hts gX9_readClause_X9_bad rfl rfl rfl (by decide +kernel) ⟨Nat.le_of_ble_eq_true rfl, Nat.le_of_ble_eq_true rfl⟩) hE hK hP hD [0] rfl rfl 0 9 (T := TX9) (N := 23) rfl rfl rfl hl.1 rfl (Nat.le_of_ble_eq_true rfl) dX9_readClause_22 ⟨Nat.le_of_ble_eq_true rfl, Nat.le_of_ble_eq_true rfl⟩) hP hD hS hA [0] [1, 2] [2, 0, 1] rfl rfl rfl (by decide) (fun _ => rfl) rfl (fun  u H locs hw hz hP hD hS => ?_)
      obtain ⟨u71, hu⟩ : ∃ z, z = u := ⟨u, rfl⟩
      subst hu
      have hw_34 := hw.symm
      have hP : va_P D vwCl [(o, .inr (9, [.ref o_road, .ref o_told, .ref o_fresh, .ref o_was, .int o_acts, .ref o_kept, .ref o_isKept, .ref o_sights, .int o_many, .ref o_text, .int o_letters, .int o_thrown, .int o_cursor, .int o_token, .int o_start, .long o_value, .int 1, .int u71, .int o_above, .int o_below, .ref o_topOf, .ref o_partsOf, .ref o_sent])), (o_text, .inl (cI, 160, .inl o_text_f)), (o_fresh, .inl (cI, 36, .inl o_fresh_f))] H := hP
      have hD : va_D A [(o, .inr (9, [.ref o_road, .ref o_told, .ref o_fresh, .ref o_was, .int o_acts, .ref o_kept, .ref o_isKept, .ref o_sights, .int o_many, .ref o_text, .int o_letters, .int o_thrown, .int o_cursor, .int o_token, .int o_start, .long o_value, .int 1, .int u71, .int o_above, .int o_below, .ref o_topOf, .ref o_partsOf, .ref o_sent])), (o_text, .inl (cI, 160, .inl o_text_f)), (o_fresh, .inl (cI, 36, .inl o_fresh_f))] := hD
      exact hret _ _ _ _ (o_cursor, o_token, o_start, o_value, 1, u71, o_fresh_f) dX9_readClause_25 ((hF.trans (by simp only [fX9_readClause, ↓if_neg c_1, ↓if_pos c_18, ↓(xlet_of hw_34)])).symm) hP hD hS
