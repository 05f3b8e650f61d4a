set_option maxRecDepth 20000 in
theorem ggX9_next_X9_isSmall : GoodIn wsX9_next wsX9_isSmall := goodIn_r _ [13, 14, 15, 16, 17, 12, 18] (by decide +kernel) (by decide +kernel)
set_option maxRecDepth 20000 in
theorem gX9_next_X9_isSmall : GoodIn wsX9_next (va_wsS RX9 82 yX9_isSmall wsX9_isSmall) := goodIn_app (goodIn_of _ (by decide +kernel)) ggX9_next_X9_isSmall
set_option maxRecDepth 20000 in
theorem ggX9_next_X9_isDigit : GoodIn wsX9_next wsX9_isDigit := goodIn_r _ [21, 22, 23, 16, 17, 12, 18] (by decide +kernel) (by decide +kernel)
set_option maxRecDepth 20000 in
theorem gX9_next_X9_isDigit : GoodIn wsX9_next (va_wsS RX9 88 yX9_isDigit wsX9_isDigit) := goodIn_app (goodIn_of _ (by decide +kernel)) ggX9_next_X9_isDigit
theorem dX9_next_0 : decode cX9_next 0 = .ok (.aload_n 0, 1) := by decide +kernel
theorem dX9_next_1 : decode cX9_next 1 = .ok (.getfield 69, 3) := by decide +kernel
theorem dX9_next_4 : decode cX9_next 4 = .ok (.aload_n 0, 1) := by decide +kernel
theorem dX9_next_5 : decode cX9_next 5 = .ok (.getfield 58, 3) := by decide +kernel
theorem dX9_next_8 : decode cX9_next 8 = .ok (.if_icmp .ge 30, 3) := by decide +kernel
theorem dX9_next_11 : decode cX9_next 11 = .ok (.aload_n 0, 1) := by decide +kernel
theorem dX9_next_12 : decode cX9_next 12 = .ok (.getfield 32, 3) := by decide +kernel
theorem dX9_next_15 : decode cX9_next 15 = .ok (.aload_n 0, 1) := by decide +kernel
theorem dX9_next_16 : decode cX9_next 16 = .ok (.getfield 69, 3) := by decide +kernel
theorem dX9_next_19 : decode cX9_next 19 = .ok (.iaload, 1) := by decide +kernel
theorem dX9_next_20 : decode cX9_next 20 = .ok (.bipush 32, 2) := by decide +kernel
theorem dX9_next_22 : decode cX9_next 22 = .ok (.if_icmp .ne 16, 3) := by decide +kernel
theorem dX9_next_25 : decode cX9_next 25 = .ok (.aload_n 0, 1) := by decide +kernel
theorem dX9_next_26 : decode cX9_next 26 = .ok (.dup, 1) := by decide +kernel
theorem dX9_next_27 : decode cX9_next 27 = .ok (.getfield 69, 3) := by decide +kernel
theorem dX9_next_30 : decode cX9_next 30 = .ok (.iconst 1, 1) := by decide +kernel
theorem dX9_next_31 : decode cX9_next 31 = .ok (.iadd, 1) := by decide +kernel
theorem dX9_next_32 : decode cX9_next 32 = .ok (.putfield 69, 3) := by decide +kernel
theorem dX9_next_35 : decode cX9_next 35 = .ok (.goto (-35), 3) := by decide +kernel
theorem dX9_next_38 : decode cX9_next 38 = .ok (.aload_n 0, 1) := by decide +kernel
theorem dX9_next_39 : decode cX9_next 39 = .ok (.aload_n 0, 1) := by decide +kernel
theorem dX9_next_40 : decode cX9_next 40 = .ok (.getfield 69, 3) := by decide +kernel
theorem dX9_next_43 : decode cX9_next 43 = .ok (.putfield 72, 3) := by decide +kernel
theorem dX9_next_46 : decode cX9_next 46 = .ok (.aload_n 0, 1) := by decide +kernel
theorem dX9_next_47 : decode cX9_next 47 = .ok (.lconst 0, 1) := by decide +kernel
theorem dX9_next_48 : decode cX9_next 48 = .ok (.putfield 75, 3) := by decide +kernel
theorem dX9_next_51 : decode cX9_next 51 = .ok (.aload_n 0, 1) := by decide +kernel
theorem dX9_next_52 : decode cX9_next 52 = .ok (.getfield 69, 3) := by decide +kernel
theorem dX9_next_55 : decode cX9_next 55 = .ok (.aload_n 0, 1) := by decide +kernel
theorem dX9_next_56 : decode cX9_next 56 = .ok (.getfield 58, 3) := by decide +kernel
theorem dX9_next_59 : decode cX9_next 59 = .ok (.if_icmp .ne 11, 3) := by decide +kernel
theorem dX9_next_62 : decode cX9_next 62 = .ok (.aload_n 0, 1) := by decide +kernel
theorem dX9_next_63 : decode cX9_next 63 = .ok (.iconst 0, 1) := by decide +kernel
theorem dX9_next_64 : decode cX9_next 64 = .ok (.putfield 79, 3) := by decide +kernel
theorem dX9_next_67 : decode cX9_next 67 = .ok (.goto 239, 3) := by decide +kernel
theorem dX9_next_70 : decode cX9_next 70 = .ok (.aload_n 0, 1) := by decide +kernel
theorem dX9_next_71 : decode cX9_next 71 = .ok (.getfield 32, 3) := by decide +kernel
theorem dX9_next_74 : decode cX9_next 74 = .ok (.aload_n 0, 1) := by decide +kernel
theorem dX9_next_75 : decode cX9_next 75 = .ok (.getfield 69, 3) := by decide +kernel
theorem dX9_next_78 : decode cX9_next 78 = .ok (.iaload, 1) := by decide +kernel
theorem dX9_next_79 : decode cX9_next 79 = .ok (.invokestatic 82, 3) := by decide +kernel
theorem dX9_next_82 : decode cX9_next 82 = .ok (.ifCond .eq 91, 3) := by decide +kernel
theorem dX9_next_85 : decode cX9_next 85 = .ok (.aload_n 0, 1) := by decide +kernel
theorem dX9_next_86 : decode cX9_next 86 = .ok (.iconst 1, 1) := by decide +kernel
theorem dX9_next_87 : decode cX9_next 87 = .ok (.putfield 79, 3) := by decide +kernel
theorem dX9_next_90 : decode cX9_next 90 = .ok (.aload_n 0, 1) := by decide +kernel
theorem dX9_next_91 : decode cX9_next 91 = .ok (.getfield 69, 3) := by decide +kernel
theorem dX9_next_94 : decode cX9_next 94 = .ok (.aload_n 0, 1) := by decide +kernel
theorem dX9_next_95 : decode cX9_next 95 = .ok (.getfield 58, 3) := by decide +kernel
theorem dX9_next_98 : decode cX9_next 98 = .ok (.if_icmp .ge 208, 3) := by decide +kernel
theorem dX9_next_101 : decode cX9_next 101 = .ok (.aload_n 0, 1) := by decide +kernel
theorem dX9_next_102 : decode cX9_next 102 = .ok (.getfield 32, 3) := by decide +kernel
theorem dX9_next_105 : decode cX9_next 105 = .ok (.aload_n 0, 1) := by decide +kernel
theorem dX9_next_106 : decode cX9_next 106 = .ok (.getfield 69, 3) := by decide +kernel
theorem dX9_next_109 : decode cX9_next 109 = .ok (.iaload, 1) := by decide +kernel
theorem dX9_next_110 : decode cX9_next 110 = .ok (.invokestatic 82, 3) := by decide +kernel
theorem dX9_next_113 : decode cX9_next 113 = .ok (.ifCond .eq 193, 3) := by decide +kernel
theorem dX9_next_116 : decode cX9_next 116 = .ok (.aload_n 0, 1) := by decide +kernel
theorem dX9_next_117 : decode cX9_next 117 = .ok (.aload_n 0, 1) := by decide +kernel
theorem dX9_next_118 : decode cX9_next 118 = .ok (.getfield 69, 3) := by decide +kernel
theorem dX9_next_121 : decode cX9_next 121 = .ok (.aload_n 0, 1) := by decide +kernel
theorem dX9_next_122 : decode cX9_next 122 = .ok (.getfield 72, 3) := by decide +kernel
theorem dX9_next_125 : decode cX9_next 125 = .ok (.isub, 1) := by decide +kernel
theorem dX9_next_126 : decode cX9_next 126 = .ok (.bipush 8, 2) := by decide +kernel
theorem dX9_next_128 : decode cX9_next 128 = .ok (.if_icmp .ge 28, 3) := by decide +kernel
theorem dX9_next_131 : decode cX9_next 131 = .ok (.ldc2_w 86, 3) := by decide +kernel
theorem dX9_next_134 : decode cX9_next 134 = .ok (.aload_n 0, 1) := by decide +kernel
theorem dX9_next_135 : decode cX9_next 135 = .ok (.getfield 75, 3) := by decide +kernel
theorem dX9_next_138 : decode cX9_next 138 = .ok (.lmul, 1) := by decide +kernel
theorem dX9_next_139 : decode cX9_next 139 = .ok (.aload_n 0, 1) := by decide +kernel
theorem dX9_next_140 : decode cX9_next 140 = .ok (.getfield 32, 3) := by decide +kernel
theorem dX9_next_143 : decode cX9_next 143 = .ok (.aload_n 0, 1) := by decide +kernel
theorem dX9_next_144 : decode cX9_next 144 = .ok (.getfield 69, 3) := by decide +kernel
theorem dX9_next_147 : decode cX9_next 147 = .ok (.iaload, 1) := by decide +kernel
theorem dX9_next_148 : decode cX9_next 148 = .ok (.bipush 96, 2) := by decide +kernel
theorem dX9_next_150 : decode cX9_next 150 = .ok (.isub, 1) := by decide +kernel
theorem dX9_next_151 : decode cX9_next 151 = .ok (.i2l, 1) := by decide +kernel
theorem dX9_next_152 : decode cX9_next 152 = .ok (.ladd, 1) := by decide +kernel
theorem dX9_next_153 : decode cX9_next 153 = .ok (.goto 4, 3) := by decide +kernel
theorem dX9_next_156 : decode cX9_next 156 = .ok (.lconst 1, 1) := by decide +kernel
theorem dX9_next_157 : decode cX9_next 157 = .ok (.putfield 75, 3) := by decide +kernel
theorem dX9_next_160 : decode cX9_next 160 = .ok (.aload_n 0, 1) := by decide +kernel
theorem dX9_next_161 : decode cX9_next 161 = .ok (.dup, 1) := by decide +kernel
theorem dX9_next_162 : decode cX9_next 162 = .ok (.getfield 69, 3) := by decide +kernel
theorem dX9_next_165 : decode cX9_next 165 = .ok (.iconst 1, 1) := by decide +kernel
theorem dX9_next_166 : decode cX9_next 166 = .ok (.iadd, 1) := by decide +kernel
theorem dX9_next_167 : decode cX9_next 167 = .ok (.putfield 69, 3) := by decide +kernel
theorem dX9_next_170 : decode cX9_next 170 = .ok (.goto (-80), 3) := by decide +kernel
theorem dX9_next_173 : decode cX9_next 173 = .ok (.aload_n 0, 1) := by decide +kernel
theorem dX9_next_174 : decode cX9_next 174 = .ok (.getfield 32, 3) := by decide +kernel
theorem dX9_next_177 : decode cX9_next 177 = .ok (.aload_n 0, 1) := by decide +kernel
theorem dX9_next_178 : decode cX9_next 178 = .ok (.getfield 69, 3) := by decide +kernel
theorem dX9_next_181 : decode cX9_next 181 = .ok (.iaload, 1) := by decide +kernel
theorem dX9_next_182 : decode cX9_next 182 = .ok (.invokestatic 88, 3) := by decide +kernel
theorem dX9_next_185 : decode cX9_next 185 = .ok (.ifCond .eq 92, 3) := by decide +kernel
theorem dX9_next_188 : decode cX9_next 188 = .ok (.aload_n 0, 1) := by decide +kernel
theorem dX9_next_189 : decode cX9_next 189 = .ok (.iconst 2, 1) := by decide +kernel
theorem dX9_next_190 : decode cX9_next 190 = .ok (.putfield 79, 3) := by decide +kernel
theorem dX9_next_193 : decode cX9_next 193 = .ok (.aload_n 0, 1) := by decide +kernel
theorem dX9_next_194 : decode cX9_next 194 = .ok (.getfield 69, 3) := by decide +kernel
theorem dX9_next_197 : decode cX9_next 197 = .ok (.aload_n 0, 1) := by decide +kernel
theorem dX9_next_198 : decode cX9_next 198 = .ok (.getfield 58, 3) := by decide +kernel
theorem dX9_next_201 : decode cX9_next 201 = .ok (.if_icmp .ge 105, 3) := by decide +kernel
theorem dX9_next_204 : decode cX9_next 204 = .ok (.aload_n 0, 1) := by decide +kernel
theorem dX9_next_205 : decode cX9_next 205 = .ok (.getfield 32, 3) := by decide +kernel
theorem dX9_next_208 : decode cX9_next 208 = .ok (.aload_n 0, 1) := by decide +kernel
theorem dX9_next_209 : decode cX9_next 209 = .ok (.getfield 69, 3) := by decide +kernel
theorem dX9_next_212 : decode cX9_next 212 = .ok (.iaload, 1) := by decide +kernel
theorem dX9_next_213 : decode cX9_next 213 = .ok (.invokestatic 88, 3) := by decide +kernel
theorem dX9_next_216 : decode cX9_next 216 = .ok (.ifCond .eq 90, 3) := by decide +kernel
theorem dX9_next_219 : decode cX9_next 219 = .ok (.aload_n 0, 1) := by decide +kernel
theorem dX9_next_220 : decode cX9_next 220 = .ok (.aload_n 0, 1) := by decide +kernel
theorem dX9_next_221 : decode cX9_next 221 = .ok (.getfield 69, 3) := by decide +kernel
theorem dX9_next_224 : decode cX9_next 224 = .ok (.aload_n 0, 1) := by decide +kernel
theorem dX9_next_225 : decode cX9_next 225 = .ok (.getfield 72, 3) := by decide +kernel
theorem dX9_next_228 : decode cX9_next 228 = .ok (.isub, 1) := by decide +kernel
theorem dX9_next_229 : decode cX9_next 229 = .ok (.iconst 2, 1) := by decide +kernel
theorem dX9_next_230 : decode cX9_next 230 = .ok (.if_icmp .ge 28, 3) := by decide +kernel
theorem dX9_next_233 : decode cX9_next 233 = .ok (.ldc2_w 91, 3) := by decide +kernel
theorem dX9_next_236 : decode cX9_next 236 = .ok (.aload_n 0, 1) := by decide +kernel
theorem dX9_next_237 : decode cX9_next 237 = .ok (.getfield 75, 3) := by decide +kernel
theorem dX9_next_240 : decode cX9_next 240 = .ok (.lmul, 1) := by decide +kernel
theorem dX9_next_241 : decode cX9_next 241 = .ok (.aload_n 0, 1) := by decide +kernel
theorem dX9_next_242 : decode cX9_next 242 = .ok (.getfield 32, 3) := by decide +kernel
theorem dX9_next_245 : decode cX9_next 245 = .ok (.aload_n 0, 1) := by decide +kernel
theorem dX9_next_246 : decode cX9_next 246 = .ok (.getfield 69, 3) := by decide +kernel
theorem dX9_next_249 : decode cX9_next 249 = .ok (.iaload, 1) := by decide +kernel
theorem dX9_next_250 : decode cX9_next 250 = .ok (.bipush 48, 2) := by decide +kernel
theorem dX9_next_252 : decode cX9_next 252 = .ok (.isub, 1) := by decide +kernel
theorem dX9_next_253 : decode cX9_next 253 = .ok (.i2l, 1) := by decide +kernel
theorem dX9_next_254 : decode cX9_next 254 = .ok (.ladd, 1) := by decide +kernel
theorem dX9_next_255 : decode cX9_next 255 = .ok (.goto 6, 3) := by decide +kernel
theorem dX9_next_258 : decode cX9_next 258 = .ok (.ldc2_w 93, 3) := by decide +kernel
theorem dX9_next_261 : decode cX9_next 261 = .ok (.putfield 75, 3) := by decide +kernel
theorem dX9_next_264 : decode cX9_next 264 = .ok (.aload_n 0, 1) := by decide +kernel
theorem dX9_next_265 : decode cX9_next 265 = .ok (.dup, 1) := by decide +kernel
theorem dX9_next_266 : decode cX9_next 266 = .ok (.getfield 69, 3) := by decide +kernel
theorem dX9_next_269 : decode cX9_next 269 = .ok (.iconst 1, 1) := by decide +kernel
theorem dX9_next_270 : decode cX9_next 270 = .ok (.iadd, 1) := by decide +kernel
theorem dX9_next_271 : decode cX9_next 271 = .ok (.putfield 69, 3) := by decide +kernel
theorem dX9_next_274 : decode cX9_next 274 = .ok (.goto (-81), 3) := by decide +kernel
theorem dX9_next_277 : decode cX9_next 277 = .ok (.aload_n 0, 1) := by decide +kernel
theorem dX9_next_278 : decode cX9_next 278 = .ok (.iconst 3, 1) := by decide +kernel
theorem dX9_next_279 : decode cX9_next 279 = .ok (.putfield 79, 3) := by decide +kernel
theorem dX9_next_282 : decode cX9_next 282 = .ok (.aload_n 0, 1) := by decide +kernel
theorem dX9_next_283 : decode cX9_next 283 = .ok (.aload_n 0, 1) := by decide +kernel
theorem dX9_next_284 : decode cX9_next 284 = .ok (.getfield 32, 3) := by decide +kernel
theorem dX9_next_287 : decode cX9_next 287 = .ok (.aload_n 0, 1) := by decide +kernel
theorem dX9_next_288 : decode cX9_next 288 = .ok (.getfield 69, 3) := by decide +kernel
theorem dX9_next_291 : decode cX9_next 291 = .ok (.iaload, 1) := by decide +kernel
theorem dX9_next_292 : decode cX9_next 292 = .ok (.i2l, 1) := by decide +kernel
theorem dX9_next_293 : decode cX9_next 293 = .ok (.putfield 75, 3) := by decide +kernel
theorem dX9_next_296 : decode cX9_next 296 = .ok (.aload_n 0, 1) := by decide +kernel
theorem dX9_next_297 : decode cX9_next 297 = .ok (.dup, 1) := by decide +kernel
theorem dX9_next_298 : decode cX9_next 298 = .ok (.getfield 69, 3) := by decide +kernel
theorem dX9_next_301 : decode cX9_next 301 = .ok (.iconst 1, 1) := by decide +kernel
theorem dX9_next_302 : decode cX9_next 302 = .ok (.iadd, 1) := by decide +kernel
theorem dX9_next_303 : decode cX9_next 303 = .ok (.putfield 69, 3) := by decide +kernel
theorem dX9_next_306 : decode cX9_next 306 = .ok (.return_, 1) := by decide +kernel
def fX9_next_90 (o_letters : Int32) (o_text_f : Nat → Int32) (o_cursor_0 : Int32)  : Nat → Int32 → Int64 → Int32 × Int32 × Int32 × Int64
  | 0, _, _ => default
  | n + 1, o_cursor_90, o_value_90 => if o_letters ≤ o_cursor_90 then ((o_cursor_90, 1, o_cursor_0, o_value_90)) else (if (fX9_isSmall (o_text_f o_cursor_90.toNatClampNeg)) = 0 then ((o_cursor_90, 1, o_cursor_0, o_value_90)) else (xlet (if 8 ≤ (o_cursor_90 - o_cursor_0) then 1 else ((32 * o_value_90) + ((o_text_f o_cursor_90.toNatClampNeg) - 96).toInt64)) (fun y_3 => fX9_next_90 o_letters o_text_f o_cursor_0 n (o_cursor_90 + 1) y_3)))
def fX9_next_193 (o_letters : Int32) (o_text_f : Nat → Int32) (o_cursor_0 : Int32)  : Nat → Int32 → Int64 → Int32 × Int32 × Int32 × Int64
  | 0, _, _ => default
  | n + 1, o_cursor_193, o_value_193 => if o_letters ≤ o_cursor_193 then ((o_cursor_193, 2, o_cursor_0, o_value_193)) else (if (fX9_isDigit (o_text_f o_cursor_193.toNatClampNeg)) = 0 then ((o_cursor_193, 2, o_cursor_0, o_value_193)) else (xlet (if 2 ≤ (o_cursor_193 - o_cursor_0) then 100 else ((10 * o_value_193) + ((o_text_f o_cursor_193.toNatClampNeg) - 48).toInt64)) (fun y_6 => fX9_next_193 o_letters o_text_f o_cursor_0 n (o_cursor_193 + 1) y_6)))
def fX9_next_0 (o_letters : Int32) (o_text_f : Nat → Int32)  : Nat → Int32 → Int32 × Int32 × Int32 × Int64
  | 0, _ => default
  | n + 1, o_cursor_0 => if o_letters ≤ o_cursor_0 then (if o_cursor_0 = o_letters then ((o_cursor_0, 0, o_cursor_0, 0)) else (if (fX9_isSmall (o_text_f o_cursor_0.toNatClampNeg)) = 0 then (if (fX9_isDigit (o_text_f o_cursor_0.toNatClampNeg)) = 0 then (((o_cursor_0 + 1), 3, o_cursor_0, (o_text_f o_cursor_0.toNatClampNeg).toInt64)) else (fX9_next_193 o_letters o_text_f o_cursor_0 1000 o_cursor_0 0)) else (fX9_next_90 o_letters o_text_f o_cursor_0 1000 o_cursor_0 0))) else (if (o_text_f o_cursor_0.toNatClampNeg) = 32 then (fX9_next_0 o_letters o_text_f n (o_cursor_0 + 1)) else (if o_cursor_0 = o_letters then ((o_cursor_0, 0, o_cursor_0, 0)) else (if (fX9_isSmall (o_text_f o_cursor_0.toNatClampNeg)) = 0 then (if (fX9_isDigit (o_text_f o_cursor_0.toNatClampNeg)) = 0 then (((o_cursor_0 + 1), 3, o_cursor_0, (o_text_f o_cursor_0.toNatClampNeg).toInt64)) else (fX9_next_193 o_letters o_text_f o_cursor_0 1000 o_cursor_0 0)) else (fX9_next_90 o_letters o_text_f o_cursor_0 1000 o_cursor_0 0))))
def fX9_next (o_letters : Int32) (o_cursor : Int32) (o_text_f : Nat → Int32) : Int32 × Int32 × Int32 × Int64 := fX9_next_0 o_letters o_text_f 1000 o_cursor
set_option maxHeartbeats 4000000 in
set_option maxRecDepth 100000 in
theorem c_X9_next (l : Launch) (D : va_G) (cI cZ : ClassId) (sz : Nat) (o : Nat) (o_road : Nat) (o_told : Nat) (o_fresh : Nat) (o_was : Nat) (o_acts : Int32) (o_kept : Nat) (o_isKept : Nat) (o_sights : Nat) (o_many : Int32) (o_text : Nat) (o_letters : Int32) (o_thrown : Int32) (o_cursor : Int32) (o_token : Int32) (o_start : Int32) (o_value : Int64) (o_isFault : Int32) (o_faultAt : Int32) (o_above : Int32) (o_below : Int32) (o_topOf : Nat) (o_partsOf : Nat) (o_sent : Nat) (o_text_f : Nat → Int32) (hl0 : 0 ≤ o_letters.toInt) (hl1 : o_letters.toInt ≤ 160) (hc0 : 0 ≤ o_cursor.toInt) (hc1 : o_cursor.toInt ≤ o_letters.toInt) : Met l yX9_next wsX9_next ({ frames := 2, cells := 0, slots := 0, locals := 45 } : Room) (va_Pc [.ref o] (xP D cI cZ [(o, .inr (9, [.ref o_road, .ref o_told, .ref o_fresh, .ref o_was, .int o_acts, .ref o_kept, .ref o_isKept, .ref o_sights, .int o_many, .ref o_text, .int o_letters, .int o_thrown, .int o_cursor, .int o_token, .int o_start, .long o_value, .int o_isFault, .int o_faultAt, .int o_above, .int o_below, .ref o_topOf, .ref o_partsOf, .ref o_sent])), (o_text, .inl (cI, 160, .inl o_text_f))] sz)) (va_Qv (fun (u : Int32 × Int32 × Int32 × Int64) => u = fX9_next o_letters o_cursor o_text_f) (fun (u : Int32 × Int32 × Int32 × Int64) t => xB D cI cZ [(o, .inr (9, [.ref o_road, .ref o_told, .ref o_fresh, .ref o_was, .int o_acts, .ref o_kept, .ref o_isKept, .ref o_sights, .int o_many, .ref o_text, .int o_letters, .int o_thrown, .int u.1, .int u.2.1, .int u.2.2.1, .long u.2.2.2, .int o_isFault, .int o_faultAt, .int o_above, .int o_below, .ref o_topOf, .ref o_partsOf, .ref o_sent])), (o_text, .inl (cI, 160, .inl o_text_f))] (va_A [(o, .inr (9, [.ref o_road, .ref o_told, .ref o_fresh, .ref o_was, .int o_acts, .ref o_kept, .ref o_isKept, .ref o_sights, .int o_many, .ref o_text, .int o_letters, .int o_thrown, .int o_cursor, .int o_token, .int o_start, .long o_value, .int o_isFault, .int o_faultAt, .int o_above, .int o_below, .ref o_topOf, .ref o_partsOf, .ref o_sent])), (o_text, .inl (cI, 160, .inl o_text_f))] sz) t) (va_A [(o, .inr (9, [.ref o_road, .ref o_told, .ref o_fresh, .ref o_was, .int o_acts, .ref o_kept, .ref o_isKept, .ref o_sights, .int o_many, .ref o_text, .int o_letters, .int o_thrown, .int o_cursor, .int o_token, .int o_start, .long o_value, .int o_isFault, .int o_faultAt, .int o_above, .int o_below, .ref o_topOf, .ref o_partsOf, .ref o_sent])), (o_text, .inl (cI, 160, .inl o_text_f))] sz)) 0 0 (va_A [(o, .inr (9, [.ref o_road, .ref o_told, .ref o_fresh, .ref o_was, .int o_acts, .ref o_kept, .ref o_isKept, .ref o_sights, .int o_many, .ref o_text, .int o_letters, .int o_thrown, .int o_cursor, .int o_token, .int o_start, .long o_value, .int o_isFault, .int o_faultAt, .int o_above, .int o_below, .ref o_topOf, .ref o_partsOf, .ref o_sent])), (o_text, .inl (cI, 160, .inl o_text_f))] sz) := by
  refine Met.ofW (cc := cX9_next) (maxL := 1) (ret := none) (by decide) rfl ?_
  intro p e s m args below meth c s₁ B hml hv
  obtain ⟨hargs, hsz, hP, hK, hD0, hE⟩ := hv
  subst hargs
  have hx := B.exec
  have hb := B.bytes
  have hr := B.returns
  have hts := atoms_spec (ws := wsX9_next) B.pre
  have hown : s.vm.findClass RX9 = some m.cls := findClass_of_methodNamed B.named
  have hlocks := B.notSynchronized
  subst hsz
  have hD := hD0.self (sz := s.heap.size)
  generalize hAe : va_A [(o, .inr (9, [.ref o_road, .ref o_told, .ref o_fresh, .ref o_was, .int o_acts, .ref o_kept, .ref o_isKept, .ref o_sights, .int o_many, .ref o_text, .int o_letters, .int o_thrown, .int o_cursor, .int o_token, .int o_start, .long o_value, .int o_isFault, .int o_faultAt, .int o_above, .int o_below, .ref o_topOf, .ref o_partsOf, .ref o_sent])), (o_text, .inl (cI, 160, .inl o_text_f))] s.heap.size = A at hD ⊢
  have hA : ∀ q : Nat, s.heap.size ≤ q → A q := fun q h => by rw [← hAe]; exact Or.inr h
  have hS : va_S A s.heap s.heap [] := va_S.rf
  have hl := lv_entry ([.ref o]) (n := 1) (Nat.le_of_ble_eq_true rfl)
  rw [lg_entry_eq]
  generalize (lg_sl ([.ref o]) ++ List.replicate (1 - (lg_sl ([.ref o])).length) Slot.unset).toArray = ls at hl ⊢
  have hl : lv_has ls 1 [(0, .ref o)] := hl
  refine wq (X := fun Q => ∀ (pc : Nat) (H : Heap) (locs : List Loc) (ls : Array Slot) (u : Int32 × Int32 × Int32 × Int64) (hd : decode cX9_next pc = .ok (.return_, 1)) (hp : u = fX9_next o_letters o_cursor o_text_f) (hP : va_P D vwCl [(o, .inr (9, [.ref o_road, .ref o_told, .ref o_fresh, .ref o_was, .int o_acts, .ref o_kept, .ref o_isKept, .ref o_sights, .int o_many, .ref o_text, .int o_letters, .int o_thrown, .int u.1, .int u.2.1, .int u.2.2.1, .long u.2.2.2, .int o_isFault, .int o_faultAt, .int o_above, .int o_below, .ref o_topOf, .ref o_partsOf, .ref o_sent])), (o_text, .inl (cI, 160, .inl o_text_f))] H) (hD : va_D A [(o, .inr (9, [.ref o_road, .ref o_told, .ref o_fresh, .ref o_was, .int o_acts, .ref o_kept, .ref o_isKept, .ref o_sights, .int o_many, .ref o_text, .int o_letters, .int o_thrown, .int u.1, .int u.2.1, .int u.2.2.1, .long u.2.2.2, .int o_isFault, .int o_faultAt, .int o_above, .int o_below, .ref o_topOf, .ref o_partsOf, .ref o_sent])), (o_text, .inl (cI, 160, .inl o_text_f))]) (hS : va_S A s.heap H locs), W p l e ({ frames := 2, cells := 0, slots := 0, locals := 45 } : Room) s m ([.ref o] : List Value).toArray below meth c H locs 0 0 Q (F0 m pc ls [])) ?_ (fun Q hret => ?_)
  · intro pc H locs ls u hd hp hP hD hS
    exact W.vret hx hb hr (fun t ht hW => ⟨⟨u, rfl, hp, by rw [ht]; exact hP, va_K.moved hW.alike hK, hD⟩, hS.F ht⟩) hS.2.2 hd
  have hin_9 : ∀ w ∈ u_ws RX9 TX9 23, w ∈ wsX9_next := by decide +kernel
  have fl_32 := hts (.fieldLink RX9 32 "MileRoadModel" "text" "[I") (by decide +kernel)
  have fl_58 := hts (.fieldLink RX9 58 "MileRoadModel" "letters" "I") (by decide +kernel)
  have fl_69 := hts (.fieldLink RX9 69 "MileRoadModel" "cursor" "I") (by decide +kernel)
  have fl_72 := hts (.fieldLink RX9 72 "MileRoadModel" "start" "I") (by decide +kernel)
  have fl_75 := hts (.fieldLink RX9 75 "MileRoadModel" "value" "J") (by decide +kernel)
  have fl_79 := hts (.fieldLink RX9 79 "MileRoadModel" "token" "I") (by decide +kernel)
  have zl_0 : (0 : Int32).toInt = 0 := by decide
  have zl_1 : (1 : Int32).toInt = 1 := by decide
  have zl_2 : (2 : Int32).toInt = 2 := by decide
  have zl_8 : (8 : Int32).toInt = 8 := by decide
  have zl_32 : (32 : Int32).toInt = 32 := by decide
  have hF : fX9_next o_letters o_cursor o_text_f = fX9_next o_letters o_cursor o_text_f := rfl
  have L_0 : ∀  (n_0 : Nat) (o_cursor_0 : Int32) (h1_0 : 0 ≤ o_cursor_0.toInt) (h2_0 : o_cursor_0.toInt ≤ o_letters.toInt) (hm : o_letters.toInt - o_cursor_0.toInt < (n_0 : Int)) (H : Heap) (locs : List Loc) (ls : Array Slot) (hl : lv_has ls 1 [(0, .ref o)]) (hP : va_P D vwCl [(o, .inr (9, [.ref o_road, .ref o_told, .ref o_fresh, .ref o_was, .int o_acts, .ref o_kept, .ref o_isKept, .ref o_sights, .int o_many, .ref o_text, .int o_letters, .int o_thrown, .int o_cursor_0, .int o_token, .int o_start, .long o_value, .int o_isFault, .int o_faultAt, .int o_above, .int o_below, .ref o_topOf, .ref o_partsOf, .ref o_sent])), (o_text, .inl (cI, 160, .inl o_text_f))] H) (hD : va_D A [(o, .inr (9, [.ref o_road, .ref o_told, .ref o_fresh, .ref o_was, .int o_acts, .ref o_kept, .ref o_isKept, .ref o_sights, .int o_many, .ref o_text, .int o_letters, .int o_thrown, .int o_cursor_0, .int o_token, .int o_start, .long o_value, .int o_isFault, .int o_faultAt, .int o_above, .int o_below, .ref o_topOf, .ref o_partsOf, .ref o_sent])), (o_text, .inl (cI, 160, .inl o_text_f))]) (hS : va_S A s.heap H locs) (hF : fX9_next o_letters o_cursor o_text_f = fX9_next_0 o_letters o_text_f n_0 o_cursor_0), W p l e ({ frames := 2, cells := 0, slots := 0, locals := 45 } : Room) s m ([.ref o] : List Value).toArray below meth c H locs 0 0 Q (F0 m 0 ls []) := by
    intro  n_0
    induction n_0 with
    | zero =>
      intro o_cursor_0 h1_0 h2_0 hm H locs ls hl hP hD hS hF
      exact absurd hm (by with_reducible omega)
    | succ n_0 ih_0 =>
      intro o_cursor_0 h1_0 h2_0 hm H locs ls hl hP hD hS hF
      have L_90 : ∀  (n_90 : Nat) (o_cursor_90 : Int32) (o_value_90 : Int64) (h1_90 : 0 ≤ o_cursor_90.toInt) (h2_90 : o_cursor_90.toInt ≤ o_letters.toInt) (hm : o_letters.toInt - o_cursor_90.toInt < (n_90 : Int)) (H : Heap) (locs : List Loc) (ls : Array Slot) (hl : lv_has ls 1 [(0, .ref o)]) (hP : va_P D vwCl [(o, .inr (9, [.ref o_road, .ref o_told, .ref o_fresh, .ref o_was, .int o_acts, .ref o_kept, .ref o_isKept, .ref o_sights, .int o_many, .ref o_text, .int o_letters, .int o_thrown, .int o_cursor_90, .int 1, .int o_cursor_0, .long o_value_90, .int o_isFault, .int o_faultAt, .int o_above, .int o_below, .ref o_topOf, .ref o_partsOf, .ref o_sent])), (o_text, .inl (cI, 160, .inl o_text_f))] H) (hD : va_D A [(o, .inr (9, [.ref o_road, .ref o_told, .ref o_fresh, .ref o_was, .int o_acts, .ref o_kept, .ref o_isKept, .ref o_sights, .int o_many, .ref o_text, .int o_letters, .int o_thrown, .int o_cursor_90, .int 1, .int o_cursor_0, .long o_value_90, .int o_isFault, .int o_faultAt, .int o_above, .int o_below, .ref o_topOf, .ref o_partsOf, .ref o_sent])), (o_text, .inl (cI, 160, .inl o_text_f))]) (hS : va_S A s.heap H locs) (hF : fX9_next o_letters o_cursor o_text_f = fX9_next_90 o_letters o_text_f o_cursor_0 n_90 o_cursor_90 o_value_90), W p l e ({ frames := 2, cells := 0, slots := 0, locals := 45 } : Room) s m ([.ref o] : List Value).toArray below meth c H locs 0 0 Q (F0 m 90 ls []) := by
        intro  n_90
        induction n_90 with
        | zero =>
          intro o_cursor_90 o_value_90 h1_90 h2_90 hm H locs ls hl hP hD hS hF
          exact absurd hm (by with_reducible omega)
        | succ n_90 ih_90 =>
          intro o_cursor_90 o_value_90 h1_90 h2_90 hm H locs ls hl hP hD hS hF
          refine lv_aload_n hx hb dX9_next_90 rfl (lv_at hl 0 rfl) ?_
          refine xget hx hb hts hown hK 9 (C2 := RX9) (T := TX9) (N := 23) rfl hin_9 hP 0 rfl 12 (by decide) fl_69 rfl rfl rfl dX9_next_91 ?_
          refine lv_aload_n hx hb dX9_next_94 rfl (lv_at hl 0 rfl) ?_
          refine xget hx hb hts hown hK 9 (C2 := RX9) (T := TX9) (N := 23) rfl hin_9 hP 0 rfl 10 (by decide) fl_58 rfl rfl rfl dX9_next_95 ?_
          refine lv_icmp_ge (tgt := 306) hx hb dX9_next_98 (by decide) (fun c_9 => ?_) (fun c_9 => ?_)
          · have kc_9 := t_le c_9
            exact hret _ _ _ _ (o_cursor_90, 1, o_cursor_0, o_value_90) dX9_next_306 ((hF.trans (by simp only [fX9_next_90, ↓if_pos c_9])).symm) hP hD hS
          · have kc_9 := t_nle c_9
            refine lv_aload_n hx hb dX9_next_101 rfl (lv_at hl 0 rfl) ?_
            refine xget hx hb hts hown hK 9 (C2 := RX9) (T := TX9) (N := 23) rfl hin_9 hP 0 rfl 9 (by decide) fl_32 rfl rfl rfl dX9_next_102 ?_
            refine lv_aload_n hx hb dX9_next_105 rfl (lv_at hl 0 rfl) ?_
            refine xget hx hb hts hown hK 9 (C2 := RX9) (T := TX9) (N := 23) rfl hin_9 hP 0 rfl 12 (by decide) fl_69 rfl rfl rfl dX9_next_106 ?_
            refine xald hx hb hK hP 1 0 (k := o_cursor_90.toNatClampNeg) rfl rfl (vi (by with_reducible omega) (by with_reducible omega)) rfl dX9_next_109 ?_
            refine xcalli (S := Unit) (Wc := []) (wr := [(o, .inr (9, [.ref o_road, .ref o_told, .ref o_fresh, .ref o_was, .int o_acts, .ref o_kept, .ref o_isKept, .ref o_sights, .int o_many, .ref o_text, .int o_letters, .int o_thrown, .int o_cursor_90, .int 1, .int o_cursor_0, .long o_value_90, .int o_isFault, .int o_faultAt, .int o_above, .int o_below, .ref o_topOf, .ref o_partsOf, .ref o_sent])), (o_text, .inl (cI, 160, .inl o_text_f))]) (W1 := (fun (u : Unit) => [])) (Wn := (fun (u : Unit) => [(o, .inr (9, [.ref o_road, .ref o_told, .ref o_fresh, .ref o_was, .int o_acts, .ref o_kept, .ref o_isKept, .ref o_sights, .int o_many, .ref o_text, .int o_letters, .int o_thrown, .int o_cursor_90, .int 1, .int o_cursor_0, .long o_value_90, .int o_isFault, .int o_faultAt, .int o_above, .int o_below, .ref o_topOf, .ref o_partsOf, .ref o_sent])), (o_text, .inl (cI, 160, .inl o_text_f))])) (xrunS hx hb hml hown hts (c_X9_isSmall l D cI cZ _ (o_text_f o_cursor_90.toNatClampNeg) ) (va_cwS 1 hts gX9_next_X9_isSmall rfl rfl rfl (by decide +kernel) ⟨Nat.le_of_ble_eq_true rfl, Nat.le_of_ble_eq_true rfl⟩) hE hK hP hD [] rfl rfl rfl hl.1 rfl (Nat.le_of_ble_eq_true rfl) dX9_next_110 ⟨Nat.le_of_ble_eq_true rfl, Nat.le_of_ble_eq_true rfl⟩) hP hD hS hA [] [0, 1] [0, 1] rfl rfl rfl (by decide) (fun _ => rfl) rfl (fun r5 u H locs hw hz hP hD hS => ?_)
            subst hw
            refine lv_if_eq (tgt := 306) hx hb dX9_next_113 (by decide) (fun c_10 => ?_) (fun c_10 => ?_)
            · exact hret _ _ _ _ (o_cursor_90, 1, o_cursor_0, o_value_90) dX9_next_306 ((hF.trans (by simp only [fX9_next_90, ↓if_neg c_9, ↓if_pos c_10])).symm) hP hD hS
            · refine lv_aload_n hx hb dX9_next_116 rfl (lv_at hl 0 rfl) ?_
              refine lv_aload_n hx hb dX9_next_117 rfl (lv_at hl 0 rfl) ?_
              refine xget hx hb hts hown hK 9 (C2 := RX9) (T := TX9) (N := 23) rfl hin_9 hP 0 rfl 12 (by decide) fl_69 rfl rfl rfl dX9_next_118 ?_
              refine lv_aload_n hx hb dX9_next_121 rfl (lv_at hl 0 rfl) ?_
              refine xget hx hb hts hown hK 9 (C2 := RX9) (T := TX9) (N := 23) rfl hin_9 hP 0 rfl 14 (by decide) fl_72 rfl rfl rfl dX9_next_122 ?_
              refine lv_isub hx hb dX9_next_125 ?_
              refine lv_bipush (v := 8) hx hb dX9_next_126 (by decide) ?_
              have K_y_3 : ∀ (y_3 : Int64) (hy_y_3 : (if 8 ≤ (o_cursor_90 - o_cursor_0) then 1 else ((32 * o_value_90) + ((o_text_f o_cursor_90.toNatClampNeg) - 96).toInt64)) = y_3) (H : Heap) (locs : List Loc) (hP : va_P D vwCl [(o, .inr (9, [.ref o_road, .ref o_told, .ref o_fresh, .ref o_was, .int o_acts, .ref o_kept, .ref o_isKept, .ref o_sights, .int o_many, .ref o_text, .int o_letters, .int o_thrown, .int o_cursor_90, .int 1, .int o_cursor_0, .long o_value_90, .int o_isFault, .int o_faultAt, .int o_above, .int o_below, .ref o_topOf, .ref o_partsOf, .ref o_sent])), (o_text, .inl (cI, 160, .inl o_text_f))] H) (hD : va_D A [(o, .inr (9, [.ref o_road, .ref o_told, .ref o_fresh, .ref o_was, .int o_acts, .ref o_kept, .ref o_isKept, .ref o_sights, .int o_many, .ref o_text, .int o_letters, .int o_thrown, .int o_cursor_90, .int 1, .int o_cursor_0, .long o_value_90, .int o_isFault, .int o_faultAt, .int o_above, .int o_below, .ref o_topOf, .ref o_partsOf, .ref o_sent])), (o_text, .inl (cI, 160, .inl o_text_f))]) (hS : va_S A s.heap H locs), W p l e ({ frames := 2, cells := 0, slots := 0, locals := 45 } : Room) s m ([.ref o] : List Value).toArray below meth c H locs 0 0 Q (F0 m 157 ls [.long y_3, .ref o]) := by
                intro y_3 hy_y_3 H locs hP hD hS
                have ky_y_3 : y_3 = ((32 * o_value_90) + ((o_text_f o_cursor_90.toNatClampNeg) - 96).toInt64) ∨ y_3 = 1 := by rw [← hy_y_3]; (repeat' split) <;> simp
                refine xput hx hb hts hown hK 9 (C2 := RX9) (T := TX9) (N := 23) tyX9 rfl tyX9_ok nmX9 hin_9 hP hD hS 0 rfl 15 (by decide) fl_75 rfl rfl rfl rfl rfl (Nat.le_of_ble_eq_true rfl) dX9_next_157 [(o, .inr (9, [.ref o_road, .ref o_told, .ref o_fresh, .ref o_was, .int o_acts, .ref o_kept, .ref o_isKept, .ref o_sights, .int o_many, .ref o_text, .int o_letters, .int o_thrown, .int o_cursor_90, .int 1, .int o_cursor_0, .long y_3, .int o_isFault, .int o_faultAt, .int o_above, .int o_below, .ref o_topOf, .ref o_partsOf, .ref o_sent])), (o_text, .inl (cI, 160, .inl o_text_f))] rfl (fun H locs hP hD hS => ?_)
                refine lv_aload_n hx hb dX9_next_160 rfl (lv_at hl 0 rfl) ?_
                refine lv_dup hx hb dX9_next_161 rfl ?_
                refine xget hx hb hts hown hK 9 (C2 := RX9) (T := TX9) (N := 23) rfl hin_9 hP 0 rfl 12 (by decide) fl_69 rfl rfl rfl dX9_next_162 ?_
                refine lv_iconst (v := 1) hx hb dX9_next_165 (by decide) ?_
                refine lv_iadd hx hb dX9_next_166 ?_
                refine xput hx hb hts hown hK 9 (C2 := RX9) (T := TX9) (N := 23) tyX9 rfl tyX9_ok nmX9 hin_9 hP hD hS 0 rfl 12 (by decide) fl_69 rfl rfl rfl rfl rfl (Nat.le_of_ble_eq_true rfl) dX9_next_167 [(o, .inr (9, [.ref o_road, .ref o_told, .ref o_fresh, .ref o_was, .int o_acts, .ref o_kept, .ref o_isKept, .ref o_sights, .int o_many, .ref o_text, .int o_letters, .int o_thrown, .int (o_cursor_90 + 1), .int 1, .int o_cursor_0, .long y_3, .int o_isFault, .int o_faultAt, .int o_above, .int o_below, .ref o_topOf, .ref o_partsOf, .ref o_sent])), (o_text, .inl (cI, 160, .inl o_text_f))] rfl (fun H locs hP hD hS => ?_)
                refine lv_goto (tgt := 90) hx hb dX9_next_170 (by decide) ?_
                have z_2 : (o_cursor_90 + 1).toInt = o_cursor_90.toInt + (1 : Int32).toInt := z_add (by with_reducible omega) (by with_reducible omega)
                exact ih_90 (o_cursor_90 + 1) y_3 (by first | with_reducible assumption | with_reducible omega | decide | (split <;> rename_i hh <;> first | (have h9 := t_nlt hh; with_reducible omega) | (have h9 := t_lt hh; with_reducible omega) | (have h9 := t_nle hh; with_reducible omega) | (have h9 := t_le hh; with_reducible omega))) (by first | with_reducible assumption | with_reducible omega | decide | (split <;> rename_i hh <;> first | (have h9 := t_nlt hh; with_reducible omega) | (have h9 := t_lt hh; with_reducible omega) | (have h9 := t_nle hh; with_reducible omega) | (have h9 := t_le hh; with_reducible omega))) (by first | with_reducible assumption | with_reducible omega | decide | (split <;> rename_i hh <;> first | (have h9 := t_nlt hh; with_reducible omega) | (have h9 := t_lt hh; with_reducible omega) | (have h9 := t_nle hh; with_reducible omega) | (have h9 := t_le hh; with_reducible omega))) _ _ _ (lv_sub hl [0] rfl) hP hD hS (hF.trans (by simp only [fX9_next_90, ↓if_neg c_9, ↓if_neg c_10, ↓(xlet_of hy_y_3)]))
              refine lv_icmp_ge (tgt := 156) hx hb dX9_next_128 (by decide) (fun c_11 => ?_) (fun c_11 => ?_)
              · have kc_11 := t_le c_11
                refine lv_lconst (v := 1) hx hb dX9_next_156 (by decide) ?_
                exact K_y_3 _ (by simp only [↓if_pos c_11]) _ _ hP hD hS
              · have kc_11 := t_nle c_11
                refine lv_ldc2 (v := 32) hx hb hown (hts (.constantLong RX9 86 32) (by decide +kernel)) dX9_next_131 ?_
                refine lv_aload_n hx hb dX9_next_134 rfl (lv_at hl 0 rfl) ?_
                refine xget hx hb hts hown hK 9 (C2 := RX9) (T := TX9) (N := 23) rfl hin_9 hP 0 rfl 15 (by decide) fl_75 rfl rfl rfl dX9_next_135 ?_
                refine lv_lmul hx hb dX9_next_138 ?_
                refine lv_aload_n hx hb dX9_next_139 rfl (lv_at hl 0 rfl) ?_
                refine xget hx hb hts hown hK 9 (C2 := RX9) (T := TX9) (N := 23) rfl hin_9 hP 0 rfl 9 (by decide) fl_32 rfl rfl rfl dX9_next_140 ?_
                refine lv_aload_n hx hb dX9_next_143 rfl (lv_at hl 0 rfl) ?_
                refine xget hx hb hts hown hK 9 (C2 := RX9) (T := TX9) (N := 23) rfl hin_9 hP 0 rfl 12 (by decide) fl_69 rfl rfl rfl dX9_next_144 ?_
                refine xald hx hb hK hP 1 0 (k := o_cursor_90.toNatClampNeg) rfl rfl (vi (by with_reducible omega) (by with_reducible omega)) rfl dX9_next_147 ?_
                refine lv_bipush (v := 96) hx hb dX9_next_148 (by decide) ?_
                refine lv_isub hx hb dX9_next_150 ?_
                refine lv_i2l (v := ((o_text_f o_cursor_90.toNatClampNeg) - 96).toInt64) hx hb dX9_next_151 rfl ?_
                refine lv_ladd hx hb dX9_next_152 ?_
                refine lv_goto (tgt := 157) hx hb dX9_next_153 (by decide) ?_
                exact K_y_3 _ (by simp only [↓if_neg c_11]) _ _ hP hD hS
      have L_193 : ∀  (n_193 : Nat) (o_cursor_193 : Int32) (o_value_193 : Int64) (h1_193 : 0 ≤ o_cursor_193.toInt) (h2_193 : o_cursor_193.toInt ≤ o_letters.toInt) (hm : o_letters.toInt - o_cursor_193.toInt < (n_193 : Int)) (H : Heap) (locs : List Loc) (ls : Array Slot) (hl : lv_has ls 1 [(0, .ref o)]) (hP : va_P D vwCl [(o, .inr (9, [.ref o_road, .ref o_told, .ref o_fresh, .ref o_was, .int o_acts, .ref o_kept, .ref o_isKept, .ref o_sights, .int o_many, .ref o_text, .int o_letters, .int o_thrown, .int o_cursor_193, .int 2, .int o_cursor_0, .long o_value_193, .int o_isFault, .int o_faultAt, .int o_above, .int o_below, .ref o_topOf, .ref o_partsOf, .ref o_sent])), (o_text, .inl (cI, 160, .inl o_text_f))] H) (hD : va_D A [(o, .inr (9, [.ref o_road, .ref o_told, .ref o_fresh, .ref o_was, .int o_acts, .ref o_kept, .ref o_isKept, .ref o_sights, .int o_many, .ref o_text, .int o_letters, .int o_thrown, .int o_cursor_193, .int 2, .int o_cursor_0, .long o_value_193, .int o_isFault, .int o_faultAt, .int o_above, .int o_below, .ref o_topOf, .ref o_partsOf, .ref o_sent])), (o_text, .inl (cI, 160, .inl o_text_f))]) (hS : va_S A s.heap H locs) (hF : fX9_next o_letters o_cursor o_text_f = fX9_next_193 o_letters o_text_f o_cursor_0 n_193 o_cursor_193 o_value_193), W p l e ({ frames := 2, cells := 0, slots := 0, locals := 45 } : Room) s m ([.ref o] : List Value).toArray below meth c H locs 0 0 Q (F0 m 193 ls []) := by
        intro  n_193
        induction n_193 with
        | zero =>
          intro o_cursor_193 o_value_193 h1_193 h2_193 hm H locs ls hl hP hD hS hF
          exact absurd hm (by with_reducible omega)
        | succ n_193 ih_193 =>
          intro o_cursor_193 o_value_193 h1_193 h2_193 hm H locs ls hl hP hD hS hF
          refine lv_aload_n hx hb dX9_next_193 rfl (lv_at hl 0 rfl) ?_
          refine xget hx hb hts hown hK 9 (C2 := RX9) (T := TX9) (N := 23) rfl hin_9 hP 0 rfl 12 (by decide) fl_69 rfl rfl rfl dX9_next_194 ?_
          refine lv_aload_n hx hb dX9_next_197 rfl (lv_at hl 0 rfl) ?_
          refine xget hx hb hts hown hK 9 (C2 := RX9) (T := TX9) (N := 23) rfl hin_9 hP 0 rfl 10 (by decide) fl_58 rfl rfl rfl dX9_next_198 ?_
          refine lv_icmp_ge (tgt := 306) hx hb dX9_next_201 (by decide) (fun c_12 => ?_) (fun c_12 => ?_)
          · have kc_12 := t_le c_12
            exact hret _ _ _ _ (o_cursor_193, 2, o_cursor_0, o_value_193) dX9_next_306 ((hF.trans (by simp only [fX9_next_193, ↓if_pos c_12])).symm) hP hD hS
          · have kc_12 := t_nle c_12
            refine lv_aload_n hx hb dX9_next_204 rfl (lv_at hl 0 rfl) ?_
            refine xget hx hb hts hown hK 9 (C2 := RX9) (T := TX9) (N := 23) rfl hin_9 hP 0 rfl 9 (by decide) fl_32 rfl rfl rfl dX9_next_205 ?_
            refine lv_aload_n hx hb dX9_next_208 rfl (lv_at hl 0 rfl) ?_
            refine xget hx hb hts hown hK 9 (C2 := RX9) (T := TX9) (N := 23) rfl hin_9 hP 0 rfl 12 (by decide) fl_69 rfl rfl rfl dX9_next_209 ?_
            refine xald hx hb hK hP 1 0 (k := o_cursor_193.toNatClampNeg) rfl rfl (vi (by with_reducible omega) (by with_reducible omega)) rfl dX9_next_212 ?_
            refine xcalli (S := Unit) (Wc := []) (wr := [(o, .inr (9, [.ref o_road, .ref o_told, .ref o_fresh, .ref o_was, .int o_acts, .ref o_kept, .ref o_isKept, .ref o_sights, .int o_many, .ref o_text, .int o_letters, .int o_thrown, .int o_cursor_193, .int 2, .int o_cursor_0, .long o_value_193, .int o_isFault, .int o_faultAt, .int o_above, .int o_below, .ref o_topOf, .ref o_partsOf, .ref o_sent])), (o_text, .inl (cI, 160, .inl o_text_f))]) (W1 := (fun (u : Unit) => [])) (Wn := (fun (u : Unit) => [(o, .inr (9, [.ref o_road, .ref o_told, .ref o_fresh, .ref o_was, .int o_acts, .ref o_kept, .ref o_isKept, .ref o_sights, .int o_many, .ref o_text, .int o_letters, .int o_thrown, .int o_cursor_193, .int 2, .int o_cursor_0, .long o_value_193, .int o_isFault, .int o_faultAt, .int o_above, .int o_below, .ref o_topOf, .ref o_partsOf, .ref o_sent])), (o_text, .inl (cI, 160, .inl o_text_f))])) (xrunS hx hb hml hown hts (c_X9_isDigit l D cI cZ _ (o_text_f o_cursor_193.toNatClampNeg) ) (va_cwS 1 hts gX9_next_X9_isDigit rfl rfl rfl (by decide +kernel) ⟨Nat.le_of_ble_eq_true rfl, Nat.le_of_ble_eq_true rfl⟩) hE hK hP hD [] rfl rfl rfl hl.1 rfl (Nat.le_of_ble_eq_true rfl) dX9_next_213 ⟨Nat.le_of_ble_eq_true rfl, Nat.le_of_ble_eq_true rfl⟩) hP hD hS hA [] [0, 1] [0, 1] rfl rfl rfl (by decide) (fun _ => rfl) rfl (fun r6 u H locs hw hz hP hD hS => ?_)
            subst hw
            refine lv_if_eq (tgt := 306) hx hb dX9_next_216 (by decide) (fun c_13 => ?_) (fun c_13 => ?_)
            · exact hret _ _ _ _ (o_cursor_193, 2, o_cursor_0, o_value_193) dX9_next_306 ((hF.trans (by simp only [fX9_next_193, ↓if_neg c_12, ↓if_pos c_13])).symm) hP hD hS
            · refine lv_aload_n hx hb dX9_next_219 rfl (lv_at hl 0 rfl) ?_
              refine lv_aload_n hx hb dX9_next_220 rfl (lv_at hl 0 rfl) ?_
              refine xget hx hb hts hown hK 9 (C2 := RX9) (T := TX9) (N := 23) rfl hin_9 hP 0 rfl 12 (by decide) fl_69 rfl rfl rfl dX9_next_221 ?_
              refine lv_aload_n hx hb dX9_next_224 rfl (lv_at hl 0 rfl) ?_
              refine xget hx hb hts hown hK 9 (C2 := RX9) (T := TX9) (N := 23) rfl hin_9 hP 0 rfl 14 (by decide) fl_72 rfl rfl rfl dX9_next_225 ?_
              refine lv_isub hx hb dX9_next_228 ?_
              refine lv_iconst (v := 2) hx hb dX9_next_229 (by decide) ?_
              have K_y_6 : ∀ (y_6 : Int64) (hy_y_6 : (if 2 ≤ (o_cursor_193 - o_cursor_0) then 100 else ((10 * o_value_193) + ((o_text_f o_cursor_193.toNatClampNeg) - 48).toInt64)) = y_6) (H : Heap) (locs : List Loc) (hP : va_P D vwCl [(o, .inr (9, [.ref o_road, .ref o_told, .ref o_fresh, .ref o_was, .int o_acts, .ref o_kept, .ref o_isKept, .ref o_sights, .int o_many, .ref o_text, .int o_letters, .int o_thrown, .int o_cursor_193, .int 2, .int o_cursor_0, .long o_value_193, .int o_isFault, .int o_faultAt, .int o_above, .int o_below, .ref o_topOf, .ref o_partsOf, .ref o_sent])), (o_text, .inl (cI, 160, .inl o_text_f))] H) (hD : va_D A [(o, .inr (9, [.ref o_road, .ref o_told, .ref o_fresh, .ref o_was, .int o_acts, .ref o_kept, .ref o_isKept, .ref o_sights, .int o_many, .ref o_text, .int o_letters, .int o_thrown, .int o_cursor_193, .int 2, .int o_cursor_0, .long o_value_193, .int o_isFault, .int o_faultAt, .int o_above, .int o_below, .ref o_topOf, .ref o_partsOf, .ref o_sent])), (o_text, .inl (cI, 160, .inl o_text_f))]) (hS : va_S A s.heap H locs), W p l e ({ frames := 2, cells := 0, slots := 0, locals := 45 } : Room) s m ([.ref o] : List Value).toArray below meth c H locs 0 0 Q (F0 m 261 ls [.long y_6, .ref o]) := by
                intro y_6 hy_y_6 H locs hP hD hS
                have ky_y_6 : y_6 = ((10 * o_value_193) + ((o_text_f o_cursor_193.toNatClampNeg) - 48).toInt64) ∨ y_6 = 100 := by rw [← hy_y_6]; (repeat' split) <;> simp
                refine xput hx hb hts hown hK 9 (C2 := RX9) (T := TX9) (N := 23) tyX9 rfl tyX9_ok nmX9 hin_9 hP hD hS 0 rfl 15 (by decide) fl_75 rfl rfl rfl rfl rfl (Nat.le_of_ble_eq_true rfl) dX9_next_261 [(o, .inr (9, [.ref o_road, .ref o_told, .ref o_fresh, .ref o_was, .int o_acts, .ref o_kept, .ref o_isKept, .ref o_sights, .int o_many, .ref o_text, .int o_letters, .int o_thrown, .int o_cursor_193, .int 2, .int o_cursor_0, .long y_6, .int o_isFault, .int o_faultAt, .int o_above, .int o_below, .ref o_topOf, .ref o_partsOf, .ref o_sent])), (o_text, .inl (cI, 160, .inl o_text_f))] rfl (fun H locs hP hD hS => ?_)
                refine lv_aload_n hx hb dX9_next_264 rfl (lv_at hl 0 rfl) ?_
                refine lv_dup hx hb dX9_next_265 rfl ?_
                refine xget hx hb hts hown hK 9 (C2 := RX9) (T := TX9) (N := 23) rfl hin_9 hP 0 rfl 12 (by decide) fl_69 rfl rfl rfl dX9_next_266 ?_
                refine lv_iconst (v := 1) hx hb dX9_next_269 (by decide) ?_
                refine lv_iadd hx hb dX9_next_270 ?_
                refine xput hx hb hts hown hK 9 (C2 := RX9) (T := TX9) (N := 23) tyX9 rfl tyX9_ok nmX9 hin_9 hP hD hS 0 rfl 12 (by decide) fl_69 rfl rfl rfl rfl rfl (Nat.le_of_ble_eq_true rfl) dX9_next_271 [(o, .inr (9, [.ref o_road, .ref o_told, .ref o_fresh, .ref o_was, .int o_acts, .ref o_kept, .ref o_isKept, .ref o_sights, .int o_many, .ref o_text, .int o_letters, .int o_thrown, .int (o_cursor_193 + 1), .int 2, .int o_cursor_0, .long y_6, .int o_isFault, .int o_faultAt, .int o_above, .int o_below, .ref o_topOf, .ref o_partsOf, .ref o_sent])), (o_text, .inl (cI, 160, .inl o_text_f))] rfl (fun H locs hP hD hS => ?_)
                refine lv_goto (tgt := 193) hx hb dX9_next_274 (by decide) ?_
                have z_3 : (o_cursor_193 + 1).toInt = o_cursor_193.toInt + (1 : Int32).toInt := z_add (by with_reducible omega) (by with_reducible omega)
                exact ih_193 (o_cursor_193 + 1) y_6 (by first | with_reducible assumption | with_reducible omega | decide | (split <;> rename_i hh <;> first | (have h9 := t_nlt hh; with_reducible omega) | (have h9 := t_lt hh; with_reducible omega) | (have h9 := t_nle hh; with_reducible omega) | (have h9 := t_le hh; with_reducible omega))) (by first | with_reducible assumption | with_reducible omega | decide | (split <;> rename_i hh <;> first | (have h9 := t_nlt hh; with_reducible omega) | (have h9 := t_lt hh; with_reducible omega) | (have h9 := t_nle hh; with_reducible omega) | (have h9 := t_le hh; with_reducible omega))) (by first | with_reducible assumption | with_reducible omega | decide | (split <;> rename_i hh <;> first | (have h9 := t_nlt hh; with_reducible omega) | (have h9 := t_lt hh; with_reducible omega) | (have h9 := t_nle hh; with_reducible omega) | (have h9 := t_le hh; with_reducible omega))) _ _ _ (lv_sub hl [0] rfl) hP hD hS (hF.trans (by simp only [fX9_next_193, ↓if_neg c_12, ↓if_neg c_13, ↓(xlet_of hy_y_6)]))
              refine lv_icmp_ge (tgt := 258) hx hb dX9_next_230 (by decide) (fun c_14 => ?_) (fun c_14 => ?_)
              · have kc_14 := t_le c_14
                refine lv_ldc2 (v := 100) hx hb hown (hts (.constantLong RX9 93 100) (by decide +kernel)) dX9_next_258 ?_
                exact K_y_6 _ (by simp only [↓if_pos c_14]) _ _ hP hD hS
              · have kc_14 := t_nle c_14
                refine lv_ldc2 (v := 10) hx hb hown (hts (.constantLong RX9 91 10) (by decide +kernel)) dX9_next_233 ?_
                refine lv_aload_n hx hb dX9_next_236 rfl (lv_at hl 0 rfl) ?_
                refine xget hx hb hts hown hK 9 (C2 := RX9) (T := TX9) (N := 23) rfl hin_9 hP 0 rfl 15 (by decide) fl_75 rfl rfl rfl dX9_next_237 ?_
                refine lv_lmul hx hb dX9_next_240 ?_
                refine lv_aload_n hx hb dX9_next_241 rfl (lv_at hl 0 rfl) ?_
                refine xget hx hb hts hown hK 9 (C2 := RX9) (T := TX9) (N := 23) rfl hin_9 hP 0 rfl 9 (by decide) fl_32 rfl rfl rfl dX9_next_242 ?_
                refine lv_aload_n hx hb dX9_next_245 rfl (lv_at hl 0 rfl) ?_
                refine xget hx hb hts hown hK 9 (C2 := RX9) (T := TX9) (N := 23) rfl hin_9 hP 0 rfl 12 (by decide) fl_69 rfl rfl rfl dX9_next_246 ?_
                refine xald hx hb hK hP 1 0 (k := o_cursor_193.toNatClampNeg) rfl rfl (vi (by with_reducible omega) (by with_reducible omega)) rfl dX9_next_249 ?_
                refine lv_bipush (v := 48) hx hb dX9_next_250 (by decide) ?_
                refine lv_isub hx hb dX9_next_252 ?_
                refine lv_i2l (v := ((o_text_f o_cursor_193.toNatClampNeg) - 48).toInt64) hx hb dX9_next_253 rfl ?_
                refine lv_ladd hx hb dX9_next_254 ?_
                refine lv_goto (tgt := 261) hx hb dX9_next_255 (by decide) ?_
                exact K_y_6 _ (by simp only [↓if_neg c_14]) _ _ hP hD hS
      refine lv_aload_n hx hb dX9_next_0 rfl (lv_at hl 0 rfl) ?_
      refine xget hx hb hts hown hK 9 (C2 := RX9) (T := TX9) (N := 23) rfl hin_9 hP 0 rfl 12 (by decide) fl_69 rfl rfl rfl dX9_next_1 ?_
      refine lv_aload_n hx hb dX9_next_4 rfl (lv_at hl 0 rfl) ?_
      refine xget hx hb hts hown hK 9 (C2 := RX9) (T := TX9) (N := 23) rfl hin_9 hP 0 rfl 10 (by decide) fl_58 rfl rfl rfl dX9_next_5 ?_
      refine lv_icmp_ge (tgt := 38) hx hb dX9_next_8 (by decide) (fun c_1 => ?_) (fun c_1 => ?_)
      · have kc_1 := t_le c_1
        refine lv_aload_n hx hb dX9_next_38 rfl (lv_at hl 0 rfl) ?_
        refine lv_aload_n hx hb dX9_next_39 rfl (lv_at hl 0 rfl) ?_
        refine xget hx hb hts hown hK 9 (C2 := RX9) (T := TX9) (N := 23) rfl hin_9 hP 0 rfl 12 (by decide) fl_69 rfl rfl rfl dX9_next_40 ?_
        refine xput hx hb hts hown hK 9 (C2 := RX9) (T := TX9) (N := 23) tyX9 rfl tyX9_ok nmX9 hin_9 hP hD hS 0 rfl 14 (by decide) fl_72 rfl rfl rfl rfl rfl (Nat.le_of_ble_eq_true rfl) dX9_next_43 [(o, .inr (9, [.ref o_road, .ref o_told, .ref o_fresh, .ref o_was, .int o_acts, .ref o_kept, .ref o_isKept, .ref o_sights, .int o_many, .ref o_text, .int o_letters, .int o_thrown, .int o_cursor_0, .int o_token, .int o_cursor_0, .long o_value, .int o_isFault, .int o_faultAt, .int o_above, .int o_below, .ref o_topOf, .ref o_partsOf, .ref o_sent])), (o_text, .inl (cI, 160, .inl o_text_f))] rfl (fun H locs hP hD hS => ?_)
        refine lv_aload_n hx hb dX9_next_46 rfl (lv_at hl 0 rfl) ?_
        refine lv_lconst (v := 0) hx hb dX9_next_47 (by decide) ?_
        refine xput hx hb hts hown hK 9 (C2 := RX9) (T := TX9) (N := 23) tyX9 rfl tyX9_ok nmX9 hin_9 hP hD hS 0 rfl 15 (by decide) fl_75 rfl rfl rfl rfl rfl (Nat.le_of_ble_eq_true rfl) dX9_next_48 [(o, .inr (9, [.ref o_road, .ref o_told, .ref o_fresh, .ref o_was, .int o_acts, .ref o_kept, .ref o_isKept, .ref o_sights, .int o_many, .ref o_text, .int o_letters, .int o_thrown, .int o_cursor_0, .int o_token, .int o_cursor_0, .long 0, .int o_isFault, .int o_faultAt, .int o_above, .int o_below, .ref o_topOf, .ref o_partsOf, .ref o_sent])), (o_text, .inl (cI, 160, .inl o_text_f))] rfl (fun H locs hP hD hS => ?_)
        refine lv_aload_n hx hb dX9_next_51 rfl (lv_at hl 0 rfl) ?_
        refine xget hx hb hts hown hK 9 (C2 := RX9) (T := TX9) (N := 23) rfl hin_9 hP 0 rfl 12 (by decide) fl_69 rfl rfl rfl dX9_next_52 ?_
        refine lv_aload_n hx hb dX9_next_55 rfl (lv_at hl 0 rfl) ?_
        refine xget hx hb hts hown hK 9 (C2 := RX9) (T := TX9) (N := 23) rfl hin_9 hP 0 rfl 10 (by decide) fl_58 rfl rfl rfl dX9_next_56 ?_
        refine lv_icmp_ne (tgt := 70) hx hb dX9_next_59 (by decide) (fun c_2 => ?_) (fun c_2 => ?_)
        · have kc_2 := t_neq c_2
          refine lv_aload_n hx hb dX9_next_70 rfl (lv_at hl 0 rfl) ?_
          refine xget hx hb hts hown hK 9 (C2 := RX9) (T := TX9) (N := 23) rfl hin_9 hP 0 rfl 9 (by decide) fl_32 rfl rfl rfl dX9_next_71 ?_
          refine lv_aload_n hx hb dX9_next_74 rfl (lv_at hl 0 rfl) ?_
          refine xget hx hb hts hown hK 9 (C2 := RX9) (T := TX9) (N := 23) rfl hin_9 hP 0 rfl 12 (by decide) fl_69 rfl rfl rfl dX9_next_75 ?_
          refine xald hx hb hK hP 1 0 (k := o_cursor_0.toNatClampNeg) rfl rfl (vi (by with_reducible omega) (by with_reducible omega)) rfl dX9_next_78 ?_
          refine xcalli (S := Unit) (Wc := []) (wr := [(o, .inr (9, [.ref o_road, .ref o_told, .ref o_fresh, .ref o_was, .int o_acts, .ref o_kept, .ref o_isKept, .ref o_sights, .int o_many, .ref o_text, .int o_letters, .int o_thrown, .int o_cursor_0, .int o_token, .int o_cursor_0, .long 0, .int o_isFault, .int o_faultAt, .int o_above, .int o_below, .ref o_topOf, .ref o_partsOf, .ref o_sent])), (o_text, .inl (cI, 160, .inl o_text_f))]) (W1 := (fun (u : Unit) => [])) (Wn := (fun (u : Unit) => [(o, .inr (9, [.ref o_road, .ref o_told, .ref o_fresh, .ref o_was, .int o_acts, .ref o_kept, .ref o_isKept, .ref o_sights, .int o_many, .ref o_text, .int o_letters, .int o_thrown, .int o_cursor_0, .int o_token, .int o_cursor_0, .long 0, .int o_isFault, .int o_faultAt, .int o_above, .int o_below, .ref o_topOf, .ref o_partsOf, .ref o_sent])), (o_text, .inl (cI, 160, .inl o_text_f))])) (xrunS hx hb hml hown hts (c_X9_isSmall l D cI cZ _ (o_text_f o_cursor_0.toNatClampNeg) ) (va_cwS 1 hts gX9_next_X9_isSmall rfl rfl rfl (by decide +kernel) ⟨Nat.le_of_ble_eq_true rfl, Nat.le_of_ble_eq_true rfl⟩) hE hK hP hD [] rfl rfl rfl hl.1 rfl (Nat.le_of_ble_eq_true rfl) dX9_next_79 ⟨Nat.le_of_ble_eq_true rfl, Nat.le_of_ble_eq_true rfl⟩) hP hD hS hA [] [0, 1] [0, 1] rfl rfl rfl (by decide) (fun _ => rfl) rfl (fun r1 u H locs hw hz hP hD hS => ?_)
          subst hw
          refine lv_if_eq (tgt := 173) hx hb dX9_next_82 (by decide) (fun c_3 => ?_) (fun c_3 => ?_)
          · refine lv_aload_n hx hb dX9_next_173 rfl (lv_at hl 0 rfl) ?_
            refine xget hx hb hts hown hK 9 (C2 := RX9) (T := TX9) (N := 23) rfl hin_9 hP 0 rfl 9 (by decide) fl_32 rfl rfl rfl dX9_next_174 ?_
            refine lv_aload_n hx hb dX9_next_177 rfl (lv_at hl 0 rfl) ?_
            refine xget hx hb hts hown hK 9 (C2 := RX9) (T := TX9) (N := 23) rfl hin_9 hP 0 rfl 12 (by decide) fl_69 rfl rfl rfl dX9_next_178 ?_
            refine xald hx hb hK hP 1 0 (k := o_cursor_0.toNatClampNeg) rfl rfl (vi (by with_reducible omega) (by with_reducible omega)) rfl dX9_next_181 ?_
            refine xcalli (S := Unit) (Wc := []) (wr := [(o, .inr (9, [.ref o_road, .ref o_told, .ref o_fresh, .ref o_was, .int o_acts, .ref o_kept, .ref o_isKept, .ref o_sights, .int o_many, .ref o_text, .int o_letters, .int o_thrown, .int o_cursor_0, .int o_token, .int o_cursor_0, .long 0, .int o_isFault, .int o_faultAt, .int o_above, .int o_below, .ref o_topOf, .ref o_partsOf, .ref o_sent])), (o_text, .inl (cI, 160, .inl o_text_f))]) (W1 := (fun (u : Unit) => [])) (Wn := (fun (u : Unit) => [(o, .inr (9, [.ref o_road, .ref o_told, .ref o_fresh, .ref o_was, .int o_acts, .ref o_kept, .ref o_isKept, .ref o_sights, .int o_many, .ref o_text, .int o_letters, .int o_thrown, .int o_cursor_0, .int o_token, .int o_cursor_0, .long 0, .int o_isFault, .int o_faultAt, .int o_above, .int o_below, .ref o_topOf, .ref o_partsOf, .ref o_sent])), (o_text, .inl (cI, 160, .inl o_text_f))])) (xrunS hx hb hml hown hts (c_X9_isDigit l D cI cZ _ (o_text_f o_cursor_0.toNatClampNeg) ) (va_cwS 1 hts gX9_next_X9_isDigit rfl rfl rfl (by decide +kernel) ⟨Nat.le_of_ble_eq_true rfl, Nat.le_of_ble_eq_true rfl⟩) hE hK hP hD [] rfl rfl rfl hl.1 rfl (Nat.le_of_ble_eq_true rfl) dX9_next_182 ⟨Nat.le_of_ble_eq_true rfl, Nat.le_of_ble_eq_true rfl⟩) hP hD hS hA [] [0, 1] [0, 1] rfl rfl rfl (by decide) (fun _ => rfl) rfl (fun r2 u H locs hw hz hP hD hS => ?_)
            subst hw
            refine lv_if_eq (tgt := 277) hx hb dX9_next_185 (by decide) (fun c_4 => ?_) (fun c_4 => ?_)
            · refine lv_aload_n hx hb dX9_next_277 rfl (lv_at hl 0 rfl) ?_
              refine lv_iconst (v := 3) hx hb dX9_next_278 (by decide) ?_
              refine xput hx hb hts hown hK 9 (C2 := RX9) (T := TX9) (N := 23) tyX9 rfl tyX9_ok nmX9 hin_9 hP hD hS 0 rfl 13 (by decide) fl_79 rfl rfl rfl rfl rfl (Nat.le_of_ble_eq_true rfl) dX9_next_279 [(o, .inr (9, [.ref o_road, .ref o_told, .ref o_fresh, .ref o_was, .int o_acts, .ref o_kept, .ref o_isKept, .ref o_sights, .int o_many, .ref o_text, .int o_letters, .int o_thrown, .int o_cursor_0, .int 3, .int o_cursor_0, .long 0, .int o_isFault, .int o_faultAt, .int o_above, .int o_below, .ref o_topOf, .ref o_partsOf, .ref o_sent])), (o_text, .inl (cI, 160, .inl o_text_f))] rfl (fun H locs hP hD hS => ?_)
              refine lv_aload_n hx hb dX9_next_282 rfl (lv_at hl 0 rfl) ?_
              refine lv_aload_n hx hb dX9_next_283 rfl (lv_at hl 0 rfl) ?_
              refine xget hx hb hts hown hK 9 (C2 := RX9) (T := TX9) (N := 23) rfl hin_9 hP 0 rfl 9 (by decide) fl_32 rfl rfl rfl dX9_next_284 ?_
              refine lv_aload_n hx hb dX9_next_287 rfl (lv_at hl 0 rfl) ?_
              refine xget hx hb hts hown hK 9 (C2 := RX9) (T := TX9) (N := 23) rfl hin_9 hP 0 rfl 12 (by decide) fl_69 rfl rfl rfl dX9_next_288 ?_
              refine xald hx hb hK hP 1 0 (k := o_cursor_0.toNatClampNeg) rfl rfl (vi (by with_reducible omega) (by with_reducible omega)) rfl dX9_next_291 ?_
              refine lv_i2l (v := (o_text_f o_cursor_0.toNatClampNeg).toInt64) hx hb dX9_next_292 rfl ?_
              refine xput hx hb hts hown hK 9 (C2 := RX9) (T := TX9) (N := 23) tyX9 rfl tyX9_ok nmX9 hin_9 hP hD hS 0 rfl 15 (by decide) fl_75 rfl rfl rfl rfl rfl (Nat.le_of_ble_eq_true rfl) dX9_next_293 [(o, .inr (9, [.ref o_road, .ref o_told, .ref o_fresh, .ref o_was, .int o_acts, .ref o_kept, .ref o_isKept, .ref o_sights, .int o_many, .ref o_text, .int o_letters, .int o_thrown, .int o_cursor_0, .int 3, .int o_cursor_0, .long (o_text_f o_cursor_0.toNatClampNeg).toInt64, .int o_isFault, .int o_faultAt, .int o_above, .int o_below, .ref o_topOf, .ref o_partsOf, .ref o_sent])), (o_text, .inl (cI, 160, .inl o_text_f))] rfl (fun H locs hP hD hS => ?_)
              refine lv_aload_n hx hb dX9_next_296 rfl (lv_at hl 0 rfl) ?_
              refine lv_dup hx hb dX9_next_297 rfl ?_
              refine xget hx hb hts hown hK 9 (C2 := RX9) (T := TX9) (N := 23) rfl hin_9 hP 0 rfl 12 (by decide) fl_69 rfl rfl rfl dX9_next_298 ?_
              refine lv_iconst (v := 1) hx hb dX9_next_301 (by decide) ?_
              refine lv_iadd hx hb dX9_next_302 ?_
              refine xput hx hb hts hown hK 9 (C2 := RX9) (T := TX9) (N := 23) tyX9 rfl tyX9_ok nmX9 hin_9 hP hD hS 0 rfl 12 (by decide) fl_69 rfl rfl rfl rfl rfl (Nat.le_of_ble_eq_true rfl) dX9_next_303 [(o, .inr (9, [.ref o_road, .ref o_told, .ref o_fresh, .ref o_was, .int o_acts, .ref o_kept, .ref o_isKept, .ref o_sights, .int o_many, .ref o_text, .int o_letters, .int o_thrown, .int (o_cursor_0 + 1), .int 3, .int o_cursor_0, .long (o_text_f o_cursor_0.toNatClampNeg).toInt64, .int o_isFault, .int o_faultAt, .int o_above, .int o_below, .ref o_topOf, .ref o_partsOf, .ref o_sent])), (o_text, .inl (cI, 160, .inl o_text_f))] rfl (fun H locs hP hD hS => ?_)
              exact hret _ _ _ _ ((o_cursor_0 + 1), 3, o_cursor_0, (o_text_f o_cursor_0.toNatClampNeg).toInt64) dX9_next_306 ((hF.trans (by simp only [fX9_next_0, ↓if_pos c_1, ↓if_neg c_2, ↓if_pos c_3, ↓if_pos c_4])).symm) hP hD hS
            · refine lv_aload_n hx hb dX9_next_188 rfl (lv_at hl 0 rfl) ?_
              refine lv_iconst (v := 2) hx hb dX9_next_189 (by decide) ?_
              refine xput hx hb hts hown hK 9 (C2 := RX9) (T := TX9) (N := 23) tyX9 rfl tyX9_ok nmX9 hin_9 hP hD hS 0 rfl 13 (by decide) fl_79 rfl rfl rfl rfl rfl (Nat.le_of_ble_eq_true rfl) dX9_next_190 [(o, .inr (9, [.ref o_road, .ref o_told, .ref o_fresh, .ref o_was, .int o_acts, .ref o_kept, .ref o_isKept, .ref o_sights, .int o_many, .ref o_text, .int o_letters, .int o_thrown, .int o_cursor_0, .int 2, .int o_cursor_0, .long 0, .int o_isFault, .int o_faultAt, .int o_above, .int o_below, .ref o_topOf, .ref o_partsOf, .ref o_sent])), (o_text, .inl (cI, 160, .inl o_text_f))] rfl (fun H locs hP hD hS => ?_)
              exact L_193 1000 o_cursor_0 0 (by first | with_reducible assumption | with_reducible omega | decide | (split <;> rename_i hh <;> first | (have h9 := t_nlt hh; with_reducible omega) | (have h9 := t_lt hh; with_reducible omega) | (have h9 := t_nle hh; with_reducible omega) | (have h9 := t_le hh; with_reducible omega))) (by first | with_reducible assumption | with_reducible omega | decide | (split <;> rename_i hh <;> first | (have h9 := t_nlt hh; with_reducible omega) | (have h9 := t_lt hh; with_reducible omega) | (have h9 := t_nle hh; with_reducible omega) | (have h9 := t_le hh; with_reducible omega))) (by first | with_reducible assumption | with_reducible omega | decide | (split <;> rename_i hh <;> first | (have h9 := t_nlt hh; with_reducible omega) | (have h9 := t_lt hh; with_reducible omega) | (have h9 := t_nle hh; with_reducible omega) | (have h9 := t_le hh; with_reducible omega))) _ _ _ (lv_sub hl [0] rfl) hP hD hS (hF.trans (by simp only [fX9_next_0, ↓if_pos c_1, ↓if_neg c_2, ↓if_pos c_3, ↓if_neg c_4]))
          · refine lv_aload_n hx hb dX9_next_85 rfl (lv_at hl 0 rfl) ?_
            refine lv_iconst (v := 1) hx hb dX9_next_86 (by decide) ?_
            refine xput hx hb hts hown hK 9 (C2 := RX9) (T := TX9) (N := 23) tyX9 rfl tyX9_ok nmX9 hin_9 hP hD hS 0 rfl 13 (by decide) fl_79 rfl rfl rfl rfl rfl (Nat.le_of_ble_eq_true rfl) dX9_next_87 [(o, .inr (9, [.ref o_road, .ref o_told, .ref o_fresh, .ref o_was, .int o_acts, .ref o_kept, .ref o_isKept, .ref o_sights, .int o_many, .ref o_text, .int o_letters, .int o_thrown, .int o_cursor_0, .int 1, .int o_cursor_0, .long 0, .int o_isFault, .int o_faultAt, .int o_above, .int o_below, .ref o_topOf, .ref o_partsOf, .ref o_sent])), (o_text, .inl (cI, 160, .inl o_text_f))] rfl (fun H locs hP hD hS => ?_)
            exact L_90 1000 o_cursor_0 0 (by first | with_reducible assumption | with_reducible omega | decide | (split <;> rename_i hh <;> first | (have h9 := t_nlt hh; with_reducible omega) | (have h9 := t_lt hh; with_reducible omega) | (have h9 := t_nle hh; with_reducible omega) | (have h9 := t_le hh; with_reducible omega))) (by first | with_reducible assumption | with_reducible omega | decide | (split <;> rename_i hh <;> first | (have h9 := t_nlt hh; with_reducible omega) | (have h9 := t_lt hh; with_reducible omega) | (have h9 := t_nle hh; with_reducible omega) | (have h9 := t_le hh; with_reducible omega))) (by first | with_reducible assumption | with_reducible omega | decide | (split <;> rename_i hh <;> first | (have h9 := t_nlt hh; with_reducible omega) | (have h9 := t_lt hh; with_reducible omega) | (have h9 := t_nle hh; with_reducible omega) | (have h9 := t_le hh; with_reducible omega))) _ _ _ (lv_sub hl [0] rfl) hP hD hS (hF.trans (by simp only [fX9_next_0, ↓if_pos c_1, ↓if_neg c_2, ↓if_neg c_3]))
        · have kc_2 := t_eq c_2
          refine lv_aload_n hx hb dX9_next_62 rfl (lv_at hl 0 rfl) ?_
          refine lv_iconst (v := 0) hx hb dX9_next_63 (by decide) ?_
          refine xput hx hb hts hown hK 9 (C2 := RX9) (T := TX9) (N := 23) tyX9 rfl tyX9_ok nmX9 hin_9 hP hD hS 0 rfl 13 (by decide) fl_79 rfl rfl rfl rfl rfl (Nat.le_of_ble_eq_true rfl) dX9_next_64 [(o, .inr (9, [.ref o_road, .ref o_told, .ref o_fresh, .ref o_was, .int o_acts, .ref o_kept, .ref o_isKept, .ref o_sights, .int o_many, .ref o_text, .int o_letters, .int o_thrown, .int o_cursor_0, .int 0, .int o_cursor_0, .long 0, .int o_isFault, .int o_faultAt, .int o_above, .int o_below, .ref o_topOf, .ref o_partsOf, .ref o_sent])), (o_text, .inl (cI, 160, .inl o_text_f))] rfl (fun H locs hP hD hS => ?_)
          refine lv_goto (tgt := 306) hx hb dX9_next_67 (by decide) ?_
          exact hret _ _ _ _ (o_cursor_0, 0, o_cursor_0, 0) dX9_next_306 ((hF.trans (by simp only [fX9_next_0, ↓if_pos c_1, ↓if_pos c_2])).symm) hP hD hS
      · have kc_1 := t_nle c_1
        refine lv_aload_n hx hb dX9_next_11 rfl (lv_at hl 0 rfl) ?_
        refine xget hx hb hts hown hK 9 (C2 := RX9) (T := TX9) (N := 23) rfl hin_9 hP 0 rfl 9 (by decide) fl_32 rfl rfl rfl dX9_next_12 ?_
        refine lv_aload_n hx hb dX9_next_15 rfl (lv_at hl 0 rfl) ?_
        refine xget hx hb hts hown hK 9 (C2 := RX9) (T := TX9) (N := 23) rfl hin_9 hP 0 rfl 12 (by decide) fl_69 rfl rfl rfl dX9_next_16 ?_
        refine xald hx hb hK hP 1 0 (k := o_cursor_0.toNatClampNeg) rfl rfl (vi (by with_reducible omega) (by with_reducible omega)) rfl dX9_next_19 ?_
        refine lv_bipush (v := 32) hx hb dX9_next_20 (by decide) ?_
        refine lv_icmp_ne (tgt := 38) hx hb dX9_next_22 (by decide) (fun c_5 => ?_) (fun c_5 => ?_)
        · have kc_5 := t_neq c_5
          refine lv_aload_n hx hb dX9_next_38 rfl (lv_at hl 0 rfl) ?_
          refine lv_aload_n hx hb dX9_next_39 rfl (lv_at hl 0 rfl) ?_
          refine xget hx hb hts hown hK 9 (C2 := RX9) (T := TX9) (N := 23) rfl hin_9 hP 0 rfl 12 (by decide) fl_69 rfl rfl rfl dX9_next_40 ?_
          refine xput hx hb hts hown hK 9 (C2 := RX9) (T := TX9) (N := 23) tyX9 rfl tyX9_ok nmX9 hin_9 hP hD hS 0 rfl 14 (by decide) fl_72 rfl rfl rfl rfl rfl (Nat.le_of_ble_eq_true rfl) dX9_next_43 [(o, .inr (9, [.ref o_road, .ref o_told, .ref o_fresh, .ref o_was, .int o_acts, .ref o_kept, .ref o_isKept, .ref o_sights, .int o_many, .ref o_text, .int o_letters, .int o_thrown, .int o_cursor_0, .int o_token, .int o_cursor_0, .long o_value, .int o_isFault, .int o_faultAt, .int o_above, .int o_below, .ref o_topOf, .ref o_partsOf, .ref o_sent])), (o_text, .inl (cI, 160, .inl o_text_f))] rfl (fun H locs hP hD hS => ?_)
          refine lv_aload_n hx hb dX9_next_46 rfl (lv_at hl 0 rfl) ?_
          refine lv_lconst (v := 0) hx hb dX9_next_47 (by decide) ?_
          refine xput hx hb hts hown hK 9 (C2 := RX9) (T := TX9) (N := 23) tyX9 rfl tyX9_ok nmX9 hin_9 hP hD hS 0 rfl 15 (by decide) fl_75 rfl rfl rfl rfl rfl (Nat.le_of_ble_eq_true rfl) dX9_next_48 [(o, .inr (9, [.ref o_road, .ref o_told, .ref o_fresh, .ref o_was, .int o_acts, .ref o_kept, .ref o_isKept, .ref o_sights, .int o_many, .ref o_text, .int o_letters, .int o_thrown, .int o_cursor_0, .int o_token, .int o_cursor_0, .long 0, .int o_isFault, .int o_faultAt, .int o_above, .int o_below, .ref o_topOf, .ref o_partsOf, .ref o_sent])), (o_text, .inl (cI, 160, .inl o_text_f))] rfl (fun H locs hP hD hS => ?_)
          refine lv_aload_n hx hb dX9_next_51 rfl (lv_at hl 0 rfl) ?_
          refine xget hx hb hts hown hK 9 (C2 := RX9) (T := TX9) (N := 23) rfl hin_9 hP 0 rfl 12 (by decide) fl_69 rfl rfl rfl dX9_next_52 ?_
          refine lv_aload_n hx hb dX9_next_55 rfl (lv_at hl 0 rfl) ?_
          refine xget hx hb hts hown hK 9 (C2 := RX9) (T := TX9) (N := 23) rfl hin_9 hP 0 rfl 10 (by decide) fl_58 rfl rfl rfl dX9_next_56 ?_
          refine lv_icmp_ne (tgt := 70) hx hb dX9_next_59 (by decide) (fun c_6 => ?_) (fun c_6 => ?_)
          · have kc_6 := t_neq c_6
            refine lv_aload_n hx hb dX9_next_70 rfl (lv_at hl 0 rfl) ?_
            refine xget hx hb hts hown hK 9 (C2 := RX9) (T := TX9) (N := 23) rfl hin_9 hP 0 rfl 9 (by decide) fl_32 rfl rfl rfl dX9_next_71 ?_
            refine lv_aload_n hx hb dX9_next_74 rfl (lv_at hl 0 rfl) ?_
            refine xget hx hb hts hown hK 9 (C2 := RX9) (T := TX9) (N := 23) rfl hin_9 hP 0 rfl 12 (by decide) fl_69 rfl rfl rfl dX9_next_75 ?_
            refine xald hx hb hK hP 1 0 (k := o_cursor_0.toNatClampNeg) rfl rfl (vi (by with_reducible omega) (by with_reducible omega)) rfl dX9_next_78 ?_
            refine xcalli (S := Unit) (Wc := []) (wr := [(o, .inr (9, [.ref o_road, .ref o_told, .ref o_fresh, .ref o_was, .int o_acts, .ref o_kept, .ref o_isKept, .ref o_sights, .int o_many, .ref o_text, .int o_letters, .int o_thrown, .int o_cursor_0, .int o_token, .int o_cursor_0, .long 0, .int o_isFault, .int o_faultAt, .int o_above, .int o_below, .ref o_topOf, .ref o_partsOf, .ref o_sent])), (o_text, .inl (cI, 160, .inl o_text_f))]) (W1 := (fun (u : Unit) => [])) (Wn := (fun (u : Unit) => [(o, .inr (9, [.ref o_road, .ref o_told, .ref o_fresh, .ref o_was, .int o_acts, .ref o_kept, .ref o_isKept, .ref o_sights, .int o_many, .ref o_text, .int o_letters, .int o_thrown, .int o_cursor_0, .int o_token, .int o_cursor_0, .long 0, .int o_isFault, .int o_faultAt, .int o_above, .int o_below, .ref o_topOf, .ref o_partsOf, .ref o_sent])), (o_text, .inl (cI, 160, .inl o_text_f))])) (xrunS hx hb hml hown hts (c_X9_isSmall l D cI cZ _ (o_text_f o_cursor_0.toNatClampNeg) ) (va_cwS 1 hts gX9_next_X9_isSmall rfl rfl rfl (by decide +kernel) ⟨Nat.le_of_ble_eq_true rfl, Nat.le_of_ble_eq_true rfl⟩) hE hK hP hD [] rfl rfl rfl hl.1 rfl (Nat.le_of_ble_eq_true rfl) dX9_next_79 ⟨Nat.le_of_ble_eq_true rfl, Nat.le_of_ble_eq_true rfl⟩) hP hD hS hA [] [0, 1] [0, 1] rfl rfl rfl (by decide) (fun _ => rfl) rfl (fun r3 u H locs hw hz hP hD hS => ?_)
            subst hw
            refine lv_if_eq (tgt := 173) hx hb dX9_next_82 (by decide) (fun c_7 => ?_) (fun c_7 => ?_)
            · refine lv_aload_n hx hb dX9_next_173 rfl (lv_at hl 0 rfl) ?_
              refine xget hx hb hts hown hK 9 (C2 := RX9) (T := TX9) (N := 23) rfl hin_9 hP 0 rfl 9 (by decide) fl_32 rfl rfl rfl dX9_next_174 ?_
              refine lv_aload_n hx hb dX9_next_177 rfl (lv_at hl 0 rfl) ?_
              refine xget hx hb hts hown hK 9 (C2 := RX9) (T := TX9) (N := 23) rfl hin_9 hP 0 rfl 12 (by decide) fl_69 rfl rfl rfl dX9_next_178 ?_
              refine xald hx hb hK hP 1 0 (k := o_cursor_0.toNatClampNeg) rfl rfl (vi (by with_reducible omega) (by with_reducible omega)) rfl dX9_next_181 ?_
              refine xcalli (S := Unit) (Wc := []) (wr := [(o, .inr (9, [.ref o_road, .ref o_told, .ref o_fresh, .ref o_was, .int o_acts, .ref o_kept, .ref o_isKept, .ref o_sights, .int o_many, .ref o_text, .int o_letters, .int o_thrown, .int o_cursor_0, .int o_token, .int o_cursor_0, .long 0, .int o_isFault, .int o_faultAt, .int o_above, .int o_below, .ref o_topOf, .ref o_partsOf, .ref o_sent])), (o_text, .inl (cI, 160, .inl o_text_f))]) (W1 := (fun (u : Unit) => [])) (Wn := (fun (u : Unit) => [(o, .inr (9, [.ref o_road, .ref o_told, .ref o_fresh, .ref o_was, .int o_acts, .ref o_kept, .ref o_isKept, .ref o_sights, .int o_many, .ref o_text, .int o_letters, .int o_thrown, .int o_cursor_0, .int o_token, .int o_cursor_0, .long 0, .int o_isFault, .int o_faultAt, .int o_above, .int o_below, .ref o_topOf, .ref o_partsOf, .ref o_sent])), (o_text, .inl (cI, 160, .inl o_text_f))])) (xrunS hx hb hml hown hts (c_X9_isDigit l D cI cZ _ (o_text_f o_cursor_0.toNatClampNeg) ) (va_cwS 1 hts gX9_next_X9_isDigit rfl rfl rfl (by decide +kernel) ⟨Nat.le_of_ble_eq_true rfl, Nat.le_of_ble_eq_true rfl⟩) hE hK hP hD [] rfl rfl rfl hl.1 rfl (Nat.le_of_ble_eq_true rfl) dX9_next_182 ⟨Nat.le_of_ble_eq_true rfl, Nat.le_of_ble_eq_true rfl⟩) hP hD hS hA [] [0, 1] [0, 1] rfl rfl rfl (by decide) (fun _ => rfl) rfl (fun r4 u H locs hw hz hP hD hS => ?_)
              subst hw
              refine lv_if_eq (tgt := 277) hx hb dX9_next_185 (by decide) (fun c_8 => ?_) (fun c_8 => ?_)
              · refine lv_aload_n hx hb dX9_next_277 rfl (lv_at hl 0 rfl) ?_
                refine lv_iconst (v := 3) hx hb dX9_next_278 (by decide) ?_
                refine xput hx hb hts hown hK 9 (C2 := RX9) (T := TX9) (N := 23) tyX9 rfl tyX9_ok nmX9 hin_9 hP hD hS 0 rfl 13 (by decide) fl_79 rfl rfl rfl rfl rfl (Nat.le_of_ble_eq_true rfl) dX9_next_279 [(o, .inr (9, [.ref o_road, .ref o_told, .ref o_fresh, .ref o_was, .int o_acts, .ref o_kept, .ref o_isKept, .ref o_sights, .int o_many, .ref o_text, .int o_letters, .int o_thrown, .int o_cursor_0, .int 3, .int o_cursor_0, .long 0, .int o_isFault, .int o_faultAt, .int o_above, .int o_below, .ref o_topOf, .ref o_partsOf, .ref o_sent])), (o_text, .inl (cI, 160, .inl o_text_f))] rfl (fun H locs hP hD hS => ?_)
                refine lv_aload_n hx hb dX9_next_282 rfl (lv_at hl 0 rfl) ?_
                refine lv_aload_n hx hb dX9_next_283 rfl (lv_at hl 0 rfl) ?_
                refine xget hx hb hts hown hK 9 (C2 := RX9) (T := TX9) (N := 23) rfl hin_9 hP 0 rfl 9 (by decide) fl_32 rfl rfl rfl dX9_next_284 ?_
                refine lv_aload_n hx hb dX9_next_287 rfl (lv_at hl 0 rfl) ?_
                refine xget hx hb hts hown hK 9 (C2 := RX9) (T := TX9) (N := 23) rfl hin_9 hP 0 rfl 12 (by decide) fl_69 rfl rfl rfl dX9_next_288 ?_
                refine xald hx hb hK hP 1 0 (k := o_cursor_0.toNatClampNeg) rfl rfl (vi (by with_reducible omega) (by with_reducible omega)) rfl dX9_next_291 ?_
                refine lv_i2l (v := (o_text_f o_cursor_0.toNatClampNeg).toInt64) hx hb dX9_next_292 rfl ?_
                refine xput hx hb hts hown hK 9 (C2 := RX9) (T := TX9) (N := 23) tyX9 rfl tyX9_ok nmX9 hin_9 hP hD hS 0 rfl 15 (by decide) fl_75 rfl rfl rfl rfl rfl (Nat.le_of_ble_eq_true rfl) dX9_next_293 [(o, .inr (9, [.ref o_road, .ref o_told, .ref o_fresh, .ref o_was, .int o_acts, .ref o_kept, .ref o_isKept, .ref o_sights, .int o_many, .ref o_text, .int o_letters, .int o_thrown, .int o_cursor_0, .int 3, .int o_cursor_0, .long (o_text_f o_cursor_0.toNatClampNeg).toInt64, .int o_isFault, .int o_faultAt, .int o_above, .int o_below, .ref o_topOf, .ref o_partsOf, .ref o_sent])), (o_text, .inl (cI, 160, .inl o_text_f))] rfl (fun H locs hP hD hS => ?_)
                refine lv_aload_n hx hb dX9_next_296 rfl (lv_at hl 0 rfl) ?_
                refine lv_dup hx hb dX9_next_297 rfl ?_
                refine xget hx hb hts hown hK 9 (C2 := RX9) (T := TX9) (N := 23) rfl hin_9 hP 0 rfl 12 (by decide) fl_69 rfl rfl rfl dX9_next_298 ?_
                refine lv_iconst (v := 1) hx hb dX9_next_301 (by decide) ?_
                refine lv_iadd hx hb dX9_next_302 ?_
                refine xput hx hb hts hown hK 9 (C2 := RX9) (T := TX9) (N := 23) tyX9 rfl tyX9_ok nmX9 hin_9 hP hD hS 0 rfl 12 (by decide) fl_69 rfl rfl rfl rfl rfl (Nat.le_of_ble_eq_true rfl) dX9_next_303 [(o, .inr (9, [.ref o_road, .ref o_told, .ref o_fresh, .ref o_was, .int o_acts, .ref o_kept, .ref o_isKept, .ref o_sights, .int o_many, .ref o_text, .int o_letters, .int o_thrown, .int (o_cursor_0 + 1), .int 3, .int o_cursor_0, .long (o_text_f o_cursor_0.toNatClampNeg).toInt64, .int o_isFault, .int o_faultAt, .int o_above, .int o_below, .ref o_topOf, .ref o_partsOf, .ref o_sent])), (o_text, .inl (cI, 160, .inl o_text_f))] rfl (fun H locs hP hD hS => ?_)
                exact hret _ _ _ _ ((o_cursor_0 + 1), 3, o_cursor_0, (o_text_f o_cursor_0.toNatClampNeg).toInt64) dX9_next_306 ((hF.trans (by simp only [fX9_next_0, ↓if_neg c_1, ↓if_neg c_5, ↓if_neg c_6, ↓if_pos c_7, ↓if_pos c_8])).symm) hP hD hS
              · refine lv_aload_n hx hb dX9_next_188 rfl (lv_at hl 0 rfl) ?_
                refine lv_iconst (v := 2) hx hb dX9_next_189 (by decide) ?_
                refine xput hx hb hts hown hK 9 (C2 := RX9) (T := TX9) (N := 23) tyX9 rfl tyX9_ok nmX9 hin_9 hP hD hS 0 rfl 13 (by decide) fl_79 rfl rfl rfl rfl rfl (Nat.le_of_ble_eq_true rfl) dX9_next_190 [(o, .inr (9, [.ref o_road, .ref o_told, .ref o_fresh, .ref o_was, .int o_acts, .ref o_kept, .ref o_isKept, .ref o_sights, .int o_many, .ref o_text, .int o_letters, .int o_thrown, .int o_cursor_0, .int 2, .int o_cursor_0, .long 0, .int o_isFault, .int o_faultAt, .int o_above, .int o_below, .ref o_topOf, .ref o_partsOf, .ref o_sent])), (o_text, .inl (cI, 160, .inl o_text_f))] rfl (fun H locs hP hD hS => ?_)
                exact L_193 1000 o_cursor_0 0 (by first | with_reducible assumption | with_reducible omega | decide | (split <;> rename_i hh <;> first | (have h9 := t_nlt hh; with_reducible omega) | (have h9 := t_lt hh; with_reducible omega) | (have h9 := t_nle hh; with_reducible omega) | (have h9 := t_le hh; with_reducible omega))) (by first | with_reducible assumption | with_reducible omega | decide | (split <;> rename_i hh <;> first | (have h9 := t_nlt hh; with_reducible omega) | (have h9 := t_lt hh; with_reducible omega) | (have h9 := t_nle hh; with_reducible omega) | (have h9 := t_le hh; with_reducible omega))) (by first | with_reducible assumption | with_reducible omega | decide | (split <;> rename_i hh <;> first | (have h9 := t_nlt hh; with_reducible omega) | (have h9 := t_lt hh; with_reducible omega) | (have h9 := t_nle hh; with_reducible omega) | (have h9 := t_le hh; with_reducible omega))) _ _ _ (lv_sub hl [0] rfl) hP hD hS (hF.trans (by simp only [fX9_next_0, ↓if_neg c_1, ↓if_neg c_5, ↓if_neg c_6, ↓if_pos c_7, ↓if_neg c_8]))
            · refine lv_aload_n hx hb dX9_next_85 rfl (lv_at hl 0 rfl) ?_
              refine lv_iconst (v := 1) hx hb dX9_next_86 (by decide) ?_
              refine xput hx hb hts hown hK 9 (C2 := RX9) (T := TX9) (N := 23) tyX9 rfl tyX9_ok nmX9 hin_9 hP hD hS 0 rfl 13 (by decide) fl_79 rfl rfl rfl rfl rfl (Nat.le_of_ble_eq_true rfl) dX9_next_87 [(o, .inr (9, [.ref o_road, .ref o_told, .ref o_fresh, .ref o_was, .int o_acts, .ref o_kept, .ref o_isKept, .ref o_sights, .int o_many, .ref o_text, .int o_letters, .int o_thrown, .int o_cursor_0, .int 1, .int o_cursor_0, .long 0, .int o_isFault, .int o_faultAt, .int o_above, .int o_below, .ref o_topOf, .ref o_partsOf, .ref o_sent])), (o_text, .inl (cI, 160, .inl o_text_f))] rfl (fun H locs hP hD hS => ?_)
              exact L_90 1000 o_cursor_0 0 (by first | with_reducible assumption | with_reducible omega | decide | (split <;> rename_i hh <;> first | (have h9 := t_nlt hh; with_reducible omega) | (have h9 := t_lt hh; with_reducible omega) | (have h9 := t_nle hh; with_reducible omega) | (have h9 := t_le hh; with_reducible omega))) (by first | with_reducible assumption | with_reducible omega | decide | (split <;> rename_i hh <;> first | (have h9 := t_nlt hh; with_reducible omega) | (have h9 := t_lt hh; with_reducible omega) | (have h9 := t_nle hh; with_reducible omega) | (have h9 := t_le hh; with_reducible omega))) (by first | with_reducible assumption | with_reducible omega | decide | (split <;> rename_i hh <;> first | (have h9 := t_nlt hh; with_reducible omega) | (have h9 := t_lt hh; with_reducible omega) | (have h9 := t_nle hh; with_reducible omega) | (have h9 := t_le hh; with_reducible omega))) _ _ _ (lv_sub hl [0] rfl) hP hD hS (hF.trans (by simp only [fX9_next_0, ↓if_neg c_1, ↓if_neg c_5, ↓if_neg c_6, ↓if_neg c_7]))
          · have kc_6 := t_eq c_6
            refine lv_aload_n hx hb dX9_next_62 rfl (lv_at hl 0 rfl) ?_
            refine lv_iconst (v := 0) hx hb dX9_next_63 (by decide) ?_
            refine xput hx hb hts hown hK 9 (C2 := RX9) (T := TX9) (N := 23) tyX9 rfl tyX9_ok nmX9 hin_9 hP hD hS 0 rfl 13 (by decide) fl_79 rfl rfl rfl rfl rfl (Nat.le_of_ble_eq_true rfl) dX9_next_64 [(o, .inr (9, [.ref o_road, .ref o_told, .ref o_fresh, .ref o_was, .int o_acts, .ref o_kept, .ref o_isKept, .ref o_sights, .int o_many, .ref o_text, .int o_letters, .int o_thrown, .int o_cursor_0, .int 0, .int o_cursor_0, .long 0, .int o_isFault, .int o_faultAt, .int o_above, .int o_below, .ref o_topOf, .ref o_partsOf, .ref o_sent])), (o_text, .inl (cI, 160, .inl o_text_f))] rfl (fun H locs hP hD hS => ?_)
            refine lv_goto (tgt := 306) hx hb dX9_next_67 (by decide) ?_
            exact hret _ _ _ _ (o_cursor_0, 0, o_cursor_0, 0) dX9_next_306 ((hF.trans (by simp only [fX9_next_0, ↓if_neg c_1, ↓if_neg c_5, ↓if_pos c_6])).symm) hP hD hS
        · have kc_5 := t_eq c_5
          refine lv_aload_n hx hb dX9_next_25 rfl (lv_at hl 0 rfl) ?_
          refine lv_dup hx hb dX9_next_26 rfl ?_
          refine xget hx hb hts hown hK 9 (C2 := RX9) (T := TX9) (N := 23) rfl hin_9 hP 0 rfl 12 (by decide) fl_69 rfl rfl rfl dX9_next_27 ?_
          refine lv_iconst (v := 1) hx hb dX9_next_30 (by decide) ?_
          refine lv_iadd hx hb dX9_next_31 ?_
          refine xput hx hb hts hown hK 9 (C2 := RX9) (T := TX9) (N := 23) tyX9 rfl tyX9_ok nmX9 hin_9 hP hD hS 0 rfl 12 (by decide) fl_69 rfl rfl rfl rfl rfl (Nat.le_of_ble_eq_true rfl) dX9_next_32 [(o, .inr (9, [.ref o_road, .ref o_told, .ref o_fresh, .ref o_was, .int o_acts, .ref o_kept, .ref o_isKept, .ref o_sights, .int o_many, .ref o_text, .int o_letters, .int o_thrown, .int (o_cursor_0 + 1), .int o_token, .int o_start, .long o_value, .int o_isFault, .int o_faultAt, .int o_above, .int o_below, .ref o_topOf, .ref o_partsOf, .ref o_sent])), (o_text, .inl (cI, 160, .inl o_text_f))] rfl (fun H locs hP hD hS => ?_)
          refine lv_goto (tgt := 0) hx hb dX9_next_35 (by decide) ?_
          have z_1 : (o_cursor_0 + 1).toInt = o_cursor_0.toInt + (1 : Int32).toInt := z_add (by with_reducible omega) (by with_reducible omega)
          exact ih_0 (o_cursor_0 + 1) (by first | with_reducible assumption | with_reducible omega | decide | (split <;> rename_i hh <;> first | (have h9 := t_nlt hh; with_reducible omega) | (have h9 := t_lt hh; with_reducible omega) | (have h9 := t_nle hh; with_reducible omega) | (have h9 := t_le hh; with_reducible omega))) (by first | with_reducible assumption | with_reducible omega | decide | (split <;> rename_i hh <;> first | (have h9 := t_nlt hh; with_reducible omega) | (have h9 := t_lt hh; with_reducible omega) | (have h9 := t_nle hh; with_reducible omega) | (have h9 := t_le hh; with_reducible omega))) (by first | with_reducible assumption | with_reducible omega | decide | (split <;> rename_i hh <;> first | (have h9 := t_nlt hh; with_reducible omega) | (have h9 := t_lt hh; with_reducible omega) | (have h9 := t_nle hh; with_reducible omega) | (have h9 := t_le hh; with_reducible omega))) _ _ _ (lv_sub hl [0] rfl) hP hD hS (hF.trans (by simp only [fX9_next_0, ↓if_neg c_1, ↓if_pos c_5]))
  exact L_0 1000 o_cursor (by first | with_reducible assumption | with_reducible omega | decide | (split <;> rename_i hh <;> first | (have h9 := t_nlt hh; with_reducible omega) | (have h9 := t_lt hh; with_reducible omega) | (have h9 := t_nle hh; with_reducible omega) | (have h9 := t_le hh; with_reducible omega))) (by first | with_reducible assumption | with_reducible omega | decide | (split <;> rename_i hh <;> first | (have h9 := t_nlt hh; with_reducible omega) | (have h9 := t_lt hh; with_reducible omega) | (have h9 := t_nle hh; with_reducible omega) | (have h9 := t_le hh; with_reducible omega))) (by first | with_reducible assumption | with_reducible omega | decide | (split <;> rename_i hh <;> first | (have h9 := t_nlt hh; with_reducible omega) | (have h9 := t_lt hh; with_reducible omega) | (have h9 := t_nle hh; with_reducible omega) | (have h9 := t_le hh; with_reducible omega))) _ _ _ (lv_sub hl [0] rfl) hP hD hS (hF.trans (by simp only [fX9_next]))
