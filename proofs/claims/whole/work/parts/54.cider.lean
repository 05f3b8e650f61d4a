set_option maxRecDepth 20000 in
theorem ggX9_cider_X9_in : GoodIn wsX9_cider wsX9_in := goodIn_r _ [10] (by decide +kernel) (by decide +kernel)
set_option maxRecDepth 20000 in
theorem gX9_cider_X9_in : GoodIn wsX9_cider (va_wsS RX9 52 yX9_in wsX9_in) := goodIn_app (goodIn_of _ (by decide +kernel)) ggX9_cider_X9_in
set_option maxRecDepth 20000 in
theorem ggX9_cider_X9_layPlace : GoodIn wsX9_cider wsX9_layPlace := goodIn_r _ [14, 3, 5, 6, 15, 16, 17, 9, 18, 19, 20, 21, 22, 23, 24, 25, 26, 27, 28, 29, 30, 34, 35, 36, 37, 38, 39, 40, 41, 42, 43, 44, 45, 46, 47, 48, 49, 50, 51, 52, 53, 54, 55, 56] (by decide +kernel) (by decide +kernel)
set_option maxRecDepth 20000 in
theorem gX9_cider_X9_layPlace : GoodIn wsX9_cider (wsV RX9 180 RX9 yX9_layPlace wsX9_layPlace) := goodIn_app (goodIn_of _ (by decide +kernel)) ggX9_cider_X9_layPlace
set_option maxRecDepth 20000 in
theorem ggX9_cider_X9_common : GoodIn wsX9_cider wsX9_common := goodIn_r _ [33] (by decide +kernel) (by decide +kernel)
set_option maxRecDepth 20000 in
theorem gX9_cider_X9_common : GoodIn wsX9_cider (va_wsS RX9 176 yX9_common wsX9_common) := goodIn_app (goodIn_of _ (by decide +kernel)) ggX9_cider_X9_common
theorem dX9_cider_0 : decode cX9_cider 0 = .ok (.aload_n 0, 1) := by decide +kernel
theorem dX9_cider_1 : decode cX9_cider 1 = .ok (.iconst 0, 1) := by decide +kernel
theorem dX9_cider_2 : decode cX9_cider 2 = .ok (.putfield 48, 3) := by decide +kernel
theorem dX9_cider_5 : decode cX9_cider 5 = .ok (.iload_n 1, 1) := by decide +kernel
theorem dX9_cider_6 : decode cX9_cider 6 = .ok (.i2l, 1) := by decide +kernel
theorem dX9_cider_7 : decode cX9_cider 7 = .ok (.lconst 1, 1) := by decide +kernel
theorem dX9_cider_8 : decode cX9_cider 8 = .ok (.ldc2_w 164, 3) := by decide +kernel
theorem dX9_cider_11 : decode cX9_cider 11 = .ok (.invokestatic 52, 3) := by decide +kernel
theorem dX9_cider_14 : decode cX9_cider 14 = .ok (.ifCond .eq 42, 3) := by decide +kernel
theorem dX9_cider_17 : decode cX9_cider 17 = .ok (.iload_n 2, 1) := by decide +kernel
theorem dX9_cider_18 : decode cX9_cider 18 = .ok (.i2l, 1) := by decide +kernel
theorem dX9_cider_19 : decode cX9_cider 19 = .ok (.lconst 0, 1) := by decide +kernel
theorem dX9_cider_20 : decode cX9_cider 20 = .ok (.aload_n 0, 1) := by decide +kernel
theorem dX9_cider_21 : decode cX9_cider 21 = .ok (.getfield 7, 3) := by decide +kernel
theorem dX9_cider_24 : decode cX9_cider 24 = .ok (.iconst 0, 1) := by decide +kernel
theorem dX9_cider_25 : decode cX9_cider 25 = .ok (.iaload, 1) := by decide +kernel
theorem dX9_cider_26 : decode cX9_cider 26 = .ok (.i2l, 1) := by decide +kernel
theorem dX9_cider_27 : decode cX9_cider 27 = .ok (.invokestatic 52, 3) := by decide +kernel
theorem dX9_cider_30 : decode cX9_cider 30 = .ok (.ifCond .eq 26, 3) := by decide +kernel
theorem dX9_cider_33 : decode cX9_cider 33 = .ok (.iload_n 3, 1) := by decide +kernel
theorem dX9_cider_34 : decode cX9_cider 34 = .ok (.i2l, 1) := by decide +kernel
theorem dX9_cider_35 : decode cX9_cider 35 = .ok (.lconst 0, 1) := by decide +kernel
theorem dX9_cider_36 : decode cX9_cider 36 = .ok (.ldc2_w 91, 3) := by decide +kernel
theorem dX9_cider_39 : decode cX9_cider 39 = .ok (.invokestatic 52, 3) := by decide +kernel
theorem dX9_cider_42 : decode cX9_cider 42 = .ok (.ifCond .eq 14, 3) := by decide +kernel
theorem dX9_cider_45 : decode cX9_cider 45 = .ok (.iload 4, 2) := by decide +kernel
theorem dX9_cider_47 : decode cX9_cider 47 = .ok (.i2l, 1) := by decide +kernel
theorem dX9_cider_48 : decode cX9_cider 48 = .ok (.lconst 0, 1) := by decide +kernel
theorem dX9_cider_49 : decode cX9_cider 49 = .ok (.lconst 1, 1) := by decide +kernel
theorem dX9_cider_50 : decode cX9_cider 50 = .ok (.invokestatic 52, 3) := by decide +kernel
theorem dX9_cider_53 : decode cX9_cider 53 = .ok (.ifCond .ne 6, 3) := by decide +kernel
theorem dX9_cider_56 : decode cX9_cider 56 = .ok (.bipush (-3), 2) := by decide +kernel
theorem dX9_cider_58 : decode cX9_cider 58 = .ok (.ireturn, 1) := by decide +kernel
theorem dX9_cider_59 : decode cX9_cider 59 = .ok (.lconst 0, 1) := by decide +kernel
theorem dX9_cider_60 : decode cX9_cider 60 = .ok (.lstore 5, 2) := by decide +kernel
theorem dX9_cider_62 : decode cX9_cider 62 = .ok (.lconst 0, 1) := by decide +kernel
theorem dX9_cider_63 : decode cX9_cider 63 = .ok (.lstore 7, 2) := by decide +kernel
theorem dX9_cider_65 : decode cX9_cider 65 = .ok (.iconst 0, 1) := by decide +kernel
theorem dX9_cider_66 : decode cX9_cider 66 = .ok (.istore 9, 2) := by decide +kernel
theorem dX9_cider_68 : decode cX9_cider 68 = .ok (.iload 9, 2) := by decide +kernel
theorem dX9_cider_70 : decode cX9_cider 70 = .ok (.iconst 1, 1) := by decide +kernel
theorem dX9_cider_71 : decode cX9_cider 71 = .ok (.aload_n 0, 1) := by decide +kernel
theorem dX9_cider_72 : decode cX9_cider 72 = .ok (.getfield 7, 3) := by decide +kernel
theorem dX9_cider_75 : decode cX9_cider 75 = .ok (.iconst 2, 1) := by decide +kernel
theorem dX9_cider_76 : decode cX9_cider 76 = .ok (.iaload, 1) := by decide +kernel
theorem dX9_cider_77 : decode cX9_cider 77 = .ok (.ishl, 1) := by decide +kernel
theorem dX9_cider_78 : decode cX9_cider 78 = .ok (.if_icmp .ge 96, 3) := by decide +kernel
theorem dX9_cider_81 : decode cX9_cider 81 = .ok (.lconst 1, 1) := by decide +kernel
theorem dX9_cider_82 : decode cX9_cider 82 = .ok (.lstore 10, 2) := by decide +kernel
theorem dX9_cider_84 : decode cX9_cider 84 = .ok (.iconst 0, 1) := by decide +kernel
theorem dX9_cider_85 : decode cX9_cider 85 = .ok (.istore 12, 2) := by decide +kernel
theorem dX9_cider_87 : decode cX9_cider 87 = .ok (.iload 12, 2) := by decide +kernel
theorem dX9_cider_89 : decode cX9_cider 89 = .ok (.aload_n 0, 1) := by decide +kernel
theorem dX9_cider_90 : decode cX9_cider 90 = .ok (.getfield 7, 3) := by decide +kernel
theorem dX9_cider_93 : decode cX9_cider 93 = .ok (.iconst 2, 1) := by decide +kernel
theorem dX9_cider_94 : decode cX9_cider 94 = .ok (.iaload, 1) := by decide +kernel
theorem dX9_cider_95 : decode cX9_cider 95 = .ok (.if_icmp .ge 35, 3) := by decide +kernel
theorem dX9_cider_98 : decode cX9_cider 98 = .ok (.lload 10, 2) := by decide +kernel
theorem dX9_cider_100 : decode cX9_cider 100 = .ok (.iload 9, 2) := by decide +kernel
theorem dX9_cider_102 : decode cX9_cider 102 = .ok (.iload 12, 2) := by decide +kernel
theorem dX9_cider_104 : decode cX9_cider 104 = .ok (.ishr, 1) := by decide +kernel
theorem dX9_cider_105 : decode cX9_cider 105 = .ok (.iconst 1, 1) := by decide +kernel
theorem dX9_cider_106 : decode cX9_cider 106 = .ok (.iand, 1) := by decide +kernel
theorem dX9_cider_107 : decode cX9_cider 107 = .ok (.iconst 1, 1) := by decide +kernel
theorem dX9_cider_108 : decode cX9_cider 108 = .ok (.if_icmp .ne 8, 3) := by decide +kernel
theorem dX9_cider_111 : decode cX9_cider 111 = .ok (.iload_n 3, 1) := by decide +kernel
theorem dX9_cider_112 : decode cX9_cider 112 = .ok (.i2l, 1) := by decide +kernel
theorem dX9_cider_113 : decode cX9_cider 113 = .ok (.goto 8, 3) := by decide +kernel
theorem dX9_cider_116 : decode cX9_cider 116 = .ok (.bipush 10, 2) := by decide +kernel
theorem dX9_cider_118 : decode cX9_cider 118 = .ok (.iload_n 3, 1) := by decide +kernel
theorem dX9_cider_119 : decode cX9_cider 119 = .ok (.isub, 1) := by decide +kernel
theorem dX9_cider_120 : decode cX9_cider 120 = .ok (.i2l, 1) := by decide +kernel
theorem dX9_cider_121 : decode cX9_cider 121 = .ok (.lmul, 1) := by decide +kernel
theorem dX9_cider_122 : decode cX9_cider 122 = .ok (.lstore 10, 2) := by decide +kernel
theorem dX9_cider_124 : decode cX9_cider 124 = .ok (.iinc 12 1, 3) := by decide +kernel
theorem dX9_cider_127 : decode cX9_cider 127 = .ok (.goto (-40), 3) := by decide +kernel
theorem dX9_cider_130 : decode cX9_cider 130 = .ok (.aload_n 0, 1) := by decide +kernel
theorem dX9_cider_131 : decode cX9_cider 131 = .ok (.iload 9, 2) := by decide +kernel
theorem dX9_cider_133 : decode cX9_cider 133 = .ok (.iload_n 1, 1) := by decide +kernel
theorem dX9_cider_134 : decode cX9_cider 134 = .ok (.invokevirtual 180, 3) := by decide +kernel
theorem dX9_cider_137 : decode cX9_cider 137 = .ok (.lload 7, 2) := by decide +kernel
theorem dX9_cider_139 : decode cX9_cider 139 = .ok (.lload 10, 2) := by decide +kernel
theorem dX9_cider_141 : decode cX9_cider 141 = .ok (.ladd, 1) := by decide +kernel
theorem dX9_cider_142 : decode cX9_cider 142 = .ok (.lstore 7, 2) := by decide +kernel
theorem dX9_cider_144 : decode cX9_cider 144 = .ok (.lload 5, 2) := by decide +kernel
theorem dX9_cider_146 : decode cX9_cider 146 = .ok (.aload_n 0, 1) := by decide +kernel
theorem dX9_cider_147 : decode cX9_cider 147 = .ok (.getfield 166, 3) := by decide +kernel
theorem dX9_cider_150 : decode cX9_cider 150 = .ok (.iload_n 2, 1) := by decide +kernel
theorem dX9_cider_151 : decode cX9_cider 151 = .ok (.aload_n 0, 1) := by decide +kernel
theorem dX9_cider_152 : decode cX9_cider 152 = .ok (.getfield 169, 3) := by decide +kernel
theorem dX9_cider_155 : decode cX9_cider 155 = .ok (.imul, 1) := by decide +kernel
theorem dX9_cider_156 : decode cX9_cider 156 = .ok (.if_icmp .lt 8, 3) := by decide +kernel
theorem dX9_cider_159 : decode cX9_cider 159 = .ok (.lload 10, 2) := by decide +kernel
theorem dX9_cider_161 : decode cX9_cider 161 = .ok (.goto 4, 3) := by decide +kernel
theorem dX9_cider_164 : decode cX9_cider 164 = .ok (.lconst 0, 1) := by decide +kernel
theorem dX9_cider_165 : decode cX9_cider 165 = .ok (.ladd, 1) := by decide +kernel
theorem dX9_cider_166 : decode cX9_cider 166 = .ok (.lstore 5, 2) := by decide +kernel
theorem dX9_cider_168 : decode cX9_cider 168 = .ok (.iinc 9 1, 3) := by decide +kernel
theorem dX9_cider_171 : decode cX9_cider 171 = .ok (.goto (-103), 3) := by decide +kernel
theorem dX9_cider_174 : decode cX9_cider 174 = .ok (.lload 5, 2) := by decide +kernel
theorem dX9_cider_176 : decode cX9_cider 176 = .ok (.lload 7, 2) := by decide +kernel
theorem dX9_cider_178 : decode cX9_cider 178 = .ok (.invokestatic 176, 3) := by decide +kernel
theorem dX9_cider_181 : decode cX9_cider 181 = .ok (.lstore 9, 2) := by decide +kernel
theorem dX9_cider_183 : decode cX9_cider 183 = .ok (.iload 4, 2) := by decide +kernel
theorem dX9_cider_185 : decode cX9_cider 185 = .ok (.ifCond .ne 8, 3) := by decide +kernel
theorem dX9_cider_188 : decode cX9_cider 188 = .ok (.lload 5, 2) := by decide +kernel
theorem dX9_cider_190 : decode cX9_cider 190 = .ok (.goto 5, 3) := by decide +kernel
theorem dX9_cider_193 : decode cX9_cider 193 = .ok (.lload 7, 2) := by decide +kernel
theorem dX9_cider_195 : decode cX9_cider 195 = .ok (.lload 9, 2) := by decide +kernel
theorem dX9_cider_197 : decode cX9_cider 197 = .ok (.ldiv, 1) := by decide +kernel
theorem dX9_cider_198 : decode cX9_cider 198 = .ok (.l2i, 1) := by decide +kernel
theorem dX9_cider_199 : decode cX9_cider 199 = .ok (.ireturn, 1) := by decide +kernel
def fX9_cider_87 (a1 : Int32) (a2 : Int32) (a3 : Int32) (o_road_f : Nat → Int32) (v68_9 : Int32) (v68_7 : Int64) (v68_5 : Int64) (k_68 : Int64 → Int64 → Int32 → Int32 → Int32 → Int32 × Int32 × Int32) : Nat → Int64 → Int32 → Int32 × Int32 × Int32
  | 0, _, _ => default
  | n + 1, v87_10, v87_12 => if (o_road_f 2) ≤ v87_12 then (match fX9_layPlace v68_9 a1 o_road_f with | (u6, u7) => xlet (if u6 < (a2 * u7) then 0 else v87_10) (fun y_3 => k_68 (v68_5 + y_3) (v68_7 + v87_10) (v68_9 + 1) u6 u7)) else (xlet (if ((v68_9 >>> (v87_12 &&& 31)) &&& 1) = 1 then a3.toInt64 else (10 - a3).toInt64) (fun y_4 => fX9_cider_87 a1 a2 a3 o_road_f v68_9 v68_7 v68_5 k_68 n (v87_10 * y_4) (v87_12 + 1)))
def fX9_cider_68 (a1 : Int32) (a2 : Int32) (a3 : Int32) (a4 : Int32) (o_road_f : Nat → Int32)  : Nat → Int64 → Int64 → Int32 → Int32 → Int32 → Int32 × Int32 × Int32
  | 0, _, _, _, _, _ => default
  | n + 1, v68_5, v68_7, v68_9, o_above_68, o_below_68 => if ((1 : Int32) <<< ((o_road_f 2) &&& 31)) ≤ v68_9 then (xlet (if a4 = 0 then v68_5 else v68_7) (fun y_1 => ((y_1 / (fX9_common v68_5 v68_7)).toInt32, o_above_68, o_below_68))) else (fX9_cider_87 a1 a2 a3 o_road_f v68_9 v68_7 v68_5 (fun v68_5 v68_7 v68_9 o_above_68 o_below_68 => fX9_cider_68 a1 a2 a3 a4 o_road_f n v68_5 v68_7 v68_9 o_above_68 o_below_68) 1000 1 0)
def fX9_cider (a1 : Int32) (a2 : Int32) (a3 : Int32) (a4 : Int32) (o_above : Int32) (o_below : Int32) (o_road_f : Nat → Int32) : Int32 × Int32 × Int32 := if (fX9_in a1.toInt64 1 8) = 0 then (((-3), o_above, o_below)) else (if (fX9_in a2.toInt64 0 ((o_road_f 0).toInt64)) = 0 then (((-3), o_above, o_below)) else (if (fX9_in a3.toInt64 0 10) = 0 then (((-3), o_above, o_below)) else (if (fX9_in a4.toInt64 0 1) = 0 then (((-3), o_above, o_below)) else (fX9_cider_68 a1 a2 a3 a4 o_road_f 1000 0 0 0 o_above o_below))))
set_option maxHeartbeats 4000000 in
set_option maxRecDepth 100000 in
theorem c_X9_cider (l : Launch) (D : va_G) (cI cZ : ClassId) (sz : Nat) (o : Nat) (a1 : Int32) (a2 : Int32) (a3 : Int32) (a4 : Int32) (o_road : Nat) (o_told : Nat) (o_fresh : Nat) (o_was : Nat) (o_acts : Int32) (o_kept : Nat) (o_isKept : Nat) (o_sights : Nat) (o_many : Int32) (o_text : Nat) (o_letters : Int32) (o_thrown : Int32) (o_cursor : Int32) (o_token : Int32) (o_start : Int32) (o_value : Int64) (o_isFault : Int32) (o_faultAt : Int32) (o_above : Int32) (o_below : Int32) (o_topOf : Nat) (o_partsOf : Nat) (o_sent : Nat) (o_road_f : Nat → Int32) (hn0 : 4 ≤ (o_road_f 0).toInt) (hn1 : (o_road_f 0).toInt ≤ 20) (hv0 : 0 ≤ (o_road_f 2).toInt) (hv6 : (o_road_f 2).toInt ≤ 6) (hhab : ∀ w : Int32, 0 ≤ w.toInt → w.toInt < (o_road_f 2).toInt → ¬ o_road_f (30 + w).toNatClampNeg = 0) : Met l yX9_cider wsX9_cider ({ frames := 5, cells := 0, slots := 0, locals := 119 } : Room) (va_Pc [.ref o, .int a1, .int a2, .int a3, .int a4] (xP D cI cZ [(o, .inr (9, [.ref o_road, .ref o_told, .ref o_fresh, .ref o_was, .int o_acts, .ref o_kept, .ref o_isKept, .ref o_sights, .int o_many, .ref o_text, .int o_letters, .int o_thrown, .int o_cursor, .int o_token, .int o_start, .long o_value, .int o_isFault, .int o_faultAt, .int o_above, .int o_below, .ref o_topOf, .ref o_partsOf, .ref o_sent])), (o_road, .inl (cI, 36, .inl o_road_f))] sz)) (va_Qi (fun (r : Int32) (u : Int32 × Int32) => (r, u) = fX9_cider a1 a2 a3 a4 o_above o_below o_road_f) (fun (u : Int32 × Int32) t => xB D cI cZ [(o, .inr (9, [.ref o_road, .ref o_told, .ref o_fresh, .ref o_was, .int o_acts, .ref o_kept, .ref o_isKept, .ref o_sights, .int o_many, .ref o_text, .int o_letters, .int 0, .int o_cursor, .int o_token, .int o_start, .long o_value, .int o_isFault, .int o_faultAt, .int u.1, .int u.2, .ref o_topOf, .ref o_partsOf, .ref o_sent])), (o_road, .inl (cI, 36, .inl o_road_f))] (va_A [(o, .inr (9, [.ref o_road, .ref o_told, .ref o_fresh, .ref o_was, .int o_acts, .ref o_kept, .ref o_isKept, .ref o_sights, .int o_many, .ref o_text, .int o_letters, .int o_thrown, .int o_cursor, .int o_token, .int o_start, .long o_value, .int o_isFault, .int o_faultAt, .int o_above, .int o_below, .ref o_topOf, .ref o_partsOf, .ref o_sent])), (o_road, .inl (cI, 36, .inl o_road_f))] sz) t) (va_A [(o, .inr (9, [.ref o_road, .ref o_told, .ref o_fresh, .ref o_was, .int o_acts, .ref o_kept, .ref o_isKept, .ref o_sights, .int o_many, .ref o_text, .int o_letters, .int o_thrown, .int o_cursor, .int o_token, .int o_start, .long o_value, .int o_isFault, .int o_faultAt, .int o_above, .int o_below, .ref o_topOf, .ref o_partsOf, .ref o_sent])), (o_road, .inl (cI, 36, .inl o_road_f))] sz)) 0 0 (va_A [(o, .inr (9, [.ref o_road, .ref o_told, .ref o_fresh, .ref o_was, .int o_acts, .ref o_kept, .ref o_isKept, .ref o_sights, .int o_many, .ref o_text, .int o_letters, .int o_thrown, .int o_cursor, .int o_token, .int o_start, .long o_value, .int o_isFault, .int o_faultAt, .int o_above, .int o_below, .ref o_topOf, .ref o_partsOf, .ref o_sent])), (o_road, .inl (cI, 36, .inl o_road_f))] sz) := by
  refine Met.ofW (cc := cX9_cider) (maxL := 13) (ret := (some .int)) (by decide) rfl ?_
  intro p e s m args below meth c s₁ B hml hv
  obtain ⟨hargs, hsz, hP, hK, hD0, hE⟩ := hv
  subst hargs
  have hx := B.exec
  have hb := B.bytes
  have hr := B.returns
  have hts := atoms_spec (ws := wsX9_cider) B.pre
  have hown : s.vm.findClass RX9 = some m.cls := findClass_of_methodNamed B.named
  have hlocks := B.notSynchronized
  subst hsz
  have hD := hD0.self (sz := s.heap.size)
  generalize hAe : va_A [(o, .inr (9, [.ref o_road, .ref o_told, .ref o_fresh, .ref o_was, .int o_acts, .ref o_kept, .ref o_isKept, .ref o_sights, .int o_many, .ref o_text, .int o_letters, .int o_thrown, .int o_cursor, .int o_token, .int o_start, .long o_value, .int o_isFault, .int o_faultAt, .int o_above, .int o_below, .ref o_topOf, .ref o_partsOf, .ref o_sent])), (o_road, .inl (cI, 36, .inl o_road_f))] s.heap.size = A at hD ⊢
  have hA : ∀ q : Nat, s.heap.size ≤ q → A q := fun q h => by rw [← hAe]; exact Or.inr h
  have hS : va_S A s.heap s.heap [] := va_S.rf
  have hl := lv_entry ([.ref o, .int a1, .int a2, .int a3, .int a4]) (n := 13) (Nat.le_of_ble_eq_true rfl)
  rw [lg_entry_eq]
  generalize (lg_sl ([.ref o, .int a1, .int a2, .int a3, .int a4]) ++ List.replicate (13 - (lg_sl ([.ref o, .int a1, .int a2, .int a3, .int a4])).length) Slot.unset).toArray = ls at hl ⊢
  have hl : lv_has ls 13 [(0, .ref o), (1, .int a1), (2, .int a2), (3, .int a3), (4, .int a4)] := hl
  refine wq (X := fun Q => ∀ (pc : Nat) (H : Heap) (locs : List Loc) (ls : Array Slot) (r : Int32) (u : Int32 × Int32) (hd : decode cX9_cider pc = .ok (.ireturn, 1)) (hp : (r, u) = fX9_cider a1 a2 a3 a4 o_above o_below o_road_f) (hP : va_P D vwCl [(o, .inr (9, [.ref o_road, .ref o_told, .ref o_fresh, .ref o_was, .int o_acts, .ref o_kept, .ref o_isKept, .ref o_sights, .int o_many, .ref o_text, .int o_letters, .int 0, .int o_cursor, .int o_token, .int o_start, .long o_value, .int o_isFault, .int o_faultAt, .int u.1, .int u.2, .ref o_topOf, .ref o_partsOf, .ref o_sent])), (o_road, .inl (cI, 36, .inl o_road_f))] H) (hD : va_D A [(o, .inr (9, [.ref o_road, .ref o_told, .ref o_fresh, .ref o_was, .int o_acts, .ref o_kept, .ref o_isKept, .ref o_sights, .int o_many, .ref o_text, .int o_letters, .int 0, .int o_cursor, .int o_token, .int o_start, .long o_value, .int o_isFault, .int o_faultAt, .int u.1, .int u.2, .ref o_topOf, .ref o_partsOf, .ref o_sent])), (o_road, .inl (cI, 36, .inl o_road_f))]) (hS : va_S A s.heap H locs), W p l e ({ frames := 5, cells := 0, slots := 0, locals := 119 } : Room) s m ([.ref o, .int a1, .int a2, .int a3, .int a4] : List Value).toArray below meth c H locs 0 0 Q (F0 m pc ls [.int r])) ?_ (fun Q hret => ?_)
  · intro pc H locs ls r u hd hp hP hD hS
    exact W.iret (v := r) hx hb hr (fun t ht hW => ⟨⟨r, u, rfl, hp, by rw [ht]; exact hP, va_K.moved hW.alike hK, hD⟩, hS.F ht⟩) hS.2.2 hd
  have hin_9 : ∀ w ∈ u_ws RX9 TX9 23, w ∈ wsX9_cider := by decide +kernel
  have fl_7 := hts (.fieldLink RX9 7 "MileRoadModel" "road" "[I") (by decide +kernel)
  have fl_48 := hts (.fieldLink RX9 48 "MileRoadModel" "thrown" "I") (by decide +kernel)
  have fl_166 := hts (.fieldLink RX9 166 "MileRoadModel" "above" "I") (by decide +kernel)
  have fl_169 := hts (.fieldLink RX9 169 "MileRoadModel" "below" "I") (by decide +kernel)
  have zl_0 : (0 : Int32).toInt = 0 := by decide
  have zl_1 : (1 : Int32).toInt = 1 := by decide
  have zl_2 : (2 : Int32).toInt = 2 := by decide
  have zs := t_shl hv0 hv6
  have hF : fX9_cider a1 a2 a3 a4 o_above o_below o_road_f = fX9_cider a1 a2 a3 a4 o_above o_below o_road_f := rfl
  have L_68 : ∀  (n_68 : Nat) (v68_5 : Int64) (v68_7 : Int64) (v68_9 : Int32) (o_above_68 : Int32) (o_below_68 : Int32) (h1_68 : 0 ≤ v68_9.toInt) (h2_68 : v68_9.toInt ≤ 64) (ha3 : 0 ≤ a3.toInt ∧ a3.toInt ≤ 10) (hse : v68_9.toInt ≤ ((1 : Int32) <<< ((o_road_f 2) &&& 31)).toInt) (hall : v68_7 = ciAl a3 (o_road_f 2) v68_9.toInt.toNat) (ho : 0 ≤ v68_5.toInt ∧ v68_5.toInt ≤ 1000000 * v68_9.toInt) (hm : 64 - v68_9.toInt < (n_68 : Int)) (H : Heap) (locs : List Loc) (ls : Array Slot) (hl : lv_has ls 13 [(0, .ref o), (1, .int a1), (2, .int a2), (3, .int a3), (4, .int a4), (5, .long v68_5), (7, .long v68_7), (9, .int v68_9)]) (hP : va_P D vwCl [(o, .inr (9, [.ref o_road, .ref o_told, .ref o_fresh, .ref o_was, .int o_acts, .ref o_kept, .ref o_isKept, .ref o_sights, .int o_many, .ref o_text, .int o_letters, .int 0, .int o_cursor, .int o_token, .int o_start, .long o_value, .int o_isFault, .int o_faultAt, .int o_above_68, .int o_below_68, .ref o_topOf, .ref o_partsOf, .ref o_sent])), (o_road, .inl (cI, 36, .inl o_road_f))] H) (hD : va_D A [(o, .inr (9, [.ref o_road, .ref o_told, .ref o_fresh, .ref o_was, .int o_acts, .ref o_kept, .ref o_isKept, .ref o_sights, .int o_many, .ref o_text, .int o_letters, .int 0, .int o_cursor, .int o_token, .int o_start, .long o_value, .int o_isFault, .int o_faultAt, .int o_above_68, .int o_below_68, .ref o_topOf, .ref o_partsOf, .ref o_sent])), (o_road, .inl (cI, 36, .inl o_road_f))]) (hS : va_S A s.heap H locs) (hF : fX9_cider a1 a2 a3 a4 o_above o_below o_road_f = fX9_cider_68 a1 a2 a3 a4 o_road_f n_68 v68_5 v68_7 v68_9 o_above_68 o_below_68), W p l e ({ frames := 5, cells := 0, slots := 0, locals := 119 } : Room) s m ([.ref o, .int a1, .int a2, .int a3, .int a4] : List Value).toArray below meth c H locs 0 0 Q (F0 m 68 ls []) := by
    intro  n_68
    induction n_68 with
    | zero =>
      intro v68_5 v68_7 v68_9 o_above_68 o_below_68 h1_68 h2_68 ha3 hse hall ho hm H locs ls hl hP hD hS hF
      exact absurd hm (by with_reducible omega)
    | succ n_68 ih_68 =>
      intro v68_5 v68_7 v68_9 o_above_68 o_below_68 h1_68 h2_68 ha3 hse hall ho hm H locs ls hl hP hD hS hF
      have L_87 : ∀ (k_68 : Int64 → Int64 → Int32 → Int32 → Int32 → Int32 × Int32 × Int32) (hk_68 : ∀ (v68_5 : Int64) (v68_7 : Int64) (v68_9 : Int32) (o_above_68 : Int32) (o_below_68 : Int32), k_68 v68_5 v68_7 v68_9 o_above_68 o_below_68 = fX9_cider_68 a1 a2 a3 a4 o_road_f n_68 v68_5 v68_7 v68_9 o_above_68 o_below_68) (n_87 : Nat) (v87_10 : Int64) (v87_12 : Int32) (h1_87 : 0 ≤ v87_12.toInt) (h2_87 : v87_12.toInt ≤ 6) (hlt : v68_9.toInt < ((1 : Int32) <<< ((o_road_f 2) &&& 31)).toInt) (hw9 : ciWt a3 v68_9 ((o_road_f 2).toInt - v87_12.toInt).toNat v87_10 v87_12 = ciT a3 (o_road_f 2) v68_9) (hwm : v87_12.toInt ≤ (o_road_f 2).toInt) (hm : 6 - v87_12.toInt < (n_87 : Int)) (H : Heap) (locs : List Loc) (ls : Array Slot) (hl : lv_has ls 13 [(0, .ref o), (1, .int a1), (2, .int a2), (3, .int a3), (4, .int a4), (5, .long v68_5), (7, .long v68_7), (9, .int v68_9), (10, .long v87_10), (12, .int v87_12)]) (hP : va_P D vwCl [(o, .inr (9, [.ref o_road, .ref o_told, .ref o_fresh, .ref o_was, .int o_acts, .ref o_kept, .ref o_isKept, .ref o_sights, .int o_many, .ref o_text, .int o_letters, .int 0, .int o_cursor, .int o_token, .int o_start, .long o_value, .int o_isFault, .int o_faultAt, .int o_above_68, .int o_below_68, .ref o_topOf, .ref o_partsOf, .ref o_sent])), (o_road, .inl (cI, 36, .inl o_road_f))] H) (hD : va_D A [(o, .inr (9, [.ref o_road, .ref o_told, .ref o_fresh, .ref o_was, .int o_acts, .ref o_kept, .ref o_isKept, .ref o_sights, .int o_many, .ref o_text, .int o_letters, .int 0, .int o_cursor, .int o_token, .int o_start, .long o_value, .int o_isFault, .int o_faultAt, .int o_above_68, .int o_below_68, .ref o_topOf, .ref o_partsOf, .ref o_sent])), (o_road, .inl (cI, 36, .inl o_road_f))]) (hS : va_S A s.heap H locs) (hF : fX9_cider a1 a2 a3 a4 o_above o_below o_road_f = fX9_cider_87 a1 a2 a3 o_road_f v68_9 v68_7 v68_5 k_68 n_87 v87_10 v87_12), W p l e ({ frames := 5, cells := 0, slots := 0, locals := 119 } : Room) s m ([.ref o, .int a1, .int a2, .int a3, .int a4] : List Value).toArray below meth c H locs 0 0 Q (F0 m 87 ls []) := by
        intro k_68 hk_68 n_87
        induction n_87 with
        | zero =>
          intro v87_10 v87_12 h1_87 h2_87 hlt hw9 hwm hm H locs ls hl hP hD hS hF
          exact absurd hm (by with_reducible omega)
        | succ n_87 ih_87 =>
          intro v87_10 v87_12 h1_87 h2_87 hlt hw9 hwm hm H locs ls hl hP hD hS hF
          refine lv_iload hx hb dX9_cider_87 (lv_at hl 9 rfl) ?_
          refine lv_aload_n hx hb dX9_cider_89 rfl (lv_at hl 0 rfl) ?_
          refine xget hx hb hts hown hK 9 (C2 := RX9) (T := TX9) (N := 23) rfl hin_9 hP 0 rfl 0 (by decide) fl_7 rfl rfl rfl dX9_cider_90 ?_
          refine lv_iconst (v := 2) hx hb dX9_cider_93 (by decide) ?_
          refine xald hx hb hK hP 1 0 (k := 2) rfl rfl (vi (by decide) (by decide)) (by decide) dX9_cider_94 ?_
          refine lv_icmp_ge (tgt := 130) hx hb dX9_cider_95 (by decide) (fun c_7 => ?_) (fun c_7 => ?_)
          · have kc_7 := t_le c_7
            refine lv_aload_n hx hb dX9_cider_130 rfl (lv_at hl 0 rfl) ?_
            refine lv_iload hx hb dX9_cider_131 (lv_at hl 7 rfl) ?_
            refine lv_iload_n hx hb dX9_cider_133 rfl (lv_at hl 1 rfl) ?_
            refine xcallv (S := Int32 × Int32) (Wc := [(o, .inr (9, [.ref o_road, .ref o_told, .ref o_fresh, .ref o_was, .int o_acts, .ref o_kept, .ref o_isKept, .ref o_sights, .int o_many, .ref o_text, .int o_letters, .int 0, .int o_cursor, .int o_token, .int o_start, .long o_value, .int o_isFault, .int o_faultAt, .int o_above_68, .int o_below_68, .ref o_topOf, .ref o_partsOf, .ref o_sent])), (o_road, .inl (cI, 36, .inl o_road_f))]) (wr := []) (W1 := (fun (u : Int32 × Int32) => [(o, .inr (9, [.ref o_road, .ref o_told, .ref o_fresh, .ref o_was, .int o_acts, .ref o_kept, .ref o_isKept, .ref o_sights, .int o_many, .ref o_text, .int o_letters, .int 0, .int o_cursor, .int o_token, .int o_start, .long o_value, .int o_isFault, .int o_faultAt, .int u.1, .int u.2, .ref o_topOf, .ref o_partsOf, .ref o_sent])), (o_road, .inl (cI, 36, .inl o_road_f))])) (Wn := (fun (u : Int32 × Int32) => [(o, .inr (9, [.ref o_road, .ref o_told, .ref o_fresh, .ref o_was, .int o_acts, .ref o_kept, .ref o_isKept, .ref o_sights, .int o_many, .ref o_text, .int o_letters, .int 0, .int o_cursor, .int o_token, .int o_start, .long o_value, .int o_isFault, .int o_faultAt, .int u.1, .int u.2, .ref o_topOf, .ref o_partsOf, .ref o_sent])), (o_road, .inl (cI, 36, .inl o_road_f))])) (xrunV hx hb hml hown hts (c_X9_layPlace l D cI cZ _ o v68_9 a1 o_road o_told o_fresh o_was o_acts o_kept o_isKept o_sights o_many o_text o_letters 0 o_cursor o_token o_start o_value o_isFault o_faultAt o_above_68 o_below_68 o_topOf o_partsOf o_sent o_road_f hn0 hn1 hv0 hv6 hhab) (cwV 2 hts gX9_cider_X9_layPlace rfl rfl rfl (by decide +kernel) ⟨Nat.le_of_ble_eq_true rfl, Nat.le_of_ble_eq_true rfl⟩) hE hK hP hD [0, 1] rfl rfl 0 9 (T := TX9) (N := 23) rfl rfl rfl hl.1 rfl (Nat.le_of_ble_eq_true rfl) dX9_cider_134 ⟨Nat.le_of_ble_eq_true rfl, Nat.le_of_ble_eq_true rfl⟩) hP hD hS hA [0, 1] [] [0, 1] rfl rfl rfl (by decide) (fun _ => rfl) rfl (fun  u H locs hw hz hP hD hS => ?_)
            obtain ⟨u6, u7⟩ := u
            have hw_6 := hw.symm
            have hP : va_P D vwCl [(o, .inr (9, [.ref o_road, .ref o_told, .ref o_fresh, .ref o_was, .int o_acts, .ref o_kept, .ref o_isKept, .ref o_sights, .int o_many, .ref o_text, .int o_letters, .int 0, .int o_cursor, .int o_token, .int o_start, .long o_value, .int o_isFault, .int o_faultAt, .int u6, .int u7, .ref o_topOf, .ref o_partsOf, .ref o_sent])), (o_road, .inl (cI, 36, .inl o_road_f))] H := hP
            have hD : va_D A [(o, .inr (9, [.ref o_road, .ref o_told, .ref o_fresh, .ref o_was, .int o_acts, .ref o_kept, .ref o_isKept, .ref o_sights, .int o_many, .ref o_text, .int o_letters, .int 0, .int o_cursor, .int o_token, .int o_start, .long o_value, .int o_isFault, .int o_faultAt, .int u6, .int u7, .ref o_topOf, .ref o_partsOf, .ref o_sent])), (o_road, .inl (cI, 36, .inl o_road_f))] := hD
            refine lv_lload hx hb dX9_cider_137 (lv_at hl 6 rfl) ?_
            refine lv_lload hx hb dX9_cider_139 (lv_at hl 8 rfl) ?_
            refine lv_ladd hx hb dX9_cider_141 ?_
            refine lv_lstore (lv' := [(7, .long (v68_7 + v87_10)), (0, .ref o), (1, .int a1), (2, .int a2), (3, .int a3), (4, .int a4), (5, .long v68_5), (9, .int v68_9), (10, .long v87_10), (12, .int v87_12)]) hx hb dX9_cider_142 hl (by decide) rfl (fun ls hl => ?_)
            refine lv_lload hx hb dX9_cider_144 (lv_at hl 6 rfl) ?_
            refine lv_aload_n hx hb dX9_cider_146 rfl (lv_at hl 1 rfl) ?_
            refine xget hx hb hts hown hK 9 (C2 := RX9) (T := TX9) (N := 23) rfl hin_9 hP 0 rfl 18 (by decide) fl_166 rfl rfl rfl dX9_cider_147 ?_
            refine lv_iload_n hx hb dX9_cider_150 rfl (lv_at hl 3 rfl) ?_
            refine lv_aload_n hx hb dX9_cider_151 rfl (lv_at hl 1 rfl) ?_
            refine xget hx hb hts hown hK 9 (C2 := RX9) (T := TX9) (N := 23) rfl hin_9 hP 0 rfl 19 (by decide) fl_169 rfl rfl rfl dX9_cider_152 ?_
            refine lv_imul hx hb dX9_cider_155 ?_
            have K_y_3 : ∀ (y_3 : Int64) (hy_y_3 : (if u6 < (a2 * u7) then 0 else v87_10) = y_3) (H : Heap) (locs : List Loc) (hP : va_P D vwCl [(o, .inr (9, [.ref o_road, .ref o_told, .ref o_fresh, .ref o_was, .int o_acts, .ref o_kept, .ref o_isKept, .ref o_sights, .int o_many, .ref o_text, .int o_letters, .int 0, .int o_cursor, .int o_token, .int o_start, .long o_value, .int o_isFault, .int o_faultAt, .int u6, .int u7, .ref o_topOf, .ref o_partsOf, .ref o_sent])), (o_road, .inl (cI, 36, .inl o_road_f))] H) (hD : va_D A [(o, .inr (9, [.ref o_road, .ref o_told, .ref o_fresh, .ref o_was, .int o_acts, .ref o_kept, .ref o_isKept, .ref o_sights, .int o_many, .ref o_text, .int o_letters, .int 0, .int o_cursor, .int o_token, .int o_start, .long o_value, .int o_isFault, .int o_faultAt, .int u6, .int u7, .ref o_topOf, .ref o_partsOf, .ref o_sent])), (o_road, .inl (cI, 36, .inl o_road_f))]) (hS : va_S A s.heap H locs), W p l e ({ frames := 5, cells := 0, slots := 0, locals := 119 } : Room) s m ([.ref o, .int a1, .int a2, .int a3, .int a4] : List Value).toArray below meth c H locs 0 0 Q (F0 m 165 ls [.long y_3, .long v68_5]) := by
              intro y_3 hy_y_3 H locs hP hD hS
              have ky_y_3 : y_3 = 0 ∨ y_3 = v87_10 := by rw [← hy_y_3]; (repeat' split) <;> simp
              refine lv_ladd hx hb dX9_cider_165 ?_
              refine lv_lstore (lv' := [(5, .long (v68_5 + y_3)), (7, .long (v68_7 + v87_10)), (0, .ref o), (1, .int a1), (2, .int a2), (3, .int a3), (4, .int a4), (9, .int v68_9), (10, .long v87_10), (12, .int v87_12)]) hx hb dX9_cider_166 hl (by decide) rfl (fun ls hl => ?_)
              refine lv_iinc (v := (v68_9 + 1)) (lv' := [(9, .int (v68_9 + 1)), (5, .long (v68_5 + y_3)), (7, .long (v68_7 + v87_10)), (0, .ref o), (1, .int a1), (2, .int a2), (3, .int a3), (4, .int a4), (10, .long v87_10), (12, .int v87_12)]) hx hb dX9_cider_168 hl (k := 7) rfl (by rfl) (by decide) rfl (fun ls hl => ?_)
              refine lv_goto (tgt := 68) hx hb dX9_cider_171 (by decide) ?_
              have z_1 : (v68_9 + 1).toInt = v68_9.toInt + (1 : Int32).toInt := z_add (by with_reducible omega) (by with_reducible omega)
              exact ih_68 (v68_5 + y_3) (v68_7 + v87_10) (v68_9 + 1) u6 u7 (by first | with_reducible assumption | with_reducible omega | decide | (split <;> rename_i hh <;> first | (have h9 := t_nlt hh; with_reducible omega) | (have h9 := t_lt hh; with_reducible omega) | (have h9 := t_nle hh; with_reducible omega) | (have h9 := t_le hh; with_reducible omega))) (by first | with_reducible assumption | with_reducible omega | decide | (split <;> rename_i hh <;> first | (have h9 := t_nlt hh; with_reducible omega) | (have h9 := t_lt hh; with_reducible omega) | (have h9 := t_nle hh; with_reducible omega) | (have h9 := t_le hh; with_reducible omega))) (by first | with_reducible assumption | with_reducible omega | decide | (split <;> rename_i hh <;> first | (have h9 := t_nlt hh; with_reducible omega) | (have h9 := t_lt hh; with_reducible omega) | (have h9 := t_nle hh; with_reducible omega) | (have h9 := t_le hh; with_reducible omega))) (by first | with_reducible assumption | with_reducible omega | decide | (split <;> rename_i hh <;> first | (have h9 := t_nlt hh; with_reducible omega) | (have h9 := t_lt hh; with_reducible omega) | (have h9 := t_nle hh; with_reducible omega) | (have h9 := t_le hh; with_reducible omega))) (ci_all h1_68 h2_68 hall hw9 kc_7) (ci_odds ha3 hv0 hv6 h1_68 hlt ho hw9 kc_7 (Or.imp id id ky_y_3)) (by first | with_reducible assumption | with_reducible omega | decide | (split <;> rename_i hh <;> first | (have h9 := t_nlt hh; with_reducible omega) | (have h9 := t_lt hh; with_reducible omega) | (have h9 := t_nle hh; with_reducible omega) | (have h9 := t_le hh; with_reducible omega))) _ _ _ (lv_sub hl [3, 4, 5, 6, 7, 1, 2, 0] rfl) hP hD hS ((hF.trans (by simp only [fX9_cider_87, ↓if_pos c_7, ↓hw_6, ↓(xlet_of hy_y_3)])).trans (hk_68 _ _ _ _ _))
            refine lv_icmp_lt (tgt := 164) hx hb dX9_cider_156 (by decide) (fun c_8 => ?_) (fun c_8 => ?_)
            · refine lv_lconst (v := 0) hx hb dX9_cider_164 (by decide) ?_
              exact K_y_3 _ (by simp only [↓if_pos c_8]) _ _ hP hD hS
            · refine lv_lload hx hb dX9_cider_159 (lv_at hl 8 rfl) ?_
              refine lv_goto (tgt := 165) hx hb dX9_cider_161 (by decide) ?_
              exact K_y_3 _ (by simp only [↓if_neg c_8]) _ _ hP hD hS
          · have kc_7 := t_nle c_7
            refine lv_lload hx hb dX9_cider_98 (lv_at hl 8 rfl) ?_
            refine lv_iload hx hb dX9_cider_100 (lv_at hl 7 rfl) ?_
            refine lv_iload hx hb dX9_cider_102 (lv_at hl 9 rfl) ?_
            refine lv_ishr hx hb dX9_cider_104 ?_
            refine lv_iconst (v := 1) hx hb dX9_cider_105 (by decide) ?_
            refine lv_iand hx hb dX9_cider_106 ?_
            refine lv_iconst (v := 1) hx hb dX9_cider_107 (by decide) ?_
            have K_y_4 : ∀ (y_4 : Int64) (hy_y_4 : (if ((v68_9 >>> (v87_12 &&& 31)) &&& 1) = 1 then a3.toInt64 else (10 - a3).toInt64) = y_4) (H : Heap) (locs : List Loc) (hP : va_P D vwCl [(o, .inr (9, [.ref o_road, .ref o_told, .ref o_fresh, .ref o_was, .int o_acts, .ref o_kept, .ref o_isKept, .ref o_sights, .int o_many, .ref o_text, .int o_letters, .int 0, .int o_cursor, .int o_token, .int o_start, .long o_value, .int o_isFault, .int o_faultAt, .int o_above_68, .int o_below_68, .ref o_topOf, .ref o_partsOf, .ref o_sent])), (o_road, .inl (cI, 36, .inl o_road_f))] H) (hD : va_D A [(o, .inr (9, [.ref o_road, .ref o_told, .ref o_fresh, .ref o_was, .int o_acts, .ref o_kept, .ref o_isKept, .ref o_sights, .int o_many, .ref o_text, .int o_letters, .int 0, .int o_cursor, .int o_token, .int o_start, .long o_value, .int o_isFault, .int o_faultAt, .int o_above_68, .int o_below_68, .ref o_topOf, .ref o_partsOf, .ref o_sent])), (o_road, .inl (cI, 36, .inl o_road_f))]) (hS : va_S A s.heap H locs), W p l e ({ frames := 5, cells := 0, slots := 0, locals := 119 } : Room) s m ([.ref o, .int a1, .int a2, .int a3, .int a4] : List Value).toArray below meth c H locs 0 0 Q (F0 m 121 ls [.long y_4, .long v87_10]) := by
              intro y_4 hy_y_4 H locs hP hD hS
              have ky_y_4 : y_4 = (10 - a3).toInt64 ∨ y_4 = a3.toInt64 := by rw [← hy_y_4]; (repeat' split) <;> simp
              refine lv_lmul hx hb dX9_cider_121 ?_
              refine lv_lstore (lv' := [(10, .long (v87_10 * y_4)), (0, .ref o), (1, .int a1), (2, .int a2), (3, .int a3), (4, .int a4), (5, .long v68_5), (7, .long v68_7), (9, .int v68_9), (12, .int v87_12)]) hx hb dX9_cider_122 hl (by decide) rfl (fun ls hl => ?_)
              refine lv_iinc (v := (v87_12 + 1)) (lv' := [(12, .int (v87_12 + 1)), (10, .long (v87_10 * y_4)), (0, .ref o), (1, .int a1), (2, .int a2), (3, .int a3), (4, .int a4), (5, .long v68_5), (7, .long v68_7), (9, .int v68_9)]) hx hb dX9_cider_124 hl (k := 9) rfl (by rfl) (by decide) rfl (fun ls hl => ?_)
              refine lv_goto (tgt := 87) hx hb dX9_cider_127 (by decide) ?_
              have z_2 : (v87_12 + 1).toInt = v87_12.toInt + (1 : Int32).toInt := z_add (by with_reducible omega) (by with_reducible omega)
              exact ih_87 (v87_10 * y_4) (v87_12 + 1) (by first | with_reducible assumption | with_reducible omega | decide | (split <;> rename_i hh <;> first | (have h9 := t_nlt hh; with_reducible omega) | (have h9 := t_lt hh; with_reducible omega) | (have h9 := t_nle hh; with_reducible omega) | (have h9 := t_le hh; with_reducible omega))) (by first | with_reducible assumption | with_reducible omega | decide | (split <;> rename_i hh <;> first | (have h9 := t_nlt hh; with_reducible omega) | (have h9 := t_lt hh; with_reducible omega) | (have h9 := t_nle hh; with_reducible omega) | (have h9 := t_le hh; with_reducible omega))) (by first | with_reducible assumption | with_reducible omega | decide | (split <;> rename_i hh <;> first | (have h9 := t_nlt hh; with_reducible omega) | (have h9 := t_lt hh; with_reducible omega) | (have h9 := t_nle hh; with_reducible omega) | (have h9 := t_le hh; with_reducible omega))) (ci_ws hw9 h1_87 h2_87 kc_7 hy_y_4) (by first | with_reducible assumption | with_reducible omega | decide | (split <;> rename_i hh <;> first | (have h9 := t_nlt hh; with_reducible omega) | (have h9 := t_lt hh; with_reducible omega) | (have h9 := t_nle hh; with_reducible omega) | (have h9 := t_le hh; with_reducible omega))) (by first | with_reducible assumption | with_reducible omega | decide | (split <;> rename_i hh <;> first | (have h9 := t_nlt hh; with_reducible omega) | (have h9 := t_lt hh; with_reducible omega) | (have h9 := t_nle hh; with_reducible omega) | (have h9 := t_le hh; with_reducible omega))) _ _ _ (lv_sub hl [2, 3, 4, 5, 6, 7, 8, 9, 1, 0] rfl) hP hD hS (hF.trans (by simp only [fX9_cider_87, ↓if_neg c_7, ↓(xlet_of hy_y_4)]))
            refine lv_icmp_ne (tgt := 116) hx hb dX9_cider_108 (by decide) (fun c_9 => ?_) (fun c_9 => ?_)
            · refine lv_bipush (v := 10) hx hb dX9_cider_116 (by decide) ?_
              refine lv_iload_n hx hb dX9_cider_118 rfl (lv_at hl 3 rfl) ?_
              refine lv_isub hx hb dX9_cider_119 ?_
              refine lv_i2l (v := (10 - a3).toInt64) hx hb dX9_cider_120 rfl ?_
              exact K_y_4 _ (by simp only [↓if_neg c_9]) _ _ hP hD hS
            · refine lv_iload_n hx hb dX9_cider_111 rfl (lv_at hl 3 rfl) ?_
              refine lv_i2l (v := a3.toInt64) hx hb dX9_cider_112 rfl ?_
              refine lv_goto (tgt := 121) hx hb dX9_cider_113 (by decide) ?_
              exact K_y_4 _ (by simp only [↓if_pos c_9]) _ _ hP hD hS
      refine lv_iload hx hb dX9_cider_68 (lv_at hl 7 rfl) ?_
      refine lv_iconst (v := 1) hx hb dX9_cider_70 (by decide) ?_
      refine lv_aload_n hx hb dX9_cider_71 rfl (lv_at hl 0 rfl) ?_
      refine xget hx hb hts hown hK 9 (C2 := RX9) (T := TX9) (N := 23) rfl hin_9 hP 0 rfl 0 (by decide) fl_7 rfl rfl rfl dX9_cider_72 ?_
      refine lv_iconst (v := 2) hx hb dX9_cider_75 (by decide) ?_
      refine xald hx hb hK hP 1 0 (k := 2) rfl rfl (vi (by decide) (by decide)) (by decide) dX9_cider_76 ?_
      refine lv_ishl hx hb dX9_cider_77 ?_
      refine lv_icmp_ge (tgt := 174) hx hb dX9_cider_78 (by decide) (fun c_5 => ?_) (fun c_5 => ?_)
      · have kc_5 := t_le c_5
        have hz9 := ci_end ha3 hv0 hv6 hse (by with_reducible assumption) hall
        refine lv_lload hx hb dX9_cider_174 (lv_at hl 5 rfl) ?_
        refine lv_lload hx hb dX9_cider_176 (lv_at hl 6 rfl) ?_
        refine xcalll (S := Unit) (Wc := []) (wr := [(o, .inr (9, [.ref o_road, .ref o_told, .ref o_fresh, .ref o_was, .int o_acts, .ref o_kept, .ref o_isKept, .ref o_sights, .int o_many, .ref o_text, .int o_letters, .int 0, .int o_cursor, .int o_token, .int o_start, .long o_value, .int o_isFault, .int o_faultAt, .int o_above_68, .int o_below_68, .ref o_topOf, .ref o_partsOf, .ref o_sent])), (o_road, .inl (cI, 36, .inl o_road_f))]) (W1 := (fun (u : Unit) => [])) (Wn := (fun (u : Unit) => [(o, .inr (9, [.ref o_road, .ref o_told, .ref o_fresh, .ref o_was, .int o_acts, .ref o_kept, .ref o_isKept, .ref o_sights, .int o_many, .ref o_text, .int o_letters, .int 0, .int o_cursor, .int o_token, .int o_start, .long o_value, .int o_isFault, .int o_faultAt, .int o_above_68, .int o_below_68, .ref o_topOf, .ref o_partsOf, .ref o_sent])), (o_road, .inl (cI, 36, .inl o_road_f))])) (xrunS hx hb hml hown hts (c_X9_common l D cI cZ _ v68_5 v68_7 ho.1 (Int.le_trans (by decide) hz9.1) (Int.le_trans hz9.2.1 (by decide))) (va_cwS 2 hts gX9_cider_X9_common rfl rfl rfl (by decide +kernel) ⟨Nat.le_of_ble_eq_true rfl, Nat.le_of_ble_eq_true rfl⟩) hE hK hP hD [] rfl rfl rfl hl.1 rfl (Nat.le_of_ble_eq_true rfl) dX9_cider_178 ⟨Nat.le_of_ble_eq_true rfl, Nat.le_of_ble_eq_true rfl⟩) hP hD hS hA [] [0, 1] [0, 1] rfl rfl rfl (by decide) (fun _ => rfl) rfl (fun r5 u H locs hw hz hP hD hS => ?_)
        subst hw
        refine lv_lstore (lv' := [(9, .long (fX9_common v68_5 v68_7)), (0, .ref o), (1, .int a1), (2, .int a2), (3, .int a3), (4, .int a4), (5, .long v68_5), (7, .long v68_7)]) hx hb dX9_cider_181 hl (by decide) rfl (fun ls hl => ?_)
        refine lv_iload hx hb dX9_cider_183 (lv_at hl 5 rfl) ?_
        have K_y_1 : ∀ (y_1 : Int64) (hy_y_1 : (if a4 = 0 then v68_5 else v68_7) = y_1) (H : Heap) (locs : List Loc) (hP : va_P D vwCl [(o, .inr (9, [.ref o_road, .ref o_told, .ref o_fresh, .ref o_was, .int o_acts, .ref o_kept, .ref o_isKept, .ref o_sights, .int o_many, .ref o_text, .int o_letters, .int 0, .int o_cursor, .int o_token, .int o_start, .long o_value, .int o_isFault, .int o_faultAt, .int o_above_68, .int o_below_68, .ref o_topOf, .ref o_partsOf, .ref o_sent])), (o_road, .inl (cI, 36, .inl o_road_f))] H) (hD : va_D A [(o, .inr (9, [.ref o_road, .ref o_told, .ref o_fresh, .ref o_was, .int o_acts, .ref o_kept, .ref o_isKept, .ref o_sights, .int o_many, .ref o_text, .int o_letters, .int 0, .int o_cursor, .int o_token, .int o_start, .long o_value, .int o_isFault, .int o_faultAt, .int o_above_68, .int o_below_68, .ref o_topOf, .ref o_partsOf, .ref o_sent])), (o_road, .inl (cI, 36, .inl o_road_f))]) (hS : va_S A s.heap H locs), W p l e ({ frames := 5, cells := 0, slots := 0, locals := 119 } : Room) s m ([.ref o, .int a1, .int a2, .int a3, .int a4] : List Value).toArray below meth c H locs 0 0 Q (F0 m 195 ls [.long y_1]) := by
          intro y_1 hy_y_1 H locs hP hD hS
          have ky_y_1 : y_1 = v68_5 ∨ y_1 = v68_7 := by rw [← hy_y_1]; (repeat' split) <;> simp
          refine lv_lload hx hb dX9_cider_195 (lv_at hl 0 rfl) ?_
          refine lv_ldiv hx hb dX9_cider_197 (common_ne0l ho.1 hz9.1 hz9.2.1) ?_
          refine lv_l2i (v := (y_1 / (fX9_common v68_5 v68_7)).toInt32) hx hb dX9_cider_198 rfl ?_
          exact hret _ _ _ _ ((y_1 / (fX9_common v68_5 v68_7)).toInt32) (o_above_68, o_below_68) dX9_cider_199 ((hF.trans (by simp only [fX9_cider_68, ↓if_pos c_5, ↓(xlet_of hy_y_1)])).symm) hP hD hS
        refine lv_if_ne (tgt := 193) hx hb dX9_cider_185 (by decide) (fun c_6 => ?_) (fun c_6 => ?_)
        · have kc_6 := t_neq c_6
          refine lv_lload hx hb dX9_cider_193 (lv_at hl 7 rfl) ?_
          exact K_y_1 _ (by simp only [↓if_neg c_6]) _ _ hP hD hS
        · have kc_6 := t_eq c_6
          refine lv_lload hx hb dX9_cider_188 (lv_at hl 6 rfl) ?_
          refine lv_goto (tgt := 195) hx hb dX9_cider_190 (by decide) ?_
          exact K_y_1 _ (by simp only [↓if_pos c_6]) _ _ hP hD hS
      · have kc_5 := t_nle c_5
        refine lv_lconst (v := 1) hx hb dX9_cider_81 (by decide) ?_
        refine lv_lstore (lv' := [(10, .long 1), (0, .ref o), (1, .int a1), (2, .int a2), (3, .int a3), (4, .int a4), (5, .long v68_5), (7, .long v68_7), (9, .int v68_9)]) hx hb dX9_cider_82 hl (by decide) rfl (fun ls hl => ?_)
        refine lv_iconst (v := 0) hx hb dX9_cider_84 (by decide) ?_
        refine lv_istore (lv' := [(12, .int 0), (10, .long 1), (0, .ref o), (1, .int a1), (2, .int a2), (3, .int a3), (4, .int a4), (5, .long v68_5), (7, .long v68_7), (9, .int v68_9)]) hx hb dX9_cider_85 hl (by decide) rfl (fun ls hl => ?_)
        exact L_87 (fun v68_5 v68_7 v68_9 o_above_68 o_below_68 => fX9_cider_68 a1 a2 a3 a4 o_road_f n_68 v68_5 v68_7 v68_9 o_above_68 o_below_68) (fun _ _ _ _ _ => rfl) 1000 1 0 (by first | with_reducible assumption | with_reducible omega | decide | (split <;> rename_i hh <;> first | (have h9 := t_nlt hh; with_reducible omega) | (have h9 := t_lt hh; with_reducible omega) | (have h9 := t_nle hh; with_reducible omega) | (have h9 := t_le hh; with_reducible omega))) (by first | with_reducible assumption | with_reducible omega | decide | (split <;> rename_i hh <;> first | (have h9 := t_nlt hh; with_reducible omega) | (have h9 := t_lt hh; with_reducible omega) | (have h9 := t_nle hh; with_reducible omega) | (have h9 := t_le hh; with_reducible omega))) (by first | with_reducible assumption | with_reducible omega | decide | (split <;> rename_i hh <;> first | (have h9 := t_nlt hh; with_reducible omega) | (have h9 := t_lt hh; with_reducible omega) | (have h9 := t_nle hh; with_reducible omega) | (have h9 := t_le hh; with_reducible omega))) (ci_w0 _ _ _) (by first | with_reducible assumption | with_reducible omega | decide | (split <;> rename_i hh <;> first | (have h9 := t_nlt hh; with_reducible omega) | (have h9 := t_lt hh; with_reducible omega) | (have h9 := t_nle hh; with_reducible omega) | (have h9 := t_le hh; with_reducible omega))) (by first | with_reducible assumption | with_reducible omega | decide | (split <;> rename_i hh <;> first | (have h9 := t_nlt hh; with_reducible omega) | (have h9 := t_lt hh; with_reducible omega) | (have h9 := t_nle hh; with_reducible omega) | (have h9 := t_le hh; with_reducible omega))) _ _ _ (lv_sub hl [2, 3, 4, 5, 6, 7, 8, 9, 1, 0] rfl) hP hD hS (hF.trans (by simp only [fX9_cider_68, ↓if_neg c_5]))
  refine lv_aload_n hx hb dX9_cider_0 rfl (lv_at hl 0 rfl) ?_
  refine lv_iconst (v := 0) hx hb dX9_cider_1 (by decide) ?_
  refine xput hx hb hts hown hK 9 (C2 := RX9) (T := TX9) (N := 23) tyX9 rfl tyX9_ok nmX9 hin_9 hP hD hS 0 rfl 11 (by decide) fl_48 rfl rfl rfl rfl rfl (Nat.le_of_ble_eq_true rfl) dX9_cider_2 [(o, .inr (9, [.ref o_road, .ref o_told, .ref o_fresh, .ref o_was, .int o_acts, .ref o_kept, .ref o_isKept, .ref o_sights, .int o_many, .ref o_text, .int o_letters, .int 0, .int o_cursor, .int o_token, .int o_start, .long o_value, .int o_isFault, .int o_faultAt, .int o_above, .int o_below, .ref o_topOf, .ref o_partsOf, .ref o_sent])), (o_road, .inl (cI, 36, .inl o_road_f))] rfl (fun H locs hP hD hS => ?_)
  refine lv_iload_n hx hb dX9_cider_5 rfl (lv_at hl 1 rfl) ?_
  refine lv_i2l (v := a1.toInt64) hx hb dX9_cider_6 rfl ?_
  refine lv_lconst (v := 1) hx hb dX9_cider_7 (by decide) ?_
  refine lv_ldc2 (v := 8) hx hb hown (hts (.constantLong RX9 164 8) (by decide +kernel)) dX9_cider_8 ?_
  refine xcalli (S := Unit) (Wc := []) (wr := [(o, .inr (9, [.ref o_road, .ref o_told, .ref o_fresh, .ref o_was, .int o_acts, .ref o_kept, .ref o_isKept, .ref o_sights, .int o_many, .ref o_text, .int o_letters, .int 0, .int o_cursor, .int o_token, .int o_start, .long o_value, .int o_isFault, .int o_faultAt, .int o_above, .int o_below, .ref o_topOf, .ref o_partsOf, .ref o_sent])), (o_road, .inl (cI, 36, .inl o_road_f))]) (W1 := (fun (u : Unit) => [])) (Wn := (fun (u : Unit) => [(o, .inr (9, [.ref o_road, .ref o_told, .ref o_fresh, .ref o_was, .int o_acts, .ref o_kept, .ref o_isKept, .ref o_sights, .int o_many, .ref o_text, .int o_letters, .int 0, .int o_cursor, .int o_token, .int o_start, .long o_value, .int o_isFault, .int o_faultAt, .int o_above, .int o_below, .ref o_topOf, .ref o_partsOf, .ref o_sent])), (o_road, .inl (cI, 36, .inl o_road_f))])) (xrunS hx hb hml hown hts (c_X9_in l D cI cZ _ a1.toInt64 1 8 ) (va_cwS 3 hts gX9_cider_X9_in rfl rfl rfl (by decide +kernel) ⟨Nat.le_of_ble_eq_true rfl, Nat.le_of_ble_eq_true rfl⟩) hE hK hP hD [] rfl rfl rfl hl.1 rfl (Nat.le_of_ble_eq_true rfl) dX9_cider_11 ⟨Nat.le_of_ble_eq_true rfl, Nat.le_of_ble_eq_true rfl⟩) hP hD hS hA [] [0, 1] [0, 1] rfl rfl rfl (by decide) (fun _ => rfl) rfl (fun r1 u H locs hw hz hP hD hS => ?_)
  subst hw
  refine lv_if_eq (tgt := 56) hx hb dX9_cider_14 (by decide) (fun c_1 => ?_) (fun c_1 => ?_)
  · refine lv_bipush (v := (-3)) hx hb dX9_cider_56 (by decide) ?_
    exact hret _ _ _ _ (-3) (o_above, o_below) dX9_cider_58 ((hF.trans (by simp only [fX9_cider, ↓if_pos c_1])).symm) hP hD hS
  · have kb_c_1 : 1 ≤ a1.toInt ∧ a1.toInt ≤ 8 := in_b c_1 (by decide) (by decide)
    refine lv_iload_n hx hb dX9_cider_17 rfl (lv_at hl 2 rfl) ?_
    refine lv_i2l (v := a2.toInt64) hx hb dX9_cider_18 rfl ?_
    refine lv_lconst (v := 0) hx hb dX9_cider_19 (by decide) ?_
    refine lv_aload_n hx hb dX9_cider_20 rfl (lv_at hl 0 rfl) ?_
    refine xget hx hb hts hown hK 9 (C2 := RX9) (T := TX9) (N := 23) rfl hin_9 hP 0 rfl 0 (by decide) fl_7 rfl rfl rfl dX9_cider_21 ?_
    refine lv_iconst (v := 0) hx hb dX9_cider_24 (by decide) ?_
    refine xald hx hb hK hP 1 0 (k := 0) rfl rfl (vi (by decide) (by decide)) (by decide) dX9_cider_25 ?_
    refine lv_i2l (v := (o_road_f 0).toInt64) hx hb dX9_cider_26 rfl ?_
    refine xcalli (S := Unit) (Wc := []) (wr := [(o, .inr (9, [.ref o_road, .ref o_told, .ref o_fresh, .ref o_was, .int o_acts, .ref o_kept, .ref o_isKept, .ref o_sights, .int o_many, .ref o_text, .int o_letters, .int 0, .int o_cursor, .int o_token, .int o_start, .long o_value, .int o_isFault, .int o_faultAt, .int o_above, .int o_below, .ref o_topOf, .ref o_partsOf, .ref o_sent])), (o_road, .inl (cI, 36, .inl o_road_f))]) (W1 := (fun (u : Unit) => [])) (Wn := (fun (u : Unit) => [(o, .inr (9, [.ref o_road, .ref o_told, .ref o_fresh, .ref o_was, .int o_acts, .ref o_kept, .ref o_isKept, .ref o_sights, .int o_many, .ref o_text, .int o_letters, .int 0, .int o_cursor, .int o_token, .int o_start, .long o_value, .int o_isFault, .int o_faultAt, .int o_above, .int o_below, .ref o_topOf, .ref o_partsOf, .ref o_sent])), (o_road, .inl (cI, 36, .inl o_road_f))])) (xrunS hx hb hml hown hts (c_X9_in l D cI cZ _ a2.toInt64 0 ((o_road_f 0).toInt64) ) (va_cwS 3 hts gX9_cider_X9_in rfl rfl rfl (by decide +kernel) ⟨Nat.le_of_ble_eq_true rfl, Nat.le_of_ble_eq_true rfl⟩) hE hK hP hD [] rfl rfl rfl hl.1 rfl (Nat.le_of_ble_eq_true rfl) dX9_cider_27 ⟨Nat.le_of_ble_eq_true rfl, Nat.le_of_ble_eq_true rfl⟩) hP hD hS hA [] [0, 1] [0, 1] rfl rfl rfl (by decide) (fun _ => rfl) rfl (fun r2 u H locs hw hz hP hD hS => ?_)
    subst hw
    refine lv_if_eq (tgt := 56) hx hb dX9_cider_30 (by decide) (fun c_2 => ?_) (fun c_2 => ?_)
    · refine lv_bipush (v := (-3)) hx hb dX9_cider_56 (by decide) ?_
      exact hret _ _ _ _ (-3) (o_above, o_below) dX9_cider_58 ((hF.trans (by simp only [fX9_cider, ↓if_neg c_1, ↓if_pos c_2])).symm) hP hD hS
    · have kb_c_2 : 0 ≤ a2.toInt ∧ a2.toInt ≤ (o_road_f 0).toInt := in_b c_2 (by decide) (Int32.toInt_toInt64 _)
      refine lv_iload_n hx hb dX9_cider_33 rfl (lv_at hl 3 rfl) ?_
      refine lv_i2l (v := a3.toInt64) hx hb dX9_cider_34 rfl ?_
      refine lv_lconst (v := 0) hx hb dX9_cider_35 (by decide) ?_
      refine lv_ldc2 (v := 10) hx hb hown (hts (.constantLong RX9 91 10) (by decide +kernel)) dX9_cider_36 ?_
      refine xcalli (S := Unit) (Wc := []) (wr := [(o, .inr (9, [.ref o_road, .ref o_told, .ref o_fresh, .ref o_was, .int o_acts, .ref o_kept, .ref o_isKept, .ref o_sights, .int o_many, .ref o_text, .int o_letters, .int 0, .int o_cursor, .int o_token, .int o_start, .long o_value, .int o_isFault, .int o_faultAt, .int o_above, .int o_below, .ref o_topOf, .ref o_partsOf, .ref o_sent])), (o_road, .inl (cI, 36, .inl o_road_f))]) (W1 := (fun (u : Unit) => [])) (Wn := (fun (u : Unit) => [(o, .inr (9, [.ref o_road, .ref o_told, .ref o_fresh, .ref o_was, .int o_acts, .ref o_kept, .ref o_isKept, .ref o_sights, .int o_many, .ref o_text, .int o_letters, .int 0, .int o_cursor, .int o_token, .int o_start, .long o_value, .int o_isFault, .int o_faultAt, .int o_above, .int o_below, .ref o_topOf, .ref o_partsOf, .ref o_sent])), (o_road, .inl (cI, 36, .inl o_road_f))])) (xrunS hx hb hml hown hts (c_X9_in l D cI cZ _ a3.toInt64 0 10 ) (va_cwS 3 hts gX9_cider_X9_in rfl rfl rfl (by decide +kernel) ⟨Nat.le_of_ble_eq_true rfl, Nat.le_of_ble_eq_true rfl⟩) hE hK hP hD [] rfl rfl rfl hl.1 rfl (Nat.le_of_ble_eq_true rfl) dX9_cider_39 ⟨Nat.le_of_ble_eq_true rfl, Nat.le_of_ble_eq_true rfl⟩) hP hD hS hA [] [0, 1] [0, 1] rfl rfl rfl (by decide) (fun _ => rfl) rfl (fun r3 u H locs hw hz hP hD hS => ?_)
      subst hw
      refine lv_if_eq (tgt := 56) hx hb dX9_cider_42 (by decide) (fun c_3 => ?_) (fun c_3 => ?_)
      · refine lv_bipush (v := (-3)) hx hb dX9_cider_56 (by decide) ?_
        exact hret _ _ _ _ (-3) (o_above, o_below) dX9_cider_58 ((hF.trans (by simp only [fX9_cider, ↓if_neg c_1, ↓if_neg c_2, ↓if_pos c_3])).symm) hP hD hS
      · have kb_c_3 : 0 ≤ a3.toInt ∧ a3.toInt ≤ 10 := in_b c_3 (by decide) (by decide)
        refine lv_iload hx hb dX9_cider_45 (lv_at hl 4 rfl) ?_
        refine lv_i2l (v := a4.toInt64) hx hb dX9_cider_47 rfl ?_
        refine lv_lconst (v := 0) hx hb dX9_cider_48 (by decide) ?_
        refine lv_lconst (v := 1) hx hb dX9_cider_49 (by decide) ?_
        refine xcalli (S := Unit) (Wc := []) (wr := [(o, .inr (9, [.ref o_road, .ref o_told, .ref o_fresh, .ref o_was, .int o_acts, .ref o_kept, .ref o_isKept, .ref o_sights, .int o_many, .ref o_text, .int o_letters, .int 0, .int o_cursor, .int o_token, .int o_start, .long o_value, .int o_isFault, .int o_faultAt, .int o_above, .int o_below, .ref o_topOf, .ref o_partsOf, .ref o_sent])), (o_road, .inl (cI, 36, .inl o_road_f))]) (W1 := (fun (u : Unit) => [])) (Wn := (fun (u : Unit) => [(o, .inr (9, [.ref o_road, .ref o_told, .ref o_fresh, .ref o_was, .int o_acts, .ref o_kept, .ref o_isKept, .ref o_sights, .int o_many, .ref o_text, .int o_letters, .int 0, .int o_cursor, .int o_token, .int o_start, .long o_value, .int o_isFault, .int o_faultAt, .int o_above, .int o_below, .ref o_topOf, .ref o_partsOf, .ref o_sent])), (o_road, .inl (cI, 36, .inl o_road_f))])) (xrunS hx hb hml hown hts (c_X9_in l D cI cZ _ a4.toInt64 0 1 ) (va_cwS 3 hts gX9_cider_X9_in rfl rfl rfl (by decide +kernel) ⟨Nat.le_of_ble_eq_true rfl, Nat.le_of_ble_eq_true rfl⟩) hE hK hP hD [] rfl rfl rfl hl.1 rfl (Nat.le_of_ble_eq_true rfl) dX9_cider_50 ⟨Nat.le_of_ble_eq_true rfl, Nat.le_of_ble_eq_true rfl⟩) hP hD hS hA [] [0, 1] [0, 1] rfl rfl rfl (by decide) (fun _ => rfl) rfl (fun r4 u H locs hw hz hP hD hS => ?_)
        subst hw
        refine lv_if_ne (tgt := 59) hx hb dX9_cider_53 (by decide) (fun c_4 => ?_) (fun c_4 => ?_)
        · have kb_c_4 : 0 ≤ a4.toInt ∧ a4.toInt ≤ 1 := in_b c_4 (by decide) (by decide)
          refine lv_lconst (v := 0) hx hb dX9_cider_59 (by decide) ?_
          refine lv_lstore (lv' := [(5, .long 0), (0, .ref o), (1, .int a1), (2, .int a2), (3, .int a3), (4, .int a4)]) hx hb dX9_cider_60 hl (by decide) rfl (fun ls hl => ?_)
          refine lv_lconst (v := 0) hx hb dX9_cider_62 (by decide) ?_
          refine lv_lstore (lv' := [(7, .long 0), (5, .long 0), (0, .ref o), (1, .int a1), (2, .int a2), (3, .int a3), (4, .int a4)]) hx hb dX9_cider_63 hl (by decide) rfl (fun ls hl => ?_)
          refine lv_iconst (v := 0) hx hb dX9_cider_65 (by decide) ?_
          refine lv_istore (lv' := [(9, .int 0), (7, .long 0), (5, .long 0), (0, .ref o), (1, .int a1), (2, .int a2), (3, .int a3), (4, .int a4)]) hx hb dX9_cider_66 hl (by decide) rfl (fun ls hl => ?_)
          exact L_68 1000 0 0 0 o_above o_below (by first | with_reducible assumption | with_reducible omega | decide | (split <;> rename_i hh <;> first | (have h9 := t_nlt hh; with_reducible omega) | (have h9 := t_lt hh; with_reducible omega) | (have h9 := t_nle hh; with_reducible omega) | (have h9 := t_le hh; with_reducible omega))) (by first | with_reducible assumption | with_reducible omega | decide | (split <;> rename_i hh <;> first | (have h9 := t_nlt hh; with_reducible omega) | (have h9 := t_lt hh; with_reducible omega) | (have h9 := t_nle hh; with_reducible omega) | (have h9 := t_le hh; with_reducible omega))) (by first | with_reducible assumption | with_reducible omega | decide | (split <;> rename_i hh <;> first | (have h9 := t_nlt hh; with_reducible omega) | (have h9 := t_lt hh; with_reducible omega) | (have h9 := t_nle hh; with_reducible omega) | (have h9 := t_le hh; with_reducible omega))) (by first | with_reducible assumption | with_reducible omega | decide | (split <;> rename_i hh <;> first | (have h9 := t_nlt hh; with_reducible omega) | (have h9 := t_lt hh; with_reducible omega) | (have h9 := t_nle hh; with_reducible omega) | (have h9 := t_le hh; with_reducible omega))) (ci_z _ _) (by decide) (by first | with_reducible assumption | with_reducible omega | decide | (split <;> rename_i hh <;> first | (have h9 := t_nlt hh; with_reducible omega) | (have h9 := t_lt hh; with_reducible omega) | (have h9 := t_nle hh; with_reducible omega) | (have h9 := t_le hh; with_reducible omega))) _ _ _ (lv_sub hl [3, 4, 5, 6, 7, 2, 1, 0] rfl) hP hD hS (hF.trans (by simp only [fX9_cider, ↓if_neg c_1, ↓if_neg c_2, ↓if_neg c_3, ↓if_neg c_4]))
        · refine lv_bipush (v := (-3)) hx hb dX9_cider_56 (by decide) ?_
          exact hret _ _ _ _ (-3) (o_above, o_below) dX9_cider_58 ((hF.trans (by simp only [fX9_cider, ↓if_neg c_1, ↓if_neg c_2, ↓if_neg c_3, ↓if_pos c_4])).symm) hP hD hS
set_option maxRecDepth 20000 in
theorem ggX9_turns_X9_in : GoodIn wsX9_turns wsX9_in := goodIn_r _ [11] (by decide +kernel) (by decide +kernel)
set_option maxRecDepth 20000 in
theorem gX9_turns_X9_in : GoodIn wsX9_turns (va_wsS RX9 52 yX9_in wsX9_in) := goodIn_app (goodIn_of _ (by decide +kernel)) ggX9_turns_X9_in
set_option maxRecDepth 20000 in
theorem ggX9_turns_X9_layTurns : GoodIn wsX9_turns wsX9_layTurns := goodIn_r _ [15, 4, 16, 17, 6, 7, 5, 18, 19, 20, 10, 21, 22, 23, 24, 25, 26, 27, 28, 29, 30, 31, 32, 33, 34, 35, 36, 37, 41, 42, 43, 44, 45, 46, 47, 48, 49, 50, 51, 52, 53, 54, 55, 56, 57, 58, 59, 60, 61, 62, 63] (by decide +kernel) (by decide +kernel)
set_option maxRecDepth 20000 in
theorem gX9_turns_X9_layTurns : GoodIn wsX9_turns (wsV RX9 186 RX9 yX9_layTurns wsX9_layTurns) := goodIn_app (goodIn_of _ (by decide +kernel)) ggX9_turns_X9_layTurns
set_option maxRecDepth 20000 in
theorem ggX9_turns_X9_common : GoodIn wsX9_turns wsX9_common := goodIn_r _ [40] (by decide +kernel) (by decide +kernel)
set_option maxRecDepth 20000 in
theorem gX9_turns_X9_common : GoodIn wsX9_turns (va_wsS RX9 176 yX9_common wsX9_common) := goodIn_app (goodIn_of _ (by decide +kernel)) ggX9_turns_X9_common
theorem dX9_turns_0 : decode cX9_turns 0 = .ok (.aload_n 0, 1) := by decide +kernel
theorem dX9_turns_1 : decode cX9_turns 1 = .ok (.iconst 0, 1) := by decide +kernel
theorem dX9_turns_2 : decode cX9_turns 2 = .ok (.putfield 48, 3) := by decide +kernel
theorem dX9_turns_5 : decode cX9_turns 5 = .ok (.iload_n 1, 1) := by decide +kernel
theorem dX9_turns_6 : decode cX9_turns 6 = .ok (.i2l, 1) := by decide +kernel
theorem dX9_turns_7 : decode cX9_turns 7 = .ok (.lconst 1, 1) := by decide +kernel
theorem dX9_turns_8 : decode cX9_turns 8 = .ok (.ldc2_w 164, 3) := by decide +kernel
theorem dX9_turns_11 : decode cX9_turns 11 = .ok (.invokestatic 52, 3) := by decide +kernel
theorem dX9_turns_14 : decode cX9_turns 14 = .ok (.ifCond .eq 15, 3) := by decide +kernel
theorem dX9_turns_17 : decode cX9_turns 17 = .ok (.iload_n 2, 1) := by decide +kernel
theorem dX9_turns_18 : decode cX9_turns 18 = .ok (.i2l, 1) := by decide +kernel
theorem dX9_turns_19 : decode cX9_turns 19 = .ok (.lconst 0, 1) := by decide +kernel
theorem dX9_turns_20 : decode cX9_turns 20 = .ok (.ldc2_w 184, 3) := by decide +kernel
theorem dX9_turns_23 : decode cX9_turns 23 = .ok (.invokestatic 52, 3) := by decide +kernel
theorem dX9_turns_26 : decode cX9_turns 26 = .ok (.ifCond .ne 6, 3) := by decide +kernel
theorem dX9_turns_29 : decode cX9_turns 29 = .ok (.bipush (-3), 2) := by decide +kernel
theorem dX9_turns_31 : decode cX9_turns 31 = .ok (.ireturn, 1) := by decide +kernel
theorem dX9_turns_32 : decode cX9_turns 32 = .ok (.aload_n 0, 1) := by decide +kernel
theorem dX9_turns_33 : decode cX9_turns 33 = .ok (.iload_n 1, 1) := by decide +kernel
theorem dX9_turns_34 : decode cX9_turns 34 = .ok (.invokevirtual 186, 3) := by decide +kernel
theorem dX9_turns_37 : decode cX9_turns 37 = .ok (.iconst 2, 1) := by decide +kernel
theorem dX9_turns_38 : decode cX9_turns 38 = .ok (.aload_n 0, 1) := by decide +kernel
theorem dX9_turns_39 : decode cX9_turns 39 = .ok (.getfield 7, 3) := by decide +kernel
theorem dX9_turns_42 : decode cX9_turns 42 = .ok (.iconst 3, 1) := by decide +kernel
theorem dX9_turns_43 : decode cX9_turns 43 = .ok (.iaload, 1) := by decide +kernel
theorem dX9_turns_44 : decode cX9_turns 44 = .ok (.imul, 1) := by decide +kernel
theorem dX9_turns_45 : decode cX9_turns 45 = .ok (.istore_n 3, 1) := by decide +kernel
theorem dX9_turns_46 : decode cX9_turns 46 = .ok (.iload_n 2, 1) := by decide +kernel
theorem dX9_turns_47 : decode cX9_turns 47 = .ok (.iconst 2, 1) := by decide +kernel
theorem dX9_turns_48 : decode cX9_turns 48 = .ok (.if_icmp .ne 10, 3) := by decide +kernel
theorem dX9_turns_51 : decode cX9_turns 51 = .ok (.aload_n 0, 1) := by decide +kernel
theorem dX9_turns_52 : decode cX9_turns 52 = .ok (.getfield 41, 3) := by decide +kernel
theorem dX9_turns_55 : decode cX9_turns 55 = .ok (.iload_n 3, 1) := by decide +kernel
theorem dX9_turns_56 : decode cX9_turns 56 = .ok (.iaload, 1) := by decide +kernel
theorem dX9_turns_57 : decode cX9_turns 57 = .ok (.ireturn, 1) := by decide +kernel
theorem dX9_turns_58 : decode cX9_turns 58 = .ok (.aload_n 0, 1) := by decide +kernel
theorem dX9_turns_59 : decode cX9_turns 59 = .ok (.getfield 35, 3) := by decide +kernel
theorem dX9_turns_62 : decode cX9_turns 62 = .ok (.iload_n 3, 1) := by decide +kernel
theorem dX9_turns_63 : decode cX9_turns 63 = .ok (.iaload, 1) := by decide +kernel
theorem dX9_turns_64 : decode cX9_turns 64 = .ok (.i2l, 1) := by decide +kernel
theorem dX9_turns_65 : decode cX9_turns 65 = .ok (.aload_n 0, 1) := by decide +kernel
theorem dX9_turns_66 : decode cX9_turns 66 = .ok (.getfield 38, 3) := by decide +kernel
theorem dX9_turns_69 : decode cX9_turns 69 = .ok (.iload_n 3, 1) := by decide +kernel
theorem dX9_turns_70 : decode cX9_turns 70 = .ok (.iaload, 1) := by decide +kernel
theorem dX9_turns_71 : decode cX9_turns 71 = .ok (.i2l, 1) := by decide +kernel
theorem dX9_turns_72 : decode cX9_turns 72 = .ok (.invokestatic 176, 3) := by decide +kernel
theorem dX9_turns_75 : decode cX9_turns 75 = .ok (.l2i, 1) := by decide +kernel
theorem dX9_turns_76 : decode cX9_turns 76 = .ok (.istore 4, 2) := by decide +kernel
theorem dX9_turns_78 : decode cX9_turns 78 = .ok (.iload_n 2, 1) := by decide +kernel
theorem dX9_turns_79 : decode cX9_turns 79 = .ok (.ifCond .ne 12, 3) := by decide +kernel
theorem dX9_turns_82 : decode cX9_turns 82 = .ok (.aload_n 0, 1) := by decide +kernel
theorem dX9_turns_83 : decode cX9_turns 83 = .ok (.getfield 35, 3) := by decide +kernel
theorem dX9_turns_86 : decode cX9_turns 86 = .ok (.iload_n 3, 1) := by decide +kernel
theorem dX9_turns_87 : decode cX9_turns 87 = .ok (.iaload, 1) := by decide +kernel
theorem dX9_turns_88 : decode cX9_turns 88 = .ok (.goto 9, 3) := by decide +kernel
theorem dX9_turns_91 : decode cX9_turns 91 = .ok (.aload_n 0, 1) := by decide +kernel
theorem dX9_turns_92 : decode cX9_turns 92 = .ok (.getfield 38, 3) := by decide +kernel
theorem dX9_turns_95 : decode cX9_turns 95 = .ok (.iload_n 3, 1) := by decide +kernel
theorem dX9_turns_96 : decode cX9_turns 96 = .ok (.iaload, 1) := by decide +kernel
theorem dX9_turns_97 : decode cX9_turns 97 = .ok (.iload 4, 2) := by decide +kernel
theorem dX9_turns_99 : decode cX9_turns 99 = .ok (.idiv, 1) := by decide +kernel
theorem dX9_turns_100 : decode cX9_turns 100 = .ok (.ireturn, 1) := by decide +kernel
def fX9_turns (a1 : Int32) (a2 : Int32) (o_above : Int32) (o_below : Int32) (o_road_f : Nat → Int32) (o_topOf_f : Nat → Int32) (o_partsOf_f : Nat → Int32) (o_sent_f : Nat → Int32) : Int32 × Int32 × Int32 × (Nat → Int32) × (Nat → Int32) × (Nat → Int32) := if (fX9_in a1.toInt64 1 8) = 0 then (((-3), o_above, o_below, o_topOf_f, o_partsOf_f, o_sent_f)) else (if (fX9_in a2.toInt64 0 2) = 0 then (((-3), o_above, o_below, o_topOf_f, o_partsOf_f, o_sent_f)) else (match fX9_layTurns a1 o_above o_below o_road_f o_topOf_f o_partsOf_f o_sent_f with | (u3, u4, u5, u6, u7) => if a2 = 2 then (((u7 (2 * (o_road_f 3)).toNatClampNeg), u3, u4, u5, u6, u7)) else (xlet (if a2 = 0 then (u5 (2 * (o_road_f 3)).toNatClampNeg) else (u6 (2 * (o_road_f 3)).toNatClampNeg)) (fun y_1 => ((y_1 / (fX9_common ((u5 (2 * (o_road_f 3)).toNatClampNeg).toInt64) ((u6 (2 * (o_road_f 3)).toNatClampNeg).toInt64)).toInt32), u3, u4, u5, u6, u7)))))
set_option maxHeartbeats 4000000 in
set_option maxRecDepth 100000 in
theorem c_X9_turns (l : Launch) (D : va_G) (cI cZ : ClassId) (sz : Nat) (o : Nat) (a1 : Int32) (a2 : Int32) (o_road : Nat) (o_told : Nat) (o_fresh : Nat) (o_was : Nat) (o_acts : Int32) (o_kept : Nat) (o_isKept : Nat) (o_sights : Nat) (o_many : Int32) (o_text : Nat) (o_letters : Int32) (o_thrown : Int32) (o_cursor : Int32) (o_token : Int32) (o_start : Int32) (o_value : Int64) (o_isFault : Int32) (o_faultAt : Int32) (o_above : Int32) (o_below : Int32) (o_topOf : Nat) (o_partsOf : Nat) (o_sent : Nat) (o_road_f : Nat → Int32) (o_topOf_f : Nat → Int32) (o_partsOf_f : Nat → Int32) (o_sent_f : Nat → Int32) (hn0 : 4 ≤ (o_road_f 0).toInt) (hn1 : (o_road_f 0).toInt ≤ 20) (hv0 : 0 ≤ (o_road_f 2).toInt) (hv6 : (o_road_f 2).toInt ≤ 6) (hhab : ∀ w : Int32, 0 ≤ w.toInt → w.toInt < (o_road_f 2).toInt → ¬ o_road_f (30 + w).toNatClampNeg = 0) (hk0 : 0 ≤ (o_road_f 3).toInt) (hk1 : (o_road_f 3).toInt < ((1 : Int32) <<< ((o_road_f 2) &&& 31)).toInt) : Met l yX9_turns wsX9_turns ({ frames := 6, cells := 0, slots := 0, locals := 149 } : Room) (va_Pc [.ref o, .int a1, .int a2] (xP D cI cZ [(o, .inr (9, [.ref o_road, .ref o_told, .ref o_fresh, .ref o_was, .int o_acts, .ref o_kept, .ref o_isKept, .ref o_sights, .int o_many, .ref o_text, .int o_letters, .int o_thrown, .int o_cursor, .int o_token, .int o_start, .long o_value, .int o_isFault, .int o_faultAt, .int o_above, .int o_below, .ref o_topOf, .ref o_partsOf, .ref o_sent])), (o_road, .inl (cI, 36, .inl o_road_f)), (o_topOf, .inl (cI, 128, .inl o_topOf_f)), (o_partsOf, .inl (cI, 128, .inl o_partsOf_f)), (o_sent, .inl (cI, 128, .inl o_sent_f))] sz)) (va_Qi (fun (r : Int32) (u : Int32 × Int32 × (Nat → Int32) × (Nat → Int32) × (Nat → Int32)) => (r, u) = fX9_turns a1 a2 o_above o_below o_road_f o_topOf_f o_partsOf_f o_sent_f) (fun (u : Int32 × Int32 × (Nat → Int32) × (Nat → Int32) × (Nat → Int32)) t => xB D cI cZ [(o, .inr (9, [.ref o_road, .ref o_told, .ref o_fresh, .ref o_was, .int o_acts, .ref o_kept, .ref o_isKept, .ref o_sights, .int o_many, .ref o_text, .int o_letters, .int 0, .int o_cursor, .int o_token, .int o_start, .long o_value, .int o_isFault, .int o_faultAt, .int u.1, .int u.2.1, .ref o_topOf, .ref o_partsOf, .ref o_sent])), (o_road, .inl (cI, 36, .inl o_road_f)), (o_topOf, .inl (cI, 128, .inl u.2.2.1)), (o_partsOf, .inl (cI, 128, .inl u.2.2.2.1)), (o_sent, .inl (cI, 128, .inl u.2.2.2.2))] (va_A [(o, .inr (9, [.ref o_road, .ref o_told, .ref o_fresh, .ref o_was, .int o_acts, .ref o_kept, .ref o_isKept, .ref o_sights, .int o_many, .ref o_text, .int o_letters, .int o_thrown, .int o_cursor, .int o_token, .int o_start, .long o_value, .int o_isFault, .int o_faultAt, .int o_above, .int o_below, .ref o_topOf, .ref o_partsOf, .ref o_sent])), (o_road, .inl (cI, 36, .inl o_road_f)), (o_topOf, .inl (cI, 128, .inl o_topOf_f)), (o_partsOf, .inl (cI, 128, .inl o_partsOf_f)), (o_sent, .inl (cI, 128, .inl o_sent_f))] sz) t) (va_A [(o, .inr (9, [.ref o_road, .ref o_told, .ref o_fresh, .ref o_was, .int o_acts, .ref o_kept, .ref o_isKept, .ref o_sights, .int o_many, .ref o_text, .int o_letters, .int o_thrown, .int o_cursor, .int o_token, .int o_start, .long o_value, .int o_isFault, .int o_faultAt, .int o_above, .int o_below, .ref o_topOf, .ref o_partsOf, .ref o_sent])), (o_road, .inl (cI, 36, .inl o_road_f)), (o_topOf, .inl (cI, 128, .inl o_topOf_f)), (o_partsOf, .inl (cI, 128, .inl o_partsOf_f)), (o_sent, .inl (cI, 128, .inl o_sent_f))] sz)) 0 0 (va_A [(o, .inr (9, [.ref o_road, .ref o_told, .ref o_fresh, .ref o_was, .int o_acts, .ref o_kept, .ref o_isKept, .ref o_sights, .int o_many, .ref o_text, .int o_letters, .int o_thrown, .int o_cursor, .int o_token, .int o_start, .long o_value, .int o_isFault, .int o_faultAt, .int o_above, .int o_below, .ref o_topOf, .ref o_partsOf, .ref o_sent])), (o_road, .inl (cI, 36, .inl o_road_f)), (o_topOf, .inl (cI, 128, .inl o_topOf_f)), (o_partsOf, .inl (cI, 128, .inl o_partsOf_f)), (o_sent, .inl (cI, 128, .inl o_sent_f))] sz) := by
  refine Met.ofW (cc := cX9_turns) (maxL := 5) (ret := (some .int)) (by decide) rfl ?_
  intro p e s m args below meth c s₁ B hml hv
  obtain ⟨hargs, hsz, hP, hK, hD0, hE⟩ := hv
  subst hargs
  have hx := B.exec
  have hb := B.bytes
  have hr := B.returns
  have hts := atoms_spec (ws := wsX9_turns) B.pre
  have hown : s.vm.findClass RX9 = some m.cls := findClass_of_methodNamed B.named
  have hlocks := B.notSynchronized
  subst hsz
  have hD := hD0.self (sz := s.heap.size)
  generalize hAe : va_A [(o, .inr (9, [.ref o_road, .ref o_told, .ref o_fresh, .ref o_was, .int o_acts, .ref o_kept, .ref o_isKept, .ref o_sights, .int o_many, .ref o_text, .int o_letters, .int o_thrown, .int o_cursor, .int o_token, .int o_start, .long o_value, .int o_isFault, .int o_faultAt, .int o_above, .int o_below, .ref o_topOf, .ref o_partsOf, .ref o_sent])), (o_road, .inl (cI, 36, .inl o_road_f)), (o_topOf, .inl (cI, 128, .inl o_topOf_f)), (o_partsOf, .inl (cI, 128, .inl o_partsOf_f)), (o_sent, .inl (cI, 128, .inl o_sent_f))] s.heap.size = A at hD ⊢
  have hA : ∀ q : Nat, s.heap.size ≤ q → A q := fun q h => by rw [← hAe]; exact Or.inr h
  have hS : va_S A s.heap s.heap [] := va_S.rf
  have hl := lv_entry ([.ref o, .int a1, .int a2]) (n := 5) (Nat.le_of_ble_eq_true rfl)
  rw [lg_entry_eq]
  generalize (lg_sl ([.ref o, .int a1, .int a2]) ++ List.replicate (5 - (lg_sl ([.ref o, .int a1, .int a2])).length) Slot.unset).toArray = ls at hl ⊢
  have hl : lv_has ls 5 [(0, .ref o), (1, .int a1), (2, .int a2)] := hl
  refine wq (X := fun Q => ∀ (pc : Nat) (H : Heap) (locs : List Loc) (ls : Array Slot) (r : Int32) (u : Int32 × Int32 × (Nat → Int32) × (Nat → Int32) × (Nat → Int32)) (hd : decode cX9_turns pc = .ok (.ireturn, 1)) (hp : (r, u) = fX9_turns a1 a2 o_above o_below o_road_f o_topOf_f o_partsOf_f o_sent_f) (hP : va_P D vwCl [(o, .inr (9, [.ref o_road, .ref o_told, .ref o_fresh, .ref o_was, .int o_acts, .ref o_kept, .ref o_isKept, .ref o_sights, .int o_many, .ref o_text, .int o_letters, .int 0, .int o_cursor, .int o_token, .int o_start, .long o_value, .int o_isFault, .int o_faultAt, .int u.1, .int u.2.1, .ref o_topOf, .ref o_partsOf, .ref o_sent])), (o_road, .inl (cI, 36, .inl o_road_f)), (o_topOf, .inl (cI, 128, .inl u.2.2.1)), (o_partsOf, .inl (cI, 128, .inl u.2.2.2.1)), (o_sent, .inl (cI, 128, .inl u.2.2.2.2))] H) (hD : va_D A [(o, .inr (9, [.ref o_road, .ref o_told, .ref o_fresh, .ref o_was, .int o_acts, .ref o_kept, .ref o_isKept, .ref o_sights, .int o_many, .ref o_text, .int o_letters, .int 0, .int o_cursor, .int o_token, .int o_start, .long o_value, .int o_isFault, .int o_faultAt, .int u.1, .int u.2.1, .ref o_topOf, .ref o_partsOf, .ref o_sent])), (o_road, .inl (cI, 36, .inl o_road_f)), (o_topOf, .inl (cI, 128, .inl u.2.2.1)), (o_partsOf, .inl (cI, 128, .inl u.2.2.2.1)), (o_sent, .inl (cI, 128, .inl u.2.2.2.2))]) (hS : va_S A s.heap H locs), W p l e ({ frames := 6, cells := 0, slots := 0, locals := 149 } : Room) s m ([.ref o, .int a1, .int a2] : List Value).toArray below meth c H locs 0 0 Q (F0 m pc ls [.int r])) ?_ (fun Q hret => ?_)
  · intro pc H locs ls r u hd hp hP hD hS
    exact W.iret (v := r) hx hb hr (fun t ht hW => ⟨⟨r, u, rfl, hp, by rw [ht]; exact hP, va_K.moved hW.alike hK, hD⟩, hS.F ht⟩) hS.2.2 hd
  have hin_9 : ∀ w ∈ u_ws RX9 TX9 23, w ∈ wsX9_turns := by decide +kernel
  have fl_7 := hts (.fieldLink RX9 7 "MileRoadModel" "road" "[I") (by decide +kernel)
  have fl_35 := hts (.fieldLink RX9 35 "MileRoadModel" "topOf" "[I") (by decide +kernel)
  have fl_38 := hts (.fieldLink RX9 38 "MileRoadModel" "partsOf" "[I") (by decide +kernel)
  have fl_41 := hts (.fieldLink RX9 41 "MileRoadModel" "sent" "[I") (by decide +kernel)
  have fl_48 := hts (.fieldLink RX9 48 "MileRoadModel" "thrown" "I") (by decide +kernel)
  have zl_0 : (0 : Int32).toInt = 0 := by decide
  have zl_2 : (2 : Int32).toInt = 2 := by decide
  have zs := t_shl hv0 hv6
  have hF : fX9_turns a1 a2 o_above o_below o_road_f o_topOf_f o_partsOf_f o_sent_f = fX9_turns a1 a2 o_above o_below o_road_f o_topOf_f o_partsOf_f o_sent_f := rfl
  refine lv_aload_n hx hb dX9_turns_0 rfl (lv_at hl 0 rfl) ?_
  refine lv_iconst (v := 0) hx hb dX9_turns_1 (by decide) ?_
  refine xput hx hb hts hown hK 9 (C2 := RX9) (T := TX9) (N := 23) tyX9 rfl tyX9_ok nmX9 hin_9 hP hD hS 0 rfl 11 (by decide) fl_48 rfl rfl rfl rfl rfl (Nat.le_of_ble_eq_true rfl) dX9_turns_2 [(o, .inr (9, [.ref o_road, .ref o_told, .ref o_fresh, .ref o_was, .int o_acts, .ref o_kept, .ref o_isKept, .ref o_sights, .int o_many, .ref o_text, .int o_letters, .int 0, .int o_cursor, .int o_token, .int o_start, .long o_value, .int o_isFault, .int o_faultAt, .int o_above, .int o_below, .ref o_topOf, .ref o_partsOf, .ref o_sent])), (o_road, .inl (cI, 36, .inl o_road_f)), (o_topOf, .inl (cI, 128, .inl o_topOf_f)), (o_partsOf, .inl (cI, 128, .inl o_partsOf_f)), (o_sent, .inl (cI, 128, .inl o_sent_f))] rfl (fun H locs hP hD hS => ?_)
  refine lv_iload_n hx hb dX9_turns_5 rfl (lv_at hl 1 rfl) ?_
  refine lv_i2l (v := a1.toInt64) hx hb dX9_turns_6 rfl ?_
  refine lv_lconst (v := 1) hx hb dX9_turns_7 (by decide) ?_
  refine lv_ldc2 (v := 8) hx hb hown (hts (.constantLong RX9 164 8) (by decide +kernel)) dX9_turns_8 ?_
  refine xcalli (S := Unit) (Wc := []) (wr := [(o, .inr (9, [.ref o_road, .ref o_told, .ref o_fresh, .ref o_was, .int o_acts, .ref o_kept, .ref o_isKept, .ref o_sights, .int o_many, .ref o_text, .int o_letters, .int 0, .int o_cursor, .int o_token, .int o_start, .long o_value, .int o_isFault, .int o_faultAt, .int o_above, .int o_below, .ref o_topOf, .ref o_partsOf, .ref o_sent])), (o_road, .inl (cI, 36, .inl o_road_f)), (o_topOf, .inl (cI, 128, .inl o_topOf_f)), (o_partsOf, .inl (cI, 128, .inl o_partsOf_f)), (o_sent, .inl (cI, 128, .inl o_sent_f))]) (W1 := (fun (u : Unit) => [])) (Wn := (fun (u : Unit) => [(o, .inr (9, [.ref o_road, .ref o_told, .ref o_fresh, .ref o_was, .int o_acts, .ref o_kept, .ref o_isKept, .ref o_sights, .int o_many, .ref o_text, .int o_letters, .int 0, .int o_cursor, .int o_token, .int o_start, .long o_value, .int o_isFault, .int o_faultAt, .int o_above, .int o_below, .ref o_topOf, .ref o_partsOf, .ref o_sent])), (o_road, .inl (cI, 36, .inl o_road_f)), (o_topOf, .inl (cI, 128, .inl o_topOf_f)), (o_partsOf, .inl (cI, 128, .inl o_partsOf_f)), (o_sent, .inl (cI, 128, .inl o_sent_f))])) (xrunS hx hb hml hown hts (c_X9_in l D cI cZ _ a1.toInt64 1 8 ) (va_cwS 3 hts gX9_turns_X9_in rfl rfl rfl (by decide +kernel) ⟨Nat.le_of_ble_eq_true rfl, Nat.le_of_ble_eq_true rfl⟩) hE hK hP hD [] rfl rfl rfl hl.1 rfl (Nat.le_of_ble_eq_true rfl) dX9_turns_11 ⟨Nat.le_of_ble_eq_true rfl, Nat.le_of_ble_eq_true rfl⟩) hP hD hS hA [] [0, 1, 2, 3, 4] [0, 1, 2, 3, 4] rfl rfl rfl (by decide) (fun _ => rfl) rfl (fun r1 u H locs hw hz hP hD hS => ?_)
  subst hw
  refine lv_if_eq (tgt := 29) hx hb dX9_turns_14 (by decide) (fun c_1 => ?_) (fun c_1 => ?_)
  · refine lv_bipush (v := (-3)) hx hb dX9_turns_29 (by decide) ?_
    exact hret _ _ _ _ (-3) (o_above, o_below, o_topOf_f, o_partsOf_f, o_sent_f) dX9_turns_31 ((hF.trans (by simp only [fX9_turns, ↓if_pos c_1])).symm) hP hD hS
  · have kb_c_1 : 1 ≤ a1.toInt ∧ a1.toInt ≤ 8 := in_b c_1 (by decide) (by decide)
    refine lv_iload_n hx hb dX9_turns_17 rfl (lv_at hl 2 rfl) ?_
    refine lv_i2l (v := a2.toInt64) hx hb dX9_turns_18 rfl ?_
    refine lv_lconst (v := 0) hx hb dX9_turns_19 (by decide) ?_
    refine lv_ldc2 (v := 2) hx hb hown (hts (.constantLong RX9 184 2) (by decide +kernel)) dX9_turns_20 ?_
    refine xcalli (S := Unit) (Wc := []) (wr := [(o, .inr (9, [.ref o_road, .ref o_told, .ref o_fresh, .ref o_was, .int o_acts, .ref o_kept, .ref o_isKept, .ref o_sights, .int o_many, .ref o_text, .int o_letters, .int 0, .int o_cursor, .int o_token, .int o_start, .long o_value, .int o_isFault, .int o_faultAt, .int o_above, .int o_below, .ref o_topOf, .ref o_partsOf, .ref o_sent])), (o_road, .inl (cI, 36, .inl o_road_f)), (o_topOf, .inl (cI, 128, .inl o_topOf_f)), (o_partsOf, .inl (cI, 128, .inl o_partsOf_f)), (o_sent, .inl (cI, 128, .inl o_sent_f))]) (W1 := (fun (u : Unit) => [])) (Wn := (fun (u : Unit) => [(o, .inr (9, [.ref o_road, .ref o_told, .ref o_fresh, .ref o_was, .int o_acts, .ref o_kept, .ref o_isKept, .ref o_sights, .int o_many, .ref o_text, .int o_letters, .int 0, .int o_cursor, .int o_token, .int o_start, .long o_value, .int o_isFault, .int o_faultAt, .int o_above, .int o_below, .ref o_topOf, .ref o_partsOf, .ref o_sent])), (o_road, .inl (cI, 36, .inl o_road_f)), (o_topOf, .inl (cI, 128, .inl o_topOf_f)), (o_partsOf, .inl (cI, 128, .inl o_partsOf_f)), (o_sent, .inl (cI, 128, .inl o_sent_f))])) (xrunS hx hb hml hown hts (c_X9_in l D cI cZ _ a2.toInt64 0 2 ) (va_cwS 3 hts gX9_turns_X9_in rfl rfl rfl (by decide +kernel) ⟨Nat.le_of_ble_eq_true rfl, Nat.le_of_ble_eq_true rfl⟩) hE hK hP hD [] rfl rfl rfl hl.1 rfl (Nat.le_of_ble_eq_true rfl) dX9_turns_23 ⟨Nat.le_of_ble_eq_true rfl, Nat.le_of_ble_eq_true rfl⟩) hP hD hS hA [] [0, 1, 2, 3, 4] [0, 1, 2, 3, 4] rfl rfl rfl (by decide) (fun _ => rfl) rfl (fun r2 u H locs hw hz hP hD hS => ?_)
    subst hw
    refine lv_if_ne (tgt := 32) hx hb dX9_turns_26 (by decide) (fun c_2 => ?_) (fun c_2 => ?_)
    · have kb_c_2 : 0 ≤ a2.toInt ∧ a2.toInt ≤ 2 := in_b c_2 (by decide) (by decide)
      refine lv_aload_n hx hb dX9_turns_32 rfl (lv_at hl 0 rfl) ?_
      refine lv_iload_n hx hb dX9_turns_33 rfl (lv_at hl 1 rfl) ?_
      refine xcallv (S := Int32 × Int32 × (Nat → Int32) × (Nat → Int32) × (Nat → Int32)) (Wc := [(o, .inr (9, [.ref o_road, .ref o_told, .ref o_fresh, .ref o_was, .int o_acts, .ref o_kept, .ref o_isKept, .ref o_sights, .int o_many, .ref o_text, .int o_letters, .int 0, .int o_cursor, .int o_token, .int o_start, .long o_value, .int o_isFault, .int o_faultAt, .int o_above, .int o_below, .ref o_topOf, .ref o_partsOf, .ref o_sent])), (o_road, .inl (cI, 36, .inl o_road_f)), (o_topOf, .inl (cI, 128, .inl o_topOf_f)), (o_partsOf, .inl (cI, 128, .inl o_partsOf_f)), (o_sent, .inl (cI, 128, .inl o_sent_f))]) (wr := []) (W1 := (fun (u : Int32 × Int32 × (Nat → Int32) × (Nat → Int32) × (Nat → Int32)) => [(o, .inr (9, [.ref o_road, .ref o_told, .ref o_fresh, .ref o_was, .int o_acts, .ref o_kept, .ref o_isKept, .ref o_sights, .int o_many, .ref o_text, .int o_letters, .int 0, .int o_cursor, .int o_token, .int o_start, .long o_value, .int o_isFault, .int o_faultAt, .int u.1, .int u.2.1, .ref o_topOf, .ref o_partsOf, .ref o_sent])), (o_road, .inl (cI, 36, .inl o_road_f)), (o_topOf, .inl (cI, 128, .inl u.2.2.1)), (o_partsOf, .inl (cI, 128, .inl u.2.2.2.1)), (o_sent, .inl (cI, 128, .inl u.2.2.2.2))])) (Wn := (fun (u : Int32 × Int32 × (Nat → Int32) × (Nat → Int32) × (Nat → Int32)) => [(o, .inr (9, [.ref o_road, .ref o_told, .ref o_fresh, .ref o_was, .int o_acts, .ref o_kept, .ref o_isKept, .ref o_sights, .int o_many, .ref o_text, .int o_letters, .int 0, .int o_cursor, .int o_token, .int o_start, .long o_value, .int o_isFault, .int o_faultAt, .int u.1, .int u.2.1, .ref o_topOf, .ref o_partsOf, .ref o_sent])), (o_road, .inl (cI, 36, .inl o_road_f)), (o_topOf, .inl (cI, 128, .inl u.2.2.1)), (o_partsOf, .inl (cI, 128, .inl u.2.2.2.1)), (o_sent, .inl (cI, 128, .inl u.2.2.2.2))])) (xrunV hx hb hml hown hts (c_X9_layTurns l D cI cZ _ o a1 o_road o_told o_fresh o_was o_acts o_kept o_isKept o_sights o_many o_text o_letters 0 o_cursor o_token o_start o_value o_isFault o_faultAt o_above o_below o_topOf o_partsOf o_sent o_road_f o_topOf_f o_partsOf_f o_sent_f hn0 hn1 hv0 hv6 hhab) (cwV 1 hts gX9_turns_X9_layTurns rfl rfl rfl (by decide +kernel) ⟨Nat.le_of_ble_eq_true rfl, Nat.le_of_ble_eq_true rfl⟩) hE hK hP hD [0, 1, 2, 3, 4] rfl rfl 0 9 (T := TX9) (N := 23) rfl rfl rfl hl.1 rfl (Nat.le_of_ble_eq_true rfl) dX9_turns_34 ⟨Nat.le_of_ble_eq_true rfl, Nat.le_of_ble_eq_true rfl⟩) hP hD hS hA [0, 1, 2, 3, 4] [] [0, 1, 2, 3, 4] rfl rfl rfl (by decide) (fun _ => rfl) rfl (fun  u H locs hw hz hP hD hS => ?_)
      obtain ⟨u3, u4, u5, u6, u7⟩ := u
      have hw_3 := hw.symm
      have hP : va_P D vwCl [(o, .inr (9, [.ref o_road, .ref o_told, .ref o_fresh, .ref o_was, .int o_acts, .ref o_kept, .ref o_isKept, .ref o_sights, .int o_many, .ref o_text, .int o_letters, .int 0, .int o_cursor, .int o_token, .int o_start, .long o_value, .int o_isFault, .int o_faultAt, .int u3, .int u4, .ref o_topOf, .ref o_partsOf, .ref o_sent])), (o_road, .inl (cI, 36, .inl o_road_f)), (o_topOf, .inl (cI, 128, .inl u5)), (o_partsOf, .inl (cI, 128, .inl u6)), (o_sent, .inl (cI, 128, .inl u7))] H := hP
      have hD : va_D A [(o, .inr (9, [.ref o_road, .ref o_told, .ref o_fresh, .ref o_was, .int o_acts, .ref o_kept, .ref o_isKept, .ref o_sights, .int o_many, .ref o_text, .int o_letters, .int 0, .int o_cursor, .int o_token, .int o_start, .long o_value, .int o_isFault, .int o_faultAt, .int u3, .int u4, .ref o_topOf, .ref o_partsOf, .ref o_sent])), (o_road, .inl (cI, 36, .inl o_road_f)), (o_topOf, .inl (cI, 128, .inl u5)), (o_partsOf, .inl (cI, 128, .inl u6)), (o_sent, .inl (cI, 128, .inl u7))] := hD
      have hb9 := layTurns_b o_road_f a1 o_above o_below o_topOf_f o_partsOf_f o_sent_f hn0 hn1 hv0 hv6 hk0 hk1
      rw [hw_3] at hb9
      refine lv_iconst (v := 2) hx hb dX9_turns_37 (by decide) ?_
      refine lv_aload_n hx hb dX9_turns_38 rfl (lv_at hl 0 rfl) ?_
      refine xget hx hb hts hown hK 9 (C2 := RX9) (T := TX9) (N := 23) rfl hin_9 hP 0 rfl 0 (by decide) fl_7 rfl rfl rfl dX9_turns_39 ?_
      refine lv_iconst (v := 3) hx hb dX9_turns_42 (by decide) ?_
      refine xald hx hb hK hP 1 0 (k := 3) rfl rfl (vi (by decide) (by decide)) (by decide) dX9_turns_43 ?_
      refine lv_imul hx hb dX9_turns_44 ?_
      refine lv_istore_n (lv' := [(3, .int (2 * (o_road_f 3))), (0, .ref o), (1, .int a1), (2, .int a2)]) hx hb dX9_turns_45 rfl hl (by decide) rfl (fun ls hl => ?_)
      refine lv_iload_n hx hb dX9_turns_46 rfl (lv_at hl 3 rfl) ?_
      refine lv_iconst (v := 2) hx hb dX9_turns_47 (by decide) ?_
      refine lv_icmp_ne (tgt := 58) hx hb dX9_turns_48 (by decide) (fun c_3 => ?_) (fun c_3 => ?_)
      · have kc_3 := t_neq c_3
        refine lv_aload_n hx hb dX9_turns_58 rfl (lv_at hl 1 rfl) ?_
        refine xget hx hb hts hown hK 9 (C2 := RX9) (T := TX9) (N := 23) rfl hin_9 hP 0 rfl 20 (by decide) fl_35 rfl rfl rfl dX9_turns_59 ?_
        refine lv_iload_n hx hb dX9_turns_62 rfl (lv_at hl 0 rfl) ?_
        have z_1 : (2 * (o_road_f 3)).toInt = 2 * (o_road_f 3).toInt := z_mul 2 rfl (by with_reducible omega) (by with_reducible omega)
        refine xald hx hb hK hP 2 0 (k := (2 * (o_road_f 3)).toNatClampNeg) rfl rfl (vi (by with_reducible omega) (by with_reducible omega)) rfl dX9_turns_63 ?_
        refine lv_i2l (v := (u5 (2 * (o_road_f 3)).toNatClampNeg).toInt64) hx hb dX9_turns_64 rfl ?_
        refine lv_aload_n hx hb dX9_turns_65 rfl (lv_at hl 1 rfl) ?_
        refine xget hx hb hts hown hK 9 (C2 := RX9) (T := TX9) (N := 23) rfl hin_9 hP 0 rfl 21 (by decide) fl_38 rfl rfl rfl dX9_turns_66 ?_
        refine lv_iload_n hx hb dX9_turns_69 rfl (lv_at hl 0 rfl) ?_
        refine xald hx hb hK hP 3 0 (k := (2 * (o_road_f 3)).toNatClampNeg) rfl rfl (vi (by with_reducible omega) (by with_reducible omega)) rfl dX9_turns_70 ?_
        refine lv_i2l (v := (u6 (2 * (o_road_f 3)).toNatClampNeg).toInt64) hx hb dX9_turns_71 rfl ?_
        refine xcalll (S := Unit) (Wc := []) (wr := [(o, .inr (9, [.ref o_road, .ref o_told, .ref o_fresh, .ref o_was, .int o_acts, .ref o_kept, .ref o_isKept, .ref o_sights, .int o_many, .ref o_text, .int o_letters, .int 0, .int o_cursor, .int o_token, .int o_start, .long o_value, .int o_isFault, .int o_faultAt, .int u3, .int u4, .ref o_topOf, .ref o_partsOf, .ref o_sent])), (o_road, .inl (cI, 36, .inl o_road_f)), (o_topOf, .inl (cI, 128, .inl u5)), (o_partsOf, .inl (cI, 128, .inl u6)), (o_sent, .inl (cI, 128, .inl u7))]) (W1 := (fun (u : Unit) => [])) (Wn := (fun (u : Unit) => [(o, .inr (9, [.ref o_road, .ref o_told, .ref o_fresh, .ref o_was, .int o_acts, .ref o_kept, .ref o_isKept, .ref o_sights, .int o_many, .ref o_text, .int o_letters, .int 0, .int o_cursor, .int o_token, .int o_start, .long o_value, .int o_isFault, .int o_faultAt, .int u3, .int u4, .ref o_topOf, .ref o_partsOf, .ref o_sent])), (o_road, .inl (cI, 36, .inl o_road_f)), (o_topOf, .inl (cI, 128, .inl u5)), (o_partsOf, .inl (cI, 128, .inl u6)), (o_sent, .inl (cI, 128, .inl u7))])) (xrunS hx hb hml hown hts (c_X9_common l D cI cZ _ ((u5 (2 * (o_road_f 3)).toNatClampNeg).toInt64) ((u6 (2 * (o_road_f 3)).toNatClampNeg).toInt64) (by rw [Int32.toInt_toInt64]; exact hb9.1.1) (by rw [Int32.toInt_toInt64]; exact Int.le_trans (by decide) hb9.2.1) (by rw [Int32.toInt_toInt64]; exact Int.le_trans hb9.2.2 (by decide))) (va_cwS 2 hts gX9_turns_X9_common rfl rfl rfl (by decide +kernel) ⟨Nat.le_of_ble_eq_true rfl, Nat.le_of_ble_eq_true rfl⟩) hE hK hP hD [] rfl rfl rfl hl.1 rfl (Nat.le_of_ble_eq_true rfl) dX9_turns_72 ⟨Nat.le_of_ble_eq_true rfl, Nat.le_of_ble_eq_true rfl⟩) hP hD hS hA [] [0, 1, 2, 3, 4] [0, 1, 2, 3, 4] rfl rfl rfl (by decide) (fun _ => rfl) rfl (fun r8 u H locs hw hz hP hD hS => ?_)
        subst hw
        refine lv_l2i (v := (fX9_common ((u5 (2 * (o_road_f 3)).toNatClampNeg).toInt64) ((u6 (2 * (o_road_f 3)).toNatClampNeg).toInt64)).toInt32) hx hb dX9_turns_75 rfl ?_
        refine lv_istore (lv' := [(4, .int (fX9_common ((u5 (2 * (o_road_f 3)).toNatClampNeg).toInt64) ((u6 (2 * (o_road_f 3)).toNatClampNeg).toInt64)).toInt32), (3, .int (2 * (o_road_f 3))), (0, .ref o), (1, .int a1), (2, .int a2)]) hx hb dX9_turns_76 hl (by decide) rfl (fun ls hl => ?_)
        refine lv_iload_n hx hb dX9_turns_78 rfl (lv_at hl 4 rfl) ?_
        have K_y_1 : ∀ (y_1 : Int32) (hy_y_1 : (if a2 = 0 then (u5 (2 * (o_road_f 3)).toNatClampNeg) else (u6 (2 * (o_road_f 3)).toNatClampNeg)) = y_1) (H : Heap) (locs : List Loc) (hP : va_P D vwCl [(o, .inr (9, [.ref o_road, .ref o_told, .ref o_fresh, .ref o_was, .int o_acts, .ref o_kept, .ref o_isKept, .ref o_sights, .int o_many, .ref o_text, .int o_letters, .int 0, .int o_cursor, .int o_token, .int o_start, .long o_value, .int o_isFault, .int o_faultAt, .int u3, .int u4, .ref o_topOf, .ref o_partsOf, .ref o_sent])), (o_road, .inl (cI, 36, .inl o_road_f)), (o_topOf, .inl (cI, 128, .inl u5)), (o_partsOf, .inl (cI, 128, .inl u6)), (o_sent, .inl (cI, 128, .inl u7))] H) (hD : va_D A [(o, .inr (9, [.ref o_road, .ref o_told, .ref o_fresh, .ref o_was, .int o_acts, .ref o_kept, .ref o_isKept, .ref o_sights, .int o_many, .ref o_text, .int o_letters, .int 0, .int o_cursor, .int o_token, .int o_start, .long o_value, .int o_isFault, .int o_faultAt, .int u3, .int u4, .ref o_topOf, .ref o_partsOf, .ref o_sent])), (o_road, .inl (cI, 36, .inl o_road_f)), (o_topOf, .inl (cI, 128, .inl u5)), (o_partsOf, .inl (cI, 128, .inl u6)), (o_sent, .inl (cI, 128, .inl u7))]) (hS : va_S A s.heap H locs), W p l e ({ frames := 6, cells := 0, slots := 0, locals := 149 } : Room) s m ([.ref o, .int a1, .int a2] : List Value).toArray below meth c H locs 0 0 Q (F0 m 97 ls [.int y_1]) := by
          intro y_1 hy_y_1 H locs hP hD hS
          have ky_y_1 : y_1 = (u5 (2 * (o_road_f 3)).toNatClampNeg) ∨ y_1 = (u6 (2 * (o_road_f 3)).toNatClampNeg) := by rw [← hy_y_1]; (repeat' split) <;> simp
          refine lv_iload hx hb dX9_turns_97 (lv_at hl 0 rfl) ?_
          refine lv_idiv hx hb dX9_turns_99 (common_ne0 hb9.1.1 hb9.2.1 (Int.le_trans hb9.2.2 (by decide))) ?_
          exact hret _ _ _ _ (y_1 / (fX9_common ((u5 (2 * (o_road_f 3)).toNatClampNeg).toInt64) ((u6 (2 * (o_road_f 3)).toNatClampNeg).toInt64)).toInt32) (u3, u4, u5, u6, u7) dX9_turns_100 ((hF.trans (by simp only [fX9_turns, ↓if_neg c_1, ↓if_neg c_2, ↓hw_3, ↓if_neg c_3, ↓(xlet_of hy_y_1)])).symm) hP hD hS
        refine lv_if_ne (tgt := 91) hx hb dX9_turns_79 (by decide) (fun c_4 => ?_) (fun c_4 => ?_)
        · have kc_4 := t_neq c_4
          refine lv_aload_n hx hb dX9_turns_91 rfl (lv_at hl 2 rfl) ?_
          refine xget hx hb hts hown hK 9 (C2 := RX9) (T := TX9) (N := 23) rfl hin_9 hP 0 rfl 21 (by decide) fl_38 rfl rfl rfl dX9_turns_92 ?_
          refine lv_iload_n hx hb dX9_turns_95 rfl (lv_at hl 1 rfl) ?_
          refine xald hx hb hK hP 3 0 (k := (2 * (o_road_f 3)).toNatClampNeg) rfl rfl (vi (by with_reducible omega) (by with_reducible omega)) rfl dX9_turns_96 ?_
          exact K_y_1 _ (by simp only [↓if_neg c_4]) _ _ hP hD hS
        · have kc_4 := t_eq c_4
          refine lv_aload_n hx hb dX9_turns_82 rfl (lv_at hl 2 rfl) ?_
          refine xget hx hb hts hown hK 9 (C2 := RX9) (T := TX9) (N := 23) rfl hin_9 hP 0 rfl 20 (by decide) fl_35 rfl rfl rfl dX9_turns_83 ?_
          refine lv_iload_n hx hb dX9_turns_86 rfl (lv_at hl 1 rfl) ?_
          refine xald hx hb hK hP 2 0 (k := (2 * (o_road_f 3)).toNatClampNeg) rfl rfl (vi (by with_reducible omega) (by with_reducible omega)) rfl dX9_turns_87 ?_
          refine lv_goto (tgt := 97) hx hb dX9_turns_88 (by decide) ?_
          exact K_y_1 _ (by simp only [↓if_pos c_4]) _ _ hP hD hS
      · have kc_3 := t_eq c_3
        refine lv_aload_n hx hb dX9_turns_51 rfl (lv_at hl 1 rfl) ?_
        refine xget hx hb hts hown hK 9 (C2 := RX9) (T := TX9) (N := 23) rfl hin_9 hP 0 rfl 22 (by decide) fl_41 rfl rfl rfl dX9_turns_52 ?_
        refine lv_iload_n hx hb dX9_turns_55 rfl (lv_at hl 0 rfl) ?_
        have z_2 : (2 * (o_road_f 3)).toInt = 2 * (o_road_f 3).toInt := z_mul 2 rfl (by with_reducible omega) (by with_reducible omega)
        refine xald hx hb hK hP 4 0 (k := (2 * (o_road_f 3)).toNatClampNeg) rfl rfl (vi (by with_reducible omega) (by with_reducible omega)) rfl dX9_turns_56 ?_
        exact hret _ _ _ _ (u7 (2 * (o_road_f 3)).toNatClampNeg) (u3, u4, u5, u6, u7) dX9_turns_57 ((hF.trans (by simp only [fX9_turns, ↓if_neg c_1, ↓if_neg c_2, ↓hw_3, ↓if_pos c_3])).symm) hP hD hS
    · refine lv_bipush (v := (-3)) hx hb dX9_turns_29 (by decide) ?_
      exact hret _ _ _ _ (-3) (o_above, o_below, o_topOf_f, o_partsOf_f, o_sent_f) dX9_turns_31 ((hF.trans (by simp only [fX9_turns, ↓if_neg c_1, ↓if_pos c_2])).symm) hP hD hS
