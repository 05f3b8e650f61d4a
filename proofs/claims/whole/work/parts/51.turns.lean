set_option maxRecDepth 20000 in
theorem ggX9_layTurns_X9_layPlace : GoodIn wsX9_layTurns wsX9_layPlace := goodIn_r _ [11, 1, 2, 3, 12, 13, 14, 10, 15, 16, 17, 18, 19, 20, 21, 22, 23, 24, 25, 26, 27, 28, 29, 30, 31, 32, 33, 34, 35, 36, 37, 38, 39, 40, 41, 42, 43, 44, 45, 46, 47, 48, 49, 50] (by decide +kernel) (by decide +kernel)
set_option maxRecDepth 20000 in
theorem gX9_layTurns_X9_layPlace : GoodIn wsX9_layTurns (wsV RX9 180 RX9 yX9_layPlace wsX9_layPlace) := goodIn_app (goodIn_of _ (by decide +kernel)) ggX9_layTurns_X9_layPlace
theorem dX9_layTurns_0 : decode cX9_layTurns 0 = .ok (.iconst 1, 1) := by decide +kernel
theorem dX9_layTurns_1 : decode cX9_layTurns 1 = .ok (.aload_n 0, 1) := by decide +kernel
theorem dX9_layTurns_2 : decode cX9_layTurns 2 = .ok (.getfield 7, 3) := by decide +kernel
theorem dX9_layTurns_5 : decode cX9_layTurns 5 = .ok (.iconst 2, 1) := by decide +kernel
theorem dX9_layTurns_6 : decode cX9_layTurns 6 = .ok (.iaload, 1) := by decide +kernel
theorem dX9_layTurns_7 : decode cX9_layTurns 7 = .ok (.ishl, 1) := by decide +kernel
theorem dX9_layTurns_8 : decode cX9_layTurns 8 = .ok (.iconst 1, 1) := by decide +kernel
theorem dX9_layTurns_9 : decode cX9_layTurns 9 = .ok (.isub, 1) := by decide +kernel
theorem dX9_layTurns_10 : decode cX9_layTurns 10 = .ok (.istore_n 2, 1) := by decide +kernel
theorem dX9_layTurns_11 : decode cX9_layTurns 11 = .ok (.iload_n 2, 1) := by decide +kernel
theorem dX9_layTurns_12 : decode cX9_layTurns 12 = .ok (.ifCond .lt 212, 3) := by decide +kernel
theorem dX9_layTurns_15 : decode cX9_layTurns 15 = .ok (.iconst 0, 1) := by decide +kernel
theorem dX9_layTurns_16 : decode cX9_layTurns 16 = .ok (.istore_n 3, 1) := by decide +kernel
theorem dX9_layTurns_17 : decode cX9_layTurns 17 = .ok (.iload_n 3, 1) := by decide +kernel
theorem dX9_layTurns_18 : decode cX9_layTurns 18 = .ok (.iconst 2, 1) := by decide +kernel
theorem dX9_layTurns_19 : decode cX9_layTurns 19 = .ok (.if_icmp .ge 199, 3) := by decide +kernel
theorem dX9_layTurns_22 : decode cX9_layTurns 22 = .ok (.aload_n 0, 1) := by decide +kernel
theorem dX9_layTurns_23 : decode cX9_layTurns 23 = .ok (.iload_n 2, 1) := by decide +kernel
theorem dX9_layTurns_24 : decode cX9_layTurns 24 = .ok (.iload_n 1, 1) := by decide +kernel
theorem dX9_layTurns_25 : decode cX9_layTurns 25 = .ok (.invokevirtual 180, 3) := by decide +kernel
theorem dX9_layTurns_28 : decode cX9_layTurns 28 = .ok (.aload_n 0, 1) := by decide +kernel
theorem dX9_layTurns_29 : decode cX9_layTurns 29 = .ok (.getfield 166, 3) := by decide +kernel
theorem dX9_layTurns_32 : decode cX9_layTurns 32 = .ok (.istore 4, 2) := by decide +kernel
theorem dX9_layTurns_34 : decode cX9_layTurns 34 = .ok (.aload_n 0, 1) := by decide +kernel
theorem dX9_layTurns_35 : decode cX9_layTurns 35 = .ok (.getfield 169, 3) := by decide +kernel
theorem dX9_layTurns_38 : decode cX9_layTurns 38 = .ok (.istore 5, 2) := by decide +kernel
theorem dX9_layTurns_40 : decode cX9_layTurns 40 = .ok (.iconst (-1), 1) := by decide +kernel
theorem dX9_layTurns_41 : decode cX9_layTurns 41 = .ok (.istore 6, 2) := by decide +kernel
theorem dX9_layTurns_43 : decode cX9_layTurns 43 = .ok (.iconst 0, 1) := by decide +kernel
theorem dX9_layTurns_44 : decode cX9_layTurns 44 = .ok (.istore 7, 2) := by decide +kernel
theorem dX9_layTurns_46 : decode cX9_layTurns 46 = .ok (.iload 7, 2) := by decide +kernel
theorem dX9_layTurns_48 : decode cX9_layTurns 48 = .ok (.aload_n 0, 1) := by decide +kernel
theorem dX9_layTurns_49 : decode cX9_layTurns 49 = .ok (.getfield 7, 3) := by decide +kernel
theorem dX9_layTurns_52 : decode cX9_layTurns 52 = .ok (.iconst 2, 1) := by decide +kernel
theorem dX9_layTurns_53 : decode cX9_layTurns 53 = .ok (.iaload, 1) := by decide +kernel
theorem dX9_layTurns_54 : decode cX9_layTurns 54 = .ok (.if_icmp .ge 122, 3) := by decide +kernel
theorem dX9_layTurns_57 : decode cX9_layTurns 57 = .ok (.iload_n 2, 1) := by decide +kernel
theorem dX9_layTurns_58 : decode cX9_layTurns 58 = .ok (.iload 7, 2) := by decide +kernel
theorem dX9_layTurns_60 : decode cX9_layTurns 60 = .ok (.ishr, 1) := by decide +kernel
theorem dX9_layTurns_61 : decode cX9_layTurns 61 = .ok (.iconst 1, 1) := by decide +kernel
theorem dX9_layTurns_62 : decode cX9_layTurns 62 = .ok (.iand, 1) := by decide +kernel
theorem dX9_layTurns_63 : decode cX9_layTurns 63 = .ok (.ifCond .ne 107, 3) := by decide +kernel
theorem dX9_layTurns_66 : decode cX9_layTurns 66 = .ok (.iconst 2, 1) := by decide +kernel
theorem dX9_layTurns_67 : decode cX9_layTurns 67 = .ok (.iload_n 2, 1) := by decide +kernel
theorem dX9_layTurns_68 : decode cX9_layTurns 68 = .ok (.iconst 1, 1) := by decide +kernel
theorem dX9_layTurns_69 : decode cX9_layTurns 69 = .ok (.iload 7, 2) := by decide +kernel
theorem dX9_layTurns_71 : decode cX9_layTurns 71 = .ok (.ishl, 1) := by decide +kernel
theorem dX9_layTurns_72 : decode cX9_layTurns 72 = .ok (.ior, 1) := by decide +kernel
theorem dX9_layTurns_73 : decode cX9_layTurns 73 = .ok (.imul, 1) := by decide +kernel
theorem dX9_layTurns_74 : decode cX9_layTurns 74 = .ok (.iconst 1, 1) := by decide +kernel
theorem dX9_layTurns_75 : decode cX9_layTurns 75 = .ok (.iadd, 1) := by decide +kernel
theorem dX9_layTurns_76 : decode cX9_layTurns 76 = .ok (.iload_n 3, 1) := by decide +kernel
theorem dX9_layTurns_77 : decode cX9_layTurns 77 = .ok (.isub, 1) := by decide +kernel
theorem dX9_layTurns_78 : decode cX9_layTurns 78 = .ok (.istore 8, 2) := by decide +kernel
theorem dX9_layTurns_80 : decode cX9_layTurns 80 = .ok (.aload_n 0, 1) := by decide +kernel
theorem dX9_layTurns_81 : decode cX9_layTurns 81 = .ok (.getfield 35, 3) := by decide +kernel
theorem dX9_layTurns_84 : decode cX9_layTurns 84 = .ok (.iload 8, 2) := by decide +kernel
theorem dX9_layTurns_86 : decode cX9_layTurns 86 = .ok (.iaload, 1) := by decide +kernel
theorem dX9_layTurns_87 : decode cX9_layTurns 87 = .ok (.iload 5, 2) := by decide +kernel
theorem dX9_layTurns_89 : decode cX9_layTurns 89 = .ok (.imul, 1) := by decide +kernel
theorem dX9_layTurns_90 : decode cX9_layTurns 90 = .ok (.iload 4, 2) := by decide +kernel
theorem dX9_layTurns_92 : decode cX9_layTurns 92 = .ok (.aload_n 0, 1) := by decide +kernel
theorem dX9_layTurns_93 : decode cX9_layTurns 93 = .ok (.getfield 38, 3) := by decide +kernel
theorem dX9_layTurns_96 : decode cX9_layTurns 96 = .ok (.iload 8, 2) := by decide +kernel
theorem dX9_layTurns_98 : decode cX9_layTurns 98 = .ok (.iaload, 1) := by decide +kernel
theorem dX9_layTurns_99 : decode cX9_layTurns 99 = .ok (.imul, 1) := by decide +kernel
theorem dX9_layTurns_100 : decode cX9_layTurns 100 = .ok (.isub, 1) := by decide +kernel
theorem dX9_layTurns_101 : decode cX9_layTurns 101 = .ok (.istore 9, 2) := by decide +kernel
theorem dX9_layTurns_103 : decode cX9_layTurns 103 = .ok (.iload_n 3, 1) := by decide +kernel
theorem dX9_layTurns_104 : decode cX9_layTurns 104 = .ok (.ifCond .ne 16, 3) := by decide +kernel
theorem dX9_layTurns_107 : decode cX9_layTurns 107 = .ok (.iload 9, 2) := by decide +kernel
theorem dX9_layTurns_109 : decode cX9_layTurns 109 = .ok (.ifCond .ge 7, 3) := by decide +kernel
theorem dX9_layTurns_112 : decode cX9_layTurns 112 = .ok (.iconst 1, 1) := by decide +kernel
theorem dX9_layTurns_113 : decode cX9_layTurns 113 = .ok (.goto 17, 3) := by decide +kernel
theorem dX9_layTurns_116 : decode cX9_layTurns 116 = .ok (.iconst 0, 1) := by decide +kernel
theorem dX9_layTurns_117 : decode cX9_layTurns 117 = .ok (.goto 13, 3) := by decide +kernel
theorem dX9_layTurns_120 : decode cX9_layTurns 120 = .ok (.iload 9, 2) := by decide +kernel
theorem dX9_layTurns_122 : decode cX9_layTurns 122 = .ok (.ifCond .le 7, 3) := by decide +kernel
theorem dX9_layTurns_125 : decode cX9_layTurns 125 = .ok (.iconst 1, 1) := by decide +kernel
theorem dX9_layTurns_126 : decode cX9_layTurns 126 = .ok (.goto 4, 3) := by decide +kernel
theorem dX9_layTurns_129 : decode cX9_layTurns 129 = .ok (.iconst 0, 1) := by decide +kernel
theorem dX9_layTurns_130 : decode cX9_layTurns 130 = .ok (.istore 10, 2) := by decide +kernel
theorem dX9_layTurns_132 : decode cX9_layTurns 132 = .ok (.iload 10, 2) := by decide +kernel
theorem dX9_layTurns_134 : decode cX9_layTurns 134 = .ok (.ifCond .ne 14, 3) := by decide +kernel
theorem dX9_layTurns_137 : decode cX9_layTurns 137 = .ok (.iload 9, 2) := by decide +kernel
theorem dX9_layTurns_139 : decode cX9_layTurns 139 = .ok (.ifCond .ne 31, 3) := by decide +kernel
theorem dX9_layTurns_142 : decode cX9_layTurns 142 = .ok (.iload 6, 2) := by decide +kernel
theorem dX9_layTurns_144 : decode cX9_layTurns 144 = .ok (.iconst (-1), 1) := by decide +kernel
theorem dX9_layTurns_145 : decode cX9_layTurns 145 = .ok (.if_icmp .ne 25, 3) := by decide +kernel
theorem dX9_layTurns_148 : decode cX9_layTurns 148 = .ok (.aload_n 0, 1) := by decide +kernel
theorem dX9_layTurns_149 : decode cX9_layTurns 149 = .ok (.getfield 35, 3) := by decide +kernel
theorem dX9_layTurns_152 : decode cX9_layTurns 152 = .ok (.iload 8, 2) := by decide +kernel
theorem dX9_layTurns_154 : decode cX9_layTurns 154 = .ok (.iaload, 1) := by decide +kernel
theorem dX9_layTurns_155 : decode cX9_layTurns 155 = .ok (.istore 4, 2) := by decide +kernel
theorem dX9_layTurns_157 : decode cX9_layTurns 157 = .ok (.aload_n 0, 1) := by decide +kernel
theorem dX9_layTurns_158 : decode cX9_layTurns 158 = .ok (.getfield 38, 3) := by decide +kernel
theorem dX9_layTurns_161 : decode cX9_layTurns 161 = .ok (.iload 8, 2) := by decide +kernel
theorem dX9_layTurns_163 : decode cX9_layTurns 163 = .ok (.iaload, 1) := by decide +kernel
theorem dX9_layTurns_164 : decode cX9_layTurns 164 = .ok (.istore 5, 2) := by decide +kernel
theorem dX9_layTurns_166 : decode cX9_layTurns 166 = .ok (.iload 7, 2) := by decide +kernel
theorem dX9_layTurns_168 : decode cX9_layTurns 168 = .ok (.istore 6, 2) := by decide +kernel
theorem dX9_layTurns_170 : decode cX9_layTurns 170 = .ok (.iinc 7 1, 3) := by decide +kernel
theorem dX9_layTurns_173 : decode cX9_layTurns 173 = .ok (.goto (-127), 3) := by decide +kernel
theorem dX9_layTurns_176 : decode cX9_layTurns 176 = .ok (.aload_n 0, 1) := by decide +kernel
theorem dX9_layTurns_177 : decode cX9_layTurns 177 = .ok (.getfield 35, 3) := by decide +kernel
theorem dX9_layTurns_180 : decode cX9_layTurns 180 = .ok (.iconst 2, 1) := by decide +kernel
theorem dX9_layTurns_181 : decode cX9_layTurns 181 = .ok (.iload_n 2, 1) := by decide +kernel
theorem dX9_layTurns_182 : decode cX9_layTurns 182 = .ok (.imul, 1) := by decide +kernel
theorem dX9_layTurns_183 : decode cX9_layTurns 183 = .ok (.iload_n 3, 1) := by decide +kernel
theorem dX9_layTurns_184 : decode cX9_layTurns 184 = .ok (.iadd, 1) := by decide +kernel
theorem dX9_layTurns_185 : decode cX9_layTurns 185 = .ok (.iload 4, 2) := by decide +kernel
theorem dX9_layTurns_187 : decode cX9_layTurns 187 = .ok (.iastore, 1) := by decide +kernel
theorem dX9_layTurns_188 : decode cX9_layTurns 188 = .ok (.aload_n 0, 1) := by decide +kernel
theorem dX9_layTurns_189 : decode cX9_layTurns 189 = .ok (.getfield 38, 3) := by decide +kernel
theorem dX9_layTurns_192 : decode cX9_layTurns 192 = .ok (.iconst 2, 1) := by decide +kernel
theorem dX9_layTurns_193 : decode cX9_layTurns 193 = .ok (.iload_n 2, 1) := by decide +kernel
theorem dX9_layTurns_194 : decode cX9_layTurns 194 = .ok (.imul, 1) := by decide +kernel
theorem dX9_layTurns_195 : decode cX9_layTurns 195 = .ok (.iload_n 3, 1) := by decide +kernel
theorem dX9_layTurns_196 : decode cX9_layTurns 196 = .ok (.iadd, 1) := by decide +kernel
theorem dX9_layTurns_197 : decode cX9_layTurns 197 = .ok (.iload 5, 2) := by decide +kernel
theorem dX9_layTurns_199 : decode cX9_layTurns 199 = .ok (.iastore, 1) := by decide +kernel
theorem dX9_layTurns_200 : decode cX9_layTurns 200 = .ok (.aload_n 0, 1) := by decide +kernel
theorem dX9_layTurns_201 : decode cX9_layTurns 201 = .ok (.getfield 41, 3) := by decide +kernel
theorem dX9_layTurns_204 : decode cX9_layTurns 204 = .ok (.iconst 2, 1) := by decide +kernel
theorem dX9_layTurns_205 : decode cX9_layTurns 205 = .ok (.iload_n 2, 1) := by decide +kernel
theorem dX9_layTurns_206 : decode cX9_layTurns 206 = .ok (.imul, 1) := by decide +kernel
theorem dX9_layTurns_207 : decode cX9_layTurns 207 = .ok (.iload_n 3, 1) := by decide +kernel
theorem dX9_layTurns_208 : decode cX9_layTurns 208 = .ok (.iadd, 1) := by decide +kernel
theorem dX9_layTurns_209 : decode cX9_layTurns 209 = .ok (.iload 6, 2) := by decide +kernel
theorem dX9_layTurns_211 : decode cX9_layTurns 211 = .ok (.iastore, 1) := by decide +kernel
theorem dX9_layTurns_212 : decode cX9_layTurns 212 = .ok (.iinc 3 1, 3) := by decide +kernel
theorem dX9_layTurns_215 : decode cX9_layTurns 215 = .ok (.goto (-198), 3) := by decide +kernel
theorem dX9_layTurns_218 : decode cX9_layTurns 218 = .ok (.iinc 2 (-1), 3) := by decide +kernel
theorem dX9_layTurns_221 : decode cX9_layTurns 221 = .ok (.goto (-210), 3) := by decide +kernel
theorem dX9_layTurns_224 : decode cX9_layTurns 224 = .ok (.return_, 1) := by decide +kernel
def fX9_layTurns_46 (o_road_f : Nat → Int32) (v11_2 : Int32) (v17_3 : Int32) (o_topOf_f_17 : Nat → Int32) (o_partsOf_f_17 : Nat → Int32) (o_sent_f_17 : Nat → Int32) (k_17 : (Nat → Int32) → (Nat → Int32) → (Nat → Int32) → Int32 → Int32 → Int32 → Int32 × Int32 × (Nat → Int32) × (Nat → Int32) × (Nat → Int32)) : Nat → Int32 → Int32 → Int32 → Int32 → Int32 → Int32 → Int32 × Int32 × (Nat → Int32) × (Nat → Int32) × (Nat → Int32)
  | 0, _, _, _, _, _, _ => default
  | n + 1, v46_4, v46_5, v46_6, v46_7, o_above_46, o_below_46 => if (o_road_f 2) ≤ v46_7 then (k_17 (upd o_partsOf_f_17 ((2 * v11_2) + v17_3).toNatClampNeg v46_5) (upd o_sent_f_17 ((2 * v11_2) + v17_3).toNatClampNeg v46_6) (upd o_topOf_f_17 ((2 * v11_2) + v17_3).toNatClampNeg v46_4) (v17_3 + 1) o_above_46 o_below_46) else (if ((v11_2 >>> (v46_7 &&& 31)) &&& 1) = 0 then (xlet (if v17_3 = 0 then (if 0 ≤ (((o_topOf_f_17 (((2 * (v11_2 ||| ((1 : Int32) <<< (v46_7 &&& 31)))) + 1) - v17_3).toNatClampNeg) * v46_5) - (v46_4 * (o_partsOf_f_17 (((2 * (v11_2 ||| ((1 : Int32) <<< (v46_7 &&& 31)))) + 1) - v17_3).toNatClampNeg))) then (0 : Int32) else 1) else (if (((o_topOf_f_17 (((2 * (v11_2 ||| ((1 : Int32) <<< (v46_7 &&& 31)))) + 1) - v17_3).toNatClampNeg) * v46_5) - (v46_4 * (o_partsOf_f_17 (((2 * (v11_2 ||| ((1 : Int32) <<< (v46_7 &&& 31)))) + 1) - v17_3).toNatClampNeg))) ≤ 0 then 0 else 1)) (fun y_3 => if y_3 = 0 then (if (((o_topOf_f_17 (((2 * (v11_2 ||| ((1 : Int32) <<< (v46_7 &&& 31)))) + 1) - v17_3).toNatClampNeg) * v46_5) - (v46_4 * (o_partsOf_f_17 (((2 * (v11_2 ||| ((1 : Int32) <<< (v46_7 &&& 31)))) + 1) - v17_3).toNatClampNeg))) = 0 then (if v46_6 = (-1) then (fX9_layTurns_46 o_road_f v11_2 v17_3 o_topOf_f_17 o_partsOf_f_17 o_sent_f_17 k_17 n (o_topOf_f_17 (((2 * (v11_2 ||| ((1 : Int32) <<< (v46_7 &&& 31)))) + 1) - v17_3).toNatClampNeg) (o_partsOf_f_17 (((2 * (v11_2 ||| ((1 : Int32) <<< (v46_7 &&& 31)))) + 1) - v17_3).toNatClampNeg) v46_7 (v46_7 + 1) o_above_46 o_below_46) else (fX9_layTurns_46 o_road_f v11_2 v17_3 o_topOf_f_17 o_partsOf_f_17 o_sent_f_17 k_17 n v46_4 v46_5 v46_6 (v46_7 + 1) o_above_46 o_below_46)) else (fX9_layTurns_46 o_road_f v11_2 v17_3 o_topOf_f_17 o_partsOf_f_17 o_sent_f_17 k_17 n v46_4 v46_5 v46_6 (v46_7 + 1) o_above_46 o_below_46)) else (fX9_layTurns_46 o_road_f v11_2 v17_3 o_topOf_f_17 o_partsOf_f_17 o_sent_f_17 k_17 n (o_topOf_f_17 (((2 * (v11_2 ||| ((1 : Int32) <<< (v46_7 &&& 31)))) + 1) - v17_3).toNatClampNeg) (o_partsOf_f_17 (((2 * (v11_2 ||| ((1 : Int32) <<< (v46_7 &&& 31)))) + 1) - v17_3).toNatClampNeg) v46_7 (v46_7 + 1) o_above_46 o_below_46))) else (fX9_layTurns_46 o_road_f v11_2 v17_3 o_topOf_f_17 o_partsOf_f_17 o_sent_f_17 k_17 n v46_4 v46_5 v46_6 (v46_7 + 1) o_above_46 o_below_46))
def fX9_layTurns_17 (a1 : Int32) (o_road_f : Nat → Int32) (v11_2 : Int32) (k_11 : (Nat → Int32) → (Nat → Int32) → (Nat → Int32) → Int32 → Int32 → Int32 → Int32 × Int32 × (Nat → Int32) × (Nat → Int32) × (Nat → Int32)) : Nat → (Nat → Int32) → (Nat → Int32) → (Nat → Int32) → Int32 → Int32 → Int32 → Int32 × Int32 × (Nat → Int32) × (Nat → Int32) × (Nat → Int32)
  | 0, _, _, _, _, _, _ => default
  | n + 1, o_partsOf_f_17, o_sent_f_17, o_topOf_f_17, v17_3, o_above_17, o_below_17 => if 2 ≤ v17_3 then (k_11 o_partsOf_f_17 o_sent_f_17 o_topOf_f_17 (v11_2 + (-1)) o_above_17 o_below_17) else (match fX9_layPlace v11_2 a1 o_road_f with | (u1, u2) => fX9_layTurns_46 o_road_f v11_2 v17_3 o_topOf_f_17 o_partsOf_f_17 o_sent_f_17 (fun o_partsOf_f_17 o_sent_f_17 o_topOf_f_17 v17_3 o_above_17 o_below_17 => fX9_layTurns_17 a1 o_road_f v11_2 k_11 n o_partsOf_f_17 o_sent_f_17 o_topOf_f_17 v17_3 o_above_17 o_below_17) 1000 u1 u2 (-1) 0 u1 u2)
def fX9_layTurns_11 (a1 : Int32) (o_road_f : Nat → Int32)  : Nat → (Nat → Int32) → (Nat → Int32) → (Nat → Int32) → Int32 → Int32 → Int32 → Int32 × Int32 × (Nat → Int32) × (Nat → Int32) × (Nat → Int32)
  | 0, _, _, _, _, _, _ => default
  | n + 1, o_partsOf_f_11, o_sent_f_11, o_topOf_f_11, v11_2, o_above_11, o_below_11 => if v11_2 < 0 then ((o_above_11, o_below_11, o_topOf_f_11, o_partsOf_f_11, o_sent_f_11)) else (fX9_layTurns_17 a1 o_road_f v11_2 (fun o_partsOf_f_11 o_sent_f_11 o_topOf_f_11 v11_2 o_above_11 o_below_11 => fX9_layTurns_11 a1 o_road_f n o_partsOf_f_11 o_sent_f_11 o_topOf_f_11 v11_2 o_above_11 o_below_11) 1000 o_partsOf_f_11 o_sent_f_11 o_topOf_f_11 0 o_above_11 o_below_11)
def fX9_layTurns (a1 : Int32) (o_above : Int32) (o_below : Int32) (o_road_f : Nat → Int32) (o_topOf_f : Nat → Int32) (o_partsOf_f : Nat → Int32) (o_sent_f : Nat → Int32) : Int32 × Int32 × (Nat → Int32) × (Nat → Int32) × (Nat → Int32) := fX9_layTurns_11 a1 o_road_f 1000 o_partsOf_f o_sent_f o_topOf_f (((1 : Int32) <<< ((o_road_f 2) &&& 31)) - 1) o_above o_below
set_option maxHeartbeats 4000000 in
set_option maxRecDepth 100000 in
theorem c_X9_layTurns (l : Launch) (D : va_G) (cI cZ : ClassId) (sz : Nat) (o : Nat) (a1 : Int32) (o_road : Nat) (o_told : Nat) (o_fresh : Nat) (o_was : Nat) (o_acts : Int32) (o_kept : Nat) (o_isKept : Nat) (o_sights : Nat) (o_many : Int32) (o_text : Nat) (o_letters : Int32) (o_thrown : Int32) (o_cursor : Int32) (o_token : Int32) (o_start : Int32) (o_value : Int64) (o_isFault : Int32) (o_faultAt : Int32) (o_above : Int32) (o_below : Int32) (o_topOf : Nat) (o_partsOf : Nat) (o_sent : Nat) (o_road_f : Nat → Int32) (o_topOf_f : Nat → Int32) (o_partsOf_f : Nat → Int32) (o_sent_f : Nat → Int32) (hn0 : 4 ≤ (o_road_f 0).toInt) (hn1 : (o_road_f 0).toInt ≤ 20) (hv0 : 0 ≤ (o_road_f 2).toInt) (hv6 : (o_road_f 2).toInt ≤ 6) (hhab : ∀ w : Int32, 0 ≤ w.toInt → w.toInt < (o_road_f 2).toInt → ¬ o_road_f (30 + w).toNatClampNeg = 0) : Met l yX9_layTurns wsX9_layTurns ({ frames := 5, cells := 0, slots := 0, locals := 119 } : Room) (va_Pc [.ref o, .int a1] (xP D cI cZ [(o, .inr (9, [.ref o_road, .ref o_told, .ref o_fresh, .ref o_was, .int o_acts, .ref o_kept, .ref o_isKept, .ref o_sights, .int o_many, .ref o_text, .int o_letters, .int o_thrown, .int o_cursor, .int o_token, .int o_start, .long o_value, .int o_isFault, .int o_faultAt, .int o_above, .int o_below, .ref o_topOf, .ref o_partsOf, .ref o_sent])), (o_road, .inl (cI, 36, .inl o_road_f)), (o_topOf, .inl (cI, 128, .inl o_topOf_f)), (o_partsOf, .inl (cI, 128, .inl o_partsOf_f)), (o_sent, .inl (cI, 128, .inl o_sent_f))] sz)) (va_Qv (fun (u : Int32 × Int32 × (Nat → Int32) × (Nat → Int32) × (Nat → Int32)) => u = fX9_layTurns a1 o_above o_below o_road_f o_topOf_f o_partsOf_f o_sent_f) (fun (u : Int32 × Int32 × (Nat → Int32) × (Nat → Int32) × (Nat → Int32)) t => xB D cI cZ [(o, .inr (9, [.ref o_road, .ref o_told, .ref o_fresh, .ref o_was, .int o_acts, .ref o_kept, .ref o_isKept, .ref o_sights, .int o_many, .ref o_text, .int o_letters, .int o_thrown, .int o_cursor, .int o_token, .int o_start, .long o_value, .int o_isFault, .int o_faultAt, .int u.1, .int u.2.1, .ref o_topOf, .ref o_partsOf, .ref o_sent])), (o_road, .inl (cI, 36, .inl o_road_f)), (o_topOf, .inl (cI, 128, .inl u.2.2.1)), (o_partsOf, .inl (cI, 128, .inl u.2.2.2.1)), (o_sent, .inl (cI, 128, .inl u.2.2.2.2))] (va_A [(o, .inr (9, [.ref o_road, .ref o_told, .ref o_fresh, .ref o_was, .int o_acts, .ref o_kept, .ref o_isKept, .ref o_sights, .int o_many, .ref o_text, .int o_letters, .int o_thrown, .int o_cursor, .int o_token, .int o_start, .long o_value, .int o_isFault, .int o_faultAt, .int o_above, .int o_below, .ref o_topOf, .ref o_partsOf, .ref o_sent])), (o_road, .inl (cI, 36, .inl o_road_f)), (o_topOf, .inl (cI, 128, .inl o_topOf_f)), (o_partsOf, .inl (cI, 128, .inl o_partsOf_f)), (o_sent, .inl (cI, 128, .inl o_sent_f))] sz) t) (va_A [(o, .inr (9, [.ref o_road, .ref o_told, .ref o_fresh, .ref o_was, .int o_acts, .ref o_kept, .ref o_isKept, .ref o_sights, .int o_many, .ref o_text, .int o_letters, .int o_thrown, .int o_cursor, .int o_token, .int o_start, .long o_value, .int o_isFault, .int o_faultAt, .int o_above, .int o_below, .ref o_topOf, .ref o_partsOf, .ref o_sent])), (o_road, .inl (cI, 36, .inl o_road_f)), (o_topOf, .inl (cI, 128, .inl o_topOf_f)), (o_partsOf, .inl (cI, 128, .inl o_partsOf_f)), (o_sent, .inl (cI, 128, .inl o_sent_f))] sz)) 0 0 (va_A [(o, .inr (9, [.ref o_road, .ref o_told, .ref o_fresh, .ref o_was, .int o_acts, .ref o_kept, .ref o_isKept, .ref o_sights, .int o_many, .ref o_text, .int o_letters, .int o_thrown, .int o_cursor, .int o_token, .int o_start, .long o_value, .int o_isFault, .int o_faultAt, .int o_above, .int o_below, .ref o_topOf, .ref o_partsOf, .ref o_sent])), (o_road, .inl (cI, 36, .inl o_road_f)), (o_topOf, .inl (cI, 128, .inl o_topOf_f)), (o_partsOf, .inl (cI, 128, .inl o_partsOf_f)), (o_sent, .inl (cI, 128, .inl o_sent_f))] sz) := by
  refine Met.ofW (cc := cX9_layTurns) (maxL := 11) (ret := none) (by decide) rfl ?_
  intro p e s m args below meth c s₁ B hml hv
  obtain ⟨hargs, hsz, hP, hK, hD0, hE⟩ := hv
  subst hargs
  have hx := B.exec
  have hb := B.bytes
  have hr := B.returns
  have hts := atoms_spec (ws := wsX9_layTurns) B.pre
  have hown : s.vm.findClass RX9 = some m.cls := findClass_of_methodNamed B.named
  have hlocks := B.notSynchronized
  subst hsz
  have hD := hD0.self (sz := s.heap.size)
  generalize hAe : va_A [(o, .inr (9, [.ref o_road, .ref o_told, .ref o_fresh, .ref o_was, .int o_acts, .ref o_kept, .ref o_isKept, .ref o_sights, .int o_many, .ref o_text, .int o_letters, .int o_thrown, .int o_cursor, .int o_token, .int o_start, .long o_value, .int o_isFault, .int o_faultAt, .int o_above, .int o_below, .ref o_topOf, .ref o_partsOf, .ref o_sent])), (o_road, .inl (cI, 36, .inl o_road_f)), (o_topOf, .inl (cI, 128, .inl o_topOf_f)), (o_partsOf, .inl (cI, 128, .inl o_partsOf_f)), (o_sent, .inl (cI, 128, .inl o_sent_f))] s.heap.size = A at hD ⊢
  have hA : ∀ q : Nat, s.heap.size ≤ q → A q := fun q h => by rw [← hAe]; exact Or.inr h
  have hS : va_S A s.heap s.heap [] := va_S.rf
  have hl := lv_entry ([.ref o, .int a1]) (n := 11) (Nat.le_of_ble_eq_true rfl)
  rw [lg_entry_eq]
  generalize (lg_sl ([.ref o, .int a1]) ++ List.replicate (11 - (lg_sl ([.ref o, .int a1])).length) Slot.unset).toArray = ls at hl ⊢
  have hl : lv_has ls 11 [(0, .ref o), (1, .int a1)] := hl
  refine wq (X := fun Q => ∀ (pc : Nat) (H : Heap) (locs : List Loc) (ls : Array Slot) (u : Int32 × Int32 × (Nat → Int32) × (Nat → Int32) × (Nat → Int32)) (hd : decode cX9_layTurns pc = .ok (.return_, 1)) (hp : u = fX9_layTurns a1 o_above o_below o_road_f o_topOf_f o_partsOf_f o_sent_f) (hP : va_P D vwCl [(o, .inr (9, [.ref o_road, .ref o_told, .ref o_fresh, .ref o_was, .int o_acts, .ref o_kept, .ref o_isKept, .ref o_sights, .int o_many, .ref o_text, .int o_letters, .int o_thrown, .int o_cursor, .int o_token, .int o_start, .long o_value, .int o_isFault, .int o_faultAt, .int u.1, .int u.2.1, .ref o_topOf, .ref o_partsOf, .ref o_sent])), (o_road, .inl (cI, 36, .inl o_road_f)), (o_topOf, .inl (cI, 128, .inl u.2.2.1)), (o_partsOf, .inl (cI, 128, .inl u.2.2.2.1)), (o_sent, .inl (cI, 128, .inl u.2.2.2.2))] H) (hD : va_D A [(o, .inr (9, [.ref o_road, .ref o_told, .ref o_fresh, .ref o_was, .int o_acts, .ref o_kept, .ref o_isKept, .ref o_sights, .int o_many, .ref o_text, .int o_letters, .int o_thrown, .int o_cursor, .int o_token, .int o_start, .long o_value, .int o_isFault, .int o_faultAt, .int u.1, .int u.2.1, .ref o_topOf, .ref o_partsOf, .ref o_sent])), (o_road, .inl (cI, 36, .inl o_road_f)), (o_topOf, .inl (cI, 128, .inl u.2.2.1)), (o_partsOf, .inl (cI, 128, .inl u.2.2.2.1)), (o_sent, .inl (cI, 128, .inl u.2.2.2.2))]) (hS : va_S A s.heap H locs), W p l e ({ frames := 5, cells := 0, slots := 0, locals := 119 } : Room) s m ([.ref o, .int a1] : List Value).toArray below meth c H locs 0 0 Q (F0 m pc ls [])) ?_ (fun Q hret => ?_)
  · intro pc H locs ls u hd hp hP hD hS
    exact W.vret hx hb hr (fun t ht hW => ⟨⟨u, rfl, hp, by rw [ht]; exact hP, va_K.moved hW.alike hK, hD⟩, hS.F ht⟩) hS.2.2 hd
  have hin_9 : ∀ w ∈ u_ws RX9 TX9 23, w ∈ wsX9_layTurns := by decide +kernel
  have fl_7 := hts (.fieldLink RX9 7 "MileRoadModel" "road" "[I") (by decide +kernel)
  have fl_35 := hts (.fieldLink RX9 35 "MileRoadModel" "topOf" "[I") (by decide +kernel)
  have fl_38 := hts (.fieldLink RX9 38 "MileRoadModel" "partsOf" "[I") (by decide +kernel)
  have fl_41 := hts (.fieldLink RX9 41 "MileRoadModel" "sent" "[I") (by decide +kernel)
  have fl_166 := hts (.fieldLink RX9 166 "MileRoadModel" "above" "I") (by decide +kernel)
  have fl_169 := hts (.fieldLink RX9 169 "MileRoadModel" "below" "I") (by decide +kernel)
  have zl_m1 : ((-1) : Int32).toInt = (-1) := by decide
  have zl_0 : (0 : Int32).toInt = 0 := by decide
  have zl_1 : (1 : Int32).toInt = 1 := by decide
  have zl_2 : (2 : Int32).toInt = 2 := by decide
  have zs := t_shl hv0 hv6
  have hF : fX9_layTurns a1 o_above o_below o_road_f o_topOf_f o_partsOf_f o_sent_f = fX9_layTurns a1 o_above o_below o_road_f o_topOf_f o_partsOf_f o_sent_f := rfl
  have L_11 : ∀  (n_11 : Nat) (o_partsOf_f_11 : Nat → Int32) (o_sent_f_11 : Nat → Int32) (o_topOf_f_11 : Nat → Int32) (v11_2 : Int32) (o_above_11 : Int32) (o_below_11 : Int32) (h1_11 : -1 ≤ v11_2.toInt) (h2_11 : v11_2.toInt ≤ 63) (hm : v11_2.toInt + 1 < (n_11 : Int)) (H : Heap) (locs : List Loc) (ls : Array Slot) (hl : lv_has ls 11 [(0, .ref o), (1, .int a1), (2, .int v11_2)]) (hP : va_P D vwCl [(o, .inr (9, [.ref o_road, .ref o_told, .ref o_fresh, .ref o_was, .int o_acts, .ref o_kept, .ref o_isKept, .ref o_sights, .int o_many, .ref o_text, .int o_letters, .int o_thrown, .int o_cursor, .int o_token, .int o_start, .long o_value, .int o_isFault, .int o_faultAt, .int o_above_11, .int o_below_11, .ref o_topOf, .ref o_partsOf, .ref o_sent])), (o_road, .inl (cI, 36, .inl o_road_f)), (o_topOf, .inl (cI, 128, .inl o_topOf_f_11)), (o_partsOf, .inl (cI, 128, .inl o_partsOf_f_11)), (o_sent, .inl (cI, 128, .inl o_sent_f_11))] H) (hD : va_D A [(o, .inr (9, [.ref o_road, .ref o_told, .ref o_fresh, .ref o_was, .int o_acts, .ref o_kept, .ref o_isKept, .ref o_sights, .int o_many, .ref o_text, .int o_letters, .int o_thrown, .int o_cursor, .int o_token, .int o_start, .long o_value, .int o_isFault, .int o_faultAt, .int o_above_11, .int o_below_11, .ref o_topOf, .ref o_partsOf, .ref o_sent])), (o_road, .inl (cI, 36, .inl o_road_f)), (o_topOf, .inl (cI, 128, .inl o_topOf_f_11)), (o_partsOf, .inl (cI, 128, .inl o_partsOf_f_11)), (o_sent, .inl (cI, 128, .inl o_sent_f_11))]) (hS : va_S A s.heap H locs) (hF : fX9_layTurns a1 o_above o_below o_road_f o_topOf_f o_partsOf_f o_sent_f = fX9_layTurns_11 a1 o_road_f n_11 o_partsOf_f_11 o_sent_f_11 o_topOf_f_11 v11_2 o_above_11 o_below_11), W p l e ({ frames := 5, cells := 0, slots := 0, locals := 119 } : Room) s m ([.ref o, .int a1] : List Value).toArray below meth c H locs 0 0 Q (F0 m 11 ls []) := by
    intro  n_11
    induction n_11 with
    | zero =>
      intro o_partsOf_f_11 o_sent_f_11 o_topOf_f_11 v11_2 o_above_11 o_below_11 h1_11 h2_11 hm H locs ls hl hP hD hS hF
      exact absurd hm (by with_reducible omega)
    | succ n_11 ih_11 =>
      intro o_partsOf_f_11 o_sent_f_11 o_topOf_f_11 v11_2 o_above_11 o_below_11 h1_11 h2_11 hm H locs ls hl hP hD hS hF
      have L_17 : ∀ (k_11 : (Nat → Int32) → (Nat → Int32) → (Nat → Int32) → Int32 → Int32 → Int32 → Int32 × Int32 × (Nat → Int32) × (Nat → Int32) × (Nat → Int32)) (hk_11 : ∀ (o_partsOf_f_11 : Nat → Int32) (o_sent_f_11 : Nat → Int32) (o_topOf_f_11 : Nat → Int32) (v11_2 : Int32) (o_above_11 : Int32) (o_below_11 : Int32), k_11 o_partsOf_f_11 o_sent_f_11 o_topOf_f_11 v11_2 o_above_11 o_below_11 = fX9_layTurns_11 a1 o_road_f n_11 o_partsOf_f_11 o_sent_f_11 o_topOf_f_11 v11_2 o_above_11 o_below_11) (n_17 : Nat) (o_partsOf_f_17 : Nat → Int32) (o_sent_f_17 : Nat → Int32) (o_topOf_f_17 : Nat → Int32) (v17_3 : Int32) (o_above_17 : Int32) (o_below_17 : Int32) (h1_17 : 0 ≤ v17_3.toInt) (h2_17 : v17_3.toInt ≤ 2) (hs0 : 0 ≤ v11_2.toInt) (hsn : v11_2.toInt < (n_11 : Int)) (hm : 2 - v17_3.toInt < (n_17 : Int)) (H : Heap) (locs : List Loc) (ls : Array Slot) (hl : lv_has ls 11 [(0, .ref o), (1, .int a1), (2, .int v11_2), (3, .int v17_3)]) (hP : va_P D vwCl [(o, .inr (9, [.ref o_road, .ref o_told, .ref o_fresh, .ref o_was, .int o_acts, .ref o_kept, .ref o_isKept, .ref o_sights, .int o_many, .ref o_text, .int o_letters, .int o_thrown, .int o_cursor, .int o_token, .int o_start, .long o_value, .int o_isFault, .int o_faultAt, .int o_above_17, .int o_below_17, .ref o_topOf, .ref o_partsOf, .ref o_sent])), (o_road, .inl (cI, 36, .inl o_road_f)), (o_topOf, .inl (cI, 128, .inl o_topOf_f_17)), (o_partsOf, .inl (cI, 128, .inl o_partsOf_f_17)), (o_sent, .inl (cI, 128, .inl o_sent_f_17))] H) (hD : va_D A [(o, .inr (9, [.ref o_road, .ref o_told, .ref o_fresh, .ref o_was, .int o_acts, .ref o_kept, .ref o_isKept, .ref o_sights, .int o_many, .ref o_text, .int o_letters, .int o_thrown, .int o_cursor, .int o_token, .int o_start, .long o_value, .int o_isFault, .int o_faultAt, .int o_above_17, .int o_below_17, .ref o_topOf, .ref o_partsOf, .ref o_sent])), (o_road, .inl (cI, 36, .inl o_road_f)), (o_topOf, .inl (cI, 128, .inl o_topOf_f_17)), (o_partsOf, .inl (cI, 128, .inl o_partsOf_f_17)), (o_sent, .inl (cI, 128, .inl o_sent_f_17))]) (hS : va_S A s.heap H locs) (hF : fX9_layTurns a1 o_above o_below o_road_f o_topOf_f o_partsOf_f o_sent_f = fX9_layTurns_17 a1 o_road_f v11_2 k_11 n_17 o_partsOf_f_17 o_sent_f_17 o_topOf_f_17 v17_3 o_above_17 o_below_17), W p l e ({ frames := 5, cells := 0, slots := 0, locals := 119 } : Room) s m ([.ref o, .int a1] : List Value).toArray below meth c H locs 0 0 Q (F0 m 17 ls []) := by
        intro k_11 hk_11 n_17
        induction n_17 with
        | zero =>
          intro o_partsOf_f_17 o_sent_f_17 o_topOf_f_17 v17_3 o_above_17 o_below_17 h1_17 h2_17 hs0 hsn hm H locs ls hl hP hD hS hF
          exact absurd hm (by with_reducible omega)
        | succ n_17 ih_17 =>
          intro o_partsOf_f_17 o_sent_f_17 o_topOf_f_17 v17_3 o_above_17 o_below_17 h1_17 h2_17 hs0 hsn hm H locs ls hl hP hD hS hF
          have L_46 : ∀ (k_17 : (Nat → Int32) → (Nat → Int32) → (Nat → Int32) → Int32 → Int32 → Int32 → Int32 × Int32 × (Nat → Int32) × (Nat → Int32) × (Nat → Int32)) (hk_17 : ∀ (o_partsOf_f_17 : Nat → Int32) (o_sent_f_17 : Nat → Int32) (o_topOf_f_17 : Nat → Int32) (v17_3 : Int32) (o_above_17 : Int32) (o_below_17 : Int32), k_17 o_partsOf_f_17 o_sent_f_17 o_topOf_f_17 v17_3 o_above_17 o_below_17 = fX9_layTurns_17 a1 o_road_f v11_2 k_11 n_17 o_partsOf_f_17 o_sent_f_17 o_topOf_f_17 v17_3 o_above_17 o_below_17) (n_46 : Nat) (v46_4 : Int32) (v46_5 : Int32) (v46_6 : Int32) (v46_7 : Int32) (o_above_46 : Int32) (o_below_46 : Int32) (h1_46 : 0 ≤ v46_7.toInt) (h2_46 : v46_7.toInt ≤ 6) (ht : v17_3.toInt ≤ 1) (hm : 6 - v46_7.toInt < (n_46 : Int)) (H : Heap) (locs : List Loc) (ls : Array Slot) (hl : lv_has ls 11 [(0, .ref o), (1, .int a1), (2, .int v11_2), (3, .int v17_3), (4, .int v46_4), (5, .int v46_5), (6, .int v46_6), (7, .int v46_7)]) (hP : va_P D vwCl [(o, .inr (9, [.ref o_road, .ref o_told, .ref o_fresh, .ref o_was, .int o_acts, .ref o_kept, .ref o_isKept, .ref o_sights, .int o_many, .ref o_text, .int o_letters, .int o_thrown, .int o_cursor, .int o_token, .int o_start, .long o_value, .int o_isFault, .int o_faultAt, .int o_above_46, .int o_below_46, .ref o_topOf, .ref o_partsOf, .ref o_sent])), (o_road, .inl (cI, 36, .inl o_road_f)), (o_topOf, .inl (cI, 128, .inl o_topOf_f_17)), (o_partsOf, .inl (cI, 128, .inl o_partsOf_f_17)), (o_sent, .inl (cI, 128, .inl o_sent_f_17))] H) (hD : va_D A [(o, .inr (9, [.ref o_road, .ref o_told, .ref o_fresh, .ref o_was, .int o_acts, .ref o_kept, .ref o_isKept, .ref o_sights, .int o_many, .ref o_text, .int o_letters, .int o_thrown, .int o_cursor, .int o_token, .int o_start, .long o_value, .int o_isFault, .int o_faultAt, .int o_above_46, .int o_below_46, .ref o_topOf, .ref o_partsOf, .ref o_sent])), (o_road, .inl (cI, 36, .inl o_road_f)), (o_topOf, .inl (cI, 128, .inl o_topOf_f_17)), (o_partsOf, .inl (cI, 128, .inl o_partsOf_f_17)), (o_sent, .inl (cI, 128, .inl o_sent_f_17))]) (hS : va_S A s.heap H locs) (hF : fX9_layTurns a1 o_above o_below o_road_f o_topOf_f o_partsOf_f o_sent_f = fX9_layTurns_46 o_road_f v11_2 v17_3 o_topOf_f_17 o_partsOf_f_17 o_sent_f_17 k_17 n_46 v46_4 v46_5 v46_6 v46_7 o_above_46 o_below_46), W p l e ({ frames := 5, cells := 0, slots := 0, locals := 119 } : Room) s m ([.ref o, .int a1] : List Value).toArray below meth c H locs 0 0 Q (F0 m 46 ls []) := by
            intro k_17 hk_17 n_46
            induction n_46 with
            | zero =>
              intro v46_4 v46_5 v46_6 v46_7 o_above_46 o_below_46 h1_46 h2_46 ht hm H locs ls hl hP hD hS hF
              exact absurd hm (by with_reducible omega)
            | succ n_46 ih_46 =>
              intro v46_4 v46_5 v46_6 v46_7 o_above_46 o_below_46 h1_46 h2_46 ht hm H locs ls hl hP hD hS hF
              refine lv_iload hx hb dX9_layTurns_46 (lv_at hl 7 rfl) ?_
              refine lv_aload_n hx hb dX9_layTurns_48 rfl (lv_at hl 0 rfl) ?_
              refine xget hx hb hts hown hK 9 (C2 := RX9) (T := TX9) (N := 23) rfl hin_9 hP 0 rfl 0 (by decide) fl_7 rfl rfl rfl dX9_layTurns_49 ?_
              refine lv_iconst (v := 2) hx hb dX9_layTurns_52 (by decide) ?_
              refine xald hx hb hK hP 1 0 (k := 2) rfl rfl (vi (by decide) (by decide)) (by decide) dX9_layTurns_53 ?_
              refine lv_icmp_ge (tgt := 176) hx hb dX9_layTurns_54 (by decide) (fun c_3 => ?_) (fun c_3 => ?_)
              · have kc_3 := t_le c_3
                refine lv_aload_n hx hb dX9_layTurns_176 rfl (lv_at hl 0 rfl) ?_
                refine xget hx hb hts hown hK 9 (C2 := RX9) (T := TX9) (N := 23) rfl hin_9 hP 0 rfl 20 (by decide) fl_35 rfl rfl rfl dX9_layTurns_177 ?_
                refine lv_iconst (v := 2) hx hb dX9_layTurns_180 (by decide) ?_
                refine lv_iload_n hx hb dX9_layTurns_181 rfl (lv_at hl 2 rfl) ?_
                refine lv_imul hx hb dX9_layTurns_182 ?_
                refine lv_iload_n hx hb dX9_layTurns_183 rfl (lv_at hl 3 rfl) ?_
                refine lv_iadd hx hb dX9_layTurns_184 ?_
                refine lv_iload hx hb dX9_layTurns_185 (lv_at hl 4 rfl) ?_
                have z_2 : (2 * v11_2).toInt = 2 * v11_2.toInt := z_mul 2 rfl (by with_reducible omega) (by with_reducible omega)
                have z_3 : ((2 * v11_2) + v17_3).toInt = (2 * v11_2).toInt + v17_3.toInt := z_add (by with_reducible omega) (by with_reducible omega)
                refine xast hx hb hK hP hD hS 2 0 (k := ((2 * v11_2) + v17_3).toNatClampNeg) rfl rfl (vi (by with_reducible omega) (by with_reducible omega)) rfl dX9_layTurns_187 [(o, .inr (9, [.ref o_road, .ref o_told, .ref o_fresh, .ref o_was, .int o_acts, .ref o_kept, .ref o_isKept, .ref o_sights, .int o_many, .ref o_text, .int o_letters, .int o_thrown, .int o_cursor, .int o_token, .int o_start, .long o_value, .int o_isFault, .int o_faultAt, .int o_above_46, .int o_below_46, .ref o_topOf, .ref o_partsOf, .ref o_sent])), (o_road, .inl (cI, 36, .inl o_road_f)), (o_topOf, .inl (cI, 128, .inl (upd o_topOf_f_17 ((2 * v11_2) + v17_3).toNatClampNeg v46_4))), (o_partsOf, .inl (cI, 128, .inl o_partsOf_f_17)), (o_sent, .inl (cI, 128, .inl o_sent_f_17))] rfl (fun H locs hP hD hS => ?_)
                refine lv_aload_n hx hb dX9_layTurns_188 rfl (lv_at hl 0 rfl) ?_
                refine xget hx hb hts hown hK 9 (C2 := RX9) (T := TX9) (N := 23) rfl hin_9 hP 0 rfl 21 (by decide) fl_38 rfl rfl rfl dX9_layTurns_189 ?_
                refine lv_iconst (v := 2) hx hb dX9_layTurns_192 (by decide) ?_
                refine lv_iload_n hx hb dX9_layTurns_193 rfl (lv_at hl 2 rfl) ?_
                refine lv_imul hx hb dX9_layTurns_194 ?_
                refine lv_iload_n hx hb dX9_layTurns_195 rfl (lv_at hl 3 rfl) ?_
                refine lv_iadd hx hb dX9_layTurns_196 ?_
                refine lv_iload hx hb dX9_layTurns_197 (lv_at hl 5 rfl) ?_
                refine xast hx hb hK hP hD hS 3 0 (k := ((2 * v11_2) + v17_3).toNatClampNeg) rfl rfl (vi (by with_reducible omega) (by with_reducible omega)) rfl dX9_layTurns_199 [(o, .inr (9, [.ref o_road, .ref o_told, .ref o_fresh, .ref o_was, .int o_acts, .ref o_kept, .ref o_isKept, .ref o_sights, .int o_many, .ref o_text, .int o_letters, .int o_thrown, .int o_cursor, .int o_token, .int o_start, .long o_value, .int o_isFault, .int o_faultAt, .int o_above_46, .int o_below_46, .ref o_topOf, .ref o_partsOf, .ref o_sent])), (o_road, .inl (cI, 36, .inl o_road_f)), (o_topOf, .inl (cI, 128, .inl (upd o_topOf_f_17 ((2 * v11_2) + v17_3).toNatClampNeg v46_4))), (o_partsOf, .inl (cI, 128, .inl (upd o_partsOf_f_17 ((2 * v11_2) + v17_3).toNatClampNeg v46_5))), (o_sent, .inl (cI, 128, .inl o_sent_f_17))] rfl (fun H locs hP hD hS => ?_)
                refine lv_aload_n hx hb dX9_layTurns_200 rfl (lv_at hl 0 rfl) ?_
                refine xget hx hb hts hown hK 9 (C2 := RX9) (T := TX9) (N := 23) rfl hin_9 hP 0 rfl 22 (by decide) fl_41 rfl rfl rfl dX9_layTurns_201 ?_
                refine lv_iconst (v := 2) hx hb dX9_layTurns_204 (by decide) ?_
                refine lv_iload_n hx hb dX9_layTurns_205 rfl (lv_at hl 2 rfl) ?_
                refine lv_imul hx hb dX9_layTurns_206 ?_
                refine lv_iload_n hx hb dX9_layTurns_207 rfl (lv_at hl 3 rfl) ?_
                refine lv_iadd hx hb dX9_layTurns_208 ?_
                refine lv_iload hx hb dX9_layTurns_209 (lv_at hl 6 rfl) ?_
                refine xast hx hb hK hP hD hS 4 0 (k := ((2 * v11_2) + v17_3).toNatClampNeg) rfl rfl (vi (by with_reducible omega) (by with_reducible omega)) rfl dX9_layTurns_211 [(o, .inr (9, [.ref o_road, .ref o_told, .ref o_fresh, .ref o_was, .int o_acts, .ref o_kept, .ref o_isKept, .ref o_sights, .int o_many, .ref o_text, .int o_letters, .int o_thrown, .int o_cursor, .int o_token, .int o_start, .long o_value, .int o_isFault, .int o_faultAt, .int o_above_46, .int o_below_46, .ref o_topOf, .ref o_partsOf, .ref o_sent])), (o_road, .inl (cI, 36, .inl o_road_f)), (o_topOf, .inl (cI, 128, .inl (upd o_topOf_f_17 ((2 * v11_2) + v17_3).toNatClampNeg v46_4))), (o_partsOf, .inl (cI, 128, .inl (upd o_partsOf_f_17 ((2 * v11_2) + v17_3).toNatClampNeg v46_5))), (o_sent, .inl (cI, 128, .inl (upd o_sent_f_17 ((2 * v11_2) + v17_3).toNatClampNeg v46_6)))] rfl (fun H locs hP hD hS => ?_)
                refine lv_iinc (v := (v17_3 + 1)) (lv' := [(3, .int (v17_3 + 1)), (0, .ref o), (1, .int a1), (2, .int v11_2), (4, .int v46_4), (5, .int v46_5), (6, .int v46_6), (7, .int v46_7)]) hx hb dX9_layTurns_212 hl (k := 3) rfl (by rfl) (by decide) rfl (fun ls hl => ?_)
                refine lv_goto (tgt := 17) hx hb dX9_layTurns_215 (by decide) ?_
                have z_4 : (v17_3 + 1).toInt = v17_3.toInt + (1 : Int32).toInt := z_add (by with_reducible omega) (by with_reducible omega)
                exact ih_17 (upd o_partsOf_f_17 ((2 * v11_2) + v17_3).toNatClampNeg v46_5) (upd o_sent_f_17 ((2 * v11_2) + v17_3).toNatClampNeg v46_6) (upd o_topOf_f_17 ((2 * v11_2) + v17_3).toNatClampNeg v46_4) (v17_3 + 1) o_above_46 o_below_46 (by first | with_reducible assumption | with_reducible omega | decide | (split <;> rename_i hh <;> first | (have h9 := t_nlt hh; with_reducible omega) | (have h9 := t_lt hh; with_reducible omega) | (have h9 := t_nle hh; with_reducible omega) | (have h9 := t_le hh; with_reducible omega))) (by first | with_reducible assumption | with_reducible omega | decide | (split <;> rename_i hh <;> first | (have h9 := t_nlt hh; with_reducible omega) | (have h9 := t_lt hh; with_reducible omega) | (have h9 := t_nle hh; with_reducible omega) | (have h9 := t_le hh; with_reducible omega))) (by first | with_reducible assumption | with_reducible omega | decide | (split <;> rename_i hh <;> first | (have h9 := t_nlt hh; with_reducible omega) | (have h9 := t_lt hh; with_reducible omega) | (have h9 := t_nle hh; with_reducible omega) | (have h9 := t_le hh; with_reducible omega))) (by first | with_reducible assumption | with_reducible omega | decide | (split <;> rename_i hh <;> first | (have h9 := t_nlt hh; with_reducible omega) | (have h9 := t_lt hh; with_reducible omega) | (have h9 := t_nle hh; with_reducible omega) | (have h9 := t_le hh; with_reducible omega))) (by first | with_reducible assumption | with_reducible omega | decide | (split <;> rename_i hh <;> first | (have h9 := t_nlt hh; with_reducible omega) | (have h9 := t_lt hh; with_reducible omega) | (have h9 := t_nle hh; with_reducible omega) | (have h9 := t_le hh; with_reducible omega))) _ _ _ (lv_sub hl [1, 2, 3, 0] rfl) hP hD hS ((hF.trans (by simp only [fX9_layTurns_46, ↓if_pos c_3])).trans (hk_17 _ _ _ _ _ _))
              · have kc_3 := t_nle c_3
                refine lv_iload_n hx hb dX9_layTurns_57 rfl (lv_at hl 2 rfl) ?_
                refine lv_iload hx hb dX9_layTurns_58 (lv_at hl 7 rfl) ?_
                refine lv_ishr hx hb dX9_layTurns_60 ?_
                refine lv_iconst (v := 1) hx hb dX9_layTurns_61 (by decide) ?_
                refine lv_iand hx hb dX9_layTurns_62 ?_
                refine lv_if_ne (tgt := 170) hx hb dX9_layTurns_63 (by decide) (fun c_4 => ?_) (fun c_4 => ?_)
                · refine lv_iinc (v := (v46_7 + 1)) (lv' := [(7, .int (v46_7 + 1)), (0, .ref o), (1, .int a1), (2, .int v11_2), (3, .int v17_3), (4, .int v46_4), (5, .int v46_5), (6, .int v46_6)]) hx hb dX9_layTurns_170 hl (k := 7) rfl (by rfl) (by decide) rfl (fun ls hl => ?_)
                  refine lv_goto (tgt := 46) hx hb dX9_layTurns_173 (by decide) ?_
                  have z_5 : (v46_7 + 1).toInt = v46_7.toInt + (1 : Int32).toInt := z_add (by with_reducible omega) (by with_reducible omega)
                  exact ih_46 v46_4 v46_5 v46_6 (v46_7 + 1) o_above_46 o_below_46 (by first | with_reducible assumption | with_reducible omega | decide | (split <;> rename_i hh <;> first | (have h9 := t_nlt hh; with_reducible omega) | (have h9 := t_lt hh; with_reducible omega) | (have h9 := t_nle hh; with_reducible omega) | (have h9 := t_le hh; with_reducible omega))) (by first | with_reducible assumption | with_reducible omega | decide | (split <;> rename_i hh <;> first | (have h9 := t_nlt hh; with_reducible omega) | (have h9 := t_lt hh; with_reducible omega) | (have h9 := t_nle hh; with_reducible omega) | (have h9 := t_le hh; with_reducible omega))) (by first | with_reducible assumption | with_reducible omega | decide | (split <;> rename_i hh <;> first | (have h9 := t_nlt hh; with_reducible omega) | (have h9 := t_lt hh; with_reducible omega) | (have h9 := t_nle hh; with_reducible omega) | (have h9 := t_le hh; with_reducible omega))) (by first | with_reducible assumption | with_reducible omega | decide | (split <;> rename_i hh <;> first | (have h9 := t_nlt hh; with_reducible omega) | (have h9 := t_lt hh; with_reducible omega) | (have h9 := t_nle hh; with_reducible omega) | (have h9 := t_le hh; with_reducible omega))) _ _ _ (lv_sub hl [1, 2, 3, 4, 5, 6, 7, 0] rfl) hP hD hS (hF.trans (by simp only [fX9_layTurns_46, ↓if_neg c_3, ↓if_neg c_4]))
                · have hor := or_b hs0 h2_11 h1_46 (by with_reducible omega)
                  refine lv_iconst (v := 2) hx hb dX9_layTurns_66 (by decide) ?_
                  refine lv_iload_n hx hb dX9_layTurns_67 rfl (lv_at hl 2 rfl) ?_
                  refine lv_iconst (v := 1) hx hb dX9_layTurns_68 (by decide) ?_
                  refine lv_iload hx hb dX9_layTurns_69 (lv_at hl 7 rfl) ?_
                  refine lv_ishl hx hb dX9_layTurns_71 ?_
                  refine lv_ior hx hb dX9_layTurns_72 ?_
                  refine lv_imul hx hb dX9_layTurns_73 ?_
                  refine lv_iconst (v := 1) hx hb dX9_layTurns_74 (by decide) ?_
                  refine lv_iadd hx hb dX9_layTurns_75 ?_
                  refine lv_iload_n hx hb dX9_layTurns_76 rfl (lv_at hl 3 rfl) ?_
                  refine lv_isub hx hb dX9_layTurns_77 ?_
                  refine lv_istore (lv' := [(8, .int (((2 * (v11_2 ||| ((1 : Int32) <<< (v46_7 &&& 31)))) + 1) - v17_3)), (0, .ref o), (1, .int a1), (2, .int v11_2), (3, .int v17_3), (4, .int v46_4), (5, .int v46_5), (6, .int v46_6), (7, .int v46_7)]) hx hb dX9_layTurns_78 hl (by decide) rfl (fun ls hl => ?_)
                  refine lv_aload_n hx hb dX9_layTurns_80 rfl (lv_at hl 1 rfl) ?_
                  refine xget hx hb hts hown hK 9 (C2 := RX9) (T := TX9) (N := 23) rfl hin_9 hP 0 rfl 20 (by decide) fl_35 rfl rfl rfl dX9_layTurns_81 ?_
                  refine lv_iload hx hb dX9_layTurns_84 (lv_at hl 0 rfl) ?_
                  have z_6 : (2 * (v11_2 ||| ((1 : Int32) <<< (v46_7 &&& 31)))).toInt = 2 * (v11_2 ||| ((1 : Int32) <<< (v46_7 &&& 31))).toInt := z_mul 2 rfl (by with_reducible omega) (by with_reducible omega)
                  have z_7 : ((2 * (v11_2 ||| ((1 : Int32) <<< (v46_7 &&& 31)))) + 1).toInt = (2 * (v11_2 ||| ((1 : Int32) <<< (v46_7 &&& 31)))).toInt + (1 : Int32).toInt := z_add (by with_reducible omega) (by with_reducible omega)
                  have z_8 : (((2 * (v11_2 ||| ((1 : Int32) <<< (v46_7 &&& 31)))) + 1) - v17_3).toInt = ((2 * (v11_2 ||| ((1 : Int32) <<< (v46_7 &&& 31)))) + 1).toInt - v17_3.toInt := z_sub (by with_reducible omega) (by with_reducible omega)
                  refine xald hx hb hK hP 2 0 (k := (((2 * (v11_2 ||| ((1 : Int32) <<< (v46_7 &&& 31)))) + 1) - v17_3).toNatClampNeg) rfl rfl (vi (by with_reducible omega) (by with_reducible omega)) rfl dX9_layTurns_86 ?_
                  refine lv_iload hx hb dX9_layTurns_87 (lv_at hl 6 rfl) ?_
                  refine lv_imul hx hb dX9_layTurns_89 ?_
                  refine lv_iload hx hb dX9_layTurns_90 (lv_at hl 5 rfl) ?_
                  refine lv_aload_n hx hb dX9_layTurns_92 rfl (lv_at hl 1 rfl) ?_
                  refine xget hx hb hts hown hK 9 (C2 := RX9) (T := TX9) (N := 23) rfl hin_9 hP 0 rfl 21 (by decide) fl_38 rfl rfl rfl dX9_layTurns_93 ?_
                  refine lv_iload hx hb dX9_layTurns_96 (lv_at hl 0 rfl) ?_
                  refine xald hx hb hK hP 3 0 (k := (((2 * (v11_2 ||| ((1 : Int32) <<< (v46_7 &&& 31)))) + 1) - v17_3).toNatClampNeg) rfl rfl (vi (by with_reducible omega) (by with_reducible omega)) rfl dX9_layTurns_98 ?_
                  refine lv_imul hx hb dX9_layTurns_99 ?_
                  refine lv_isub hx hb dX9_layTurns_100 ?_
                  refine lv_istore (lv' := [(9, .int (((o_topOf_f_17 (((2 * (v11_2 ||| ((1 : Int32) <<< (v46_7 &&& 31)))) + 1) - v17_3).toNatClampNeg) * v46_5) - (v46_4 * (o_partsOf_f_17 (((2 * (v11_2 ||| ((1 : Int32) <<< (v46_7 &&& 31)))) + 1) - v17_3).toNatClampNeg)))), (8, .int (((2 * (v11_2 ||| ((1 : Int32) <<< (v46_7 &&& 31)))) + 1) - v17_3)), (0, .ref o), (1, .int a1), (2, .int v11_2), (3, .int v17_3), (4, .int v46_4), (5, .int v46_5), (6, .int v46_6), (7, .int v46_7)]) hx hb dX9_layTurns_101 hl (by decide) rfl (fun ls hl => ?_)
                  refine lv_iload_n hx hb dX9_layTurns_103 rfl (lv_at hl 5 rfl) ?_
                  have K_y_3 : ∀ (y_3 : Int32) (hy_y_3 : (if v17_3 = 0 then (if 0 ≤ (((o_topOf_f_17 (((2 * (v11_2 ||| ((1 : Int32) <<< (v46_7 &&& 31)))) + 1) - v17_3).toNatClampNeg) * v46_5) - (v46_4 * (o_partsOf_f_17 (((2 * (v11_2 ||| ((1 : Int32) <<< (v46_7 &&& 31)))) + 1) - v17_3).toNatClampNeg))) then (0 : Int32) else 1) else (if (((o_topOf_f_17 (((2 * (v11_2 ||| ((1 : Int32) <<< (v46_7 &&& 31)))) + 1) - v17_3).toNatClampNeg) * v46_5) - (v46_4 * (o_partsOf_f_17 (((2 * (v11_2 ||| ((1 : Int32) <<< (v46_7 &&& 31)))) + 1) - v17_3).toNatClampNeg))) ≤ 0 then 0 else 1)) = y_3) (H : Heap) (locs : List Loc) (hP : va_P D vwCl [(o, .inr (9, [.ref o_road, .ref o_told, .ref o_fresh, .ref o_was, .int o_acts, .ref o_kept, .ref o_isKept, .ref o_sights, .int o_many, .ref o_text, .int o_letters, .int o_thrown, .int o_cursor, .int o_token, .int o_start, .long o_value, .int o_isFault, .int o_faultAt, .int o_above_46, .int o_below_46, .ref o_topOf, .ref o_partsOf, .ref o_sent])), (o_road, .inl (cI, 36, .inl o_road_f)), (o_topOf, .inl (cI, 128, .inl o_topOf_f_17)), (o_partsOf, .inl (cI, 128, .inl o_partsOf_f_17)), (o_sent, .inl (cI, 128, .inl o_sent_f_17))] H) (hD : va_D A [(o, .inr (9, [.ref o_road, .ref o_told, .ref o_fresh, .ref o_was, .int o_acts, .ref o_kept, .ref o_isKept, .ref o_sights, .int o_many, .ref o_text, .int o_letters, .int o_thrown, .int o_cursor, .int o_token, .int o_start, .long o_value, .int o_isFault, .int o_faultAt, .int o_above_46, .int o_below_46, .ref o_topOf, .ref o_partsOf, .ref o_sent])), (o_road, .inl (cI, 36, .inl o_road_f)), (o_topOf, .inl (cI, 128, .inl o_topOf_f_17)), (o_partsOf, .inl (cI, 128, .inl o_partsOf_f_17)), (o_sent, .inl (cI, 128, .inl o_sent_f_17))]) (hS : va_S A s.heap H locs), W p l e ({ frames := 5, cells := 0, slots := 0, locals := 119 } : Room) s m ([.ref o, .int a1] : List Value).toArray below meth c H locs 0 0 Q (F0 m 130 ls [.int y_3]) := by
                    intro y_3 hy_y_3 H locs hP hD hS
                    have ky_y_3 : y_3 = 0 ∨ y_3 = 1 := by rw [← hy_y_3]; (repeat' split) <;> simp
                    refine lv_istore (lv' := [(10, .int y_3), (9, .int (((o_topOf_f_17 (((2 * (v11_2 ||| ((1 : Int32) <<< (v46_7 &&& 31)))) + 1) - v17_3).toNatClampNeg) * v46_5) - (v46_4 * (o_partsOf_f_17 (((2 * (v11_2 ||| ((1 : Int32) <<< (v46_7 &&& 31)))) + 1) - v17_3).toNatClampNeg)))), (8, .int (((2 * (v11_2 ||| ((1 : Int32) <<< (v46_7 &&& 31)))) + 1) - v17_3)), (0, .ref o), (1, .int a1), (2, .int v11_2), (3, .int v17_3), (4, .int v46_4), (5, .int v46_5), (6, .int v46_6), (7, .int v46_7)]) hx hb dX9_layTurns_130 hl (by decide) rfl (fun ls hl => ?_)
                    refine lv_iload hx hb dX9_layTurns_132 (lv_at hl 0 rfl) ?_
                    refine lv_if_ne (tgt := 148) hx hb dX9_layTurns_134 (by decide) (fun c_8 => ?_) (fun c_8 => ?_)
                    · have kc_8 := t_neq c_8
                      refine lv_aload_n hx hb dX9_layTurns_148 rfl (lv_at hl 3 rfl) ?_
                      refine xget hx hb hts hown hK 9 (C2 := RX9) (T := TX9) (N := 23) rfl hin_9 hP 0 rfl 20 (by decide) fl_35 rfl rfl rfl dX9_layTurns_149 ?_
                      refine lv_iload hx hb dX9_layTurns_152 (lv_at hl 2 rfl) ?_
                      refine xald hx hb hK hP 2 0 (k := (((2 * (v11_2 ||| ((1 : Int32) <<< (v46_7 &&& 31)))) + 1) - v17_3).toNatClampNeg) rfl rfl (vi (by with_reducible omega) (by with_reducible omega)) rfl dX9_layTurns_154 ?_
                      refine lv_istore (lv' := [(4, .int (o_topOf_f_17 (((2 * (v11_2 ||| ((1 : Int32) <<< (v46_7 &&& 31)))) + 1) - v17_3).toNatClampNeg)), (10, .int y_3), (9, .int (((o_topOf_f_17 (((2 * (v11_2 ||| ((1 : Int32) <<< (v46_7 &&& 31)))) + 1) - v17_3).toNatClampNeg) * v46_5) - (v46_4 * (o_partsOf_f_17 (((2 * (v11_2 ||| ((1 : Int32) <<< (v46_7 &&& 31)))) + 1) - v17_3).toNatClampNeg)))), (8, .int (((2 * (v11_2 ||| ((1 : Int32) <<< (v46_7 &&& 31)))) + 1) - v17_3)), (0, .ref o), (1, .int a1), (2, .int v11_2), (3, .int v17_3), (5, .int v46_5), (6, .int v46_6), (7, .int v46_7)]) hx hb dX9_layTurns_155 hl (by decide) rfl (fun ls hl => ?_)
                      refine lv_aload_n hx hb dX9_layTurns_157 rfl (lv_at hl 4 rfl) ?_
                      refine xget hx hb hts hown hK 9 (C2 := RX9) (T := TX9) (N := 23) rfl hin_9 hP 0 rfl 21 (by decide) fl_38 rfl rfl rfl dX9_layTurns_158 ?_
                      refine lv_iload hx hb dX9_layTurns_161 (lv_at hl 3 rfl) ?_
                      refine xald hx hb hK hP 3 0 (k := (((2 * (v11_2 ||| ((1 : Int32) <<< (v46_7 &&& 31)))) + 1) - v17_3).toNatClampNeg) rfl rfl (vi (by with_reducible omega) (by with_reducible omega)) rfl dX9_layTurns_163 ?_
                      refine lv_istore (lv' := [(5, .int (o_partsOf_f_17 (((2 * (v11_2 ||| ((1 : Int32) <<< (v46_7 &&& 31)))) + 1) - v17_3).toNatClampNeg)), (4, .int (o_topOf_f_17 (((2 * (v11_2 ||| ((1 : Int32) <<< (v46_7 &&& 31)))) + 1) - v17_3).toNatClampNeg)), (10, .int y_3), (9, .int (((o_topOf_f_17 (((2 * (v11_2 ||| ((1 : Int32) <<< (v46_7 &&& 31)))) + 1) - v17_3).toNatClampNeg) * v46_5) - (v46_4 * (o_partsOf_f_17 (((2 * (v11_2 ||| ((1 : Int32) <<< (v46_7 &&& 31)))) + 1) - v17_3).toNatClampNeg)))), (8, .int (((2 * (v11_2 ||| ((1 : Int32) <<< (v46_7 &&& 31)))) + 1) - v17_3)), (0, .ref o), (1, .int a1), (2, .int v11_2), (3, .int v17_3), (6, .int v46_6), (7, .int v46_7)]) hx hb dX9_layTurns_164 hl (by decide) rfl (fun ls hl => ?_)
                      refine lv_iload hx hb dX9_layTurns_166 (lv_at hl 10 rfl) ?_
                      refine lv_istore (lv' := [(6, .int v46_7), (5, .int (o_partsOf_f_17 (((2 * (v11_2 ||| ((1 : Int32) <<< (v46_7 &&& 31)))) + 1) - v17_3).toNatClampNeg)), (4, .int (o_topOf_f_17 (((2 * (v11_2 ||| ((1 : Int32) <<< (v46_7 &&& 31)))) + 1) - v17_3).toNatClampNeg)), (10, .int y_3), (9, .int (((o_topOf_f_17 (((2 * (v11_2 ||| ((1 : Int32) <<< (v46_7 &&& 31)))) + 1) - v17_3).toNatClampNeg) * v46_5) - (v46_4 * (o_partsOf_f_17 (((2 * (v11_2 ||| ((1 : Int32) <<< (v46_7 &&& 31)))) + 1) - v17_3).toNatClampNeg)))), (8, .int (((2 * (v11_2 ||| ((1 : Int32) <<< (v46_7 &&& 31)))) + 1) - v17_3)), (0, .ref o), (1, .int a1), (2, .int v11_2), (3, .int v17_3), (7, .int v46_7)]) hx hb dX9_layTurns_168 hl (by decide) rfl (fun ls hl => ?_)
                      refine lv_iinc (v := (v46_7 + 1)) (lv' := [(7, .int (v46_7 + 1)), (6, .int v46_7), (5, .int (o_partsOf_f_17 (((2 * (v11_2 ||| ((1 : Int32) <<< (v46_7 &&& 31)))) + 1) - v17_3).toNatClampNeg)), (4, .int (o_topOf_f_17 (((2 * (v11_2 ||| ((1 : Int32) <<< (v46_7 &&& 31)))) + 1) - v17_3).toNatClampNeg)), (10, .int y_3), (9, .int (((o_topOf_f_17 (((2 * (v11_2 ||| ((1 : Int32) <<< (v46_7 &&& 31)))) + 1) - v17_3).toNatClampNeg) * v46_5) - (v46_4 * (o_partsOf_f_17 (((2 * (v11_2 ||| ((1 : Int32) <<< (v46_7 &&& 31)))) + 1) - v17_3).toNatClampNeg)))), (8, .int (((2 * (v11_2 ||| ((1 : Int32) <<< (v46_7 &&& 31)))) + 1) - v17_3)), (0, .ref o), (1, .int a1), (2, .int v11_2), (3, .int v17_3)]) hx hb dX9_layTurns_170 hl (k := 10) rfl (by rfl) (by decide) rfl (fun ls hl => ?_)
                      refine lv_goto (tgt := 46) hx hb dX9_layTurns_173 (by decide) ?_
                      have z_9 : (v46_7 + 1).toInt = v46_7.toInt + (1 : Int32).toInt := z_add (by with_reducible omega) (by with_reducible omega)
                      exact ih_46 (o_topOf_f_17 (((2 * (v11_2 ||| ((1 : Int32) <<< (v46_7 &&& 31)))) + 1) - v17_3).toNatClampNeg) (o_partsOf_f_17 (((2 * (v11_2 ||| ((1 : Int32) <<< (v46_7 &&& 31)))) + 1) - v17_3).toNatClampNeg) v46_7 (v46_7 + 1) o_above_46 o_below_46 (by first | with_reducible assumption | with_reducible omega | decide | (split <;> rename_i hh <;> first | (have h9 := t_nlt hh; with_reducible omega) | (have h9 := t_lt hh; with_reducible omega) | (have h9 := t_nle hh; with_reducible omega) | (have h9 := t_le hh; with_reducible omega))) (by first | with_reducible assumption | with_reducible omega | decide | (split <;> rename_i hh <;> first | (have h9 := t_nlt hh; with_reducible omega) | (have h9 := t_lt hh; with_reducible omega) | (have h9 := t_nle hh; with_reducible omega) | (have h9 := t_le hh; with_reducible omega))) (by first | with_reducible assumption | with_reducible omega | decide | (split <;> rename_i hh <;> first | (have h9 := t_nlt hh; with_reducible omega) | (have h9 := t_lt hh; with_reducible omega) | (have h9 := t_nle hh; with_reducible omega) | (have h9 := t_le hh; with_reducible omega))) (by first | with_reducible assumption | with_reducible omega | decide | (split <;> rename_i hh <;> first | (have h9 := t_nlt hh; with_reducible omega) | (have h9 := t_lt hh; with_reducible omega) | (have h9 := t_nle hh; with_reducible omega) | (have h9 := t_le hh; with_reducible omega))) _ _ _ (lv_sub hl [7, 8, 9, 10, 3, 2, 1, 0] rfl) hP hD hS (hF.trans (by simp only [fX9_layTurns_46, ↓if_neg c_3, ↓if_pos c_4, ↓(xlet_of hy_y_3), ↓if_neg c_8]))
                    · have kc_8 := t_eq c_8
                      refine lv_iload hx hb dX9_layTurns_137 (lv_at hl 1 rfl) ?_
                      refine lv_if_ne (tgt := 170) hx hb dX9_layTurns_139 (by decide) (fun c_9 => ?_) (fun c_9 => ?_)
                      · refine lv_iinc (v := (v46_7 + 1)) (lv' := [(7, .int (v46_7 + 1)), (10, .int y_3), (9, .int (((o_topOf_f_17 (((2 * (v11_2 ||| ((1 : Int32) <<< (v46_7 &&& 31)))) + 1) - v17_3).toNatClampNeg) * v46_5) - (v46_4 * (o_partsOf_f_17 (((2 * (v11_2 ||| ((1 : Int32) <<< (v46_7 &&& 31)))) + 1) - v17_3).toNatClampNeg)))), (8, .int (((2 * (v11_2 ||| ((1 : Int32) <<< (v46_7 &&& 31)))) + 1) - v17_3)), (0, .ref o), (1, .int a1), (2, .int v11_2), (3, .int v17_3), (4, .int v46_4), (5, .int v46_5), (6, .int v46_6)]) hx hb dX9_layTurns_170 hl (k := 10) rfl (by rfl) (by decide) rfl (fun ls hl => ?_)
                        refine lv_goto (tgt := 46) hx hb dX9_layTurns_173 (by decide) ?_
                        have z_10 : (v46_7 + 1).toInt = v46_7.toInt + (1 : Int32).toInt := z_add (by with_reducible omega) (by with_reducible omega)
                        exact ih_46 v46_4 v46_5 v46_6 (v46_7 + 1) o_above_46 o_below_46 (by first | with_reducible assumption | with_reducible omega | decide | (split <;> rename_i hh <;> first | (have h9 := t_nlt hh; with_reducible omega) | (have h9 := t_lt hh; with_reducible omega) | (have h9 := t_nle hh; with_reducible omega) | (have h9 := t_le hh; with_reducible omega))) (by first | with_reducible assumption | with_reducible omega | decide | (split <;> rename_i hh <;> first | (have h9 := t_nlt hh; with_reducible omega) | (have h9 := t_lt hh; with_reducible omega) | (have h9 := t_nle hh; with_reducible omega) | (have h9 := t_le hh; with_reducible omega))) (by first | with_reducible assumption | with_reducible omega | decide | (split <;> rename_i hh <;> first | (have h9 := t_nlt hh; with_reducible omega) | (have h9 := t_lt hh; with_reducible omega) | (have h9 := t_nle hh; with_reducible omega) | (have h9 := t_le hh; with_reducible omega))) (by first | with_reducible assumption | with_reducible omega | decide | (split <;> rename_i hh <;> first | (have h9 := t_nlt hh; with_reducible omega) | (have h9 := t_lt hh; with_reducible omega) | (have h9 := t_nle hh; with_reducible omega) | (have h9 := t_le hh; with_reducible omega))) _ _ _ (lv_sub hl [4, 5, 6, 7, 8, 9, 10, 0] rfl) hP hD hS (hF.trans (by simp only [fX9_layTurns_46, ↓if_neg c_3, ↓if_pos c_4, ↓(xlet_of hy_y_3), ↓if_pos c_8, ↓if_neg c_9]))
                      · refine lv_iload hx hb dX9_layTurns_142 (lv_at hl 9 rfl) ?_
                        refine lv_iconst (v := (-1)) hx hb dX9_layTurns_144 (by decide) ?_
                        refine lv_icmp_ne (tgt := 170) hx hb dX9_layTurns_145 (by decide) (fun c_10 => ?_) (fun c_10 => ?_)
                        · have kc_10 := t_neq c_10
                          refine lv_iinc (v := (v46_7 + 1)) (lv' := [(7, .int (v46_7 + 1)), (10, .int y_3), (9, .int (((o_topOf_f_17 (((2 * (v11_2 ||| ((1 : Int32) <<< (v46_7 &&& 31)))) + 1) - v17_3).toNatClampNeg) * v46_5) - (v46_4 * (o_partsOf_f_17 (((2 * (v11_2 ||| ((1 : Int32) <<< (v46_7 &&& 31)))) + 1) - v17_3).toNatClampNeg)))), (8, .int (((2 * (v11_2 ||| ((1 : Int32) <<< (v46_7 &&& 31)))) + 1) - v17_3)), (0, .ref o), (1, .int a1), (2, .int v11_2), (3, .int v17_3), (4, .int v46_4), (5, .int v46_5), (6, .int v46_6)]) hx hb dX9_layTurns_170 hl (k := 10) rfl (by rfl) (by decide) rfl (fun ls hl => ?_)
                          refine lv_goto (tgt := 46) hx hb dX9_layTurns_173 (by decide) ?_
                          have z_11 : (v46_7 + 1).toInt = v46_7.toInt + (1 : Int32).toInt := z_add (by with_reducible omega) (by with_reducible omega)
                          exact ih_46 v46_4 v46_5 v46_6 (v46_7 + 1) o_above_46 o_below_46 (by first | with_reducible assumption | with_reducible omega | decide | (split <;> rename_i hh <;> first | (have h9 := t_nlt hh; with_reducible omega) | (have h9 := t_lt hh; with_reducible omega) | (have h9 := t_nle hh; with_reducible omega) | (have h9 := t_le hh; with_reducible omega))) (by first | with_reducible assumption | with_reducible omega | decide | (split <;> rename_i hh <;> first | (have h9 := t_nlt hh; with_reducible omega) | (have h9 := t_lt hh; with_reducible omega) | (have h9 := t_nle hh; with_reducible omega) | (have h9 := t_le hh; with_reducible omega))) (by first | with_reducible assumption | with_reducible omega | decide | (split <;> rename_i hh <;> first | (have h9 := t_nlt hh; with_reducible omega) | (have h9 := t_lt hh; with_reducible omega) | (have h9 := t_nle hh; with_reducible omega) | (have h9 := t_le hh; with_reducible omega))) (by first | with_reducible assumption | with_reducible omega | decide | (split <;> rename_i hh <;> first | (have h9 := t_nlt hh; with_reducible omega) | (have h9 := t_lt hh; with_reducible omega) | (have h9 := t_nle hh; with_reducible omega) | (have h9 := t_le hh; with_reducible omega))) _ _ _ (lv_sub hl [4, 5, 6, 7, 8, 9, 10, 0] rfl) hP hD hS (hF.trans (by simp only [fX9_layTurns_46, ↓if_neg c_3, ↓if_pos c_4, ↓(xlet_of hy_y_3), ↓if_pos c_8, ↓if_pos c_9, ↓if_neg c_10]))
                        · have kc_10 := t_eq c_10
                          refine lv_aload_n hx hb dX9_layTurns_148 rfl (lv_at hl 3 rfl) ?_
                          refine xget hx hb hts hown hK 9 (C2 := RX9) (T := TX9) (N := 23) rfl hin_9 hP 0 rfl 20 (by decide) fl_35 rfl rfl rfl dX9_layTurns_149 ?_
                          refine lv_iload hx hb dX9_layTurns_152 (lv_at hl 2 rfl) ?_
                          refine xald hx hb hK hP 2 0 (k := (((2 * (v11_2 ||| ((1 : Int32) <<< (v46_7 &&& 31)))) + 1) - v17_3).toNatClampNeg) rfl rfl (vi (by with_reducible omega) (by with_reducible omega)) rfl dX9_layTurns_154 ?_
                          refine lv_istore (lv' := [(4, .int (o_topOf_f_17 (((2 * (v11_2 ||| ((1 : Int32) <<< (v46_7 &&& 31)))) + 1) - v17_3).toNatClampNeg)), (10, .int y_3), (9, .int (((o_topOf_f_17 (((2 * (v11_2 ||| ((1 : Int32) <<< (v46_7 &&& 31)))) + 1) - v17_3).toNatClampNeg) * v46_5) - (v46_4 * (o_partsOf_f_17 (((2 * (v11_2 ||| ((1 : Int32) <<< (v46_7 &&& 31)))) + 1) - v17_3).toNatClampNeg)))), (8, .int (((2 * (v11_2 ||| ((1 : Int32) <<< (v46_7 &&& 31)))) + 1) - v17_3)), (0, .ref o), (1, .int a1), (2, .int v11_2), (3, .int v17_3), (5, .int v46_5), (6, .int v46_6), (7, .int v46_7)]) hx hb dX9_layTurns_155 hl (by decide) rfl (fun ls hl => ?_)
                          refine lv_aload_n hx hb dX9_layTurns_157 rfl (lv_at hl 4 rfl) ?_
                          refine xget hx hb hts hown hK 9 (C2 := RX9) (T := TX9) (N := 23) rfl hin_9 hP 0 rfl 21 (by decide) fl_38 rfl rfl rfl dX9_layTurns_158 ?_
                          refine lv_iload hx hb dX9_layTurns_161 (lv_at hl 3 rfl) ?_
                          refine xald hx hb hK hP 3 0 (k := (((2 * (v11_2 ||| ((1 : Int32) <<< (v46_7 &&& 31)))) + 1) - v17_3).toNatClampNeg) rfl rfl (vi (by with_reducible omega) (by with_reducible omega)) rfl dX9_layTurns_163 ?_
                          refine lv_istore (lv' := [(5, .int (o_partsOf_f_17 (((2 * (v11_2 ||| ((1 : Int32) <<< (v46_7 &&& 31)))) + 1) - v17_3).toNatClampNeg)), (4, .int (o_topOf_f_17 (((2 * (v11_2 ||| ((1 : Int32) <<< (v46_7 &&& 31)))) + 1) - v17_3).toNatClampNeg)), (10, .int y_3), (9, .int (((o_topOf_f_17 (((2 * (v11_2 ||| ((1 : Int32) <<< (v46_7 &&& 31)))) + 1) - v17_3).toNatClampNeg) * v46_5) - (v46_4 * (o_partsOf_f_17 (((2 * (v11_2 ||| ((1 : Int32) <<< (v46_7 &&& 31)))) + 1) - v17_3).toNatClampNeg)))), (8, .int (((2 * (v11_2 ||| ((1 : Int32) <<< (v46_7 &&& 31)))) + 1) - v17_3)), (0, .ref o), (1, .int a1), (2, .int v11_2), (3, .int v17_3), (6, .int v46_6), (7, .int v46_7)]) hx hb dX9_layTurns_164 hl (by decide) rfl (fun ls hl => ?_)
                          refine lv_iload hx hb dX9_layTurns_166 (lv_at hl 10 rfl) ?_
                          refine lv_istore (lv' := [(6, .int v46_7), (5, .int (o_partsOf_f_17 (((2 * (v11_2 ||| ((1 : Int32) <<< (v46_7 &&& 31)))) + 1) - v17_3).toNatClampNeg)), (4, .int (o_topOf_f_17 (((2 * (v11_2 ||| ((1 : Int32) <<< (v46_7 &&& 31)))) + 1) - v17_3).toNatClampNeg)), (10, .int y_3), (9, .int (((o_topOf_f_17 (((2 * (v11_2 ||| ((1 : Int32) <<< (v46_7 &&& 31)))) + 1) - v17_3).toNatClampNeg) * v46_5) - (v46_4 * (o_partsOf_f_17 (((2 * (v11_2 ||| ((1 : Int32) <<< (v46_7 &&& 31)))) + 1) - v17_3).toNatClampNeg)))), (8, .int (((2 * (v11_2 ||| ((1 : Int32) <<< (v46_7 &&& 31)))) + 1) - v17_3)), (0, .ref o), (1, .int a1), (2, .int v11_2), (3, .int v17_3), (7, .int v46_7)]) hx hb dX9_layTurns_168 hl (by decide) rfl (fun ls hl => ?_)
                          refine lv_iinc (v := (v46_7 + 1)) (lv' := [(7, .int (v46_7 + 1)), (6, .int v46_7), (5, .int (o_partsOf_f_17 (((2 * (v11_2 ||| ((1 : Int32) <<< (v46_7 &&& 31)))) + 1) - v17_3).toNatClampNeg)), (4, .int (o_topOf_f_17 (((2 * (v11_2 ||| ((1 : Int32) <<< (v46_7 &&& 31)))) + 1) - v17_3).toNatClampNeg)), (10, .int y_3), (9, .int (((o_topOf_f_17 (((2 * (v11_2 ||| ((1 : Int32) <<< (v46_7 &&& 31)))) + 1) - v17_3).toNatClampNeg) * v46_5) - (v46_4 * (o_partsOf_f_17 (((2 * (v11_2 ||| ((1 : Int32) <<< (v46_7 &&& 31)))) + 1) - v17_3).toNatClampNeg)))), (8, .int (((2 * (v11_2 ||| ((1 : Int32) <<< (v46_7 &&& 31)))) + 1) - v17_3)), (0, .ref o), (1, .int a1), (2, .int v11_2), (3, .int v17_3)]) hx hb dX9_layTurns_170 hl (k := 10) rfl (by rfl) (by decide) rfl (fun ls hl => ?_)
                          refine lv_goto (tgt := 46) hx hb dX9_layTurns_173 (by decide) ?_
                          have z_12 : (v46_7 + 1).toInt = v46_7.toInt + (1 : Int32).toInt := z_add (by with_reducible omega) (by with_reducible omega)
                          exact ih_46 (o_topOf_f_17 (((2 * (v11_2 ||| ((1 : Int32) <<< (v46_7 &&& 31)))) + 1) - v17_3).toNatClampNeg) (o_partsOf_f_17 (((2 * (v11_2 ||| ((1 : Int32) <<< (v46_7 &&& 31)))) + 1) - v17_3).toNatClampNeg) v46_7 (v46_7 + 1) o_above_46 o_below_46 (by first | with_reducible assumption | with_reducible omega | decide | (split <;> rename_i hh <;> first | (have h9 := t_nlt hh; with_reducible omega) | (have h9 := t_lt hh; with_reducible omega) | (have h9 := t_nle hh; with_reducible omega) | (have h9 := t_le hh; with_reducible omega))) (by first | with_reducible assumption | with_reducible omega | decide | (split <;> rename_i hh <;> first | (have h9 := t_nlt hh; with_reducible omega) | (have h9 := t_lt hh; with_reducible omega) | (have h9 := t_nle hh; with_reducible omega) | (have h9 := t_le hh; with_reducible omega))) (by first | with_reducible assumption | with_reducible omega | decide | (split <;> rename_i hh <;> first | (have h9 := t_nlt hh; with_reducible omega) | (have h9 := t_lt hh; with_reducible omega) | (have h9 := t_nle hh; with_reducible omega) | (have h9 := t_le hh; with_reducible omega))) (by first | with_reducible assumption | with_reducible omega | decide | (split <;> rename_i hh <;> first | (have h9 := t_nlt hh; with_reducible omega) | (have h9 := t_lt hh; with_reducible omega) | (have h9 := t_nle hh; with_reducible omega) | (have h9 := t_le hh; with_reducible omega))) _ _ _ (lv_sub hl [7, 8, 9, 10, 3, 2, 1, 0] rfl) hP hD hS (hF.trans (by simp only [fX9_layTurns_46, ↓if_neg c_3, ↓if_pos c_4, ↓(xlet_of hy_y_3), ↓if_pos c_8, ↓if_pos c_9, ↓if_pos c_10]))
                  refine lv_if_ne (tgt := 120) hx hb dX9_layTurns_104 (by decide) (fun c_5 => ?_) (fun c_5 => ?_)
                  · have kc_5 := t_neq c_5
                    refine lv_iload hx hb dX9_layTurns_120 (lv_at hl 0 rfl) ?_
                    refine lv_if_le (tgt := 129) hx hb dX9_layTurns_122 (by decide) (fun c_6 => ?_) (fun c_6 => ?_)
                    · refine lv_iconst (v := 0) hx hb dX9_layTurns_129 (by decide) ?_
                      exact K_y_3 _ (by simp only [↓if_neg c_5, ↓if_pos c_6]) _ _ hP hD hS
                    · refine lv_iconst (v := 1) hx hb dX9_layTurns_125 (by decide) ?_
                      refine lv_goto (tgt := 130) hx hb dX9_layTurns_126 (by decide) ?_
                      exact K_y_3 _ (by simp only [↓if_neg c_5, ↓if_neg c_6]) _ _ hP hD hS
                  · have kc_5 := t_eq c_5
                    refine lv_iload hx hb dX9_layTurns_107 (lv_at hl 0 rfl) ?_
                    refine lv_if_ge (tgt := 116) hx hb dX9_layTurns_109 (by decide) (fun c_7 => ?_) (fun c_7 => ?_)
                    · refine lv_iconst (v := 0) hx hb dX9_layTurns_116 (by decide) ?_
                      refine lv_goto (tgt := 130) hx hb dX9_layTurns_117 (by decide) ?_
                      exact K_y_3 _ (by simp only [↓if_pos c_5, ↓if_pos c_7]) _ _ hP hD hS
                    · refine lv_iconst (v := 1) hx hb dX9_layTurns_112 (by decide) ?_
                      refine lv_goto (tgt := 130) hx hb dX9_layTurns_113 (by decide) ?_
                      exact K_y_3 _ (by simp only [↓if_pos c_5, ↓if_neg c_7]) _ _ hP hD hS
          refine lv_iload_n hx hb dX9_layTurns_17 rfl (lv_at hl 3 rfl) ?_
          refine lv_iconst (v := 2) hx hb dX9_layTurns_18 (by decide) ?_
          refine lv_icmp_ge (tgt := 218) hx hb dX9_layTurns_19 (by decide) (fun c_2 => ?_) (fun c_2 => ?_)
          · have kc_2 := t_le c_2
            have q0 := dec0_b hs0 (Int.le_trans h2_11 (by decide))
            refine lv_iinc (v := (v11_2 + (-1))) (lv' := [(2, .int (v11_2 + (-1))), (0, .ref o), (1, .int a1), (3, .int v17_3)]) hx hb dX9_layTurns_218 hl (k := 2) rfl (by rfl) (by decide) rfl (fun ls hl => ?_)
            refine lv_goto (tgt := 11) hx hb dX9_layTurns_221 (by decide) ?_
            exact ih_11 o_partsOf_f_17 o_sent_f_17 o_topOf_f_17 (v11_2 + (-1)) o_above_17 o_below_17 q0.1 (Int.le_trans q0.2.1 h2_11) (by rw [q0.2.2]; exact hsn) _ _ _ (lv_sub hl [1, 2, 0] rfl) hP hD hS ((hF.trans (by simp only [fX9_layTurns_17, ↓if_pos c_2])).trans (hk_11 _ _ _ _ _ _))
          · have kc_2 := t_nle c_2
            refine lv_aload_n hx hb dX9_layTurns_22 rfl (lv_at hl 0 rfl) ?_
            refine lv_iload_n hx hb dX9_layTurns_23 rfl (lv_at hl 2 rfl) ?_
            refine lv_iload_n hx hb dX9_layTurns_24 rfl (lv_at hl 1 rfl) ?_
            refine xcallv (S := Int32 × Int32) (Wc := [(o, .inr (9, [.ref o_road, .ref o_told, .ref o_fresh, .ref o_was, .int o_acts, .ref o_kept, .ref o_isKept, .ref o_sights, .int o_many, .ref o_text, .int o_letters, .int o_thrown, .int o_cursor, .int o_token, .int o_start, .long o_value, .int o_isFault, .int o_faultAt, .int o_above_17, .int o_below_17, .ref o_topOf, .ref o_partsOf, .ref o_sent])), (o_road, .inl (cI, 36, .inl o_road_f))]) (wr := [(o_topOf, .inl (cI, 128, .inl o_topOf_f_17)), (o_partsOf, .inl (cI, 128, .inl o_partsOf_f_17)), (o_sent, .inl (cI, 128, .inl o_sent_f_17))]) (W1 := (fun (u : Int32 × Int32) => [(o, .inr (9, [.ref o_road, .ref o_told, .ref o_fresh, .ref o_was, .int o_acts, .ref o_kept, .ref o_isKept, .ref o_sights, .int o_many, .ref o_text, .int o_letters, .int o_thrown, .int o_cursor, .int o_token, .int o_start, .long o_value, .int o_isFault, .int o_faultAt, .int u.1, .int u.2, .ref o_topOf, .ref o_partsOf, .ref o_sent])), (o_road, .inl (cI, 36, .inl o_road_f))])) (Wn := (fun (u : Int32 × Int32) => [(o, .inr (9, [.ref o_road, .ref o_told, .ref o_fresh, .ref o_was, .int o_acts, .ref o_kept, .ref o_isKept, .ref o_sights, .int o_many, .ref o_text, .int o_letters, .int o_thrown, .int o_cursor, .int o_token, .int o_start, .long o_value, .int o_isFault, .int o_faultAt, .int u.1, .int u.2, .ref o_topOf, .ref o_partsOf, .ref o_sent])), (o_road, .inl (cI, 36, .inl o_road_f)), (o_topOf, .inl (cI, 128, .inl o_topOf_f_17)), (o_partsOf, .inl (cI, 128, .inl o_partsOf_f_17)), (o_sent, .inl (cI, 128, .inl o_sent_f_17))])) (xrunV hx hb hml hown hts (c_X9_layPlace l D cI cZ _ o v11_2 a1 o_road o_told o_fresh o_was o_acts o_kept o_isKept o_sights o_many o_text o_letters o_thrown o_cursor o_token o_start o_value o_isFault o_faultAt o_above_17 o_below_17 o_topOf o_partsOf o_sent o_road_f hn0 hn1 hv0 hv6 hhab) (cwV 2 hts gX9_layTurns_X9_layPlace rfl rfl rfl (by decide +kernel) ⟨Nat.le_of_ble_eq_true rfl, Nat.le_of_ble_eq_true rfl⟩) hE hK hP hD [0, 1] rfl rfl 0 9 (T := TX9) (N := 23) rfl rfl rfl hl.1 rfl (Nat.le_of_ble_eq_true rfl) dX9_layTurns_25 ⟨Nat.le_of_ble_eq_true rfl, Nat.le_of_ble_eq_true rfl⟩) hP hD hS hA [0, 1] [2, 3, 4] [3, 4, 0, 1, 2] rfl rfl rfl (by decide) (fun _ => rfl) rfl (fun  u H locs hw hz hP hD hS => ?_)
            obtain ⟨u1, u2⟩ := u
            have hw_2 := hw.symm
            have hP : va_P D vwCl [(o, .inr (9, [.ref o_road, .ref o_told, .ref o_fresh, .ref o_was, .int o_acts, .ref o_kept, .ref o_isKept, .ref o_sights, .int o_many, .ref o_text, .int o_letters, .int o_thrown, .int o_cursor, .int o_token, .int o_start, .long o_value, .int o_isFault, .int o_faultAt, .int u1, .int u2, .ref o_topOf, .ref o_partsOf, .ref o_sent])), (o_road, .inl (cI, 36, .inl o_road_f)), (o_topOf, .inl (cI, 128, .inl o_topOf_f_17)), (o_partsOf, .inl (cI, 128, .inl o_partsOf_f_17)), (o_sent, .inl (cI, 128, .inl o_sent_f_17))] H := hP
            have hD : va_D A [(o, .inr (9, [.ref o_road, .ref o_told, .ref o_fresh, .ref o_was, .int o_acts, .ref o_kept, .ref o_isKept, .ref o_sights, .int o_many, .ref o_text, .int o_letters, .int o_thrown, .int o_cursor, .int o_token, .int o_start, .long o_value, .int o_isFault, .int o_faultAt, .int u1, .int u2, .ref o_topOf, .ref o_partsOf, .ref o_sent])), (o_road, .inl (cI, 36, .inl o_road_f)), (o_topOf, .inl (cI, 128, .inl o_topOf_f_17)), (o_partsOf, .inl (cI, 128, .inl o_partsOf_f_17)), (o_sent, .inl (cI, 128, .inl o_sent_f_17))] := hD
            refine lv_aload_n hx hb dX9_layTurns_28 rfl (lv_at hl 0 rfl) ?_
            refine xget hx hb hts hown hK 9 (C2 := RX9) (T := TX9) (N := 23) rfl hin_9 hP 0 rfl 18 (by decide) fl_166 rfl rfl rfl dX9_layTurns_29 ?_
            refine lv_istore (lv' := [(4, .int u1), (0, .ref o), (1, .int a1), (2, .int v11_2), (3, .int v17_3)]) hx hb dX9_layTurns_32 hl (by decide) rfl (fun ls hl => ?_)
            refine lv_aload_n hx hb dX9_layTurns_34 rfl (lv_at hl 1 rfl) ?_
            refine xget hx hb hts hown hK 9 (C2 := RX9) (T := TX9) (N := 23) rfl hin_9 hP 0 rfl 19 (by decide) fl_169 rfl rfl rfl dX9_layTurns_35 ?_
            refine lv_istore (lv' := [(5, .int u2), (4, .int u1), (0, .ref o), (1, .int a1), (2, .int v11_2), (3, .int v17_3)]) hx hb dX9_layTurns_38 hl (by decide) rfl (fun ls hl => ?_)
            refine lv_iconst (v := (-1)) hx hb dX9_layTurns_40 (by decide) ?_
            refine lv_istore (lv' := [(6, .int (-1)), (5, .int u2), (4, .int u1), (0, .ref o), (1, .int a1), (2, .int v11_2), (3, .int v17_3)]) hx hb dX9_layTurns_41 hl (by decide) rfl (fun ls hl => ?_)
            refine lv_iconst (v := 0) hx hb dX9_layTurns_43 (by decide) ?_
            refine lv_istore (lv' := [(7, .int 0), (6, .int (-1)), (5, .int u2), (4, .int u1), (0, .ref o), (1, .int a1), (2, .int v11_2), (3, .int v17_3)]) hx hb dX9_layTurns_44 hl (by decide) rfl (fun ls hl => ?_)
            exact L_46 (fun o_partsOf_f_17 o_sent_f_17 o_topOf_f_17 v17_3 o_above_17 o_below_17 => fX9_layTurns_17 a1 o_road_f v11_2 k_11 n_17 o_partsOf_f_17 o_sent_f_17 o_topOf_f_17 v17_3 o_above_17 o_below_17) (fun _ _ _ _ _ _ => rfl) 1000 u1 u2 (-1) 0 u1 u2 (by first | with_reducible assumption | with_reducible omega | decide | (split <;> rename_i hh <;> first | (have h9 := t_nlt hh; with_reducible omega) | (have h9 := t_lt hh; with_reducible omega) | (have h9 := t_nle hh; with_reducible omega) | (have h9 := t_le hh; with_reducible omega))) (by first | with_reducible assumption | with_reducible omega | decide | (split <;> rename_i hh <;> first | (have h9 := t_nlt hh; with_reducible omega) | (have h9 := t_lt hh; with_reducible omega) | (have h9 := t_nle hh; with_reducible omega) | (have h9 := t_le hh; with_reducible omega))) (by first | with_reducible assumption | with_reducible omega | decide | (split <;> rename_i hh <;> first | (have h9 := t_nlt hh; with_reducible omega) | (have h9 := t_lt hh; with_reducible omega) | (have h9 := t_nle hh; with_reducible omega) | (have h9 := t_le hh; with_reducible omega))) (by first | with_reducible assumption | with_reducible omega | decide | (split <;> rename_i hh <;> first | (have h9 := t_nlt hh; with_reducible omega) | (have h9 := t_lt hh; with_reducible omega) | (have h9 := t_nle hh; with_reducible omega) | (have h9 := t_le hh; with_reducible omega))) _ _ _ (lv_sub hl [4, 5, 6, 7, 3, 2, 1, 0] rfl) hP hD hS (hF.trans (by simp only [fX9_layTurns_17, ↓if_neg c_2, ↓hw_2]))
      refine lv_iload_n hx hb dX9_layTurns_11 rfl (lv_at hl 2 rfl) ?_
      refine lv_if_lt (tgt := 224) hx hb dX9_layTurns_12 (by decide) (fun c_1 => ?_) (fun c_1 => ?_)
      · have kc_1 := t_lt c_1
        exact hret _ _ _ _ (o_above_11, o_below_11, o_topOf_f_11, o_partsOf_f_11, o_sent_f_11) dX9_layTurns_224 ((hF.trans (by simp only [fX9_layTurns_11, ↓if_pos c_1])).symm) hP hD hS
      · have kc_1 := t_nlt c_1
        refine lv_iconst (v := 0) hx hb dX9_layTurns_15 (by decide) ?_
        refine lv_istore_n (lv' := [(3, .int 0), (0, .ref o), (1, .int a1), (2, .int v11_2)]) hx hb dX9_layTurns_16 rfl hl (by decide) rfl (fun ls hl => ?_)
        exact L_17 (fun o_partsOf_f_11 o_sent_f_11 o_topOf_f_11 v11_2 o_above_11 o_below_11 => fX9_layTurns_11 a1 o_road_f n_11 o_partsOf_f_11 o_sent_f_11 o_topOf_f_11 v11_2 o_above_11 o_below_11) (fun _ _ _ _ _ _ => rfl) 1000 o_partsOf_f_11 o_sent_f_11 o_topOf_f_11 0 o_above_11 o_below_11 (by first | with_reducible assumption | with_reducible omega | decide | (split <;> rename_i hh <;> first | (have h9 := t_nlt hh; with_reducible omega) | (have h9 := t_lt hh; with_reducible omega) | (have h9 := t_nle hh; with_reducible omega) | (have h9 := t_le hh; with_reducible omega))) (by first | with_reducible assumption | with_reducible omega | decide | (split <;> rename_i hh <;> first | (have h9 := t_nlt hh; with_reducible omega) | (have h9 := t_lt hh; with_reducible omega) | (have h9 := t_nle hh; with_reducible omega) | (have h9 := t_le hh; with_reducible omega))) (by first | with_reducible assumption | with_reducible omega | decide | (split <;> rename_i hh <;> first | (have h9 := t_nlt hh; with_reducible omega) | (have h9 := t_lt hh; with_reducible omega) | (have h9 := t_nle hh; with_reducible omega) | (have h9 := t_le hh; with_reducible omega))) (by first | with_reducible assumption | with_reducible omega | decide | (split <;> rename_i hh <;> first | (have h9 := t_nlt hh; with_reducible omega) | (have h9 := t_lt hh; with_reducible omega) | (have h9 := t_nle hh; with_reducible omega) | (have h9 := t_le hh; with_reducible omega))) (by first | with_reducible assumption | with_reducible omega | decide | (split <;> rename_i hh <;> first | (have h9 := t_nlt hh; with_reducible omega) | (have h9 := t_lt hh; with_reducible omega) | (have h9 := t_nle hh; with_reducible omega) | (have h9 := t_le hh; with_reducible omega))) _ _ _ (lv_sub hl [1, 2, 3, 0] rfl) hP hD hS (hF.trans (by simp only [fX9_layTurns_11, ↓if_neg c_1]))
  refine lv_iconst (v := 1) hx hb dX9_layTurns_0 (by decide) ?_
  refine lv_aload_n hx hb dX9_layTurns_1 rfl (lv_at hl 0 rfl) ?_
  refine xget hx hb hts hown hK 9 (C2 := RX9) (T := TX9) (N := 23) rfl hin_9 hP 0 rfl 0 (by decide) fl_7 rfl rfl rfl dX9_layTurns_2 ?_
  refine lv_iconst (v := 2) hx hb dX9_layTurns_5 (by decide) ?_
  refine xald hx hb hK hP 1 0 (k := 2) rfl rfl (vi (by decide) (by decide)) (by decide) dX9_layTurns_6 ?_
  refine lv_ishl hx hb dX9_layTurns_7 ?_
  refine lv_iconst (v := 1) hx hb dX9_layTurns_8 (by decide) ?_
  refine lv_isub hx hb dX9_layTurns_9 ?_
  refine lv_istore_n (lv' := [(2, .int (((1 : Int32) <<< ((o_road_f 2) &&& 31)) - 1)), (0, .ref o), (1, .int a1)]) hx hb dX9_layTurns_10 rfl hl (by decide) rfl (fun ls hl => ?_)
  have z_1 : (((1 : Int32) <<< ((o_road_f 2) &&& 31)) - 1).toInt = ((1 : Int32) <<< ((o_road_f 2) &&& 31)).toInt - (1 : Int32).toInt := z_sub (by with_reducible omega) (by with_reducible omega)
  exact L_11 1000 o_partsOf_f o_sent_f o_topOf_f (((1 : Int32) <<< ((o_road_f 2) &&& 31)) - 1) o_above o_below (by first | with_reducible assumption | with_reducible omega | decide | (split <;> rename_i hh <;> first | (have h9 := t_nlt hh; with_reducible omega) | (have h9 := t_lt hh; with_reducible omega) | (have h9 := t_nle hh; with_reducible omega) | (have h9 := t_le hh; with_reducible omega))) (by first | with_reducible assumption | with_reducible omega | decide | (split <;> rename_i hh <;> first | (have h9 := t_nlt hh; with_reducible omega) | (have h9 := t_lt hh; with_reducible omega) | (have h9 := t_nle hh; with_reducible omega) | (have h9 := t_le hh; with_reducible omega))) (by first | with_reducible assumption | with_reducible omega | decide | (split <;> rename_i hh <;> first | (have h9 := t_nlt hh; with_reducible omega) | (have h9 := t_lt hh; with_reducible omega) | (have h9 := t_nle hh; with_reducible omega) | (have h9 := t_le hh; with_reducible omega))) _ _ _ (lv_sub hl [1, 2, 0] rfl) hP hD hS (hF.trans (by simp only [fX9_layTurns]))
