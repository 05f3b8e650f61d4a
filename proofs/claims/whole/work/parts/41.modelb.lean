set_option maxRecDepth 20000 in
theorem ggX9_send_X9_in : GoodIn wsX9_send wsX9_in := goodIn_r _ [9] (by decide +kernel) (by decide +kernel)
set_option maxRecDepth 20000 in
theorem gX9_send_X9_in : GoodIn wsX9_send (va_wsS RX9 52 yX9_in wsX9_in) := goodIn_app (goodIn_of _ (by decide +kernel)) ggX9_send_X9_in
set_option maxRecDepth 20000 in
theorem ggX9_send_X9_bits : GoodIn wsX9_send wsX9_bits := goodIn_r _ [12] (by decide +kernel) (by decide +kernel)
set_option maxRecDepth 20000 in
theorem gX9_send_X9_bits : GoodIn wsX9_send (va_wsS RX9 161 yX9_bits wsX9_bits) := goodIn_app (goodIn_of _ (by decide +kernel)) ggX9_send_X9_bits
set_option maxRecDepth 20000 in
theorem ggX9_send_X9_layMean : GoodIn wsX9_send wsX9_layMean := goodIn_r _ [16, 4, 5, 3, 17, 18, 19, 8, 20, 21, 22, 23, 24, 25, 26, 27, 28, 29, 30, 31, 32, 33, 34, 35, 36, 37, 38, 39, 40, 41, 42, 43, 44, 45, 46, 47, 48, 49, 50, 51] (by decide +kernel) (by decide +kernel)
set_option maxRecDepth 20000 in
theorem gX9_send_X9_layMean : GoodIn wsX9_send (wsV RX9 172 RX9 yX9_layMean wsX9_layMean) := goodIn_app (goodIn_of _ (by decide +kernel)) ggX9_send_X9_layMean
theorem dX9_send_0 : decode cX9_send 0 = .ok (.aload_n 0, 1) := by decide +kernel
theorem dX9_send_1 : decode cX9_send 1 = .ok (.iconst 0, 1) := by decide +kernel
theorem dX9_send_2 : decode cX9_send 2 = .ok (.putfield 48, 3) := by decide +kernel
theorem dX9_send_5 : decode cX9_send 5 = .ok (.iload_n 1, 1) := by decide +kernel
theorem dX9_send_6 : decode cX9_send 6 = .ok (.i2l, 1) := by decide +kernel
theorem dX9_send_7 : decode cX9_send 7 = .ok (.lconst 1, 1) := by decide +kernel
theorem dX9_send_8 : decode cX9_send 8 = .ok (.ldc2_w 164, 3) := by decide +kernel
theorem dX9_send_11 : decode cX9_send 11 = .ok (.invokestatic 52, 3) := by decide +kernel
theorem dX9_send_14 : decode cX9_send 14 = .ok (.ifCond .eq 29, 3) := by decide +kernel
theorem dX9_send_17 : decode cX9_send 17 = .ok (.iload_n 2, 1) := by decide +kernel
theorem dX9_send_18 : decode cX9_send 18 = .ok (.i2l, 1) := by decide +kernel
theorem dX9_send_19 : decode cX9_send 19 = .ok (.lconst 0, 1) := by decide +kernel
theorem dX9_send_20 : decode cX9_send 20 = .ok (.aload_n 0, 1) := by decide +kernel
theorem dX9_send_21 : decode cX9_send 21 = .ok (.getfield 7, 3) := by decide +kernel
theorem dX9_send_24 : decode cX9_send 24 = .ok (.iconst 0, 1) := by decide +kernel
theorem dX9_send_25 : decode cX9_send 25 = .ok (.iaload, 1) := by decide +kernel
theorem dX9_send_26 : decode cX9_send 26 = .ok (.i2l, 1) := by decide +kernel
theorem dX9_send_27 : decode cX9_send 27 = .ok (.invokestatic 52, 3) := by decide +kernel
theorem dX9_send_30 : decode cX9_send 30 = .ok (.ifCond .eq 13, 3) := by decide +kernel
theorem dX9_send_33 : decode cX9_send 33 = .ok (.iload_n 3, 1) := by decide +kernel
theorem dX9_send_34 : decode cX9_send 34 = .ok (.i2l, 1) := by decide +kernel
theorem dX9_send_35 : decode cX9_send 35 = .ok (.lconst 0, 1) := by decide +kernel
theorem dX9_send_36 : decode cX9_send 36 = .ok (.lconst 1, 1) := by decide +kernel
theorem dX9_send_37 : decode cX9_send 37 = .ok (.invokestatic 52, 3) := by decide +kernel
theorem dX9_send_40 : decode cX9_send 40 = .ok (.ifCond .ne 6, 3) := by decide +kernel
theorem dX9_send_43 : decode cX9_send 43 = .ok (.bipush (-3), 2) := by decide +kernel
theorem dX9_send_45 : decode cX9_send 45 = .ok (.ireturn, 1) := by decide +kernel
theorem dX9_send_46 : decode cX9_send 46 = .ok (.iconst (-1), 1) := by decide +kernel
theorem dX9_send_47 : decode cX9_send 47 = .ok (.istore 4, 2) := by decide +kernel
theorem dX9_send_49 : decode cX9_send 49 = .ok (.iconst 0, 1) := by decide +kernel
theorem dX9_send_50 : decode cX9_send 50 = .ok (.istore 5, 2) := by decide +kernel
theorem dX9_send_52 : decode cX9_send 52 = .ok (.iload 5, 2) := by decide +kernel
theorem dX9_send_54 : decode cX9_send 54 = .ok (.iconst 1, 1) := by decide +kernel
theorem dX9_send_55 : decode cX9_send 55 = .ok (.aload_n 0, 1) := by decide +kernel
theorem dX9_send_56 : decode cX9_send 56 = .ok (.getfield 7, 3) := by decide +kernel
theorem dX9_send_59 : decode cX9_send 59 = .ok (.iconst 2, 1) := by decide +kernel
theorem dX9_send_60 : decode cX9_send 60 = .ok (.iaload, 1) := by decide +kernel
theorem dX9_send_61 : decode cX9_send 61 = .ok (.ishl, 1) := by decide +kernel
theorem dX9_send_62 : decode cX9_send 62 = .ok (.if_icmp .ge 128, 3) := by decide +kernel
theorem dX9_send_65 : decode cX9_send 65 = .ok (.iload 5, 2) := by decide +kernel
theorem dX9_send_67 : decode cX9_send 67 = .ok (.aload_n 0, 1) := by decide +kernel
theorem dX9_send_68 : decode cX9_send 68 = .ok (.getfield 7, 3) := by decide +kernel
theorem dX9_send_71 : decode cX9_send 71 = .ok (.iconst 3, 1) := by decide +kernel
theorem dX9_send_72 : decode cX9_send 72 = .ok (.iaload, 1) := by decide +kernel
theorem dX9_send_73 : decode cX9_send 73 = .ok (.iand, 1) := by decide +kernel
theorem dX9_send_74 : decode cX9_send 74 = .ok (.ifCond .ne 26, 3) := by decide +kernel
theorem dX9_send_77 : decode cX9_send 77 = .ok (.iload 4, 2) := by decide +kernel
theorem dX9_send_79 : decode cX9_send 79 = .ok (.iconst (-1), 1) := by decide +kernel
theorem dX9_send_80 : decode cX9_send 80 = .ok (.if_icmp .eq 16, 3) := by decide +kernel
theorem dX9_send_83 : decode cX9_send 83 = .ok (.iload 5, 2) := by decide +kernel
theorem dX9_send_85 : decode cX9_send 85 = .ok (.invokestatic 161, 3) := by decide +kernel
theorem dX9_send_88 : decode cX9_send 88 = .ok (.iload 4, 2) := by decide +kernel
theorem dX9_send_90 : decode cX9_send 90 = .ok (.invokestatic 161, 3) := by decide +kernel
theorem dX9_send_93 : decode cX9_send 93 = .ok (.if_icmp .ge 7, 3) := by decide +kernel
theorem dX9_send_96 : decode cX9_send 96 = .ok (.iconst 1, 1) := by decide +kernel
theorem dX9_send_97 : decode cX9_send 97 = .ok (.goto 4, 3) := by decide +kernel
theorem dX9_send_100 : decode cX9_send 100 = .ok (.iconst 0, 1) := by decide +kernel
theorem dX9_send_101 : decode cX9_send 101 = .ok (.istore 6, 2) := by decide +kernel
theorem dX9_send_103 : decode cX9_send 103 = .ok (.iload 6, 2) := by decide +kernel
theorem dX9_send_105 : decode cX9_send 105 = .ok (.ifCond .eq 79, 3) := by decide +kernel
theorem dX9_send_108 : decode cX9_send 108 = .ok (.aload_n 0, 1) := by decide +kernel
theorem dX9_send_109 : decode cX9_send 109 = .ok (.iload 5, 2) := by decide +kernel
theorem dX9_send_111 : decode cX9_send 111 = .ok (.aload_n 0, 1) := by decide +kernel
theorem dX9_send_112 : decode cX9_send 112 = .ok (.getfield 7, 3) := by decide +kernel
theorem dX9_send_115 : decode cX9_send 115 = .ok (.iconst 3, 1) := by decide +kernel
theorem dX9_send_116 : decode cX9_send 116 = .ok (.iaload, 1) := by decide +kernel
theorem dX9_send_117 : decode cX9_send 117 = .ok (.ior, 1) := by decide +kernel
theorem dX9_send_118 : decode cX9_send 118 = .ok (.iload_n 1, 1) := by decide +kernel
theorem dX9_send_119 : decode cX9_send 119 = .ok (.invokevirtual 172, 3) := by decide +kernel
theorem dX9_send_122 : decode cX9_send 122 = .ok (.ifCond .eq 62, 3) := by decide +kernel
theorem dX9_send_125 : decode cX9_send 125 = .ok (.iload_n 3, 1) := by decide +kernel
theorem dX9_send_126 : decode cX9_send 126 = .ok (.ifCond .ne 24, 3) := by decide +kernel
theorem dX9_send_129 : decode cX9_send 129 = .ok (.aload_n 0, 1) := by decide +kernel
theorem dX9_send_130 : decode cX9_send 130 = .ok (.getfield 166, 3) := by decide +kernel
theorem dX9_send_133 : decode cX9_send 133 = .ok (.iload_n 2, 1) := by decide +kernel
theorem dX9_send_134 : decode cX9_send 134 = .ok (.aload_n 0, 1) := by decide +kernel
theorem dX9_send_135 : decode cX9_send 135 = .ok (.getfield 169, 3) := by decide +kernel
theorem dX9_send_138 : decode cX9_send 138 = .ok (.imul, 1) := by decide +kernel
theorem dX9_send_139 : decode cX9_send 139 = .ok (.if_icmp .gt 7, 3) := by decide +kernel
theorem dX9_send_142 : decode cX9_send 142 = .ok (.iconst 1, 1) := by decide +kernel
theorem dX9_send_143 : decode cX9_send 143 = .ok (.goto 25, 3) := by decide +kernel
theorem dX9_send_146 : decode cX9_send 146 = .ok (.iconst 0, 1) := by decide +kernel
theorem dX9_send_147 : decode cX9_send 147 = .ok (.goto 21, 3) := by decide +kernel
theorem dX9_send_150 : decode cX9_send 150 = .ok (.aload_n 0, 1) := by decide +kernel
theorem dX9_send_151 : decode cX9_send 151 = .ok (.getfield 166, 3) := by decide +kernel
theorem dX9_send_154 : decode cX9_send 154 = .ok (.iload_n 2, 1) := by decide +kernel
theorem dX9_send_155 : decode cX9_send 155 = .ok (.aload_n 0, 1) := by decide +kernel
theorem dX9_send_156 : decode cX9_send 156 = .ok (.getfield 169, 3) := by decide +kernel
theorem dX9_send_159 : decode cX9_send 159 = .ok (.imul, 1) := by decide +kernel
theorem dX9_send_160 : decode cX9_send 160 = .ok (.if_icmp .lt 7, 3) := by decide +kernel
theorem dX9_send_163 : decode cX9_send 163 = .ok (.iconst 1, 1) := by decide +kernel
theorem dX9_send_164 : decode cX9_send 164 = .ok (.goto 4, 3) := by decide +kernel
theorem dX9_send_167 : decode cX9_send 167 = .ok (.iconst 0, 1) := by decide +kernel
theorem dX9_send_168 : decode cX9_send 168 = .ok (.istore 7, 2) := by decide +kernel
theorem dX9_send_170 : decode cX9_send 170 = .ok (.iload 7, 2) := by decide +kernel
theorem dX9_send_172 : decode cX9_send 172 = .ok (.ifCond .eq 8, 3) := by decide +kernel
theorem dX9_send_175 : decode cX9_send 175 = .ok (.iload 5, 2) := by decide +kernel
theorem dX9_send_177 : decode cX9_send 177 = .ok (.goto 5, 3) := by decide +kernel
theorem dX9_send_180 : decode cX9_send 180 = .ok (.iload 4, 2) := by decide +kernel
theorem dX9_send_182 : decode cX9_send 182 = .ok (.istore 4, 2) := by decide +kernel
theorem dX9_send_184 : decode cX9_send 184 = .ok (.iinc 5 1, 3) := by decide +kernel
theorem dX9_send_187 : decode cX9_send 187 = .ok (.goto (-135), 3) := by decide +kernel
theorem dX9_send_190 : decode cX9_send 190 = .ok (.iload 4, 2) := by decide +kernel
theorem dX9_send_192 : decode cX9_send 192 = .ok (.ireturn, 1) := by decide +kernel
def fX9_send_52 (a1 : Int32) (a2 : Int32) (a3 : Int32) (o_road_f : Nat → Int32)  : Nat → Int32 → Int32 → Int32 → Int32 → Int32 × Int32 × Int32
  | 0, _, _, _, _ => default
  | n + 1, v52_4, v52_5, o_above_52, o_below_52 => if ((1 : Int32) <<< ((o_road_f 2) &&& 31)) ≤ v52_5 then ((v52_4, o_above_52, o_below_52)) else (xlet (if (v52_5 &&& (o_road_f 3)) = 0 then (if v52_4 = (-1) then (1 : Int32) else (if (fX9_bits v52_4) ≤ (fX9_bits v52_5) then 0 else 1)) else 0) (fun y_2 => if y_2 = 0 then (fX9_send_52 a1 a2 a3 o_road_f n v52_4 (v52_5 + 1) o_above_52 o_below_52) else (match fX9_layMean (v52_5 ||| (o_road_f 3)) a1 o_road_f with | (r8, u6, u7) => if r8 = 0 then (fX9_send_52 a1 a2 a3 o_road_f n v52_4 (v52_5 + 1) u6 u7) else (xlet (if a3 = 0 then (if (a2 * u7) < u6 then (0 : Int32) else 1) else (if u6 < (a2 * u7) then 0 else 1)) (fun y_5 => xlet (if y_5 = 0 then v52_4 else v52_5) (fun y_6 => fX9_send_52 a1 a2 a3 o_road_f n y_6 (v52_5 + 1) u6 u7))))))
def fX9_send (a1 : Int32) (a2 : Int32) (a3 : Int32) (o_above : Int32) (o_below : Int32) (o_road_f : Nat → Int32) : Int32 × Int32 × Int32 := if (fX9_in a1.toInt64 1 8) = 0 then (((-3), o_above, o_below)) else (if (fX9_in a2.toInt64 0 ((o_road_f 0).toInt64)) = 0 then (((-3), o_above, o_below)) else (if (fX9_in a3.toInt64 0 1) = 0 then (((-3), o_above, o_below)) else (fX9_send_52 a1 a2 a3 o_road_f 1000 (-1) 0 o_above o_below)))
set_option maxHeartbeats 4000000 in
set_option maxRecDepth 100000 in
theorem c_X9_send (l : Launch) (D : va_G) (cI cZ : ClassId) (sz : Nat) (o : Nat) (a1 : Int32) (a2 : Int32) (a3 : Int32) (o_road : Nat) (o_told : Nat) (o_fresh : Nat) (o_was : Nat) (o_acts : Int32) (o_kept : Nat) (o_isKept : Nat) (o_sights : Nat) (o_many : Int32) (o_text : Nat) (o_letters : Int32) (o_thrown : Int32) (o_cursor : Int32) (o_token : Int32) (o_start : Int32) (o_value : Int64) (o_isFault : Int32) (o_faultAt : Int32) (o_above : Int32) (o_below : Int32) (o_topOf : Nat) (o_partsOf : Nat) (o_sent : Nat) (o_road_f : Nat → Int32) (hn0 : 4 ≤ (o_road_f 0).toInt) (hn1 : (o_road_f 0).toInt ≤ 20) (hv0 : 0 ≤ (o_road_f 2).toInt) (hv6 : (o_road_f 2).toInt ≤ 6) (hhab : ∀ w : Int32, 0 ≤ w.toInt → w.toInt < (o_road_f 2).toInt → ¬ o_road_f (30 + w).toNatClampNeg = 0) : Met l yX9_send wsX9_send ({ frames := 4, cells := 0, slots := 0, locals := 97 } : Room) (va_Pc [.ref o, .int a1, .int a2, .int a3] (xP D cI cZ [(o, .inr (9, [.ref o_road, .ref o_told, .ref o_fresh, .ref o_was, .int o_acts, .ref o_kept, .ref o_isKept, .ref o_sights, .int o_many, .ref o_text, .int o_letters, .int o_thrown, .int o_cursor, .int o_token, .int o_start, .long o_value, .int o_isFault, .int o_faultAt, .int o_above, .int o_below, .ref o_topOf, .ref o_partsOf, .ref o_sent])), (o_road, .inl (cI, 36, .inl o_road_f))] sz)) (va_Qi (fun (r : Int32) (u : Int32 × Int32) => (r, u) = fX9_send a1 a2 a3 o_above o_below o_road_f) (fun (u : Int32 × Int32) t => xB D cI cZ [(o, .inr (9, [.ref o_road, .ref o_told, .ref o_fresh, .ref o_was, .int o_acts, .ref o_kept, .ref o_isKept, .ref o_sights, .int o_many, .ref o_text, .int o_letters, .int 0, .int o_cursor, .int o_token, .int o_start, .long o_value, .int o_isFault, .int o_faultAt, .int u.1, .int u.2, .ref o_topOf, .ref o_partsOf, .ref o_sent])), (o_road, .inl (cI, 36, .inl o_road_f))] (va_A [(o, .inr (9, [.ref o_road, .ref o_told, .ref o_fresh, .ref o_was, .int o_acts, .ref o_kept, .ref o_isKept, .ref o_sights, .int o_many, .ref o_text, .int o_letters, .int o_thrown, .int o_cursor, .int o_token, .int o_start, .long o_value, .int o_isFault, .int o_faultAt, .int o_above, .int o_below, .ref o_topOf, .ref o_partsOf, .ref o_sent])), (o_road, .inl (cI, 36, .inl o_road_f))] sz) t) (va_A [(o, .inr (9, [.ref o_road, .ref o_told, .ref o_fresh, .ref o_was, .int o_acts, .ref o_kept, .ref o_isKept, .ref o_sights, .int o_many, .ref o_text, .int o_letters, .int o_thrown, .int o_cursor, .int o_token, .int o_start, .long o_value, .int o_isFault, .int o_faultAt, .int o_above, .int o_below, .ref o_topOf, .ref o_partsOf, .ref o_sent])), (o_road, .inl (cI, 36, .inl o_road_f))] sz)) 0 0 (va_A [(o, .inr (9, [.ref o_road, .ref o_told, .ref o_fresh, .ref o_was, .int o_acts, .ref o_kept, .ref o_isKept, .ref o_sights, .int o_many, .ref o_text, .int o_letters, .int o_thrown, .int o_cursor, .int o_token, .int o_start, .long o_value, .int o_isFault, .int o_faultAt, .int o_above, .int o_below, .ref o_topOf, .ref o_partsOf, .ref o_sent])), (o_road, .inl (cI, 36, .inl o_road_f))] sz) := by
  refine Met.ofW (cc := cX9_send) (maxL := 8) (ret := (some .int)) (by decide) rfl ?_
  intro p e s m args below meth c s₁ B hml hv
  obtain ⟨hargs, hsz, hP, hK, hD0, hE⟩ := hv
  subst hargs
  have hx := B.exec
  have hb := B.bytes
  have hr := B.returns
  have hts := atoms_spec (ws := wsX9_send) B.pre
  have hown : s.vm.findClass RX9 = some m.cls := findClass_of_methodNamed B.named
  have hlocks := B.notSynchronized
  subst hsz
  have hD := hD0.self (sz := s.heap.size)
  generalize hAe : va_A [(o, .inr (9, [.ref o_road, .ref o_told, .ref o_fresh, .ref o_was, .int o_acts, .ref o_kept, .ref o_isKept, .ref o_sights, .int o_many, .ref o_text, .int o_letters, .int o_thrown, .int o_cursor, .int o_token, .int o_start, .long o_value, .int o_isFault, .int o_faultAt, .int o_above, .int o_below, .ref o_topOf, .ref o_partsOf, .ref o_sent])), (o_road, .inl (cI, 36, .inl o_road_f))] s.heap.size = A at hD ⊢
  have hA : ∀ q : Nat, s.heap.size ≤ q → A q := fun q h => by rw [← hAe]; exact Or.inr h
  have hS : va_S A s.heap s.heap [] := va_S.rf
  have hl := lv_entry ([.ref o, .int a1, .int a2, .int a3]) (n := 8) (Nat.le_of_ble_eq_true rfl)
  rw [lg_entry_eq]
  generalize (lg_sl ([.ref o, .int a1, .int a2, .int a3]) ++ List.replicate (8 - (lg_sl ([.ref o, .int a1, .int a2, .int a3])).length) Slot.unset).toArray = ls at hl ⊢
  have hl : lv_has ls 8 [(0, .ref o), (1, .int a1), (2, .int a2), (3, .int a3)] := hl
  refine wq (X := fun Q => ∀ (pc : Nat) (H : Heap) (locs : List Loc) (ls : Array Slot) (r : Int32) (u : Int32 × Int32) (hd : decode cX9_send pc = .ok (.ireturn, 1)) (hp : (r, u) = fX9_send a1 a2 a3 o_above o_below o_road_f) (hP : va_P D vwCl [(o, .inr (9, [.ref o_road, .ref o_told, .ref o_fresh, .ref o_was, .int o_acts, .ref o_kept, .ref o_isKept, .ref o_sights, .int o_many, .ref o_text, .int o_letters, .int 0, .int o_cursor, .int o_token, .int o_start, .long o_value, .int o_isFault, .int o_faultAt, .int u.1, .int u.2, .ref o_topOf, .ref o_partsOf, .ref o_sent])), (o_road, .inl (cI, 36, .inl o_road_f))] H) (hD : va_D A [(o, .inr (9, [.ref o_road, .ref o_told, .ref o_fresh, .ref o_was, .int o_acts, .ref o_kept, .ref o_isKept, .ref o_sights, .int o_many, .ref o_text, .int o_letters, .int 0, .int o_cursor, .int o_token, .int o_start, .long o_value, .int o_isFault, .int o_faultAt, .int u.1, .int u.2, .ref o_topOf, .ref o_partsOf, .ref o_sent])), (o_road, .inl (cI, 36, .inl o_road_f))]) (hS : va_S A s.heap H locs), W p l e ({ frames := 4, cells := 0, slots := 0, locals := 97 } : Room) s m ([.ref o, .int a1, .int a2, .int a3] : List Value).toArray below meth c H locs 0 0 Q (F0 m pc ls [.int r])) ?_ (fun Q hret => ?_)
  · intro pc H locs ls r u hd hp hP hD hS
    exact W.iret (v := r) hx hb hr (fun t ht hW => ⟨⟨r, u, rfl, hp, by rw [ht]; exact hP, va_K.moved hW.alike hK, hD⟩, hS.F ht⟩) hS.2.2 hd
  have hin_9 : ∀ w ∈ u_ws RX9 TX9 23, w ∈ wsX9_send := by decide +kernel
  have fl_7 := hts (.fieldLink RX9 7 "MileRoadModel" "road" "[I") (by decide +kernel)
  have fl_48 := hts (.fieldLink RX9 48 "MileRoadModel" "thrown" "I") (by decide +kernel)
  have fl_166 := hts (.fieldLink RX9 166 "MileRoadModel" "above" "I") (by decide +kernel)
  have fl_169 := hts (.fieldLink RX9 169 "MileRoadModel" "below" "I") (by decide +kernel)
  have zl_m1 : ((-1) : Int32).toInt = (-1) := by decide
  have zl_0 : (0 : Int32).toInt = 0 := by decide
  have zl_1 : (1 : Int32).toInt = 1 := by decide
  have zl_2 : (2 : Int32).toInt = 2 := by decide
  have zl_3 : (3 : Int32).toInt = 3 := by decide
  have zs := t_shl hv0 hv6
  have hF : fX9_send a1 a2 a3 o_above o_below o_road_f = fX9_send a1 a2 a3 o_above o_below o_road_f := rfl
  have L_52 : ∀  (n_52 : Nat) (v52_4 : Int32) (v52_5 : Int32) (o_above_52 : Int32) (o_below_52 : Int32) (h1_52 : 0 ≤ v52_5.toInt) (h2_52 : v52_5.toInt ≤ 64) (hm : 64 - v52_5.toInt < (n_52 : Int)) (H : Heap) (locs : List Loc) (ls : Array Slot) (hl : lv_has ls 8 [(0, .ref o), (1, .int a1), (2, .int a2), (3, .int a3), (4, .int v52_4), (5, .int v52_5)]) (hP : va_P D vwCl [(o, .inr (9, [.ref o_road, .ref o_told, .ref o_fresh, .ref o_was, .int o_acts, .ref o_kept, .ref o_isKept, .ref o_sights, .int o_many, .ref o_text, .int o_letters, .int 0, .int o_cursor, .int o_token, .int o_start, .long o_value, .int o_isFault, .int o_faultAt, .int o_above_52, .int o_below_52, .ref o_topOf, .ref o_partsOf, .ref o_sent])), (o_road, .inl (cI, 36, .inl o_road_f))] H) (hD : va_D A [(o, .inr (9, [.ref o_road, .ref o_told, .ref o_fresh, .ref o_was, .int o_acts, .ref o_kept, .ref o_isKept, .ref o_sights, .int o_many, .ref o_text, .int o_letters, .int 0, .int o_cursor, .int o_token, .int o_start, .long o_value, .int o_isFault, .int o_faultAt, .int o_above_52, .int o_below_52, .ref o_topOf, .ref o_partsOf, .ref o_sent])), (o_road, .inl (cI, 36, .inl o_road_f))]) (hS : va_S A s.heap H locs) (hF : fX9_send a1 a2 a3 o_above o_below o_road_f = fX9_send_52 a1 a2 a3 o_road_f n_52 v52_4 v52_5 o_above_52 o_below_52), W p l e ({ frames := 4, cells := 0, slots := 0, locals := 97 } : Room) s m ([.ref o, .int a1, .int a2, .int a3] : List Value).toArray below meth c H locs 0 0 Q (F0 m 52 ls []) := by
    intro  n_52
    induction n_52 with
    | zero =>
      intro v52_4 v52_5 o_above_52 o_below_52 h1_52 h2_52 hm H locs ls hl hP hD hS hF
      exact absurd hm (by with_reducible omega)
    | succ n_52 ih_52 =>
      intro v52_4 v52_5 o_above_52 o_below_52 h1_52 h2_52 hm H locs ls hl hP hD hS hF
      refine lv_iload hx hb dX9_send_52 (lv_at hl 5 rfl) ?_
      refine lv_iconst (v := 1) hx hb dX9_send_54 (by decide) ?_
      refine lv_aload_n hx hb dX9_send_55 rfl (lv_at hl 0 rfl) ?_
      refine xget hx hb hts hown hK 9 (C2 := RX9) (T := TX9) (N := 23) rfl hin_9 hP 0 rfl 0 (by decide) fl_7 rfl rfl rfl dX9_send_56 ?_
      refine lv_iconst (v := 2) hx hb dX9_send_59 (by decide) ?_
      refine xald hx hb hK hP 1 0 (k := 2) rfl rfl (vi (by decide) (by decide)) (by decide) dX9_send_60 ?_
      refine lv_ishl hx hb dX9_send_61 ?_
      refine lv_icmp_ge (tgt := 190) hx hb dX9_send_62 (by decide) (fun c_4 => ?_) (fun c_4 => ?_)
      · have kc_4 := t_le c_4
        refine lv_iload hx hb dX9_send_190 (lv_at hl 4 rfl) ?_
        exact hret _ _ _ _ v52_4 (o_above_52, o_below_52) dX9_send_192 ((hF.trans (by simp only [fX9_send_52, ↓if_pos c_4])).symm) hP hD hS
      · have kc_4 := t_nle c_4
        refine lv_iload hx hb dX9_send_65 (lv_at hl 5 rfl) ?_
        refine lv_aload_n hx hb dX9_send_67 rfl (lv_at hl 0 rfl) ?_
        refine xget hx hb hts hown hK 9 (C2 := RX9) (T := TX9) (N := 23) rfl hin_9 hP 0 rfl 0 (by decide) fl_7 rfl rfl rfl dX9_send_68 ?_
        refine lv_iconst (v := 3) hx hb dX9_send_71 (by decide) ?_
        refine xald hx hb hK hP 1 0 (k := 3) rfl rfl (vi (by decide) (by decide)) (by decide) dX9_send_72 ?_
        refine lv_iand hx hb dX9_send_73 ?_
        have K_y_2 : ∀ (y_2 : Int32) (hy_y_2 : (if (v52_5 &&& (o_road_f 3)) = 0 then (if v52_4 = (-1) then (1 : Int32) else (if (fX9_bits v52_4) ≤ (fX9_bits v52_5) then 0 else 1)) else 0) = y_2) (H : Heap) (locs : List Loc) (hP : va_P D vwCl [(o, .inr (9, [.ref o_road, .ref o_told, .ref o_fresh, .ref o_was, .int o_acts, .ref o_kept, .ref o_isKept, .ref o_sights, .int o_many, .ref o_text, .int o_letters, .int 0, .int o_cursor, .int o_token, .int o_start, .long o_value, .int o_isFault, .int o_faultAt, .int o_above_52, .int o_below_52, .ref o_topOf, .ref o_partsOf, .ref o_sent])), (o_road, .inl (cI, 36, .inl o_road_f))] H) (hD : va_D A [(o, .inr (9, [.ref o_road, .ref o_told, .ref o_fresh, .ref o_was, .int o_acts, .ref o_kept, .ref o_isKept, .ref o_sights, .int o_many, .ref o_text, .int o_letters, .int 0, .int o_cursor, .int o_token, .int o_start, .long o_value, .int o_isFault, .int o_faultAt, .int o_above_52, .int o_below_52, .ref o_topOf, .ref o_partsOf, .ref o_sent])), (o_road, .inl (cI, 36, .inl o_road_f))]) (hS : va_S A s.heap H locs), W p l e ({ frames := 4, cells := 0, slots := 0, locals := 97 } : Room) s m ([.ref o, .int a1, .int a2, .int a3] : List Value).toArray below meth c H locs 0 0 Q (F0 m 101 ls [.int y_2]) := by
          intro y_2 hy_y_2 H locs hP hD hS
          have ky_y_2 : y_2 = 0 ∨ y_2 = 1 := by rw [← hy_y_2]; (repeat' split) <;> simp
          refine lv_istore (lv' := [(6, .int y_2), (0, .ref o), (1, .int a1), (2, .int a2), (3, .int a3), (4, .int v52_4), (5, .int v52_5)]) hx hb dX9_send_101 hl (by decide) rfl (fun ls hl => ?_)
          refine lv_iload hx hb dX9_send_103 (lv_at hl 0 rfl) ?_
          refine lv_if_eq (tgt := 184) hx hb dX9_send_105 (by decide) (fun c_8 => ?_) (fun c_8 => ?_)
          · have kc_8 := t_eq c_8
            refine lv_iinc (v := (v52_5 + 1)) (lv' := [(5, .int (v52_5 + 1)), (6, .int y_2), (0, .ref o), (1, .int a1), (2, .int a2), (3, .int a3), (4, .int v52_4)]) hx hb dX9_send_184 hl (k := 6) rfl (by rfl) (by decide) rfl (fun ls hl => ?_)
            refine lv_goto (tgt := 52) hx hb dX9_send_187 (by decide) ?_
            have z_1 : (v52_5 + 1).toInt = v52_5.toInt + (1 : Int32).toInt := z_add (by with_reducible omega) (by with_reducible omega)
            exact ih_52 v52_4 (v52_5 + 1) o_above_52 o_below_52 (by first | with_reducible assumption | with_reducible omega | decide | (split <;> rename_i hh <;> first | (have h9 := t_nlt hh; with_reducible omega) | (have h9 := t_lt hh; with_reducible omega) | (have h9 := t_nle hh; with_reducible omega) | (have h9 := t_le hh; with_reducible omega))) (by first | with_reducible assumption | with_reducible omega | decide | (split <;> rename_i hh <;> first | (have h9 := t_nlt hh; with_reducible omega) | (have h9 := t_lt hh; with_reducible omega) | (have h9 := t_nle hh; with_reducible omega) | (have h9 := t_le hh; with_reducible omega))) (by first | with_reducible assumption | with_reducible omega | decide | (split <;> rename_i hh <;> first | (have h9 := t_nlt hh; with_reducible omega) | (have h9 := t_lt hh; with_reducible omega) | (have h9 := t_nle hh; with_reducible omega) | (have h9 := t_le hh; with_reducible omega))) _ _ _ (lv_sub hl [2, 3, 4, 5, 6, 0] rfl) hP hD hS (hF.trans (by simp only [fX9_send_52, ↓if_neg c_4, ↓(xlet_of hy_y_2), ↓if_pos c_8]))
          · have kc_8 := t_neq c_8
            refine lv_aload_n hx hb dX9_send_108 rfl (lv_at hl 1 rfl) ?_
            refine lv_iload hx hb dX9_send_109 (lv_at hl 6 rfl) ?_
            refine lv_aload_n hx hb dX9_send_111 rfl (lv_at hl 1 rfl) ?_
            refine xget hx hb hts hown hK 9 (C2 := RX9) (T := TX9) (N := 23) rfl hin_9 hP 0 rfl 0 (by decide) fl_7 rfl rfl rfl dX9_send_112 ?_
            refine lv_iconst (v := 3) hx hb dX9_send_115 (by decide) ?_
            refine xald hx hb hK hP 1 0 (k := 3) rfl rfl (vi (by decide) (by decide)) (by decide) dX9_send_116 ?_
            refine lv_ior hx hb dX9_send_117 ?_
            refine lv_iload_n hx hb dX9_send_118 rfl (lv_at hl 2 rfl) ?_
            refine xcalli (S := Int32 × Int32) (Wc := [(o, .inr (9, [.ref o_road, .ref o_told, .ref o_fresh, .ref o_was, .int o_acts, .ref o_kept, .ref o_isKept, .ref o_sights, .int o_many, .ref o_text, .int o_letters, .int 0, .int o_cursor, .int o_token, .int o_start, .long o_value, .int o_isFault, .int o_faultAt, .int o_above_52, .int o_below_52, .ref o_topOf, .ref o_partsOf, .ref o_sent])), (o_road, .inl (cI, 36, .inl o_road_f))]) (wr := []) (W1 := (fun (u : Int32 × Int32) => [(o, .inr (9, [.ref o_road, .ref o_told, .ref o_fresh, .ref o_was, .int o_acts, .ref o_kept, .ref o_isKept, .ref o_sights, .int o_many, .ref o_text, .int o_letters, .int 0, .int o_cursor, .int o_token, .int o_start, .long o_value, .int o_isFault, .int o_faultAt, .int u.1, .int u.2, .ref o_topOf, .ref o_partsOf, .ref o_sent])), (o_road, .inl (cI, 36, .inl o_road_f))])) (Wn := (fun (u : Int32 × Int32) => [(o, .inr (9, [.ref o_road, .ref o_told, .ref o_fresh, .ref o_was, .int o_acts, .ref o_kept, .ref o_isKept, .ref o_sights, .int o_many, .ref o_text, .int o_letters, .int 0, .int o_cursor, .int o_token, .int o_start, .long o_value, .int o_isFault, .int o_faultAt, .int u.1, .int u.2, .ref o_topOf, .ref o_partsOf, .ref o_sent])), (o_road, .inl (cI, 36, .inl o_road_f))])) (xrunV hx hb hml hown hts (c_X9_layMean l D cI cZ _ o (v52_5 ||| (o_road_f 3)) a1 o_road o_told o_fresh o_was o_acts o_kept o_isKept o_sights o_many o_text o_letters 0 o_cursor o_token o_start o_value o_isFault o_faultAt o_above_52 o_below_52 o_topOf o_partsOf o_sent o_road_f hn0 hn1 hv0 hv6 hhab) (cwV 2 hts gX9_send_X9_layMean rfl rfl rfl (by decide +kernel) ⟨Nat.le_of_ble_eq_true rfl, Nat.le_of_ble_eq_true rfl⟩) hE hK hP hD [0, 1] rfl rfl 0 9 (T := TX9) (N := 23) rfl rfl rfl hl.1 rfl (Nat.le_of_ble_eq_true rfl) dX9_send_119 ⟨Nat.le_of_ble_eq_true rfl, Nat.le_of_ble_eq_true rfl⟩) hP hD hS hA [0, 1] [] [0, 1] rfl rfl rfl (by decide) (fun _ => rfl) rfl (fun r8 u H locs hw hz hP hD hS => ?_)
            obtain ⟨u6, u7⟩ := u
            have hw_10 := hw.symm
            have hP : va_P D vwCl [(o, .inr (9, [.ref o_road, .ref o_told, .ref o_fresh, .ref o_was, .int o_acts, .ref o_kept, .ref o_isKept, .ref o_sights, .int o_many, .ref o_text, .int o_letters, .int 0, .int o_cursor, .int o_token, .int o_start, .long o_value, .int o_isFault, .int o_faultAt, .int u6, .int u7, .ref o_topOf, .ref o_partsOf, .ref o_sent])), (o_road, .inl (cI, 36, .inl o_road_f))] H := hP
            have hD : va_D A [(o, .inr (9, [.ref o_road, .ref o_told, .ref o_fresh, .ref o_was, .int o_acts, .ref o_kept, .ref o_isKept, .ref o_sights, .int o_many, .ref o_text, .int o_letters, .int 0, .int o_cursor, .int o_token, .int o_start, .long o_value, .int o_isFault, .int o_faultAt, .int u6, .int u7, .ref o_topOf, .ref o_partsOf, .ref o_sent])), (o_road, .inl (cI, 36, .inl o_road_f))] := hD
            refine lv_if_eq (tgt := 184) hx hb dX9_send_122 (by decide) (fun c_9 => ?_) (fun c_9 => ?_)
            · have kc_9 := t_eq c_9
              refine lv_iinc (v := (v52_5 + 1)) (lv' := [(5, .int (v52_5 + 1)), (6, .int y_2), (0, .ref o), (1, .int a1), (2, .int a2), (3, .int a3), (4, .int v52_4)]) hx hb dX9_send_184 hl (k := 6) rfl (by rfl) (by decide) rfl (fun ls hl => ?_)
              refine lv_goto (tgt := 52) hx hb dX9_send_187 (by decide) ?_
              have z_2 : (v52_5 + 1).toInt = v52_5.toInt + (1 : Int32).toInt := z_add (by with_reducible omega) (by with_reducible omega)
              exact ih_52 v52_4 (v52_5 + 1) u6 u7 (by first | with_reducible assumption | with_reducible omega | decide | (split <;> rename_i hh <;> first | (have h9 := t_nlt hh; with_reducible omega) | (have h9 := t_lt hh; with_reducible omega) | (have h9 := t_nle hh; with_reducible omega) | (have h9 := t_le hh; with_reducible omega))) (by first | with_reducible assumption | with_reducible omega | decide | (split <;> rename_i hh <;> first | (have h9 := t_nlt hh; with_reducible omega) | (have h9 := t_lt hh; with_reducible omega) | (have h9 := t_nle hh; with_reducible omega) | (have h9 := t_le hh; with_reducible omega))) (by first | with_reducible assumption | with_reducible omega | decide | (split <;> rename_i hh <;> first | (have h9 := t_nlt hh; with_reducible omega) | (have h9 := t_lt hh; with_reducible omega) | (have h9 := t_nle hh; with_reducible omega) | (have h9 := t_le hh; with_reducible omega))) _ _ _ (lv_sub hl [2, 3, 4, 5, 6, 0] rfl) hP hD hS (hF.trans (by simp only [fX9_send_52, ↓if_neg c_4, ↓(xlet_of hy_y_2), ↓if_neg c_8, ↓hw_10, ↓if_pos c_9]))
            · have kc_9 := t_neq c_9
              refine lv_iload_n hx hb dX9_send_125 rfl (lv_at hl 4 rfl) ?_
              have K_y_5 : ∀ (y_5 : Int32) (hy_y_5 : (if a3 = 0 then (if (a2 * u7) < u6 then (0 : Int32) else 1) else (if u6 < (a2 * u7) then 0 else 1)) = y_5) (H : Heap) (locs : List Loc) (hP : va_P D vwCl [(o, .inr (9, [.ref o_road, .ref o_told, .ref o_fresh, .ref o_was, .int o_acts, .ref o_kept, .ref o_isKept, .ref o_sights, .int o_many, .ref o_text, .int o_letters, .int 0, .int o_cursor, .int o_token, .int o_start, .long o_value, .int o_isFault, .int o_faultAt, .int u6, .int u7, .ref o_topOf, .ref o_partsOf, .ref o_sent])), (o_road, .inl (cI, 36, .inl o_road_f))] H) (hD : va_D A [(o, .inr (9, [.ref o_road, .ref o_told, .ref o_fresh, .ref o_was, .int o_acts, .ref o_kept, .ref o_isKept, .ref o_sights, .int o_many, .ref o_text, .int o_letters, .int 0, .int o_cursor, .int o_token, .int o_start, .long o_value, .int o_isFault, .int o_faultAt, .int u6, .int u7, .ref o_topOf, .ref o_partsOf, .ref o_sent])), (o_road, .inl (cI, 36, .inl o_road_f))]) (hS : va_S A s.heap H locs), W p l e ({ frames := 4, cells := 0, slots := 0, locals := 97 } : Room) s m ([.ref o, .int a1, .int a2, .int a3] : List Value).toArray below meth c H locs 0 0 Q (F0 m 168 ls [.int y_5]) := by
                intro y_5 hy_y_5 H locs hP hD hS
                have ky_y_5 : y_5 = 0 ∨ y_5 = 1 := by rw [← hy_y_5]; (repeat' split) <;> simp
                refine lv_istore (lv' := [(7, .int y_5), (6, .int y_2), (0, .ref o), (1, .int a1), (2, .int a2), (3, .int a3), (4, .int v52_4), (5, .int v52_5)]) hx hb dX9_send_168 hl (by decide) rfl (fun ls hl => ?_)
                refine lv_iload hx hb dX9_send_170 (lv_at hl 0 rfl) ?_
                have K_y_6 : ∀ (y_6 : Int32) (hy_y_6 : (if y_5 = 0 then v52_4 else v52_5) = y_6) (H : Heap) (locs : List Loc) (hP : va_P D vwCl [(o, .inr (9, [.ref o_road, .ref o_told, .ref o_fresh, .ref o_was, .int o_acts, .ref o_kept, .ref o_isKept, .ref o_sights, .int o_many, .ref o_text, .int o_letters, .int 0, .int o_cursor, .int o_token, .int o_start, .long o_value, .int o_isFault, .int o_faultAt, .int u6, .int u7, .ref o_topOf, .ref o_partsOf, .ref o_sent])), (o_road, .inl (cI, 36, .inl o_road_f))] H) (hD : va_D A [(o, .inr (9, [.ref o_road, .ref o_told, .ref o_fresh, .ref o_was, .int o_acts, .ref o_kept, .ref o_isKept, .ref o_sights, .int o_many, .ref o_text, .int o_letters, .int 0, .int o_cursor, .int o_token, .int o_start, .long o_value, .int o_isFault, .int o_faultAt, .int u6, .int u7, .ref o_topOf, .ref o_partsOf, .ref o_sent])), (o_road, .inl (cI, 36, .inl o_road_f))]) (hS : va_S A s.heap H locs), W p l e ({ frames := 4, cells := 0, slots := 0, locals := 97 } : Room) s m ([.ref o, .int a1, .int a2, .int a3] : List Value).toArray below meth c H locs 0 0 Q (F0 m 182 ls [.int y_6]) := by
                  intro y_6 hy_y_6 H locs hP hD hS
                  have ky_y_6 : y_6 = v52_4 ∨ y_6 = v52_5 := by rw [← hy_y_6]; (repeat' split) <;> simp
                  refine lv_istore (lv' := [(4, .int y_6), (7, .int y_5), (6, .int y_2), (0, .ref o), (1, .int a1), (2, .int a2), (3, .int a3), (5, .int v52_5)]) hx hb dX9_send_182 hl (by decide) rfl (fun ls hl => ?_)
                  refine lv_iinc (v := (v52_5 + 1)) (lv' := [(5, .int (v52_5 + 1)), (4, .int y_6), (7, .int y_5), (6, .int y_2), (0, .ref o), (1, .int a1), (2, .int a2), (3, .int a3)]) hx hb dX9_send_184 hl (k := 7) rfl (by rfl) (by decide) rfl (fun ls hl => ?_)
                  refine lv_goto (tgt := 52) hx hb dX9_send_187 (by decide) ?_
                  have z_3 : (v52_5 + 1).toInt = v52_5.toInt + (1 : Int32).toInt := z_add (by with_reducible omega) (by with_reducible omega)
                  exact ih_52 y_6 (v52_5 + 1) u6 u7 (by first | with_reducible assumption | with_reducible omega | decide | (split <;> rename_i hh <;> first | (have h9 := t_nlt hh; with_reducible omega) | (have h9 := t_lt hh; with_reducible omega) | (have h9 := t_nle hh; with_reducible omega) | (have h9 := t_le hh; with_reducible omega))) (by first | with_reducible assumption | with_reducible omega | decide | (split <;> rename_i hh <;> first | (have h9 := t_nlt hh; with_reducible omega) | (have h9 := t_lt hh; with_reducible omega) | (have h9 := t_nle hh; with_reducible omega) | (have h9 := t_le hh; with_reducible omega))) (by first | with_reducible assumption | with_reducible omega | decide | (split <;> rename_i hh <;> first | (have h9 := t_nlt hh; with_reducible omega) | (have h9 := t_lt hh; with_reducible omega) | (have h9 := t_nle hh; with_reducible omega) | (have h9 := t_le hh; with_reducible omega))) _ _ _ (lv_sub hl [4, 5, 6, 7, 1, 0] rfl) hP hD hS (hF.trans (by simp only [fX9_send_52, ↓if_neg c_4, ↓(xlet_of hy_y_2), ↓if_neg c_8, ↓hw_10, ↓if_neg c_9, ↓(xlet_of hy_y_5), ↓(xlet_of hy_y_6)]))
                refine lv_if_eq (tgt := 180) hx hb dX9_send_172 (by decide) (fun c_13 => ?_) (fun c_13 => ?_)
                · have kc_13 := t_eq c_13
                  refine lv_iload hx hb dX9_send_180 (lv_at hl 6 rfl) ?_
                  exact K_y_6 _ (by simp only [↓if_pos c_13]) _ _ hP hD hS
                · have kc_13 := t_neq c_13
                  refine lv_iload hx hb dX9_send_175 (lv_at hl 7 rfl) ?_
                  refine lv_goto (tgt := 182) hx hb dX9_send_177 (by decide) ?_
                  exact K_y_6 _ (by simp only [↓if_neg c_13]) _ _ hP hD hS
              refine lv_if_ne (tgt := 150) hx hb dX9_send_126 (by decide) (fun c_10 => ?_) (fun c_10 => ?_)
              · have kc_10 := t_neq c_10
                refine lv_aload_n hx hb dX9_send_150 rfl (lv_at hl 1 rfl) ?_
                refine xget hx hb hts hown hK 9 (C2 := RX9) (T := TX9) (N := 23) rfl hin_9 hP 0 rfl 18 (by decide) fl_166 rfl rfl rfl dX9_send_151 ?_
                refine lv_iload_n hx hb dX9_send_154 rfl (lv_at hl 3 rfl) ?_
                refine lv_aload_n hx hb dX9_send_155 rfl (lv_at hl 1 rfl) ?_
                refine xget hx hb hts hown hK 9 (C2 := RX9) (T := TX9) (N := 23) rfl hin_9 hP 0 rfl 19 (by decide) fl_169 rfl rfl rfl dX9_send_156 ?_
                refine lv_imul hx hb dX9_send_159 ?_
                refine lv_icmp_lt (tgt := 167) hx hb dX9_send_160 (by decide) (fun c_11 => ?_) (fun c_11 => ?_)
                · refine lv_iconst (v := 0) hx hb dX9_send_167 (by decide) ?_
                  exact K_y_5 _ (by simp only [↓if_neg c_10, ↓if_pos c_11]) _ _ hP hD hS
                · refine lv_iconst (v := 1) hx hb dX9_send_163 (by decide) ?_
                  refine lv_goto (tgt := 168) hx hb dX9_send_164 (by decide) ?_
                  exact K_y_5 _ (by simp only [↓if_neg c_10, ↓if_neg c_11]) _ _ hP hD hS
              · have kc_10 := t_eq c_10
                refine lv_aload_n hx hb dX9_send_129 rfl (lv_at hl 1 rfl) ?_
                refine xget hx hb hts hown hK 9 (C2 := RX9) (T := TX9) (N := 23) rfl hin_9 hP 0 rfl 18 (by decide) fl_166 rfl rfl rfl dX9_send_130 ?_
                refine lv_iload_n hx hb dX9_send_133 rfl (lv_at hl 3 rfl) ?_
                refine lv_aload_n hx hb dX9_send_134 rfl (lv_at hl 1 rfl) ?_
                refine xget hx hb hts hown hK 9 (C2 := RX9) (T := TX9) (N := 23) rfl hin_9 hP 0 rfl 19 (by decide) fl_169 rfl rfl rfl dX9_send_135 ?_
                refine lv_imul hx hb dX9_send_138 ?_
                refine lv_icmp_gt (tgt := 146) hx hb dX9_send_139 (by decide) (fun c_12 => ?_) (fun c_12 => ?_)
                · refine lv_iconst (v := 0) hx hb dX9_send_146 (by decide) ?_
                  refine lv_goto (tgt := 168) hx hb dX9_send_147 (by decide) ?_
                  exact K_y_5 _ (by simp only [↓if_pos c_10, ↓if_pos c_12]) _ _ hP hD hS
                · refine lv_iconst (v := 1) hx hb dX9_send_142 (by decide) ?_
                  refine lv_goto (tgt := 168) hx hb dX9_send_143 (by decide) ?_
                  exact K_y_5 _ (by simp only [↓if_pos c_10, ↓if_neg c_12]) _ _ hP hD hS
        refine lv_if_ne (tgt := 100) hx hb dX9_send_74 (by decide) (fun c_5 => ?_) (fun c_5 => ?_)
        · refine lv_iconst (v := 0) hx hb dX9_send_100 (by decide) ?_
          exact K_y_2 _ (by simp only [↓if_neg c_5]) _ _ hP hD hS
        · refine lv_iload hx hb dX9_send_77 (lv_at hl 4 rfl) ?_
          refine lv_iconst (v := (-1)) hx hb dX9_send_79 (by decide) ?_
          refine lv_icmp_eq (tgt := 96) hx hb dX9_send_80 (by decide) (fun c_6 => ?_) (fun c_6 => ?_)
          · have kc_6 := t_eq c_6
            refine lv_iconst (v := 1) hx hb dX9_send_96 (by decide) ?_
            refine lv_goto (tgt := 101) hx hb dX9_send_97 (by decide) ?_
            exact K_y_2 _ (by simp only [↓if_pos c_5, ↓if_pos c_6]) _ _ hP hD hS
          · have kc_6 := t_neq c_6
            refine lv_iload hx hb dX9_send_83 (lv_at hl 5 rfl) ?_
            refine xcalli (S := Unit) (Wc := []) (wr := [(o, .inr (9, [.ref o_road, .ref o_told, .ref o_fresh, .ref o_was, .int o_acts, .ref o_kept, .ref o_isKept, .ref o_sights, .int o_many, .ref o_text, .int o_letters, .int 0, .int o_cursor, .int o_token, .int o_start, .long o_value, .int o_isFault, .int o_faultAt, .int o_above_52, .int o_below_52, .ref o_topOf, .ref o_partsOf, .ref o_sent])), (o_road, .inl (cI, 36, .inl o_road_f))]) (W1 := (fun (u : Unit) => [])) (Wn := (fun (u : Unit) => [(o, .inr (9, [.ref o_road, .ref o_told, .ref o_fresh, .ref o_was, .int o_acts, .ref o_kept, .ref o_isKept, .ref o_sights, .int o_many, .ref o_text, .int o_letters, .int 0, .int o_cursor, .int o_token, .int o_start, .long o_value, .int o_isFault, .int o_faultAt, .int o_above_52, .int o_below_52, .ref o_topOf, .ref o_partsOf, .ref o_sent])), (o_road, .inl (cI, 36, .inl o_road_f))])) (xrunS hx hb hml hown hts (c_X9_bits l D cI cZ _ v52_5 ) (va_cwS 1 hts gX9_send_X9_bits rfl rfl rfl (by decide +kernel) ⟨Nat.le_of_ble_eq_true rfl, Nat.le_of_ble_eq_true rfl⟩) hE hK hP hD [] rfl rfl rfl hl.1 rfl (Nat.le_of_ble_eq_true rfl) dX9_send_85 ⟨Nat.le_of_ble_eq_true rfl, Nat.le_of_ble_eq_true rfl⟩) hP hD hS hA [] [0, 1] [0, 1] rfl rfl rfl (by decide) (fun _ => rfl) rfl (fun r4 u H locs hw hz hP hD hS => ?_)
            subst hw
            refine lv_iload hx hb dX9_send_88 (lv_at hl 4 rfl) ?_
            refine xcalli (S := Unit) (Wc := []) (wr := [(o, .inr (9, [.ref o_road, .ref o_told, .ref o_fresh, .ref o_was, .int o_acts, .ref o_kept, .ref o_isKept, .ref o_sights, .int o_many, .ref o_text, .int o_letters, .int 0, .int o_cursor, .int o_token, .int o_start, .long o_value, .int o_isFault, .int o_faultAt, .int o_above_52, .int o_below_52, .ref o_topOf, .ref o_partsOf, .ref o_sent])), (o_road, .inl (cI, 36, .inl o_road_f))]) (W1 := (fun (u : Unit) => [])) (Wn := (fun (u : Unit) => [(o, .inr (9, [.ref o_road, .ref o_told, .ref o_fresh, .ref o_was, .int o_acts, .ref o_kept, .ref o_isKept, .ref o_sights, .int o_many, .ref o_text, .int o_letters, .int 0, .int o_cursor, .int o_token, .int o_start, .long o_value, .int o_isFault, .int o_faultAt, .int o_above_52, .int o_below_52, .ref o_topOf, .ref o_partsOf, .ref o_sent])), (o_road, .inl (cI, 36, .inl o_road_f))])) (xrunS hx hb hml hown hts (c_X9_bits l D cI cZ _ v52_4 ) (va_cwS 1 hts gX9_send_X9_bits rfl rfl rfl (by decide +kernel) ⟨Nat.le_of_ble_eq_true rfl, Nat.le_of_ble_eq_true rfl⟩) hE hK hP hD [] rfl rfl rfl hl.1 rfl (Nat.le_of_ble_eq_true rfl) dX9_send_90 ⟨Nat.le_of_ble_eq_true rfl, Nat.le_of_ble_eq_true rfl⟩) hP hD hS hA [] [0, 1] [0, 1] rfl rfl rfl (by decide) (fun _ => rfl) rfl (fun r5 u H locs hw hz hP hD hS => ?_)
            subst hw
            refine lv_icmp_ge (tgt := 100) hx hb dX9_send_93 (by decide) (fun c_7 => ?_) (fun c_7 => ?_)
            · refine lv_iconst (v := 0) hx hb dX9_send_100 (by decide) ?_
              exact K_y_2 _ (by simp only [↓if_pos c_5, ↓if_neg c_6, ↓if_pos c_7]) _ _ hP hD hS
            · refine lv_iconst (v := 1) hx hb dX9_send_96 (by decide) ?_
              refine lv_goto (tgt := 101) hx hb dX9_send_97 (by decide) ?_
              exact K_y_2 _ (by simp only [↓if_pos c_5, ↓if_neg c_6, ↓if_neg c_7]) _ _ hP hD hS
  refine lv_aload_n hx hb dX9_send_0 rfl (lv_at hl 0 rfl) ?_
  refine lv_iconst (v := 0) hx hb dX9_send_1 (by decide) ?_
  refine xput hx hb hts hown hK 9 (C2 := RX9) (T := TX9) (N := 23) tyX9 rfl tyX9_ok nmX9 hin_9 hP hD hS 0 rfl 11 (by decide) fl_48 rfl rfl rfl rfl rfl (Nat.le_of_ble_eq_true rfl) dX9_send_2 [(o, .inr (9, [.ref o_road, .ref o_told, .ref o_fresh, .ref o_was, .int o_acts, .ref o_kept, .ref o_isKept, .ref o_sights, .int o_many, .ref o_text, .int o_letters, .int 0, .int o_cursor, .int o_token, .int o_start, .long o_value, .int o_isFault, .int o_faultAt, .int o_above, .int o_below, .ref o_topOf, .ref o_partsOf, .ref o_sent])), (o_road, .inl (cI, 36, .inl o_road_f))] rfl (fun H locs hP hD hS => ?_)
  refine lv_iload_n hx hb dX9_send_5 rfl (lv_at hl 1 rfl) ?_
  refine lv_i2l (v := a1.toInt64) hx hb dX9_send_6 rfl ?_
  refine lv_lconst (v := 1) hx hb dX9_send_7 (by decide) ?_
  refine lv_ldc2 (v := 8) hx hb hown (hts (.constantLong RX9 164 8) (by decide +kernel)) dX9_send_8 ?_
  refine xcalli (S := Unit) (Wc := []) (wr := [(o, .inr (9, [.ref o_road, .ref o_told, .ref o_fresh, .ref o_was, .int o_acts, .ref o_kept, .ref o_isKept, .ref o_sights, .int o_many, .ref o_text, .int o_letters, .int 0, .int o_cursor, .int o_token, .int o_start, .long o_value, .int o_isFault, .int o_faultAt, .int o_above, .int o_below, .ref o_topOf, .ref o_partsOf, .ref o_sent])), (o_road, .inl (cI, 36, .inl o_road_f))]) (W1 := (fun (u : Unit) => [])) (Wn := (fun (u : Unit) => [(o, .inr (9, [.ref o_road, .ref o_told, .ref o_fresh, .ref o_was, .int o_acts, .ref o_kept, .ref o_isKept, .ref o_sights, .int o_many, .ref o_text, .int o_letters, .int 0, .int o_cursor, .int o_token, .int o_start, .long o_value, .int o_isFault, .int o_faultAt, .int o_above, .int o_below, .ref o_topOf, .ref o_partsOf, .ref o_sent])), (o_road, .inl (cI, 36, .inl o_road_f))])) (xrunS hx hb hml hown hts (c_X9_in l D cI cZ _ a1.toInt64 1 8 ) (va_cwS 3 hts gX9_send_X9_in rfl rfl rfl (by decide +kernel) ⟨Nat.le_of_ble_eq_true rfl, Nat.le_of_ble_eq_true rfl⟩) hE hK hP hD [] rfl rfl rfl hl.1 rfl (Nat.le_of_ble_eq_true rfl) dX9_send_11 ⟨Nat.le_of_ble_eq_true rfl, Nat.le_of_ble_eq_true rfl⟩) hP hD hS hA [] [0, 1] [0, 1] rfl rfl rfl (by decide) (fun _ => rfl) rfl (fun r1 u H locs hw hz hP hD hS => ?_)
  subst hw
  refine lv_if_eq (tgt := 43) hx hb dX9_send_14 (by decide) (fun c_1 => ?_) (fun c_1 => ?_)
  · refine lv_bipush (v := (-3)) hx hb dX9_send_43 (by decide) ?_
    exact hret _ _ _ _ (-3) (o_above, o_below) dX9_send_45 ((hF.trans (by simp only [fX9_send, ↓if_pos c_1])).symm) hP hD hS
  · have kb_c_1 : 1 ≤ a1.toInt ∧ a1.toInt ≤ 8 := in_b c_1 (by decide) (by decide)
    refine lv_iload_n hx hb dX9_send_17 rfl (lv_at hl 2 rfl) ?_
    refine lv_i2l (v := a2.toInt64) hx hb dX9_send_18 rfl ?_
    refine lv_lconst (v := 0) hx hb dX9_send_19 (by decide) ?_
    refine lv_aload_n hx hb dX9_send_20 rfl (lv_at hl 0 rfl) ?_
    refine xget hx hb hts hown hK 9 (C2 := RX9) (T := TX9) (N := 23) rfl hin_9 hP 0 rfl 0 (by decide) fl_7 rfl rfl rfl dX9_send_21 ?_
    refine lv_iconst (v := 0) hx hb dX9_send_24 (by decide) ?_
    refine xald hx hb hK hP 1 0 (k := 0) rfl rfl (vi (by decide) (by decide)) (by decide) dX9_send_25 ?_
    refine lv_i2l (v := (o_road_f 0).toInt64) hx hb dX9_send_26 rfl ?_
    refine xcalli (S := Unit) (Wc := []) (wr := [(o, .inr (9, [.ref o_road, .ref o_told, .ref o_fresh, .ref o_was, .int o_acts, .ref o_kept, .ref o_isKept, .ref o_sights, .int o_many, .ref o_text, .int o_letters, .int 0, .int o_cursor, .int o_token, .int o_start, .long o_value, .int o_isFault, .int o_faultAt, .int o_above, .int o_below, .ref o_topOf, .ref o_partsOf, .ref o_sent])), (o_road, .inl (cI, 36, .inl o_road_f))]) (W1 := (fun (u : Unit) => [])) (Wn := (fun (u : Unit) => [(o, .inr (9, [.ref o_road, .ref o_told, .ref o_fresh, .ref o_was, .int o_acts, .ref o_kept, .ref o_isKept, .ref o_sights, .int o_many, .ref o_text, .int o_letters, .int 0, .int o_cursor, .int o_token, .int o_start, .long o_value, .int o_isFault, .int o_faultAt, .int o_above, .int o_below, .ref o_topOf, .ref o_partsOf, .ref o_sent])), (o_road, .inl (cI, 36, .inl o_road_f))])) (xrunS hx hb hml hown hts (c_X9_in l D cI cZ _ a2.toInt64 0 ((o_road_f 0).toInt64) ) (va_cwS 3 hts gX9_send_X9_in rfl rfl rfl (by decide +kernel) ⟨Nat.le_of_ble_eq_true rfl, Nat.le_of_ble_eq_true rfl⟩) hE hK hP hD [] rfl rfl rfl hl.1 rfl (Nat.le_of_ble_eq_true rfl) dX9_send_27 ⟨Nat.le_of_ble_eq_true rfl, Nat.le_of_ble_eq_true rfl⟩) hP hD hS hA [] [0, 1] [0, 1] rfl rfl rfl (by decide) (fun _ => rfl) rfl (fun r2 u H locs hw hz hP hD hS => ?_)
    subst hw
    refine lv_if_eq (tgt := 43) hx hb dX9_send_30 (by decide) (fun c_2 => ?_) (fun c_2 => ?_)
    · refine lv_bipush (v := (-3)) hx hb dX9_send_43 (by decide) ?_
      exact hret _ _ _ _ (-3) (o_above, o_below) dX9_send_45 ((hF.trans (by simp only [fX9_send, ↓if_neg c_1, ↓if_pos c_2])).symm) hP hD hS
    · have kb_c_2 : 0 ≤ a2.toInt ∧ a2.toInt ≤ (o_road_f 0).toInt := in_b c_2 (by decide) (Int32.toInt_toInt64 _)
      refine lv_iload_n hx hb dX9_send_33 rfl (lv_at hl 3 rfl) ?_
      refine lv_i2l (v := a3.toInt64) hx hb dX9_send_34 rfl ?_
      refine lv_lconst (v := 0) hx hb dX9_send_35 (by decide) ?_
      refine lv_lconst (v := 1) hx hb dX9_send_36 (by decide) ?_
      refine xcalli (S := Unit) (Wc := []) (wr := [(o, .inr (9, [.ref o_road, .ref o_told, .ref o_fresh, .ref o_was, .int o_acts, .ref o_kept, .ref o_isKept, .ref o_sights, .int o_many, .ref o_text, .int o_letters, .int 0, .int o_cursor, .int o_token, .int o_start, .long o_value, .int o_isFault, .int o_faultAt, .int o_above, .int o_below, .ref o_topOf, .ref o_partsOf, .ref o_sent])), (o_road, .inl (cI, 36, .inl o_road_f))]) (W1 := (fun (u : Unit) => [])) (Wn := (fun (u : Unit) => [(o, .inr (9, [.ref o_road, .ref o_told, .ref o_fresh, .ref o_was, .int o_acts, .ref o_kept, .ref o_isKept, .ref o_sights, .int o_many, .ref o_text, .int o_letters, .int 0, .int o_cursor, .int o_token, .int o_start, .long o_value, .int o_isFault, .int o_faultAt, .int o_above, .int o_below, .ref o_topOf, .ref o_partsOf, .ref o_sent])), (o_road, .inl (cI, 36, .inl o_road_f))])) (xrunS hx hb hml hown hts (c_X9_in l D cI cZ _ a3.toInt64 0 1 ) (va_cwS 3 hts gX9_send_X9_in rfl rfl rfl (by decide +kernel) ⟨Nat.le_of_ble_eq_true rfl, Nat.le_of_ble_eq_true rfl⟩) hE hK hP hD [] rfl rfl rfl hl.1 rfl (Nat.le_of_ble_eq_true rfl) dX9_send_37 ⟨Nat.le_of_ble_eq_true rfl, Nat.le_of_ble_eq_true rfl⟩) hP hD hS hA [] [0, 1] [0, 1] rfl rfl rfl (by decide) (fun _ => rfl) rfl (fun r3 u H locs hw hz hP hD hS => ?_)
      subst hw
      refine lv_if_ne (tgt := 46) hx hb dX9_send_40 (by decide) (fun c_3 => ?_) (fun c_3 => ?_)
      · have kb_c_3 : 0 ≤ a3.toInt ∧ a3.toInt ≤ 1 := in_b c_3 (by decide) (by decide)
        refine lv_iconst (v := (-1)) hx hb dX9_send_46 (by decide) ?_
        refine lv_istore (lv' := [(4, .int (-1)), (0, .ref o), (1, .int a1), (2, .int a2), (3, .int a3)]) hx hb dX9_send_47 hl (by decide) rfl (fun ls hl => ?_)
        refine lv_iconst (v := 0) hx hb dX9_send_49 (by decide) ?_
        refine lv_istore (lv' := [(5, .int 0), (4, .int (-1)), (0, .ref o), (1, .int a1), (2, .int a2), (3, .int a3)]) hx hb dX9_send_50 hl (by decide) rfl (fun ls hl => ?_)
        exact L_52 1000 (-1) 0 o_above o_below (by first | with_reducible assumption | with_reducible omega | decide | (split <;> rename_i hh <;> first | (have h9 := t_nlt hh; with_reducible omega) | (have h9 := t_lt hh; with_reducible omega) | (have h9 := t_nle hh; with_reducible omega) | (have h9 := t_le hh; with_reducible omega))) (by first | with_reducible assumption | with_reducible omega | decide | (split <;> rename_i hh <;> first | (have h9 := t_nlt hh; with_reducible omega) | (have h9 := t_lt hh; with_reducible omega) | (have h9 := t_nle hh; with_reducible omega) | (have h9 := t_le hh; with_reducible omega))) (by first | with_reducible assumption | with_reducible omega | decide | (split <;> rename_i hh <;> first | (have h9 := t_nlt hh; with_reducible omega) | (have h9 := t_lt hh; with_reducible omega) | (have h9 := t_nle hh; with_reducible omega) | (have h9 := t_le hh; with_reducible omega))) _ _ _ (lv_sub hl [2, 3, 4, 5, 1, 0] rfl) hP hD hS (hF.trans (by simp only [fX9_send, ↓if_neg c_1, ↓if_neg c_2, ↓if_neg c_3]))
      · refine lv_bipush (v := (-3)) hx hb dX9_send_43 (by decide) ?_
        exact hret _ _ _ _ (-3) (o_above, o_below) dX9_send_45 ((hF.trans (by simp only [fX9_send, ↓if_neg c_1, ↓if_neg c_2, ↓if_pos c_3])).symm) hP hD hS
set_option maxRecDepth 20000 in
theorem ggX9_what_X9_isWalker : GoodIn wsX9_what wsX9_isWalker := goodIn_r _ [9, 4, 10, 11, 8, 12, 21, 22, 23, 24, 25, 26, 27, 28, 29, 30, 31, 32, 33, 34, 35, 36, 37, 38, 39, 40, 41, 42, 43] (by decide +kernel) (by decide +kernel)
set_option maxRecDepth 20000 in
theorem gX9_what_X9_isWalker : GoodIn wsX9_what (wsV RX9 142 RX9 yX9_isWalker wsX9_isWalker) := goodIn_app (goodIn_of _ (by decide +kernel)) ggX9_what_X9_isWalker
set_option maxRecDepth 20000 in
theorem ggX9_what_X9_stoneBy : GoodIn wsX9_what wsX9_stoneBy := goodIn_r _ [16, 4, 17, 18, 19, 8, 20, 21, 22, 23, 24, 25, 26, 27, 28, 29, 30, 31, 32, 33, 34, 35, 36, 37, 38, 39, 40, 41, 42, 43] (by decide +kernel) (by decide +kernel)
set_option maxRecDepth 20000 in
theorem gX9_what_X9_stoneBy : GoodIn wsX9_what (wsV RX9 138 RX9 yX9_stoneBy wsX9_stoneBy) := goodIn_app (goodIn_of _ (by decide +kernel)) ggX9_what_X9_stoneBy
theorem dX9_what_0 : decode cX9_what 0 = .ok (.aload_n 0, 1) := by decide +kernel
theorem dX9_what_1 : decode cX9_what 1 = .ok (.iconst 0, 1) := by decide +kernel
theorem dX9_what_2 : decode cX9_what 2 = .ok (.putfield 48, 3) := by decide +kernel
theorem dX9_what_5 : decode cX9_what 5 = .ok (.aload_n 0, 1) := by decide +kernel
theorem dX9_what_6 : decode cX9_what 6 = .ok (.iload_n 1, 1) := by decide +kernel
theorem dX9_what_7 : decode cX9_what 7 = .ok (.invokevirtual 142, 3) := by decide +kernel
theorem dX9_what_10 : decode cX9_what 10 = .ok (.ifCond .ne 6, 3) := by decide +kernel
theorem dX9_what_13 : decode cX9_what 13 = .ok (.bipush (-2), 2) := by decide +kernel
theorem dX9_what_15 : decode cX9_what 15 = .ok (.ireturn, 1) := by decide +kernel
theorem dX9_what_16 : decode cX9_what 16 = .ok (.iconst 0, 1) := by decide +kernel
theorem dX9_what_17 : decode cX9_what 17 = .ok (.istore_n 2, 1) := by decide +kernel
theorem dX9_what_18 : decode cX9_what 18 = .ok (.iconst 0, 1) := by decide +kernel
theorem dX9_what_19 : decode cX9_what 19 = .ok (.istore_n 3, 1) := by decide +kernel
theorem dX9_what_20 : decode cX9_what 20 = .ok (.iload_n 3, 1) := by decide +kernel
theorem dX9_what_21 : decode cX9_what 21 = .ok (.iconst 3, 1) := by decide +kernel
theorem dX9_what_22 : decode cX9_what 22 = .ok (.if_icmp .gt 115, 3) := by decide +kernel
theorem dX9_what_25 : decode cX9_what 25 = .ok (.iconst 1, 1) := by decide +kernel
theorem dX9_what_26 : decode cX9_what 26 = .ok (.istore 4, 2) := by decide +kernel
theorem dX9_what_28 : decode cX9_what 28 = .ok (.iconst 0, 1) := by decide +kernel
theorem dX9_what_29 : decode cX9_what 29 = .ok (.istore 5, 2) := by decide +kernel
theorem dX9_what_31 : decode cX9_what 31 = .ok (.iload 5, 2) := by decide +kernel
theorem dX9_what_33 : decode cX9_what 33 = .ok (.aload_n 0, 1) := by decide +kernel
theorem dX9_what_34 : decode cX9_what 34 = .ok (.getfield 128, 3) := by decide +kernel
theorem dX9_what_37 : decode cX9_what 37 = .ok (.if_icmp .ge 79, 3) := by decide +kernel
theorem dX9_what_40 : decode cX9_what 40 = .ok (.iload 4, 2) := by decide +kernel
theorem dX9_what_42 : decode cX9_what 42 = .ok (.ifCond .eq 65, 3) := by decide +kernel
theorem dX9_what_45 : decode cX9_what 45 = .ok (.aload_n 0, 1) := by decide +kernel
theorem dX9_what_46 : decode cX9_what 46 = .ok (.getfield 29, 3) := by decide +kernel
theorem dX9_what_49 : decode cX9_what 49 = .ok (.iconst 3, 1) := by decide +kernel
theorem dX9_what_50 : decode cX9_what 50 = .ok (.iload 5, 2) := by decide +kernel
theorem dX9_what_52 : decode cX9_what 52 = .ok (.imul, 1) := by decide +kernel
theorem dX9_what_53 : decode cX9_what 53 = .ok (.iaload, 1) := by decide +kernel
theorem dX9_what_54 : decode cX9_what 54 = .ok (.iload_n 1, 1) := by decide +kernel
theorem dX9_what_55 : decode cX9_what 55 = .ok (.if_icmp .ne 48, 3) := by decide +kernel
theorem dX9_what_58 : decode cX9_what 58 = .ok (.aload_n 0, 1) := by decide +kernel
theorem dX9_what_59 : decode cX9_what 59 = .ok (.iload_n 3, 1) := by decide +kernel
theorem dX9_what_60 : decode cX9_what 60 = .ok (.aload_n 0, 1) := by decide +kernel
theorem dX9_what_61 : decode cX9_what 61 = .ok (.getfield 7, 3) := by decide +kernel
theorem dX9_what_64 : decode cX9_what 64 = .ok (.bipush 30, 2) := by decide +kernel
theorem dX9_what_66 : decode cX9_what 66 = .ok (.iload_n 1, 1) := by decide +kernel
theorem dX9_what_67 : decode cX9_what 67 = .ok (.iadd, 1) := by decide +kernel
theorem dX9_what_68 : decode cX9_what 68 = .ok (.iaload, 1) := by decide +kernel
theorem dX9_what_69 : decode cX9_what 69 = .ok (.aload_n 0, 1) := by decide +kernel
theorem dX9_what_70 : decode cX9_what 70 = .ok (.getfield 29, 3) := by decide +kernel
theorem dX9_what_73 : decode cX9_what 73 = .ok (.iconst 3, 1) := by decide +kernel
theorem dX9_what_74 : decode cX9_what 74 = .ok (.iload 5, 2) := by decide +kernel
theorem dX9_what_76 : decode cX9_what 76 = .ok (.imul, 1) := by decide +kernel
theorem dX9_what_77 : decode cX9_what 77 = .ok (.iconst 1, 1) := by decide +kernel
theorem dX9_what_78 : decode cX9_what 78 = .ok (.iadd, 1) := by decide +kernel
theorem dX9_what_79 : decode cX9_what 79 = .ok (.iaload, 1) := by decide +kernel
theorem dX9_what_80 : decode cX9_what 80 = .ok (.aload_n 0, 1) := by decide +kernel
theorem dX9_what_81 : decode cX9_what 81 = .ok (.getfield 7, 3) := by decide +kernel
theorem dX9_what_84 : decode cX9_what 84 = .ok (.iconst 1, 1) := by decide +kernel
theorem dX9_what_85 : decode cX9_what 85 = .ok (.iaload, 1) := by decide +kernel
theorem dX9_what_86 : decode cX9_what 86 = .ok (.invokevirtual 138, 3) := by decide +kernel
theorem dX9_what_89 : decode cX9_what 89 = .ok (.aload_n 0, 1) := by decide +kernel
theorem dX9_what_90 : decode cX9_what 90 = .ok (.getfield 29, 3) := by decide +kernel
theorem dX9_what_93 : decode cX9_what 93 = .ok (.iconst 3, 1) := by decide +kernel
theorem dX9_what_94 : decode cX9_what 94 = .ok (.iload 5, 2) := by decide +kernel
theorem dX9_what_96 : decode cX9_what 96 = .ok (.imul, 1) := by decide +kernel
theorem dX9_what_97 : decode cX9_what 97 = .ok (.iconst 2, 1) := by decide +kernel
theorem dX9_what_98 : decode cX9_what 98 = .ok (.iadd, 1) := by decide +kernel
theorem dX9_what_99 : decode cX9_what 99 = .ok (.iaload, 1) := by decide +kernel
theorem dX9_what_100 : decode cX9_what 100 = .ok (.if_icmp .ne 7, 3) := by decide +kernel
theorem dX9_what_103 : decode cX9_what 103 = .ok (.iconst 1, 1) := by decide +kernel
theorem dX9_what_104 : decode cX9_what 104 = .ok (.goto 4, 3) := by decide +kernel
theorem dX9_what_107 : decode cX9_what 107 = .ok (.iconst 0, 1) := by decide +kernel
theorem dX9_what_108 : decode cX9_what 108 = .ok (.istore 4, 2) := by decide +kernel
theorem dX9_what_110 : decode cX9_what 110 = .ok (.iinc 5 1, 3) := by decide +kernel
theorem dX9_what_113 : decode cX9_what 113 = .ok (.goto (-82), 3) := by decide +kernel
theorem dX9_what_116 : decode cX9_what 116 = .ok (.iload_n 2, 1) := by decide +kernel
theorem dX9_what_117 : decode cX9_what 117 = .ok (.iload 4, 2) := by decide +kernel
theorem dX9_what_119 : decode cX9_what 119 = .ok (.ifCond .eq 9, 3) := by decide +kernel
theorem dX9_what_122 : decode cX9_what 122 = .ok (.iconst 1, 1) := by decide +kernel
theorem dX9_what_123 : decode cX9_what 123 = .ok (.iload_n 3, 1) := by decide +kernel
theorem dX9_what_124 : decode cX9_what 124 = .ok (.ishl, 1) := by decide +kernel
theorem dX9_what_125 : decode cX9_what 125 = .ok (.goto 4, 3) := by decide +kernel
theorem dX9_what_128 : decode cX9_what 128 = .ok (.iconst 0, 1) := by decide +kernel
theorem dX9_what_129 : decode cX9_what 129 = .ok (.ior, 1) := by decide +kernel
theorem dX9_what_130 : decode cX9_what 130 = .ok (.istore_n 2, 1) := by decide +kernel
theorem dX9_what_131 : decode cX9_what 131 = .ok (.iinc 3 1, 3) := by decide +kernel
theorem dX9_what_134 : decode cX9_what 134 = .ok (.goto (-114), 3) := by decide +kernel
theorem dX9_what_137 : decode cX9_what 137 = .ok (.iload_n 2, 1) := by decide +kernel
theorem dX9_what_138 : decode cX9_what 138 = .ok (.ireturn, 1) := by decide +kernel
def fX9_what_31 (a1 : Int32) (o_many : Int32) (o_road_f : Nat → Int32) (o_sights_f : Nat → Int32) (v20_3 : Int32) (v20_2 : Int32) (k_20 : Int32 → Int32 → Int32) : Nat → Int32 → Int32 → Int32
  | 0, _, _ => default
  | n + 1, v31_4, v31_5 => if o_many ≤ v31_5 then (xlet (if v31_4 = 0 then 0 else ((1 : Int32) <<< (v20_3 &&& 31))) (fun y_2 => k_20 (v20_2 ||| y_2) (v20_3 + 1))) else (xlet (if v31_4 = 0 then (0 : Int32) else (if (o_sights_f (3 * v31_5).toNatClampNeg) = a1 then (if (fX9_stoneBy v20_3 (o_road_f (30 + a1).toNatClampNeg) (o_sights_f ((3 * v31_5) + 1).toNatClampNeg) (o_road_f 1) o_road_f) = (o_sights_f ((3 * v31_5) + 2).toNatClampNeg) then 1 else 0) else 1)) (fun y_3 => fX9_what_31 a1 o_many o_road_f o_sights_f v20_3 v20_2 k_20 n y_3 (v31_5 + 1)))
def fX9_what_20 (a1 : Int32) (o_many : Int32) (o_road_f : Nat → Int32) (o_sights_f : Nat → Int32)  : Nat → Int32 → Int32 → Int32
  | 0, _, _ => default
  | n + 1, v20_2, v20_3 => if 3 < v20_3 then v20_2 else (fX9_what_31 a1 o_many o_road_f o_sights_f v20_3 v20_2 (fun v20_2 v20_3 => fX9_what_20 a1 o_many o_road_f o_sights_f n v20_2 v20_3) 1000 1 0)
def fX9_what (a1 : Int32) (o_many : Int32) (o_road_f : Nat → Int32) (o_sights_f : Nat → Int32) : Int32 := if (fX9_isWalker a1 o_road_f) = 0 then ((-2)) else (fX9_what_20 a1 o_many o_road_f o_sights_f 1000 0 0)
set_option maxHeartbeats 4000000 in
set_option maxRecDepth 100000 in
theorem c_X9_what (l : Launch) (D : va_G) (cI cZ : ClassId) (sz : Nat) (o : Nat) (a1 : Int32) (o_road : Nat) (o_told : Nat) (o_fresh : Nat) (o_was : Nat) (o_acts : Int32) (o_kept : Nat) (o_isKept : Nat) (o_sights : Nat) (o_many : Int32) (o_text : Nat) (o_letters : Int32) (o_thrown : Int32) (o_cursor : Int32) (o_token : Int32) (o_start : Int32) (o_value : Int64) (o_isFault : Int32) (o_faultAt : Int32) (o_above : Int32) (o_below : Int32) (o_topOf : Nat) (o_partsOf : Nat) (o_sent : Nat) (o_road_f : Nat → Int32) (o_sights_f : Nat → Int32) (hn0 : 4 ≤ (o_road_f 0).toInt) (hn1 : (o_road_f 0).toInt ≤ 20) (hv0 : 0 ≤ (o_road_f 2).toInt) (hv6 : (o_road_f 2).toInt ≤ 6) (hhab : ∀ w : Int32, 0 ≤ w.toInt → w.toInt < (o_road_f 2).toInt → ¬ o_road_f (30 + w).toNatClampNeg = 0) (hm0 : 0 ≤ o_many.toInt) (hm6 : o_many.toInt ≤ 6) : Met l yX9_what wsX9_what ({ frames := 2, cells := 0, slots := 0, locals := 51 } : Room) (va_Pc [.ref o, .int a1] (xP D cI cZ [(o, .inr (9, [.ref o_road, .ref o_told, .ref o_fresh, .ref o_was, .int o_acts, .ref o_kept, .ref o_isKept, .ref o_sights, .int o_many, .ref o_text, .int o_letters, .int o_thrown, .int o_cursor, .int o_token, .int o_start, .long o_value, .int o_isFault, .int o_faultAt, .int o_above, .int o_below, .ref o_topOf, .ref o_partsOf, .ref o_sent])), (o_road, .inl (cI, 36, .inl o_road_f)), (o_sights, .inl (cI, 18, .inl o_sights_f))] sz)) (va_Qi (fun (r : Int32) (u : Unit) => r = fX9_what a1 o_many o_road_f o_sights_f) (fun (u : Unit) t => xB D cI cZ [(o, .inr (9, [.ref o_road, .ref o_told, .ref o_fresh, .ref o_was, .int o_acts, .ref o_kept, .ref o_isKept, .ref o_sights, .int o_many, .ref o_text, .int o_letters, .int 0, .int o_cursor, .int o_token, .int o_start, .long o_value, .int o_isFault, .int o_faultAt, .int o_above, .int o_below, .ref o_topOf, .ref o_partsOf, .ref o_sent])), (o_road, .inl (cI, 36, .inl o_road_f)), (o_sights, .inl (cI, 18, .inl o_sights_f))] (va_A [(o, .inr (9, [.ref o_road, .ref o_told, .ref o_fresh, .ref o_was, .int o_acts, .ref o_kept, .ref o_isKept, .ref o_sights, .int o_many, .ref o_text, .int o_letters, .int o_thrown, .int o_cursor, .int o_token, .int o_start, .long o_value, .int o_isFault, .int o_faultAt, .int o_above, .int o_below, .ref o_topOf, .ref o_partsOf, .ref o_sent])), (o_road, .inl (cI, 36, .inl o_road_f)), (o_sights, .inl (cI, 18, .inl o_sights_f))] sz) t) (va_A [(o, .inr (9, [.ref o_road, .ref o_told, .ref o_fresh, .ref o_was, .int o_acts, .ref o_kept, .ref o_isKept, .ref o_sights, .int o_many, .ref o_text, .int o_letters, .int o_thrown, .int o_cursor, .int o_token, .int o_start, .long o_value, .int o_isFault, .int o_faultAt, .int o_above, .int o_below, .ref o_topOf, .ref o_partsOf, .ref o_sent])), (o_road, .inl (cI, 36, .inl o_road_f)), (o_sights, .inl (cI, 18, .inl o_sights_f))] sz)) 0 0 (va_A [(o, .inr (9, [.ref o_road, .ref o_told, .ref o_fresh, .ref o_was, .int o_acts, .ref o_kept, .ref o_isKept, .ref o_sights, .int o_many, .ref o_text, .int o_letters, .int o_thrown, .int o_cursor, .int o_token, .int o_start, .long o_value, .int o_isFault, .int o_faultAt, .int o_above, .int o_below, .ref o_topOf, .ref o_partsOf, .ref o_sent])), (o_road, .inl (cI, 36, .inl o_road_f)), (o_sights, .inl (cI, 18, .inl o_sights_f))] sz) := by
  refine Met.ofW (cc := cX9_what) (maxL := 6) (ret := (some .int)) (by decide) rfl ?_
  intro p e s m args below meth c s₁ B hml hv
  obtain ⟨hargs, hsz, hP, hK, hD0, hE⟩ := hv
  subst hargs
  have hx := B.exec
  have hb := B.bytes
  have hr := B.returns
  have hts := atoms_spec (ws := wsX9_what) B.pre
  have hown : s.vm.findClass RX9 = some m.cls := findClass_of_methodNamed B.named
  have hlocks := B.notSynchronized
  subst hsz
  have hD := hD0.self (sz := s.heap.size)
  generalize hAe : va_A [(o, .inr (9, [.ref o_road, .ref o_told, .ref o_fresh, .ref o_was, .int o_acts, .ref o_kept, .ref o_isKept, .ref o_sights, .int o_many, .ref o_text, .int o_letters, .int o_thrown, .int o_cursor, .int o_token, .int o_start, .long o_value, .int o_isFault, .int o_faultAt, .int o_above, .int o_below, .ref o_topOf, .ref o_partsOf, .ref o_sent])), (o_road, .inl (cI, 36, .inl o_road_f)), (o_sights, .inl (cI, 18, .inl o_sights_f))] s.heap.size = A at hD ⊢
  have hA : ∀ q : Nat, s.heap.size ≤ q → A q := fun q h => by rw [← hAe]; exact Or.inr h
  have hS : va_S A s.heap s.heap [] := va_S.rf
  have hl := lv_entry ([.ref o, .int a1]) (n := 6) (Nat.le_of_ble_eq_true rfl)
  rw [lg_entry_eq]
  generalize (lg_sl ([.ref o, .int a1]) ++ List.replicate (6 - (lg_sl ([.ref o, .int a1])).length) Slot.unset).toArray = ls at hl ⊢
  have hl : lv_has ls 6 [(0, .ref o), (1, .int a1)] := hl
  refine wq (X := fun Q => ∀ (pc : Nat) (H : Heap) (locs : List Loc) (ls : Array Slot) (r : Int32) (u : Unit) (hd : decode cX9_what pc = .ok (.ireturn, 1)) (hp : r = fX9_what a1 o_many o_road_f o_sights_f) (hP : va_P D vwCl [(o, .inr (9, [.ref o_road, .ref o_told, .ref o_fresh, .ref o_was, .int o_acts, .ref o_kept, .ref o_isKept, .ref o_sights, .int o_many, .ref o_text, .int o_letters, .int 0, .int o_cursor, .int o_token, .int o_start, .long o_value, .int o_isFault, .int o_faultAt, .int o_above, .int o_below, .ref o_topOf, .ref o_partsOf, .ref o_sent])), (o_road, .inl (cI, 36, .inl o_road_f)), (o_sights, .inl (cI, 18, .inl o_sights_f))] H) (hD : va_D A [(o, .inr (9, [.ref o_road, .ref o_told, .ref o_fresh, .ref o_was, .int o_acts, .ref o_kept, .ref o_isKept, .ref o_sights, .int o_many, .ref o_text, .int o_letters, .int 0, .int o_cursor, .int o_token, .int o_start, .long o_value, .int o_isFault, .int o_faultAt, .int o_above, .int o_below, .ref o_topOf, .ref o_partsOf, .ref o_sent])), (o_road, .inl (cI, 36, .inl o_road_f)), (o_sights, .inl (cI, 18, .inl o_sights_f))]) (hS : va_S A s.heap H locs), W p l e ({ frames := 2, cells := 0, slots := 0, locals := 51 } : Room) s m ([.ref o, .int a1] : List Value).toArray below meth c H locs 0 0 Q (F0 m pc ls [.int r])) ?_ (fun Q hret => ?_)
  · intro pc H locs ls r u hd hp hP hD hS
    exact W.iret (v := r) hx hb hr (fun t ht hW => ⟨⟨r, u, rfl, hp, by rw [ht]; exact hP, va_K.moved hW.alike hK, hD⟩, hS.F ht⟩) hS.2.2 hd
  have hin_9 : ∀ w ∈ u_ws RX9 TX9 23, w ∈ wsX9_what := by decide +kernel
  have fl_7 := hts (.fieldLink RX9 7 "MileRoadModel" "road" "[I") (by decide +kernel)
  have fl_29 := hts (.fieldLink RX9 29 "MileRoadModel" "sights" "[I") (by decide +kernel)
  have fl_48 := hts (.fieldLink RX9 48 "MileRoadModel" "thrown" "I") (by decide +kernel)
  have fl_128 := hts (.fieldLink RX9 128 "MileRoadModel" "many" "I") (by decide +kernel)
  have zl_0 : (0 : Int32).toInt = 0 := by decide
  have zl_1 : (1 : Int32).toInt = 1 := by decide
  have zl_2 : (2 : Int32).toInt = 2 := by decide
  have zl_3 : (3 : Int32).toInt = 3 := by decide
  have zl_30 : (30 : Int32).toInt = 30 := by decide
  have hF : fX9_what a1 o_many o_road_f o_sights_f = fX9_what a1 o_many o_road_f o_sights_f := rfl
  have L_20 : ∀  (n_20 : Nat) (v20_2 : Int32) (v20_3 : Int32) (h1_20 : 0 ≤ v20_3.toInt) (h2_20 : v20_3.toInt ≤ 4) (hw0 : 0 ≤ a1.toInt) (hw1 : a1.toInt < (o_road_f 2).toInt) (hm : 4 - v20_3.toInt < (n_20 : Int)) (H : Heap) (locs : List Loc) (ls : Array Slot) (hl : lv_has ls 6 [(0, .ref o), (1, .int a1), (2, .int v20_2), (3, .int v20_3)]) (hP : va_P D vwCl [(o, .inr (9, [.ref o_road, .ref o_told, .ref o_fresh, .ref o_was, .int o_acts, .ref o_kept, .ref o_isKept, .ref o_sights, .int o_many, .ref o_text, .int o_letters, .int 0, .int o_cursor, .int o_token, .int o_start, .long o_value, .int o_isFault, .int o_faultAt, .int o_above, .int o_below, .ref o_topOf, .ref o_partsOf, .ref o_sent])), (o_road, .inl (cI, 36, .inl o_road_f)), (o_sights, .inl (cI, 18, .inl o_sights_f))] H) (hD : va_D A [(o, .inr (9, [.ref o_road, .ref o_told, .ref o_fresh, .ref o_was, .int o_acts, .ref o_kept, .ref o_isKept, .ref o_sights, .int o_many, .ref o_text, .int o_letters, .int 0, .int o_cursor, .int o_token, .int o_start, .long o_value, .int o_isFault, .int o_faultAt, .int o_above, .int o_below, .ref o_topOf, .ref o_partsOf, .ref o_sent])), (o_road, .inl (cI, 36, .inl o_road_f)), (o_sights, .inl (cI, 18, .inl o_sights_f))]) (hS : va_S A s.heap H locs) (hF : fX9_what a1 o_many o_road_f o_sights_f = fX9_what_20 a1 o_many o_road_f o_sights_f n_20 v20_2 v20_3), W p l e ({ frames := 2, cells := 0, slots := 0, locals := 51 } : Room) s m ([.ref o, .int a1] : List Value).toArray below meth c H locs 0 0 Q (F0 m 20 ls []) := by
    intro  n_20
    induction n_20 with
    | zero =>
      intro v20_2 v20_3 h1_20 h2_20 hw0 hw1 hm H locs ls hl hP hD hS hF
      exact absurd hm (by with_reducible omega)
    | succ n_20 ih_20 =>
      intro v20_2 v20_3 h1_20 h2_20 hw0 hw1 hm H locs ls hl hP hD hS hF
      have L_31 : ∀ (k_20 : Int32 → Int32 → Int32) (hk_20 : ∀ (v20_2 : Int32) (v20_3 : Int32), k_20 v20_2 v20_3 = fX9_what_20 a1 o_many o_road_f o_sights_f n_20 v20_2 v20_3) (n_31 : Nat) (v31_4 : Int32) (v31_5 : Int32) (h1_31 : 0 ≤ v31_5.toInt) (h2_31 : v31_5.toInt ≤ 6) (hp : v20_3.toInt ≤ 3) (hm : 6 - v31_5.toInt < (n_31 : Int)) (H : Heap) (locs : List Loc) (ls : Array Slot) (hl : lv_has ls 6 [(0, .ref o), (1, .int a1), (2, .int v20_2), (3, .int v20_3), (4, .int v31_4), (5, .int v31_5)]) (hP : va_P D vwCl [(o, .inr (9, [.ref o_road, .ref o_told, .ref o_fresh, .ref o_was, .int o_acts, .ref o_kept, .ref o_isKept, .ref o_sights, .int o_many, .ref o_text, .int o_letters, .int 0, .int o_cursor, .int o_token, .int o_start, .long o_value, .int o_isFault, .int o_faultAt, .int o_above, .int o_below, .ref o_topOf, .ref o_partsOf, .ref o_sent])), (o_road, .inl (cI, 36, .inl o_road_f)), (o_sights, .inl (cI, 18, .inl o_sights_f))] H) (hD : va_D A [(o, .inr (9, [.ref o_road, .ref o_told, .ref o_fresh, .ref o_was, .int o_acts, .ref o_kept, .ref o_isKept, .ref o_sights, .int o_many, .ref o_text, .int o_letters, .int 0, .int o_cursor, .int o_token, .int o_start, .long o_value, .int o_isFault, .int o_faultAt, .int o_above, .int o_below, .ref o_topOf, .ref o_partsOf, .ref o_sent])), (o_road, .inl (cI, 36, .inl o_road_f)), (o_sights, .inl (cI, 18, .inl o_sights_f))]) (hS : va_S A s.heap H locs) (hF : fX9_what a1 o_many o_road_f o_sights_f = fX9_what_31 a1 o_many o_road_f o_sights_f v20_3 v20_2 k_20 n_31 v31_4 v31_5), W p l e ({ frames := 2, cells := 0, slots := 0, locals := 51 } : Room) s m ([.ref o, .int a1] : List Value).toArray below meth c H locs 0 0 Q (F0 m 31 ls []) := by
        intro k_20 hk_20 n_31
        induction n_31 with
        | zero =>
          intro v31_4 v31_5 h1_31 h2_31 hp hm H locs ls hl hP hD hS hF
          exact absurd hm (by with_reducible omega)
        | succ n_31 ih_31 =>
          intro v31_4 v31_5 h1_31 h2_31 hp hm H locs ls hl hP hD hS hF
          refine lv_iload hx hb dX9_what_31 (lv_at hl 5 rfl) ?_
          refine lv_aload_n hx hb dX9_what_33 rfl (lv_at hl 0 rfl) ?_
          refine xget hx hb hts hown hK 9 (C2 := RX9) (T := TX9) (N := 23) rfl hin_9 hP 0 rfl 8 (by decide) fl_128 rfl rfl rfl dX9_what_34 ?_
          refine lv_icmp_ge (tgt := 116) hx hb dX9_what_37 (by decide) (fun c_3 => ?_) (fun c_3 => ?_)
          · have kc_3 := t_le c_3
            refine lv_iload_n hx hb dX9_what_116 rfl (lv_at hl 2 rfl) ?_
            refine lv_iload hx hb dX9_what_117 (lv_at hl 4 rfl) ?_
            have K_y_2 : ∀ (y_2 : Int32) (hy_y_2 : (if v31_4 = 0 then 0 else ((1 : Int32) <<< (v20_3 &&& 31))) = y_2) (H : Heap) (locs : List Loc) (hP : va_P D vwCl [(o, .inr (9, [.ref o_road, .ref o_told, .ref o_fresh, .ref o_was, .int o_acts, .ref o_kept, .ref o_isKept, .ref o_sights, .int o_many, .ref o_text, .int o_letters, .int 0, .int o_cursor, .int o_token, .int o_start, .long o_value, .int o_isFault, .int o_faultAt, .int o_above, .int o_below, .ref o_topOf, .ref o_partsOf, .ref o_sent])), (o_road, .inl (cI, 36, .inl o_road_f)), (o_sights, .inl (cI, 18, .inl o_sights_f))] H) (hD : va_D A [(o, .inr (9, [.ref o_road, .ref o_told, .ref o_fresh, .ref o_was, .int o_acts, .ref o_kept, .ref o_isKept, .ref o_sights, .int o_many, .ref o_text, .int o_letters, .int 0, .int o_cursor, .int o_token, .int o_start, .long o_value, .int o_isFault, .int o_faultAt, .int o_above, .int o_below, .ref o_topOf, .ref o_partsOf, .ref o_sent])), (o_road, .inl (cI, 36, .inl o_road_f)), (o_sights, .inl (cI, 18, .inl o_sights_f))]) (hS : va_S A s.heap H locs), W p l e ({ frames := 2, cells := 0, slots := 0, locals := 51 } : Room) s m ([.ref o, .int a1] : List Value).toArray below meth c H locs 0 0 Q (F0 m 129 ls [.int y_2, .int v20_2]) := by
              intro y_2 hy_y_2 H locs hP hD hS
              have ky_y_2 : y_2 = ((1 : Int32) <<< (v20_3 &&& 31)) ∨ y_2 = 0 := by rw [← hy_y_2]; (repeat' split) <;> simp
              refine lv_ior hx hb dX9_what_129 ?_
              refine lv_istore_n (lv' := [(2, .int (v20_2 ||| y_2)), (0, .ref o), (1, .int a1), (3, .int v20_3), (4, .int v31_4), (5, .int v31_5)]) hx hb dX9_what_130 rfl hl (by decide) rfl (fun ls hl => ?_)
              refine lv_iinc (v := (v20_3 + 1)) (lv' := [(3, .int (v20_3 + 1)), (2, .int (v20_2 ||| y_2)), (0, .ref o), (1, .int a1), (4, .int v31_4), (5, .int v31_5)]) hx hb dX9_what_131 hl (k := 3) rfl (by rfl) (by decide) rfl (fun ls hl => ?_)
              refine lv_goto (tgt := 20) hx hb dX9_what_134 (by decide) ?_
              have z_1 : (v20_3 + 1).toInt = v20_3.toInt + (1 : Int32).toInt := z_add (by with_reducible omega) (by with_reducible omega)
              exact ih_20 (v20_2 ||| y_2) (v20_3 + 1) (by first | with_reducible assumption | with_reducible omega | decide | (split <;> rename_i hh <;> first | (have h9 := t_nlt hh; with_reducible omega) | (have h9 := t_lt hh; with_reducible omega) | (have h9 := t_nle hh; with_reducible omega) | (have h9 := t_le hh; with_reducible omega))) (by first | with_reducible assumption | with_reducible omega | decide | (split <;> rename_i hh <;> first | (have h9 := t_nlt hh; with_reducible omega) | (have h9 := t_lt hh; with_reducible omega) | (have h9 := t_nle hh; with_reducible omega) | (have h9 := t_le hh; with_reducible omega))) (by first | with_reducible assumption | with_reducible omega | decide | (split <;> rename_i hh <;> first | (have h9 := t_nlt hh; with_reducible omega) | (have h9 := t_lt hh; with_reducible omega) | (have h9 := t_nle hh; with_reducible omega) | (have h9 := t_le hh; with_reducible omega))) (by first | with_reducible assumption | with_reducible omega | decide | (split <;> rename_i hh <;> first | (have h9 := t_nlt hh; with_reducible omega) | (have h9 := t_lt hh; with_reducible omega) | (have h9 := t_nle hh; with_reducible omega) | (have h9 := t_le hh; with_reducible omega))) (by first | with_reducible assumption | with_reducible omega | decide | (split <;> rename_i hh <;> first | (have h9 := t_nlt hh; with_reducible omega) | (have h9 := t_lt hh; with_reducible omega) | (have h9 := t_nle hh; with_reducible omega) | (have h9 := t_le hh; with_reducible omega))) _ _ _ (lv_sub hl [2, 3, 1, 0] rfl) hP hD hS ((hF.trans (by simp only [fX9_what_31, ↓if_pos c_3, ↓(xlet_of hy_y_2)])).trans (hk_20 _ _))
            refine lv_if_eq (tgt := 128) hx hb dX9_what_119 (by decide) (fun c_4 => ?_) (fun c_4 => ?_)
            · have kc_4 := t_eq c_4
              refine lv_iconst (v := 0) hx hb dX9_what_128 (by decide) ?_
              exact K_y_2 _ (by simp only [↓if_pos c_4]) _ _ hP hD hS
            · have kc_4 := t_neq c_4
              refine lv_iconst (v := 1) hx hb dX9_what_122 (by decide) ?_
              refine lv_iload_n hx hb dX9_what_123 rfl (lv_at hl 3 rfl) ?_
              refine lv_ishl hx hb dX9_what_124 ?_
              refine lv_goto (tgt := 129) hx hb dX9_what_125 (by decide) ?_
              exact K_y_2 _ (by simp only [↓if_neg c_4]) _ _ hP hD hS
          · have kc_3 := t_nle c_3
            refine lv_iload hx hb dX9_what_40 (lv_at hl 4 rfl) ?_
            have K_y_3 : ∀ (y_3 : Int32) (hy_y_3 : (if v31_4 = 0 then (0 : Int32) else (if (o_sights_f (3 * v31_5).toNatClampNeg) = a1 then (if (fX9_stoneBy v20_3 (o_road_f (30 + a1).toNatClampNeg) (o_sights_f ((3 * v31_5) + 1).toNatClampNeg) (o_road_f 1) o_road_f) = (o_sights_f ((3 * v31_5) + 2).toNatClampNeg) then 1 else 0) else 1)) = y_3) (H : Heap) (locs : List Loc) (hP : va_P D vwCl [(o, .inr (9, [.ref o_road, .ref o_told, .ref o_fresh, .ref o_was, .int o_acts, .ref o_kept, .ref o_isKept, .ref o_sights, .int o_many, .ref o_text, .int o_letters, .int 0, .int o_cursor, .int o_token, .int o_start, .long o_value, .int o_isFault, .int o_faultAt, .int o_above, .int o_below, .ref o_topOf, .ref o_partsOf, .ref o_sent])), (o_road, .inl (cI, 36, .inl o_road_f)), (o_sights, .inl (cI, 18, .inl o_sights_f))] H) (hD : va_D A [(o, .inr (9, [.ref o_road, .ref o_told, .ref o_fresh, .ref o_was, .int o_acts, .ref o_kept, .ref o_isKept, .ref o_sights, .int o_many, .ref o_text, .int o_letters, .int 0, .int o_cursor, .int o_token, .int o_start, .long o_value, .int o_isFault, .int o_faultAt, .int o_above, .int o_below, .ref o_topOf, .ref o_partsOf, .ref o_sent])), (o_road, .inl (cI, 36, .inl o_road_f)), (o_sights, .inl (cI, 18, .inl o_sights_f))]) (hS : va_S A s.heap H locs), W p l e ({ frames := 2, cells := 0, slots := 0, locals := 51 } : Room) s m ([.ref o, .int a1] : List Value).toArray below meth c H locs 0 0 Q (F0 m 108 ls [.int y_3]) := by
              intro y_3 hy_y_3 H locs hP hD hS
              have ky_y_3 : y_3 = 0 ∨ y_3 = 1 := by rw [← hy_y_3]; (repeat' split) <;> simp
              refine lv_istore (lv' := [(4, .int y_3), (0, .ref o), (1, .int a1), (2, .int v20_2), (3, .int v20_3), (5, .int v31_5)]) hx hb dX9_what_108 hl (by decide) rfl (fun ls hl => ?_)
              refine lv_iinc (v := (v31_5 + 1)) (lv' := [(5, .int (v31_5 + 1)), (4, .int y_3), (0, .ref o), (1, .int a1), (2, .int v20_2), (3, .int v20_3)]) hx hb dX9_what_110 hl (k := 5) rfl (by rfl) (by decide) rfl (fun ls hl => ?_)
              refine lv_goto (tgt := 31) hx hb dX9_what_113 (by decide) ?_
              have z_6 : (v31_5 + 1).toInt = v31_5.toInt + (1 : Int32).toInt := z_add (by with_reducible omega) (by with_reducible omega)
              exact ih_31 y_3 (v31_5 + 1) (by first | with_reducible assumption | with_reducible omega | decide | (split <;> rename_i hh <;> first | (have h9 := t_nlt hh; with_reducible omega) | (have h9 := t_lt hh; with_reducible omega) | (have h9 := t_nle hh; with_reducible omega) | (have h9 := t_le hh; with_reducible omega))) (by first | with_reducible assumption | with_reducible omega | decide | (split <;> rename_i hh <;> first | (have h9 := t_nlt hh; with_reducible omega) | (have h9 := t_lt hh; with_reducible omega) | (have h9 := t_nle hh; with_reducible omega) | (have h9 := t_le hh; with_reducible omega))) (by first | with_reducible assumption | with_reducible omega | decide | (split <;> rename_i hh <;> first | (have h9 := t_nlt hh; with_reducible omega) | (have h9 := t_lt hh; with_reducible omega) | (have h9 := t_nle hh; with_reducible omega) | (have h9 := t_le hh; with_reducible omega))) (by first | with_reducible assumption | with_reducible omega | decide | (split <;> rename_i hh <;> first | (have h9 := t_nlt hh; with_reducible omega) | (have h9 := t_lt hh; with_reducible omega) | (have h9 := t_nle hh; with_reducible omega) | (have h9 := t_le hh; with_reducible omega))) _ _ _ (lv_sub hl [2, 3, 4, 5, 1, 0] rfl) hP hD hS (hF.trans (by simp only [fX9_what_31, ↓if_neg c_3, ↓(xlet_of hy_y_3)]))
            refine lv_if_eq (tgt := 107) hx hb dX9_what_42 (by decide) (fun c_5 => ?_) (fun c_5 => ?_)
            · have kc_5 := t_eq c_5
              refine lv_iconst (v := 0) hx hb dX9_what_107 (by decide) ?_
              exact K_y_3 _ (by simp only [↓if_pos c_5]) _ _ hP hD hS
            · have kc_5 := t_neq c_5
              refine lv_aload_n hx hb dX9_what_45 rfl (lv_at hl 0 rfl) ?_
              refine xget hx hb hts hown hK 9 (C2 := RX9) (T := TX9) (N := 23) rfl hin_9 hP 0 rfl 7 (by decide) fl_29 rfl rfl rfl dX9_what_46 ?_
              refine lv_iconst (v := 3) hx hb dX9_what_49 (by decide) ?_
              refine lv_iload hx hb dX9_what_50 (lv_at hl 5 rfl) ?_
              refine lv_imul hx hb dX9_what_52 ?_
              have z_2 : (3 * v31_5).toInt = 3 * v31_5.toInt := z_mul 3 rfl (by with_reducible omega) (by with_reducible omega)
              refine xald hx hb hK hP 2 0 (k := (3 * v31_5).toNatClampNeg) rfl rfl (vi (by with_reducible omega) (by with_reducible omega)) rfl dX9_what_53 ?_
              refine lv_iload_n hx hb dX9_what_54 rfl (lv_at hl 1 rfl) ?_
              refine lv_icmp_ne (tgt := 103) hx hb dX9_what_55 (by decide) (fun c_6 => ?_) (fun c_6 => ?_)
              · have kc_6 := t_neq c_6
                refine lv_iconst (v := 1) hx hb dX9_what_103 (by decide) ?_
                refine lv_goto (tgt := 108) hx hb dX9_what_104 (by decide) ?_
                exact K_y_3 _ (by simp only [↓if_neg c_5, ↓if_neg c_6]) _ _ hP hD hS
              · have kc_6 := t_eq c_6
                refine lv_aload_n hx hb dX9_what_58 rfl (lv_at hl 0 rfl) ?_
                refine lv_iload_n hx hb dX9_what_59 rfl (lv_at hl 3 rfl) ?_
                refine lv_aload_n hx hb dX9_what_60 rfl (lv_at hl 0 rfl) ?_
                refine xget hx hb hts hown hK 9 (C2 := RX9) (T := TX9) (N := 23) rfl hin_9 hP 0 rfl 0 (by decide) fl_7 rfl rfl rfl dX9_what_61 ?_
                refine lv_bipush (v := 30) hx hb dX9_what_64 (by decide) ?_
                refine lv_iload_n hx hb dX9_what_66 rfl (lv_at hl 1 rfl) ?_
                refine lv_iadd hx hb dX9_what_67 ?_
                have z_3 : (30 + a1).toInt = (30 : Int32).toInt + a1.toInt := z_add (by with_reducible omega) (by with_reducible omega)
                refine xald hx hb hK hP 1 0 (k := (30 + a1).toNatClampNeg) rfl rfl (vi (by with_reducible omega) (by with_reducible omega)) rfl dX9_what_68 ?_
                refine lv_aload_n hx hb dX9_what_69 rfl (lv_at hl 0 rfl) ?_
                refine xget hx hb hts hown hK 9 (C2 := RX9) (T := TX9) (N := 23) rfl hin_9 hP 0 rfl 7 (by decide) fl_29 rfl rfl rfl dX9_what_70 ?_
                refine lv_iconst (v := 3) hx hb dX9_what_73 (by decide) ?_
                refine lv_iload hx hb dX9_what_74 (lv_at hl 5 rfl) ?_
                refine lv_imul hx hb dX9_what_76 ?_
                refine lv_iconst (v := 1) hx hb dX9_what_77 (by decide) ?_
                refine lv_iadd hx hb dX9_what_78 ?_
                have z_4 : ((3 * v31_5) + 1).toInt = (3 * v31_5).toInt + (1 : Int32).toInt := z_add (by with_reducible omega) (by with_reducible omega)
                refine xald hx hb hK hP 2 0 (k := ((3 * v31_5) + 1).toNatClampNeg) rfl rfl (vi (by with_reducible omega) (by with_reducible omega)) rfl dX9_what_79 ?_
                refine lv_aload_n hx hb dX9_what_80 rfl (lv_at hl 0 rfl) ?_
                refine xget hx hb hts hown hK 9 (C2 := RX9) (T := TX9) (N := 23) rfl hin_9 hP 0 rfl 0 (by decide) fl_7 rfl rfl rfl dX9_what_81 ?_
                refine lv_iconst (v := 1) hx hb dX9_what_84 (by decide) ?_
                refine xald hx hb hK hP 1 0 (k := 1) rfl rfl (vi (by decide) (by decide)) (by decide) dX9_what_85 ?_
                refine xcalli (S := Unit) (Wc := [(o, .inr (9, [.ref o_road, .ref o_told, .ref o_fresh, .ref o_was, .int o_acts, .ref o_kept, .ref o_isKept, .ref o_sights, .int o_many, .ref o_text, .int o_letters, .int 0, .int o_cursor, .int o_token, .int o_start, .long o_value, .int o_isFault, .int o_faultAt, .int o_above, .int o_below, .ref o_topOf, .ref o_partsOf, .ref o_sent])), (o_road, .inl (cI, 36, .inl o_road_f))]) (wr := [(o_sights, .inl (cI, 18, .inl o_sights_f))]) (W1 := (fun (u : Unit) => [(o, .inr (9, [.ref o_road, .ref o_told, .ref o_fresh, .ref o_was, .int o_acts, .ref o_kept, .ref o_isKept, .ref o_sights, .int o_many, .ref o_text, .int o_letters, .int 0, .int o_cursor, .int o_token, .int o_start, .long o_value, .int o_isFault, .int o_faultAt, .int o_above, .int o_below, .ref o_topOf, .ref o_partsOf, .ref o_sent])), (o_road, .inl (cI, 36, .inl o_road_f))])) (Wn := (fun (u : Unit) => [(o, .inr (9, [.ref o_road, .ref o_told, .ref o_fresh, .ref o_was, .int o_acts, .ref o_kept, .ref o_isKept, .ref o_sights, .int o_many, .ref o_text, .int o_letters, .int 0, .int o_cursor, .int o_token, .int o_start, .long o_value, .int o_isFault, .int o_faultAt, .int o_above, .int o_below, .ref o_topOf, .ref o_partsOf, .ref o_sent])), (o_road, .inl (cI, 36, .inl o_road_f)), (o_sights, .inl (cI, 18, .inl o_sights_f))])) (xrunV hx hb hml hown hts (c_X9_stoneBy l D cI cZ _ o v20_3 (o_road_f (30 + a1).toNatClampNeg) (o_sights_f ((3 * v31_5) + 1).toNatClampNeg) (o_road_f 1) o_road o_told o_fresh o_was o_acts o_kept o_isKept o_sights o_many o_text o_letters 0 o_cursor o_token o_start o_value o_isFault o_faultAt o_above o_below o_topOf o_partsOf o_sent o_road_f hn0 hn1 (hhab _ (by with_reducible omega) (by with_reducible omega))) (cwV 4 hts gX9_what_X9_stoneBy rfl rfl rfl (by decide +kernel) ⟨Nat.le_of_ble_eq_true rfl, Nat.le_of_ble_eq_true rfl⟩) hE hK hP hD [0, 1] rfl rfl 0 9 (T := TX9) (N := 23) rfl rfl rfl hl.1 rfl (Nat.le_of_ble_eq_true rfl) dX9_what_86 ⟨Nat.le_of_ble_eq_true rfl, Nat.le_of_ble_eq_true rfl⟩) hP hD hS hA [0, 1] [2] [1, 2, 0] rfl rfl rfl (by decide) (fun _ => rfl) rfl (fun r2 u H locs hw hz hP hD hS => ?_)
                subst hw
                refine lv_aload_n hx hb dX9_what_89 rfl (lv_at hl 0 rfl) ?_
                refine xget hx hb hts hown hK 9 (C2 := RX9) (T := TX9) (N := 23) rfl hin_9 hP 0 rfl 7 (by decide) fl_29 rfl rfl rfl dX9_what_90 ?_
                refine lv_iconst (v := 3) hx hb dX9_what_93 (by decide) ?_
                refine lv_iload hx hb dX9_what_94 (lv_at hl 5 rfl) ?_
                refine lv_imul hx hb dX9_what_96 ?_
                refine lv_iconst (v := 2) hx hb dX9_what_97 (by decide) ?_
                refine lv_iadd hx hb dX9_what_98 ?_
                have z_5 : ((3 * v31_5) + 2).toInt = (3 * v31_5).toInt + (2 : Int32).toInt := z_add (by with_reducible omega) (by with_reducible omega)
                refine xald hx hb hK hP 2 0 (k := ((3 * v31_5) + 2).toNatClampNeg) rfl rfl (vi (by with_reducible omega) (by with_reducible omega)) rfl dX9_what_99 ?_
                refine lv_icmp_ne (tgt := 107) hx hb dX9_what_100 (by decide) (fun c_7 => ?_) (fun c_7 => ?_)
                · refine lv_iconst (v := 0) hx hb dX9_what_107 (by decide) ?_
                  exact K_y_3 _ (by simp only [↓if_neg c_5, ↓if_pos c_6, ↓if_neg c_7]) _ _ hP hD hS
                · refine lv_iconst (v := 1) hx hb dX9_what_103 (by decide) ?_
                  refine lv_goto (tgt := 108) hx hb dX9_what_104 (by decide) ?_
                  exact K_y_3 _ (by simp only [↓if_neg c_5, ↓if_pos c_6, ↓if_pos c_7]) _ _ hP hD hS
      refine lv_iload_n hx hb dX9_what_20 rfl (lv_at hl 3 rfl) ?_
      refine lv_iconst (v := 3) hx hb dX9_what_21 (by decide) ?_
      refine lv_icmp_gt (tgt := 137) hx hb dX9_what_22 (by decide) (fun c_2 => ?_) (fun c_2 => ?_)
      · have kc_2 := t_lt c_2
        refine lv_iload_n hx hb dX9_what_137 rfl (lv_at hl 2 rfl) ?_
        exact hret _ _ _ _ v20_2 () dX9_what_138 ((hF.trans (by simp only [fX9_what_20, ↓if_pos c_2])).symm) hP hD hS
      · have kc_2 := t_nlt c_2
        refine lv_iconst (v := 1) hx hb dX9_what_25 (by decide) ?_
        refine lv_istore (lv' := [(4, .int 1), (0, .ref o), (1, .int a1), (2, .int v20_2), (3, .int v20_3)]) hx hb dX9_what_26 hl (by decide) rfl (fun ls hl => ?_)
        refine lv_iconst (v := 0) hx hb dX9_what_28 (by decide) ?_
        refine lv_istore (lv' := [(5, .int 0), (4, .int 1), (0, .ref o), (1, .int a1), (2, .int v20_2), (3, .int v20_3)]) hx hb dX9_what_29 hl (by decide) rfl (fun ls hl => ?_)
        exact L_31 (fun v20_2 v20_3 => fX9_what_20 a1 o_many o_road_f o_sights_f n_20 v20_2 v20_3) (fun _ _ => rfl) 1000 1 0 (by first | with_reducible assumption | with_reducible omega | decide | (split <;> rename_i hh <;> first | (have h9 := t_nlt hh; with_reducible omega) | (have h9 := t_lt hh; with_reducible omega) | (have h9 := t_nle hh; with_reducible omega) | (have h9 := t_le hh; with_reducible omega))) (by first | with_reducible assumption | with_reducible omega | decide | (split <;> rename_i hh <;> first | (have h9 := t_nlt hh; with_reducible omega) | (have h9 := t_lt hh; with_reducible omega) | (have h9 := t_nle hh; with_reducible omega) | (have h9 := t_le hh; with_reducible omega))) (by first | with_reducible assumption | with_reducible omega | decide | (split <;> rename_i hh <;> first | (have h9 := t_nlt hh; with_reducible omega) | (have h9 := t_lt hh; with_reducible omega) | (have h9 := t_nle hh; with_reducible omega) | (have h9 := t_le hh; with_reducible omega))) (by first | with_reducible assumption | with_reducible omega | decide | (split <;> rename_i hh <;> first | (have h9 := t_nlt hh; with_reducible omega) | (have h9 := t_lt hh; with_reducible omega) | (have h9 := t_nle hh; with_reducible omega) | (have h9 := t_le hh; with_reducible omega))) _ _ _ (lv_sub hl [2, 3, 4, 5, 1, 0] rfl) hP hD hS (hF.trans (by simp only [fX9_what_20, ↓if_neg c_2]))
  refine lv_aload_n hx hb dX9_what_0 rfl (lv_at hl 0 rfl) ?_
  refine lv_iconst (v := 0) hx hb dX9_what_1 (by decide) ?_
  refine xput hx hb hts hown hK 9 (C2 := RX9) (T := TX9) (N := 23) tyX9 rfl tyX9_ok nmX9 hin_9 hP hD hS 0 rfl 11 (by decide) fl_48 rfl rfl rfl rfl rfl (Nat.le_of_ble_eq_true rfl) dX9_what_2 [(o, .inr (9, [.ref o_road, .ref o_told, .ref o_fresh, .ref o_was, .int o_acts, .ref o_kept, .ref o_isKept, .ref o_sights, .int o_many, .ref o_text, .int o_letters, .int 0, .int o_cursor, .int o_token, .int o_start, .long o_value, .int o_isFault, .int o_faultAt, .int o_above, .int o_below, .ref o_topOf, .ref o_partsOf, .ref o_sent])), (o_road, .inl (cI, 36, .inl o_road_f)), (o_sights, .inl (cI, 18, .inl o_sights_f))] rfl (fun H locs hP hD hS => ?_)
  refine lv_aload_n hx hb dX9_what_5 rfl (lv_at hl 0 rfl) ?_
  refine lv_iload_n hx hb dX9_what_6 rfl (lv_at hl 1 rfl) ?_
  refine xcalli (S := Unit) (Wc := [(o, .inr (9, [.ref o_road, .ref o_told, .ref o_fresh, .ref o_was, .int o_acts, .ref o_kept, .ref o_isKept, .ref o_sights, .int o_many, .ref o_text, .int o_letters, .int 0, .int o_cursor, .int o_token, .int o_start, .long o_value, .int o_isFault, .int o_faultAt, .int o_above, .int o_below, .ref o_topOf, .ref o_partsOf, .ref o_sent])), (o_road, .inl (cI, 36, .inl o_road_f))]) (wr := [(o_sights, .inl (cI, 18, .inl o_sights_f))]) (W1 := (fun (u : Unit) => [(o, .inr (9, [.ref o_road, .ref o_told, .ref o_fresh, .ref o_was, .int o_acts, .ref o_kept, .ref o_isKept, .ref o_sights, .int o_many, .ref o_text, .int o_letters, .int 0, .int o_cursor, .int o_token, .int o_start, .long o_value, .int o_isFault, .int o_faultAt, .int o_above, .int o_below, .ref o_topOf, .ref o_partsOf, .ref o_sent])), (o_road, .inl (cI, 36, .inl o_road_f))])) (Wn := (fun (u : Unit) => [(o, .inr (9, [.ref o_road, .ref o_told, .ref o_fresh, .ref o_was, .int o_acts, .ref o_kept, .ref o_isKept, .ref o_sights, .int o_many, .ref o_text, .int o_letters, .int 0, .int o_cursor, .int o_token, .int o_start, .long o_value, .int o_isFault, .int o_faultAt, .int o_above, .int o_below, .ref o_topOf, .ref o_partsOf, .ref o_sent])), (o_road, .inl (cI, 36, .inl o_road_f)), (o_sights, .inl (cI, 18, .inl o_sights_f))])) (xrunV hx hb hml hown hts (c_X9_isWalker l D cI cZ _ o a1 o_road o_told o_fresh o_was o_acts o_kept o_isKept o_sights o_many o_text o_letters 0 o_cursor o_token o_start o_value o_isFault o_faultAt o_above o_below o_topOf o_partsOf o_sent o_road_f ) (cwV 1 hts gX9_what_X9_isWalker rfl rfl rfl (by decide +kernel) ⟨Nat.le_of_ble_eq_true rfl, Nat.le_of_ble_eq_true rfl⟩) hE hK hP hD [0, 1] rfl rfl 0 9 (T := TX9) (N := 23) rfl rfl rfl hl.1 rfl (Nat.le_of_ble_eq_true rfl) dX9_what_7 ⟨Nat.le_of_ble_eq_true rfl, Nat.le_of_ble_eq_true rfl⟩) hP hD hS hA [0, 1] [2] [1, 2, 0] rfl rfl rfl (by decide) (fun _ => rfl) rfl (fun r1 u H locs hw hz hP hD hS => ?_)
  subst hw
  refine lv_if_ne (tgt := 16) hx hb dX9_what_10 (by decide) (fun c_1 => ?_) (fun c_1 => ?_)
  · have kb_c_1 : 0 ≤ a1.toInt ∧ a1.toInt < (o_road_f 2).toInt := isWalker_b c_1 (by with_reducible omega) (by with_reducible omega)
    refine lv_iconst (v := 0) hx hb dX9_what_16 (by decide) ?_
    refine lv_istore_n (lv' := [(2, .int 0), (0, .ref o), (1, .int a1)]) hx hb dX9_what_17 rfl hl (by decide) rfl (fun ls hl => ?_)
    refine lv_iconst (v := 0) hx hb dX9_what_18 (by decide) ?_
    refine lv_istore_n (lv' := [(3, .int 0), (2, .int 0), (0, .ref o), (1, .int a1)]) hx hb dX9_what_19 rfl hl (by decide) rfl (fun ls hl => ?_)
    exact L_20 1000 0 0 (by first | with_reducible assumption | with_reducible omega | decide | (split <;> rename_i hh <;> first | (have h9 := t_nlt hh; with_reducible omega) | (have h9 := t_lt hh; with_reducible omega) | (have h9 := t_nle hh; with_reducible omega) | (have h9 := t_le hh; with_reducible omega))) (by first | with_reducible assumption | with_reducible omega | decide | (split <;> rename_i hh <;> first | (have h9 := t_nlt hh; with_reducible omega) | (have h9 := t_lt hh; with_reducible omega) | (have h9 := t_nle hh; with_reducible omega) | (have h9 := t_le hh; with_reducible omega))) (by first | with_reducible assumption | with_reducible omega | decide | (split <;> rename_i hh <;> first | (have h9 := t_nlt hh; with_reducible omega) | (have h9 := t_lt hh; with_reducible omega) | (have h9 := t_nle hh; with_reducible omega) | (have h9 := t_le hh; with_reducible omega))) (by first | with_reducible assumption | with_reducible omega | decide | (split <;> rename_i hh <;> first | (have h9 := t_nlt hh; with_reducible omega) | (have h9 := t_lt hh; with_reducible omega) | (have h9 := t_nle hh; with_reducible omega) | (have h9 := t_le hh; with_reducible omega))) (by first | with_reducible assumption | with_reducible omega | decide | (split <;> rename_i hh <;> first | (have h9 := t_nlt hh; with_reducible omega) | (have h9 := t_lt hh; with_reducible omega) | (have h9 := t_nle hh; with_reducible omega) | (have h9 := t_le hh; with_reducible omega))) _ _ _ (lv_sub hl [2, 3, 1, 0] rfl) hP hD hS (hF.trans (by simp only [fX9_what, ↓if_neg c_1]))
  · refine lv_bipush (v := (-2)) hx hb dX9_what_13 (by decide) ?_
    exact hret _ _ _ _ (-2) () dX9_what_15 ((hF.trans (by simp only [fX9_what, ↓if_pos c_1])).symm) hP hD hS
