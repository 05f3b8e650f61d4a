set_option maxRecDepth 20000 in
theorem ggX9_miles_X9_in : GoodIn wsX9_miles wsX9_in := goodIn_r _ [8] (by decide +kernel) (by decide +kernel)
set_option maxRecDepth 20000 in
theorem gX9_miles_X9_in : GoodIn wsX9_miles (va_wsS RX9 52 yX9_in wsX9_in) := goodIn_app (goodIn_of _ (by decide +kernel)) ggX9_miles_X9_in
set_option maxRecDepth 20000 in
theorem ggX9_miles_X9_stoneBy : GoodIn wsX9_miles wsX9_stoneBy := goodIn_r _ [12, 4, 13, 14, 15, 7, 16, 17, 18, 19, 20, 21, 22, 23, 24, 25, 26, 27, 28, 29, 30, 31, 32, 33, 34, 35, 36, 37, 38, 39] (by decide +kernel) (by decide +kernel)
set_option maxRecDepth 20000 in
theorem gX9_miles_X9_stoneBy : GoodIn wsX9_miles (wsV RX9 138 RX9 yX9_stoneBy wsX9_stoneBy) := goodIn_app (goodIn_of _ (by decide +kernel)) ggX9_miles_X9_stoneBy
theorem dX9_miles_0 : decode cX9_miles 0 = .ok (.aload_n 0, 1) := by decide +kernel
theorem dX9_miles_1 : decode cX9_miles 1 = .ok (.iconst 0, 1) := by decide +kernel
theorem dX9_miles_2 : decode cX9_miles 2 = .ok (.putfield 48, 3) := by decide +kernel
theorem dX9_miles_5 : decode cX9_miles 5 = .ok (.iload_n 1, 1) := by decide +kernel
theorem dX9_miles_6 : decode cX9_miles 6 = .ok (.i2l, 1) := by decide +kernel
theorem dX9_miles_7 : decode cX9_miles 7 = .ok (.lconst 0, 1) := by decide +kernel
theorem dX9_miles_8 : decode cX9_miles 8 = .ok (.lconst 1, 1) := by decide +kernel
theorem dX9_miles_9 : decode cX9_miles 9 = .ok (.invokestatic 52, 3) := by decide +kernel
theorem dX9_miles_12 : decode cX9_miles 12 = .ok (.ifCond .ne 6, 3) := by decide +kernel
theorem dX9_miles_15 : decode cX9_miles 15 = .ok (.bipush (-3), 2) := by decide +kernel
theorem dX9_miles_17 : decode cX9_miles 17 = .ok (.ireturn, 1) := by decide +kernel
theorem dX9_miles_18 : decode cX9_miles 18 = .ok (.iconst 0, 1) := by decide +kernel
theorem dX9_miles_19 : decode cX9_miles 19 = .ok (.istore_n 2, 1) := by decide +kernel
theorem dX9_miles_20 : decode cX9_miles 20 = .ok (.iconst (-1), 1) := by decide +kernel
theorem dX9_miles_21 : decode cX9_miles 21 = .ok (.istore_n 3, 1) := by decide +kernel
theorem dX9_miles_22 : decode cX9_miles 22 = .ok (.bipush 40, 2) := by decide +kernel
theorem dX9_miles_24 : decode cX9_miles 24 = .ok (.istore 4, 2) := by decide +kernel
theorem dX9_miles_26 : decode cX9_miles 26 = .ok (.iload 4, 2) := by decide +kernel
theorem dX9_miles_28 : decode cX9_miles 28 = .ok (.ifCond .le 129, 3) := by decide +kernel
theorem dX9_miles_31 : decode cX9_miles 31 = .ok (.iconst 1, 1) := by decide +kernel
theorem dX9_miles_32 : decode cX9_miles 32 = .ok (.istore 5, 2) := by decide +kernel
theorem dX9_miles_34 : decode cX9_miles 34 = .ok (.iconst 0, 1) := by decide +kernel
theorem dX9_miles_35 : decode cX9_miles 35 = .ok (.istore 6, 2) := by decide +kernel
theorem dX9_miles_37 : decode cX9_miles 37 = .ok (.iload 6, 2) := by decide +kernel
theorem dX9_miles_39 : decode cX9_miles 39 = .ok (.aload_n 0, 1) := by decide +kernel
theorem dX9_miles_40 : decode cX9_miles 40 = .ok (.getfield 128, 3) := by decide +kernel
theorem dX9_miles_43 : decode cX9_miles 43 = .ok (.if_icmp .ge 83, 3) := by decide +kernel
theorem dX9_miles_46 : decode cX9_miles 46 = .ok (.aload_n 0, 1) := by decide +kernel
theorem dX9_miles_47 : decode cX9_miles 47 = .ok (.getfield 29, 3) := by decide +kernel
theorem dX9_miles_50 : decode cX9_miles 50 = .ok (.iconst 3, 1) := by decide +kernel
theorem dX9_miles_51 : decode cX9_miles 51 = .ok (.iload 6, 2) := by decide +kernel
theorem dX9_miles_53 : decode cX9_miles 53 = .ok (.imul, 1) := by decide +kernel
theorem dX9_miles_54 : decode cX9_miles 54 = .ok (.iaload, 1) := by decide +kernel
theorem dX9_miles_55 : decode cX9_miles 55 = .ok (.istore 7, 2) := by decide +kernel
theorem dX9_miles_57 : decode cX9_miles 57 = .ok (.iload 5, 2) := by decide +kernel
theorem dX9_miles_59 : decode cX9_miles 59 = .ok (.ifCond .eq 58, 3) := by decide +kernel
theorem dX9_miles_62 : decode cX9_miles 62 = .ok (.aload_n 0, 1) := by decide +kernel
theorem dX9_miles_63 : decode cX9_miles 63 = .ok (.aload_n 0, 1) := by decide +kernel
theorem dX9_miles_64 : decode cX9_miles 64 = .ok (.getfield 7, 3) := by decide +kernel
theorem dX9_miles_67 : decode cX9_miles 67 = .ok (.bipush 24, 2) := by decide +kernel
theorem dX9_miles_69 : decode cX9_miles 69 = .ok (.iload 7, 2) := by decide +kernel
theorem dX9_miles_71 : decode cX9_miles 71 = .ok (.iadd, 1) := by decide +kernel
theorem dX9_miles_72 : decode cX9_miles 72 = .ok (.iaload, 1) := by decide +kernel
theorem dX9_miles_73 : decode cX9_miles 73 = .ok (.aload_n 0, 1) := by decide +kernel
theorem dX9_miles_74 : decode cX9_miles 74 = .ok (.getfield 7, 3) := by decide +kernel
theorem dX9_miles_77 : decode cX9_miles 77 = .ok (.bipush 30, 2) := by decide +kernel
theorem dX9_miles_79 : decode cX9_miles 79 = .ok (.iload 7, 2) := by decide +kernel
theorem dX9_miles_81 : decode cX9_miles 81 = .ok (.iadd, 1) := by decide +kernel
theorem dX9_miles_82 : decode cX9_miles 82 = .ok (.iaload, 1) := by decide +kernel
theorem dX9_miles_83 : decode cX9_miles 83 = .ok (.aload_n 0, 1) := by decide +kernel
theorem dX9_miles_84 : decode cX9_miles 84 = .ok (.getfield 29, 3) := by decide +kernel
theorem dX9_miles_87 : decode cX9_miles 87 = .ok (.iconst 3, 1) := by decide +kernel
theorem dX9_miles_88 : decode cX9_miles 88 = .ok (.iload 6, 2) := by decide +kernel
theorem dX9_miles_90 : decode cX9_miles 90 = .ok (.imul, 1) := by decide +kernel
theorem dX9_miles_91 : decode cX9_miles 91 = .ok (.iconst 1, 1) := by decide +kernel
theorem dX9_miles_92 : decode cX9_miles 92 = .ok (.iadd, 1) := by decide +kernel
theorem dX9_miles_93 : decode cX9_miles 93 = .ok (.iaload, 1) := by decide +kernel
theorem dX9_miles_94 : decode cX9_miles 94 = .ok (.iload 4, 2) := by decide +kernel
theorem dX9_miles_96 : decode cX9_miles 96 = .ok (.invokevirtual 138, 3) := by decide +kernel
theorem dX9_miles_99 : decode cX9_miles 99 = .ok (.aload_n 0, 1) := by decide +kernel
theorem dX9_miles_100 : decode cX9_miles 100 = .ok (.getfield 29, 3) := by decide +kernel
theorem dX9_miles_103 : decode cX9_miles 103 = .ok (.iconst 3, 1) := by decide +kernel
theorem dX9_miles_104 : decode cX9_miles 104 = .ok (.iload 6, 2) := by decide +kernel
theorem dX9_miles_106 : decode cX9_miles 106 = .ok (.imul, 1) := by decide +kernel
theorem dX9_miles_107 : decode cX9_miles 107 = .ok (.iconst 2, 1) := by decide +kernel
theorem dX9_miles_108 : decode cX9_miles 108 = .ok (.iadd, 1) := by decide +kernel
theorem dX9_miles_109 : decode cX9_miles 109 = .ok (.iaload, 1) := by decide +kernel
theorem dX9_miles_110 : decode cX9_miles 110 = .ok (.if_icmp .ne 7, 3) := by decide +kernel
theorem dX9_miles_113 : decode cX9_miles 113 = .ok (.iconst 1, 1) := by decide +kernel
theorem dX9_miles_114 : decode cX9_miles 114 = .ok (.goto 4, 3) := by decide +kernel
theorem dX9_miles_117 : decode cX9_miles 117 = .ok (.iconst 0, 1) := by decide +kernel
theorem dX9_miles_118 : decode cX9_miles 118 = .ok (.istore 5, 2) := by decide +kernel
theorem dX9_miles_120 : decode cX9_miles 120 = .ok (.iinc 6 1, 3) := by decide +kernel
theorem dX9_miles_123 : decode cX9_miles 123 = .ok (.goto (-86), 3) := by decide +kernel
theorem dX9_miles_126 : decode cX9_miles 126 = .ok (.iload_n 2, 1) := by decide +kernel
theorem dX9_miles_127 : decode cX9_miles 127 = .ok (.iload 5, 2) := by decide +kernel
theorem dX9_miles_129 : decode cX9_miles 129 = .ok (.ifCond .eq 7, 3) := by decide +kernel
theorem dX9_miles_132 : decode cX9_miles 132 = .ok (.iconst 1, 1) := by decide +kernel
theorem dX9_miles_133 : decode cX9_miles 133 = .ok (.goto 4, 3) := by decide +kernel
theorem dX9_miles_136 : decode cX9_miles 136 = .ok (.iconst 0, 1) := by decide +kernel
theorem dX9_miles_137 : decode cX9_miles 137 = .ok (.iadd, 1) := by decide +kernel
theorem dX9_miles_138 : decode cX9_miles 138 = .ok (.istore_n 2, 1) := by decide +kernel
theorem dX9_miles_139 : decode cX9_miles 139 = .ok (.iload 5, 2) := by decide +kernel
theorem dX9_miles_141 : decode cX9_miles 141 = .ok (.ifCond .eq 8, 3) := by decide +kernel
theorem dX9_miles_144 : decode cX9_miles 144 = .ok (.iload 4, 2) := by decide +kernel
theorem dX9_miles_146 : decode cX9_miles 146 = .ok (.goto 4, 3) := by decide +kernel
theorem dX9_miles_149 : decode cX9_miles 149 = .ok (.iload_n 3, 1) := by decide +kernel
theorem dX9_miles_150 : decode cX9_miles 150 = .ok (.istore_n 3, 1) := by decide +kernel
theorem dX9_miles_151 : decode cX9_miles 151 = .ok (.iinc 4 (-1), 3) := by decide +kernel
theorem dX9_miles_154 : decode cX9_miles 154 = .ok (.goto (-128), 3) := by decide +kernel
theorem dX9_miles_157 : decode cX9_miles 157 = .ok (.iload_n 1, 1) := by decide +kernel
theorem dX9_miles_158 : decode cX9_miles 158 = .ok (.ifCond .ne 7, 3) := by decide +kernel
theorem dX9_miles_161 : decode cX9_miles 161 = .ok (.iload_n 2, 1) := by decide +kernel
theorem dX9_miles_162 : decode cX9_miles 162 = .ok (.goto 4, 3) := by decide +kernel
theorem dX9_miles_165 : decode cX9_miles 165 = .ok (.iload_n 3, 1) := by decide +kernel
theorem dX9_miles_166 : decode cX9_miles 166 = .ok (.ireturn, 1) := by decide +kernel
def fX9_miles_37 (o_many : Int32) (o_sights_f : Nat → Int32) (o_road_f : Nat → Int32) (v26_4 : Int32) (v26_3 : Int32) (v26_2 : Int32) (k_26 : Int32 → Int32 → Int32 → Int32) : Nat → Int32 → Int32 → Int32
  | 0, _, _ => default
  | n + 1, v37_5, v37_6 => if o_many ≤ v37_6 then (xlet (if v37_5 = 0 then (0 : Int32) else 1) (fun y_3 => xlet (if v37_5 = 0 then v26_3 else v26_4) (fun y_4 => k_26 (v26_2 + y_3) y_4 (v26_4 + (-1))))) else (xlet (if v37_5 = 0 then (0 : Int32) else (if (fX9_stoneBy (o_road_f (24 + (o_sights_f (3 * v37_6).toNatClampNeg)).toNatClampNeg) (o_road_f (30 + (o_sights_f (3 * v37_6).toNatClampNeg)).toNatClampNeg) (o_sights_f ((3 * v37_6) + 1).toNatClampNeg) v26_4 o_road_f) = (o_sights_f ((3 * v37_6) + 2).toNatClampNeg) then 1 else 0)) (fun y_5 => fX9_miles_37 o_many o_sights_f o_road_f v26_4 v26_3 v26_2 k_26 n y_5 (v37_6 + 1)))
def fX9_miles_26 (a1 : Int32) (o_many : Int32) (o_sights_f : Nat → Int32) (o_road_f : Nat → Int32)  : Nat → Int32 → Int32 → Int32 → Int32
  | 0, _, _, _ => default
  | n + 1, v26_2, v26_3, v26_4 => if v26_4 ≤ 0 then (xlet (if a1 = 0 then v26_2 else v26_3) (fun y_1 => y_1)) else (fX9_miles_37 o_many o_sights_f o_road_f v26_4 v26_3 v26_2 (fun v26_2 v26_3 v26_4 => fX9_miles_26 a1 o_many o_sights_f o_road_f n v26_2 v26_3 v26_4) 1000 1 0)
def fX9_miles (a1 : Int32) (o_many : Int32) (o_sights_f : Nat → Int32) (o_road_f : Nat → Int32) : Int32 := if (fX9_in a1.toInt64 0 1) = 0 then ((-3)) else (fX9_miles_26 a1 o_many o_sights_f o_road_f 1000 0 (-1) 40)
set_option maxHeartbeats 4000000 in
set_option maxRecDepth 100000 in
theorem c_X9_miles (l : Launch) (D : va_G) (cI cZ : ClassId) (sz : Nat) (o : Nat) (a1 : Int32) (o_road : Nat) (o_told : Nat) (o_fresh : Nat) (o_was : Nat) (o_acts : Int32) (o_kept : Nat) (o_isKept : Nat) (o_sights : Nat) (o_many : Int32) (o_text : Nat) (o_letters : Int32) (o_thrown : Int32) (o_cursor : Int32) (o_token : Int32) (o_start : Int32) (o_value : Int64) (o_isFault : Int32) (o_faultAt : Int32) (o_above : Int32) (o_below : Int32) (o_topOf : Nat) (o_partsOf : Nat) (o_sent : Nat) (o_sights_f : Nat → Int32) (o_road_f : Nat → Int32) (hn0 : 4 ≤ (o_road_f 0).toInt) (hn1 : (o_road_f 0).toInt ≤ 20) (hv0 : 0 ≤ (o_road_f 2).toInt) (hv6 : (o_road_f 2).toInt ≤ 6) (hhab : ∀ w : Int32, 0 ≤ w.toInt → w.toInt < (o_road_f 2).toInt → ¬ o_road_f (30 + w).toNatClampNeg = 0) (hm0 : 0 ≤ o_many.toInt) (hm6 : o_many.toInt ≤ 6) (hsg : ∀ i : Int32, 0 ≤ i.toInt → i.toInt < o_many.toInt → 0 ≤ (o_sights_f (3 * i).toNatClampNeg).toInt ∧ (o_sights_f (3 * i).toNatClampNeg).toInt < (o_road_f 2).toInt) : Met l yX9_miles wsX9_miles ({ frames := 2, cells := 0, slots := 0, locals := 51 } : Room) (va_Pc [.ref o, .int a1] (xP D cI cZ [(o, .inr (9, [.ref o_road, .ref o_told, .ref o_fresh, .ref o_was, .int o_acts, .ref o_kept, .ref o_isKept, .ref o_sights, .int o_many, .ref o_text, .int o_letters, .int o_thrown, .int o_cursor, .int o_token, .int o_start, .long o_value, .int o_isFault, .int o_faultAt, .int o_above, .int o_below, .ref o_topOf, .ref o_partsOf, .ref o_sent])), (o_sights, .inl (cI, 18, .inl o_sights_f)), (o_road, .inl (cI, 36, .inl o_road_f))] sz)) (va_Qi (fun (r : Int32) (u : Unit) => r = fX9_miles a1 o_many o_sights_f o_road_f) (fun (u : Unit) t => xB D cI cZ [(o, .inr (9, [.ref o_road, .ref o_told, .ref o_fresh, .ref o_was, .int o_acts, .ref o_kept, .ref o_isKept, .ref o_sights, .int o_many, .ref o_text, .int o_letters, .int 0, .int o_cursor, .int o_token, .int o_start, .long o_value, .int o_isFault, .int o_faultAt, .int o_above, .int o_below, .ref o_topOf, .ref o_partsOf, .ref o_sent])), (o_sights, .inl (cI, 18, .inl o_sights_f)), (o_road, .inl (cI, 36, .inl o_road_f))] (va_A [(o, .inr (9, [.ref o_road, .ref o_told, .ref o_fresh, .ref o_was, .int o_acts, .ref o_kept, .ref o_isKept, .ref o_sights, .int o_many, .ref o_text, .int o_letters, .int o_thrown, .int o_cursor, .int o_token, .int o_start, .long o_value, .int o_isFault, .int o_faultAt, .int o_above, .int o_below, .ref o_topOf, .ref o_partsOf, .ref o_sent])), (o_sights, .inl (cI, 18, .inl o_sights_f)), (o_road, .inl (cI, 36, .inl o_road_f))] sz) t) (va_A [(o, .inr (9, [.ref o_road, .ref o_told, .ref o_fresh, .ref o_was, .int o_acts, .ref o_kept, .ref o_isKept, .ref o_sights, .int o_many, .ref o_text, .int o_letters, .int o_thrown, .int o_cursor, .int o_token, .int o_start, .long o_value, .int o_isFault, .int o_faultAt, .int o_above, .int o_below, .ref o_topOf, .ref o_partsOf, .ref o_sent])), (o_sights, .inl (cI, 18, .inl o_sights_f)), (o_road, .inl (cI, 36, .inl o_road_f))] sz)) 0 0 (va_A [(o, .inr (9, [.ref o_road, .ref o_told, .ref o_fresh, .ref o_was, .int o_acts, .ref o_kept, .ref o_isKept, .ref o_sights, .int o_many, .ref o_text, .int o_letters, .int o_thrown, .int o_cursor, .int o_token, .int o_start, .long o_value, .int o_isFault, .int o_faultAt, .int o_above, .int o_below, .ref o_topOf, .ref o_partsOf, .ref o_sent])), (o_sights, .inl (cI, 18, .inl o_sights_f)), (o_road, .inl (cI, 36, .inl o_road_f))] sz) := by
  refine Met.ofW (cc := cX9_miles) (maxL := 8) (ret := (some .int)) (by decide) rfl ?_
  intro p e s m args below meth c s₁ B hml hv
  obtain ⟨hargs, hsz, hP, hK, hD0, hE⟩ := hv
  subst hargs
  have hx := B.exec
  have hb := B.bytes
  have hr := B.returns
  have hts := atoms_spec (ws := wsX9_miles) B.pre
  have hown : s.vm.findClass RX9 = some m.cls := findClass_of_methodNamed B.named
  have hlocks := B.notSynchronized
  subst hsz
  have hD := hD0.self (sz := s.heap.size)
  generalize hAe : va_A [(o, .inr (9, [.ref o_road, .ref o_told, .ref o_fresh, .ref o_was, .int o_acts, .ref o_kept, .ref o_isKept, .ref o_sights, .int o_many, .ref o_text, .int o_letters, .int o_thrown, .int o_cursor, .int o_token, .int o_start, .long o_value, .int o_isFault, .int o_faultAt, .int o_above, .int o_below, .ref o_topOf, .ref o_partsOf, .ref o_sent])), (o_sights, .inl (cI, 18, .inl o_sights_f)), (o_road, .inl (cI, 36, .inl o_road_f))] s.heap.size = A at hD ⊢
  have hA : ∀ q : Nat, s.heap.size ≤ q → A q := fun q h => by rw [← hAe]; exact Or.inr h
  have hS : va_S A s.heap s.heap [] := va_S.rf
  have hl := lv_entry ([.ref o, .int a1]) (n := 8) (Nat.le_of_ble_eq_true rfl)
  rw [lg_entry_eq]
  generalize (lg_sl ([.ref o, .int a1]) ++ List.replicate (8 - (lg_sl ([.ref o, .int a1])).length) Slot.unset).toArray = ls at hl ⊢
  have hl : lv_has ls 8 [(0, .ref o), (1, .int a1)] := hl
  refine wq (X := fun Q => ∀ (pc : Nat) (H : Heap) (locs : List Loc) (ls : Array Slot) (r : Int32) (u : Unit) (hd : decode cX9_miles pc = .ok (.ireturn, 1)) (hp : r = fX9_miles a1 o_many o_sights_f o_road_f) (hP : va_P D vwCl [(o, .inr (9, [.ref o_road, .ref o_told, .ref o_fresh, .ref o_was, .int o_acts, .ref o_kept, .ref o_isKept, .ref o_sights, .int o_many, .ref o_text, .int o_letters, .int 0, .int o_cursor, .int o_token, .int o_start, .long o_value, .int o_isFault, .int o_faultAt, .int o_above, .int o_below, .ref o_topOf, .ref o_partsOf, .ref o_sent])), (o_sights, .inl (cI, 18, .inl o_sights_f)), (o_road, .inl (cI, 36, .inl o_road_f))] H) (hD : va_D A [(o, .inr (9, [.ref o_road, .ref o_told, .ref o_fresh, .ref o_was, .int o_acts, .ref o_kept, .ref o_isKept, .ref o_sights, .int o_many, .ref o_text, .int o_letters, .int 0, .int o_cursor, .int o_token, .int o_start, .long o_value, .int o_isFault, .int o_faultAt, .int o_above, .int o_below, .ref o_topOf, .ref o_partsOf, .ref o_sent])), (o_sights, .inl (cI, 18, .inl o_sights_f)), (o_road, .inl (cI, 36, .inl o_road_f))]) (hS : va_S A s.heap H locs), W p l e ({ frames := 2, cells := 0, slots := 0, locals := 51 } : Room) s m ([.ref o, .int a1] : List Value).toArray below meth c H locs 0 0 Q (F0 m pc ls [.int r])) ?_ (fun Q hret => ?_)
  · intro pc H locs ls r u hd hp hP hD hS
    exact W.iret (v := r) hx hb hr (fun t ht hW => ⟨⟨r, u, rfl, hp, by rw [ht]; exact hP, va_K.moved hW.alike hK, hD⟩, hS.F ht⟩) hS.2.2 hd
  have hin_9 : ∀ w ∈ u_ws RX9 TX9 23, w ∈ wsX9_miles := by decide +kernel
  have fl_7 := hts (.fieldLink RX9 7 "MileRoadModel" "road" "[I") (by decide +kernel)
  have fl_29 := hts (.fieldLink RX9 29 "MileRoadModel" "sights" "[I") (by decide +kernel)
  have fl_48 := hts (.fieldLink RX9 48 "MileRoadModel" "thrown" "I") (by decide +kernel)
  have fl_128 := hts (.fieldLink RX9 128 "MileRoadModel" "many" "I") (by decide +kernel)
  have zl_0 : (0 : Int32).toInt = 0 := by decide
  have zl_1 : (1 : Int32).toInt = 1 := by decide
  have zl_2 : (2 : Int32).toInt = 2 := by decide
  have zl_3 : (3 : Int32).toInt = 3 := by decide
  have zl_24 : (24 : Int32).toInt = 24 := by decide
  have zl_30 : (30 : Int32).toInt = 30 := by decide
  have zl_40 : (40 : Int32).toInt = 40 := by decide
  have hF : fX9_miles a1 o_many o_sights_f o_road_f = fX9_miles a1 o_many o_sights_f o_road_f := rfl
  have L_26 : ∀  (n_26 : Nat) (v26_2 : Int32) (v26_3 : Int32) (v26_4 : Int32) (h1_26 : 0 ≤ v26_4.toInt) (h2_26 : v26_4.toInt ≤ 40) (hm : v26_4.toInt < (n_26 : Int)) (H : Heap) (locs : List Loc) (ls : Array Slot) (hl : lv_has ls 8 [(0, .ref o), (1, .int a1), (2, .int v26_2), (3, .int v26_3), (4, .int v26_4)]) (hP : va_P D vwCl [(o, .inr (9, [.ref o_road, .ref o_told, .ref o_fresh, .ref o_was, .int o_acts, .ref o_kept, .ref o_isKept, .ref o_sights, .int o_many, .ref o_text, .int o_letters, .int 0, .int o_cursor, .int o_token, .int o_start, .long o_value, .int o_isFault, .int o_faultAt, .int o_above, .int o_below, .ref o_topOf, .ref o_partsOf, .ref o_sent])), (o_sights, .inl (cI, 18, .inl o_sights_f)), (o_road, .inl (cI, 36, .inl o_road_f))] H) (hD : va_D A [(o, .inr (9, [.ref o_road, .ref o_told, .ref o_fresh, .ref o_was, .int o_acts, .ref o_kept, .ref o_isKept, .ref o_sights, .int o_many, .ref o_text, .int o_letters, .int 0, .int o_cursor, .int o_token, .int o_start, .long o_value, .int o_isFault, .int o_faultAt, .int o_above, .int o_below, .ref o_topOf, .ref o_partsOf, .ref o_sent])), (o_sights, .inl (cI, 18, .inl o_sights_f)), (o_road, .inl (cI, 36, .inl o_road_f))]) (hS : va_S A s.heap H locs) (hF : fX9_miles a1 o_many o_sights_f o_road_f = fX9_miles_26 a1 o_many o_sights_f o_road_f n_26 v26_2 v26_3 v26_4), W p l e ({ frames := 2, cells := 0, slots := 0, locals := 51 } : Room) s m ([.ref o, .int a1] : List Value).toArray below meth c H locs 0 0 Q (F0 m 26 ls []) := by
    intro  n_26
    induction n_26 with
    | zero =>
      intro v26_2 v26_3 v26_4 h1_26 h2_26 hm H locs ls hl hP hD hS hF
      exact absurd hm (by with_reducible omega)
    | succ n_26 ih_26 =>
      intro v26_2 v26_3 v26_4 h1_26 h2_26 hm H locs ls hl hP hD hS hF
      have L_37 : ∀ (k_26 : Int32 → Int32 → Int32 → Int32) (hk_26 : ∀ (v26_2 : Int32) (v26_3 : Int32) (v26_4 : Int32), k_26 v26_2 v26_3 v26_4 = fX9_miles_26 a1 o_many o_sights_f o_road_f n_26 v26_2 v26_3 v26_4) (n_37 : Nat) (v37_5 : Int32) (v37_6 : Int32) (h1_37 : 0 ≤ v37_6.toInt) (h2_37 : v37_6.toInt ≤ 6) (hp : 1 ≤ v26_4.toInt) (hpm : v26_4.toInt ≤ (n_26 : Int)) (hm : 6 - v37_6.toInt < (n_37 : Int)) (H : Heap) (locs : List Loc) (ls : Array Slot) (hl : lv_has ls 8 [(0, .ref o), (1, .int a1), (2, .int v26_2), (3, .int v26_3), (4, .int v26_4), (5, .int v37_5), (6, .int v37_6)]) (hP : va_P D vwCl [(o, .inr (9, [.ref o_road, .ref o_told, .ref o_fresh, .ref o_was, .int o_acts, .ref o_kept, .ref o_isKept, .ref o_sights, .int o_many, .ref o_text, .int o_letters, .int 0, .int o_cursor, .int o_token, .int o_start, .long o_value, .int o_isFault, .int o_faultAt, .int o_above, .int o_below, .ref o_topOf, .ref o_partsOf, .ref o_sent])), (o_sights, .inl (cI, 18, .inl o_sights_f)), (o_road, .inl (cI, 36, .inl o_road_f))] H) (hD : va_D A [(o, .inr (9, [.ref o_road, .ref o_told, .ref o_fresh, .ref o_was, .int o_acts, .ref o_kept, .ref o_isKept, .ref o_sights, .int o_many, .ref o_text, .int o_letters, .int 0, .int o_cursor, .int o_token, .int o_start, .long o_value, .int o_isFault, .int o_faultAt, .int o_above, .int o_below, .ref o_topOf, .ref o_partsOf, .ref o_sent])), (o_sights, .inl (cI, 18, .inl o_sights_f)), (o_road, .inl (cI, 36, .inl o_road_f))]) (hS : va_S A s.heap H locs) (hF : fX9_miles a1 o_many o_sights_f o_road_f = fX9_miles_37 o_many o_sights_f o_road_f v26_4 v26_3 v26_2 k_26 n_37 v37_5 v37_6), W p l e ({ frames := 2, cells := 0, slots := 0, locals := 51 } : Room) s m ([.ref o, .int a1] : List Value).toArray below meth c H locs 0 0 Q (F0 m 37 ls []) := by
        intro k_26 hk_26 n_37
        induction n_37 with
        | zero =>
          intro v37_5 v37_6 h1_37 h2_37 hp hpm hm H locs ls hl hP hD hS hF
          exact absurd hm (by with_reducible omega)
        | succ n_37 ih_37 =>
          intro v37_5 v37_6 h1_37 h2_37 hp hpm hm H locs ls hl hP hD hS hF
          refine lv_iload hx hb dX9_miles_37 (lv_at hl 6 rfl) ?_
          refine lv_aload_n hx hb dX9_miles_39 rfl (lv_at hl 0 rfl) ?_
          refine xget hx hb hts hown hK 9 (C2 := RX9) (T := TX9) (N := 23) rfl hin_9 hP 0 rfl 8 (by decide) fl_128 rfl rfl rfl dX9_miles_40 ?_
          refine lv_icmp_ge (tgt := 126) hx hb dX9_miles_43 (by decide) (fun c_4 => ?_) (fun c_4 => ?_)
          · have kc_4 := t_le c_4
            have q0 := dec_b hp (Int.le_trans h2_26 (by decide))
            refine lv_iload_n hx hb dX9_miles_126 rfl (lv_at hl 2 rfl) ?_
            refine lv_iload hx hb dX9_miles_127 (lv_at hl 5 rfl) ?_
            have K_y_3 : ∀ (y_3 : Int32) (hy_y_3 : (if v37_5 = 0 then (0 : Int32) else 1) = y_3) (H : Heap) (locs : List Loc) (hP : va_P D vwCl [(o, .inr (9, [.ref o_road, .ref o_told, .ref o_fresh, .ref o_was, .int o_acts, .ref o_kept, .ref o_isKept, .ref o_sights, .int o_many, .ref o_text, .int o_letters, .int 0, .int o_cursor, .int o_token, .int o_start, .long o_value, .int o_isFault, .int o_faultAt, .int o_above, .int o_below, .ref o_topOf, .ref o_partsOf, .ref o_sent])), (o_sights, .inl (cI, 18, .inl o_sights_f)), (o_road, .inl (cI, 36, .inl o_road_f))] H) (hD : va_D A [(o, .inr (9, [.ref o_road, .ref o_told, .ref o_fresh, .ref o_was, .int o_acts, .ref o_kept, .ref o_isKept, .ref o_sights, .int o_many, .ref o_text, .int o_letters, .int 0, .int o_cursor, .int o_token, .int o_start, .long o_value, .int o_isFault, .int o_faultAt, .int o_above, .int o_below, .ref o_topOf, .ref o_partsOf, .ref o_sent])), (o_sights, .inl (cI, 18, .inl o_sights_f)), (o_road, .inl (cI, 36, .inl o_road_f))]) (hS : va_S A s.heap H locs), W p l e ({ frames := 2, cells := 0, slots := 0, locals := 51 } : Room) s m ([.ref o, .int a1] : List Value).toArray below meth c H locs 0 0 Q (F0 m 137 ls [.int y_3, .int v26_2]) := by
              intro y_3 hy_y_3 H locs hP hD hS
              have ky_y_3 : y_3 = 0 ∨ y_3 = 1 := by rw [← hy_y_3]; (repeat' split) <;> simp
              refine lv_iadd hx hb dX9_miles_137 ?_
              refine lv_istore_n (lv' := [(2, .int (v26_2 + y_3)), (0, .ref o), (1, .int a1), (3, .int v26_3), (4, .int v26_4), (5, .int v37_5), (6, .int v37_6)]) hx hb dX9_miles_138 rfl hl (by decide) rfl (fun ls hl => ?_)
              refine lv_iload hx hb dX9_miles_139 (lv_at hl 5 rfl) ?_
              have K_y_4 : ∀ (y_4 : Int32) (hy_y_4 : (if v37_5 = 0 then v26_3 else v26_4) = y_4) (H : Heap) (locs : List Loc) (hP : va_P D vwCl [(o, .inr (9, [.ref o_road, .ref o_told, .ref o_fresh, .ref o_was, .int o_acts, .ref o_kept, .ref o_isKept, .ref o_sights, .int o_many, .ref o_text, .int o_letters, .int 0, .int o_cursor, .int o_token, .int o_start, .long o_value, .int o_isFault, .int o_faultAt, .int o_above, .int o_below, .ref o_topOf, .ref o_partsOf, .ref o_sent])), (o_sights, .inl (cI, 18, .inl o_sights_f)), (o_road, .inl (cI, 36, .inl o_road_f))] H) (hD : va_D A [(o, .inr (9, [.ref o_road, .ref o_told, .ref o_fresh, .ref o_was, .int o_acts, .ref o_kept, .ref o_isKept, .ref o_sights, .int o_many, .ref o_text, .int o_letters, .int 0, .int o_cursor, .int o_token, .int o_start, .long o_value, .int o_isFault, .int o_faultAt, .int o_above, .int o_below, .ref o_topOf, .ref o_partsOf, .ref o_sent])), (o_sights, .inl (cI, 18, .inl o_sights_f)), (o_road, .inl (cI, 36, .inl o_road_f))]) (hS : va_S A s.heap H locs), W p l e ({ frames := 2, cells := 0, slots := 0, locals := 51 } : Room) s m ([.ref o, .int a1] : List Value).toArray below meth c H locs 0 0 Q (F0 m 150 ls [.int y_4]) := by
                intro y_4 hy_y_4 H locs hP hD hS
                have ky_y_4 : y_4 = v26_3 ∨ y_4 = v26_4 := by rw [← hy_y_4]; (repeat' split) <;> simp
                refine lv_istore_n (lv' := [(3, .int y_4), (2, .int (v26_2 + y_3)), (0, .ref o), (1, .int a1), (4, .int v26_4), (5, .int v37_5), (6, .int v37_6)]) hx hb dX9_miles_150 rfl hl (by decide) rfl (fun ls hl => ?_)
                refine lv_iinc (v := (v26_4 + (-1))) (lv' := [(4, .int (v26_4 + (-1))), (3, .int y_4), (2, .int (v26_2 + y_3)), (0, .ref o), (1, .int a1), (5, .int v37_5), (6, .int v37_6)]) hx hb dX9_miles_151 hl (k := 4) rfl (by rfl) (by decide) rfl (fun ls hl => ?_)
                refine lv_goto (tgt := 26) hx hb dX9_miles_154 (by decide) ?_
                exact ih_26 (v26_2 + y_3) y_4 (v26_4 + (-1)) q0.1 (Int.le_trans q0.2.1 h2_26) (Int.lt_of_add_one_le (by rw [q0.2.2]; exact hpm)) _ _ _ (lv_sub hl [3, 4, 2, 1, 0] rfl) hP hD hS ((hF.trans (by simp only [fX9_miles_37, ↓if_pos c_4, ↓(xlet_of hy_y_3), ↓(xlet_of hy_y_4)])).trans (hk_26 _ _ _))
              refine lv_if_eq (tgt := 149) hx hb dX9_miles_141 (by decide) (fun c_6 => ?_) (fun c_6 => ?_)
              · have kc_6 := t_eq c_6
                refine lv_iload_n hx hb dX9_miles_149 rfl (lv_at hl 3 rfl) ?_
                exact K_y_4 _ (by simp only [↓if_pos c_6]) _ _ hP hD hS
              · have kc_6 := t_neq c_6
                refine lv_iload hx hb dX9_miles_144 (lv_at hl 4 rfl) ?_
                refine lv_goto (tgt := 150) hx hb dX9_miles_146 (by decide) ?_
                exact K_y_4 _ (by simp only [↓if_neg c_6]) _ _ hP hD hS
            refine lv_if_eq (tgt := 136) hx hb dX9_miles_129 (by decide) (fun c_5 => ?_) (fun c_5 => ?_)
            · have kc_5 := t_eq c_5
              refine lv_iconst (v := 0) hx hb dX9_miles_136 (by decide) ?_
              exact K_y_3 _ (by simp only [↓if_pos c_5]) _ _ hP hD hS
            · have kc_5 := t_neq c_5
              refine lv_iconst (v := 1) hx hb dX9_miles_132 (by decide) ?_
              refine lv_goto (tgt := 137) hx hb dX9_miles_133 (by decide) ?_
              exact K_y_3 _ (by simp only [↓if_neg c_5]) _ _ hP hD hS
          · have kc_4 := t_nle c_4
            refine lv_aload_n hx hb dX9_miles_46 rfl (lv_at hl 0 rfl) ?_
            refine xget hx hb hts hown hK 9 (C2 := RX9) (T := TX9) (N := 23) rfl hin_9 hP 0 rfl 7 (by decide) fl_29 rfl rfl rfl dX9_miles_47 ?_
            refine lv_iconst (v := 3) hx hb dX9_miles_50 (by decide) ?_
            refine lv_iload hx hb dX9_miles_51 (lv_at hl 6 rfl) ?_
            refine lv_imul hx hb dX9_miles_53 ?_
            have z_1 : (3 * v37_6).toInt = 3 * v37_6.toInt := z_mul 3 rfl (by with_reducible omega) (by with_reducible omega)
            refine xald hx hb hK hP 1 0 (k := (3 * v37_6).toNatClampNeg) rfl rfl (vi (by with_reducible omega) (by with_reducible omega)) rfl dX9_miles_54 ?_
            refine lv_istore (lv' := [(7, .int (o_sights_f (3 * v37_6).toNatClampNeg)), (0, .ref o), (1, .int a1), (2, .int v26_2), (3, .int v26_3), (4, .int v26_4), (5, .int v37_5), (6, .int v37_6)]) hx hb dX9_miles_55 hl (by decide) rfl (fun ls hl => ?_)
            have hs := hsg v37_6 (by with_reducible omega) (by with_reducible omega)
            refine lv_iload hx hb dX9_miles_57 (lv_at hl 6 rfl) ?_
            have K_y_5 : ∀ (y_5 : Int32) (hy_y_5 : (if v37_5 = 0 then (0 : Int32) else (if (fX9_stoneBy (o_road_f (24 + (o_sights_f (3 * v37_6).toNatClampNeg)).toNatClampNeg) (o_road_f (30 + (o_sights_f (3 * v37_6).toNatClampNeg)).toNatClampNeg) (o_sights_f ((3 * v37_6) + 1).toNatClampNeg) v26_4 o_road_f) = (o_sights_f ((3 * v37_6) + 2).toNatClampNeg) then 1 else 0)) = y_5) (H : Heap) (locs : List Loc) (hP : va_P D vwCl [(o, .inr (9, [.ref o_road, .ref o_told, .ref o_fresh, .ref o_was, .int o_acts, .ref o_kept, .ref o_isKept, .ref o_sights, .int o_many, .ref o_text, .int o_letters, .int 0, .int o_cursor, .int o_token, .int o_start, .long o_value, .int o_isFault, .int o_faultAt, .int o_above, .int o_below, .ref o_topOf, .ref o_partsOf, .ref o_sent])), (o_sights, .inl (cI, 18, .inl o_sights_f)), (o_road, .inl (cI, 36, .inl o_road_f))] H) (hD : va_D A [(o, .inr (9, [.ref o_road, .ref o_told, .ref o_fresh, .ref o_was, .int o_acts, .ref o_kept, .ref o_isKept, .ref o_sights, .int o_many, .ref o_text, .int o_letters, .int 0, .int o_cursor, .int o_token, .int o_start, .long o_value, .int o_isFault, .int o_faultAt, .int o_above, .int o_below, .ref o_topOf, .ref o_partsOf, .ref o_sent])), (o_sights, .inl (cI, 18, .inl o_sights_f)), (o_road, .inl (cI, 36, .inl o_road_f))]) (hS : va_S A s.heap H locs), W p l e ({ frames := 2, cells := 0, slots := 0, locals := 51 } : Room) s m ([.ref o, .int a1] : List Value).toArray below meth c H locs 0 0 Q (F0 m 118 ls [.int y_5]) := by
              intro y_5 hy_y_5 H locs hP hD hS
              have ky_y_5 : y_5 = 0 ∨ y_5 = 1 := by rw [← hy_y_5]; (repeat' split) <;> simp
              refine lv_istore (lv' := [(5, .int y_5), (7, .int (o_sights_f (3 * v37_6).toNatClampNeg)), (0, .ref o), (1, .int a1), (2, .int v26_2), (3, .int v26_3), (4, .int v26_4), (6, .int v37_6)]) hx hb dX9_miles_118 hl (by decide) rfl (fun ls hl => ?_)
              refine lv_iinc (v := (v37_6 + 1)) (lv' := [(6, .int (v37_6 + 1)), (5, .int y_5), (7, .int (o_sights_f (3 * v37_6).toNatClampNeg)), (0, .ref o), (1, .int a1), (2, .int v26_2), (3, .int v26_3), (4, .int v26_4)]) hx hb dX9_miles_120 hl (k := 7) rfl (by rfl) (by decide) rfl (fun ls hl => ?_)
              refine lv_goto (tgt := 37) hx hb dX9_miles_123 (by decide) ?_
              have z_6 : (v37_6 + 1).toInt = v37_6.toInt + (1 : Int32).toInt := z_add (by with_reducible omega) (by with_reducible omega)
              exact ih_37 y_5 (v37_6 + 1) (by first | with_reducible assumption | with_reducible omega | decide | (split <;> rename_i hh <;> first | (have h9 := t_nlt hh; with_reducible omega) | (have h9 := t_lt hh; with_reducible omega) | (have h9 := t_nle hh; with_reducible omega) | (have h9 := t_le hh; with_reducible omega))) (by first | with_reducible assumption | with_reducible omega | decide | (split <;> rename_i hh <;> first | (have h9 := t_nlt hh; with_reducible omega) | (have h9 := t_lt hh; with_reducible omega) | (have h9 := t_nle hh; with_reducible omega) | (have h9 := t_le hh; with_reducible omega))) (by first | with_reducible assumption | with_reducible omega | decide | (split <;> rename_i hh <;> first | (have h9 := t_nlt hh; with_reducible omega) | (have h9 := t_lt hh; with_reducible omega) | (have h9 := t_nle hh; with_reducible omega) | (have h9 := t_le hh; with_reducible omega))) (by first | with_reducible assumption | with_reducible omega | decide | (split <;> rename_i hh <;> first | (have h9 := t_nlt hh; with_reducible omega) | (have h9 := t_lt hh; with_reducible omega) | (have h9 := t_nle hh; with_reducible omega) | (have h9 := t_le hh; with_reducible omega))) (by first | with_reducible assumption | with_reducible omega | decide | (split <;> rename_i hh <;> first | (have h9 := t_nlt hh; with_reducible omega) | (have h9 := t_lt hh; with_reducible omega) | (have h9 := t_nle hh; with_reducible omega) | (have h9 := t_le hh; with_reducible omega))) _ _ _ (lv_sub hl [3, 4, 5, 6, 7, 1, 0] rfl) hP hD hS (hF.trans (by simp only [fX9_miles_37, ↓if_neg c_4, ↓(xlet_of hy_y_5)]))
            refine lv_if_eq (tgt := 117) hx hb dX9_miles_59 (by decide) (fun c_7 => ?_) (fun c_7 => ?_)
            · have kc_7 := t_eq c_7
              refine lv_iconst (v := 0) hx hb dX9_miles_117 (by decide) ?_
              exact K_y_5 _ (by simp only [↓if_pos c_7]) _ _ hP hD hS
            · have kc_7 := t_neq c_7
              refine lv_aload_n hx hb dX9_miles_62 rfl (lv_at hl 1 rfl) ?_
              refine lv_aload_n hx hb dX9_miles_63 rfl (lv_at hl 1 rfl) ?_
              refine xget hx hb hts hown hK 9 (C2 := RX9) (T := TX9) (N := 23) rfl hin_9 hP 0 rfl 0 (by decide) fl_7 rfl rfl rfl dX9_miles_64 ?_
              refine lv_bipush (v := 24) hx hb dX9_miles_67 (by decide) ?_
              refine lv_iload hx hb dX9_miles_69 (lv_at hl 0 rfl) ?_
              refine lv_iadd hx hb dX9_miles_71 ?_
              have z_2 : (24 + (o_sights_f (3 * v37_6).toNatClampNeg)).toInt = (24 : Int32).toInt + (o_sights_f (3 * v37_6).toNatClampNeg).toInt := z_add (by with_reducible omega) (by with_reducible omega)
              refine xald hx hb hK hP 2 0 (k := (24 + (o_sights_f (3 * v37_6).toNatClampNeg)).toNatClampNeg) rfl rfl (vi (by with_reducible omega) (by with_reducible omega)) rfl dX9_miles_72 ?_
              refine lv_aload_n hx hb dX9_miles_73 rfl (lv_at hl 1 rfl) ?_
              refine xget hx hb hts hown hK 9 (C2 := RX9) (T := TX9) (N := 23) rfl hin_9 hP 0 rfl 0 (by decide) fl_7 rfl rfl rfl dX9_miles_74 ?_
              refine lv_bipush (v := 30) hx hb dX9_miles_77 (by decide) ?_
              refine lv_iload hx hb dX9_miles_79 (lv_at hl 0 rfl) ?_
              refine lv_iadd hx hb dX9_miles_81 ?_
              have z_3 : (30 + (o_sights_f (3 * v37_6).toNatClampNeg)).toInt = (30 : Int32).toInt + (o_sights_f (3 * v37_6).toNatClampNeg).toInt := z_add (by with_reducible omega) (by with_reducible omega)
              refine xald hx hb hK hP 2 0 (k := (30 + (o_sights_f (3 * v37_6).toNatClampNeg)).toNatClampNeg) rfl rfl (vi (by with_reducible omega) (by with_reducible omega)) rfl dX9_miles_82 ?_
              refine lv_aload_n hx hb dX9_miles_83 rfl (lv_at hl 1 rfl) ?_
              refine xget hx hb hts hown hK 9 (C2 := RX9) (T := TX9) (N := 23) rfl hin_9 hP 0 rfl 7 (by decide) fl_29 rfl rfl rfl dX9_miles_84 ?_
              refine lv_iconst (v := 3) hx hb dX9_miles_87 (by decide) ?_
              refine lv_iload hx hb dX9_miles_88 (lv_at hl 7 rfl) ?_
              refine lv_imul hx hb dX9_miles_90 ?_
              refine lv_iconst (v := 1) hx hb dX9_miles_91 (by decide) ?_
              refine lv_iadd hx hb dX9_miles_92 ?_
              have z_4 : ((3 * v37_6) + 1).toInt = (3 * v37_6).toInt + (1 : Int32).toInt := z_add (by with_reducible omega) (by with_reducible omega)
              refine xald hx hb hK hP 1 0 (k := ((3 * v37_6) + 1).toNatClampNeg) rfl rfl (vi (by with_reducible omega) (by with_reducible omega)) rfl dX9_miles_93 ?_
              refine lv_iload hx hb dX9_miles_94 (lv_at hl 5 rfl) ?_
              refine xcalli (S := Unit) (Wc := [(o, .inr (9, [.ref o_road, .ref o_told, .ref o_fresh, .ref o_was, .int o_acts, .ref o_kept, .ref o_isKept, .ref o_sights, .int o_many, .ref o_text, .int o_letters, .int 0, .int o_cursor, .int o_token, .int o_start, .long o_value, .int o_isFault, .int o_faultAt, .int o_above, .int o_below, .ref o_topOf, .ref o_partsOf, .ref o_sent])), (o_road, .inl (cI, 36, .inl o_road_f))]) (wr := [(o_sights, .inl (cI, 18, .inl o_sights_f))]) (W1 := (fun (u : Unit) => [(o, .inr (9, [.ref o_road, .ref o_told, .ref o_fresh, .ref o_was, .int o_acts, .ref o_kept, .ref o_isKept, .ref o_sights, .int o_many, .ref o_text, .int o_letters, .int 0, .int o_cursor, .int o_token, .int o_start, .long o_value, .int o_isFault, .int o_faultAt, .int o_above, .int o_below, .ref o_topOf, .ref o_partsOf, .ref o_sent])), (o_road, .inl (cI, 36, .inl o_road_f))])) (Wn := (fun (u : Unit) => [(o, .inr (9, [.ref o_road, .ref o_told, .ref o_fresh, .ref o_was, .int o_acts, .ref o_kept, .ref o_isKept, .ref o_sights, .int o_many, .ref o_text, .int o_letters, .int 0, .int o_cursor, .int o_token, .int o_start, .long o_value, .int o_isFault, .int o_faultAt, .int o_above, .int o_below, .ref o_topOf, .ref o_partsOf, .ref o_sent])), (o_sights, .inl (cI, 18, .inl o_sights_f)), (o_road, .inl (cI, 36, .inl o_road_f))])) (xrunV hx hb hml hown hts (c_X9_stoneBy l D cI cZ _ o (o_road_f (24 + (o_sights_f (3 * v37_6).toNatClampNeg)).toNatClampNeg) (o_road_f (30 + (o_sights_f (3 * v37_6).toNatClampNeg)).toNatClampNeg) (o_sights_f ((3 * v37_6) + 1).toNatClampNeg) v26_4 o_road o_told o_fresh o_was o_acts o_kept o_isKept o_sights o_many o_text o_letters 0 o_cursor o_token o_start o_value o_isFault o_faultAt o_above o_below o_topOf o_partsOf o_sent o_road_f hn0 hn1 (hhab _ hs.1 hs.2)) (cwV 4 hts gX9_miles_X9_stoneBy rfl rfl rfl (by decide +kernel) ⟨Nat.le_of_ble_eq_true rfl, Nat.le_of_ble_eq_true rfl⟩) hE hK hP hD [0, 2] rfl rfl 0 9 (T := TX9) (N := 23) rfl rfl rfl hl.1 rfl (Nat.le_of_ble_eq_true rfl) dX9_miles_96 ⟨Nat.le_of_ble_eq_true rfl, Nat.le_of_ble_eq_true rfl⟩) hP hD hS hA [0, 2] [1] [1, 0, 2] rfl rfl rfl (by decide) (fun _ => rfl) rfl (fun r2 u H locs hw hz hP hD hS => ?_)
              subst hw
              refine lv_aload_n hx hb dX9_miles_99 rfl (lv_at hl 1 rfl) ?_
              refine xget hx hb hts hown hK 9 (C2 := RX9) (T := TX9) (N := 23) rfl hin_9 hP 0 rfl 7 (by decide) fl_29 rfl rfl rfl dX9_miles_100 ?_
              refine lv_iconst (v := 3) hx hb dX9_miles_103 (by decide) ?_
              refine lv_iload hx hb dX9_miles_104 (lv_at hl 7 rfl) ?_
              refine lv_imul hx hb dX9_miles_106 ?_
              refine lv_iconst (v := 2) hx hb dX9_miles_107 (by decide) ?_
              refine lv_iadd hx hb dX9_miles_108 ?_
              have z_5 : ((3 * v37_6) + 2).toInt = (3 * v37_6).toInt + (2 : Int32).toInt := z_add (by with_reducible omega) (by with_reducible omega)
              refine xald hx hb hK hP 1 0 (k := ((3 * v37_6) + 2).toNatClampNeg) rfl rfl (vi (by with_reducible omega) (by with_reducible omega)) rfl dX9_miles_109 ?_
              refine lv_icmp_ne (tgt := 117) hx hb dX9_miles_110 (by decide) (fun c_8 => ?_) (fun c_8 => ?_)
              · refine lv_iconst (v := 0) hx hb dX9_miles_117 (by decide) ?_
                exact K_y_5 _ (by simp only [↓if_neg c_7, ↓if_neg c_8]) _ _ hP hD hS
              · refine lv_iconst (v := 1) hx hb dX9_miles_113 (by decide) ?_
                refine lv_goto (tgt := 118) hx hb dX9_miles_114 (by decide) ?_
                exact K_y_5 _ (by simp only [↓if_neg c_7, ↓if_pos c_8]) _ _ hP hD hS
      refine lv_iload hx hb dX9_miles_26 (lv_at hl 4 rfl) ?_
      refine lv_if_le (tgt := 157) hx hb dX9_miles_28 (by decide) (fun c_2 => ?_) (fun c_2 => ?_)
      · have kc_2 := t_le c_2
        refine lv_iload_n hx hb dX9_miles_157 rfl (lv_at hl 1 rfl) ?_
        have K_y_1 : ∀ (y_1 : Int32) (hy_y_1 : (if a1 = 0 then v26_2 else v26_3) = y_1) (H : Heap) (locs : List Loc) (hP : va_P D vwCl [(o, .inr (9, [.ref o_road, .ref o_told, .ref o_fresh, .ref o_was, .int o_acts, .ref o_kept, .ref o_isKept, .ref o_sights, .int o_many, .ref o_text, .int o_letters, .int 0, .int o_cursor, .int o_token, .int o_start, .long o_value, .int o_isFault, .int o_faultAt, .int o_above, .int o_below, .ref o_topOf, .ref o_partsOf, .ref o_sent])), (o_sights, .inl (cI, 18, .inl o_sights_f)), (o_road, .inl (cI, 36, .inl o_road_f))] H) (hD : va_D A [(o, .inr (9, [.ref o_road, .ref o_told, .ref o_fresh, .ref o_was, .int o_acts, .ref o_kept, .ref o_isKept, .ref o_sights, .int o_many, .ref o_text, .int o_letters, .int 0, .int o_cursor, .int o_token, .int o_start, .long o_value, .int o_isFault, .int o_faultAt, .int o_above, .int o_below, .ref o_topOf, .ref o_partsOf, .ref o_sent])), (o_sights, .inl (cI, 18, .inl o_sights_f)), (o_road, .inl (cI, 36, .inl o_road_f))]) (hS : va_S A s.heap H locs), W p l e ({ frames := 2, cells := 0, slots := 0, locals := 51 } : Room) s m ([.ref o, .int a1] : List Value).toArray below meth c H locs 0 0 Q (F0 m 166 ls [.int y_1]) := by
          intro y_1 hy_y_1 H locs hP hD hS
          have ky_y_1 : y_1 = v26_2 ∨ y_1 = v26_3 := by rw [← hy_y_1]; (repeat' split) <;> simp
          exact hret _ _ _ _ y_1 () dX9_miles_166 ((hF.trans (by simp only [fX9_miles_26, ↓if_pos c_2, ↓(xlet_of hy_y_1)])).symm) hP hD hS
        refine lv_if_ne (tgt := 165) hx hb dX9_miles_158 (by decide) (fun c_3 => ?_) (fun c_3 => ?_)
        · have kc_3 := t_neq c_3
          refine lv_iload_n hx hb dX9_miles_165 rfl (lv_at hl 3 rfl) ?_
          exact K_y_1 _ (by simp only [↓if_neg c_3]) _ _ hP hD hS
        · have kc_3 := t_eq c_3
          refine lv_iload_n hx hb dX9_miles_161 rfl (lv_at hl 2 rfl) ?_
          refine lv_goto (tgt := 166) hx hb dX9_miles_162 (by decide) ?_
          exact K_y_1 _ (by simp only [↓if_pos c_3]) _ _ hP hD hS
      · have kc_2 := t_nle c_2
        refine lv_iconst (v := 1) hx hb dX9_miles_31 (by decide) ?_
        refine lv_istore (lv' := [(5, .int 1), (0, .ref o), (1, .int a1), (2, .int v26_2), (3, .int v26_3), (4, .int v26_4)]) hx hb dX9_miles_32 hl (by decide) rfl (fun ls hl => ?_)
        refine lv_iconst (v := 0) hx hb dX9_miles_34 (by decide) ?_
        refine lv_istore (lv' := [(6, .int 0), (5, .int 1), (0, .ref o), (1, .int a1), (2, .int v26_2), (3, .int v26_3), (4, .int v26_4)]) hx hb dX9_miles_35 hl (by decide) rfl (fun ls hl => ?_)
        exact L_37 (fun v26_2 v26_3 v26_4 => fX9_miles_26 a1 o_many o_sights_f o_road_f n_26 v26_2 v26_3 v26_4) (fun _ _ _ => rfl) 1000 1 0 (by first | with_reducible assumption | with_reducible omega | decide | (split <;> rename_i hh <;> first | (have h9 := t_nlt hh; with_reducible omega) | (have h9 := t_lt hh; with_reducible omega) | (have h9 := t_nle hh; with_reducible omega) | (have h9 := t_le hh; with_reducible omega))) (by first | with_reducible assumption | with_reducible omega | decide | (split <;> rename_i hh <;> first | (have h9 := t_nlt hh; with_reducible omega) | (have h9 := t_lt hh; with_reducible omega) | (have h9 := t_nle hh; with_reducible omega) | (have h9 := t_le hh; with_reducible omega))) (by first | with_reducible assumption | with_reducible omega | decide | (split <;> rename_i hh <;> first | (have h9 := t_nlt hh; with_reducible omega) | (have h9 := t_lt hh; with_reducible omega) | (have h9 := t_nle hh; with_reducible omega) | (have h9 := t_le hh; with_reducible omega))) (by first | with_reducible assumption | with_reducible omega | decide | (split <;> rename_i hh <;> first | (have h9 := t_nlt hh; with_reducible omega) | (have h9 := t_lt hh; with_reducible omega) | (have h9 := t_nle hh; with_reducible omega) | (have h9 := t_le hh; with_reducible omega))) (by first | with_reducible assumption | with_reducible omega | decide | (split <;> rename_i hh <;> first | (have h9 := t_nlt hh; with_reducible omega) | (have h9 := t_lt hh; with_reducible omega) | (have h9 := t_nle hh; with_reducible omega) | (have h9 := t_le hh; with_reducible omega))) _ _ _ (lv_sub hl [2, 3, 4, 5, 6, 1, 0] rfl) hP hD hS (hF.trans (by simp only [fX9_miles_26, ↓if_neg c_2]))
  refine lv_aload_n hx hb dX9_miles_0 rfl (lv_at hl 0 rfl) ?_
  refine lv_iconst (v := 0) hx hb dX9_miles_1 (by decide) ?_
  refine xput hx hb hts hown hK 9 (C2 := RX9) (T := TX9) (N := 23) tyX9 rfl tyX9_ok nmX9 hin_9 hP hD hS 0 rfl 11 (by decide) fl_48 rfl rfl rfl rfl rfl (Nat.le_of_ble_eq_true rfl) dX9_miles_2 [(o, .inr (9, [.ref o_road, .ref o_told, .ref o_fresh, .ref o_was, .int o_acts, .ref o_kept, .ref o_isKept, .ref o_sights, .int o_many, .ref o_text, .int o_letters, .int 0, .int o_cursor, .int o_token, .int o_start, .long o_value, .int o_isFault, .int o_faultAt, .int o_above, .int o_below, .ref o_topOf, .ref o_partsOf, .ref o_sent])), (o_sights, .inl (cI, 18, .inl o_sights_f)), (o_road, .inl (cI, 36, .inl o_road_f))] rfl (fun H locs hP hD hS => ?_)
  refine lv_iload_n hx hb dX9_miles_5 rfl (lv_at hl 1 rfl) ?_
  refine lv_i2l (v := a1.toInt64) hx hb dX9_miles_6 rfl ?_
  refine lv_lconst (v := 0) hx hb dX9_miles_7 (by decide) ?_
  refine lv_lconst (v := 1) hx hb dX9_miles_8 (by decide) ?_
  refine xcalli (S := Unit) (Wc := []) (wr := [(o, .inr (9, [.ref o_road, .ref o_told, .ref o_fresh, .ref o_was, .int o_acts, .ref o_kept, .ref o_isKept, .ref o_sights, .int o_many, .ref o_text, .int o_letters, .int 0, .int o_cursor, .int o_token, .int o_start, .long o_value, .int o_isFault, .int o_faultAt, .int o_above, .int o_below, .ref o_topOf, .ref o_partsOf, .ref o_sent])), (o_sights, .inl (cI, 18, .inl o_sights_f)), (o_road, .inl (cI, 36, .inl o_road_f))]) (W1 := (fun (u : Unit) => [])) (Wn := (fun (u : Unit) => [(o, .inr (9, [.ref o_road, .ref o_told, .ref o_fresh, .ref o_was, .int o_acts, .ref o_kept, .ref o_isKept, .ref o_sights, .int o_many, .ref o_text, .int o_letters, .int 0, .int o_cursor, .int o_token, .int o_start, .long o_value, .int o_isFault, .int o_faultAt, .int o_above, .int o_below, .ref o_topOf, .ref o_partsOf, .ref o_sent])), (o_sights, .inl (cI, 18, .inl o_sights_f)), (o_road, .inl (cI, 36, .inl o_road_f))])) (xrunS hx hb hml hown hts (c_X9_in l D cI cZ _ a1.toInt64 0 1 ) (va_cwS 3 hts gX9_miles_X9_in rfl rfl rfl (by decide +kernel) ⟨Nat.le_of_ble_eq_true rfl, Nat.le_of_ble_eq_true rfl⟩) hE hK hP hD [] rfl rfl rfl hl.1 rfl (Nat.le_of_ble_eq_true rfl) dX9_miles_9 ⟨Nat.le_of_ble_eq_true rfl, Nat.le_of_ble_eq_true rfl⟩) hP hD hS hA [] [0, 1, 2] [0, 1, 2] rfl rfl rfl (by decide) (fun _ => rfl) rfl (fun r1 u H locs hw hz hP hD hS => ?_)
  subst hw
  refine lv_if_ne (tgt := 18) hx hb dX9_miles_12 (by decide) (fun c_1 => ?_) (fun c_1 => ?_)
  · have kb_c_1 : 0 ≤ a1.toInt ∧ a1.toInt ≤ 1 := in_b c_1 (by decide) (by decide)
    refine lv_iconst (v := 0) hx hb dX9_miles_18 (by decide) ?_
    refine lv_istore_n (lv' := [(2, .int 0), (0, .ref o), (1, .int a1)]) hx hb dX9_miles_19 rfl hl (by decide) rfl (fun ls hl => ?_)
    refine lv_iconst (v := (-1)) hx hb dX9_miles_20 (by decide) ?_
    refine lv_istore_n (lv' := [(3, .int (-1)), (2, .int 0), (0, .ref o), (1, .int a1)]) hx hb dX9_miles_21 rfl hl (by decide) rfl (fun ls hl => ?_)
    refine lv_bipush (v := 40) hx hb dX9_miles_22 (by decide) ?_
    refine lv_istore (lv' := [(4, .int 40), (3, .int (-1)), (2, .int 0), (0, .ref o), (1, .int a1)]) hx hb dX9_miles_24 hl (by decide) rfl (fun ls hl => ?_)
    exact L_26 1000 0 (-1) 40 (by first | with_reducible assumption | with_reducible omega | decide | (split <;> rename_i hh <;> first | (have h9 := t_nlt hh; with_reducible omega) | (have h9 := t_lt hh; with_reducible omega) | (have h9 := t_nle hh; with_reducible omega) | (have h9 := t_le hh; with_reducible omega))) (by first | with_reducible assumption | with_reducible omega | decide | (split <;> rename_i hh <;> first | (have h9 := t_nlt hh; with_reducible omega) | (have h9 := t_lt hh; with_reducible omega) | (have h9 := t_nle hh; with_reducible omega) | (have h9 := t_le hh; with_reducible omega))) (by first | with_reducible assumption | with_reducible omega | decide | (split <;> rename_i hh <;> first | (have h9 := t_nlt hh; with_reducible omega) | (have h9 := t_lt hh; with_reducible omega) | (have h9 := t_nle hh; with_reducible omega) | (have h9 := t_le hh; with_reducible omega))) _ _ _ (lv_sub hl [3, 4, 2, 1, 0] rfl) hP hD hS (hF.trans (by simp only [fX9_miles, ↓if_neg c_1]))
  · refine lv_bipush (v := (-3)) hx hb dX9_miles_15 (by decide) ?_
    exact hret _ _ _ _ (-3) () dX9_miles_17 ((hF.trans (by simp only [fX9_miles, ↓if_pos c_1])).symm) hP hD hS
