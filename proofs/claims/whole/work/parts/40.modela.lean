set_option maxRecDepth 20000 in
theorem ggX9_seen_X9_isWalker : GoodIn wsX9_seen wsX9_isWalker := goodIn_r _ [10, 3, 11, 12, 9, 13, 14, 15, 16, 17, 18, 19, 20, 21, 22, 23, 24, 25, 26, 27, 28, 29, 30, 31, 32, 33, 34, 35, 36] (by decide +kernel) (by decide +kernel)
set_option maxRecDepth 20000 in
theorem gX9_seen_X9_isWalker : GoodIn wsX9_seen (wsV RX9 142 RX9 yX9_isWalker wsX9_isWalker) := goodIn_app (goodIn_of _ (by decide +kernel)) ggX9_seen_X9_isWalker
set_option maxRecDepth 20000 in
theorem ggX9_seen_X9_in : GoodIn wsX9_seen wsX9_in := goodIn_r _ [13] (by decide +kernel) (by decide +kernel)
set_option maxRecDepth 20000 in
theorem gX9_seen_X9_in : GoodIn wsX9_seen (va_wsS RX9 52 yX9_in wsX9_in) := goodIn_app (goodIn_of _ (by decide +kernel)) ggX9_seen_X9_in
theorem dX9_seen_0 : decode cX9_seen 0 = .ok (.aload_n 0, 1) := by decide +kernel
theorem dX9_seen_1 : decode cX9_seen 1 = .ok (.iconst 0, 1) := by decide +kernel
theorem dX9_seen_2 : decode cX9_seen 2 = .ok (.putfield 48, 3) := by decide +kernel
theorem dX9_seen_5 : decode cX9_seen 5 = .ok (.aload_n 0, 1) := by decide +kernel
theorem dX9_seen_6 : decode cX9_seen 6 = .ok (.iload_n 1, 1) := by decide +kernel
theorem dX9_seen_7 : decode cX9_seen 7 = .ok (.invokevirtual 142, 3) := by decide +kernel
theorem dX9_seen_10 : decode cX9_seen 10 = .ok (.ifCond .ne 6, 3) := by decide +kernel
theorem dX9_seen_13 : decode cX9_seen 13 = .ok (.bipush (-2), 2) := by decide +kernel
theorem dX9_seen_15 : decode cX9_seen 15 = .ok (.ireturn, 1) := by decide +kernel
theorem dX9_seen_16 : decode cX9_seen 16 = .ok (.iload_n 2, 1) := by decide +kernel
theorem dX9_seen_17 : decode cX9_seen 17 = .ok (.i2l, 1) := by decide +kernel
theorem dX9_seen_18 : decode cX9_seen 18 = .ok (.lconst 1, 1) := by decide +kernel
theorem dX9_seen_19 : decode cX9_seen 19 = .ok (.ldc2_w 164, 3) := by decide +kernel
theorem dX9_seen_22 : decode cX9_seen 22 = .ok (.invokestatic 52, 3) := by decide +kernel
theorem dX9_seen_25 : decode cX9_seen 25 = .ok (.ifCond .eq 19, 3) := by decide +kernel
theorem dX9_seen_28 : decode cX9_seen 28 = .ok (.iload_n 3, 1) := by decide +kernel
theorem dX9_seen_29 : decode cX9_seen 29 = .ok (.i2l, 1) := by decide +kernel
theorem dX9_seen_30 : decode cX9_seen 30 = .ok (.lconst 0, 1) := by decide +kernel
theorem dX9_seen_31 : decode cX9_seen 31 = .ok (.aload_n 0, 1) := by decide +kernel
theorem dX9_seen_32 : decode cX9_seen 32 = .ok (.getfield 7, 3) := by decide +kernel
theorem dX9_seen_35 : decode cX9_seen 35 = .ok (.iconst 0, 1) := by decide +kernel
theorem dX9_seen_36 : decode cX9_seen 36 = .ok (.iaload, 1) := by decide +kernel
theorem dX9_seen_37 : decode cX9_seen 37 = .ok (.i2l, 1) := by decide +kernel
theorem dX9_seen_38 : decode cX9_seen 38 = .ok (.invokestatic 52, 3) := by decide +kernel
theorem dX9_seen_41 : decode cX9_seen 41 = .ok (.ifCond .ne 6, 3) := by decide +kernel
theorem dX9_seen_44 : decode cX9_seen 44 = .ok (.bipush (-3), 2) := by decide +kernel
theorem dX9_seen_46 : decode cX9_seen 46 = .ok (.ireturn, 1) := by decide +kernel
theorem dX9_seen_47 : decode cX9_seen 47 = .ok (.aload_n 0, 1) := by decide +kernel
theorem dX9_seen_48 : decode cX9_seen 48 = .ok (.getfield 128, 3) := by decide +kernel
theorem dX9_seen_51 : decode cX9_seen 51 = .ok (.bipush 6, 2) := by decide +kernel
theorem dX9_seen_53 : decode cX9_seen 53 = .ok (.if_icmp .ne 6, 3) := by decide +kernel
theorem dX9_seen_56 : decode cX9_seen 56 = .ok (.bipush (-5), 2) := by decide +kernel
theorem dX9_seen_58 : decode cX9_seen 58 = .ok (.ireturn, 1) := by decide +kernel
theorem dX9_seen_59 : decode cX9_seen 59 = .ok (.aload_n 0, 1) := by decide +kernel
theorem dX9_seen_60 : decode cX9_seen 60 = .ok (.getfield 29, 3) := by decide +kernel
theorem dX9_seen_63 : decode cX9_seen 63 = .ok (.iconst 3, 1) := by decide +kernel
theorem dX9_seen_64 : decode cX9_seen 64 = .ok (.aload_n 0, 1) := by decide +kernel
theorem dX9_seen_65 : decode cX9_seen 65 = .ok (.getfield 128, 3) := by decide +kernel
theorem dX9_seen_68 : decode cX9_seen 68 = .ok (.imul, 1) := by decide +kernel
theorem dX9_seen_69 : decode cX9_seen 69 = .ok (.iload_n 1, 1) := by decide +kernel
theorem dX9_seen_70 : decode cX9_seen 70 = .ok (.iastore, 1) := by decide +kernel
theorem dX9_seen_71 : decode cX9_seen 71 = .ok (.aload_n 0, 1) := by decide +kernel
theorem dX9_seen_72 : decode cX9_seen 72 = .ok (.getfield 29, 3) := by decide +kernel
theorem dX9_seen_75 : decode cX9_seen 75 = .ok (.iconst 3, 1) := by decide +kernel
theorem dX9_seen_76 : decode cX9_seen 76 = .ok (.aload_n 0, 1) := by decide +kernel
theorem dX9_seen_77 : decode cX9_seen 77 = .ok (.getfield 128, 3) := by decide +kernel
theorem dX9_seen_80 : decode cX9_seen 80 = .ok (.imul, 1) := by decide +kernel
theorem dX9_seen_81 : decode cX9_seen 81 = .ok (.iconst 1, 1) := by decide +kernel
theorem dX9_seen_82 : decode cX9_seen 82 = .ok (.iadd, 1) := by decide +kernel
theorem dX9_seen_83 : decode cX9_seen 83 = .ok (.iload_n 2, 1) := by decide +kernel
theorem dX9_seen_84 : decode cX9_seen 84 = .ok (.iastore, 1) := by decide +kernel
theorem dX9_seen_85 : decode cX9_seen 85 = .ok (.aload_n 0, 1) := by decide +kernel
theorem dX9_seen_86 : decode cX9_seen 86 = .ok (.getfield 29, 3) := by decide +kernel
theorem dX9_seen_89 : decode cX9_seen 89 = .ok (.iconst 3, 1) := by decide +kernel
theorem dX9_seen_90 : decode cX9_seen 90 = .ok (.aload_n 0, 1) := by decide +kernel
theorem dX9_seen_91 : decode cX9_seen 91 = .ok (.getfield 128, 3) := by decide +kernel
theorem dX9_seen_94 : decode cX9_seen 94 = .ok (.imul, 1) := by decide +kernel
theorem dX9_seen_95 : decode cX9_seen 95 = .ok (.iconst 2, 1) := by decide +kernel
theorem dX9_seen_96 : decode cX9_seen 96 = .ok (.iadd, 1) := by decide +kernel
theorem dX9_seen_97 : decode cX9_seen 97 = .ok (.iload_n 3, 1) := by decide +kernel
theorem dX9_seen_98 : decode cX9_seen 98 = .ok (.iastore, 1) := by decide +kernel
theorem dX9_seen_99 : decode cX9_seen 99 = .ok (.aload_n 0, 1) := by decide +kernel
theorem dX9_seen_100 : decode cX9_seen 100 = .ok (.dup, 1) := by decide +kernel
theorem dX9_seen_101 : decode cX9_seen 101 = .ok (.getfield 128, 3) := by decide +kernel
theorem dX9_seen_104 : decode cX9_seen 104 = .ok (.iconst 1, 1) := by decide +kernel
theorem dX9_seen_105 : decode cX9_seen 105 = .ok (.iadd, 1) := by decide +kernel
theorem dX9_seen_106 : decode cX9_seen 106 = .ok (.putfield 128, 3) := by decide +kernel
theorem dX9_seen_109 : decode cX9_seen 109 = .ok (.aload_n 0, 1) := by decide +kernel
theorem dX9_seen_110 : decode cX9_seen 110 = .ok (.getfield 128, 3) := by decide +kernel
theorem dX9_seen_113 : decode cX9_seen 113 = .ok (.ireturn, 1) := by decide +kernel
def fX9_seen (a1 : Int32) (a2 : Int32) (a3 : Int32) (o_many : Int32) (o_road_f : Nat → Int32) (o_sights_f : Nat → Int32) : Int32 × Int32 × (Nat → Int32) := if (fX9_isWalker a1 o_road_f) = 0 then (((-2), o_many, o_sights_f)) else (if (fX9_in a2.toInt64 1 8) = 0 then (((-3), o_many, o_sights_f)) else (if (fX9_in a3.toInt64 0 ((o_road_f 0).toInt64)) = 0 then (((-3), o_many, o_sights_f)) else (if o_many = 6 then (((-5), o_many, o_sights_f)) else (((o_many + 1), (o_many + 1), (upd (upd (upd o_sights_f (3 * o_many).toNatClampNeg a1) ((3 * o_many) + 1).toNatClampNeg a2) ((3 * o_many) + 2).toNatClampNeg a3))))))
set_option maxHeartbeats 4000000 in
set_option maxRecDepth 100000 in
theorem c_X9_seen (l : Launch) (D : va_G) (cI cZ : ClassId) (sz : Nat) (o : Nat) (a1 : Int32) (a2 : Int32) (a3 : Int32) (o_road : Nat) (o_told : Nat) (o_fresh : Nat) (o_was : Nat) (o_acts : Int32) (o_kept : Nat) (o_isKept : Nat) (o_sights : Nat) (o_many : Int32) (o_text : Nat) (o_letters : Int32) (o_thrown : Int32) (o_cursor : Int32) (o_token : Int32) (o_start : Int32) (o_value : Int64) (o_isFault : Int32) (o_faultAt : Int32) (o_above : Int32) (o_below : Int32) (o_topOf : Nat) (o_partsOf : Nat) (o_sent : Nat) (o_road_f : Nat → Int32) (o_sights_f : Nat → Int32) (hn0 : 4 ≤ (o_road_f 0).toInt) (hn1 : (o_road_f 0).toInt ≤ 20) (hv0 : 0 ≤ (o_road_f 2).toInt) (hv6 : (o_road_f 2).toInt ≤ 6) (hm0 : 0 ≤ o_many.toInt) (hm6 : o_many.toInt ≤ 6) : Met l yX9_seen wsX9_seen ({ frames := 2, cells := 0, slots := 0, locals := 46 } : Room) (va_Pc [.ref o, .int a1, .int a2, .int a3] (xP D cI cZ [(o, .inr (9, [.ref o_road, .ref o_told, .ref o_fresh, .ref o_was, .int o_acts, .ref o_kept, .ref o_isKept, .ref o_sights, .int o_many, .ref o_text, .int o_letters, .int o_thrown, .int o_cursor, .int o_token, .int o_start, .long o_value, .int o_isFault, .int o_faultAt, .int o_above, .int o_below, .ref o_topOf, .ref o_partsOf, .ref o_sent])), (o_road, .inl (cI, 36, .inl o_road_f)), (o_sights, .inl (cI, 18, .inl o_sights_f))] sz)) (va_Qi (fun (r : Int32) (u : Int32 × (Nat → Int32)) => (r, u) = fX9_seen a1 a2 a3 o_many o_road_f o_sights_f) (fun (u : Int32 × (Nat → Int32)) t => xB D cI cZ [(o, .inr (9, [.ref o_road, .ref o_told, .ref o_fresh, .ref o_was, .int o_acts, .ref o_kept, .ref o_isKept, .ref o_sights, .int u.1, .ref o_text, .int o_letters, .int 0, .int o_cursor, .int o_token, .int o_start, .long o_value, .int o_isFault, .int o_faultAt, .int o_above, .int o_below, .ref o_topOf, .ref o_partsOf, .ref o_sent])), (o_road, .inl (cI, 36, .inl o_road_f)), (o_sights, .inl (cI, 18, .inl u.2))] (va_A [(o, .inr (9, [.ref o_road, .ref o_told, .ref o_fresh, .ref o_was, .int o_acts, .ref o_kept, .ref o_isKept, .ref o_sights, .int o_many, .ref o_text, .int o_letters, .int o_thrown, .int o_cursor, .int o_token, .int o_start, .long o_value, .int o_isFault, .int o_faultAt, .int o_above, .int o_below, .ref o_topOf, .ref o_partsOf, .ref o_sent])), (o_road, .inl (cI, 36, .inl o_road_f)), (o_sights, .inl (cI, 18, .inl o_sights_f))] sz) t) (va_A [(o, .inr (9, [.ref o_road, .ref o_told, .ref o_fresh, .ref o_was, .int o_acts, .ref o_kept, .ref o_isKept, .ref o_sights, .int o_many, .ref o_text, .int o_letters, .int o_thrown, .int o_cursor, .int o_token, .int o_start, .long o_value, .int o_isFault, .int o_faultAt, .int o_above, .int o_below, .ref o_topOf, .ref o_partsOf, .ref o_sent])), (o_road, .inl (cI, 36, .inl o_road_f)), (o_sights, .inl (cI, 18, .inl o_sights_f))] sz)) 0 0 (va_A [(o, .inr (9, [.ref o_road, .ref o_told, .ref o_fresh, .ref o_was, .int o_acts, .ref o_kept, .ref o_isKept, .ref o_sights, .int o_many, .ref o_text, .int o_letters, .int o_thrown, .int o_cursor, .int o_token, .int o_start, .long o_value, .int o_isFault, .int o_faultAt, .int o_above, .int o_below, .ref o_topOf, .ref o_partsOf, .ref o_sent])), (o_road, .inl (cI, 36, .inl o_road_f)), (o_sights, .inl (cI, 18, .inl o_sights_f))] sz) := by
  refine Met.ofW (cc := cX9_seen) (maxL := 4) (ret := (some .int)) (by decide) rfl ?_
  intro p e s m args below meth c s₁ B hml hv
  obtain ⟨hargs, hsz, hP, hK, hD0, hE⟩ := hv
  subst hargs
  have hx := B.exec
  have hb := B.bytes
  have hr := B.returns
  have hts := atoms_spec (ws := wsX9_seen) B.pre
  have hown : s.vm.findClass RX9 = some m.cls := findClass_of_methodNamed B.named
  have hlocks := B.notSynchronized
  subst hsz
  have hD := hD0.self (sz := s.heap.size)
  generalize hAe : va_A [(o, .inr (9, [.ref o_road, .ref o_told, .ref o_fresh, .ref o_was, .int o_acts, .ref o_kept, .ref o_isKept, .ref o_sights, .int o_many, .ref o_text, .int o_letters, .int o_thrown, .int o_cursor, .int o_token, .int o_start, .long o_value, .int o_isFault, .int o_faultAt, .int o_above, .int o_below, .ref o_topOf, .ref o_partsOf, .ref o_sent])), (o_road, .inl (cI, 36, .inl o_road_f)), (o_sights, .inl (cI, 18, .inl o_sights_f))] s.heap.size = A at hD ⊢
  have hA : ∀ q : Nat, s.heap.size ≤ q → A q := fun q h => by rw [← hAe]; exact Or.inr h
  have hS : va_S A s.heap s.heap [] := va_S.rf
  have hl := lv_entry ([.ref o, .int a1, .int a2, .int a3]) (n := 4) (Nat.le_of_ble_eq_true rfl)
  rw [lg_entry_eq]
  generalize (lg_sl ([.ref o, .int a1, .int a2, .int a3]) ++ List.replicate (4 - (lg_sl ([.ref o, .int a1, .int a2, .int a3])).length) Slot.unset).toArray = ls at hl ⊢
  have hl : lv_has ls 4 [(0, .ref o), (1, .int a1), (2, .int a2), (3, .int a3)] := hl
  refine wq (X := fun Q => ∀ (pc : Nat) (H : Heap) (locs : List Loc) (ls : Array Slot) (r : Int32) (u : Int32 × (Nat → Int32)) (hd : decode cX9_seen pc = .ok (.ireturn, 1)) (hp : (r, u) = fX9_seen a1 a2 a3 o_many o_road_f o_sights_f) (hP : va_P D vwCl [(o, .inr (9, [.ref o_road, .ref o_told, .ref o_fresh, .ref o_was, .int o_acts, .ref o_kept, .ref o_isKept, .ref o_sights, .int u.1, .ref o_text, .int o_letters, .int 0, .int o_cursor, .int o_token, .int o_start, .long o_value, .int o_isFault, .int o_faultAt, .int o_above, .int o_below, .ref o_topOf, .ref o_partsOf, .ref o_sent])), (o_road, .inl (cI, 36, .inl o_road_f)), (o_sights, .inl (cI, 18, .inl u.2))] H) (hD : va_D A [(o, .inr (9, [.ref o_road, .ref o_told, .ref o_fresh, .ref o_was, .int o_acts, .ref o_kept, .ref o_isKept, .ref o_sights, .int u.1, .ref o_text, .int o_letters, .int 0, .int o_cursor, .int o_token, .int o_start, .long o_value, .int o_isFault, .int o_faultAt, .int o_above, .int o_below, .ref o_topOf, .ref o_partsOf, .ref o_sent])), (o_road, .inl (cI, 36, .inl o_road_f)), (o_sights, .inl (cI, 18, .inl u.2))]) (hS : va_S A s.heap H locs), W p l e ({ frames := 2, cells := 0, slots := 0, locals := 46 } : Room) s m ([.ref o, .int a1, .int a2, .int a3] : List Value).toArray below meth c H locs 0 0 Q (F0 m pc ls [.int r])) ?_ (fun Q hret => ?_)
  · intro pc H locs ls r u hd hp hP hD hS
    exact W.iret (v := r) hx hb hr (fun t ht hW => ⟨⟨r, u, rfl, hp, by rw [ht]; exact hP, va_K.moved hW.alike hK, hD⟩, hS.F ht⟩) hS.2.2 hd
  have hin_9 : ∀ w ∈ u_ws RX9 TX9 23, w ∈ wsX9_seen := by decide +kernel
  have fl_7 := hts (.fieldLink RX9 7 "MileRoadModel" "road" "[I") (by decide +kernel)
  have fl_29 := hts (.fieldLink RX9 29 "MileRoadModel" "sights" "[I") (by decide +kernel)
  have fl_48 := hts (.fieldLink RX9 48 "MileRoadModel" "thrown" "I") (by decide +kernel)
  have fl_128 := hts (.fieldLink RX9 128 "MileRoadModel" "many" "I") (by decide +kernel)
  have zl_0 : (0 : Int32).toInt = 0 := by decide
  have zl_1 : (1 : Int32).toInt = 1 := by decide
  have zl_2 : (2 : Int32).toInt = 2 := by decide
  have zl_3 : (3 : Int32).toInt = 3 := by decide
  have zl_6 : (6 : Int32).toInt = 6 := by decide
  have hF : fX9_seen a1 a2 a3 o_many o_road_f o_sights_f = fX9_seen a1 a2 a3 o_many o_road_f o_sights_f := rfl
  refine lv_aload_n hx hb dX9_seen_0 rfl (lv_at hl 0 rfl) ?_
  refine lv_iconst (v := 0) hx hb dX9_seen_1 (by decide) ?_
  refine xput hx hb hts hown hK 9 (C2 := RX9) (T := TX9) (N := 23) tyX9 rfl tyX9_ok nmX9 hin_9 hP hD hS 0 rfl 11 (by decide) fl_48 rfl rfl rfl rfl rfl (Nat.le_of_ble_eq_true rfl) dX9_seen_2 [(o, .inr (9, [.ref o_road, .ref o_told, .ref o_fresh, .ref o_was, .int o_acts, .ref o_kept, .ref o_isKept, .ref o_sights, .int o_many, .ref o_text, .int o_letters, .int 0, .int o_cursor, .int o_token, .int o_start, .long o_value, .int o_isFault, .int o_faultAt, .int o_above, .int o_below, .ref o_topOf, .ref o_partsOf, .ref o_sent])), (o_road, .inl (cI, 36, .inl o_road_f)), (o_sights, .inl (cI, 18, .inl o_sights_f))] rfl (fun H locs hP hD hS => ?_)
  refine lv_aload_n hx hb dX9_seen_5 rfl (lv_at hl 0 rfl) ?_
  refine lv_iload_n hx hb dX9_seen_6 rfl (lv_at hl 1 rfl) ?_
  refine xcalli (S := Unit) (Wc := [(o, .inr (9, [.ref o_road, .ref o_told, .ref o_fresh, .ref o_was, .int o_acts, .ref o_kept, .ref o_isKept, .ref o_sights, .int o_many, .ref o_text, .int o_letters, .int 0, .int o_cursor, .int o_token, .int o_start, .long o_value, .int o_isFault, .int o_faultAt, .int o_above, .int o_below, .ref o_topOf, .ref o_partsOf, .ref o_sent])), (o_road, .inl (cI, 36, .inl o_road_f))]) (wr := [(o_sights, .inl (cI, 18, .inl o_sights_f))]) (W1 := (fun (u : Unit) => [(o, .inr (9, [.ref o_road, .ref o_told, .ref o_fresh, .ref o_was, .int o_acts, .ref o_kept, .ref o_isKept, .ref o_sights, .int o_many, .ref o_text, .int o_letters, .int 0, .int o_cursor, .int o_token, .int o_start, .long o_value, .int o_isFault, .int o_faultAt, .int o_above, .int o_below, .ref o_topOf, .ref o_partsOf, .ref o_sent])), (o_road, .inl (cI, 36, .inl o_road_f))])) (Wn := (fun (u : Unit) => [(o, .inr (9, [.ref o_road, .ref o_told, .ref o_fresh, .ref o_was, .int o_acts, .ref o_kept, .ref o_isKept, .ref o_sights, .int o_many, .ref o_text, .int o_letters, .int 0, .int o_cursor, .int o_token, .int o_start, .long o_value, .int o_isFault, .int o_faultAt, .int o_above, .int o_below, .ref o_topOf, .ref o_partsOf, .ref o_sent])), (o_road, .inl (cI, 36, .inl o_road_f)), (o_sights, .inl (cI, 18, .inl o_sights_f))])) (xrunV hx hb hml hown hts (c_X9_isWalker l D cI cZ _ o a1 o_road o_told o_fresh o_was o_acts o_kept o_isKept o_sights o_many o_text o_letters 0 o_cursor o_token o_start o_value o_isFault o_faultAt o_above o_below o_topOf o_partsOf o_sent o_road_f ) (cwV 1 hts gX9_seen_X9_isWalker rfl rfl rfl (by decide +kernel) ⟨Nat.le_of_ble_eq_true rfl, Nat.le_of_ble_eq_true rfl⟩) hE hK hP hD [0, 1] rfl rfl 0 9 (T := TX9) (N := 23) rfl rfl rfl hl.1 rfl (Nat.le_of_ble_eq_true rfl) dX9_seen_7 ⟨Nat.le_of_ble_eq_true rfl, Nat.le_of_ble_eq_true rfl⟩) hP hD hS hA [0, 1] [2] [1, 2, 0] rfl rfl rfl (by decide) (fun _ => rfl) rfl (fun r1 u H locs hw hz hP hD hS => ?_)
  subst hw
  refine lv_if_ne (tgt := 16) hx hb dX9_seen_10 (by decide) (fun c_1 => ?_) (fun c_1 => ?_)
  · have kb_c_1 : 0 ≤ a1.toInt ∧ a1.toInt < (o_road_f 2).toInt := isWalker_b c_1 (by with_reducible omega) (by with_reducible omega)
    refine lv_iload_n hx hb dX9_seen_16 rfl (lv_at hl 2 rfl) ?_
    refine lv_i2l (v := a2.toInt64) hx hb dX9_seen_17 rfl ?_
    refine lv_lconst (v := 1) hx hb dX9_seen_18 (by decide) ?_
    refine lv_ldc2 (v := 8) hx hb hown (hts (.constantLong RX9 164 8) (by decide +kernel)) dX9_seen_19 ?_
    refine xcalli (S := Unit) (Wc := []) (wr := [(o, .inr (9, [.ref o_road, .ref o_told, .ref o_fresh, .ref o_was, .int o_acts, .ref o_kept, .ref o_isKept, .ref o_sights, .int o_many, .ref o_text, .int o_letters, .int 0, .int o_cursor, .int o_token, .int o_start, .long o_value, .int o_isFault, .int o_faultAt, .int o_above, .int o_below, .ref o_topOf, .ref o_partsOf, .ref o_sent])), (o_road, .inl (cI, 36, .inl o_road_f)), (o_sights, .inl (cI, 18, .inl o_sights_f))]) (W1 := (fun (u : Unit) => [])) (Wn := (fun (u : Unit) => [(o, .inr (9, [.ref o_road, .ref o_told, .ref o_fresh, .ref o_was, .int o_acts, .ref o_kept, .ref o_isKept, .ref o_sights, .int o_many, .ref o_text, .int o_letters, .int 0, .int o_cursor, .int o_token, .int o_start, .long o_value, .int o_isFault, .int o_faultAt, .int o_above, .int o_below, .ref o_topOf, .ref o_partsOf, .ref o_sent])), (o_road, .inl (cI, 36, .inl o_road_f)), (o_sights, .inl (cI, 18, .inl o_sights_f))])) (xrunS hx hb hml hown hts (c_X9_in l D cI cZ _ a2.toInt64 1 8 ) (va_cwS 3 hts gX9_seen_X9_in rfl rfl rfl (by decide +kernel) ⟨Nat.le_of_ble_eq_true rfl, Nat.le_of_ble_eq_true rfl⟩) hE hK hP hD [] rfl rfl rfl hl.1 rfl (Nat.le_of_ble_eq_true rfl) dX9_seen_22 ⟨Nat.le_of_ble_eq_true rfl, Nat.le_of_ble_eq_true rfl⟩) hP hD hS hA [] [0, 1, 2] [0, 1, 2] rfl rfl rfl (by decide) (fun _ => rfl) rfl (fun r2 u H locs hw hz hP hD hS => ?_)
    subst hw
    refine lv_if_eq (tgt := 44) hx hb dX9_seen_25 (by decide) (fun c_2 => ?_) (fun c_2 => ?_)
    · refine lv_bipush (v := (-3)) hx hb dX9_seen_44 (by decide) ?_
      exact hret _ _ _ _ (-3) (o_many, o_sights_f) dX9_seen_46 ((hF.trans (by simp only [fX9_seen, ↓if_neg c_1, ↓if_pos c_2])).symm) hP hD hS
    · have kb_c_2 : 1 ≤ a2.toInt ∧ a2.toInt ≤ 8 := in_b c_2 (by decide) (by decide)
      refine lv_iload_n hx hb dX9_seen_28 rfl (lv_at hl 3 rfl) ?_
      refine lv_i2l (v := a3.toInt64) hx hb dX9_seen_29 rfl ?_
      refine lv_lconst (v := 0) hx hb dX9_seen_30 (by decide) ?_
      refine lv_aload_n hx hb dX9_seen_31 rfl (lv_at hl 0 rfl) ?_
      refine xget hx hb hts hown hK 9 (C2 := RX9) (T := TX9) (N := 23) rfl hin_9 hP 0 rfl 0 (by decide) fl_7 rfl rfl rfl dX9_seen_32 ?_
      refine lv_iconst (v := 0) hx hb dX9_seen_35 (by decide) ?_
      refine xald hx hb hK hP 1 0 (k := 0) rfl rfl (vi (by decide) (by decide)) (by decide) dX9_seen_36 ?_
      refine lv_i2l (v := (o_road_f 0).toInt64) hx hb dX9_seen_37 rfl ?_
      refine xcalli (S := Unit) (Wc := []) (wr := [(o, .inr (9, [.ref o_road, .ref o_told, .ref o_fresh, .ref o_was, .int o_acts, .ref o_kept, .ref o_isKept, .ref o_sights, .int o_many, .ref o_text, .int o_letters, .int 0, .int o_cursor, .int o_token, .int o_start, .long o_value, .int o_isFault, .int o_faultAt, .int o_above, .int o_below, .ref o_topOf, .ref o_partsOf, .ref o_sent])), (o_road, .inl (cI, 36, .inl o_road_f)), (o_sights, .inl (cI, 18, .inl o_sights_f))]) (W1 := (fun (u : Unit) => [])) (Wn := (fun (u : Unit) => [(o, .inr (9, [.ref o_road, .ref o_told, .ref o_fresh, .ref o_was, .int o_acts, .ref o_kept, .ref o_isKept, .ref o_sights, .int o_many, .ref o_text, .int o_letters, .int 0, .int o_cursor, .int o_token, .int o_start, .long o_value, .int o_isFault, .int o_faultAt, .int o_above, .int o_below, .ref o_topOf, .ref o_partsOf, .ref o_sent])), (o_road, .inl (cI, 36, .inl o_road_f)), (o_sights, .inl (cI, 18, .inl o_sights_f))])) (xrunS hx hb hml hown hts (c_X9_in l D cI cZ _ a3.toInt64 0 ((o_road_f 0).toInt64) ) (va_cwS 3 hts gX9_seen_X9_in rfl rfl rfl (by decide +kernel) ⟨Nat.le_of_ble_eq_true rfl, Nat.le_of_ble_eq_true rfl⟩) hE hK hP hD [] rfl rfl rfl hl.1 rfl (Nat.le_of_ble_eq_true rfl) dX9_seen_38 ⟨Nat.le_of_ble_eq_true rfl, Nat.le_of_ble_eq_true rfl⟩) hP hD hS hA [] [0, 1, 2] [0, 1, 2] rfl rfl rfl (by decide) (fun _ => rfl) rfl (fun r3 u H locs hw hz hP hD hS => ?_)
      subst hw
      refine lv_if_ne (tgt := 47) hx hb dX9_seen_41 (by decide) (fun c_3 => ?_) (fun c_3 => ?_)
      · have kb_c_3 : 0 ≤ a3.toInt ∧ a3.toInt ≤ (o_road_f 0).toInt := in_b c_3 (by decide) (Int32.toInt_toInt64 _)
        refine lv_aload_n hx hb dX9_seen_47 rfl (lv_at hl 0 rfl) ?_
        refine xget hx hb hts hown hK 9 (C2 := RX9) (T := TX9) (N := 23) rfl hin_9 hP 0 rfl 8 (by decide) fl_128 rfl rfl rfl dX9_seen_48 ?_
        refine lv_bipush (v := 6) hx hb dX9_seen_51 (by decide) ?_
        refine lv_icmp_ne (tgt := 59) hx hb dX9_seen_53 (by decide) (fun c_4 => ?_) (fun c_4 => ?_)
        · have kc_4 := t_neq c_4
          refine lv_aload_n hx hb dX9_seen_59 rfl (lv_at hl 0 rfl) ?_
          refine xget hx hb hts hown hK 9 (C2 := RX9) (T := TX9) (N := 23) rfl hin_9 hP 0 rfl 7 (by decide) fl_29 rfl rfl rfl dX9_seen_60 ?_
          refine lv_iconst (v := 3) hx hb dX9_seen_63 (by decide) ?_
          refine lv_aload_n hx hb dX9_seen_64 rfl (lv_at hl 0 rfl) ?_
          refine xget hx hb hts hown hK 9 (C2 := RX9) (T := TX9) (N := 23) rfl hin_9 hP 0 rfl 8 (by decide) fl_128 rfl rfl rfl dX9_seen_65 ?_
          refine lv_imul hx hb dX9_seen_68 ?_
          refine lv_iload_n hx hb dX9_seen_69 rfl (lv_at hl 1 rfl) ?_
          have z_1 : (3 * o_many).toInt = 3 * o_many.toInt := z_mul 3 rfl (by with_reducible omega) (by with_reducible omega)
          refine xast hx hb hK hP hD hS 2 0 (k := (3 * o_many).toNatClampNeg) rfl rfl (vi (by with_reducible omega) (by with_reducible omega)) rfl dX9_seen_70 [(o, .inr (9, [.ref o_road, .ref o_told, .ref o_fresh, .ref o_was, .int o_acts, .ref o_kept, .ref o_isKept, .ref o_sights, .int o_many, .ref o_text, .int o_letters, .int 0, .int o_cursor, .int o_token, .int o_start, .long o_value, .int o_isFault, .int o_faultAt, .int o_above, .int o_below, .ref o_topOf, .ref o_partsOf, .ref o_sent])), (o_road, .inl (cI, 36, .inl o_road_f)), (o_sights, .inl (cI, 18, .inl (upd o_sights_f (3 * o_many).toNatClampNeg a1)))] rfl (fun H locs hP hD hS => ?_)
          refine lv_aload_n hx hb dX9_seen_71 rfl (lv_at hl 0 rfl) ?_
          refine xget hx hb hts hown hK 9 (C2 := RX9) (T := TX9) (N := 23) rfl hin_9 hP 0 rfl 7 (by decide) fl_29 rfl rfl rfl dX9_seen_72 ?_
          refine lv_iconst (v := 3) hx hb dX9_seen_75 (by decide) ?_
          refine lv_aload_n hx hb dX9_seen_76 rfl (lv_at hl 0 rfl) ?_
          refine xget hx hb hts hown hK 9 (C2 := RX9) (T := TX9) (N := 23) rfl hin_9 hP 0 rfl 8 (by decide) fl_128 rfl rfl rfl dX9_seen_77 ?_
          refine lv_imul hx hb dX9_seen_80 ?_
          refine lv_iconst (v := 1) hx hb dX9_seen_81 (by decide) ?_
          refine lv_iadd hx hb dX9_seen_82 ?_
          refine lv_iload_n hx hb dX9_seen_83 rfl (lv_at hl 2 rfl) ?_
          have z_2 : ((3 * o_many) + 1).toInt = (3 * o_many).toInt + (1 : Int32).toInt := z_add (by with_reducible omega) (by with_reducible omega)
          refine xast hx hb hK hP hD hS 2 0 (k := ((3 * o_many) + 1).toNatClampNeg) rfl rfl (vi (by with_reducible omega) (by with_reducible omega)) rfl dX9_seen_84 [(o, .inr (9, [.ref o_road, .ref o_told, .ref o_fresh, .ref o_was, .int o_acts, .ref o_kept, .ref o_isKept, .ref o_sights, .int o_many, .ref o_text, .int o_letters, .int 0, .int o_cursor, .int o_token, .int o_start, .long o_value, .int o_isFault, .int o_faultAt, .int o_above, .int o_below, .ref o_topOf, .ref o_partsOf, .ref o_sent])), (o_road, .inl (cI, 36, .inl o_road_f)), (o_sights, .inl (cI, 18, .inl (upd (upd o_sights_f (3 * o_many).toNatClampNeg a1) ((3 * o_many) + 1).toNatClampNeg a2)))] rfl (fun H locs hP hD hS => ?_)
          refine lv_aload_n hx hb dX9_seen_85 rfl (lv_at hl 0 rfl) ?_
          refine xget hx hb hts hown hK 9 (C2 := RX9) (T := TX9) (N := 23) rfl hin_9 hP 0 rfl 7 (by decide) fl_29 rfl rfl rfl dX9_seen_86 ?_
          refine lv_iconst (v := 3) hx hb dX9_seen_89 (by decide) ?_
          refine lv_aload_n hx hb dX9_seen_90 rfl (lv_at hl 0 rfl) ?_
          refine xget hx hb hts hown hK 9 (C2 := RX9) (T := TX9) (N := 23) rfl hin_9 hP 0 rfl 8 (by decide) fl_128 rfl rfl rfl dX9_seen_91 ?_
          refine lv_imul hx hb dX9_seen_94 ?_
          refine lv_iconst (v := 2) hx hb dX9_seen_95 (by decide) ?_
          refine lv_iadd hx hb dX9_seen_96 ?_
          refine lv_iload_n hx hb dX9_seen_97 rfl (lv_at hl 3 rfl) ?_
          have z_3 : ((3 * o_many) + 2).toInt = (3 * o_many).toInt + (2 : Int32).toInt := z_add (by with_reducible omega) (by with_reducible omega)
          refine xast hx hb hK hP hD hS 2 0 (k := ((3 * o_many) + 2).toNatClampNeg) rfl rfl (vi (by with_reducible omega) (by with_reducible omega)) rfl dX9_seen_98 [(o, .inr (9, [.ref o_road, .ref o_told, .ref o_fresh, .ref o_was, .int o_acts, .ref o_kept, .ref o_isKept, .ref o_sights, .int o_many, .ref o_text, .int o_letters, .int 0, .int o_cursor, .int o_token, .int o_start, .long o_value, .int o_isFault, .int o_faultAt, .int o_above, .int o_below, .ref o_topOf, .ref o_partsOf, .ref o_sent])), (o_road, .inl (cI, 36, .inl o_road_f)), (o_sights, .inl (cI, 18, .inl (upd (upd (upd o_sights_f (3 * o_many).toNatClampNeg a1) ((3 * o_many) + 1).toNatClampNeg a2) ((3 * o_many) + 2).toNatClampNeg a3)))] rfl (fun H locs hP hD hS => ?_)
          refine lv_aload_n hx hb dX9_seen_99 rfl (lv_at hl 0 rfl) ?_
          refine lv_dup hx hb dX9_seen_100 rfl ?_
          refine xget hx hb hts hown hK 9 (C2 := RX9) (T := TX9) (N := 23) rfl hin_9 hP 0 rfl 8 (by decide) fl_128 rfl rfl rfl dX9_seen_101 ?_
          refine lv_iconst (v := 1) hx hb dX9_seen_104 (by decide) ?_
          refine lv_iadd hx hb dX9_seen_105 ?_
          refine xput hx hb hts hown hK 9 (C2 := RX9) (T := TX9) (N := 23) tyX9 rfl tyX9_ok nmX9 hin_9 hP hD hS 0 rfl 8 (by decide) fl_128 rfl rfl rfl rfl rfl (Nat.le_of_ble_eq_true rfl) dX9_seen_106 [(o, .inr (9, [.ref o_road, .ref o_told, .ref o_fresh, .ref o_was, .int o_acts, .ref o_kept, .ref o_isKept, .ref o_sights, .int (o_many + 1), .ref o_text, .int o_letters, .int 0, .int o_cursor, .int o_token, .int o_start, .long o_value, .int o_isFault, .int o_faultAt, .int o_above, .int o_below, .ref o_topOf, .ref o_partsOf, .ref o_sent])), (o_road, .inl (cI, 36, .inl o_road_f)), (o_sights, .inl (cI, 18, .inl (upd (upd (upd o_sights_f (3 * o_many).toNatClampNeg a1) ((3 * o_many) + 1).toNatClampNeg a2) ((3 * o_many) + 2).toNatClampNeg a3)))] rfl (fun H locs hP hD hS => ?_)
          refine lv_aload_n hx hb dX9_seen_109 rfl (lv_at hl 0 rfl) ?_
          refine xget hx hb hts hown hK 9 (C2 := RX9) (T := TX9) (N := 23) rfl hin_9 hP 0 rfl 8 (by decide) fl_128 rfl rfl rfl dX9_seen_110 ?_
          exact hret _ _ _ _ (o_many + 1) ((o_many + 1), (upd (upd (upd o_sights_f (3 * o_many).toNatClampNeg a1) ((3 * o_many) + 1).toNatClampNeg a2) ((3 * o_many) + 2).toNatClampNeg a3)) dX9_seen_113 ((hF.trans (by simp only [fX9_seen, ↓if_neg c_1, ↓if_neg c_2, ↓if_neg c_3, ↓if_neg c_4])).symm) hP hD hS
        · have kc_4 := t_eq c_4
          refine lv_bipush (v := (-5)) hx hb dX9_seen_56 (by decide) ?_
          exact hret _ _ _ _ (-5) (o_many, o_sights_f) dX9_seen_58 ((hF.trans (by simp only [fX9_seen, ↓if_neg c_1, ↓if_neg c_2, ↓if_neg c_3, ↓if_pos c_4])).symm) hP hD hS
      · refine lv_bipush (v := (-3)) hx hb dX9_seen_44 (by decide) ?_
        exact hret _ _ _ _ (-3) (o_many, o_sights_f) dX9_seen_46 ((hF.trans (by simp only [fX9_seen, ↓if_neg c_1, ↓if_neg c_2, ↓if_pos c_3])).symm) hP hD hS
  · refine lv_bipush (v := (-2)) hx hb dX9_seen_13 (by decide) ?_
    exact hret _ _ _ _ (-2) (o_many, o_sights_f) dX9_seen_15 ((hF.trans (by simp only [fX9_seen, ↓if_pos c_1])).symm) hP hD hS
set_option maxRecDepth 20000 in
theorem ggX9_crossed_X9_layMean : GoodIn wsX9_crossed wsX9_layMean := goodIn_r _ [9, 3, 4, 2, 10, 11, 12, 8, 13, 14, 15, 16, 17, 18, 19, 20, 21, 22, 23, 24, 25, 26, 27, 28, 29, 30, 31, 32, 33, 34, 35, 36, 37, 38, 39, 40, 41, 42, 43, 44] (by decide +kernel) (by decide +kernel)
set_option maxRecDepth 20000 in
theorem gX9_crossed_X9_layMean : GoodIn wsX9_crossed (wsV RX9 172 RX9 yX9_layMean wsX9_layMean) := goodIn_app (goodIn_of _ (by decide +kernel)) ggX9_crossed_X9_layMean
theorem dX9_crossed_0 : decode cX9_crossed 0 = .ok (.aload_n 0, 1) := by decide +kernel
theorem dX9_crossed_1 : decode cX9_crossed 1 = .ok (.iconst 0, 1) := by decide +kernel
theorem dX9_crossed_2 : decode cX9_crossed 2 = .ok (.putfield 48, 3) := by decide +kernel
theorem dX9_crossed_5 : decode cX9_crossed 5 = .ok (.iconst 1, 1) := by decide +kernel
theorem dX9_crossed_6 : decode cX9_crossed 6 = .ok (.istore_n 1, 1) := by decide +kernel
theorem dX9_crossed_7 : decode cX9_crossed 7 = .ok (.iload_n 1, 1) := by decide +kernel
theorem dX9_crossed_8 : decode cX9_crossed 8 = .ok (.bipush 8, 2) := by decide +kernel
theorem dX9_crossed_10 : decode cX9_crossed 10 = .ok (.if_icmp .ge 70, 3) := by decide +kernel
theorem dX9_crossed_13 : decode cX9_crossed 13 = .ok (.aload_n 0, 1) := by decide +kernel
theorem dX9_crossed_14 : decode cX9_crossed 14 = .ok (.aload_n 0, 1) := by decide +kernel
theorem dX9_crossed_15 : decode cX9_crossed 15 = .ok (.getfield 7, 3) := by decide +kernel
theorem dX9_crossed_18 : decode cX9_crossed 18 = .ok (.iconst 3, 1) := by decide +kernel
theorem dX9_crossed_19 : decode cX9_crossed 19 = .ok (.iaload, 1) := by decide +kernel
theorem dX9_crossed_20 : decode cX9_crossed 20 = .ok (.iload_n 1, 1) := by decide +kernel
theorem dX9_crossed_21 : decode cX9_crossed 21 = .ok (.invokevirtual 172, 3) := by decide +kernel
theorem dX9_crossed_24 : decode cX9_crossed 24 = .ok (.istore_n 2, 1) := by decide +kernel
theorem dX9_crossed_25 : decode cX9_crossed 25 = .ok (.aload_n 0, 1) := by decide +kernel
theorem dX9_crossed_26 : decode cX9_crossed 26 = .ok (.getfield 166, 3) := by decide +kernel
theorem dX9_crossed_29 : decode cX9_crossed 29 = .ok (.istore_n 3, 1) := by decide +kernel
theorem dX9_crossed_30 : decode cX9_crossed 30 = .ok (.aload_n 0, 1) := by decide +kernel
theorem dX9_crossed_31 : decode cX9_crossed 31 = .ok (.getfield 169, 3) := by decide +kernel
theorem dX9_crossed_34 : decode cX9_crossed 34 = .ok (.istore 4, 2) := by decide +kernel
theorem dX9_crossed_36 : decode cX9_crossed 36 = .ok (.iload_n 2, 1) := by decide +kernel
theorem dX9_crossed_37 : decode cX9_crossed 37 = .ok (.ifCond .eq 37, 3) := by decide +kernel
theorem dX9_crossed_40 : decode cX9_crossed 40 = .ok (.aload_n 0, 1) := by decide +kernel
theorem dX9_crossed_41 : decode cX9_crossed 41 = .ok (.aload_n 0, 1) := by decide +kernel
theorem dX9_crossed_42 : decode cX9_crossed 42 = .ok (.getfield 7, 3) := by decide +kernel
theorem dX9_crossed_45 : decode cX9_crossed 45 = .ok (.iconst 3, 1) := by decide +kernel
theorem dX9_crossed_46 : decode cX9_crossed 46 = .ok (.iaload, 1) := by decide +kernel
theorem dX9_crossed_47 : decode cX9_crossed 47 = .ok (.iload_n 1, 1) := by decide +kernel
theorem dX9_crossed_48 : decode cX9_crossed 48 = .ok (.iconst 1, 1) := by decide +kernel
theorem dX9_crossed_49 : decode cX9_crossed 49 = .ok (.iadd, 1) := by decide +kernel
theorem dX9_crossed_50 : decode cX9_crossed 50 = .ok (.invokevirtual 172, 3) := by decide +kernel
theorem dX9_crossed_53 : decode cX9_crossed 53 = .ok (.ifCond .eq 21, 3) := by decide +kernel
theorem dX9_crossed_56 : decode cX9_crossed 56 = .ok (.aload_n 0, 1) := by decide +kernel
theorem dX9_crossed_57 : decode cX9_crossed 57 = .ok (.getfield 166, 3) := by decide +kernel
theorem dX9_crossed_60 : decode cX9_crossed 60 = .ok (.iload 4, 2) := by decide +kernel
theorem dX9_crossed_62 : decode cX9_crossed 62 = .ok (.imul, 1) := by decide +kernel
theorem dX9_crossed_63 : decode cX9_crossed 63 = .ok (.iload_n 3, 1) := by decide +kernel
theorem dX9_crossed_64 : decode cX9_crossed 64 = .ok (.aload_n 0, 1) := by decide +kernel
theorem dX9_crossed_65 : decode cX9_crossed 65 = .ok (.getfield 169, 3) := by decide +kernel
theorem dX9_crossed_68 : decode cX9_crossed 68 = .ok (.imul, 1) := by decide +kernel
theorem dX9_crossed_69 : decode cX9_crossed 69 = .ok (.if_icmp .gt 5, 3) := by decide +kernel
theorem dX9_crossed_72 : decode cX9_crossed 72 = .ok (.iload_n 1, 1) := by decide +kernel
theorem dX9_crossed_73 : decode cX9_crossed 73 = .ok (.ireturn, 1) := by decide +kernel
theorem dX9_crossed_74 : decode cX9_crossed 74 = .ok (.iinc 1 1, 3) := by decide +kernel
theorem dX9_crossed_77 : decode cX9_crossed 77 = .ok (.goto (-70), 3) := by decide +kernel
theorem dX9_crossed_80 : decode cX9_crossed 80 = .ok (.iconst (-1), 1) := by decide +kernel
theorem dX9_crossed_81 : decode cX9_crossed 81 = .ok (.ireturn, 1) := by decide +kernel
def fX9_crossed_7 (o_road_f : Nat → Int32)  : Nat → Int32 → Int32 → Int32 → Int32 × Int32 × Int32
  | 0, _, _, _ => default
  | n + 1, v7_1, o_above_7, o_below_7 => if 8 ≤ v7_1 then (((-1), o_above_7, o_below_7)) else (match fX9_layMean (o_road_f 3) v7_1 o_road_f with | (r3, u1, u2) => if r3 = 0 then (fX9_crossed_7 o_road_f n (v7_1 + 1) u1 u2) else (match fX9_layMean (o_road_f 3) (v7_1 + 1) o_road_f with | (r6, u4, u5) => if r6 = 0 then (fX9_crossed_7 o_road_f n (v7_1 + 1) u4 u5) else (if (u1 * u5) < (u4 * u2) then (fX9_crossed_7 o_road_f n (v7_1 + 1) u4 u5) else ((v7_1, u4, u5)))))
def fX9_crossed (o_above : Int32) (o_below : Int32) (o_road_f : Nat → Int32) : Int32 × Int32 × Int32 := fX9_crossed_7 o_road_f 1000 1 o_above o_below
set_option maxHeartbeats 4000000 in
set_option maxRecDepth 100000 in
theorem c_X9_crossed (l : Launch) (D : va_G) (cI cZ : ClassId) (sz : Nat) (o : Nat) (o_road : Nat) (o_told : Nat) (o_fresh : Nat) (o_was : Nat) (o_acts : Int32) (o_kept : Nat) (o_isKept : Nat) (o_sights : Nat) (o_many : Int32) (o_text : Nat) (o_letters : Int32) (o_thrown : Int32) (o_cursor : Int32) (o_token : Int32) (o_start : Int32) (o_value : Int64) (o_isFault : Int32) (o_faultAt : Int32) (o_above : Int32) (o_below : Int32) (o_topOf : Nat) (o_partsOf : Nat) (o_sent : Nat) (o_road_f : Nat → Int32) (hn0 : 4 ≤ (o_road_f 0).toInt) (hn1 : (o_road_f 0).toInt ≤ 20) (hv0 : 0 ≤ (o_road_f 2).toInt) (hv6 : (o_road_f 2).toInt ≤ 6) (hhab : ∀ w : Int32, 0 ≤ w.toInt → w.toInt < (o_road_f 2).toInt → ¬ o_road_f (30 + w).toNatClampNeg = 0) : Met l yX9_crossed wsX9_crossed ({ frames := 4, cells := 0, slots := 0, locals := 97 } : Room) (va_Pc [.ref o] (xP D cI cZ [(o, .inr (9, [.ref o_road, .ref o_told, .ref o_fresh, .ref o_was, .int o_acts, .ref o_kept, .ref o_isKept, .ref o_sights, .int o_many, .ref o_text, .int o_letters, .int o_thrown, .int o_cursor, .int o_token, .int o_start, .long o_value, .int o_isFault, .int o_faultAt, .int o_above, .int o_below, .ref o_topOf, .ref o_partsOf, .ref o_sent])), (o_road, .inl (cI, 36, .inl o_road_f))] sz)) (va_Qi (fun (r : Int32) (u : Int32 × Int32) => (r, u) = fX9_crossed o_above o_below o_road_f) (fun (u : Int32 × Int32) t => xB D cI cZ [(o, .inr (9, [.ref o_road, .ref o_told, .ref o_fresh, .ref o_was, .int o_acts, .ref o_kept, .ref o_isKept, .ref o_sights, .int o_many, .ref o_text, .int o_letters, .int 0, .int o_cursor, .int o_token, .int o_start, .long o_value, .int o_isFault, .int o_faultAt, .int u.1, .int u.2, .ref o_topOf, .ref o_partsOf, .ref o_sent])), (o_road, .inl (cI, 36, .inl o_road_f))] (va_A [(o, .inr (9, [.ref o_road, .ref o_told, .ref o_fresh, .ref o_was, .int o_acts, .ref o_kept, .ref o_isKept, .ref o_sights, .int o_many, .ref o_text, .int o_letters, .int o_thrown, .int o_cursor, .int o_token, .int o_start, .long o_value, .int o_isFault, .int o_faultAt, .int o_above, .int o_below, .ref o_topOf, .ref o_partsOf, .ref o_sent])), (o_road, .inl (cI, 36, .inl o_road_f))] sz) t) (va_A [(o, .inr (9, [.ref o_road, .ref o_told, .ref o_fresh, .ref o_was, .int o_acts, .ref o_kept, .ref o_isKept, .ref o_sights, .int o_many, .ref o_text, .int o_letters, .int o_thrown, .int o_cursor, .int o_token, .int o_start, .long o_value, .int o_isFault, .int o_faultAt, .int o_above, .int o_below, .ref o_topOf, .ref o_partsOf, .ref o_sent])), (o_road, .inl (cI, 36, .inl o_road_f))] sz)) 0 0 (va_A [(o, .inr (9, [.ref o_road, .ref o_told, .ref o_fresh, .ref o_was, .int o_acts, .ref o_kept, .ref o_isKept, .ref o_sights, .int o_many, .ref o_text, .int o_letters, .int o_thrown, .int o_cursor, .int o_token, .int o_start, .long o_value, .int o_isFault, .int o_faultAt, .int o_above, .int o_below, .ref o_topOf, .ref o_partsOf, .ref o_sent])), (o_road, .inl (cI, 36, .inl o_road_f))] sz) := by
  refine Met.ofW (cc := cX9_crossed) (maxL := 5) (ret := (some .int)) (by decide) rfl ?_
  intro p e s m args below meth c s₁ B hml hv
  obtain ⟨hargs, hsz, hP, hK, hD0, hE⟩ := hv
  subst hargs
  have hx := B.exec
  have hb := B.bytes
  have hr := B.returns
  have hts := atoms_spec (ws := wsX9_crossed) B.pre
  have hown : s.vm.findClass RX9 = some m.cls := findClass_of_methodNamed B.named
  have hlocks := B.notSynchronized
  subst hsz
  have hD := hD0.self (sz := s.heap.size)
  generalize hAe : va_A [(o, .inr (9, [.ref o_road, .ref o_told, .ref o_fresh, .ref o_was, .int o_acts, .ref o_kept, .ref o_isKept, .ref o_sights, .int o_many, .ref o_text, .int o_letters, .int o_thrown, .int o_cursor, .int o_token, .int o_start, .long o_value, .int o_isFault, .int o_faultAt, .int o_above, .int o_below, .ref o_topOf, .ref o_partsOf, .ref o_sent])), (o_road, .inl (cI, 36, .inl o_road_f))] s.heap.size = A at hD ⊢
  have hA : ∀ q : Nat, s.heap.size ≤ q → A q := fun q h => by rw [← hAe]; exact Or.inr h
  have hS : va_S A s.heap s.heap [] := va_S.rf
  have hl := lv_entry ([.ref o]) (n := 5) (Nat.le_of_ble_eq_true rfl)
  rw [lg_entry_eq]
  generalize (lg_sl ([.ref o]) ++ List.replicate (5 - (lg_sl ([.ref o])).length) Slot.unset).toArray = ls at hl ⊢
  have hl : lv_has ls 5 [(0, .ref o)] := hl
  refine wq (X := fun Q => ∀ (pc : Nat) (H : Heap) (locs : List Loc) (ls : Array Slot) (r : Int32) (u : Int32 × Int32) (hd : decode cX9_crossed pc = .ok (.ireturn, 1)) (hp : (r, u) = fX9_crossed o_above o_below o_road_f) (hP : va_P D vwCl [(o, .inr (9, [.ref o_road, .ref o_told, .ref o_fresh, .ref o_was, .int o_acts, .ref o_kept, .ref o_isKept, .ref o_sights, .int o_many, .ref o_text, .int o_letters, .int 0, .int o_cursor, .int o_token, .int o_start, .long o_value, .int o_isFault, .int o_faultAt, .int u.1, .int u.2, .ref o_topOf, .ref o_partsOf, .ref o_sent])), (o_road, .inl (cI, 36, .inl o_road_f))] H) (hD : va_D A [(o, .inr (9, [.ref o_road, .ref o_told, .ref o_fresh, .ref o_was, .int o_acts, .ref o_kept, .ref o_isKept, .ref o_sights, .int o_many, .ref o_text, .int o_letters, .int 0, .int o_cursor, .int o_token, .int o_start, .long o_value, .int o_isFault, .int o_faultAt, .int u.1, .int u.2, .ref o_topOf, .ref o_partsOf, .ref o_sent])), (o_road, .inl (cI, 36, .inl o_road_f))]) (hS : va_S A s.heap H locs), W p l e ({ frames := 4, cells := 0, slots := 0, locals := 97 } : Room) s m ([.ref o] : List Value).toArray below meth c H locs 0 0 Q (F0 m pc ls [.int r])) ?_ (fun Q hret => ?_)
  · intro pc H locs ls r u hd hp hP hD hS
    exact W.iret (v := r) hx hb hr (fun t ht hW => ⟨⟨r, u, rfl, hp, by rw [ht]; exact hP, va_K.moved hW.alike hK, hD⟩, hS.F ht⟩) hS.2.2 hd
  have hin_9 : ∀ w ∈ u_ws RX9 TX9 23, w ∈ wsX9_crossed := by decide +kernel
  have fl_7 := hts (.fieldLink RX9 7 "MileRoadModel" "road" "[I") (by decide +kernel)
  have fl_48 := hts (.fieldLink RX9 48 "MileRoadModel" "thrown" "I") (by decide +kernel)
  have fl_166 := hts (.fieldLink RX9 166 "MileRoadModel" "above" "I") (by decide +kernel)
  have fl_169 := hts (.fieldLink RX9 169 "MileRoadModel" "below" "I") (by decide +kernel)
  have zl_0 : (0 : Int32).toInt = 0 := by decide
  have zl_1 : (1 : Int32).toInt = 1 := by decide
  have zl_8 : (8 : Int32).toInt = 8 := by decide
  have hF : fX9_crossed o_above o_below o_road_f = fX9_crossed o_above o_below o_road_f := rfl
  have L_7 : ∀  (n_7 : Nat) (v7_1 : Int32) (o_above_7 : Int32) (o_below_7 : Int32) (h1_7 : 1 ≤ v7_1.toInt) (h2_7 : v7_1.toInt ≤ 8) (hm : 8 - v7_1.toInt < (n_7 : Int)) (H : Heap) (locs : List Loc) (ls : Array Slot) (hl : lv_has ls 5 [(0, .ref o), (1, .int v7_1)]) (hP : va_P D vwCl [(o, .inr (9, [.ref o_road, .ref o_told, .ref o_fresh, .ref o_was, .int o_acts, .ref o_kept, .ref o_isKept, .ref o_sights, .int o_many, .ref o_text, .int o_letters, .int 0, .int o_cursor, .int o_token, .int o_start, .long o_value, .int o_isFault, .int o_faultAt, .int o_above_7, .int o_below_7, .ref o_topOf, .ref o_partsOf, .ref o_sent])), (o_road, .inl (cI, 36, .inl o_road_f))] H) (hD : va_D A [(o, .inr (9, [.ref o_road, .ref o_told, .ref o_fresh, .ref o_was, .int o_acts, .ref o_kept, .ref o_isKept, .ref o_sights, .int o_many, .ref o_text, .int o_letters, .int 0, .int o_cursor, .int o_token, .int o_start, .long o_value, .int o_isFault, .int o_faultAt, .int o_above_7, .int o_below_7, .ref o_topOf, .ref o_partsOf, .ref o_sent])), (o_road, .inl (cI, 36, .inl o_road_f))]) (hS : va_S A s.heap H locs) (hF : fX9_crossed o_above o_below o_road_f = fX9_crossed_7 o_road_f n_7 v7_1 o_above_7 o_below_7), W p l e ({ frames := 4, cells := 0, slots := 0, locals := 97 } : Room) s m ([.ref o] : List Value).toArray below meth c H locs 0 0 Q (F0 m 7 ls []) := by
    intro  n_7
    induction n_7 with
    | zero =>
      intro v7_1 o_above_7 o_below_7 h1_7 h2_7 hm H locs ls hl hP hD hS hF
      exact absurd hm (by with_reducible omega)
    | succ n_7 ih_7 =>
      intro v7_1 o_above_7 o_below_7 h1_7 h2_7 hm H locs ls hl hP hD hS hF
      refine lv_iload_n hx hb dX9_crossed_7 rfl (lv_at hl 1 rfl) ?_
      refine lv_bipush (v := 8) hx hb dX9_crossed_8 (by decide) ?_
      refine lv_icmp_ge (tgt := 80) hx hb dX9_crossed_10 (by decide) (fun c_1 => ?_) (fun c_1 => ?_)
      · have kc_1 := t_le c_1
        refine lv_iconst (v := (-1)) hx hb dX9_crossed_80 (by decide) ?_
        exact hret _ _ _ _ (-1) (o_above_7, o_below_7) dX9_crossed_81 ((hF.trans (by simp only [fX9_crossed_7, ↓if_pos c_1])).symm) hP hD hS
      · have kc_1 := t_nle c_1
        refine lv_aload_n hx hb dX9_crossed_13 rfl (lv_at hl 0 rfl) ?_
        refine lv_aload_n hx hb dX9_crossed_14 rfl (lv_at hl 0 rfl) ?_
        refine xget hx hb hts hown hK 9 (C2 := RX9) (T := TX9) (N := 23) rfl hin_9 hP 0 rfl 0 (by decide) fl_7 rfl rfl rfl dX9_crossed_15 ?_
        refine lv_iconst (v := 3) hx hb dX9_crossed_18 (by decide) ?_
        refine xald hx hb hK hP 1 0 (k := 3) rfl rfl (vi (by decide) (by decide)) (by decide) dX9_crossed_19 ?_
        refine lv_iload_n hx hb dX9_crossed_20 rfl (lv_at hl 1 rfl) ?_
        refine xcalli (S := Int32 × Int32) (Wc := [(o, .inr (9, [.ref o_road, .ref o_told, .ref o_fresh, .ref o_was, .int o_acts, .ref o_kept, .ref o_isKept, .ref o_sights, .int o_many, .ref o_text, .int o_letters, .int 0, .int o_cursor, .int o_token, .int o_start, .long o_value, .int o_isFault, .int o_faultAt, .int o_above_7, .int o_below_7, .ref o_topOf, .ref o_partsOf, .ref o_sent])), (o_road, .inl (cI, 36, .inl o_road_f))]) (wr := []) (W1 := (fun (u : Int32 × Int32) => [(o, .inr (9, [.ref o_road, .ref o_told, .ref o_fresh, .ref o_was, .int o_acts, .ref o_kept, .ref o_isKept, .ref o_sights, .int o_many, .ref o_text, .int o_letters, .int 0, .int o_cursor, .int o_token, .int o_start, .long o_value, .int o_isFault, .int o_faultAt, .int u.1, .int u.2, .ref o_topOf, .ref o_partsOf, .ref o_sent])), (o_road, .inl (cI, 36, .inl o_road_f))])) (Wn := (fun (u : Int32 × Int32) => [(o, .inr (9, [.ref o_road, .ref o_told, .ref o_fresh, .ref o_was, .int o_acts, .ref o_kept, .ref o_isKept, .ref o_sights, .int o_many, .ref o_text, .int o_letters, .int 0, .int o_cursor, .int o_token, .int o_start, .long o_value, .int o_isFault, .int o_faultAt, .int u.1, .int u.2, .ref o_topOf, .ref o_partsOf, .ref o_sent])), (o_road, .inl (cI, 36, .inl o_road_f))])) (xrunV hx hb hml hown hts (c_X9_layMean l D cI cZ _ o (o_road_f 3) v7_1 o_road o_told o_fresh o_was o_acts o_kept o_isKept o_sights o_many o_text o_letters 0 o_cursor o_token o_start o_value o_isFault o_faultAt o_above_7 o_below_7 o_topOf o_partsOf o_sent o_road_f hn0 hn1 hv0 hv6 hhab) (cwV 2 hts gX9_crossed_X9_layMean rfl rfl rfl (by decide +kernel) ⟨Nat.le_of_ble_eq_true rfl, Nat.le_of_ble_eq_true rfl⟩) hE hK hP hD [0, 1] rfl rfl 0 9 (T := TX9) (N := 23) rfl rfl rfl hl.1 rfl (Nat.le_of_ble_eq_true rfl) dX9_crossed_21 ⟨Nat.le_of_ble_eq_true rfl, Nat.le_of_ble_eq_true rfl⟩) hP hD hS hA [0, 1] [] [0, 1] rfl rfl rfl (by decide) (fun _ => rfl) rfl (fun r3 u H locs hw hz hP hD hS => ?_)
        obtain ⟨u1, u2⟩ := u
        have hw_1 := hw.symm
        have hP : va_P D vwCl [(o, .inr (9, [.ref o_road, .ref o_told, .ref o_fresh, .ref o_was, .int o_acts, .ref o_kept, .ref o_isKept, .ref o_sights, .int o_many, .ref o_text, .int o_letters, .int 0, .int o_cursor, .int o_token, .int o_start, .long o_value, .int o_isFault, .int o_faultAt, .int u1, .int u2, .ref o_topOf, .ref o_partsOf, .ref o_sent])), (o_road, .inl (cI, 36, .inl o_road_f))] H := hP
        have hD : va_D A [(o, .inr (9, [.ref o_road, .ref o_told, .ref o_fresh, .ref o_was, .int o_acts, .ref o_kept, .ref o_isKept, .ref o_sights, .int o_many, .ref o_text, .int o_letters, .int 0, .int o_cursor, .int o_token, .int o_start, .long o_value, .int o_isFault, .int o_faultAt, .int u1, .int u2, .ref o_topOf, .ref o_partsOf, .ref o_sent])), (o_road, .inl (cI, 36, .inl o_road_f))] := hD
        refine lv_istore_n (lv' := [(2, .int r3), (0, .ref o), (1, .int v7_1)]) hx hb dX9_crossed_24 rfl hl (by decide) rfl (fun ls hl => ?_)
        refine lv_aload_n hx hb dX9_crossed_25 rfl (lv_at hl 1 rfl) ?_
        refine xget hx hb hts hown hK 9 (C2 := RX9) (T := TX9) (N := 23) rfl hin_9 hP 0 rfl 18 (by decide) fl_166 rfl rfl rfl dX9_crossed_26 ?_
        refine lv_istore_n (lv' := [(3, .int u1), (2, .int r3), (0, .ref o), (1, .int v7_1)]) hx hb dX9_crossed_29 rfl hl (by decide) rfl (fun ls hl => ?_)
        refine lv_aload_n hx hb dX9_crossed_30 rfl (lv_at hl 2 rfl) ?_
        refine xget hx hb hts hown hK 9 (C2 := RX9) (T := TX9) (N := 23) rfl hin_9 hP 0 rfl 19 (by decide) fl_169 rfl rfl rfl dX9_crossed_31 ?_
        refine lv_istore (lv' := [(4, .int u2), (3, .int u1), (2, .int r3), (0, .ref o), (1, .int v7_1)]) hx hb dX9_crossed_34 hl (by decide) rfl (fun ls hl => ?_)
        refine lv_iload_n hx hb dX9_crossed_36 rfl (lv_at hl 2 rfl) ?_
        refine lv_if_eq (tgt := 74) hx hb dX9_crossed_37 (by decide) (fun c_2 => ?_) (fun c_2 => ?_)
        · have kc_2 := t_eq c_2
          refine lv_iinc (v := (v7_1 + 1)) (lv' := [(1, .int (v7_1 + 1)), (4, .int u2), (3, .int u1), (2, .int r3), (0, .ref o)]) hx hb dX9_crossed_74 hl (k := 4) rfl (by rfl) (by decide) rfl (fun ls hl => ?_)
          refine lv_goto (tgt := 7) hx hb dX9_crossed_77 (by decide) ?_
          have z_1 : (v7_1 + 1).toInt = v7_1.toInt + (1 : Int32).toInt := z_add (by with_reducible omega) (by with_reducible omega)
          exact ih_7 (v7_1 + 1) u1 u2 (by first | with_reducible assumption | with_reducible omega | decide | (split <;> rename_i hh <;> first | (have h9 := t_nlt hh; with_reducible omega) | (have h9 := t_lt hh; with_reducible omega) | (have h9 := t_nle hh; with_reducible omega) | (have h9 := t_le hh; with_reducible omega))) (by first | with_reducible assumption | with_reducible omega | decide | (split <;> rename_i hh <;> first | (have h9 := t_nlt hh; with_reducible omega) | (have h9 := t_lt hh; with_reducible omega) | (have h9 := t_nle hh; with_reducible omega) | (have h9 := t_le hh; with_reducible omega))) (by first | with_reducible assumption | with_reducible omega | decide | (split <;> rename_i hh <;> first | (have h9 := t_nlt hh; with_reducible omega) | (have h9 := t_lt hh; with_reducible omega) | (have h9 := t_nle hh; with_reducible omega) | (have h9 := t_le hh; with_reducible omega))) _ _ _ (lv_sub hl [4, 0] rfl) hP hD hS (hF.trans (by simp only [fX9_crossed_7, ↓if_neg c_1, ↓hw_1, ↓if_pos c_2]))
        · have kc_2 := t_neq c_2
          refine lv_aload_n hx hb dX9_crossed_40 rfl (lv_at hl 3 rfl) ?_
          refine lv_aload_n hx hb dX9_crossed_41 rfl (lv_at hl 3 rfl) ?_
          refine xget hx hb hts hown hK 9 (C2 := RX9) (T := TX9) (N := 23) rfl hin_9 hP 0 rfl 0 (by decide) fl_7 rfl rfl rfl dX9_crossed_42 ?_
          refine lv_iconst (v := 3) hx hb dX9_crossed_45 (by decide) ?_
          refine xald hx hb hK hP 1 0 (k := 3) rfl rfl (vi (by decide) (by decide)) (by decide) dX9_crossed_46 ?_
          refine lv_iload_n hx hb dX9_crossed_47 rfl (lv_at hl 4 rfl) ?_
          refine lv_iconst (v := 1) hx hb dX9_crossed_48 (by decide) ?_
          refine lv_iadd hx hb dX9_crossed_49 ?_
          refine xcalli (S := Int32 × Int32) (Wc := [(o, .inr (9, [.ref o_road, .ref o_told, .ref o_fresh, .ref o_was, .int o_acts, .ref o_kept, .ref o_isKept, .ref o_sights, .int o_many, .ref o_text, .int o_letters, .int 0, .int o_cursor, .int o_token, .int o_start, .long o_value, .int o_isFault, .int o_faultAt, .int u1, .int u2, .ref o_topOf, .ref o_partsOf, .ref o_sent])), (o_road, .inl (cI, 36, .inl o_road_f))]) (wr := []) (W1 := (fun (u : Int32 × Int32) => [(o, .inr (9, [.ref o_road, .ref o_told, .ref o_fresh, .ref o_was, .int o_acts, .ref o_kept, .ref o_isKept, .ref o_sights, .int o_many, .ref o_text, .int o_letters, .int 0, .int o_cursor, .int o_token, .int o_start, .long o_value, .int o_isFault, .int o_faultAt, .int u.1, .int u.2, .ref o_topOf, .ref o_partsOf, .ref o_sent])), (o_road, .inl (cI, 36, .inl o_road_f))])) (Wn := (fun (u : Int32 × Int32) => [(o, .inr (9, [.ref o_road, .ref o_told, .ref o_fresh, .ref o_was, .int o_acts, .ref o_kept, .ref o_isKept, .ref o_sights, .int o_many, .ref o_text, .int o_letters, .int 0, .int o_cursor, .int o_token, .int o_start, .long o_value, .int o_isFault, .int o_faultAt, .int u.1, .int u.2, .ref o_topOf, .ref o_partsOf, .ref o_sent])), (o_road, .inl (cI, 36, .inl o_road_f))])) (xrunV hx hb hml hown hts (c_X9_layMean l D cI cZ _ o (o_road_f 3) (v7_1 + 1) o_road o_told o_fresh o_was o_acts o_kept o_isKept o_sights o_many o_text o_letters 0 o_cursor o_token o_start o_value o_isFault o_faultAt u1 u2 o_topOf o_partsOf o_sent o_road_f hn0 hn1 hv0 hv6 hhab) (cwV 2 hts gX9_crossed_X9_layMean rfl rfl rfl (by decide +kernel) ⟨Nat.le_of_ble_eq_true rfl, Nat.le_of_ble_eq_true rfl⟩) hE hK hP hD [0, 1] rfl rfl 0 9 (T := TX9) (N := 23) rfl rfl rfl hl.1 rfl (Nat.le_of_ble_eq_true rfl) dX9_crossed_50 ⟨Nat.le_of_ble_eq_true rfl, Nat.le_of_ble_eq_true rfl⟩) hP hD hS hA [0, 1] [] [0, 1] rfl rfl rfl (by decide) (fun _ => rfl) rfl (fun r6 u H locs hw hz hP hD hS => ?_)
          obtain ⟨u4, u5⟩ := u
          have hw_2 := hw.symm
          have hP : va_P D vwCl [(o, .inr (9, [.ref o_road, .ref o_told, .ref o_fresh, .ref o_was, .int o_acts, .ref o_kept, .ref o_isKept, .ref o_sights, .int o_many, .ref o_text, .int o_letters, .int 0, .int o_cursor, .int o_token, .int o_start, .long o_value, .int o_isFault, .int o_faultAt, .int u4, .int u5, .ref o_topOf, .ref o_partsOf, .ref o_sent])), (o_road, .inl (cI, 36, .inl o_road_f))] H := hP
          have hD : va_D A [(o, .inr (9, [.ref o_road, .ref o_told, .ref o_fresh, .ref o_was, .int o_acts, .ref o_kept, .ref o_isKept, .ref o_sights, .int o_many, .ref o_text, .int o_letters, .int 0, .int o_cursor, .int o_token, .int o_start, .long o_value, .int o_isFault, .int o_faultAt, .int u4, .int u5, .ref o_topOf, .ref o_partsOf, .ref o_sent])), (o_road, .inl (cI, 36, .inl o_road_f))] := hD
          refine lv_if_eq (tgt := 74) hx hb dX9_crossed_53 (by decide) (fun c_3 => ?_) (fun c_3 => ?_)
          · have kc_3 := t_eq c_3
            refine lv_iinc (v := (v7_1 + 1)) (lv' := [(1, .int (v7_1 + 1)), (4, .int u2), (3, .int u1), (2, .int r3), (0, .ref o)]) hx hb dX9_crossed_74 hl (k := 4) rfl (by rfl) (by decide) rfl (fun ls hl => ?_)
            refine lv_goto (tgt := 7) hx hb dX9_crossed_77 (by decide) ?_
            have z_2 : (v7_1 + 1).toInt = v7_1.toInt + (1 : Int32).toInt := z_add (by with_reducible omega) (by with_reducible omega)
            exact ih_7 (v7_1 + 1) u4 u5 (by first | with_reducible assumption | with_reducible omega | decide | (split <;> rename_i hh <;> first | (have h9 := t_nlt hh; with_reducible omega) | (have h9 := t_lt hh; with_reducible omega) | (have h9 := t_nle hh; with_reducible omega) | (have h9 := t_le hh; with_reducible omega))) (by first | with_reducible assumption | with_reducible omega | decide | (split <;> rename_i hh <;> first | (have h9 := t_nlt hh; with_reducible omega) | (have h9 := t_lt hh; with_reducible omega) | (have h9 := t_nle hh; with_reducible omega) | (have h9 := t_le hh; with_reducible omega))) (by first | with_reducible assumption | with_reducible omega | decide | (split <;> rename_i hh <;> first | (have h9 := t_nlt hh; with_reducible omega) | (have h9 := t_lt hh; with_reducible omega) | (have h9 := t_nle hh; with_reducible omega) | (have h9 := t_le hh; with_reducible omega))) _ _ _ (lv_sub hl [4, 0] rfl) hP hD hS (hF.trans (by simp only [fX9_crossed_7, ↓if_neg c_1, ↓hw_1, ↓if_neg c_2, ↓hw_2, ↓if_pos c_3]))
          · have kc_3 := t_neq c_3
            refine lv_aload_n hx hb dX9_crossed_56 rfl (lv_at hl 3 rfl) ?_
            refine xget hx hb hts hown hK 9 (C2 := RX9) (T := TX9) (N := 23) rfl hin_9 hP 0 rfl 18 (by decide) fl_166 rfl rfl rfl dX9_crossed_57 ?_
            refine lv_iload hx hb dX9_crossed_60 (lv_at hl 0 rfl) ?_
            refine lv_imul hx hb dX9_crossed_62 ?_
            refine lv_iload_n hx hb dX9_crossed_63 rfl (lv_at hl 1 rfl) ?_
            refine lv_aload_n hx hb dX9_crossed_64 rfl (lv_at hl 3 rfl) ?_
            refine xget hx hb hts hown hK 9 (C2 := RX9) (T := TX9) (N := 23) rfl hin_9 hP 0 rfl 19 (by decide) fl_169 rfl rfl rfl dX9_crossed_65 ?_
            refine lv_imul hx hb dX9_crossed_68 ?_
            refine lv_icmp_gt (tgt := 74) hx hb dX9_crossed_69 (by decide) (fun c_4 => ?_) (fun c_4 => ?_)
            · refine lv_iinc (v := (v7_1 + 1)) (lv' := [(1, .int (v7_1 + 1)), (4, .int u2), (3, .int u1), (2, .int r3), (0, .ref o)]) hx hb dX9_crossed_74 hl (k := 4) rfl (by rfl) (by decide) rfl (fun ls hl => ?_)
              refine lv_goto (tgt := 7) hx hb dX9_crossed_77 (by decide) ?_
              have z_3 : (v7_1 + 1).toInt = v7_1.toInt + (1 : Int32).toInt := z_add (by with_reducible omega) (by with_reducible omega)
              exact ih_7 (v7_1 + 1) u4 u5 (by first | with_reducible assumption | with_reducible omega | decide | (split <;> rename_i hh <;> first | (have h9 := t_nlt hh; with_reducible omega) | (have h9 := t_lt hh; with_reducible omega) | (have h9 := t_nle hh; with_reducible omega) | (have h9 := t_le hh; with_reducible omega))) (by first | with_reducible assumption | with_reducible omega | decide | (split <;> rename_i hh <;> first | (have h9 := t_nlt hh; with_reducible omega) | (have h9 := t_lt hh; with_reducible omega) | (have h9 := t_nle hh; with_reducible omega) | (have h9 := t_le hh; with_reducible omega))) (by first | with_reducible assumption | with_reducible omega | decide | (split <;> rename_i hh <;> first | (have h9 := t_nlt hh; with_reducible omega) | (have h9 := t_lt hh; with_reducible omega) | (have h9 := t_nle hh; with_reducible omega) | (have h9 := t_le hh; with_reducible omega))) _ _ _ (lv_sub hl [4, 0] rfl) hP hD hS (hF.trans (by simp only [fX9_crossed_7, ↓if_neg c_1, ↓hw_1, ↓if_neg c_2, ↓hw_2, ↓if_neg c_3, ↓if_pos c_4]))
            · refine lv_iload_n hx hb dX9_crossed_72 rfl (lv_at hl 4 rfl) ?_
              exact hret _ _ _ _ v7_1 (u4, u5) dX9_crossed_73 ((hF.trans (by simp only [fX9_crossed_7, ↓if_neg c_1, ↓hw_1, ↓if_neg c_2, ↓hw_2, ↓if_neg c_3, ↓if_neg c_4])).symm) hP hD hS
  refine lv_aload_n hx hb dX9_crossed_0 rfl (lv_at hl 0 rfl) ?_
  refine lv_iconst (v := 0) hx hb dX9_crossed_1 (by decide) ?_
  refine xput hx hb hts hown hK 9 (C2 := RX9) (T := TX9) (N := 23) tyX9 rfl tyX9_ok nmX9 hin_9 hP hD hS 0 rfl 11 (by decide) fl_48 rfl rfl rfl rfl rfl (Nat.le_of_ble_eq_true rfl) dX9_crossed_2 [(o, .inr (9, [.ref o_road, .ref o_told, .ref o_fresh, .ref o_was, .int o_acts, .ref o_kept, .ref o_isKept, .ref o_sights, .int o_many, .ref o_text, .int o_letters, .int 0, .int o_cursor, .int o_token, .int o_start, .long o_value, .int o_isFault, .int o_faultAt, .int o_above, .int o_below, .ref o_topOf, .ref o_partsOf, .ref o_sent])), (o_road, .inl (cI, 36, .inl o_road_f))] rfl (fun H locs hP hD hS => ?_)
  refine lv_iconst (v := 1) hx hb dX9_crossed_5 (by decide) ?_
  refine lv_istore_n (lv' := [(1, .int 1), (0, .ref o)]) hx hb dX9_crossed_6 rfl hl (by decide) rfl (fun ls hl => ?_)
  exact L_7 1000 1 o_above o_below (by first | with_reducible assumption | with_reducible omega | decide | (split <;> rename_i hh <;> first | (have h9 := t_nlt hh; with_reducible omega) | (have h9 := t_lt hh; with_reducible omega) | (have h9 := t_nle hh; with_reducible omega) | (have h9 := t_le hh; with_reducible omega))) (by first | with_reducible assumption | with_reducible omega | decide | (split <;> rename_i hh <;> first | (have h9 := t_nlt hh; with_reducible omega) | (have h9 := t_lt hh; with_reducible omega) | (have h9 := t_nle hh; with_reducible omega) | (have h9 := t_le hh; with_reducible omega))) (by first | with_reducible assumption | with_reducible omega | decide | (split <;> rename_i hh <;> first | (have h9 := t_nlt hh; with_reducible omega) | (have h9 := t_lt hh; with_reducible omega) | (have h9 := t_nle hh; with_reducible omega) | (have h9 := t_le hh; with_reducible omega))) _ _ _ (lv_sub hl [1, 0] rfl) hP hD hS (hF.trans (by simp only [fX9_crossed]))
set_option maxRecDepth 20000 in
theorem ggX9_books_X9_in : GoodIn wsX9_books wsX9_in := goodIn_r _ [8] (by decide +kernel) (by decide +kernel)
set_option maxRecDepth 20000 in
theorem gX9_books_X9_in : GoodIn wsX9_books (va_wsS RX9 52 yX9_in wsX9_in) := goodIn_app (goodIn_of _ (by decide +kernel)) ggX9_books_X9_in
set_option maxRecDepth 20000 in
theorem ggX9_books_X9_layMean : GoodIn wsX9_books wsX9_layMean := goodIn_r _ [12, 3, 4, 2, 13, 14, 15, 7, 16, 17, 18, 19, 20, 21, 22, 23, 24, 25, 26, 27, 28, 29, 30, 31, 32, 33, 34, 35, 36, 37, 38, 39, 40, 41, 42, 43, 44, 45, 46, 47] (by decide +kernel) (by decide +kernel)
set_option maxRecDepth 20000 in
theorem gX9_books_X9_layMean : GoodIn wsX9_books (wsV RX9 172 RX9 yX9_layMean wsX9_layMean) := goodIn_app (goodIn_of _ (by decide +kernel)) ggX9_books_X9_layMean
theorem dX9_books_0 : decode cX9_books 0 = .ok (.aload_n 0, 1) := by decide +kernel
theorem dX9_books_1 : decode cX9_books 1 = .ok (.iconst 0, 1) := by decide +kernel
theorem dX9_books_2 : decode cX9_books 2 = .ok (.putfield 48, 3) := by decide +kernel
theorem dX9_books_5 : decode cX9_books 5 = .ok (.iload_n 1, 1) := by decide +kernel
theorem dX9_books_6 : decode cX9_books 6 = .ok (.i2l, 1) := by decide +kernel
theorem dX9_books_7 : decode cX9_books 7 = .ok (.lconst 0, 1) := by decide +kernel
theorem dX9_books_8 : decode cX9_books 8 = .ok (.aload_n 0, 1) := by decide +kernel
theorem dX9_books_9 : decode cX9_books 9 = .ok (.getfield 7, 3) := by decide +kernel
theorem dX9_books_12 : decode cX9_books 12 = .ok (.iconst 0, 1) := by decide +kernel
theorem dX9_books_13 : decode cX9_books 13 = .ok (.iaload, 1) := by decide +kernel
theorem dX9_books_14 : decode cX9_books 14 = .ok (.i2l, 1) := by decide +kernel
theorem dX9_books_15 : decode cX9_books 15 = .ok (.invokestatic 52, 3) := by decide +kernel
theorem dX9_books_18 : decode cX9_books 18 = .ok (.ifCond .eq 19, 3) := by decide +kernel
theorem dX9_books_21 : decode cX9_books 21 = .ok (.iload_n 2, 1) := by decide +kernel
theorem dX9_books_22 : decode cX9_books 22 = .ok (.i2l, 1) := by decide +kernel
theorem dX9_books_23 : decode cX9_books 23 = .ok (.lconst 0, 1) := by decide +kernel
theorem dX9_books_24 : decode cX9_books 24 = .ok (.aload_n 0, 1) := by decide +kernel
theorem dX9_books_25 : decode cX9_books 25 = .ok (.getfield 7, 3) := by decide +kernel
theorem dX9_books_28 : decode cX9_books 28 = .ok (.iconst 0, 1) := by decide +kernel
theorem dX9_books_29 : decode cX9_books 29 = .ok (.iaload, 1) := by decide +kernel
theorem dX9_books_30 : decode cX9_books 30 = .ok (.i2l, 1) := by decide +kernel
theorem dX9_books_31 : decode cX9_books 31 = .ok (.invokestatic 52, 3) := by decide +kernel
theorem dX9_books_34 : decode cX9_books 34 = .ok (.ifCond .ne 6, 3) := by decide +kernel
theorem dX9_books_37 : decode cX9_books 37 = .ok (.bipush (-3), 2) := by decide +kernel
theorem dX9_books_39 : decode cX9_books 39 = .ok (.ireturn, 1) := by decide +kernel
theorem dX9_books_40 : decode cX9_books 40 = .ok (.iload_n 1, 1) := by decide +kernel
theorem dX9_books_41 : decode cX9_books 41 = .ok (.iload_n 2, 1) := by decide +kernel
theorem dX9_books_42 : decode cX9_books 42 = .ok (.if_icmp .ge 7, 3) := by decide +kernel
theorem dX9_books_45 : decode cX9_books 45 = .ok (.iload_n 1, 1) := by decide +kernel
theorem dX9_books_46 : decode cX9_books 46 = .ok (.goto 4, 3) := by decide +kernel
theorem dX9_books_49 : decode cX9_books 49 = .ok (.iload_n 2, 1) := by decide +kernel
theorem dX9_books_50 : decode cX9_books 50 = .ok (.istore_n 3, 1) := by decide +kernel
theorem dX9_books_51 : decode cX9_books 51 = .ok (.iload_n 1, 1) := by decide +kernel
theorem dX9_books_52 : decode cX9_books 52 = .ok (.iload_n 2, 1) := by decide +kernel
theorem dX9_books_53 : decode cX9_books 53 = .ok (.if_icmp .ge 7, 3) := by decide +kernel
theorem dX9_books_56 : decode cX9_books 56 = .ok (.iload_n 2, 1) := by decide +kernel
theorem dX9_books_57 : decode cX9_books 57 = .ok (.goto 4, 3) := by decide +kernel
theorem dX9_books_60 : decode cX9_books 60 = .ok (.iload_n 1, 1) := by decide +kernel
theorem dX9_books_61 : decode cX9_books 61 = .ok (.istore 4, 2) := by decide +kernel
theorem dX9_books_63 : decode cX9_books 63 = .ok (.iconst 0, 1) := by decide +kernel
theorem dX9_books_64 : decode cX9_books 64 = .ok (.istore 5, 2) := by decide +kernel
theorem dX9_books_66 : decode cX9_books 66 = .ok (.iconst 1, 1) := by decide +kernel
theorem dX9_books_67 : decode cX9_books 67 = .ok (.istore 6, 2) := by decide +kernel
theorem dX9_books_69 : decode cX9_books 69 = .ok (.iload 6, 2) := by decide +kernel
theorem dX9_books_71 : decode cX9_books 71 = .ok (.bipush 9, 2) := by decide +kernel
theorem dX9_books_73 : decode cX9_books 73 = .ok (.if_icmp .ge 65, 3) := by decide +kernel
theorem dX9_books_76 : decode cX9_books 76 = .ok (.aload_n 0, 1) := by decide +kernel
theorem dX9_books_77 : decode cX9_books 77 = .ok (.aload_n 0, 1) := by decide +kernel
theorem dX9_books_78 : decode cX9_books 78 = .ok (.getfield 7, 3) := by decide +kernel
theorem dX9_books_81 : decode cX9_books 81 = .ok (.iconst 3, 1) := by decide +kernel
theorem dX9_books_82 : decode cX9_books 82 = .ok (.iaload, 1) := by decide +kernel
theorem dX9_books_83 : decode cX9_books 83 = .ok (.iload 6, 2) := by decide +kernel
theorem dX9_books_85 : decode cX9_books 85 = .ok (.invokevirtual 172, 3) := by decide +kernel
theorem dX9_books_88 : decode cX9_books 88 = .ok (.istore 7, 2) := by decide +kernel
theorem dX9_books_90 : decode cX9_books 90 = .ok (.iload 5, 2) := by decide +kernel
theorem dX9_books_92 : decode cX9_books 92 = .ok (.iload 7, 2) := by decide +kernel
theorem dX9_books_94 : decode cX9_books 94 = .ok (.ifCond .eq 34, 3) := by decide +kernel
theorem dX9_books_97 : decode cX9_books 97 = .ok (.aload_n 0, 1) := by decide +kernel
theorem dX9_books_98 : decode cX9_books 98 = .ok (.getfield 166, 3) := by decide +kernel
theorem dX9_books_101 : decode cX9_books 101 = .ok (.iload_n 3, 1) := by decide +kernel
theorem dX9_books_102 : decode cX9_books 102 = .ok (.aload_n 0, 1) := by decide +kernel
theorem dX9_books_103 : decode cX9_books 103 = .ok (.getfield 169, 3) := by decide +kernel
theorem dX9_books_106 : decode cX9_books 106 = .ok (.imul, 1) := by decide +kernel
theorem dX9_books_107 : decode cX9_books 107 = .ok (.if_icmp .le 21, 3) := by decide +kernel
theorem dX9_books_110 : decode cX9_books 110 = .ok (.aload_n 0, 1) := by decide +kernel
theorem dX9_books_111 : decode cX9_books 111 = .ok (.getfield 166, 3) := by decide +kernel
theorem dX9_books_114 : decode cX9_books 114 = .ok (.iload 4, 2) := by decide +kernel
theorem dX9_books_116 : decode cX9_books 116 = .ok (.aload_n 0, 1) := by decide +kernel
theorem dX9_books_117 : decode cX9_books 117 = .ok (.getfield 169, 3) := by decide +kernel
theorem dX9_books_120 : decode cX9_books 120 = .ok (.imul, 1) := by decide +kernel
theorem dX9_books_121 : decode cX9_books 121 = .ok (.if_icmp .gt 7, 3) := by decide +kernel
theorem dX9_books_124 : decode cX9_books 124 = .ok (.iconst 1, 1) := by decide +kernel
theorem dX9_books_125 : decode cX9_books 125 = .ok (.goto 4, 3) := by decide +kernel
theorem dX9_books_128 : decode cX9_books 128 = .ok (.iconst 0, 1) := by decide +kernel
theorem dX9_books_129 : decode cX9_books 129 = .ok (.iadd, 1) := by decide +kernel
theorem dX9_books_130 : decode cX9_books 130 = .ok (.istore 5, 2) := by decide +kernel
theorem dX9_books_132 : decode cX9_books 132 = .ok (.iinc 6 1, 3) := by decide +kernel
theorem dX9_books_135 : decode cX9_books 135 = .ok (.goto (-66), 3) := by decide +kernel
theorem dX9_books_138 : decode cX9_books 138 = .ok (.iload 5, 2) := by decide +kernel
theorem dX9_books_140 : decode cX9_books 140 = .ok (.ireturn, 1) := by decide +kernel
def fX9_books_69 (o_road_f : Nat → Int32)  : Nat → Int32 → Int32 → Int32 → Int32 → Int32 → Int32 → Int32 × Int32 × Int32
  | 0, _, _, _, _, _, _ => default
  | n + 1, v69_3, v69_4, v69_5, v69_6, o_above_69, o_below_69 => if 9 ≤ v69_6 then ((v69_5, o_above_69, o_below_69)) else (match fX9_layMean (o_road_f 3) v69_6 o_road_f with | (r5, u3, u4) => xlet (if r5 = 0 then (0 : Int32) else (if u3 ≤ (v69_3 * u4) then 0 else (if (v69_4 * u4) < u3 then 0 else 1))) (fun y_3 => fX9_books_69 o_road_f n v69_3 v69_4 (v69_5 + y_3) (v69_6 + 1) u3 u4))
def fX9_books (a1 : Int32) (a2 : Int32) (o_above : Int32) (o_below : Int32) (o_road_f : Nat → Int32) : Int32 × Int32 × Int32 := if (fX9_in a1.toInt64 0 ((o_road_f 0).toInt64)) = 0 then (((-3), o_above, o_below)) else (if (fX9_in a2.toInt64 0 ((o_road_f 0).toInt64)) = 0 then (((-3), o_above, o_below)) else (xlet (if a2 ≤ a1 then a2 else a1) (fun y_1 => xlet (if a2 ≤ a1 then a1 else a2) (fun y_2 => fX9_books_69 o_road_f 1000 y_1 y_2 0 1 o_above o_below))))
set_option maxHeartbeats 4000000 in
set_option maxRecDepth 100000 in
theorem c_X9_books (l : Launch) (D : va_G) (cI cZ : ClassId) (sz : Nat) (o : Nat) (a1 : Int32) (a2 : Int32) (o_road : Nat) (o_told : Nat) (o_fresh : Nat) (o_was : Nat) (o_acts : Int32) (o_kept : Nat) (o_isKept : Nat) (o_sights : Nat) (o_many : Int32) (o_text : Nat) (o_letters : Int32) (o_thrown : Int32) (o_cursor : Int32) (o_token : Int32) (o_start : Int32) (o_value : Int64) (o_isFault : Int32) (o_faultAt : Int32) (o_above : Int32) (o_below : Int32) (o_topOf : Nat) (o_partsOf : Nat) (o_sent : Nat) (o_road_f : Nat → Int32) (hn0 : 4 ≤ (o_road_f 0).toInt) (hn1 : (o_road_f 0).toInt ≤ 20) (hv0 : 0 ≤ (o_road_f 2).toInt) (hv6 : (o_road_f 2).toInt ≤ 6) (hhab : ∀ w : Int32, 0 ≤ w.toInt → w.toInt < (o_road_f 2).toInt → ¬ o_road_f (30 + w).toNatClampNeg = 0) : Met l yX9_books wsX9_books ({ frames := 4, cells := 0, slots := 0, locals := 97 } : Room) (va_Pc [.ref o, .int a1, .int a2] (xP D cI cZ [(o, .inr (9, [.ref o_road, .ref o_told, .ref o_fresh, .ref o_was, .int o_acts, .ref o_kept, .ref o_isKept, .ref o_sights, .int o_many, .ref o_text, .int o_letters, .int o_thrown, .int o_cursor, .int o_token, .int o_start, .long o_value, .int o_isFault, .int o_faultAt, .int o_above, .int o_below, .ref o_topOf, .ref o_partsOf, .ref o_sent])), (o_road, .inl (cI, 36, .inl o_road_f))] sz)) (va_Qi (fun (r : Int32) (u : Int32 × Int32) => (r, u) = fX9_books a1 a2 o_above o_below o_road_f) (fun (u : Int32 × Int32) t => xB D cI cZ [(o, .inr (9, [.ref o_road, .ref o_told, .ref o_fresh, .ref o_was, .int o_acts, .ref o_kept, .ref o_isKept, .ref o_sights, .int o_many, .ref o_text, .int o_letters, .int 0, .int o_cursor, .int o_token, .int o_start, .long o_value, .int o_isFault, .int o_faultAt, .int u.1, .int u.2, .ref o_topOf, .ref o_partsOf, .ref o_sent])), (o_road, .inl (cI, 36, .inl o_road_f))] (va_A [(o, .inr (9, [.ref o_road, .ref o_told, .ref o_fresh, .ref o_was, .int o_acts, .ref o_kept, .ref o_isKept, .ref o_sights, .int o_many, .ref o_text, .int o_letters, .int o_thrown, .int o_cursor, .int o_token, .int o_start, .long o_value, .int o_isFault, .int o_faultAt, .int o_above, .int o_below, .ref o_topOf, .ref o_partsOf, .ref o_sent])), (o_road, .inl (cI, 36, .inl o_road_f))] sz) t) (va_A [(o, .inr (9, [.ref o_road, .ref o_told, .ref o_fresh, .ref o_was, .int o_acts, .ref o_kept, .ref o_isKept, .ref o_sights, .int o_many, .ref o_text, .int o_letters, .int o_thrown, .int o_cursor, .int o_token, .int o_start, .long o_value, .int o_isFault, .int o_faultAt, .int o_above, .int o_below, .ref o_topOf, .ref o_partsOf, .ref o_sent])), (o_road, .inl (cI, 36, .inl o_road_f))] sz)) 0 0 (va_A [(o, .inr (9, [.ref o_road, .ref o_told, .ref o_fresh, .ref o_was, .int o_acts, .ref o_kept, .ref o_isKept, .ref o_sights, .int o_many, .ref o_text, .int o_letters, .int o_thrown, .int o_cursor, .int o_token, .int o_start, .long o_value, .int o_isFault, .int o_faultAt, .int o_above, .int o_below, .ref o_topOf, .ref o_partsOf, .ref o_sent])), (o_road, .inl (cI, 36, .inl o_road_f))] sz) := by
  refine Met.ofW (cc := cX9_books) (maxL := 8) (ret := (some .int)) (by decide) rfl ?_
  intro p e s m args below meth c s₁ B hml hv
  obtain ⟨hargs, hsz, hP, hK, hD0, hE⟩ := hv
  subst hargs
  have hx := B.exec
  have hb := B.bytes
  have hr := B.returns
  have hts := atoms_spec (ws := wsX9_books) B.pre
  have hown : s.vm.findClass RX9 = some m.cls := findClass_of_methodNamed B.named
  have hlocks := B.notSynchronized
  subst hsz
  have hD := hD0.self (sz := s.heap.size)
  generalize hAe : va_A [(o, .inr (9, [.ref o_road, .ref o_told, .ref o_fresh, .ref o_was, .int o_acts, .ref o_kept, .ref o_isKept, .ref o_sights, .int o_many, .ref o_text, .int o_letters, .int o_thrown, .int o_cursor, .int o_token, .int o_start, .long o_value, .int o_isFault, .int o_faultAt, .int o_above, .int o_below, .ref o_topOf, .ref o_partsOf, .ref o_sent])), (o_road, .inl (cI, 36, .inl o_road_f))] s.heap.size = A at hD ⊢
  have hA : ∀ q : Nat, s.heap.size ≤ q → A q := fun q h => by rw [← hAe]; exact Or.inr h
  have hS : va_S A s.heap s.heap [] := va_S.rf
  have hl := lv_entry ([.ref o, .int a1, .int a2]) (n := 8) (Nat.le_of_ble_eq_true rfl)
  rw [lg_entry_eq]
  generalize (lg_sl ([.ref o, .int a1, .int a2]) ++ List.replicate (8 - (lg_sl ([.ref o, .int a1, .int a2])).length) Slot.unset).toArray = ls at hl ⊢
  have hl : lv_has ls 8 [(0, .ref o), (1, .int a1), (2, .int a2)] := hl
  refine wq (X := fun Q => ∀ (pc : Nat) (H : Heap) (locs : List Loc) (ls : Array Slot) (r : Int32) (u : Int32 × Int32) (hd : decode cX9_books pc = .ok (.ireturn, 1)) (hp : (r, u) = fX9_books a1 a2 o_above o_below o_road_f) (hP : va_P D vwCl [(o, .inr (9, [.ref o_road, .ref o_told, .ref o_fresh, .ref o_was, .int o_acts, .ref o_kept, .ref o_isKept, .ref o_sights, .int o_many, .ref o_text, .int o_letters, .int 0, .int o_cursor, .int o_token, .int o_start, .long o_value, .int o_isFault, .int o_faultAt, .int u.1, .int u.2, .ref o_topOf, .ref o_partsOf, .ref o_sent])), (o_road, .inl (cI, 36, .inl o_road_f))] H) (hD : va_D A [(o, .inr (9, [.ref o_road, .ref o_told, .ref o_fresh, .ref o_was, .int o_acts, .ref o_kept, .ref o_isKept, .ref o_sights, .int o_many, .ref o_text, .int o_letters, .int 0, .int o_cursor, .int o_token, .int o_start, .long o_value, .int o_isFault, .int o_faultAt, .int u.1, .int u.2, .ref o_topOf, .ref o_partsOf, .ref o_sent])), (o_road, .inl (cI, 36, .inl o_road_f))]) (hS : va_S A s.heap H locs), W p l e ({ frames := 4, cells := 0, slots := 0, locals := 97 } : Room) s m ([.ref o, .int a1, .int a2] : List Value).toArray below meth c H locs 0 0 Q (F0 m pc ls [.int r])) ?_ (fun Q hret => ?_)
  · intro pc H locs ls r u hd hp hP hD hS
    exact W.iret (v := r) hx hb hr (fun t ht hW => ⟨⟨r, u, rfl, hp, by rw [ht]; exact hP, va_K.moved hW.alike hK, hD⟩, hS.F ht⟩) hS.2.2 hd
  have hin_9 : ∀ w ∈ u_ws RX9 TX9 23, w ∈ wsX9_books := by decide +kernel
  have fl_7 := hts (.fieldLink RX9 7 "MileRoadModel" "road" "[I") (by decide +kernel)
  have fl_48 := hts (.fieldLink RX9 48 "MileRoadModel" "thrown" "I") (by decide +kernel)
  have fl_166 := hts (.fieldLink RX9 166 "MileRoadModel" "above" "I") (by decide +kernel)
  have fl_169 := hts (.fieldLink RX9 169 "MileRoadModel" "below" "I") (by decide +kernel)
  have zl_0 : (0 : Int32).toInt = 0 := by decide
  have zl_1 : (1 : Int32).toInt = 1 := by decide
  have zl_9 : (9 : Int32).toInt = 9 := by decide
  have hF : fX9_books a1 a2 o_above o_below o_road_f = fX9_books a1 a2 o_above o_below o_road_f := rfl
  have L_69 : ∀  (n_69 : Nat) (v69_3 : Int32) (v69_4 : Int32) (v69_5 : Int32) (v69_6 : Int32) (o_above_69 : Int32) (o_below_69 : Int32) (h1_69 : 1 ≤ v69_6.toInt) (h2_69 : v69_6.toInt ≤ 9) (hm : 9 - v69_6.toInt < (n_69 : Int)) (H : Heap) (locs : List Loc) (ls : Array Slot) (hl : lv_has ls 8 [(0, .ref o), (1, .int a1), (2, .int a2), (3, .int v69_3), (4, .int v69_4), (5, .int v69_5), (6, .int v69_6)]) (hP : va_P D vwCl [(o, .inr (9, [.ref o_road, .ref o_told, .ref o_fresh, .ref o_was, .int o_acts, .ref o_kept, .ref o_isKept, .ref o_sights, .int o_many, .ref o_text, .int o_letters, .int 0, .int o_cursor, .int o_token, .int o_start, .long o_value, .int o_isFault, .int o_faultAt, .int o_above_69, .int o_below_69, .ref o_topOf, .ref o_partsOf, .ref o_sent])), (o_road, .inl (cI, 36, .inl o_road_f))] H) (hD : va_D A [(o, .inr (9, [.ref o_road, .ref o_told, .ref o_fresh, .ref o_was, .int o_acts, .ref o_kept, .ref o_isKept, .ref o_sights, .int o_many, .ref o_text, .int o_letters, .int 0, .int o_cursor, .int o_token, .int o_start, .long o_value, .int o_isFault, .int o_faultAt, .int o_above_69, .int o_below_69, .ref o_topOf, .ref o_partsOf, .ref o_sent])), (o_road, .inl (cI, 36, .inl o_road_f))]) (hS : va_S A s.heap H locs) (hF : fX9_books a1 a2 o_above o_below o_road_f = fX9_books_69 o_road_f n_69 v69_3 v69_4 v69_5 v69_6 o_above_69 o_below_69), W p l e ({ frames := 4, cells := 0, slots := 0, locals := 97 } : Room) s m ([.ref o, .int a1, .int a2] : List Value).toArray below meth c H locs 0 0 Q (F0 m 69 ls []) := by
    intro  n_69
    induction n_69 with
    | zero =>
      intro v69_3 v69_4 v69_5 v69_6 o_above_69 o_below_69 h1_69 h2_69 hm H locs ls hl hP hD hS hF
      exact absurd hm (by with_reducible omega)
    | succ n_69 ih_69 =>
      intro v69_3 v69_4 v69_5 v69_6 o_above_69 o_below_69 h1_69 h2_69 hm H locs ls hl hP hD hS hF
      refine lv_iload hx hb dX9_books_69 (lv_at hl 6 rfl) ?_
      refine lv_bipush (v := 9) hx hb dX9_books_71 (by decide) ?_
      refine lv_icmp_ge (tgt := 138) hx hb dX9_books_73 (by decide) (fun c_5 => ?_) (fun c_5 => ?_)
      · have kc_5 := t_le c_5
        refine lv_iload hx hb dX9_books_138 (lv_at hl 5 rfl) ?_
        exact hret _ _ _ _ v69_5 (o_above_69, o_below_69) dX9_books_140 ((hF.trans (by simp only [fX9_books_69, ↓if_pos c_5])).symm) hP hD hS
      · have kc_5 := t_nle c_5
        refine lv_aload_n hx hb dX9_books_76 rfl (lv_at hl 0 rfl) ?_
        refine lv_aload_n hx hb dX9_books_77 rfl (lv_at hl 0 rfl) ?_
        refine xget hx hb hts hown hK 9 (C2 := RX9) (T := TX9) (N := 23) rfl hin_9 hP 0 rfl 0 (by decide) fl_7 rfl rfl rfl dX9_books_78 ?_
        refine lv_iconst (v := 3) hx hb dX9_books_81 (by decide) ?_
        refine xald hx hb hK hP 1 0 (k := 3) rfl rfl (vi (by decide) (by decide)) (by decide) dX9_books_82 ?_
        refine lv_iload hx hb dX9_books_83 (lv_at hl 6 rfl) ?_
        refine xcalli (S := Int32 × Int32) (Wc := [(o, .inr (9, [.ref o_road, .ref o_told, .ref o_fresh, .ref o_was, .int o_acts, .ref o_kept, .ref o_isKept, .ref o_sights, .int o_many, .ref o_text, .int o_letters, .int 0, .int o_cursor, .int o_token, .int o_start, .long o_value, .int o_isFault, .int o_faultAt, .int o_above_69, .int o_below_69, .ref o_topOf, .ref o_partsOf, .ref o_sent])), (o_road, .inl (cI, 36, .inl o_road_f))]) (wr := []) (W1 := (fun (u : Int32 × Int32) => [(o, .inr (9, [.ref o_road, .ref o_told, .ref o_fresh, .ref o_was, .int o_acts, .ref o_kept, .ref o_isKept, .ref o_sights, .int o_many, .ref o_text, .int o_letters, .int 0, .int o_cursor, .int o_token, .int o_start, .long o_value, .int o_isFault, .int o_faultAt, .int u.1, .int u.2, .ref o_topOf, .ref o_partsOf, .ref o_sent])), (o_road, .inl (cI, 36, .inl o_road_f))])) (Wn := (fun (u : Int32 × Int32) => [(o, .inr (9, [.ref o_road, .ref o_told, .ref o_fresh, .ref o_was, .int o_acts, .ref o_kept, .ref o_isKept, .ref o_sights, .int o_many, .ref o_text, .int o_letters, .int 0, .int o_cursor, .int o_token, .int o_start, .long o_value, .int o_isFault, .int o_faultAt, .int u.1, .int u.2, .ref o_topOf, .ref o_partsOf, .ref o_sent])), (o_road, .inl (cI, 36, .inl o_road_f))])) (xrunV hx hb hml hown hts (c_X9_layMean l D cI cZ _ o (o_road_f 3) v69_6 o_road o_told o_fresh o_was o_acts o_kept o_isKept o_sights o_many o_text o_letters 0 o_cursor o_token o_start o_value o_isFault o_faultAt o_above_69 o_below_69 o_topOf o_partsOf o_sent o_road_f hn0 hn1 hv0 hv6 hhab) (cwV 2 hts gX9_books_X9_layMean rfl rfl rfl (by decide +kernel) ⟨Nat.le_of_ble_eq_true rfl, Nat.le_of_ble_eq_true rfl⟩) hE hK hP hD [0, 1] rfl rfl 0 9 (T := TX9) (N := 23) rfl rfl rfl hl.1 rfl (Nat.le_of_ble_eq_true rfl) dX9_books_85 ⟨Nat.le_of_ble_eq_true rfl, Nat.le_of_ble_eq_true rfl⟩) hP hD hS hA [0, 1] [] [0, 1] rfl rfl rfl (by decide) (fun _ => rfl) rfl (fun r5 u H locs hw hz hP hD hS => ?_)
        obtain ⟨u3, u4⟩ := u
        have hw_4 := hw.symm
        have hP : va_P D vwCl [(o, .inr (9, [.ref o_road, .ref o_told, .ref o_fresh, .ref o_was, .int o_acts, .ref o_kept, .ref o_isKept, .ref o_sights, .int o_many, .ref o_text, .int o_letters, .int 0, .int o_cursor, .int o_token, .int o_start, .long o_value, .int o_isFault, .int o_faultAt, .int u3, .int u4, .ref o_topOf, .ref o_partsOf, .ref o_sent])), (o_road, .inl (cI, 36, .inl o_road_f))] H := hP
        have hD : va_D A [(o, .inr (9, [.ref o_road, .ref o_told, .ref o_fresh, .ref o_was, .int o_acts, .ref o_kept, .ref o_isKept, .ref o_sights, .int o_many, .ref o_text, .int o_letters, .int 0, .int o_cursor, .int o_token, .int o_start, .long o_value, .int o_isFault, .int o_faultAt, .int u3, .int u4, .ref o_topOf, .ref o_partsOf, .ref o_sent])), (o_road, .inl (cI, 36, .inl o_road_f))] := hD
        refine lv_istore (lv' := [(7, .int r5), (0, .ref o), (1, .int a1), (2, .int a2), (3, .int v69_3), (4, .int v69_4), (5, .int v69_5), (6, .int v69_6)]) hx hb dX9_books_88 hl (by decide) rfl (fun ls hl => ?_)
        refine lv_iload hx hb dX9_books_90 (lv_at hl 6 rfl) ?_
        refine lv_iload hx hb dX9_books_92 (lv_at hl 0 rfl) ?_
        have K_y_3 : ∀ (y_3 : Int32) (hy_y_3 : (if r5 = 0 then (0 : Int32) else (if u3 ≤ (v69_3 * u4) then 0 else (if (v69_4 * u4) < u3 then 0 else 1))) = y_3) (H : Heap) (locs : List Loc) (hP : va_P D vwCl [(o, .inr (9, [.ref o_road, .ref o_told, .ref o_fresh, .ref o_was, .int o_acts, .ref o_kept, .ref o_isKept, .ref o_sights, .int o_many, .ref o_text, .int o_letters, .int 0, .int o_cursor, .int o_token, .int o_start, .long o_value, .int o_isFault, .int o_faultAt, .int u3, .int u4, .ref o_topOf, .ref o_partsOf, .ref o_sent])), (o_road, .inl (cI, 36, .inl o_road_f))] H) (hD : va_D A [(o, .inr (9, [.ref o_road, .ref o_told, .ref o_fresh, .ref o_was, .int o_acts, .ref o_kept, .ref o_isKept, .ref o_sights, .int o_many, .ref o_text, .int o_letters, .int 0, .int o_cursor, .int o_token, .int o_start, .long o_value, .int o_isFault, .int o_faultAt, .int u3, .int u4, .ref o_topOf, .ref o_partsOf, .ref o_sent])), (o_road, .inl (cI, 36, .inl o_road_f))]) (hS : va_S A s.heap H locs), W p l e ({ frames := 4, cells := 0, slots := 0, locals := 97 } : Room) s m ([.ref o, .int a1, .int a2] : List Value).toArray below meth c H locs 0 0 Q (F0 m 129 ls [.int y_3, .int v69_5]) := by
          intro y_3 hy_y_3 H locs hP hD hS
          have ky_y_3 : y_3 = 0 ∨ y_3 = 1 := by rw [← hy_y_3]; (repeat' split) <;> simp
          refine lv_iadd hx hb dX9_books_129 ?_
          refine lv_istore (lv' := [(5, .int (v69_5 + y_3)), (7, .int r5), (0, .ref o), (1, .int a1), (2, .int a2), (3, .int v69_3), (4, .int v69_4), (6, .int v69_6)]) hx hb dX9_books_130 hl (by decide) rfl (fun ls hl => ?_)
          refine lv_iinc (v := (v69_6 + 1)) (lv' := [(6, .int (v69_6 + 1)), (5, .int (v69_5 + y_3)), (7, .int r5), (0, .ref o), (1, .int a1), (2, .int a2), (3, .int v69_3), (4, .int v69_4)]) hx hb dX9_books_132 hl (k := 7) rfl (by rfl) (by decide) rfl (fun ls hl => ?_)
          refine lv_goto (tgt := 69) hx hb dX9_books_135 (by decide) ?_
          have z_1 : (v69_6 + 1).toInt = v69_6.toInt + (1 : Int32).toInt := z_add (by with_reducible omega) (by with_reducible omega)
          exact ih_69 v69_3 v69_4 (v69_5 + y_3) (v69_6 + 1) u3 u4 (by first | with_reducible assumption | with_reducible omega | decide | (split <;> rename_i hh <;> first | (have h9 := t_nlt hh; with_reducible omega) | (have h9 := t_lt hh; with_reducible omega) | (have h9 := t_nle hh; with_reducible omega) | (have h9 := t_le hh; with_reducible omega))) (by first | with_reducible assumption | with_reducible omega | decide | (split <;> rename_i hh <;> first | (have h9 := t_nlt hh; with_reducible omega) | (have h9 := t_lt hh; with_reducible omega) | (have h9 := t_nle hh; with_reducible omega) | (have h9 := t_le hh; with_reducible omega))) (by first | with_reducible assumption | with_reducible omega | decide | (split <;> rename_i hh <;> first | (have h9 := t_nlt hh; with_reducible omega) | (have h9 := t_lt hh; with_reducible omega) | (have h9 := t_nle hh; with_reducible omega) | (have h9 := t_le hh; with_reducible omega))) _ _ _ (lv_sub hl [3, 4, 5, 6, 7, 1, 0] rfl) hP hD hS (hF.trans (by simp only [fX9_books_69, ↓if_neg c_5, ↓hw_4, ↓(xlet_of hy_y_3)]))
        refine lv_if_eq (tgt := 128) hx hb dX9_books_94 (by decide) (fun c_6 => ?_) (fun c_6 => ?_)
        · have kc_6 := t_eq c_6
          refine lv_iconst (v := 0) hx hb dX9_books_128 (by decide) ?_
          exact K_y_3 _ (by simp only [↓if_pos c_6]) _ _ hP hD hS
        · have kc_6 := t_neq c_6
          refine lv_aload_n hx hb dX9_books_97 rfl (lv_at hl 1 rfl) ?_
          refine xget hx hb hts hown hK 9 (C2 := RX9) (T := TX9) (N := 23) rfl hin_9 hP 0 rfl 18 (by decide) fl_166 rfl rfl rfl dX9_books_98 ?_
          refine lv_iload_n hx hb dX9_books_101 rfl (lv_at hl 4 rfl) ?_
          refine lv_aload_n hx hb dX9_books_102 rfl (lv_at hl 1 rfl) ?_
          refine xget hx hb hts hown hK 9 (C2 := RX9) (T := TX9) (N := 23) rfl hin_9 hP 0 rfl 19 (by decide) fl_169 rfl rfl rfl dX9_books_103 ?_
          refine lv_imul hx hb dX9_books_106 ?_
          refine lv_icmp_le (tgt := 128) hx hb dX9_books_107 (by decide) (fun c_7 => ?_) (fun c_7 => ?_)
          · refine lv_iconst (v := 0) hx hb dX9_books_128 (by decide) ?_
            exact K_y_3 _ (by simp only [↓if_neg c_6, ↓if_pos c_7]) _ _ hP hD hS
          · refine lv_aload_n hx hb dX9_books_110 rfl (lv_at hl 1 rfl) ?_
            refine xget hx hb hts hown hK 9 (C2 := RX9) (T := TX9) (N := 23) rfl hin_9 hP 0 rfl 18 (by decide) fl_166 rfl rfl rfl dX9_books_111 ?_
            refine lv_iload hx hb dX9_books_114 (lv_at hl 5 rfl) ?_
            refine lv_aload_n hx hb dX9_books_116 rfl (lv_at hl 1 rfl) ?_
            refine xget hx hb hts hown hK 9 (C2 := RX9) (T := TX9) (N := 23) rfl hin_9 hP 0 rfl 19 (by decide) fl_169 rfl rfl rfl dX9_books_117 ?_
            refine lv_imul hx hb dX9_books_120 ?_
            refine lv_icmp_gt (tgt := 128) hx hb dX9_books_121 (by decide) (fun c_8 => ?_) (fun c_8 => ?_)
            · refine lv_iconst (v := 0) hx hb dX9_books_128 (by decide) ?_
              exact K_y_3 _ (by simp only [↓if_neg c_6, ↓if_neg c_7, ↓if_pos c_8]) _ _ hP hD hS
            · refine lv_iconst (v := 1) hx hb dX9_books_124 (by decide) ?_
              refine lv_goto (tgt := 129) hx hb dX9_books_125 (by decide) ?_
              exact K_y_3 _ (by simp only [↓if_neg c_6, ↓if_neg c_7, ↓if_neg c_8]) _ _ hP hD hS
  refine lv_aload_n hx hb dX9_books_0 rfl (lv_at hl 0 rfl) ?_
  refine lv_iconst (v := 0) hx hb dX9_books_1 (by decide) ?_
  refine xput hx hb hts hown hK 9 (C2 := RX9) (T := TX9) (N := 23) tyX9 rfl tyX9_ok nmX9 hin_9 hP hD hS 0 rfl 11 (by decide) fl_48 rfl rfl rfl rfl rfl (Nat.le_of_ble_eq_true rfl) dX9_books_2 [(o, .inr (9, [.ref o_road, .ref o_told, .ref o_fresh, .ref o_was, .int o_acts, .ref o_kept, .ref o_isKept, .ref o_sights, .int o_many, .ref o_text, .int o_letters, .int 0, .int o_cursor, .int o_token, .int o_start, .long o_value, .int o_isFault, .int o_faultAt, .int o_above, .int o_below, .ref o_topOf, .ref o_partsOf, .ref o_sent])), (o_road, .inl (cI, 36, .inl o_road_f))] rfl (fun H locs hP hD hS => ?_)
  refine lv_iload_n hx hb dX9_books_5 rfl (lv_at hl 1 rfl) ?_
  refine lv_i2l (v := a1.toInt64) hx hb dX9_books_6 rfl ?_
  refine lv_lconst (v := 0) hx hb dX9_books_7 (by decide) ?_
  refine lv_aload_n hx hb dX9_books_8 rfl (lv_at hl 0 rfl) ?_
  refine xget hx hb hts hown hK 9 (C2 := RX9) (T := TX9) (N := 23) rfl hin_9 hP 0 rfl 0 (by decide) fl_7 rfl rfl rfl dX9_books_9 ?_
  refine lv_iconst (v := 0) hx hb dX9_books_12 (by decide) ?_
  refine xald hx hb hK hP 1 0 (k := 0) rfl rfl (vi (by decide) (by decide)) (by decide) dX9_books_13 ?_
  refine lv_i2l (v := (o_road_f 0).toInt64) hx hb dX9_books_14 rfl ?_
  refine xcalli (S := Unit) (Wc := []) (wr := [(o, .inr (9, [.ref o_road, .ref o_told, .ref o_fresh, .ref o_was, .int o_acts, .ref o_kept, .ref o_isKept, .ref o_sights, .int o_many, .ref o_text, .int o_letters, .int 0, .int o_cursor, .int o_token, .int o_start, .long o_value, .int o_isFault, .int o_faultAt, .int o_above, .int o_below, .ref o_topOf, .ref o_partsOf, .ref o_sent])), (o_road, .inl (cI, 36, .inl o_road_f))]) (W1 := (fun (u : Unit) => [])) (Wn := (fun (u : Unit) => [(o, .inr (9, [.ref o_road, .ref o_told, .ref o_fresh, .ref o_was, .int o_acts, .ref o_kept, .ref o_isKept, .ref o_sights, .int o_many, .ref o_text, .int o_letters, .int 0, .int o_cursor, .int o_token, .int o_start, .long o_value, .int o_isFault, .int o_faultAt, .int o_above, .int o_below, .ref o_topOf, .ref o_partsOf, .ref o_sent])), (o_road, .inl (cI, 36, .inl o_road_f))])) (xrunS hx hb hml hown hts (c_X9_in l D cI cZ _ a1.toInt64 0 ((o_road_f 0).toInt64) ) (va_cwS 3 hts gX9_books_X9_in rfl rfl rfl (by decide +kernel) ⟨Nat.le_of_ble_eq_true rfl, Nat.le_of_ble_eq_true rfl⟩) hE hK hP hD [] rfl rfl rfl hl.1 rfl (Nat.le_of_ble_eq_true rfl) dX9_books_15 ⟨Nat.le_of_ble_eq_true rfl, Nat.le_of_ble_eq_true rfl⟩) hP hD hS hA [] [0, 1] [0, 1] rfl rfl rfl (by decide) (fun _ => rfl) rfl (fun r1 u H locs hw hz hP hD hS => ?_)
  subst hw
  refine lv_if_eq (tgt := 37) hx hb dX9_books_18 (by decide) (fun c_1 => ?_) (fun c_1 => ?_)
  · refine lv_bipush (v := (-3)) hx hb dX9_books_37 (by decide) ?_
    exact hret _ _ _ _ (-3) (o_above, o_below) dX9_books_39 ((hF.trans (by simp only [fX9_books, ↓if_pos c_1])).symm) hP hD hS
  · have kb_c_1 : 0 ≤ a1.toInt ∧ a1.toInt ≤ (o_road_f 0).toInt := in_b c_1 (by decide) (Int32.toInt_toInt64 _)
    refine lv_iload_n hx hb dX9_books_21 rfl (lv_at hl 2 rfl) ?_
    refine lv_i2l (v := a2.toInt64) hx hb dX9_books_22 rfl ?_
    refine lv_lconst (v := 0) hx hb dX9_books_23 (by decide) ?_
    refine lv_aload_n hx hb dX9_books_24 rfl (lv_at hl 0 rfl) ?_
    refine xget hx hb hts hown hK 9 (C2 := RX9) (T := TX9) (N := 23) rfl hin_9 hP 0 rfl 0 (by decide) fl_7 rfl rfl rfl dX9_books_25 ?_
    refine lv_iconst (v := 0) hx hb dX9_books_28 (by decide) ?_
    refine xald hx hb hK hP 1 0 (k := 0) rfl rfl (vi (by decide) (by decide)) (by decide) dX9_books_29 ?_
    refine lv_i2l (v := (o_road_f 0).toInt64) hx hb dX9_books_30 rfl ?_
    refine xcalli (S := Unit) (Wc := []) (wr := [(o, .inr (9, [.ref o_road, .ref o_told, .ref o_fresh, .ref o_was, .int o_acts, .ref o_kept, .ref o_isKept, .ref o_sights, .int o_many, .ref o_text, .int o_letters, .int 0, .int o_cursor, .int o_token, .int o_start, .long o_value, .int o_isFault, .int o_faultAt, .int o_above, .int o_below, .ref o_topOf, .ref o_partsOf, .ref o_sent])), (o_road, .inl (cI, 36, .inl o_road_f))]) (W1 := (fun (u : Unit) => [])) (Wn := (fun (u : Unit) => [(o, .inr (9, [.ref o_road, .ref o_told, .ref o_fresh, .ref o_was, .int o_acts, .ref o_kept, .ref o_isKept, .ref o_sights, .int o_many, .ref o_text, .int o_letters, .int 0, .int o_cursor, .int o_token, .int o_start, .long o_value, .int o_isFault, .int o_faultAt, .int o_above, .int o_below, .ref o_topOf, .ref o_partsOf, .ref o_sent])), (o_road, .inl (cI, 36, .inl o_road_f))])) (xrunS hx hb hml hown hts (c_X9_in l D cI cZ _ a2.toInt64 0 ((o_road_f 0).toInt64) ) (va_cwS 3 hts gX9_books_X9_in rfl rfl rfl (by decide +kernel) ⟨Nat.le_of_ble_eq_true rfl, Nat.le_of_ble_eq_true rfl⟩) hE hK hP hD [] rfl rfl rfl hl.1 rfl (Nat.le_of_ble_eq_true rfl) dX9_books_31 ⟨Nat.le_of_ble_eq_true rfl, Nat.le_of_ble_eq_true rfl⟩) hP hD hS hA [] [0, 1] [0, 1] rfl rfl rfl (by decide) (fun _ => rfl) rfl (fun r2 u H locs hw hz hP hD hS => ?_)
    subst hw
    refine lv_if_ne (tgt := 40) hx hb dX9_books_34 (by decide) (fun c_2 => ?_) (fun c_2 => ?_)
    · have kb_c_2 : 0 ≤ a2.toInt ∧ a2.toInt ≤ (o_road_f 0).toInt := in_b c_2 (by decide) (Int32.toInt_toInt64 _)
      refine lv_iload_n hx hb dX9_books_40 rfl (lv_at hl 1 rfl) ?_
      refine lv_iload_n hx hb dX9_books_41 rfl (lv_at hl 2 rfl) ?_
      have K_y_1 : ∀ (y_1 : Int32) (hy_y_1 : (if a2 ≤ a1 then a2 else a1) = y_1) (H : Heap) (locs : List Loc) (hP : va_P D vwCl [(o, .inr (9, [.ref o_road, .ref o_told, .ref o_fresh, .ref o_was, .int o_acts, .ref o_kept, .ref o_isKept, .ref o_sights, .int o_many, .ref o_text, .int o_letters, .int 0, .int o_cursor, .int o_token, .int o_start, .long o_value, .int o_isFault, .int o_faultAt, .int o_above, .int o_below, .ref o_topOf, .ref o_partsOf, .ref o_sent])), (o_road, .inl (cI, 36, .inl o_road_f))] H) (hD : va_D A [(o, .inr (9, [.ref o_road, .ref o_told, .ref o_fresh, .ref o_was, .int o_acts, .ref o_kept, .ref o_isKept, .ref o_sights, .int o_many, .ref o_text, .int o_letters, .int 0, .int o_cursor, .int o_token, .int o_start, .long o_value, .int o_isFault, .int o_faultAt, .int o_above, .int o_below, .ref o_topOf, .ref o_partsOf, .ref o_sent])), (o_road, .inl (cI, 36, .inl o_road_f))]) (hS : va_S A s.heap H locs), W p l e ({ frames := 4, cells := 0, slots := 0, locals := 97 } : Room) s m ([.ref o, .int a1, .int a2] : List Value).toArray below meth c H locs 0 0 Q (F0 m 50 ls [.int y_1]) := by
        intro y_1 hy_y_1 H locs hP hD hS
        have ky_y_1 : y_1 = a1 ∨ y_1 = a2 := by rw [← hy_y_1]; (repeat' split) <;> simp
        refine lv_istore_n (lv' := [(3, .int y_1), (0, .ref o), (1, .int a1), (2, .int a2)]) hx hb dX9_books_50 rfl hl (by decide) rfl (fun ls hl => ?_)
        refine lv_iload_n hx hb dX9_books_51 rfl (lv_at hl 2 rfl) ?_
        refine lv_iload_n hx hb dX9_books_52 rfl (lv_at hl 3 rfl) ?_
        have K_y_2 : ∀ (y_2 : Int32) (hy_y_2 : (if a2 ≤ a1 then a1 else a2) = y_2) (H : Heap) (locs : List Loc) (hP : va_P D vwCl [(o, .inr (9, [.ref o_road, .ref o_told, .ref o_fresh, .ref o_was, .int o_acts, .ref o_kept, .ref o_isKept, .ref o_sights, .int o_many, .ref o_text, .int o_letters, .int 0, .int o_cursor, .int o_token, .int o_start, .long o_value, .int o_isFault, .int o_faultAt, .int o_above, .int o_below, .ref o_topOf, .ref o_partsOf, .ref o_sent])), (o_road, .inl (cI, 36, .inl o_road_f))] H) (hD : va_D A [(o, .inr (9, [.ref o_road, .ref o_told, .ref o_fresh, .ref o_was, .int o_acts, .ref o_kept, .ref o_isKept, .ref o_sights, .int o_many, .ref o_text, .int o_letters, .int 0, .int o_cursor, .int o_token, .int o_start, .long o_value, .int o_isFault, .int o_faultAt, .int o_above, .int o_below, .ref o_topOf, .ref o_partsOf, .ref o_sent])), (o_road, .inl (cI, 36, .inl o_road_f))]) (hS : va_S A s.heap H locs), W p l e ({ frames := 4, cells := 0, slots := 0, locals := 97 } : Room) s m ([.ref o, .int a1, .int a2] : List Value).toArray below meth c H locs 0 0 Q (F0 m 61 ls [.int y_2]) := by
          intro y_2 hy_y_2 H locs hP hD hS
          have ky_y_2 : y_2 = a1 ∨ y_2 = a2 := by rw [← hy_y_2]; (repeat' split) <;> simp
          refine lv_istore (lv' := [(4, .int y_2), (3, .int y_1), (0, .ref o), (1, .int a1), (2, .int a2)]) hx hb dX9_books_61 hl (by decide) rfl (fun ls hl => ?_)
          refine lv_iconst (v := 0) hx hb dX9_books_63 (by decide) ?_
          refine lv_istore (lv' := [(5, .int 0), (4, .int y_2), (3, .int y_1), (0, .ref o), (1, .int a1), (2, .int a2)]) hx hb dX9_books_64 hl (by decide) rfl (fun ls hl => ?_)
          refine lv_iconst (v := 1) hx hb dX9_books_66 (by decide) ?_
          refine lv_istore (lv' := [(6, .int 1), (5, .int 0), (4, .int y_2), (3, .int y_1), (0, .ref o), (1, .int a1), (2, .int a2)]) hx hb dX9_books_67 hl (by decide) rfl (fun ls hl => ?_)
          exact L_69 1000 y_1 y_2 0 1 o_above o_below (by first | with_reducible assumption | with_reducible omega | decide | (split <;> rename_i hh <;> first | (have h9 := t_nlt hh; with_reducible omega) | (have h9 := t_lt hh; with_reducible omega) | (have h9 := t_nle hh; with_reducible omega) | (have h9 := t_le hh; with_reducible omega))) (by first | with_reducible assumption | with_reducible omega | decide | (split <;> rename_i hh <;> first | (have h9 := t_nlt hh; with_reducible omega) | (have h9 := t_lt hh; with_reducible omega) | (have h9 := t_nle hh; with_reducible omega) | (have h9 := t_le hh; with_reducible omega))) (by first | with_reducible assumption | with_reducible omega | decide | (split <;> rename_i hh <;> first | (have h9 := t_nlt hh; with_reducible omega) | (have h9 := t_lt hh; with_reducible omega) | (have h9 := t_nle hh; with_reducible omega) | (have h9 := t_le hh; with_reducible omega))) _ _ _ (lv_sub hl [4, 5, 6, 3, 2, 1, 0] rfl) hP hD hS (hF.trans (by simp only [fX9_books, ↓if_neg c_1, ↓if_neg c_2, ↓(xlet_of hy_y_1), ↓(xlet_of hy_y_2)]))
        refine lv_icmp_ge (tgt := 60) hx hb dX9_books_53 (by decide) (fun c_4 => ?_) (fun c_4 => ?_)
        · have kc_4 := t_le c_4
          refine lv_iload_n hx hb dX9_books_60 rfl (lv_at hl 2 rfl) ?_
          exact K_y_2 _ (by simp only [↓if_pos c_4]) _ _ hP hD hS
        · have kc_4 := t_nle c_4
          refine lv_iload_n hx hb dX9_books_56 rfl (lv_at hl 3 rfl) ?_
          refine lv_goto (tgt := 61) hx hb dX9_books_57 (by decide) ?_
          exact K_y_2 _ (by simp only [↓if_neg c_4]) _ _ hP hD hS
      refine lv_icmp_ge (tgt := 49) hx hb dX9_books_42 (by decide) (fun c_3 => ?_) (fun c_3 => ?_)
      · have kc_3 := t_le c_3
        refine lv_iload_n hx hb dX9_books_49 rfl (lv_at hl 2 rfl) ?_
        exact K_y_1 _ (by simp only [↓if_pos c_3]) _ _ hP hD hS
      · have kc_3 := t_nle c_3
        refine lv_iload_n hx hb dX9_books_45 rfl (lv_at hl 1 rfl) ?_
        refine lv_goto (tgt := 50) hx hb dX9_books_46 (by decide) ?_
        exact K_y_1 _ (by simp only [↓if_neg c_3]) _ _ hP hD hS
    · refine lv_bipush (v := (-3)) hx hb dX9_books_37 (by decide) ?_
      exact hret _ _ _ _ (-3) (o_above, o_below) dX9_books_39 ((hF.trans (by simp only [fX9_books, ↓if_neg c_1, ↓if_pos c_2])).symm) hP hD hS
set_option maxRecDepth 20000 in
theorem ggX9_count_X9_layMean : GoodIn wsX9_count wsX9_layMean := goodIn_r _ [10, 11, 12, 2, 13, 14, 15, 9, 16, 17, 18, 19, 20, 21, 22, 23, 24, 25, 26, 27, 28, 29, 30, 31, 32, 33, 34, 35, 36, 37, 38, 39, 40, 41, 42, 43, 44, 45, 46, 47] (by decide +kernel) (by decide +kernel)
set_option maxRecDepth 20000 in
theorem gX9_count_X9_layMean : GoodIn wsX9_count (wsV RX9 172 RX9 yX9_layMean wsX9_layMean) := goodIn_app (goodIn_of _ (by decide +kernel)) ggX9_count_X9_layMean
theorem dX9_count_0 : decode cX9_count 0 = .ok (.aload_n 0, 1) := by decide +kernel
theorem dX9_count_1 : decode cX9_count 1 = .ok (.iconst 0, 1) := by decide +kernel
theorem dX9_count_2 : decode cX9_count 2 = .ok (.putfield 48, 3) := by decide +kernel
theorem dX9_count_5 : decode cX9_count 5 = .ok (.iconst 0, 1) := by decide +kernel
theorem dX9_count_6 : decode cX9_count 6 = .ok (.istore_n 2, 1) := by decide +kernel
theorem dX9_count_7 : decode cX9_count 7 = .ok (.iload_n 1, 1) := by decide +kernel
theorem dX9_count_8 : decode cX9_count 8 = .ok (.tableswitch 164 0 8 #[52, 59, 66, 73, 80, 111, 149, 154, 159], 52) := by decide +kernel
theorem dX9_count_60 : decode cX9_count 60 = .ok (.aload_n 0, 1) := by decide +kernel
theorem dX9_count_61 : decode cX9_count 61 = .ok (.getfield 7, 3) := by decide +kernel
theorem dX9_count_64 : decode cX9_count 64 = .ok (.iconst 0, 1) := by decide +kernel
theorem dX9_count_65 : decode cX9_count 65 = .ok (.iaload, 1) := by decide +kernel
theorem dX9_count_66 : decode cX9_count 66 = .ok (.ireturn, 1) := by decide +kernel
theorem dX9_count_67 : decode cX9_count 67 = .ok (.aload_n 0, 1) := by decide +kernel
theorem dX9_count_68 : decode cX9_count 68 = .ok (.getfield 7, 3) := by decide +kernel
theorem dX9_count_71 : decode cX9_count 71 = .ok (.iconst 2, 1) := by decide +kernel
theorem dX9_count_72 : decode cX9_count 72 = .ok (.iaload, 1) := by decide +kernel
theorem dX9_count_73 : decode cX9_count 73 = .ok (.ireturn, 1) := by decide +kernel
theorem dX9_count_74 : decode cX9_count 74 = .ok (.aload_n 0, 1) := by decide +kernel
theorem dX9_count_75 : decode cX9_count 75 = .ok (.getfield 7, 3) := by decide +kernel
theorem dX9_count_78 : decode cX9_count 78 = .ok (.iconst 1, 1) := by decide +kernel
theorem dX9_count_79 : decode cX9_count 79 = .ok (.iaload, 1) := by decide +kernel
theorem dX9_count_80 : decode cX9_count 80 = .ok (.ireturn, 1) := by decide +kernel
theorem dX9_count_81 : decode cX9_count 81 = .ok (.aload_n 0, 1) := by decide +kernel
theorem dX9_count_82 : decode cX9_count 82 = .ok (.getfield 7, 3) := by decide +kernel
theorem dX9_count_85 : decode cX9_count 85 = .ok (.iconst 3, 1) := by decide +kernel
theorem dX9_count_86 : decode cX9_count 86 = .ok (.iaload, 1) := by decide +kernel
theorem dX9_count_87 : decode cX9_count 87 = .ok (.ireturn, 1) := by decide +kernel
theorem dX9_count_88 : decode cX9_count 88 = .ok (.iconst 0, 1) := by decide +kernel
theorem dX9_count_89 : decode cX9_count 89 = .ok (.istore_n 3, 1) := by decide +kernel
theorem dX9_count_90 : decode cX9_count 90 = .ok (.iload_n 3, 1) := by decide +kernel
theorem dX9_count_91 : decode cX9_count 91 = .ok (.aload_n 0, 1) := by decide +kernel
theorem dX9_count_92 : decode cX9_count 92 = .ok (.getfield 7, 3) := by decide +kernel
theorem dX9_count_95 : decode cX9_count 95 = .ok (.iconst 0, 1) := by decide +kernel
theorem dX9_count_96 : decode cX9_count 96 = .ok (.iaload, 1) := by decide +kernel
theorem dX9_count_97 : decode cX9_count 97 = .ok (.if_icmp .ge 20, 3) := by decide +kernel
theorem dX9_count_100 : decode cX9_count 100 = .ok (.iload_n 2, 1) := by decide +kernel
theorem dX9_count_101 : decode cX9_count 101 = .ok (.aload_n 0, 1) := by decide +kernel
theorem dX9_count_102 : decode cX9_count 102 = .ok (.getfield 7, 3) := by decide +kernel
theorem dX9_count_105 : decode cX9_count 105 = .ok (.iconst 4, 1) := by decide +kernel
theorem dX9_count_106 : decode cX9_count 106 = .ok (.iload_n 3, 1) := by decide +kernel
theorem dX9_count_107 : decode cX9_count 107 = .ok (.iadd, 1) := by decide +kernel
theorem dX9_count_108 : decode cX9_count 108 = .ok (.iaload, 1) := by decide +kernel
theorem dX9_count_109 : decode cX9_count 109 = .ok (.iadd, 1) := by decide +kernel
theorem dX9_count_110 : decode cX9_count 110 = .ok (.istore_n 2, 1) := by decide +kernel
theorem dX9_count_111 : decode cX9_count 111 = .ok (.iinc 3 1, 3) := by decide +kernel
theorem dX9_count_114 : decode cX9_count 114 = .ok (.goto (-24), 3) := by decide +kernel
theorem dX9_count_117 : decode cX9_count 117 = .ok (.iload_n 2, 1) := by decide +kernel
theorem dX9_count_118 : decode cX9_count 118 = .ok (.ireturn, 1) := by decide +kernel
theorem dX9_count_119 : decode cX9_count 119 = .ok (.iconst 1, 1) := by decide +kernel
theorem dX9_count_120 : decode cX9_count 120 = .ok (.istore_n 3, 1) := by decide +kernel
theorem dX9_count_121 : decode cX9_count 121 = .ok (.iload_n 3, 1) := by decide +kernel
theorem dX9_count_122 : decode cX9_count 122 = .ok (.bipush 9, 2) := by decide +kernel
theorem dX9_count_124 : decode cX9_count 124 = .ok (.if_icmp .ge 31, 3) := by decide +kernel
theorem dX9_count_127 : decode cX9_count 127 = .ok (.iload_n 2, 1) := by decide +kernel
theorem dX9_count_128 : decode cX9_count 128 = .ok (.aload_n 0, 1) := by decide +kernel
theorem dX9_count_129 : decode cX9_count 129 = .ok (.aload_n 0, 1) := by decide +kernel
theorem dX9_count_130 : decode cX9_count 130 = .ok (.getfield 7, 3) := by decide +kernel
theorem dX9_count_133 : decode cX9_count 133 = .ok (.iconst 3, 1) := by decide +kernel
theorem dX9_count_134 : decode cX9_count 134 = .ok (.iaload, 1) := by decide +kernel
theorem dX9_count_135 : decode cX9_count 135 = .ok (.iload_n 3, 1) := by decide +kernel
theorem dX9_count_136 : decode cX9_count 136 = .ok (.invokevirtual 172, 3) := by decide +kernel
theorem dX9_count_139 : decode cX9_count 139 = .ok (.ifCond .eq 7, 3) := by decide +kernel
theorem dX9_count_142 : decode cX9_count 142 = .ok (.iconst 1, 1) := by decide +kernel
theorem dX9_count_143 : decode cX9_count 143 = .ok (.goto 4, 3) := by decide +kernel
theorem dX9_count_146 : decode cX9_count 146 = .ok (.iconst 0, 1) := by decide +kernel
theorem dX9_count_147 : decode cX9_count 147 = .ok (.iadd, 1) := by decide +kernel
theorem dX9_count_148 : decode cX9_count 148 = .ok (.istore_n 2, 1) := by decide +kernel
theorem dX9_count_149 : decode cX9_count 149 = .ok (.iinc 3 1, 3) := by decide +kernel
theorem dX9_count_152 : decode cX9_count 152 = .ok (.goto (-31), 3) := by decide +kernel
theorem dX9_count_155 : decode cX9_count 155 = .ok (.iload_n 2, 1) := by decide +kernel
theorem dX9_count_156 : decode cX9_count 156 = .ok (.ireturn, 1) := by decide +kernel
theorem dX9_count_157 : decode cX9_count 157 = .ok (.aload_n 0, 1) := by decide +kernel
theorem dX9_count_158 : decode cX9_count 158 = .ok (.getfield 128, 3) := by decide +kernel
theorem dX9_count_161 : decode cX9_count 161 = .ok (.ireturn, 1) := by decide +kernel
theorem dX9_count_162 : decode cX9_count 162 = .ok (.aload_n 0, 1) := by decide +kernel
theorem dX9_count_163 : decode cX9_count 163 = .ok (.getfield 131, 3) := by decide +kernel
theorem dX9_count_166 : decode cX9_count 166 = .ok (.ireturn, 1) := by decide +kernel
theorem dX9_count_167 : decode cX9_count 167 = .ok (.aload_n 0, 1) := by decide +kernel
theorem dX9_count_168 : decode cX9_count 168 = .ok (.getfield 58, 3) := by decide +kernel
theorem dX9_count_171 : decode cX9_count 171 = .ok (.ireturn, 1) := by decide +kernel
theorem dX9_count_172 : decode cX9_count 172 = .ok (.bipush (-3), 2) := by decide +kernel
theorem dX9_count_174 : decode cX9_count 174 = .ok (.ireturn, 1) := by decide +kernel
def fX9_count_90 (o_above : Int32) (o_below : Int32) (o_road_f : Nat → Int32)  : Nat → Int32 → Int32 → Int32 × Int32 × Int32
  | 0, _, _ => default
  | n + 1, v90_2, v90_3 => if (o_road_f 0) ≤ v90_3 then ((v90_2, o_above, o_below)) else (fX9_count_90 o_above o_below o_road_f n (v90_2 + (o_road_f (4 + v90_3).toNatClampNeg)) (v90_3 + 1))
def fX9_count_121 (o_road_f : Nat → Int32)  : Nat → Int32 → Int32 → Int32 → Int32 → Int32 × Int32 × Int32
  | 0, _, _, _, _ => default
  | n + 1, v121_2, v121_3, o_above_121, o_below_121 => if 9 ≤ v121_3 then ((v121_2, o_above_121, o_below_121)) else (match fX9_layMean (o_road_f 3) v121_3 o_road_f with | (r3, u1, u2) => xlet (if r3 = 0 then (0 : Int32) else 1) (fun y_1 => fX9_count_121 o_road_f n (v121_2 + y_1) (v121_3 + 1) u1 u2))
def fX9_count (a1 : Int32) (o_acts : Int32) (o_many : Int32) (o_letters : Int32) (o_above : Int32) (o_below : Int32) (o_road_f : Nat → Int32) : Int32 × Int32 × Int32 := if a1 = 0 then (((o_road_f 0), o_above, o_below)) else (if a1 = 1 then (((o_road_f 2), o_above, o_below)) else (if a1 = 2 then (((o_road_f 1), o_above, o_below)) else (if a1 = 3 then (((o_road_f 3), o_above, o_below)) else (if a1 = 4 then (fX9_count_90 o_above o_below o_road_f 1000 0 0) else (if a1 = 5 then (fX9_count_121 o_road_f 1000 0 1 o_above o_below) else (if a1 = 6 then ((o_many, o_above, o_below)) else (if a1 = 7 then ((o_acts, o_above, o_below)) else (if a1 = 8 then ((o_letters, o_above, o_below)) else (((-3), o_above, o_below))))))))))
set_option maxHeartbeats 4000000 in
set_option maxRecDepth 100000 in
theorem c_X9_count (l : Launch) (D : va_G) (cI cZ : ClassId) (sz : Nat) (o : Nat) (a1 : Int32) (o_road : Nat) (o_told : Nat) (o_fresh : Nat) (o_was : Nat) (o_acts : Int32) (o_kept : Nat) (o_isKept : Nat) (o_sights : Nat) (o_many : Int32) (o_text : Nat) (o_letters : Int32) (o_thrown : Int32) (o_cursor : Int32) (o_token : Int32) (o_start : Int32) (o_value : Int64) (o_isFault : Int32) (o_faultAt : Int32) (o_above : Int32) (o_below : Int32) (o_topOf : Nat) (o_partsOf : Nat) (o_sent : Nat) (o_road_f : Nat → Int32) (hn0 : 4 ≤ (o_road_f 0).toInt) (hn1 : (o_road_f 0).toInt ≤ 20) (hv0 : 0 ≤ (o_road_f 2).toInt) (hv6 : (o_road_f 2).toInt ≤ 6) (hhab : ∀ w : Int32, 0 ≤ w.toInt → w.toInt < (o_road_f 2).toInt → ¬ o_road_f (30 + w).toNatClampNeg = 0) : Met l yX9_count wsX9_count ({ frames := 4, cells := 0, slots := 0, locals := 97 } : Room) (va_Pc [.ref o, .int a1] (xP D cI cZ [(o, .inr (9, [.ref o_road, .ref o_told, .ref o_fresh, .ref o_was, .int o_acts, .ref o_kept, .ref o_isKept, .ref o_sights, .int o_many, .ref o_text, .int o_letters, .int o_thrown, .int o_cursor, .int o_token, .int o_start, .long o_value, .int o_isFault, .int o_faultAt, .int o_above, .int o_below, .ref o_topOf, .ref o_partsOf, .ref o_sent])), (o_road, .inl (cI, 36, .inl o_road_f))] sz)) (va_Qi (fun (r : Int32) (u : Int32 × Int32) => (r, u) = fX9_count a1 o_acts o_many o_letters o_above o_below o_road_f) (fun (u : Int32 × Int32) t => xB D cI cZ [(o, .inr (9, [.ref o_road, .ref o_told, .ref o_fresh, .ref o_was, .int o_acts, .ref o_kept, .ref o_isKept, .ref o_sights, .int o_many, .ref o_text, .int o_letters, .int 0, .int o_cursor, .int o_token, .int o_start, .long o_value, .int o_isFault, .int o_faultAt, .int u.1, .int u.2, .ref o_topOf, .ref o_partsOf, .ref o_sent])), (o_road, .inl (cI, 36, .inl o_road_f))] (va_A [(o, .inr (9, [.ref o_road, .ref o_told, .ref o_fresh, .ref o_was, .int o_acts, .ref o_kept, .ref o_isKept, .ref o_sights, .int o_many, .ref o_text, .int o_letters, .int o_thrown, .int o_cursor, .int o_token, .int o_start, .long o_value, .int o_isFault, .int o_faultAt, .int o_above, .int o_below, .ref o_topOf, .ref o_partsOf, .ref o_sent])), (o_road, .inl (cI, 36, .inl o_road_f))] sz) t) (va_A [(o, .inr (9, [.ref o_road, .ref o_told, .ref o_fresh, .ref o_was, .int o_acts, .ref o_kept, .ref o_isKept, .ref o_sights, .int o_many, .ref o_text, .int o_letters, .int o_thrown, .int o_cursor, .int o_token, .int o_start, .long o_value, .int o_isFault, .int o_faultAt, .int o_above, .int o_below, .ref o_topOf, .ref o_partsOf, .ref o_sent])), (o_road, .inl (cI, 36, .inl o_road_f))] sz)) 0 0 (va_A [(o, .inr (9, [.ref o_road, .ref o_told, .ref o_fresh, .ref o_was, .int o_acts, .ref o_kept, .ref o_isKept, .ref o_sights, .int o_many, .ref o_text, .int o_letters, .int o_thrown, .int o_cursor, .int o_token, .int o_start, .long o_value, .int o_isFault, .int o_faultAt, .int o_above, .int o_below, .ref o_topOf, .ref o_partsOf, .ref o_sent])), (o_road, .inl (cI, 36, .inl o_road_f))] sz) := by
  refine Met.ofW (cc := cX9_count) (maxL := 4) (ret := (some .int)) (by decide) rfl ?_
  intro p e s m args below meth c s₁ B hml hv
  obtain ⟨hargs, hsz, hP, hK, hD0, hE⟩ := hv
  subst hargs
  have hx := B.exec
  have hb := B.bytes
  have hr := B.returns
  have hts := atoms_spec (ws := wsX9_count) B.pre
  have hown : s.vm.findClass RX9 = some m.cls := findClass_of_methodNamed B.named
  have hlocks := B.notSynchronized
  subst hsz
  have hD := hD0.self (sz := s.heap.size)
  generalize hAe : va_A [(o, .inr (9, [.ref o_road, .ref o_told, .ref o_fresh, .ref o_was, .int o_acts, .ref o_kept, .ref o_isKept, .ref o_sights, .int o_many, .ref o_text, .int o_letters, .int o_thrown, .int o_cursor, .int o_token, .int o_start, .long o_value, .int o_isFault, .int o_faultAt, .int o_above, .int o_below, .ref o_topOf, .ref o_partsOf, .ref o_sent])), (o_road, .inl (cI, 36, .inl o_road_f))] s.heap.size = A at hD ⊢
  have hA : ∀ q : Nat, s.heap.size ≤ q → A q := fun q h => by rw [← hAe]; exact Or.inr h
  have hS : va_S A s.heap s.heap [] := va_S.rf
  have hl := lv_entry ([.ref o, .int a1]) (n := 4) (Nat.le_of_ble_eq_true rfl)
  rw [lg_entry_eq]
  generalize (lg_sl ([.ref o, .int a1]) ++ List.replicate (4 - (lg_sl ([.ref o, .int a1])).length) Slot.unset).toArray = ls at hl ⊢
  have hl : lv_has ls 4 [(0, .ref o), (1, .int a1)] := hl
  refine wq (X := fun Q => ∀ (pc : Nat) (H : Heap) (locs : List Loc) (ls : Array Slot) (r : Int32) (u : Int32 × Int32) (hd : decode cX9_count pc = .ok (.ireturn, 1)) (hp : (r, u) = fX9_count a1 o_acts o_many o_letters o_above o_below o_road_f) (hP : va_P D vwCl [(o, .inr (9, [.ref o_road, .ref o_told, .ref o_fresh, .ref o_was, .int o_acts, .ref o_kept, .ref o_isKept, .ref o_sights, .int o_many, .ref o_text, .int o_letters, .int 0, .int o_cursor, .int o_token, .int o_start, .long o_value, .int o_isFault, .int o_faultAt, .int u.1, .int u.2, .ref o_topOf, .ref o_partsOf, .ref o_sent])), (o_road, .inl (cI, 36, .inl o_road_f))] H) (hD : va_D A [(o, .inr (9, [.ref o_road, .ref o_told, .ref o_fresh, .ref o_was, .int o_acts, .ref o_kept, .ref o_isKept, .ref o_sights, .int o_many, .ref o_text, .int o_letters, .int 0, .int o_cursor, .int o_token, .int o_start, .long o_value, .int o_isFault, .int o_faultAt, .int u.1, .int u.2, .ref o_topOf, .ref o_partsOf, .ref o_sent])), (o_road, .inl (cI, 36, .inl o_road_f))]) (hS : va_S A s.heap H locs), W p l e ({ frames := 4, cells := 0, slots := 0, locals := 97 } : Room) s m ([.ref o, .int a1] : List Value).toArray below meth c H locs 0 0 Q (F0 m pc ls [.int r])) ?_ (fun Q hret => ?_)
  · intro pc H locs ls r u hd hp hP hD hS
    exact W.iret (v := r) hx hb hr (fun t ht hW => ⟨⟨r, u, rfl, hp, by rw [ht]; exact hP, va_K.moved hW.alike hK, hD⟩, hS.F ht⟩) hS.2.2 hd
  have hin_9 : ∀ w ∈ u_ws RX9 TX9 23, w ∈ wsX9_count := by decide +kernel
  have fl_7 := hts (.fieldLink RX9 7 "MileRoadModel" "road" "[I") (by decide +kernel)
  have fl_48 := hts (.fieldLink RX9 48 "MileRoadModel" "thrown" "I") (by decide +kernel)
  have fl_58 := hts (.fieldLink RX9 58 "MileRoadModel" "letters" "I") (by decide +kernel)
  have fl_128 := hts (.fieldLink RX9 128 "MileRoadModel" "many" "I") (by decide +kernel)
  have fl_131 := hts (.fieldLink RX9 131 "MileRoadModel" "acts" "I") (by decide +kernel)
  have zl_0 : (0 : Int32).toInt = 0 := by decide
  have zl_1 : (1 : Int32).toInt = 1 := by decide
  have zl_4 : (4 : Int32).toInt = 4 := by decide
  have zl_9 : (9 : Int32).toInt = 9 := by decide
  have hF : fX9_count a1 o_acts o_many o_letters o_above o_below o_road_f = fX9_count a1 o_acts o_many o_letters o_above o_below o_road_f := rfl
  have L_90 : ∀  (n_90 : Nat) (v90_2 : Int32) (v90_3 : Int32) (h1_90 : 0 ≤ v90_3.toInt) (h2_90 : v90_3.toInt ≤ 20) (hm : 20 - v90_3.toInt < (n_90 : Int)) (H : Heap) (locs : List Loc) (ls : Array Slot) (hl : lv_has ls 4 [(0, .ref o), (1, .int a1), (2, .int v90_2), (3, .int v90_3)]) (hP : va_P D vwCl [(o, .inr (9, [.ref o_road, .ref o_told, .ref o_fresh, .ref o_was, .int o_acts, .ref o_kept, .ref o_isKept, .ref o_sights, .int o_many, .ref o_text, .int o_letters, .int 0, .int o_cursor, .int o_token, .int o_start, .long o_value, .int o_isFault, .int o_faultAt, .int o_above, .int o_below, .ref o_topOf, .ref o_partsOf, .ref o_sent])), (o_road, .inl (cI, 36, .inl o_road_f))] H) (hD : va_D A [(o, .inr (9, [.ref o_road, .ref o_told, .ref o_fresh, .ref o_was, .int o_acts, .ref o_kept, .ref o_isKept, .ref o_sights, .int o_many, .ref o_text, .int o_letters, .int 0, .int o_cursor, .int o_token, .int o_start, .long o_value, .int o_isFault, .int o_faultAt, .int o_above, .int o_below, .ref o_topOf, .ref o_partsOf, .ref o_sent])), (o_road, .inl (cI, 36, .inl o_road_f))]) (hS : va_S A s.heap H locs) (hF : fX9_count a1 o_acts o_many o_letters o_above o_below o_road_f = fX9_count_90 o_above o_below o_road_f n_90 v90_2 v90_3), W p l e ({ frames := 4, cells := 0, slots := 0, locals := 97 } : Room) s m ([.ref o, .int a1] : List Value).toArray below meth c H locs 0 0 Q (F0 m 90 ls []) := by
    intro  n_90
    induction n_90 with
    | zero =>
      intro v90_2 v90_3 h1_90 h2_90 hm H locs ls hl hP hD hS hF
      exact absurd hm (by with_reducible omega)
    | succ n_90 ih_90 =>
      intro v90_2 v90_3 h1_90 h2_90 hm H locs ls hl hP hD hS hF
      refine lv_iload_n hx hb dX9_count_90 rfl (lv_at hl 3 rfl) ?_
      refine lv_aload_n hx hb dX9_count_91 rfl (lv_at hl 0 rfl) ?_
      refine xget hx hb hts hown hK 9 (C2 := RX9) (T := TX9) (N := 23) rfl hin_9 hP 0 rfl 0 (by decide) fl_7 rfl rfl rfl dX9_count_92 ?_
      refine lv_iconst (v := 0) hx hb dX9_count_95 (by decide) ?_
      refine xald hx hb hK hP 1 0 (k := 0) rfl rfl (vi (by decide) (by decide)) (by decide) dX9_count_96 ?_
      refine lv_icmp_ge (tgt := 117) hx hb dX9_count_97 (by decide) (fun c_10 => ?_) (fun c_10 => ?_)
      · have kc_10 := t_le c_10
        refine lv_iload_n hx hb dX9_count_117 rfl (lv_at hl 2 rfl) ?_
        exact hret _ _ _ _ v90_2 (o_above, o_below) dX9_count_118 ((hF.trans (by simp only [fX9_count_90, ↓if_pos c_10])).symm) hP hD hS
      · have kc_10 := t_nle c_10
        refine lv_iload_n hx hb dX9_count_100 rfl (lv_at hl 2 rfl) ?_
        refine lv_aload_n hx hb dX9_count_101 rfl (lv_at hl 0 rfl) ?_
        refine xget hx hb hts hown hK 9 (C2 := RX9) (T := TX9) (N := 23) rfl hin_9 hP 0 rfl 0 (by decide) fl_7 rfl rfl rfl dX9_count_102 ?_
        refine lv_iconst (v := 4) hx hb dX9_count_105 (by decide) ?_
        refine lv_iload_n hx hb dX9_count_106 rfl (lv_at hl 3 rfl) ?_
        refine lv_iadd hx hb dX9_count_107 ?_
        have z_1 : (4 + v90_3).toInt = (4 : Int32).toInt + v90_3.toInt := z_add (by with_reducible omega) (by with_reducible omega)
        refine xald hx hb hK hP 1 0 (k := (4 + v90_3).toNatClampNeg) rfl rfl (vi (by with_reducible omega) (by with_reducible omega)) rfl dX9_count_108 ?_
        refine lv_iadd hx hb dX9_count_109 ?_
        refine lv_istore_n (lv' := [(2, .int (v90_2 + (o_road_f (4 + v90_3).toNatClampNeg))), (0, .ref o), (1, .int a1), (3, .int v90_3)]) hx hb dX9_count_110 rfl hl (by decide) rfl (fun ls hl => ?_)
        refine lv_iinc (v := (v90_3 + 1)) (lv' := [(3, .int (v90_3 + 1)), (2, .int (v90_2 + (o_road_f (4 + v90_3).toNatClampNeg))), (0, .ref o), (1, .int a1)]) hx hb dX9_count_111 hl (k := 3) rfl (by rfl) (by decide) rfl (fun ls hl => ?_)
        refine lv_goto (tgt := 90) hx hb dX9_count_114 (by decide) ?_
        have z_2 : (v90_3 + 1).toInt = v90_3.toInt + (1 : Int32).toInt := z_add (by with_reducible omega) (by with_reducible omega)
        exact ih_90 (v90_2 + (o_road_f (4 + v90_3).toNatClampNeg)) (v90_3 + 1) (by first | with_reducible assumption | with_reducible omega | decide | (split <;> rename_i hh <;> first | (have h9 := t_nlt hh; with_reducible omega) | (have h9 := t_lt hh; with_reducible omega) | (have h9 := t_nle hh; with_reducible omega) | (have h9 := t_le hh; with_reducible omega))) (by first | with_reducible assumption | with_reducible omega | decide | (split <;> rename_i hh <;> first | (have h9 := t_nlt hh; with_reducible omega) | (have h9 := t_lt hh; with_reducible omega) | (have h9 := t_nle hh; with_reducible omega) | (have h9 := t_le hh; with_reducible omega))) (by first | with_reducible assumption | with_reducible omega | decide | (split <;> rename_i hh <;> first | (have h9 := t_nlt hh; with_reducible omega) | (have h9 := t_lt hh; with_reducible omega) | (have h9 := t_nle hh; with_reducible omega) | (have h9 := t_le hh; with_reducible omega))) _ _ _ (lv_sub hl [2, 3, 1, 0] rfl) hP hD hS (hF.trans (by simp only [fX9_count_90, ↓if_neg c_10]))
  have L_121 : ∀  (n_121 : Nat) (v121_2 : Int32) (v121_3 : Int32) (o_above_121 : Int32) (o_below_121 : Int32) (h1_121 : 1 ≤ v121_3.toInt) (h2_121 : v121_3.toInt ≤ 9) (hm : 9 - v121_3.toInt < (n_121 : Int)) (H : Heap) (locs : List Loc) (ls : Array Slot) (hl : lv_has ls 4 [(0, .ref o), (1, .int a1), (2, .int v121_2), (3, .int v121_3)]) (hP : va_P D vwCl [(o, .inr (9, [.ref o_road, .ref o_told, .ref o_fresh, .ref o_was, .int o_acts, .ref o_kept, .ref o_isKept, .ref o_sights, .int o_many, .ref o_text, .int o_letters, .int 0, .int o_cursor, .int o_token, .int o_start, .long o_value, .int o_isFault, .int o_faultAt, .int o_above_121, .int o_below_121, .ref o_topOf, .ref o_partsOf, .ref o_sent])), (o_road, .inl (cI, 36, .inl o_road_f))] H) (hD : va_D A [(o, .inr (9, [.ref o_road, .ref o_told, .ref o_fresh, .ref o_was, .int o_acts, .ref o_kept, .ref o_isKept, .ref o_sights, .int o_many, .ref o_text, .int o_letters, .int 0, .int o_cursor, .int o_token, .int o_start, .long o_value, .int o_isFault, .int o_faultAt, .int o_above_121, .int o_below_121, .ref o_topOf, .ref o_partsOf, .ref o_sent])), (o_road, .inl (cI, 36, .inl o_road_f))]) (hS : va_S A s.heap H locs) (hF : fX9_count a1 o_acts o_many o_letters o_above o_below o_road_f = fX9_count_121 o_road_f n_121 v121_2 v121_3 o_above_121 o_below_121), W p l e ({ frames := 4, cells := 0, slots := 0, locals := 97 } : Room) s m ([.ref o, .int a1] : List Value).toArray below meth c H locs 0 0 Q (F0 m 121 ls []) := by
    intro  n_121
    induction n_121 with
    | zero =>
      intro v121_2 v121_3 o_above_121 o_below_121 h1_121 h2_121 hm H locs ls hl hP hD hS hF
      exact absurd hm (by with_reducible omega)
    | succ n_121 ih_121 =>
      intro v121_2 v121_3 o_above_121 o_below_121 h1_121 h2_121 hm H locs ls hl hP hD hS hF
      refine lv_iload_n hx hb dX9_count_121 rfl (lv_at hl 3 rfl) ?_
      refine lv_bipush (v := 9) hx hb dX9_count_122 (by decide) ?_
      refine lv_icmp_ge (tgt := 155) hx hb dX9_count_124 (by decide) (fun c_11 => ?_) (fun c_11 => ?_)
      · have kc_11 := t_le c_11
        refine lv_iload_n hx hb dX9_count_155 rfl (lv_at hl 2 rfl) ?_
        exact hret _ _ _ _ v121_2 (o_above_121, o_below_121) dX9_count_156 ((hF.trans (by simp only [fX9_count_121, ↓if_pos c_11])).symm) hP hD hS
      · have kc_11 := t_nle c_11
        refine lv_iload_n hx hb dX9_count_127 rfl (lv_at hl 2 rfl) ?_
        refine lv_aload_n hx hb dX9_count_128 rfl (lv_at hl 0 rfl) ?_
        refine lv_aload_n hx hb dX9_count_129 rfl (lv_at hl 0 rfl) ?_
        refine xget hx hb hts hown hK 9 (C2 := RX9) (T := TX9) (N := 23) rfl hin_9 hP 0 rfl 0 (by decide) fl_7 rfl rfl rfl dX9_count_130 ?_
        refine lv_iconst (v := 3) hx hb dX9_count_133 (by decide) ?_
        refine xald hx hb hK hP 1 0 (k := 3) rfl rfl (vi (by decide) (by decide)) (by decide) dX9_count_134 ?_
        refine lv_iload_n hx hb dX9_count_135 rfl (lv_at hl 3 rfl) ?_
        refine xcalli (S := Int32 × Int32) (Wc := [(o, .inr (9, [.ref o_road, .ref o_told, .ref o_fresh, .ref o_was, .int o_acts, .ref o_kept, .ref o_isKept, .ref o_sights, .int o_many, .ref o_text, .int o_letters, .int 0, .int o_cursor, .int o_token, .int o_start, .long o_value, .int o_isFault, .int o_faultAt, .int o_above_121, .int o_below_121, .ref o_topOf, .ref o_partsOf, .ref o_sent])), (o_road, .inl (cI, 36, .inl o_road_f))]) (wr := []) (W1 := (fun (u : Int32 × Int32) => [(o, .inr (9, [.ref o_road, .ref o_told, .ref o_fresh, .ref o_was, .int o_acts, .ref o_kept, .ref o_isKept, .ref o_sights, .int o_many, .ref o_text, .int o_letters, .int 0, .int o_cursor, .int o_token, .int o_start, .long o_value, .int o_isFault, .int o_faultAt, .int u.1, .int u.2, .ref o_topOf, .ref o_partsOf, .ref o_sent])), (o_road, .inl (cI, 36, .inl o_road_f))])) (Wn := (fun (u : Int32 × Int32) => [(o, .inr (9, [.ref o_road, .ref o_told, .ref o_fresh, .ref o_was, .int o_acts, .ref o_kept, .ref o_isKept, .ref o_sights, .int o_many, .ref o_text, .int o_letters, .int 0, .int o_cursor, .int o_token, .int o_start, .long o_value, .int o_isFault, .int o_faultAt, .int u.1, .int u.2, .ref o_topOf, .ref o_partsOf, .ref o_sent])), (o_road, .inl (cI, 36, .inl o_road_f))])) (xrunV hx hb hml hown hts (c_X9_layMean l D cI cZ _ o (o_road_f 3) v121_3 o_road o_told o_fresh o_was o_acts o_kept o_isKept o_sights o_many o_text o_letters 0 o_cursor o_token o_start o_value o_isFault o_faultAt o_above_121 o_below_121 o_topOf o_partsOf o_sent o_road_f hn0 hn1 hv0 hv6 hhab) (cwV 2 hts gX9_count_X9_layMean rfl rfl rfl (by decide +kernel) ⟨Nat.le_of_ble_eq_true rfl, Nat.le_of_ble_eq_true rfl⟩) hE hK hP hD [0, 1] rfl rfl 0 9 (T := TX9) (N := 23) rfl rfl rfl hl.1 rfl (Nat.le_of_ble_eq_true rfl) dX9_count_136 ⟨Nat.le_of_ble_eq_true rfl, Nat.le_of_ble_eq_true rfl⟩) hP hD hS hA [0, 1] [] [0, 1] rfl rfl rfl (by decide) (fun _ => rfl) rfl (fun r3 u H locs hw hz hP hD hS => ?_)
        obtain ⟨u1, u2⟩ := u
        have hw_2 := hw.symm
        have hP : va_P D vwCl [(o, .inr (9, [.ref o_road, .ref o_told, .ref o_fresh, .ref o_was, .int o_acts, .ref o_kept, .ref o_isKept, .ref o_sights, .int o_many, .ref o_text, .int o_letters, .int 0, .int o_cursor, .int o_token, .int o_start, .long o_value, .int o_isFault, .int o_faultAt, .int u1, .int u2, .ref o_topOf, .ref o_partsOf, .ref o_sent])), (o_road, .inl (cI, 36, .inl o_road_f))] H := hP
        have hD : va_D A [(o, .inr (9, [.ref o_road, .ref o_told, .ref o_fresh, .ref o_was, .int o_acts, .ref o_kept, .ref o_isKept, .ref o_sights, .int o_many, .ref o_text, .int o_letters, .int 0, .int o_cursor, .int o_token, .int o_start, .long o_value, .int o_isFault, .int o_faultAt, .int u1, .int u2, .ref o_topOf, .ref o_partsOf, .ref o_sent])), (o_road, .inl (cI, 36, .inl o_road_f))] := hD
        have K_y_1 : ∀ (y_1 : Int32) (hy_y_1 : (if r3 = 0 then (0 : Int32) else 1) = y_1) (H : Heap) (locs : List Loc) (hP : va_P D vwCl [(o, .inr (9, [.ref o_road, .ref o_told, .ref o_fresh, .ref o_was, .int o_acts, .ref o_kept, .ref o_isKept, .ref o_sights, .int o_many, .ref o_text, .int o_letters, .int 0, .int o_cursor, .int o_token, .int o_start, .long o_value, .int o_isFault, .int o_faultAt, .int u1, .int u2, .ref o_topOf, .ref o_partsOf, .ref o_sent])), (o_road, .inl (cI, 36, .inl o_road_f))] H) (hD : va_D A [(o, .inr (9, [.ref o_road, .ref o_told, .ref o_fresh, .ref o_was, .int o_acts, .ref o_kept, .ref o_isKept, .ref o_sights, .int o_many, .ref o_text, .int o_letters, .int 0, .int o_cursor, .int o_token, .int o_start, .long o_value, .int o_isFault, .int o_faultAt, .int u1, .int u2, .ref o_topOf, .ref o_partsOf, .ref o_sent])), (o_road, .inl (cI, 36, .inl o_road_f))]) (hS : va_S A s.heap H locs), W p l e ({ frames := 4, cells := 0, slots := 0, locals := 97 } : Room) s m ([.ref o, .int a1] : List Value).toArray below meth c H locs 0 0 Q (F0 m 147 ls [.int y_1, .int v121_2]) := by
          intro y_1 hy_y_1 H locs hP hD hS
          have ky_y_1 : y_1 = 0 ∨ y_1 = 1 := by rw [← hy_y_1]; (repeat' split) <;> simp
          refine lv_iadd hx hb dX9_count_147 ?_
          refine lv_istore_n (lv' := [(2, .int (v121_2 + y_1)), (0, .ref o), (1, .int a1), (3, .int v121_3)]) hx hb dX9_count_148 rfl hl (by decide) rfl (fun ls hl => ?_)
          refine lv_iinc (v := (v121_3 + 1)) (lv' := [(3, .int (v121_3 + 1)), (2, .int (v121_2 + y_1)), (0, .ref o), (1, .int a1)]) hx hb dX9_count_149 hl (k := 3) rfl (by rfl) (by decide) rfl (fun ls hl => ?_)
          refine lv_goto (tgt := 121) hx hb dX9_count_152 (by decide) ?_
          have z_3 : (v121_3 + 1).toInt = v121_3.toInt + (1 : Int32).toInt := z_add (by with_reducible omega) (by with_reducible omega)
          exact ih_121 (v121_2 + y_1) (v121_3 + 1) u1 u2 (by first | with_reducible assumption | with_reducible omega | decide | (split <;> rename_i hh <;> first | (have h9 := t_nlt hh; with_reducible omega) | (have h9 := t_lt hh; with_reducible omega) | (have h9 := t_nle hh; with_reducible omega) | (have h9 := t_le hh; with_reducible omega))) (by first | with_reducible assumption | with_reducible omega | decide | (split <;> rename_i hh <;> first | (have h9 := t_nlt hh; with_reducible omega) | (have h9 := t_lt hh; with_reducible omega) | (have h9 := t_nle hh; with_reducible omega) | (have h9 := t_le hh; with_reducible omega))) (by first | with_reducible assumption | with_reducible omega | decide | (split <;> rename_i hh <;> first | (have h9 := t_nlt hh; with_reducible omega) | (have h9 := t_lt hh; with_reducible omega) | (have h9 := t_nle hh; with_reducible omega) | (have h9 := t_le hh; with_reducible omega))) _ _ _ (lv_sub hl [2, 3, 1, 0] rfl) hP hD hS (hF.trans (by simp only [fX9_count_121, ↓if_neg c_11, ↓hw_2, ↓(xlet_of hy_y_1)]))
        refine lv_if_eq (tgt := 146) hx hb dX9_count_139 (by decide) (fun c_12 => ?_) (fun c_12 => ?_)
        · have kc_12 := t_eq c_12
          refine lv_iconst (v := 0) hx hb dX9_count_146 (by decide) ?_
          exact K_y_1 _ (by simp only [↓if_pos c_12]) _ _ hP hD hS
        · have kc_12 := t_neq c_12
          refine lv_iconst (v := 1) hx hb dX9_count_142 (by decide) ?_
          refine lv_goto (tgt := 147) hx hb dX9_count_143 (by decide) ?_
          exact K_y_1 _ (by simp only [↓if_neg c_12]) _ _ hP hD hS
  refine lv_aload_n hx hb dX9_count_0 rfl (lv_at hl 0 rfl) ?_
  refine lv_iconst (v := 0) hx hb dX9_count_1 (by decide) ?_
  refine xput hx hb hts hown hK 9 (C2 := RX9) (T := TX9) (N := 23) tyX9 rfl tyX9_ok nmX9 hin_9 hP hD hS 0 rfl 11 (by decide) fl_48 rfl rfl rfl rfl rfl (Nat.le_of_ble_eq_true rfl) dX9_count_2 [(o, .inr (9, [.ref o_road, .ref o_told, .ref o_fresh, .ref o_was, .int o_acts, .ref o_kept, .ref o_isKept, .ref o_sights, .int o_many, .ref o_text, .int o_letters, .int 0, .int o_cursor, .int o_token, .int o_start, .long o_value, .int o_isFault, .int o_faultAt, .int o_above, .int o_below, .ref o_topOf, .ref o_partsOf, .ref o_sent])), (o_road, .inl (cI, 36, .inl o_road_f))] rfl (fun H locs hP hD hS => ?_)
  refine lv_iconst (v := 0) hx hb dX9_count_5 (by decide) ?_
  refine lv_istore_n (lv' := [(2, .int 0), (0, .ref o), (1, .int a1)]) hx hb dX9_count_6 rfl hl (by decide) rfl (fun ls hl => ?_)
  refine lv_iload_n hx hb dX9_count_7 rfl (lv_at hl 2 rfl) ?_
  by_cases c_1 : a1 = 0
  · refine lv_tableIn (tgt := 60) hx hb dX9_count_8 (by rw [c_1]; decide) (by rw [c_1]; decide) (by rw [c_1]; rfl) (by decide) ?_
    refine lv_aload_n hx hb dX9_count_60 rfl (lv_at hl 1 rfl) ?_
    refine xget hx hb hts hown hK 9 (C2 := RX9) (T := TX9) (N := 23) rfl hin_9 hP 0 rfl 0 (by decide) fl_7 rfl rfl rfl dX9_count_61 ?_
    refine lv_iconst (v := 0) hx hb dX9_count_64 (by decide) ?_
    refine xald hx hb hK hP 1 0 (k := 0) rfl rfl (vi (by decide) (by decide)) (by decide) dX9_count_65 ?_
    exact hret _ _ _ _ (o_road_f 0) (o_above, o_below) dX9_count_66 ((hF.trans (by simp only [fX9_count, ↓if_pos c_1])).symm) hP hD hS
  by_cases c_2 : a1 = 1
  · refine lv_tableIn (tgt := 67) hx hb dX9_count_8 (by rw [c_2]; decide) (by rw [c_2]; decide) (by rw [c_2]; rfl) (by decide) ?_
    refine lv_aload_n hx hb dX9_count_67 rfl (lv_at hl 1 rfl) ?_
    refine xget hx hb hts hown hK 9 (C2 := RX9) (T := TX9) (N := 23) rfl hin_9 hP 0 rfl 0 (by decide) fl_7 rfl rfl rfl dX9_count_68 ?_
    refine lv_iconst (v := 2) hx hb dX9_count_71 (by decide) ?_
    refine xald hx hb hK hP 1 0 (k := 2) rfl rfl (vi (by decide) (by decide)) (by decide) dX9_count_72 ?_
    exact hret _ _ _ _ (o_road_f 2) (o_above, o_below) dX9_count_73 ((hF.trans (by simp only [fX9_count, ↓if_neg c_1, ↓if_pos c_2])).symm) hP hD hS
  by_cases c_3 : a1 = 2
  · refine lv_tableIn (tgt := 74) hx hb dX9_count_8 (by rw [c_3]; decide) (by rw [c_3]; decide) (by rw [c_3]; rfl) (by decide) ?_
    refine lv_aload_n hx hb dX9_count_74 rfl (lv_at hl 1 rfl) ?_
    refine xget hx hb hts hown hK 9 (C2 := RX9) (T := TX9) (N := 23) rfl hin_9 hP 0 rfl 0 (by decide) fl_7 rfl rfl rfl dX9_count_75 ?_
    refine lv_iconst (v := 1) hx hb dX9_count_78 (by decide) ?_
    refine xald hx hb hK hP 1 0 (k := 1) rfl rfl (vi (by decide) (by decide)) (by decide) dX9_count_79 ?_
    exact hret _ _ _ _ (o_road_f 1) (o_above, o_below) dX9_count_80 ((hF.trans (by simp only [fX9_count, ↓if_neg c_1, ↓if_neg c_2, ↓if_pos c_3])).symm) hP hD hS
  by_cases c_4 : a1 = 3
  · refine lv_tableIn (tgt := 81) hx hb dX9_count_8 (by rw [c_4]; decide) (by rw [c_4]; decide) (by rw [c_4]; rfl) (by decide) ?_
    refine lv_aload_n hx hb dX9_count_81 rfl (lv_at hl 1 rfl) ?_
    refine xget hx hb hts hown hK 9 (C2 := RX9) (T := TX9) (N := 23) rfl hin_9 hP 0 rfl 0 (by decide) fl_7 rfl rfl rfl dX9_count_82 ?_
    refine lv_iconst (v := 3) hx hb dX9_count_85 (by decide) ?_
    refine xald hx hb hK hP 1 0 (k := 3) rfl rfl (vi (by decide) (by decide)) (by decide) dX9_count_86 ?_
    exact hret _ _ _ _ (o_road_f 3) (o_above, o_below) dX9_count_87 ((hF.trans (by simp only [fX9_count, ↓if_neg c_1, ↓if_neg c_2, ↓if_neg c_3, ↓if_pos c_4])).symm) hP hD hS
  by_cases c_5 : a1 = 4
  · refine lv_tableIn (tgt := 88) hx hb dX9_count_8 (by rw [c_5]; decide) (by rw [c_5]; decide) (by rw [c_5]; rfl) (by decide) ?_
    refine lv_iconst (v := 0) hx hb dX9_count_88 (by decide) ?_
    refine lv_istore_n (lv' := [(3, .int 0), (2, .int 0), (0, .ref o), (1, .int a1)]) hx hb dX9_count_89 rfl hl (by decide) rfl (fun ls hl => ?_)
    exact L_90 1000 0 0 (by first | with_reducible assumption | with_reducible omega | decide | (split <;> rename_i hh <;> first | (have h9 := t_nlt hh; with_reducible omega) | (have h9 := t_lt hh; with_reducible omega) | (have h9 := t_nle hh; with_reducible omega) | (have h9 := t_le hh; with_reducible omega))) (by first | with_reducible assumption | with_reducible omega | decide | (split <;> rename_i hh <;> first | (have h9 := t_nlt hh; with_reducible omega) | (have h9 := t_lt hh; with_reducible omega) | (have h9 := t_nle hh; with_reducible omega) | (have h9 := t_le hh; with_reducible omega))) (by first | with_reducible assumption | with_reducible omega | decide | (split <;> rename_i hh <;> first | (have h9 := t_nlt hh; with_reducible omega) | (have h9 := t_lt hh; with_reducible omega) | (have h9 := t_nle hh; with_reducible omega) | (have h9 := t_le hh; with_reducible omega))) _ _ _ (lv_sub hl [2, 3, 1, 0] rfl) hP hD hS (hF.trans (by simp only [fX9_count, ↓if_neg c_1, ↓if_neg c_2, ↓if_neg c_3, ↓if_neg c_4, ↓if_pos c_5]))
  by_cases c_6 : a1 = 5
  · refine lv_tableIn (tgt := 119) hx hb dX9_count_8 (by rw [c_6]; decide) (by rw [c_6]; decide) (by rw [c_6]; rfl) (by decide) ?_
    refine lv_iconst (v := 1) hx hb dX9_count_119 (by decide) ?_
    refine lv_istore_n (lv' := [(3, .int 1), (2, .int 0), (0, .ref o), (1, .int a1)]) hx hb dX9_count_120 rfl hl (by decide) rfl (fun ls hl => ?_)
    exact L_121 1000 0 1 o_above o_below (by first | with_reducible assumption | with_reducible omega | decide | (split <;> rename_i hh <;> first | (have h9 := t_nlt hh; with_reducible omega) | (have h9 := t_lt hh; with_reducible omega) | (have h9 := t_nle hh; with_reducible omega) | (have h9 := t_le hh; with_reducible omega))) (by first | with_reducible assumption | with_reducible omega | decide | (split <;> rename_i hh <;> first | (have h9 := t_nlt hh; with_reducible omega) | (have h9 := t_lt hh; with_reducible omega) | (have h9 := t_nle hh; with_reducible omega) | (have h9 := t_le hh; with_reducible omega))) (by first | with_reducible assumption | with_reducible omega | decide | (split <;> rename_i hh <;> first | (have h9 := t_nlt hh; with_reducible omega) | (have h9 := t_lt hh; with_reducible omega) | (have h9 := t_nle hh; with_reducible omega) | (have h9 := t_le hh; with_reducible omega))) _ _ _ (lv_sub hl [2, 3, 1, 0] rfl) hP hD hS (hF.trans (by simp only [fX9_count, ↓if_neg c_1, ↓if_neg c_2, ↓if_neg c_3, ↓if_neg c_4, ↓if_neg c_5, ↓if_pos c_6]))
  by_cases c_7 : a1 = 6
  · refine lv_tableIn (tgt := 157) hx hb dX9_count_8 (by rw [c_7]; decide) (by rw [c_7]; decide) (by rw [c_7]; rfl) (by decide) ?_
    refine lv_aload_n hx hb dX9_count_157 rfl (lv_at hl 1 rfl) ?_
    refine xget hx hb hts hown hK 9 (C2 := RX9) (T := TX9) (N := 23) rfl hin_9 hP 0 rfl 8 (by decide) fl_128 rfl rfl rfl dX9_count_158 ?_
    exact hret _ _ _ _ o_many (o_above, o_below) dX9_count_161 ((hF.trans (by simp only [fX9_count, ↓if_neg c_1, ↓if_neg c_2, ↓if_neg c_3, ↓if_neg c_4, ↓if_neg c_5, ↓if_neg c_6, ↓if_pos c_7])).symm) hP hD hS
  by_cases c_8 : a1 = 7
  · refine lv_tableIn (tgt := 162) hx hb dX9_count_8 (by rw [c_8]; decide) (by rw [c_8]; decide) (by rw [c_8]; rfl) (by decide) ?_
    refine lv_aload_n hx hb dX9_count_162 rfl (lv_at hl 1 rfl) ?_
    refine xget hx hb hts hown hK 9 (C2 := RX9) (T := TX9) (N := 23) rfl hin_9 hP 0 rfl 4 (by decide) fl_131 rfl rfl rfl dX9_count_163 ?_
    exact hret _ _ _ _ o_acts (o_above, o_below) dX9_count_166 ((hF.trans (by simp only [fX9_count, ↓if_neg c_1, ↓if_neg c_2, ↓if_neg c_3, ↓if_neg c_4, ↓if_neg c_5, ↓if_neg c_6, ↓if_neg c_7, ↓if_pos c_8])).symm) hP hD hS
  by_cases c_9 : a1 = 8
  · refine lv_tableIn (tgt := 167) hx hb dX9_count_8 (by rw [c_9]; decide) (by rw [c_9]; decide) (by rw [c_9]; rfl) (by decide) ?_
    refine lv_aload_n hx hb dX9_count_167 rfl (lv_at hl 1 rfl) ?_
    refine xget hx hb hts hown hK 9 (C2 := RX9) (T := TX9) (N := 23) rfl hin_9 hP 0 rfl 10 (by decide) fl_58 rfl rfl rfl dX9_count_168 ?_
    exact hret _ _ _ _ o_letters (o_above, o_below) dX9_count_171 ((hF.trans (by simp only [fX9_count, ↓if_neg c_1, ↓if_neg c_2, ↓if_neg c_3, ↓if_neg c_4, ↓if_neg c_5, ↓if_neg c_6, ↓if_neg c_7, ↓if_neg c_8, ↓if_pos c_9])).symm) hP hD hS
  · refine lv_tableOut (tgt := 172) hx hb dX9_count_8 (by have := t_nel 0 (k := 0) rfl c_1; have := t_nel 1 (k := 1) rfl c_2; have := t_nel 2 (k := 2) rfl c_3; have := t_nel 3 (k := 3) rfl c_4; have := t_nel 4 (k := 4) rfl c_5; have := t_nel 5 (k := 5) rfl c_6; have := t_nel 6 (k := 6) rfl c_7; have := t_nel 7 (k := 7) rfl c_8; have := t_nel 8 (k := 8) rfl c_9; with_reducible omega) (by decide) ?_
    refine lv_bipush (v := (-3)) hx hb dX9_count_172 (by decide) ?_
    exact hret _ _ _ _ (-3) (o_above, o_below) dX9_count_174 ((hF.trans (by simp only [fX9_count, ↓if_neg c_1, ↓if_neg c_2, ↓if_neg c_3, ↓if_neg c_4, ↓if_neg c_5, ↓if_neg c_6, ↓if_neg c_7, ↓if_neg c_8, ↓if_neg c_9])).symm) hP hD hS
