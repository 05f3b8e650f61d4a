set_option maxRecDepth 20000 in
theorem ggX9_law_X9_in : GoodIn wsX9_law wsX9_in := goodIn_r _ [9] (by decide +kernel) (by decide +kernel)
set_option maxRecDepth 20000 in
theorem gX9_law_X9_in : GoodIn wsX9_law (va_wsS RX9 52 yX9_in wsX9_in) := goodIn_app (goodIn_of _ (by decide +kernel)) ggX9_law_X9_in
set_option maxRecDepth 20000 in
theorem ggX9_law_X9_layMean : GoodIn wsX9_law wsX9_layMean := goodIn_r _ [13, 4, 5, 3, 14, 15, 16, 8, 17, 18, 19, 20, 21, 22, 23, 24, 25, 29, 30, 31, 32, 33, 34, 35, 36, 37, 38, 39, 40, 41, 42, 43, 44, 45, 46, 47, 48, 49, 50, 51] (by decide +kernel) (by decide +kernel)
set_option maxRecDepth 20000 in
theorem gX9_law_X9_layMean : GoodIn wsX9_law (wsV RX9 172 RX9 yX9_layMean wsX9_layMean) := goodIn_app (goodIn_of _ (by decide +kernel)) ggX9_law_X9_layMean
set_option maxRecDepth 20000 in
theorem ggX9_law_X9_common : GoodIn wsX9_law wsX9_common := goodIn_r _ [28] (by decide +kernel) (by decide +kernel)
set_option maxRecDepth 20000 in
theorem gX9_law_X9_common : GoodIn wsX9_law (va_wsS RX9 176 yX9_common wsX9_common) := goodIn_app (goodIn_of _ (by decide +kernel)) ggX9_law_X9_common
theorem dX9_law_0 : decode cX9_law 0 = .ok (.aload_n 0, 1) := by decide +kernel
theorem dX9_law_1 : decode cX9_law 1 = .ok (.iconst 0, 1) := by decide +kernel
theorem dX9_law_2 : decode cX9_law 2 = .ok (.putfield 48, 3) := by decide +kernel
theorem dX9_law_5 : decode cX9_law 5 = .ok (.iload_n 1, 1) := by decide +kernel
theorem dX9_law_6 : decode cX9_law 6 = .ok (.i2l, 1) := by decide +kernel
theorem dX9_law_7 : decode cX9_law 7 = .ok (.lconst 1, 1) := by decide +kernel
theorem dX9_law_8 : decode cX9_law 8 = .ok (.ldc2_w 164, 3) := by decide +kernel
theorem dX9_law_11 : decode cX9_law 11 = .ok (.invokestatic 52, 3) := by decide +kernel
theorem dX9_law_14 : decode cX9_law 14 = .ok (.ifCond .eq 13, 3) := by decide +kernel
theorem dX9_law_17 : decode cX9_law 17 = .ok (.iload_n 2, 1) := by decide +kernel
theorem dX9_law_18 : decode cX9_law 18 = .ok (.i2l, 1) := by decide +kernel
theorem dX9_law_19 : decode cX9_law 19 = .ok (.lconst 0, 1) := by decide +kernel
theorem dX9_law_20 : decode cX9_law 20 = .ok (.lconst 1, 1) := by decide +kernel
theorem dX9_law_21 : decode cX9_law 21 = .ok (.invokestatic 52, 3) := by decide +kernel
theorem dX9_law_24 : decode cX9_law 24 = .ok (.ifCond .ne 6, 3) := by decide +kernel
theorem dX9_law_27 : decode cX9_law 27 = .ok (.bipush (-3), 2) := by decide +kernel
theorem dX9_law_29 : decode cX9_law 29 = .ok (.ireturn, 1) := by decide +kernel
theorem dX9_law_30 : decode cX9_law 30 = .ok (.aload_n 0, 1) := by decide +kernel
theorem dX9_law_31 : decode cX9_law 31 = .ok (.aload_n 0, 1) := by decide +kernel
theorem dX9_law_32 : decode cX9_law 32 = .ok (.getfield 7, 3) := by decide +kernel
theorem dX9_law_35 : decode cX9_law 35 = .ok (.iconst 3, 1) := by decide +kernel
theorem dX9_law_36 : decode cX9_law 36 = .ok (.iaload, 1) := by decide +kernel
theorem dX9_law_37 : decode cX9_law 37 = .ok (.iload_n 1, 1) := by decide +kernel
theorem dX9_law_38 : decode cX9_law 38 = .ok (.invokevirtual 172, 3) := by decide +kernel
theorem dX9_law_41 : decode cX9_law 41 = .ok (.ifCond .ne 5, 3) := by decide +kernel
theorem dX9_law_44 : decode cX9_law 44 = .ok (.iconst (-1), 1) := by decide +kernel
theorem dX9_law_45 : decode cX9_law 45 = .ok (.ireturn, 1) := by decide +kernel
theorem dX9_law_46 : decode cX9_law 46 = .ok (.aload_n 0, 1) := by decide +kernel
theorem dX9_law_47 : decode cX9_law 47 = .ok (.getfield 166, 3) := by decide +kernel
theorem dX9_law_50 : decode cX9_law 50 = .ok (.i2l, 1) := by decide +kernel
theorem dX9_law_51 : decode cX9_law 51 = .ok (.aload_n 0, 1) := by decide +kernel
theorem dX9_law_52 : decode cX9_law 52 = .ok (.getfield 169, 3) := by decide +kernel
theorem dX9_law_55 : decode cX9_law 55 = .ok (.i2l, 1) := by decide +kernel
theorem dX9_law_56 : decode cX9_law 56 = .ok (.invokestatic 176, 3) := by decide +kernel
theorem dX9_law_59 : decode cX9_law 59 = .ok (.l2i, 1) := by decide +kernel
theorem dX9_law_60 : decode cX9_law 60 = .ok (.istore_n 3, 1) := by decide +kernel
theorem dX9_law_61 : decode cX9_law 61 = .ok (.iload_n 2, 1) := by decide +kernel
theorem dX9_law_62 : decode cX9_law 62 = .ok (.ifCond .ne 10, 3) := by decide +kernel
theorem dX9_law_65 : decode cX9_law 65 = .ok (.aload_n 0, 1) := by decide +kernel
theorem dX9_law_66 : decode cX9_law 66 = .ok (.getfield 166, 3) := by decide +kernel
theorem dX9_law_69 : decode cX9_law 69 = .ok (.goto 7, 3) := by decide +kernel
theorem dX9_law_72 : decode cX9_law 72 = .ok (.aload_n 0, 1) := by decide +kernel
theorem dX9_law_73 : decode cX9_law 73 = .ok (.getfield 169, 3) := by decide +kernel
theorem dX9_law_76 : decode cX9_law 76 = .ok (.iload_n 3, 1) := by decide +kernel
theorem dX9_law_77 : decode cX9_law 77 = .ok (.idiv, 1) := by decide +kernel
theorem dX9_law_78 : decode cX9_law 78 = .ok (.ireturn, 1) := by decide +kernel
def fX9_law (a1 : Int32) (a2 : Int32) (o_above : Int32) (o_below : Int32) (o_road_f : Nat → Int32) : Int32 × Int32 × Int32 := if (fX9_in a1.toInt64 1 8) = 0 then (((-3), o_above, o_below)) else (if (fX9_in a2.toInt64 0 1) = 0 then (((-3), o_above, o_below)) else (match fX9_layMean (o_road_f 3) a1 o_road_f with | (r5, u3, u4) => if r5 = 0 then (((-1), u3, u4)) else (xlet (if a2 = 0 then u3 else u4) (fun y_1 => ((y_1 / (fX9_common u3.toInt64 u4.toInt64).toInt32), u3, u4)))))
set_option maxHeartbeats 4000000 in
set_option maxRecDepth 100000 in
theorem c_X9_law (l : Launch) (D : va_G) (cI cZ : ClassId) (sz : Nat) (o : Nat) (a1 : Int32) (a2 : Int32) (o_road : Nat) (o_told : Nat) (o_fresh : Nat) (o_was : Nat) (o_acts : Int32) (o_kept : Nat) (o_isKept : Nat) (o_sights : Nat) (o_many : Int32) (o_text : Nat) (o_letters : Int32) (o_thrown : Int32) (o_cursor : Int32) (o_token : Int32) (o_start : Int32) (o_value : Int64) (o_isFault : Int32) (o_faultAt : Int32) (o_above : Int32) (o_below : Int32) (o_topOf : Nat) (o_partsOf : Nat) (o_sent : Nat) (o_road_f : Nat → Int32) (hn0 : 4 ≤ (o_road_f 0).toInt) (hn1 : (o_road_f 0).toInt ≤ 20) (hv0 : 0 ≤ (o_road_f 2).toInt) (hv6 : (o_road_f 2).toInt ≤ 6) (hhab : ∀ w : Int32, 0 ≤ w.toInt → w.toInt < (o_road_f 2).toInt → ¬ o_road_f (30 + w).toNatClampNeg = 0) : Met l yX9_law wsX9_law ({ frames := 4, cells := 0, slots := 0, locals := 97 } : Room) (va_Pc [.ref o, .int a1, .int a2] (xP D cI cZ [(o, .inr (9, [.ref o_road, .ref o_told, .ref o_fresh, .ref o_was, .int o_acts, .ref o_kept, .ref o_isKept, .ref o_sights, .int o_many, .ref o_text, .int o_letters, .int o_thrown, .int o_cursor, .int o_token, .int o_start, .long o_value, .int o_isFault, .int o_faultAt, .int o_above, .int o_below, .ref o_topOf, .ref o_partsOf, .ref o_sent])), (o_road, .inl (cI, 36, .inl o_road_f))] sz)) (va_Qi (fun (r : Int32) (u : Int32 × Int32) => (r, u) = fX9_law a1 a2 o_above o_below o_road_f) (fun (u : Int32 × Int32) t => xB D cI cZ [(o, .inr (9, [.ref o_road, .ref o_told, .ref o_fresh, .ref o_was, .int o_acts, .ref o_kept, .ref o_isKept, .ref o_sights, .int o_many, .ref o_text, .int o_letters, .int 0, .int o_cursor, .int o_token, .int o_start, .long o_value, .int o_isFault, .int o_faultAt, .int u.1, .int u.2, .ref o_topOf, .ref o_partsOf, .ref o_sent])), (o_road, .inl (cI, 36, .inl o_road_f))] (va_A [(o, .inr (9, [.ref o_road, .ref o_told, .ref o_fresh, .ref o_was, .int o_acts, .ref o_kept, .ref o_isKept, .ref o_sights, .int o_many, .ref o_text, .int o_letters, .int o_thrown, .int o_cursor, .int o_token, .int o_start, .long o_value, .int o_isFault, .int o_faultAt, .int o_above, .int o_below, .ref o_topOf, .ref o_partsOf, .ref o_sent])), (o_road, .inl (cI, 36, .inl o_road_f))] sz) t) (va_A [(o, .inr (9, [.ref o_road, .ref o_told, .ref o_fresh, .ref o_was, .int o_acts, .ref o_kept, .ref o_isKept, .ref o_sights, .int o_many, .ref o_text, .int o_letters, .int o_thrown, .int o_cursor, .int o_token, .int o_start, .long o_value, .int o_isFault, .int o_faultAt, .int o_above, .int o_below, .ref o_topOf, .ref o_partsOf, .ref o_sent])), (o_road, .inl (cI, 36, .inl o_road_f))] sz)) 0 0 (va_A [(o, .inr (9, [.ref o_road, .ref o_told, .ref o_fresh, .ref o_was, .int o_acts, .ref o_kept, .ref o_isKept, .ref o_sights, .int o_many, .ref o_text, .int o_letters, .int o_thrown, .int o_cursor, .int o_token, .int o_start, .long o_value, .int o_isFault, .int o_faultAt, .int o_above, .int o_below, .ref o_topOf, .ref o_partsOf, .ref o_sent])), (o_road, .inl (cI, 36, .inl o_road_f))] sz) := by
  refine Met.ofW (cc := cX9_law) (maxL := 4) (ret := (some .int)) (by decide) rfl ?_
  intro p e s m args below meth c s₁ B hml hv
  obtain ⟨hargs, hsz, hP, hK, hD0, hE⟩ := hv
  subst hargs
  have hx := B.exec
  have hb := B.bytes
  have hr := B.returns
  have hts := atoms_spec (ws := wsX9_law) B.pre
  have hown : s.vm.findClass RX9 = some m.cls := findClass_of_methodNamed B.named
  have hlocks := B.notSynchronized
  subst hsz
  have hD := hD0.self (sz := s.heap.size)
  generalize hAe : va_A [(o, .inr (9, [.ref o_road, .ref o_told, .ref o_fresh, .ref o_was, .int o_acts, .ref o_kept, .ref o_isKept, .ref o_sights, .int o_many, .ref o_text, .int o_letters, .int o_thrown, .int o_cursor, .int o_token, .int o_start, .long o_value, .int o_isFault, .int o_faultAt, .int o_above, .int o_below, .ref o_topOf, .ref o_partsOf, .ref o_sent])), (o_road, .inl (cI, 36, .inl o_road_f))] s.heap.size = A at hD ⊢
  have hA : ∀ q : Nat, s.heap.size ≤ q → A q := fun q h => by rw [← hAe]; exact Or.inr h
  have hS : va_S A s.heap s.heap [] := va_S.rf
  have hl := lv_entry ([.ref o, .int a1, .int a2]) (n := 4) (Nat.le_of_ble_eq_true rfl)
  rw [lg_entry_eq]
  generalize (lg_sl ([.ref o, .int a1, .int a2]) ++ List.replicate (4 - (lg_sl ([.ref o, .int a1, .int a2])).length) Slot.unset).toArray = ls at hl ⊢
  have hl : lv_has ls 4 [(0, .ref o), (1, .int a1), (2, .int a2)] := hl
  refine wq (X := fun Q => ∀ (pc : Nat) (H : Heap) (locs : List Loc) (ls : Array Slot) (r : Int32) (u : Int32 × Int32) (hd : decode cX9_law pc = .ok (.ireturn, 1)) (hp : (r, u) = fX9_law a1 a2 o_above o_below o_road_f) (hP : va_P D vwCl [(o, .inr (9, [.ref o_road, .ref o_told, .ref o_fresh, .ref o_was, .int o_acts, .ref o_kept, .ref o_isKept, .ref o_sights, .int o_many, .ref o_text, .int o_letters, .int 0, .int o_cursor, .int o_token, .int o_start, .long o_value, .int o_isFault, .int o_faultAt, .int u.1, .int u.2, .ref o_topOf, .ref o_partsOf, .ref o_sent])), (o_road, .inl (cI, 36, .inl o_road_f))] H) (hD : va_D A [(o, .inr (9, [.ref o_road, .ref o_told, .ref o_fresh, .ref o_was, .int o_acts, .ref o_kept, .ref o_isKept, .ref o_sights, .int o_many, .ref o_text, .int o_letters, .int 0, .int o_cursor, .int o_token, .int o_start, .long o_value, .int o_isFault, .int o_faultAt, .int u.1, .int u.2, .ref o_topOf, .ref o_partsOf, .ref o_sent])), (o_road, .inl (cI, 36, .inl o_road_f))]) (hS : va_S A s.heap H locs), W p l e ({ frames := 4, cells := 0, slots := 0, locals := 97 } : Room) s m ([.ref o, .int a1, .int a2] : List Value).toArray below meth c H locs 0 0 Q (F0 m pc ls [.int r])) ?_ (fun Q hret => ?_)
  · intro pc H locs ls r u hd hp hP hD hS
    exact W.iret (v := r) hx hb hr (fun t ht hW => ⟨⟨r, u, rfl, hp, by rw [ht]; exact hP, va_K.moved hW.alike hK, hD⟩, hS.F ht⟩) hS.2.2 hd
  have hin_9 : ∀ w ∈ u_ws RX9 TX9 23, w ∈ wsX9_law := by decide +kernel
  have fl_7 := hts (.fieldLink RX9 7 "MileRoadModel" "road" "[I") (by decide +kernel)
  have fl_48 := hts (.fieldLink RX9 48 "MileRoadModel" "thrown" "I") (by decide +kernel)
  have fl_166 := hts (.fieldLink RX9 166 "MileRoadModel" "above" "I") (by decide +kernel)
  have fl_169 := hts (.fieldLink RX9 169 "MileRoadModel" "below" "I") (by decide +kernel)
  have zl_0 : (0 : Int32).toInt = 0 := by decide
  have hF : fX9_law a1 a2 o_above o_below o_road_f = fX9_law a1 a2 o_above o_below o_road_f := rfl
  refine lv_aload_n hx hb dX9_law_0 rfl (lv_at hl 0 rfl) ?_
  refine lv_iconst (v := 0) hx hb dX9_law_1 (by decide) ?_
  refine xput hx hb hts hown hK 9 (C2 := RX9) (T := TX9) (N := 23) tyX9 rfl tyX9_ok nmX9 hin_9 hP hD hS 0 rfl 11 (by decide) fl_48 rfl rfl rfl rfl rfl (Nat.le_of_ble_eq_true rfl) dX9_law_2 [(o, .inr (9, [.ref o_road, .ref o_told, .ref o_fresh, .ref o_was, .int o_acts, .ref o_kept, .ref o_isKept, .ref o_sights, .int o_many, .ref o_text, .int o_letters, .int 0, .int o_cursor, .int o_token, .int o_start, .long o_value, .int o_isFault, .int o_faultAt, .int o_above, .int o_below, .ref o_topOf, .ref o_partsOf, .ref o_sent])), (o_road, .inl (cI, 36, .inl o_road_f))] rfl (fun H locs hP hD hS => ?_)
  refine lv_iload_n hx hb dX9_law_5 rfl (lv_at hl 1 rfl) ?_
  refine lv_i2l (v := a1.toInt64) hx hb dX9_law_6 rfl ?_
  refine lv_lconst (v := 1) hx hb dX9_law_7 (by decide) ?_
  refine lv_ldc2 (v := 8) hx hb hown (hts (.constantLong RX9 164 8) (by decide +kernel)) dX9_law_8 ?_
  refine xcalli (S := Unit) (Wc := []) (wr := [(o, .inr (9, [.ref o_road, .ref o_told, .ref o_fresh, .ref o_was, .int o_acts, .ref o_kept, .ref o_isKept, .ref o_sights, .int o_many, .ref o_text, .int o_letters, .int 0, .int o_cursor, .int o_token, .int o_start, .long o_value, .int o_isFault, .int o_faultAt, .int o_above, .int o_below, .ref o_topOf, .ref o_partsOf, .ref o_sent])), (o_road, .inl (cI, 36, .inl o_road_f))]) (W1 := (fun (u : Unit) => [])) (Wn := (fun (u : Unit) => [(o, .inr (9, [.ref o_road, .ref o_told, .ref o_fresh, .ref o_was, .int o_acts, .ref o_kept, .ref o_isKept, .ref o_sights, .int o_many, .ref o_text, .int o_letters, .int 0, .int o_cursor, .int o_token, .int o_start, .long o_value, .int o_isFault, .int o_faultAt, .int o_above, .int o_below, .ref o_topOf, .ref o_partsOf, .ref o_sent])), (o_road, .inl (cI, 36, .inl o_road_f))])) (xrunS hx hb hml hown hts (c_X9_in l D cI cZ _ a1.toInt64 1 8 ) (va_cwS 3 hts gX9_law_X9_in rfl rfl rfl (by decide +kernel) ⟨Nat.le_of_ble_eq_true rfl, Nat.le_of_ble_eq_true rfl⟩) hE hK hP hD [] rfl rfl rfl hl.1 rfl (Nat.le_of_ble_eq_true rfl) dX9_law_11 ⟨Nat.le_of_ble_eq_true rfl, Nat.le_of_ble_eq_true rfl⟩) hP hD hS hA [] [0, 1] [0, 1] rfl rfl rfl (by decide) (fun _ => rfl) rfl (fun r1 u H locs hw hz hP hD hS => ?_)
  subst hw
  refine lv_if_eq (tgt := 27) hx hb dX9_law_14 (by decide) (fun c_1 => ?_) (fun c_1 => ?_)
  · refine lv_bipush (v := (-3)) hx hb dX9_law_27 (by decide) ?_
    exact hret _ _ _ _ (-3) (o_above, o_below) dX9_law_29 ((hF.trans (by simp only [fX9_law, ↓if_pos c_1])).symm) hP hD hS
  · have kb_c_1 : 1 ≤ a1.toInt ∧ a1.toInt ≤ 8 := in_b c_1 (by decide) (by decide)
    refine lv_iload_n hx hb dX9_law_17 rfl (lv_at hl 2 rfl) ?_
    refine lv_i2l (v := a2.toInt64) hx hb dX9_law_18 rfl ?_
    refine lv_lconst (v := 0) hx hb dX9_law_19 (by decide) ?_
    refine lv_lconst (v := 1) hx hb dX9_law_20 (by decide) ?_
    refine xcalli (S := Unit) (Wc := []) (wr := [(o, .inr (9, [.ref o_road, .ref o_told, .ref o_fresh, .ref o_was, .int o_acts, .ref o_kept, .ref o_isKept, .ref o_sights, .int o_many, .ref o_text, .int o_letters, .int 0, .int o_cursor, .int o_token, .int o_start, .long o_value, .int o_isFault, .int o_faultAt, .int o_above, .int o_below, .ref o_topOf, .ref o_partsOf, .ref o_sent])), (o_road, .inl (cI, 36, .inl o_road_f))]) (W1 := (fun (u : Unit) => [])) (Wn := (fun (u : Unit) => [(o, .inr (9, [.ref o_road, .ref o_told, .ref o_fresh, .ref o_was, .int o_acts, .ref o_kept, .ref o_isKept, .ref o_sights, .int o_many, .ref o_text, .int o_letters, .int 0, .int o_cursor, .int o_token, .int o_start, .long o_value, .int o_isFault, .int o_faultAt, .int o_above, .int o_below, .ref o_topOf, .ref o_partsOf, .ref o_sent])), (o_road, .inl (cI, 36, .inl o_road_f))])) (xrunS hx hb hml hown hts (c_X9_in l D cI cZ _ a2.toInt64 0 1 ) (va_cwS 3 hts gX9_law_X9_in rfl rfl rfl (by decide +kernel) ⟨Nat.le_of_ble_eq_true rfl, Nat.le_of_ble_eq_true rfl⟩) hE hK hP hD [] rfl rfl rfl hl.1 rfl (Nat.le_of_ble_eq_true rfl) dX9_law_21 ⟨Nat.le_of_ble_eq_true rfl, Nat.le_of_ble_eq_true rfl⟩) hP hD hS hA [] [0, 1] [0, 1] rfl rfl rfl (by decide) (fun _ => rfl) rfl (fun r2 u H locs hw hz hP hD hS => ?_)
    subst hw
    refine lv_if_ne (tgt := 30) hx hb dX9_law_24 (by decide) (fun c_2 => ?_) (fun c_2 => ?_)
    · have kb_c_2 : 0 ≤ a2.toInt ∧ a2.toInt ≤ 1 := in_b c_2 (by decide) (by decide)
      refine lv_aload_n hx hb dX9_law_30 rfl (lv_at hl 0 rfl) ?_
      refine lv_aload_n hx hb dX9_law_31 rfl (lv_at hl 0 rfl) ?_
      refine xget hx hb hts hown hK 9 (C2 := RX9) (T := TX9) (N := 23) rfl hin_9 hP 0 rfl 0 (by decide) fl_7 rfl rfl rfl dX9_law_32 ?_
      refine lv_iconst (v := 3) hx hb dX9_law_35 (by decide) ?_
      refine xald hx hb hK hP 1 0 (k := 3) rfl rfl (vi (by decide) (by decide)) (by decide) dX9_law_36 ?_
      refine lv_iload_n hx hb dX9_law_37 rfl (lv_at hl 1 rfl) ?_
      refine xcalli (S := Int32 × Int32) (Wc := [(o, .inr (9, [.ref o_road, .ref o_told, .ref o_fresh, .ref o_was, .int o_acts, .ref o_kept, .ref o_isKept, .ref o_sights, .int o_many, .ref o_text, .int o_letters, .int 0, .int o_cursor, .int o_token, .int o_start, .long o_value, .int o_isFault, .int o_faultAt, .int o_above, .int o_below, .ref o_topOf, .ref o_partsOf, .ref o_sent])), (o_road, .inl (cI, 36, .inl o_road_f))]) (wr := []) (W1 := (fun (u : Int32 × Int32) => [(o, .inr (9, [.ref o_road, .ref o_told, .ref o_fresh, .ref o_was, .int o_acts, .ref o_kept, .ref o_isKept, .ref o_sights, .int o_many, .ref o_text, .int o_letters, .int 0, .int o_cursor, .int o_token, .int o_start, .long o_value, .int o_isFault, .int o_faultAt, .int u.1, .int u.2, .ref o_topOf, .ref o_partsOf, .ref o_sent])), (o_road, .inl (cI, 36, .inl o_road_f))])) (Wn := (fun (u : Int32 × Int32) => [(o, .inr (9, [.ref o_road, .ref o_told, .ref o_fresh, .ref o_was, .int o_acts, .ref o_kept, .ref o_isKept, .ref o_sights, .int o_many, .ref o_text, .int o_letters, .int 0, .int o_cursor, .int o_token, .int o_start, .long o_value, .int o_isFault, .int o_faultAt, .int u.1, .int u.2, .ref o_topOf, .ref o_partsOf, .ref o_sent])), (o_road, .inl (cI, 36, .inl o_road_f))])) (xrunV hx hb hml hown hts (c_X9_layMean l D cI cZ _ o (o_road_f 3) a1 o_road o_told o_fresh o_was o_acts o_kept o_isKept o_sights o_many o_text o_letters 0 o_cursor o_token o_start o_value o_isFault o_faultAt o_above o_below o_topOf o_partsOf o_sent o_road_f hn0 hn1 hv0 hv6 hhab) (cwV 2 hts gX9_law_X9_layMean rfl rfl rfl (by decide +kernel) ⟨Nat.le_of_ble_eq_true rfl, Nat.le_of_ble_eq_true rfl⟩) hE hK hP hD [0, 1] rfl rfl 0 9 (T := TX9) (N := 23) rfl rfl rfl hl.1 rfl (Nat.le_of_ble_eq_true rfl) dX9_law_38 ⟨Nat.le_of_ble_eq_true rfl, Nat.le_of_ble_eq_true rfl⟩) hP hD hS hA [0, 1] [] [0, 1] rfl rfl rfl (by decide) (fun _ => rfl) rfl (fun r5 u H locs hw hz hP hD hS => ?_)
      obtain ⟨u3, u4⟩ := u
      have hw_3 := hw.symm
      have hP : va_P D vwCl [(o, .inr (9, [.ref o_road, .ref o_told, .ref o_fresh, .ref o_was, .int o_acts, .ref o_kept, .ref o_isKept, .ref o_sights, .int o_many, .ref o_text, .int o_letters, .int 0, .int o_cursor, .int o_token, .int o_start, .long o_value, .int o_isFault, .int o_faultAt, .int u3, .int u4, .ref o_topOf, .ref o_partsOf, .ref o_sent])), (o_road, .inl (cI, 36, .inl o_road_f))] H := hP
      have hD : va_D A [(o, .inr (9, [.ref o_road, .ref o_told, .ref o_fresh, .ref o_was, .int o_acts, .ref o_kept, .ref o_isKept, .ref o_sights, .int o_many, .ref o_text, .int o_letters, .int 0, .int o_cursor, .int o_token, .int o_start, .long o_value, .int o_isFault, .int o_faultAt, .int u3, .int u4, .ref o_topOf, .ref o_partsOf, .ref o_sent])), (o_road, .inl (cI, 36, .inl o_road_f))] := hD
      refine lv_if_ne (tgt := 46) hx hb dX9_law_41 (by decide) (fun c_3 => ?_) (fun c_3 => ?_)
      · have kc_3 := t_neq c_3
        have hb9 := layMean_b (st := o_road_f 3) (k := a1) hn0 hn1 hv6
        rw [hw_3] at hb9
        refine lv_aload_n hx hb dX9_law_46 rfl (lv_at hl 0 rfl) ?_
        refine xget hx hb hts hown hK 9 (C2 := RX9) (T := TX9) (N := 23) rfl hin_9 hP 0 rfl 18 (by decide) fl_166 rfl rfl rfl dX9_law_47 ?_
        refine lv_i2l (v := u3.toInt64) hx hb dX9_law_50 rfl ?_
        refine lv_aload_n hx hb dX9_law_51 rfl (lv_at hl 0 rfl) ?_
        refine xget hx hb hts hown hK 9 (C2 := RX9) (T := TX9) (N := 23) rfl hin_9 hP 0 rfl 19 (by decide) fl_169 rfl rfl rfl dX9_law_52 ?_
        refine lv_i2l (v := u4.toInt64) hx hb dX9_law_55 rfl ?_
        refine xcalll (S := Unit) (Wc := []) (wr := [(o, .inr (9, [.ref o_road, .ref o_told, .ref o_fresh, .ref o_was, .int o_acts, .ref o_kept, .ref o_isKept, .ref o_sights, .int o_many, .ref o_text, .int o_letters, .int 0, .int o_cursor, .int o_token, .int o_start, .long o_value, .int o_isFault, .int o_faultAt, .int u3, .int u4, .ref o_topOf, .ref o_partsOf, .ref o_sent])), (o_road, .inl (cI, 36, .inl o_road_f))]) (W1 := (fun (u : Unit) => [])) (Wn := (fun (u : Unit) => [(o, .inr (9, [.ref o_road, .ref o_told, .ref o_fresh, .ref o_was, .int o_acts, .ref o_kept, .ref o_isKept, .ref o_sights, .int o_many, .ref o_text, .int o_letters, .int 0, .int o_cursor, .int o_token, .int o_start, .long o_value, .int o_isFault, .int o_faultAt, .int u3, .int u4, .ref o_topOf, .ref o_partsOf, .ref o_sent])), (o_road, .inl (cI, 36, .inl o_road_f))])) (xrunS hx hb hml hown hts (c_X9_common l D cI cZ _ u3.toInt64 u4.toInt64 (by rw [Int32.toInt_toInt64]; exact hb9.1) (by rw [Int32.toInt_toInt64]; exact hb9.2.2.1) (by rw [Int32.toInt_toInt64]; exact Int.le_trans hb9.2.2.2.1 (by decide))) (va_cwS 2 hts gX9_law_X9_common rfl rfl rfl (by decide +kernel) ⟨Nat.le_of_ble_eq_true rfl, Nat.le_of_ble_eq_true rfl⟩) hE hK hP hD [] rfl rfl rfl hl.1 rfl (Nat.le_of_ble_eq_true rfl) dX9_law_56 ⟨Nat.le_of_ble_eq_true rfl, Nat.le_of_ble_eq_true rfl⟩) hP hD hS hA [] [0, 1] [0, 1] rfl rfl rfl (by decide) (fun _ => rfl) rfl (fun r6 u H locs hw hz hP hD hS => ?_)
        subst hw
        refine lv_l2i (v := (fX9_common u3.toInt64 u4.toInt64).toInt32) hx hb dX9_law_59 rfl ?_
        refine lv_istore_n (lv' := [(3, .int (fX9_common u3.toInt64 u4.toInt64).toInt32), (0, .ref o), (1, .int a1), (2, .int a2)]) hx hb dX9_law_60 rfl hl (by decide) rfl (fun ls hl => ?_)
        refine lv_iload_n hx hb dX9_law_61 rfl (lv_at hl 3 rfl) ?_
        have K_y_1 : ∀ (y_1 : Int32) (hy_y_1 : (if a2 = 0 then u3 else u4) = y_1) (H : Heap) (locs : List Loc) (hP : va_P D vwCl [(o, .inr (9, [.ref o_road, .ref o_told, .ref o_fresh, .ref o_was, .int o_acts, .ref o_kept, .ref o_isKept, .ref o_sights, .int o_many, .ref o_text, .int o_letters, .int 0, .int o_cursor, .int o_token, .int o_start, .long o_value, .int o_isFault, .int o_faultAt, .int u3, .int u4, .ref o_topOf, .ref o_partsOf, .ref o_sent])), (o_road, .inl (cI, 36, .inl o_road_f))] H) (hD : va_D A [(o, .inr (9, [.ref o_road, .ref o_told, .ref o_fresh, .ref o_was, .int o_acts, .ref o_kept, .ref o_isKept, .ref o_sights, .int o_many, .ref o_text, .int o_letters, .int 0, .int o_cursor, .int o_token, .int o_start, .long o_value, .int o_isFault, .int o_faultAt, .int u3, .int u4, .ref o_topOf, .ref o_partsOf, .ref o_sent])), (o_road, .inl (cI, 36, .inl o_road_f))]) (hS : va_S A s.heap H locs), W p l e ({ frames := 4, cells := 0, slots := 0, locals := 97 } : Room) s m ([.ref o, .int a1, .int a2] : List Value).toArray below meth c H locs 0 0 Q (F0 m 76 ls [.int y_1]) := by
          intro y_1 hy_y_1 H locs hP hD hS
          have ky_y_1 : y_1 = u3 ∨ y_1 = u4 := by rw [← hy_y_1]; (repeat' split) <;> simp
          refine lv_iload_n hx hb dX9_law_76 rfl (lv_at hl 0 rfl) ?_
          refine lv_idiv hx hb dX9_law_77 (common_ne0 hb9.1 (hb9.2.2.2.2 ‹¬ r5 = 0›) (Int.le_trans hb9.2.2.2.1 (by decide))) ?_
          exact hret _ _ _ _ (y_1 / (fX9_common u3.toInt64 u4.toInt64).toInt32) (u3, u4) dX9_law_78 ((hF.trans (by simp only [fX9_law, ↓if_neg c_1, ↓if_neg c_2, ↓hw_3, ↓if_neg c_3, ↓(xlet_of hy_y_1)])).symm) hP hD hS
        refine lv_if_ne (tgt := 72) hx hb dX9_law_62 (by decide) (fun c_4 => ?_) (fun c_4 => ?_)
        · have kc_4 := t_neq c_4
          refine lv_aload_n hx hb dX9_law_72 rfl (lv_at hl 1 rfl) ?_
          refine xget hx hb hts hown hK 9 (C2 := RX9) (T := TX9) (N := 23) rfl hin_9 hP 0 rfl 19 (by decide) fl_169 rfl rfl rfl dX9_law_73 ?_
          exact K_y_1 _ (by simp only [↓if_neg c_4]) _ _ hP hD hS
        · have kc_4 := t_eq c_4
          refine lv_aload_n hx hb dX9_law_65 rfl (lv_at hl 1 rfl) ?_
          refine xget hx hb hts hown hK 9 (C2 := RX9) (T := TX9) (N := 23) rfl hin_9 hP 0 rfl 18 (by decide) fl_166 rfl rfl rfl dX9_law_66 ?_
          refine lv_goto (tgt := 76) hx hb dX9_law_69 (by decide) ?_
          exact K_y_1 _ (by simp only [↓if_pos c_4]) _ _ hP hD hS
      · have kc_3 := t_eq c_3
        refine lv_iconst (v := (-1)) hx hb dX9_law_44 (by decide) ?_
        exact hret _ _ _ _ (-1) (u3, u4) dX9_law_45 ((hF.trans (by simp only [fX9_law, ↓if_neg c_1, ↓if_neg c_2, ↓hw_3, ↓if_pos c_3])).symm) hP hD hS
    · refine lv_bipush (v := (-3)) hx hb dX9_law_27 (by decide) ?_
      exact hret _ _ _ _ (-3) (o_above, o_below) dX9_law_29 ((hF.trans (by simp only [fX9_law, ↓if_neg c_1, ↓if_pos c_2])).symm) hP hD hS
