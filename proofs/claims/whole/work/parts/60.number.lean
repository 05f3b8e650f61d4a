set_option maxRecDepth 20000 in
theorem ggX9_number_X9_in : GoodIn wsX9_number wsX9_in := goodIn_r _ [7] (by decide +kernel) (by decide +kernel)
set_option maxRecDepth 20000 in
theorem gX9_number_X9_in : GoodIn wsX9_number (va_wsS RX9 52 yX9_in wsX9_in) := goodIn_app (goodIn_of _ (by decide +kernel)) ggX9_number_X9_in
set_option maxRecDepth 20000 in
theorem ggX9_number_X9_bad : GoodIn wsX9_number wsX9_bad := goodIn_r _ [11, 3, 12, 13, 34, 35, 36, 37, 38, 39, 40, 41, 42, 43, 44, 45, 46, 47, 48, 49, 50, 51, 52, 53, 54, 55, 56] (by decide +kernel) (by decide +kernel)
set_option maxRecDepth 20000 in
theorem gX9_number_X9_bad : GoodIn wsX9_number (wsV RX9 102 RX9 yX9_bad wsX9_bad) := goodIn_app (goodIn_of _ (by decide +kernel)) ggX9_number_X9_bad
set_option maxRecDepth 20000 in
theorem ggX9_number_X9_next : GoodIn wsX9_number wsX9_next := goodIn_r _ [17, 18, 19, 20, 13, 2, 1, 21, 22, 23, 24, 25, 6, 26, 27, 28, 4, 5, 7, 29, 30, 31, 32, 33, 34, 35, 36, 37, 38, 39, 40, 41, 42, 43, 44, 45, 46, 47, 48, 49, 50, 51, 52, 53, 54, 55, 56] (by decide +kernel) (by decide +kernel)
set_option maxRecDepth 20000 in
theorem gX9_number_X9_next : GoodIn wsX9_number (wsV RX9 105 RX9 yX9_next wsX9_next) := goodIn_app (goodIn_of _ (by decide +kernel)) ggX9_number_X9_next
theorem dX9_number_0 : decode cX9_number 0 = .ok (.aload_n 0, 1) := by decide +kernel
theorem dX9_number_1 : decode cX9_number 1 = .ok (.getfield 79, 3) := by decide +kernel
theorem dX9_number_4 : decode cX9_number 4 = .ok (.iconst 2, 1) := by decide +kernel
theorem dX9_number_5 : decode cX9_number 5 = .ok (.if_icmp .ne 17, 3) := by decide +kernel
theorem dX9_number_8 : decode cX9_number 8 = .ok (.aload_n 0, 1) := by decide +kernel
theorem dX9_number_9 : decode cX9_number 9 = .ok (.getfield 75, 3) := by decide +kernel
theorem dX9_number_12 : decode cX9_number 12 = .ok (.iload_n 1, 1) := by decide +kernel
theorem dX9_number_13 : decode cX9_number 13 = .ok (.i2l, 1) := by decide +kernel
theorem dX9_number_14 : decode cX9_number 14 = .ok (.iload_n 2, 1) := by decide +kernel
theorem dX9_number_15 : decode cX9_number 15 = .ok (.i2l, 1) := by decide +kernel
theorem dX9_number_16 : decode cX9_number 16 = .ok (.invokestatic 52, 3) := by decide +kernel
theorem dX9_number_19 : decode cX9_number 19 = .ok (.ifCond .ne 7, 3) := by decide +kernel
theorem dX9_number_22 : decode cX9_number 22 = .ok (.aload_n 0, 1) := by decide +kernel
theorem dX9_number_23 : decode cX9_number 23 = .ok (.invokevirtual 102, 3) := by decide +kernel
theorem dX9_number_26 : decode cX9_number 26 = .ok (.aload_n 0, 1) := by decide +kernel
theorem dX9_number_27 : decode cX9_number 27 = .ok (.getfield 75, 3) := by decide +kernel
theorem dX9_number_30 : decode cX9_number 30 = .ok (.l2i, 1) := by decide +kernel
theorem dX9_number_31 : decode cX9_number 31 = .ok (.istore_n 3, 1) := by decide +kernel
theorem dX9_number_32 : decode cX9_number 32 = .ok (.aload_n 0, 1) := by decide +kernel
theorem dX9_number_33 : decode cX9_number 33 = .ok (.getfield 95, 3) := by decide +kernel
theorem dX9_number_36 : decode cX9_number 36 = .ok (.ifCond .ne 7, 3) := by decide +kernel
theorem dX9_number_39 : decode cX9_number 39 = .ok (.aload_n 0, 1) := by decide +kernel
theorem dX9_number_40 : decode cX9_number 40 = .ok (.invokevirtual 105, 3) := by decide +kernel
theorem dX9_number_43 : decode cX9_number 43 = .ok (.iload_n 3, 1) := by decide +kernel
theorem dX9_number_44 : decode cX9_number 44 = .ok (.ireturn, 1) := by decide +kernel
def fX9_number (a1 : Int32) (a2 : Int32) (o_letters : Int32) (o_cursor : Int32) (o_token : Int32) (o_start : Int32) (o_value : Int64) (o_isFault : Int32) (o_faultAt : Int32) (o_text_f : Nat → Int32) : Int32 × Int32 × Int32 × Int32 × Int64 × Int32 × Int32 := if o_token = 2 then (if (fX9_in o_value a1.toInt64 a2.toInt64) = 0 then (xlet (fX9_bad o_start o_isFault o_faultAt) (fun u11 => if (1 : Int32) = 0 then (match fX9_next o_letters o_cursor o_text_f with | (u12, u13, u14, u15) => (o_value.toInt32, u12, u13, u14, u15, 1, u11)) else ((o_value.toInt32, o_cursor, o_token, o_start, o_value, 1, u11)))) else (if o_isFault = 0 then (match fX9_next o_letters o_cursor o_text_f with | (u7, u8, u9, u10) => (o_value.toInt32, u7, u8, u9, u10, o_isFault, o_faultAt)) else ((o_value.toInt32, o_cursor, o_token, o_start, o_value, o_isFault, o_faultAt)))) else (xlet (fX9_bad o_start o_isFault o_faultAt) (fun u1 => if (1 : Int32) = 0 then (match fX9_next o_letters o_cursor o_text_f with | (u2, u3, u4, u5) => (o_value.toInt32, u2, u3, u4, u5, 1, u1)) else ((o_value.toInt32, o_cursor, o_token, o_start, o_value, 1, u1))))
set_option maxHeartbeats 4000000 in
set_option maxRecDepth 100000 in
theorem c_X9_number (l : Launch) (D : va_G) (cI cZ : ClassId) (sz : Nat) (o : Nat) (a1 : Int32) (a2 : Int32) (o_road : Nat) (o_told : Nat) (o_fresh : Nat) (o_was : Nat) (o_acts : Int32) (o_kept : Nat) (o_isKept : Nat) (o_sights : Nat) (o_many : Int32) (o_text : Nat) (o_letters : Int32) (o_thrown : Int32) (o_cursor : Int32) (o_token : Int32) (o_start : Int32) (o_value : Int64) (o_isFault : Int32) (o_faultAt : Int32) (o_above : Int32) (o_below : Int32) (o_topOf : Nat) (o_partsOf : Nat) (o_sent : Nat) (o_text_f : Nat → Int32) (hl0 : 0 ≤ o_letters.toInt) (hl1 : o_letters.toInt ≤ 160) (hc0 : 0 ≤ o_cursor.toInt) (hc1 : o_cursor.toInt ≤ o_letters.toInt) : Met l yX9_number wsX9_number ({ frames := 3, cells := 0, slots := 0, locals := 65 } : Room) (va_Pc [.ref o, .int a1, .int a2] (xP D cI cZ [(o, .inr (9, [.ref o_road, .ref o_told, .ref o_fresh, .ref o_was, .int o_acts, .ref o_kept, .ref o_isKept, .ref o_sights, .int o_many, .ref o_text, .int o_letters, .int o_thrown, .int o_cursor, .int o_token, .int o_start, .long o_value, .int o_isFault, .int o_faultAt, .int o_above, .int o_below, .ref o_topOf, .ref o_partsOf, .ref o_sent])), (o_text, .inl (cI, 160, .inl o_text_f))] sz)) (va_Qi (fun (r : Int32) (u : Int32 × Int32 × Int32 × Int64 × Int32 × Int32) => (r, u) = fX9_number a1 a2 o_letters o_cursor o_token o_start o_value o_isFault o_faultAt o_text_f) (fun (u : Int32 × Int32 × Int32 × Int64 × Int32 × Int32) t => xB D cI cZ [(o, .inr (9, [.ref o_road, .ref o_told, .ref o_fresh, .ref o_was, .int o_acts, .ref o_kept, .ref o_isKept, .ref o_sights, .int o_many, .ref o_text, .int o_letters, .int o_thrown, .int u.1, .int u.2.1, .int u.2.2.1, .long u.2.2.2.1, .int u.2.2.2.2.1, .int u.2.2.2.2.2, .int o_above, .int o_below, .ref o_topOf, .ref o_partsOf, .ref o_sent])), (o_text, .inl (cI, 160, .inl o_text_f))] (va_A [(o, .inr (9, [.ref o_road, .ref o_told, .ref o_fresh, .ref o_was, .int o_acts, .ref o_kept, .ref o_isKept, .ref o_sights, .int o_many, .ref o_text, .int o_letters, .int o_thrown, .int o_cursor, .int o_token, .int o_start, .long o_value, .int o_isFault, .int o_faultAt, .int o_above, .int o_below, .ref o_topOf, .ref o_partsOf, .ref o_sent])), (o_text, .inl (cI, 160, .inl o_text_f))] sz) t) (va_A [(o, .inr (9, [.ref o_road, .ref o_told, .ref o_fresh, .ref o_was, .int o_acts, .ref o_kept, .ref o_isKept, .ref o_sights, .int o_many, .ref o_text, .int o_letters, .int o_thrown, .int o_cursor, .int o_token, .int o_start, .long o_value, .int o_isFault, .int o_faultAt, .int o_above, .int o_below, .ref o_topOf, .ref o_partsOf, .ref o_sent])), (o_text, .inl (cI, 160, .inl o_text_f))] sz)) 0 0 (va_A [(o, .inr (9, [.ref o_road, .ref o_told, .ref o_fresh, .ref o_was, .int o_acts, .ref o_kept, .ref o_isKept, .ref o_sights, .int o_many, .ref o_text, .int o_letters, .int o_thrown, .int o_cursor, .int o_token, .int o_start, .long o_value, .int o_isFault, .int o_faultAt, .int o_above, .int o_below, .ref o_topOf, .ref o_partsOf, .ref o_sent])), (o_text, .inl (cI, 160, .inl o_text_f))] sz) := by
  refine Met.ofW (cc := cX9_number) (maxL := 4) (ret := (some .int)) (by decide) rfl ?_
  intro p e s m args below meth c s₁ B hml hv
  obtain ⟨hargs, hsz, hP, hK, hD0, hE⟩ := hv
  subst hargs
  have hx := B.exec
  have hb := B.bytes
  have hr := B.returns
  have hts := atoms_spec (ws := wsX9_number) B.pre
  have hown : s.vm.findClass RX9 = some m.cls := findClass_of_methodNamed B.named
  have hlocks := B.notSynchronized
  subst hsz
  have hD := hD0.self (sz := s.heap.size)
  generalize hAe : va_A [(o, .inr (9, [.ref o_road, .ref o_told, .ref o_fresh, .ref o_was, .int o_acts, .ref o_kept, .ref o_isKept, .ref o_sights, .int o_many, .ref o_text, .int o_letters, .int o_thrown, .int o_cursor, .int o_token, .int o_start, .long o_value, .int o_isFault, .int o_faultAt, .int o_above, .int o_below, .ref o_topOf, .ref o_partsOf, .ref o_sent])), (o_text, .inl (cI, 160, .inl o_text_f))] s.heap.size = A at hD ⊢
  have hA : ∀ q : Nat, s.heap.size ≤ q → A q := fun q h => by rw [← hAe]; exact Or.inr h
  have hS : va_S A s.heap s.heap [] := va_S.rf
  have hl := lv_entry ([.ref o, .int a1, .int a2]) (n := 4) (Nat.le_of_ble_eq_true rfl)
  rw [lg_entry_eq]
  generalize (lg_sl ([.ref o, .int a1, .int a2]) ++ List.replicate (4 - (lg_sl ([.ref o, .int a1, .int a2])).length) Slot.unset).toArray = ls at hl ⊢
  have hl : lv_has ls 4 [(0, .ref o), (1, .int a1), (2, .int a2)] := hl
  refine wq (X := fun Q => ∀ (pc : Nat) (H : Heap) (locs : List Loc) (ls : Array Slot) (r : Int32) (u : Int32 × Int32 × Int32 × Int64 × Int32 × Int32) (hd : decode cX9_number pc = .ok (.ireturn, 1)) (hp : (r, u) = fX9_number a1 a2 o_letters o_cursor o_token o_start o_value o_isFault o_faultAt o_text_f) (hP : va_P D vwCl [(o, .inr (9, [.ref o_road, .ref o_told, .ref o_fresh, .ref o_was, .int o_acts, .ref o_kept, .ref o_isKept, .ref o_sights, .int o_many, .ref o_text, .int o_letters, .int o_thrown, .int u.1, .int u.2.1, .int u.2.2.1, .long u.2.2.2.1, .int u.2.2.2.2.1, .int u.2.2.2.2.2, .int o_above, .int o_below, .ref o_topOf, .ref o_partsOf, .ref o_sent])), (o_text, .inl (cI, 160, .inl o_text_f))] H) (hD : va_D A [(o, .inr (9, [.ref o_road, .ref o_told, .ref o_fresh, .ref o_was, .int o_acts, .ref o_kept, .ref o_isKept, .ref o_sights, .int o_many, .ref o_text, .int o_letters, .int o_thrown, .int u.1, .int u.2.1, .int u.2.2.1, .long u.2.2.2.1, .int u.2.2.2.2.1, .int u.2.2.2.2.2, .int o_above, .int o_below, .ref o_topOf, .ref o_partsOf, .ref o_sent])), (o_text, .inl (cI, 160, .inl o_text_f))]) (hS : va_S A s.heap H locs), W p l e ({ frames := 3, cells := 0, slots := 0, locals := 65 } : Room) s m ([.ref o, .int a1, .int a2] : List Value).toArray below meth c H locs 0 0 Q (F0 m pc ls [.int r])) ?_ (fun Q hret => ?_)
  · intro pc H locs ls r u hd hp hP hD hS
    exact W.iret (v := r) hx hb hr (fun t ht hW => ⟨⟨r, u, rfl, hp, by rw [ht]; exact hP, va_K.moved hW.alike hK, hD⟩, hS.F ht⟩) hS.2.2 hd
  have hin_9 : ∀ w ∈ u_ws RX9 TX9 23, w ∈ wsX9_number := by decide +kernel
  have fl_75 := hts (.fieldLink RX9 75 "MileRoadModel" "value" "J") (by decide +kernel)
  have fl_79 := hts (.fieldLink RX9 79 "MileRoadModel" "token" "I") (by decide +kernel)
  have fl_95 := hts (.fieldLink RX9 95 "MileRoadModel" "isFault" "Z") (by decide +kernel)
  have zl_0 : (0 : Int32).toInt = 0 := by decide
  have zl_1 : (1 : Int32).toInt = 1 := by decide
  have zl_2 : (2 : Int32).toInt = 2 := by decide
  have hF : fX9_number a1 a2 o_letters o_cursor o_token o_start o_value o_isFault o_faultAt o_text_f = fX9_number a1 a2 o_letters o_cursor o_token o_start o_value o_isFault o_faultAt o_text_f := rfl
  refine lv_aload_n hx hb dX9_number_0 rfl (lv_at hl 0 rfl) ?_
  refine xget hx hb hts hown hK 9 (C2 := RX9) (T := TX9) (N := 23) rfl hin_9 hP 0 rfl 13 (by decide) fl_79 rfl rfl rfl dX9_number_1 ?_
  refine lv_iconst (v := 2) hx hb dX9_number_4 (by decide) ?_
  refine lv_icmp_ne (tgt := 22) hx hb dX9_number_5 (by decide) (fun c_1 => ?_) (fun c_1 => ?_)
  · have kc_1 := t_neq c_1
    refine lv_aload_n hx hb dX9_number_22 rfl (lv_at hl 0 rfl) ?_
    refine xcallv (S := Int32) (Wc := [(o, .inr (9, [.ref o_road, .ref o_told, .ref o_fresh, .ref o_was, .int o_acts, .ref o_kept, .ref o_isKept, .ref o_sights, .int o_many, .ref o_text, .int o_letters, .int o_thrown, .int o_cursor, .int o_token, .int o_start, .long o_value, .int o_isFault, .int o_faultAt, .int o_above, .int o_below, .ref o_topOf, .ref o_partsOf, .ref o_sent]))]) (wr := [(o_text, .inl (cI, 160, .inl o_text_f))]) (W1 := (fun (u : Int32) => [(o, .inr (9, [.ref o_road, .ref o_told, .ref o_fresh, .ref o_was, .int o_acts, .ref o_kept, .ref o_isKept, .ref o_sights, .int o_many, .ref o_text, .int o_letters, .int o_thrown, .int o_cursor, .int o_token, .int o_start, .long o_value, .int 1, .int u, .int o_above, .int o_below, .ref o_topOf, .ref o_partsOf, .ref o_sent]))])) (Wn := (fun (u : Int32) => [(o, .inr (9, [.ref o_road, .ref o_told, .ref o_fresh, .ref o_was, .int o_acts, .ref o_kept, .ref o_isKept, .ref o_sights, .int o_many, .ref o_text, .int o_letters, .int o_thrown, .int o_cursor, .int o_token, .int o_start, .long o_value, .int 1, .int u, .int o_above, .int o_below, .ref o_topOf, .ref o_partsOf, .ref o_sent])), (o_text, .inl (cI, 160, .inl o_text_f))])) (xrunV hx hb hml hown hts (c_X9_bad l D cI cZ _ o o_road o_told o_fresh o_was o_acts o_kept o_isKept o_sights o_many o_text o_letters o_thrown o_cursor o_token o_start o_value o_isFault o_faultAt o_above o_below o_topOf o_partsOf o_sent ) (cwV 0 hts gX9_number_X9_bad rfl rfl rfl (by decide +kernel) ⟨Nat.le_of_ble_eq_true rfl, Nat.le_of_ble_eq_true rfl⟩) hE hK hP hD [0] rfl rfl 0 9 (T := TX9) (N := 23) rfl rfl rfl hl.1 rfl (Nat.le_of_ble_eq_true rfl) dX9_number_23 ⟨Nat.le_of_ble_eq_true rfl, Nat.le_of_ble_eq_true rfl⟩) hP hD hS hA [0] [1] [1, 0] rfl rfl rfl (by decide) (fun _ => rfl) rfl (fun  u H locs hw hz hP hD hS => ?_)
    obtain ⟨u1, hu⟩ : ∃ z, z = u := ⟨u, rfl⟩
    subst hu
    have hw_2 := hw.symm
    have hP : va_P D vwCl [(o, .inr (9, [.ref o_road, .ref o_told, .ref o_fresh, .ref o_was, .int o_acts, .ref o_kept, .ref o_isKept, .ref o_sights, .int o_many, .ref o_text, .int o_letters, .int o_thrown, .int o_cursor, .int o_token, .int o_start, .long o_value, .int 1, .int u1, .int o_above, .int o_below, .ref o_topOf, .ref o_partsOf, .ref o_sent])), (o_text, .inl (cI, 160, .inl o_text_f))] H := hP
    have hD : va_D A [(o, .inr (9, [.ref o_road, .ref o_told, .ref o_fresh, .ref o_was, .int o_acts, .ref o_kept, .ref o_isKept, .ref o_sights, .int o_many, .ref o_text, .int o_letters, .int o_thrown, .int o_cursor, .int o_token, .int o_start, .long o_value, .int 1, .int u1, .int o_above, .int o_below, .ref o_topOf, .ref o_partsOf, .ref o_sent])), (o_text, .inl (cI, 160, .inl o_text_f))] := hD
    refine lv_aload_n hx hb dX9_number_26 rfl (lv_at hl 0 rfl) ?_
    refine xget hx hb hts hown hK 9 (C2 := RX9) (T := TX9) (N := 23) rfl hin_9 hP 0 rfl 15 (by decide) fl_75 rfl rfl rfl dX9_number_27 ?_
    refine lv_l2i (v := o_value.toInt32) hx hb dX9_number_30 rfl ?_
    refine lv_istore_n (lv' := [(3, .int o_value.toInt32), (0, .ref o), (1, .int a1), (2, .int a2)]) hx hb dX9_number_31 rfl hl (by decide) rfl (fun ls hl => ?_)
    refine lv_aload_n hx hb dX9_number_32 rfl (lv_at hl 1 rfl) ?_
    refine xget hx hb hts hown hK 9 (C2 := RX9) (T := TX9) (N := 23) rfl hin_9 hP 0 rfl 16 (by decide) fl_95 rfl rfl rfl dX9_number_33 ?_
    refine lv_if_ne (tgt := 43) hx hb dX9_number_36 (by decide) (fun c_2 => ?_) (fun c_2 => ?_)
    · have kc_2 := t_neq c_2
      refine lv_iload_n hx hb dX9_number_43 rfl (lv_at hl 0 rfl) ?_
      exact hret _ _ _ _ o_value.toInt32 (o_cursor, o_token, o_start, o_value, 1, u1) dX9_number_44 ((hF.trans (by simp only [fX9_number, ↓if_neg c_1, ↓(xlet_of hw_2), ↓if_neg c_2])).symm) hP hD hS
    · have kc_2 := t_eq c_2
      refine lv_aload_n hx hb dX9_number_39 rfl (lv_at hl 1 rfl) ?_
      refine xcallv (S := Int32 × Int32 × Int32 × Int64) (Wc := [(o, .inr (9, [.ref o_road, .ref o_told, .ref o_fresh, .ref o_was, .int o_acts, .ref o_kept, .ref o_isKept, .ref o_sights, .int o_many, .ref o_text, .int o_letters, .int o_thrown, .int o_cursor, .int o_token, .int o_start, .long o_value, .int 1, .int u1, .int o_above, .int o_below, .ref o_topOf, .ref o_partsOf, .ref o_sent])), (o_text, .inl (cI, 160, .inl o_text_f))]) (wr := []) (W1 := (fun (u : Int32 × Int32 × Int32 × Int64) => [(o, .inr (9, [.ref o_road, .ref o_told, .ref o_fresh, .ref o_was, .int o_acts, .ref o_kept, .ref o_isKept, .ref o_sights, .int o_many, .ref o_text, .int o_letters, .int o_thrown, .int u.1, .int u.2.1, .int u.2.2.1, .long u.2.2.2, .int 1, .int u1, .int o_above, .int o_below, .ref o_topOf, .ref o_partsOf, .ref o_sent])), (o_text, .inl (cI, 160, .inl o_text_f))])) (Wn := (fun (u : Int32 × Int32 × Int32 × Int64) => [(o, .inr (9, [.ref o_road, .ref o_told, .ref o_fresh, .ref o_was, .int o_acts, .ref o_kept, .ref o_isKept, .ref o_sights, .int o_many, .ref o_text, .int o_letters, .int o_thrown, .int u.1, .int u.2.1, .int u.2.2.1, .long u.2.2.2, .int 1, .int u1, .int o_above, .int o_below, .ref o_topOf, .ref o_partsOf, .ref o_sent])), (o_text, .inl (cI, 160, .inl o_text_f))])) (xrunV hx hb hml hown hts (c_X9_next l D cI cZ _ o o_road o_told o_fresh o_was o_acts o_kept o_isKept o_sights o_many o_text o_letters o_thrown o_cursor o_token o_start o_value 1 u1 o_above o_below o_topOf o_partsOf o_sent o_text_f hl0 hl1 hc0 hc1) (cwV 0 hts gX9_number_X9_next rfl rfl rfl (by decide +kernel) ⟨Nat.le_of_ble_eq_true rfl, Nat.le_of_ble_eq_true rfl⟩) hE hK hP hD [0, 1] rfl rfl 0 9 (T := TX9) (N := 23) rfl rfl rfl hl.1 rfl (Nat.le_of_ble_eq_true rfl) dX9_number_40 ⟨Nat.le_of_ble_eq_true rfl, Nat.le_of_ble_eq_true rfl⟩) hP hD hS hA [0, 1] [] [0, 1] rfl rfl rfl (by decide) (fun _ => rfl) rfl (fun  u H locs hw hz hP hD hS => ?_)
      obtain ⟨u2, u3, u4, u5⟩ := u
      have hw_4 := hw.symm
      have hP : va_P D vwCl [(o, .inr (9, [.ref o_road, .ref o_told, .ref o_fresh, .ref o_was, .int o_acts, .ref o_kept, .ref o_isKept, .ref o_sights, .int o_many, .ref o_text, .int o_letters, .int o_thrown, .int u2, .int u3, .int u4, .long u5, .int 1, .int u1, .int o_above, .int o_below, .ref o_topOf, .ref o_partsOf, .ref o_sent])), (o_text, .inl (cI, 160, .inl o_text_f))] H := hP
      have hD : va_D A [(o, .inr (9, [.ref o_road, .ref o_told, .ref o_fresh, .ref o_was, .int o_acts, .ref o_kept, .ref o_isKept, .ref o_sights, .int o_many, .ref o_text, .int o_letters, .int o_thrown, .int u2, .int u3, .int u4, .long u5, .int 1, .int u1, .int o_above, .int o_below, .ref o_topOf, .ref o_partsOf, .ref o_sent])), (o_text, .inl (cI, 160, .inl o_text_f))] := hD
      have hb_4 := next_b o_letters o_cursor o_text_f hl0 hl1 hc0 hc1
      rw [hw_4] at hb_4
      try dsimp only at hb_4
      refine lv_iload_n hx hb dX9_number_43 rfl (lv_at hl 0 rfl) ?_
      exact hret _ _ _ _ o_value.toInt32 (u2, u3, u4, u5, 1, u1) dX9_number_44 ((hF.trans (by simp only [fX9_number, ↓if_neg c_1, ↓(xlet_of hw_2), ↓if_pos c_2, ↓hw_4])).symm) hP hD hS
  · have kc_1 := t_eq c_1
    refine lv_aload_n hx hb dX9_number_8 rfl (lv_at hl 0 rfl) ?_
    refine xget hx hb hts hown hK 9 (C2 := RX9) (T := TX9) (N := 23) rfl hin_9 hP 0 rfl 15 (by decide) fl_75 rfl rfl rfl dX9_number_9 ?_
    refine lv_iload_n hx hb dX9_number_12 rfl (lv_at hl 1 rfl) ?_
    refine lv_i2l (v := a1.toInt64) hx hb dX9_number_13 rfl ?_
    refine lv_iload_n hx hb dX9_number_14 rfl (lv_at hl 2 rfl) ?_
    refine lv_i2l (v := a2.toInt64) hx hb dX9_number_15 rfl ?_
    refine xcalli (S := Unit) (Wc := []) (wr := [(o, .inr (9, [.ref o_road, .ref o_told, .ref o_fresh, .ref o_was, .int o_acts, .ref o_kept, .ref o_isKept, .ref o_sights, .int o_many, .ref o_text, .int o_letters, .int o_thrown, .int o_cursor, .int o_token, .int o_start, .long o_value, .int o_isFault, .int o_faultAt, .int o_above, .int o_below, .ref o_topOf, .ref o_partsOf, .ref o_sent])), (o_text, .inl (cI, 160, .inl o_text_f))]) (W1 := (fun (u : Unit) => [])) (Wn := (fun (u : Unit) => [(o, .inr (9, [.ref o_road, .ref o_told, .ref o_fresh, .ref o_was, .int o_acts, .ref o_kept, .ref o_isKept, .ref o_sights, .int o_many, .ref o_text, .int o_letters, .int o_thrown, .int o_cursor, .int o_token, .int o_start, .long o_value, .int o_isFault, .int o_faultAt, .int o_above, .int o_below, .ref o_topOf, .ref o_partsOf, .ref o_sent])), (o_text, .inl (cI, 160, .inl o_text_f))])) (xrunS hx hb hml hown hts (c_X9_in l D cI cZ _ o_value a1.toInt64 a2.toInt64 ) (va_cwS 3 hts gX9_number_X9_in rfl rfl rfl (by decide +kernel) ⟨Nat.le_of_ble_eq_true rfl, Nat.le_of_ble_eq_true rfl⟩) hE hK hP hD [] rfl rfl rfl hl.1 rfl (Nat.le_of_ble_eq_true rfl) dX9_number_16 ⟨Nat.le_of_ble_eq_true rfl, Nat.le_of_ble_eq_true rfl⟩) hP hD hS hA [] [0, 1] [0, 1] rfl rfl rfl (by decide) (fun _ => rfl) rfl (fun r6 u H locs hw hz hP hD hS => ?_)
    subst hw
    refine lv_if_ne (tgt := 26) hx hb dX9_number_19 (by decide) (fun c_3 => ?_) (fun c_3 => ?_)
    · refine lv_aload_n hx hb dX9_number_26 rfl (lv_at hl 0 rfl) ?_
      refine xget hx hb hts hown hK 9 (C2 := RX9) (T := TX9) (N := 23) rfl hin_9 hP 0 rfl 15 (by decide) fl_75 rfl rfl rfl dX9_number_27 ?_
      refine lv_l2i (v := o_value.toInt32) hx hb dX9_number_30 rfl ?_
      refine lv_istore_n (lv' := [(3, .int o_value.toInt32), (0, .ref o), (1, .int a1), (2, .int a2)]) hx hb dX9_number_31 rfl hl (by decide) rfl (fun ls hl => ?_)
      refine lv_aload_n hx hb dX9_number_32 rfl (lv_at hl 1 rfl) ?_
      refine xget hx hb hts hown hK 9 (C2 := RX9) (T := TX9) (N := 23) rfl hin_9 hP 0 rfl 16 (by decide) fl_95 rfl rfl rfl dX9_number_33 ?_
      refine lv_if_ne (tgt := 43) hx hb dX9_number_36 (by decide) (fun c_4 => ?_) (fun c_4 => ?_)
      · have kc_4 := t_neq c_4
        refine lv_iload_n hx hb dX9_number_43 rfl (lv_at hl 0 rfl) ?_
        exact hret _ _ _ _ o_value.toInt32 (o_cursor, o_token, o_start, o_value, o_isFault, o_faultAt) dX9_number_44 ((hF.trans (by simp only [fX9_number, ↓if_pos c_1, ↓if_neg c_3, ↓if_neg c_4])).symm) hP hD hS
      · have kc_4 := t_eq c_4
        refine lv_aload_n hx hb dX9_number_39 rfl (lv_at hl 1 rfl) ?_
        refine xcallv (S := Int32 × Int32 × Int32 × Int64) (Wc := [(o, .inr (9, [.ref o_road, .ref o_told, .ref o_fresh, .ref o_was, .int o_acts, .ref o_kept, .ref o_isKept, .ref o_sights, .int o_many, .ref o_text, .int o_letters, .int o_thrown, .int o_cursor, .int o_token, .int o_start, .long o_value, .int o_isFault, .int o_faultAt, .int o_above, .int o_below, .ref o_topOf, .ref o_partsOf, .ref o_sent])), (o_text, .inl (cI, 160, .inl o_text_f))]) (wr := []) (W1 := (fun (u : Int32 × Int32 × Int32 × Int64) => [(o, .inr (9, [.ref o_road, .ref o_told, .ref o_fresh, .ref o_was, .int o_acts, .ref o_kept, .ref o_isKept, .ref o_sights, .int o_many, .ref o_text, .int o_letters, .int o_thrown, .int u.1, .int u.2.1, .int u.2.2.1, .long u.2.2.2, .int o_isFault, .int o_faultAt, .int o_above, .int o_below, .ref o_topOf, .ref o_partsOf, .ref o_sent])), (o_text, .inl (cI, 160, .inl o_text_f))])) (Wn := (fun (u : Int32 × Int32 × Int32 × Int64) => [(o, .inr (9, [.ref o_road, .ref o_told, .ref o_fresh, .ref o_was, .int o_acts, .ref o_kept, .ref o_isKept, .ref o_sights, .int o_many, .ref o_text, .int o_letters, .int o_thrown, .int u.1, .int u.2.1, .int u.2.2.1, .long u.2.2.2, .int o_isFault, .int o_faultAt, .int o_above, .int o_below, .ref o_topOf, .ref o_partsOf, .ref o_sent])), (o_text, .inl (cI, 160, .inl o_text_f))])) (xrunV hx hb hml hown hts (c_X9_next l D cI cZ _ o o_road o_told o_fresh o_was o_acts o_kept o_isKept o_sights o_many o_text o_letters o_thrown o_cursor o_token o_start o_value o_isFault o_faultAt o_above o_below o_topOf o_partsOf o_sent o_text_f hl0 hl1 hc0 hc1) (cwV 0 hts gX9_number_X9_next rfl rfl rfl (by decide +kernel) ⟨Nat.le_of_ble_eq_true rfl, Nat.le_of_ble_eq_true rfl⟩) hE hK hP hD [0, 1] rfl rfl 0 9 (T := TX9) (N := 23) rfl rfl rfl hl.1 rfl (Nat.le_of_ble_eq_true rfl) dX9_number_40 ⟨Nat.le_of_ble_eq_true rfl, Nat.le_of_ble_eq_true rfl⟩) hP hD hS hA [0, 1] [] [0, 1] rfl rfl rfl (by decide) (fun _ => rfl) rfl (fun  u H locs hw hz hP hD hS => ?_)
        obtain ⟨u7, u8, u9, u10⟩ := u
        have hw_8 := hw.symm
        have hP : va_P D vwCl [(o, .inr (9, [.ref o_road, .ref o_told, .ref o_fresh, .ref o_was, .int o_acts, .ref o_kept, .ref o_isKept, .ref o_sights, .int o_many, .ref o_text, .int o_letters, .int o_thrown, .int u7, .int u8, .int u9, .long u10, .int o_isFault, .int o_faultAt, .int o_above, .int o_below, .ref o_topOf, .ref o_partsOf, .ref o_sent])), (o_text, .inl (cI, 160, .inl o_text_f))] H := hP
        have hD : va_D A [(o, .inr (9, [.ref o_road, .ref o_told, .ref o_fresh, .ref o_was, .int o_acts, .ref o_kept, .ref o_isKept, .ref o_sights, .int o_many, .ref o_text, .int o_letters, .int o_thrown, .int u7, .int u8, .int u9, .long u10, .int o_isFault, .int o_faultAt, .int o_above, .int o_below, .ref o_topOf, .ref o_partsOf, .ref o_sent])), (o_text, .inl (cI, 160, .inl o_text_f))] := hD
        have hb_8 := next_b o_letters o_cursor o_text_f hl0 hl1 hc0 hc1
        rw [hw_8] at hb_8
        try dsimp only at hb_8
        refine lv_iload_n hx hb dX9_number_43 rfl (lv_at hl 0 rfl) ?_
        exact hret _ _ _ _ o_value.toInt32 (u7, u8, u9, u10, o_isFault, o_faultAt) dX9_number_44 ((hF.trans (by simp only [fX9_number, ↓if_pos c_1, ↓if_neg c_3, ↓if_pos c_4, ↓hw_8])).symm) hP hD hS
    · refine lv_aload_n hx hb dX9_number_22 rfl (lv_at hl 0 rfl) ?_
      refine xcallv (S := Int32) (Wc := [(o, .inr (9, [.ref o_road, .ref o_told, .ref o_fresh, .ref o_was, .int o_acts, .ref o_kept, .ref o_isKept, .ref o_sights, .int o_many, .ref o_text, .int o_letters, .int o_thrown, .int o_cursor, .int o_token, .int o_start, .long o_value, .int o_isFault, .int o_faultAt, .int o_above, .int o_below, .ref o_topOf, .ref o_partsOf, .ref o_sent]))]) (wr := [(o_text, .inl (cI, 160, .inl o_text_f))]) (W1 := (fun (u : Int32) => [(o, .inr (9, [.ref o_road, .ref o_told, .ref o_fresh, .ref o_was, .int o_acts, .ref o_kept, .ref o_isKept, .ref o_sights, .int o_many, .ref o_text, .int o_letters, .int o_thrown, .int o_cursor, .int o_token, .int o_start, .long o_value, .int 1, .int u, .int o_above, .int o_below, .ref o_topOf, .ref o_partsOf, .ref o_sent]))])) (Wn := (fun (u : Int32) => [(o, .inr (9, [.ref o_road, .ref o_told, .ref o_fresh, .ref o_was, .int o_acts, .ref o_kept, .ref o_isKept, .ref o_sights, .int o_many, .ref o_text, .int o_letters, .int o_thrown, .int o_cursor, .int o_token, .int o_start, .long o_value, .int 1, .int u, .int o_above, .int o_below, .ref o_topOf, .ref o_partsOf, .ref o_sent])), (o_text, .inl (cI, 160, .inl o_text_f))])) (xrunV hx hb hml hown hts (c_X9_bad l D cI cZ _ o o_road o_told o_fresh o_was o_acts o_kept o_isKept o_sights o_many o_text o_letters o_thrown o_cursor o_token o_start o_value o_isFault o_faultAt o_above o_below o_topOf o_partsOf o_sent ) (cwV 0 hts gX9_number_X9_bad rfl rfl rfl (by decide +kernel) ⟨Nat.le_of_ble_eq_true rfl, Nat.le_of_ble_eq_true rfl⟩) hE hK hP hD [0] rfl rfl 0 9 (T := TX9) (N := 23) rfl rfl rfl hl.1 rfl (Nat.le_of_ble_eq_true rfl) dX9_number_23 ⟨Nat.le_of_ble_eq_true rfl, Nat.le_of_ble_eq_true rfl⟩) hP hD hS hA [0] [1] [1, 0] rfl rfl rfl (by decide) (fun _ => rfl) rfl (fun  u H locs hw hz hP hD hS => ?_)
      obtain ⟨u11, hu⟩ : ∃ z, z = u := ⟨u, rfl⟩
      subst hu
      have hw_9 := hw.symm
      have hP : va_P D vwCl [(o, .inr (9, [.ref o_road, .ref o_told, .ref o_fresh, .ref o_was, .int o_acts, .ref o_kept, .ref o_isKept, .ref o_sights, .int o_many, .ref o_text, .int o_letters, .int o_thrown, .int o_cursor, .int o_token, .int o_start, .long o_value, .int 1, .int u11, .int o_above, .int o_below, .ref o_topOf, .ref o_partsOf, .ref o_sent])), (o_text, .inl (cI, 160, .inl o_text_f))] H := hP
      have hD : va_D A [(o, .inr (9, [.ref o_road, .ref o_told, .ref o_fresh, .ref o_was, .int o_acts, .ref o_kept, .ref o_isKept, .ref o_sights, .int o_many, .ref o_text, .int o_letters, .int o_thrown, .int o_cursor, .int o_token, .int o_start, .long o_value, .int 1, .int u11, .int o_above, .int o_below, .ref o_topOf, .ref o_partsOf, .ref o_sent])), (o_text, .inl (cI, 160, .inl o_text_f))] := hD
      refine lv_aload_n hx hb dX9_number_26 rfl (lv_at hl 0 rfl) ?_
      refine xget hx hb hts hown hK 9 (C2 := RX9) (T := TX9) (N := 23) rfl hin_9 hP 0 rfl 15 (by decide) fl_75 rfl rfl rfl dX9_number_27 ?_
      refine lv_l2i (v := o_value.toInt32) hx hb dX9_number_30 rfl ?_
      refine lv_istore_n (lv' := [(3, .int o_value.toInt32), (0, .ref o), (1, .int a1), (2, .int a2)]) hx hb dX9_number_31 rfl hl (by decide) rfl (fun ls hl => ?_)
      refine lv_aload_n hx hb dX9_number_32 rfl (lv_at hl 1 rfl) ?_
      refine xget hx hb hts hown hK 9 (C2 := RX9) (T := TX9) (N := 23) rfl hin_9 hP 0 rfl 16 (by decide) fl_95 rfl rfl rfl dX9_number_33 ?_
      refine lv_if_ne (tgt := 43) hx hb dX9_number_36 (by decide) (fun c_5 => ?_) (fun c_5 => ?_)
      · have kc_5 := t_neq c_5
        refine lv_iload_n hx hb dX9_number_43 rfl (lv_at hl 0 rfl) ?_
        exact hret _ _ _ _ o_value.toInt32 (o_cursor, o_token, o_start, o_value, 1, u11) dX9_number_44 ((hF.trans (by simp only [fX9_number, ↓if_pos c_1, ↓if_pos c_3, ↓(xlet_of hw_9), ↓if_neg c_5])).symm) hP hD hS
      · have kc_5 := t_eq c_5
        refine lv_aload_n hx hb dX9_number_39 rfl (lv_at hl 1 rfl) ?_
        refine xcallv (S := Int32 × Int32 × Int32 × Int64) (Wc := [(o, .inr (9, [.ref o_road, .ref o_told, .ref o_fresh, .ref o_was, .int o_acts, .ref o_kept, .ref o_isKept, .ref o_sights, .int o_many, .ref o_text, .int o_letters, .int o_thrown, .int o_cursor, .int o_token, .int o_start, .long o_value, .int 1, .int u11, .int o_above, .int o_below, .ref o_topOf, .ref o_partsOf, .ref o_sent])), (o_text, .inl (cI, 160, .inl o_text_f))]) (wr := []) (W1 := (fun (u : Int32 × Int32 × Int32 × Int64) => [(o, .inr (9, [.ref o_road, .ref o_told, .ref o_fresh, .ref o_was, .int o_acts, .ref o_kept, .ref o_isKept, .ref o_sights, .int o_many, .ref o_text, .int o_letters, .int o_thrown, .int u.1, .int u.2.1, .int u.2.2.1, .long u.2.2.2, .int 1, .int u11, .int o_above, .int o_below, .ref o_topOf, .ref o_partsOf, .ref o_sent])), (o_text, .inl (cI, 160, .inl o_text_f))])) (Wn := (fun (u : Int32 × Int32 × Int32 × Int64) => [(o, .inr (9, [.ref o_road, .ref o_told, .ref o_fresh, .ref o_was, .int o_acts, .ref o_kept, .ref o_isKept, .ref o_sights, .int o_many, .ref o_text, .int o_letters, .int o_thrown, .int u.1, .int u.2.1, .int u.2.2.1, .long u.2.2.2, .int 1, .int u11, .int o_above, .int o_below, .ref o_topOf, .ref o_partsOf, .ref o_sent])), (o_text, .inl (cI, 160, .inl o_text_f))])) (xrunV hx hb hml hown hts (c_X9_next l D cI cZ _ o o_road o_told o_fresh o_was o_acts o_kept o_isKept o_sights o_many o_text o_letters o_thrown o_cursor o_token o_start o_value 1 u11 o_above o_below o_topOf o_partsOf o_sent o_text_f hl0 hl1 hc0 hc1) (cwV 0 hts gX9_number_X9_next rfl rfl rfl (by decide +kernel) ⟨Nat.le_of_ble_eq_true rfl, Nat.le_of_ble_eq_true rfl⟩) hE hK hP hD [0, 1] rfl rfl 0 9 (T := TX9) (N := 23) rfl rfl rfl hl.1 rfl (Nat.le_of_ble_eq_true rfl) dX9_number_40 ⟨Nat.le_of_ble_eq_true rfl, Nat.le_of_ble_eq_true rfl⟩) hP hD hS hA [0, 1] [] [0, 1] rfl rfl rfl (by decide) (fun _ => rfl) rfl (fun  u H locs hw hz hP hD hS => ?_)
        obtain ⟨u12, u13, u14, u15⟩ := u
        have hw_11 := hw.symm
        have hP : va_P D vwCl [(o, .inr (9, [.ref o_road, .ref o_told, .ref o_fresh, .ref o_was, .int o_acts, .ref o_kept, .ref o_isKept, .ref o_sights, .int o_many, .ref o_text, .int o_letters, .int o_thrown, .int u12, .int u13, .int u14, .long u15, .int 1, .int u11, .int o_above, .int o_below, .ref o_topOf, .ref o_partsOf, .ref o_sent])), (o_text, .inl (cI, 160, .inl o_text_f))] H := hP
        have hD : va_D A [(o, .inr (9, [.ref o_road, .ref o_told, .ref o_fresh, .ref o_was, .int o_acts, .ref o_kept, .ref o_isKept, .ref o_sights, .int o_many, .ref o_text, .int o_letters, .int o_thrown, .int u12, .int u13, .int u14, .long u15, .int 1, .int u11, .int o_above, .int o_below, .ref o_topOf, .ref o_partsOf, .ref o_sent])), (o_text, .inl (cI, 160, .inl o_text_f))] := hD
        have hb_11 := next_b o_letters o_cursor o_text_f hl0 hl1 hc0 hc1
        rw [hw_11] at hb_11
        try dsimp only at hb_11
        refine lv_iload_n hx hb dX9_number_43 rfl (lv_at hl 0 rfl) ?_
        exact hret _ _ _ _ o_value.toInt32 (u12, u13, u14, u15, 1, u11) dX9_number_44 ((hF.trans (by simp only [fX9_number, ↓if_pos c_1, ↓if_pos c_3, ↓(xlet_of hw_9), ↓if_pos c_5, ↓hw_11])).symm) hP hD hS
