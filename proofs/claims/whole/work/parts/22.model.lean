set_option maxRecDepth 20000 in
theorem ggX9_write_X9_in : GoodIn wsX9_write wsX9_in := goodIn_r _ [8] (by decide +kernel) (by decide +kernel)
set_option maxRecDepth 20000 in
theorem gX9_write_X9_in : GoodIn wsX9_write (va_wsS RX9 52 yX9_in wsX9_in) := goodIn_app (goodIn_of _ (by decide +kernel)) ggX9_write_X9_in
theorem dX9_write_0 : decode cX9_write 0 = .ok (.aload_n 0, 1) := by decide +kernel
theorem dX9_write_1 : decode cX9_write 1 = .ok (.iconst 0, 1) := by decide +kernel
theorem dX9_write_2 : decode cX9_write 2 = .ok (.putfield 48, 3) := by decide +kernel
theorem dX9_write_5 : decode cX9_write 5 = .ok (.iload_n 1, 1) := by decide +kernel
theorem dX9_write_6 : decode cX9_write 6 = .ok (.i2l, 1) := by decide +kernel
theorem dX9_write_7 : decode cX9_write 7 = .ok (.lconst 0, 1) := by decide +kernel
theorem dX9_write_8 : decode cX9_write 8 = .ok (.ldc2_w 56, 3) := by decide +kernel
theorem dX9_write_11 : decode cX9_write 11 = .ok (.invokestatic 52, 3) := by decide +kernel
theorem dX9_write_14 : decode cX9_write 14 = .ok (.ifCond .ne 6, 3) := by decide +kernel
theorem dX9_write_17 : decode cX9_write 17 = .ok (.bipush (-3), 2) := by decide +kernel
theorem dX9_write_19 : decode cX9_write 19 = .ok (.ireturn, 1) := by decide +kernel
theorem dX9_write_20 : decode cX9_write 20 = .ok (.aload_n 0, 1) := by decide +kernel
theorem dX9_write_21 : decode cX9_write 21 = .ok (.getfield 58, 3) := by decide +kernel
theorem dX9_write_24 : decode cX9_write 24 = .ok (.sipush 160, 3) := by decide +kernel
theorem dX9_write_27 : decode cX9_write 27 = .ok (.if_icmp .ne 6, 3) := by decide +kernel
theorem dX9_write_30 : decode cX9_write 30 = .ok (.bipush (-5), 2) := by decide +kernel
theorem dX9_write_32 : decode cX9_write 32 = .ok (.ireturn, 1) := by decide +kernel
theorem dX9_write_33 : decode cX9_write 33 = .ok (.aload_n 0, 1) := by decide +kernel
theorem dX9_write_34 : decode cX9_write 34 = .ok (.getfield 32, 3) := by decide +kernel
theorem dX9_write_37 : decode cX9_write 37 = .ok (.aload_n 0, 1) := by decide +kernel
theorem dX9_write_38 : decode cX9_write 38 = .ok (.getfield 58, 3) := by decide +kernel
theorem dX9_write_41 : decode cX9_write 41 = .ok (.iload_n 1, 1) := by decide +kernel
theorem dX9_write_42 : decode cX9_write 42 = .ok (.iastore, 1) := by decide +kernel
theorem dX9_write_43 : decode cX9_write 43 = .ok (.aload_n 0, 1) := by decide +kernel
theorem dX9_write_44 : decode cX9_write 44 = .ok (.dup, 1) := by decide +kernel
theorem dX9_write_45 : decode cX9_write 45 = .ok (.getfield 58, 3) := by decide +kernel
theorem dX9_write_48 : decode cX9_write 48 = .ok (.iconst 1, 1) := by decide +kernel
theorem dX9_write_49 : decode cX9_write 49 = .ok (.iadd, 1) := by decide +kernel
theorem dX9_write_50 : decode cX9_write 50 = .ok (.putfield 58, 3) := by decide +kernel
theorem dX9_write_53 : decode cX9_write 53 = .ok (.aload_n 0, 1) := by decide +kernel
theorem dX9_write_54 : decode cX9_write 54 = .ok (.getfield 58, 3) := by decide +kernel
theorem dX9_write_57 : decode cX9_write 57 = .ok (.ireturn, 1) := by decide +kernel
def fX9_write (a1 : Int32) (o_letters : Int32) (o_text_f : Nat → Int32) : Int32 × Int32 × (Nat → Int32) := if (fX9_in a1.toInt64 0 255) = 0 then (((-3), o_letters, o_text_f)) else (if o_letters = 160 then (((-5), o_letters, o_text_f)) else (((o_letters + 1), (o_letters + 1), (upd o_text_f o_letters.toNatClampNeg a1))))
set_option maxHeartbeats 4000000 in
set_option maxRecDepth 100000 in
theorem c_X9_write (l : Launch) (D : va_G) (cI cZ : ClassId) (sz : Nat) (o : Nat) (a1 : Int32) (o_road : Nat) (o_told : Nat) (o_fresh : Nat) (o_was : Nat) (o_acts : Int32) (o_kept : Nat) (o_isKept : Nat) (o_sights : Nat) (o_many : Int32) (o_text : Nat) (o_letters : Int32) (o_thrown : Int32) (o_cursor : Int32) (o_token : Int32) (o_start : Int32) (o_value : Int64) (o_isFault : Int32) (o_faultAt : Int32) (o_above : Int32) (o_below : Int32) (o_topOf : Nat) (o_partsOf : Nat) (o_sent : Nat) (o_text_f : Nat → Int32) (hl0 : 0 ≤ o_letters.toInt) (hl1 : o_letters.toInt ≤ 160) : Met l yX9_write wsX9_write ({ frames := 1, cells := 0, slots := 0, locals := 25 } : Room) (va_Pc [.ref o, .int a1] (xP D cI cZ [(o, .inr (9, [.ref o_road, .ref o_told, .ref o_fresh, .ref o_was, .int o_acts, .ref o_kept, .ref o_isKept, .ref o_sights, .int o_many, .ref o_text, .int o_letters, .int o_thrown, .int o_cursor, .int o_token, .int o_start, .long o_value, .int o_isFault, .int o_faultAt, .int o_above, .int o_below, .ref o_topOf, .ref o_partsOf, .ref o_sent])), (o_text, .inl (cI, 160, .inl o_text_f))] sz)) (va_Qi (fun (r : Int32) (u : Int32 × (Nat → Int32)) => (r, u) = fX9_write a1 o_letters o_text_f) (fun (u : Int32 × (Nat → Int32)) t => xB D cI cZ [(o, .inr (9, [.ref o_road, .ref o_told, .ref o_fresh, .ref o_was, .int o_acts, .ref o_kept, .ref o_isKept, .ref o_sights, .int o_many, .ref o_text, .int u.1, .int 0, .int o_cursor, .int o_token, .int o_start, .long o_value, .int o_isFault, .int o_faultAt, .int o_above, .int o_below, .ref o_topOf, .ref o_partsOf, .ref o_sent])), (o_text, .inl (cI, 160, .inl u.2))] (va_A [(o, .inr (9, [.ref o_road, .ref o_told, .ref o_fresh, .ref o_was, .int o_acts, .ref o_kept, .ref o_isKept, .ref o_sights, .int o_many, .ref o_text, .int o_letters, .int o_thrown, .int o_cursor, .int o_token, .int o_start, .long o_value, .int o_isFault, .int o_faultAt, .int o_above, .int o_below, .ref o_topOf, .ref o_partsOf, .ref o_sent])), (o_text, .inl (cI, 160, .inl o_text_f))] sz) t) (va_A [(o, .inr (9, [.ref o_road, .ref o_told, .ref o_fresh, .ref o_was, .int o_acts, .ref o_kept, .ref o_isKept, .ref o_sights, .int o_many, .ref o_text, .int o_letters, .int o_thrown, .int o_cursor, .int o_token, .int o_start, .long o_value, .int o_isFault, .int o_faultAt, .int o_above, .int o_below, .ref o_topOf, .ref o_partsOf, .ref o_sent])), (o_text, .inl (cI, 160, .inl o_text_f))] sz)) 0 0 (va_A [(o, .inr (9, [.ref o_road, .ref o_told, .ref o_fresh, .ref o_was, .int o_acts, .ref o_kept, .ref o_isKept, .ref o_sights, .int o_many, .ref o_text, .int o_letters, .int o_thrown, .int o_cursor, .int o_token, .int o_start, .long o_value, .int o_isFault, .int o_faultAt, .int o_above, .int o_below, .ref o_topOf, .ref o_partsOf, .ref o_sent])), (o_text, .inl (cI, 160, .inl o_text_f))] sz) := by
  refine Met.ofW (cc := cX9_write) (maxL := 2) (ret := (some .int)) (by decide) rfl ?_
  intro p e s m args below meth c s₁ B hml hv
  obtain ⟨hargs, hsz, hP, hK, hD0, hE⟩ := hv
  subst hargs
  have hx := B.exec
  have hb := B.bytes
  have hr := B.returns
  have hts := atoms_spec (ws := wsX9_write) B.pre
  have hown : s.vm.findClass RX9 = some m.cls := findClass_of_methodNamed B.named
  have hlocks := B.notSynchronized
  subst hsz
  have hD := hD0.self (sz := s.heap.size)
  generalize hAe : va_A [(o, .inr (9, [.ref o_road, .ref o_told, .ref o_fresh, .ref o_was, .int o_acts, .ref o_kept, .ref o_isKept, .ref o_sights, .int o_many, .ref o_text, .int o_letters, .int o_thrown, .int o_cursor, .int o_token, .int o_start, .long o_value, .int o_isFault, .int o_faultAt, .int o_above, .int o_below, .ref o_topOf, .ref o_partsOf, .ref o_sent])), (o_text, .inl (cI, 160, .inl o_text_f))] s.heap.size = A at hD ⊢
  have hA : ∀ q : Nat, s.heap.size ≤ q → A q := fun q h => by rw [← hAe]; exact Or.inr h
  have hS : va_S A s.heap s.heap [] := va_S.rf
  have hl := lv_entry ([.ref o, .int a1]) (n := 2) (Nat.le_of_ble_eq_true rfl)
  rw [lg_entry_eq]
  generalize (lg_sl ([.ref o, .int a1]) ++ List.replicate (2 - (lg_sl ([.ref o, .int a1])).length) Slot.unset).toArray = ls at hl ⊢
  have hl : lv_has ls 2 [(0, .ref o), (1, .int a1)] := hl
  refine wq (X := fun Q => ∀ (pc : Nat) (H : Heap) (locs : List Loc) (ls : Array Slot) (r : Int32) (u : Int32 × (Nat → Int32)) (hd : decode cX9_write pc = .ok (.ireturn, 1)) (hp : (r, u) = fX9_write a1 o_letters o_text_f) (hP : va_P D vwCl [(o, .inr (9, [.ref o_road, .ref o_told, .ref o_fresh, .ref o_was, .int o_acts, .ref o_kept, .ref o_isKept, .ref o_sights, .int o_many, .ref o_text, .int u.1, .int 0, .int o_cursor, .int o_token, .int o_start, .long o_value, .int o_isFault, .int o_faultAt, .int o_above, .int o_below, .ref o_topOf, .ref o_partsOf, .ref o_sent])), (o_text, .inl (cI, 160, .inl u.2))] H) (hD : va_D A [(o, .inr (9, [.ref o_road, .ref o_told, .ref o_fresh, .ref o_was, .int o_acts, .ref o_kept, .ref o_isKept, .ref o_sights, .int o_many, .ref o_text, .int u.1, .int 0, .int o_cursor, .int o_token, .int o_start, .long o_value, .int o_isFault, .int o_faultAt, .int o_above, .int o_below, .ref o_topOf, .ref o_partsOf, .ref o_sent])), (o_text, .inl (cI, 160, .inl u.2))]) (hS : va_S A s.heap H locs), W p l e ({ frames := 1, cells := 0, slots := 0, locals := 25 } : Room) s m ([.ref o, .int a1] : List Value).toArray below meth c H locs 0 0 Q (F0 m pc ls [.int r])) ?_ (fun Q hret => ?_)
  · intro pc H locs ls r u hd hp hP hD hS
    exact W.iret (v := r) hx hb hr (fun t ht hW => ⟨⟨r, u, rfl, hp, by rw [ht]; exact hP, va_K.moved hW.alike hK, hD⟩, hS.F ht⟩) hS.2.2 hd
  have hin_9 : ∀ w ∈ u_ws RX9 TX9 23, w ∈ wsX9_write := by decide +kernel
  have fl_32 := hts (.fieldLink RX9 32 "MileRoadModel" "text" "[I") (by decide +kernel)
  have fl_48 := hts (.fieldLink RX9 48 "MileRoadModel" "thrown" "I") (by decide +kernel)
  have fl_58 := hts (.fieldLink RX9 58 "MileRoadModel" "letters" "I") (by decide +kernel)
  have zl_0 : (0 : Int32).toInt = 0 := by decide
  have zl_160 : (160 : Int32).toInt = 160 := by decide
  have hF : fX9_write a1 o_letters o_text_f = fX9_write a1 o_letters o_text_f := rfl
  refine lv_aload_n hx hb dX9_write_0 rfl (lv_at hl 0 rfl) ?_
  refine lv_iconst (v := 0) hx hb dX9_write_1 (by decide) ?_
  refine xput hx hb hts hown hK 9 (C2 := RX9) (T := TX9) (N := 23) tyX9 rfl tyX9_ok nmX9 hin_9 hP hD hS 0 rfl 11 (by decide) fl_48 rfl rfl rfl rfl rfl (Nat.le_of_ble_eq_true rfl) dX9_write_2 [(o, .inr (9, [.ref o_road, .ref o_told, .ref o_fresh, .ref o_was, .int o_acts, .ref o_kept, .ref o_isKept, .ref o_sights, .int o_many, .ref o_text, .int o_letters, .int 0, .int o_cursor, .int o_token, .int o_start, .long o_value, .int o_isFault, .int o_faultAt, .int o_above, .int o_below, .ref o_topOf, .ref o_partsOf, .ref o_sent])), (o_text, .inl (cI, 160, .inl o_text_f))] rfl (fun H locs hP hD hS => ?_)
  refine lv_iload_n hx hb dX9_write_5 rfl (lv_at hl 1 rfl) ?_
  refine lv_i2l (v := a1.toInt64) hx hb dX9_write_6 rfl ?_
  refine lv_lconst (v := 0) hx hb dX9_write_7 (by decide) ?_
  refine lv_ldc2 (v := 255) hx hb hown (hts (.constantLong RX9 56 255) (by decide +kernel)) dX9_write_8 ?_
  refine xcalli (S := Unit) (Wc := []) (wr := [(o, .inr (9, [.ref o_road, .ref o_told, .ref o_fresh, .ref o_was, .int o_acts, .ref o_kept, .ref o_isKept, .ref o_sights, .int o_many, .ref o_text, .int o_letters, .int 0, .int o_cursor, .int o_token, .int o_start, .long o_value, .int o_isFault, .int o_faultAt, .int o_above, .int o_below, .ref o_topOf, .ref o_partsOf, .ref o_sent])), (o_text, .inl (cI, 160, .inl o_text_f))]) (W1 := (fun (u : Unit) => [])) (Wn := (fun (u : Unit) => [(o, .inr (9, [.ref o_road, .ref o_told, .ref o_fresh, .ref o_was, .int o_acts, .ref o_kept, .ref o_isKept, .ref o_sights, .int o_many, .ref o_text, .int o_letters, .int 0, .int o_cursor, .int o_token, .int o_start, .long o_value, .int o_isFault, .int o_faultAt, .int o_above, .int o_below, .ref o_topOf, .ref o_partsOf, .ref o_sent])), (o_text, .inl (cI, 160, .inl o_text_f))])) (xrunS hx hb hml hown hts (c_X9_in l D cI cZ _ a1.toInt64 0 255 ) (va_cwS 3 hts gX9_write_X9_in rfl rfl rfl (by decide +kernel) ⟨Nat.le_of_ble_eq_true rfl, Nat.le_of_ble_eq_true rfl⟩) hE hK hP hD [] rfl rfl rfl hl.1 rfl (Nat.le_of_ble_eq_true rfl) dX9_write_11 ⟨Nat.le_of_ble_eq_true rfl, Nat.le_of_ble_eq_true rfl⟩) hP hD hS hA [] [0, 1] [0, 1] rfl rfl rfl (by decide) (fun _ => rfl) rfl (fun r1 u H locs hw hz hP hD hS => ?_)
  subst hw
  refine lv_if_ne (tgt := 20) hx hb dX9_write_14 (by decide) (fun c_1 => ?_) (fun c_1 => ?_)
  · have kb_c_1 : 0 ≤ a1.toInt ∧ a1.toInt ≤ 255 := in_b c_1 (by decide) (by decide)
    refine lv_aload_n hx hb dX9_write_20 rfl (lv_at hl 0 rfl) ?_
    refine xget hx hb hts hown hK 9 (C2 := RX9) (T := TX9) (N := 23) rfl hin_9 hP 0 rfl 10 (by decide) fl_58 rfl rfl rfl dX9_write_21 ?_
    refine lv_sipush (v := 160) hx hb dX9_write_24 (by decide) ?_
    refine lv_icmp_ne (tgt := 33) hx hb dX9_write_27 (by decide) (fun c_2 => ?_) (fun c_2 => ?_)
    · have kc_2 := t_neq c_2
      refine lv_aload_n hx hb dX9_write_33 rfl (lv_at hl 0 rfl) ?_
      refine xget hx hb hts hown hK 9 (C2 := RX9) (T := TX9) (N := 23) rfl hin_9 hP 0 rfl 9 (by decide) fl_32 rfl rfl rfl dX9_write_34 ?_
      refine lv_aload_n hx hb dX9_write_37 rfl (lv_at hl 0 rfl) ?_
      refine xget hx hb hts hown hK 9 (C2 := RX9) (T := TX9) (N := 23) rfl hin_9 hP 0 rfl 10 (by decide) fl_58 rfl rfl rfl dX9_write_38 ?_
      refine lv_iload_n hx hb dX9_write_41 rfl (lv_at hl 1 rfl) ?_
      refine xast hx hb hK hP hD hS 1 0 (k := o_letters.toNatClampNeg) rfl rfl (vi (by omega) (by omega)) rfl dX9_write_42 [(o, .inr (9, [.ref o_road, .ref o_told, .ref o_fresh, .ref o_was, .int o_acts, .ref o_kept, .ref o_isKept, .ref o_sights, .int o_many, .ref o_text, .int o_letters, .int 0, .int o_cursor, .int o_token, .int o_start, .long o_value, .int o_isFault, .int o_faultAt, .int o_above, .int o_below, .ref o_topOf, .ref o_partsOf, .ref o_sent])), (o_text, .inl (cI, 160, .inl (upd o_text_f o_letters.toNatClampNeg a1)))] rfl (fun H locs hP hD hS => ?_)
      refine lv_aload_n hx hb dX9_write_43 rfl (lv_at hl 0 rfl) ?_
      refine lv_dup hx hb dX9_write_44 rfl ?_
      refine xget hx hb hts hown hK 9 (C2 := RX9) (T := TX9) (N := 23) rfl hin_9 hP 0 rfl 10 (by decide) fl_58 rfl rfl rfl dX9_write_45 ?_
      refine lv_iconst (v := 1) hx hb dX9_write_48 (by decide) ?_
      refine lv_iadd hx hb dX9_write_49 ?_
      refine xput hx hb hts hown hK 9 (C2 := RX9) (T := TX9) (N := 23) tyX9 rfl tyX9_ok nmX9 hin_9 hP hD hS 0 rfl 10 (by decide) fl_58 rfl rfl rfl rfl rfl (Nat.le_of_ble_eq_true rfl) dX9_write_50 [(o, .inr (9, [.ref o_road, .ref o_told, .ref o_fresh, .ref o_was, .int o_acts, .ref o_kept, .ref o_isKept, .ref o_sights, .int o_many, .ref o_text, .int (o_letters + 1), .int 0, .int o_cursor, .int o_token, .int o_start, .long o_value, .int o_isFault, .int o_faultAt, .int o_above, .int o_below, .ref o_topOf, .ref o_partsOf, .ref o_sent])), (o_text, .inl (cI, 160, .inl (upd o_text_f o_letters.toNatClampNeg a1)))] rfl (fun H locs hP hD hS => ?_)
      refine lv_aload_n hx hb dX9_write_53 rfl (lv_at hl 0 rfl) ?_
      refine xget hx hb hts hown hK 9 (C2 := RX9) (T := TX9) (N := 23) rfl hin_9 hP 0 rfl 10 (by decide) fl_58 rfl rfl rfl dX9_write_54 ?_
      exact hret _ _ _ _ (o_letters + 1) ((o_letters + 1), (upd o_text_f o_letters.toNatClampNeg a1)) dX9_write_57 ((hF.trans (by simp only [fX9_write, xlet, if_neg c_1, if_neg c_2])).symm) hP hD hS
    · have kc_2 := t_eq c_2
      refine lv_bipush (v := (-5)) hx hb dX9_write_30 (by decide) ?_
      exact hret _ _ _ _ (-5) (o_letters, o_text_f) dX9_write_32 ((hF.trans (by simp only [fX9_write, xlet, if_neg c_1, if_pos c_2])).symm) hP hD hS
  · refine lv_bipush (v := (-3)) hx hb dX9_write_17 (by decide) ?_
    exact hret _ _ _ _ (-3) (o_letters, o_text_f) dX9_write_19 ((hF.trans (by simp only [fX9_write, xlet, if_pos c_1])).symm) hP hD hS
theorem dX9_feltAt_0 : decode cX9_feltAt 0 = .ok (.aload_n 0, 1) := by decide +kernel
theorem dX9_feltAt_1 : decode cX9_feltAt 1 = .ok (.getfield 7, 3) := by decide +kernel
theorem dX9_feltAt_4 : decode cX9_feltAt 4 = .ok (.iconst 0, 1) := by decide +kernel
theorem dX9_feltAt_5 : decode cX9_feltAt 5 = .ok (.iaload, 1) := by decide +kernel
theorem dX9_feltAt_6 : decode cX9_feltAt 6 = .ok (.istore 4, 2) := by decide +kernel
theorem dX9_feltAt_8 : decode cX9_feltAt 8 = .ok (.aload_n 0, 1) := by decide +kernel
theorem dX9_feltAt_9 : decode cX9_feltAt 9 = .ok (.getfield 7, 3) := by decide +kernel
theorem dX9_feltAt_12 : decode cX9_feltAt 12 = .ok (.iconst 4, 1) := by decide +kernel
theorem dX9_feltAt_13 : decode cX9_feltAt 13 = .ok (.iload_n 1, 1) := by decide +kernel
theorem dX9_feltAt_14 : decode cX9_feltAt 14 = .ok (.iconst 3, 1) := by decide +kernel
theorem dX9_feltAt_15 : decode cX9_feltAt 15 = .ok (.if_icmp .ne 10, 3) := by decide +kernel
theorem dX9_feltAt_18 : decode cX9_feltAt 18 = .ok (.iload 4, 2) := by decide +kernel
theorem dX9_feltAt_20 : decode cX9_feltAt 20 = .ok (.iload_n 3, 1) := by decide +kernel
theorem dX9_feltAt_21 : decode cX9_feltAt 21 = .ok (.isub, 1) := by decide +kernel
theorem dX9_feltAt_22 : decode cX9_feltAt 22 = .ok (.goto 6, 3) := by decide +kernel
theorem dX9_feltAt_25 : decode cX9_feltAt 25 = .ok (.iload_n 3, 1) := by decide +kernel
theorem dX9_feltAt_26 : decode cX9_feltAt 26 = .ok (.iconst 1, 1) := by decide +kernel
theorem dX9_feltAt_27 : decode cX9_feltAt 27 = .ok (.isub, 1) := by decide +kernel
theorem dX9_feltAt_28 : decode cX9_feltAt 28 = .ok (.iadd, 1) := by decide +kernel
theorem dX9_feltAt_29 : decode cX9_feltAt 29 = .ok (.iaload, 1) := by decide +kernel
theorem dX9_feltAt_30 : decode cX9_feltAt 30 = .ok (.istore 5, 2) := by decide +kernel
theorem dX9_feltAt_32 : decode cX9_feltAt 32 = .ok (.iload_n 1, 1) := by decide +kernel
theorem dX9_feltAt_33 : decode cX9_feltAt 33 = .ok (.tableswitch 55 0 2 #[27, 30, 39], 27) := by decide +kernel
theorem dX9_feltAt_60 : decode cX9_feltAt 60 = .ok (.iload 5, 2) := by decide +kernel
theorem dX9_feltAt_62 : decode cX9_feltAt 62 = .ok (.ireturn, 1) := by decide +kernel
theorem dX9_feltAt_63 : decode cX9_feltAt 63 = .ok (.iload 5, 2) := by decide +kernel
theorem dX9_feltAt_65 : decode cX9_feltAt 65 = .ok (.iload_n 3, 1) := by decide +kernel
theorem dX9_feltAt_66 : decode cX9_feltAt 66 = .ok (.iconst 1, 1) := by decide +kernel
theorem dX9_feltAt_67 : decode cX9_feltAt 67 = .ok (.isub, 1) := by decide +kernel
theorem dX9_feltAt_68 : decode cX9_feltAt 68 = .ok (.iload_n 2, 1) := by decide +kernel
theorem dX9_feltAt_69 : decode cX9_feltAt 69 = .ok (.idiv, 1) := by decide +kernel
theorem dX9_feltAt_70 : decode cX9_feltAt 70 = .ok (.iadd, 1) := by decide +kernel
theorem dX9_feltAt_71 : decode cX9_feltAt 71 = .ok (.ireturn, 1) := by decide +kernel
theorem dX9_feltAt_72 : decode cX9_feltAt 72 = .ok (.iload_n 3, 1) := by decide +kernel
theorem dX9_feltAt_73 : decode cX9_feltAt 73 = .ok (.iload_n 2, 1) := by decide +kernel
theorem dX9_feltAt_74 : decode cX9_feltAt 74 = .ok (.irem, 1) := by decide +kernel
theorem dX9_feltAt_75 : decode cX9_feltAt 75 = .ok (.ifCond .ne 10, 3) := by decide +kernel
theorem dX9_feltAt_78 : decode cX9_feltAt 78 = .ok (.iconst 2, 1) := by decide +kernel
theorem dX9_feltAt_79 : decode cX9_feltAt 79 = .ok (.iload 5, 2) := by decide +kernel
theorem dX9_feltAt_81 : decode cX9_feltAt 81 = .ok (.imul, 1) := by decide +kernel
theorem dX9_feltAt_82 : decode cX9_feltAt 82 = .ok (.goto 5, 3) := by decide +kernel
theorem dX9_feltAt_85 : decode cX9_feltAt 85 = .ok (.iload 5, 2) := by decide +kernel
theorem dX9_feltAt_87 : decode cX9_feltAt 87 = .ok (.ireturn, 1) := by decide +kernel
theorem dX9_feltAt_88 : decode cX9_feltAt 88 = .ok (.iload 5, 2) := by decide +kernel
theorem dX9_feltAt_90 : decode cX9_feltAt 90 = .ok (.iload_n 2, 1) := by decide +kernel
theorem dX9_feltAt_91 : decode cX9_feltAt 91 = .ok (.iadd, 1) := by decide +kernel
theorem dX9_feltAt_92 : decode cX9_feltAt 92 = .ok (.ireturn, 1) := by decide +kernel
def fX9_feltAt (a1 : Int32) (a2 : Int32) (a3 : Int32) (o_road_f : Nat → Int32) : Int32 := xlet (if a1 = 3 then ((o_road_f 0) - a3) else (a3 - 1)) (fun y_1 => if a1 = 0 then ((o_road_f (4 + y_1).toNatClampNeg)) else (if a1 = 1 then (((o_road_f (4 + y_1).toNatClampNeg) + ((a3 - 1) / a2))) else (if a1 = 2 then (xlet (if (a3 - a3 / a2 * a2) = 0 then (2 * (o_road_f (4 + y_1).toNatClampNeg)) else (o_road_f (4 + y_1).toNatClampNeg)) (fun y_2 => y_2)) else (((o_road_f (4 + y_1).toNatClampNeg) + a2)))))
set_option maxHeartbeats 4000000 in
set_option maxRecDepth 100000 in
theorem c_X9_feltAt (l : Launch) (D : va_G) (cI cZ : ClassId) (sz : Nat) (o : Nat) (a1 : Int32) (a2 : Int32) (a3 : Int32) (o_road : Nat) (o_told : Nat) (o_fresh : Nat) (o_was : Nat) (o_acts : Int32) (o_kept : Nat) (o_isKept : Nat) (o_sights : Nat) (o_many : Int32) (o_text : Nat) (o_letters : Int32) (o_thrown : Int32) (o_cursor : Int32) (o_token : Int32) (o_start : Int32) (o_value : Int64) (o_isFault : Int32) (o_faultAt : Int32) (o_above : Int32) (o_below : Int32) (o_topOf : Nat) (o_partsOf : Nat) (o_sent : Nat) (o_road_f : Nat → Int32) (hn0 : 4 ≤ (o_road_f 0).toInt) (hn1 : (o_road_f 0).toInt ≤ 20) (hg1 : 1 ≤ a3.toInt) (hg2 : a3.toInt ≤ (o_road_f 0).toInt) (hh : ¬ a2 = 0) : Met l yX9_feltAt wsX9_feltAt ({ frames := 0, cells := 0, slots := 0, locals := 0 } : Room) (va_Pc [.ref o, .int a1, .int a2, .int a3] (xP D cI cZ [(o, .inr (9, [.ref o_road, .ref o_told, .ref o_fresh, .ref o_was, .int o_acts, .ref o_kept, .ref o_isKept, .ref o_sights, .int o_many, .ref o_text, .int o_letters, .int o_thrown, .int o_cursor, .int o_token, .int o_start, .long o_value, .int o_isFault, .int o_faultAt, .int o_above, .int o_below, .ref o_topOf, .ref o_partsOf, .ref o_sent])), (o_road, .inl (cI, 36, .inl o_road_f))] sz)) (va_Qi (fun (r : Int32) (u : Unit) => r = fX9_feltAt a1 a2 a3 o_road_f) (fun (u : Unit) t => xB D cI cZ [(o, .inr (9, [.ref o_road, .ref o_told, .ref o_fresh, .ref o_was, .int o_acts, .ref o_kept, .ref o_isKept, .ref o_sights, .int o_many, .ref o_text, .int o_letters, .int o_thrown, .int o_cursor, .int o_token, .int o_start, .long o_value, .int o_isFault, .int o_faultAt, .int o_above, .int o_below, .ref o_topOf, .ref o_partsOf, .ref o_sent])), (o_road, .inl (cI, 36, .inl o_road_f))] (va_A [(o, .inr (9, [.ref o_road, .ref o_told, .ref o_fresh, .ref o_was, .int o_acts, .ref o_kept, .ref o_isKept, .ref o_sights, .int o_many, .ref o_text, .int o_letters, .int o_thrown, .int o_cursor, .int o_token, .int o_start, .long o_value, .int o_isFault, .int o_faultAt, .int o_above, .int o_below, .ref o_topOf, .ref o_partsOf, .ref o_sent])), (o_road, .inl (cI, 36, .inl o_road_f))] sz) t) (va_A [(o, .inr (9, [.ref o_road, .ref o_told, .ref o_fresh, .ref o_was, .int o_acts, .ref o_kept, .ref o_isKept, .ref o_sights, .int o_many, .ref o_text, .int o_letters, .int o_thrown, .int o_cursor, .int o_token, .int o_start, .long o_value, .int o_isFault, .int o_faultAt, .int o_above, .int o_below, .ref o_topOf, .ref o_partsOf, .ref o_sent])), (o_road, .inl (cI, 36, .inl o_road_f))] sz)) 0 0 (va_A [(o, .inr (9, [.ref o_road, .ref o_told, .ref o_fresh, .ref o_was, .int o_acts, .ref o_kept, .ref o_isKept, .ref o_sights, .int o_many, .ref o_text, .int o_letters, .int o_thrown, .int o_cursor, .int o_token, .int o_start, .long o_value, .int o_isFault, .int o_faultAt, .int o_above, .int o_below, .ref o_topOf, .ref o_partsOf, .ref o_sent])), (o_road, .inl (cI, 36, .inl o_road_f))] sz) := by
  refine Met.ofW (cc := cX9_feltAt) (maxL := 6) (ret := (some .int)) (by decide) rfl ?_
  intro p e s m args below meth c s₁ B hml hv
  obtain ⟨hargs, hsz, hP, hK, hD0, hE⟩ := hv
  subst hargs
  have hx := B.exec
  have hb := B.bytes
  have hr := B.returns
  have hts := atoms_spec (ws := wsX9_feltAt) B.pre
  have hown : s.vm.findClass RX9 = some m.cls := findClass_of_methodNamed B.named
  have hlocks := B.notSynchronized
  subst hsz
  have hD := hD0.self (sz := s.heap.size)
  generalize hAe : va_A [(o, .inr (9, [.ref o_road, .ref o_told, .ref o_fresh, .ref o_was, .int o_acts, .ref o_kept, .ref o_isKept, .ref o_sights, .int o_many, .ref o_text, .int o_letters, .int o_thrown, .int o_cursor, .int o_token, .int o_start, .long o_value, .int o_isFault, .int o_faultAt, .int o_above, .int o_below, .ref o_topOf, .ref o_partsOf, .ref o_sent])), (o_road, .inl (cI, 36, .inl o_road_f))] s.heap.size = A at hD ⊢
  have hA : ∀ q : Nat, s.heap.size ≤ q → A q := fun q h => by rw [← hAe]; exact Or.inr h
  have hS : va_S A s.heap s.heap [] := va_S.rf
  have hl := lv_entry ([.ref o, .int a1, .int a2, .int a3]) (n := 6) (Nat.le_of_ble_eq_true rfl)
  rw [lg_entry_eq]
  generalize (lg_sl ([.ref o, .int a1, .int a2, .int a3]) ++ List.replicate (6 - (lg_sl ([.ref o, .int a1, .int a2, .int a3])).length) Slot.unset).toArray = ls at hl ⊢
  have hl : lv_has ls 6 [(0, .ref o), (1, .int a1), (2, .int a2), (3, .int a3)] := hl
  refine wq (X := fun Q => ∀ (pc : Nat) (H : Heap) (locs : List Loc) (ls : Array Slot) (r : Int32) (u : Unit) (hd : decode cX9_feltAt pc = .ok (.ireturn, 1)) (hp : r = fX9_feltAt a1 a2 a3 o_road_f) (hP : va_P D vwCl [(o, .inr (9, [.ref o_road, .ref o_told, .ref o_fresh, .ref o_was, .int o_acts, .ref o_kept, .ref o_isKept, .ref o_sights, .int o_many, .ref o_text, .int o_letters, .int o_thrown, .int o_cursor, .int o_token, .int o_start, .long o_value, .int o_isFault, .int o_faultAt, .int o_above, .int o_below, .ref o_topOf, .ref o_partsOf, .ref o_sent])), (o_road, .inl (cI, 36, .inl o_road_f))] H) (hD : va_D A [(o, .inr (9, [.ref o_road, .ref o_told, .ref o_fresh, .ref o_was, .int o_acts, .ref o_kept, .ref o_isKept, .ref o_sights, .int o_many, .ref o_text, .int o_letters, .int o_thrown, .int o_cursor, .int o_token, .int o_start, .long o_value, .int o_isFault, .int o_faultAt, .int o_above, .int o_below, .ref o_topOf, .ref o_partsOf, .ref o_sent])), (o_road, .inl (cI, 36, .inl o_road_f))]) (hS : va_S A s.heap H locs), W p l e ({ frames := 0, cells := 0, slots := 0, locals := 0 } : Room) s m ([.ref o, .int a1, .int a2, .int a3] : List Value).toArray below meth c H locs 0 0 Q (F0 m pc ls [.int r])) ?_ (fun Q hret => ?_)
  · intro pc H locs ls r u hd hp hP hD hS
    exact W.iret (v := r) hx hb hr (fun t ht hW => ⟨⟨r, u, rfl, hp, by rw [ht]; exact hP, va_K.moved hW.alike hK, hD⟩, hS.F ht⟩) hS.2.2 hd
  have hin_9 : ∀ w ∈ u_ws RX9 TX9 23, w ∈ wsX9_feltAt := by decide +kernel
  have fl_7 := hts (.fieldLink RX9 7 "MileRoadModel" "road" "[I") (by decide +kernel)
  have zl_0 : (0 : Int32).toInt = 0 := by decide
  have zl_1 : (1 : Int32).toInt = 1 := by decide
  have zl_3 : (3 : Int32).toInt = 3 := by decide
  have zl_4 : (4 : Int32).toInt = 4 := by decide
  have hF : fX9_feltAt a1 a2 a3 o_road_f = fX9_feltAt a1 a2 a3 o_road_f := rfl
  refine lv_aload_n hx hb dX9_feltAt_0 rfl (lv_at hl 0 rfl) ?_
  refine xget hx hb hts hown hK 9 (C2 := RX9) (T := TX9) (N := 23) rfl hin_9 hP 0 rfl 0 (by decide) fl_7 rfl rfl rfl dX9_feltAt_1 ?_
  refine lv_iconst (v := 0) hx hb dX9_feltAt_4 (by decide) ?_
  refine xald hx hb hK hP 1 0 (k := 0) rfl rfl (vi (by decide) (by decide)) (by decide) dX9_feltAt_5 ?_
  refine lv_istore (lv' := [(4, .int (o_road_f 0)), (0, .ref o), (1, .int a1), (2, .int a2), (3, .int a3)]) hx hb dX9_feltAt_6 hl (by decide) rfl (fun ls hl => ?_)
  refine lv_aload_n hx hb dX9_feltAt_8 rfl (lv_at hl 1 rfl) ?_
  refine xget hx hb hts hown hK 9 (C2 := RX9) (T := TX9) (N := 23) rfl hin_9 hP 0 rfl 0 (by decide) fl_7 rfl rfl rfl dX9_feltAt_9 ?_
  refine lv_iconst (v := 4) hx hb dX9_feltAt_12 (by decide) ?_
  refine lv_iload_n hx hb dX9_feltAt_13 rfl (lv_at hl 2 rfl) ?_
  refine lv_iconst (v := 3) hx hb dX9_feltAt_14 (by decide) ?_
  have K_y_1 : ∀ (y_1 : Int32) (hy_y_1 : (if a1 = 3 then ((o_road_f 0) - a3) else (a3 - 1)) = y_1) (H : Heap) (locs : List Loc) (hP : va_P D vwCl [(o, .inr (9, [.ref o_road, .ref o_told, .ref o_fresh, .ref o_was, .int o_acts, .ref o_kept, .ref o_isKept, .ref o_sights, .int o_many, .ref o_text, .int o_letters, .int o_thrown, .int o_cursor, .int o_token, .int o_start, .long o_value, .int o_isFault, .int o_faultAt, .int o_above, .int o_below, .ref o_topOf, .ref o_partsOf, .ref o_sent])), (o_road, .inl (cI, 36, .inl o_road_f))] H) (hD : va_D A [(o, .inr (9, [.ref o_road, .ref o_told, .ref o_fresh, .ref o_was, .int o_acts, .ref o_kept, .ref o_isKept, .ref o_sights, .int o_many, .ref o_text, .int o_letters, .int o_thrown, .int o_cursor, .int o_token, .int o_start, .long o_value, .int o_isFault, .int o_faultAt, .int o_above, .int o_below, .ref o_topOf, .ref o_partsOf, .ref o_sent])), (o_road, .inl (cI, 36, .inl o_road_f))]) (hS : va_S A s.heap H locs), W p l e ({ frames := 0, cells := 0, slots := 0, locals := 0 } : Room) s m ([.ref o, .int a1, .int a2, .int a3] : List Value).toArray below meth c H locs 0 0 Q (F0 m 28 ls [.int y_1, .int 4, .ref o_road]) := by
    intro y_1 hy_y_1 H locs hP hD hS
    have z_1 : (a3 - 1).toInt = a3.toInt - (1 : Int32).toInt := z_sub (by omega) (by omega)
    have z_2 : ((o_road_f 0) - a3).toInt = (o_road_f 0).toInt - a3.toInt := z_sub (by omega) (by omega)
    have ky_y_1 : y_1 = ((o_road_f 0) - a3) ∨ y_1 = (a3 - 1) := by rw [← hy_y_1]; (repeat' split) <;> simp
    have kt_y_1 : y_1.toInt = ((o_road_f 0) - a3).toInt ∨ y_1.toInt = (a3 - 1).toInt := by rcases ky_y_1 with h8 | h8 <;> (have h9 := t_eq h8; omega)
    refine lv_iadd hx hb dX9_feltAt_28 ?_
    have z_3 : (4 + y_1).toInt = (4 : Int32).toInt + y_1.toInt := z_add (by omega) (by omega)
    refine xald hx hb hK hP 1 0 (k := (4 + y_1).toNatClampNeg) rfl rfl (vi (by omega) (by omega)) rfl dX9_feltAt_29 ?_
    refine lv_istore (lv' := [(5, .int (o_road_f (4 + y_1).toNatClampNeg)), (4, .int (o_road_f 0)), (0, .ref o), (1, .int a1), (2, .int a2), (3, .int a3)]) hx hb dX9_feltAt_30 hl (by decide) rfl (fun ls hl => ?_)
    refine lv_iload_n hx hb dX9_feltAt_32 rfl (lv_at hl 3 rfl) ?_
    by_cases c_2 : a1 = 0
    · refine lv_tableIn (tgt := 60) hx hb dX9_feltAt_33 (by rw [c_2]; decide) (by rw [c_2]; decide) (by rw [c_2]; rfl) (by decide) ?_
      refine lv_iload hx hb dX9_feltAt_60 (lv_at hl 0 rfl) ?_
      exact hret _ _ _ _ (o_road_f (4 + y_1).toNatClampNeg) () dX9_feltAt_62 ((hF.trans (by simp only [fX9_feltAt, xlet, ↓hy_y_1, if_pos c_2])).symm) hP hD hS
    by_cases c_3 : a1 = 1
    · refine lv_tableIn (tgt := 63) hx hb dX9_feltAt_33 (by rw [c_3]; decide) (by rw [c_3]; decide) (by rw [c_3]; rfl) (by decide) ?_
      refine lv_iload hx hb dX9_feltAt_63 (lv_at hl 0 rfl) ?_
      refine lv_iload_n hx hb dX9_feltAt_65 rfl (lv_at hl 5 rfl) ?_
      refine lv_iconst (v := 1) hx hb dX9_feltAt_66 (by decide) ?_
      refine lv_isub hx hb dX9_feltAt_67 ?_
      refine lv_iload_n hx hb dX9_feltAt_68 rfl (lv_at hl 4 rfl) ?_
      refine lv_idiv hx hb dX9_feltAt_69 (by first | assumption | (intro h0; have h1 := t_eq h0; omega)) ?_
      refine lv_iadd hx hb dX9_feltAt_70 ?_
      exact hret _ _ _ _ ((o_road_f (4 + y_1).toNatClampNeg) + ((a3 - 1) / a2)) () dX9_feltAt_71 ((hF.trans (by simp only [fX9_feltAt, xlet, ↓hy_y_1, if_neg c_2, if_pos c_3])).symm) hP hD hS
    by_cases c_4 : a1 = 2
    · refine lv_tableIn (tgt := 72) hx hb dX9_feltAt_33 (by rw [c_4]; decide) (by rw [c_4]; decide) (by rw [c_4]; rfl) (by decide) ?_
      refine lv_iload_n hx hb dX9_feltAt_72 rfl (lv_at hl 5 rfl) ?_
      refine lv_iload_n hx hb dX9_feltAt_73 rfl (lv_at hl 4 rfl) ?_
      refine lv_irem hx hb dX9_feltAt_74 (by first | assumption | (intro h0; have h1 := t_eq h0; omega)) ?_
      have K_y_2 : ∀ (y_2 : Int32) (hy_y_2 : (if (a3 - a3 / a2 * a2) = 0 then (2 * (o_road_f (4 + y_1).toNatClampNeg)) else (o_road_f (4 + y_1).toNatClampNeg)) = y_2) (H : Heap) (locs : List Loc) (hP : va_P D vwCl [(o, .inr (9, [.ref o_road, .ref o_told, .ref o_fresh, .ref o_was, .int o_acts, .ref o_kept, .ref o_isKept, .ref o_sights, .int o_many, .ref o_text, .int o_letters, .int o_thrown, .int o_cursor, .int o_token, .int o_start, .long o_value, .int o_isFault, .int o_faultAt, .int o_above, .int o_below, .ref o_topOf, .ref o_partsOf, .ref o_sent])), (o_road, .inl (cI, 36, .inl o_road_f))] H) (hD : va_D A [(o, .inr (9, [.ref o_road, .ref o_told, .ref o_fresh, .ref o_was, .int o_acts, .ref o_kept, .ref o_isKept, .ref o_sights, .int o_many, .ref o_text, .int o_letters, .int o_thrown, .int o_cursor, .int o_token, .int o_start, .long o_value, .int o_isFault, .int o_faultAt, .int o_above, .int o_below, .ref o_topOf, .ref o_partsOf, .ref o_sent])), (o_road, .inl (cI, 36, .inl o_road_f))]) (hS : va_S A s.heap H locs), W p l e ({ frames := 0, cells := 0, slots := 0, locals := 0 } : Room) s m ([.ref o, .int a1, .int a2, .int a3] : List Value).toArray below meth c H locs 0 0 Q (F0 m 87 ls [.int y_2]) := by
        intro y_2 hy_y_2 H locs hP hD hS
        have ky_y_2 : y_2 = (2 * (o_road_f (4 + y_1).toNatClampNeg)) ∨ y_2 = (o_road_f (4 + y_1).toNatClampNeg) := by rw [← hy_y_2]; (repeat' split) <;> simp
        exact hret _ _ _ _ y_2 () dX9_feltAt_87 ((hF.trans (by simp only [fX9_feltAt, xlet, ↓hy_y_1, if_neg c_2, if_neg c_3, if_pos c_4, ↓hy_y_2])).symm) hP hD hS
      refine lv_if_ne (tgt := 85) hx hb dX9_feltAt_75 (by decide) (fun c_5 => ?_) (fun c_5 => ?_)
      · refine lv_iload hx hb dX9_feltAt_85 (lv_at hl 0 rfl) ?_
        exact K_y_2 _ (by simp only [xlet, if_neg c_5]) _ _ hP hD hS
      · refine lv_iconst (v := 2) hx hb dX9_feltAt_78 (by decide) ?_
        refine lv_iload hx hb dX9_feltAt_79 (lv_at hl 0 rfl) ?_
        refine lv_imul hx hb dX9_feltAt_81 ?_
        refine lv_goto (tgt := 87) hx hb dX9_feltAt_82 (by decide) ?_
        exact K_y_2 _ (by simp only [xlet, if_pos c_5]) _ _ hP hD hS
    · refine lv_tableOut (tgt := 88) hx hb dX9_feltAt_33 (by have := t_nel 0 (k := 0) rfl c_2; have := t_nel 1 (k := 1) rfl c_3; have := t_nel 2 (k := 2) rfl c_4; omega) (by decide) ?_
      refine lv_iload hx hb dX9_feltAt_88 (lv_at hl 0 rfl) ?_
      refine lv_iload_n hx hb dX9_feltAt_90 rfl (lv_at hl 4 rfl) ?_
      refine lv_iadd hx hb dX9_feltAt_91 ?_
      exact hret _ _ _ _ ((o_road_f (4 + y_1).toNatClampNeg) + a2) () dX9_feltAt_92 ((hF.trans (by simp only [fX9_feltAt, xlet, ↓hy_y_1, if_neg c_2, if_neg c_3, if_neg c_4])).symm) hP hD hS
  refine lv_icmp_ne (tgt := 25) hx hb dX9_feltAt_15 (by decide) (fun c_1 => ?_) (fun c_1 => ?_)
  · have kc_1 := t_neq c_1
    refine lv_iload_n hx hb dX9_feltAt_25 rfl (lv_at hl 4 rfl) ?_
    refine lv_iconst (v := 1) hx hb dX9_feltAt_26 (by decide) ?_
    refine lv_isub hx hb dX9_feltAt_27 ?_
    exact K_y_1 _ (by simp only [xlet, if_neg c_1]) _ _ hP hD hS
  · have kc_1 := t_eq c_1
    refine lv_iload hx hb dX9_feltAt_18 (lv_at hl 0 rfl) ?_
    refine lv_iload_n hx hb dX9_feltAt_20 rfl (lv_at hl 4 rfl) ?_
    refine lv_isub hx hb dX9_feltAt_21 ?_
    refine lv_goto (tgt := 28) hx hb dX9_feltAt_22 (by decide) ?_
    exact K_y_1 _ (by simp only [xlet, if_pos c_1]) _ _ hP hD hS
set_option maxRecDepth 20000 in
theorem ggX9_feltInAll_X9_feltAt : GoodIn wsX9_feltInAll wsX9_feltAt := goodIn_r _ [6, 1, 7, 8, 9, 10, 11, 12, 13, 14, 15, 16, 17, 18, 19, 20, 21, 22, 23, 24, 25, 26, 27, 28, 29] (by decide +kernel) (by decide +kernel)
set_option maxRecDepth 20000 in
theorem gX9_feltInAll_X9_feltAt : GoodIn wsX9_feltInAll (wsV RX9 134 RX9 yX9_feltAt wsX9_feltAt) := goodIn_app (goodIn_of _ (by decide +kernel)) ggX9_feltInAll_X9_feltAt
theorem dX9_feltInAll_0 : decode cX9_feltInAll 0 = .ok (.iconst 0, 1) := by decide +kernel
theorem dX9_feltInAll_1 : decode cX9_feltInAll 1 = .ok (.istore_n 2, 1) := by decide +kernel
theorem dX9_feltInAll_2 : decode cX9_feltInAll 2 = .ok (.iconst 1, 1) := by decide +kernel
theorem dX9_feltInAll_3 : decode cX9_feltInAll 3 = .ok (.istore_n 3, 1) := by decide +kernel
theorem dX9_feltInAll_4 : decode cX9_feltInAll 4 = .ok (.iload_n 3, 1) := by decide +kernel
theorem dX9_feltInAll_5 : decode cX9_feltInAll 5 = .ok (.aload_n 0, 1) := by decide +kernel
theorem dX9_feltInAll_6 : decode cX9_feltInAll 6 = .ok (.getfield 7, 3) := by decide +kernel
theorem dX9_feltInAll_9 : decode cX9_feltInAll 9 = .ok (.iconst 0, 1) := by decide +kernel
theorem dX9_feltInAll_10 : decode cX9_feltInAll 10 = .ok (.iaload, 1) := by decide +kernel
theorem dX9_feltInAll_11 : decode cX9_feltInAll 11 = .ok (.if_icmp .gt 35, 3) := by decide +kernel
theorem dX9_feltInAll_14 : decode cX9_feltInAll 14 = .ok (.iload_n 2, 1) := by decide +kernel
theorem dX9_feltInAll_15 : decode cX9_feltInAll 15 = .ok (.aload_n 0, 1) := by decide +kernel
theorem dX9_feltInAll_16 : decode cX9_feltInAll 16 = .ok (.aload_n 0, 1) := by decide +kernel
theorem dX9_feltInAll_17 : decode cX9_feltInAll 17 = .ok (.getfield 7, 3) := by decide +kernel
theorem dX9_feltInAll_20 : decode cX9_feltInAll 20 = .ok (.bipush 24, 2) := by decide +kernel
theorem dX9_feltInAll_22 : decode cX9_feltInAll 22 = .ok (.iload_n 1, 1) := by decide +kernel
theorem dX9_feltInAll_23 : decode cX9_feltInAll 23 = .ok (.iadd, 1) := by decide +kernel
theorem dX9_feltInAll_24 : decode cX9_feltInAll 24 = .ok (.iaload, 1) := by decide +kernel
theorem dX9_feltInAll_25 : decode cX9_feltInAll 25 = .ok (.aload_n 0, 1) := by decide +kernel
theorem dX9_feltInAll_26 : decode cX9_feltInAll 26 = .ok (.getfield 7, 3) := by decide +kernel
theorem dX9_feltInAll_29 : decode cX9_feltInAll 29 = .ok (.bipush 30, 2) := by decide +kernel
theorem dX9_feltInAll_31 : decode cX9_feltInAll 31 = .ok (.iload_n 1, 1) := by decide +kernel
theorem dX9_feltInAll_32 : decode cX9_feltInAll 32 = .ok (.iadd, 1) := by decide +kernel
theorem dX9_feltInAll_33 : decode cX9_feltInAll 33 = .ok (.iaload, 1) := by decide +kernel
theorem dX9_feltInAll_34 : decode cX9_feltInAll 34 = .ok (.iload_n 3, 1) := by decide +kernel
theorem dX9_feltInAll_35 : decode cX9_feltInAll 35 = .ok (.invokevirtual 134, 3) := by decide +kernel
theorem dX9_feltInAll_38 : decode cX9_feltInAll 38 = .ok (.iadd, 1) := by decide +kernel
theorem dX9_feltInAll_39 : decode cX9_feltInAll 39 = .ok (.istore_n 2, 1) := by decide +kernel
theorem dX9_feltInAll_40 : decode cX9_feltInAll 40 = .ok (.iinc 3 1, 3) := by decide +kernel
theorem dX9_feltInAll_43 : decode cX9_feltInAll 43 = .ok (.goto (-39), 3) := by decide +kernel
theorem dX9_feltInAll_46 : decode cX9_feltInAll 46 = .ok (.iload_n 2, 1) := by decide +kernel
theorem dX9_feltInAll_47 : decode cX9_feltInAll 47 = .ok (.ireturn, 1) := by decide +kernel
def fX9_feltInAll_4 (a1 : Int32) (o_road_f : Nat → Int32)  : Nat → Int32 → Int32 → Int32
  | 0, _, _ => default
  | n + 1, v4_2, v4_3 => if (o_road_f 0) < v4_3 then v4_2 else (fX9_feltInAll_4 a1 o_road_f n (v4_2 + (fX9_feltAt (o_road_f (24 + a1).toNatClampNeg) (o_road_f (30 + a1).toNatClampNeg) v4_3 o_road_f)) (v4_3 + 1))
def fX9_feltInAll (a1 : Int32) (o_road_f : Nat → Int32) : Int32 := fX9_feltInAll_4 a1 o_road_f 1000 0 1
set_option maxHeartbeats 4000000 in
set_option maxRecDepth 100000 in
theorem c_X9_feltInAll (l : Launch) (D : va_G) (cI cZ : ClassId) (sz : Nat) (o : Nat) (a1 : Int32) (o_road : Nat) (o_told : Nat) (o_fresh : Nat) (o_was : Nat) (o_acts : Int32) (o_kept : Nat) (o_isKept : Nat) (o_sights : Nat) (o_many : Int32) (o_text : Nat) (o_letters : Int32) (o_thrown : Int32) (o_cursor : Int32) (o_token : Int32) (o_start : Int32) (o_value : Int64) (o_isFault : Int32) (o_faultAt : Int32) (o_above : Int32) (o_below : Int32) (o_topOf : Nat) (o_partsOf : Nat) (o_sent : Nat) (o_road_f : Nat → Int32) (hn0 : 4 ≤ (o_road_f 0).toInt) (hn1 : (o_road_f 0).toInt ≤ 20) (hv0 : 0 ≤ (o_road_f 2).toInt) (hv6 : (o_road_f 2).toInt ≤ 6) (hhab : ∀ w : Int32, 0 ≤ w.toInt → w.toInt < (o_road_f 2).toInt → ¬ o_road_f (30 + w).toNatClampNeg = 0) (hw0 : 0 ≤ a1.toInt) (hw1 : a1.toInt < (o_road_f 2).toInt) : Met l yX9_feltInAll wsX9_feltInAll ({ frames := 1, cells := 0, slots := 0, locals := 25 } : Room) (va_Pc [.ref o, .int a1] (xP D cI cZ [(o, .inr (9, [.ref o_road, .ref o_told, .ref o_fresh, .ref o_was, .int o_acts, .ref o_kept, .ref o_isKept, .ref o_sights, .int o_many, .ref o_text, .int o_letters, .int o_thrown, .int o_cursor, .int o_token, .int o_start, .long o_value, .int o_isFault, .int o_faultAt, .int o_above, .int o_below, .ref o_topOf, .ref o_partsOf, .ref o_sent])), (o_road, .inl (cI, 36, .inl o_road_f))] sz)) (va_Qi (fun (r : Int32) (u : Unit) => r = fX9_feltInAll a1 o_road_f) (fun (u : Unit) t => xB D cI cZ [(o, .inr (9, [.ref o_road, .ref o_told, .ref o_fresh, .ref o_was, .int o_acts, .ref o_kept, .ref o_isKept, .ref o_sights, .int o_many, .ref o_text, .int o_letters, .int o_thrown, .int o_cursor, .int o_token, .int o_start, .long o_value, .int o_isFault, .int o_faultAt, .int o_above, .int o_below, .ref o_topOf, .ref o_partsOf, .ref o_sent])), (o_road, .inl (cI, 36, .inl o_road_f))] (va_A [(o, .inr (9, [.ref o_road, .ref o_told, .ref o_fresh, .ref o_was, .int o_acts, .ref o_kept, .ref o_isKept, .ref o_sights, .int o_many, .ref o_text, .int o_letters, .int o_thrown, .int o_cursor, .int o_token, .int o_start, .long o_value, .int o_isFault, .int o_faultAt, .int o_above, .int o_below, .ref o_topOf, .ref o_partsOf, .ref o_sent])), (o_road, .inl (cI, 36, .inl o_road_f))] sz) t) (va_A [(o, .inr (9, [.ref o_road, .ref o_told, .ref o_fresh, .ref o_was, .int o_acts, .ref o_kept, .ref o_isKept, .ref o_sights, .int o_many, .ref o_text, .int o_letters, .int o_thrown, .int o_cursor, .int o_token, .int o_start, .long o_value, .int o_isFault, .int o_faultAt, .int o_above, .int o_below, .ref o_topOf, .ref o_partsOf, .ref o_sent])), (o_road, .inl (cI, 36, .inl o_road_f))] sz)) 0 0 (va_A [(o, .inr (9, [.ref o_road, .ref o_told, .ref o_fresh, .ref o_was, .int o_acts, .ref o_kept, .ref o_isKept, .ref o_sights, .int o_many, .ref o_text, .int o_letters, .int o_thrown, .int o_cursor, .int o_token, .int o_start, .long o_value, .int o_isFault, .int o_faultAt, .int o_above, .int o_below, .ref o_topOf, .ref o_partsOf, .ref o_sent])), (o_road, .inl (cI, 36, .inl o_road_f))] sz) := by
  refine Met.ofW (cc := cX9_feltInAll) (maxL := 4) (ret := (some .int)) (by decide) rfl ?_
  intro p e s m args below meth c s₁ B hml hv
  obtain ⟨hargs, hsz, hP, hK, hD0, hE⟩ := hv
  subst hargs
  have hx := B.exec
  have hb := B.bytes
  have hr := B.returns
  have hts := atoms_spec (ws := wsX9_feltInAll) B.pre
  have hown : s.vm.findClass RX9 = some m.cls := findClass_of_methodNamed B.named
  have hlocks := B.notSynchronized
  subst hsz
  have hD := hD0.self (sz := s.heap.size)
  generalize hAe : va_A [(o, .inr (9, [.ref o_road, .ref o_told, .ref o_fresh, .ref o_was, .int o_acts, .ref o_kept, .ref o_isKept, .ref o_sights, .int o_many, .ref o_text, .int o_letters, .int o_thrown, .int o_cursor, .int o_token, .int o_start, .long o_value, .int o_isFault, .int o_faultAt, .int o_above, .int o_below, .ref o_topOf, .ref o_partsOf, .ref o_sent])), (o_road, .inl (cI, 36, .inl o_road_f))] s.heap.size = A at hD ⊢
  have hA : ∀ q : Nat, s.heap.size ≤ q → A q := fun q h => by rw [← hAe]; exact Or.inr h
  have hS : va_S A s.heap s.heap [] := va_S.rf
  have hl := lv_entry ([.ref o, .int a1]) (n := 4) (Nat.le_of_ble_eq_true rfl)
  rw [lg_entry_eq]
  generalize (lg_sl ([.ref o, .int a1]) ++ List.replicate (4 - (lg_sl ([.ref o, .int a1])).length) Slot.unset).toArray = ls at hl ⊢
  have hl : lv_has ls 4 [(0, .ref o), (1, .int a1)] := hl
  refine wq (X := fun Q => ∀ (pc : Nat) (H : Heap) (locs : List Loc) (ls : Array Slot) (r : Int32) (u : Unit) (hd : decode cX9_feltInAll pc = .ok (.ireturn, 1)) (hp : r = fX9_feltInAll a1 o_road_f) (hP : va_P D vwCl [(o, .inr (9, [.ref o_road, .ref o_told, .ref o_fresh, .ref o_was, .int o_acts, .ref o_kept, .ref o_isKept, .ref o_sights, .int o_many, .ref o_text, .int o_letters, .int o_thrown, .int o_cursor, .int o_token, .int o_start, .long o_value, .int o_isFault, .int o_faultAt, .int o_above, .int o_below, .ref o_topOf, .ref o_partsOf, .ref o_sent])), (o_road, .inl (cI, 36, .inl o_road_f))] H) (hD : va_D A [(o, .inr (9, [.ref o_road, .ref o_told, .ref o_fresh, .ref o_was, .int o_acts, .ref o_kept, .ref o_isKept, .ref o_sights, .int o_many, .ref o_text, .int o_letters, .int o_thrown, .int o_cursor, .int o_token, .int o_start, .long o_value, .int o_isFault, .int o_faultAt, .int o_above, .int o_below, .ref o_topOf, .ref o_partsOf, .ref o_sent])), (o_road, .inl (cI, 36, .inl o_road_f))]) (hS : va_S A s.heap H locs), W p l e ({ frames := 1, cells := 0, slots := 0, locals := 25 } : Room) s m ([.ref o, .int a1] : List Value).toArray below meth c H locs 0 0 Q (F0 m pc ls [.int r])) ?_ (fun Q hret => ?_)
  · intro pc H locs ls r u hd hp hP hD hS
    exact W.iret (v := r) hx hb hr (fun t ht hW => ⟨⟨r, u, rfl, hp, by rw [ht]; exact hP, va_K.moved hW.alike hK, hD⟩, hS.F ht⟩) hS.2.2 hd
  have hin_9 : ∀ w ∈ u_ws RX9 TX9 23, w ∈ wsX9_feltInAll := by decide +kernel
  have fl_7 := hts (.fieldLink RX9 7 "MileRoadModel" "road" "[I") (by decide +kernel)
  have zl_0 : (0 : Int32).toInt = 0 := by decide
  have zl_1 : (1 : Int32).toInt = 1 := by decide
  have zl_24 : (24 : Int32).toInt = 24 := by decide
  have zl_30 : (30 : Int32).toInt = 30 := by decide
  have hF : fX9_feltInAll a1 o_road_f = fX9_feltInAll a1 o_road_f := rfl
  have L_4 : ∀ (n : Nat) (v4_2 : Int32) (v4_3 : Int32) (h1_4 : 1 ≤ v4_3.toInt) (h2_4 : v4_3.toInt ≤ 21) (hm : 21 - v4_3.toInt < (n : Int)) (H : Heap) (locs : List Loc) (ls : Array Slot) (hl : lv_has ls 4 [(0, .ref o), (1, .int a1), (2, .int v4_2), (3, .int v4_3)]) (hP : va_P D vwCl [(o, .inr (9, [.ref o_road, .ref o_told, .ref o_fresh, .ref o_was, .int o_acts, .ref o_kept, .ref o_isKept, .ref o_sights, .int o_many, .ref o_text, .int o_letters, .int o_thrown, .int o_cursor, .int o_token, .int o_start, .long o_value, .int o_isFault, .int o_faultAt, .int o_above, .int o_below, .ref o_topOf, .ref o_partsOf, .ref o_sent])), (o_road, .inl (cI, 36, .inl o_road_f))] H) (hD : va_D A [(o, .inr (9, [.ref o_road, .ref o_told, .ref o_fresh, .ref o_was, .int o_acts, .ref o_kept, .ref o_isKept, .ref o_sights, .int o_many, .ref o_text, .int o_letters, .int o_thrown, .int o_cursor, .int o_token, .int o_start, .long o_value, .int o_isFault, .int o_faultAt, .int o_above, .int o_below, .ref o_topOf, .ref o_partsOf, .ref o_sent])), (o_road, .inl (cI, 36, .inl o_road_f))]) (hS : va_S A s.heap H locs) (hF : fX9_feltInAll a1 o_road_f = fX9_feltInAll_4 a1 o_road_f n v4_2 v4_3), W p l e ({ frames := 1, cells := 0, slots := 0, locals := 25 } : Room) s m ([.ref o, .int a1] : List Value).toArray below meth c H locs 0 0 Q (F0 m 4 ls []) := by
    intro n
    induction n with
    | zero =>
      intro v4_2 v4_3 h1_4 h2_4 hm H locs ls hl hP hD hS hF
      exact absurd hm (by omega)
    | succ n ih_4 =>
      intro v4_2 v4_3 h1_4 h2_4 hm H locs ls hl hP hD hS hF
      refine lv_iload_n hx hb dX9_feltInAll_4 rfl (lv_at hl 3 rfl) ?_
      refine lv_aload_n hx hb dX9_feltInAll_5 rfl (lv_at hl 0 rfl) ?_
      refine xget hx hb hts hown hK 9 (C2 := RX9) (T := TX9) (N := 23) rfl hin_9 hP 0 rfl 0 (by decide) fl_7 rfl rfl rfl dX9_feltInAll_6 ?_
      refine lv_iconst (v := 0) hx hb dX9_feltInAll_9 (by decide) ?_
      refine xald hx hb hK hP 1 0 (k := 0) rfl rfl (vi (by decide) (by decide)) (by decide) dX9_feltInAll_10 ?_
      refine lv_icmp_gt (tgt := 46) hx hb dX9_feltInAll_11 (by decide) (fun c_1 => ?_) (fun c_1 => ?_)
      · have kc_1 := t_lt c_1
        refine lv_iload_n hx hb dX9_feltInAll_46 rfl (lv_at hl 2 rfl) ?_
        exact hret _ _ _ _ v4_2 () dX9_feltInAll_47 ((hF.trans (by simp only [fX9_feltInAll_4, xlet, if_pos c_1])).symm) hP hD hS
      · have kc_1 := t_nlt c_1
        refine lv_iload_n hx hb dX9_feltInAll_14 rfl (lv_at hl 2 rfl) ?_
        refine lv_aload_n hx hb dX9_feltInAll_15 rfl (lv_at hl 0 rfl) ?_
        refine lv_aload_n hx hb dX9_feltInAll_16 rfl (lv_at hl 0 rfl) ?_
        refine xget hx hb hts hown hK 9 (C2 := RX9) (T := TX9) (N := 23) rfl hin_9 hP 0 rfl 0 (by decide) fl_7 rfl rfl rfl dX9_feltInAll_17 ?_
        refine lv_bipush (v := 24) hx hb dX9_feltInAll_20 (by decide) ?_
        refine lv_iload_n hx hb dX9_feltInAll_22 rfl (lv_at hl 1 rfl) ?_
        refine lv_iadd hx hb dX9_feltInAll_23 ?_
        have z_1 : (24 + a1).toInt = (24 : Int32).toInt + a1.toInt := z_add (by omega) (by omega)
        refine xald hx hb hK hP 1 0 (k := (24 + a1).toNatClampNeg) rfl rfl (vi (by omega) (by omega)) rfl dX9_feltInAll_24 ?_
        refine lv_aload_n hx hb dX9_feltInAll_25 rfl (lv_at hl 0 rfl) ?_
        refine xget hx hb hts hown hK 9 (C2 := RX9) (T := TX9) (N := 23) rfl hin_9 hP 0 rfl 0 (by decide) fl_7 rfl rfl rfl dX9_feltInAll_26 ?_
        refine lv_bipush (v := 30) hx hb dX9_feltInAll_29 (by decide) ?_
        refine lv_iload_n hx hb dX9_feltInAll_31 rfl (lv_at hl 1 rfl) ?_
        refine lv_iadd hx hb dX9_feltInAll_32 ?_
        have z_2 : (30 + a1).toInt = (30 : Int32).toInt + a1.toInt := z_add (by omega) (by omega)
        refine xald hx hb hK hP 1 0 (k := (30 + a1).toNatClampNeg) rfl rfl (vi (by omega) (by omega)) rfl dX9_feltInAll_33 ?_
        refine lv_iload_n hx hb dX9_feltInAll_34 rfl (lv_at hl 3 rfl) ?_
        refine xcalli (S := Unit) (Wc := [(o, .inr (9, [.ref o_road, .ref o_told, .ref o_fresh, .ref o_was, .int o_acts, .ref o_kept, .ref o_isKept, .ref o_sights, .int o_many, .ref o_text, .int o_letters, .int o_thrown, .int o_cursor, .int o_token, .int o_start, .long o_value, .int o_isFault, .int o_faultAt, .int o_above, .int o_below, .ref o_topOf, .ref o_partsOf, .ref o_sent])), (o_road, .inl (cI, 36, .inl o_road_f))]) (wr := []) (W1 := (fun (u : Unit) => [(o, .inr (9, [.ref o_road, .ref o_told, .ref o_fresh, .ref o_was, .int o_acts, .ref o_kept, .ref o_isKept, .ref o_sights, .int o_many, .ref o_text, .int o_letters, .int o_thrown, .int o_cursor, .int o_token, .int o_start, .long o_value, .int o_isFault, .int o_faultAt, .int o_above, .int o_below, .ref o_topOf, .ref o_partsOf, .ref o_sent])), (o_road, .inl (cI, 36, .inl o_road_f))])) (Wn := (fun (u : Unit) => [(o, .inr (9, [.ref o_road, .ref o_told, .ref o_fresh, .ref o_was, .int o_acts, .ref o_kept, .ref o_isKept, .ref o_sights, .int o_many, .ref o_text, .int o_letters, .int o_thrown, .int o_cursor, .int o_token, .int o_start, .long o_value, .int o_isFault, .int o_faultAt, .int o_above, .int o_below, .ref o_topOf, .ref o_partsOf, .ref o_sent])), (o_road, .inl (cI, 36, .inl o_road_f))])) (xrunV hx hb hml hown hts (c_X9_feltAt l D cI cZ _ o (o_road_f (24 + a1).toNatClampNeg) (o_road_f (30 + a1).toNatClampNeg) v4_3 o_road o_told o_fresh o_was o_acts o_kept o_isKept o_sights o_many o_text o_letters o_thrown o_cursor o_token o_start o_value o_isFault o_faultAt o_above o_below o_topOf o_partsOf o_sent o_road_f hn0 hn1 (by first | assumption | decide | omega) (by first | assumption | decide | omega) (hhab _ hw0 hw1)) (cwV 3 hts gX9_feltInAll_X9_feltAt rfl rfl rfl (by decide +kernel) ⟨Nat.le_of_ble_eq_true rfl, Nat.le_of_ble_eq_true rfl⟩) hE hK hP hD [0, 1] rfl rfl 0 9 (T := TX9) (N := 23) rfl rfl rfl hl.1 rfl (Nat.le_of_ble_eq_true rfl) dX9_feltInAll_35 ⟨Nat.le_of_ble_eq_true rfl, Nat.le_of_ble_eq_true rfl⟩) hP hD hS hA [0, 1] [] [0, 1] rfl rfl rfl (by decide) (fun _ => rfl) rfl (fun r1 u H locs hw hz hP hD hS => ?_)
        subst hw
        refine lv_iadd hx hb dX9_feltInAll_38 ?_
        refine lv_istore_n (lv' := [(2, .int (v4_2 + (fX9_feltAt (o_road_f (24 + a1).toNatClampNeg) (o_road_f (30 + a1).toNatClampNeg) v4_3 o_road_f))), (0, .ref o), (1, .int a1), (3, .int v4_3)]) hx hb dX9_feltInAll_39 rfl hl (by decide) rfl (fun ls hl => ?_)
        refine lv_iinc (v := (v4_3 + 1)) (lv' := [(3, .int (v4_3 + 1)), (2, .int (v4_2 + (fX9_feltAt (o_road_f (24 + a1).toNatClampNeg) (o_road_f (30 + a1).toNatClampNeg) v4_3 o_road_f))), (0, .ref o), (1, .int a1)]) hx hb dX9_feltInAll_40 hl (k := 3) rfl (by rfl) (by decide) rfl (fun ls hl => ?_)
        refine lv_goto (tgt := 4) hx hb dX9_feltInAll_43 (by decide) ?_
        have z_3 : (v4_3 + 1).toInt = v4_3.toInt + (1 : Int32).toInt := z_add (by omega) (by omega)
        exact ih_4 (v4_2 + (fX9_feltAt (o_road_f (24 + a1).toNatClampNeg) (o_road_f (30 + a1).toNatClampNeg) v4_3 o_road_f)) (v4_3 + 1) (by first | assumption | omega | decide | (split <;> rename_i hh <;> first | (have h9 := t_nlt hh; omega) | (have h9 := t_lt hh; omega) | (have h9 := t_nle hh; omega) | (have h9 := t_le hh; omega))) (by first | assumption | omega | decide | (split <;> rename_i hh <;> first | (have h9 := t_nlt hh; omega) | (have h9 := t_lt hh; omega) | (have h9 := t_nle hh; omega) | (have h9 := t_le hh; omega))) (by first | assumption | omega | decide | (split <;> rename_i hh <;> first | (have h9 := t_nlt hh; omega) | (have h9 := t_lt hh; omega) | (have h9 := t_nle hh; omega) | (have h9 := t_le hh; omega))) _ _ _ (lv_sub hl [2, 3, 1, 0] rfl) hP hD hS (hF.trans (by simp only [fX9_feltInAll_4, xlet, if_neg c_1]))
  refine lv_iconst (v := 0) hx hb dX9_feltInAll_0 (by decide) ?_
  refine lv_istore_n (lv' := [(2, .int 0), (0, .ref o), (1, .int a1)]) hx hb dX9_feltInAll_1 rfl hl (by decide) rfl (fun ls hl => ?_)
  refine lv_iconst (v := 1) hx hb dX9_feltInAll_2 (by decide) ?_
  refine lv_istore_n (lv' := [(3, .int 1), (2, .int 0), (0, .ref o), (1, .int a1)]) hx hb dX9_feltInAll_3 rfl hl (by decide) rfl (fun ls hl => ?_)
  exact L_4 1000 0 1 (by first | assumption | omega | decide | (split <;> rename_i hh <;> first | (have h9 := t_nlt hh; omega) | (have h9 := t_lt hh; omega) | (have h9 := t_nle hh; omega) | (have h9 := t_le hh; omega))) (by first | assumption | omega | decide | (split <;> rename_i hh <;> first | (have h9 := t_nlt hh; omega) | (have h9 := t_lt hh; omega) | (have h9 := t_nle hh; omega) | (have h9 := t_le hh; omega))) (by first | assumption | omega | decide | (split <;> rename_i hh <;> first | (have h9 := t_nlt hh; omega) | (have h9 := t_lt hh; omega) | (have h9 := t_nle hh; omega) | (have h9 := t_le hh; omega))) _ _ _ (lv_sub hl [2, 3, 1, 0] rfl) hP hD hS (hF.trans (by simp only [fX9_feltInAll, xlet]))
set_option maxRecDepth 20000 in
theorem ggX9_stoneBy_X9_feltAt : GoodIn wsX9_stoneBy wsX9_feltAt := goodIn_r _ [6, 1, 7, 8, 9, 10, 11, 12, 13, 14, 15, 16, 17, 18, 19, 20, 21, 22, 23, 24, 25, 26, 27, 28, 29] (by decide +kernel) (by decide +kernel)
set_option maxRecDepth 20000 in
theorem gX9_stoneBy_X9_feltAt : GoodIn wsX9_stoneBy (wsV RX9 134 RX9 yX9_feltAt wsX9_feltAt) := goodIn_app (goodIn_of _ (by decide +kernel)) ggX9_stoneBy_X9_feltAt
theorem dX9_stoneBy_0 : decode cX9_stoneBy 0 = .ok (.iconst 0, 1) := by decide +kernel
theorem dX9_stoneBy_1 : decode cX9_stoneBy 1 = .ok (.istore 5, 2) := by decide +kernel
theorem dX9_stoneBy_3 : decode cX9_stoneBy 3 = .ok (.iconst 1, 1) := by decide +kernel
theorem dX9_stoneBy_4 : decode cX9_stoneBy 4 = .ok (.istore 6, 2) := by decide +kernel
theorem dX9_stoneBy_6 : decode cX9_stoneBy 6 = .ok (.iload 6, 2) := by decide +kernel
theorem dX9_stoneBy_8 : decode cX9_stoneBy 8 = .ok (.aload_n 0, 1) := by decide +kernel
theorem dX9_stoneBy_9 : decode cX9_stoneBy 9 = .ok (.getfield 7, 3) := by decide +kernel
theorem dX9_stoneBy_12 : decode cX9_stoneBy 12 = .ok (.iconst 0, 1) := by decide +kernel
theorem dX9_stoneBy_13 : decode cX9_stoneBy 13 = .ok (.iaload, 1) := by decide +kernel
theorem dX9_stoneBy_14 : decode cX9_stoneBy 14 = .ok (.if_icmp .gt 51, 3) := by decide +kernel
theorem dX9_stoneBy_17 : decode cX9_stoneBy 17 = .ok (.iload 5, 2) := by decide +kernel
theorem dX9_stoneBy_19 : decode cX9_stoneBy 19 = .ok (.aload_n 0, 1) := by decide +kernel
theorem dX9_stoneBy_20 : decode cX9_stoneBy 20 = .ok (.iload_n 1, 1) := by decide +kernel
theorem dX9_stoneBy_21 : decode cX9_stoneBy 21 = .ok (.iload_n 2, 1) := by decide +kernel
theorem dX9_stoneBy_22 : decode cX9_stoneBy 22 = .ok (.iload 6, 2) := by decide +kernel
theorem dX9_stoneBy_24 : decode cX9_stoneBy 24 = .ok (.invokevirtual 134, 3) := by decide +kernel
theorem dX9_stoneBy_27 : decode cX9_stoneBy 27 = .ok (.iadd, 1) := by decide +kernel
theorem dX9_stoneBy_28 : decode cX9_stoneBy 28 = .ok (.istore 5, 2) := by decide +kernel
theorem dX9_stoneBy_30 : decode cX9_stoneBy 30 = .ok (.iload 5, 2) := by decide +kernel
theorem dX9_stoneBy_32 : decode cX9_stoneBy 32 = .ok (.iload_n 3, 1) := by decide +kernel
theorem dX9_stoneBy_33 : decode cX9_stoneBy 33 = .ok (.iload 4, 2) := by decide +kernel
theorem dX9_stoneBy_35 : decode cX9_stoneBy 35 = .ok (.imul, 1) := by decide +kernel
theorem dX9_stoneBy_36 : decode cX9_stoneBy 36 = .ok (.if_icmp .lt 23, 3) := by decide +kernel
theorem dX9_stoneBy_39 : decode cX9_stoneBy 39 = .ok (.iload_n 1, 1) := by decide +kernel
theorem dX9_stoneBy_40 : decode cX9_stoneBy 40 = .ok (.iconst 3, 1) := by decide +kernel
theorem dX9_stoneBy_41 : decode cX9_stoneBy 41 = .ok (.if_icmp .ne 15, 3) := by decide +kernel
theorem dX9_stoneBy_44 : decode cX9_stoneBy 44 = .ok (.aload_n 0, 1) := by decide +kernel
theorem dX9_stoneBy_45 : decode cX9_stoneBy 45 = .ok (.getfield 7, 3) := by decide +kernel
theorem dX9_stoneBy_48 : decode cX9_stoneBy 48 = .ok (.iconst 0, 1) := by decide +kernel
theorem dX9_stoneBy_49 : decode cX9_stoneBy 49 = .ok (.iaload, 1) := by decide +kernel
theorem dX9_stoneBy_50 : decode cX9_stoneBy 50 = .ok (.iload 6, 2) := by decide +kernel
theorem dX9_stoneBy_52 : decode cX9_stoneBy 52 = .ok (.isub, 1) := by decide +kernel
theorem dX9_stoneBy_53 : decode cX9_stoneBy 53 = .ok (.goto 5, 3) := by decide +kernel
theorem dX9_stoneBy_56 : decode cX9_stoneBy 56 = .ok (.iload 6, 2) := by decide +kernel
theorem dX9_stoneBy_58 : decode cX9_stoneBy 58 = .ok (.ireturn, 1) := by decide +kernel
theorem dX9_stoneBy_59 : decode cX9_stoneBy 59 = .ok (.iinc 6 1, 3) := by decide +kernel
theorem dX9_stoneBy_62 : decode cX9_stoneBy 62 = .ok (.goto (-56), 3) := by decide +kernel
theorem dX9_stoneBy_65 : decode cX9_stoneBy 65 = .ok (.iconst (-1), 1) := by decide +kernel
theorem dX9_stoneBy_66 : decode cX9_stoneBy 66 = .ok (.ireturn, 1) := by decide +kernel
def fX9_stoneBy_6 (a1 : Int32) (a2 : Int32) (a3 : Int32) (a4 : Int32) (o_road_f : Nat → Int32)  : Nat → Int32 → Int32 → Int32
  | 0, _, _ => default
  | n + 1, v6_5, v6_6 => if (o_road_f 0) < v6_6 then ((-1)) else (if (v6_5 + (fX9_feltAt a1 a2 v6_6 o_road_f)) < (a3 * a4) then (fX9_stoneBy_6 a1 a2 a3 a4 o_road_f n (v6_5 + (fX9_feltAt a1 a2 v6_6 o_road_f)) (v6_6 + 1)) else (xlet (if a1 = 3 then ((o_road_f 0) - v6_6) else v6_6) (fun y_1 => y_1)))
def fX9_stoneBy (a1 : Int32) (a2 : Int32) (a3 : Int32) (a4 : Int32) (o_road_f : Nat → Int32) : Int32 := fX9_stoneBy_6 a1 a2 a3 a4 o_road_f 1000 0 1
set_option maxHeartbeats 4000000 in
set_option maxRecDepth 100000 in
theorem c_X9_stoneBy (l : Launch) (D : va_G) (cI cZ : ClassId) (sz : Nat) (o : Nat) (a1 : Int32) (a2 : Int32) (a3 : Int32) (a4 : Int32) (o_road : Nat) (o_told : Nat) (o_fresh : Nat) (o_was : Nat) (o_acts : Int32) (o_kept : Nat) (o_isKept : Nat) (o_sights : Nat) (o_many : Int32) (o_text : Nat) (o_letters : Int32) (o_thrown : Int32) (o_cursor : Int32) (o_token : Int32) (o_start : Int32) (o_value : Int64) (o_isFault : Int32) (o_faultAt : Int32) (o_above : Int32) (o_below : Int32) (o_topOf : Nat) (o_partsOf : Nat) (o_sent : Nat) (o_road_f : Nat → Int32) (hn0 : 4 ≤ (o_road_f 0).toInt) (hn1 : (o_road_f 0).toInt ≤ 20) (hh : ¬ a2 = 0) : Met l yX9_stoneBy wsX9_stoneBy ({ frames := 1, cells := 0, slots := 0, locals := 25 } : Room) (va_Pc [.ref o, .int a1, .int a2, .int a3, .int a4] (xP D cI cZ [(o, .inr (9, [.ref o_road, .ref o_told, .ref o_fresh, .ref o_was, .int o_acts, .ref o_kept, .ref o_isKept, .ref o_sights, .int o_many, .ref o_text, .int o_letters, .int o_thrown, .int o_cursor, .int o_token, .int o_start, .long o_value, .int o_isFault, .int o_faultAt, .int o_above, .int o_below, .ref o_topOf, .ref o_partsOf, .ref o_sent])), (o_road, .inl (cI, 36, .inl o_road_f))] sz)) (va_Qi (fun (r : Int32) (u : Unit) => r = fX9_stoneBy a1 a2 a3 a4 o_road_f) (fun (u : Unit) t => xB D cI cZ [(o, .inr (9, [.ref o_road, .ref o_told, .ref o_fresh, .ref o_was, .int o_acts, .ref o_kept, .ref o_isKept, .ref o_sights, .int o_many, .ref o_text, .int o_letters, .int o_thrown, .int o_cursor, .int o_token, .int o_start, .long o_value, .int o_isFault, .int o_faultAt, .int o_above, .int o_below, .ref o_topOf, .ref o_partsOf, .ref o_sent])), (o_road, .inl (cI, 36, .inl o_road_f))] (va_A [(o, .inr (9, [.ref o_road, .ref o_told, .ref o_fresh, .ref o_was, .int o_acts, .ref o_kept, .ref o_isKept, .ref o_sights, .int o_many, .ref o_text, .int o_letters, .int o_thrown, .int o_cursor, .int o_token, .int o_start, .long o_value, .int o_isFault, .int o_faultAt, .int o_above, .int o_below, .ref o_topOf, .ref o_partsOf, .ref o_sent])), (o_road, .inl (cI, 36, .inl o_road_f))] sz) t) (va_A [(o, .inr (9, [.ref o_road, .ref o_told, .ref o_fresh, .ref o_was, .int o_acts, .ref o_kept, .ref o_isKept, .ref o_sights, .int o_many, .ref o_text, .int o_letters, .int o_thrown, .int o_cursor, .int o_token, .int o_start, .long o_value, .int o_isFault, .int o_faultAt, .int o_above, .int o_below, .ref o_topOf, .ref o_partsOf, .ref o_sent])), (o_road, .inl (cI, 36, .inl o_road_f))] sz)) 0 0 (va_A [(o, .inr (9, [.ref o_road, .ref o_told, .ref o_fresh, .ref o_was, .int o_acts, .ref o_kept, .ref o_isKept, .ref o_sights, .int o_many, .ref o_text, .int o_letters, .int o_thrown, .int o_cursor, .int o_token, .int o_start, .long o_value, .int o_isFault, .int o_faultAt, .int o_above, .int o_below, .ref o_topOf, .ref o_partsOf, .ref o_sent])), (o_road, .inl (cI, 36, .inl o_road_f))] sz) := by
  refine Met.ofW (cc := cX9_stoneBy) (maxL := 7) (ret := (some .int)) (by decide) rfl ?_
  intro p e s m args below meth c s₁ B hml hv
  obtain ⟨hargs, hsz, hP, hK, hD0, hE⟩ := hv
  subst hargs
  have hx := B.exec
  have hb := B.bytes
  have hr := B.returns
  have hts := atoms_spec (ws := wsX9_stoneBy) B.pre
  have hown : s.vm.findClass RX9 = some m.cls := findClass_of_methodNamed B.named
  have hlocks := B.notSynchronized
  subst hsz
  have hD := hD0.self (sz := s.heap.size)
  generalize hAe : va_A [(o, .inr (9, [.ref o_road, .ref o_told, .ref o_fresh, .ref o_was, .int o_acts, .ref o_kept, .ref o_isKept, .ref o_sights, .int o_many, .ref o_text, .int o_letters, .int o_thrown, .int o_cursor, .int o_token, .int o_start, .long o_value, .int o_isFault, .int o_faultAt, .int o_above, .int o_below, .ref o_topOf, .ref o_partsOf, .ref o_sent])), (o_road, .inl (cI, 36, .inl o_road_f))] s.heap.size = A at hD ⊢
  have hA : ∀ q : Nat, s.heap.size ≤ q → A q := fun q h => by rw [← hAe]; exact Or.inr h
  have hS : va_S A s.heap s.heap [] := va_S.rf
  have hl := lv_entry ([.ref o, .int a1, .int a2, .int a3, .int a4]) (n := 7) (Nat.le_of_ble_eq_true rfl)
  rw [lg_entry_eq]
  generalize (lg_sl ([.ref o, .int a1, .int a2, .int a3, .int a4]) ++ List.replicate (7 - (lg_sl ([.ref o, .int a1, .int a2, .int a3, .int a4])).length) Slot.unset).toArray = ls at hl ⊢
  have hl : lv_has ls 7 [(0, .ref o), (1, .int a1), (2, .int a2), (3, .int a3), (4, .int a4)] := hl
  refine wq (X := fun Q => ∀ (pc : Nat) (H : Heap) (locs : List Loc) (ls : Array Slot) (r : Int32) (u : Unit) (hd : decode cX9_stoneBy pc = .ok (.ireturn, 1)) (hp : r = fX9_stoneBy a1 a2 a3 a4 o_road_f) (hP : va_P D vwCl [(o, .inr (9, [.ref o_road, .ref o_told, .ref o_fresh, .ref o_was, .int o_acts, .ref o_kept, .ref o_isKept, .ref o_sights, .int o_many, .ref o_text, .int o_letters, .int o_thrown, .int o_cursor, .int o_token, .int o_start, .long o_value, .int o_isFault, .int o_faultAt, .int o_above, .int o_below, .ref o_topOf, .ref o_partsOf, .ref o_sent])), (o_road, .inl (cI, 36, .inl o_road_f))] H) (hD : va_D A [(o, .inr (9, [.ref o_road, .ref o_told, .ref o_fresh, .ref o_was, .int o_acts, .ref o_kept, .ref o_isKept, .ref o_sights, .int o_many, .ref o_text, .int o_letters, .int o_thrown, .int o_cursor, .int o_token, .int o_start, .long o_value, .int o_isFault, .int o_faultAt, .int o_above, .int o_below, .ref o_topOf, .ref o_partsOf, .ref o_sent])), (o_road, .inl (cI, 36, .inl o_road_f))]) (hS : va_S A s.heap H locs), W p l e ({ frames := 1, cells := 0, slots := 0, locals := 25 } : Room) s m ([.ref o, .int a1, .int a2, .int a3, .int a4] : List Value).toArray below meth c H locs 0 0 Q (F0 m pc ls [.int r])) ?_ (fun Q hret => ?_)
  · intro pc H locs ls r u hd hp hP hD hS
    exact W.iret (v := r) hx hb hr (fun t ht hW => ⟨⟨r, u, rfl, hp, by rw [ht]; exact hP, va_K.moved hW.alike hK, hD⟩, hS.F ht⟩) hS.2.2 hd
  have hin_9 : ∀ w ∈ u_ws RX9 TX9 23, w ∈ wsX9_stoneBy := by decide +kernel
  have fl_7 := hts (.fieldLink RX9 7 "MileRoadModel" "road" "[I") (by decide +kernel)
  have zl_0 : (0 : Int32).toInt = 0 := by decide
  have zl_1 : (1 : Int32).toInt = 1 := by decide
  have zl_3 : (3 : Int32).toInt = 3 := by decide
  have hF : fX9_stoneBy a1 a2 a3 a4 o_road_f = fX9_stoneBy a1 a2 a3 a4 o_road_f := rfl
  have L_6 : ∀ (n : Nat) (v6_5 : Int32) (v6_6 : Int32) (h1_6 : 1 ≤ v6_6.toInt) (h2_6 : v6_6.toInt ≤ 21) (hm : 21 - v6_6.toInt < (n : Int)) (H : Heap) (locs : List Loc) (ls : Array Slot) (hl : lv_has ls 7 [(0, .ref o), (1, .int a1), (2, .int a2), (3, .int a3), (4, .int a4), (5, .int v6_5), (6, .int v6_6)]) (hP : va_P D vwCl [(o, .inr (9, [.ref o_road, .ref o_told, .ref o_fresh, .ref o_was, .int o_acts, .ref o_kept, .ref o_isKept, .ref o_sights, .int o_many, .ref o_text, .int o_letters, .int o_thrown, .int o_cursor, .int o_token, .int o_start, .long o_value, .int o_isFault, .int o_faultAt, .int o_above, .int o_below, .ref o_topOf, .ref o_partsOf, .ref o_sent])), (o_road, .inl (cI, 36, .inl o_road_f))] H) (hD : va_D A [(o, .inr (9, [.ref o_road, .ref o_told, .ref o_fresh, .ref o_was, .int o_acts, .ref o_kept, .ref o_isKept, .ref o_sights, .int o_many, .ref o_text, .int o_letters, .int o_thrown, .int o_cursor, .int o_token, .int o_start, .long o_value, .int o_isFault, .int o_faultAt, .int o_above, .int o_below, .ref o_topOf, .ref o_partsOf, .ref o_sent])), (o_road, .inl (cI, 36, .inl o_road_f))]) (hS : va_S A s.heap H locs) (hF : fX9_stoneBy a1 a2 a3 a4 o_road_f = fX9_stoneBy_6 a1 a2 a3 a4 o_road_f n v6_5 v6_6), W p l e ({ frames := 1, cells := 0, slots := 0, locals := 25 } : Room) s m ([.ref o, .int a1, .int a2, .int a3, .int a4] : List Value).toArray below meth c H locs 0 0 Q (F0 m 6 ls []) := by
    intro n
    induction n with
    | zero =>
      intro v6_5 v6_6 h1_6 h2_6 hm H locs ls hl hP hD hS hF
      exact absurd hm (by omega)
    | succ n ih_6 =>
      intro v6_5 v6_6 h1_6 h2_6 hm H locs ls hl hP hD hS hF
      refine lv_iload hx hb dX9_stoneBy_6 (lv_at hl 6 rfl) ?_
      refine lv_aload_n hx hb dX9_stoneBy_8 rfl (lv_at hl 0 rfl) ?_
      refine xget hx hb hts hown hK 9 (C2 := RX9) (T := TX9) (N := 23) rfl hin_9 hP 0 rfl 0 (by decide) fl_7 rfl rfl rfl dX9_stoneBy_9 ?_
      refine lv_iconst (v := 0) hx hb dX9_stoneBy_12 (by decide) ?_
      refine xald hx hb hK hP 1 0 (k := 0) rfl rfl (vi (by decide) (by decide)) (by decide) dX9_stoneBy_13 ?_
      refine lv_icmp_gt (tgt := 65) hx hb dX9_stoneBy_14 (by decide) (fun c_1 => ?_) (fun c_1 => ?_)
      · have kc_1 := t_lt c_1
        refine lv_iconst (v := (-1)) hx hb dX9_stoneBy_65 (by decide) ?_
        exact hret _ _ _ _ (-1) () dX9_stoneBy_66 ((hF.trans (by simp only [fX9_stoneBy_6, xlet, if_pos c_1])).symm) hP hD hS
      · have kc_1 := t_nlt c_1
        refine lv_iload hx hb dX9_stoneBy_17 (lv_at hl 5 rfl) ?_
        refine lv_aload_n hx hb dX9_stoneBy_19 rfl (lv_at hl 0 rfl) ?_
        refine lv_iload_n hx hb dX9_stoneBy_20 rfl (lv_at hl 1 rfl) ?_
        refine lv_iload_n hx hb dX9_stoneBy_21 rfl (lv_at hl 2 rfl) ?_
        refine lv_iload hx hb dX9_stoneBy_22 (lv_at hl 6 rfl) ?_
        refine xcalli (S := Unit) (Wc := [(o, .inr (9, [.ref o_road, .ref o_told, .ref o_fresh, .ref o_was, .int o_acts, .ref o_kept, .ref o_isKept, .ref o_sights, .int o_many, .ref o_text, .int o_letters, .int o_thrown, .int o_cursor, .int o_token, .int o_start, .long o_value, .int o_isFault, .int o_faultAt, .int o_above, .int o_below, .ref o_topOf, .ref o_partsOf, .ref o_sent])), (o_road, .inl (cI, 36, .inl o_road_f))]) (wr := []) (W1 := (fun (u : Unit) => [(o, .inr (9, [.ref o_road, .ref o_told, .ref o_fresh, .ref o_was, .int o_acts, .ref o_kept, .ref o_isKept, .ref o_sights, .int o_many, .ref o_text, .int o_letters, .int o_thrown, .int o_cursor, .int o_token, .int o_start, .long o_value, .int o_isFault, .int o_faultAt, .int o_above, .int o_below, .ref o_topOf, .ref o_partsOf, .ref o_sent])), (o_road, .inl (cI, 36, .inl o_road_f))])) (Wn := (fun (u : Unit) => [(o, .inr (9, [.ref o_road, .ref o_told, .ref o_fresh, .ref o_was, .int o_acts, .ref o_kept, .ref o_isKept, .ref o_sights, .int o_many, .ref o_text, .int o_letters, .int o_thrown, .int o_cursor, .int o_token, .int o_start, .long o_value, .int o_isFault, .int o_faultAt, .int o_above, .int o_below, .ref o_topOf, .ref o_partsOf, .ref o_sent])), (o_road, .inl (cI, 36, .inl o_road_f))])) (xrunV hx hb hml hown hts (c_X9_feltAt l D cI cZ _ o a1 a2 v6_6 o_road o_told o_fresh o_was o_acts o_kept o_isKept o_sights o_many o_text o_letters o_thrown o_cursor o_token o_start o_value o_isFault o_faultAt o_above o_below o_topOf o_partsOf o_sent o_road_f hn0 hn1 (by first | assumption | decide | omega) (by first | assumption | decide | omega) (by first | assumption | decide | omega)) (cwV 3 hts gX9_stoneBy_X9_feltAt rfl rfl rfl (by decide +kernel) ⟨Nat.le_of_ble_eq_true rfl, Nat.le_of_ble_eq_true rfl⟩) hE hK hP hD [0, 1] rfl rfl 0 9 (T := TX9) (N := 23) rfl rfl rfl hl.1 rfl (Nat.le_of_ble_eq_true rfl) dX9_stoneBy_24 ⟨Nat.le_of_ble_eq_true rfl, Nat.le_of_ble_eq_true rfl⟩) hP hD hS hA [0, 1] [] [0, 1] rfl rfl rfl (by decide) (fun _ => rfl) rfl (fun r1 u H locs hw hz hP hD hS => ?_)
        subst hw
        refine lv_iadd hx hb dX9_stoneBy_27 ?_
        refine lv_istore (lv' := [(5, .int (v6_5 + (fX9_feltAt a1 a2 v6_6 o_road_f))), (0, .ref o), (1, .int a1), (2, .int a2), (3, .int a3), (4, .int a4), (6, .int v6_6)]) hx hb dX9_stoneBy_28 hl (by decide) rfl (fun ls hl => ?_)
        refine lv_iload hx hb dX9_stoneBy_30 (lv_at hl 0 rfl) ?_
        refine lv_iload_n hx hb dX9_stoneBy_32 rfl (lv_at hl 4 rfl) ?_
        refine lv_iload hx hb dX9_stoneBy_33 (lv_at hl 5 rfl) ?_
        refine lv_imul hx hb dX9_stoneBy_35 ?_
        refine lv_icmp_lt (tgt := 59) hx hb dX9_stoneBy_36 (by decide) (fun c_2 => ?_) (fun c_2 => ?_)
        · refine lv_iinc (v := (v6_6 + 1)) (lv' := [(6, .int (v6_6 + 1)), (5, .int (v6_5 + (fX9_feltAt a1 a2 v6_6 o_road_f))), (0, .ref o), (1, .int a1), (2, .int a2), (3, .int a3), (4, .int a4)]) hx hb dX9_stoneBy_59 hl (k := 6) rfl (by rfl) (by decide) rfl (fun ls hl => ?_)
          refine lv_goto (tgt := 6) hx hb dX9_stoneBy_62 (by decide) ?_
          have z_1 : (v6_6 + 1).toInt = v6_6.toInt + (1 : Int32).toInt := z_add (by omega) (by omega)
          exact ih_6 (v6_5 + (fX9_feltAt a1 a2 v6_6 o_road_f)) (v6_6 + 1) (by first | assumption | omega | decide | (split <;> rename_i hh <;> first | (have h9 := t_nlt hh; omega) | (have h9 := t_lt hh; omega) | (have h9 := t_nle hh; omega) | (have h9 := t_le hh; omega))) (by first | assumption | omega | decide | (split <;> rename_i hh <;> first | (have h9 := t_nlt hh; omega) | (have h9 := t_lt hh; omega) | (have h9 := t_nle hh; omega) | (have h9 := t_le hh; omega))) (by first | assumption | omega | decide | (split <;> rename_i hh <;> first | (have h9 := t_nlt hh; omega) | (have h9 := t_lt hh; omega) | (have h9 := t_nle hh; omega) | (have h9 := t_le hh; omega))) _ _ _ (lv_sub hl [2, 3, 4, 5, 6, 1, 0] rfl) hP hD hS (hF.trans (by simp only [fX9_stoneBy_6, xlet, if_neg c_1, if_pos c_2]))
        · refine lv_iload_n hx hb dX9_stoneBy_39 rfl (lv_at hl 2 rfl) ?_
          refine lv_iconst (v := 3) hx hb dX9_stoneBy_40 (by decide) ?_
          have K_y_1 : ∀ (y_1 : Int32) (hy_y_1 : (if a1 = 3 then ((o_road_f 0) - v6_6) else v6_6) = y_1) (H : Heap) (locs : List Loc) (hP : va_P D vwCl [(o, .inr (9, [.ref o_road, .ref o_told, .ref o_fresh, .ref o_was, .int o_acts, .ref o_kept, .ref o_isKept, .ref o_sights, .int o_many, .ref o_text, .int o_letters, .int o_thrown, .int o_cursor, .int o_token, .int o_start, .long o_value, .int o_isFault, .int o_faultAt, .int o_above, .int o_below, .ref o_topOf, .ref o_partsOf, .ref o_sent])), (o_road, .inl (cI, 36, .inl o_road_f))] H) (hD : va_D A [(o, .inr (9, [.ref o_road, .ref o_told, .ref o_fresh, .ref o_was, .int o_acts, .ref o_kept, .ref o_isKept, .ref o_sights, .int o_many, .ref o_text, .int o_letters, .int o_thrown, .int o_cursor, .int o_token, .int o_start, .long o_value, .int o_isFault, .int o_faultAt, .int o_above, .int o_below, .ref o_topOf, .ref o_partsOf, .ref o_sent])), (o_road, .inl (cI, 36, .inl o_road_f))]) (hS : va_S A s.heap H locs), W p l e ({ frames := 1, cells := 0, slots := 0, locals := 25 } : Room) s m ([.ref o, .int a1, .int a2, .int a3, .int a4] : List Value).toArray below meth c H locs 0 0 Q (F0 m 58 ls [.int y_1]) := by
            intro y_1 hy_y_1 H locs hP hD hS
            have ky_y_1 : y_1 = ((o_road_f 0) - v6_6) ∨ y_1 = v6_6 := by rw [← hy_y_1]; (repeat' split) <;> simp
            exact hret _ _ _ _ y_1 () dX9_stoneBy_58 ((hF.trans (by simp only [fX9_stoneBy_6, xlet, if_neg c_1, if_neg c_2, ↓hy_y_1])).symm) hP hD hS
          refine lv_icmp_ne (tgt := 56) hx hb dX9_stoneBy_41 (by decide) (fun c_3 => ?_) (fun c_3 => ?_)
          · have kc_3 := t_neq c_3
            refine lv_iload hx hb dX9_stoneBy_56 (lv_at hl 6 rfl) ?_
            exact K_y_1 _ (by simp only [xlet, if_neg c_3]) _ _ hP hD hS
          · have kc_3 := t_eq c_3
            refine lv_aload_n hx hb dX9_stoneBy_44 rfl (lv_at hl 1 rfl) ?_
            refine xget hx hb hts hown hK 9 (C2 := RX9) (T := TX9) (N := 23) rfl hin_9 hP 0 rfl 0 (by decide) fl_7 rfl rfl rfl dX9_stoneBy_45 ?_
            refine lv_iconst (v := 0) hx hb dX9_stoneBy_48 (by decide) ?_
            refine xald hx hb hK hP 1 0 (k := 0) rfl rfl (vi (by decide) (by decide)) (by decide) dX9_stoneBy_49 ?_
            refine lv_iload hx hb dX9_stoneBy_50 (lv_at hl 6 rfl) ?_
            refine lv_isub hx hb dX9_stoneBy_52 ?_
            refine lv_goto (tgt := 58) hx hb dX9_stoneBy_53 (by decide) ?_
            exact K_y_1 _ (by simp only [xlet, if_pos c_3]) _ _ hP hD hS
  refine lv_iconst (v := 0) hx hb dX9_stoneBy_0 (by decide) ?_
  refine lv_istore (lv' := [(5, .int 0), (0, .ref o), (1, .int a1), (2, .int a2), (3, .int a3), (4, .int a4)]) hx hb dX9_stoneBy_1 hl (by decide) rfl (fun ls hl => ?_)
  refine lv_iconst (v := 1) hx hb dX9_stoneBy_3 (by decide) ?_
  refine lv_istore (lv' := [(6, .int 1), (5, .int 0), (0, .ref o), (1, .int a1), (2, .int a2), (3, .int a3), (4, .int a4)]) hx hb dX9_stoneBy_4 hl (by decide) rfl (fun ls hl => ?_)
  exact L_6 1000 0 1 (by first | assumption | omega | decide | (split <;> rename_i hh <;> first | (have h9 := t_nlt hh; omega) | (have h9 := t_lt hh; omega) | (have h9 := t_nle hh; omega) | (have h9 := t_le hh; omega))) (by first | assumption | omega | decide | (split <;> rename_i hh <;> first | (have h9 := t_nlt hh; omega) | (have h9 := t_lt hh; omega) | (have h9 := t_nle hh; omega) | (have h9 := t_le hh; omega))) (by first | assumption | omega | decide | (split <;> rename_i hh <;> first | (have h9 := t_nlt hh; omega) | (have h9 := t_lt hh; omega) | (have h9 := t_nle hh; omega) | (have h9 := t_le hh; omega))) _ _ _ (lv_sub hl [2, 3, 4, 5, 6, 1, 0] rfl) hP hD hS (hF.trans (by simp only [fX9_stoneBy, xlet]))
set_option maxRecDepth 20000 in
theorem ggX9_stoneOf_X9_stoneBy : GoodIn wsX9_stoneOf wsX9_stoneBy := goodIn_r _ [6, 1, 7, 8, 9, 5, 10, 11, 12, 13, 14, 15, 16, 17, 18, 19, 20, 21, 22, 23, 24, 25, 26, 27, 28, 29, 30, 31, 32, 33] (by decide +kernel) (by decide +kernel)
set_option maxRecDepth 20000 in
theorem gX9_stoneOf_X9_stoneBy : GoodIn wsX9_stoneOf (wsV RX9 138 RX9 yX9_stoneBy wsX9_stoneBy) := goodIn_app (goodIn_of _ (by decide +kernel)) ggX9_stoneOf_X9_stoneBy
theorem dX9_stoneOf_0 : decode cX9_stoneOf 0 = .ok (.aload_n 0, 1) := by decide +kernel
theorem dX9_stoneOf_1 : decode cX9_stoneOf 1 = .ok (.aload_n 0, 1) := by decide +kernel
theorem dX9_stoneOf_2 : decode cX9_stoneOf 2 = .ok (.getfield 7, 3) := by decide +kernel
theorem dX9_stoneOf_5 : decode cX9_stoneOf 5 = .ok (.bipush 24, 2) := by decide +kernel
theorem dX9_stoneOf_7 : decode cX9_stoneOf 7 = .ok (.iload_n 1, 1) := by decide +kernel
theorem dX9_stoneOf_8 : decode cX9_stoneOf 8 = .ok (.iadd, 1) := by decide +kernel
theorem dX9_stoneOf_9 : decode cX9_stoneOf 9 = .ok (.iaload, 1) := by decide +kernel
theorem dX9_stoneOf_10 : decode cX9_stoneOf 10 = .ok (.aload_n 0, 1) := by decide +kernel
theorem dX9_stoneOf_11 : decode cX9_stoneOf 11 = .ok (.getfield 7, 3) := by decide +kernel
theorem dX9_stoneOf_14 : decode cX9_stoneOf 14 = .ok (.bipush 30, 2) := by decide +kernel
theorem dX9_stoneOf_16 : decode cX9_stoneOf 16 = .ok (.iload_n 1, 1) := by decide +kernel
theorem dX9_stoneOf_17 : decode cX9_stoneOf 17 = .ok (.iadd, 1) := by decide +kernel
theorem dX9_stoneOf_18 : decode cX9_stoneOf 18 = .ok (.iaload, 1) := by decide +kernel
theorem dX9_stoneOf_19 : decode cX9_stoneOf 19 = .ok (.iload_n 2, 1) := by decide +kernel
theorem dX9_stoneOf_20 : decode cX9_stoneOf 20 = .ok (.aload_n 0, 1) := by decide +kernel
theorem dX9_stoneOf_21 : decode cX9_stoneOf 21 = .ok (.getfield 7, 3) := by decide +kernel
theorem dX9_stoneOf_24 : decode cX9_stoneOf 24 = .ok (.iconst 1, 1) := by decide +kernel
theorem dX9_stoneOf_25 : decode cX9_stoneOf 25 = .ok (.iaload, 1) := by decide +kernel
theorem dX9_stoneOf_26 : decode cX9_stoneOf 26 = .ok (.invokevirtual 138, 3) := by decide +kernel
theorem dX9_stoneOf_29 : decode cX9_stoneOf 29 = .ok (.ireturn, 1) := by decide +kernel
def fX9_stoneOf (a1 : Int32) (a2 : Int32) (o_road_f : Nat → Int32) : Int32 := (fX9_stoneBy (o_road_f (24 + a1).toNatClampNeg) (o_road_f (30 + a1).toNatClampNeg) a2 (o_road_f 1) o_road_f)
set_option maxHeartbeats 4000000 in
set_option maxRecDepth 100000 in
theorem c_X9_stoneOf (l : Launch) (D : va_G) (cI cZ : ClassId) (sz : Nat) (o : Nat) (a1 : Int32) (a2 : Int32) (o_road : Nat) (o_told : Nat) (o_fresh : Nat) (o_was : Nat) (o_acts : Int32) (o_kept : Nat) (o_isKept : Nat) (o_sights : Nat) (o_many : Int32) (o_text : Nat) (o_letters : Int32) (o_thrown : Int32) (o_cursor : Int32) (o_token : Int32) (o_start : Int32) (o_value : Int64) (o_isFault : Int32) (o_faultAt : Int32) (o_above : Int32) (o_below : Int32) (o_topOf : Nat) (o_partsOf : Nat) (o_sent : Nat) (o_road_f : Nat → Int32) (hn0 : 4 ≤ (o_road_f 0).toInt) (hn1 : (o_road_f 0).toInt ≤ 20) (hv0 : 0 ≤ (o_road_f 2).toInt) (hv6 : (o_road_f 2).toInt ≤ 6) (hhab : ∀ w : Int32, 0 ≤ w.toInt → w.toInt < (o_road_f 2).toInt → ¬ o_road_f (30 + w).toNatClampNeg = 0) (hw0 : 0 ≤ a1.toInt) (hw1 : a1.toInt < (o_road_f 2).toInt) : Met l yX9_stoneOf wsX9_stoneOf ({ frames := 2, cells := 0, slots := 0, locals := 51 } : Room) (va_Pc [.ref o, .int a1, .int a2] (xP D cI cZ [(o, .inr (9, [.ref o_road, .ref o_told, .ref o_fresh, .ref o_was, .int o_acts, .ref o_kept, .ref o_isKept, .ref o_sights, .int o_many, .ref o_text, .int o_letters, .int o_thrown, .int o_cursor, .int o_token, .int o_start, .long o_value, .int o_isFault, .int o_faultAt, .int o_above, .int o_below, .ref o_topOf, .ref o_partsOf, .ref o_sent])), (o_road, .inl (cI, 36, .inl o_road_f))] sz)) (va_Qi (fun (r : Int32) (u : Unit) => r = fX9_stoneOf a1 a2 o_road_f) (fun (u : Unit) t => xB D cI cZ [(o, .inr (9, [.ref o_road, .ref o_told, .ref o_fresh, .ref o_was, .int o_acts, .ref o_kept, .ref o_isKept, .ref o_sights, .int o_many, .ref o_text, .int o_letters, .int o_thrown, .int o_cursor, .int o_token, .int o_start, .long o_value, .int o_isFault, .int o_faultAt, .int o_above, .int o_below, .ref o_topOf, .ref o_partsOf, .ref o_sent])), (o_road, .inl (cI, 36, .inl o_road_f))] (va_A [(o, .inr (9, [.ref o_road, .ref o_told, .ref o_fresh, .ref o_was, .int o_acts, .ref o_kept, .ref o_isKept, .ref o_sights, .int o_many, .ref o_text, .int o_letters, .int o_thrown, .int o_cursor, .int o_token, .int o_start, .long o_value, .int o_isFault, .int o_faultAt, .int o_above, .int o_below, .ref o_topOf, .ref o_partsOf, .ref o_sent])), (o_road, .inl (cI, 36, .inl o_road_f))] sz) t) (va_A [(o, .inr (9, [.ref o_road, .ref o_told, .ref o_fresh, .ref o_was, .int o_acts, .ref o_kept, .ref o_isKept, .ref o_sights, .int o_many, .ref o_text, .int o_letters, .int o_thrown, .int o_cursor, .int o_token, .int o_start, .long o_value, .int o_isFault, .int o_faultAt, .int o_above, .int o_below, .ref o_topOf, .ref o_partsOf, .ref o_sent])), (o_road, .inl (cI, 36, .inl o_road_f))] sz)) 0 0 (va_A [(o, .inr (9, [.ref o_road, .ref o_told, .ref o_fresh, .ref o_was, .int o_acts, .ref o_kept, .ref o_isKept, .ref o_sights, .int o_many, .ref o_text, .int o_letters, .int o_thrown, .int o_cursor, .int o_token, .int o_start, .long o_value, .int o_isFault, .int o_faultAt, .int o_above, .int o_below, .ref o_topOf, .ref o_partsOf, .ref o_sent])), (o_road, .inl (cI, 36, .inl o_road_f))] sz) := by
  refine Met.ofW (cc := cX9_stoneOf) (maxL := 3) (ret := (some .int)) (by decide) rfl ?_
  intro p e s m args below meth c s₁ B hml hv
  obtain ⟨hargs, hsz, hP, hK, hD0, hE⟩ := hv
  subst hargs
  have hx := B.exec
  have hb := B.bytes
  have hr := B.returns
  have hts := atoms_spec (ws := wsX9_stoneOf) B.pre
  have hown : s.vm.findClass RX9 = some m.cls := findClass_of_methodNamed B.named
  have hlocks := B.notSynchronized
  subst hsz
  have hD := hD0.self (sz := s.heap.size)
  generalize hAe : va_A [(o, .inr (9, [.ref o_road, .ref o_told, .ref o_fresh, .ref o_was, .int o_acts, .ref o_kept, .ref o_isKept, .ref o_sights, .int o_many, .ref o_text, .int o_letters, .int o_thrown, .int o_cursor, .int o_token, .int o_start, .long o_value, .int o_isFault, .int o_faultAt, .int o_above, .int o_below, .ref o_topOf, .ref o_partsOf, .ref o_sent])), (o_road, .inl (cI, 36, .inl o_road_f))] s.heap.size = A at hD ⊢
  have hA : ∀ q : Nat, s.heap.size ≤ q → A q := fun q h => by rw [← hAe]; exact Or.inr h
  have hS : va_S A s.heap s.heap [] := va_S.rf
  have hl := lv_entry ([.ref o, .int a1, .int a2]) (n := 3) (Nat.le_of_ble_eq_true rfl)
  rw [lg_entry_eq]
  generalize (lg_sl ([.ref o, .int a1, .int a2]) ++ List.replicate (3 - (lg_sl ([.ref o, .int a1, .int a2])).length) Slot.unset).toArray = ls at hl ⊢
  have hl : lv_has ls 3 [(0, .ref o), (1, .int a1), (2, .int a2)] := hl
  refine wq (X := fun Q => ∀ (pc : Nat) (H : Heap) (locs : List Loc) (ls : Array Slot) (r : Int32) (u : Unit) (hd : decode cX9_stoneOf pc = .ok (.ireturn, 1)) (hp : r = fX9_stoneOf a1 a2 o_road_f) (hP : va_P D vwCl [(o, .inr (9, [.ref o_road, .ref o_told, .ref o_fresh, .ref o_was, .int o_acts, .ref o_kept, .ref o_isKept, .ref o_sights, .int o_many, .ref o_text, .int o_letters, .int o_thrown, .int o_cursor, .int o_token, .int o_start, .long o_value, .int o_isFault, .int o_faultAt, .int o_above, .int o_below, .ref o_topOf, .ref o_partsOf, .ref o_sent])), (o_road, .inl (cI, 36, .inl o_road_f))] H) (hD : va_D A [(o, .inr (9, [.ref o_road, .ref o_told, .ref o_fresh, .ref o_was, .int o_acts, .ref o_kept, .ref o_isKept, .ref o_sights, .int o_many, .ref o_text, .int o_letters, .int o_thrown, .int o_cursor, .int o_token, .int o_start, .long o_value, .int o_isFault, .int o_faultAt, .int o_above, .int o_below, .ref o_topOf, .ref o_partsOf, .ref o_sent])), (o_road, .inl (cI, 36, .inl o_road_f))]) (hS : va_S A s.heap H locs), W p l e ({ frames := 2, cells := 0, slots := 0, locals := 51 } : Room) s m ([.ref o, .int a1, .int a2] : List Value).toArray below meth c H locs 0 0 Q (F0 m pc ls [.int r])) ?_ (fun Q hret => ?_)
  · intro pc H locs ls r u hd hp hP hD hS
    exact W.iret (v := r) hx hb hr (fun t ht hW => ⟨⟨r, u, rfl, hp, by rw [ht]; exact hP, va_K.moved hW.alike hK, hD⟩, hS.F ht⟩) hS.2.2 hd
  have hin_9 : ∀ w ∈ u_ws RX9 TX9 23, w ∈ wsX9_stoneOf := by decide +kernel
  have fl_7 := hts (.fieldLink RX9 7 "MileRoadModel" "road" "[I") (by decide +kernel)
  have zl_24 : (24 : Int32).toInt = 24 := by decide
  have zl_30 : (30 : Int32).toInt = 30 := by decide
  have hF : fX9_stoneOf a1 a2 o_road_f = fX9_stoneOf a1 a2 o_road_f := rfl
  refine lv_aload_n hx hb dX9_stoneOf_0 rfl (lv_at hl 0 rfl) ?_
  refine lv_aload_n hx hb dX9_stoneOf_1 rfl (lv_at hl 0 rfl) ?_
  refine xget hx hb hts hown hK 9 (C2 := RX9) (T := TX9) (N := 23) rfl hin_9 hP 0 rfl 0 (by decide) fl_7 rfl rfl rfl dX9_stoneOf_2 ?_
  refine lv_bipush (v := 24) hx hb dX9_stoneOf_5 (by decide) ?_
  refine lv_iload_n hx hb dX9_stoneOf_7 rfl (lv_at hl 1 rfl) ?_
  refine lv_iadd hx hb dX9_stoneOf_8 ?_
  have z_1 : (24 + a1).toInt = (24 : Int32).toInt + a1.toInt := z_add (by omega) (by omega)
  refine xald hx hb hK hP 1 0 (k := (24 + a1).toNatClampNeg) rfl rfl (vi (by omega) (by omega)) rfl dX9_stoneOf_9 ?_
  refine lv_aload_n hx hb dX9_stoneOf_10 rfl (lv_at hl 0 rfl) ?_
  refine xget hx hb hts hown hK 9 (C2 := RX9) (T := TX9) (N := 23) rfl hin_9 hP 0 rfl 0 (by decide) fl_7 rfl rfl rfl dX9_stoneOf_11 ?_
  refine lv_bipush (v := 30) hx hb dX9_stoneOf_14 (by decide) ?_
  refine lv_iload_n hx hb dX9_stoneOf_16 rfl (lv_at hl 1 rfl) ?_
  refine lv_iadd hx hb dX9_stoneOf_17 ?_
  have z_2 : (30 + a1).toInt = (30 : Int32).toInt + a1.toInt := z_add (by omega) (by omega)
  refine xald hx hb hK hP 1 0 (k := (30 + a1).toNatClampNeg) rfl rfl (vi (by omega) (by omega)) rfl dX9_stoneOf_18 ?_
  refine lv_iload_n hx hb dX9_stoneOf_19 rfl (lv_at hl 2 rfl) ?_
  refine lv_aload_n hx hb dX9_stoneOf_20 rfl (lv_at hl 0 rfl) ?_
  refine xget hx hb hts hown hK 9 (C2 := RX9) (T := TX9) (N := 23) rfl hin_9 hP 0 rfl 0 (by decide) fl_7 rfl rfl rfl dX9_stoneOf_21 ?_
  refine lv_iconst (v := 1) hx hb dX9_stoneOf_24 (by decide) ?_
  refine xald hx hb hK hP 1 0 (k := 1) rfl rfl (vi (by decide) (by decide)) (by decide) dX9_stoneOf_25 ?_
  refine xcalli (S := Unit) (Wc := [(o, .inr (9, [.ref o_road, .ref o_told, .ref o_fresh, .ref o_was, .int o_acts, .ref o_kept, .ref o_isKept, .ref o_sights, .int o_many, .ref o_text, .int o_letters, .int o_thrown, .int o_cursor, .int o_token, .int o_start, .long o_value, .int o_isFault, .int o_faultAt, .int o_above, .int o_below, .ref o_topOf, .ref o_partsOf, .ref o_sent])), (o_road, .inl (cI, 36, .inl o_road_f))]) (wr := []) (W1 := (fun (u : Unit) => [(o, .inr (9, [.ref o_road, .ref o_told, .ref o_fresh, .ref o_was, .int o_acts, .ref o_kept, .ref o_isKept, .ref o_sights, .int o_many, .ref o_text, .int o_letters, .int o_thrown, .int o_cursor, .int o_token, .int o_start, .long o_value, .int o_isFault, .int o_faultAt, .int o_above, .int o_below, .ref o_topOf, .ref o_partsOf, .ref o_sent])), (o_road, .inl (cI, 36, .inl o_road_f))])) (Wn := (fun (u : Unit) => [(o, .inr (9, [.ref o_road, .ref o_told, .ref o_fresh, .ref o_was, .int o_acts, .ref o_kept, .ref o_isKept, .ref o_sights, .int o_many, .ref o_text, .int o_letters, .int o_thrown, .int o_cursor, .int o_token, .int o_start, .long o_value, .int o_isFault, .int o_faultAt, .int o_above, .int o_below, .ref o_topOf, .ref o_partsOf, .ref o_sent])), (o_road, .inl (cI, 36, .inl o_road_f))])) (xrunV hx hb hml hown hts (c_X9_stoneBy l D cI cZ _ o (o_road_f (24 + a1).toNatClampNeg) (o_road_f (30 + a1).toNatClampNeg) a2 (o_road_f 1) o_road o_told o_fresh o_was o_acts o_kept o_isKept o_sights o_many o_text o_letters o_thrown o_cursor o_token o_start o_value o_isFault o_faultAt o_above o_below o_topOf o_partsOf o_sent o_road_f hn0 hn1 (hhab _ hw0 hw1)) (cwV 4 hts gX9_stoneOf_X9_stoneBy rfl rfl rfl (by decide +kernel) ⟨Nat.le_of_ble_eq_true rfl, Nat.le_of_ble_eq_true rfl⟩) hE hK hP hD [0, 1] rfl rfl 0 9 (T := TX9) (N := 23) rfl rfl rfl hl.1 rfl (Nat.le_of_ble_eq_true rfl) dX9_stoneOf_26 ⟨Nat.le_of_ble_eq_true rfl, Nat.le_of_ble_eq_true rfl⟩) hP hD hS hA [0, 1] [] [0, 1] rfl rfl rfl (by decide) (fun _ => rfl) rfl (fun r1 u H locs hw hz hP hD hS => ?_)
  subst hw
  exact hret _ _ _ _ (fX9_stoneBy (o_road_f (24 + a1).toNatClampNeg) (o_road_f (30 + a1).toNatClampNeg) a2 (o_road_f 1) o_road_f) () dX9_stoneOf_29 ((hF.trans (by simp only [fX9_stoneOf, xlet])).symm) hP hD hS
set_option maxRecDepth 20000 in
theorem ggX9_walker_X9_isWalker : GoodIn wsX9_walker wsX9_isWalker := goodIn_r _ [7, 2, 8, 9, 6, 10, 27, 28, 29, 30, 31, 32, 33, 34, 35, 36, 37, 38, 39, 40, 41, 42, 43, 44, 45, 46, 47, 48, 49] (by decide +kernel) (by decide +kernel)
set_option maxRecDepth 20000 in
theorem gX9_walker_X9_isWalker : GoodIn wsX9_walker (wsV RX9 142 RX9 yX9_isWalker wsX9_isWalker) := goodIn_app (goodIn_of _ (by decide +kernel)) ggX9_walker_X9_isWalker
set_option maxRecDepth 20000 in
theorem ggX9_walker_X9_stoneOf : GoodIn wsX9_walker wsX9_stoneOf := goodIn_r _ [14, 2, 15, 16, 17, 6, 18, 19, 20, 21, 22, 27, 28, 29, 30, 31, 32, 33, 34, 35, 36, 37, 38, 39, 40, 41, 42, 43, 44, 45, 46, 47, 48, 49] (by decide +kernel) (by decide +kernel)
set_option maxRecDepth 20000 in
theorem gX9_walker_X9_stoneOf : GoodIn wsX9_walker (wsV RX9 145 RX9 yX9_stoneOf wsX9_stoneOf) := goodIn_app (goodIn_of _ (by decide +kernel)) ggX9_walker_X9_stoneOf
set_option maxRecDepth 20000 in
theorem ggX9_walker_X9_feltInAll : GoodIn wsX9_walker wsX9_feltInAll := goodIn_r _ [26, 2, 19, 20, 21, 6, 22, 27, 28, 29, 30, 31, 32, 33, 34, 35, 36, 37, 38, 39, 40, 41, 42, 43, 44, 45, 46, 47, 48, 49] (by decide +kernel) (by decide +kernel)
set_option maxRecDepth 20000 in
theorem gX9_walker_X9_feltInAll : GoodIn wsX9_walker (wsV RX9 148 RX9 yX9_feltInAll wsX9_feltInAll) := goodIn_app (goodIn_of _ (by decide +kernel)) ggX9_walker_X9_feltInAll
theorem dX9_walker_0 : decode cX9_walker 0 = .ok (.aload_n 0, 1) := by decide +kernel
theorem dX9_walker_1 : decode cX9_walker 1 = .ok (.iconst 0, 1) := by decide +kernel
theorem dX9_walker_2 : decode cX9_walker 2 = .ok (.putfield 48, 3) := by decide +kernel
theorem dX9_walker_5 : decode cX9_walker 5 = .ok (.aload_n 0, 1) := by decide +kernel
theorem dX9_walker_6 : decode cX9_walker 6 = .ok (.iload_n 1, 1) := by decide +kernel
theorem dX9_walker_7 : decode cX9_walker 7 = .ok (.invokevirtual 142, 3) := by decide +kernel
theorem dX9_walker_10 : decode cX9_walker 10 = .ok (.ifCond .ne 6, 3) := by decide +kernel
theorem dX9_walker_13 : decode cX9_walker 13 = .ok (.bipush (-2), 2) := by decide +kernel
theorem dX9_walker_15 : decode cX9_walker 15 = .ok (.ireturn, 1) := by decide +kernel
theorem dX9_walker_16 : decode cX9_walker 16 = .ok (.iconst 0, 1) := by decide +kernel
theorem dX9_walker_17 : decode cX9_walker 17 = .ok (.istore_n 3, 1) := by decide +kernel
theorem dX9_walker_18 : decode cX9_walker 18 = .ok (.iload_n 2, 1) := by decide +kernel
theorem dX9_walker_19 : decode cX9_walker 19 = .ok (.tableswitch 107 0 4 #[33, 43, 53, 64, 101], 33) := by decide +kernel
theorem dX9_walker_52 : decode cX9_walker 52 = .ok (.aload_n 0, 1) := by decide +kernel
theorem dX9_walker_53 : decode cX9_walker 53 = .ok (.getfield 7, 3) := by decide +kernel
theorem dX9_walker_56 : decode cX9_walker 56 = .ok (.bipush 24, 2) := by decide +kernel
theorem dX9_walker_58 : decode cX9_walker 58 = .ok (.iload_n 1, 1) := by decide +kernel
theorem dX9_walker_59 : decode cX9_walker 59 = .ok (.iadd, 1) := by decide +kernel
theorem dX9_walker_60 : decode cX9_walker 60 = .ok (.iaload, 1) := by decide +kernel
theorem dX9_walker_61 : decode cX9_walker 61 = .ok (.ireturn, 1) := by decide +kernel
theorem dX9_walker_62 : decode cX9_walker 62 = .ok (.aload_n 0, 1) := by decide +kernel
theorem dX9_walker_63 : decode cX9_walker 63 = .ok (.getfield 7, 3) := by decide +kernel
theorem dX9_walker_66 : decode cX9_walker 66 = .ok (.bipush 30, 2) := by decide +kernel
theorem dX9_walker_68 : decode cX9_walker 68 = .ok (.iload_n 1, 1) := by decide +kernel
theorem dX9_walker_69 : decode cX9_walker 69 = .ok (.iadd, 1) := by decide +kernel
theorem dX9_walker_70 : decode cX9_walker 70 = .ok (.iaload, 1) := by decide +kernel
theorem dX9_walker_71 : decode cX9_walker 71 = .ok (.ireturn, 1) := by decide +kernel
theorem dX9_walker_72 : decode cX9_walker 72 = .ok (.aload_n 0, 1) := by decide +kernel
theorem dX9_walker_73 : decode cX9_walker 73 = .ok (.getfield 7, 3) := by decide +kernel
theorem dX9_walker_76 : decode cX9_walker 76 = .ok (.iconst 3, 1) := by decide +kernel
theorem dX9_walker_77 : decode cX9_walker 77 = .ok (.iaload, 1) := by decide +kernel
theorem dX9_walker_78 : decode cX9_walker 78 = .ok (.iload_n 1, 1) := by decide +kernel
theorem dX9_walker_79 : decode cX9_walker 79 = .ok (.ishr, 1) := by decide +kernel
theorem dX9_walker_80 : decode cX9_walker 80 = .ok (.iconst 1, 1) := by decide +kernel
theorem dX9_walker_81 : decode cX9_walker 81 = .ok (.iand, 1) := by decide +kernel
theorem dX9_walker_82 : decode cX9_walker 82 = .ok (.ireturn, 1) := by decide +kernel
theorem dX9_walker_83 : decode cX9_walker 83 = .ok (.iconst 1, 1) := by decide +kernel
theorem dX9_walker_84 : decode cX9_walker 84 = .ok (.istore 4, 2) := by decide +kernel
theorem dX9_walker_86 : decode cX9_walker 86 = .ok (.iload 4, 2) := by decide +kernel
theorem dX9_walker_88 : decode cX9_walker 88 = .ok (.bipush 9, 2) := by decide +kernel
theorem dX9_walker_90 : decode cX9_walker 90 = .ok (.if_icmp .ge 28, 3) := by decide +kernel
theorem dX9_walker_93 : decode cX9_walker 93 = .ok (.iload_n 3, 1) := by decide +kernel
theorem dX9_walker_94 : decode cX9_walker 94 = .ok (.aload_n 0, 1) := by decide +kernel
theorem dX9_walker_95 : decode cX9_walker 95 = .ok (.iload_n 1, 1) := by decide +kernel
theorem dX9_walker_96 : decode cX9_walker 96 = .ok (.iload 4, 2) := by decide +kernel
theorem dX9_walker_98 : decode cX9_walker 98 = .ok (.invokevirtual 145, 3) := by decide +kernel
theorem dX9_walker_101 : decode cX9_walker 101 = .ok (.iconst (-1), 1) := by decide +kernel
theorem dX9_walker_102 : decode cX9_walker 102 = .ok (.if_icmp .ne 7, 3) := by decide +kernel
theorem dX9_walker_105 : decode cX9_walker 105 = .ok (.iconst 0, 1) := by decide +kernel
theorem dX9_walker_106 : decode cX9_walker 106 = .ok (.goto 4, 3) := by decide +kernel
theorem dX9_walker_109 : decode cX9_walker 109 = .ok (.iconst 1, 1) := by decide +kernel
theorem dX9_walker_110 : decode cX9_walker 110 = .ok (.iadd, 1) := by decide +kernel
theorem dX9_walker_111 : decode cX9_walker 111 = .ok (.istore_n 3, 1) := by decide +kernel
theorem dX9_walker_112 : decode cX9_walker 112 = .ok (.iinc 4 1, 3) := by decide +kernel
theorem dX9_walker_115 : decode cX9_walker 115 = .ok (.goto (-29), 3) := by decide +kernel
theorem dX9_walker_118 : decode cX9_walker 118 = .ok (.iload_n 3, 1) := by decide +kernel
theorem dX9_walker_119 : decode cX9_walker 119 = .ok (.ireturn, 1) := by decide +kernel
theorem dX9_walker_120 : decode cX9_walker 120 = .ok (.aload_n 0, 1) := by decide +kernel
theorem dX9_walker_121 : decode cX9_walker 121 = .ok (.iload_n 1, 1) := by decide +kernel
theorem dX9_walker_122 : decode cX9_walker 122 = .ok (.invokevirtual 148, 3) := by decide +kernel
theorem dX9_walker_125 : decode cX9_walker 125 = .ok (.ireturn, 1) := by decide +kernel
theorem dX9_walker_126 : decode cX9_walker 126 = .ok (.bipush (-3), 2) := by decide +kernel
theorem dX9_walker_128 : decode cX9_walker 128 = .ok (.ireturn, 1) := by decide +kernel
def fX9_walker_86 (a1 : Int32) (o_road_f : Nat → Int32)  : Nat → Int32 → Int32 → Int32
  | 0, _, _ => default
  | n + 1, v86_3, v86_4 => if 9 ≤ v86_4 then v86_3 else (xlet (if (fX9_stoneOf a1 v86_4 o_road_f) = (-1) then (0 : Int32) else 1) (fun y_2 => fX9_walker_86 a1 o_road_f n (v86_3 + y_2) (v86_4 + 1)))
def fX9_walker (a1 : Int32) (a2 : Int32) (o_road_f : Nat → Int32) : Int32 := if (fX9_isWalker a1 o_road_f) = 0 then ((-2)) else (if a2 = 0 then ((o_road_f (24 + a1).toNatClampNeg)) else (if a2 = 1 then ((o_road_f (30 + a1).toNatClampNeg)) else (if a2 = 2 then ((((o_road_f 3) >>> (a1 &&& 31)) &&& 1)) else (if a2 = 3 then (fX9_walker_86 a1 o_road_f 1000 0 1) else (if a2 = 4 then ((fX9_feltInAll a1 o_road_f)) else ((-3)))))))
set_option maxHeartbeats 4000000 in
set_option maxRecDepth 100000 in
theorem c_X9_walker (l : Launch) (D : va_G) (cI cZ : ClassId) (sz : Nat) (o : Nat) (a1 : Int32) (a2 : Int32) (o_road : Nat) (o_told : Nat) (o_fresh : Nat) (o_was : Nat) (o_acts : Int32) (o_kept : Nat) (o_isKept : Nat) (o_sights : Nat) (o_many : Int32) (o_text : Nat) (o_letters : Int32) (o_thrown : Int32) (o_cursor : Int32) (o_token : Int32) (o_start : Int32) (o_value : Int64) (o_isFault : Int32) (o_faultAt : Int32) (o_above : Int32) (o_below : Int32) (o_topOf : Nat) (o_partsOf : Nat) (o_sent : Nat) (o_road_f : Nat → Int32) (hn0 : 4 ≤ (o_road_f 0).toInt) (hn1 : (o_road_f 0).toInt ≤ 20) (hv0 : 0 ≤ (o_road_f 2).toInt) (hv6 : (o_road_f 2).toInt ≤ 6) (hhab : ∀ w : Int32, 0 ≤ w.toInt → w.toInt < (o_road_f 2).toInt → ¬ o_road_f (30 + w).toNatClampNeg = 0) : Met l yX9_walker wsX9_walker ({ frames := 3, cells := 0, slots := 0, locals := 73 } : Room) (va_Pc [.ref o, .int a1, .int a2] (xP D cI cZ [(o, .inr (9, [.ref o_road, .ref o_told, .ref o_fresh, .ref o_was, .int o_acts, .ref o_kept, .ref o_isKept, .ref o_sights, .int o_many, .ref o_text, .int o_letters, .int o_thrown, .int o_cursor, .int o_token, .int o_start, .long o_value, .int o_isFault, .int o_faultAt, .int o_above, .int o_below, .ref o_topOf, .ref o_partsOf, .ref o_sent])), (o_road, .inl (cI, 36, .inl o_road_f))] sz)) (va_Qi (fun (r : Int32) (u : Unit) => r = fX9_walker a1 a2 o_road_f) (fun (u : Unit) t => xB D cI cZ [(o, .inr (9, [.ref o_road, .ref o_told, .ref o_fresh, .ref o_was, .int o_acts, .ref o_kept, .ref o_isKept, .ref o_sights, .int o_many, .ref o_text, .int o_letters, .int 0, .int o_cursor, .int o_token, .int o_start, .long o_value, .int o_isFault, .int o_faultAt, .int o_above, .int o_below, .ref o_topOf, .ref o_partsOf, .ref o_sent])), (o_road, .inl (cI, 36, .inl o_road_f))] (va_A [(o, .inr (9, [.ref o_road, .ref o_told, .ref o_fresh, .ref o_was, .int o_acts, .ref o_kept, .ref o_isKept, .ref o_sights, .int o_many, .ref o_text, .int o_letters, .int o_thrown, .int o_cursor, .int o_token, .int o_start, .long o_value, .int o_isFault, .int o_faultAt, .int o_above, .int o_below, .ref o_topOf, .ref o_partsOf, .ref o_sent])), (o_road, .inl (cI, 36, .inl o_road_f))] sz) t) (va_A [(o, .inr (9, [.ref o_road, .ref o_told, .ref o_fresh, .ref o_was, .int o_acts, .ref o_kept, .ref o_isKept, .ref o_sights, .int o_many, .ref o_text, .int o_letters, .int o_thrown, .int o_cursor, .int o_token, .int o_start, .long o_value, .int o_isFault, .int o_faultAt, .int o_above, .int o_below, .ref o_topOf, .ref o_partsOf, .ref o_sent])), (o_road, .inl (cI, 36, .inl o_road_f))] sz)) 0 0 (va_A [(o, .inr (9, [.ref o_road, .ref o_told, .ref o_fresh, .ref o_was, .int o_acts, .ref o_kept, .ref o_isKept, .ref o_sights, .int o_many, .ref o_text, .int o_letters, .int o_thrown, .int o_cursor, .int o_token, .int o_start, .long o_value, .int o_isFault, .int o_faultAt, .int o_above, .int o_below, .ref o_topOf, .ref o_partsOf, .ref o_sent])), (o_road, .inl (cI, 36, .inl o_road_f))] sz) := by
  refine Met.ofW (cc := cX9_walker) (maxL := 5) (ret := (some .int)) (by decide) rfl ?_
  intro p e s m args below meth c s₁ B hml hv
  obtain ⟨hargs, hsz, hP, hK, hD0, hE⟩ := hv
  subst hargs
  have hx := B.exec
  have hb := B.bytes
  have hr := B.returns
  have hts := atoms_spec (ws := wsX9_walker) B.pre
  have hown : s.vm.findClass RX9 = some m.cls := findClass_of_methodNamed B.named
  have hlocks := B.notSynchronized
  subst hsz
  have hD := hD0.self (sz := s.heap.size)
  generalize hAe : va_A [(o, .inr (9, [.ref o_road, .ref o_told, .ref o_fresh, .ref o_was, .int o_acts, .ref o_kept, .ref o_isKept, .ref o_sights, .int o_many, .ref o_text, .int o_letters, .int o_thrown, .int o_cursor, .int o_token, .int o_start, .long o_value, .int o_isFault, .int o_faultAt, .int o_above, .int o_below, .ref o_topOf, .ref o_partsOf, .ref o_sent])), (o_road, .inl (cI, 36, .inl o_road_f))] s.heap.size = A at hD ⊢
  have hA : ∀ q : Nat, s.heap.size ≤ q → A q := fun q h => by rw [← hAe]; exact Or.inr h
  have hS : va_S A s.heap s.heap [] := va_S.rf
  have hl := lv_entry ([.ref o, .int a1, .int a2]) (n := 5) (Nat.le_of_ble_eq_true rfl)
  rw [lg_entry_eq]
  generalize (lg_sl ([.ref o, .int a1, .int a2]) ++ List.replicate (5 - (lg_sl ([.ref o, .int a1, .int a2])).length) Slot.unset).toArray = ls at hl ⊢
  have hl : lv_has ls 5 [(0, .ref o), (1, .int a1), (2, .int a2)] := hl
  refine wq (X := fun Q => ∀ (pc : Nat) (H : Heap) (locs : List Loc) (ls : Array Slot) (r : Int32) (u : Unit) (hd : decode cX9_walker pc = .ok (.ireturn, 1)) (hp : r = fX9_walker a1 a2 o_road_f) (hP : va_P D vwCl [(o, .inr (9, [.ref o_road, .ref o_told, .ref o_fresh, .ref o_was, .int o_acts, .ref o_kept, .ref o_isKept, .ref o_sights, .int o_many, .ref o_text, .int o_letters, .int 0, .int o_cursor, .int o_token, .int o_start, .long o_value, .int o_isFault, .int o_faultAt, .int o_above, .int o_below, .ref o_topOf, .ref o_partsOf, .ref o_sent])), (o_road, .inl (cI, 36, .inl o_road_f))] H) (hD : va_D A [(o, .inr (9, [.ref o_road, .ref o_told, .ref o_fresh, .ref o_was, .int o_acts, .ref o_kept, .ref o_isKept, .ref o_sights, .int o_many, .ref o_text, .int o_letters, .int 0, .int o_cursor, .int o_token, .int o_start, .long o_value, .int o_isFault, .int o_faultAt, .int o_above, .int o_below, .ref o_topOf, .ref o_partsOf, .ref o_sent])), (o_road, .inl (cI, 36, .inl o_road_f))]) (hS : va_S A s.heap H locs), W p l e ({ frames := 3, cells := 0, slots := 0, locals := 73 } : Room) s m ([.ref o, .int a1, .int a2] : List Value).toArray below meth c H locs 0 0 Q (F0 m pc ls [.int r])) ?_ (fun Q hret => ?_)
  · intro pc H locs ls r u hd hp hP hD hS
    exact W.iret (v := r) hx hb hr (fun t ht hW => ⟨⟨r, u, rfl, hp, by rw [ht]; exact hP, va_K.moved hW.alike hK, hD⟩, hS.F ht⟩) hS.2.2 hd
  have hin_9 : ∀ w ∈ u_ws RX9 TX9 23, w ∈ wsX9_walker := by decide +kernel
  have fl_7 := hts (.fieldLink RX9 7 "MileRoadModel" "road" "[I") (by decide +kernel)
  have fl_48 := hts (.fieldLink RX9 48 "MileRoadModel" "thrown" "I") (by decide +kernel)
  have zl_m1 : ((-1) : Int32).toInt = (-1) := by decide
  have zl_0 : (0 : Int32).toInt = 0 := by decide
  have zl_1 : (1 : Int32).toInt = 1 := by decide
  have zl_9 : (9 : Int32).toInt = 9 := by decide
  have zl_24 : (24 : Int32).toInt = 24 := by decide
  have zl_30 : (30 : Int32).toInt = 30 := by decide
  have hF : fX9_walker a1 a2 o_road_f = fX9_walker a1 a2 o_road_f := rfl
  have L_86 : ∀ (n : Nat) (v86_3 : Int32) (v86_4 : Int32) (h1_86 : 1 ≤ v86_4.toInt) (h2_86 : v86_4.toInt ≤ 9) (hw0 : 0 ≤ a1.toInt) (hw1 : a1.toInt < (o_road_f 2).toInt) (hm : 9 - v86_4.toInt < (n : Int)) (H : Heap) (locs : List Loc) (ls : Array Slot) (hl : lv_has ls 5 [(0, .ref o), (1, .int a1), (2, .int a2), (3, .int v86_3), (4, .int v86_4)]) (hP : va_P D vwCl [(o, .inr (9, [.ref o_road, .ref o_told, .ref o_fresh, .ref o_was, .int o_acts, .ref o_kept, .ref o_isKept, .ref o_sights, .int o_many, .ref o_text, .int o_letters, .int 0, .int o_cursor, .int o_token, .int o_start, .long o_value, .int o_isFault, .int o_faultAt, .int o_above, .int o_below, .ref o_topOf, .ref o_partsOf, .ref o_sent])), (o_road, .inl (cI, 36, .inl o_road_f))] H) (hD : va_D A [(o, .inr (9, [.ref o_road, .ref o_told, .ref o_fresh, .ref o_was, .int o_acts, .ref o_kept, .ref o_isKept, .ref o_sights, .int o_many, .ref o_text, .int o_letters, .int 0, .int o_cursor, .int o_token, .int o_start, .long o_value, .int o_isFault, .int o_faultAt, .int o_above, .int o_below, .ref o_topOf, .ref o_partsOf, .ref o_sent])), (o_road, .inl (cI, 36, .inl o_road_f))]) (hS : va_S A s.heap H locs) (hF : fX9_walker a1 a2 o_road_f = fX9_walker_86 a1 o_road_f n v86_3 v86_4), W p l e ({ frames := 3, cells := 0, slots := 0, locals := 73 } : Room) s m ([.ref o, .int a1, .int a2] : List Value).toArray below meth c H locs 0 0 Q (F0 m 86 ls []) := by
    intro n
    induction n with
    | zero =>
      intro v86_3 v86_4 h1_86 h2_86 hw0 hw1 hm H locs ls hl hP hD hS hF
      exact absurd hm (by omega)
    | succ n ih_86 =>
      intro v86_3 v86_4 h1_86 h2_86 hw0 hw1 hm H locs ls hl hP hD hS hF
      refine lv_iload hx hb dX9_walker_86 (lv_at hl 4 rfl) ?_
      refine lv_bipush (v := 9) hx hb dX9_walker_88 (by decide) ?_
      refine lv_icmp_ge (tgt := 118) hx hb dX9_walker_90 (by decide) (fun c_7 => ?_) (fun c_7 => ?_)
      · have kc_7 := t_le c_7
        refine lv_iload_n hx hb dX9_walker_118 rfl (lv_at hl 3 rfl) ?_
        exact hret _ _ _ _ v86_3 () dX9_walker_119 ((hF.trans (by simp only [fX9_walker_86, xlet, if_pos c_7])).symm) hP hD hS
      · have kc_7 := t_nle c_7
        refine lv_iload_n hx hb dX9_walker_93 rfl (lv_at hl 3 rfl) ?_
        refine lv_aload_n hx hb dX9_walker_94 rfl (lv_at hl 0 rfl) ?_
        refine lv_iload_n hx hb dX9_walker_95 rfl (lv_at hl 1 rfl) ?_
        refine lv_iload hx hb dX9_walker_96 (lv_at hl 4 rfl) ?_
        refine xcalli (S := Unit) (Wc := [(o, .inr (9, [.ref o_road, .ref o_told, .ref o_fresh, .ref o_was, .int o_acts, .ref o_kept, .ref o_isKept, .ref o_sights, .int o_many, .ref o_text, .int o_letters, .int 0, .int o_cursor, .int o_token, .int o_start, .long o_value, .int o_isFault, .int o_faultAt, .int o_above, .int o_below, .ref o_topOf, .ref o_partsOf, .ref o_sent])), (o_road, .inl (cI, 36, .inl o_road_f))]) (wr := []) (W1 := (fun (u : Unit) => [(o, .inr (9, [.ref o_road, .ref o_told, .ref o_fresh, .ref o_was, .int o_acts, .ref o_kept, .ref o_isKept, .ref o_sights, .int o_many, .ref o_text, .int o_letters, .int 0, .int o_cursor, .int o_token, .int o_start, .long o_value, .int o_isFault, .int o_faultAt, .int o_above, .int o_below, .ref o_topOf, .ref o_partsOf, .ref o_sent])), (o_road, .inl (cI, 36, .inl o_road_f))])) (Wn := (fun (u : Unit) => [(o, .inr (9, [.ref o_road, .ref o_told, .ref o_fresh, .ref o_was, .int o_acts, .ref o_kept, .ref o_isKept, .ref o_sights, .int o_many, .ref o_text, .int o_letters, .int 0, .int o_cursor, .int o_token, .int o_start, .long o_value, .int o_isFault, .int o_faultAt, .int o_above, .int o_below, .ref o_topOf, .ref o_partsOf, .ref o_sent])), (o_road, .inl (cI, 36, .inl o_road_f))])) (xrunV hx hb hml hown hts (c_X9_stoneOf l D cI cZ _ o a1 v86_4 o_road o_told o_fresh o_was o_acts o_kept o_isKept o_sights o_many o_text o_letters 0 o_cursor o_token o_start o_value o_isFault o_faultAt o_above o_below o_topOf o_partsOf o_sent o_road_f hn0 hn1 hv0 hv6 hhab (by first | assumption | decide | omega) (by first | assumption | decide | omega)) (cwV 2 hts gX9_walker_X9_stoneOf rfl rfl rfl (by decide +kernel) ⟨Nat.le_of_ble_eq_true rfl, Nat.le_of_ble_eq_true rfl⟩) hE hK hP hD [0, 1] rfl rfl 0 9 (T := TX9) (N := 23) rfl rfl rfl hl.1 rfl (Nat.le_of_ble_eq_true rfl) dX9_walker_98 ⟨Nat.le_of_ble_eq_true rfl, Nat.le_of_ble_eq_true rfl⟩) hP hD hS hA [0, 1] [] [0, 1] rfl rfl rfl (by decide) (fun _ => rfl) rfl (fun r3 u H locs hw hz hP hD hS => ?_)
        subst hw
        refine lv_iconst (v := (-1)) hx hb dX9_walker_101 (by decide) ?_
        have K_y_2 : ∀ (y_2 : Int32) (hy_y_2 : (if (fX9_stoneOf a1 v86_4 o_road_f) = (-1) then (0 : Int32) else 1) = y_2) (H : Heap) (locs : List Loc) (hP : va_P D vwCl [(o, .inr (9, [.ref o_road, .ref o_told, .ref o_fresh, .ref o_was, .int o_acts, .ref o_kept, .ref o_isKept, .ref o_sights, .int o_many, .ref o_text, .int o_letters, .int 0, .int o_cursor, .int o_token, .int o_start, .long o_value, .int o_isFault, .int o_faultAt, .int o_above, .int o_below, .ref o_topOf, .ref o_partsOf, .ref o_sent])), (o_road, .inl (cI, 36, .inl o_road_f))] H) (hD : va_D A [(o, .inr (9, [.ref o_road, .ref o_told, .ref o_fresh, .ref o_was, .int o_acts, .ref o_kept, .ref o_isKept, .ref o_sights, .int o_many, .ref o_text, .int o_letters, .int 0, .int o_cursor, .int o_token, .int o_start, .long o_value, .int o_isFault, .int o_faultAt, .int o_above, .int o_below, .ref o_topOf, .ref o_partsOf, .ref o_sent])), (o_road, .inl (cI, 36, .inl o_road_f))]) (hS : va_S A s.heap H locs), W p l e ({ frames := 3, cells := 0, slots := 0, locals := 73 } : Room) s m ([.ref o, .int a1, .int a2] : List Value).toArray below meth c H locs 0 0 Q (F0 m 110 ls [.int y_2, .int v86_3]) := by
          intro y_2 hy_y_2 H locs hP hD hS
          have ky_y_2 : y_2 = 0 ∨ y_2 = 1 := by rw [← hy_y_2]; (repeat' split) <;> simp
          refine lv_iadd hx hb dX9_walker_110 ?_
          refine lv_istore_n (lv' := [(3, .int (v86_3 + y_2)), (0, .ref o), (1, .int a1), (2, .int a2), (4, .int v86_4)]) hx hb dX9_walker_111 rfl hl (by decide) rfl (fun ls hl => ?_)
          refine lv_iinc (v := (v86_4 + 1)) (lv' := [(4, .int (v86_4 + 1)), (3, .int (v86_3 + y_2)), (0, .ref o), (1, .int a1), (2, .int a2)]) hx hb dX9_walker_112 hl (k := 4) rfl (by rfl) (by decide) rfl (fun ls hl => ?_)
          refine lv_goto (tgt := 86) hx hb dX9_walker_115 (by decide) ?_
          have z_3 : (v86_4 + 1).toInt = v86_4.toInt + (1 : Int32).toInt := z_add (by omega) (by omega)
          exact ih_86 (v86_3 + y_2) (v86_4 + 1) (by first | assumption | omega | decide | (split <;> rename_i hh <;> first | (have h9 := t_nlt hh; omega) | (have h9 := t_lt hh; omega) | (have h9 := t_nle hh; omega) | (have h9 := t_le hh; omega))) (by first | assumption | omega | decide | (split <;> rename_i hh <;> first | (have h9 := t_nlt hh; omega) | (have h9 := t_lt hh; omega) | (have h9 := t_nle hh; omega) | (have h9 := t_le hh; omega))) (by first | assumption | omega | decide | (split <;> rename_i hh <;> first | (have h9 := t_nlt hh; omega) | (have h9 := t_lt hh; omega) | (have h9 := t_nle hh; omega) | (have h9 := t_le hh; omega))) (by first | assumption | omega | decide | (split <;> rename_i hh <;> first | (have h9 := t_nlt hh; omega) | (have h9 := t_lt hh; omega) | (have h9 := t_nle hh; omega) | (have h9 := t_le hh; omega))) (by first | assumption | omega | decide | (split <;> rename_i hh <;> first | (have h9 := t_nlt hh; omega) | (have h9 := t_lt hh; omega) | (have h9 := t_nle hh; omega) | (have h9 := t_le hh; omega))) _ _ _ (lv_sub hl [2, 3, 4, 1, 0] rfl) hP hD hS (hF.trans (by simp only [fX9_walker_86, xlet, if_neg c_7, ↓hy_y_2]))
        refine lv_icmp_ne (tgt := 109) hx hb dX9_walker_102 (by decide) (fun c_8 => ?_) (fun c_8 => ?_)
        · refine lv_iconst (v := 1) hx hb dX9_walker_109 (by decide) ?_
          exact K_y_2 _ (by simp only [xlet, if_neg c_8]) _ _ hP hD hS
        · refine lv_iconst (v := 0) hx hb dX9_walker_105 (by decide) ?_
          refine lv_goto (tgt := 110) hx hb dX9_walker_106 (by decide) ?_
          exact K_y_2 _ (by simp only [xlet, if_pos c_8]) _ _ hP hD hS
  refine lv_aload_n hx hb dX9_walker_0 rfl (lv_at hl 0 rfl) ?_
  refine lv_iconst (v := 0) hx hb dX9_walker_1 (by decide) ?_
  refine xput hx hb hts hown hK 9 (C2 := RX9) (T := TX9) (N := 23) tyX9 rfl tyX9_ok nmX9 hin_9 hP hD hS 0 rfl 11 (by decide) fl_48 rfl rfl rfl rfl rfl (Nat.le_of_ble_eq_true rfl) dX9_walker_2 [(o, .inr (9, [.ref o_road, .ref o_told, .ref o_fresh, .ref o_was, .int o_acts, .ref o_kept, .ref o_isKept, .ref o_sights, .int o_many, .ref o_text, .int o_letters, .int 0, .int o_cursor, .int o_token, .int o_start, .long o_value, .int o_isFault, .int o_faultAt, .int o_above, .int o_below, .ref o_topOf, .ref o_partsOf, .ref o_sent])), (o_road, .inl (cI, 36, .inl o_road_f))] rfl (fun H locs hP hD hS => ?_)
  refine lv_aload_n hx hb dX9_walker_5 rfl (lv_at hl 0 rfl) ?_
  refine lv_iload_n hx hb dX9_walker_6 rfl (lv_at hl 1 rfl) ?_
  refine xcalli (S := Unit) (Wc := [(o, .inr (9, [.ref o_road, .ref o_told, .ref o_fresh, .ref o_was, .int o_acts, .ref o_kept, .ref o_isKept, .ref o_sights, .int o_many, .ref o_text, .int o_letters, .int 0, .int o_cursor, .int o_token, .int o_start, .long o_value, .int o_isFault, .int o_faultAt, .int o_above, .int o_below, .ref o_topOf, .ref o_partsOf, .ref o_sent])), (o_road, .inl (cI, 36, .inl o_road_f))]) (wr := []) (W1 := (fun (u : Unit) => [(o, .inr (9, [.ref o_road, .ref o_told, .ref o_fresh, .ref o_was, .int o_acts, .ref o_kept, .ref o_isKept, .ref o_sights, .int o_many, .ref o_text, .int o_letters, .int 0, .int o_cursor, .int o_token, .int o_start, .long o_value, .int o_isFault, .int o_faultAt, .int o_above, .int o_below, .ref o_topOf, .ref o_partsOf, .ref o_sent])), (o_road, .inl (cI, 36, .inl o_road_f))])) (Wn := (fun (u : Unit) => [(o, .inr (9, [.ref o_road, .ref o_told, .ref o_fresh, .ref o_was, .int o_acts, .ref o_kept, .ref o_isKept, .ref o_sights, .int o_many, .ref o_text, .int o_letters, .int 0, .int o_cursor, .int o_token, .int o_start, .long o_value, .int o_isFault, .int o_faultAt, .int o_above, .int o_below, .ref o_topOf, .ref o_partsOf, .ref o_sent])), (o_road, .inl (cI, 36, .inl o_road_f))])) (xrunV hx hb hml hown hts (c_X9_isWalker l D cI cZ _ o a1 o_road o_told o_fresh o_was o_acts o_kept o_isKept o_sights o_many o_text o_letters 0 o_cursor o_token o_start o_value o_isFault o_faultAt o_above o_below o_topOf o_partsOf o_sent o_road_f ) (cwV 1 hts gX9_walker_X9_isWalker rfl rfl rfl (by decide +kernel) ⟨Nat.le_of_ble_eq_true rfl, Nat.le_of_ble_eq_true rfl⟩) hE hK hP hD [0, 1] rfl rfl 0 9 (T := TX9) (N := 23) rfl rfl rfl hl.1 rfl (Nat.le_of_ble_eq_true rfl) dX9_walker_7 ⟨Nat.le_of_ble_eq_true rfl, Nat.le_of_ble_eq_true rfl⟩) hP hD hS hA [0, 1] [] [0, 1] rfl rfl rfl (by decide) (fun _ => rfl) rfl (fun r1 u H locs hw hz hP hD hS => ?_)
  subst hw
  refine lv_if_ne (tgt := 16) hx hb dX9_walker_10 (by decide) (fun c_1 => ?_) (fun c_1 => ?_)
  · have kb_c_1 : 0 ≤ a1.toInt ∧ a1.toInt < (o_road_f 2).toInt := isWalker_b c_1 (by omega) (by omega)
    refine lv_iconst (v := 0) hx hb dX9_walker_16 (by decide) ?_
    refine lv_istore_n (lv' := [(3, .int 0), (0, .ref o), (1, .int a1), (2, .int a2)]) hx hb dX9_walker_17 rfl hl (by decide) rfl (fun ls hl => ?_)
    refine lv_iload_n hx hb dX9_walker_18 rfl (lv_at hl 3 rfl) ?_
    by_cases c_2 : a2 = 0
    · refine lv_tableIn (tgt := 52) hx hb dX9_walker_19 (by rw [c_2]; decide) (by rw [c_2]; decide) (by rw [c_2]; rfl) (by decide) ?_
      refine lv_aload_n hx hb dX9_walker_52 rfl (lv_at hl 1 rfl) ?_
      refine xget hx hb hts hown hK 9 (C2 := RX9) (T := TX9) (N := 23) rfl hin_9 hP 0 rfl 0 (by decide) fl_7 rfl rfl rfl dX9_walker_53 ?_
      refine lv_bipush (v := 24) hx hb dX9_walker_56 (by decide) ?_
      refine lv_iload_n hx hb dX9_walker_58 rfl (lv_at hl 2 rfl) ?_
      refine lv_iadd hx hb dX9_walker_59 ?_
      have z_1 : (24 + a1).toInt = (24 : Int32).toInt + a1.toInt := z_add (by omega) (by omega)
      refine xald hx hb hK hP 1 0 (k := (24 + a1).toNatClampNeg) rfl rfl (vi (by omega) (by omega)) rfl dX9_walker_60 ?_
      exact hret _ _ _ _ (o_road_f (24 + a1).toNatClampNeg) () dX9_walker_61 ((hF.trans (by simp only [fX9_walker, xlet, if_neg c_1, if_pos c_2])).symm) hP hD hS
    by_cases c_3 : a2 = 1
    · refine lv_tableIn (tgt := 62) hx hb dX9_walker_19 (by rw [c_3]; decide) (by rw [c_3]; decide) (by rw [c_3]; rfl) (by decide) ?_
      refine lv_aload_n hx hb dX9_walker_62 rfl (lv_at hl 1 rfl) ?_
      refine xget hx hb hts hown hK 9 (C2 := RX9) (T := TX9) (N := 23) rfl hin_9 hP 0 rfl 0 (by decide) fl_7 rfl rfl rfl dX9_walker_63 ?_
      refine lv_bipush (v := 30) hx hb dX9_walker_66 (by decide) ?_
      refine lv_iload_n hx hb dX9_walker_68 rfl (lv_at hl 2 rfl) ?_
      refine lv_iadd hx hb dX9_walker_69 ?_
      have z_2 : (30 + a1).toInt = (30 : Int32).toInt + a1.toInt := z_add (by omega) (by omega)
      refine xald hx hb hK hP 1 0 (k := (30 + a1).toNatClampNeg) rfl rfl (vi (by omega) (by omega)) rfl dX9_walker_70 ?_
      exact hret _ _ _ _ (o_road_f (30 + a1).toNatClampNeg) () dX9_walker_71 ((hF.trans (by simp only [fX9_walker, xlet, if_neg c_1, if_neg c_2, if_pos c_3])).symm) hP hD hS
    by_cases c_4 : a2 = 2
    · refine lv_tableIn (tgt := 72) hx hb dX9_walker_19 (by rw [c_4]; decide) (by rw [c_4]; decide) (by rw [c_4]; rfl) (by decide) ?_
      refine lv_aload_n hx hb dX9_walker_72 rfl (lv_at hl 1 rfl) ?_
      refine xget hx hb hts hown hK 9 (C2 := RX9) (T := TX9) (N := 23) rfl hin_9 hP 0 rfl 0 (by decide) fl_7 rfl rfl rfl dX9_walker_73 ?_
      refine lv_iconst (v := 3) hx hb dX9_walker_76 (by decide) ?_
      refine xald hx hb hK hP 1 0 (k := 3) rfl rfl (vi (by decide) (by decide)) (by decide) dX9_walker_77 ?_
      refine lv_iload_n hx hb dX9_walker_78 rfl (lv_at hl 2 rfl) ?_
      refine lv_ishr hx hb dX9_walker_79 ?_
      refine lv_iconst (v := 1) hx hb dX9_walker_80 (by decide) ?_
      refine lv_iand hx hb dX9_walker_81 ?_
      exact hret _ _ _ _ (((o_road_f 3) >>> (a1 &&& 31)) &&& 1) () dX9_walker_82 ((hF.trans (by simp only [fX9_walker, xlet, if_neg c_1, if_neg c_2, if_neg c_3, if_pos c_4])).symm) hP hD hS
    by_cases c_5 : a2 = 3
    · refine lv_tableIn (tgt := 83) hx hb dX9_walker_19 (by rw [c_5]; decide) (by rw [c_5]; decide) (by rw [c_5]; rfl) (by decide) ?_
      refine lv_iconst (v := 1) hx hb dX9_walker_83 (by decide) ?_
      refine lv_istore (lv' := [(4, .int 1), (3, .int 0), (0, .ref o), (1, .int a1), (2, .int a2)]) hx hb dX9_walker_84 hl (by decide) rfl (fun ls hl => ?_)
      exact L_86 1000 0 1 (by first | assumption | omega | decide | (split <;> rename_i hh <;> first | (have h9 := t_nlt hh; omega) | (have h9 := t_lt hh; omega) | (have h9 := t_nle hh; omega) | (have h9 := t_le hh; omega))) (by first | assumption | omega | decide | (split <;> rename_i hh <;> first | (have h9 := t_nlt hh; omega) | (have h9 := t_lt hh; omega) | (have h9 := t_nle hh; omega) | (have h9 := t_le hh; omega))) (by first | assumption | omega | decide | (split <;> rename_i hh <;> first | (have h9 := t_nlt hh; omega) | (have h9 := t_lt hh; omega) | (have h9 := t_nle hh; omega) | (have h9 := t_le hh; omega))) (by first | assumption | omega | decide | (split <;> rename_i hh <;> first | (have h9 := t_nlt hh; omega) | (have h9 := t_lt hh; omega) | (have h9 := t_nle hh; omega) | (have h9 := t_le hh; omega))) (by first | assumption | omega | decide | (split <;> rename_i hh <;> first | (have h9 := t_nlt hh; omega) | (have h9 := t_lt hh; omega) | (have h9 := t_nle hh; omega) | (have h9 := t_le hh; omega))) _ _ _ (lv_sub hl [2, 3, 4, 1, 0] rfl) hP hD hS (hF.trans (by simp only [fX9_walker, xlet, if_neg c_1, if_neg c_2, if_neg c_3, if_neg c_4, if_pos c_5]))
    by_cases c_6 : a2 = 4
    · refine lv_tableIn (tgt := 120) hx hb dX9_walker_19 (by rw [c_6]; decide) (by rw [c_6]; decide) (by rw [c_6]; rfl) (by decide) ?_
      refine lv_aload_n hx hb dX9_walker_120 rfl (lv_at hl 1 rfl) ?_
      refine lv_iload_n hx hb dX9_walker_121 rfl (lv_at hl 2 rfl) ?_
      refine xcalli (S := Unit) (Wc := [(o, .inr (9, [.ref o_road, .ref o_told, .ref o_fresh, .ref o_was, .int o_acts, .ref o_kept, .ref o_isKept, .ref o_sights, .int o_many, .ref o_text, .int o_letters, .int 0, .int o_cursor, .int o_token, .int o_start, .long o_value, .int o_isFault, .int o_faultAt, .int o_above, .int o_below, .ref o_topOf, .ref o_partsOf, .ref o_sent])), (o_road, .inl (cI, 36, .inl o_road_f))]) (wr := []) (W1 := (fun (u : Unit) => [(o, .inr (9, [.ref o_road, .ref o_told, .ref o_fresh, .ref o_was, .int o_acts, .ref o_kept, .ref o_isKept, .ref o_sights, .int o_many, .ref o_text, .int o_letters, .int 0, .int o_cursor, .int o_token, .int o_start, .long o_value, .int o_isFault, .int o_faultAt, .int o_above, .int o_below, .ref o_topOf, .ref o_partsOf, .ref o_sent])), (o_road, .inl (cI, 36, .inl o_road_f))])) (Wn := (fun (u : Unit) => [(o, .inr (9, [.ref o_road, .ref o_told, .ref o_fresh, .ref o_was, .int o_acts, .ref o_kept, .ref o_isKept, .ref o_sights, .int o_many, .ref o_text, .int o_letters, .int 0, .int o_cursor, .int o_token, .int o_start, .long o_value, .int o_isFault, .int o_faultAt, .int o_above, .int o_below, .ref o_topOf, .ref o_partsOf, .ref o_sent])), (o_road, .inl (cI, 36, .inl o_road_f))])) (xrunV hx hb hml hown hts (c_X9_feltInAll l D cI cZ _ o a1 o_road o_told o_fresh o_was o_acts o_kept o_isKept o_sights o_many o_text o_letters 0 o_cursor o_token o_start o_value o_isFault o_faultAt o_above o_below o_topOf o_partsOf o_sent o_road_f hn0 hn1 hv0 hv6 hhab (by first | assumption | decide | omega) (by first | assumption | decide | omega)) (cwV 1 hts gX9_walker_X9_feltInAll rfl rfl rfl (by decide +kernel) ⟨Nat.le_of_ble_eq_true rfl, Nat.le_of_ble_eq_true rfl⟩) hE hK hP hD [0, 1] rfl rfl 0 9 (T := TX9) (N := 23) rfl rfl rfl hl.1 rfl (Nat.le_of_ble_eq_true rfl) dX9_walker_122 ⟨Nat.le_of_ble_eq_true rfl, Nat.le_of_ble_eq_true rfl⟩) hP hD hS hA [0, 1] [] [0, 1] rfl rfl rfl (by decide) (fun _ => rfl) rfl (fun r2 u H locs hw hz hP hD hS => ?_)
      subst hw
      exact hret _ _ _ _ (fX9_feltInAll a1 o_road_f) () dX9_walker_125 ((hF.trans (by simp only [fX9_walker, xlet, if_neg c_1, if_neg c_2, if_neg c_3, if_neg c_4, if_neg c_5, if_pos c_6])).symm) hP hD hS
    · refine lv_tableOut (tgt := 126) hx hb dX9_walker_19 (by have := t_nel 0 (k := 0) rfl c_2; have := t_nel 1 (k := 1) rfl c_3; have := t_nel 2 (k := 2) rfl c_4; have := t_nel 3 (k := 3) rfl c_5; have := t_nel 4 (k := 4) rfl c_6; omega) (by decide) ?_
      refine lv_bipush (v := (-3)) hx hb dX9_walker_126 (by decide) ?_
      exact hret _ _ _ _ (-3) () dX9_walker_128 ((hF.trans (by simp only [fX9_walker, xlet, if_neg c_1, if_neg c_2, if_neg c_3, if_neg c_4, if_neg c_5, if_neg c_6])).symm) hP hD hS
  · refine lv_bipush (v := (-2)) hx hb dX9_walker_13 (by decide) ?_
    exact hret _ _ _ _ (-2) () dX9_walker_15 ((hF.trans (by simp only [fX9_walker, xlet, if_pos c_1])).symm) hP hD hS
set_option maxRecDepth 20000 in
theorem ggX9_as_X9_isWalker : GoodIn wsX9_as wsX9_isWalker := goodIn_r _ [8, 3, 9, 10, 7, 11, 16, 17, 18, 19, 20, 21, 22, 23, 24, 25, 26, 27, 28, 29, 30, 31, 32, 33, 34, 35, 36, 37, 38] (by decide +kernel) (by decide +kernel)
set_option maxRecDepth 20000 in
theorem gX9_as_X9_isWalker : GoodIn wsX9_as (wsV RX9 142 RX9 yX9_isWalker wsX9_isWalker) := goodIn_app (goodIn_of _ (by decide +kernel)) ggX9_as_X9_isWalker
set_option maxRecDepth 20000 in
theorem ggX9_as_X9_in : GoodIn wsX9_as wsX9_in := goodIn_r _ [11] (by decide +kernel) (by decide +kernel)
set_option maxRecDepth 20000 in
theorem gX9_as_X9_in : GoodIn wsX9_as (va_wsS RX9 52 yX9_in wsX9_in) := goodIn_app (goodIn_of _ (by decide +kernel)) ggX9_as_X9_in
set_option maxRecDepth 20000 in
theorem ggX9_as_X9_feltAt : GoodIn wsX9_as wsX9_feltAt := goodIn_r _ [15, 3, 16, 17, 18, 19, 20, 21, 22, 23, 24, 25, 26, 27, 28, 29, 30, 31, 32, 33, 34, 35, 36, 37, 38] (by decide +kernel) (by decide +kernel)
set_option maxRecDepth 20000 in
theorem gX9_as_X9_feltAt : GoodIn wsX9_as (wsV RX9 134 RX9 yX9_feltAt wsX9_feltAt) := goodIn_app (goodIn_of _ (by decide +kernel)) ggX9_as_X9_feltAt
theorem dX9_as_0 : decode cX9_as 0 = .ok (.aload_n 0, 1) := by decide +kernel
theorem dX9_as_1 : decode cX9_as 1 = .ok (.iconst 0, 1) := by decide +kernel
theorem dX9_as_2 : decode cX9_as 2 = .ok (.putfield 48, 3) := by decide +kernel
theorem dX9_as_5 : decode cX9_as 5 = .ok (.aload_n 0, 1) := by decide +kernel
theorem dX9_as_6 : decode cX9_as 6 = .ok (.iload_n 1, 1) := by decide +kernel
theorem dX9_as_7 : decode cX9_as 7 = .ok (.invokevirtual 142, 3) := by decide +kernel
theorem dX9_as_10 : decode cX9_as 10 = .ok (.ifCond .ne 6, 3) := by decide +kernel
theorem dX9_as_13 : decode cX9_as 13 = .ok (.bipush (-2), 2) := by decide +kernel
theorem dX9_as_15 : decode cX9_as 15 = .ok (.ireturn, 1) := by decide +kernel
theorem dX9_as_16 : decode cX9_as 16 = .ok (.iload_n 2, 1) := by decide +kernel
theorem dX9_as_17 : decode cX9_as 17 = .ok (.i2l, 1) := by decide +kernel
theorem dX9_as_18 : decode cX9_as 18 = .ok (.lconst 0, 1) := by decide +kernel
theorem dX9_as_19 : decode cX9_as 19 = .ok (.ldc2_w 152, 3) := by decide +kernel
theorem dX9_as_22 : decode cX9_as 22 = .ok (.invokestatic 52, 3) := by decide +kernel
theorem dX9_as_25 : decode cX9_as 25 = .ok (.ifCond .ne 6, 3) := by decide +kernel
theorem dX9_as_28 : decode cX9_as 28 = .ok (.bipush (-3), 2) := by decide +kernel
theorem dX9_as_30 : decode cX9_as 30 = .ok (.ireturn, 1) := by decide +kernel
theorem dX9_as_31 : decode cX9_as 31 = .ok (.aload_n 0, 1) := by decide +kernel
theorem dX9_as_32 : decode cX9_as 32 = .ok (.getfield 7, 3) := by decide +kernel
theorem dX9_as_35 : decode cX9_as 35 = .ok (.bipush 24, 2) := by decide +kernel
theorem dX9_as_37 : decode cX9_as 37 = .ok (.iload_n 1, 1) := by decide +kernel
theorem dX9_as_38 : decode cX9_as 38 = .ok (.iadd, 1) := by decide +kernel
theorem dX9_as_39 : decode cX9_as 39 = .ok (.iaload, 1) := by decide +kernel
theorem dX9_as_40 : decode cX9_as 40 = .ok (.istore_n 3, 1) := by decide +kernel
theorem dX9_as_41 : decode cX9_as 41 = .ok (.iload_n 2, 1) := by decide +kernel
theorem dX9_as_42 : decode cX9_as 42 = .ok (.ifCond .eq 20, 3) := by decide +kernel
theorem dX9_as_45 : decode cX9_as 45 = .ok (.iload_n 2, 1) := by decide +kernel
theorem dX9_as_46 : decode cX9_as 46 = .ok (.iload_n 3, 1) := by decide +kernel
theorem dX9_as_47 : decode cX9_as 47 = .ok (.iconst 1, 1) := by decide +kernel
theorem dX9_as_48 : decode cX9_as 48 = .ok (.iadd, 1) := by decide +kernel
theorem dX9_as_49 : decode cX9_as 49 = .ok (.if_icmp .eq 13, 3) := by decide +kernel
theorem dX9_as_52 : decode cX9_as 52 = .ok (.iload_n 2, 1) := by decide +kernel
theorem dX9_as_53 : decode cX9_as 53 = .ok (.iconst 1, 1) := by decide +kernel
theorem dX9_as_54 : decode cX9_as 54 = .ok (.if_icmp .ne 12, 3) := by decide +kernel
theorem dX9_as_57 : decode cX9_as 57 = .ok (.iload_n 3, 1) := by decide +kernel
theorem dX9_as_58 : decode cX9_as 58 = .ok (.iconst 3, 1) := by decide +kernel
theorem dX9_as_59 : decode cX9_as 59 = .ok (.if_icmp .ge 7, 3) := by decide +kernel
theorem dX9_as_62 : decode cX9_as 62 = .ok (.iconst 1, 1) := by decide +kernel
theorem dX9_as_63 : decode cX9_as 63 = .ok (.goto 4, 3) := by decide +kernel
theorem dX9_as_66 : decode cX9_as 66 = .ok (.iconst 0, 1) := by decide +kernel
theorem dX9_as_67 : decode cX9_as 67 = .ok (.istore 4, 2) := by decide +kernel
theorem dX9_as_69 : decode cX9_as 69 = .ok (.iload 4, 2) := by decide +kernel
theorem dX9_as_71 : decode cX9_as 71 = .ok (.ifCond .eq 26, 3) := by decide +kernel
theorem dX9_as_74 : decode cX9_as 74 = .ok (.aload_n 0, 1) := by decide +kernel
theorem dX9_as_75 : decode cX9_as 75 = .ok (.iload_n 3, 1) := by decide +kernel
theorem dX9_as_76 : decode cX9_as 76 = .ok (.aload_n 0, 1) := by decide +kernel
theorem dX9_as_77 : decode cX9_as 77 = .ok (.getfield 7, 3) := by decide +kernel
theorem dX9_as_80 : decode cX9_as 80 = .ok (.bipush 30, 2) := by decide +kernel
theorem dX9_as_82 : decode cX9_as 82 = .ok (.iload_n 1, 1) := by decide +kernel
theorem dX9_as_83 : decode cX9_as 83 = .ok (.iadd, 1) := by decide +kernel
theorem dX9_as_84 : decode cX9_as 84 = .ok (.iaload, 1) := by decide +kernel
theorem dX9_as_85 : decode cX9_as 85 = .ok (.aload_n 0, 1) := by decide +kernel
theorem dX9_as_86 : decode cX9_as 86 = .ok (.getfield 7, 3) := by decide +kernel
theorem dX9_as_89 : decode cX9_as 89 = .ok (.iconst 0, 1) := by decide +kernel
theorem dX9_as_90 : decode cX9_as 90 = .ok (.iaload, 1) := by decide +kernel
theorem dX9_as_91 : decode cX9_as 91 = .ok (.invokevirtual 134, 3) := by decide +kernel
theorem dX9_as_94 : decode cX9_as 94 = .ok (.goto 5, 3) := by decide +kernel
theorem dX9_as_97 : decode cX9_as 97 = .ok (.bipush (-4), 2) := by decide +kernel
theorem dX9_as_99 : decode cX9_as 99 = .ok (.ireturn, 1) := by decide +kernel
def fX9_as (a1 : Int32) (a2 : Int32) (o_road_f : Nat → Int32) : Int32 := if (fX9_isWalker a1 o_road_f) = 0 then ((-2)) else (if (fX9_in a2.toInt64 0 4) = 0 then ((-3)) else (xlet (if a2 = 0 then (1 : Int32) else (if a2 = ((o_road_f (24 + a1).toNatClampNeg) + 1) then 1 else (if a2 = 1 then (if 3 ≤ (o_road_f (24 + a1).toNatClampNeg) then 0 else 1) else 0))) (fun y_1 => xlet (if y_1 = 0 then (-4) else (fX9_feltAt (o_road_f (24 + a1).toNatClampNeg) (o_road_f (30 + a1).toNatClampNeg) (o_road_f 0) o_road_f)) (fun y_2 => y_2))))
set_option maxHeartbeats 4000000 in
set_option maxRecDepth 100000 in
theorem c_X9_as (l : Launch) (D : va_G) (cI cZ : ClassId) (sz : Nat) (o : Nat) (a1 : Int32) (a2 : Int32) (o_road : Nat) (o_told : Nat) (o_fresh : Nat) (o_was : Nat) (o_acts : Int32) (o_kept : Nat) (o_isKept : Nat) (o_sights : Nat) (o_many : Int32) (o_text : Nat) (o_letters : Int32) (o_thrown : Int32) (o_cursor : Int32) (o_token : Int32) (o_start : Int32) (o_value : Int64) (o_isFault : Int32) (o_faultAt : Int32) (o_above : Int32) (o_below : Int32) (o_topOf : Nat) (o_partsOf : Nat) (o_sent : Nat) (o_road_f : Nat → Int32) (hn0 : 4 ≤ (o_road_f 0).toInt) (hn1 : (o_road_f 0).toInt ≤ 20) (hv0 : 0 ≤ (o_road_f 2).toInt) (hv6 : (o_road_f 2).toInt ≤ 6) (hhab : ∀ w : Int32, 0 ≤ w.toInt → w.toInt < (o_road_f 2).toInt → ¬ o_road_f (30 + w).toNatClampNeg = 0) (hq6 : 1 ≤ (o_road_f 0).toInt) (hq7 : (o_road_f 0).toInt ≤ (o_road_f 0).toInt) : Met l yX9_as wsX9_as ({ frames := 2, cells := 0, slots := 0, locals := 46 } : Room) (va_Pc [.ref o, .int a1, .int a2] (xP D cI cZ [(o, .inr (9, [.ref o_road, .ref o_told, .ref o_fresh, .ref o_was, .int o_acts, .ref o_kept, .ref o_isKept, .ref o_sights, .int o_many, .ref o_text, .int o_letters, .int o_thrown, .int o_cursor, .int o_token, .int o_start, .long o_value, .int o_isFault, .int o_faultAt, .int o_above, .int o_below, .ref o_topOf, .ref o_partsOf, .ref o_sent])), (o_road, .inl (cI, 36, .inl o_road_f))] sz)) (va_Qi (fun (r : Int32) (u : Unit) => r = fX9_as a1 a2 o_road_f) (fun (u : Unit) t => xB D cI cZ [(o, .inr (9, [.ref o_road, .ref o_told, .ref o_fresh, .ref o_was, .int o_acts, .ref o_kept, .ref o_isKept, .ref o_sights, .int o_many, .ref o_text, .int o_letters, .int 0, .int o_cursor, .int o_token, .int o_start, .long o_value, .int o_isFault, .int o_faultAt, .int o_above, .int o_below, .ref o_topOf, .ref o_partsOf, .ref o_sent])), (o_road, .inl (cI, 36, .inl o_road_f))] (va_A [(o, .inr (9, [.ref o_road, .ref o_told, .ref o_fresh, .ref o_was, .int o_acts, .ref o_kept, .ref o_isKept, .ref o_sights, .int o_many, .ref o_text, .int o_letters, .int o_thrown, .int o_cursor, .int o_token, .int o_start, .long o_value, .int o_isFault, .int o_faultAt, .int o_above, .int o_below, .ref o_topOf, .ref o_partsOf, .ref o_sent])), (o_road, .inl (cI, 36, .inl o_road_f))] sz) t) (va_A [(o, .inr (9, [.ref o_road, .ref o_told, .ref o_fresh, .ref o_was, .int o_acts, .ref o_kept, .ref o_isKept, .ref o_sights, .int o_many, .ref o_text, .int o_letters, .int o_thrown, .int o_cursor, .int o_token, .int o_start, .long o_value, .int o_isFault, .int o_faultAt, .int o_above, .int o_below, .ref o_topOf, .ref o_partsOf, .ref o_sent])), (o_road, .inl (cI, 36, .inl o_road_f))] sz)) 0 0 (va_A [(o, .inr (9, [.ref o_road, .ref o_told, .ref o_fresh, .ref o_was, .int o_acts, .ref o_kept, .ref o_isKept, .ref o_sights, .int o_many, .ref o_text, .int o_letters, .int o_thrown, .int o_cursor, .int o_token, .int o_start, .long o_value, .int o_isFault, .int o_faultAt, .int o_above, .int o_below, .ref o_topOf, .ref o_partsOf, .ref o_sent])), (o_road, .inl (cI, 36, .inl o_road_f))] sz) := by
  refine Met.ofW (cc := cX9_as) (maxL := 5) (ret := (some .int)) (by decide) rfl ?_
  intro p e s m args below meth c s₁ B hml hv
  obtain ⟨hargs, hsz, hP, hK, hD0, hE⟩ := hv
  subst hargs
  have hx := B.exec
  have hb := B.bytes
  have hr := B.returns
  have hts := atoms_spec (ws := wsX9_as) B.pre
  have hown : s.vm.findClass RX9 = some m.cls := findClass_of_methodNamed B.named
  have hlocks := B.notSynchronized
  subst hsz
  have hD := hD0.self (sz := s.heap.size)
  generalize hAe : va_A [(o, .inr (9, [.ref o_road, .ref o_told, .ref o_fresh, .ref o_was, .int o_acts, .ref o_kept, .ref o_isKept, .ref o_sights, .int o_many, .ref o_text, .int o_letters, .int o_thrown, .int o_cursor, .int o_token, .int o_start, .long o_value, .int o_isFault, .int o_faultAt, .int o_above, .int o_below, .ref o_topOf, .ref o_partsOf, .ref o_sent])), (o_road, .inl (cI, 36, .inl o_road_f))] s.heap.size = A at hD ⊢
  have hA : ∀ q : Nat, s.heap.size ≤ q → A q := fun q h => by rw [← hAe]; exact Or.inr h
  have hS : va_S A s.heap s.heap [] := va_S.rf
  have hl := lv_entry ([.ref o, .int a1, .int a2]) (n := 5) (Nat.le_of_ble_eq_true rfl)
  rw [lg_entry_eq]
  generalize (lg_sl ([.ref o, .int a1, .int a2]) ++ List.replicate (5 - (lg_sl ([.ref o, .int a1, .int a2])).length) Slot.unset).toArray = ls at hl ⊢
  have hl : lv_has ls 5 [(0, .ref o), (1, .int a1), (2, .int a2)] := hl
  refine wq (X := fun Q => ∀ (pc : Nat) (H : Heap) (locs : List Loc) (ls : Array Slot) (r : Int32) (u : Unit) (hd : decode cX9_as pc = .ok (.ireturn, 1)) (hp : r = fX9_as a1 a2 o_road_f) (hP : va_P D vwCl [(o, .inr (9, [.ref o_road, .ref o_told, .ref o_fresh, .ref o_was, .int o_acts, .ref o_kept, .ref o_isKept, .ref o_sights, .int o_many, .ref o_text, .int o_letters, .int 0, .int o_cursor, .int o_token, .int o_start, .long o_value, .int o_isFault, .int o_faultAt, .int o_above, .int o_below, .ref o_topOf, .ref o_partsOf, .ref o_sent])), (o_road, .inl (cI, 36, .inl o_road_f))] H) (hD : va_D A [(o, .inr (9, [.ref o_road, .ref o_told, .ref o_fresh, .ref o_was, .int o_acts, .ref o_kept, .ref o_isKept, .ref o_sights, .int o_many, .ref o_text, .int o_letters, .int 0, .int o_cursor, .int o_token, .int o_start, .long o_value, .int o_isFault, .int o_faultAt, .int o_above, .int o_below, .ref o_topOf, .ref o_partsOf, .ref o_sent])), (o_road, .inl (cI, 36, .inl o_road_f))]) (hS : va_S A s.heap H locs), W p l e ({ frames := 2, cells := 0, slots := 0, locals := 46 } : Room) s m ([.ref o, .int a1, .int a2] : List Value).toArray below meth c H locs 0 0 Q (F0 m pc ls [.int r])) ?_ (fun Q hret => ?_)
  · intro pc H locs ls r u hd hp hP hD hS
    exact W.iret (v := r) hx hb hr (fun t ht hW => ⟨⟨r, u, rfl, hp, by rw [ht]; exact hP, va_K.moved hW.alike hK, hD⟩, hS.F ht⟩) hS.2.2 hd
  have hin_9 : ∀ w ∈ u_ws RX9 TX9 23, w ∈ wsX9_as := by decide +kernel
  have fl_7 := hts (.fieldLink RX9 7 "MileRoadModel" "road" "[I") (by decide +kernel)
  have fl_48 := hts (.fieldLink RX9 48 "MileRoadModel" "thrown" "I") (by decide +kernel)
  have zl_0 : (0 : Int32).toInt = 0 := by decide
  have zl_1 : (1 : Int32).toInt = 1 := by decide
  have zl_3 : (3 : Int32).toInt = 3 := by decide
  have zl_24 : (24 : Int32).toInt = 24 := by decide
  have zl_30 : (30 : Int32).toInt = 30 := by decide
  have hF : fX9_as a1 a2 o_road_f = fX9_as a1 a2 o_road_f := rfl
  refine lv_aload_n hx hb dX9_as_0 rfl (lv_at hl 0 rfl) ?_
  refine lv_iconst (v := 0) hx hb dX9_as_1 (by decide) ?_
  refine xput hx hb hts hown hK 9 (C2 := RX9) (T := TX9) (N := 23) tyX9 rfl tyX9_ok nmX9 hin_9 hP hD hS 0 rfl 11 (by decide) fl_48 rfl rfl rfl rfl rfl (Nat.le_of_ble_eq_true rfl) dX9_as_2 [(o, .inr (9, [.ref o_road, .ref o_told, .ref o_fresh, .ref o_was, .int o_acts, .ref o_kept, .ref o_isKept, .ref o_sights, .int o_many, .ref o_text, .int o_letters, .int 0, .int o_cursor, .int o_token, .int o_start, .long o_value, .int o_isFault, .int o_faultAt, .int o_above, .int o_below, .ref o_topOf, .ref o_partsOf, .ref o_sent])), (o_road, .inl (cI, 36, .inl o_road_f))] rfl (fun H locs hP hD hS => ?_)
  refine lv_aload_n hx hb dX9_as_5 rfl (lv_at hl 0 rfl) ?_
  refine lv_iload_n hx hb dX9_as_6 rfl (lv_at hl 1 rfl) ?_
  refine xcalli (S := Unit) (Wc := [(o, .inr (9, [.ref o_road, .ref o_told, .ref o_fresh, .ref o_was, .int o_acts, .ref o_kept, .ref o_isKept, .ref o_sights, .int o_many, .ref o_text, .int o_letters, .int 0, .int o_cursor, .int o_token, .int o_start, .long o_value, .int o_isFault, .int o_faultAt, .int o_above, .int o_below, .ref o_topOf, .ref o_partsOf, .ref o_sent])), (o_road, .inl (cI, 36, .inl o_road_f))]) (wr := []) (W1 := (fun (u : Unit) => [(o, .inr (9, [.ref o_road, .ref o_told, .ref o_fresh, .ref o_was, .int o_acts, .ref o_kept, .ref o_isKept, .ref o_sights, .int o_many, .ref o_text, .int o_letters, .int 0, .int o_cursor, .int o_token, .int o_start, .long o_value, .int o_isFault, .int o_faultAt, .int o_above, .int o_below, .ref o_topOf, .ref o_partsOf, .ref o_sent])), (o_road, .inl (cI, 36, .inl o_road_f))])) (Wn := (fun (u : Unit) => [(o, .inr (9, [.ref o_road, .ref o_told, .ref o_fresh, .ref o_was, .int o_acts, .ref o_kept, .ref o_isKept, .ref o_sights, .int o_many, .ref o_text, .int o_letters, .int 0, .int o_cursor, .int o_token, .int o_start, .long o_value, .int o_isFault, .int o_faultAt, .int o_above, .int o_below, .ref o_topOf, .ref o_partsOf, .ref o_sent])), (o_road, .inl (cI, 36, .inl o_road_f))])) (xrunV hx hb hml hown hts (c_X9_isWalker l D cI cZ _ o a1 o_road o_told o_fresh o_was o_acts o_kept o_isKept o_sights o_many o_text o_letters 0 o_cursor o_token o_start o_value o_isFault o_faultAt o_above o_below o_topOf o_partsOf o_sent o_road_f ) (cwV 1 hts gX9_as_X9_isWalker rfl rfl rfl (by decide +kernel) ⟨Nat.le_of_ble_eq_true rfl, Nat.le_of_ble_eq_true rfl⟩) hE hK hP hD [0, 1] rfl rfl 0 9 (T := TX9) (N := 23) rfl rfl rfl hl.1 rfl (Nat.le_of_ble_eq_true rfl) dX9_as_7 ⟨Nat.le_of_ble_eq_true rfl, Nat.le_of_ble_eq_true rfl⟩) hP hD hS hA [0, 1] [] [0, 1] rfl rfl rfl (by decide) (fun _ => rfl) rfl (fun r1 u H locs hw hz hP hD hS => ?_)
  subst hw
  refine lv_if_ne (tgt := 16) hx hb dX9_as_10 (by decide) (fun c_1 => ?_) (fun c_1 => ?_)
  · have kb_c_1 : 0 ≤ a1.toInt ∧ a1.toInt < (o_road_f 2).toInt := isWalker_b c_1 (by omega) (by omega)
    refine lv_iload_n hx hb dX9_as_16 rfl (lv_at hl 2 rfl) ?_
    refine lv_i2l (v := a2.toInt64) hx hb dX9_as_17 rfl ?_
    refine lv_lconst (v := 0) hx hb dX9_as_18 (by decide) ?_
    refine lv_ldc2 (v := 4) hx hb hown (hts (.constantLong RX9 152 4) (by decide +kernel)) dX9_as_19 ?_
    refine xcalli (S := Unit) (Wc := []) (wr := [(o, .inr (9, [.ref o_road, .ref o_told, .ref o_fresh, .ref o_was, .int o_acts, .ref o_kept, .ref o_isKept, .ref o_sights, .int o_many, .ref o_text, .int o_letters, .int 0, .int o_cursor, .int o_token, .int o_start, .long o_value, .int o_isFault, .int o_faultAt, .int o_above, .int o_below, .ref o_topOf, .ref o_partsOf, .ref o_sent])), (o_road, .inl (cI, 36, .inl o_road_f))]) (W1 := (fun (u : Unit) => [])) (Wn := (fun (u : Unit) => [(o, .inr (9, [.ref o_road, .ref o_told, .ref o_fresh, .ref o_was, .int o_acts, .ref o_kept, .ref o_isKept, .ref o_sights, .int o_many, .ref o_text, .int o_letters, .int 0, .int o_cursor, .int o_token, .int o_start, .long o_value, .int o_isFault, .int o_faultAt, .int o_above, .int o_below, .ref o_topOf, .ref o_partsOf, .ref o_sent])), (o_road, .inl (cI, 36, .inl o_road_f))])) (xrunS hx hb hml hown hts (c_X9_in l D cI cZ _ a2.toInt64 0 4 ) (va_cwS 3 hts gX9_as_X9_in rfl rfl rfl (by decide +kernel) ⟨Nat.le_of_ble_eq_true rfl, Nat.le_of_ble_eq_true rfl⟩) hE hK hP hD [] rfl rfl rfl hl.1 rfl (Nat.le_of_ble_eq_true rfl) dX9_as_22 ⟨Nat.le_of_ble_eq_true rfl, Nat.le_of_ble_eq_true rfl⟩) hP hD hS hA [] [0, 1] [0, 1] rfl rfl rfl (by decide) (fun _ => rfl) rfl (fun r2 u H locs hw hz hP hD hS => ?_)
    subst hw
    refine lv_if_ne (tgt := 31) hx hb dX9_as_25 (by decide) (fun c_2 => ?_) (fun c_2 => ?_)
    · have kb_c_2 : 0 ≤ a2.toInt ∧ a2.toInt ≤ 4 := in_b c_2 (by decide) (by decide)
      refine lv_aload_n hx hb dX9_as_31 rfl (lv_at hl 0 rfl) ?_
      refine xget hx hb hts hown hK 9 (C2 := RX9) (T := TX9) (N := 23) rfl hin_9 hP 0 rfl 0 (by decide) fl_7 rfl rfl rfl dX9_as_32 ?_
      refine lv_bipush (v := 24) hx hb dX9_as_35 (by decide) ?_
      refine lv_iload_n hx hb dX9_as_37 rfl (lv_at hl 1 rfl) ?_
      refine lv_iadd hx hb dX9_as_38 ?_
      have z_1 : (24 + a1).toInt = (24 : Int32).toInt + a1.toInt := z_add (by omega) (by omega)
      refine xald hx hb hK hP 1 0 (k := (24 + a1).toNatClampNeg) rfl rfl (vi (by omega) (by omega)) rfl dX9_as_39 ?_
      refine lv_istore_n (lv' := [(3, .int (o_road_f (24 + a1).toNatClampNeg)), (0, .ref o), (1, .int a1), (2, .int a2)]) hx hb dX9_as_40 rfl hl (by decide) rfl (fun ls hl => ?_)
      refine lv_iload_n hx hb dX9_as_41 rfl (lv_at hl 3 rfl) ?_
      have K_y_1 : ∀ (y_1 : Int32) (hy_y_1 : (if a2 = 0 then (1 : Int32) else (if a2 = ((o_road_f (24 + a1).toNatClampNeg) + 1) then 1 else (if a2 = 1 then (if 3 ≤ (o_road_f (24 + a1).toNatClampNeg) then 0 else 1) else 0))) = y_1) (H : Heap) (locs : List Loc) (hP : va_P D vwCl [(o, .inr (9, [.ref o_road, .ref o_told, .ref o_fresh, .ref o_was, .int o_acts, .ref o_kept, .ref o_isKept, .ref o_sights, .int o_many, .ref o_text, .int o_letters, .int 0, .int o_cursor, .int o_token, .int o_start, .long o_value, .int o_isFault, .int o_faultAt, .int o_above, .int o_below, .ref o_topOf, .ref o_partsOf, .ref o_sent])), (o_road, .inl (cI, 36, .inl o_road_f))] H) (hD : va_D A [(o, .inr (9, [.ref o_road, .ref o_told, .ref o_fresh, .ref o_was, .int o_acts, .ref o_kept, .ref o_isKept, .ref o_sights, .int o_many, .ref o_text, .int o_letters, .int 0, .int o_cursor, .int o_token, .int o_start, .long o_value, .int o_isFault, .int o_faultAt, .int o_above, .int o_below, .ref o_topOf, .ref o_partsOf, .ref o_sent])), (o_road, .inl (cI, 36, .inl o_road_f))]) (hS : va_S A s.heap H locs), W p l e ({ frames := 2, cells := 0, slots := 0, locals := 46 } : Room) s m ([.ref o, .int a1, .int a2] : List Value).toArray below meth c H locs 0 0 Q (F0 m 67 ls [.int y_1]) := by
        intro y_1 hy_y_1 H locs hP hD hS
        have ky_y_1 : y_1 = 0 ∨ y_1 = 1 := by rw [← hy_y_1]; (repeat' split) <;> simp
        refine lv_istore (lv' := [(4, .int y_1), (3, .int (o_road_f (24 + a1).toNatClampNeg)), (0, .ref o), (1, .int a1), (2, .int a2)]) hx hb dX9_as_67 hl (by decide) rfl (fun ls hl => ?_)
        refine lv_iload hx hb dX9_as_69 (lv_at hl 0 rfl) ?_
        have K_y_2 : ∀ (y_2 : Int32) (hy_y_2 : (if y_1 = 0 then (-4) else (fX9_feltAt (o_road_f (24 + a1).toNatClampNeg) (o_road_f (30 + a1).toNatClampNeg) (o_road_f 0) o_road_f)) = y_2) (H : Heap) (locs : List Loc) (hP : va_P D vwCl [(o, .inr (9, [.ref o_road, .ref o_told, .ref o_fresh, .ref o_was, .int o_acts, .ref o_kept, .ref o_isKept, .ref o_sights, .int o_many, .ref o_text, .int o_letters, .int 0, .int o_cursor, .int o_token, .int o_start, .long o_value, .int o_isFault, .int o_faultAt, .int o_above, .int o_below, .ref o_topOf, .ref o_partsOf, .ref o_sent])), (o_road, .inl (cI, 36, .inl o_road_f))] H) (hD : va_D A [(o, .inr (9, [.ref o_road, .ref o_told, .ref o_fresh, .ref o_was, .int o_acts, .ref o_kept, .ref o_isKept, .ref o_sights, .int o_many, .ref o_text, .int o_letters, .int 0, .int o_cursor, .int o_token, .int o_start, .long o_value, .int o_isFault, .int o_faultAt, .int o_above, .int o_below, .ref o_topOf, .ref o_partsOf, .ref o_sent])), (o_road, .inl (cI, 36, .inl o_road_f))]) (hS : va_S A s.heap H locs), W p l e ({ frames := 2, cells := 0, slots := 0, locals := 46 } : Room) s m ([.ref o, .int a1, .int a2] : List Value).toArray below meth c H locs 0 0 Q (F0 m 99 ls [.int y_2]) := by
          intro y_2 hy_y_2 H locs hP hD hS
          have ky_y_2 : y_2 = (-4) ∨ y_2 = (fX9_feltAt (o_road_f (24 + a1).toNatClampNeg) (o_road_f (30 + a1).toNatClampNeg) (o_road_f 0) o_road_f) := by rw [← hy_y_2]; (repeat' split) <;> simp
          exact hret _ _ _ _ y_2 () dX9_as_99 ((hF.trans (by simp only [fX9_as, xlet, if_neg c_1, if_neg c_2, ↓hy_y_1, ↓hy_y_2])).symm) hP hD hS
        refine lv_if_eq (tgt := 97) hx hb dX9_as_71 (by decide) (fun c_7 => ?_) (fun c_7 => ?_)
        · have kc_7 := t_eq c_7
          refine lv_bipush (v := (-4)) hx hb dX9_as_97 (by decide) ?_
          exact K_y_2 _ (by simp only [xlet, if_pos c_7]) _ _ hP hD hS
        · have kc_7 := t_neq c_7
          refine lv_aload_n hx hb dX9_as_74 rfl (lv_at hl 2 rfl) ?_
          refine lv_iload_n hx hb dX9_as_75 rfl (lv_at hl 1 rfl) ?_
          refine lv_aload_n hx hb dX9_as_76 rfl (lv_at hl 2 rfl) ?_
          refine xget hx hb hts hown hK 9 (C2 := RX9) (T := TX9) (N := 23) rfl hin_9 hP 0 rfl 0 (by decide) fl_7 rfl rfl rfl dX9_as_77 ?_
          refine lv_bipush (v := 30) hx hb dX9_as_80 (by decide) ?_
          refine lv_iload_n hx hb dX9_as_82 rfl (lv_at hl 3 rfl) ?_
          refine lv_iadd hx hb dX9_as_83 ?_
          have z_2 : (30 + a1).toInt = (30 : Int32).toInt + a1.toInt := z_add (by omega) (by omega)
          refine xald hx hb hK hP 1 0 (k := (30 + a1).toNatClampNeg) rfl rfl (vi (by omega) (by omega)) rfl dX9_as_84 ?_
          refine lv_aload_n hx hb dX9_as_85 rfl (lv_at hl 2 rfl) ?_
          refine xget hx hb hts hown hK 9 (C2 := RX9) (T := TX9) (N := 23) rfl hin_9 hP 0 rfl 0 (by decide) fl_7 rfl rfl rfl dX9_as_86 ?_
          refine lv_iconst (v := 0) hx hb dX9_as_89 (by decide) ?_
          refine xald hx hb hK hP 1 0 (k := 0) rfl rfl (vi (by decide) (by decide)) (by decide) dX9_as_90 ?_
          refine xcalli (S := Unit) (Wc := [(o, .inr (9, [.ref o_road, .ref o_told, .ref o_fresh, .ref o_was, .int o_acts, .ref o_kept, .ref o_isKept, .ref o_sights, .int o_many, .ref o_text, .int o_letters, .int 0, .int o_cursor, .int o_token, .int o_start, .long o_value, .int o_isFault, .int o_faultAt, .int o_above, .int o_below, .ref o_topOf, .ref o_partsOf, .ref o_sent])), (o_road, .inl (cI, 36, .inl o_road_f))]) (wr := []) (W1 := (fun (u : Unit) => [(o, .inr (9, [.ref o_road, .ref o_told, .ref o_fresh, .ref o_was, .int o_acts, .ref o_kept, .ref o_isKept, .ref o_sights, .int o_many, .ref o_text, .int o_letters, .int 0, .int o_cursor, .int o_token, .int o_start, .long o_value, .int o_isFault, .int o_faultAt, .int o_above, .int o_below, .ref o_topOf, .ref o_partsOf, .ref o_sent])), (o_road, .inl (cI, 36, .inl o_road_f))])) (Wn := (fun (u : Unit) => [(o, .inr (9, [.ref o_road, .ref o_told, .ref o_fresh, .ref o_was, .int o_acts, .ref o_kept, .ref o_isKept, .ref o_sights, .int o_many, .ref o_text, .int o_letters, .int 0, .int o_cursor, .int o_token, .int o_start, .long o_value, .int o_isFault, .int o_faultAt, .int o_above, .int o_below, .ref o_topOf, .ref o_partsOf, .ref o_sent])), (o_road, .inl (cI, 36, .inl o_road_f))])) (xrunV hx hb hml hown hts (c_X9_feltAt l D cI cZ _ o (o_road_f (24 + a1).toNatClampNeg) (o_road_f (30 + a1).toNatClampNeg) (o_road_f 0) o_road o_told o_fresh o_was o_acts o_kept o_isKept o_sights o_many o_text o_letters 0 o_cursor o_token o_start o_value o_isFault o_faultAt o_above o_below o_topOf o_partsOf o_sent o_road_f hn0 hn1 hq6 hq7 (hhab _ (by omega) (by omega))) (cwV 3 hts gX9_as_X9_feltAt rfl rfl rfl (by decide +kernel) ⟨Nat.le_of_ble_eq_true rfl, Nat.le_of_ble_eq_true rfl⟩) hE hK hP hD [0, 1] rfl rfl 0 9 (T := TX9) (N := 23) rfl rfl rfl hl.1 rfl (Nat.le_of_ble_eq_true rfl) dX9_as_91 ⟨Nat.le_of_ble_eq_true rfl, Nat.le_of_ble_eq_true rfl⟩) hP hD hS hA [0, 1] [] [0, 1] rfl rfl rfl (by decide) (fun _ => rfl) rfl (fun r3 u H locs hw hz hP hD hS => ?_)
          subst hw
          refine lv_goto (tgt := 99) hx hb dX9_as_94 (by decide) ?_
          exact K_y_2 _ (by simp only [xlet, if_neg c_7]) _ _ hP hD hS
      refine lv_if_eq (tgt := 62) hx hb dX9_as_42 (by decide) (fun c_3 => ?_) (fun c_3 => ?_)
      · have kc_3 := t_eq c_3
        refine lv_iconst (v := 1) hx hb dX9_as_62 (by decide) ?_
        refine lv_goto (tgt := 67) hx hb dX9_as_63 (by decide) ?_
        exact K_y_1 _ (by simp only [xlet, if_pos c_3]) _ _ hP hD hS
      · have kc_3 := t_neq c_3
        refine lv_iload_n hx hb dX9_as_45 rfl (lv_at hl 3 rfl) ?_
        refine lv_iload_n hx hb dX9_as_46 rfl (lv_at hl 0 rfl) ?_
        refine lv_iconst (v := 1) hx hb dX9_as_47 (by decide) ?_
        refine lv_iadd hx hb dX9_as_48 ?_
        refine lv_icmp_eq (tgt := 62) hx hb dX9_as_49 (by decide) (fun c_4 => ?_) (fun c_4 => ?_)
        · have kc_4 := t_eq c_4
          refine lv_iconst (v := 1) hx hb dX9_as_62 (by decide) ?_
          refine lv_goto (tgt := 67) hx hb dX9_as_63 (by decide) ?_
          exact K_y_1 _ (by simp only [xlet, if_neg c_3, if_pos c_4]) _ _ hP hD hS
        · have kc_4 := t_neq c_4
          refine lv_iload_n hx hb dX9_as_52 rfl (lv_at hl 3 rfl) ?_
          refine lv_iconst (v := 1) hx hb dX9_as_53 (by decide) ?_
          refine lv_icmp_ne (tgt := 66) hx hb dX9_as_54 (by decide) (fun c_5 => ?_) (fun c_5 => ?_)
          · have kc_5 := t_neq c_5
            refine lv_iconst (v := 0) hx hb dX9_as_66 (by decide) ?_
            exact K_y_1 _ (by simp only [xlet, if_neg c_3, if_neg c_4, if_neg c_5]) _ _ hP hD hS
          · have kc_5 := t_eq c_5
            refine lv_iload_n hx hb dX9_as_57 rfl (lv_at hl 0 rfl) ?_
            refine lv_iconst (v := 3) hx hb dX9_as_58 (by decide) ?_
            refine lv_icmp_ge (tgt := 66) hx hb dX9_as_59 (by decide) (fun c_6 => ?_) (fun c_6 => ?_)
            · have kc_6 := t_le c_6
              refine lv_iconst (v := 0) hx hb dX9_as_66 (by decide) ?_
              exact K_y_1 _ (by simp only [xlet, if_neg c_3, if_neg c_4, if_pos c_5, if_pos c_6]) _ _ hP hD hS
            · have kc_6 := t_nle c_6
              refine lv_iconst (v := 1) hx hb dX9_as_62 (by decide) ?_
              refine lv_goto (tgt := 67) hx hb dX9_as_63 (by decide) ?_
              exact K_y_1 _ (by simp only [xlet, if_neg c_3, if_neg c_4, if_pos c_5, if_neg c_6]) _ _ hP hD hS
    · refine lv_bipush (v := (-3)) hx hb dX9_as_28 (by decide) ?_
      exact hret _ _ _ _ (-3) () dX9_as_30 ((hF.trans (by simp only [fX9_as, xlet, if_neg c_1, if_pos c_2])).symm) hP hD hS
  · refine lv_bipush (v := (-2)) hx hb dX9_as_13 (by decide) ?_
    exact hret _ _ _ _ (-2) () dX9_as_15 ((hF.trans (by simp only [fX9_as, xlet, if_pos c_1])).symm) hP hD hS
set_option maxRecDepth 20000 in
theorem ggX9_step_X9_in : GoodIn wsX9_step wsX9_in := goodIn_r _ [6] (by decide +kernel) (by decide +kernel)
set_option maxRecDepth 20000 in
theorem gX9_step_X9_in : GoodIn wsX9_step (va_wsS RX9 52 yX9_in wsX9_in) := goodIn_app (goodIn_of _ (by decide +kernel)) ggX9_step_X9_in
theorem dX9_step_0 : decode cX9_step 0 = .ok (.aload_n 0, 1) := by decide +kernel
theorem dX9_step_1 : decode cX9_step 1 = .ok (.iconst 0, 1) := by decide +kernel
theorem dX9_step_2 : decode cX9_step 2 = .ok (.putfield 48, 3) := by decide +kernel
theorem dX9_step_5 : decode cX9_step 5 = .ok (.iload_n 1, 1) := by decide +kernel
theorem dX9_step_6 : decode cX9_step 6 = .ok (.i2l, 1) := by decide +kernel
theorem dX9_step_7 : decode cX9_step 7 = .ok (.lconst 1, 1) := by decide +kernel
theorem dX9_step_8 : decode cX9_step 8 = .ok (.aload_n 0, 1) := by decide +kernel
theorem dX9_step_9 : decode cX9_step 9 = .ok (.getfield 7, 3) := by decide +kernel
theorem dX9_step_12 : decode cX9_step 12 = .ok (.iconst 0, 1) := by decide +kernel
theorem dX9_step_13 : decode cX9_step 13 = .ok (.iaload, 1) := by decide +kernel
theorem dX9_step_14 : decode cX9_step 14 = .ok (.i2l, 1) := by decide +kernel
theorem dX9_step_15 : decode cX9_step 15 = .ok (.invokestatic 52, 3) := by decide +kernel
theorem dX9_step_18 : decode cX9_step 18 = .ok (.ifCond .eq 16, 3) := by decide +kernel
theorem dX9_step_21 : decode cX9_step 21 = .ok (.aload_n 0, 1) := by decide +kernel
theorem dX9_step_22 : decode cX9_step 22 = .ok (.getfield 7, 3) := by decide +kernel
theorem dX9_step_25 : decode cX9_step 25 = .ok (.iconst 4, 1) := by decide +kernel
theorem dX9_step_26 : decode cX9_step 26 = .ok (.iload_n 1, 1) := by decide +kernel
theorem dX9_step_27 : decode cX9_step 27 = .ok (.iadd, 1) := by decide +kernel
theorem dX9_step_28 : decode cX9_step 28 = .ok (.iconst 1, 1) := by decide +kernel
theorem dX9_step_29 : decode cX9_step 29 = .ok (.isub, 1) := by decide +kernel
theorem dX9_step_30 : decode cX9_step 30 = .ok (.iaload, 1) := by decide +kernel
theorem dX9_step_31 : decode cX9_step 31 = .ok (.goto 5, 3) := by decide +kernel
theorem dX9_step_34 : decode cX9_step 34 = .ok (.bipush (-3), 2) := by decide +kernel
theorem dX9_step_36 : decode cX9_step 36 = .ok (.ireturn, 1) := by decide +kernel
def fX9_step (a1 : Int32) (o_road_f : Nat → Int32) : Int32 := xlet (if (fX9_in a1.toInt64 1 ((o_road_f 0).toInt64)) = 0 then (-3) else (o_road_f ((4 + a1) - 1).toNatClampNeg)) (fun y_1 => y_1)
set_option maxHeartbeats 4000000 in
set_option maxRecDepth 100000 in
theorem c_X9_step (l : Launch) (D : va_G) (cI cZ : ClassId) (sz : Nat) (o : Nat) (a1 : Int32) (o_road : Nat) (o_told : Nat) (o_fresh : Nat) (o_was : Nat) (o_acts : Int32) (o_kept : Nat) (o_isKept : Nat) (o_sights : Nat) (o_many : Int32) (o_text : Nat) (o_letters : Int32) (o_thrown : Int32) (o_cursor : Int32) (o_token : Int32) (o_start : Int32) (o_value : Int64) (o_isFault : Int32) (o_faultAt : Int32) (o_above : Int32) (o_below : Int32) (o_topOf : Nat) (o_partsOf : Nat) (o_sent : Nat) (o_road_f : Nat → Int32) (hn0 : 4 ≤ (o_road_f 0).toInt) (hn1 : (o_road_f 0).toInt ≤ 20) : Met l yX9_step wsX9_step ({ frames := 1, cells := 0, slots := 0, locals := 25 } : Room) (va_Pc [.ref o, .int a1] (xP D cI cZ [(o, .inr (9, [.ref o_road, .ref o_told, .ref o_fresh, .ref o_was, .int o_acts, .ref o_kept, .ref o_isKept, .ref o_sights, .int o_many, .ref o_text, .int o_letters, .int o_thrown, .int o_cursor, .int o_token, .int o_start, .long o_value, .int o_isFault, .int o_faultAt, .int o_above, .int o_below, .ref o_topOf, .ref o_partsOf, .ref o_sent])), (o_road, .inl (cI, 36, .inl o_road_f))] sz)) (va_Qi (fun (r : Int32) (u : Unit) => r = fX9_step a1 o_road_f) (fun (u : Unit) t => xB D cI cZ [(o, .inr (9, [.ref o_road, .ref o_told, .ref o_fresh, .ref o_was, .int o_acts, .ref o_kept, .ref o_isKept, .ref o_sights, .int o_many, .ref o_text, .int o_letters, .int 0, .int o_cursor, .int o_token, .int o_start, .long o_value, .int o_isFault, .int o_faultAt, .int o_above, .int o_below, .ref o_topOf, .ref o_partsOf, .ref o_sent])), (o_road, .inl (cI, 36, .inl o_road_f))] (va_A [(o, .inr (9, [.ref o_road, .ref o_told, .ref o_fresh, .ref o_was, .int o_acts, .ref o_kept, .ref o_isKept, .ref o_sights, .int o_many, .ref o_text, .int o_letters, .int o_thrown, .int o_cursor, .int o_token, .int o_start, .long o_value, .int o_isFault, .int o_faultAt, .int o_above, .int o_below, .ref o_topOf, .ref o_partsOf, .ref o_sent])), (o_road, .inl (cI, 36, .inl o_road_f))] sz) t) (va_A [(o, .inr (9, [.ref o_road, .ref o_told, .ref o_fresh, .ref o_was, .int o_acts, .ref o_kept, .ref o_isKept, .ref o_sights, .int o_many, .ref o_text, .int o_letters, .int o_thrown, .int o_cursor, .int o_token, .int o_start, .long o_value, .int o_isFault, .int o_faultAt, .int o_above, .int o_below, .ref o_topOf, .ref o_partsOf, .ref o_sent])), (o_road, .inl (cI, 36, .inl o_road_f))] sz)) 0 0 (va_A [(o, .inr (9, [.ref o_road, .ref o_told, .ref o_fresh, .ref o_was, .int o_acts, .ref o_kept, .ref o_isKept, .ref o_sights, .int o_many, .ref o_text, .int o_letters, .int o_thrown, .int o_cursor, .int o_token, .int o_start, .long o_value, .int o_isFault, .int o_faultAt, .int o_above, .int o_below, .ref o_topOf, .ref o_partsOf, .ref o_sent])), (o_road, .inl (cI, 36, .inl o_road_f))] sz) := by
  refine Met.ofW (cc := cX9_step) (maxL := 2) (ret := (some .int)) (by decide) rfl ?_
  intro p e s m args below meth c s₁ B hml hv
  obtain ⟨hargs, hsz, hP, hK, hD0, hE⟩ := hv
  subst hargs
  have hx := B.exec
  have hb := B.bytes
  have hr := B.returns
  have hts := atoms_spec (ws := wsX9_step) B.pre
  have hown : s.vm.findClass RX9 = some m.cls := findClass_of_methodNamed B.named
  have hlocks := B.notSynchronized
  subst hsz
  have hD := hD0.self (sz := s.heap.size)
  generalize hAe : va_A [(o, .inr (9, [.ref o_road, .ref o_told, .ref o_fresh, .ref o_was, .int o_acts, .ref o_kept, .ref o_isKept, .ref o_sights, .int o_many, .ref o_text, .int o_letters, .int o_thrown, .int o_cursor, .int o_token, .int o_start, .long o_value, .int o_isFault, .int o_faultAt, .int o_above, .int o_below, .ref o_topOf, .ref o_partsOf, .ref o_sent])), (o_road, .inl (cI, 36, .inl o_road_f))] s.heap.size = A at hD ⊢
  have hA : ∀ q : Nat, s.heap.size ≤ q → A q := fun q h => by rw [← hAe]; exact Or.inr h
  have hS : va_S A s.heap s.heap [] := va_S.rf
  have hl := lv_entry ([.ref o, .int a1]) (n := 2) (Nat.le_of_ble_eq_true rfl)
  rw [lg_entry_eq]
  generalize (lg_sl ([.ref o, .int a1]) ++ List.replicate (2 - (lg_sl ([.ref o, .int a1])).length) Slot.unset).toArray = ls at hl ⊢
  have hl : lv_has ls 2 [(0, .ref o), (1, .int a1)] := hl
  refine wq (X := fun Q => ∀ (pc : Nat) (H : Heap) (locs : List Loc) (ls : Array Slot) (r : Int32) (u : Unit) (hd : decode cX9_step pc = .ok (.ireturn, 1)) (hp : r = fX9_step a1 o_road_f) (hP : va_P D vwCl [(o, .inr (9, [.ref o_road, .ref o_told, .ref o_fresh, .ref o_was, .int o_acts, .ref o_kept, .ref o_isKept, .ref o_sights, .int o_many, .ref o_text, .int o_letters, .int 0, .int o_cursor, .int o_token, .int o_start, .long o_value, .int o_isFault, .int o_faultAt, .int o_above, .int o_below, .ref o_topOf, .ref o_partsOf, .ref o_sent])), (o_road, .inl (cI, 36, .inl o_road_f))] H) (hD : va_D A [(o, .inr (9, [.ref o_road, .ref o_told, .ref o_fresh, .ref o_was, .int o_acts, .ref o_kept, .ref o_isKept, .ref o_sights, .int o_many, .ref o_text, .int o_letters, .int 0, .int o_cursor, .int o_token, .int o_start, .long o_value, .int o_isFault, .int o_faultAt, .int o_above, .int o_below, .ref o_topOf, .ref o_partsOf, .ref o_sent])), (o_road, .inl (cI, 36, .inl o_road_f))]) (hS : va_S A s.heap H locs), W p l e ({ frames := 1, cells := 0, slots := 0, locals := 25 } : Room) s m ([.ref o, .int a1] : List Value).toArray below meth c H locs 0 0 Q (F0 m pc ls [.int r])) ?_ (fun Q hret => ?_)
  · intro pc H locs ls r u hd hp hP hD hS
    exact W.iret (v := r) hx hb hr (fun t ht hW => ⟨⟨r, u, rfl, hp, by rw [ht]; exact hP, va_K.moved hW.alike hK, hD⟩, hS.F ht⟩) hS.2.2 hd
  have hin_9 : ∀ w ∈ u_ws RX9 TX9 23, w ∈ wsX9_step := by decide +kernel
  have fl_7 := hts (.fieldLink RX9 7 "MileRoadModel" "road" "[I") (by decide +kernel)
  have fl_48 := hts (.fieldLink RX9 48 "MileRoadModel" "thrown" "I") (by decide +kernel)
  have zl_0 : (0 : Int32).toInt = 0 := by decide
  have zl_1 : (1 : Int32).toInt = 1 := by decide
  have zl_4 : (4 : Int32).toInt = 4 := by decide
  have hF : fX9_step a1 o_road_f = fX9_step a1 o_road_f := rfl
  refine lv_aload_n hx hb dX9_step_0 rfl (lv_at hl 0 rfl) ?_
  refine lv_iconst (v := 0) hx hb dX9_step_1 (by decide) ?_
  refine xput hx hb hts hown hK 9 (C2 := RX9) (T := TX9) (N := 23) tyX9 rfl tyX9_ok nmX9 hin_9 hP hD hS 0 rfl 11 (by decide) fl_48 rfl rfl rfl rfl rfl (Nat.le_of_ble_eq_true rfl) dX9_step_2 [(o, .inr (9, [.ref o_road, .ref o_told, .ref o_fresh, .ref o_was, .int o_acts, .ref o_kept, .ref o_isKept, .ref o_sights, .int o_many, .ref o_text, .int o_letters, .int 0, .int o_cursor, .int o_token, .int o_start, .long o_value, .int o_isFault, .int o_faultAt, .int o_above, .int o_below, .ref o_topOf, .ref o_partsOf, .ref o_sent])), (o_road, .inl (cI, 36, .inl o_road_f))] rfl (fun H locs hP hD hS => ?_)
  refine lv_iload_n hx hb dX9_step_5 rfl (lv_at hl 1 rfl) ?_
  refine lv_i2l (v := a1.toInt64) hx hb dX9_step_6 rfl ?_
  refine lv_lconst (v := 1) hx hb dX9_step_7 (by decide) ?_
  refine lv_aload_n hx hb dX9_step_8 rfl (lv_at hl 0 rfl) ?_
  refine xget hx hb hts hown hK 9 (C2 := RX9) (T := TX9) (N := 23) rfl hin_9 hP 0 rfl 0 (by decide) fl_7 rfl rfl rfl dX9_step_9 ?_
  refine lv_iconst (v := 0) hx hb dX9_step_12 (by decide) ?_
  refine xald hx hb hK hP 1 0 (k := 0) rfl rfl (vi (by decide) (by decide)) (by decide) dX9_step_13 ?_
  refine lv_i2l (v := (o_road_f 0).toInt64) hx hb dX9_step_14 rfl ?_
  refine xcalli (S := Unit) (Wc := []) (wr := [(o, .inr (9, [.ref o_road, .ref o_told, .ref o_fresh, .ref o_was, .int o_acts, .ref o_kept, .ref o_isKept, .ref o_sights, .int o_many, .ref o_text, .int o_letters, .int 0, .int o_cursor, .int o_token, .int o_start, .long o_value, .int o_isFault, .int o_faultAt, .int o_above, .int o_below, .ref o_topOf, .ref o_partsOf, .ref o_sent])), (o_road, .inl (cI, 36, .inl o_road_f))]) (W1 := (fun (u : Unit) => [])) (Wn := (fun (u : Unit) => [(o, .inr (9, [.ref o_road, .ref o_told, .ref o_fresh, .ref o_was, .int o_acts, .ref o_kept, .ref o_isKept, .ref o_sights, .int o_many, .ref o_text, .int o_letters, .int 0, .int o_cursor, .int o_token, .int o_start, .long o_value, .int o_isFault, .int o_faultAt, .int o_above, .int o_below, .ref o_topOf, .ref o_partsOf, .ref o_sent])), (o_road, .inl (cI, 36, .inl o_road_f))])) (xrunS hx hb hml hown hts (c_X9_in l D cI cZ _ a1.toInt64 1 ((o_road_f 0).toInt64) ) (va_cwS 3 hts gX9_step_X9_in rfl rfl rfl (by decide +kernel) ⟨Nat.le_of_ble_eq_true rfl, Nat.le_of_ble_eq_true rfl⟩) hE hK hP hD [] rfl rfl rfl hl.1 rfl (Nat.le_of_ble_eq_true rfl) dX9_step_15 ⟨Nat.le_of_ble_eq_true rfl, Nat.le_of_ble_eq_true rfl⟩) hP hD hS hA [] [0, 1] [0, 1] rfl rfl rfl (by decide) (fun _ => rfl) rfl (fun r1 u H locs hw hz hP hD hS => ?_)
  subst hw
  have K_y_1 : ∀ (y_1 : Int32) (hy_y_1 : (if (fX9_in a1.toInt64 1 ((o_road_f 0).toInt64)) = 0 then (-3) else (o_road_f ((4 + a1) - 1).toNatClampNeg)) = y_1) (H : Heap) (locs : List Loc) (hP : va_P D vwCl [(o, .inr (9, [.ref o_road, .ref o_told, .ref o_fresh, .ref o_was, .int o_acts, .ref o_kept, .ref o_isKept, .ref o_sights, .int o_many, .ref o_text, .int o_letters, .int 0, .int o_cursor, .int o_token, .int o_start, .long o_value, .int o_isFault, .int o_faultAt, .int o_above, .int o_below, .ref o_topOf, .ref o_partsOf, .ref o_sent])), (o_road, .inl (cI, 36, .inl o_road_f))] H) (hD : va_D A [(o, .inr (9, [.ref o_road, .ref o_told, .ref o_fresh, .ref o_was, .int o_acts, .ref o_kept, .ref o_isKept, .ref o_sights, .int o_many, .ref o_text, .int o_letters, .int 0, .int o_cursor, .int o_token, .int o_start, .long o_value, .int o_isFault, .int o_faultAt, .int o_above, .int o_below, .ref o_topOf, .ref o_partsOf, .ref o_sent])), (o_road, .inl (cI, 36, .inl o_road_f))]) (hS : va_S A s.heap H locs), W p l e ({ frames := 1, cells := 0, slots := 0, locals := 25 } : Room) s m ([.ref o, .int a1] : List Value).toArray below meth c H locs 0 0 Q (F0 m 36 ls [.int y_1]) := by
    intro y_1 hy_y_1 H locs hP hD hS
    have ky_y_1 : y_1 = (-3) ∨ y_1 = (o_road_f ((4 + a1) - 1).toNatClampNeg) := by rw [← hy_y_1]; (repeat' split) <;> simp
    exact hret _ _ _ _ y_1 () dX9_step_36 ((hF.trans (by simp only [fX9_step, xlet, ↓hy_y_1])).symm) hP hD hS
  refine lv_if_eq (tgt := 34) hx hb dX9_step_18 (by decide) (fun c_1 => ?_) (fun c_1 => ?_)
  · refine lv_bipush (v := (-3)) hx hb dX9_step_34 (by decide) ?_
    exact K_y_1 _ (by simp only [xlet, if_pos c_1]) _ _ hP hD hS
  · have kb_c_1 : 1 ≤ a1.toInt ∧ a1.toInt ≤ (o_road_f 0).toInt := in_b c_1 (by decide) (Int32.toInt_toInt64 _)
    refine lv_aload_n hx hb dX9_step_21 rfl (lv_at hl 0 rfl) ?_
    refine xget hx hb hts hown hK 9 (C2 := RX9) (T := TX9) (N := 23) rfl hin_9 hP 0 rfl 0 (by decide) fl_7 rfl rfl rfl dX9_step_22 ?_
    refine lv_iconst (v := 4) hx hb dX9_step_25 (by decide) ?_
    refine lv_iload_n hx hb dX9_step_26 rfl (lv_at hl 1 rfl) ?_
    refine lv_iadd hx hb dX9_step_27 ?_
    refine lv_iconst (v := 1) hx hb dX9_step_28 (by decide) ?_
    refine lv_isub hx hb dX9_step_29 ?_
    have z_1 : (4 + a1).toInt = (4 : Int32).toInt + a1.toInt := z_add (by omega) (by omega)
    have z_2 : ((4 + a1) - 1).toInt = (4 + a1).toInt - (1 : Int32).toInt := z_sub (by omega) (by omega)
    refine xald hx hb hK hP 1 0 (k := ((4 + a1) - 1).toNatClampNeg) rfl rfl (vi (by omega) (by omega)) rfl dX9_step_30 ?_
    refine lv_goto (tgt := 36) hx hb dX9_step_31 (by decide) ?_
    exact K_y_1 _ (by simp only [xlet, if_neg c_1]) _ _ hP hD hS
theorem dX9_keepAct_0 : decode cX9_keepAct 0 = .ok (.aload_n 0, 1) := by decide +kernel
theorem dX9_keepAct_1 : decode cX9_keepAct 1 = .ok (.getfield 131, 3) := by decide +kernel
theorem dX9_keepAct_4 : decode cX9_keepAct 4 = .ok (.bipush 8, 2) := by decide +kernel
theorem dX9_keepAct_6 : decode cX9_keepAct 6 = .ok (.if_icmp .ne 43, 3) := by decide +kernel
theorem dX9_keepAct_9 : decode cX9_keepAct 9 = .ok (.iconst 0, 1) := by decide +kernel
theorem dX9_keepAct_10 : decode cX9_keepAct 10 = .ok (.istore_n 1, 1) := by decide +kernel
theorem dX9_keepAct_11 : decode cX9_keepAct 11 = .ok (.iload_n 1, 1) := by decide +kernel
theorem dX9_keepAct_12 : decode cX9_keepAct 12 = .ok (.sipush 252, 3) := by decide +kernel
theorem dX9_keepAct_15 : decode cX9_keepAct 15 = .ok (.if_icmp .ge 24, 3) := by decide +kernel
theorem dX9_keepAct_18 : decode cX9_keepAct 18 = .ok (.aload_n 0, 1) := by decide +kernel
theorem dX9_keepAct_19 : decode cX9_keepAct 19 = .ok (.getfield 19, 3) := by decide +kernel
theorem dX9_keepAct_22 : decode cX9_keepAct 22 = .ok (.iload_n 1, 1) := by decide +kernel
theorem dX9_keepAct_23 : decode cX9_keepAct 23 = .ok (.aload_n 0, 1) := by decide +kernel
theorem dX9_keepAct_24 : decode cX9_keepAct 24 = .ok (.getfield 19, 3) := by decide +kernel
theorem dX9_keepAct_27 : decode cX9_keepAct 27 = .ok (.iload_n 1, 1) := by decide +kernel
theorem dX9_keepAct_28 : decode cX9_keepAct 28 = .ok (.bipush 36, 2) := by decide +kernel
theorem dX9_keepAct_30 : decode cX9_keepAct 30 = .ok (.iadd, 1) := by decide +kernel
theorem dX9_keepAct_31 : decode cX9_keepAct 31 = .ok (.iaload, 1) := by decide +kernel
theorem dX9_keepAct_32 : decode cX9_keepAct 32 = .ok (.iastore, 1) := by decide +kernel
theorem dX9_keepAct_33 : decode cX9_keepAct 33 = .ok (.iinc 1 1, 3) := by decide +kernel
theorem dX9_keepAct_36 : decode cX9_keepAct 36 = .ok (.goto (-25), 3) := by decide +kernel
theorem dX9_keepAct_39 : decode cX9_keepAct 39 = .ok (.aload_n 0, 1) := by decide +kernel
theorem dX9_keepAct_40 : decode cX9_keepAct 40 = .ok (.dup, 1) := by decide +kernel
theorem dX9_keepAct_41 : decode cX9_keepAct 41 = .ok (.getfield 131, 3) := by decide +kernel
theorem dX9_keepAct_44 : decode cX9_keepAct 44 = .ok (.iconst 1, 1) := by decide +kernel
theorem dX9_keepAct_45 : decode cX9_keepAct 45 = .ok (.isub, 1) := by decide +kernel
theorem dX9_keepAct_46 : decode cX9_keepAct 46 = .ok (.putfield 131, 3) := by decide +kernel
theorem dX9_keepAct_49 : decode cX9_keepAct 49 = .ok (.iconst 0, 1) := by decide +kernel
theorem dX9_keepAct_50 : decode cX9_keepAct 50 = .ok (.istore_n 1, 1) := by decide +kernel
theorem dX9_keepAct_51 : decode cX9_keepAct 51 = .ok (.iload_n 1, 1) := by decide +kernel
theorem dX9_keepAct_52 : decode cX9_keepAct 52 = .ok (.bipush 36, 2) := by decide +kernel
theorem dX9_keepAct_54 : decode cX9_keepAct 54 = .ok (.if_icmp .ge 29, 3) := by decide +kernel
theorem dX9_keepAct_57 : decode cX9_keepAct 57 = .ok (.aload_n 0, 1) := by decide +kernel
theorem dX9_keepAct_58 : decode cX9_keepAct 58 = .ok (.getfield 19, 3) := by decide +kernel
theorem dX9_keepAct_61 : decode cX9_keepAct 61 = .ok (.bipush 36, 2) := by decide +kernel
theorem dX9_keepAct_63 : decode cX9_keepAct 63 = .ok (.aload_n 0, 1) := by decide +kernel
theorem dX9_keepAct_64 : decode cX9_keepAct 64 = .ok (.getfield 131, 3) := by decide +kernel
theorem dX9_keepAct_67 : decode cX9_keepAct 67 = .ok (.imul, 1) := by decide +kernel
theorem dX9_keepAct_68 : decode cX9_keepAct 68 = .ok (.iload_n 1, 1) := by decide +kernel
theorem dX9_keepAct_69 : decode cX9_keepAct 69 = .ok (.iadd, 1) := by decide +kernel
theorem dX9_keepAct_70 : decode cX9_keepAct 70 = .ok (.aload_n 0, 1) := by decide +kernel
theorem dX9_keepAct_71 : decode cX9_keepAct 71 = .ok (.getfield 7, 3) := by decide +kernel
theorem dX9_keepAct_74 : decode cX9_keepAct 74 = .ok (.iload_n 1, 1) := by decide +kernel
theorem dX9_keepAct_75 : decode cX9_keepAct 75 = .ok (.iaload, 1) := by decide +kernel
theorem dX9_keepAct_76 : decode cX9_keepAct 76 = .ok (.iastore, 1) := by decide +kernel
theorem dX9_keepAct_77 : decode cX9_keepAct 77 = .ok (.iinc 1 1, 3) := by decide +kernel
theorem dX9_keepAct_80 : decode cX9_keepAct 80 = .ok (.goto (-29), 3) := by decide +kernel
theorem dX9_keepAct_83 : decode cX9_keepAct 83 = .ok (.aload_n 0, 1) := by decide +kernel
theorem dX9_keepAct_84 : decode cX9_keepAct 84 = .ok (.dup, 1) := by decide +kernel
theorem dX9_keepAct_85 : decode cX9_keepAct 85 = .ok (.getfield 131, 3) := by decide +kernel
theorem dX9_keepAct_88 : decode cX9_keepAct 88 = .ok (.iconst 1, 1) := by decide +kernel
theorem dX9_keepAct_89 : decode cX9_keepAct 89 = .ok (.iadd, 1) := by decide +kernel
theorem dX9_keepAct_90 : decode cX9_keepAct 90 = .ok (.putfield 131, 3) := by decide +kernel
theorem dX9_keepAct_93 : decode cX9_keepAct 93 = .ok (.return_, 1) := by decide +kernel
def fX9_keepAct_51 (o_road_f : Nat → Int32)  : Nat → (Nat → Int32) → Int32 → Int32 → Int32 × (Nat → Int32)
  | 0, _, _, _ => default
  | n + 1, o_was_f_51, v51_1, o_acts_51 => if 36 ≤ v51_1 then (((o_acts_51 + 1), o_was_f_51)) else (fX9_keepAct_51 o_road_f n (upd o_was_f_51 ((36 * o_acts_51) + v51_1).toNatClampNeg (o_road_f v51_1.toNatClampNeg)) (v51_1 + 1) o_acts_51)
def fX9_keepAct_11 (o_acts : Int32) (o_road_f : Nat → Int32)  : Nat → (Nat → Int32) → Int32 → Int32 × (Nat → Int32)
  | 0, _, _ => default
  | n + 1, o_was_f_11, v11_1 => if 252 ≤ v11_1 then (fX9_keepAct_51 o_road_f 1000 o_was_f_11 0 (o_acts - 1)) else (fX9_keepAct_11 o_acts o_road_f n (upd o_was_f_11 v11_1.toNatClampNeg (o_was_f_11 (v11_1 + 36).toNatClampNeg)) (v11_1 + 1))
def fX9_keepAct (o_acts : Int32) (o_was_f : Nat → Int32) (o_road_f : Nat → Int32) : Int32 × (Nat → Int32) := if o_acts = 8 then (fX9_keepAct_11 o_acts o_road_f 1000 o_was_f 0) else (fX9_keepAct_51 o_road_f 1000 o_was_f 0 o_acts)
set_option maxHeartbeats 4000000 in
set_option maxRecDepth 100000 in
theorem c_X9_keepAct (l : Launch) (D : va_G) (cI cZ : ClassId) (sz : Nat) (o : Nat) (o_road : Nat) (o_told : Nat) (o_fresh : Nat) (o_was : Nat) (o_acts : Int32) (o_kept : Nat) (o_isKept : Nat) (o_sights : Nat) (o_many : Int32) (o_text : Nat) (o_letters : Int32) (o_thrown : Int32) (o_cursor : Int32) (o_token : Int32) (o_start : Int32) (o_value : Int64) (o_isFault : Int32) (o_faultAt : Int32) (o_above : Int32) (o_below : Int32) (o_topOf : Nat) (o_partsOf : Nat) (o_sent : Nat) (o_was_f : Nat → Int32) (o_road_f : Nat → Int32) (hac0 : 0 ≤ o_acts.toInt) (hac8 : o_acts.toInt ≤ 8) : Met l yX9_keepAct wsX9_keepAct ({ frames := 0, cells := 0, slots := 0, locals := 0 } : Room) (va_Pc [.ref o] (xP D cI cZ [(o, .inr (9, [.ref o_road, .ref o_told, .ref o_fresh, .ref o_was, .int o_acts, .ref o_kept, .ref o_isKept, .ref o_sights, .int o_many, .ref o_text, .int o_letters, .int o_thrown, .int o_cursor, .int o_token, .int o_start, .long o_value, .int o_isFault, .int o_faultAt, .int o_above, .int o_below, .ref o_topOf, .ref o_partsOf, .ref o_sent])), (o_was, .inl (cI, 288, .inl o_was_f)), (o_road, .inl (cI, 36, .inl o_road_f))] sz)) (va_Qv (fun (u : Int32 × (Nat → Int32)) => u = fX9_keepAct o_acts o_was_f o_road_f) (fun (u : Int32 × (Nat → Int32)) t => xB D cI cZ [(o, .inr (9, [.ref o_road, .ref o_told, .ref o_fresh, .ref o_was, .int u.1, .ref o_kept, .ref o_isKept, .ref o_sights, .int o_many, .ref o_text, .int o_letters, .int o_thrown, .int o_cursor, .int o_token, .int o_start, .long o_value, .int o_isFault, .int o_faultAt, .int o_above, .int o_below, .ref o_topOf, .ref o_partsOf, .ref o_sent])), (o_was, .inl (cI, 288, .inl u.2)), (o_road, .inl (cI, 36, .inl o_road_f))] (va_A [(o, .inr (9, [.ref o_road, .ref o_told, .ref o_fresh, .ref o_was, .int o_acts, .ref o_kept, .ref o_isKept, .ref o_sights, .int o_many, .ref o_text, .int o_letters, .int o_thrown, .int o_cursor, .int o_token, .int o_start, .long o_value, .int o_isFault, .int o_faultAt, .int o_above, .int o_below, .ref o_topOf, .ref o_partsOf, .ref o_sent])), (o_was, .inl (cI, 288, .inl o_was_f)), (o_road, .inl (cI, 36, .inl o_road_f))] sz) t) (va_A [(o, .inr (9, [.ref o_road, .ref o_told, .ref o_fresh, .ref o_was, .int o_acts, .ref o_kept, .ref o_isKept, .ref o_sights, .int o_many, .ref o_text, .int o_letters, .int o_thrown, .int o_cursor, .int o_token, .int o_start, .long o_value, .int o_isFault, .int o_faultAt, .int o_above, .int o_below, .ref o_topOf, .ref o_partsOf, .ref o_sent])), (o_was, .inl (cI, 288, .inl o_was_f)), (o_road, .inl (cI, 36, .inl o_road_f))] sz)) 0 0 (va_A [(o, .inr (9, [.ref o_road, .ref o_told, .ref o_fresh, .ref o_was, .int o_acts, .ref o_kept, .ref o_isKept, .ref o_sights, .int o_many, .ref o_text, .int o_letters, .int o_thrown, .int o_cursor, .int o_token, .int o_start, .long o_value, .int o_isFault, .int o_faultAt, .int o_above, .int o_below, .ref o_topOf, .ref o_partsOf, .ref o_sent])), (o_was, .inl (cI, 288, .inl o_was_f)), (o_road, .inl (cI, 36, .inl o_road_f))] sz) := by
  refine Met.ofW (cc := cX9_keepAct) (maxL := 2) (ret := none) (by decide) rfl ?_
  intro p e s m args below meth c s₁ B hml hv
  obtain ⟨hargs, hsz, hP, hK, hD0, hE⟩ := hv
  subst hargs
  have hx := B.exec
  have hb := B.bytes
  have hr := B.returns
  have hts := atoms_spec (ws := wsX9_keepAct) B.pre
  have hown : s.vm.findClass RX9 = some m.cls := findClass_of_methodNamed B.named
  have hlocks := B.notSynchronized
  subst hsz
  have hD := hD0.self (sz := s.heap.size)
  generalize hAe : va_A [(o, .inr (9, [.ref o_road, .ref o_told, .ref o_fresh, .ref o_was, .int o_acts, .ref o_kept, .ref o_isKept, .ref o_sights, .int o_many, .ref o_text, .int o_letters, .int o_thrown, .int o_cursor, .int o_token, .int o_start, .long o_value, .int o_isFault, .int o_faultAt, .int o_above, .int o_below, .ref o_topOf, .ref o_partsOf, .ref o_sent])), (o_was, .inl (cI, 288, .inl o_was_f)), (o_road, .inl (cI, 36, .inl o_road_f))] s.heap.size = A at hD ⊢
  have hA : ∀ q : Nat, s.heap.size ≤ q → A q := fun q h => by rw [← hAe]; exact Or.inr h
  have hS : va_S A s.heap s.heap [] := va_S.rf
  have hl := lv_entry ([.ref o]) (n := 2) (Nat.le_of_ble_eq_true rfl)
  rw [lg_entry_eq]
  generalize (lg_sl ([.ref o]) ++ List.replicate (2 - (lg_sl ([.ref o])).length) Slot.unset).toArray = ls at hl ⊢
  have hl : lv_has ls 2 [(0, .ref o)] := hl
  refine wq (X := fun Q => ∀ (pc : Nat) (H : Heap) (locs : List Loc) (ls : Array Slot) (u : Int32 × (Nat → Int32)) (hd : decode cX9_keepAct pc = .ok (.return_, 1)) (hp : u = fX9_keepAct o_acts o_was_f o_road_f) (hP : va_P D vwCl [(o, .inr (9, [.ref o_road, .ref o_told, .ref o_fresh, .ref o_was, .int u.1, .ref o_kept, .ref o_isKept, .ref o_sights, .int o_many, .ref o_text, .int o_letters, .int o_thrown, .int o_cursor, .int o_token, .int o_start, .long o_value, .int o_isFault, .int o_faultAt, .int o_above, .int o_below, .ref o_topOf, .ref o_partsOf, .ref o_sent])), (o_was, .inl (cI, 288, .inl u.2)), (o_road, .inl (cI, 36, .inl o_road_f))] H) (hD : va_D A [(o, .inr (9, [.ref o_road, .ref o_told, .ref o_fresh, .ref o_was, .int u.1, .ref o_kept, .ref o_isKept, .ref o_sights, .int o_many, .ref o_text, .int o_letters, .int o_thrown, .int o_cursor, .int o_token, .int o_start, .long o_value, .int o_isFault, .int o_faultAt, .int o_above, .int o_below, .ref o_topOf, .ref o_partsOf, .ref o_sent])), (o_was, .inl (cI, 288, .inl u.2)), (o_road, .inl (cI, 36, .inl o_road_f))]) (hS : va_S A s.heap H locs), W p l e ({ frames := 0, cells := 0, slots := 0, locals := 0 } : Room) s m ([.ref o] : List Value).toArray below meth c H locs 0 0 Q (F0 m pc ls [])) ?_ (fun Q hret => ?_)
  · intro pc H locs ls u hd hp hP hD hS
    exact W.vret hx hb hr (fun t ht hW => ⟨⟨u, rfl, hp, by rw [ht]; exact hP, va_K.moved hW.alike hK, hD⟩, hS.F ht⟩) hS.2.2 hd
  have hin_9 : ∀ w ∈ u_ws RX9 TX9 23, w ∈ wsX9_keepAct := by decide +kernel
  have fl_7 := hts (.fieldLink RX9 7 "MileRoadModel" "road" "[I") (by decide +kernel)
  have fl_19 := hts (.fieldLink RX9 19 "MileRoadModel" "was" "[I") (by decide +kernel)
  have fl_131 := hts (.fieldLink RX9 131 "MileRoadModel" "acts" "I") (by decide +kernel)
  have zl_0 : (0 : Int32).toInt = 0 := by decide
  have zl_1 : (1 : Int32).toInt = 1 := by decide
  have zl_8 : (8 : Int32).toInt = 8 := by decide
  have zl_36 : (36 : Int32).toInt = 36 := by decide
  have zl_252 : (252 : Int32).toInt = 252 := by decide
  have hF : fX9_keepAct o_acts o_was_f o_road_f = fX9_keepAct o_acts o_was_f o_road_f := rfl
  have L_51 : ∀ (n : Nat) (o_was_f_51 : Nat → Int32) (v51_1 : Int32) (o_acts_51 : Int32) (h1_51 : 0 ≤ v51_1.toInt) (h2_51 : v51_1.toInt ≤ 36) (ha0 : 0 ≤ o_acts_51.toInt) (ha7 : o_acts_51.toInt ≤ 7) (hm : 36 - v51_1.toInt < (n : Int)) (H : Heap) (locs : List Loc) (ls : Array Slot) (hl : lv_has ls 2 [(0, .ref o), (1, .int v51_1)]) (hP : va_P D vwCl [(o, .inr (9, [.ref o_road, .ref o_told, .ref o_fresh, .ref o_was, .int o_acts_51, .ref o_kept, .ref o_isKept, .ref o_sights, .int o_many, .ref o_text, .int o_letters, .int o_thrown, .int o_cursor, .int o_token, .int o_start, .long o_value, .int o_isFault, .int o_faultAt, .int o_above, .int o_below, .ref o_topOf, .ref o_partsOf, .ref o_sent])), (o_was, .inl (cI, 288, .inl o_was_f_51)), (o_road, .inl (cI, 36, .inl o_road_f))] H) (hD : va_D A [(o, .inr (9, [.ref o_road, .ref o_told, .ref o_fresh, .ref o_was, .int o_acts_51, .ref o_kept, .ref o_isKept, .ref o_sights, .int o_many, .ref o_text, .int o_letters, .int o_thrown, .int o_cursor, .int o_token, .int o_start, .long o_value, .int o_isFault, .int o_faultAt, .int o_above, .int o_below, .ref o_topOf, .ref o_partsOf, .ref o_sent])), (o_was, .inl (cI, 288, .inl o_was_f_51)), (o_road, .inl (cI, 36, .inl o_road_f))]) (hS : va_S A s.heap H locs) (hF : fX9_keepAct o_acts o_was_f o_road_f = fX9_keepAct_51 o_road_f n o_was_f_51 v51_1 o_acts_51), W p l e ({ frames := 0, cells := 0, slots := 0, locals := 0 } : Room) s m ([.ref o] : List Value).toArray below meth c H locs 0 0 Q (F0 m 51 ls []) := by
    intro n
    induction n with
    | zero =>
      intro o_was_f_51 v51_1 o_acts_51 h1_51 h2_51 ha0 ha7 hm H locs ls hl hP hD hS hF
      exact absurd hm (by omega)
    | succ n ih_51 =>
      intro o_was_f_51 v51_1 o_acts_51 h1_51 h2_51 ha0 ha7 hm H locs ls hl hP hD hS hF
      refine lv_iload_n hx hb dX9_keepAct_51 rfl (lv_at hl 1 rfl) ?_
      refine lv_bipush (v := 36) hx hb dX9_keepAct_52 (by decide) ?_
      refine lv_icmp_ge (tgt := 83) hx hb dX9_keepAct_54 (by decide) (fun c_3 => ?_) (fun c_3 => ?_)
      · have kc_3 := t_le c_3
        refine lv_aload_n hx hb dX9_keepAct_83 rfl (lv_at hl 0 rfl) ?_
        refine lv_dup hx hb dX9_keepAct_84 rfl ?_
        refine xget hx hb hts hown hK 9 (C2 := RX9) (T := TX9) (N := 23) rfl hin_9 hP 0 rfl 4 (by decide) fl_131 rfl rfl rfl dX9_keepAct_85 ?_
        refine lv_iconst (v := 1) hx hb dX9_keepAct_88 (by decide) ?_
        refine lv_iadd hx hb dX9_keepAct_89 ?_
        refine xput hx hb hts hown hK 9 (C2 := RX9) (T := TX9) (N := 23) tyX9 rfl tyX9_ok nmX9 hin_9 hP hD hS 0 rfl 4 (by decide) fl_131 rfl rfl rfl rfl rfl (Nat.le_of_ble_eq_true rfl) dX9_keepAct_90 [(o, .inr (9, [.ref o_road, .ref o_told, .ref o_fresh, .ref o_was, .int (o_acts_51 + 1), .ref o_kept, .ref o_isKept, .ref o_sights, .int o_many, .ref o_text, .int o_letters, .int o_thrown, .int o_cursor, .int o_token, .int o_start, .long o_value, .int o_isFault, .int o_faultAt, .int o_above, .int o_below, .ref o_topOf, .ref o_partsOf, .ref o_sent])), (o_was, .inl (cI, 288, .inl o_was_f_51)), (o_road, .inl (cI, 36, .inl o_road_f))] rfl (fun H locs hP hD hS => ?_)
        exact hret _ _ _ _ ((o_acts_51 + 1), o_was_f_51) dX9_keepAct_93 ((hF.trans (by simp only [fX9_keepAct_51, xlet, if_pos c_3])).symm) hP hD hS
      · have kc_3 := t_nle c_3
        refine lv_aload_n hx hb dX9_keepAct_57 rfl (lv_at hl 0 rfl) ?_
        refine xget hx hb hts hown hK 9 (C2 := RX9) (T := TX9) (N := 23) rfl hin_9 hP 0 rfl 3 (by decide) fl_19 rfl rfl rfl dX9_keepAct_58 ?_
        refine lv_bipush (v := 36) hx hb dX9_keepAct_61 (by decide) ?_
        refine lv_aload_n hx hb dX9_keepAct_63 rfl (lv_at hl 0 rfl) ?_
        refine xget hx hb hts hown hK 9 (C2 := RX9) (T := TX9) (N := 23) rfl hin_9 hP 0 rfl 4 (by decide) fl_131 rfl rfl rfl dX9_keepAct_64 ?_
        refine lv_imul hx hb dX9_keepAct_67 ?_
        refine lv_iload_n hx hb dX9_keepAct_68 rfl (lv_at hl 1 rfl) ?_
        refine lv_iadd hx hb dX9_keepAct_69 ?_
        refine lv_aload_n hx hb dX9_keepAct_70 rfl (lv_at hl 0 rfl) ?_
        refine xget hx hb hts hown hK 9 (C2 := RX9) (T := TX9) (N := 23) rfl hin_9 hP 0 rfl 0 (by decide) fl_7 rfl rfl rfl dX9_keepAct_71 ?_
        refine lv_iload_n hx hb dX9_keepAct_74 rfl (lv_at hl 1 rfl) ?_
        refine xald hx hb hK hP 2 0 (k := v51_1.toNatClampNeg) rfl rfl (vi (by omega) (by omega)) rfl dX9_keepAct_75 ?_
        have z_4 : (36 * o_acts_51).toInt = 36 * o_acts_51.toInt := z_mul 36 rfl (by omega) (by omega)
        have z_5 : ((36 * o_acts_51) + v51_1).toInt = (36 * o_acts_51).toInt + v51_1.toInt := z_add (by omega) (by omega)
        refine xast hx hb hK hP hD hS 1 0 (k := ((36 * o_acts_51) + v51_1).toNatClampNeg) rfl rfl (vi (by omega) (by omega)) rfl dX9_keepAct_76 [(o, .inr (9, [.ref o_road, .ref o_told, .ref o_fresh, .ref o_was, .int o_acts_51, .ref o_kept, .ref o_isKept, .ref o_sights, .int o_many, .ref o_text, .int o_letters, .int o_thrown, .int o_cursor, .int o_token, .int o_start, .long o_value, .int o_isFault, .int o_faultAt, .int o_above, .int o_below, .ref o_topOf, .ref o_partsOf, .ref o_sent])), (o_was, .inl (cI, 288, .inl (upd o_was_f_51 ((36 * o_acts_51) + v51_1).toNatClampNeg (o_road_f v51_1.toNatClampNeg)))), (o_road, .inl (cI, 36, .inl o_road_f))] rfl (fun H locs hP hD hS => ?_)
        refine lv_iinc (v := (v51_1 + 1)) (lv' := [(1, .int (v51_1 + 1)), (0, .ref o)]) hx hb dX9_keepAct_77 hl (k := 1) rfl (by rfl) (by decide) rfl (fun ls hl => ?_)
        refine lv_goto (tgt := 51) hx hb dX9_keepAct_80 (by decide) ?_
        have z_6 : (v51_1 + 1).toInt = v51_1.toInt + (1 : Int32).toInt := z_add (by omega) (by omega)
        exact ih_51 (upd o_was_f_51 ((36 * o_acts_51) + v51_1).toNatClampNeg (o_road_f v51_1.toNatClampNeg)) (v51_1 + 1) o_acts_51 (by first | assumption | omega | decide | (split <;> rename_i hh <;> first | (have h9 := t_nlt hh; omega) | (have h9 := t_lt hh; omega) | (have h9 := t_nle hh; omega) | (have h9 := t_le hh; omega))) (by first | assumption | omega | decide | (split <;> rename_i hh <;> first | (have h9 := t_nlt hh; omega) | (have h9 := t_lt hh; omega) | (have h9 := t_nle hh; omega) | (have h9 := t_le hh; omega))) (by first | assumption | omega | decide | (split <;> rename_i hh <;> first | (have h9 := t_nlt hh; omega) | (have h9 := t_lt hh; omega) | (have h9 := t_nle hh; omega) | (have h9 := t_le hh; omega))) (by first | assumption | omega | decide | (split <;> rename_i hh <;> first | (have h9 := t_nlt hh; omega) | (have h9 := t_lt hh; omega) | (have h9 := t_nle hh; omega) | (have h9 := t_le hh; omega))) (by first | assumption | omega | decide | (split <;> rename_i hh <;> first | (have h9 := t_nlt hh; omega) | (have h9 := t_lt hh; omega) | (have h9 := t_nle hh; omega) | (have h9 := t_le hh; omega))) _ _ _ (lv_sub hl [1, 0] rfl) hP hD hS (hF.trans (by simp only [fX9_keepAct_51, xlet, if_neg c_3]))
  have L_11 : ∀ (n : Nat) (o_was_f_11 : Nat → Int32) (v11_1 : Int32) (h1_11 : 0 ≤ v11_1.toInt) (h2_11 : v11_1.toInt ≤ 252) (h8 : o_acts.toInt = 8) (hm : 252 - v11_1.toInt < (n : Int)) (H : Heap) (locs : List Loc) (ls : Array Slot) (hl : lv_has ls 2 [(0, .ref o), (1, .int v11_1)]) (hP : va_P D vwCl [(o, .inr (9, [.ref o_road, .ref o_told, .ref o_fresh, .ref o_was, .int o_acts, .ref o_kept, .ref o_isKept, .ref o_sights, .int o_many, .ref o_text, .int o_letters, .int o_thrown, .int o_cursor, .int o_token, .int o_start, .long o_value, .int o_isFault, .int o_faultAt, .int o_above, .int o_below, .ref o_topOf, .ref o_partsOf, .ref o_sent])), (o_was, .inl (cI, 288, .inl o_was_f_11)), (o_road, .inl (cI, 36, .inl o_road_f))] H) (hD : va_D A [(o, .inr (9, [.ref o_road, .ref o_told, .ref o_fresh, .ref o_was, .int o_acts, .ref o_kept, .ref o_isKept, .ref o_sights, .int o_many, .ref o_text, .int o_letters, .int o_thrown, .int o_cursor, .int o_token, .int o_start, .long o_value, .int o_isFault, .int o_faultAt, .int o_above, .int o_below, .ref o_topOf, .ref o_partsOf, .ref o_sent])), (o_was, .inl (cI, 288, .inl o_was_f_11)), (o_road, .inl (cI, 36, .inl o_road_f))]) (hS : va_S A s.heap H locs) (hF : fX9_keepAct o_acts o_was_f o_road_f = fX9_keepAct_11 o_acts o_road_f n o_was_f_11 v11_1), W p l e ({ frames := 0, cells := 0, slots := 0, locals := 0 } : Room) s m ([.ref o] : List Value).toArray below meth c H locs 0 0 Q (F0 m 11 ls []) := by
    intro n
    induction n with
    | zero =>
      intro o_was_f_11 v11_1 h1_11 h2_11 h8 hm H locs ls hl hP hD hS hF
      exact absurd hm (by omega)
    | succ n ih_11 =>
      intro o_was_f_11 v11_1 h1_11 h2_11 h8 hm H locs ls hl hP hD hS hF
      refine lv_iload_n hx hb dX9_keepAct_11 rfl (lv_at hl 1 rfl) ?_
      refine lv_sipush (v := 252) hx hb dX9_keepAct_12 (by decide) ?_
      refine lv_icmp_ge (tgt := 39) hx hb dX9_keepAct_15 (by decide) (fun c_2 => ?_) (fun c_2 => ?_)
      · have kc_2 := t_le c_2
        refine lv_aload_n hx hb dX9_keepAct_39 rfl (lv_at hl 0 rfl) ?_
        refine lv_dup hx hb dX9_keepAct_40 rfl ?_
        refine xget hx hb hts hown hK 9 (C2 := RX9) (T := TX9) (N := 23) rfl hin_9 hP 0 rfl 4 (by decide) fl_131 rfl rfl rfl dX9_keepAct_41 ?_
        refine lv_iconst (v := 1) hx hb dX9_keepAct_44 (by decide) ?_
        refine lv_isub hx hb dX9_keepAct_45 ?_
        refine xput hx hb hts hown hK 9 (C2 := RX9) (T := TX9) (N := 23) tyX9 rfl tyX9_ok nmX9 hin_9 hP hD hS 0 rfl 4 (by decide) fl_131 rfl rfl rfl rfl rfl (Nat.le_of_ble_eq_true rfl) dX9_keepAct_46 [(o, .inr (9, [.ref o_road, .ref o_told, .ref o_fresh, .ref o_was, .int (o_acts - 1), .ref o_kept, .ref o_isKept, .ref o_sights, .int o_many, .ref o_text, .int o_letters, .int o_thrown, .int o_cursor, .int o_token, .int o_start, .long o_value, .int o_isFault, .int o_faultAt, .int o_above, .int o_below, .ref o_topOf, .ref o_partsOf, .ref o_sent])), (o_was, .inl (cI, 288, .inl o_was_f_11)), (o_road, .inl (cI, 36, .inl o_road_f))] rfl (fun H locs hP hD hS => ?_)
        refine lv_iconst (v := 0) hx hb dX9_keepAct_49 (by decide) ?_
        refine lv_istore_n (lv' := [(1, .int 0), (0, .ref o)]) hx hb dX9_keepAct_50 rfl hl (by decide) rfl (fun ls hl => ?_)
        have z_1 : (o_acts - 1).toInt = o_acts.toInt - (1 : Int32).toInt := z_sub (by omega) (by omega)
        exact L_51 1000 o_was_f_11 0 (o_acts - 1) (by first | assumption | omega | decide | (split <;> rename_i hh <;> first | (have h9 := t_nlt hh; omega) | (have h9 := t_lt hh; omega) | (have h9 := t_nle hh; omega) | (have h9 := t_le hh; omega))) (by first | assumption | omega | decide | (split <;> rename_i hh <;> first | (have h9 := t_nlt hh; omega) | (have h9 := t_lt hh; omega) | (have h9 := t_nle hh; omega) | (have h9 := t_le hh; omega))) (by first | assumption | omega | decide | (split <;> rename_i hh <;> first | (have h9 := t_nlt hh; omega) | (have h9 := t_lt hh; omega) | (have h9 := t_nle hh; omega) | (have h9 := t_le hh; omega))) (by first | assumption | omega | decide | (split <;> rename_i hh <;> first | (have h9 := t_nlt hh; omega) | (have h9 := t_lt hh; omega) | (have h9 := t_nle hh; omega) | (have h9 := t_le hh; omega))) (by first | assumption | omega | decide | (split <;> rename_i hh <;> first | (have h9 := t_nlt hh; omega) | (have h9 := t_lt hh; omega) | (have h9 := t_nle hh; omega) | (have h9 := t_le hh; omega))) _ _ _ (lv_sub hl [1, 0] rfl) hP hD hS (hF.trans (by simp only [fX9_keepAct_11, xlet, if_pos c_2]))
      · have kc_2 := t_nle c_2
        refine lv_aload_n hx hb dX9_keepAct_18 rfl (lv_at hl 0 rfl) ?_
        refine xget hx hb hts hown hK 9 (C2 := RX9) (T := TX9) (N := 23) rfl hin_9 hP 0 rfl 3 (by decide) fl_19 rfl rfl rfl dX9_keepAct_19 ?_
        refine lv_iload_n hx hb dX9_keepAct_22 rfl (lv_at hl 1 rfl) ?_
        refine lv_aload_n hx hb dX9_keepAct_23 rfl (lv_at hl 0 rfl) ?_
        refine xget hx hb hts hown hK 9 (C2 := RX9) (T := TX9) (N := 23) rfl hin_9 hP 0 rfl 3 (by decide) fl_19 rfl rfl rfl dX9_keepAct_24 ?_
        refine lv_iload_n hx hb dX9_keepAct_27 rfl (lv_at hl 1 rfl) ?_
        refine lv_bipush (v := 36) hx hb dX9_keepAct_28 (by decide) ?_
        refine lv_iadd hx hb dX9_keepAct_30 ?_
        have z_2 : (v11_1 + 36).toInt = v11_1.toInt + (36 : Int32).toInt := z_add (by omega) (by omega)
        refine xald hx hb hK hP 1 0 (k := (v11_1 + 36).toNatClampNeg) rfl rfl (vi (by omega) (by omega)) rfl dX9_keepAct_31 ?_
        refine xast hx hb hK hP hD hS 1 0 (k := v11_1.toNatClampNeg) rfl rfl (vi (by omega) (by omega)) rfl dX9_keepAct_32 [(o, .inr (9, [.ref o_road, .ref o_told, .ref o_fresh, .ref o_was, .int o_acts, .ref o_kept, .ref o_isKept, .ref o_sights, .int o_many, .ref o_text, .int o_letters, .int o_thrown, .int o_cursor, .int o_token, .int o_start, .long o_value, .int o_isFault, .int o_faultAt, .int o_above, .int o_below, .ref o_topOf, .ref o_partsOf, .ref o_sent])), (o_was, .inl (cI, 288, .inl (upd o_was_f_11 v11_1.toNatClampNeg (o_was_f_11 (v11_1 + 36).toNatClampNeg)))), (o_road, .inl (cI, 36, .inl o_road_f))] rfl (fun H locs hP hD hS => ?_)
        refine lv_iinc (v := (v11_1 + 1)) (lv' := [(1, .int (v11_1 + 1)), (0, .ref o)]) hx hb dX9_keepAct_33 hl (k := 1) rfl (by rfl) (by decide) rfl (fun ls hl => ?_)
        refine lv_goto (tgt := 11) hx hb dX9_keepAct_36 (by decide) ?_
        have z_3 : (v11_1 + 1).toInt = v11_1.toInt + (1 : Int32).toInt := z_add (by omega) (by omega)
        exact ih_11 (upd o_was_f_11 v11_1.toNatClampNeg (o_was_f_11 (v11_1 + 36).toNatClampNeg)) (v11_1 + 1) (by first | assumption | omega | decide | (split <;> rename_i hh <;> first | (have h9 := t_nlt hh; omega) | (have h9 := t_lt hh; omega) | (have h9 := t_nle hh; omega) | (have h9 := t_le hh; omega))) (by first | assumption | omega | decide | (split <;> rename_i hh <;> first | (have h9 := t_nlt hh; omega) | (have h9 := t_lt hh; omega) | (have h9 := t_nle hh; omega) | (have h9 := t_le hh; omega))) (by first | assumption | omega | decide | (split <;> rename_i hh <;> first | (have h9 := t_nlt hh; omega) | (have h9 := t_lt hh; omega) | (have h9 := t_nle hh; omega) | (have h9 := t_le hh; omega))) (by first | assumption | omega | decide | (split <;> rename_i hh <;> first | (have h9 := t_nlt hh; omega) | (have h9 := t_lt hh; omega) | (have h9 := t_nle hh; omega) | (have h9 := t_le hh; omega))) _ _ _ (lv_sub hl [1, 0] rfl) hP hD hS (hF.trans (by simp only [fX9_keepAct_11, xlet, if_neg c_2]))
  refine lv_aload_n hx hb dX9_keepAct_0 rfl (lv_at hl 0 rfl) ?_
  refine xget hx hb hts hown hK 9 (C2 := RX9) (T := TX9) (N := 23) rfl hin_9 hP 0 rfl 4 (by decide) fl_131 rfl rfl rfl dX9_keepAct_1 ?_
  refine lv_bipush (v := 8) hx hb dX9_keepAct_4 (by decide) ?_
  refine lv_icmp_ne (tgt := 49) hx hb dX9_keepAct_6 (by decide) (fun c_1 => ?_) (fun c_1 => ?_)
  · have kc_1 := t_neq c_1
    refine lv_iconst (v := 0) hx hb dX9_keepAct_49 (by decide) ?_
    refine lv_istore_n (lv' := [(1, .int 0), (0, .ref o)]) hx hb dX9_keepAct_50 rfl hl (by decide) rfl (fun ls hl => ?_)
    exact L_51 1000 o_was_f 0 o_acts (by first | assumption | omega | decide | (split <;> rename_i hh <;> first | (have h9 := t_nlt hh; omega) | (have h9 := t_lt hh; omega) | (have h9 := t_nle hh; omega) | (have h9 := t_le hh; omega))) (by first | assumption | omega | decide | (split <;> rename_i hh <;> first | (have h9 := t_nlt hh; omega) | (have h9 := t_lt hh; omega) | (have h9 := t_nle hh; omega) | (have h9 := t_le hh; omega))) (by first | assumption | omega | decide | (split <;> rename_i hh <;> first | (have h9 := t_nlt hh; omega) | (have h9 := t_lt hh; omega) | (have h9 := t_nle hh; omega) | (have h9 := t_le hh; omega))) (by first | assumption | omega | decide | (split <;> rename_i hh <;> first | (have h9 := t_nlt hh; omega) | (have h9 := t_lt hh; omega) | (have h9 := t_nle hh; omega) | (have h9 := t_le hh; omega))) (by first | assumption | omega | decide | (split <;> rename_i hh <;> first | (have h9 := t_nlt hh; omega) | (have h9 := t_lt hh; omega) | (have h9 := t_nle hh; omega) | (have h9 := t_le hh; omega))) _ _ _ (lv_sub hl [1, 0] rfl) hP hD hS (hF.trans (by simp only [fX9_keepAct, xlet, if_neg c_1]))
  · have kc_1 := t_eq c_1
    refine lv_iconst (v := 0) hx hb dX9_keepAct_9 (by decide) ?_
    refine lv_istore_n (lv' := [(1, .int 0), (0, .ref o)]) hx hb dX9_keepAct_10 rfl hl (by decide) rfl (fun ls hl => ?_)
    exact L_11 1000 o_was_f 0 (by first | assumption | omega | decide | (split <;> rename_i hh <;> first | (have h9 := t_nlt hh; omega) | (have h9 := t_lt hh; omega) | (have h9 := t_nle hh; omega) | (have h9 := t_le hh; omega))) (by first | assumption | omega | decide | (split <;> rename_i hh <;> first | (have h9 := t_nlt hh; omega) | (have h9 := t_lt hh; omega) | (have h9 := t_nle hh; omega) | (have h9 := t_le hh; omega))) (by first | assumption | omega | decide | (split <;> rename_i hh <;> first | (have h9 := t_nlt hh; omega) | (have h9 := t_lt hh; omega) | (have h9 := t_nle hh; omega) | (have h9 := t_le hh; omega))) (by first | assumption | omega | decide | (split <;> rename_i hh <;> first | (have h9 := t_nlt hh; omega) | (have h9 := t_lt hh; omega) | (have h9 := t_nle hh; omega) | (have h9 := t_le hh; omega))) _ _ _ (lv_sub hl [1, 0] rfl) hP hD hS (hF.trans (by simp only [fX9_keepAct, xlet, if_pos c_1]))
set_option maxRecDepth 20000 in
theorem ggX9_walks_X9_isWalker : GoodIn wsX9_walks wsX9_isWalker := goodIn_r _ [7, 2, 8, 9, 6, 10, 17, 18, 19, 20, 21, 22, 23, 24, 25, 26, 27, 28, 29, 30, 31, 32, 33, 34, 35, 36, 37, 38, 39] (by decide +kernel) (by decide +kernel)
set_option maxRecDepth 20000 in
theorem gX9_walks_X9_isWalker : GoodIn wsX9_walks (wsV RX9 142 RX9 yX9_isWalker wsX9_isWalker) := goodIn_app (goodIn_of _ (by decide +kernel)) ggX9_walks_X9_isWalker
set_option maxRecDepth 20000 in
theorem ggX9_walks_X9_in : GoodIn wsX9_walks wsX9_in := goodIn_r _ [10] (by decide +kernel) (by decide +kernel)
set_option maxRecDepth 20000 in
theorem gX9_walks_X9_in : GoodIn wsX9_walks (va_wsS RX9 52 yX9_in wsX9_in) := goodIn_app (goodIn_of _ (by decide +kernel)) ggX9_walks_X9_in
set_option maxRecDepth 20000 in
theorem ggX9_walks_X9_keepAct : GoodIn wsX9_walks wsX9_keepAct := goodIn_r _ [14, 15, 16, 2, 17, 18, 19, 20, 21, 22, 23, 24, 25, 26, 27, 28, 29, 30, 31, 32, 33, 34, 35, 36, 37, 38, 39] (by decide +kernel) (by decide +kernel)
set_option maxRecDepth 20000 in
theorem gX9_walks_X9_keepAct : GoodIn wsX9_walks (wsV RX9 154 RX9 yX9_keepAct wsX9_keepAct) := goodIn_app (goodIn_of _ (by decide +kernel)) ggX9_walks_X9_keepAct
theorem dX9_walks_0 : decode cX9_walks 0 = .ok (.aload_n 0, 1) := by decide +kernel
theorem dX9_walks_1 : decode cX9_walks 1 = .ok (.iconst 0, 1) := by decide +kernel
theorem dX9_walks_2 : decode cX9_walks 2 = .ok (.putfield 48, 3) := by decide +kernel
theorem dX9_walks_5 : decode cX9_walks 5 = .ok (.aload_n 0, 1) := by decide +kernel
theorem dX9_walks_6 : decode cX9_walks 6 = .ok (.iload_n 1, 1) := by decide +kernel
theorem dX9_walks_7 : decode cX9_walks 7 = .ok (.invokevirtual 142, 3) := by decide +kernel
theorem dX9_walks_10 : decode cX9_walks 10 = .ok (.ifCond .ne 6, 3) := by decide +kernel
theorem dX9_walks_13 : decode cX9_walks 13 = .ok (.bipush (-2), 2) := by decide +kernel
theorem dX9_walks_15 : decode cX9_walks 15 = .ok (.ireturn, 1) := by decide +kernel
theorem dX9_walks_16 : decode cX9_walks 16 = .ok (.iload_n 2, 1) := by decide +kernel
theorem dX9_walks_17 : decode cX9_walks 17 = .ok (.i2l, 1) := by decide +kernel
theorem dX9_walks_18 : decode cX9_walks 18 = .ok (.lconst 0, 1) := by decide +kernel
theorem dX9_walks_19 : decode cX9_walks 19 = .ok (.lconst 1, 1) := by decide +kernel
theorem dX9_walks_20 : decode cX9_walks 20 = .ok (.invokestatic 52, 3) := by decide +kernel
theorem dX9_walks_23 : decode cX9_walks 23 = .ok (.ifCond .ne 6, 3) := by decide +kernel
theorem dX9_walks_26 : decode cX9_walks 26 = .ok (.bipush (-3), 2) := by decide +kernel
theorem dX9_walks_28 : decode cX9_walks 28 = .ok (.ireturn, 1) := by decide +kernel
theorem dX9_walks_29 : decode cX9_walks 29 = .ok (.aload_n 0, 1) := by decide +kernel
theorem dX9_walks_30 : decode cX9_walks 30 = .ok (.invokevirtual 154, 3) := by decide +kernel
theorem dX9_walks_33 : decode cX9_walks 33 = .ok (.aload_n 0, 1) := by decide +kernel
theorem dX9_walks_34 : decode cX9_walks 34 = .ok (.getfield 7, 3) := by decide +kernel
theorem dX9_walks_37 : decode cX9_walks 37 = .ok (.iconst 3, 1) := by decide +kernel
theorem dX9_walks_38 : decode cX9_walks 38 = .ok (.iaload, 1) := by decide +kernel
theorem dX9_walks_39 : decode cX9_walks 39 = .ok (.iload_n 1, 1) := by decide +kernel
theorem dX9_walks_40 : decode cX9_walks 40 = .ok (.ishr, 1) := by decide +kernel
theorem dX9_walks_41 : decode cX9_walks 41 = .ok (.iconst 1, 1) := by decide +kernel
theorem dX9_walks_42 : decode cX9_walks 42 = .ok (.iand, 1) := by decide +kernel
theorem dX9_walks_43 : decode cX9_walks 43 = .ok (.istore_n 3, 1) := by decide +kernel
theorem dX9_walks_44 : decode cX9_walks 44 = .ok (.aload_n 0, 1) := by decide +kernel
theorem dX9_walks_45 : decode cX9_walks 45 = .ok (.getfield 7, 3) := by decide +kernel
theorem dX9_walks_48 : decode cX9_walks 48 = .ok (.iconst 3, 1) := by decide +kernel
theorem dX9_walks_49 : decode cX9_walks 49 = .ok (.aload_n 0, 1) := by decide +kernel
theorem dX9_walks_50 : decode cX9_walks 50 = .ok (.getfield 7, 3) := by decide +kernel
theorem dX9_walks_53 : decode cX9_walks 53 = .ok (.iconst 3, 1) := by decide +kernel
theorem dX9_walks_54 : decode cX9_walks 54 = .ok (.iaload, 1) := by decide +kernel
theorem dX9_walks_55 : decode cX9_walks 55 = .ok (.iconst 1, 1) := by decide +kernel
theorem dX9_walks_56 : decode cX9_walks 56 = .ok (.iload_n 1, 1) := by decide +kernel
theorem dX9_walks_57 : decode cX9_walks 57 = .ok (.ishl, 1) := by decide +kernel
theorem dX9_walks_58 : decode cX9_walks 58 = .ok (.iconst (-1), 1) := by decide +kernel
theorem dX9_walks_59 : decode cX9_walks 59 = .ok (.ixor, 1) := by decide +kernel
theorem dX9_walks_60 : decode cX9_walks 60 = .ok (.iand, 1) := by decide +kernel
theorem dX9_walks_61 : decode cX9_walks 61 = .ok (.iload_n 2, 1) := by decide +kernel
theorem dX9_walks_62 : decode cX9_walks 62 = .ok (.iload_n 1, 1) := by decide +kernel
theorem dX9_walks_63 : decode cX9_walks 63 = .ok (.ishl, 1) := by decide +kernel
theorem dX9_walks_64 : decode cX9_walks 64 = .ok (.ior, 1) := by decide +kernel
theorem dX9_walks_65 : decode cX9_walks 65 = .ok (.iastore, 1) := by decide +kernel
theorem dX9_walks_66 : decode cX9_walks 66 = .ok (.iload_n 3, 1) := by decide +kernel
theorem dX9_walks_67 : decode cX9_walks 67 = .ok (.ireturn, 1) := by decide +kernel
def fX9_walks (a1 : Int32) (a2 : Int32) (o_acts : Int32) (o_road_f : Nat → Int32) (o_was_f : Nat → Int32) : Int32 × Int32 × (Nat → Int32) × (Nat → Int32) := if (fX9_isWalker a1 o_road_f) = 0 then (((-2), o_acts, o_road_f, o_was_f)) else (if (fX9_in a2.toInt64 0 1) = 0 then (((-3), o_acts, o_road_f, o_was_f)) else (match fX9_keepAct o_acts o_was_f o_road_f with | (u3, u4) => ((((o_road_f 3) >>> (a1 &&& 31)) &&& 1), u3, (upd o_road_f 3 (((o_road_f 3) &&& (((1 : Int32) <<< (a1 &&& 31)) ^^^ (-1))) ||| (a2 <<< (a1 &&& 31)))), u4)))
set_option maxHeartbeats 4000000 in
set_option maxRecDepth 100000 in
theorem c_X9_walks (l : Launch) (D : va_G) (cI cZ : ClassId) (sz : Nat) (o : Nat) (a1 : Int32) (a2 : Int32) (o_road : Nat) (o_told : Nat) (o_fresh : Nat) (o_was : Nat) (o_acts : Int32) (o_kept : Nat) (o_isKept : Nat) (o_sights : Nat) (o_many : Int32) (o_text : Nat) (o_letters : Int32) (o_thrown : Int32) (o_cursor : Int32) (o_token : Int32) (o_start : Int32) (o_value : Int64) (o_isFault : Int32) (o_faultAt : Int32) (o_above : Int32) (o_below : Int32) (o_topOf : Nat) (o_partsOf : Nat) (o_sent : Nat) (o_road_f : Nat → Int32) (o_was_f : Nat → Int32) (hv0 : 0 ≤ (o_road_f 2).toInt) (hv6 : (o_road_f 2).toInt ≤ 6) (hac0 : 0 ≤ o_acts.toInt) (hac8 : o_acts.toInt ≤ 8) : Met l yX9_walks wsX9_walks ({ frames := 2, cells := 0, slots := 0, locals := 46 } : Room) (va_Pc [.ref o, .int a1, .int a2] (xP D cI cZ [(o, .inr (9, [.ref o_road, .ref o_told, .ref o_fresh, .ref o_was, .int o_acts, .ref o_kept, .ref o_isKept, .ref o_sights, .int o_many, .ref o_text, .int o_letters, .int o_thrown, .int o_cursor, .int o_token, .int o_start, .long o_value, .int o_isFault, .int o_faultAt, .int o_above, .int o_below, .ref o_topOf, .ref o_partsOf, .ref o_sent])), (o_road, .inl (cI, 36, .inl o_road_f)), (o_was, .inl (cI, 288, .inl o_was_f))] sz)) (va_Qi (fun (r : Int32) (u : Int32 × (Nat → Int32) × (Nat → Int32)) => (r, u) = fX9_walks a1 a2 o_acts o_road_f o_was_f) (fun (u : Int32 × (Nat → Int32) × (Nat → Int32)) t => xB D cI cZ [(o, .inr (9, [.ref o_road, .ref o_told, .ref o_fresh, .ref o_was, .int u.1, .ref o_kept, .ref o_isKept, .ref o_sights, .int o_many, .ref o_text, .int o_letters, .int 0, .int o_cursor, .int o_token, .int o_start, .long o_value, .int o_isFault, .int o_faultAt, .int o_above, .int o_below, .ref o_topOf, .ref o_partsOf, .ref o_sent])), (o_road, .inl (cI, 36, .inl u.2.1)), (o_was, .inl (cI, 288, .inl u.2.2))] (va_A [(o, .inr (9, [.ref o_road, .ref o_told, .ref o_fresh, .ref o_was, .int o_acts, .ref o_kept, .ref o_isKept, .ref o_sights, .int o_many, .ref o_text, .int o_letters, .int o_thrown, .int o_cursor, .int o_token, .int o_start, .long o_value, .int o_isFault, .int o_faultAt, .int o_above, .int o_below, .ref o_topOf, .ref o_partsOf, .ref o_sent])), (o_road, .inl (cI, 36, .inl o_road_f)), (o_was, .inl (cI, 288, .inl o_was_f))] sz) t) (va_A [(o, .inr (9, [.ref o_road, .ref o_told, .ref o_fresh, .ref o_was, .int o_acts, .ref o_kept, .ref o_isKept, .ref o_sights, .int o_many, .ref o_text, .int o_letters, .int o_thrown, .int o_cursor, .int o_token, .int o_start, .long o_value, .int o_isFault, .int o_faultAt, .int o_above, .int o_below, .ref o_topOf, .ref o_partsOf, .ref o_sent])), (o_road, .inl (cI, 36, .inl o_road_f)), (o_was, .inl (cI, 288, .inl o_was_f))] sz)) 0 0 (va_A [(o, .inr (9, [.ref o_road, .ref o_told, .ref o_fresh, .ref o_was, .int o_acts, .ref o_kept, .ref o_isKept, .ref o_sights, .int o_many, .ref o_text, .int o_letters, .int o_thrown, .int o_cursor, .int o_token, .int o_start, .long o_value, .int o_isFault, .int o_faultAt, .int o_above, .int o_below, .ref o_topOf, .ref o_partsOf, .ref o_sent])), (o_road, .inl (cI, 36, .inl o_road_f)), (o_was, .inl (cI, 288, .inl o_was_f))] sz) := by
  refine Met.ofW (cc := cX9_walks) (maxL := 4) (ret := (some .int)) (by decide) rfl ?_
  intro p e s m args below meth c s₁ B hml hv
  obtain ⟨hargs, hsz, hP, hK, hD0, hE⟩ := hv
  subst hargs
  have hx := B.exec
  have hb := B.bytes
  have hr := B.returns
  have hts := atoms_spec (ws := wsX9_walks) B.pre
  have hown : s.vm.findClass RX9 = some m.cls := findClass_of_methodNamed B.named
  have hlocks := B.notSynchronized
  subst hsz
  have hD := hD0.self (sz := s.heap.size)
  generalize hAe : va_A [(o, .inr (9, [.ref o_road, .ref o_told, .ref o_fresh, .ref o_was, .int o_acts, .ref o_kept, .ref o_isKept, .ref o_sights, .int o_many, .ref o_text, .int o_letters, .int o_thrown, .int o_cursor, .int o_token, .int o_start, .long o_value, .int o_isFault, .int o_faultAt, .int o_above, .int o_below, .ref o_topOf, .ref o_partsOf, .ref o_sent])), (o_road, .inl (cI, 36, .inl o_road_f)), (o_was, .inl (cI, 288, .inl o_was_f))] s.heap.size = A at hD ⊢
  have hA : ∀ q : Nat, s.heap.size ≤ q → A q := fun q h => by rw [← hAe]; exact Or.inr h
  have hS : va_S A s.heap s.heap [] := va_S.rf
  have hl := lv_entry ([.ref o, .int a1, .int a2]) (n := 4) (Nat.le_of_ble_eq_true rfl)
  rw [lg_entry_eq]
  generalize (lg_sl ([.ref o, .int a1, .int a2]) ++ List.replicate (4 - (lg_sl ([.ref o, .int a1, .int a2])).length) Slot.unset).toArray = ls at hl ⊢
  have hl : lv_has ls 4 [(0, .ref o), (1, .int a1), (2, .int a2)] := hl
  refine wq (X := fun Q => ∀ (pc : Nat) (H : Heap) (locs : List Loc) (ls : Array Slot) (r : Int32) (u : Int32 × (Nat → Int32) × (Nat → Int32)) (hd : decode cX9_walks pc = .ok (.ireturn, 1)) (hp : (r, u) = fX9_walks a1 a2 o_acts o_road_f o_was_f) (hP : va_P D vwCl [(o, .inr (9, [.ref o_road, .ref o_told, .ref o_fresh, .ref o_was, .int u.1, .ref o_kept, .ref o_isKept, .ref o_sights, .int o_many, .ref o_text, .int o_letters, .int 0, .int o_cursor, .int o_token, .int o_start, .long o_value, .int o_isFault, .int o_faultAt, .int o_above, .int o_below, .ref o_topOf, .ref o_partsOf, .ref o_sent])), (o_road, .inl (cI, 36, .inl u.2.1)), (o_was, .inl (cI, 288, .inl u.2.2))] H) (hD : va_D A [(o, .inr (9, [.ref o_road, .ref o_told, .ref o_fresh, .ref o_was, .int u.1, .ref o_kept, .ref o_isKept, .ref o_sights, .int o_many, .ref o_text, .int o_letters, .int 0, .int o_cursor, .int o_token, .int o_start, .long o_value, .int o_isFault, .int o_faultAt, .int o_above, .int o_below, .ref o_topOf, .ref o_partsOf, .ref o_sent])), (o_road, .inl (cI, 36, .inl u.2.1)), (o_was, .inl (cI, 288, .inl u.2.2))]) (hS : va_S A s.heap H locs), W p l e ({ frames := 2, cells := 0, slots := 0, locals := 46 } : Room) s m ([.ref o, .int a1, .int a2] : List Value).toArray below meth c H locs 0 0 Q (F0 m pc ls [.int r])) ?_ (fun Q hret => ?_)
  · intro pc H locs ls r u hd hp hP hD hS
    exact W.iret (v := r) hx hb hr (fun t ht hW => ⟨⟨r, u, rfl, hp, by rw [ht]; exact hP, va_K.moved hW.alike hK, hD⟩, hS.F ht⟩) hS.2.2 hd
  have hin_9 : ∀ w ∈ u_ws RX9 TX9 23, w ∈ wsX9_walks := by decide +kernel
  have fl_7 := hts (.fieldLink RX9 7 "MileRoadModel" "road" "[I") (by decide +kernel)
  have fl_48 := hts (.fieldLink RX9 48 "MileRoadModel" "thrown" "I") (by decide +kernel)
  have zl_0 : (0 : Int32).toInt = 0 := by decide
  have hF : fX9_walks a1 a2 o_acts o_road_f o_was_f = fX9_walks a1 a2 o_acts o_road_f o_was_f := rfl
  refine lv_aload_n hx hb dX9_walks_0 rfl (lv_at hl 0 rfl) ?_
  refine lv_iconst (v := 0) hx hb dX9_walks_1 (by decide) ?_
  refine xput hx hb hts hown hK 9 (C2 := RX9) (T := TX9) (N := 23) tyX9 rfl tyX9_ok nmX9 hin_9 hP hD hS 0 rfl 11 (by decide) fl_48 rfl rfl rfl rfl rfl (Nat.le_of_ble_eq_true rfl) dX9_walks_2 [(o, .inr (9, [.ref o_road, .ref o_told, .ref o_fresh, .ref o_was, .int o_acts, .ref o_kept, .ref o_isKept, .ref o_sights, .int o_many, .ref o_text, .int o_letters, .int 0, .int o_cursor, .int o_token, .int o_start, .long o_value, .int o_isFault, .int o_faultAt, .int o_above, .int o_below, .ref o_topOf, .ref o_partsOf, .ref o_sent])), (o_road, .inl (cI, 36, .inl o_road_f)), (o_was, .inl (cI, 288, .inl o_was_f))] rfl (fun H locs hP hD hS => ?_)
  refine lv_aload_n hx hb dX9_walks_5 rfl (lv_at hl 0 rfl) ?_
  refine lv_iload_n hx hb dX9_walks_6 rfl (lv_at hl 1 rfl) ?_
  refine xcalli (S := Unit) (Wc := [(o, .inr (9, [.ref o_road, .ref o_told, .ref o_fresh, .ref o_was, .int o_acts, .ref o_kept, .ref o_isKept, .ref o_sights, .int o_many, .ref o_text, .int o_letters, .int 0, .int o_cursor, .int o_token, .int o_start, .long o_value, .int o_isFault, .int o_faultAt, .int o_above, .int o_below, .ref o_topOf, .ref o_partsOf, .ref o_sent])), (o_road, .inl (cI, 36, .inl o_road_f))]) (wr := [(o_was, .inl (cI, 288, .inl o_was_f))]) (W1 := (fun (u : Unit) => [(o, .inr (9, [.ref o_road, .ref o_told, .ref o_fresh, .ref o_was, .int o_acts, .ref o_kept, .ref o_isKept, .ref o_sights, .int o_many, .ref o_text, .int o_letters, .int 0, .int o_cursor, .int o_token, .int o_start, .long o_value, .int o_isFault, .int o_faultAt, .int o_above, .int o_below, .ref o_topOf, .ref o_partsOf, .ref o_sent])), (o_road, .inl (cI, 36, .inl o_road_f))])) (Wn := (fun (u : Unit) => [(o, .inr (9, [.ref o_road, .ref o_told, .ref o_fresh, .ref o_was, .int o_acts, .ref o_kept, .ref o_isKept, .ref o_sights, .int o_many, .ref o_text, .int o_letters, .int 0, .int o_cursor, .int o_token, .int o_start, .long o_value, .int o_isFault, .int o_faultAt, .int o_above, .int o_below, .ref o_topOf, .ref o_partsOf, .ref o_sent])), (o_road, .inl (cI, 36, .inl o_road_f)), (o_was, .inl (cI, 288, .inl o_was_f))])) (xrunV hx hb hml hown hts (c_X9_isWalker l D cI cZ _ o a1 o_road o_told o_fresh o_was o_acts o_kept o_isKept o_sights o_many o_text o_letters 0 o_cursor o_token o_start o_value o_isFault o_faultAt o_above o_below o_topOf o_partsOf o_sent o_road_f ) (cwV 1 hts gX9_walks_X9_isWalker rfl rfl rfl (by decide +kernel) ⟨Nat.le_of_ble_eq_true rfl, Nat.le_of_ble_eq_true rfl⟩) hE hK hP hD [0, 1] rfl rfl 0 9 (T := TX9) (N := 23) rfl rfl rfl hl.1 rfl (Nat.le_of_ble_eq_true rfl) dX9_walks_7 ⟨Nat.le_of_ble_eq_true rfl, Nat.le_of_ble_eq_true rfl⟩) hP hD hS hA [0, 1] [2] [1, 2, 0] rfl rfl rfl (by decide) (fun _ => rfl) rfl (fun r1 u H locs hw hz hP hD hS => ?_)
  subst hw
  refine lv_if_ne (tgt := 16) hx hb dX9_walks_10 (by decide) (fun c_1 => ?_) (fun c_1 => ?_)
  · have kb_c_1 : 0 ≤ a1.toInt ∧ a1.toInt < (o_road_f 2).toInt := isWalker_b c_1 (by omega) (by omega)
    refine lv_iload_n hx hb dX9_walks_16 rfl (lv_at hl 2 rfl) ?_
    refine lv_i2l (v := a2.toInt64) hx hb dX9_walks_17 rfl ?_
    refine lv_lconst (v := 0) hx hb dX9_walks_18 (by decide) ?_
    refine lv_lconst (v := 1) hx hb dX9_walks_19 (by decide) ?_
    refine xcalli (S := Unit) (Wc := []) (wr := [(o, .inr (9, [.ref o_road, .ref o_told, .ref o_fresh, .ref o_was, .int o_acts, .ref o_kept, .ref o_isKept, .ref o_sights, .int o_many, .ref o_text, .int o_letters, .int 0, .int o_cursor, .int o_token, .int o_start, .long o_value, .int o_isFault, .int o_faultAt, .int o_above, .int o_below, .ref o_topOf, .ref o_partsOf, .ref o_sent])), (o_road, .inl (cI, 36, .inl o_road_f)), (o_was, .inl (cI, 288, .inl o_was_f))]) (W1 := (fun (u : Unit) => [])) (Wn := (fun (u : Unit) => [(o, .inr (9, [.ref o_road, .ref o_told, .ref o_fresh, .ref o_was, .int o_acts, .ref o_kept, .ref o_isKept, .ref o_sights, .int o_many, .ref o_text, .int o_letters, .int 0, .int o_cursor, .int o_token, .int o_start, .long o_value, .int o_isFault, .int o_faultAt, .int o_above, .int o_below, .ref o_topOf, .ref o_partsOf, .ref o_sent])), (o_road, .inl (cI, 36, .inl o_road_f)), (o_was, .inl (cI, 288, .inl o_was_f))])) (xrunS hx hb hml hown hts (c_X9_in l D cI cZ _ a2.toInt64 0 1 ) (va_cwS 3 hts gX9_walks_X9_in rfl rfl rfl (by decide +kernel) ⟨Nat.le_of_ble_eq_true rfl, Nat.le_of_ble_eq_true rfl⟩) hE hK hP hD [] rfl rfl rfl hl.1 rfl (Nat.le_of_ble_eq_true rfl) dX9_walks_20 ⟨Nat.le_of_ble_eq_true rfl, Nat.le_of_ble_eq_true rfl⟩) hP hD hS hA [] [0, 1, 2] [0, 1, 2] rfl rfl rfl (by decide) (fun _ => rfl) rfl (fun r2 u H locs hw hz hP hD hS => ?_)
    subst hw
    refine lv_if_ne (tgt := 29) hx hb dX9_walks_23 (by decide) (fun c_2 => ?_) (fun c_2 => ?_)
    · have kb_c_2 : 0 ≤ a2.toInt ∧ a2.toInt ≤ 1 := in_b c_2 (by decide) (by decide)
      refine lv_aload_n hx hb dX9_walks_29 rfl (lv_at hl 0 rfl) ?_
      refine xcallv (S := Int32 × (Nat → Int32)) (Wc := [(o, .inr (9, [.ref o_road, .ref o_told, .ref o_fresh, .ref o_was, .int o_acts, .ref o_kept, .ref o_isKept, .ref o_sights, .int o_many, .ref o_text, .int o_letters, .int 0, .int o_cursor, .int o_token, .int o_start, .long o_value, .int o_isFault, .int o_faultAt, .int o_above, .int o_below, .ref o_topOf, .ref o_partsOf, .ref o_sent])), (o_was, .inl (cI, 288, .inl o_was_f)), (o_road, .inl (cI, 36, .inl o_road_f))]) (wr := []) (W1 := (fun (u : Int32 × (Nat → Int32)) => [(o, .inr (9, [.ref o_road, .ref o_told, .ref o_fresh, .ref o_was, .int u.1, .ref o_kept, .ref o_isKept, .ref o_sights, .int o_many, .ref o_text, .int o_letters, .int 0, .int o_cursor, .int o_token, .int o_start, .long o_value, .int o_isFault, .int o_faultAt, .int o_above, .int o_below, .ref o_topOf, .ref o_partsOf, .ref o_sent])), (o_was, .inl (cI, 288, .inl u.2)), (o_road, .inl (cI, 36, .inl o_road_f))])) (Wn := (fun (u : Int32 × (Nat → Int32)) => [(o, .inr (9, [.ref o_road, .ref o_told, .ref o_fresh, .ref o_was, .int u.1, .ref o_kept, .ref o_isKept, .ref o_sights, .int o_many, .ref o_text, .int o_letters, .int 0, .int o_cursor, .int o_token, .int o_start, .long o_value, .int o_isFault, .int o_faultAt, .int o_above, .int o_below, .ref o_topOf, .ref o_partsOf, .ref o_sent])), (o_road, .inl (cI, 36, .inl o_road_f)), (o_was, .inl (cI, 288, .inl u.2))])) (xrunV hx hb hml hown hts (c_X9_keepAct l D cI cZ _ o o_road o_told o_fresh o_was o_acts o_kept o_isKept o_sights o_many o_text o_letters 0 o_cursor o_token o_start o_value o_isFault o_faultAt o_above o_below o_topOf o_partsOf o_sent o_was_f o_road_f hac0 hac8) (cwV 0 hts gX9_walks_X9_keepAct rfl rfl rfl (by decide +kernel) ⟨Nat.le_of_ble_eq_true rfl, Nat.le_of_ble_eq_true rfl⟩) hE hK hP hD [0, 2, 1] rfl rfl 0 9 (T := TX9) (N := 23) rfl rfl rfl hl.1 rfl (Nat.le_of_ble_eq_true rfl) dX9_walks_30 ⟨Nat.le_of_ble_eq_true rfl, Nat.le_of_ble_eq_true rfl⟩) hP hD hS hA [0, 2, 1] [] [0, 2, 1] rfl rfl rfl (by decide) (fun _ => rfl) rfl (fun  u H locs hw hz hP hD hS => ?_)
      obtain ⟨u3, u4⟩ := u
      have hw_3 := hw.symm
      have hP : va_P D vwCl [(o, .inr (9, [.ref o_road, .ref o_told, .ref o_fresh, .ref o_was, .int u3, .ref o_kept, .ref o_isKept, .ref o_sights, .int o_many, .ref o_text, .int o_letters, .int 0, .int o_cursor, .int o_token, .int o_start, .long o_value, .int o_isFault, .int o_faultAt, .int o_above, .int o_below, .ref o_topOf, .ref o_partsOf, .ref o_sent])), (o_road, .inl (cI, 36, .inl o_road_f)), (o_was, .inl (cI, 288, .inl u4))] H := hP
      have hD : va_D A [(o, .inr (9, [.ref o_road, .ref o_told, .ref o_fresh, .ref o_was, .int u3, .ref o_kept, .ref o_isKept, .ref o_sights, .int o_many, .ref o_text, .int o_letters, .int 0, .int o_cursor, .int o_token, .int o_start, .long o_value, .int o_isFault, .int o_faultAt, .int o_above, .int o_below, .ref o_topOf, .ref o_partsOf, .ref o_sent])), (o_road, .inl (cI, 36, .inl o_road_f)), (o_was, .inl (cI, 288, .inl u4))] := hD
      refine lv_aload_n hx hb dX9_walks_33 rfl (lv_at hl 0 rfl) ?_
      refine xget hx hb hts hown hK 9 (C2 := RX9) (T := TX9) (N := 23) rfl hin_9 hP 0 rfl 0 (by decide) fl_7 rfl rfl rfl dX9_walks_34 ?_
      refine lv_iconst (v := 3) hx hb dX9_walks_37 (by decide) ?_
      refine xald hx hb hK hP 1 0 (k := 3) rfl rfl (vi (by decide) (by decide)) (by decide) dX9_walks_38 ?_
      refine lv_iload_n hx hb dX9_walks_39 rfl (lv_at hl 1 rfl) ?_
      refine lv_ishr hx hb dX9_walks_40 ?_
      refine lv_iconst (v := 1) hx hb dX9_walks_41 (by decide) ?_
      refine lv_iand hx hb dX9_walks_42 ?_
      refine lv_istore_n (lv' := [(3, .int (((o_road_f 3) >>> (a1 &&& 31)) &&& 1)), (0, .ref o), (1, .int a1), (2, .int a2)]) hx hb dX9_walks_43 rfl hl (by decide) rfl (fun ls hl => ?_)
      refine lv_aload_n hx hb dX9_walks_44 rfl (lv_at hl 1 rfl) ?_
      refine xget hx hb hts hown hK 9 (C2 := RX9) (T := TX9) (N := 23) rfl hin_9 hP 0 rfl 0 (by decide) fl_7 rfl rfl rfl dX9_walks_45 ?_
      refine lv_iconst (v := 3) hx hb dX9_walks_48 (by decide) ?_
      refine lv_aload_n hx hb dX9_walks_49 rfl (lv_at hl 1 rfl) ?_
      refine xget hx hb hts hown hK 9 (C2 := RX9) (T := TX9) (N := 23) rfl hin_9 hP 0 rfl 0 (by decide) fl_7 rfl rfl rfl dX9_walks_50 ?_
      refine lv_iconst (v := 3) hx hb dX9_walks_53 (by decide) ?_
      refine xald hx hb hK hP 1 0 (k := 3) rfl rfl (vi (by decide) (by decide)) (by decide) dX9_walks_54 ?_
      refine lv_iconst (v := 1) hx hb dX9_walks_55 (by decide) ?_
      refine lv_iload_n hx hb dX9_walks_56 rfl (lv_at hl 2 rfl) ?_
      refine lv_ishl hx hb dX9_walks_57 ?_
      refine lv_iconst (v := (-1)) hx hb dX9_walks_58 (by decide) ?_
      refine lv_ixor hx hb dX9_walks_59 ?_
      refine lv_iand hx hb dX9_walks_60 ?_
      refine lv_iload_n hx hb dX9_walks_61 rfl (lv_at hl 3 rfl) ?_
      refine lv_iload_n hx hb dX9_walks_62 rfl (lv_at hl 2 rfl) ?_
      refine lv_ishl hx hb dX9_walks_63 ?_
      refine lv_ior hx hb dX9_walks_64 ?_
      refine xast hx hb hK hP hD hS 1 0 (k := 3) rfl rfl (vi (by decide) (by decide)) (by decide) dX9_walks_65 [(o, .inr (9, [.ref o_road, .ref o_told, .ref o_fresh, .ref o_was, .int u3, .ref o_kept, .ref o_isKept, .ref o_sights, .int o_many, .ref o_text, .int o_letters, .int 0, .int o_cursor, .int o_token, .int o_start, .long o_value, .int o_isFault, .int o_faultAt, .int o_above, .int o_below, .ref o_topOf, .ref o_partsOf, .ref o_sent])), (o_road, .inl (cI, 36, .inl (upd o_road_f 3 (((o_road_f 3) &&& (((1 : Int32) <<< (a1 &&& 31)) ^^^ (-1))) ||| (a2 <<< (a1 &&& 31)))))), (o_was, .inl (cI, 288, .inl u4))] rfl (fun H locs hP hD hS => ?_)
      refine lv_iload_n hx hb dX9_walks_66 rfl (lv_at hl 0 rfl) ?_
      exact hret _ _ _ _ (((o_road_f 3) >>> (a1 &&& 31)) &&& 1) (u3, (upd o_road_f 3 (((o_road_f 3) &&& (((1 : Int32) <<< (a1 &&& 31)) ^^^ (-1))) ||| (a2 <<< (a1 &&& 31)))), u4) dX9_walks_67 ((hF.trans (by simp only [fX9_walks, xlet, if_neg c_1, if_neg c_2, ↓hw_3])).symm) hP hD hS
    · refine lv_bipush (v := (-3)) hx hb dX9_walks_26 (by decide) ?_
      exact hret _ _ _ _ (-3) (o_acts, o_road_f, o_was_f) dX9_walks_28 ((hF.trans (by simp only [fX9_walks, xlet, if_neg c_1, if_pos c_2])).symm) hP hD hS
  · refine lv_bipush (v := (-2)) hx hb dX9_walks_13 (by decide) ?_
    exact hret _ _ _ _ (-2) (o_acts, o_road_f, o_was_f) dX9_walks_15 ((hF.trans (by simp only [fX9_walks, xlet, if_pos c_1])).symm) hP hD hS
set_option maxRecDepth 20000 in
theorem ggX9_flatten_X9_in : GoodIn wsX9_flatten wsX9_in := goodIn_r _ [7] (by decide +kernel) (by decide +kernel)
set_option maxRecDepth 20000 in
theorem gX9_flatten_X9_in : GoodIn wsX9_flatten (va_wsS RX9 52 yX9_in wsX9_in) := goodIn_app (goodIn_of _ (by decide +kernel)) ggX9_flatten_X9_in
set_option maxRecDepth 20000 in
theorem ggX9_flatten_X9_keepAct : GoodIn wsX9_flatten wsX9_keepAct := goodIn_r _ [11, 12, 13, 2, 14, 15, 16, 17, 18, 19, 20, 21, 22, 23, 24, 25, 26, 27, 28, 29, 30, 31, 32, 33, 34, 35, 36] (by decide +kernel) (by decide +kernel)
set_option maxRecDepth 20000 in
theorem gX9_flatten_X9_keepAct : GoodIn wsX9_flatten (wsV RX9 154 RX9 yX9_keepAct wsX9_keepAct) := goodIn_app (goodIn_of _ (by decide +kernel)) ggX9_flatten_X9_keepAct
theorem dX9_flatten_0 : decode cX9_flatten 0 = .ok (.aload_n 0, 1) := by decide +kernel
theorem dX9_flatten_1 : decode cX9_flatten 1 = .ok (.iconst 0, 1) := by decide +kernel
theorem dX9_flatten_2 : decode cX9_flatten 2 = .ok (.putfield 48, 3) := by decide +kernel
theorem dX9_flatten_5 : decode cX9_flatten 5 = .ok (.iload_n 1, 1) := by decide +kernel
theorem dX9_flatten_6 : decode cX9_flatten 6 = .ok (.i2l, 1) := by decide +kernel
theorem dX9_flatten_7 : decode cX9_flatten 7 = .ok (.lconst 1, 1) := by decide +kernel
theorem dX9_flatten_8 : decode cX9_flatten 8 = .ok (.aload_n 0, 1) := by decide +kernel
theorem dX9_flatten_9 : decode cX9_flatten 9 = .ok (.getfield 7, 3) := by decide +kernel
theorem dX9_flatten_12 : decode cX9_flatten 12 = .ok (.iconst 0, 1) := by decide +kernel
theorem dX9_flatten_13 : decode cX9_flatten 13 = .ok (.iaload, 1) := by decide +kernel
theorem dX9_flatten_14 : decode cX9_flatten 14 = .ok (.i2l, 1) := by decide +kernel
theorem dX9_flatten_15 : decode cX9_flatten 15 = .ok (.invokestatic 52, 3) := by decide +kernel
theorem dX9_flatten_18 : decode cX9_flatten 18 = .ok (.ifCond .eq 15, 3) := by decide +kernel
theorem dX9_flatten_21 : decode cX9_flatten 21 = .ok (.iload_n 2, 1) := by decide +kernel
theorem dX9_flatten_22 : decode cX9_flatten 22 = .ok (.i2l, 1) := by decide +kernel
theorem dX9_flatten_23 : decode cX9_flatten 23 = .ok (.lconst 1, 1) := by decide +kernel
theorem dX9_flatten_24 : decode cX9_flatten 24 = .ok (.ldc2_w 157, 3) := by decide +kernel
theorem dX9_flatten_27 : decode cX9_flatten 27 = .ok (.invokestatic 52, 3) := by decide +kernel
theorem dX9_flatten_30 : decode cX9_flatten 30 = .ok (.ifCond .ne 6, 3) := by decide +kernel
theorem dX9_flatten_33 : decode cX9_flatten 33 = .ok (.bipush (-3), 2) := by decide +kernel
theorem dX9_flatten_35 : decode cX9_flatten 35 = .ok (.ireturn, 1) := by decide +kernel
theorem dX9_flatten_36 : decode cX9_flatten 36 = .ok (.aload_n 0, 1) := by decide +kernel
theorem dX9_flatten_37 : decode cX9_flatten 37 = .ok (.invokevirtual 154, 3) := by decide +kernel
theorem dX9_flatten_40 : decode cX9_flatten 40 = .ok (.aload_n 0, 1) := by decide +kernel
theorem dX9_flatten_41 : decode cX9_flatten 41 = .ok (.getfield 7, 3) := by decide +kernel
theorem dX9_flatten_44 : decode cX9_flatten 44 = .ok (.iconst 4, 1) := by decide +kernel
theorem dX9_flatten_45 : decode cX9_flatten 45 = .ok (.iload_n 1, 1) := by decide +kernel
theorem dX9_flatten_46 : decode cX9_flatten 46 = .ok (.iadd, 1) := by decide +kernel
theorem dX9_flatten_47 : decode cX9_flatten 47 = .ok (.iconst 1, 1) := by decide +kernel
theorem dX9_flatten_48 : decode cX9_flatten 48 = .ok (.isub, 1) := by decide +kernel
theorem dX9_flatten_49 : decode cX9_flatten 49 = .ok (.iaload, 1) := by decide +kernel
theorem dX9_flatten_50 : decode cX9_flatten 50 = .ok (.istore_n 3, 1) := by decide +kernel
theorem dX9_flatten_51 : decode cX9_flatten 51 = .ok (.aload_n 0, 1) := by decide +kernel
theorem dX9_flatten_52 : decode cX9_flatten 52 = .ok (.getfield 7, 3) := by decide +kernel
theorem dX9_flatten_55 : decode cX9_flatten 55 = .ok (.iconst 4, 1) := by decide +kernel
theorem dX9_flatten_56 : decode cX9_flatten 56 = .ok (.iload_n 1, 1) := by decide +kernel
theorem dX9_flatten_57 : decode cX9_flatten 57 = .ok (.iadd, 1) := by decide +kernel
theorem dX9_flatten_58 : decode cX9_flatten 58 = .ok (.iconst 1, 1) := by decide +kernel
theorem dX9_flatten_59 : decode cX9_flatten 59 = .ok (.isub, 1) := by decide +kernel
theorem dX9_flatten_60 : decode cX9_flatten 60 = .ok (.iload_n 2, 1) := by decide +kernel
theorem dX9_flatten_61 : decode cX9_flatten 61 = .ok (.iastore, 1) := by decide +kernel
theorem dX9_flatten_62 : decode cX9_flatten 62 = .ok (.iload_n 3, 1) := by decide +kernel
theorem dX9_flatten_63 : decode cX9_flatten 63 = .ok (.ireturn, 1) := by decide +kernel
def fX9_flatten (a1 : Int32) (a2 : Int32) (o_acts : Int32) (o_road_f : Nat → Int32) (o_was_f : Nat → Int32) : Int32 × Int32 × (Nat → Int32) × (Nat → Int32) := if (fX9_in a1.toInt64 1 ((o_road_f 0).toInt64)) = 0 then (((-3), o_acts, o_road_f, o_was_f)) else (if (fX9_in a2.toInt64 1 9) = 0 then (((-3), o_acts, o_road_f, o_was_f)) else (match fX9_keepAct o_acts o_was_f o_road_f with | (u3, u4) => ((o_road_f ((4 + a1) - 1).toNatClampNeg), u3, (upd o_road_f ((4 + a1) - 1).toNatClampNeg a2), u4)))
set_option maxHeartbeats 4000000 in
set_option maxRecDepth 100000 in
theorem c_X9_flatten (l : Launch) (D : va_G) (cI cZ : ClassId) (sz : Nat) (o : Nat) (a1 : Int32) (a2 : Int32) (o_road : Nat) (o_told : Nat) (o_fresh : Nat) (o_was : Nat) (o_acts : Int32) (o_kept : Nat) (o_isKept : Nat) (o_sights : Nat) (o_many : Int32) (o_text : Nat) (o_letters : Int32) (o_thrown : Int32) (o_cursor : Int32) (o_token : Int32) (o_start : Int32) (o_value : Int64) (o_isFault : Int32) (o_faultAt : Int32) (o_above : Int32) (o_below : Int32) (o_topOf : Nat) (o_partsOf : Nat) (o_sent : Nat) (o_road_f : Nat → Int32) (o_was_f : Nat → Int32) (hn0 : 4 ≤ (o_road_f 0).toInt) (hn1 : (o_road_f 0).toInt ≤ 20) (hac0 : 0 ≤ o_acts.toInt) (hac8 : o_acts.toInt ≤ 8) : Met l yX9_flatten wsX9_flatten ({ frames := 1, cells := 0, slots := 0, locals := 25 } : Room) (va_Pc [.ref o, .int a1, .int a2] (xP D cI cZ [(o, .inr (9, [.ref o_road, .ref o_told, .ref o_fresh, .ref o_was, .int o_acts, .ref o_kept, .ref o_isKept, .ref o_sights, .int o_many, .ref o_text, .int o_letters, .int o_thrown, .int o_cursor, .int o_token, .int o_start, .long o_value, .int o_isFault, .int o_faultAt, .int o_above, .int o_below, .ref o_topOf, .ref o_partsOf, .ref o_sent])), (o_road, .inl (cI, 36, .inl o_road_f)), (o_was, .inl (cI, 288, .inl o_was_f))] sz)) (va_Qi (fun (r : Int32) (u : Int32 × (Nat → Int32) × (Nat → Int32)) => (r, u) = fX9_flatten a1 a2 o_acts o_road_f o_was_f) (fun (u : Int32 × (Nat → Int32) × (Nat → Int32)) t => xB D cI cZ [(o, .inr (9, [.ref o_road, .ref o_told, .ref o_fresh, .ref o_was, .int u.1, .ref o_kept, .ref o_isKept, .ref o_sights, .int o_many, .ref o_text, .int o_letters, .int 0, .int o_cursor, .int o_token, .int o_start, .long o_value, .int o_isFault, .int o_faultAt, .int o_above, .int o_below, .ref o_topOf, .ref o_partsOf, .ref o_sent])), (o_road, .inl (cI, 36, .inl u.2.1)), (o_was, .inl (cI, 288, .inl u.2.2))] (va_A [(o, .inr (9, [.ref o_road, .ref o_told, .ref o_fresh, .ref o_was, .int o_acts, .ref o_kept, .ref o_isKept, .ref o_sights, .int o_many, .ref o_text, .int o_letters, .int o_thrown, .int o_cursor, .int o_token, .int o_start, .long o_value, .int o_isFault, .int o_faultAt, .int o_above, .int o_below, .ref o_topOf, .ref o_partsOf, .ref o_sent])), (o_road, .inl (cI, 36, .inl o_road_f)), (o_was, .inl (cI, 288, .inl o_was_f))] sz) t) (va_A [(o, .inr (9, [.ref o_road, .ref o_told, .ref o_fresh, .ref o_was, .int o_acts, .ref o_kept, .ref o_isKept, .ref o_sights, .int o_many, .ref o_text, .int o_letters, .int o_thrown, .int o_cursor, .int o_token, .int o_start, .long o_value, .int o_isFault, .int o_faultAt, .int o_above, .int o_below, .ref o_topOf, .ref o_partsOf, .ref o_sent])), (o_road, .inl (cI, 36, .inl o_road_f)), (o_was, .inl (cI, 288, .inl o_was_f))] sz)) 0 0 (va_A [(o, .inr (9, [.ref o_road, .ref o_told, .ref o_fresh, .ref o_was, .int o_acts, .ref o_kept, .ref o_isKept, .ref o_sights, .int o_many, .ref o_text, .int o_letters, .int o_thrown, .int o_cursor, .int o_token, .int o_start, .long o_value, .int o_isFault, .int o_faultAt, .int o_above, .int o_below, .ref o_topOf, .ref o_partsOf, .ref o_sent])), (o_road, .inl (cI, 36, .inl o_road_f)), (o_was, .inl (cI, 288, .inl o_was_f))] sz) := by
  refine Met.ofW (cc := cX9_flatten) (maxL := 4) (ret := (some .int)) (by decide) rfl ?_
  intro p e s m args below meth c s₁ B hml hv
  obtain ⟨hargs, hsz, hP, hK, hD0, hE⟩ := hv
  subst hargs
  have hx := B.exec
  have hb := B.bytes
  have hr := B.returns
  have hts := atoms_spec (ws := wsX9_flatten) B.pre
  have hown : s.vm.findClass RX9 = some m.cls := findClass_of_methodNamed B.named
  have hlocks := B.notSynchronized
  subst hsz
  have hD := hD0.self (sz := s.heap.size)
  generalize hAe : va_A [(o, .inr (9, [.ref o_road, .ref o_told, .ref o_fresh, .ref o_was, .int o_acts, .ref o_kept, .ref o_isKept, .ref o_sights, .int o_many, .ref o_text, .int o_letters, .int o_thrown, .int o_cursor, .int o_token, .int o_start, .long o_value, .int o_isFault, .int o_faultAt, .int o_above, .int o_below, .ref o_topOf, .ref o_partsOf, .ref o_sent])), (o_road, .inl (cI, 36, .inl o_road_f)), (o_was, .inl (cI, 288, .inl o_was_f))] s.heap.size = A at hD ⊢
  have hA : ∀ q : Nat, s.heap.size ≤ q → A q := fun q h => by rw [← hAe]; exact Or.inr h
  have hS : va_S A s.heap s.heap [] := va_S.rf
  have hl := lv_entry ([.ref o, .int a1, .int a2]) (n := 4) (Nat.le_of_ble_eq_true rfl)
  rw [lg_entry_eq]
  generalize (lg_sl ([.ref o, .int a1, .int a2]) ++ List.replicate (4 - (lg_sl ([.ref o, .int a1, .int a2])).length) Slot.unset).toArray = ls at hl ⊢
  have hl : lv_has ls 4 [(0, .ref o), (1, .int a1), (2, .int a2)] := hl
  refine wq (X := fun Q => ∀ (pc : Nat) (H : Heap) (locs : List Loc) (ls : Array Slot) (r : Int32) (u : Int32 × (Nat → Int32) × (Nat → Int32)) (hd : decode cX9_flatten pc = .ok (.ireturn, 1)) (hp : (r, u) = fX9_flatten a1 a2 o_acts o_road_f o_was_f) (hP : va_P D vwCl [(o, .inr (9, [.ref o_road, .ref o_told, .ref o_fresh, .ref o_was, .int u.1, .ref o_kept, .ref o_isKept, .ref o_sights, .int o_many, .ref o_text, .int o_letters, .int 0, .int o_cursor, .int o_token, .int o_start, .long o_value, .int o_isFault, .int o_faultAt, .int o_above, .int o_below, .ref o_topOf, .ref o_partsOf, .ref o_sent])), (o_road, .inl (cI, 36, .inl u.2.1)), (o_was, .inl (cI, 288, .inl u.2.2))] H) (hD : va_D A [(o, .inr (9, [.ref o_road, .ref o_told, .ref o_fresh, .ref o_was, .int u.1, .ref o_kept, .ref o_isKept, .ref o_sights, .int o_many, .ref o_text, .int o_letters, .int 0, .int o_cursor, .int o_token, .int o_start, .long o_value, .int o_isFault, .int o_faultAt, .int o_above, .int o_below, .ref o_topOf, .ref o_partsOf, .ref o_sent])), (o_road, .inl (cI, 36, .inl u.2.1)), (o_was, .inl (cI, 288, .inl u.2.2))]) (hS : va_S A s.heap H locs), W p l e ({ frames := 1, cells := 0, slots := 0, locals := 25 } : Room) s m ([.ref o, .int a1, .int a2] : List Value).toArray below meth c H locs 0 0 Q (F0 m pc ls [.int r])) ?_ (fun Q hret => ?_)
  · intro pc H locs ls r u hd hp hP hD hS
    exact W.iret (v := r) hx hb hr (fun t ht hW => ⟨⟨r, u, rfl, hp, by rw [ht]; exact hP, va_K.moved hW.alike hK, hD⟩, hS.F ht⟩) hS.2.2 hd
  have hin_9 : ∀ w ∈ u_ws RX9 TX9 23, w ∈ wsX9_flatten := by decide +kernel
  have fl_7 := hts (.fieldLink RX9 7 "MileRoadModel" "road" "[I") (by decide +kernel)
  have fl_48 := hts (.fieldLink RX9 48 "MileRoadModel" "thrown" "I") (by decide +kernel)
  have zl_0 : (0 : Int32).toInt = 0 := by decide
  have zl_1 : (1 : Int32).toInt = 1 := by decide
  have zl_4 : (4 : Int32).toInt = 4 := by decide
  have hF : fX9_flatten a1 a2 o_acts o_road_f o_was_f = fX9_flatten a1 a2 o_acts o_road_f o_was_f := rfl
  refine lv_aload_n hx hb dX9_flatten_0 rfl (lv_at hl 0 rfl) ?_
  refine lv_iconst (v := 0) hx hb dX9_flatten_1 (by decide) ?_
  refine xput hx hb hts hown hK 9 (C2 := RX9) (T := TX9) (N := 23) tyX9 rfl tyX9_ok nmX9 hin_9 hP hD hS 0 rfl 11 (by decide) fl_48 rfl rfl rfl rfl rfl (Nat.le_of_ble_eq_true rfl) dX9_flatten_2 [(o, .inr (9, [.ref o_road, .ref o_told, .ref o_fresh, .ref o_was, .int o_acts, .ref o_kept, .ref o_isKept, .ref o_sights, .int o_many, .ref o_text, .int o_letters, .int 0, .int o_cursor, .int o_token, .int o_start, .long o_value, .int o_isFault, .int o_faultAt, .int o_above, .int o_below, .ref o_topOf, .ref o_partsOf, .ref o_sent])), (o_road, .inl (cI, 36, .inl o_road_f)), (o_was, .inl (cI, 288, .inl o_was_f))] rfl (fun H locs hP hD hS => ?_)
  refine lv_iload_n hx hb dX9_flatten_5 rfl (lv_at hl 1 rfl) ?_
  refine lv_i2l (v := a1.toInt64) hx hb dX9_flatten_6 rfl ?_
  refine lv_lconst (v := 1) hx hb dX9_flatten_7 (by decide) ?_
  refine lv_aload_n hx hb dX9_flatten_8 rfl (lv_at hl 0 rfl) ?_
  refine xget hx hb hts hown hK 9 (C2 := RX9) (T := TX9) (N := 23) rfl hin_9 hP 0 rfl 0 (by decide) fl_7 rfl rfl rfl dX9_flatten_9 ?_
  refine lv_iconst (v := 0) hx hb dX9_flatten_12 (by decide) ?_
  refine xald hx hb hK hP 1 0 (k := 0) rfl rfl (vi (by decide) (by decide)) (by decide) dX9_flatten_13 ?_
  refine lv_i2l (v := (o_road_f 0).toInt64) hx hb dX9_flatten_14 rfl ?_
  refine xcalli (S := Unit) (Wc := []) (wr := [(o, .inr (9, [.ref o_road, .ref o_told, .ref o_fresh, .ref o_was, .int o_acts, .ref o_kept, .ref o_isKept, .ref o_sights, .int o_many, .ref o_text, .int o_letters, .int 0, .int o_cursor, .int o_token, .int o_start, .long o_value, .int o_isFault, .int o_faultAt, .int o_above, .int o_below, .ref o_topOf, .ref o_partsOf, .ref o_sent])), (o_road, .inl (cI, 36, .inl o_road_f)), (o_was, .inl (cI, 288, .inl o_was_f))]) (W1 := (fun (u : Unit) => [])) (Wn := (fun (u : Unit) => [(o, .inr (9, [.ref o_road, .ref o_told, .ref o_fresh, .ref o_was, .int o_acts, .ref o_kept, .ref o_isKept, .ref o_sights, .int o_many, .ref o_text, .int o_letters, .int 0, .int o_cursor, .int o_token, .int o_start, .long o_value, .int o_isFault, .int o_faultAt, .int o_above, .int o_below, .ref o_topOf, .ref o_partsOf, .ref o_sent])), (o_road, .inl (cI, 36, .inl o_road_f)), (o_was, .inl (cI, 288, .inl o_was_f))])) (xrunS hx hb hml hown hts (c_X9_in l D cI cZ _ a1.toInt64 1 ((o_road_f 0).toInt64) ) (va_cwS 3 hts gX9_flatten_X9_in rfl rfl rfl (by decide +kernel) ⟨Nat.le_of_ble_eq_true rfl, Nat.le_of_ble_eq_true rfl⟩) hE hK hP hD [] rfl rfl rfl hl.1 rfl (Nat.le_of_ble_eq_true rfl) dX9_flatten_15 ⟨Nat.le_of_ble_eq_true rfl, Nat.le_of_ble_eq_true rfl⟩) hP hD hS hA [] [0, 1, 2] [0, 1, 2] rfl rfl rfl (by decide) (fun _ => rfl) rfl (fun r1 u H locs hw hz hP hD hS => ?_)
  subst hw
  refine lv_if_eq (tgt := 33) hx hb dX9_flatten_18 (by decide) (fun c_1 => ?_) (fun c_1 => ?_)
  · refine lv_bipush (v := (-3)) hx hb dX9_flatten_33 (by decide) ?_
    exact hret _ _ _ _ (-3) (o_acts, o_road_f, o_was_f) dX9_flatten_35 ((hF.trans (by simp only [fX9_flatten, xlet, if_pos c_1])).symm) hP hD hS
  · have kb_c_1 : 1 ≤ a1.toInt ∧ a1.toInt ≤ (o_road_f 0).toInt := in_b c_1 (by decide) (Int32.toInt_toInt64 _)
    refine lv_iload_n hx hb dX9_flatten_21 rfl (lv_at hl 2 rfl) ?_
    refine lv_i2l (v := a2.toInt64) hx hb dX9_flatten_22 rfl ?_
    refine lv_lconst (v := 1) hx hb dX9_flatten_23 (by decide) ?_
    refine lv_ldc2 (v := 9) hx hb hown (hts (.constantLong RX9 157 9) (by decide +kernel)) dX9_flatten_24 ?_
    refine xcalli (S := Unit) (Wc := []) (wr := [(o, .inr (9, [.ref o_road, .ref o_told, .ref o_fresh, .ref o_was, .int o_acts, .ref o_kept, .ref o_isKept, .ref o_sights, .int o_many, .ref o_text, .int o_letters, .int 0, .int o_cursor, .int o_token, .int o_start, .long o_value, .int o_isFault, .int o_faultAt, .int o_above, .int o_below, .ref o_topOf, .ref o_partsOf, .ref o_sent])), (o_road, .inl (cI, 36, .inl o_road_f)), (o_was, .inl (cI, 288, .inl o_was_f))]) (W1 := (fun (u : Unit) => [])) (Wn := (fun (u : Unit) => [(o, .inr (9, [.ref o_road, .ref o_told, .ref o_fresh, .ref o_was, .int o_acts, .ref o_kept, .ref o_isKept, .ref o_sights, .int o_many, .ref o_text, .int o_letters, .int 0, .int o_cursor, .int o_token, .int o_start, .long o_value, .int o_isFault, .int o_faultAt, .int o_above, .int o_below, .ref o_topOf, .ref o_partsOf, .ref o_sent])), (o_road, .inl (cI, 36, .inl o_road_f)), (o_was, .inl (cI, 288, .inl o_was_f))])) (xrunS hx hb hml hown hts (c_X9_in l D cI cZ _ a2.toInt64 1 9 ) (va_cwS 3 hts gX9_flatten_X9_in rfl rfl rfl (by decide +kernel) ⟨Nat.le_of_ble_eq_true rfl, Nat.le_of_ble_eq_true rfl⟩) hE hK hP hD [] rfl rfl rfl hl.1 rfl (Nat.le_of_ble_eq_true rfl) dX9_flatten_27 ⟨Nat.le_of_ble_eq_true rfl, Nat.le_of_ble_eq_true rfl⟩) hP hD hS hA [] [0, 1, 2] [0, 1, 2] rfl rfl rfl (by decide) (fun _ => rfl) rfl (fun r2 u H locs hw hz hP hD hS => ?_)
    subst hw
    refine lv_if_ne (tgt := 36) hx hb dX9_flatten_30 (by decide) (fun c_2 => ?_) (fun c_2 => ?_)
    · have kb_c_2 : 1 ≤ a2.toInt ∧ a2.toInt ≤ 9 := in_b c_2 (by decide) (by decide)
      refine lv_aload_n hx hb dX9_flatten_36 rfl (lv_at hl 0 rfl) ?_
      refine xcallv (S := Int32 × (Nat → Int32)) (Wc := [(o, .inr (9, [.ref o_road, .ref o_told, .ref o_fresh, .ref o_was, .int o_acts, .ref o_kept, .ref o_isKept, .ref o_sights, .int o_many, .ref o_text, .int o_letters, .int 0, .int o_cursor, .int o_token, .int o_start, .long o_value, .int o_isFault, .int o_faultAt, .int o_above, .int o_below, .ref o_topOf, .ref o_partsOf, .ref o_sent])), (o_was, .inl (cI, 288, .inl o_was_f)), (o_road, .inl (cI, 36, .inl o_road_f))]) (wr := []) (W1 := (fun (u : Int32 × (Nat → Int32)) => [(o, .inr (9, [.ref o_road, .ref o_told, .ref o_fresh, .ref o_was, .int u.1, .ref o_kept, .ref o_isKept, .ref o_sights, .int o_many, .ref o_text, .int o_letters, .int 0, .int o_cursor, .int o_token, .int o_start, .long o_value, .int o_isFault, .int o_faultAt, .int o_above, .int o_below, .ref o_topOf, .ref o_partsOf, .ref o_sent])), (o_was, .inl (cI, 288, .inl u.2)), (o_road, .inl (cI, 36, .inl o_road_f))])) (Wn := (fun (u : Int32 × (Nat → Int32)) => [(o, .inr (9, [.ref o_road, .ref o_told, .ref o_fresh, .ref o_was, .int u.1, .ref o_kept, .ref o_isKept, .ref o_sights, .int o_many, .ref o_text, .int o_letters, .int 0, .int o_cursor, .int o_token, .int o_start, .long o_value, .int o_isFault, .int o_faultAt, .int o_above, .int o_below, .ref o_topOf, .ref o_partsOf, .ref o_sent])), (o_road, .inl (cI, 36, .inl o_road_f)), (o_was, .inl (cI, 288, .inl u.2))])) (xrunV hx hb hml hown hts (c_X9_keepAct l D cI cZ _ o o_road o_told o_fresh o_was o_acts o_kept o_isKept o_sights o_many o_text o_letters 0 o_cursor o_token o_start o_value o_isFault o_faultAt o_above o_below o_topOf o_partsOf o_sent o_was_f o_road_f hac0 hac8) (cwV 0 hts gX9_flatten_X9_keepAct rfl rfl rfl (by decide +kernel) ⟨Nat.le_of_ble_eq_true rfl, Nat.le_of_ble_eq_true rfl⟩) hE hK hP hD [0, 2, 1] rfl rfl 0 9 (T := TX9) (N := 23) rfl rfl rfl hl.1 rfl (Nat.le_of_ble_eq_true rfl) dX9_flatten_37 ⟨Nat.le_of_ble_eq_true rfl, Nat.le_of_ble_eq_true rfl⟩) hP hD hS hA [0, 2, 1] [] [0, 2, 1] rfl rfl rfl (by decide) (fun _ => rfl) rfl (fun  u H locs hw hz hP hD hS => ?_)
      obtain ⟨u3, u4⟩ := u
      have hw_3 := hw.symm
      have hP : va_P D vwCl [(o, .inr (9, [.ref o_road, .ref o_told, .ref o_fresh, .ref o_was, .int u3, .ref o_kept, .ref o_isKept, .ref o_sights, .int o_many, .ref o_text, .int o_letters, .int 0, .int o_cursor, .int o_token, .int o_start, .long o_value, .int o_isFault, .int o_faultAt, .int o_above, .int o_below, .ref o_topOf, .ref o_partsOf, .ref o_sent])), (o_road, .inl (cI, 36, .inl o_road_f)), (o_was, .inl (cI, 288, .inl u4))] H := hP
      have hD : va_D A [(o, .inr (9, [.ref o_road, .ref o_told, .ref o_fresh, .ref o_was, .int u3, .ref o_kept, .ref o_isKept, .ref o_sights, .int o_many, .ref o_text, .int o_letters, .int 0, .int o_cursor, .int o_token, .int o_start, .long o_value, .int o_isFault, .int o_faultAt, .int o_above, .int o_below, .ref o_topOf, .ref o_partsOf, .ref o_sent])), (o_road, .inl (cI, 36, .inl o_road_f)), (o_was, .inl (cI, 288, .inl u4))] := hD
      refine lv_aload_n hx hb dX9_flatten_40 rfl (lv_at hl 0 rfl) ?_
      refine xget hx hb hts hown hK 9 (C2 := RX9) (T := TX9) (N := 23) rfl hin_9 hP 0 rfl 0 (by decide) fl_7 rfl rfl rfl dX9_flatten_41 ?_
      refine lv_iconst (v := 4) hx hb dX9_flatten_44 (by decide) ?_
      refine lv_iload_n hx hb dX9_flatten_45 rfl (lv_at hl 1 rfl) ?_
      refine lv_iadd hx hb dX9_flatten_46 ?_
      refine lv_iconst (v := 1) hx hb dX9_flatten_47 (by decide) ?_
      refine lv_isub hx hb dX9_flatten_48 ?_
      have z_1 : (4 + a1).toInt = (4 : Int32).toInt + a1.toInt := z_add (by omega) (by omega)
      have z_2 : ((4 + a1) - 1).toInt = (4 + a1).toInt - (1 : Int32).toInt := z_sub (by omega) (by omega)
      refine xald hx hb hK hP 1 0 (k := ((4 + a1) - 1).toNatClampNeg) rfl rfl (vi (by omega) (by omega)) rfl dX9_flatten_49 ?_
      refine lv_istore_n (lv' := [(3, .int (o_road_f ((4 + a1) - 1).toNatClampNeg)), (0, .ref o), (1, .int a1), (2, .int a2)]) hx hb dX9_flatten_50 rfl hl (by decide) rfl (fun ls hl => ?_)
      refine lv_aload_n hx hb dX9_flatten_51 rfl (lv_at hl 1 rfl) ?_
      refine xget hx hb hts hown hK 9 (C2 := RX9) (T := TX9) (N := 23) rfl hin_9 hP 0 rfl 0 (by decide) fl_7 rfl rfl rfl dX9_flatten_52 ?_
      refine lv_iconst (v := 4) hx hb dX9_flatten_55 (by decide) ?_
      refine lv_iload_n hx hb dX9_flatten_56 rfl (lv_at hl 2 rfl) ?_
      refine lv_iadd hx hb dX9_flatten_57 ?_
      refine lv_iconst (v := 1) hx hb dX9_flatten_58 (by decide) ?_
      refine lv_isub hx hb dX9_flatten_59 ?_
      refine lv_iload_n hx hb dX9_flatten_60 rfl (lv_at hl 3 rfl) ?_
      refine xast hx hb hK hP hD hS 1 0 (k := ((4 + a1) - 1).toNatClampNeg) rfl rfl (vi (by omega) (by omega)) rfl dX9_flatten_61 [(o, .inr (9, [.ref o_road, .ref o_told, .ref o_fresh, .ref o_was, .int u3, .ref o_kept, .ref o_isKept, .ref o_sights, .int o_many, .ref o_text, .int o_letters, .int 0, .int o_cursor, .int o_token, .int o_start, .long o_value, .int o_isFault, .int o_faultAt, .int o_above, .int o_below, .ref o_topOf, .ref o_partsOf, .ref o_sent])), (o_road, .inl (cI, 36, .inl (upd o_road_f ((4 + a1) - 1).toNatClampNeg a2))), (o_was, .inl (cI, 288, .inl u4))] rfl (fun H locs hP hD hS => ?_)
      refine lv_iload_n hx hb dX9_flatten_62 rfl (lv_at hl 0 rfl) ?_
      exact hret _ _ _ _ (o_road_f ((4 + a1) - 1).toNatClampNeg) (u3, (upd o_road_f ((4 + a1) - 1).toNatClampNeg a2), u4) dX9_flatten_63 ((hF.trans (by simp only [fX9_flatten, xlet, if_neg c_1, if_neg c_2, ↓hw_3])).symm) hP hD hS
    · refine lv_bipush (v := (-3)) hx hb dX9_flatten_33 (by decide) ?_
      exact hret _ _ _ _ (-3) (o_acts, o_road_f, o_was_f) dX9_flatten_35 ((hF.trans (by simp only [fX9_flatten, xlet, if_neg c_1, if_pos c_2])).symm) hP hD hS
set_option maxRecDepth 20000 in
theorem ggX9_mile_X9_in : GoodIn wsX9_mile wsX9_in := goodIn_r _ [7] (by decide +kernel) (by decide +kernel)
set_option maxRecDepth 20000 in
theorem gX9_mile_X9_in : GoodIn wsX9_mile (va_wsS RX9 52 yX9_in wsX9_in) := goodIn_app (goodIn_of _ (by decide +kernel)) ggX9_mile_X9_in
set_option maxRecDepth 20000 in
theorem ggX9_mile_X9_keepAct : GoodIn wsX9_mile wsX9_keepAct := goodIn_r _ [11, 12, 13, 3, 14, 15, 16, 17, 18, 19, 20, 21, 22, 23, 24, 25, 26, 27, 28, 29, 30, 31, 32, 33, 34, 35, 36] (by decide +kernel) (by decide +kernel)
set_option maxRecDepth 20000 in
theorem gX9_mile_X9_keepAct : GoodIn wsX9_mile (wsV RX9 154 RX9 yX9_keepAct wsX9_keepAct) := goodIn_app (goodIn_of _ (by decide +kernel)) ggX9_mile_X9_keepAct
theorem dX9_mile_0 : decode cX9_mile 0 = .ok (.aload_n 0, 1) := by decide +kernel
theorem dX9_mile_1 : decode cX9_mile 1 = .ok (.iconst 0, 1) := by decide +kernel
theorem dX9_mile_2 : decode cX9_mile 2 = .ok (.putfield 48, 3) := by decide +kernel
theorem dX9_mile_5 : decode cX9_mile 5 = .ok (.iload_n 1, 1) := by decide +kernel
theorem dX9_mile_6 : decode cX9_mile 6 = .ok (.i2l, 1) := by decide +kernel
theorem dX9_mile_7 : decode cX9_mile 7 = .ok (.lconst 1, 1) := by decide +kernel
theorem dX9_mile_8 : decode cX9_mile 8 = .ok (.ldc2_w 159, 3) := by decide +kernel
theorem dX9_mile_11 : decode cX9_mile 11 = .ok (.invokestatic 52, 3) := by decide +kernel
theorem dX9_mile_14 : decode cX9_mile 14 = .ok (.ifCond .ne 6, 3) := by decide +kernel
theorem dX9_mile_17 : decode cX9_mile 17 = .ok (.bipush (-3), 2) := by decide +kernel
theorem dX9_mile_19 : decode cX9_mile 19 = .ok (.ireturn, 1) := by decide +kernel
theorem dX9_mile_20 : decode cX9_mile 20 = .ok (.aload_n 0, 1) := by decide +kernel
theorem dX9_mile_21 : decode cX9_mile 21 = .ok (.invokevirtual 154, 3) := by decide +kernel
theorem dX9_mile_24 : decode cX9_mile 24 = .ok (.aload_n 0, 1) := by decide +kernel
theorem dX9_mile_25 : decode cX9_mile 25 = .ok (.getfield 7, 3) := by decide +kernel
theorem dX9_mile_28 : decode cX9_mile 28 = .ok (.iconst 1, 1) := by decide +kernel
theorem dX9_mile_29 : decode cX9_mile 29 = .ok (.iaload, 1) := by decide +kernel
theorem dX9_mile_30 : decode cX9_mile 30 = .ok (.istore_n 2, 1) := by decide +kernel
theorem dX9_mile_31 : decode cX9_mile 31 = .ok (.aload_n 0, 1) := by decide +kernel
theorem dX9_mile_32 : decode cX9_mile 32 = .ok (.getfield 7, 3) := by decide +kernel
theorem dX9_mile_35 : decode cX9_mile 35 = .ok (.iconst 1, 1) := by decide +kernel
theorem dX9_mile_36 : decode cX9_mile 36 = .ok (.iload_n 1, 1) := by decide +kernel
theorem dX9_mile_37 : decode cX9_mile 37 = .ok (.iastore, 1) := by decide +kernel
theorem dX9_mile_38 : decode cX9_mile 38 = .ok (.iload_n 2, 1) := by decide +kernel
theorem dX9_mile_39 : decode cX9_mile 39 = .ok (.ireturn, 1) := by decide +kernel
def fX9_mile (a1 : Int32) (o_acts : Int32) (o_was_f : Nat → Int32) (o_road_f : Nat → Int32) : Int32 × Int32 × (Nat → Int32) × (Nat → Int32) := if (fX9_in a1.toInt64 1 40) = 0 then (((-3), o_acts, o_was_f, o_road_f)) else (match fX9_keepAct o_acts o_was_f o_road_f with | (u2, u3) => ((o_road_f 1), u2, u3, (upd o_road_f 1 a1)))
set_option maxHeartbeats 4000000 in
set_option maxRecDepth 100000 in
theorem c_X9_mile (l : Launch) (D : va_G) (cI cZ : ClassId) (sz : Nat) (o : Nat) (a1 : Int32) (o_road : Nat) (o_told : Nat) (o_fresh : Nat) (o_was : Nat) (o_acts : Int32) (o_kept : Nat) (o_isKept : Nat) (o_sights : Nat) (o_many : Int32) (o_text : Nat) (o_letters : Int32) (o_thrown : Int32) (o_cursor : Int32) (o_token : Int32) (o_start : Int32) (o_value : Int64) (o_isFault : Int32) (o_faultAt : Int32) (o_above : Int32) (o_below : Int32) (o_topOf : Nat) (o_partsOf : Nat) (o_sent : Nat) (o_was_f : Nat → Int32) (o_road_f : Nat → Int32) (hac0 : 0 ≤ o_acts.toInt) (hac8 : o_acts.toInt ≤ 8) : Met l yX9_mile wsX9_mile ({ frames := 1, cells := 0, slots := 0, locals := 25 } : Room) (va_Pc [.ref o, .int a1] (xP D cI cZ [(o, .inr (9, [.ref o_road, .ref o_told, .ref o_fresh, .ref o_was, .int o_acts, .ref o_kept, .ref o_isKept, .ref o_sights, .int o_many, .ref o_text, .int o_letters, .int o_thrown, .int o_cursor, .int o_token, .int o_start, .long o_value, .int o_isFault, .int o_faultAt, .int o_above, .int o_below, .ref o_topOf, .ref o_partsOf, .ref o_sent])), (o_was, .inl (cI, 288, .inl o_was_f)), (o_road, .inl (cI, 36, .inl o_road_f))] sz)) (va_Qi (fun (r : Int32) (u : Int32 × (Nat → Int32) × (Nat → Int32)) => (r, u) = fX9_mile a1 o_acts o_was_f o_road_f) (fun (u : Int32 × (Nat → Int32) × (Nat → Int32)) t => xB D cI cZ [(o, .inr (9, [.ref o_road, .ref o_told, .ref o_fresh, .ref o_was, .int u.1, .ref o_kept, .ref o_isKept, .ref o_sights, .int o_many, .ref o_text, .int o_letters, .int 0, .int o_cursor, .int o_token, .int o_start, .long o_value, .int o_isFault, .int o_faultAt, .int o_above, .int o_below, .ref o_topOf, .ref o_partsOf, .ref o_sent])), (o_was, .inl (cI, 288, .inl u.2.1)), (o_road, .inl (cI, 36, .inl u.2.2))] (va_A [(o, .inr (9, [.ref o_road, .ref o_told, .ref o_fresh, .ref o_was, .int o_acts, .ref o_kept, .ref o_isKept, .ref o_sights, .int o_many, .ref o_text, .int o_letters, .int o_thrown, .int o_cursor, .int o_token, .int o_start, .long o_value, .int o_isFault, .int o_faultAt, .int o_above, .int o_below, .ref o_topOf, .ref o_partsOf, .ref o_sent])), (o_was, .inl (cI, 288, .inl o_was_f)), (o_road, .inl (cI, 36, .inl o_road_f))] sz) t) (va_A [(o, .inr (9, [.ref o_road, .ref o_told, .ref o_fresh, .ref o_was, .int o_acts, .ref o_kept, .ref o_isKept, .ref o_sights, .int o_many, .ref o_text, .int o_letters, .int o_thrown, .int o_cursor, .int o_token, .int o_start, .long o_value, .int o_isFault, .int o_faultAt, .int o_above, .int o_below, .ref o_topOf, .ref o_partsOf, .ref o_sent])), (o_was, .inl (cI, 288, .inl o_was_f)), (o_road, .inl (cI, 36, .inl o_road_f))] sz)) 0 0 (va_A [(o, .inr (9, [.ref o_road, .ref o_told, .ref o_fresh, .ref o_was, .int o_acts, .ref o_kept, .ref o_isKept, .ref o_sights, .int o_many, .ref o_text, .int o_letters, .int o_thrown, .int o_cursor, .int o_token, .int o_start, .long o_value, .int o_isFault, .int o_faultAt, .int o_above, .int o_below, .ref o_topOf, .ref o_partsOf, .ref o_sent])), (o_was, .inl (cI, 288, .inl o_was_f)), (o_road, .inl (cI, 36, .inl o_road_f))] sz) := by
  refine Met.ofW (cc := cX9_mile) (maxL := 3) (ret := (some .int)) (by decide) rfl ?_
  intro p e s m args below meth c s₁ B hml hv
  obtain ⟨hargs, hsz, hP, hK, hD0, hE⟩ := hv
  subst hargs
  have hx := B.exec
  have hb := B.bytes
  have hr := B.returns
  have hts := atoms_spec (ws := wsX9_mile) B.pre
  have hown : s.vm.findClass RX9 = some m.cls := findClass_of_methodNamed B.named
  have hlocks := B.notSynchronized
  subst hsz
  have hD := hD0.self (sz := s.heap.size)
  generalize hAe : va_A [(o, .inr (9, [.ref o_road, .ref o_told, .ref o_fresh, .ref o_was, .int o_acts, .ref o_kept, .ref o_isKept, .ref o_sights, .int o_many, .ref o_text, .int o_letters, .int o_thrown, .int o_cursor, .int o_token, .int o_start, .long o_value, .int o_isFault, .int o_faultAt, .int o_above, .int o_below, .ref o_topOf, .ref o_partsOf, .ref o_sent])), (o_was, .inl (cI, 288, .inl o_was_f)), (o_road, .inl (cI, 36, .inl o_road_f))] s.heap.size = A at hD ⊢
  have hA : ∀ q : Nat, s.heap.size ≤ q → A q := fun q h => by rw [← hAe]; exact Or.inr h
  have hS : va_S A s.heap s.heap [] := va_S.rf
  have hl := lv_entry ([.ref o, .int a1]) (n := 3) (Nat.le_of_ble_eq_true rfl)
  rw [lg_entry_eq]
  generalize (lg_sl ([.ref o, .int a1]) ++ List.replicate (3 - (lg_sl ([.ref o, .int a1])).length) Slot.unset).toArray = ls at hl ⊢
  have hl : lv_has ls 3 [(0, .ref o), (1, .int a1)] := hl
  refine wq (X := fun Q => ∀ (pc : Nat) (H : Heap) (locs : List Loc) (ls : Array Slot) (r : Int32) (u : Int32 × (Nat → Int32) × (Nat → Int32)) (hd : decode cX9_mile pc = .ok (.ireturn, 1)) (hp : (r, u) = fX9_mile a1 o_acts o_was_f o_road_f) (hP : va_P D vwCl [(o, .inr (9, [.ref o_road, .ref o_told, .ref o_fresh, .ref o_was, .int u.1, .ref o_kept, .ref o_isKept, .ref o_sights, .int o_many, .ref o_text, .int o_letters, .int 0, .int o_cursor, .int o_token, .int o_start, .long o_value, .int o_isFault, .int o_faultAt, .int o_above, .int o_below, .ref o_topOf, .ref o_partsOf, .ref o_sent])), (o_was, .inl (cI, 288, .inl u.2.1)), (o_road, .inl (cI, 36, .inl u.2.2))] H) (hD : va_D A [(o, .inr (9, [.ref o_road, .ref o_told, .ref o_fresh, .ref o_was, .int u.1, .ref o_kept, .ref o_isKept, .ref o_sights, .int o_many, .ref o_text, .int o_letters, .int 0, .int o_cursor, .int o_token, .int o_start, .long o_value, .int o_isFault, .int o_faultAt, .int o_above, .int o_below, .ref o_topOf, .ref o_partsOf, .ref o_sent])), (o_was, .inl (cI, 288, .inl u.2.1)), (o_road, .inl (cI, 36, .inl u.2.2))]) (hS : va_S A s.heap H locs), W p l e ({ frames := 1, cells := 0, slots := 0, locals := 25 } : Room) s m ([.ref o, .int a1] : List Value).toArray below meth c H locs 0 0 Q (F0 m pc ls [.int r])) ?_ (fun Q hret => ?_)
  · intro pc H locs ls r u hd hp hP hD hS
    exact W.iret (v := r) hx hb hr (fun t ht hW => ⟨⟨r, u, rfl, hp, by rw [ht]; exact hP, va_K.moved hW.alike hK, hD⟩, hS.F ht⟩) hS.2.2 hd
  have hin_9 : ∀ w ∈ u_ws RX9 TX9 23, w ∈ wsX9_mile := by decide +kernel
  have fl_7 := hts (.fieldLink RX9 7 "MileRoadModel" "road" "[I") (by decide +kernel)
  have fl_48 := hts (.fieldLink RX9 48 "MileRoadModel" "thrown" "I") (by decide +kernel)
  have zl_0 : (0 : Int32).toInt = 0 := by decide
  have hF : fX9_mile a1 o_acts o_was_f o_road_f = fX9_mile a1 o_acts o_was_f o_road_f := rfl
  refine lv_aload_n hx hb dX9_mile_0 rfl (lv_at hl 0 rfl) ?_
  refine lv_iconst (v := 0) hx hb dX9_mile_1 (by decide) ?_
  refine xput hx hb hts hown hK 9 (C2 := RX9) (T := TX9) (N := 23) tyX9 rfl tyX9_ok nmX9 hin_9 hP hD hS 0 rfl 11 (by decide) fl_48 rfl rfl rfl rfl rfl (Nat.le_of_ble_eq_true rfl) dX9_mile_2 [(o, .inr (9, [.ref o_road, .ref o_told, .ref o_fresh, .ref o_was, .int o_acts, .ref o_kept, .ref o_isKept, .ref o_sights, .int o_many, .ref o_text, .int o_letters, .int 0, .int o_cursor, .int o_token, .int o_start, .long o_value, .int o_isFault, .int o_faultAt, .int o_above, .int o_below, .ref o_topOf, .ref o_partsOf, .ref o_sent])), (o_was, .inl (cI, 288, .inl o_was_f)), (o_road, .inl (cI, 36, .inl o_road_f))] rfl (fun H locs hP hD hS => ?_)
  refine lv_iload_n hx hb dX9_mile_5 rfl (lv_at hl 1 rfl) ?_
  refine lv_i2l (v := a1.toInt64) hx hb dX9_mile_6 rfl ?_
  refine lv_lconst (v := 1) hx hb dX9_mile_7 (by decide) ?_
  refine lv_ldc2 (v := 40) hx hb hown (hts (.constantLong RX9 159 40) (by decide +kernel)) dX9_mile_8 ?_
  refine xcalli (S := Unit) (Wc := []) (wr := [(o, .inr (9, [.ref o_road, .ref o_told, .ref o_fresh, .ref o_was, .int o_acts, .ref o_kept, .ref o_isKept, .ref o_sights, .int o_many, .ref o_text, .int o_letters, .int 0, .int o_cursor, .int o_token, .int o_start, .long o_value, .int o_isFault, .int o_faultAt, .int o_above, .int o_below, .ref o_topOf, .ref o_partsOf, .ref o_sent])), (o_was, .inl (cI, 288, .inl o_was_f)), (o_road, .inl (cI, 36, .inl o_road_f))]) (W1 := (fun (u : Unit) => [])) (Wn := (fun (u : Unit) => [(o, .inr (9, [.ref o_road, .ref o_told, .ref o_fresh, .ref o_was, .int o_acts, .ref o_kept, .ref o_isKept, .ref o_sights, .int o_many, .ref o_text, .int o_letters, .int 0, .int o_cursor, .int o_token, .int o_start, .long o_value, .int o_isFault, .int o_faultAt, .int o_above, .int o_below, .ref o_topOf, .ref o_partsOf, .ref o_sent])), (o_was, .inl (cI, 288, .inl o_was_f)), (o_road, .inl (cI, 36, .inl o_road_f))])) (xrunS hx hb hml hown hts (c_X9_in l D cI cZ _ a1.toInt64 1 40 ) (va_cwS 3 hts gX9_mile_X9_in rfl rfl rfl (by decide +kernel) ⟨Nat.le_of_ble_eq_true rfl, Nat.le_of_ble_eq_true rfl⟩) hE hK hP hD [] rfl rfl rfl hl.1 rfl (Nat.le_of_ble_eq_true rfl) dX9_mile_11 ⟨Nat.le_of_ble_eq_true rfl, Nat.le_of_ble_eq_true rfl⟩) hP hD hS hA [] [0, 1, 2] [0, 1, 2] rfl rfl rfl (by decide) (fun _ => rfl) rfl (fun r1 u H locs hw hz hP hD hS => ?_)
  subst hw
  refine lv_if_ne (tgt := 20) hx hb dX9_mile_14 (by decide) (fun c_1 => ?_) (fun c_1 => ?_)
  · have kb_c_1 : 1 ≤ a1.toInt ∧ a1.toInt ≤ 40 := in_b c_1 (by decide) (by decide)
    refine lv_aload_n hx hb dX9_mile_20 rfl (lv_at hl 0 rfl) ?_
    refine xcallv (S := Int32 × (Nat → Int32)) (Wc := [(o, .inr (9, [.ref o_road, .ref o_told, .ref o_fresh, .ref o_was, .int o_acts, .ref o_kept, .ref o_isKept, .ref o_sights, .int o_many, .ref o_text, .int o_letters, .int 0, .int o_cursor, .int o_token, .int o_start, .long o_value, .int o_isFault, .int o_faultAt, .int o_above, .int o_below, .ref o_topOf, .ref o_partsOf, .ref o_sent])), (o_was, .inl (cI, 288, .inl o_was_f)), (o_road, .inl (cI, 36, .inl o_road_f))]) (wr := []) (W1 := (fun (u : Int32 × (Nat → Int32)) => [(o, .inr (9, [.ref o_road, .ref o_told, .ref o_fresh, .ref o_was, .int u.1, .ref o_kept, .ref o_isKept, .ref o_sights, .int o_many, .ref o_text, .int o_letters, .int 0, .int o_cursor, .int o_token, .int o_start, .long o_value, .int o_isFault, .int o_faultAt, .int o_above, .int o_below, .ref o_topOf, .ref o_partsOf, .ref o_sent])), (o_was, .inl (cI, 288, .inl u.2)), (o_road, .inl (cI, 36, .inl o_road_f))])) (Wn := (fun (u : Int32 × (Nat → Int32)) => [(o, .inr (9, [.ref o_road, .ref o_told, .ref o_fresh, .ref o_was, .int u.1, .ref o_kept, .ref o_isKept, .ref o_sights, .int o_many, .ref o_text, .int o_letters, .int 0, .int o_cursor, .int o_token, .int o_start, .long o_value, .int o_isFault, .int o_faultAt, .int o_above, .int o_below, .ref o_topOf, .ref o_partsOf, .ref o_sent])), (o_was, .inl (cI, 288, .inl u.2)), (o_road, .inl (cI, 36, .inl o_road_f))])) (xrunV hx hb hml hown hts (c_X9_keepAct l D cI cZ _ o o_road o_told o_fresh o_was o_acts o_kept o_isKept o_sights o_many o_text o_letters 0 o_cursor o_token o_start o_value o_isFault o_faultAt o_above o_below o_topOf o_partsOf o_sent o_was_f o_road_f hac0 hac8) (cwV 0 hts gX9_mile_X9_keepAct rfl rfl rfl (by decide +kernel) ⟨Nat.le_of_ble_eq_true rfl, Nat.le_of_ble_eq_true rfl⟩) hE hK hP hD [0, 1, 2] rfl rfl 0 9 (T := TX9) (N := 23) rfl rfl rfl hl.1 rfl (Nat.le_of_ble_eq_true rfl) dX9_mile_21 ⟨Nat.le_of_ble_eq_true rfl, Nat.le_of_ble_eq_true rfl⟩) hP hD hS hA [0, 1, 2] [] [0, 1, 2] rfl rfl rfl (by decide) (fun _ => rfl) rfl (fun  u H locs hw hz hP hD hS => ?_)
    obtain ⟨u2, u3⟩ := u
    have hw_2 := hw.symm
    have hP : va_P D vwCl [(o, .inr (9, [.ref o_road, .ref o_told, .ref o_fresh, .ref o_was, .int u2, .ref o_kept, .ref o_isKept, .ref o_sights, .int o_many, .ref o_text, .int o_letters, .int 0, .int o_cursor, .int o_token, .int o_start, .long o_value, .int o_isFault, .int o_faultAt, .int o_above, .int o_below, .ref o_topOf, .ref o_partsOf, .ref o_sent])), (o_was, .inl (cI, 288, .inl u3)), (o_road, .inl (cI, 36, .inl o_road_f))] H := hP
    have hD : va_D A [(o, .inr (9, [.ref o_road, .ref o_told, .ref o_fresh, .ref o_was, .int u2, .ref o_kept, .ref o_isKept, .ref o_sights, .int o_many, .ref o_text, .int o_letters, .int 0, .int o_cursor, .int o_token, .int o_start, .long o_value, .int o_isFault, .int o_faultAt, .int o_above, .int o_below, .ref o_topOf, .ref o_partsOf, .ref o_sent])), (o_was, .inl (cI, 288, .inl u3)), (o_road, .inl (cI, 36, .inl o_road_f))] := hD
    refine lv_aload_n hx hb dX9_mile_24 rfl (lv_at hl 0 rfl) ?_
    refine xget hx hb hts hown hK 9 (C2 := RX9) (T := TX9) (N := 23) rfl hin_9 hP 0 rfl 0 (by decide) fl_7 rfl rfl rfl dX9_mile_25 ?_
    refine lv_iconst (v := 1) hx hb dX9_mile_28 (by decide) ?_
    refine xald hx hb hK hP 2 0 (k := 1) rfl rfl (vi (by decide) (by decide)) (by decide) dX9_mile_29 ?_
    refine lv_istore_n (lv' := [(2, .int (o_road_f 1)), (0, .ref o), (1, .int a1)]) hx hb dX9_mile_30 rfl hl (by decide) rfl (fun ls hl => ?_)
    refine lv_aload_n hx hb dX9_mile_31 rfl (lv_at hl 1 rfl) ?_
    refine xget hx hb hts hown hK 9 (C2 := RX9) (T := TX9) (N := 23) rfl hin_9 hP 0 rfl 0 (by decide) fl_7 rfl rfl rfl dX9_mile_32 ?_
    refine lv_iconst (v := 1) hx hb dX9_mile_35 (by decide) ?_
    refine lv_iload_n hx hb dX9_mile_36 rfl (lv_at hl 2 rfl) ?_
    refine xast hx hb hK hP hD hS 2 0 (k := 1) rfl rfl (vi (by decide) (by decide)) (by decide) dX9_mile_37 [(o, .inr (9, [.ref o_road, .ref o_told, .ref o_fresh, .ref o_was, .int u2, .ref o_kept, .ref o_isKept, .ref o_sights, .int o_many, .ref o_text, .int o_letters, .int 0, .int o_cursor, .int o_token, .int o_start, .long o_value, .int o_isFault, .int o_faultAt, .int o_above, .int o_below, .ref o_topOf, .ref o_partsOf, .ref o_sent])), (o_was, .inl (cI, 288, .inl u3)), (o_road, .inl (cI, 36, .inl (upd o_road_f 1 a1)))] rfl (fun H locs hP hD hS => ?_)
    refine lv_iload_n hx hb dX9_mile_38 rfl (lv_at hl 0 rfl) ?_
    exact hret _ _ _ _ (o_road_f 1) (u2, u3, (upd o_road_f 1 a1)) dX9_mile_39 ((hF.trans (by simp only [fX9_mile, xlet, if_neg c_1, ↓hw_2])).symm) hP hD hS
  · refine lv_bipush (v := (-3)) hx hb dX9_mile_17 (by decide) ?_
    exact hret _ _ _ _ (-3) (o_acts, o_was_f, o_road_f) dX9_mile_19 ((hF.trans (by simp only [fX9_mile, xlet, if_pos c_1])).symm) hP hD hS
theorem dX9_undo_0 : decode cX9_undo 0 = .ok (.aload_n 0, 1) := by decide +kernel
theorem dX9_undo_1 : decode cX9_undo 1 = .ok (.iconst 0, 1) := by decide +kernel
theorem dX9_undo_2 : decode cX9_undo 2 = .ok (.putfield 48, 3) := by decide +kernel
theorem dX9_undo_5 : decode cX9_undo 5 = .ok (.aload_n 0, 1) := by decide +kernel
theorem dX9_undo_6 : decode cX9_undo 6 = .ok (.getfield 131, 3) := by decide +kernel
theorem dX9_undo_9 : decode cX9_undo 9 = .ok (.ifCond .ne 6, 3) := by decide +kernel
theorem dX9_undo_12 : decode cX9_undo 12 = .ok (.bipush (-4), 2) := by decide +kernel
theorem dX9_undo_14 : decode cX9_undo 14 = .ok (.ireturn, 1) := by decide +kernel
theorem dX9_undo_15 : decode cX9_undo 15 = .ok (.aload_n 0, 1) := by decide +kernel
theorem dX9_undo_16 : decode cX9_undo 16 = .ok (.dup, 1) := by decide +kernel
theorem dX9_undo_17 : decode cX9_undo 17 = .ok (.getfield 131, 3) := by decide +kernel
theorem dX9_undo_20 : decode cX9_undo 20 = .ok (.iconst 1, 1) := by decide +kernel
theorem dX9_undo_21 : decode cX9_undo 21 = .ok (.isub, 1) := by decide +kernel
theorem dX9_undo_22 : decode cX9_undo 22 = .ok (.putfield 131, 3) := by decide +kernel
theorem dX9_undo_25 : decode cX9_undo 25 = .ok (.iconst 0, 1) := by decide +kernel
theorem dX9_undo_26 : decode cX9_undo 26 = .ok (.istore_n 1, 1) := by decide +kernel
theorem dX9_undo_27 : decode cX9_undo 27 = .ok (.iload_n 1, 1) := by decide +kernel
theorem dX9_undo_28 : decode cX9_undo 28 = .ok (.bipush 36, 2) := by decide +kernel
theorem dX9_undo_30 : decode cX9_undo 30 = .ok (.if_icmp .ge 29, 3) := by decide +kernel
theorem dX9_undo_33 : decode cX9_undo 33 = .ok (.aload_n 0, 1) := by decide +kernel
theorem dX9_undo_34 : decode cX9_undo 34 = .ok (.getfield 7, 3) := by decide +kernel
theorem dX9_undo_37 : decode cX9_undo 37 = .ok (.iload_n 1, 1) := by decide +kernel
theorem dX9_undo_38 : decode cX9_undo 38 = .ok (.aload_n 0, 1) := by decide +kernel
theorem dX9_undo_39 : decode cX9_undo 39 = .ok (.getfield 19, 3) := by decide +kernel
theorem dX9_undo_42 : decode cX9_undo 42 = .ok (.bipush 36, 2) := by decide +kernel
theorem dX9_undo_44 : decode cX9_undo 44 = .ok (.aload_n 0, 1) := by decide +kernel
theorem dX9_undo_45 : decode cX9_undo 45 = .ok (.getfield 131, 3) := by decide +kernel
theorem dX9_undo_48 : decode cX9_undo 48 = .ok (.imul, 1) := by decide +kernel
theorem dX9_undo_49 : decode cX9_undo 49 = .ok (.iload_n 1, 1) := by decide +kernel
theorem dX9_undo_50 : decode cX9_undo 50 = .ok (.iadd, 1) := by decide +kernel
theorem dX9_undo_51 : decode cX9_undo 51 = .ok (.iaload, 1) := by decide +kernel
theorem dX9_undo_52 : decode cX9_undo 52 = .ok (.iastore, 1) := by decide +kernel
theorem dX9_undo_53 : decode cX9_undo 53 = .ok (.iinc 1 1, 3) := by decide +kernel
theorem dX9_undo_56 : decode cX9_undo 56 = .ok (.goto (-29), 3) := by decide +kernel
theorem dX9_undo_59 : decode cX9_undo 59 = .ok (.aload_n 0, 1) := by decide +kernel
theorem dX9_undo_60 : decode cX9_undo 60 = .ok (.getfield 131, 3) := by decide +kernel
theorem dX9_undo_63 : decode cX9_undo 63 = .ok (.ireturn, 1) := by decide +kernel
def fX9_undo_27 (o_acts : Int32) (o_was_f : Nat → Int32)  : Nat → (Nat → Int32) → Int32 → Int32 × Int32 × (Nat → Int32)
  | 0, _, _ => default
  | n + 1, o_road_f_27, v27_1 => if 36 ≤ v27_1 then (((o_acts - 1), (o_acts - 1), o_road_f_27)) else (fX9_undo_27 o_acts o_was_f n (upd o_road_f_27 v27_1.toNatClampNeg (o_was_f ((36 * (o_acts - 1)) + v27_1).toNatClampNeg)) (v27_1 + 1))
def fX9_undo (o_acts : Int32) (o_was_f : Nat → Int32) (o_road_f : Nat → Int32) : Int32 × Int32 × (Nat → Int32) := if o_acts = 0 then (((-4), o_acts, o_road_f)) else (fX9_undo_27 o_acts o_was_f 1000 o_road_f 0)
set_option maxHeartbeats 4000000 in
set_option maxRecDepth 100000 in
theorem c_X9_undo (l : Launch) (D : va_G) (cI cZ : ClassId) (sz : Nat) (o : Nat) (o_road : Nat) (o_told : Nat) (o_fresh : Nat) (o_was : Nat) (o_acts : Int32) (o_kept : Nat) (o_isKept : Nat) (o_sights : Nat) (o_many : Int32) (o_text : Nat) (o_letters : Int32) (o_thrown : Int32) (o_cursor : Int32) (o_token : Int32) (o_start : Int32) (o_value : Int64) (o_isFault : Int32) (o_faultAt : Int32) (o_above : Int32) (o_below : Int32) (o_topOf : Nat) (o_partsOf : Nat) (o_sent : Nat) (o_was_f : Nat → Int32) (o_road_f : Nat → Int32) (hac0 : 0 ≤ o_acts.toInt) (hac8 : o_acts.toInt ≤ 8) : Met l yX9_undo wsX9_undo ({ frames := 0, cells := 0, slots := 0, locals := 0 } : Room) (va_Pc [.ref o] (xP D cI cZ [(o, .inr (9, [.ref o_road, .ref o_told, .ref o_fresh, .ref o_was, .int o_acts, .ref o_kept, .ref o_isKept, .ref o_sights, .int o_many, .ref o_text, .int o_letters, .int o_thrown, .int o_cursor, .int o_token, .int o_start, .long o_value, .int o_isFault, .int o_faultAt, .int o_above, .int o_below, .ref o_topOf, .ref o_partsOf, .ref o_sent])), (o_was, .inl (cI, 288, .inl o_was_f)), (o_road, .inl (cI, 36, .inl o_road_f))] sz)) (va_Qi (fun (r : Int32) (u : Int32 × (Nat → Int32)) => (r, u) = fX9_undo o_acts o_was_f o_road_f) (fun (u : Int32 × (Nat → Int32)) t => xB D cI cZ [(o, .inr (9, [.ref o_road, .ref o_told, .ref o_fresh, .ref o_was, .int u.1, .ref o_kept, .ref o_isKept, .ref o_sights, .int o_many, .ref o_text, .int o_letters, .int 0, .int o_cursor, .int o_token, .int o_start, .long o_value, .int o_isFault, .int o_faultAt, .int o_above, .int o_below, .ref o_topOf, .ref o_partsOf, .ref o_sent])), (o_was, .inl (cI, 288, .inl o_was_f)), (o_road, .inl (cI, 36, .inl u.2))] (va_A [(o, .inr (9, [.ref o_road, .ref o_told, .ref o_fresh, .ref o_was, .int o_acts, .ref o_kept, .ref o_isKept, .ref o_sights, .int o_many, .ref o_text, .int o_letters, .int o_thrown, .int o_cursor, .int o_token, .int o_start, .long o_value, .int o_isFault, .int o_faultAt, .int o_above, .int o_below, .ref o_topOf, .ref o_partsOf, .ref o_sent])), (o_was, .inl (cI, 288, .inl o_was_f)), (o_road, .inl (cI, 36, .inl o_road_f))] sz) t) (va_A [(o, .inr (9, [.ref o_road, .ref o_told, .ref o_fresh, .ref o_was, .int o_acts, .ref o_kept, .ref o_isKept, .ref o_sights, .int o_many, .ref o_text, .int o_letters, .int o_thrown, .int o_cursor, .int o_token, .int o_start, .long o_value, .int o_isFault, .int o_faultAt, .int o_above, .int o_below, .ref o_topOf, .ref o_partsOf, .ref o_sent])), (o_was, .inl (cI, 288, .inl o_was_f)), (o_road, .inl (cI, 36, .inl o_road_f))] sz)) 0 0 (va_A [(o, .inr (9, [.ref o_road, .ref o_told, .ref o_fresh, .ref o_was, .int o_acts, .ref o_kept, .ref o_isKept, .ref o_sights, .int o_many, .ref o_text, .int o_letters, .int o_thrown, .int o_cursor, .int o_token, .int o_start, .long o_value, .int o_isFault, .int o_faultAt, .int o_above, .int o_below, .ref o_topOf, .ref o_partsOf, .ref o_sent])), (o_was, .inl (cI, 288, .inl o_was_f)), (o_road, .inl (cI, 36, .inl o_road_f))] sz) := by
  refine Met.ofW (cc := cX9_undo) (maxL := 2) (ret := (some .int)) (by decide) rfl ?_
  intro p e s m args below meth c s₁ B hml hv
  obtain ⟨hargs, hsz, hP, hK, hD0, hE⟩ := hv
  subst hargs
  have hx := B.exec
  have hb := B.bytes
  have hr := B.returns
  have hts := atoms_spec (ws := wsX9_undo) B.pre
  have hown : s.vm.findClass RX9 = some m.cls := findClass_of_methodNamed B.named
  have hlocks := B.notSynchronized
  subst hsz
  have hD := hD0.self (sz := s.heap.size)
  generalize hAe : va_A [(o, .inr (9, [.ref o_road, .ref o_told, .ref o_fresh, .ref o_was, .int o_acts, .ref o_kept, .ref o_isKept, .ref o_sights, .int o_many, .ref o_text, .int o_letters, .int o_thrown, .int o_cursor, .int o_token, .int o_start, .long o_value, .int o_isFault, .int o_faultAt, .int o_above, .int o_below, .ref o_topOf, .ref o_partsOf, .ref o_sent])), (o_was, .inl (cI, 288, .inl o_was_f)), (o_road, .inl (cI, 36, .inl o_road_f))] s.heap.size = A at hD ⊢
  have hA : ∀ q : Nat, s.heap.size ≤ q → A q := fun q h => by rw [← hAe]; exact Or.inr h
  have hS : va_S A s.heap s.heap [] := va_S.rf
  have hl := lv_entry ([.ref o]) (n := 2) (Nat.le_of_ble_eq_true rfl)
  rw [lg_entry_eq]
  generalize (lg_sl ([.ref o]) ++ List.replicate (2 - (lg_sl ([.ref o])).length) Slot.unset).toArray = ls at hl ⊢
  have hl : lv_has ls 2 [(0, .ref o)] := hl
  refine wq (X := fun Q => ∀ (pc : Nat) (H : Heap) (locs : List Loc) (ls : Array Slot) (r : Int32) (u : Int32 × (Nat → Int32)) (hd : decode cX9_undo pc = .ok (.ireturn, 1)) (hp : (r, u) = fX9_undo o_acts o_was_f o_road_f) (hP : va_P D vwCl [(o, .inr (9, [.ref o_road, .ref o_told, .ref o_fresh, .ref o_was, .int u.1, .ref o_kept, .ref o_isKept, .ref o_sights, .int o_many, .ref o_text, .int o_letters, .int 0, .int o_cursor, .int o_token, .int o_start, .long o_value, .int o_isFault, .int o_faultAt, .int o_above, .int o_below, .ref o_topOf, .ref o_partsOf, .ref o_sent])), (o_was, .inl (cI, 288, .inl o_was_f)), (o_road, .inl (cI, 36, .inl u.2))] H) (hD : va_D A [(o, .inr (9, [.ref o_road, .ref o_told, .ref o_fresh, .ref o_was, .int u.1, .ref o_kept, .ref o_isKept, .ref o_sights, .int o_many, .ref o_text, .int o_letters, .int 0, .int o_cursor, .int o_token, .int o_start, .long o_value, .int o_isFault, .int o_faultAt, .int o_above, .int o_below, .ref o_topOf, .ref o_partsOf, .ref o_sent])), (o_was, .inl (cI, 288, .inl o_was_f)), (o_road, .inl (cI, 36, .inl u.2))]) (hS : va_S A s.heap H locs), W p l e ({ frames := 0, cells := 0, slots := 0, locals := 0 } : Room) s m ([.ref o] : List Value).toArray below meth c H locs 0 0 Q (F0 m pc ls [.int r])) ?_ (fun Q hret => ?_)
  · intro pc H locs ls r u hd hp hP hD hS
    exact W.iret (v := r) hx hb hr (fun t ht hW => ⟨⟨r, u, rfl, hp, by rw [ht]; exact hP, va_K.moved hW.alike hK, hD⟩, hS.F ht⟩) hS.2.2 hd
  have hin_9 : ∀ w ∈ u_ws RX9 TX9 23, w ∈ wsX9_undo := by decide +kernel
  have fl_7 := hts (.fieldLink RX9 7 "MileRoadModel" "road" "[I") (by decide +kernel)
  have fl_19 := hts (.fieldLink RX9 19 "MileRoadModel" "was" "[I") (by decide +kernel)
  have fl_48 := hts (.fieldLink RX9 48 "MileRoadModel" "thrown" "I") (by decide +kernel)
  have fl_131 := hts (.fieldLink RX9 131 "MileRoadModel" "acts" "I") (by decide +kernel)
  have zl_0 : (0 : Int32).toInt = 0 := by decide
  have zl_1 : (1 : Int32).toInt = 1 := by decide
  have zl_36 : (36 : Int32).toInt = 36 := by decide
  have hF : fX9_undo o_acts o_was_f o_road_f = fX9_undo o_acts o_was_f o_road_f := rfl
  have L_27 : ∀ (n : Nat) (o_road_f_27 : Nat → Int32) (v27_1 : Int32) (h1_27 : 0 ≤ v27_1.toInt) (h2_27 : v27_1.toInt ≤ 36) (hne : 1 ≤ o_acts.toInt) (hm : 36 - v27_1.toInt < (n : Int)) (H : Heap) (locs : List Loc) (ls : Array Slot) (hl : lv_has ls 2 [(0, .ref o), (1, .int v27_1)]) (hP : va_P D vwCl [(o, .inr (9, [.ref o_road, .ref o_told, .ref o_fresh, .ref o_was, .int (o_acts - 1), .ref o_kept, .ref o_isKept, .ref o_sights, .int o_many, .ref o_text, .int o_letters, .int 0, .int o_cursor, .int o_token, .int o_start, .long o_value, .int o_isFault, .int o_faultAt, .int o_above, .int o_below, .ref o_topOf, .ref o_partsOf, .ref o_sent])), (o_was, .inl (cI, 288, .inl o_was_f)), (o_road, .inl (cI, 36, .inl o_road_f_27))] H) (hD : va_D A [(o, .inr (9, [.ref o_road, .ref o_told, .ref o_fresh, .ref o_was, .int (o_acts - 1), .ref o_kept, .ref o_isKept, .ref o_sights, .int o_many, .ref o_text, .int o_letters, .int 0, .int o_cursor, .int o_token, .int o_start, .long o_value, .int o_isFault, .int o_faultAt, .int o_above, .int o_below, .ref o_topOf, .ref o_partsOf, .ref o_sent])), (o_was, .inl (cI, 288, .inl o_was_f)), (o_road, .inl (cI, 36, .inl o_road_f_27))]) (hS : va_S A s.heap H locs) (hF : fX9_undo o_acts o_was_f o_road_f = fX9_undo_27 o_acts o_was_f n o_road_f_27 v27_1), W p l e ({ frames := 0, cells := 0, slots := 0, locals := 0 } : Room) s m ([.ref o] : List Value).toArray below meth c H locs 0 0 Q (F0 m 27 ls []) := by
    intro n
    induction n with
    | zero =>
      intro o_road_f_27 v27_1 h1_27 h2_27 hne hm H locs ls hl hP hD hS hF
      exact absurd hm (by omega)
    | succ n ih_27 =>
      intro o_road_f_27 v27_1 h1_27 h2_27 hne hm H locs ls hl hP hD hS hF
      have z_a : (o_acts - 1).toInt = o_acts.toInt - (1 : Int32).toInt := z_sub (by omega) (by omega)
      have z_b : (36 * (o_acts - 1)).toInt = 36 * (o_acts - 1).toInt := z_mul 36 rfl (by omega) (by omega)
      refine lv_iload_n hx hb dX9_undo_27 rfl (lv_at hl 1 rfl) ?_
      refine lv_bipush (v := 36) hx hb dX9_undo_28 (by decide) ?_
      refine lv_icmp_ge (tgt := 59) hx hb dX9_undo_30 (by decide) (fun c_2 => ?_) (fun c_2 => ?_)
      · have kc_2 := t_le c_2
        refine lv_aload_n hx hb dX9_undo_59 rfl (lv_at hl 0 rfl) ?_
        refine xget hx hb hts hown hK 9 (C2 := RX9) (T := TX9) (N := 23) rfl hin_9 hP 0 rfl 4 (by decide) fl_131 rfl rfl rfl dX9_undo_60 ?_
        exact hret _ _ _ _ (o_acts - 1) ((o_acts - 1), o_road_f_27) dX9_undo_63 ((hF.trans (by simp only [fX9_undo_27, xlet, if_pos c_2])).symm) hP hD hS
      · have kc_2 := t_nle c_2
        refine lv_aload_n hx hb dX9_undo_33 rfl (lv_at hl 0 rfl) ?_
        refine xget hx hb hts hown hK 9 (C2 := RX9) (T := TX9) (N := 23) rfl hin_9 hP 0 rfl 0 (by decide) fl_7 rfl rfl rfl dX9_undo_34 ?_
        refine lv_iload_n hx hb dX9_undo_37 rfl (lv_at hl 1 rfl) ?_
        refine lv_aload_n hx hb dX9_undo_38 rfl (lv_at hl 0 rfl) ?_
        refine xget hx hb hts hown hK 9 (C2 := RX9) (T := TX9) (N := 23) rfl hin_9 hP 0 rfl 3 (by decide) fl_19 rfl rfl rfl dX9_undo_39 ?_
        refine lv_bipush (v := 36) hx hb dX9_undo_42 (by decide) ?_
        refine lv_aload_n hx hb dX9_undo_44 rfl (lv_at hl 0 rfl) ?_
        refine xget hx hb hts hown hK 9 (C2 := RX9) (T := TX9) (N := 23) rfl hin_9 hP 0 rfl 4 (by decide) fl_131 rfl rfl rfl dX9_undo_45 ?_
        refine lv_imul hx hb dX9_undo_48 ?_
        refine lv_iload_n hx hb dX9_undo_49 rfl (lv_at hl 1 rfl) ?_
        refine lv_iadd hx hb dX9_undo_50 ?_
        have z_1 : (o_acts - 1).toInt = o_acts.toInt - (1 : Int32).toInt := z_sub (by omega) (by omega)
        have z_2 : (36 * (o_acts - 1)).toInt = 36 * (o_acts - 1).toInt := z_mul 36 rfl (by omega) (by omega)
        have z_3 : ((36 * (o_acts - 1)) + v27_1).toInt = (36 * (o_acts - 1)).toInt + v27_1.toInt := z_add (by omega) (by omega)
        refine xald hx hb hK hP 1 0 (k := ((36 * (o_acts - 1)) + v27_1).toNatClampNeg) rfl rfl (vi (by omega) (by omega)) rfl dX9_undo_51 ?_
        refine xast hx hb hK hP hD hS 2 0 (k := v27_1.toNatClampNeg) rfl rfl (vi (by omega) (by omega)) rfl dX9_undo_52 [(o, .inr (9, [.ref o_road, .ref o_told, .ref o_fresh, .ref o_was, .int (o_acts - 1), .ref o_kept, .ref o_isKept, .ref o_sights, .int o_many, .ref o_text, .int o_letters, .int 0, .int o_cursor, .int o_token, .int o_start, .long o_value, .int o_isFault, .int o_faultAt, .int o_above, .int o_below, .ref o_topOf, .ref o_partsOf, .ref o_sent])), (o_was, .inl (cI, 288, .inl o_was_f)), (o_road, .inl (cI, 36, .inl (upd o_road_f_27 v27_1.toNatClampNeg (o_was_f ((36 * (o_acts - 1)) + v27_1).toNatClampNeg))))] rfl (fun H locs hP hD hS => ?_)
        refine lv_iinc (v := (v27_1 + 1)) (lv' := [(1, .int (v27_1 + 1)), (0, .ref o)]) hx hb dX9_undo_53 hl (k := 1) rfl (by rfl) (by decide) rfl (fun ls hl => ?_)
        refine lv_goto (tgt := 27) hx hb dX9_undo_56 (by decide) ?_
        have z_4 : (v27_1 + 1).toInt = v27_1.toInt + (1 : Int32).toInt := z_add (by omega) (by omega)
        exact ih_27 (upd o_road_f_27 v27_1.toNatClampNeg (o_was_f ((36 * (o_acts - 1)) + v27_1).toNatClampNeg)) (v27_1 + 1) (by first | assumption | omega | decide | (split <;> rename_i hh <;> first | (have h9 := t_nlt hh; omega) | (have h9 := t_lt hh; omega) | (have h9 := t_nle hh; omega) | (have h9 := t_le hh; omega))) (by first | assumption | omega | decide | (split <;> rename_i hh <;> first | (have h9 := t_nlt hh; omega) | (have h9 := t_lt hh; omega) | (have h9 := t_nle hh; omega) | (have h9 := t_le hh; omega))) (by first | assumption | omega | decide | (split <;> rename_i hh <;> first | (have h9 := t_nlt hh; omega) | (have h9 := t_lt hh; omega) | (have h9 := t_nle hh; omega) | (have h9 := t_le hh; omega))) (by first | assumption | omega | decide | (split <;> rename_i hh <;> first | (have h9 := t_nlt hh; omega) | (have h9 := t_lt hh; omega) | (have h9 := t_nle hh; omega) | (have h9 := t_le hh; omega))) _ _ _ (lv_sub hl [1, 0] rfl) hP hD hS (hF.trans (by simp only [fX9_undo_27, xlet, if_neg c_2]))
  refine lv_aload_n hx hb dX9_undo_0 rfl (lv_at hl 0 rfl) ?_
  refine lv_iconst (v := 0) hx hb dX9_undo_1 (by decide) ?_
  refine xput hx hb hts hown hK 9 (C2 := RX9) (T := TX9) (N := 23) tyX9 rfl tyX9_ok nmX9 hin_9 hP hD hS 0 rfl 11 (by decide) fl_48 rfl rfl rfl rfl rfl (Nat.le_of_ble_eq_true rfl) dX9_undo_2 [(o, .inr (9, [.ref o_road, .ref o_told, .ref o_fresh, .ref o_was, .int o_acts, .ref o_kept, .ref o_isKept, .ref o_sights, .int o_many, .ref o_text, .int o_letters, .int 0, .int o_cursor, .int o_token, .int o_start, .long o_value, .int o_isFault, .int o_faultAt, .int o_above, .int o_below, .ref o_topOf, .ref o_partsOf, .ref o_sent])), (o_was, .inl (cI, 288, .inl o_was_f)), (o_road, .inl (cI, 36, .inl o_road_f))] rfl (fun H locs hP hD hS => ?_)
  refine lv_aload_n hx hb dX9_undo_5 rfl (lv_at hl 0 rfl) ?_
  refine xget hx hb hts hown hK 9 (C2 := RX9) (T := TX9) (N := 23) rfl hin_9 hP 0 rfl 4 (by decide) fl_131 rfl rfl rfl dX9_undo_6 ?_
  refine lv_if_ne (tgt := 15) hx hb dX9_undo_9 (by decide) (fun c_1 => ?_) (fun c_1 => ?_)
  · have kc_1 := t_neq c_1
    refine lv_aload_n hx hb dX9_undo_15 rfl (lv_at hl 0 rfl) ?_
    refine lv_dup hx hb dX9_undo_16 rfl ?_
    refine xget hx hb hts hown hK 9 (C2 := RX9) (T := TX9) (N := 23) rfl hin_9 hP 0 rfl 4 (by decide) fl_131 rfl rfl rfl dX9_undo_17 ?_
    refine lv_iconst (v := 1) hx hb dX9_undo_20 (by decide) ?_
    refine lv_isub hx hb dX9_undo_21 ?_
    refine xput hx hb hts hown hK 9 (C2 := RX9) (T := TX9) (N := 23) tyX9 rfl tyX9_ok nmX9 hin_9 hP hD hS 0 rfl 4 (by decide) fl_131 rfl rfl rfl rfl rfl (Nat.le_of_ble_eq_true rfl) dX9_undo_22 [(o, .inr (9, [.ref o_road, .ref o_told, .ref o_fresh, .ref o_was, .int (o_acts - 1), .ref o_kept, .ref o_isKept, .ref o_sights, .int o_many, .ref o_text, .int o_letters, .int 0, .int o_cursor, .int o_token, .int o_start, .long o_value, .int o_isFault, .int o_faultAt, .int o_above, .int o_below, .ref o_topOf, .ref o_partsOf, .ref o_sent])), (o_was, .inl (cI, 288, .inl o_was_f)), (o_road, .inl (cI, 36, .inl o_road_f))] rfl (fun H locs hP hD hS => ?_)
    refine lv_iconst (v := 0) hx hb dX9_undo_25 (by decide) ?_
    refine lv_istore_n (lv' := [(1, .int 0), (0, .ref o)]) hx hb dX9_undo_26 rfl hl (by decide) rfl (fun ls hl => ?_)
    exact L_27 1000 o_road_f 0 (by first | assumption | omega | decide | (split <;> rename_i hh <;> first | (have h9 := t_nlt hh; omega) | (have h9 := t_lt hh; omega) | (have h9 := t_nle hh; omega) | (have h9 := t_le hh; omega))) (by first | assumption | omega | decide | (split <;> rename_i hh <;> first | (have h9 := t_nlt hh; omega) | (have h9 := t_lt hh; omega) | (have h9 := t_nle hh; omega) | (have h9 := t_le hh; omega))) (by first | assumption | omega | decide | (split <;> rename_i hh <;> first | (have h9 := t_nlt hh; omega) | (have h9 := t_lt hh; omega) | (have h9 := t_nle hh; omega) | (have h9 := t_le hh; omega))) (by first | assumption | omega | decide | (split <;> rename_i hh <;> first | (have h9 := t_nlt hh; omega) | (have h9 := t_lt hh; omega) | (have h9 := t_nle hh; omega) | (have h9 := t_le hh; omega))) _ _ _ (lv_sub hl [1, 0] rfl) hP hD hS (hF.trans (by simp only [fX9_undo, xlet, if_neg c_1]))
  · have kc_1 := t_eq c_1
    refine lv_bipush (v := (-4)) hx hb dX9_undo_12 (by decide) ?_
    exact hret _ _ _ _ (-4) (o_acts, o_road_f) dX9_undo_14 ((hF.trans (by simp only [fX9_undo, xlet, if_pos c_1])).symm) hP hD hS
set_option maxRecDepth 20000 in
theorem ggX9_keep_X9_in : GoodIn wsX9_keep wsX9_in := goodIn_r _ [8] (by decide +kernel) (by decide +kernel)
set_option maxRecDepth 20000 in
theorem gX9_keep_X9_in : GoodIn wsX9_keep (va_wsS RX9 52 yX9_in wsX9_in) := goodIn_app (goodIn_of _ (by decide +kernel)) ggX9_keep_X9_in
set_option maxRecDepth 20000 in
theorem ggX9_keep_X9_bits : GoodIn wsX9_keep wsX9_bits := goodIn_r _ [11] (by decide +kernel) (by decide +kernel)
set_option maxRecDepth 20000 in
theorem gX9_keep_X9_bits : GoodIn wsX9_keep (va_wsS RX9 161 yX9_bits wsX9_bits) := goodIn_app (goodIn_of _ (by decide +kernel)) ggX9_keep_X9_bits
theorem dX9_keep_0 : decode cX9_keep 0 = .ok (.aload_n 0, 1) := by decide +kernel
theorem dX9_keep_1 : decode cX9_keep 1 = .ok (.iconst 0, 1) := by decide +kernel
theorem dX9_keep_2 : decode cX9_keep 2 = .ok (.putfield 48, 3) := by decide +kernel
theorem dX9_keep_5 : decode cX9_keep 5 = .ok (.iload_n 1, 1) := by decide +kernel
theorem dX9_keep_6 : decode cX9_keep 6 = .ok (.i2l, 1) := by decide +kernel
theorem dX9_keep_7 : decode cX9_keep 7 = .ok (.lconst 0, 1) := by decide +kernel
theorem dX9_keep_8 : decode cX9_keep 8 = .ok (.lconst 1, 1) := by decide +kernel
theorem dX9_keep_9 : decode cX9_keep 9 = .ok (.invokestatic 52, 3) := by decide +kernel
theorem dX9_keep_12 : decode cX9_keep 12 = .ok (.ifCond .ne 6, 3) := by decide +kernel
theorem dX9_keep_15 : decode cX9_keep 15 = .ok (.bipush (-2), 2) := by decide +kernel
theorem dX9_keep_17 : decode cX9_keep 17 = .ok (.ireturn, 1) := by decide +kernel
theorem dX9_keep_18 : decode cX9_keep 18 = .ok (.iconst 0, 1) := by decide +kernel
theorem dX9_keep_19 : decode cX9_keep 19 = .ok (.istore_n 2, 1) := by decide +kernel
theorem dX9_keep_20 : decode cX9_keep 20 = .ok (.iload_n 2, 1) := by decide +kernel
theorem dX9_keep_21 : decode cX9_keep 21 = .ok (.bipush 36, 2) := by decide +kernel
theorem dX9_keep_23 : decode cX9_keep 23 = .ok (.if_icmp .ge 26, 3) := by decide +kernel
theorem dX9_keep_26 : decode cX9_keep 26 = .ok (.aload_n 0, 1) := by decide +kernel
theorem dX9_keep_27 : decode cX9_keep 27 = .ok (.getfield 22, 3) := by decide +kernel
theorem dX9_keep_30 : decode cX9_keep 30 = .ok (.bipush 36, 2) := by decide +kernel
theorem dX9_keep_32 : decode cX9_keep 32 = .ok (.iload_n 1, 1) := by decide +kernel
theorem dX9_keep_33 : decode cX9_keep 33 = .ok (.imul, 1) := by decide +kernel
theorem dX9_keep_34 : decode cX9_keep 34 = .ok (.iload_n 2, 1) := by decide +kernel
theorem dX9_keep_35 : decode cX9_keep 35 = .ok (.iadd, 1) := by decide +kernel
theorem dX9_keep_36 : decode cX9_keep 36 = .ok (.aload_n 0, 1) := by decide +kernel
theorem dX9_keep_37 : decode cX9_keep 37 = .ok (.getfield 7, 3) := by decide +kernel
theorem dX9_keep_40 : decode cX9_keep 40 = .ok (.iload_n 2, 1) := by decide +kernel
theorem dX9_keep_41 : decode cX9_keep 41 = .ok (.iaload, 1) := by decide +kernel
theorem dX9_keep_42 : decode cX9_keep 42 = .ok (.iastore, 1) := by decide +kernel
theorem dX9_keep_43 : decode cX9_keep 43 = .ok (.iinc 2 1, 3) := by decide +kernel
theorem dX9_keep_46 : decode cX9_keep 46 = .ok (.goto (-26), 3) := by decide +kernel
theorem dX9_keep_49 : decode cX9_keep 49 = .ok (.aload_n 0, 1) := by decide +kernel
theorem dX9_keep_50 : decode cX9_keep 50 = .ok (.getfield 25, 3) := by decide +kernel
theorem dX9_keep_53 : decode cX9_keep 53 = .ok (.iload_n 1, 1) := by decide +kernel
theorem dX9_keep_54 : decode cX9_keep 54 = .ok (.iconst 1, 1) := by decide +kernel
theorem dX9_keep_55 : decode cX9_keep 55 = .ok (.bastore, 1) := by decide +kernel
theorem dX9_keep_56 : decode cX9_keep 56 = .ok (.aload_n 0, 1) := by decide +kernel
theorem dX9_keep_57 : decode cX9_keep 57 = .ok (.getfield 7, 3) := by decide +kernel
theorem dX9_keep_60 : decode cX9_keep 60 = .ok (.iconst 3, 1) := by decide +kernel
theorem dX9_keep_61 : decode cX9_keep 61 = .ok (.iaload, 1) := by decide +kernel
theorem dX9_keep_62 : decode cX9_keep 62 = .ok (.invokestatic 161, 3) := by decide +kernel
theorem dX9_keep_65 : decode cX9_keep 65 = .ok (.ireturn, 1) := by decide +kernel
def fX9_keep_20 (a1 : Int32) (o_road_f : Nat → Int32) (o_isKept_f : Nat → Int32)  : Nat → (Nat → Int32) → Int32 → Int32 × (Nat → Int32) × (Nat → Int32)
  | 0, _, _ => default
  | n + 1, o_kept_f_20, v20_2 => if 36 ≤ v20_2 then (((fX9_bits (o_road_f 3)), o_kept_f_20, (upd o_isKept_f a1.toNatClampNeg 1))) else (fX9_keep_20 a1 o_road_f o_isKept_f n (upd o_kept_f_20 ((36 * a1) + v20_2).toNatClampNeg (o_road_f v20_2.toNatClampNeg)) (v20_2 + 1))
def fX9_keep (a1 : Int32) (o_road_f : Nat → Int32) (o_kept_f : Nat → Int32) (o_isKept_f : Nat → Int32) : Int32 × (Nat → Int32) × (Nat → Int32) := if (fX9_in a1.toInt64 0 1) = 0 then (((-2), o_kept_f, o_isKept_f)) else (fX9_keep_20 a1 o_road_f o_isKept_f 1000 o_kept_f 0)
set_option maxHeartbeats 4000000 in
set_option maxRecDepth 100000 in
theorem c_X9_keep (l : Launch) (D : va_G) (cI cZ : ClassId) (sz : Nat) (o : Nat) (a1 : Int32) (o_road : Nat) (o_told : Nat) (o_fresh : Nat) (o_was : Nat) (o_acts : Int32) (o_kept : Nat) (o_isKept : Nat) (o_sights : Nat) (o_many : Int32) (o_text : Nat) (o_letters : Int32) (o_thrown : Int32) (o_cursor : Int32) (o_token : Int32) (o_start : Int32) (o_value : Int64) (o_isFault : Int32) (o_faultAt : Int32) (o_above : Int32) (o_below : Int32) (o_topOf : Nat) (o_partsOf : Nat) (o_sent : Nat) (o_road_f : Nat → Int32) (o_kept_f : Nat → Int32) (o_isKept_f : Nat → Int32)  : Met l yX9_keep wsX9_keep ({ frames := 1, cells := 0, slots := 0, locals := 25 } : Room) (va_Pc [.ref o, .int a1] (xP D cI cZ [(o, .inr (9, [.ref o_road, .ref o_told, .ref o_fresh, .ref o_was, .int o_acts, .ref o_kept, .ref o_isKept, .ref o_sights, .int o_many, .ref o_text, .int o_letters, .int o_thrown, .int o_cursor, .int o_token, .int o_start, .long o_value, .int o_isFault, .int o_faultAt, .int o_above, .int o_below, .ref o_topOf, .ref o_partsOf, .ref o_sent])), (o_road, .inl (cI, 36, .inl o_road_f)), (o_kept, .inl (cI, 72, .inl o_kept_f)), (o_isKept, .inl (cZ, 2, .inl o_isKept_f))] sz)) (va_Qi (fun (r : Int32) (u : (Nat → Int32) × (Nat → Int32)) => (r, u) = fX9_keep a1 o_road_f o_kept_f o_isKept_f) (fun (u : (Nat → Int32) × (Nat → Int32)) t => xB D cI cZ [(o, .inr (9, [.ref o_road, .ref o_told, .ref o_fresh, .ref o_was, .int o_acts, .ref o_kept, .ref o_isKept, .ref o_sights, .int o_many, .ref o_text, .int o_letters, .int 0, .int o_cursor, .int o_token, .int o_start, .long o_value, .int o_isFault, .int o_faultAt, .int o_above, .int o_below, .ref o_topOf, .ref o_partsOf, .ref o_sent])), (o_road, .inl (cI, 36, .inl o_road_f)), (o_kept, .inl (cI, 72, .inl u.1)), (o_isKept, .inl (cZ, 2, .inl u.2))] (va_A [(o, .inr (9, [.ref o_road, .ref o_told, .ref o_fresh, .ref o_was, .int o_acts, .ref o_kept, .ref o_isKept, .ref o_sights, .int o_many, .ref o_text, .int o_letters, .int o_thrown, .int o_cursor, .int o_token, .int o_start, .long o_value, .int o_isFault, .int o_faultAt, .int o_above, .int o_below, .ref o_topOf, .ref o_partsOf, .ref o_sent])), (o_road, .inl (cI, 36, .inl o_road_f)), (o_kept, .inl (cI, 72, .inl o_kept_f)), (o_isKept, .inl (cZ, 2, .inl o_isKept_f))] sz) t) (va_A [(o, .inr (9, [.ref o_road, .ref o_told, .ref o_fresh, .ref o_was, .int o_acts, .ref o_kept, .ref o_isKept, .ref o_sights, .int o_many, .ref o_text, .int o_letters, .int o_thrown, .int o_cursor, .int o_token, .int o_start, .long o_value, .int o_isFault, .int o_faultAt, .int o_above, .int o_below, .ref o_topOf, .ref o_partsOf, .ref o_sent])), (o_road, .inl (cI, 36, .inl o_road_f)), (o_kept, .inl (cI, 72, .inl o_kept_f)), (o_isKept, .inl (cZ, 2, .inl o_isKept_f))] sz)) 0 0 (va_A [(o, .inr (9, [.ref o_road, .ref o_told, .ref o_fresh, .ref o_was, .int o_acts, .ref o_kept, .ref o_isKept, .ref o_sights, .int o_many, .ref o_text, .int o_letters, .int o_thrown, .int o_cursor, .int o_token, .int o_start, .long o_value, .int o_isFault, .int o_faultAt, .int o_above, .int o_below, .ref o_topOf, .ref o_partsOf, .ref o_sent])), (o_road, .inl (cI, 36, .inl o_road_f)), (o_kept, .inl (cI, 72, .inl o_kept_f)), (o_isKept, .inl (cZ, 2, .inl o_isKept_f))] sz) := by
  refine Met.ofW (cc := cX9_keep) (maxL := 3) (ret := (some .int)) (by decide) rfl ?_
  intro p e s m args below meth c s₁ B hml hv
  obtain ⟨hargs, hsz, hP, hK, hD0, hE⟩ := hv
  subst hargs
  have hx := B.exec
  have hb := B.bytes
  have hr := B.returns
  have hts := atoms_spec (ws := wsX9_keep) B.pre
  have hown : s.vm.findClass RX9 = some m.cls := findClass_of_methodNamed B.named
  have hlocks := B.notSynchronized
  subst hsz
  have hD := hD0.self (sz := s.heap.size)
  generalize hAe : va_A [(o, .inr (9, [.ref o_road, .ref o_told, .ref o_fresh, .ref o_was, .int o_acts, .ref o_kept, .ref o_isKept, .ref o_sights, .int o_many, .ref o_text, .int o_letters, .int o_thrown, .int o_cursor, .int o_token, .int o_start, .long o_value, .int o_isFault, .int o_faultAt, .int o_above, .int o_below, .ref o_topOf, .ref o_partsOf, .ref o_sent])), (o_road, .inl (cI, 36, .inl o_road_f)), (o_kept, .inl (cI, 72, .inl o_kept_f)), (o_isKept, .inl (cZ, 2, .inl o_isKept_f))] s.heap.size = A at hD ⊢
  have hA : ∀ q : Nat, s.heap.size ≤ q → A q := fun q h => by rw [← hAe]; exact Or.inr h
  have hS : va_S A s.heap s.heap [] := va_S.rf
  have hl := lv_entry ([.ref o, .int a1]) (n := 3) (Nat.le_of_ble_eq_true rfl)
  rw [lg_entry_eq]
  generalize (lg_sl ([.ref o, .int a1]) ++ List.replicate (3 - (lg_sl ([.ref o, .int a1])).length) Slot.unset).toArray = ls at hl ⊢
  have hl : lv_has ls 3 [(0, .ref o), (1, .int a1)] := hl
  refine wq (X := fun Q => ∀ (pc : Nat) (H : Heap) (locs : List Loc) (ls : Array Slot) (r : Int32) (u : (Nat → Int32) × (Nat → Int32)) (hd : decode cX9_keep pc = .ok (.ireturn, 1)) (hp : (r, u) = fX9_keep a1 o_road_f o_kept_f o_isKept_f) (hP : va_P D vwCl [(o, .inr (9, [.ref o_road, .ref o_told, .ref o_fresh, .ref o_was, .int o_acts, .ref o_kept, .ref o_isKept, .ref o_sights, .int o_many, .ref o_text, .int o_letters, .int 0, .int o_cursor, .int o_token, .int o_start, .long o_value, .int o_isFault, .int o_faultAt, .int o_above, .int o_below, .ref o_topOf, .ref o_partsOf, .ref o_sent])), (o_road, .inl (cI, 36, .inl o_road_f)), (o_kept, .inl (cI, 72, .inl u.1)), (o_isKept, .inl (cZ, 2, .inl u.2))] H) (hD : va_D A [(o, .inr (9, [.ref o_road, .ref o_told, .ref o_fresh, .ref o_was, .int o_acts, .ref o_kept, .ref o_isKept, .ref o_sights, .int o_many, .ref o_text, .int o_letters, .int 0, .int o_cursor, .int o_token, .int o_start, .long o_value, .int o_isFault, .int o_faultAt, .int o_above, .int o_below, .ref o_topOf, .ref o_partsOf, .ref o_sent])), (o_road, .inl (cI, 36, .inl o_road_f)), (o_kept, .inl (cI, 72, .inl u.1)), (o_isKept, .inl (cZ, 2, .inl u.2))]) (hS : va_S A s.heap H locs), W p l e ({ frames := 1, cells := 0, slots := 0, locals := 25 } : Room) s m ([.ref o, .int a1] : List Value).toArray below meth c H locs 0 0 Q (F0 m pc ls [.int r])) ?_ (fun Q hret => ?_)
  · intro pc H locs ls r u hd hp hP hD hS
    exact W.iret (v := r) hx hb hr (fun t ht hW => ⟨⟨r, u, rfl, hp, by rw [ht]; exact hP, va_K.moved hW.alike hK, hD⟩, hS.F ht⟩) hS.2.2 hd
  have hin_9 : ∀ w ∈ u_ws RX9 TX9 23, w ∈ wsX9_keep := by decide +kernel
  have fl_7 := hts (.fieldLink RX9 7 "MileRoadModel" "road" "[I") (by decide +kernel)
  have fl_22 := hts (.fieldLink RX9 22 "MileRoadModel" "kept" "[I") (by decide +kernel)
  have fl_25 := hts (.fieldLink RX9 25 "MileRoadModel" "isKept" "[Z") (by decide +kernel)
  have fl_48 := hts (.fieldLink RX9 48 "MileRoadModel" "thrown" "I") (by decide +kernel)
  have zl_0 : (0 : Int32).toInt = 0 := by decide
  have zl_1 : (1 : Int32).toInt = 1 := by decide
  have zl_36 : (36 : Int32).toInt = 36 := by decide
  have hF : fX9_keep a1 o_road_f o_kept_f o_isKept_f = fX9_keep a1 o_road_f o_kept_f o_isKept_f := rfl
  have L_20 : ∀ (n : Nat) (o_kept_f_20 : Nat → Int32) (v20_2 : Int32) (h1_20 : 0 ≤ v20_2.toInt) (h2_20 : v20_2.toInt ≤ 36) (hk0 : 0 ≤ a1.toInt) (hk1 : a1.toInt ≤ 1) (hm : 36 - v20_2.toInt < (n : Int)) (H : Heap) (locs : List Loc) (ls : Array Slot) (hl : lv_has ls 3 [(0, .ref o), (1, .int a1), (2, .int v20_2)]) (hP : va_P D vwCl [(o, .inr (9, [.ref o_road, .ref o_told, .ref o_fresh, .ref o_was, .int o_acts, .ref o_kept, .ref o_isKept, .ref o_sights, .int o_many, .ref o_text, .int o_letters, .int 0, .int o_cursor, .int o_token, .int o_start, .long o_value, .int o_isFault, .int o_faultAt, .int o_above, .int o_below, .ref o_topOf, .ref o_partsOf, .ref o_sent])), (o_road, .inl (cI, 36, .inl o_road_f)), (o_kept, .inl (cI, 72, .inl o_kept_f_20)), (o_isKept, .inl (cZ, 2, .inl o_isKept_f))] H) (hD : va_D A [(o, .inr (9, [.ref o_road, .ref o_told, .ref o_fresh, .ref o_was, .int o_acts, .ref o_kept, .ref o_isKept, .ref o_sights, .int o_many, .ref o_text, .int o_letters, .int 0, .int o_cursor, .int o_token, .int o_start, .long o_value, .int o_isFault, .int o_faultAt, .int o_above, .int o_below, .ref o_topOf, .ref o_partsOf, .ref o_sent])), (o_road, .inl (cI, 36, .inl o_road_f)), (o_kept, .inl (cI, 72, .inl o_kept_f_20)), (o_isKept, .inl (cZ, 2, .inl o_isKept_f))]) (hS : va_S A s.heap H locs) (hF : fX9_keep a1 o_road_f o_kept_f o_isKept_f = fX9_keep_20 a1 o_road_f o_isKept_f n o_kept_f_20 v20_2), W p l e ({ frames := 1, cells := 0, slots := 0, locals := 25 } : Room) s m ([.ref o, .int a1] : List Value).toArray below meth c H locs 0 0 Q (F0 m 20 ls []) := by
    intro n
    induction n with
    | zero =>
      intro o_kept_f_20 v20_2 h1_20 h2_20 hk0 hk1 hm H locs ls hl hP hD hS hF
      exact absurd hm (by omega)
    | succ n ih_20 =>
      intro o_kept_f_20 v20_2 h1_20 h2_20 hk0 hk1 hm H locs ls hl hP hD hS hF
      refine lv_iload_n hx hb dX9_keep_20 rfl (lv_at hl 2 rfl) ?_
      refine lv_bipush (v := 36) hx hb dX9_keep_21 (by decide) ?_
      refine lv_icmp_ge (tgt := 49) hx hb dX9_keep_23 (by decide) (fun c_2 => ?_) (fun c_2 => ?_)
      · have kc_2 := t_le c_2
        refine lv_aload_n hx hb dX9_keep_49 rfl (lv_at hl 0 rfl) ?_
        refine xget hx hb hts hown hK 9 (C2 := RX9) (T := TX9) (N := 23) rfl hin_9 hP 0 rfl 6 (by decide) fl_25 rfl rfl rfl dX9_keep_50 ?_
        refine lv_iload_n hx hb dX9_keep_53 rfl (lv_at hl 1 rfl) ?_
        refine lv_iconst (v := 1) hx hb dX9_keep_54 (by decide) ?_
        refine xzst hx hb hK hP hD hS 3 1 (k := a1.toNatClampNeg) (v := 1) rfl rfl rfl (vi (by omega) (by omega)) rfl dX9_keep_55 [(o, .inr (9, [.ref o_road, .ref o_told, .ref o_fresh, .ref o_was, .int o_acts, .ref o_kept, .ref o_isKept, .ref o_sights, .int o_many, .ref o_text, .int o_letters, .int 0, .int o_cursor, .int o_token, .int o_start, .long o_value, .int o_isFault, .int o_faultAt, .int o_above, .int o_below, .ref o_topOf, .ref o_partsOf, .ref o_sent])), (o_road, .inl (cI, 36, .inl o_road_f)), (o_kept, .inl (cI, 72, .inl o_kept_f_20)), (o_isKept, .inl (cZ, 2, .inl (upd o_isKept_f a1.toNatClampNeg 1)))] rfl (fun H locs hP hD hS => ?_)
        refine lv_aload_n hx hb dX9_keep_56 rfl (lv_at hl 0 rfl) ?_
        refine xget hx hb hts hown hK 9 (C2 := RX9) (T := TX9) (N := 23) rfl hin_9 hP 0 rfl 0 (by decide) fl_7 rfl rfl rfl dX9_keep_57 ?_
        refine lv_iconst (v := 3) hx hb dX9_keep_60 (by decide) ?_
        refine xald hx hb hK hP 1 0 (k := 3) rfl rfl (vi (by decide) (by decide)) (by decide) dX9_keep_61 ?_
        refine xcalli (S := Unit) (Wc := []) (wr := [(o, .inr (9, [.ref o_road, .ref o_told, .ref o_fresh, .ref o_was, .int o_acts, .ref o_kept, .ref o_isKept, .ref o_sights, .int o_many, .ref o_text, .int o_letters, .int 0, .int o_cursor, .int o_token, .int o_start, .long o_value, .int o_isFault, .int o_faultAt, .int o_above, .int o_below, .ref o_topOf, .ref o_partsOf, .ref o_sent])), (o_road, .inl (cI, 36, .inl o_road_f)), (o_kept, .inl (cI, 72, .inl o_kept_f_20)), (o_isKept, .inl (cZ, 2, .inl (upd o_isKept_f a1.toNatClampNeg 1)))]) (W1 := (fun (u : Unit) => [])) (Wn := (fun (u : Unit) => [(o, .inr (9, [.ref o_road, .ref o_told, .ref o_fresh, .ref o_was, .int o_acts, .ref o_kept, .ref o_isKept, .ref o_sights, .int o_many, .ref o_text, .int o_letters, .int 0, .int o_cursor, .int o_token, .int o_start, .long o_value, .int o_isFault, .int o_faultAt, .int o_above, .int o_below, .ref o_topOf, .ref o_partsOf, .ref o_sent])), (o_road, .inl (cI, 36, .inl o_road_f)), (o_kept, .inl (cI, 72, .inl o_kept_f_20)), (o_isKept, .inl (cZ, 2, .inl (upd o_isKept_f a1.toNatClampNeg 1)))])) (xrunS hx hb hml hown hts (c_X9_bits l D cI cZ _ (o_road_f 3) ) (va_cwS 1 hts gX9_keep_X9_bits rfl rfl rfl (by decide +kernel) ⟨Nat.le_of_ble_eq_true rfl, Nat.le_of_ble_eq_true rfl⟩) hE hK hP hD [] rfl rfl rfl hl.1 rfl (Nat.le_of_ble_eq_true rfl) dX9_keep_62 ⟨Nat.le_of_ble_eq_true rfl, Nat.le_of_ble_eq_true rfl⟩) hP hD hS hA [] [0, 1, 2, 3] [0, 1, 2, 3] rfl rfl rfl (by decide) (fun _ => rfl) rfl (fun r2 u H locs hw hz hP hD hS => ?_)
        subst hw
        exact hret _ _ _ _ (fX9_bits (o_road_f 3)) (o_kept_f_20, (upd o_isKept_f a1.toNatClampNeg 1)) dX9_keep_65 ((hF.trans (by simp only [fX9_keep_20, xlet, if_pos c_2])).symm) hP hD hS
      · have kc_2 := t_nle c_2
        refine lv_aload_n hx hb dX9_keep_26 rfl (lv_at hl 0 rfl) ?_
        refine xget hx hb hts hown hK 9 (C2 := RX9) (T := TX9) (N := 23) rfl hin_9 hP 0 rfl 5 (by decide) fl_22 rfl rfl rfl dX9_keep_27 ?_
        refine lv_bipush (v := 36) hx hb dX9_keep_30 (by decide) ?_
        refine lv_iload_n hx hb dX9_keep_32 rfl (lv_at hl 1 rfl) ?_
        refine lv_imul hx hb dX9_keep_33 ?_
        refine lv_iload_n hx hb dX9_keep_34 rfl (lv_at hl 2 rfl) ?_
        refine lv_iadd hx hb dX9_keep_35 ?_
        refine lv_aload_n hx hb dX9_keep_36 rfl (lv_at hl 0 rfl) ?_
        refine xget hx hb hts hown hK 9 (C2 := RX9) (T := TX9) (N := 23) rfl hin_9 hP 0 rfl 0 (by decide) fl_7 rfl rfl rfl dX9_keep_37 ?_
        refine lv_iload_n hx hb dX9_keep_40 rfl (lv_at hl 2 rfl) ?_
        refine xald hx hb hK hP 1 0 (k := v20_2.toNatClampNeg) rfl rfl (vi (by omega) (by omega)) rfl dX9_keep_41 ?_
        have z_1 : (36 * a1).toInt = 36 * a1.toInt := z_mul 36 rfl (by omega) (by omega)
        have z_2 : ((36 * a1) + v20_2).toInt = (36 * a1).toInt + v20_2.toInt := z_add (by omega) (by omega)
        refine xast hx hb hK hP hD hS 2 0 (k := ((36 * a1) + v20_2).toNatClampNeg) rfl rfl (vi (by omega) (by omega)) rfl dX9_keep_42 [(o, .inr (9, [.ref o_road, .ref o_told, .ref o_fresh, .ref o_was, .int o_acts, .ref o_kept, .ref o_isKept, .ref o_sights, .int o_many, .ref o_text, .int o_letters, .int 0, .int o_cursor, .int o_token, .int o_start, .long o_value, .int o_isFault, .int o_faultAt, .int o_above, .int o_below, .ref o_topOf, .ref o_partsOf, .ref o_sent])), (o_road, .inl (cI, 36, .inl o_road_f)), (o_kept, .inl (cI, 72, .inl (upd o_kept_f_20 ((36 * a1) + v20_2).toNatClampNeg (o_road_f v20_2.toNatClampNeg)))), (o_isKept, .inl (cZ, 2, .inl o_isKept_f))] rfl (fun H locs hP hD hS => ?_)
        refine lv_iinc (v := (v20_2 + 1)) (lv' := [(2, .int (v20_2 + 1)), (0, .ref o), (1, .int a1)]) hx hb dX9_keep_43 hl (k := 2) rfl (by rfl) (by decide) rfl (fun ls hl => ?_)
        refine lv_goto (tgt := 20) hx hb dX9_keep_46 (by decide) ?_
        have z_3 : (v20_2 + 1).toInt = v20_2.toInt + (1 : Int32).toInt := z_add (by omega) (by omega)
        exact ih_20 (upd o_kept_f_20 ((36 * a1) + v20_2).toNatClampNeg (o_road_f v20_2.toNatClampNeg)) (v20_2 + 1) (by first | assumption | omega | decide | (split <;> rename_i hh <;> first | (have h9 := t_nlt hh; omega) | (have h9 := t_lt hh; omega) | (have h9 := t_nle hh; omega) | (have h9 := t_le hh; omega))) (by first | assumption | omega | decide | (split <;> rename_i hh <;> first | (have h9 := t_nlt hh; omega) | (have h9 := t_lt hh; omega) | (have h9 := t_nle hh; omega) | (have h9 := t_le hh; omega))) (by first | assumption | omega | decide | (split <;> rename_i hh <;> first | (have h9 := t_nlt hh; omega) | (have h9 := t_lt hh; omega) | (have h9 := t_nle hh; omega) | (have h9 := t_le hh; omega))) (by first | assumption | omega | decide | (split <;> rename_i hh <;> first | (have h9 := t_nlt hh; omega) | (have h9 := t_lt hh; omega) | (have h9 := t_nle hh; omega) | (have h9 := t_le hh; omega))) (by first | assumption | omega | decide | (split <;> rename_i hh <;> first | (have h9 := t_nlt hh; omega) | (have h9 := t_lt hh; omega) | (have h9 := t_nle hh; omega) | (have h9 := t_le hh; omega))) _ _ _ (lv_sub hl [1, 2, 0] rfl) hP hD hS (hF.trans (by simp only [fX9_keep_20, xlet, if_neg c_2]))
  refine lv_aload_n hx hb dX9_keep_0 rfl (lv_at hl 0 rfl) ?_
  refine lv_iconst (v := 0) hx hb dX9_keep_1 (by decide) ?_
  refine xput hx hb hts hown hK 9 (C2 := RX9) (T := TX9) (N := 23) tyX9 rfl tyX9_ok nmX9 hin_9 hP hD hS 0 rfl 11 (by decide) fl_48 rfl rfl rfl rfl rfl (Nat.le_of_ble_eq_true rfl) dX9_keep_2 [(o, .inr (9, [.ref o_road, .ref o_told, .ref o_fresh, .ref o_was, .int o_acts, .ref o_kept, .ref o_isKept, .ref o_sights, .int o_many, .ref o_text, .int o_letters, .int 0, .int o_cursor, .int o_token, .int o_start, .long o_value, .int o_isFault, .int o_faultAt, .int o_above, .int o_below, .ref o_topOf, .ref o_partsOf, .ref o_sent])), (o_road, .inl (cI, 36, .inl o_road_f)), (o_kept, .inl (cI, 72, .inl o_kept_f)), (o_isKept, .inl (cZ, 2, .inl o_isKept_f))] rfl (fun H locs hP hD hS => ?_)
  refine lv_iload_n hx hb dX9_keep_5 rfl (lv_at hl 1 rfl) ?_
  refine lv_i2l (v := a1.toInt64) hx hb dX9_keep_6 rfl ?_
  refine lv_lconst (v := 0) hx hb dX9_keep_7 (by decide) ?_
  refine lv_lconst (v := 1) hx hb dX9_keep_8 (by decide) ?_
  refine xcalli (S := Unit) (Wc := []) (wr := [(o, .inr (9, [.ref o_road, .ref o_told, .ref o_fresh, .ref o_was, .int o_acts, .ref o_kept, .ref o_isKept, .ref o_sights, .int o_many, .ref o_text, .int o_letters, .int 0, .int o_cursor, .int o_token, .int o_start, .long o_value, .int o_isFault, .int o_faultAt, .int o_above, .int o_below, .ref o_topOf, .ref o_partsOf, .ref o_sent])), (o_road, .inl (cI, 36, .inl o_road_f)), (o_kept, .inl (cI, 72, .inl o_kept_f)), (o_isKept, .inl (cZ, 2, .inl o_isKept_f))]) (W1 := (fun (u : Unit) => [])) (Wn := (fun (u : Unit) => [(o, .inr (9, [.ref o_road, .ref o_told, .ref o_fresh, .ref o_was, .int o_acts, .ref o_kept, .ref o_isKept, .ref o_sights, .int o_many, .ref o_text, .int o_letters, .int 0, .int o_cursor, .int o_token, .int o_start, .long o_value, .int o_isFault, .int o_faultAt, .int o_above, .int o_below, .ref o_topOf, .ref o_partsOf, .ref o_sent])), (o_road, .inl (cI, 36, .inl o_road_f)), (o_kept, .inl (cI, 72, .inl o_kept_f)), (o_isKept, .inl (cZ, 2, .inl o_isKept_f))])) (xrunS hx hb hml hown hts (c_X9_in l D cI cZ _ a1.toInt64 0 1 ) (va_cwS 3 hts gX9_keep_X9_in rfl rfl rfl (by decide +kernel) ⟨Nat.le_of_ble_eq_true rfl, Nat.le_of_ble_eq_true rfl⟩) hE hK hP hD [] rfl rfl rfl hl.1 rfl (Nat.le_of_ble_eq_true rfl) dX9_keep_9 ⟨Nat.le_of_ble_eq_true rfl, Nat.le_of_ble_eq_true rfl⟩) hP hD hS hA [] [0, 1, 2, 3] [0, 1, 2, 3] rfl rfl rfl (by decide) (fun _ => rfl) rfl (fun r1 u H locs hw hz hP hD hS => ?_)
  subst hw
  refine lv_if_ne (tgt := 18) hx hb dX9_keep_12 (by decide) (fun c_1 => ?_) (fun c_1 => ?_)
  · have kb_c_1 : 0 ≤ a1.toInt ∧ a1.toInt ≤ 1 := in_b c_1 (by decide) (by decide)
    refine lv_iconst (v := 0) hx hb dX9_keep_18 (by decide) ?_
    refine lv_istore_n (lv' := [(2, .int 0), (0, .ref o), (1, .int a1)]) hx hb dX9_keep_19 rfl hl (by decide) rfl (fun ls hl => ?_)
    exact L_20 1000 o_kept_f 0 (by first | assumption | omega | decide | (split <;> rename_i hh <;> first | (have h9 := t_nlt hh; omega) | (have h9 := t_lt hh; omega) | (have h9 := t_nle hh; omega) | (have h9 := t_le hh; omega))) (by first | assumption | omega | decide | (split <;> rename_i hh <;> first | (have h9 := t_nlt hh; omega) | (have h9 := t_lt hh; omega) | (have h9 := t_nle hh; omega) | (have h9 := t_le hh; omega))) (by first | assumption | omega | decide | (split <;> rename_i hh <;> first | (have h9 := t_nlt hh; omega) | (have h9 := t_lt hh; omega) | (have h9 := t_nle hh; omega) | (have h9 := t_le hh; omega))) (by first | assumption | omega | decide | (split <;> rename_i hh <;> first | (have h9 := t_nlt hh; omega) | (have h9 := t_lt hh; omega) | (have h9 := t_nle hh; omega) | (have h9 := t_le hh; omega))) (by first | assumption | omega | decide | (split <;> rename_i hh <;> first | (have h9 := t_nlt hh; omega) | (have h9 := t_lt hh; omega) | (have h9 := t_nle hh; omega) | (have h9 := t_le hh; omega))) _ _ _ (lv_sub hl [1, 2, 0] rfl) hP hD hS (hF.trans (by simp only [fX9_keep, xlet, if_neg c_1]))
  · refine lv_bipush (v := (-2)) hx hb dX9_keep_15 (by decide) ?_
    exact hret _ _ _ _ (-2) (o_kept_f, o_isKept_f) dX9_keep_17 ((hF.trans (by simp only [fX9_keep, xlet, if_pos c_1])).symm) hP hD hS
set_option maxRecDepth 20000 in
theorem ggX9_back_X9_in : GoodIn wsX9_back wsX9_in := goodIn_r _ [9] (by decide +kernel) (by decide +kernel)
set_option maxRecDepth 20000 in
theorem gX9_back_X9_in : GoodIn wsX9_back (va_wsS RX9 52 yX9_in wsX9_in) := goodIn_app (goodIn_of _ (by decide +kernel)) ggX9_back_X9_in
set_option maxRecDepth 20000 in
theorem ggX9_back_X9_bits : GoodIn wsX9_back wsX9_bits := goodIn_r _ [12] (by decide +kernel) (by decide +kernel)
set_option maxRecDepth 20000 in
theorem gX9_back_X9_bits : GoodIn wsX9_back (va_wsS RX9 161 yX9_bits wsX9_bits) := goodIn_app (goodIn_of _ (by decide +kernel)) ggX9_back_X9_bits
theorem dX9_back_0 : decode cX9_back 0 = .ok (.aload_n 0, 1) := by decide +kernel
theorem dX9_back_1 : decode cX9_back 1 = .ok (.iconst 0, 1) := by decide +kernel
theorem dX9_back_2 : decode cX9_back 2 = .ok (.putfield 48, 3) := by decide +kernel
theorem dX9_back_5 : decode cX9_back 5 = .ok (.iload_n 1, 1) := by decide +kernel
theorem dX9_back_6 : decode cX9_back 6 = .ok (.i2l, 1) := by decide +kernel
theorem dX9_back_7 : decode cX9_back 7 = .ok (.lconst 0, 1) := by decide +kernel
theorem dX9_back_8 : decode cX9_back 8 = .ok (.lconst 1, 1) := by decide +kernel
theorem dX9_back_9 : decode cX9_back 9 = .ok (.invokestatic 52, 3) := by decide +kernel
theorem dX9_back_12 : decode cX9_back 12 = .ok (.ifCond .ne 6, 3) := by decide +kernel
theorem dX9_back_15 : decode cX9_back 15 = .ok (.bipush (-2), 2) := by decide +kernel
theorem dX9_back_17 : decode cX9_back 17 = .ok (.ireturn, 1) := by decide +kernel
theorem dX9_back_18 : decode cX9_back 18 = .ok (.aload_n 0, 1) := by decide +kernel
theorem dX9_back_19 : decode cX9_back 19 = .ok (.getfield 25, 3) := by decide +kernel
theorem dX9_back_22 : decode cX9_back 22 = .ok (.iload_n 1, 1) := by decide +kernel
theorem dX9_back_23 : decode cX9_back 23 = .ok (.baload, 1) := by decide +kernel
theorem dX9_back_24 : decode cX9_back 24 = .ok (.ifCond .ne 6, 3) := by decide +kernel
theorem dX9_back_27 : decode cX9_back 27 = .ok (.bipush (-4), 2) := by decide +kernel
theorem dX9_back_29 : decode cX9_back 29 = .ok (.ireturn, 1) := by decide +kernel
theorem dX9_back_30 : decode cX9_back 30 = .ok (.iconst 0, 1) := by decide +kernel
theorem dX9_back_31 : decode cX9_back 31 = .ok (.istore_n 2, 1) := by decide +kernel
theorem dX9_back_32 : decode cX9_back 32 = .ok (.iload_n 2, 1) := by decide +kernel
theorem dX9_back_33 : decode cX9_back 33 = .ok (.bipush 36, 2) := by decide +kernel
theorem dX9_back_35 : decode cX9_back 35 = .ok (.if_icmp .ge 26, 3) := by decide +kernel
theorem dX9_back_38 : decode cX9_back 38 = .ok (.aload_n 0, 1) := by decide +kernel
theorem dX9_back_39 : decode cX9_back 39 = .ok (.getfield 7, 3) := by decide +kernel
theorem dX9_back_42 : decode cX9_back 42 = .ok (.iload_n 2, 1) := by decide +kernel
theorem dX9_back_43 : decode cX9_back 43 = .ok (.aload_n 0, 1) := by decide +kernel
theorem dX9_back_44 : decode cX9_back 44 = .ok (.getfield 22, 3) := by decide +kernel
theorem dX9_back_47 : decode cX9_back 47 = .ok (.bipush 36, 2) := by decide +kernel
theorem dX9_back_49 : decode cX9_back 49 = .ok (.iload_n 1, 1) := by decide +kernel
theorem dX9_back_50 : decode cX9_back 50 = .ok (.imul, 1) := by decide +kernel
theorem dX9_back_51 : decode cX9_back 51 = .ok (.iload_n 2, 1) := by decide +kernel
theorem dX9_back_52 : decode cX9_back 52 = .ok (.iadd, 1) := by decide +kernel
theorem dX9_back_53 : decode cX9_back 53 = .ok (.iaload, 1) := by decide +kernel
theorem dX9_back_54 : decode cX9_back 54 = .ok (.iastore, 1) := by decide +kernel
theorem dX9_back_55 : decode cX9_back 55 = .ok (.iinc 2 1, 3) := by decide +kernel
theorem dX9_back_58 : decode cX9_back 58 = .ok (.goto (-26), 3) := by decide +kernel
theorem dX9_back_61 : decode cX9_back 61 = .ok (.aload_n 0, 1) := by decide +kernel
theorem dX9_back_62 : decode cX9_back 62 = .ok (.iconst 0, 1) := by decide +kernel
theorem dX9_back_63 : decode cX9_back 63 = .ok (.putfield 131, 3) := by decide +kernel
theorem dX9_back_66 : decode cX9_back 66 = .ok (.aload_n 0, 1) := by decide +kernel
theorem dX9_back_67 : decode cX9_back 67 = .ok (.getfield 7, 3) := by decide +kernel
theorem dX9_back_70 : decode cX9_back 70 = .ok (.iconst 3, 1) := by decide +kernel
theorem dX9_back_71 : decode cX9_back 71 = .ok (.iaload, 1) := by decide +kernel
theorem dX9_back_72 : decode cX9_back 72 = .ok (.invokestatic 161, 3) := by decide +kernel
theorem dX9_back_75 : decode cX9_back 75 = .ok (.ireturn, 1) := by decide +kernel
def fX9_back_32 (a1 : Int32) (o_kept_f : Nat → Int32)  : Nat → (Nat → Int32) → Int32 → Int32 × Int32 × (Nat → Int32)
  | 0, _, _ => default
  | n + 1, o_road_f_32, v32_2 => if 36 ≤ v32_2 then (((fX9_bits (o_road_f_32 3)), 0, o_road_f_32)) else (fX9_back_32 a1 o_kept_f n (upd o_road_f_32 v32_2.toNatClampNeg (o_kept_f ((36 * a1) + v32_2).toNatClampNeg)) (v32_2 + 1))
def fX9_back (a1 : Int32) (o_acts : Int32) (o_isKept_f : Nat → Int32) (o_kept_f : Nat → Int32) (o_road_f : Nat → Int32) : Int32 × Int32 × (Nat → Int32) := if (fX9_in a1.toInt64 0 1) = 0 then (((-2), o_acts, o_road_f)) else (if (o_isKept_f a1.toNatClampNeg) = 0 then (((-4), o_acts, o_road_f)) else (fX9_back_32 a1 o_kept_f 1000 o_road_f 0))
set_option maxHeartbeats 4000000 in
set_option maxRecDepth 100000 in
theorem c_X9_back (l : Launch) (D : va_G) (cI cZ : ClassId) (sz : Nat) (o : Nat) (a1 : Int32) (o_road : Nat) (o_told : Nat) (o_fresh : Nat) (o_was : Nat) (o_acts : Int32) (o_kept : Nat) (o_isKept : Nat) (o_sights : Nat) (o_many : Int32) (o_text : Nat) (o_letters : Int32) (o_thrown : Int32) (o_cursor : Int32) (o_token : Int32) (o_start : Int32) (o_value : Int64) (o_isFault : Int32) (o_faultAt : Int32) (o_above : Int32) (o_below : Int32) (o_topOf : Nat) (o_partsOf : Nat) (o_sent : Nat) (o_isKept_f : Nat → Int32) (o_kept_f : Nat → Int32) (o_road_f : Nat → Int32)  : Met l yX9_back wsX9_back ({ frames := 1, cells := 0, slots := 0, locals := 25 } : Room) (va_Pc [.ref o, .int a1] (xP D cI cZ [(o, .inr (9, [.ref o_road, .ref o_told, .ref o_fresh, .ref o_was, .int o_acts, .ref o_kept, .ref o_isKept, .ref o_sights, .int o_many, .ref o_text, .int o_letters, .int o_thrown, .int o_cursor, .int o_token, .int o_start, .long o_value, .int o_isFault, .int o_faultAt, .int o_above, .int o_below, .ref o_topOf, .ref o_partsOf, .ref o_sent])), (o_isKept, .inl (cZ, 2, .inl o_isKept_f)), (o_kept, .inl (cI, 72, .inl o_kept_f)), (o_road, .inl (cI, 36, .inl o_road_f))] sz)) (va_Qi (fun (r : Int32) (u : Int32 × (Nat → Int32)) => (r, u) = fX9_back a1 o_acts o_isKept_f o_kept_f o_road_f) (fun (u : Int32 × (Nat → Int32)) t => xB D cI cZ [(o, .inr (9, [.ref o_road, .ref o_told, .ref o_fresh, .ref o_was, .int u.1, .ref o_kept, .ref o_isKept, .ref o_sights, .int o_many, .ref o_text, .int o_letters, .int 0, .int o_cursor, .int o_token, .int o_start, .long o_value, .int o_isFault, .int o_faultAt, .int o_above, .int o_below, .ref o_topOf, .ref o_partsOf, .ref o_sent])), (o_isKept, .inl (cZ, 2, .inl o_isKept_f)), (o_kept, .inl (cI, 72, .inl o_kept_f)), (o_road, .inl (cI, 36, .inl u.2))] (va_A [(o, .inr (9, [.ref o_road, .ref o_told, .ref o_fresh, .ref o_was, .int o_acts, .ref o_kept, .ref o_isKept, .ref o_sights, .int o_many, .ref o_text, .int o_letters, .int o_thrown, .int o_cursor, .int o_token, .int o_start, .long o_value, .int o_isFault, .int o_faultAt, .int o_above, .int o_below, .ref o_topOf, .ref o_partsOf, .ref o_sent])), (o_isKept, .inl (cZ, 2, .inl o_isKept_f)), (o_kept, .inl (cI, 72, .inl o_kept_f)), (o_road, .inl (cI, 36, .inl o_road_f))] sz) t) (va_A [(o, .inr (9, [.ref o_road, .ref o_told, .ref o_fresh, .ref o_was, .int o_acts, .ref o_kept, .ref o_isKept, .ref o_sights, .int o_many, .ref o_text, .int o_letters, .int o_thrown, .int o_cursor, .int o_token, .int o_start, .long o_value, .int o_isFault, .int o_faultAt, .int o_above, .int o_below, .ref o_topOf, .ref o_partsOf, .ref o_sent])), (o_isKept, .inl (cZ, 2, .inl o_isKept_f)), (o_kept, .inl (cI, 72, .inl o_kept_f)), (o_road, .inl (cI, 36, .inl o_road_f))] sz)) 0 0 (va_A [(o, .inr (9, [.ref o_road, .ref o_told, .ref o_fresh, .ref o_was, .int o_acts, .ref o_kept, .ref o_isKept, .ref o_sights, .int o_many, .ref o_text, .int o_letters, .int o_thrown, .int o_cursor, .int o_token, .int o_start, .long o_value, .int o_isFault, .int o_faultAt, .int o_above, .int o_below, .ref o_topOf, .ref o_partsOf, .ref o_sent])), (o_isKept, .inl (cZ, 2, .inl o_isKept_f)), (o_kept, .inl (cI, 72, .inl o_kept_f)), (o_road, .inl (cI, 36, .inl o_road_f))] sz) := by
  refine Met.ofW (cc := cX9_back) (maxL := 3) (ret := (some .int)) (by decide) rfl ?_
  intro p e s m args below meth c s₁ B hml hv
  obtain ⟨hargs, hsz, hP, hK, hD0, hE⟩ := hv
  subst hargs
  have hx := B.exec
  have hb := B.bytes
  have hr := B.returns
  have hts := atoms_spec (ws := wsX9_back) B.pre
  have hown : s.vm.findClass RX9 = some m.cls := findClass_of_methodNamed B.named
  have hlocks := B.notSynchronized
  subst hsz
  have hD := hD0.self (sz := s.heap.size)
  generalize hAe : va_A [(o, .inr (9, [.ref o_road, .ref o_told, .ref o_fresh, .ref o_was, .int o_acts, .ref o_kept, .ref o_isKept, .ref o_sights, .int o_many, .ref o_text, .int o_letters, .int o_thrown, .int o_cursor, .int o_token, .int o_start, .long o_value, .int o_isFault, .int o_faultAt, .int o_above, .int o_below, .ref o_topOf, .ref o_partsOf, .ref o_sent])), (o_isKept, .inl (cZ, 2, .inl o_isKept_f)), (o_kept, .inl (cI, 72, .inl o_kept_f)), (o_road, .inl (cI, 36, .inl o_road_f))] s.heap.size = A at hD ⊢
  have hA : ∀ q : Nat, s.heap.size ≤ q → A q := fun q h => by rw [← hAe]; exact Or.inr h
  have hS : va_S A s.heap s.heap [] := va_S.rf
  have hl := lv_entry ([.ref o, .int a1]) (n := 3) (Nat.le_of_ble_eq_true rfl)
  rw [lg_entry_eq]
  generalize (lg_sl ([.ref o, .int a1]) ++ List.replicate (3 - (lg_sl ([.ref o, .int a1])).length) Slot.unset).toArray = ls at hl ⊢
  have hl : lv_has ls 3 [(0, .ref o), (1, .int a1)] := hl
  refine wq (X := fun Q => ∀ (pc : Nat) (H : Heap) (locs : List Loc) (ls : Array Slot) (r : Int32) (u : Int32 × (Nat → Int32)) (hd : decode cX9_back pc = .ok (.ireturn, 1)) (hp : (r, u) = fX9_back a1 o_acts o_isKept_f o_kept_f o_road_f) (hP : va_P D vwCl [(o, .inr (9, [.ref o_road, .ref o_told, .ref o_fresh, .ref o_was, .int u.1, .ref o_kept, .ref o_isKept, .ref o_sights, .int o_many, .ref o_text, .int o_letters, .int 0, .int o_cursor, .int o_token, .int o_start, .long o_value, .int o_isFault, .int o_faultAt, .int o_above, .int o_below, .ref o_topOf, .ref o_partsOf, .ref o_sent])), (o_isKept, .inl (cZ, 2, .inl o_isKept_f)), (o_kept, .inl (cI, 72, .inl o_kept_f)), (o_road, .inl (cI, 36, .inl u.2))] H) (hD : va_D A [(o, .inr (9, [.ref o_road, .ref o_told, .ref o_fresh, .ref o_was, .int u.1, .ref o_kept, .ref o_isKept, .ref o_sights, .int o_many, .ref o_text, .int o_letters, .int 0, .int o_cursor, .int o_token, .int o_start, .long o_value, .int o_isFault, .int o_faultAt, .int o_above, .int o_below, .ref o_topOf, .ref o_partsOf, .ref o_sent])), (o_isKept, .inl (cZ, 2, .inl o_isKept_f)), (o_kept, .inl (cI, 72, .inl o_kept_f)), (o_road, .inl (cI, 36, .inl u.2))]) (hS : va_S A s.heap H locs), W p l e ({ frames := 1, cells := 0, slots := 0, locals := 25 } : Room) s m ([.ref o, .int a1] : List Value).toArray below meth c H locs 0 0 Q (F0 m pc ls [.int r])) ?_ (fun Q hret => ?_)
  · intro pc H locs ls r u hd hp hP hD hS
    exact W.iret (v := r) hx hb hr (fun t ht hW => ⟨⟨r, u, rfl, hp, by rw [ht]; exact hP, va_K.moved hW.alike hK, hD⟩, hS.F ht⟩) hS.2.2 hd
  have hin_9 : ∀ w ∈ u_ws RX9 TX9 23, w ∈ wsX9_back := by decide +kernel
  have fl_7 := hts (.fieldLink RX9 7 "MileRoadModel" "road" "[I") (by decide +kernel)
  have fl_22 := hts (.fieldLink RX9 22 "MileRoadModel" "kept" "[I") (by decide +kernel)
  have fl_25 := hts (.fieldLink RX9 25 "MileRoadModel" "isKept" "[Z") (by decide +kernel)
  have fl_48 := hts (.fieldLink RX9 48 "MileRoadModel" "thrown" "I") (by decide +kernel)
  have fl_131 := hts (.fieldLink RX9 131 "MileRoadModel" "acts" "I") (by decide +kernel)
  have zl_0 : (0 : Int32).toInt = 0 := by decide
  have zl_1 : (1 : Int32).toInt = 1 := by decide
  have zl_36 : (36 : Int32).toInt = 36 := by decide
  have hF : fX9_back a1 o_acts o_isKept_f o_kept_f o_road_f = fX9_back a1 o_acts o_isKept_f o_kept_f o_road_f := rfl
  have L_32 : ∀ (n : Nat) (o_road_f_32 : Nat → Int32) (v32_2 : Int32) (h1_32 : 0 ≤ v32_2.toInt) (h2_32 : v32_2.toInt ≤ 36) (hk0 : 0 ≤ a1.toInt) (hk1 : a1.toInt ≤ 1) (hm : 36 - v32_2.toInt < (n : Int)) (H : Heap) (locs : List Loc) (ls : Array Slot) (hl : lv_has ls 3 [(0, .ref o), (1, .int a1), (2, .int v32_2)]) (hP : va_P D vwCl [(o, .inr (9, [.ref o_road, .ref o_told, .ref o_fresh, .ref o_was, .int o_acts, .ref o_kept, .ref o_isKept, .ref o_sights, .int o_many, .ref o_text, .int o_letters, .int 0, .int o_cursor, .int o_token, .int o_start, .long o_value, .int o_isFault, .int o_faultAt, .int o_above, .int o_below, .ref o_topOf, .ref o_partsOf, .ref o_sent])), (o_isKept, .inl (cZ, 2, .inl o_isKept_f)), (o_kept, .inl (cI, 72, .inl o_kept_f)), (o_road, .inl (cI, 36, .inl o_road_f_32))] H) (hD : va_D A [(o, .inr (9, [.ref o_road, .ref o_told, .ref o_fresh, .ref o_was, .int o_acts, .ref o_kept, .ref o_isKept, .ref o_sights, .int o_many, .ref o_text, .int o_letters, .int 0, .int o_cursor, .int o_token, .int o_start, .long o_value, .int o_isFault, .int o_faultAt, .int o_above, .int o_below, .ref o_topOf, .ref o_partsOf, .ref o_sent])), (o_isKept, .inl (cZ, 2, .inl o_isKept_f)), (o_kept, .inl (cI, 72, .inl o_kept_f)), (o_road, .inl (cI, 36, .inl o_road_f_32))]) (hS : va_S A s.heap H locs) (hF : fX9_back a1 o_acts o_isKept_f o_kept_f o_road_f = fX9_back_32 a1 o_kept_f n o_road_f_32 v32_2), W p l e ({ frames := 1, cells := 0, slots := 0, locals := 25 } : Room) s m ([.ref o, .int a1] : List Value).toArray below meth c H locs 0 0 Q (F0 m 32 ls []) := by
    intro n
    induction n with
    | zero =>
      intro o_road_f_32 v32_2 h1_32 h2_32 hk0 hk1 hm H locs ls hl hP hD hS hF
      exact absurd hm (by omega)
    | succ n ih_32 =>
      intro o_road_f_32 v32_2 h1_32 h2_32 hk0 hk1 hm H locs ls hl hP hD hS hF
      refine lv_iload_n hx hb dX9_back_32 rfl (lv_at hl 2 rfl) ?_
      refine lv_bipush (v := 36) hx hb dX9_back_33 (by decide) ?_
      refine lv_icmp_ge (tgt := 61) hx hb dX9_back_35 (by decide) (fun c_3 => ?_) (fun c_3 => ?_)
      · have kc_3 := t_le c_3
        refine lv_aload_n hx hb dX9_back_61 rfl (lv_at hl 0 rfl) ?_
        refine lv_iconst (v := 0) hx hb dX9_back_62 (by decide) ?_
        refine xput hx hb hts hown hK 9 (C2 := RX9) (T := TX9) (N := 23) tyX9 rfl tyX9_ok nmX9 hin_9 hP hD hS 0 rfl 4 (by decide) fl_131 rfl rfl rfl rfl rfl (Nat.le_of_ble_eq_true rfl) dX9_back_63 [(o, .inr (9, [.ref o_road, .ref o_told, .ref o_fresh, .ref o_was, .int 0, .ref o_kept, .ref o_isKept, .ref o_sights, .int o_many, .ref o_text, .int o_letters, .int 0, .int o_cursor, .int o_token, .int o_start, .long o_value, .int o_isFault, .int o_faultAt, .int o_above, .int o_below, .ref o_topOf, .ref o_partsOf, .ref o_sent])), (o_isKept, .inl (cZ, 2, .inl o_isKept_f)), (o_kept, .inl (cI, 72, .inl o_kept_f)), (o_road, .inl (cI, 36, .inl o_road_f_32))] rfl (fun H locs hP hD hS => ?_)
        refine lv_aload_n hx hb dX9_back_66 rfl (lv_at hl 0 rfl) ?_
        refine xget hx hb hts hown hK 9 (C2 := RX9) (T := TX9) (N := 23) rfl hin_9 hP 0 rfl 0 (by decide) fl_7 rfl rfl rfl dX9_back_67 ?_
        refine lv_iconst (v := 3) hx hb dX9_back_70 (by decide) ?_
        refine xald hx hb hK hP 3 0 (k := 3) rfl rfl (vi (by decide) (by decide)) (by decide) dX9_back_71 ?_
        refine xcalli (S := Unit) (Wc := []) (wr := [(o, .inr (9, [.ref o_road, .ref o_told, .ref o_fresh, .ref o_was, .int 0, .ref o_kept, .ref o_isKept, .ref o_sights, .int o_many, .ref o_text, .int o_letters, .int 0, .int o_cursor, .int o_token, .int o_start, .long o_value, .int o_isFault, .int o_faultAt, .int o_above, .int o_below, .ref o_topOf, .ref o_partsOf, .ref o_sent])), (o_isKept, .inl (cZ, 2, .inl o_isKept_f)), (o_kept, .inl (cI, 72, .inl o_kept_f)), (o_road, .inl (cI, 36, .inl o_road_f_32))]) (W1 := (fun (u : Unit) => [])) (Wn := (fun (u : Unit) => [(o, .inr (9, [.ref o_road, .ref o_told, .ref o_fresh, .ref o_was, .int 0, .ref o_kept, .ref o_isKept, .ref o_sights, .int o_many, .ref o_text, .int o_letters, .int 0, .int o_cursor, .int o_token, .int o_start, .long o_value, .int o_isFault, .int o_faultAt, .int o_above, .int o_below, .ref o_topOf, .ref o_partsOf, .ref o_sent])), (o_isKept, .inl (cZ, 2, .inl o_isKept_f)), (o_kept, .inl (cI, 72, .inl o_kept_f)), (o_road, .inl (cI, 36, .inl o_road_f_32))])) (xrunS hx hb hml hown hts (c_X9_bits l D cI cZ _ (o_road_f_32 3) ) (va_cwS 1 hts gX9_back_X9_bits rfl rfl rfl (by decide +kernel) ⟨Nat.le_of_ble_eq_true rfl, Nat.le_of_ble_eq_true rfl⟩) hE hK hP hD [] rfl rfl rfl hl.1 rfl (Nat.le_of_ble_eq_true rfl) dX9_back_72 ⟨Nat.le_of_ble_eq_true rfl, Nat.le_of_ble_eq_true rfl⟩) hP hD hS hA [] [0, 1, 2, 3] [0, 1, 2, 3] rfl rfl rfl (by decide) (fun _ => rfl) rfl (fun r2 u H locs hw hz hP hD hS => ?_)
        subst hw
        exact hret _ _ _ _ (fX9_bits (o_road_f_32 3)) (0, o_road_f_32) dX9_back_75 ((hF.trans (by simp only [fX9_back_32, xlet, if_pos c_3])).symm) hP hD hS
      · have kc_3 := t_nle c_3
        refine lv_aload_n hx hb dX9_back_38 rfl (lv_at hl 0 rfl) ?_
        refine xget hx hb hts hown hK 9 (C2 := RX9) (T := TX9) (N := 23) rfl hin_9 hP 0 rfl 0 (by decide) fl_7 rfl rfl rfl dX9_back_39 ?_
        refine lv_iload_n hx hb dX9_back_42 rfl (lv_at hl 2 rfl) ?_
        refine lv_aload_n hx hb dX9_back_43 rfl (lv_at hl 0 rfl) ?_
        refine xget hx hb hts hown hK 9 (C2 := RX9) (T := TX9) (N := 23) rfl hin_9 hP 0 rfl 5 (by decide) fl_22 rfl rfl rfl dX9_back_44 ?_
        refine lv_bipush (v := 36) hx hb dX9_back_47 (by decide) ?_
        refine lv_iload_n hx hb dX9_back_49 rfl (lv_at hl 1 rfl) ?_
        refine lv_imul hx hb dX9_back_50 ?_
        refine lv_iload_n hx hb dX9_back_51 rfl (lv_at hl 2 rfl) ?_
        refine lv_iadd hx hb dX9_back_52 ?_
        have z_1 : (36 * a1).toInt = 36 * a1.toInt := z_mul 36 rfl (by omega) (by omega)
        have z_2 : ((36 * a1) + v32_2).toInt = (36 * a1).toInt + v32_2.toInt := z_add (by omega) (by omega)
        refine xald hx hb hK hP 2 0 (k := ((36 * a1) + v32_2).toNatClampNeg) rfl rfl (vi (by omega) (by omega)) rfl dX9_back_53 ?_
        refine xast hx hb hK hP hD hS 3 0 (k := v32_2.toNatClampNeg) rfl rfl (vi (by omega) (by omega)) rfl dX9_back_54 [(o, .inr (9, [.ref o_road, .ref o_told, .ref o_fresh, .ref o_was, .int o_acts, .ref o_kept, .ref o_isKept, .ref o_sights, .int o_many, .ref o_text, .int o_letters, .int 0, .int o_cursor, .int o_token, .int o_start, .long o_value, .int o_isFault, .int o_faultAt, .int o_above, .int o_below, .ref o_topOf, .ref o_partsOf, .ref o_sent])), (o_isKept, .inl (cZ, 2, .inl o_isKept_f)), (o_kept, .inl (cI, 72, .inl o_kept_f)), (o_road, .inl (cI, 36, .inl (upd o_road_f_32 v32_2.toNatClampNeg (o_kept_f ((36 * a1) + v32_2).toNatClampNeg))))] rfl (fun H locs hP hD hS => ?_)
        refine lv_iinc (v := (v32_2 + 1)) (lv' := [(2, .int (v32_2 + 1)), (0, .ref o), (1, .int a1)]) hx hb dX9_back_55 hl (k := 2) rfl (by rfl) (by decide) rfl (fun ls hl => ?_)
        refine lv_goto (tgt := 32) hx hb dX9_back_58 (by decide) ?_
        have z_3 : (v32_2 + 1).toInt = v32_2.toInt + (1 : Int32).toInt := z_add (by omega) (by omega)
        exact ih_32 (upd o_road_f_32 v32_2.toNatClampNeg (o_kept_f ((36 * a1) + v32_2).toNatClampNeg)) (v32_2 + 1) (by first | assumption | omega | decide | (split <;> rename_i hh <;> first | (have h9 := t_nlt hh; omega) | (have h9 := t_lt hh; omega) | (have h9 := t_nle hh; omega) | (have h9 := t_le hh; omega))) (by first | assumption | omega | decide | (split <;> rename_i hh <;> first | (have h9 := t_nlt hh; omega) | (have h9 := t_lt hh; omega) | (have h9 := t_nle hh; omega) | (have h9 := t_le hh; omega))) (by first | assumption | omega | decide | (split <;> rename_i hh <;> first | (have h9 := t_nlt hh; omega) | (have h9 := t_lt hh; omega) | (have h9 := t_nle hh; omega) | (have h9 := t_le hh; omega))) (by first | assumption | omega | decide | (split <;> rename_i hh <;> first | (have h9 := t_nlt hh; omega) | (have h9 := t_lt hh; omega) | (have h9 := t_nle hh; omega) | (have h9 := t_le hh; omega))) (by first | assumption | omega | decide | (split <;> rename_i hh <;> first | (have h9 := t_nlt hh; omega) | (have h9 := t_lt hh; omega) | (have h9 := t_nle hh; omega) | (have h9 := t_le hh; omega))) _ _ _ (lv_sub hl [1, 2, 0] rfl) hP hD hS (hF.trans (by simp only [fX9_back_32, xlet, if_neg c_3]))
  refine lv_aload_n hx hb dX9_back_0 rfl (lv_at hl 0 rfl) ?_
  refine lv_iconst (v := 0) hx hb dX9_back_1 (by decide) ?_
  refine xput hx hb hts hown hK 9 (C2 := RX9) (T := TX9) (N := 23) tyX9 rfl tyX9_ok nmX9 hin_9 hP hD hS 0 rfl 11 (by decide) fl_48 rfl rfl rfl rfl rfl (Nat.le_of_ble_eq_true rfl) dX9_back_2 [(o, .inr (9, [.ref o_road, .ref o_told, .ref o_fresh, .ref o_was, .int o_acts, .ref o_kept, .ref o_isKept, .ref o_sights, .int o_many, .ref o_text, .int o_letters, .int 0, .int o_cursor, .int o_token, .int o_start, .long o_value, .int o_isFault, .int o_faultAt, .int o_above, .int o_below, .ref o_topOf, .ref o_partsOf, .ref o_sent])), (o_isKept, .inl (cZ, 2, .inl o_isKept_f)), (o_kept, .inl (cI, 72, .inl o_kept_f)), (o_road, .inl (cI, 36, .inl o_road_f))] rfl (fun H locs hP hD hS => ?_)
  refine lv_iload_n hx hb dX9_back_5 rfl (lv_at hl 1 rfl) ?_
  refine lv_i2l (v := a1.toInt64) hx hb dX9_back_6 rfl ?_
  refine lv_lconst (v := 0) hx hb dX9_back_7 (by decide) ?_
  refine lv_lconst (v := 1) hx hb dX9_back_8 (by decide) ?_
  refine xcalli (S := Unit) (Wc := []) (wr := [(o, .inr (9, [.ref o_road, .ref o_told, .ref o_fresh, .ref o_was, .int o_acts, .ref o_kept, .ref o_isKept, .ref o_sights, .int o_many, .ref o_text, .int o_letters, .int 0, .int o_cursor, .int o_token, .int o_start, .long o_value, .int o_isFault, .int o_faultAt, .int o_above, .int o_below, .ref o_topOf, .ref o_partsOf, .ref o_sent])), (o_isKept, .inl (cZ, 2, .inl o_isKept_f)), (o_kept, .inl (cI, 72, .inl o_kept_f)), (o_road, .inl (cI, 36, .inl o_road_f))]) (W1 := (fun (u : Unit) => [])) (Wn := (fun (u : Unit) => [(o, .inr (9, [.ref o_road, .ref o_told, .ref o_fresh, .ref o_was, .int o_acts, .ref o_kept, .ref o_isKept, .ref o_sights, .int o_many, .ref o_text, .int o_letters, .int 0, .int o_cursor, .int o_token, .int o_start, .long o_value, .int o_isFault, .int o_faultAt, .int o_above, .int o_below, .ref o_topOf, .ref o_partsOf, .ref o_sent])), (o_isKept, .inl (cZ, 2, .inl o_isKept_f)), (o_kept, .inl (cI, 72, .inl o_kept_f)), (o_road, .inl (cI, 36, .inl o_road_f))])) (xrunS hx hb hml hown hts (c_X9_in l D cI cZ _ a1.toInt64 0 1 ) (va_cwS 3 hts gX9_back_X9_in rfl rfl rfl (by decide +kernel) ⟨Nat.le_of_ble_eq_true rfl, Nat.le_of_ble_eq_true rfl⟩) hE hK hP hD [] rfl rfl rfl hl.1 rfl (Nat.le_of_ble_eq_true rfl) dX9_back_9 ⟨Nat.le_of_ble_eq_true rfl, Nat.le_of_ble_eq_true rfl⟩) hP hD hS hA [] [0, 1, 2, 3] [0, 1, 2, 3] rfl rfl rfl (by decide) (fun _ => rfl) rfl (fun r1 u H locs hw hz hP hD hS => ?_)
  subst hw
  refine lv_if_ne (tgt := 18) hx hb dX9_back_12 (by decide) (fun c_1 => ?_) (fun c_1 => ?_)
  · have kb_c_1 : 0 ≤ a1.toInt ∧ a1.toInt ≤ 1 := in_b c_1 (by decide) (by decide)
    refine lv_aload_n hx hb dX9_back_18 rfl (lv_at hl 0 rfl) ?_
    refine xget hx hb hts hown hK 9 (C2 := RX9) (T := TX9) (N := 23) rfl hin_9 hP 0 rfl 6 (by decide) fl_25 rfl rfl rfl dX9_back_19 ?_
    refine lv_iload_n hx hb dX9_back_22 rfl (lv_at hl 1 rfl) ?_
    refine xzld hx hb hK hP 1 1 (k := a1.toNatClampNeg) rfl rfl (vi (by omega) (by omega)) rfl dX9_back_23 ?_
    refine lv_if_ne (tgt := 30) hx hb dX9_back_24 (by decide) (fun c_2 => ?_) (fun c_2 => ?_)
    · have kc_2 := t_neq c_2
      refine lv_iconst (v := 0) hx hb dX9_back_30 (by decide) ?_
      refine lv_istore_n (lv' := [(2, .int 0), (0, .ref o), (1, .int a1)]) hx hb dX9_back_31 rfl hl (by decide) rfl (fun ls hl => ?_)
      exact L_32 1000 o_road_f 0 (by first | assumption | omega | decide | (split <;> rename_i hh <;> first | (have h9 := t_nlt hh; omega) | (have h9 := t_lt hh; omega) | (have h9 := t_nle hh; omega) | (have h9 := t_le hh; omega))) (by first | assumption | omega | decide | (split <;> rename_i hh <;> first | (have h9 := t_nlt hh; omega) | (have h9 := t_lt hh; omega) | (have h9 := t_nle hh; omega) | (have h9 := t_le hh; omega))) (by first | assumption | omega | decide | (split <;> rename_i hh <;> first | (have h9 := t_nlt hh; omega) | (have h9 := t_lt hh; omega) | (have h9 := t_nle hh; omega) | (have h9 := t_le hh; omega))) (by first | assumption | omega | decide | (split <;> rename_i hh <;> first | (have h9 := t_nlt hh; omega) | (have h9 := t_lt hh; omega) | (have h9 := t_nle hh; omega) | (have h9 := t_le hh; omega))) (by first | assumption | omega | decide | (split <;> rename_i hh <;> first | (have h9 := t_nlt hh; omega) | (have h9 := t_lt hh; omega) | (have h9 := t_nle hh; omega) | (have h9 := t_le hh; omega))) _ _ _ (lv_sub hl [1, 2, 0] rfl) hP hD hS (hF.trans (by simp only [fX9_back, xlet, if_neg c_1, if_neg c_2]))
    · have kc_2 := t_eq c_2
      refine lv_bipush (v := (-4)) hx hb dX9_back_27 (by decide) ?_
      exact hret _ _ _ _ (-4) (o_acts, o_road_f) dX9_back_29 ((hF.trans (by simp only [fX9_back, xlet, if_neg c_1, if_pos c_2])).symm) hP hD hS
  · refine lv_bipush (v := (-2)) hx hb dX9_back_15 (by decide) ?_
    exact hret _ _ _ _ (-2) (o_acts, o_road_f) dX9_back_17 ((hF.trans (by simp only [fX9_back, xlet, if_pos c_1])).symm) hP hD hS
set_option maxRecDepth 20000 in
theorem ggX9_stone_X9_isWalker : GoodIn wsX9_stone wsX9_isWalker := goodIn_r _ [7, 8, 9, 10, 6, 11, 24, 25, 26, 27, 28, 29, 30, 31, 32, 33, 34, 35, 36, 37, 38, 39, 40, 41, 42, 43, 44, 45, 46] (by decide +kernel) (by decide +kernel)
set_option maxRecDepth 20000 in
theorem gX9_stone_X9_isWalker : GoodIn wsX9_stone (wsV RX9 142 RX9 yX9_isWalker wsX9_isWalker) := goodIn_app (goodIn_of _ (by decide +kernel)) ggX9_stone_X9_isWalker
set_option maxRecDepth 20000 in
theorem ggX9_stone_X9_in : GoodIn wsX9_stone wsX9_in := goodIn_r _ [11] (by decide +kernel) (by decide +kernel)
set_option maxRecDepth 20000 in
theorem gX9_stone_X9_in : GoodIn wsX9_stone (va_wsS RX9 52 yX9_in wsX9_in) := goodIn_app (goodIn_of _ (by decide +kernel)) ggX9_stone_X9_in
set_option maxRecDepth 20000 in
theorem ggX9_stone_X9_stoneOf : GoodIn wsX9_stone wsX9_stoneOf := goodIn_r _ [15, 8, 16, 17, 18, 6, 19, 20, 21, 22, 23, 24, 25, 26, 27, 28, 29, 30, 31, 32, 33, 34, 35, 36, 37, 38, 39, 40, 41, 42, 43, 44, 45, 46] (by decide +kernel) (by decide +kernel)
set_option maxRecDepth 20000 in
theorem gX9_stone_X9_stoneOf : GoodIn wsX9_stone (wsV RX9 145 RX9 yX9_stoneOf wsX9_stoneOf) := goodIn_app (goodIn_of _ (by decide +kernel)) ggX9_stone_X9_stoneOf
theorem dX9_stone_0 : decode cX9_stone 0 = .ok (.aload_n 0, 1) := by decide +kernel
theorem dX9_stone_1 : decode cX9_stone 1 = .ok (.iconst 0, 1) := by decide +kernel
theorem dX9_stone_2 : decode cX9_stone 2 = .ok (.putfield 48, 3) := by decide +kernel
theorem dX9_stone_5 : decode cX9_stone 5 = .ok (.aload_n 0, 1) := by decide +kernel
theorem dX9_stone_6 : decode cX9_stone 6 = .ok (.iload_n 1, 1) := by decide +kernel
theorem dX9_stone_7 : decode cX9_stone 7 = .ok (.invokevirtual 142, 3) := by decide +kernel
theorem dX9_stone_10 : decode cX9_stone 10 = .ok (.ifCond .ne 6, 3) := by decide +kernel
theorem dX9_stone_13 : decode cX9_stone 13 = .ok (.bipush (-2), 2) := by decide +kernel
theorem dX9_stone_15 : decode cX9_stone 15 = .ok (.ireturn, 1) := by decide +kernel
theorem dX9_stone_16 : decode cX9_stone 16 = .ok (.iload_n 2, 1) := by decide +kernel
theorem dX9_stone_17 : decode cX9_stone 17 = .ok (.i2l, 1) := by decide +kernel
theorem dX9_stone_18 : decode cX9_stone 18 = .ok (.lconst 1, 1) := by decide +kernel
theorem dX9_stone_19 : decode cX9_stone 19 = .ok (.ldc2_w 164, 3) := by decide +kernel
theorem dX9_stone_22 : decode cX9_stone 22 = .ok (.invokestatic 52, 3) := by decide +kernel
theorem dX9_stone_25 : decode cX9_stone 25 = .ok (.ifCond .eq 12, 3) := by decide +kernel
theorem dX9_stone_28 : decode cX9_stone 28 = .ok (.aload_n 0, 1) := by decide +kernel
theorem dX9_stone_29 : decode cX9_stone 29 = .ok (.iload_n 1, 1) := by decide +kernel
theorem dX9_stone_30 : decode cX9_stone 30 = .ok (.iload_n 2, 1) := by decide +kernel
theorem dX9_stone_31 : decode cX9_stone 31 = .ok (.invokevirtual 145, 3) := by decide +kernel
theorem dX9_stone_34 : decode cX9_stone 34 = .ok (.goto 5, 3) := by decide +kernel
theorem dX9_stone_37 : decode cX9_stone 37 = .ok (.bipush (-3), 2) := by decide +kernel
theorem dX9_stone_39 : decode cX9_stone 39 = .ok (.ireturn, 1) := by decide +kernel
def fX9_stone (a1 : Int32) (a2 : Int32) (o_road_f : Nat → Int32) : Int32 := if (fX9_isWalker a1 o_road_f) = 0 then ((-2)) else (xlet (if (fX9_in a2.toInt64 1 8) = 0 then (-3) else (fX9_stoneOf a1 a2 o_road_f)) (fun y_1 => y_1))
set_option maxHeartbeats 4000000 in
set_option maxRecDepth 100000 in
theorem c_X9_stone (l : Launch) (D : va_G) (cI cZ : ClassId) (sz : Nat) (o : Nat) (a1 : Int32) (a2 : Int32) (o_road : Nat) (o_told : Nat) (o_fresh : Nat) (o_was : Nat) (o_acts : Int32) (o_kept : Nat) (o_isKept : Nat) (o_sights : Nat) (o_many : Int32) (o_text : Nat) (o_letters : Int32) (o_thrown : Int32) (o_cursor : Int32) (o_token : Int32) (o_start : Int32) (o_value : Int64) (o_isFault : Int32) (o_faultAt : Int32) (o_above : Int32) (o_below : Int32) (o_topOf : Nat) (o_partsOf : Nat) (o_sent : Nat) (o_road_f : Nat → Int32) (hn0 : 4 ≤ (o_road_f 0).toInt) (hn1 : (o_road_f 0).toInt ≤ 20) (hv0 : 0 ≤ (o_road_f 2).toInt) (hv6 : (o_road_f 2).toInt ≤ 6) (hhab : ∀ w : Int32, 0 ≤ w.toInt → w.toInt < (o_road_f 2).toInt → ¬ o_road_f (30 + w).toNatClampNeg = 0) : Met l yX9_stone wsX9_stone ({ frames := 3, cells := 0, slots := 0, locals := 73 } : Room) (va_Pc [.ref o, .int a1, .int a2] (xP D cI cZ [(o, .inr (9, [.ref o_road, .ref o_told, .ref o_fresh, .ref o_was, .int o_acts, .ref o_kept, .ref o_isKept, .ref o_sights, .int o_many, .ref o_text, .int o_letters, .int o_thrown, .int o_cursor, .int o_token, .int o_start, .long o_value, .int o_isFault, .int o_faultAt, .int o_above, .int o_below, .ref o_topOf, .ref o_partsOf, .ref o_sent])), (o_road, .inl (cI, 36, .inl o_road_f))] sz)) (va_Qi (fun (r : Int32) (u : Unit) => r = fX9_stone a1 a2 o_road_f) (fun (u : Unit) t => xB D cI cZ [(o, .inr (9, [.ref o_road, .ref o_told, .ref o_fresh, .ref o_was, .int o_acts, .ref o_kept, .ref o_isKept, .ref o_sights, .int o_many, .ref o_text, .int o_letters, .int 0, .int o_cursor, .int o_token, .int o_start, .long o_value, .int o_isFault, .int o_faultAt, .int o_above, .int o_below, .ref o_topOf, .ref o_partsOf, .ref o_sent])), (o_road, .inl (cI, 36, .inl o_road_f))] (va_A [(o, .inr (9, [.ref o_road, .ref o_told, .ref o_fresh, .ref o_was, .int o_acts, .ref o_kept, .ref o_isKept, .ref o_sights, .int o_many, .ref o_text, .int o_letters, .int o_thrown, .int o_cursor, .int o_token, .int o_start, .long o_value, .int o_isFault, .int o_faultAt, .int o_above, .int o_below, .ref o_topOf, .ref o_partsOf, .ref o_sent])), (o_road, .inl (cI, 36, .inl o_road_f))] sz) t) (va_A [(o, .inr (9, [.ref o_road, .ref o_told, .ref o_fresh, .ref o_was, .int o_acts, .ref o_kept, .ref o_isKept, .ref o_sights, .int o_many, .ref o_text, .int o_letters, .int o_thrown, .int o_cursor, .int o_token, .int o_start, .long o_value, .int o_isFault, .int o_faultAt, .int o_above, .int o_below, .ref o_topOf, .ref o_partsOf, .ref o_sent])), (o_road, .inl (cI, 36, .inl o_road_f))] sz)) 0 0 (va_A [(o, .inr (9, [.ref o_road, .ref o_told, .ref o_fresh, .ref o_was, .int o_acts, .ref o_kept, .ref o_isKept, .ref o_sights, .int o_many, .ref o_text, .int o_letters, .int o_thrown, .int o_cursor, .int o_token, .int o_start, .long o_value, .int o_isFault, .int o_faultAt, .int o_above, .int o_below, .ref o_topOf, .ref o_partsOf, .ref o_sent])), (o_road, .inl (cI, 36, .inl o_road_f))] sz) := by
  refine Met.ofW (cc := cX9_stone) (maxL := 3) (ret := (some .int)) (by decide) rfl ?_
  intro p e s m args below meth c s₁ B hml hv
  obtain ⟨hargs, hsz, hP, hK, hD0, hE⟩ := hv
  subst hargs
  have hx := B.exec
  have hb := B.bytes
  have hr := B.returns
  have hts := atoms_spec (ws := wsX9_stone) B.pre
  have hown : s.vm.findClass RX9 = some m.cls := findClass_of_methodNamed B.named
  have hlocks := B.notSynchronized
  subst hsz
  have hD := hD0.self (sz := s.heap.size)
  generalize hAe : va_A [(o, .inr (9, [.ref o_road, .ref o_told, .ref o_fresh, .ref o_was, .int o_acts, .ref o_kept, .ref o_isKept, .ref o_sights, .int o_many, .ref o_text, .int o_letters, .int o_thrown, .int o_cursor, .int o_token, .int o_start, .long o_value, .int o_isFault, .int o_faultAt, .int o_above, .int o_below, .ref o_topOf, .ref o_partsOf, .ref o_sent])), (o_road, .inl (cI, 36, .inl o_road_f))] s.heap.size = A at hD ⊢
  have hA : ∀ q : Nat, s.heap.size ≤ q → A q := fun q h => by rw [← hAe]; exact Or.inr h
  have hS : va_S A s.heap s.heap [] := va_S.rf
  have hl := lv_entry ([.ref o, .int a1, .int a2]) (n := 3) (Nat.le_of_ble_eq_true rfl)
  rw [lg_entry_eq]
  generalize (lg_sl ([.ref o, .int a1, .int a2]) ++ List.replicate (3 - (lg_sl ([.ref o, .int a1, .int a2])).length) Slot.unset).toArray = ls at hl ⊢
  have hl : lv_has ls 3 [(0, .ref o), (1, .int a1), (2, .int a2)] := hl
  refine wq (X := fun Q => ∀ (pc : Nat) (H : Heap) (locs : List Loc) (ls : Array Slot) (r : Int32) (u : Unit) (hd : decode cX9_stone pc = .ok (.ireturn, 1)) (hp : r = fX9_stone a1 a2 o_road_f) (hP : va_P D vwCl [(o, .inr (9, [.ref o_road, .ref o_told, .ref o_fresh, .ref o_was, .int o_acts, .ref o_kept, .ref o_isKept, .ref o_sights, .int o_many, .ref o_text, .int o_letters, .int 0, .int o_cursor, .int o_token, .int o_start, .long o_value, .int o_isFault, .int o_faultAt, .int o_above, .int o_below, .ref o_topOf, .ref o_partsOf, .ref o_sent])), (o_road, .inl (cI, 36, .inl o_road_f))] H) (hD : va_D A [(o, .inr (9, [.ref o_road, .ref o_told, .ref o_fresh, .ref o_was, .int o_acts, .ref o_kept, .ref o_isKept, .ref o_sights, .int o_many, .ref o_text, .int o_letters, .int 0, .int o_cursor, .int o_token, .int o_start, .long o_value, .int o_isFault, .int o_faultAt, .int o_above, .int o_below, .ref o_topOf, .ref o_partsOf, .ref o_sent])), (o_road, .inl (cI, 36, .inl o_road_f))]) (hS : va_S A s.heap H locs), W p l e ({ frames := 3, cells := 0, slots := 0, locals := 73 } : Room) s m ([.ref o, .int a1, .int a2] : List Value).toArray below meth c H locs 0 0 Q (F0 m pc ls [.int r])) ?_ (fun Q hret => ?_)
  · intro pc H locs ls r u hd hp hP hD hS
    exact W.iret (v := r) hx hb hr (fun t ht hW => ⟨⟨r, u, rfl, hp, by rw [ht]; exact hP, va_K.moved hW.alike hK, hD⟩, hS.F ht⟩) hS.2.2 hd
  have hin_9 : ∀ w ∈ u_ws RX9 TX9 23, w ∈ wsX9_stone := by decide +kernel
  have fl_48 := hts (.fieldLink RX9 48 "MileRoadModel" "thrown" "I") (by decide +kernel)
  have zl_0 : (0 : Int32).toInt = 0 := by decide
  have hF : fX9_stone a1 a2 o_road_f = fX9_stone a1 a2 o_road_f := rfl
  refine lv_aload_n hx hb dX9_stone_0 rfl (lv_at hl 0 rfl) ?_
  refine lv_iconst (v := 0) hx hb dX9_stone_1 (by decide) ?_
  refine xput hx hb hts hown hK 9 (C2 := RX9) (T := TX9) (N := 23) tyX9 rfl tyX9_ok nmX9 hin_9 hP hD hS 0 rfl 11 (by decide) fl_48 rfl rfl rfl rfl rfl (Nat.le_of_ble_eq_true rfl) dX9_stone_2 [(o, .inr (9, [.ref o_road, .ref o_told, .ref o_fresh, .ref o_was, .int o_acts, .ref o_kept, .ref o_isKept, .ref o_sights, .int o_many, .ref o_text, .int o_letters, .int 0, .int o_cursor, .int o_token, .int o_start, .long o_value, .int o_isFault, .int o_faultAt, .int o_above, .int o_below, .ref o_topOf, .ref o_partsOf, .ref o_sent])), (o_road, .inl (cI, 36, .inl o_road_f))] rfl (fun H locs hP hD hS => ?_)
  refine lv_aload_n hx hb dX9_stone_5 rfl (lv_at hl 0 rfl) ?_
  refine lv_iload_n hx hb dX9_stone_6 rfl (lv_at hl 1 rfl) ?_
  refine xcalli (S := Unit) (Wc := [(o, .inr (9, [.ref o_road, .ref o_told, .ref o_fresh, .ref o_was, .int o_acts, .ref o_kept, .ref o_isKept, .ref o_sights, .int o_many, .ref o_text, .int o_letters, .int 0, .int o_cursor, .int o_token, .int o_start, .long o_value, .int o_isFault, .int o_faultAt, .int o_above, .int o_below, .ref o_topOf, .ref o_partsOf, .ref o_sent])), (o_road, .inl (cI, 36, .inl o_road_f))]) (wr := []) (W1 := (fun (u : Unit) => [(o, .inr (9, [.ref o_road, .ref o_told, .ref o_fresh, .ref o_was, .int o_acts, .ref o_kept, .ref o_isKept, .ref o_sights, .int o_many, .ref o_text, .int o_letters, .int 0, .int o_cursor, .int o_token, .int o_start, .long o_value, .int o_isFault, .int o_faultAt, .int o_above, .int o_below, .ref o_topOf, .ref o_partsOf, .ref o_sent])), (o_road, .inl (cI, 36, .inl o_road_f))])) (Wn := (fun (u : Unit) => [(o, .inr (9, [.ref o_road, .ref o_told, .ref o_fresh, .ref o_was, .int o_acts, .ref o_kept, .ref o_isKept, .ref o_sights, .int o_many, .ref o_text, .int o_letters, .int 0, .int o_cursor, .int o_token, .int o_start, .long o_value, .int o_isFault, .int o_faultAt, .int o_above, .int o_below, .ref o_topOf, .ref o_partsOf, .ref o_sent])), (o_road, .inl (cI, 36, .inl o_road_f))])) (xrunV hx hb hml hown hts (c_X9_isWalker l D cI cZ _ o a1 o_road o_told o_fresh o_was o_acts o_kept o_isKept o_sights o_many o_text o_letters 0 o_cursor o_token o_start o_value o_isFault o_faultAt o_above o_below o_topOf o_partsOf o_sent o_road_f ) (cwV 1 hts gX9_stone_X9_isWalker rfl rfl rfl (by decide +kernel) ⟨Nat.le_of_ble_eq_true rfl, Nat.le_of_ble_eq_true rfl⟩) hE hK hP hD [0, 1] rfl rfl 0 9 (T := TX9) (N := 23) rfl rfl rfl hl.1 rfl (Nat.le_of_ble_eq_true rfl) dX9_stone_7 ⟨Nat.le_of_ble_eq_true rfl, Nat.le_of_ble_eq_true rfl⟩) hP hD hS hA [0, 1] [] [0, 1] rfl rfl rfl (by decide) (fun _ => rfl) rfl (fun r1 u H locs hw hz hP hD hS => ?_)
  subst hw
  refine lv_if_ne (tgt := 16) hx hb dX9_stone_10 (by decide) (fun c_1 => ?_) (fun c_1 => ?_)
  · have kb_c_1 : 0 ≤ a1.toInt ∧ a1.toInt < (o_road_f 2).toInt := isWalker_b c_1 (by omega) (by omega)
    refine lv_iload_n hx hb dX9_stone_16 rfl (lv_at hl 2 rfl) ?_
    refine lv_i2l (v := a2.toInt64) hx hb dX9_stone_17 rfl ?_
    refine lv_lconst (v := 1) hx hb dX9_stone_18 (by decide) ?_
    refine lv_ldc2 (v := 8) hx hb hown (hts (.constantLong RX9 164 8) (by decide +kernel)) dX9_stone_19 ?_
    refine xcalli (S := Unit) (Wc := []) (wr := [(o, .inr (9, [.ref o_road, .ref o_told, .ref o_fresh, .ref o_was, .int o_acts, .ref o_kept, .ref o_isKept, .ref o_sights, .int o_many, .ref o_text, .int o_letters, .int 0, .int o_cursor, .int o_token, .int o_start, .long o_value, .int o_isFault, .int o_faultAt, .int o_above, .int o_below, .ref o_topOf, .ref o_partsOf, .ref o_sent])), (o_road, .inl (cI, 36, .inl o_road_f))]) (W1 := (fun (u : Unit) => [])) (Wn := (fun (u : Unit) => [(o, .inr (9, [.ref o_road, .ref o_told, .ref o_fresh, .ref o_was, .int o_acts, .ref o_kept, .ref o_isKept, .ref o_sights, .int o_many, .ref o_text, .int o_letters, .int 0, .int o_cursor, .int o_token, .int o_start, .long o_value, .int o_isFault, .int o_faultAt, .int o_above, .int o_below, .ref o_topOf, .ref o_partsOf, .ref o_sent])), (o_road, .inl (cI, 36, .inl o_road_f))])) (xrunS hx hb hml hown hts (c_X9_in l D cI cZ _ a2.toInt64 1 8 ) (va_cwS 3 hts gX9_stone_X9_in rfl rfl rfl (by decide +kernel) ⟨Nat.le_of_ble_eq_true rfl, Nat.le_of_ble_eq_true rfl⟩) hE hK hP hD [] rfl rfl rfl hl.1 rfl (Nat.le_of_ble_eq_true rfl) dX9_stone_22 ⟨Nat.le_of_ble_eq_true rfl, Nat.le_of_ble_eq_true rfl⟩) hP hD hS hA [] [0, 1] [0, 1] rfl rfl rfl (by decide) (fun _ => rfl) rfl (fun r2 u H locs hw hz hP hD hS => ?_)
    subst hw
    have K_y_1 : ∀ (y_1 : Int32) (hy_y_1 : (if (fX9_in a2.toInt64 1 8) = 0 then (-3) else (fX9_stoneOf a1 a2 o_road_f)) = y_1) (H : Heap) (locs : List Loc) (hP : va_P D vwCl [(o, .inr (9, [.ref o_road, .ref o_told, .ref o_fresh, .ref o_was, .int o_acts, .ref o_kept, .ref o_isKept, .ref o_sights, .int o_many, .ref o_text, .int o_letters, .int 0, .int o_cursor, .int o_token, .int o_start, .long o_value, .int o_isFault, .int o_faultAt, .int o_above, .int o_below, .ref o_topOf, .ref o_partsOf, .ref o_sent])), (o_road, .inl (cI, 36, .inl o_road_f))] H) (hD : va_D A [(o, .inr (9, [.ref o_road, .ref o_told, .ref o_fresh, .ref o_was, .int o_acts, .ref o_kept, .ref o_isKept, .ref o_sights, .int o_many, .ref o_text, .int o_letters, .int 0, .int o_cursor, .int o_token, .int o_start, .long o_value, .int o_isFault, .int o_faultAt, .int o_above, .int o_below, .ref o_topOf, .ref o_partsOf, .ref o_sent])), (o_road, .inl (cI, 36, .inl o_road_f))]) (hS : va_S A s.heap H locs), W p l e ({ frames := 3, cells := 0, slots := 0, locals := 73 } : Room) s m ([.ref o, .int a1, .int a2] : List Value).toArray below meth c H locs 0 0 Q (F0 m 39 ls [.int y_1]) := by
      intro y_1 hy_y_1 H locs hP hD hS
      have ky_y_1 : y_1 = (-3) ∨ y_1 = (fX9_stoneOf a1 a2 o_road_f) := by rw [← hy_y_1]; (repeat' split) <;> simp
      exact hret _ _ _ _ y_1 () dX9_stone_39 ((hF.trans (by simp only [fX9_stone, xlet, if_neg c_1, ↓hy_y_1])).symm) hP hD hS
    refine lv_if_eq (tgt := 37) hx hb dX9_stone_25 (by decide) (fun c_2 => ?_) (fun c_2 => ?_)
    · refine lv_bipush (v := (-3)) hx hb dX9_stone_37 (by decide) ?_
      exact K_y_1 _ (by simp only [xlet, if_pos c_2]) _ _ hP hD hS
    · have kb_c_2 : 1 ≤ a2.toInt ∧ a2.toInt ≤ 8 := in_b c_2 (by decide) (by decide)
      refine lv_aload_n hx hb dX9_stone_28 rfl (lv_at hl 0 rfl) ?_
      refine lv_iload_n hx hb dX9_stone_29 rfl (lv_at hl 1 rfl) ?_
      refine lv_iload_n hx hb dX9_stone_30 rfl (lv_at hl 2 rfl) ?_
      refine xcalli (S := Unit) (Wc := [(o, .inr (9, [.ref o_road, .ref o_told, .ref o_fresh, .ref o_was, .int o_acts, .ref o_kept, .ref o_isKept, .ref o_sights, .int o_many, .ref o_text, .int o_letters, .int 0, .int o_cursor, .int o_token, .int o_start, .long o_value, .int o_isFault, .int o_faultAt, .int o_above, .int o_below, .ref o_topOf, .ref o_partsOf, .ref o_sent])), (o_road, .inl (cI, 36, .inl o_road_f))]) (wr := []) (W1 := (fun (u : Unit) => [(o, .inr (9, [.ref o_road, .ref o_told, .ref o_fresh, .ref o_was, .int o_acts, .ref o_kept, .ref o_isKept, .ref o_sights, .int o_many, .ref o_text, .int o_letters, .int 0, .int o_cursor, .int o_token, .int o_start, .long o_value, .int o_isFault, .int o_faultAt, .int o_above, .int o_below, .ref o_topOf, .ref o_partsOf, .ref o_sent])), (o_road, .inl (cI, 36, .inl o_road_f))])) (Wn := (fun (u : Unit) => [(o, .inr (9, [.ref o_road, .ref o_told, .ref o_fresh, .ref o_was, .int o_acts, .ref o_kept, .ref o_isKept, .ref o_sights, .int o_many, .ref o_text, .int o_letters, .int 0, .int o_cursor, .int o_token, .int o_start, .long o_value, .int o_isFault, .int o_faultAt, .int o_above, .int o_below, .ref o_topOf, .ref o_partsOf, .ref o_sent])), (o_road, .inl (cI, 36, .inl o_road_f))])) (xrunV hx hb hml hown hts (c_X9_stoneOf l D cI cZ _ o a1 a2 o_road o_told o_fresh o_was o_acts o_kept o_isKept o_sights o_many o_text o_letters 0 o_cursor o_token o_start o_value o_isFault o_faultAt o_above o_below o_topOf o_partsOf o_sent o_road_f hn0 hn1 hv0 hv6 hhab (by first | assumption | decide | omega) (by first | assumption | decide | omega)) (cwV 2 hts gX9_stone_X9_stoneOf rfl rfl rfl (by decide +kernel) ⟨Nat.le_of_ble_eq_true rfl, Nat.le_of_ble_eq_true rfl⟩) hE hK hP hD [0, 1] rfl rfl 0 9 (T := TX9) (N := 23) rfl rfl rfl hl.1 rfl (Nat.le_of_ble_eq_true rfl) dX9_stone_31 ⟨Nat.le_of_ble_eq_true rfl, Nat.le_of_ble_eq_true rfl⟩) hP hD hS hA [0, 1] [] [0, 1] rfl rfl rfl (by decide) (fun _ => rfl) rfl (fun r3 u H locs hw hz hP hD hS => ?_)
      subst hw
      refine lv_goto (tgt := 39) hx hb dX9_stone_34 (by decide) ?_
      exact K_y_1 _ (by simp only [xlet, if_neg c_2]) _ _ hP hD hS
  · refine lv_bipush (v := (-2)) hx hb dX9_stone_13 (by decide) ?_
    exact hret _ _ _ _ (-2) () dX9_stone_15 ((hF.trans (by simp only [fX9_stone, xlet, if_pos c_1])).symm) hP hD hS
set_option maxRecDepth 20000 in
theorem ggX9_layMean_X9_stoneOf : GoodIn wsX9_layMean wsX9_stoneOf := goodIn_r _ [8, 3, 9, 10, 11, 7, 12, 13, 14, 15, 16, 17, 18, 19, 20, 21, 22, 23, 24, 25, 26, 27, 28, 29, 30, 31, 32, 33, 34, 35, 36, 37, 38, 39] (by decide +kernel) (by decide +kernel)
set_option maxRecDepth 20000 in
theorem gX9_layMean_X9_stoneOf : GoodIn wsX9_layMean (wsV RX9 145 RX9 yX9_stoneOf wsX9_stoneOf) := goodIn_app (goodIn_of _ (by decide +kernel)) ggX9_layMean_X9_stoneOf
theorem dX9_layMean_0 : decode cX9_layMean 0 = .ok (.aload_n 0, 1) := by decide +kernel
theorem dX9_layMean_1 : decode cX9_layMean 1 = .ok (.iconst 0, 1) := by decide +kernel
theorem dX9_layMean_2 : decode cX9_layMean 2 = .ok (.putfield 166, 3) := by decide +kernel
theorem dX9_layMean_5 : decode cX9_layMean 5 = .ok (.aload_n 0, 1) := by decide +kernel
theorem dX9_layMean_6 : decode cX9_layMean 6 = .ok (.iconst 0, 1) := by decide +kernel
theorem dX9_layMean_7 : decode cX9_layMean 7 = .ok (.putfield 169, 3) := by decide +kernel
theorem dX9_layMean_10 : decode cX9_layMean 10 = .ok (.iconst 0, 1) := by decide +kernel
theorem dX9_layMean_11 : decode cX9_layMean 11 = .ok (.istore_n 3, 1) := by decide +kernel
theorem dX9_layMean_12 : decode cX9_layMean 12 = .ok (.iload_n 3, 1) := by decide +kernel
theorem dX9_layMean_13 : decode cX9_layMean 13 = .ok (.aload_n 0, 1) := by decide +kernel
theorem dX9_layMean_14 : decode cX9_layMean 14 = .ok (.getfield 7, 3) := by decide +kernel
theorem dX9_layMean_17 : decode cX9_layMean 17 = .ok (.iconst 2, 1) := by decide +kernel
theorem dX9_layMean_18 : decode cX9_layMean 18 = .ok (.iaload, 1) := by decide +kernel
theorem dX9_layMean_19 : decode cX9_layMean 19 = .ok (.if_icmp .ge 71, 3) := by decide +kernel
theorem dX9_layMean_22 : decode cX9_layMean 22 = .ok (.iload_n 1, 1) := by decide +kernel
theorem dX9_layMean_23 : decode cX9_layMean 23 = .ok (.iload_n 3, 1) := by decide +kernel
theorem dX9_layMean_24 : decode cX9_layMean 24 = .ok (.ishr, 1) := by decide +kernel
theorem dX9_layMean_25 : decode cX9_layMean 25 = .ok (.iconst 1, 1) := by decide +kernel
theorem dX9_layMean_26 : decode cX9_layMean 26 = .ok (.iand, 1) := by decide +kernel
theorem dX9_layMean_27 : decode cX9_layMean 27 = .ok (.iconst 1, 1) := by decide +kernel
theorem dX9_layMean_28 : decode cX9_layMean 28 = .ok (.if_icmp .ne 12, 3) := by decide +kernel
theorem dX9_layMean_31 : decode cX9_layMean 31 = .ok (.aload_n 0, 1) := by decide +kernel
theorem dX9_layMean_32 : decode cX9_layMean 32 = .ok (.iload_n 3, 1) := by decide +kernel
theorem dX9_layMean_33 : decode cX9_layMean 33 = .ok (.iload_n 2, 1) := by decide +kernel
theorem dX9_layMean_34 : decode cX9_layMean 34 = .ok (.invokevirtual 145, 3) := by decide +kernel
theorem dX9_layMean_37 : decode cX9_layMean 37 = .ok (.goto 4, 3) := by decide +kernel
theorem dX9_layMean_40 : decode cX9_layMean 40 = .ok (.iconst (-1), 1) := by decide +kernel
theorem dX9_layMean_41 : decode cX9_layMean 41 = .ok (.istore 4, 2) := by decide +kernel
theorem dX9_layMean_43 : decode cX9_layMean 43 = .ok (.aload_n 0, 1) := by decide +kernel
theorem dX9_layMean_44 : decode cX9_layMean 44 = .ok (.dup, 1) := by decide +kernel
theorem dX9_layMean_45 : decode cX9_layMean 45 = .ok (.getfield 166, 3) := by decide +kernel
theorem dX9_layMean_48 : decode cX9_layMean 48 = .ok (.iload 4, 2) := by decide +kernel
theorem dX9_layMean_50 : decode cX9_layMean 50 = .ok (.iconst (-1), 1) := by decide +kernel
theorem dX9_layMean_51 : decode cX9_layMean 51 = .ok (.if_icmp .ne 7, 3) := by decide +kernel
theorem dX9_layMean_54 : decode cX9_layMean 54 = .ok (.iconst 0, 1) := by decide +kernel
theorem dX9_layMean_55 : decode cX9_layMean 55 = .ok (.goto 5, 3) := by decide +kernel
theorem dX9_layMean_58 : decode cX9_layMean 58 = .ok (.iload 4, 2) := by decide +kernel
theorem dX9_layMean_60 : decode cX9_layMean 60 = .ok (.iadd, 1) := by decide +kernel
theorem dX9_layMean_61 : decode cX9_layMean 61 = .ok (.putfield 166, 3) := by decide +kernel
theorem dX9_layMean_64 : decode cX9_layMean 64 = .ok (.aload_n 0, 1) := by decide +kernel
theorem dX9_layMean_65 : decode cX9_layMean 65 = .ok (.dup, 1) := by decide +kernel
theorem dX9_layMean_66 : decode cX9_layMean 66 = .ok (.getfield 169, 3) := by decide +kernel
theorem dX9_layMean_69 : decode cX9_layMean 69 = .ok (.iload 4, 2) := by decide +kernel
theorem dX9_layMean_71 : decode cX9_layMean 71 = .ok (.iconst (-1), 1) := by decide +kernel
theorem dX9_layMean_72 : decode cX9_layMean 72 = .ok (.if_icmp .ne 7, 3) := by decide +kernel
theorem dX9_layMean_75 : decode cX9_layMean 75 = .ok (.iconst 0, 1) := by decide +kernel
theorem dX9_layMean_76 : decode cX9_layMean 76 = .ok (.goto 4, 3) := by decide +kernel
theorem dX9_layMean_79 : decode cX9_layMean 79 = .ok (.iconst 1, 1) := by decide +kernel
theorem dX9_layMean_80 : decode cX9_layMean 80 = .ok (.iadd, 1) := by decide +kernel
theorem dX9_layMean_81 : decode cX9_layMean 81 = .ok (.putfield 169, 3) := by decide +kernel
theorem dX9_layMean_84 : decode cX9_layMean 84 = .ok (.iinc 3 1, 3) := by decide +kernel
theorem dX9_layMean_87 : decode cX9_layMean 87 = .ok (.goto (-75), 3) := by decide +kernel
theorem dX9_layMean_90 : decode cX9_layMean 90 = .ok (.aload_n 0, 1) := by decide +kernel
theorem dX9_layMean_91 : decode cX9_layMean 91 = .ok (.getfield 169, 3) := by decide +kernel
theorem dX9_layMean_94 : decode cX9_layMean 94 = .ok (.ifCond .le 7, 3) := by decide +kernel
theorem dX9_layMean_97 : decode cX9_layMean 97 = .ok (.iconst 1, 1) := by decide +kernel
theorem dX9_layMean_98 : decode cX9_layMean 98 = .ok (.goto 4, 3) := by decide +kernel
theorem dX9_layMean_101 : decode cX9_layMean 101 = .ok (.iconst 0, 1) := by decide +kernel
theorem dX9_layMean_102 : decode cX9_layMean 102 = .ok (.ireturn, 1) := by decide +kernel
def fX9_layMean_12 (a1 : Int32) (a2 : Int32) (o_road_f : Nat → Int32)  : Nat → Int32 → Int32 → Int32 → Int32 × Int32 × Int32
  | 0, _, _, _ => default
  | n + 1, v12_3, o_above_12, o_below_12 => if (o_road_f 2) ≤ v12_3 then (xlet (if o_below_12 ≤ 0 then (0 : Int32) else 1) (fun y_4 => (y_4, o_above_12, o_below_12))) else (xlet (if ((a1 >>> (v12_3 &&& 31)) &&& 1) = 1 then (fX9_stoneOf v12_3 a2 o_road_f) else (-1)) (fun y_5 => xlet (if y_5 = (-1) then 0 else y_5) (fun y_6 => xlet (if y_5 = (-1) then (0 : Int32) else 1) (fun y_7 => fX9_layMean_12 a1 a2 o_road_f n (v12_3 + 1) (o_above_12 + y_6) (o_below_12 + y_7)))))
def fX9_layMean (a1 : Int32) (a2 : Int32) (o_road_f : Nat → Int32) : Int32 × Int32 × Int32 := fX9_layMean_12 a1 a2 o_road_f 1000 0 0 0
set_option maxHeartbeats 4000000 in
set_option maxRecDepth 100000 in
theorem c_X9_layMean (l : Launch) (D : va_G) (cI cZ : ClassId) (sz : Nat) (o : Nat) (a1 : Int32) (a2 : Int32) (o_road : Nat) (o_told : Nat) (o_fresh : Nat) (o_was : Nat) (o_acts : Int32) (o_kept : Nat) (o_isKept : Nat) (o_sights : Nat) (o_many : Int32) (o_text : Nat) (o_letters : Int32) (o_thrown : Int32) (o_cursor : Int32) (o_token : Int32) (o_start : Int32) (o_value : Int64) (o_isFault : Int32) (o_faultAt : Int32) (o_above : Int32) (o_below : Int32) (o_topOf : Nat) (o_partsOf : Nat) (o_sent : Nat) (o_road_f : Nat → Int32) (hn0 : 4 ≤ (o_road_f 0).toInt) (hn1 : (o_road_f 0).toInt ≤ 20) (hv0 : 0 ≤ (o_road_f 2).toInt) (hv6 : (o_road_f 2).toInt ≤ 6) (hhab : ∀ w : Int32, 0 ≤ w.toInt → w.toInt < (o_road_f 2).toInt → ¬ o_road_f (30 + w).toNatClampNeg = 0) : Met l yX9_layMean wsX9_layMean ({ frames := 3, cells := 0, slots := 0, locals := 73 } : Room) (va_Pc [.ref o, .int a1, .int a2] (xP D cI cZ [(o, .inr (9, [.ref o_road, .ref o_told, .ref o_fresh, .ref o_was, .int o_acts, .ref o_kept, .ref o_isKept, .ref o_sights, .int o_many, .ref o_text, .int o_letters, .int o_thrown, .int o_cursor, .int o_token, .int o_start, .long o_value, .int o_isFault, .int o_faultAt, .int o_above, .int o_below, .ref o_topOf, .ref o_partsOf, .ref o_sent])), (o_road, .inl (cI, 36, .inl o_road_f))] sz)) (va_Qi (fun (r : Int32) (u : Int32 × Int32) => (r, u) = fX9_layMean a1 a2 o_road_f) (fun (u : Int32 × Int32) t => xB D cI cZ [(o, .inr (9, [.ref o_road, .ref o_told, .ref o_fresh, .ref o_was, .int o_acts, .ref o_kept, .ref o_isKept, .ref o_sights, .int o_many, .ref o_text, .int o_letters, .int o_thrown, .int o_cursor, .int o_token, .int o_start, .long o_value, .int o_isFault, .int o_faultAt, .int u.1, .int u.2, .ref o_topOf, .ref o_partsOf, .ref o_sent])), (o_road, .inl (cI, 36, .inl o_road_f))] (va_A [(o, .inr (9, [.ref o_road, .ref o_told, .ref o_fresh, .ref o_was, .int o_acts, .ref o_kept, .ref o_isKept, .ref o_sights, .int o_many, .ref o_text, .int o_letters, .int o_thrown, .int o_cursor, .int o_token, .int o_start, .long o_value, .int o_isFault, .int o_faultAt, .int o_above, .int o_below, .ref o_topOf, .ref o_partsOf, .ref o_sent])), (o_road, .inl (cI, 36, .inl o_road_f))] sz) t) (va_A [(o, .inr (9, [.ref o_road, .ref o_told, .ref o_fresh, .ref o_was, .int o_acts, .ref o_kept, .ref o_isKept, .ref o_sights, .int o_many, .ref o_text, .int o_letters, .int o_thrown, .int o_cursor, .int o_token, .int o_start, .long o_value, .int o_isFault, .int o_faultAt, .int o_above, .int o_below, .ref o_topOf, .ref o_partsOf, .ref o_sent])), (o_road, .inl (cI, 36, .inl o_road_f))] sz)) 0 0 (va_A [(o, .inr (9, [.ref o_road, .ref o_told, .ref o_fresh, .ref o_was, .int o_acts, .ref o_kept, .ref o_isKept, .ref o_sights, .int o_many, .ref o_text, .int o_letters, .int o_thrown, .int o_cursor, .int o_token, .int o_start, .long o_value, .int o_isFault, .int o_faultAt, .int o_above, .int o_below, .ref o_topOf, .ref o_partsOf, .ref o_sent])), (o_road, .inl (cI, 36, .inl o_road_f))] sz) := by
  refine Met.ofW (cc := cX9_layMean) (maxL := 5) (ret := (some .boolean)) (by decide) rfl ?_
  intro p e s m args below meth c s₁ B hml hv
  obtain ⟨hargs, hsz, hP, hK, hD0, hE⟩ := hv
  subst hargs
  have hx := B.exec
  have hb := B.bytes
  have hr := B.returns
  have hts := atoms_spec (ws := wsX9_layMean) B.pre
  have hown : s.vm.findClass RX9 = some m.cls := findClass_of_methodNamed B.named
  have hlocks := B.notSynchronized
  subst hsz
  have hD := hD0.self (sz := s.heap.size)
  generalize hAe : va_A [(o, .inr (9, [.ref o_road, .ref o_told, .ref o_fresh, .ref o_was, .int o_acts, .ref o_kept, .ref o_isKept, .ref o_sights, .int o_many, .ref o_text, .int o_letters, .int o_thrown, .int o_cursor, .int o_token, .int o_start, .long o_value, .int o_isFault, .int o_faultAt, .int o_above, .int o_below, .ref o_topOf, .ref o_partsOf, .ref o_sent])), (o_road, .inl (cI, 36, .inl o_road_f))] s.heap.size = A at hD ⊢
  have hA : ∀ q : Nat, s.heap.size ≤ q → A q := fun q h => by rw [← hAe]; exact Or.inr h
  have hS : va_S A s.heap s.heap [] := va_S.rf
  have hl := lv_entry ([.ref o, .int a1, .int a2]) (n := 5) (Nat.le_of_ble_eq_true rfl)
  rw [lg_entry_eq]
  generalize (lg_sl ([.ref o, .int a1, .int a2]) ++ List.replicate (5 - (lg_sl ([.ref o, .int a1, .int a2])).length) Slot.unset).toArray = ls at hl ⊢
  have hl : lv_has ls 5 [(0, .ref o), (1, .int a1), (2, .int a2)] := hl
  refine wq (X := fun Q => ∀ (pc : Nat) (H : Heap) (locs : List Loc) (ls : Array Slot) (r : Int32) (u : Int32 × Int32) (hn : narrow .boolean (.int r) = .int r) (hd : decode cX9_layMean pc = .ok (.ireturn, 1)) (hp : (r, u) = fX9_layMean a1 a2 o_road_f) (hP : va_P D vwCl [(o, .inr (9, [.ref o_road, .ref o_told, .ref o_fresh, .ref o_was, .int o_acts, .ref o_kept, .ref o_isKept, .ref o_sights, .int o_many, .ref o_text, .int o_letters, .int o_thrown, .int o_cursor, .int o_token, .int o_start, .long o_value, .int o_isFault, .int o_faultAt, .int u.1, .int u.2, .ref o_topOf, .ref o_partsOf, .ref o_sent])), (o_road, .inl (cI, 36, .inl o_road_f))] H) (hD : va_D A [(o, .inr (9, [.ref o_road, .ref o_told, .ref o_fresh, .ref o_was, .int o_acts, .ref o_kept, .ref o_isKept, .ref o_sights, .int o_many, .ref o_text, .int o_letters, .int o_thrown, .int o_cursor, .int o_token, .int o_start, .long o_value, .int o_isFault, .int o_faultAt, .int u.1, .int u.2, .ref o_topOf, .ref o_partsOf, .ref o_sent])), (o_road, .inl (cI, 36, .inl o_road_f))]) (hS : va_S A s.heap H locs), W p l e ({ frames := 3, cells := 0, slots := 0, locals := 73 } : Room) s m ([.ref o, .int a1, .int a2] : List Value).toArray below meth c H locs 0 0 Q (F0 m pc ls [.int r])) ?_ (fun Q hret => ?_)
  · intro pc H locs ls r u hn hd hp hP hD hS
    exact W.zret (v := r) hx hb hr hn (fun t ht hW => ⟨⟨r, u, rfl, hp, by rw [ht]; exact hP, va_K.moved hW.alike hK, hD⟩, hS.F ht⟩) hS.2.2 hd
  have hin_9 : ∀ w ∈ u_ws RX9 TX9 23, w ∈ wsX9_layMean := by decide +kernel
  have fl_7 := hts (.fieldLink RX9 7 "MileRoadModel" "road" "[I") (by decide +kernel)
  have fl_166 := hts (.fieldLink RX9 166 "MileRoadModel" "above" "I") (by decide +kernel)
  have fl_169 := hts (.fieldLink RX9 169 "MileRoadModel" "below" "I") (by decide +kernel)
  have zl_m1 : ((-1) : Int32).toInt = (-1) := by decide
  have zl_0 : (0 : Int32).toInt = 0 := by decide
  have zl_1 : (1 : Int32).toInt = 1 := by decide
  have zl_2 : (2 : Int32).toInt = 2 := by decide
  have hF : fX9_layMean a1 a2 o_road_f = fX9_layMean a1 a2 o_road_f := rfl
  have L_12 : ∀ (n : Nat) (v12_3 : Int32) (o_above_12 : Int32) (o_below_12 : Int32) (h1_12 : 0 ≤ v12_3.toInt) (h2_12 : v12_3.toInt ≤ 6) (hm : 6 - v12_3.toInt < (n : Int)) (H : Heap) (locs : List Loc) (ls : Array Slot) (hl : lv_has ls 5 [(0, .ref o), (1, .int a1), (2, .int a2), (3, .int v12_3)]) (hP : va_P D vwCl [(o, .inr (9, [.ref o_road, .ref o_told, .ref o_fresh, .ref o_was, .int o_acts, .ref o_kept, .ref o_isKept, .ref o_sights, .int o_many, .ref o_text, .int o_letters, .int o_thrown, .int o_cursor, .int o_token, .int o_start, .long o_value, .int o_isFault, .int o_faultAt, .int o_above_12, .int o_below_12, .ref o_topOf, .ref o_partsOf, .ref o_sent])), (o_road, .inl (cI, 36, .inl o_road_f))] H) (hD : va_D A [(o, .inr (9, [.ref o_road, .ref o_told, .ref o_fresh, .ref o_was, .int o_acts, .ref o_kept, .ref o_isKept, .ref o_sights, .int o_many, .ref o_text, .int o_letters, .int o_thrown, .int o_cursor, .int o_token, .int o_start, .long o_value, .int o_isFault, .int o_faultAt, .int o_above_12, .int o_below_12, .ref o_topOf, .ref o_partsOf, .ref o_sent])), (o_road, .inl (cI, 36, .inl o_road_f))]) (hS : va_S A s.heap H locs) (hF : fX9_layMean a1 a2 o_road_f = fX9_layMean_12 a1 a2 o_road_f n v12_3 o_above_12 o_below_12), W p l e ({ frames := 3, cells := 0, slots := 0, locals := 73 } : Room) s m ([.ref o, .int a1, .int a2] : List Value).toArray below meth c H locs 0 0 Q (F0 m 12 ls []) := by
    intro n
    induction n with
    | zero =>
      intro v12_3 o_above_12 o_below_12 h1_12 h2_12 hm H locs ls hl hP hD hS hF
      exact absurd hm (by omega)
    | succ n ih_12 =>
      intro v12_3 o_above_12 o_below_12 h1_12 h2_12 hm H locs ls hl hP hD hS hF
      refine lv_iload_n hx hb dX9_layMean_12 rfl (lv_at hl 3 rfl) ?_
      refine lv_aload_n hx hb dX9_layMean_13 rfl (lv_at hl 0 rfl) ?_
      refine xget hx hb hts hown hK 9 (C2 := RX9) (T := TX9) (N := 23) rfl hin_9 hP 0 rfl 0 (by decide) fl_7 rfl rfl rfl dX9_layMean_14 ?_
      refine lv_iconst (v := 2) hx hb dX9_layMean_17 (by decide) ?_
      refine xald hx hb hK hP 1 0 (k := 2) rfl rfl (vi (by decide) (by decide)) (by decide) dX9_layMean_18 ?_
      refine lv_icmp_ge (tgt := 90) hx hb dX9_layMean_19 (by decide) (fun c_1 => ?_) (fun c_1 => ?_)
      · have kc_1 := t_le c_1
        refine lv_aload_n hx hb dX9_layMean_90 rfl (lv_at hl 0 rfl) ?_
        refine xget hx hb hts hown hK 9 (C2 := RX9) (T := TX9) (N := 23) rfl hin_9 hP 0 rfl 19 (by decide) fl_169 rfl rfl rfl dX9_layMean_91 ?_
        have K_y_4 : ∀ (y_4 : Int32) (hy_y_4 : (if o_below_12 ≤ 0 then (0 : Int32) else 1) = y_4) (H : Heap) (locs : List Loc) (hP : va_P D vwCl [(o, .inr (9, [.ref o_road, .ref o_told, .ref o_fresh, .ref o_was, .int o_acts, .ref o_kept, .ref o_isKept, .ref o_sights, .int o_many, .ref o_text, .int o_letters, .int o_thrown, .int o_cursor, .int o_token, .int o_start, .long o_value, .int o_isFault, .int o_faultAt, .int o_above_12, .int o_below_12, .ref o_topOf, .ref o_partsOf, .ref o_sent])), (o_road, .inl (cI, 36, .inl o_road_f))] H) (hD : va_D A [(o, .inr (9, [.ref o_road, .ref o_told, .ref o_fresh, .ref o_was, .int o_acts, .ref o_kept, .ref o_isKept, .ref o_sights, .int o_many, .ref o_text, .int o_letters, .int o_thrown, .int o_cursor, .int o_token, .int o_start, .long o_value, .int o_isFault, .int o_faultAt, .int o_above_12, .int o_below_12, .ref o_topOf, .ref o_partsOf, .ref o_sent])), (o_road, .inl (cI, 36, .inl o_road_f))]) (hS : va_S A s.heap H locs), W p l e ({ frames := 3, cells := 0, slots := 0, locals := 73 } : Room) s m ([.ref o, .int a1, .int a2] : List Value).toArray below meth c H locs 0 0 Q (F0 m 102 ls [.int y_4]) := by
          intro y_4 hy_y_4 H locs hP hD hS
          have ky_y_4 : y_4 = 0 ∨ y_4 = 1 := by rw [← hy_y_4]; (repeat' split) <;> simp
          exact hret _ _ _ _ y_4 (o_above_12, o_below_12) (by rcases ky_y_4 with h | h <;> rw [h] <;> rfl) dX9_layMean_102 ((hF.trans (by simp only [fX9_layMean_12, xlet, if_pos c_1, ↓hy_y_4])).symm) hP hD hS
        refine lv_if_le (tgt := 101) hx hb dX9_layMean_94 (by decide) (fun c_2 => ?_) (fun c_2 => ?_)
        · have kc_2 := t_le c_2
          refine lv_iconst (v := 0) hx hb dX9_layMean_101 (by decide) ?_
          exact K_y_4 _ (by simp only [xlet, if_pos c_2]) _ _ hP hD hS
        · have kc_2 := t_nle c_2
          refine lv_iconst (v := 1) hx hb dX9_layMean_97 (by decide) ?_
          refine lv_goto (tgt := 102) hx hb dX9_layMean_98 (by decide) ?_
          exact K_y_4 _ (by simp only [xlet, if_neg c_2]) _ _ hP hD hS
      · have kc_1 := t_nle c_1
        refine lv_iload_n hx hb dX9_layMean_22 rfl (lv_at hl 1 rfl) ?_
        refine lv_iload_n hx hb dX9_layMean_23 rfl (lv_at hl 3 rfl) ?_
        refine lv_ishr hx hb dX9_layMean_24 ?_
        refine lv_iconst (v := 1) hx hb dX9_layMean_25 (by decide) ?_
        refine lv_iand hx hb dX9_layMean_26 ?_
        refine lv_iconst (v := 1) hx hb dX9_layMean_27 (by decide) ?_
        have K_y_5 : ∀ (y_5 : Int32) (hy_y_5 : (if ((a1 >>> (v12_3 &&& 31)) &&& 1) = 1 then (fX9_stoneOf v12_3 a2 o_road_f) else (-1)) = y_5) (H : Heap) (locs : List Loc) (hP : va_P D vwCl [(o, .inr (9, [.ref o_road, .ref o_told, .ref o_fresh, .ref o_was, .int o_acts, .ref o_kept, .ref o_isKept, .ref o_sights, .int o_many, .ref o_text, .int o_letters, .int o_thrown, .int o_cursor, .int o_token, .int o_start, .long o_value, .int o_isFault, .int o_faultAt, .int o_above_12, .int o_below_12, .ref o_topOf, .ref o_partsOf, .ref o_sent])), (o_road, .inl (cI, 36, .inl o_road_f))] H) (hD : va_D A [(o, .inr (9, [.ref o_road, .ref o_told, .ref o_fresh, .ref o_was, .int o_acts, .ref o_kept, .ref o_isKept, .ref o_sights, .int o_many, .ref o_text, .int o_letters, .int o_thrown, .int o_cursor, .int o_token, .int o_start, .long o_value, .int o_isFault, .int o_faultAt, .int o_above_12, .int o_below_12, .ref o_topOf, .ref o_partsOf, .ref o_sent])), (o_road, .inl (cI, 36, .inl o_road_f))]) (hS : va_S A s.heap H locs), W p l e ({ frames := 3, cells := 0, slots := 0, locals := 73 } : Room) s m ([.ref o, .int a1, .int a2] : List Value).toArray below meth c H locs 0 0 Q (F0 m 41 ls [.int y_5]) := by
          intro y_5 hy_y_5 H locs hP hD hS
          have ky_y_5 : y_5 = (-1) ∨ y_5 = (fX9_stoneOf v12_3 a2 o_road_f) := by rw [← hy_y_5]; (repeat' split) <;> simp
          refine lv_istore (lv' := [(4, .int y_5), (0, .ref o), (1, .int a1), (2, .int a2), (3, .int v12_3)]) hx hb dX9_layMean_41 hl (by decide) rfl (fun ls hl => ?_)
          refine lv_aload_n hx hb dX9_layMean_43 rfl (lv_at hl 1 rfl) ?_
          refine lv_dup hx hb dX9_layMean_44 rfl ?_
          refine xget hx hb hts hown hK 9 (C2 := RX9) (T := TX9) (N := 23) rfl hin_9 hP 0 rfl 18 (by decide) fl_166 rfl rfl rfl dX9_layMean_45 ?_
          refine lv_iload hx hb dX9_layMean_48 (lv_at hl 0 rfl) ?_
          refine lv_iconst (v := (-1)) hx hb dX9_layMean_50 (by decide) ?_
          have K_y_6 : ∀ (y_6 : Int32) (hy_y_6 : (if y_5 = (-1) then 0 else y_5) = y_6) (H : Heap) (locs : List Loc) (hP : va_P D vwCl [(o, .inr (9, [.ref o_road, .ref o_told, .ref o_fresh, .ref o_was, .int o_acts, .ref o_kept, .ref o_isKept, .ref o_sights, .int o_many, .ref o_text, .int o_letters, .int o_thrown, .int o_cursor, .int o_token, .int o_start, .long o_value, .int o_isFault, .int o_faultAt, .int o_above_12, .int o_below_12, .ref o_topOf, .ref o_partsOf, .ref o_sent])), (o_road, .inl (cI, 36, .inl o_road_f))] H) (hD : va_D A [(o, .inr (9, [.ref o_road, .ref o_told, .ref o_fresh, .ref o_was, .int o_acts, .ref o_kept, .ref o_isKept, .ref o_sights, .int o_many, .ref o_text, .int o_letters, .int o_thrown, .int o_cursor, .int o_token, .int o_start, .long o_value, .int o_isFault, .int o_faultAt, .int o_above_12, .int o_below_12, .ref o_topOf, .ref o_partsOf, .ref o_sent])), (o_road, .inl (cI, 36, .inl o_road_f))]) (hS : va_S A s.heap H locs), W p l e ({ frames := 3, cells := 0, slots := 0, locals := 73 } : Room) s m ([.ref o, .int a1, .int a2] : List Value).toArray below meth c H locs 0 0 Q (F0 m 60 ls [.int y_6, .int o_above_12, .ref o]) := by
            intro y_6 hy_y_6 H locs hP hD hS
            have ky_y_6 : y_6 = 0 ∨ y_6 = y_5 := by rw [← hy_y_6]; (repeat' split) <;> simp
            refine lv_iadd hx hb dX9_layMean_60 ?_
            refine xput hx hb hts hown hK 9 (C2 := RX9) (T := TX9) (N := 23) tyX9 rfl tyX9_ok nmX9 hin_9 hP hD hS 0 rfl 18 (by decide) fl_166 rfl rfl rfl rfl rfl (Nat.le_of_ble_eq_true rfl) dX9_layMean_61 [(o, .inr (9, [.ref o_road, .ref o_told, .ref o_fresh, .ref o_was, .int o_acts, .ref o_kept, .ref o_isKept, .ref o_sights, .int o_many, .ref o_text, .int o_letters, .int o_thrown, .int o_cursor, .int o_token, .int o_start, .long o_value, .int o_isFault, .int o_faultAt, .int (o_above_12 + y_6), .int o_below_12, .ref o_topOf, .ref o_partsOf, .ref o_sent])), (o_road, .inl (cI, 36, .inl o_road_f))] rfl (fun H locs hP hD hS => ?_)
            refine lv_aload_n hx hb dX9_layMean_64 rfl (lv_at hl 1 rfl) ?_
            refine lv_dup hx hb dX9_layMean_65 rfl ?_
            refine xget hx hb hts hown hK 9 (C2 := RX9) (T := TX9) (N := 23) rfl hin_9 hP 0 rfl 19 (by decide) fl_169 rfl rfl rfl dX9_layMean_66 ?_
            refine lv_iload hx hb dX9_layMean_69 (lv_at hl 0 rfl) ?_
            refine lv_iconst (v := (-1)) hx hb dX9_layMean_71 (by decide) ?_
            have K_y_7 : ∀ (y_7 : Int32) (hy_y_7 : (if y_5 = (-1) then (0 : Int32) else 1) = y_7) (H : Heap) (locs : List Loc) (hP : va_P D vwCl [(o, .inr (9, [.ref o_road, .ref o_told, .ref o_fresh, .ref o_was, .int o_acts, .ref o_kept, .ref o_isKept, .ref o_sights, .int o_many, .ref o_text, .int o_letters, .int o_thrown, .int o_cursor, .int o_token, .int o_start, .long o_value, .int o_isFault, .int o_faultAt, .int (o_above_12 + y_6), .int o_below_12, .ref o_topOf, .ref o_partsOf, .ref o_sent])), (o_road, .inl (cI, 36, .inl o_road_f))] H) (hD : va_D A [(o, .inr (9, [.ref o_road, .ref o_told, .ref o_fresh, .ref o_was, .int o_acts, .ref o_kept, .ref o_isKept, .ref o_sights, .int o_many, .ref o_text, .int o_letters, .int o_thrown, .int o_cursor, .int o_token, .int o_start, .long o_value, .int o_isFault, .int o_faultAt, .int (o_above_12 + y_6), .int o_below_12, .ref o_topOf, .ref o_partsOf, .ref o_sent])), (o_road, .inl (cI, 36, .inl o_road_f))]) (hS : va_S A s.heap H locs), W p l e ({ frames := 3, cells := 0, slots := 0, locals := 73 } : Room) s m ([.ref o, .int a1, .int a2] : List Value).toArray below meth c H locs 0 0 Q (F0 m 80 ls [.int y_7, .int o_below_12, .ref o]) := by
              intro y_7 hy_y_7 H locs hP hD hS
              have ky_y_7 : y_7 = 0 ∨ y_7 = 1 := by rw [← hy_y_7]; (repeat' split) <;> simp
              refine lv_iadd hx hb dX9_layMean_80 ?_
              refine xput hx hb hts hown hK 9 (C2 := RX9) (T := TX9) (N := 23) tyX9 rfl tyX9_ok nmX9 hin_9 hP hD hS 0 rfl 19 (by decide) fl_169 rfl rfl rfl rfl rfl (Nat.le_of_ble_eq_true rfl) dX9_layMean_81 [(o, .inr (9, [.ref o_road, .ref o_told, .ref o_fresh, .ref o_was, .int o_acts, .ref o_kept, .ref o_isKept, .ref o_sights, .int o_many, .ref o_text, .int o_letters, .int o_thrown, .int o_cursor, .int o_token, .int o_start, .long o_value, .int o_isFault, .int o_faultAt, .int (o_above_12 + y_6), .int (o_below_12 + y_7), .ref o_topOf, .ref o_partsOf, .ref o_sent])), (o_road, .inl (cI, 36, .inl o_road_f))] rfl (fun H locs hP hD hS => ?_)
              refine lv_iinc (v := (v12_3 + 1)) (lv' := [(3, .int (v12_3 + 1)), (4, .int y_5), (0, .ref o), (1, .int a1), (2, .int a2)]) hx hb dX9_layMean_84 hl (k := 4) rfl (by rfl) (by decide) rfl (fun ls hl => ?_)
              refine lv_goto (tgt := 12) hx hb dX9_layMean_87 (by decide) ?_
              have z_1 : (v12_3 + 1).toInt = v12_3.toInt + (1 : Int32).toInt := z_add (by omega) (by omega)
              exact ih_12 (v12_3 + 1) (o_above_12 + y_6) (o_below_12 + y_7) (by first | assumption | omega | decide | (split <;> rename_i hh <;> first | (have h9 := t_nlt hh; omega) | (have h9 := t_lt hh; omega) | (have h9 := t_nle hh; omega) | (have h9 := t_le hh; omega))) (by first | assumption | omega | decide | (split <;> rename_i hh <;> first | (have h9 := t_nlt hh; omega) | (have h9 := t_lt hh; omega) | (have h9 := t_nle hh; omega) | (have h9 := t_le hh; omega))) (by first | assumption | omega | decide | (split <;> rename_i hh <;> first | (have h9 := t_nlt hh; omega) | (have h9 := t_lt hh; omega) | (have h9 := t_nle hh; omega) | (have h9 := t_le hh; omega))) _ _ _ (lv_sub hl [2, 3, 4, 0] rfl) hP hD hS (hF.trans (by simp only [fX9_layMean_12, xlet, if_neg c_1, ↓hy_y_5, ↓hy_y_6, ↓hy_y_7]))
            refine lv_icmp_ne (tgt := 79) hx hb dX9_layMean_72 (by decide) (fun c_5 => ?_) (fun c_5 => ?_)
            · have kc_5 := t_neq c_5
              refine lv_iconst (v := 1) hx hb dX9_layMean_79 (by decide) ?_
              exact K_y_7 _ (by simp only [xlet, if_neg c_5]) _ _ hP hD hS
            · have kc_5 := t_eq c_5
              refine lv_iconst (v := 0) hx hb dX9_layMean_75 (by decide) ?_
              refine lv_goto (tgt := 80) hx hb dX9_layMean_76 (by decide) ?_
              exact K_y_7 _ (by simp only [xlet, if_pos c_5]) _ _ hP hD hS
          refine lv_icmp_ne (tgt := 58) hx hb dX9_layMean_51 (by decide) (fun c_4 => ?_) (fun c_4 => ?_)
          · have kc_4 := t_neq c_4
            refine lv_iload hx hb dX9_layMean_58 (lv_at hl 0 rfl) ?_
            exact K_y_6 _ (by simp only [xlet, if_neg c_4]) _ _ hP hD hS
          · have kc_4 := t_eq c_4
            refine lv_iconst (v := 0) hx hb dX9_layMean_54 (by decide) ?_
            refine lv_goto (tgt := 60) hx hb dX9_layMean_55 (by decide) ?_
            exact K_y_6 _ (by simp only [xlet, if_pos c_4]) _ _ hP hD hS
        refine lv_icmp_ne (tgt := 40) hx hb dX9_layMean_28 (by decide) (fun c_3 => ?_) (fun c_3 => ?_)
        · refine lv_iconst (v := (-1)) hx hb dX9_layMean_40 (by decide) ?_
          exact K_y_5 _ (by simp only [xlet, if_neg c_3]) _ _ hP hD hS
        · refine lv_aload_n hx hb dX9_layMean_31 rfl (lv_at hl 0 rfl) ?_
          refine lv_iload_n hx hb dX9_layMean_32 rfl (lv_at hl 3 rfl) ?_
          refine lv_iload_n hx hb dX9_layMean_33 rfl (lv_at hl 2 rfl) ?_
          refine xcalli (S := Unit) (Wc := [(o, .inr (9, [.ref o_road, .ref o_told, .ref o_fresh, .ref o_was, .int o_acts, .ref o_kept, .ref o_isKept, .ref o_sights, .int o_many, .ref o_text, .int o_letters, .int o_thrown, .int o_cursor, .int o_token, .int o_start, .long o_value, .int o_isFault, .int o_faultAt, .int o_above_12, .int o_below_12, .ref o_topOf, .ref o_partsOf, .ref o_sent])), (o_road, .inl (cI, 36, .inl o_road_f))]) (wr := []) (W1 := (fun (u : Unit) => [(o, .inr (9, [.ref o_road, .ref o_told, .ref o_fresh, .ref o_was, .int o_acts, .ref o_kept, .ref o_isKept, .ref o_sights, .int o_many, .ref o_text, .int o_letters, .int o_thrown, .int o_cursor, .int o_token, .int o_start, .long o_value, .int o_isFault, .int o_faultAt, .int o_above_12, .int o_below_12, .ref o_topOf, .ref o_partsOf, .ref o_sent])), (o_road, .inl (cI, 36, .inl o_road_f))])) (Wn := (fun (u : Unit) => [(o, .inr (9, [.ref o_road, .ref o_told, .ref o_fresh, .ref o_was, .int o_acts, .ref o_kept, .ref o_isKept, .ref o_sights, .int o_many, .ref o_text, .int o_letters, .int o_thrown, .int o_cursor, .int o_token, .int o_start, .long o_value, .int o_isFault, .int o_faultAt, .int o_above_12, .int o_below_12, .ref o_topOf, .ref o_partsOf, .ref o_sent])), (o_road, .inl (cI, 36, .inl o_road_f))])) (xrunV hx hb hml hown hts (c_X9_stoneOf l D cI cZ _ o v12_3 a2 o_road o_told o_fresh o_was o_acts o_kept o_isKept o_sights o_many o_text o_letters o_thrown o_cursor o_token o_start o_value o_isFault o_faultAt o_above_12 o_below_12 o_topOf o_partsOf o_sent o_road_f hn0 hn1 hv0 hv6 hhab (by first | assumption | decide | omega) (by first | assumption | decide | omega)) (cwV 2 hts gX9_layMean_X9_stoneOf rfl rfl rfl (by decide +kernel) ⟨Nat.le_of_ble_eq_true rfl, Nat.le_of_ble_eq_true rfl⟩) hE hK hP hD [0, 1] rfl rfl 0 9 (T := TX9) (N := 23) rfl rfl rfl hl.1 rfl (Nat.le_of_ble_eq_true rfl) dX9_layMean_34 ⟨Nat.le_of_ble_eq_true rfl, Nat.le_of_ble_eq_true rfl⟩) hP hD hS hA [0, 1] [] [0, 1] rfl rfl rfl (by decide) (fun _ => rfl) rfl (fun r1 u H locs hw hz hP hD hS => ?_)
          subst hw
          refine lv_goto (tgt := 41) hx hb dX9_layMean_37 (by decide) ?_
          exact K_y_5 _ (by simp only [xlet, if_pos c_3]) _ _ hP hD hS
  refine lv_aload_n hx hb dX9_layMean_0 rfl (lv_at hl 0 rfl) ?_
  refine lv_iconst (v := 0) hx hb dX9_layMean_1 (by decide) ?_
  refine xput hx hb hts hown hK 9 (C2 := RX9) (T := TX9) (N := 23) tyX9 rfl tyX9_ok nmX9 hin_9 hP hD hS 0 rfl 18 (by decide) fl_166 rfl rfl rfl rfl rfl (Nat.le_of_ble_eq_true rfl) dX9_layMean_2 [(o, .inr (9, [.ref o_road, .ref o_told, .ref o_fresh, .ref o_was, .int o_acts, .ref o_kept, .ref o_isKept, .ref o_sights, .int o_many, .ref o_text, .int o_letters, .int o_thrown, .int o_cursor, .int o_token, .int o_start, .long o_value, .int o_isFault, .int o_faultAt, .int 0, .int o_below, .ref o_topOf, .ref o_partsOf, .ref o_sent])), (o_road, .inl (cI, 36, .inl o_road_f))] rfl (fun H locs hP hD hS => ?_)
  refine lv_aload_n hx hb dX9_layMean_5 rfl (lv_at hl 0 rfl) ?_
  refine lv_iconst (v := 0) hx hb dX9_layMean_6 (by decide) ?_
  refine xput hx hb hts hown hK 9 (C2 := RX9) (T := TX9) (N := 23) tyX9 rfl tyX9_ok nmX9 hin_9 hP hD hS 0 rfl 19 (by decide) fl_169 rfl rfl rfl rfl rfl (Nat.le_of_ble_eq_true rfl) dX9_layMean_7 [(o, .inr (9, [.ref o_road, .ref o_told, .ref o_fresh, .ref o_was, .int o_acts, .ref o_kept, .ref o_isKept, .ref o_sights, .int o_many, .ref o_text, .int o_letters, .int o_thrown, .int o_cursor, .int o_token, .int o_start, .long o_value, .int o_isFault, .int o_faultAt, .int 0, .int 0, .ref o_topOf, .ref o_partsOf, .ref o_sent])), (o_road, .inl (cI, 36, .inl o_road_f))] rfl (fun H locs hP hD hS => ?_)
  refine lv_iconst (v := 0) hx hb dX9_layMean_10 (by decide) ?_
  refine lv_istore_n (lv' := [(3, .int 0), (0, .ref o), (1, .int a1), (2, .int a2)]) hx hb dX9_layMean_11 rfl hl (by decide) rfl (fun ls hl => ?_)
  exact L_12 1000 0 0 0 (by first | assumption | omega | decide | (split <;> rename_i hh <;> first | (have h9 := t_nlt hh; omega) | (have h9 := t_lt hh; omega) | (have h9 := t_nle hh; omega) | (have h9 := t_le hh; omega))) (by first | assumption | omega | decide | (split <;> rename_i hh <;> first | (have h9 := t_nlt hh; omega) | (have h9 := t_lt hh; omega) | (have h9 := t_nle hh; omega) | (have h9 := t_le hh; omega))) (by first | assumption | omega | decide | (split <;> rename_i hh <;> first | (have h9 := t_nlt hh; omega) | (have h9 := t_lt hh; omega) | (have h9 := t_nle hh; omega) | (have h9 := t_le hh; omega))) _ _ _ (lv_sub hl [1, 2, 3, 0] rfl) hP hD hS (hF.trans (by simp only [fX9_layMean, xlet]))
set_option maxRecDepth 20000 in
theorem ggX9_layPlace_X9_layMean : GoodIn wsX9_layPlace wsX9_layMean := goodIn_r _ [8, 2, 3, 1, 9, 10, 11, 7, 12, 13, 14, 15, 16, 17, 18, 19, 20, 21, 22, 23, 24, 25, 26, 27, 28, 29, 30, 31, 32, 33, 34, 35, 36, 37, 38, 39, 40, 41, 42, 43] (by decide +kernel) (by decide +kernel)
set_option maxRecDepth 20000 in
theorem gX9_layPlace_X9_layMean : GoodIn wsX9_layPlace (wsV RX9 172 RX9 yX9_layMean wsX9_layMean) := goodIn_app (goodIn_of _ (by decide +kernel)) ggX9_layPlace_X9_layMean
theorem dX9_layPlace_0 : decode cX9_layPlace 0 = .ok (.aload_n 0, 1) := by decide +kernel
theorem dX9_layPlace_1 : decode cX9_layPlace 1 = .ok (.iload_n 1, 1) := by decide +kernel
theorem dX9_layPlace_2 : decode cX9_layPlace 2 = .ok (.iload_n 2, 1) := by decide +kernel
theorem dX9_layPlace_3 : decode cX9_layPlace 3 = .ok (.invokevirtual 172, 3) := by decide +kernel
theorem dX9_layPlace_6 : decode cX9_layPlace 6 = .ok (.ifCond .ne 18, 3) := by decide +kernel
theorem dX9_layPlace_9 : decode cX9_layPlace 9 = .ok (.aload_n 0, 1) := by decide +kernel
theorem dX9_layPlace_10 : decode cX9_layPlace 10 = .ok (.aload_n 0, 1) := by decide +kernel
theorem dX9_layPlace_11 : decode cX9_layPlace 11 = .ok (.getfield 7, 3) := by decide +kernel
theorem dX9_layPlace_14 : decode cX9_layPlace 14 = .ok (.iconst 0, 1) := by decide +kernel
theorem dX9_layPlace_15 : decode cX9_layPlace 15 = .ok (.iaload, 1) := by decide +kernel
theorem dX9_layPlace_16 : decode cX9_layPlace 16 = .ok (.putfield 166, 3) := by decide +kernel
theorem dX9_layPlace_19 : decode cX9_layPlace 19 = .ok (.aload_n 0, 1) := by decide +kernel
theorem dX9_layPlace_20 : decode cX9_layPlace 20 = .ok (.iconst 1, 1) := by decide +kernel
theorem dX9_layPlace_21 : decode cX9_layPlace 21 = .ok (.putfield 169, 3) := by decide +kernel
theorem dX9_layPlace_24 : decode cX9_layPlace 24 = .ok (.return_, 1) := by decide +kernel
def fX9_layPlace (a1 : Int32) (a2 : Int32) (o_road_f : Nat → Int32) : Int32 × Int32 := match fX9_layMean a1 a2 o_road_f with | (r3, u1, u2) => if r3 = 0 then (((o_road_f 0), 1)) else ((u1, u2))
set_option maxHeartbeats 4000000 in
set_option maxRecDepth 100000 in
theorem c_X9_layPlace (l : Launch) (D : va_G) (cI cZ : ClassId) (sz : Nat) (o : Nat) (a1 : Int32) (a2 : Int32) (o_road : Nat) (o_told : Nat) (o_fresh : Nat) (o_was : Nat) (o_acts : Int32) (o_kept : Nat) (o_isKept : Nat) (o_sights : Nat) (o_many : Int32) (o_text : Nat) (o_letters : Int32) (o_thrown : Int32) (o_cursor : Int32) (o_token : Int32) (o_start : Int32) (o_value : Int64) (o_isFault : Int32) (o_faultAt : Int32) (o_above : Int32) (o_below : Int32) (o_topOf : Nat) (o_partsOf : Nat) (o_sent : Nat) (o_road_f : Nat → Int32) (hn0 : 4 ≤ (o_road_f 0).toInt) (hn1 : (o_road_f 0).toInt ≤ 20) (hv0 : 0 ≤ (o_road_f 2).toInt) (hv6 : (o_road_f 2).toInt ≤ 6) (hhab : ∀ w : Int32, 0 ≤ w.toInt → w.toInt < (o_road_f 2).toInt → ¬ o_road_f (30 + w).toNatClampNeg = 0) : Met l yX9_layPlace wsX9_layPlace ({ frames := 4, cells := 0, slots := 0, locals := 97 } : Room) (va_Pc [.ref o, .int a1, .int a2] (xP D cI cZ [(o, .inr (9, [.ref o_road, .ref o_told, .ref o_fresh, .ref o_was, .int o_acts, .ref o_kept, .ref o_isKept, .ref o_sights, .int o_many, .ref o_text, .int o_letters, .int o_thrown, .int o_cursor, .int o_token, .int o_start, .long o_value, .int o_isFault, .int o_faultAt, .int o_above, .int o_below, .ref o_topOf, .ref o_partsOf, .ref o_sent])), (o_road, .inl (cI, 36, .inl o_road_f))] sz)) (va_Qv (fun (u : Int32 × Int32) => u = fX9_layPlace a1 a2 o_road_f) (fun (u : Int32 × Int32) t => xB D cI cZ [(o, .inr (9, [.ref o_road, .ref o_told, .ref o_fresh, .ref o_was, .int o_acts, .ref o_kept, .ref o_isKept, .ref o_sights, .int o_many, .ref o_text, .int o_letters, .int o_thrown, .int o_cursor, .int o_token, .int o_start, .long o_value, .int o_isFault, .int o_faultAt, .int u.1, .int u.2, .ref o_topOf, .ref o_partsOf, .ref o_sent])), (o_road, .inl (cI, 36, .inl o_road_f))] (va_A [(o, .inr (9, [.ref o_road, .ref o_told, .ref o_fresh, .ref o_was, .int o_acts, .ref o_kept, .ref o_isKept, .ref o_sights, .int o_many, .ref o_text, .int o_letters, .int o_thrown, .int o_cursor, .int o_token, .int o_start, .long o_value, .int o_isFault, .int o_faultAt, .int o_above, .int o_below, .ref o_topOf, .ref o_partsOf, .ref o_sent])), (o_road, .inl (cI, 36, .inl o_road_f))] sz) t) (va_A [(o, .inr (9, [.ref o_road, .ref o_told, .ref o_fresh, .ref o_was, .int o_acts, .ref o_kept, .ref o_isKept, .ref o_sights, .int o_many, .ref o_text, .int o_letters, .int o_thrown, .int o_cursor, .int o_token, .int o_start, .long o_value, .int o_isFault, .int o_faultAt, .int o_above, .int o_below, .ref o_topOf, .ref o_partsOf, .ref o_sent])), (o_road, .inl (cI, 36, .inl o_road_f))] sz)) 0 0 (va_A [(o, .inr (9, [.ref o_road, .ref o_told, .ref o_fresh, .ref o_was, .int o_acts, .ref o_kept, .ref o_isKept, .ref o_sights, .int o_many, .ref o_text, .int o_letters, .int o_thrown, .int o_cursor, .int o_token, .int o_start, .long o_value, .int o_isFault, .int o_faultAt, .int o_above, .int o_below, .ref o_topOf, .ref o_partsOf, .ref o_sent])), (o_road, .inl (cI, 36, .inl o_road_f))] sz) := by
  refine Met.ofW (cc := cX9_layPlace) (maxL := 3) (ret := none) (by decide) rfl ?_
  intro p e s m args below meth c s₁ B hml hv
  obtain ⟨hargs, hsz, hP, hK, hD0, hE⟩ := hv
  subst hargs
  have hx := B.exec
  have hb := B.bytes
  have hr := B.returns
  have hts := atoms_spec (ws := wsX9_layPlace) B.pre
  have hown : s.vm.findClass RX9 = some m.cls := findClass_of_methodNamed B.named
  have hlocks := B.notSynchronized
  subst hsz
  have hD := hD0.self (sz := s.heap.size)
  generalize hAe : va_A [(o, .inr (9, [.ref o_road, .ref o_told, .ref o_fresh, .ref o_was, .int o_acts, .ref o_kept, .ref o_isKept, .ref o_sights, .int o_many, .ref o_text, .int o_letters, .int o_thrown, .int o_cursor, .int o_token, .int o_start, .long o_value, .int o_isFault, .int o_faultAt, .int o_above, .int o_below, .ref o_topOf, .ref o_partsOf, .ref o_sent])), (o_road, .inl (cI, 36, .inl o_road_f))] s.heap.size = A at hD ⊢
  have hA : ∀ q : Nat, s.heap.size ≤ q → A q := fun q h => by rw [← hAe]; exact Or.inr h
  have hS : va_S A s.heap s.heap [] := va_S.rf
  have hl := lv_entry ([.ref o, .int a1, .int a2]) (n := 3) (Nat.le_of_ble_eq_true rfl)
  rw [lg_entry_eq]
  generalize (lg_sl ([.ref o, .int a1, .int a2]) ++ List.replicate (3 - (lg_sl ([.ref o, .int a1, .int a2])).length) Slot.unset).toArray = ls at hl ⊢
  have hl : lv_has ls 3 [(0, .ref o), (1, .int a1), (2, .int a2)] := hl
  refine wq (X := fun Q => ∀ (pc : Nat) (H : Heap) (locs : List Loc) (ls : Array Slot) (u : Int32 × Int32) (hd : decode cX9_layPlace pc = .ok (.return_, 1)) (hp : u = fX9_layPlace a1 a2 o_road_f) (hP : va_P D vwCl [(o, .inr (9, [.ref o_road, .ref o_told, .ref o_fresh, .ref o_was, .int o_acts, .ref o_kept, .ref o_isKept, .ref o_sights, .int o_many, .ref o_text, .int o_letters, .int o_thrown, .int o_cursor, .int o_token, .int o_start, .long o_value, .int o_isFault, .int o_faultAt, .int u.1, .int u.2, .ref o_topOf, .ref o_partsOf, .ref o_sent])), (o_road, .inl (cI, 36, .inl o_road_f))] H) (hD : va_D A [(o, .inr (9, [.ref o_road, .ref o_told, .ref o_fresh, .ref o_was, .int o_acts, .ref o_kept, .ref o_isKept, .ref o_sights, .int o_many, .ref o_text, .int o_letters, .int o_thrown, .int o_cursor, .int o_token, .int o_start, .long o_value, .int o_isFault, .int o_faultAt, .int u.1, .int u.2, .ref o_topOf, .ref o_partsOf, .ref o_sent])), (o_road, .inl (cI, 36, .inl o_road_f))]) (hS : va_S A s.heap H locs), W p l e ({ frames := 4, cells := 0, slots := 0, locals := 97 } : Room) s m ([.ref o, .int a1, .int a2] : List Value).toArray below meth c H locs 0 0 Q (F0 m pc ls [])) ?_ (fun Q hret => ?_)
  · intro pc H locs ls u hd hp hP hD hS
    exact W.vret hx hb hr (fun t ht hW => ⟨⟨u, rfl, hp, by rw [ht]; exact hP, va_K.moved hW.alike hK, hD⟩, hS.F ht⟩) hS.2.2 hd
  have hin_9 : ∀ w ∈ u_ws RX9 TX9 23, w ∈ wsX9_layPlace := by decide +kernel
  have fl_7 := hts (.fieldLink RX9 7 "MileRoadModel" "road" "[I") (by decide +kernel)
  have fl_166 := hts (.fieldLink RX9 166 "MileRoadModel" "above" "I") (by decide +kernel)
  have fl_169 := hts (.fieldLink RX9 169 "MileRoadModel" "below" "I") (by decide +kernel)
  have zl_0 : (0 : Int32).toInt = 0 := by decide
  have hF : fX9_layPlace a1 a2 o_road_f = fX9_layPlace a1 a2 o_road_f := rfl
  refine lv_aload_n hx hb dX9_layPlace_0 rfl (lv_at hl 0 rfl) ?_
  refine lv_iload_n hx hb dX9_layPlace_1 rfl (lv_at hl 1 rfl) ?_
  refine lv_iload_n hx hb dX9_layPlace_2 rfl (lv_at hl 2 rfl) ?_
  refine xcalli (S := Int32 × Int32) (Wc := [(o, .inr (9, [.ref o_road, .ref o_told, .ref o_fresh, .ref o_was, .int o_acts, .ref o_kept, .ref o_isKept, .ref o_sights, .int o_many, .ref o_text, .int o_letters, .int o_thrown, .int o_cursor, .int o_token, .int o_start, .long o_value, .int o_isFault, .int o_faultAt, .int o_above, .int o_below, .ref o_topOf, .ref o_partsOf, .ref o_sent])), (o_road, .inl (cI, 36, .inl o_road_f))]) (wr := []) (W1 := (fun (u : Int32 × Int32) => [(o, .inr (9, [.ref o_road, .ref o_told, .ref o_fresh, .ref o_was, .int o_acts, .ref o_kept, .ref o_isKept, .ref o_sights, .int o_many, .ref o_text, .int o_letters, .int o_thrown, .int o_cursor, .int o_token, .int o_start, .long o_value, .int o_isFault, .int o_faultAt, .int u.1, .int u.2, .ref o_topOf, .ref o_partsOf, .ref o_sent])), (o_road, .inl (cI, 36, .inl o_road_f))])) (Wn := (fun (u : Int32 × Int32) => [(o, .inr (9, [.ref o_road, .ref o_told, .ref o_fresh, .ref o_was, .int o_acts, .ref o_kept, .ref o_isKept, .ref o_sights, .int o_many, .ref o_text, .int o_letters, .int o_thrown, .int o_cursor, .int o_token, .int o_start, .long o_value, .int o_isFault, .int o_faultAt, .int u.1, .int u.2, .ref o_topOf, .ref o_partsOf, .ref o_sent])), (o_road, .inl (cI, 36, .inl o_road_f))])) (xrunV hx hb hml hown hts (c_X9_layMean l D cI cZ _ o a1 a2 o_road o_told o_fresh o_was o_acts o_kept o_isKept o_sights o_many o_text o_letters o_thrown o_cursor o_token o_start o_value o_isFault o_faultAt o_above o_below o_topOf o_partsOf o_sent o_road_f hn0 hn1 hv0 hv6 hhab) (cwV 2 hts gX9_layPlace_X9_layMean rfl rfl rfl (by decide +kernel) ⟨Nat.le_of_ble_eq_true rfl, Nat.le_of_ble_eq_true rfl⟩) hE hK hP hD [0, 1] rfl rfl 0 9 (T := TX9) (N := 23) rfl rfl rfl hl.1 rfl (Nat.le_of_ble_eq_true rfl) dX9_layPlace_3 ⟨Nat.le_of_ble_eq_true rfl, Nat.le_of_ble_eq_true rfl⟩) hP hD hS hA [0, 1] [] [0, 1] rfl rfl rfl (by decide) (fun _ => rfl) rfl (fun r3 u H locs hw hz hP hD hS => ?_)
  obtain ⟨u1, u2⟩ := u
  have hw_1 := hw.symm
  have hP : va_P D vwCl [(o, .inr (9, [.ref o_road, .ref o_told, .ref o_fresh, .ref o_was, .int o_acts, .ref o_kept, .ref o_isKept, .ref o_sights, .int o_many, .ref o_text, .int o_letters, .int o_thrown, .int o_cursor, .int o_token, .int o_start, .long o_value, .int o_isFault, .int o_faultAt, .int u1, .int u2, .ref o_topOf, .ref o_partsOf, .ref o_sent])), (o_road, .inl (cI, 36, .inl o_road_f))] H := hP
  have hD : va_D A [(o, .inr (9, [.ref o_road, .ref o_told, .ref o_fresh, .ref o_was, .int o_acts, .ref o_kept, .ref o_isKept, .ref o_sights, .int o_many, .ref o_text, .int o_letters, .int o_thrown, .int o_cursor, .int o_token, .int o_start, .long o_value, .int o_isFault, .int o_faultAt, .int u1, .int u2, .ref o_topOf, .ref o_partsOf, .ref o_sent])), (o_road, .inl (cI, 36, .inl o_road_f))] := hD
  refine lv_if_ne (tgt := 24) hx hb dX9_layPlace_6 (by decide) (fun c_1 => ?_) (fun c_1 => ?_)
  · have kc_1 := t_neq c_1
    exact hret _ _ _ _ (u1, u2) dX9_layPlace_24 ((hF.trans (by simp only [fX9_layPlace, xlet, ↓hw_1, if_neg c_1])).symm) hP hD hS
  · have kc_1 := t_eq c_1
    refine lv_aload_n hx hb dX9_layPlace_9 rfl (lv_at hl 0 rfl) ?_
    refine lv_aload_n hx hb dX9_layPlace_10 rfl (lv_at hl 0 rfl) ?_
    refine xget hx hb hts hown hK 9 (C2 := RX9) (T := TX9) (N := 23) rfl hin_9 hP 0 rfl 0 (by decide) fl_7 rfl rfl rfl dX9_layPlace_11 ?_
    refine lv_iconst (v := 0) hx hb dX9_layPlace_14 (by decide) ?_
    refine xald hx hb hK hP 1 0 (k := 0) rfl rfl (vi (by decide) (by decide)) (by decide) dX9_layPlace_15 ?_
    refine xput hx hb hts hown hK 9 (C2 := RX9) (T := TX9) (N := 23) tyX9 rfl tyX9_ok nmX9 hin_9 hP hD hS 0 rfl 18 (by decide) fl_166 rfl rfl rfl rfl rfl (Nat.le_of_ble_eq_true rfl) dX9_layPlace_16 [(o, .inr (9, [.ref o_road, .ref o_told, .ref o_fresh, .ref o_was, .int o_acts, .ref o_kept, .ref o_isKept, .ref o_sights, .int o_many, .ref o_text, .int o_letters, .int o_thrown, .int o_cursor, .int o_token, .int o_start, .long o_value, .int o_isFault, .int o_faultAt, .int (o_road_f 0), .int u2, .ref o_topOf, .ref o_partsOf, .ref o_sent])), (o_road, .inl (cI, 36, .inl o_road_f))] rfl (fun H locs hP hD hS => ?_)
    refine lv_aload_n hx hb dX9_layPlace_19 rfl (lv_at hl 0 rfl) ?_
    refine lv_iconst (v := 1) hx hb dX9_layPlace_20 (by decide) ?_
    refine xput hx hb hts hown hK 9 (C2 := RX9) (T := TX9) (N := 23) tyX9 rfl tyX9_ok nmX9 hin_9 hP hD hS 0 rfl 19 (by decide) fl_169 rfl rfl rfl rfl rfl (Nat.le_of_ble_eq_true rfl) dX9_layPlace_21 [(o, .inr (9, [.ref o_road, .ref o_told, .ref o_fresh, .ref o_was, .int o_acts, .ref o_kept, .ref o_isKept, .ref o_sights, .int o_many, .ref o_text, .int o_letters, .int o_thrown, .int o_cursor, .int o_token, .int o_start, .long o_value, .int o_isFault, .int o_faultAt, .int (o_road_f 0), .int 1, .ref o_topOf, .ref o_partsOf, .ref o_sent])), (o_road, .inl (cI, 36, .inl o_road_f))] rfl (fun H locs hP hD hS => ?_)
    exact hret _ _ _ _ ((o_road_f 0), 1) dX9_layPlace_24 ((hF.trans (by simp only [fX9_layPlace, xlet, ↓hw_1, if_pos c_1])).symm) hP hD hS
