set_option maxRecDepth 20000 in
theorem ggX9_crossed_X9_layMean : GoodIn wsX9_crossed wsX9_layMean := goodIn_r _ [9, 3, 4, 2, 10, 11, 12, 8, 13, 14, 15, 16, 17, 18, 19, 20, 21, 22, 23, 24, 25, 26, 27, 28, 29, 30, 31, 32, 33, 34, 35, 36, 37, 38, 39, 40, 41, 42, 43, 44] (by decide +kernel) (by decide +kernel)
set_option maxRecDepth 20000 in
theorem gX9_crossed_X9_layMean : GoodIn wsX9_crossed (wsV RX9 172 RX9 yX9_layMean wsX9_layMean) := goodIn_app (goodIn_of _ (by decide +kernel)) ggX9_crossed_X9_layMean
theorem dX9_crossed_0 : decode cX9_crossed 0 = .ok (.aload_n 0, 1) := by decide +kernel
theorem dX9_crossed_1 : decode cX9_crossed 1 = .ok (.iconst 0, 1) := by decide +kernel
theorem dX9_crossed_2 : decode cX9_crossed 2 = .ok (.putfield 48, 3) := by decide +kernel
theorem dX9_crossed_5 : decode cX9_crossed 5 = .ok (.iconst 1, 1) := by decide +kernel
theorem dX9_crossed_6 : decode cX9_crossed 6 = .ok (.istore_n 1, 1) := by decide +kernel
theorem dX9_crossed_7 : decode cX9_crossed 7 = .ok (.iload_n 1, 1) := by decide +kernel
theorem dX9_crossed_8 : decode cX9_crossed 8 = .ok (.bipush 8, 2) := by decide +kernel
theorem dX9_crossed_10 : decode cX9_crossed 10 = .ok (.if_icmp .ge 70, 3) := by decide +kernel
theorem dX9_crossed_13 : decode cX9_crossed 13 = .ok (.aload_n 0, 1) := by decide +kernel
theorem dX9_crossed_14 : decode cX9_crossed 14 = .ok (.aload_n 0, 1) := by decide +kernel
theorem dX9_crossed_15 : decode cX9_crossed 15 = .ok (.getfield 7, 3) := by decide +kernel
theorem dX9_crossed_18 : decode cX9_crossed 18 = .ok (.iconst 3, 1) := by decide +kernel
theorem dX9_crossed_19 : decode cX9_crossed 19 = .ok (.iaload, 1) := by decide +kernel
theorem dX9_crossed_20 : decode cX9_crossed 20 = .ok (.iload_n 1, 1) := by decide +kernel
theorem dX9_crossed_21 : decode cX9_crossed 21 = .ok (.invokevirtual 172, 3) := by decide +kernel
theorem dX9_crossed_24 : decode cX9_crossed 24 = .ok (.istore_n 2, 1) := by decide +kernel
theorem dX9_crossed_25 : decode cX9_crossed 25 = .ok (.aload_n 0, 1) := by decide +kernel
theorem dX9_crossed_26 : decode cX9_crossed 26 = .ok (.getfield 166, 3) := by decide +kernel
theorem dX9_crossed_29 : decode cX9_crossed 29 = .ok (.istore_n 3, 1) := by decide +kernel
theorem dX9_crossed_30 : decode cX9_crossed 30 = .ok (.aload_n 0, 1) := by decide +kernel
theorem dX9_crossed_31 : decode cX9_crossed 31 = .ok (.getfield 169, 3) := by decide +kernel
theorem dX9_crossed_34 : decode cX9_crossed 34 = .ok (.istore 4, 2) := by decide +kernel
theorem dX9_crossed_36 : decode cX9_crossed 36 = .ok (.iload_n 2, 1) := by decide +kernel
theorem dX9_crossed_37 : decode cX9_crossed 37 = .ok (.ifCond .eq 37, 3) := by decide +kernel
theorem dX9_crossed_40 : decode cX9_crossed 40 = .ok (.aload_n 0, 1) := by decide +kernel
theorem dX9_crossed_41 : decode cX9_crossed 41 = .ok (.aload_n 0, 1) := by decide +kernel
theorem dX9_crossed_42 : decode cX9_crossed 42 = .ok (.getfield 7, 3) := by decide +kernel
theorem dX9_crossed_45 : decode cX9_crossed 45 = .ok (.iconst 3, 1) := by decide +kernel
theorem dX9_crossed_46 : decode cX9_crossed 46 = .ok (.iaload, 1) := by decide +kernel
theorem dX9_crossed_47 : decode cX9_crossed 47 = .ok (.iload_n 1, 1) := by decide +kernel
theorem dX9_crossed_48 : decode cX9_crossed 48 = .ok (.iconst 1, 1) := by decide +kernel
theorem dX9_crossed_49 : decode cX9_crossed 49 = .ok (.iadd, 1) := by decide +kernel
theorem dX9_crossed_50 : decode cX9_crossed 50 = .ok (.invokevirtual 172, 3) := by decide +kernel
theorem dX9_crossed_53 : decode cX9_crossed 53 = .ok (.ifCond .eq 21, 3) := by decide +kernel
theorem dX9_crossed_56 : decode cX9_crossed 56 = .ok (.aload_n 0, 1) := by decide +kernel
theorem dX9_crossed_57 : decode cX9_crossed 57 = .ok (.getfield 166, 3) := by decide +kernel
theorem dX9_crossed_60 : decode cX9_crossed 60 = .ok (.iload 4, 2) := by decide +kernel
theorem dX9_crossed_62 : decode cX9_crossed 62 = .ok (.imul, 1) := by decide +kernel
theorem dX9_crossed_63 : decode cX9_crossed 63 = .ok (.iload_n 3, 1) := by decide +kernel
theorem dX9_crossed_64 : decode cX9_crossed 64 = .ok (.aload_n 0, 1) := by decide +kernel
theorem dX9_crossed_65 : decode cX9_crossed 65 = .ok (.getfield 169, 3) := by decide +kernel
theorem dX9_crossed_68 : decode cX9_crossed 68 = .ok (.imul, 1) := by decide +kernel
theorem dX9_crossed_69 : decode cX9_crossed 69 = .ok (.if_icmp .gt 5, 3) := by decide +kernel
theorem dX9_crossed_72 : decode cX9_crossed 72 = .ok (.iload_n 1, 1) := by decide +kernel
theorem dX9_crossed_73 : decode cX9_crossed 73 = .ok (.ireturn, 1) := by decide +kernel
theorem dX9_crossed_74 : decode cX9_crossed 74 = .ok (.iinc 1 1, 3) := by decide +kernel
theorem dX9_crossed_77 : decode cX9_crossed 77 = .ok (.goto (-70), 3) := by decide +kernel
theorem dX9_crossed_80 : decode cX9_crossed 80 = .ok (.iconst (-1), 1) := by decide +kernel
theorem dX9_crossed_81 : decode cX9_crossed 81 = .ok (.ireturn, 1) := by decide +kernel
def fX9_crossed_7 (o_road_f : Nat → Int32)  : Nat → Int32 → Int32 → Int32 → Int32 × Int32 × Int32
  | 0, _, _, _ => default
  | n + 1, v7_1, o_above_7, o_below_7 => if 8 ≤ v7_1 then (((-1), o_above_7, o_below_7)) else (match fX9_layMean (o_road_f 3) v7_1 o_road_f with | (r3, u1, u2) => if r3 = 0 then (fX9_crossed_7 o_road_f n (v7_1 + 1) u1 u2) else (match fX9_layMean (o_road_f 3) (v7_1 + 1) o_road_f with | (r6, u4, u5) => if r6 = 0 then (fX9_crossed_7 o_road_f n (v7_1 + 1) u4 u5) else (if (u1 * u5) < (u4 * u2) then (fX9_crossed_7 o_road_f n (v7_1 + 1) u4 u5) else ((v7_1, u4, u5)))))
def fX9_crossed (o_above : Int32) (o_below : Int32) (o_road_f : Nat → Int32) : Int32 × Int32 × Int32 := fX9_crossed_7 o_road_f 1000 1 o_above o_below
set_option maxHeartbeats 4000000 in
set_option maxRecDepth 100000 in
theorem c_X9_crossed (l : Launch) (D : va_G) (cI cZ : ClassId) (sz : Nat) (o : Nat) (o_road : Nat) (o_told : Nat) (o_fresh : Nat) (o_was : Nat) (o_acts : Int32) (o_kept : Nat) (o_isKept : Nat) (o_sights : Nat) (o_many : Int32) (o_text : Nat) (o_letters : Int32) (o_thrown : Int32) (o_cursor : Int32) (o_token : Int32) (o_start : Int32) (o_value : Int64) (o_isFault : Int32) (o_faultAt : Int32) (o_above : Int32) (o_below : Int32) (o_topOf : Nat) (o_partsOf : Nat) (o_sent : Nat) (o_road_f : Nat → Int32) (hn0 : 4 ≤ (o_road_f 0).toInt) (hn1 : (o_road_f 0).toInt ≤ 20) (hv0 : 0 ≤ (o_road_f 2).toInt) (hv6 : (o_road_f 2).toInt ≤ 6) (hhab : ∀ w : Int32, 0 ≤ w.toInt → w.toInt < (o_road_f 2).toInt → ¬ o_road_f (30 + w).toNatClampNeg = 0) : Met l yX9_crossed wsX9_crossed ({ frames := 4, cells := 0, slots := 0, locals := 97 } : Room) (va_Pc [.ref o] (xP D cI cZ [(o, .inr (9, [.ref o_road, .ref o_told, .ref o_fresh, .ref o_was, .int o_acts, .ref o_kept, .ref o_isKept, .ref o_sights, .int o_many, .ref o_text, .int o_letters, .int o_thrown, .int o_cursor, .int o_token, .int o_start, .long o_value, .int o_isFault, .int o_faultAt, .int o_above, .int o_below, .ref o_topOf, .ref o_partsOf, .ref o_sent])), (o_road, .inl (cI, 36, .inl o_road_f))] sz)) (va_Qi (fun (r : Int32) (u : Int32 × Int32) => (r, u) = fX9_crossed o_above o_below o_road_f) (fun (u : Int32 × Int32) t => xB D cI cZ [(o, .inr (9, [.ref o_road, .ref o_told, .ref o_fresh, .ref o_was, .int o_acts, .ref o_kept, .ref o_isKept, .ref o_sights, .int o_many, .ref o_text, .int o_letters, .int 0, .int o_cursor, .int o_token, .int o_start, .long o_value, .int o_isFault, .int o_faultAt, .int u.1, .int u.2, .ref o_topOf, .ref o_partsOf, .ref o_sent])), (o_road, .inl (cI, 36, .inl o_road_f))] (va_A [(o, .inr (9, [.ref o_road, .ref o_told, .ref o_fresh, .ref o_was, .int o_acts, .ref o_kept, .ref o_isKept, .ref o_sights, .int o_many, .ref o_text, .int o_letters, .int o_thrown, .int o_cursor, .int o_token, .int o_start, .long o_value, .int o_isFault, .int o_faultAt, .int o_above, .int o_below, .ref o_topOf, .ref o_partsOf, .ref o_sent])), (o_road, .inl (cI, 36, .inl o_road_f))] sz) t) (va_A [(o, .inr (9, [.ref o_road, .ref o_told, .ref o_fresh, .ref o_was, .int o_acts, .ref o_kept, .ref o_isKept, .ref o_sights, .int o_many, .ref o_text, .int o_letters, .int o_thrown, .int o_cursor, .int o_token, .int o_start, .long o_value, .int o_isFault, .int o_faultAt, .int o_above, .int o_below, .ref o_topOf, .ref o_partsOf, .ref o_sent])), (o_road, .inl (cI, 36, .inl o_road_f))] sz)) 0 0 (va_A [(o, .inr (9, [.ref o_road, .ref o_told, .ref o_fresh, .ref o_was, .int o_acts, .ref o_kept, .ref o_isKept, .ref o_sights, .int o_many, .ref o_text, .int o_letters, .int o_thrown, .int o_cursor, .int o_token, .int o_start, .long o_value, .int o_isFault, .int o_faultAt, .int o_above, .int o_below, .ref o_topOf, .ref o_partsOf, .ref o_sent])), (o_road, .inl (cI, 36, .inl o_road_f))] sz) := by
  refine Met.ofW (cc := cX9_crossed) (maxL := 5) (ret := (some .int)) (by decide) rfl ?_
  intro p e s m args below meth c s₁ B hml hv
  obtain ⟨hargs, hsz, hP, hK, hD0, hE⟩ := hv
  subst hargs
  have hx := B.exec
  have hb := B.bytes
  have hr := B.returns
  have hts := atoms_spec (ws := wsX9_crossed) B.pre
  have hown : s.vm.findClass RX9 = some m.cls := findClass_of_methodNamed B.named
  have hlocks := B.notSynchronized
  subst hsz
  have hD := hD0.self (sz := s.heap.size)
  generalize hAe : va_A [(o, .inr (9, [.ref o_road, .ref o_told, .ref o_fresh, .ref o_was, .int o_acts, .ref o_kept, .ref o_isKept, .ref o_sights, .int o_many, .ref o_text, .int o_letters, .int o_thrown, .int o_cursor, .int o_token, .int o_start, .long o_value, .int o_isFault, .int o_faultAt, .int o_above, .int o_below, .ref o_topOf, .ref o_partsOf, .ref o_sent])), (o_road, .inl (cI, 36, .inl o_road_f))] s.heap.size = A at hD ⊢
  have hA : ∀ q : Nat, s.heap.size ≤ q → A q := fun q h => by rw [← hAe]; exact Or.inr h
  have hS : va_S A s.heap s.heap [] := va_S.rf
  have hl := lv_entry ([.ref o]) (n := 5) (Nat.le_of_ble_eq_true rfl)
  rw [lg_entry_eq]
  generalize (lg_sl ([.ref o]) ++ List.replicate (5 - (lg_sl ([.ref o])).length) Slot.unset).toArray = ls at hl ⊢
  have hl : lv_has ls 5 [(0, .ref o)] := hl
  refine wq (X := fun Q => ∀ (pc : Nat) (H : Heap) (locs : List Loc) (ls : Array Slot) (r : Int32) (u : Int32 × Int32) (hd : decode cX9_crossed pc = .ok (.ireturn, 1)) (hp : (r, u) = fX9_crossed o_above o_below o_road_f) (hP : va_P D vwCl [(o, .inr (9, [.ref o_road, .ref o_told, .ref o_fresh, .ref o_was, .int o_acts, .ref o_kept, .ref o_isKept, .ref o_sights, .int o_many, .ref o_text, .int o_letters, .int 0, .int o_cursor, .int o_token, .int o_start, .long o_value, .int o_isFault, .int o_faultAt, .int u.1, .int u.2, .ref o_topOf, .ref o_partsOf, .ref o_sent])), (o_road, .inl (cI, 36, .inl o_road_f))] H) (hD : va_D A [(o, .inr (9, [.ref o_road, .ref o_told, .ref o_fresh, .ref o_was, .int o_acts, .ref o_kept, .ref o_isKept, .ref o_sights, .int o_many, .ref o_text, .int o_letters, .int 0, .int o_cursor, .int o_token, .int o_start, .long o_value, .int o_isFault, .int o_faultAt, .int u.1, .int u.2, .ref o_topOf, .ref o_partsOf, .ref o_sent])), (o_road, .inl (cI, 36, .inl o_road_f))]) (hS : va_S A s.heap H locs), W p l e ({ frames := 4, cells := 0, slots := 0, locals := 97 } : Room) s m ([.ref o] : List Value).toArray below meth c H locs 0 0 Q (F0 m pc ls [.int r])) ?_ (fun Q hret => ?_)
  · intro pc H locs ls r u hd hp hP hD hS
    exact W.iret (v := r) hx hb hr (fun t ht hW => ⟨⟨r, u, rfl, hp, by rw [ht]; exact hP, va_K.moved hW.alike hK, hD⟩, hS.F ht⟩) hS.2.2 hd
  have hin_9 : ∀ w ∈ u_ws RX9 TX9 23, w ∈ wsX9_crossed := by decide +kernel
  have fl_7 := hts (.fieldLink RX9 7 "MileRoadModel" "road" "[I") (by decide +kernel)
  have fl_48 := hts (.fieldLink RX9 48 "MileRoadModel" "thrown" "I") (by decide +kernel)
  have fl_166 := hts (.fieldLink RX9 166 "MileRoadModel" "above" "I") (by decide +kernel)
  have fl_169 := hts (.fieldLink RX9 169 "MileRoadModel" "below" "I") (by decide +kernel)
  have zl_0 : (0 : Int32).toInt = 0 := by decide
  have zl_1 : (1 : Int32).toInt = 1 := by decide
  have zl_8 : (8 : Int32).toInt = 8 := by decide
  have hF : fX9_crossed o_above o_below o_road_f = fX9_crossed o_above o_below o_road_f := rfl
  have L_7 : ∀  (n_7 : Nat) (v7_1 : Int32) (o_above_7 : Int32) (o_below_7 : Int32) (h1_7 : 1 ≤ v7_1.toInt) (h2_7 : v7_1.toInt ≤ 8) (hm : 8 - v7_1.toInt < (n_7 : Int)) (H : Heap) (locs : List Loc) (ls : Array Slot) (hl : lv_has ls 5 [(0, .ref o), (1, .int v7_1)]) (hP : va_P D vwCl [(o, .inr (9, [.ref o_road, .ref o_told, .ref o_fresh, .ref o_was, .int o_acts, .ref o_kept, .ref o_isKept, .ref o_sights, .int o_many, .ref o_text, .int o_letters, .int 0, .int o_cursor, .int o_token, .int o_start, .long o_value, .int o_isFault, .int o_faultAt, .int o_above_7, .int o_below_7, .ref o_topOf, .ref o_partsOf, .ref o_sent])), (o_road, .inl (cI, 36, .inl o_road_f))] H) (hD : va_D A [(o, .inr (9, [.ref o_road, .ref o_told, .ref o_fresh, .ref o_was, .int o_acts, .ref o_kept, .ref o_isKept, .ref o_sights, .int o_many, .ref o_text, .int o_letters, .int 0, .int o_cursor, .int o_token, .int o_start, .long o_value, .int o_isFault, .int o_faultAt, .int o_above_7, .int o_below_7, .ref o_topOf, .ref o_partsOf, .ref o_sent])), (o_road, .inl (cI, 36, .inl o_road_f))]) (hS : va_S A s.heap H locs) (hF : fX9_crossed o_above o_below o_road_f = fX9_crossed_7 o_road_f n_7 v7_1 o_above_7 o_below_7), W p l e ({ frames := 4, cells := 0, slots := 0, locals := 97 } : Room) s m ([.ref o] : List Value).toArray below meth c H locs 0 0 Q (F0 m 7 ls []) := by
    intro  n_7
    induction n_7 with
    | zero =>
      intro v7_1 o_above_7 o_below_7 h1_7 h2_7 hm H locs ls hl hP hD hS hF
      exact absurd hm (by omega)
    | succ n_7 ih_7 =>
      intro v7_1 o_above_7 o_below_7 h1_7 h2_7 hm H locs ls hl hP hD hS hF
      refine lv_iload_n hx hb dX9_crossed_7 rfl (lv_at hl 1 rfl) ?_
      refine lv_bipush (v := 8) hx hb dX9_crossed_8 (by decide) ?_
      refine lv_icmp_ge (tgt := 80) hx hb dX9_crossed_10 (by decide) (fun c_1 => ?_) (fun c_1 => ?_)
      · have kc_1 := t_le c_1
        refine lv_iconst (v := (-1)) hx hb dX9_crossed_80 (by decide) ?_
        exact hret _ _ _ _ (-1) (o_above_7, o_below_7) dX9_crossed_81 ((hF.trans (by simp only [fX9_crossed_7, xlet, if_pos c_1])).symm) hP hD hS
      · have kc_1 := t_nle c_1
        refine lv_aload_n hx hb dX9_crossed_13 rfl (lv_at hl 0 rfl) ?_
        refine lv_aload_n hx hb dX9_crossed_14 rfl (lv_at hl 0 rfl) ?_
        refine xget hx hb hts hown hK 9 (C2 := RX9) (T := TX9) (N := 23) rfl hin_9 hP 0 rfl 0 (by decide) fl_7 rfl rfl rfl dX9_crossed_15 ?_
        refine lv_iconst (v := 3) hx hb dX9_crossed_18 (by decide) ?_
        refine xald hx hb hK hP 1 0 (k := 3) rfl rfl (vi (by decide) (by decide)) (by decide) dX9_crossed_19 ?_
        refine lv_iload_n hx hb dX9_crossed_20 rfl (lv_at hl 1 rfl) ?_
        refine xcalli (S := Int32 × Int32) (Wc := [(o, .inr (9, [.ref o_road, .ref o_told, .ref o_fresh, .ref o_was, .int o_acts, .ref o_kept, .ref o_isKept, .ref o_sights, .int o_many, .ref o_text, .int o_letters, .int 0, .int o_cursor, .int o_token, .int o_start, .long o_value, .int o_isFault, .int o_faultAt, .int o_above_7, .int o_below_7, .ref o_topOf, .ref o_partsOf, .ref o_sent])), (o_road, .inl (cI, 36, .inl o_road_f))]) (wr := []) (W1 := (fun (u : Int32 × Int32) => [(o, .inr (9, [.ref o_road, .ref o_told, .ref o_fresh, .ref o_was, .int o_acts, .ref o_kept, .ref o_isKept, .ref o_sights, .int o_many, .ref o_text, .int o_letters, .int 0, .int o_cursor, .int o_token, .int o_start, .long o_value, .int o_isFault, .int o_faultAt, .int u.1, .int u.2, .ref o_topOf, .ref o_partsOf, .ref o_sent])), (o_road, .inl (cI, 36, .inl o_road_f))])) (Wn := (fun (u : Int32 × Int32) => [(o, .inr (9, [.ref o_road, .ref o_told, .ref o_fresh, .ref o_was, .int o_acts, .ref o_kept, .ref o_isKept, .ref o_sights, .int o_many, .ref o_text, .int o_letters, .int 0, .int o_cursor, .int o_token, .int o_start, .long o_value, .int o_isFault, .int o_faultAt, .int u.1, .int u.2, .ref o_topOf, .ref o_partsOf, .ref o_sent])), (o_road, .inl (cI, 36, .inl o_road_f))])) (xrunV hx hb hml hown hts (c_X9_layMean l D cI cZ _ o (o_road_f 3) v7_1 o_road o_told o_fresh o_was o_acts o_kept o_isKept o_sights o_many o_text o_letters 0 o_cursor o_token o_start o_value o_isFault o_faultAt o_above_7 o_below_7 o_topOf o_partsOf o_sent o_road_f hn0 hn1 hv0 hv6 hhab) (cwV 2 hts gX9_crossed_X9_layMean rfl rfl rfl (by decide +kernel) ⟨Nat.le_of_ble_eq_true rfl, Nat.le_of_ble_eq_true rfl⟩) hE hK hP hD [0, 1] rfl rfl 0 9 (T := TX9) (N := 23) rfl rfl rfl hl.1 rfl (Nat.le_of_ble_eq_true rfl) dX9_crossed_21 ⟨Nat.le_of_ble_eq_true rfl, Nat.le_of_ble_eq_true rfl⟩) hP hD hS hA [0, 1] [] [0, 1] rfl rfl rfl (by decide) (fun _ => rfl) rfl (fun r3 u H locs hw hz hP hD hS => ?_)
        obtain ⟨u1, u2⟩ := u
        have hw_1 := hw.symm
        have hP : va_P D vwCl [(o, .inr (9, [.ref o_road, .ref o_told, .ref o_fresh, .ref o_was, .int o_acts, .ref o_kept, .ref o_isKept, .ref o_sights, .int o_many, .ref o_text, .int o_letters, .int 0, .int o_cursor, .int o_token, .int o_start, .long o_value, .int o_isFault, .int o_faultAt, .int u1, .int u2, .ref o_topOf, .ref o_partsOf, .ref o_sent])), (o_road, .inl (cI, 36, .inl o_road_f))] H := hP
        have hD : va_D A [(o, .inr (9, [.ref o_road, .ref o_told, .ref o_fresh, .ref o_was, .int o_acts, .ref o_kept, .ref o_isKept, .ref o_sights, .int o_many, .ref o_text, .int o_letters, .int 0, .int o_cursor, .int o_token, .int o_start, .long o_value, .int o_isFault, .int o_faultAt, .int u1, .int u2, .ref o_topOf, .ref o_partsOf, .ref o_sent])), (o_road, .inl (cI, 36, .inl o_road_f))] := hD
        refine lv_istore_n (lv' := [(2, .int r3), (0, .ref o), (1, .int v7_1)]) hx hb dX9_crossed_24 rfl hl (by decide) rfl (fun ls hl => ?_)
        refine lv_aload_n hx hb dX9_crossed_25 rfl (lv_at hl 1 rfl) ?_
        refine xget hx hb hts hown hK 9 (C2 := RX9) (T := TX9) (N := 23) rfl hin_9 hP 0 rfl 18 (by decide) fl_166 rfl rfl rfl dX9_crossed_26 ?_
        refine lv_istore_n (lv' := [(3, .int u1), (2, .int r3), (0, .ref o), (1, .int v7_1)]) hx hb dX9_crossed_29 rfl hl (by decide) rfl (fun ls hl => ?_)
        refine lv_aload_n hx hb dX9_crossed_30 rfl (lv_at hl 2 rfl) ?_
        refine xget hx hb hts hown hK 9 (C2 := RX9) (T := TX9) (N := 23) rfl hin_9 hP 0 rfl 19 (by decide) fl_169 rfl rfl rfl dX9_crossed_31 ?_
        refine lv_istore (lv' := [(4, .int u2), (3, .int u1), (2, .int r3), (0, .ref o), (1, .int v7_1)]) hx hb dX9_crossed_34 hl (by decide) rfl (fun ls hl => ?_)
        refine lv_iload_n hx hb dX9_crossed_36 rfl (lv_at hl 2 rfl) ?_
        refine lv_if_eq (tgt := 74) hx hb dX9_crossed_37 (by decide) (fun c_2 => ?_) (fun c_2 => ?_)
        · have kc_2 := t_eq c_2
          refine lv_iinc (v := (v7_1 + 1)) (lv' := [(1, .int (v7_1 + 1)), (4, .int u2), (3, .int u1), (2, .int r3), (0, .ref o)]) hx hb dX9_crossed_74 hl (k := 4) rfl (by rfl) (by decide) rfl (fun ls hl => ?_)
          refine lv_goto (tgt := 7) hx hb dX9_crossed_77 (by decide) ?_
          have z_1 : (v7_1 + 1).toInt = v7_1.toInt + (1 : Int32).toInt := z_add (by omega) (by omega)
          exact ih_7 (v7_1 + 1) u1 u2 (by first | assumption | omega | decide | (split <;> rename_i hh <;> first | (have h9 := t_nlt hh; omega) | (have h9 := t_lt hh; omega) | (have h9 := t_nle hh; omega) | (have h9 := t_le hh; omega))) (by first | assumption | omega | decide | (split <;> rename_i hh <;> first | (have h9 := t_nlt hh; omega) | (have h9 := t_lt hh; omega) | (have h9 := t_nle hh; omega) | (have h9 := t_le hh; omega))) (by first | assumption | omega | decide | (split <;> rename_i hh <;> first | (have h9 := t_nlt hh; omega) | (have h9 := t_lt hh; omega) | (have h9 := t_nle hh; omega) | (have h9 := t_le hh; omega))) _ _ _ (lv_sub hl [4, 0] rfl) hP hD hS (hF.trans (by simp only [fX9_crossed_7, xlet, if_neg c_1, ↓hw_1, if_pos c_2]))
        · have kc_2 := t_neq c_2
          refine lv_aload_n hx hb dX9_crossed_40 rfl (lv_at hl 3 rfl) ?_
          refine lv_aload_n hx hb dX9_crossed_41 rfl (lv_at hl 3 rfl) ?_
          refine xget hx hb hts hown hK 9 (C2 := RX9) (T := TX9) (N := 23) rfl hin_9 hP 0 rfl 0 (by decide) fl_7 rfl rfl rfl dX9_crossed_42 ?_
          refine lv_iconst (v := 3) hx hb dX9_crossed_45 (by decide) ?_
          refine xald hx hb hK hP 1 0 (k := 3) rfl rfl (vi (by decide) (by decide)) (by decide) dX9_crossed_46 ?_
          refine lv_iload_n hx hb dX9_crossed_47 rfl (lv_at hl 4 rfl) ?_
          refine lv_iconst (v := 1) hx hb dX9_crossed_48 (by decide) ?_
          refine lv_iadd hx hb dX9_crossed_49 ?_
          refine xcalli (S := Int32 × Int32) (Wc := [(o, .inr (9, [.ref o_road, .ref o_told, .ref o_fresh, .ref o_was, .int o_acts, .ref o_kept, .ref o_isKept, .ref o_sights, .int o_many, .ref o_text, .int o_letters, .int 0, .int o_cursor, .int o_token, .int o_start, .long o_value, .int o_isFault, .int o_faultAt, .int u1, .int u2, .ref o_topOf, .ref o_partsOf, .ref o_sent])), (o_road, .inl (cI, 36, .inl o_road_f))]) (wr := []) (W1 := (fun (u : Int32 × Int32) => [(o, .inr (9, [.ref o_road, .ref o_told, .ref o_fresh, .ref o_was, .int o_acts, .ref o_kept, .ref o_isKept, .ref o_sights, .int o_many, .ref o_text, .int o_letters, .int 0, .int o_cursor, .int o_token, .int o_start, .long o_value, .int o_isFault, .int o_faultAt, .int u.1, .int u.2, .ref o_topOf, .ref o_partsOf, .ref o_sent])), (o_road, .inl (cI, 36, .inl o_road_f))])) (Wn := (fun (u : Int32 × Int32) => [(o, .inr (9, [.ref o_road, .ref o_told, .ref o_fresh, .ref o_was, .int o_acts, .ref o_kept, .ref o_isKept, .ref o_sights, .int o_many, .ref o_text, .int o_letters, .int 0, .int o_cursor, .int o_token, .int o_start, .long o_value, .int o_isFault, .int o_faultAt, .int u.1, .int u.2, .ref o_topOf, .ref o_partsOf, .ref o_sent])), (o_road, .inl (cI, 36, .inl o_road_f))])) (xrunV hx hb hml hown hts (c_X9_layMean l D cI cZ _ o (o_road_f 3) (v7_1 + 1) o_road o_told o_fresh o_was o_acts o_kept o_isKept o_sights o_many o_text o_letters 0 o_cursor o_token o_start o_value o_isFault o_faultAt u1 u2 o_topOf o_partsOf o_sent o_road_f hn0 hn1 hv0 hv6 hhab) (cwV 2 hts gX9_crossed_X9_layMean rfl rfl rfl (by decide +kernel) ⟨Nat.le_of_ble_eq_true rfl, Nat.le_of_ble_eq_true rfl⟩) hE hK hP hD [0, 1] rfl rfl 0 9 (T := TX9) (N := 23) rfl rfl rfl hl.1 rfl (Nat.le_of_ble_eq_true rfl) dX9_crossed_50 ⟨Nat.le_of_ble_eq_true rfl, Nat.le_of_ble_eq_true rfl⟩) hP hD hS hA [0, 1] [] [0, 1] rfl rfl rfl (by decide) (fun _ => rfl) rfl (fun r6 u H locs hw hz hP hD hS => ?_)
          obtain ⟨u4, u5⟩ := u
          have hw_2 := hw.symm
          have hP : va_P D vwCl [(o, .inr (9, [.ref o_road, .ref o_told, .ref o_fresh, .ref o_was, .int o_acts, .ref o_kept, .ref o_isKept, .ref o_sights, .int o_many, .ref o_text, .int o_letters, .int 0, .int o_cursor, .int o_token, .int o_start, .long o_value, .int o_isFault, .int o_faultAt, .int u4, .int u5, .ref o_topOf, .ref o_partsOf, .ref o_sent])), (o_road, .inl (cI, 36, .inl o_road_f))] H := hP
          have hD : va_D A [(o, .inr (9, [.ref o_road, .ref o_told, .ref o_fresh, .ref o_was, .int o_acts, .ref o_kept, .ref o_isKept, .ref o_sights, .int o_many, .ref o_text, .int o_letters, .int 0, .int o_cursor, .int o_token, .int o_start, .long o_value, .int o_isFault, .int o_faultAt, .int u4, .int u5, .ref o_topOf, .ref o_partsOf, .ref o_sent])), (o_road, .inl (cI, 36, .inl o_road_f))] := hD
          refine lv_if_eq (tgt := 74) hx hb dX9_crossed_53 (by decide) (fun c_3 => ?_) (fun c_3 => ?_)
          · have kc_3 := t_eq c_3
            refine lv_iinc (v := (v7_1 + 1)) (lv' := [(1, .int (v7_1 + 1)), (4, .int u2), (3, .int u1), (2, .int r3), (0, .ref o)]) hx hb dX9_crossed_74 hl (k := 4) rfl (by rfl) (by decide) rfl (fun ls hl => ?_)
            refine lv_goto (tgt := 7) hx hb dX9_crossed_77 (by decide) ?_
            have z_2 : (v7_1 + 1).toInt = v7_1.toInt + (1 : Int32).toInt := z_add (by omega) (by omega)
            exact ih_7 (v7_1 + 1) u4 u5 (by first | assumption | omega | decide | (split <;> rename_i hh <;> first | (have h9 := t_nlt hh; omega) | (have h9 := t_lt hh; omega) | (have h9 := t_nle hh; omega) | (have h9 := t_le hh; omega))) (by first | assumption | omega | decide | (split <;> rename_i hh <;> first | (have h9 := t_nlt hh; omega) | (have h9 := t_lt hh; omega) | (have h9 := t_nle hh; omega) | (have h9 := t_le hh; omega))) (by first | assumption | omega | decide | (split <;> rename_i hh <;> first | (have h9 := t_nlt hh; omega) | (have h9 := t_lt hh; omega) | (have h9 := t_nle hh; omega) | (have h9 := t_le hh; omega))) _ _ _ (lv_sub hl [4, 0] rfl) hP hD hS (hF.trans (by simp only [fX9_crossed_7, xlet, if_neg c_1, ↓hw_1, if_neg c_2, ↓hw_2, if_pos c_3]))
          · have kc_3 := t_neq c_3
            refine lv_aload_n hx hb dX9_crossed_56 rfl (lv_at hl 3 rfl) ?_
            refine xget hx hb hts hown hK 9 (C2 := RX9) (T := TX9) (N := 23) rfl hin_9 hP 0 rfl 18 (by decide) fl_166 rfl rfl rfl dX9_crossed_57 ?_
            refine lv_iload hx hb dX9_crossed_60 (lv_at hl 0 rfl) ?_
            refine lv_imul hx hb dX9_crossed_62 ?_
            refine lv_iload_n hx hb dX9_crossed_63 rfl (lv_at hl 1 rfl) ?_
            refine lv_aload_n hx hb dX9_crossed_64 rfl (lv_at hl 3 rfl) ?_
            refine xget hx hb hts hown hK 9 (C2 := RX9) (T := TX9) (N := 23) rfl hin_9 hP 0 rfl 19 (by decide) fl_169 rfl rfl rfl dX9_crossed_65 ?_
            refine lv_imul hx hb dX9_crossed_68 ?_
            refine lv_icmp_gt (tgt := 74) hx hb dX9_crossed_69 (by decide) (fun c_4 => ?_) (fun c_4 => ?_)
            · have kc_4 := t_lt c_4
              refine lv_iinc (v := (v7_1 + 1)) (lv' := [(1, .int (v7_1 + 1)), (4, .int u2), (3, .int u1), (2, .int r3), (0, .ref o)]) hx hb dX9_crossed_74 hl (k := 4) rfl (by rfl) (by decide) rfl (fun ls hl => ?_)
              refine lv_goto (tgt := 7) hx hb dX9_crossed_77 (by decide) ?_
              have z_3 : (v7_1 + 1).toInt = v7_1.toInt + (1 : Int32).toInt := z_add (by omega) (by omega)
              exact ih_7 (v7_1 + 1) u4 u5 (by first | assumption | omega | decide | (split <;> rename_i hh <;> first | (have h9 := t_nlt hh; omega) | (have h9 := t_lt hh; omega) | (have h9 := t_nle hh; omega) | (have h9 := t_le hh; omega))) (by first | assumption | omega | decide | (split <;> rename_i hh <;> first | (have h9 := t_nlt hh; omega) | (have h9 := t_lt hh; omega) | (have h9 := t_nle hh; omega) | (have h9 := t_le hh; omega))) (by first | assumption | omega | decide | (split <;> rename_i hh <;> first | (have h9 := t_nlt hh; omega) | (have h9 := t_lt hh; omega) | (have h9 := t_nle hh; omega) | (have h9 := t_le hh; omega))) _ _ _ (lv_sub hl [4, 0] rfl) hP hD hS (hF.trans (by simp only [fX9_crossed_7, xlet, if_neg c_1, ↓hw_1, if_neg c_2, ↓hw_2, if_neg c_3, if_pos c_4]))
            · have kc_4 := t_nlt c_4
              refine lv_iload_n hx hb dX9_crossed_72 rfl (lv_at hl 4 rfl) ?_
              exact hret _ _ _ _ v7_1 (u4, u5) dX9_crossed_73 ((hF.trans (by simp only [fX9_crossed_7, xlet, if_neg c_1, ↓hw_1, if_neg c_2, ↓hw_2, if_neg c_3, if_neg c_4])).symm) hP hD hS
  refine lv_aload_n hx hb dX9_crossed_0 rfl (lv_at hl 0 rfl) ?_
  refine lv_iconst (v := 0) hx hb dX9_crossed_1 (by decide) ?_
  refine xput hx hb hts hown hK 9 (C2 := RX9) (T := TX9) (N := 23) tyX9 rfl tyX9_ok nmX9 hin_9 hP hD hS 0 rfl 11 (by decide) fl_48 rfl rfl rfl rfl rfl (Nat.le_of_ble_eq_true rfl) dX9_crossed_2 [(o, .inr (9, [.ref o_road, .ref o_told, .ref o_fresh, .ref o_was, .int o_acts, .ref o_kept, .ref o_isKept, .ref o_sights, .int o_many, .ref o_text, .int o_letters, .int 0, .int o_cursor, .int o_token, .int o_start, .long o_value, .int o_isFault, .int o_faultAt, .int o_above, .int o_below, .ref o_topOf, .ref o_partsOf, .ref o_sent])), (o_road, .inl (cI, 36, .inl o_road_f))] rfl (fun H locs hP hD hS => ?_)
  refine lv_iconst (v := 1) hx hb dX9_crossed_5 (by decide) ?_
  refine lv_istore_n (lv' := [(1, .int 1), (0, .ref o)]) hx hb dX9_crossed_6 rfl hl (by decide) rfl (fun ls hl => ?_)
  exact L_7 1000 1 o_above o_below (by first | assumption | omega | decide | (split <;> rename_i hh <;> first | (have h9 := t_nlt hh; omega) | (have h9 := t_lt hh; omega) | (have h9 := t_nle hh; omega) | (have h9 := t_le hh; omega))) (by first | assumption | omega | decide | (split <;> rename_i hh <;> first | (have h9 := t_nlt hh; omega) | (have h9 := t_lt hh; omega) | (have h9 := t_nle hh; omega) | (have h9 := t_le hh; omega))) (by first | assumption | omega | decide | (split <;> rename_i hh <;> first | (have h9 := t_nlt hh; omega) | (have h9 := t_lt hh; omega) | (have h9 := t_nle hh; omega) | (have h9 := t_le hh; omega))) _ _ _ (lv_sub hl [1, 0] rfl) hP hD hS (hF.trans (by simp only [fX9_crossed, xlet]))
set_option maxRecDepth 20000 in
theorem ggX9_books_X9_in : GoodIn wsX9_books wsX9_in := goodIn_r _ [8] (by decide +kernel) (by decide +kernel)
set_option maxRecDepth 20000 in
theorem gX9_books_X9_in : GoodIn wsX9_books (va_wsS RX9 52 yX9_in wsX9_in) := goodIn_app (goodIn_of _ (by decide +kernel)) ggX9_books_X9_in
set_option maxRecDepth 20000 in
theorem ggX9_books_X9_layMean : GoodIn wsX9_books wsX9_layMean := goodIn_r _ [12, 3, 4, 2, 13, 14, 15, 7, 16, 17, 18, 19, 20, 21, 22, 23, 24, 25, 26, 27, 28, 29, 30, 31, 32, 33, 34, 35, 36, 37, 38, 39, 40, 41, 42, 43, 44, 45, 46, 47] (by decide +kernel) (by decide +kernel)
set_option maxRecDepth 20000 in
theorem gX9_books_X9_layMean : GoodIn wsX9_books (wsV RX9 172 RX9 yX9_layMean wsX9_layMean) := goodIn_app (goodIn_of _ (by decide +kernel)) ggX9_books_X9_layMean
theorem dX9_books_0 : decode cX9_books 0 = .ok (.aload_n 0, 1) := by decide +kernel
theorem dX9_books_1 : decode cX9_books 1 = .ok (.iconst 0, 1) := by decide +kernel
theorem dX9_books_2 : decode cX9_books 2 = .ok (.putfield 48, 3) := by decide +kernel
theorem dX9_books_5 : decode cX9_books 5 = .ok (.iload_n 1, 1) := by decide +kernel
theorem dX9_books_6 : decode cX9_books 6 = .ok (.i2l, 1) := by decide +kernel
theorem dX9_books_7 : decode cX9_books 7 = .ok (.lconst 0, 1) := by decide +kernel
theorem dX9_books_8 : decode cX9_books 8 = .ok (.aload_n 0, 1) := by decide +kernel
theorem dX9_books_9 : decode cX9_books 9 = .ok (.getfield 7, 3) := by decide +kernel
theorem dX9_books_12 : decode cX9_books 12 = .ok (.iconst 0, 1) := by decide +kernel
theorem dX9_books_13 : decode cX9_books 13 = .ok (.iaload, 1) := by decide +kernel
theorem dX9_books_14 : decode cX9_books 14 = .ok (.i2l, 1) := by decide +kernel
theorem dX9_books_15 : decode cX9_books 15 = .ok (.invokestatic 52, 3) := by decide +kernel
theorem dX9_books_18 : decode cX9_books 18 = .ok (.ifCond .eq 19, 3) := by decide +kernel
theorem dX9_books_21 : decode cX9_books 21 = .ok (.iload_n 2, 1) := by decide +kernel
theorem dX9_books_22 : decode cX9_books 22 = .ok (.i2l, 1) := by decide +kernel
theorem dX9_books_23 : decode cX9_books 23 = .ok (.lconst 0, 1) := by decide +kernel
theorem dX9_books_24 : decode cX9_books 24 = .ok (.aload_n 0, 1) := by decide +kernel
theorem dX9_books_25 : decode cX9_books 25 = .ok (.getfield 7, 3) := by decide +kernel
theorem dX9_books_28 : decode cX9_books 28 = .ok (.iconst 0, 1) := by decide +kernel
theorem dX9_books_29 : decode cX9_books 29 = .ok (.iaload, 1) := by decide +kernel
theorem dX9_books_30 : decode cX9_books 30 = .ok (.i2l, 1) := by decide +kernel
theorem dX9_books_31 : decode cX9_books 31 = .ok (.invokestatic 52, 3) := by decide +kernel
theorem dX9_books_34 : decode cX9_books 34 = .ok (.ifCond .ne 6, 3) := by decide +kernel
theorem dX9_books_37 : decode cX9_books 37 = .ok (.bipush (-3), 2) := by decide +kernel
theorem dX9_books_39 : decode cX9_books 39 = .ok (.ireturn, 1) := by decide +kernel
theorem dX9_books_40 : decode cX9_books 40 = .ok (.iload_n 1, 1) := by decide +kernel
theorem dX9_books_41 : decode cX9_books 41 = .ok (.iload_n 2, 1) := by decide +kernel
theorem dX9_books_42 : decode cX9_books 42 = .ok (.if_icmp .ge 7, 3) := by decide +kernel
theorem dX9_books_45 : decode cX9_books 45 = .ok (.iload_n 1, 1) := by decide +kernel
theorem dX9_books_46 : decode cX9_books 46 = .ok (.goto 4, 3) := by decide +kernel
theorem dX9_books_49 : decode cX9_books 49 = .ok (.iload_n 2, 1) := by decide +kernel
theorem dX9_books_50 : decode cX9_books 50 = .ok (.istore_n 3, 1) := by decide +kernel
theorem dX9_books_51 : decode cX9_books 51 = .ok (.iload_n 1, 1) := by decide +kernel
theorem dX9_books_52 : decode cX9_books 52 = .ok (.iload_n 2, 1) := by decide +kernel
theorem dX9_books_53 : decode cX9_books 53 = .ok (.if_icmp .ge 7, 3) := by decide +kernel
theorem dX9_books_56 : decode cX9_books 56 = .ok (.iload_n 2, 1) := by decide +kernel
theorem dX9_books_57 : decode cX9_books 57 = .ok (.goto 4, 3) := by decide +kernel
theorem dX9_books_60 : decode cX9_books 60 = .ok (.iload_n 1, 1) := by decide +kernel
theorem dX9_books_61 : decode cX9_books 61 = .ok (.istore 4, 2) := by decide +kernel
theorem dX9_books_63 : decode cX9_books 63 = .ok (.iconst 0, 1) := by decide +kernel
theorem dX9_books_64 : decode cX9_books 64 = .ok (.istore 5, 2) := by decide +kernel
theorem dX9_books_66 : decode cX9_books 66 = .ok (.iconst 1, 1) := by decide +kernel
theorem dX9_books_67 : decode cX9_books 67 = .ok (.istore 6, 2) := by decide +kernel
theorem dX9_books_69 : decode cX9_books 69 = .ok (.iload 6, 2) := by decide +kernel
theorem dX9_books_71 : decode cX9_books 71 = .ok (.bipush 9, 2) := by decide +kernel
theorem dX9_books_73 : decode cX9_books 73 = .ok (.if_icmp .ge 65, 3) := by decide +kernel
theorem dX9_books_76 : decode cX9_books 76 = .ok (.aload_n 0, 1) := by decide +kernel
theorem dX9_books_77 : decode cX9_books 77 = .ok (.aload_n 0, 1) := by decide +kernel
theorem dX9_books_78 : decode cX9_books 78 = .ok (.getfield 7, 3) := by decide +kernel
theorem dX9_books_81 : decode cX9_books 81 = .ok (.iconst 3, 1) := by decide +kernel
theorem dX9_books_82 : decode cX9_books 82 = .ok (.iaload, 1) := by decide +kernel
theorem dX9_books_83 : decode cX9_books 83 = .ok (.iload 6, 2) := by decide +kernel
theorem dX9_books_85 : decode cX9_books 85 = .ok (.invokevirtual 172, 3) := by decide +kernel
theorem dX9_books_88 : decode cX9_books 88 = .ok (.istore 7, 2) := by decide +kernel
theorem dX9_books_90 : decode cX9_books 90 = .ok (.iload 5, 2) := by decide +kernel
theorem dX9_books_92 : decode cX9_books 92 = .ok (.iload 7, 2) := by decide +kernel
theorem dX9_books_94 : decode cX9_books 94 = .ok (.ifCond .eq 34, 3) := by decide +kernel
theorem dX9_books_97 : decode cX9_books 97 = .ok (.aload_n 0, 1) := by decide +kernel
theorem dX9_books_98 : decode cX9_books 98 = .ok (.getfield 166, 3) := by decide +kernel
theorem dX9_books_101 : decode cX9_books 101 = .ok (.iload_n 3, 1) := by decide +kernel
theorem dX9_books_102 : decode cX9_books 102 = .ok (.aload_n 0, 1) := by decide +kernel
theorem dX9_books_103 : decode cX9_books 103 = .ok (.getfield 169, 3) := by decide +kernel
theorem dX9_books_106 : decode cX9_books 106 = .ok (.imul, 1) := by decide +kernel
theorem dX9_books_107 : decode cX9_books 107 = .ok (.if_icmp .le 21, 3) := by decide +kernel
theorem dX9_books_110 : decode cX9_books 110 = .ok (.aload_n 0, 1) := by decide +kernel
theorem dX9_books_111 : decode cX9_books 111 = .ok (.getfield 166, 3) := by decide +kernel
theorem dX9_books_114 : decode cX9_books 114 = .ok (.iload 4, 2) := by decide +kernel
theorem dX9_books_116 : decode cX9_books 116 = .ok (.aload_n 0, 1) := by decide +kernel
theorem dX9_books_117 : decode cX9_books 117 = .ok (.getfield 169, 3) := by decide +kernel
theorem dX9_books_120 : decode cX9_books 120 = .ok (.imul, 1) := by decide +kernel
theorem dX9_books_121 : decode cX9_books 121 = .ok (.if_icmp .gt 7, 3) := by decide +kernel
theorem dX9_books_124 : decode cX9_books 124 = .ok (.iconst 1, 1) := by decide +kernel
theorem dX9_books_125 : decode cX9_books 125 = .ok (.goto 4, 3) := by decide +kernel
theorem dX9_books_128 : decode cX9_books 128 = .ok (.iconst 0, 1) := by decide +kernel
theorem dX9_books_129 : decode cX9_books 129 = .ok (.iadd, 1) := by decide +kernel
theorem dX9_books_130 : decode cX9_books 130 = .ok (.istore 5, 2) := by decide +kernel
theorem dX9_books_132 : decode cX9_books 132 = .ok (.iinc 6 1, 3) := by decide +kernel
theorem dX9_books_135 : decode cX9_books 135 = .ok (.goto (-66), 3) := by decide +kernel
theorem dX9_books_138 : decode cX9_books 138 = .ok (.iload 5, 2) := by decide +kernel
theorem dX9_books_140 : decode cX9_books 140 = .ok (.ireturn, 1) := by decide +kernel
def fX9_books_69 (o_road_f : Nat → Int32)  : Nat → Int32 → Int32 → Int32 → Int32 → Int32 → Int32 → Int32 × Int32 × Int32
  | 0, _, _, _, _, _, _ => default
  | n + 1, v69_3, v69_4, v69_5, v69_6, o_above_69, o_below_69 => if 9 ≤ v69_6 then ((v69_5, o_above_69, o_below_69)) else (match fX9_layMean (o_road_f 3) v69_6 o_road_f with | (r5, u3, u4) => xlet (if r5 = 0 then (0 : Int32) else (if u3 ≤ (v69_3 * u4) then 0 else (if (v69_4 * u4) < u3 then 0 else 1))) (fun y_3 => fX9_books_69 o_road_f n v69_3 v69_4 (v69_5 + y_3) (v69_6 + 1) u3 u4))
def fX9_books (a1 : Int32) (a2 : Int32) (o_above : Int32) (o_below : Int32) (o_road_f : Nat → Int32) : Int32 × Int32 × Int32 := if (fX9_in a1.toInt64 0 ((o_road_f 0).toInt64)) = 0 then (((-3), o_above, o_below)) else (if (fX9_in a2.toInt64 0 ((o_road_f 0).toInt64)) = 0 then (((-3), o_above, o_below)) else (xlet (if a2 ≤ a1 then a2 else a1) (fun y_1 => xlet (if a2 ≤ a1 then a1 else a2) (fun y_2 => fX9_books_69 o_road_f 1000 y_1 y_2 0 1 o_above o_below))))
set_option maxHeartbeats 4000000 in
set_option maxRecDepth 100000 in
theorem c_X9_books (l : Launch) (D : va_G) (cI cZ : ClassId) (sz : Nat) (o : Nat) (a1 : Int32) (a2 : Int32) (o_road : Nat) (o_told : Nat) (o_fresh : Nat) (o_was : Nat) (o_acts : Int32) (o_kept : Nat) (o_isKept : Nat) (o_sights : Nat) (o_many : Int32) (o_text : Nat) (o_letters : Int32) (o_thrown : Int32) (o_cursor : Int32) (o_token : Int32) (o_start : Int32) (o_value : Int64) (o_isFault : Int32) (o_faultAt : Int32) (o_above : Int32) (o_below : Int32) (o_topOf : Nat) (o_partsOf : Nat) (o_sent : Nat) (o_road_f : Nat → Int32) (hn0 : 4 ≤ (o_road_f 0).toInt) (hn1 : (o_road_f 0).toInt ≤ 20) (hv0 : 0 ≤ (o_road_f 2).toInt) (hv6 : (o_road_f 2).toInt ≤ 6) (hhab : ∀ w : Int32, 0 ≤ w.toInt → w.toInt < (o_road_f 2).toInt → ¬ o_road_f (30 + w).toNatClampNeg = 0) : Met l yX9_books wsX9_books ({ frames := 4, cells := 0, slots := 0, locals := 97 } : Room) (va_Pc [.ref o, .int a1, .int a2] (xP D cI cZ [(o, .inr (9, [.ref o_road, .ref o_told, .ref o_fresh, .ref o_was, .int o_acts, .ref o_kept, .ref o_isKept, .ref o_sights, .int o_many, .ref o_text, .int o_letters, .int o_thrown, .int o_cursor, .int o_token, .int o_start, .long o_value, .int o_isFault, .int o_faultAt, .int o_above, .int o_below, .ref o_topOf, .ref o_partsOf, .ref o_sent])), (o_road, .inl (cI, 36, .inl o_road_f))] sz)) (va_Qi (fun (r : Int32) (u : Int32 × Int32) => (r, u) = fX9_books a1 a2 o_above o_below o_road_f) (fun (u : Int32 × Int32) t => xB D cI cZ [(o, .inr (9, [.ref o_road, .ref o_told, .ref o_fresh, .ref o_was, .int o_acts, .ref o_kept, .ref o_isKept, .ref o_sights, .int o_many, .ref o_text, .int o_letters, .int 0, .int o_cursor, .int o_token, .int o_start, .long o_value, .int o_isFault, .int o_faultAt, .int u.1, .int u.2, .ref o_topOf, .ref o_partsOf, .ref o_sent])), (o_road, .inl (cI, 36, .inl o_road_f))] (va_A [(o, .inr (9, [.ref o_road, .ref o_told, .ref o_fresh, .ref o_was, .int o_acts, .ref o_kept, .ref o_isKept, .ref o_sights, .int o_many, .ref o_text, .int o_letters, .int o_thrown, .int o_cursor, .int o_token, .int o_start, .long o_value, .int o_isFault, .int o_faultAt, .int o_above, .int o_below, .ref o_topOf, .ref o_partsOf, .ref o_sent])), (o_road, .inl (cI, 36, .inl o_road_f))] sz) t) (va_A [(o, .inr (9, [.ref o_road, .ref o_told, .ref o_fresh, .ref o_was, .int o_acts, .ref o_kept, .ref o_isKept, .ref o_sights, .int o_many, .ref o_text, .int o_letters, .int o_thrown, .int o_cursor, .int o_token, .int o_start, .long o_value, .int o_isFault, .int o_faultAt, .int o_above, .int o_below, .ref o_topOf, .ref o_partsOf, .ref o_sent])), (o_road, .inl (cI, 36, .inl o_road_f))] sz)) 0 0 (va_A [(o, .inr (9, [.ref o_road, .ref o_told, .ref o_fresh, .ref o_was, .int o_acts, .ref o_kept, .ref o_isKept, .ref o_sights, .int o_many, .ref o_text, .int o_letters, .int o_thrown, .int o_cursor, .int o_token, .int o_start, .long o_value, .int o_isFault, .int o_faultAt, .int o_above, .int o_below, .ref o_topOf, .ref o_partsOf, .ref o_sent])), (o_road, .inl (cI, 36, .inl o_road_f))] sz) := by
  refine Met.ofW (cc := cX9_books) (maxL := 8) (ret := (some .int)) (by decide) rfl ?_
  intro p e s m args below meth c s₁ B hml hv
  obtain ⟨hargs, hsz, hP, hK, hD0, hE⟩ := hv
  subst hargs
  have hx := B.exec
  have hb := B.bytes
  have hr := B.returns
  have hts := atoms_spec (ws := wsX9_books) B.pre
  have hown : s.vm.findClass RX9 = some m.cls := findClass_of_methodNamed B.named
  have hlocks := B.notSynchronized
  subst hsz
  have hD := hD0.self (sz := s.heap.size)
  generalize hAe : va_A [(o, .inr (9, [.ref o_road, .ref o_told, .ref o_fresh, .ref o_was, .int o_acts, .ref o_kept, .ref o_isKept, .ref o_sights, .int o_many, .ref o_text, .int o_letters, .int o_thrown, .int o_cursor, .int o_token, .int o_start, .long o_value, .int o_isFault, .int o_faultAt, .int o_above, .int o_below, .ref o_topOf, .ref o_partsOf, .ref o_sent])), (o_road, .inl (cI, 36, .inl o_road_f))] s.heap.size = A at hD ⊢
  have hA : ∀ q : Nat, s.heap.size ≤ q → A q := fun q h => by rw [← hAe]; exact Or.inr h
  have hS : va_S A s.heap s.heap [] := va_S.rf
  have hl := lv_entry ([.ref o, .int a1, .int a2]) (n := 8) (Nat.le_of_ble_eq_true rfl)
  rw [lg_entry_eq]
  generalize (lg_sl ([.ref o, .int a1, .int a2]) ++ List.replicate (8 - (lg_sl ([.ref o, .int a1, .int a2])).length) Slot.unset).toArray = ls at hl ⊢
  have hl : lv_has ls 8 [(0, .ref o), (1, .int a1), (2, .int a2)] := hl
  refine wq (X := fun Q => ∀ (pc : Nat) (H : Heap) (locs : List Loc) (ls : Array Slot) (r : Int32) (u : Int32 × Int32) (hd : decode cX9_books pc = .ok (.ireturn, 1)) (hp : (r, u) = fX9_books a1 a2 o_above o_below o_road_f) (hP : va_P D vwCl [(o, .inr (9, [.ref o_road, .ref o_told, .ref o_fresh, .ref o_was, .int o_acts, .ref o_kept, .ref o_isKept, .ref o_sights, .int o_many, .ref o_text, .int o_letters, .int 0, .int o_cursor, .int o_token, .int o_start, .long o_value, .int o_isFault, .int o_faultAt, .int u.1, .int u.2, .ref o_topOf, .ref o_partsOf, .ref o_sent])), (o_road, .inl (cI, 36, .inl o_road_f))] H) (hD : va_D A [(o, .inr (9, [.ref o_road, .ref o_told, .ref o_fresh, .ref o_was, .int o_acts, .ref o_kept, .ref o_isKept, .ref o_sights, .int o_many, .ref o_text, .int o_letters, .int 0, .int o_cursor, .int o_token, .int o_start, .long o_value, .int o_isFault, .int o_faultAt, .int u.1, .int u.2, .ref o_topOf, .ref o_partsOf, .ref o_sent])), (o_road, .inl (cI, 36, .inl o_road_f))]) (hS : va_S A s.heap H locs), W p l e ({ frames := 4, cells := 0, slots := 0, locals := 97 } : Room) s m ([.ref o, .int a1, .int a2] : List Value).toArray below meth c H locs 0 0 Q (F0 m pc ls [.int r])) ?_ (fun Q hret => ?_)
  · intro pc H locs ls r u hd hp hP hD hS
    exact W.iret (v := r) hx hb hr (fun t ht hW => ⟨⟨r, u, rfl, hp, by rw [ht]; exact hP, va_K.moved hW.alike hK, hD⟩, hS.F ht⟩) hS.2.2 hd
  have hin_9 : ∀ w ∈ u_ws RX9 TX9 23, w ∈ wsX9_books := by decide +kernel
  have fl_7 := hts (.fieldLink RX9 7 "MileRoadModel" "road" "[I") (by decide +kernel)
  have fl_48 := hts (.fieldLink RX9 48 "MileRoadModel" "thrown" "I") (by decide +kernel)
  have fl_166 := hts (.fieldLink RX9 166 "MileRoadModel" "above" "I") (by decide +kernel)
  have fl_169 := hts (.fieldLink RX9 169 "MileRoadModel" "below" "I") (by decide +kernel)
  have zl_0 : (0 : Int32).toInt = 0 := by decide
  have zl_1 : (1 : Int32).toInt = 1 := by decide
  have zl_9 : (9 : Int32).toInt = 9 := by decide
  have hF : fX9_books a1 a2 o_above o_below o_road_f = fX9_books a1 a2 o_above o_below o_road_f := rfl
  have L_69 : ∀  (n_69 : Nat) (v69_3 : Int32) (v69_4 : Int32) (v69_5 : Int32) (v69_6 : Int32) (o_above_69 : Int32) (o_below_69 : Int32) (h1_69 : 1 ≤ v69_6.toInt) (h2_69 : v69_6.toInt ≤ 9) (hm : 9 - v69_6.toInt < (n_69 : Int)) (H : Heap) (locs : List Loc) (ls : Array Slot) (hl : lv_has ls 8 [(0, .ref o), (1, .int a1), (2, .int a2), (3, .int v69_3), (4, .int v69_4), (5, .int v69_5), (6, .int v69_6)]) (hP : va_P D vwCl [(o, .inr (9, [.ref o_road, .ref o_told, .ref o_fresh, .ref o_was, .int o_acts, .ref o_kept, .ref o_isKept, .ref o_sights, .int o_many, .ref o_text, .int o_letters, .int 0, .int o_cursor, .int o_token, .int o_start, .long o_value, .int o_isFault, .int o_faultAt, .int o_above_69, .int o_below_69, .ref o_topOf, .ref o_partsOf, .ref o_sent])), (o_road, .inl (cI, 36, .inl o_road_f))] H) (hD : va_D A [(o, .inr (9, [.ref o_road, .ref o_told, .ref o_fresh, .ref o_was, .int o_acts, .ref o_kept, .ref o_isKept, .ref o_sights, .int o_many, .ref o_text, .int o_letters, .int 0, .int o_cursor, .int o_token, .int o_start, .long o_value, .int o_isFault, .int o_faultAt, .int o_above_69, .int o_below_69, .ref o_topOf, .ref o_partsOf, .ref o_sent])), (o_road, .inl (cI, 36, .inl o_road_f))]) (hS : va_S A s.heap H locs) (hF : fX9_books a1 a2 o_above o_below o_road_f = fX9_books_69 o_road_f n_69 v69_3 v69_4 v69_5 v69_6 o_above_69 o_below_69), W p l e ({ frames := 4, cells := 0, slots := 0, locals := 97 } : Room) s m ([.ref o, .int a1, .int a2] : List Value).toArray below meth c H locs 0 0 Q (F0 m 69 ls []) := by
    intro  n_69
    induction n_69 with
    | zero =>
      intro v69_3 v69_4 v69_5 v69_6 o_above_69 o_below_69 h1_69 h2_69 hm H locs ls hl hP hD hS hF
      exact absurd hm (by omega)
    | succ n_69 ih_69 =>
      intro v69_3 v69_4 v69_5 v69_6 o_above_69 o_below_69 h1_69 h2_69 hm H locs ls hl hP hD hS hF
      refine lv_iload hx hb dX9_books_69 (lv_at hl 6 rfl) ?_
      refine lv_bipush (v := 9) hx hb dX9_books_71 (by decide) ?_
      refine lv_icmp_ge (tgt := 138) hx hb dX9_books_73 (by decide) (fun c_5 => ?_) (fun c_5 => ?_)
      · have kc_5 := t_le c_5
        refine lv_iload hx hb dX9_books_138 (lv_at hl 5 rfl) ?_
        exact hret _ _ _ _ v69_5 (o_above_69, o_below_69) dX9_books_140 ((hF.trans (by simp only [fX9_books_69, xlet, if_pos c_5])).symm) hP hD hS
      · have kc_5 := t_nle c_5
        refine lv_aload_n hx hb dX9_books_76 rfl (lv_at hl 0 rfl) ?_
        refine lv_aload_n hx hb dX9_books_77 rfl (lv_at hl 0 rfl) ?_
        refine xget hx hb hts hown hK 9 (C2 := RX9) (T := TX9) (N := 23) rfl hin_9 hP 0 rfl 0 (by decide) fl_7 rfl rfl rfl dX9_books_78 ?_
        refine lv_iconst (v := 3) hx hb dX9_books_81 (by decide) ?_
        refine xald hx hb hK hP 1 0 (k := 3) rfl rfl (vi (by decide) (by decide)) (by decide) dX9_books_82 ?_
        refine lv_iload hx hb dX9_books_83 (lv_at hl 6 rfl) ?_
        refine xcalli (S := Int32 × Int32) (Wc := [(o, .inr (9, [.ref o_road, .ref o_told, .ref o_fresh, .ref o_was, .int o_acts, .ref o_kept, .ref o_isKept, .ref o_sights, .int o_many, .ref o_text, .int o_letters, .int 0, .int o_cursor, .int o_token, .int o_start, .long o_value, .int o_isFault, .int o_faultAt, .int o_above_69, .int o_below_69, .ref o_topOf, .ref o_partsOf, .ref o_sent])), (o_road, .inl (cI, 36, .inl o_road_f))]) (wr := []) (W1 := (fun (u : Int32 × Int32) => [(o, .inr (9, [.ref o_road, .ref o_told, .ref o_fresh, .ref o_was, .int o_acts, .ref o_kept, .ref o_isKept, .ref o_sights, .int o_many, .ref o_text, .int o_letters, .int 0, .int o_cursor, .int o_token, .int o_start, .long o_value, .int o_isFault, .int o_faultAt, .int u.1, .int u.2, .ref o_topOf, .ref o_partsOf, .ref o_sent])), (o_road, .inl (cI, 36, .inl o_road_f))])) (Wn := (fun (u : Int32 × Int32) => [(o, .inr (9, [.ref o_road, .ref o_told, .ref o_fresh, .ref o_was, .int o_acts, .ref o_kept, .ref o_isKept, .ref o_sights, .int o_many, .ref o_text, .int o_letters, .int 0, .int o_cursor, .int o_token, .int o_start, .long o_value, .int o_isFault, .int o_faultAt, .int u.1, .int u.2, .ref o_topOf, .ref o_partsOf, .ref o_sent])), (o_road, .inl (cI, 36, .inl o_road_f))])) (xrunV hx hb hml hown hts (c_X9_layMean l D cI cZ _ o (o_road_f 3) v69_6 o_road o_told o_fresh o_was o_acts o_kept o_isKept o_sights o_many o_text o_letters 0 o_cursor o_token o_start o_value o_isFault o_faultAt o_above_69 o_below_69 o_topOf o_partsOf o_sent o_road_f hn0 hn1 hv0 hv6 hhab) (cwV 2 hts gX9_books_X9_layMean rfl rfl rfl (by decide +kernel) ⟨Nat.le_of_ble_eq_true rfl, Nat.le_of_ble_eq_true rfl⟩) hE hK hP hD [0, 1] rfl rfl 0 9 (T := TX9) (N := 23) rfl rfl rfl hl.1 rfl (Nat.le_of_ble_eq_true rfl) dX9_books_85 ⟨Nat.le_of_ble_eq_true rfl, Nat.le_of_ble_eq_true rfl⟩) hP hD hS hA [0, 1] [] [0, 1] rfl rfl rfl (by decide) (fun _ => rfl) rfl (fun r5 u H locs hw hz hP hD hS => ?_)
        obtain ⟨u3, u4⟩ := u
        have hw_4 := hw.symm
        have hP : va_P D vwCl [(o, .inr (9, [.ref o_road, .ref o_told, .ref o_fresh, .ref o_was, .int o_acts, .ref o_kept, .ref o_isKept, .ref o_sights, .int o_many, .ref o_text, .int o_letters, .int 0, .int o_cursor, .int o_token, .int o_start, .long o_value, .int o_isFault, .int o_faultAt, .int u3, .int u4, .ref o_topOf, .ref o_partsOf, .ref o_sent])), (o_road, .inl (cI, 36, .inl o_road_f))] H := hP
        have hD : va_D A [(o, .inr (9, [.ref o_road, .ref o_told, .ref o_fresh, .ref o_was, .int o_acts, .ref o_kept, .ref o_isKept, .ref o_sights, .int o_many, .ref o_text, .int o_letters, .int 0, .int o_cursor, .int o_token, .int o_start, .long o_value, .int o_isFault, .int o_faultAt, .int u3, .int u4, .ref o_topOf, .ref o_partsOf, .ref o_sent])), (o_road, .inl (cI, 36, .inl o_road_f))] := hD
        refine lv_istore (lv' := [(7, .int r5), (0, .ref o), (1, .int a1), (2, .int a2), (3, .int v69_3), (4, .int v69_4), (5, .int v69_5), (6, .int v69_6)]) hx hb dX9_books_88 hl (by decide) rfl (fun ls hl => ?_)
        refine lv_iload hx hb dX9_books_90 (lv_at hl 6 rfl) ?_
        refine lv_iload hx hb dX9_books_92 (lv_at hl 0 rfl) ?_
        have K_y_3 : ∀ (y_3 : Int32) (hy_y_3 : (if r5 = 0 then (0 : Int32) else (if u3 ≤ (v69_3 * u4) then 0 else (if (v69_4 * u4) < u3 then 0 else 1))) = y_3) (H : Heap) (locs : List Loc) (hP : va_P D vwCl [(o, .inr (9, [.ref o_road, .ref o_told, .ref o_fresh, .ref o_was, .int o_acts, .ref o_kept, .ref o_isKept, .ref o_sights, .int o_many, .ref o_text, .int o_letters, .int 0, .int o_cursor, .int o_token, .int o_start, .long o_value, .int o_isFault, .int o_faultAt, .int u3, .int u4, .ref o_topOf, .ref o_partsOf, .ref o_sent])), (o_road, .inl (cI, 36, .inl o_road_f))] H) (hD : va_D A [(o, .inr (9, [.ref o_road, .ref o_told, .ref o_fresh, .ref o_was, .int o_acts, .ref o_kept, .ref o_isKept, .ref o_sights, .int o_many, .ref o_text, .int o_letters, .int 0, .int o_cursor, .int o_token, .int o_start, .long o_value, .int o_isFault, .int o_faultAt, .int u3, .int u4, .ref o_topOf, .ref o_partsOf, .ref o_sent])), (o_road, .inl (cI, 36, .inl o_road_f))]) (hS : va_S A s.heap H locs), W p l e ({ frames := 4, cells := 0, slots := 0, locals := 97 } : Room) s m ([.ref o, .int a1, .int a2] : List Value).toArray below meth c H locs 0 0 Q (F0 m 129 ls [.int y_3, .int v69_5]) := by
          intro y_3 hy_y_3 H locs hP hD hS
          have ky_y_3 : y_3 = 0 ∨ y_3 = 1 := by rw [← hy_y_3]; (repeat' split) <;> simp
          refine lv_iadd hx hb dX9_books_129 ?_
          refine lv_istore (lv' := [(5, .int (v69_5 + y_3)), (7, .int r5), (0, .ref o), (1, .int a1), (2, .int a2), (3, .int v69_3), (4, .int v69_4), (6, .int v69_6)]) hx hb dX9_books_130 hl (by decide) rfl (fun ls hl => ?_)
          refine lv_iinc (v := (v69_6 + 1)) (lv' := [(6, .int (v69_6 + 1)), (5, .int (v69_5 + y_3)), (7, .int r5), (0, .ref o), (1, .int a1), (2, .int a2), (3, .int v69_3), (4, .int v69_4)]) hx hb dX9_books_132 hl (k := 7) rfl (by rfl) (by decide) rfl (fun ls hl => ?_)
          refine lv_goto (tgt := 69) hx hb dX9_books_135 (by decide) ?_
          have z_1 : (v69_6 + 1).toInt = v69_6.toInt + (1 : Int32).toInt := z_add (by omega) (by omega)
          exact ih_69 v69_3 v69_4 (v69_5 + y_3) (v69_6 + 1) u3 u4 (by first | assumption | omega | decide | (split <;> rename_i hh <;> first | (have h9 := t_nlt hh; omega) | (have h9 := t_lt hh; omega) | (have h9 := t_nle hh; omega) | (have h9 := t_le hh; omega))) (by first | assumption | omega | decide | (split <;> rename_i hh <;> first | (have h9 := t_nlt hh; omega) | (have h9 := t_lt hh; omega) | (have h9 := t_nle hh; omega) | (have h9 := t_le hh; omega))) (by first | assumption | omega | decide | (split <;> rename_i hh <;> first | (have h9 := t_nlt hh; omega) | (have h9 := t_lt hh; omega) | (have h9 := t_nle hh; omega) | (have h9 := t_le hh; omega))) _ _ _ (lv_sub hl [3, 4, 5, 6, 7, 1, 0] rfl) hP hD hS (hF.trans (by simp only [fX9_books_69, xlet, if_neg c_5, ↓hw_4, ↓hy_y_3]))
        refine lv_if_eq (tgt := 128) hx hb dX9_books_94 (by decide) (fun c_6 => ?_) (fun c_6 => ?_)
        · have kc_6 := t_eq c_6
          refine lv_iconst (v := 0) hx hb dX9_books_128 (by decide) ?_
          exact K_y_3 _ (by simp only [xlet, if_pos c_6]) _ _ hP hD hS
        · have kc_6 := t_neq c_6
          refine lv_aload_n hx hb dX9_books_97 rfl (lv_at hl 1 rfl) ?_
          refine xget hx hb hts hown hK 9 (C2 := RX9) (T := TX9) (N := 23) rfl hin_9 hP 0 rfl 18 (by decide) fl_166 rfl rfl rfl dX9_books_98 ?_
          refine lv_iload_n hx hb dX9_books_101 rfl (lv_at hl 4 rfl) ?_
          refine lv_aload_n hx hb dX9_books_102 rfl (lv_at hl 1 rfl) ?_
          refine xget hx hb hts hown hK 9 (C2 := RX9) (T := TX9) (N := 23) rfl hin_9 hP 0 rfl 19 (by decide) fl_169 rfl rfl rfl dX9_books_103 ?_
          refine lv_imul hx hb dX9_books_106 ?_
          refine lv_icmp_le (tgt := 128) hx hb dX9_books_107 (by decide) (fun c_7 => ?_) (fun c_7 => ?_)
          · have kc_7 := t_le c_7
            refine lv_iconst (v := 0) hx hb dX9_books_128 (by decide) ?_
            exact K_y_3 _ (by simp only [xlet, if_neg c_6, if_pos c_7]) _ _ hP hD hS
          · have kc_7 := t_nle c_7
            refine lv_aload_n hx hb dX9_books_110 rfl (lv_at hl 1 rfl) ?_
            refine xget hx hb hts hown hK 9 (C2 := RX9) (T := TX9) (N := 23) rfl hin_9 hP 0 rfl 18 (by decide) fl_166 rfl rfl rfl dX9_books_111 ?_
            refine lv_iload hx hb dX9_books_114 (lv_at hl 5 rfl) ?_
            refine lv_aload_n hx hb dX9_books_116 rfl (lv_at hl 1 rfl) ?_
            refine xget hx hb hts hown hK 9 (C2 := RX9) (T := TX9) (N := 23) rfl hin_9 hP 0 rfl 19 (by decide) fl_169 rfl rfl rfl dX9_books_117 ?_
            refine lv_imul hx hb dX9_books_120 ?_
            refine lv_icmp_gt (tgt := 128) hx hb dX9_books_121 (by decide) (fun c_8 => ?_) (fun c_8 => ?_)
            · have kc_8 := t_lt c_8
              refine lv_iconst (v := 0) hx hb dX9_books_128 (by decide) ?_
              exact K_y_3 _ (by simp only [xlet, if_neg c_6, if_neg c_7, if_pos c_8]) _ _ hP hD hS
            · have kc_8 := t_nlt c_8
              refine lv_iconst (v := 1) hx hb dX9_books_124 (by decide) ?_
              refine lv_goto (tgt := 129) hx hb dX9_books_125 (by decide) ?_
              exact K_y_3 _ (by simp only [xlet, if_neg c_6, if_neg c_7, if_neg c_8]) _ _ hP hD hS
  refine lv_aload_n hx hb dX9_books_0 rfl (lv_at hl 0 rfl) ?_
  refine lv_iconst (v := 0) hx hb dX9_books_1 (by decide) ?_
  refine xput hx hb hts hown hK 9 (C2 := RX9) (T := TX9) (N := 23) tyX9 rfl tyX9_ok nmX9 hin_9 hP hD hS 0 rfl 11 (by decide) fl_48 rfl rfl rfl rfl rfl (Nat.le_of_ble_eq_true rfl) dX9_books_2 [(o, .inr (9, [.ref o_road, .ref o_told, .ref o_fresh, .ref o_was, .int o_acts, .ref o_kept, .ref o_isKept, .ref o_sights, .int o_many, .ref o_text, .int o_letters, .int 0, .int o_cursor, .int o_token, .int o_start, .long o_value, .int o_isFault, .int o_faultAt, .int o_above, .int o_below, .ref o_topOf, .ref o_partsOf, .ref o_sent])), (o_road, .inl (cI, 36, .inl o_road_f))] rfl (fun H locs hP hD hS => ?_)
  refine lv_iload_n hx hb dX9_books_5 rfl (lv_at hl 1 rfl) ?_
  refine lv_i2l (v := a1.toInt64) hx hb dX9_books_6 rfl ?_
  refine lv_lconst (v := 0) hx hb dX9_books_7 (by decide) ?_
  refine lv_aload_n hx hb dX9_books_8 rfl (lv_at hl 0 rfl) ?_
  refine xget hx hb hts hown hK 9 (C2 := RX9) (T := TX9) (N := 23) rfl hin_9 hP 0 rfl 0 (by decide) fl_7 rfl rfl rfl dX9_books_9 ?_
  refine lv_iconst (v := 0) hx hb dX9_books_12 (by decide) ?_
  refine xald hx hb hK hP 1 0 (k := 0) rfl rfl (vi (by decide) (by decide)) (by decide) dX9_books_13 ?_
  refine lv_i2l (v := (o_road_f 0).toInt64) hx hb dX9_books_14 rfl ?_
  refine xcalli (S := Unit) (Wc := []) (wr := [(o, .inr (9, [.ref o_road, .ref o_told, .ref o_fresh, .ref o_was, .int o_acts, .ref o_kept, .ref o_isKept, .ref o_sights, .int o_many, .ref o_text, .int o_letters, .int 0, .int o_cursor, .int o_token, .int o_start, .long o_value, .int o_isFault, .int o_faultAt, .int o_above, .int o_below, .ref o_topOf, .ref o_partsOf, .ref o_sent])), (o_road, .inl (cI, 36, .inl o_road_f))]) (W1 := (fun (u : Unit) => [])) (Wn := (fun (u : Unit) => [(o, .inr (9, [.ref o_road, .ref o_told, .ref o_fresh, .ref o_was, .int o_acts, .ref o_kept, .ref o_isKept, .ref o_sights, .int o_many, .ref o_text, .int o_letters, .int 0, .int o_cursor, .int o_token, .int o_start, .long o_value, .int o_isFault, .int o_faultAt, .int o_above, .int o_below, .ref o_topOf, .ref o_partsOf, .ref o_sent])), (o_road, .inl (cI, 36, .inl o_road_f))])) (xrunS hx hb hml hown hts (c_X9_in l D cI cZ _ a1.toInt64 0 ((o_road_f 0).toInt64) ) (va_cwS 3 hts gX9_books_X9_in rfl rfl rfl (by decide +kernel) ⟨Nat.le_of_ble_eq_true rfl, Nat.le_of_ble_eq_true rfl⟩) hE hK hP hD [] rfl rfl rfl hl.1 rfl (Nat.le_of_ble_eq_true rfl) dX9_books_15 ⟨Nat.le_of_ble_eq_true rfl, Nat.le_of_ble_eq_true rfl⟩) hP hD hS hA [] [0, 1] [0, 1] rfl rfl rfl (by decide) (fun _ => rfl) rfl (fun r1 u H locs hw hz hP hD hS => ?_)
  subst hw
  refine lv_if_eq (tgt := 37) hx hb dX9_books_18 (by decide) (fun c_1 => ?_) (fun c_1 => ?_)
  · refine lv_bipush (v := (-3)) hx hb dX9_books_37 (by decide) ?_
    exact hret _ _ _ _ (-3) (o_above, o_below) dX9_books_39 ((hF.trans (by simp only [fX9_books, xlet, if_pos c_1])).symm) hP hD hS
  · have kb_c_1 : 0 ≤ a1.toInt ∧ a1.toInt ≤ (o_road_f 0).toInt := in_b c_1 (by decide) (Int32.toInt_toInt64 _)
    refine lv_iload_n hx hb dX9_books_21 rfl (lv_at hl 2 rfl) ?_
    refine lv_i2l (v := a2.toInt64) hx hb dX9_books_22 rfl ?_
    refine lv_lconst (v := 0) hx hb dX9_books_23 (by decide) ?_
    refine lv_aload_n hx hb dX9_books_24 rfl (lv_at hl 0 rfl) ?_
    refine xget hx hb hts hown hK 9 (C2 := RX9) (T := TX9) (N := 23) rfl hin_9 hP 0 rfl 0 (by decide) fl_7 rfl rfl rfl dX9_books_25 ?_
    refine lv_iconst (v := 0) hx hb dX9_books_28 (by decide) ?_
    refine xald hx hb hK hP 1 0 (k := 0) rfl rfl (vi (by decide) (by decide)) (by decide) dX9_books_29 ?_
    refine lv_i2l (v := (o_road_f 0).toInt64) hx hb dX9_books_30 rfl ?_
    refine xcalli (S := Unit) (Wc := []) (wr := [(o, .inr (9, [.ref o_road, .ref o_told, .ref o_fresh, .ref o_was, .int o_acts, .ref o_kept, .ref o_isKept, .ref o_sights, .int o_many, .ref o_text, .int o_letters, .int 0, .int o_cursor, .int o_token, .int o_start, .long o_value, .int o_isFault, .int o_faultAt, .int o_above, .int o_below, .ref o_topOf, .ref o_partsOf, .ref o_sent])), (o_road, .inl (cI, 36, .inl o_road_f))]) (W1 := (fun (u : Unit) => [])) (Wn := (fun (u : Unit) => [(o, .inr (9, [.ref o_road, .ref o_told, .ref o_fresh, .ref o_was, .int o_acts, .ref o_kept, .ref o_isKept, .ref o_sights, .int o_many, .ref o_text, .int o_letters, .int 0, .int o_cursor, .int o_token, .int o_start, .long o_value, .int o_isFault, .int o_faultAt, .int o_above, .int o_below, .ref o_topOf, .ref o_partsOf, .ref o_sent])), (o_road, .inl (cI, 36, .inl o_road_f))])) (xrunS hx hb hml hown hts (c_X9_in l D cI cZ _ a2.toInt64 0 ((o_road_f 0).toInt64) ) (va_cwS 3 hts gX9_books_X9_in rfl rfl rfl (by decide +kernel) ⟨Nat.le_of_ble_eq_true rfl, Nat.le_of_ble_eq_true rfl⟩) hE hK hP hD [] rfl rfl rfl hl.1 rfl (Nat.le_of_ble_eq_true rfl) dX9_books_31 ⟨Nat.le_of_ble_eq_true rfl, Nat.le_of_ble_eq_true rfl⟩) hP hD hS hA [] [0, 1] [0, 1] rfl rfl rfl (by decide) (fun _ => rfl) rfl (fun r2 u H locs hw hz hP hD hS => ?_)
    subst hw
    refine lv_if_ne (tgt := 40) hx hb dX9_books_34 (by decide) (fun c_2 => ?_) (fun c_2 => ?_)
    · have kb_c_2 : 0 ≤ a2.toInt ∧ a2.toInt ≤ (o_road_f 0).toInt := in_b c_2 (by decide) (Int32.toInt_toInt64 _)
      refine lv_iload_n hx hb dX9_books_40 rfl (lv_at hl 1 rfl) ?_
      refine lv_iload_n hx hb dX9_books_41 rfl (lv_at hl 2 rfl) ?_
      have K_y_1 : ∀ (y_1 : Int32) (hy_y_1 : (if a2 ≤ a1 then a2 else a1) = y_1) (H : Heap) (locs : List Loc) (hP : va_P D vwCl [(o, .inr (9, [.ref o_road, .ref o_told, .ref o_fresh, .ref o_was, .int o_acts, .ref o_kept, .ref o_isKept, .ref o_sights, .int o_many, .ref o_text, .int o_letters, .int 0, .int o_cursor, .int o_token, .int o_start, .long o_value, .int o_isFault, .int o_faultAt, .int o_above, .int o_below, .ref o_topOf, .ref o_partsOf, .ref o_sent])), (o_road, .inl (cI, 36, .inl o_road_f))] H) (hD : va_D A [(o, .inr (9, [.ref o_road, .ref o_told, .ref o_fresh, .ref o_was, .int o_acts, .ref o_kept, .ref o_isKept, .ref o_sights, .int o_many, .ref o_text, .int o_letters, .int 0, .int o_cursor, .int o_token, .int o_start, .long o_value, .int o_isFault, .int o_faultAt, .int o_above, .int o_below, .ref o_topOf, .ref o_partsOf, .ref o_sent])), (o_road, .inl (cI, 36, .inl o_road_f))]) (hS : va_S A s.heap H locs), W p l e ({ frames := 4, cells := 0, slots := 0, locals := 97 } : Room) s m ([.ref o, .int a1, .int a2] : List Value).toArray below meth c H locs 0 0 Q (F0 m 50 ls [.int y_1]) := by
        intro y_1 hy_y_1 H locs hP hD hS
        have ky_y_1 : y_1 = a1 ∨ y_1 = a2 := by rw [← hy_y_1]; (repeat' split) <;> simp
        refine lv_istore_n (lv' := [(3, .int y_1), (0, .ref o), (1, .int a1), (2, .int a2)]) hx hb dX9_books_50 rfl hl (by decide) rfl (fun ls hl => ?_)
        refine lv_iload_n hx hb dX9_books_51 rfl (lv_at hl 2 rfl) ?_
        refine lv_iload_n hx hb dX9_books_52 rfl (lv_at hl 3 rfl) ?_
        have K_y_2 : ∀ (y_2 : Int32) (hy_y_2 : (if a2 ≤ a1 then a1 else a2) = y_2) (H : Heap) (locs : List Loc) (hP : va_P D vwCl [(o, .inr (9, [.ref o_road, .ref o_told, .ref o_fresh, .ref o_was, .int o_acts, .ref o_kept, .ref o_isKept, .ref o_sights, .int o_many, .ref o_text, .int o_letters, .int 0, .int o_cursor, .int o_token, .int o_start, .long o_value, .int o_isFault, .int o_faultAt, .int o_above, .int o_below, .ref o_topOf, .ref o_partsOf, .ref o_sent])), (o_road, .inl (cI, 36, .inl o_road_f))] H) (hD : va_D A [(o, .inr (9, [.ref o_road, .ref o_told, .ref o_fresh, .ref o_was, .int o_acts, .ref o_kept, .ref o_isKept, .ref o_sights, .int o_many, .ref o_text, .int o_letters, .int 0, .int o_cursor, .int o_token, .int o_start, .long o_value, .int o_isFault, .int o_faultAt, .int o_above, .int o_below, .ref o_topOf, .ref o_partsOf, .ref o_sent])), (o_road, .inl (cI, 36, .inl o_road_f))]) (hS : va_S A s.heap H locs), W p l e ({ frames := 4, cells := 0, slots := 0, locals := 97 } : Room) s m ([.ref o, .int a1, .int a2] : List Value).toArray below meth c H locs 0 0 Q (F0 m 61 ls [.int y_2]) := by
          intro y_2 hy_y_2 H locs hP hD hS
          have ky_y_2 : y_2 = a1 ∨ y_2 = a2 := by rw [← hy_y_2]; (repeat' split) <;> simp
          refine lv_istore (lv' := [(4, .int y_2), (3, .int y_1), (0, .ref o), (1, .int a1), (2, .int a2)]) hx hb dX9_books_61 hl (by decide) rfl (fun ls hl => ?_)
          refine lv_iconst (v := 0) hx hb dX9_books_63 (by decide) ?_
          refine lv_istore (lv' := [(5, .int 0), (4, .int y_2), (3, .int y_1), (0, .ref o), (1, .int a1), (2, .int a2)]) hx hb dX9_books_64 hl (by decide) rfl (fun ls hl => ?_)
          refine lv_iconst (v := 1) hx hb dX9_books_66 (by decide) ?_
          refine lv_istore (lv' := [(6, .int 1), (5, .int 0), (4, .int y_2), (3, .int y_1), (0, .ref o), (1, .int a1), (2, .int a2)]) hx hb dX9_books_67 hl (by decide) rfl (fun ls hl => ?_)
          exact L_69 1000 y_1 y_2 0 1 o_above o_below (by first | assumption | omega | decide | (split <;> rename_i hh <;> first | (have h9 := t_nlt hh; omega) | (have h9 := t_lt hh; omega) | (have h9 := t_nle hh; omega) | (have h9 := t_le hh; omega))) (by first | assumption | omega | decide | (split <;> rename_i hh <;> first | (have h9 := t_nlt hh; omega) | (have h9 := t_lt hh; omega) | (have h9 := t_nle hh; omega) | (have h9 := t_le hh; omega))) (by first | assumption | omega | decide | (split <;> rename_i hh <;> first | (have h9 := t_nlt hh; omega) | (have h9 := t_lt hh; omega) | (have h9 := t_nle hh; omega) | (have h9 := t_le hh; omega))) _ _ _ (lv_sub hl [4, 5, 6, 3, 2, 1, 0] rfl) hP hD hS (hF.trans (by simp only [fX9_books, xlet, if_neg c_1, if_neg c_2, ↓hy_y_1, ↓hy_y_2]))
        refine lv_icmp_ge (tgt := 60) hx hb dX9_books_53 (by decide) (fun c_4 => ?_) (fun c_4 => ?_)
        · have kc_4 := t_le c_4
          refine lv_iload_n hx hb dX9_books_60 rfl (lv_at hl 2 rfl) ?_
          exact K_y_2 _ (by simp only [xlet, if_pos c_4]) _ _ hP hD hS
        · have kc_4 := t_nle c_4
          refine lv_iload_n hx hb dX9_books_56 rfl (lv_at hl 3 rfl) ?_
          refine lv_goto (tgt := 61) hx hb dX9_books_57 (by decide) ?_
          exact K_y_2 _ (by simp only [xlet, if_neg c_4]) _ _ hP hD hS
      refine lv_icmp_ge (tgt := 49) hx hb dX9_books_42 (by decide) (fun c_3 => ?_) (fun c_3 => ?_)
      · have kc_3 := t_le c_3
        refine lv_iload_n hx hb dX9_books_49 rfl (lv_at hl 2 rfl) ?_
        exact K_y_1 _ (by simp only [xlet, if_pos c_3]) _ _ hP hD hS
      · have kc_3 := t_nle c_3
        refine lv_iload_n hx hb dX9_books_45 rfl (lv_at hl 1 rfl) ?_
        refine lv_goto (tgt := 50) hx hb dX9_books_46 (by decide) ?_
        exact K_y_1 _ (by simp only [xlet, if_neg c_3]) _ _ hP hD hS
    · refine lv_bipush (v := (-3)) hx hb dX9_books_37 (by decide) ?_
      exact hret _ _ _ _ (-3) (o_above, o_below) dX9_books_39 ((hF.trans (by simp only [fX9_books, xlet, if_neg c_1, if_pos c_2])).symm) hP hD hS
set_option maxRecDepth 20000 in
theorem ggX9_send_X9_in : GoodIn wsX9_send wsX9_in := goodIn_r _ [9] (by decide +kernel) (by decide +kernel)
set_option maxRecDepth 20000 in
theorem gX9_send_X9_in : GoodIn wsX9_send (va_wsS RX9 52 yX9_in wsX9_in) := goodIn_app (goodIn_of _ (by decide +kernel)) ggX9_send_X9_in
set_option maxRecDepth 20000 in
theorem ggX9_send_X9_bits : GoodIn wsX9_send wsX9_bits := goodIn_r _ [12] (by decide +kernel) (by decide +kernel)
set_option maxRecDepth 20000 in
theorem gX9_send_X9_bits : GoodIn wsX9_send (va_wsS RX9 161 yX9_bits wsX9_bits) := goodIn_app (goodIn_of _ (by decide +kernel)) ggX9_send_X9_bits
set_option maxRecDepth 20000 in
theorem ggX9_send_X9_layMean : GoodIn wsX9_send wsX9_layMean := goodIn_r _ [16, 4, 5, 3, 17, 18, 19, 8, 20, 21, 22, 23, 24, 25, 26, 27, 28, 29, 30, 31, 32, 33, 34, 35, 36, 37, 38, 39, 40, 41, 42, 43, 44, 45, 46, 47, 48, 49, 50, 51] (by decide +kernel) (by decide +kernel)
set_option maxRecDepth 20000 in
theorem gX9_send_X9_layMean : GoodIn wsX9_send (wsV RX9 172 RX9 yX9_layMean wsX9_layMean) := goodIn_app (goodIn_of _ (by decide +kernel)) ggX9_send_X9_layMean
theorem dX9_send_0 : decode cX9_send 0 = .ok (.aload_n 0, 1) := by decide +kernel
theorem dX9_send_1 : decode cX9_send 1 = .ok (.iconst 0, 1) := by decide +kernel
theorem dX9_send_2 : decode cX9_send 2 = .ok (.putfield 48, 3) := by decide +kernel
theorem dX9_send_5 : decode cX9_send 5 = .ok (.iload_n 1, 1) := by decide +kernel
theorem dX9_send_6 : decode cX9_send 6 = .ok (.i2l, 1) := by decide +kernel
theorem dX9_send_7 : decode cX9_send 7 = .ok (.lconst 1, 1) := by decide +kernel
theorem dX9_send_8 : decode cX9_send 8 = .ok (.ldc2_w 164, 3) := by decide +kernel
theorem dX9_send_11 : decode cX9_send 11 = .ok (.invokestatic 52, 3) := by decide +kernel
theorem dX9_send_14 : decode cX9_send 14 = .ok (.ifCond .eq 29, 3) := by decide +kernel
theorem dX9_send_17 : decode cX9_send 17 = .ok (.iload_n 2, 1) := by decide +kernel
theorem dX9_send_18 : decode cX9_send 18 = .ok (.i2l, 1) := by decide +kernel
theorem dX9_send_19 : decode cX9_send 19 = .ok (.lconst 0, 1) := by decide +kernel
theorem dX9_send_20 : decode cX9_send 20 = .ok (.aload_n 0, 1) := by decide +kernel
theorem dX9_send_21 : decode cX9_send 21 = .ok (.getfield 7, 3) := by decide +kernel
theorem dX9_send_24 : decode cX9_send 24 = .ok (.iconst 0, 1) := by decide +kernel
theorem dX9_send_25 : decode cX9_send 25 = .ok (.iaload, 1) := by decide +kernel
theorem dX9_send_26 : decode cX9_send 26 = .ok (.i2l, 1) := by decide +kernel
theorem dX9_send_27 : decode cX9_send 27 = .ok (.invokestatic 52, 3) := by decide +kernel
theorem dX9_send_30 : decode cX9_send 30 = .ok (.ifCond .eq 13, 3) := by decide +kernel
theorem dX9_send_33 : decode cX9_send 33 = .ok (.iload_n 3, 1) := by decide +kernel
theorem dX9_send_34 : decode cX9_send 34 = .ok (.i2l, 1) := by decide +kernel
theorem dX9_send_35 : decode cX9_send 35 = .ok (.lconst 0, 1) := by decide +kernel
theorem dX9_send_36 : decode cX9_send 36 = .ok (.lconst 1, 1) := by decide +kernel
theorem dX9_send_37 : decode cX9_send 37 = .ok (.invokestatic 52, 3) := by decide +kernel
theorem dX9_send_40 : decode cX9_send 40 = .ok (.ifCond .ne 6, 3) := by decide +kernel
theorem dX9_send_43 : decode cX9_send 43 = .ok (.bipush (-3), 2) := by decide +kernel
theorem dX9_send_45 : decode cX9_send 45 = .ok (.ireturn, 1) := by decide +kernel
theorem dX9_send_46 : decode cX9_send 46 = .ok (.iconst (-1), 1) := by decide +kernel
theorem dX9_send_47 : decode cX9_send 47 = .ok (.istore 4, 2) := by decide +kernel
theorem dX9_send_49 : decode cX9_send 49 = .ok (.iconst 0, 1) := by decide +kernel
theorem dX9_send_50 : decode cX9_send 50 = .ok (.istore 5, 2) := by decide +kernel
theorem dX9_send_52 : decode cX9_send 52 = .ok (.iload 5, 2) := by decide +kernel
theorem dX9_send_54 : decode cX9_send 54 = .ok (.iconst 1, 1) := by decide +kernel
theorem dX9_send_55 : decode cX9_send 55 = .ok (.aload_n 0, 1) := by decide +kernel
theorem dX9_send_56 : decode cX9_send 56 = .ok (.getfield 7, 3) := by decide +kernel
theorem dX9_send_59 : decode cX9_send 59 = .ok (.iconst 2, 1) := by decide +kernel
theorem dX9_send_60 : decode cX9_send 60 = .ok (.iaload, 1) := by decide +kernel
theorem dX9_send_61 : decode cX9_send 61 = .ok (.ishl, 1) := by decide +kernel
theorem dX9_send_62 : decode cX9_send 62 = .ok (.if_icmp .ge 128, 3) := by decide +kernel
theorem dX9_send_65 : decode cX9_send 65 = .ok (.iload 5, 2) := by decide +kernel
theorem dX9_send_67 : decode cX9_send 67 = .ok (.aload_n 0, 1) := by decide +kernel
theorem dX9_send_68 : decode cX9_send 68 = .ok (.getfield 7, 3) := by decide +kernel
theorem dX9_send_71 : decode cX9_send 71 = .ok (.iconst 3, 1) := by decide +kernel
theorem dX9_send_72 : decode cX9_send 72 = .ok (.iaload, 1) := by decide +kernel
theorem dX9_send_73 : decode cX9_send 73 = .ok (.iand, 1) := by decide +kernel
theorem dX9_send_74 : decode cX9_send 74 = .ok (.ifCond .ne 26, 3) := by decide +kernel
theorem dX9_send_77 : decode cX9_send 77 = .ok (.iload 4, 2) := by decide +kernel
theorem dX9_send_79 : decode cX9_send 79 = .ok (.iconst (-1), 1) := by decide +kernel
theorem dX9_send_80 : decode cX9_send 80 = .ok (.if_icmp .eq 16, 3) := by decide +kernel
theorem dX9_send_83 : decode cX9_send 83 = .ok (.iload 5, 2) := by decide +kernel
theorem dX9_send_85 : decode cX9_send 85 = .ok (.invokestatic 161, 3) := by decide +kernel
theorem dX9_send_88 : decode cX9_send 88 = .ok (.iload 4, 2) := by decide +kernel
theorem dX9_send_90 : decode cX9_send 90 = .ok (.invokestatic 161, 3) := by decide +kernel
theorem dX9_send_93 : decode cX9_send 93 = .ok (.if_icmp .ge 7, 3) := by decide +kernel
theorem dX9_send_96 : decode cX9_send 96 = .ok (.iconst 1, 1) := by decide +kernel
theorem dX9_send_97 : decode cX9_send 97 = .ok (.goto 4, 3) := by decide +kernel
theorem dX9_send_100 : decode cX9_send 100 = .ok (.iconst 0, 1) := by decide +kernel
theorem dX9_send_101 : decode cX9_send 101 = .ok (.istore 6, 2) := by decide +kernel
theorem dX9_send_103 : decode cX9_send 103 = .ok (.iload 6, 2) := by decide +kernel
theorem dX9_send_105 : decode cX9_send 105 = .ok (.ifCond .eq 79, 3) := by decide +kernel
theorem dX9_send_108 : decode cX9_send 108 = .ok (.aload_n 0, 1) := by decide +kernel
theorem dX9_send_109 : decode cX9_send 109 = .ok (.iload 5, 2) := by decide +kernel
theorem dX9_send_111 : decode cX9_send 111 = .ok (.aload_n 0, 1) := by decide +kernel
theorem dX9_send_112 : decode cX9_send 112 = .ok (.getfield 7, 3) := by decide +kernel
theorem dX9_send_115 : decode cX9_send 115 = .ok (.iconst 3, 1) := by decide +kernel
theorem dX9_send_116 : decode cX9_send 116 = .ok (.iaload, 1) := by decide +kernel
theorem dX9_send_117 : decode cX9_send 117 = .ok (.ior, 1) := by decide +kernel
theorem dX9_send_118 : decode cX9_send 118 = .ok (.iload_n 1, 1) := by decide +kernel
theorem dX9_send_119 : decode cX9_send 119 = .ok (.invokevirtual 172, 3) := by decide +kernel
theorem dX9_send_122 : decode cX9_send 122 = .ok (.ifCond .eq 62, 3) := by decide +kernel
theorem dX9_send_125 : decode cX9_send 125 = .ok (.iload_n 3, 1) := by decide +kernel
theorem dX9_send_126 : decode cX9_send 126 = .ok (.ifCond .ne 24, 3) := by decide +kernel
theorem dX9_send_129 : decode cX9_send 129 = .ok (.aload_n 0, 1) := by decide +kernel
theorem dX9_send_130 : decode cX9_send 130 = .ok (.getfield 166, 3) := by decide +kernel
theorem dX9_send_133 : decode cX9_send 133 = .ok (.iload_n 2, 1) := by decide +kernel
theorem dX9_send_134 : decode cX9_send 134 = .ok (.aload_n 0, 1) := by decide +kernel
theorem dX9_send_135 : decode cX9_send 135 = .ok (.getfield 169, 3) := by decide +kernel
theorem dX9_send_138 : decode cX9_send 138 = .ok (.imul, 1) := by decide +kernel
theorem dX9_send_139 : decode cX9_send 139 = .ok (.if_icmp .gt 7, 3) := by decide +kernel
theorem dX9_send_142 : decode cX9_send 142 = .ok (.iconst 1, 1) := by decide +kernel
theorem dX9_send_143 : decode cX9_send 143 = .ok (.goto 25, 3) := by decide +kernel
theorem dX9_send_146 : decode cX9_send 146 = .ok (.iconst 0, 1) := by decide +kernel
theorem dX9_send_147 : decode cX9_send 147 = .ok (.goto 21, 3) := by decide +kernel
theorem dX9_send_150 : decode cX9_send 150 = .ok (.aload_n 0, 1) := by decide +kernel
theorem dX9_send_151 : decode cX9_send 151 = .ok (.getfield 166, 3) := by decide +kernel
theorem dX9_send_154 : decode cX9_send 154 = .ok (.iload_n 2, 1) := by decide +kernel
theorem dX9_send_155 : decode cX9_send 155 = .ok (.aload_n 0, 1) := by decide +kernel
theorem dX9_send_156 : decode cX9_send 156 = .ok (.getfield 169, 3) := by decide +kernel
theorem dX9_send_159 : decode cX9_send 159 = .ok (.imul, 1) := by decide +kernel
theorem dX9_send_160 : decode cX9_send 160 = .ok (.if_icmp .lt 7, 3) := by decide +kernel
theorem dX9_send_163 : decode cX9_send 163 = .ok (.iconst 1, 1) := by decide +kernel
theorem dX9_send_164 : decode cX9_send 164 = .ok (.goto 4, 3) := by decide +kernel
theorem dX9_send_167 : decode cX9_send 167 = .ok (.iconst 0, 1) := by decide +kernel
theorem dX9_send_168 : decode cX9_send 168 = .ok (.istore 7, 2) := by decide +kernel
theorem dX9_send_170 : decode cX9_send 170 = .ok (.iload 7, 2) := by decide +kernel
theorem dX9_send_172 : decode cX9_send 172 = .ok (.ifCond .eq 8, 3) := by decide +kernel
theorem dX9_send_175 : decode cX9_send 175 = .ok (.iload 5, 2) := by decide +kernel
theorem dX9_send_177 : decode cX9_send 177 = .ok (.goto 5, 3) := by decide +kernel
theorem dX9_send_180 : decode cX9_send 180 = .ok (.iload 4, 2) := by decide +kernel
theorem dX9_send_182 : decode cX9_send 182 = .ok (.istore 4, 2) := by decide +kernel
theorem dX9_send_184 : decode cX9_send 184 = .ok (.iinc 5 1, 3) := by decide +kernel
theorem dX9_send_187 : decode cX9_send 187 = .ok (.goto (-135), 3) := by decide +kernel
theorem dX9_send_190 : decode cX9_send 190 = .ok (.iload 4, 2) := by decide +kernel
theorem dX9_send_192 : decode cX9_send 192 = .ok (.ireturn, 1) := by decide +kernel
def fX9_send_52 (a1 : Int32) (a2 : Int32) (a3 : Int32) (o_road_f : Nat → Int32)  : Nat → Int32 → Int32 → Int32 → Int32 → Int32 × Int32 × Int32
  | 0, _, _, _, _ => default
  | n + 1, v52_4, v52_5, o_above_52, o_below_52 => if ((1 : Int32) <<< ((o_road_f 2) &&& 31)) ≤ v52_5 then ((v52_4, o_above_52, o_below_52)) else (xlet (if (v52_5 &&& (o_road_f 3)) = 0 then (if v52_4 = (-1) then (1 : Int32) else (if (fX9_bits v52_4) ≤ (fX9_bits v52_5) then 0 else 1)) else 0) (fun y_2 => if y_2 = 0 then (fX9_send_52 a1 a2 a3 o_road_f n v52_4 (v52_5 + 1) o_above_52 o_below_52) else (match fX9_layMean (v52_5 ||| (o_road_f 3)) a1 o_road_f with | (r8, u6, u7) => if r8 = 0 then (fX9_send_52 a1 a2 a3 o_road_f n v52_4 (v52_5 + 1) u6 u7) else (xlet (if a3 = 0 then (if (a2 * u7) < u6 then (0 : Int32) else 1) else (if u6 < (a2 * u7) then 0 else 1)) (fun y_5 => xlet (if y_5 = 0 then v52_4 else v52_5) (fun y_6 => fX9_send_52 a1 a2 a3 o_road_f n y_6 (v52_5 + 1) u6 u7))))))
def fX9_send (a1 : Int32) (a2 : Int32) (a3 : Int32) (o_above : Int32) (o_below : Int32) (o_road_f : Nat → Int32) : Int32 × Int32 × Int32 := if (fX9_in a1.toInt64 1 8) = 0 then (((-3), o_above, o_below)) else (if (fX9_in a2.toInt64 0 ((o_road_f 0).toInt64)) = 0 then (((-3), o_above, o_below)) else (if (fX9_in a3.toInt64 0 1) = 0 then (((-3), o_above, o_below)) else (fX9_send_52 a1 a2 a3 o_road_f 1000 (-1) 0 o_above o_below)))
set_option maxHeartbeats 4000000 in
set_option maxRecDepth 100000 in
theorem c_X9_send (l : Launch) (D : va_G) (cI cZ : ClassId) (sz : Nat) (o : Nat) (a1 : Int32) (a2 : Int32) (a3 : Int32) (o_road : Nat) (o_told : Nat) (o_fresh : Nat) (o_was : Nat) (o_acts : Int32) (o_kept : Nat) (o_isKept : Nat) (o_sights : Nat) (o_many : Int32) (o_text : Nat) (o_letters : Int32) (o_thrown : Int32) (o_cursor : Int32) (o_token : Int32) (o_start : Int32) (o_value : Int64) (o_isFault : Int32) (o_faultAt : Int32) (o_above : Int32) (o_below : Int32) (o_topOf : Nat) (o_partsOf : Nat) (o_sent : Nat) (o_road_f : Nat → Int32) (hn0 : 4 ≤ (o_road_f 0).toInt) (hn1 : (o_road_f 0).toInt ≤ 20) (hv0 : 0 ≤ (o_road_f 2).toInt) (hv6 : (o_road_f 2).toInt ≤ 6) (hhab : ∀ w : Int32, 0 ≤ w.toInt → w.toInt < (o_road_f 2).toInt → ¬ o_road_f (30 + w).toNatClampNeg = 0) : Met l yX9_send wsX9_send ({ frames := 4, cells := 0, slots := 0, locals := 97 } : Room) (va_Pc [.ref o, .int a1, .int a2, .int a3] (xP D cI cZ [(o, .inr (9, [.ref o_road, .ref o_told, .ref o_fresh, .ref o_was, .int o_acts, .ref o_kept, .ref o_isKept, .ref o_sights, .int o_many, .ref o_text, .int o_letters, .int o_thrown, .int o_cursor, .int o_token, .int o_start, .long o_value, .int o_isFault, .int o_faultAt, .int o_above, .int o_below, .ref o_topOf, .ref o_partsOf, .ref o_sent])), (o_road, .inl (cI, 36, .inl o_road_f))] sz)) (va_Qi (fun (r : Int32) (u : Int32 × Int32) => (r, u) = fX9_send a1 a2 a3 o_above o_below o_road_f) (fun (u : Int32 × Int32) t => xB D cI cZ [(o, .inr (9, [.ref o_road, .ref o_told, .ref o_fresh, .ref o_was, .int o_acts, .ref o_kept, .ref o_isKept, .ref o_sights, .int o_many, .ref o_text, .int o_letters, .int 0, .int o_cursor, .int o_token, .int o_start, .long o_value, .int o_isFault, .int o_faultAt, .int u.1, .int u.2, .ref o_topOf, .ref o_partsOf, .ref o_sent])), (o_road, .inl (cI, 36, .inl o_road_f))] (va_A [(o, .inr (9, [.ref o_road, .ref o_told, .ref o_fresh, .ref o_was, .int o_acts, .ref o_kept, .ref o_isKept, .ref o_sights, .int o_many, .ref o_text, .int o_letters, .int o_thrown, .int o_cursor, .int o_token, .int o_start, .long o_value, .int o_isFault, .int o_faultAt, .int o_above, .int o_below, .ref o_topOf, .ref o_partsOf, .ref o_sent])), (o_road, .inl (cI, 36, .inl o_road_f))] sz) t) (va_A [(o, .inr (9, [.ref o_road, .ref o_told, .ref o_fresh, .ref o_was, .int o_acts, .ref o_kept, .ref o_isKept, .ref o_sights, .int o_many, .ref o_text, .int o_letters, .int o_thrown, .int o_cursor, .int o_token, .int o_start, .long o_value, .int o_isFault, .int o_faultAt, .int o_above, .int o_below, .ref o_topOf, .ref o_partsOf, .ref o_sent])), (o_road, .inl (cI, 36, .inl o_road_f))] sz)) 0 0 (va_A [(o, .inr (9, [.ref o_road, .ref o_told, .ref o_fresh, .ref o_was, .int o_acts, .ref o_kept, .ref o_isKept, .ref o_sights, .int o_many, .ref o_text, .int o_letters, .int o_thrown, .int o_cursor, .int o_token, .int o_start, .long o_value, .int o_isFault, .int o_faultAt, .int o_above, .int o_below, .ref o_topOf, .ref o_partsOf, .ref o_sent])), (o_road, .inl (cI, 36, .inl o_road_f))] sz) := by
  refine Met.ofW (cc := cX9_send) (maxL := 8) (ret := (some .int)) (by decide) rfl ?_
  intro p e s m args below meth c s₁ B hml hv
  obtain ⟨hargs, hsz, hP, hK, hD0, hE⟩ := hv
  subst hargs
  have hx := B.exec
  have hb := B.bytes
  have hr := B.returns
  have hts := atoms_spec (ws := wsX9_send) B.pre
  have hown : s.vm.findClass RX9 = some m.cls := findClass_of_methodNamed B.named
  have hlocks := B.notSynchronized
  subst hsz
  have hD := hD0.self (sz := s.heap.size)
  generalize hAe : va_A [(o, .inr (9, [.ref o_road, .ref o_told, .ref o_fresh, .ref o_was, .int o_acts, .ref o_kept, .ref o_isKept, .ref o_sights, .int o_many, .ref o_text, .int o_letters, .int o_thrown, .int o_cursor, .int o_token, .int o_start, .long o_value, .int o_isFault, .int o_faultAt, .int o_above, .int o_below, .ref o_topOf, .ref o_partsOf, .ref o_sent])), (o_road, .inl (cI, 36, .inl o_road_f))] s.heap.size = A at hD ⊢
  have hA : ∀ q : Nat, s.heap.size ≤ q → A q := fun q h => by rw [← hAe]; exact Or.inr h
  have hS : va_S A s.heap s.heap [] := va_S.rf
  have hl := lv_entry ([.ref o, .int a1, .int a2, .int a3]) (n := 8) (Nat.le_of_ble_eq_true rfl)
  rw [lg_entry_eq]
  generalize (lg_sl ([.ref o, .int a1, .int a2, .int a3]) ++ List.replicate (8 - (lg_sl ([.ref o, .int a1, .int a2, .int a3])).length) Slot.unset).toArray = ls at hl ⊢
  have hl : lv_has ls 8 [(0, .ref o), (1, .int a1), (2, .int a2), (3, .int a3)] := hl
  refine wq (X := fun Q => ∀ (pc : Nat) (H : Heap) (locs : List Loc) (ls : Array Slot) (r : Int32) (u : Int32 × Int32) (hd : decode cX9_send pc = .ok (.ireturn, 1)) (hp : (r, u) = fX9_send a1 a2 a3 o_above o_below o_road_f) (hP : va_P D vwCl [(o, .inr (9, [.ref o_road, .ref o_told, .ref o_fresh, .ref o_was, .int o_acts, .ref o_kept, .ref o_isKept, .ref o_sights, .int o_many, .ref o_text, .int o_letters, .int 0, .int o_cursor, .int o_token, .int o_start, .long o_value, .int o_isFault, .int o_faultAt, .int u.1, .int u.2, .ref o_topOf, .ref o_partsOf, .ref o_sent])), (o_road, .inl (cI, 36, .inl o_road_f))] H) (hD : va_D A [(o, .inr (9, [.ref o_road, .ref o_told, .ref o_fresh, .ref o_was, .int o_acts, .ref o_kept, .ref o_isKept, .ref o_sights, .int o_many, .ref o_text, .int o_letters, .int 0, .int o_cursor, .int o_token, .int o_start, .long o_value, .int o_isFault, .int o_faultAt, .int u.1, .int u.2, .ref o_topOf, .ref o_partsOf, .ref o_sent])), (o_road, .inl (cI, 36, .inl o_road_f))]) (hS : va_S A s.heap H locs), W p l e ({ frames := 4, cells := 0, slots := 0, locals := 97 } : Room) s m ([.ref o, .int a1, .int a2, .int a3] : List Value).toArray below meth c H locs 0 0 Q (F0 m pc ls [.int r])) ?_ (fun Q hret => ?_)
  · intro pc H locs ls r u hd hp hP hD hS
    exact W.iret (v := r) hx hb hr (fun t ht hW => ⟨⟨r, u, rfl, hp, by rw [ht]; exact hP, va_K.moved hW.alike hK, hD⟩, hS.F ht⟩) hS.2.2 hd
  have hin_9 : ∀ w ∈ u_ws RX9 TX9 23, w ∈ wsX9_send := by decide +kernel
  have fl_7 := hts (.fieldLink RX9 7 "MileRoadModel" "road" "[I") (by decide +kernel)
  have fl_48 := hts (.fieldLink RX9 48 "MileRoadModel" "thrown" "I") (by decide +kernel)
  have fl_166 := hts (.fieldLink RX9 166 "MileRoadModel" "above" "I") (by decide +kernel)
  have fl_169 := hts (.fieldLink RX9 169 "MileRoadModel" "below" "I") (by decide +kernel)
  have zl_m1 : ((-1) : Int32).toInt = (-1) := by decide
  have zl_0 : (0 : Int32).toInt = 0 := by decide
  have zl_1 : (1 : Int32).toInt = 1 := by decide
  have zl_2 : (2 : Int32).toInt = 2 := by decide
  have zl_3 : (3 : Int32).toInt = 3 := by decide
  have zs := t_shl hv0 hv6
  have hF : fX9_send a1 a2 a3 o_above o_below o_road_f = fX9_send a1 a2 a3 o_above o_below o_road_f := rfl
  have L_52 : ∀  (n_52 : Nat) (v52_4 : Int32) (v52_5 : Int32) (o_above_52 : Int32) (o_below_52 : Int32) (h1_52 : 0 ≤ v52_5.toInt) (h2_52 : v52_5.toInt ≤ 64) (hm : 64 - v52_5.toInt < (n_52 : Int)) (H : Heap) (locs : List Loc) (ls : Array Slot) (hl : lv_has ls 8 [(0, .ref o), (1, .int a1), (2, .int a2), (3, .int a3), (4, .int v52_4), (5, .int v52_5)]) (hP : va_P D vwCl [(o, .inr (9, [.ref o_road, .ref o_told, .ref o_fresh, .ref o_was, .int o_acts, .ref o_kept, .ref o_isKept, .ref o_sights, .int o_many, .ref o_text, .int o_letters, .int 0, .int o_cursor, .int o_token, .int o_start, .long o_value, .int o_isFault, .int o_faultAt, .int o_above_52, .int o_below_52, .ref o_topOf, .ref o_partsOf, .ref o_sent])), (o_road, .inl (cI, 36, .inl o_road_f))] H) (hD : va_D A [(o, .inr (9, [.ref o_road, .ref o_told, .ref o_fresh, .ref o_was, .int o_acts, .ref o_kept, .ref o_isKept, .ref o_sights, .int o_many, .ref o_text, .int o_letters, .int 0, .int o_cursor, .int o_token, .int o_start, .long o_value, .int o_isFault, .int o_faultAt, .int o_above_52, .int o_below_52, .ref o_topOf, .ref o_partsOf, .ref o_sent])), (o_road, .inl (cI, 36, .inl o_road_f))]) (hS : va_S A s.heap H locs) (hF : fX9_send a1 a2 a3 o_above o_below o_road_f = fX9_send_52 a1 a2 a3 o_road_f n_52 v52_4 v52_5 o_above_52 o_below_52), W p l e ({ frames := 4, cells := 0, slots := 0, locals := 97 } : Room) s m ([.ref o, .int a1, .int a2, .int a3] : List Value).toArray below meth c H locs 0 0 Q (F0 m 52 ls []) := by
    intro  n_52
    induction n_52 with
    | zero =>
      intro v52_4 v52_5 o_above_52 o_below_52 h1_52 h2_52 hm H locs ls hl hP hD hS hF
      exact absurd hm (by omega)
    | succ n_52 ih_52 =>
      intro v52_4 v52_5 o_above_52 o_below_52 h1_52 h2_52 hm H locs ls hl hP hD hS hF
      refine lv_iload hx hb dX9_send_52 (lv_at hl 5 rfl) ?_
      refine lv_iconst (v := 1) hx hb dX9_send_54 (by decide) ?_
      refine lv_aload_n hx hb dX9_send_55 rfl (lv_at hl 0 rfl) ?_
      refine xget hx hb hts hown hK 9 (C2 := RX9) (T := TX9) (N := 23) rfl hin_9 hP 0 rfl 0 (by decide) fl_7 rfl rfl rfl dX9_send_56 ?_
      refine lv_iconst (v := 2) hx hb dX9_send_59 (by decide) ?_
      refine xald hx hb hK hP 1 0 (k := 2) rfl rfl (vi (by decide) (by decide)) (by decide) dX9_send_60 ?_
      refine lv_ishl hx hb dX9_send_61 ?_
      refine lv_icmp_ge (tgt := 190) hx hb dX9_send_62 (by decide) (fun c_4 => ?_) (fun c_4 => ?_)
      · have kc_4 := t_le c_4
        refine lv_iload hx hb dX9_send_190 (lv_at hl 4 rfl) ?_
        exact hret _ _ _ _ v52_4 (o_above_52, o_below_52) dX9_send_192 ((hF.trans (by simp only [fX9_send_52, xlet, if_pos c_4])).symm) hP hD hS
      · have kc_4 := t_nle c_4
        refine lv_iload hx hb dX9_send_65 (lv_at hl 5 rfl) ?_
        refine lv_aload_n hx hb dX9_send_67 rfl (lv_at hl 0 rfl) ?_
        refine xget hx hb hts hown hK 9 (C2 := RX9) (T := TX9) (N := 23) rfl hin_9 hP 0 rfl 0 (by decide) fl_7 rfl rfl rfl dX9_send_68 ?_
        refine lv_iconst (v := 3) hx hb dX9_send_71 (by decide) ?_
        refine xald hx hb hK hP 1 0 (k := 3) rfl rfl (vi (by decide) (by decide)) (by decide) dX9_send_72 ?_
        refine lv_iand hx hb dX9_send_73 ?_
        have K_y_2 : ∀ (y_2 : Int32) (hy_y_2 : (if (v52_5 &&& (o_road_f 3)) = 0 then (if v52_4 = (-1) then (1 : Int32) else (if (fX9_bits v52_4) ≤ (fX9_bits v52_5) then 0 else 1)) else 0) = y_2) (H : Heap) (locs : List Loc) (hP : va_P D vwCl [(o, .inr (9, [.ref o_road, .ref o_told, .ref o_fresh, .ref o_was, .int o_acts, .ref o_kept, .ref o_isKept, .ref o_sights, .int o_many, .ref o_text, .int o_letters, .int 0, .int o_cursor, .int o_token, .int o_start, .long o_value, .int o_isFault, .int o_faultAt, .int o_above_52, .int o_below_52, .ref o_topOf, .ref o_partsOf, .ref o_sent])), (o_road, .inl (cI, 36, .inl o_road_f))] H) (hD : va_D A [(o, .inr (9, [.ref o_road, .ref o_told, .ref o_fresh, .ref o_was, .int o_acts, .ref o_kept, .ref o_isKept, .ref o_sights, .int o_many, .ref o_text, .int o_letters, .int 0, .int o_cursor, .int o_token, .int o_start, .long o_value, .int o_isFault, .int o_faultAt, .int o_above_52, .int o_below_52, .ref o_topOf, .ref o_partsOf, .ref o_sent])), (o_road, .inl (cI, 36, .inl o_road_f))]) (hS : va_S A s.heap H locs), W p l e ({ frames := 4, cells := 0, slots := 0, locals := 97 } : Room) s m ([.ref o, .int a1, .int a2, .int a3] : List Value).toArray below meth c H locs 0 0 Q (F0 m 101 ls [.int y_2]) := by
          intro y_2 hy_y_2 H locs hP hD hS
          have ky_y_2 : y_2 = 0 ∨ y_2 = 1 := by rw [← hy_y_2]; (repeat' split) <;> simp
          refine lv_istore (lv' := [(6, .int y_2), (0, .ref o), (1, .int a1), (2, .int a2), (3, .int a3), (4, .int v52_4), (5, .int v52_5)]) hx hb dX9_send_101 hl (by decide) rfl (fun ls hl => ?_)
          refine lv_iload hx hb dX9_send_103 (lv_at hl 0 rfl) ?_
          refine lv_if_eq (tgt := 184) hx hb dX9_send_105 (by decide) (fun c_8 => ?_) (fun c_8 => ?_)
          · have kc_8 := t_eq c_8
            refine lv_iinc (v := (v52_5 + 1)) (lv' := [(5, .int (v52_5 + 1)), (6, .int y_2), (0, .ref o), (1, .int a1), (2, .int a2), (3, .int a3), (4, .int v52_4)]) hx hb dX9_send_184 hl (k := 6) rfl (by rfl) (by decide) rfl (fun ls hl => ?_)
            refine lv_goto (tgt := 52) hx hb dX9_send_187 (by decide) ?_
            have z_1 : (v52_5 + 1).toInt = v52_5.toInt + (1 : Int32).toInt := z_add (by omega) (by omega)
            exact ih_52 v52_4 (v52_5 + 1) o_above_52 o_below_52 (by first | assumption | omega | decide | (split <;> rename_i hh <;> first | (have h9 := t_nlt hh; omega) | (have h9 := t_lt hh; omega) | (have h9 := t_nle hh; omega) | (have h9 := t_le hh; omega))) (by first | assumption | omega | decide | (split <;> rename_i hh <;> first | (have h9 := t_nlt hh; omega) | (have h9 := t_lt hh; omega) | (have h9 := t_nle hh; omega) | (have h9 := t_le hh; omega))) (by first | assumption | omega | decide | (split <;> rename_i hh <;> first | (have h9 := t_nlt hh; omega) | (have h9 := t_lt hh; omega) | (have h9 := t_nle hh; omega) | (have h9 := t_le hh; omega))) _ _ _ (lv_sub hl [2, 3, 4, 5, 6, 0] rfl) hP hD hS (hF.trans (by simp only [fX9_send_52, xlet, if_neg c_4, ↓hy_y_2, if_pos c_8]))
          · have kc_8 := t_neq c_8
            refine lv_aload_n hx hb dX9_send_108 rfl (lv_at hl 1 rfl) ?_
            refine lv_iload hx hb dX9_send_109 (lv_at hl 6 rfl) ?_
            refine lv_aload_n hx hb dX9_send_111 rfl (lv_at hl 1 rfl) ?_
            refine xget hx hb hts hown hK 9 (C2 := RX9) (T := TX9) (N := 23) rfl hin_9 hP 0 rfl 0 (by decide) fl_7 rfl rfl rfl dX9_send_112 ?_
            refine lv_iconst (v := 3) hx hb dX9_send_115 (by decide) ?_
            refine xald hx hb hK hP 1 0 (k := 3) rfl rfl (vi (by decide) (by decide)) (by decide) dX9_send_116 ?_
            refine lv_ior hx hb dX9_send_117 ?_
            refine lv_iload_n hx hb dX9_send_118 rfl (lv_at hl 2 rfl) ?_
            refine xcalli (S := Int32 × Int32) (Wc := [(o, .inr (9, [.ref o_road, .ref o_told, .ref o_fresh, .ref o_was, .int o_acts, .ref o_kept, .ref o_isKept, .ref o_sights, .int o_many, .ref o_text, .int o_letters, .int 0, .int o_cursor, .int o_token, .int o_start, .long o_value, .int o_isFault, .int o_faultAt, .int o_above_52, .int o_below_52, .ref o_topOf, .ref o_partsOf, .ref o_sent])), (o_road, .inl (cI, 36, .inl o_road_f))]) (wr := []) (W1 := (fun (u : Int32 × Int32) => [(o, .inr (9, [.ref o_road, .ref o_told, .ref o_fresh, .ref o_was, .int o_acts, .ref o_kept, .ref o_isKept, .ref o_sights, .int o_many, .ref o_text, .int o_letters, .int 0, .int o_cursor, .int o_token, .int o_start, .long o_value, .int o_isFault, .int o_faultAt, .int u.1, .int u.2, .ref o_topOf, .ref o_partsOf, .ref o_sent])), (o_road, .inl (cI, 36, .inl o_road_f))])) (Wn := (fun (u : Int32 × Int32) => [(o, .inr (9, [.ref o_road, .ref o_told, .ref o_fresh, .ref o_was, .int o_acts, .ref o_kept, .ref o_isKept, .ref o_sights, .int o_many, .ref o_text, .int o_letters, .int 0, .int o_cursor, .int o_token, .int o_start, .long o_value, .int o_isFault, .int o_faultAt, .int u.1, .int u.2, .ref o_topOf, .ref o_partsOf, .ref o_sent])), (o_road, .inl (cI, 36, .inl o_road_f))])) (xrunV hx hb hml hown hts (c_X9_layMean l D cI cZ _ o (v52_5 ||| (o_road_f 3)) a1 o_road o_told o_fresh o_was o_acts o_kept o_isKept o_sights o_many o_text o_letters 0 o_cursor o_token o_start o_value o_isFault o_faultAt o_above_52 o_below_52 o_topOf o_partsOf o_sent o_road_f hn0 hn1 hv0 hv6 hhab) (cwV 2 hts gX9_send_X9_layMean rfl rfl rfl (by decide +kernel) ⟨Nat.le_of_ble_eq_true rfl, Nat.le_of_ble_eq_true rfl⟩) hE hK hP hD [0, 1] rfl rfl 0 9 (T := TX9) (N := 23) rfl rfl rfl hl.1 rfl (Nat.le_of_ble_eq_true rfl) dX9_send_119 ⟨Nat.le_of_ble_eq_true rfl, Nat.le_of_ble_eq_true rfl⟩) hP hD hS hA [0, 1] [] [0, 1] rfl rfl rfl (by decide) (fun _ => rfl) rfl (fun r8 u H locs hw hz hP hD hS => ?_)
            obtain ⟨u6, u7⟩ := u
            have hw_10 := hw.symm
            have hP : va_P D vwCl [(o, .inr (9, [.ref o_road, .ref o_told, .ref o_fresh, .ref o_was, .int o_acts, .ref o_kept, .ref o_isKept, .ref o_sights, .int o_many, .ref o_text, .int o_letters, .int 0, .int o_cursor, .int o_token, .int o_start, .long o_value, .int o_isFault, .int o_faultAt, .int u6, .int u7, .ref o_topOf, .ref o_partsOf, .ref o_sent])), (o_road, .inl (cI, 36, .inl o_road_f))] H := hP
            have hD : va_D A [(o, .inr (9, [.ref o_road, .ref o_told, .ref o_fresh, .ref o_was, .int o_acts, .ref o_kept, .ref o_isKept, .ref o_sights, .int o_many, .ref o_text, .int o_letters, .int 0, .int o_cursor, .int o_token, .int o_start, .long o_value, .int o_isFault, .int o_faultAt, .int u6, .int u7, .ref o_topOf, .ref o_partsOf, .ref o_sent])), (o_road, .inl (cI, 36, .inl o_road_f))] := hD
            refine lv_if_eq (tgt := 184) hx hb dX9_send_122 (by decide) (fun c_9 => ?_) (fun c_9 => ?_)
            · have kc_9 := t_eq c_9
              refine lv_iinc (v := (v52_5 + 1)) (lv' := [(5, .int (v52_5 + 1)), (6, .int y_2), (0, .ref o), (1, .int a1), (2, .int a2), (3, .int a3), (4, .int v52_4)]) hx hb dX9_send_184 hl (k := 6) rfl (by rfl) (by decide) rfl (fun ls hl => ?_)
              refine lv_goto (tgt := 52) hx hb dX9_send_187 (by decide) ?_
              have z_2 : (v52_5 + 1).toInt = v52_5.toInt + (1 : Int32).toInt := z_add (by omega) (by omega)
              exact ih_52 v52_4 (v52_5 + 1) u6 u7 (by first | assumption | omega | decide | (split <;> rename_i hh <;> first | (have h9 := t_nlt hh; omega) | (have h9 := t_lt hh; omega) | (have h9 := t_nle hh; omega) | (have h9 := t_le hh; omega))) (by first | assumption | omega | decide | (split <;> rename_i hh <;> first | (have h9 := t_nlt hh; omega) | (have h9 := t_lt hh; omega) | (have h9 := t_nle hh; omega) | (have h9 := t_le hh; omega))) (by first | assumption | omega | decide | (split <;> rename_i hh <;> first | (have h9 := t_nlt hh; omega) | (have h9 := t_lt hh; omega) | (have h9 := t_nle hh; omega) | (have h9 := t_le hh; omega))) _ _ _ (lv_sub hl [2, 3, 4, 5, 6, 0] rfl) hP hD hS (hF.trans (by simp only [fX9_send_52, xlet, if_neg c_4, ↓hy_y_2, if_neg c_8, ↓hw_10, if_pos c_9]))
            · have kc_9 := t_neq c_9
              refine lv_iload_n hx hb dX9_send_125 rfl (lv_at hl 4 rfl) ?_
              have K_y_5 : ∀ (y_5 : Int32) (hy_y_5 : (if a3 = 0 then (if (a2 * u7) < u6 then (0 : Int32) else 1) else (if u6 < (a2 * u7) then 0 else 1)) = y_5) (H : Heap) (locs : List Loc) (hP : va_P D vwCl [(o, .inr (9, [.ref o_road, .ref o_told, .ref o_fresh, .ref o_was, .int o_acts, .ref o_kept, .ref o_isKept, .ref o_sights, .int o_many, .ref o_text, .int o_letters, .int 0, .int o_cursor, .int o_token, .int o_start, .long o_value, .int o_isFault, .int o_faultAt, .int u6, .int u7, .ref o_topOf, .ref o_partsOf, .ref o_sent])), (o_road, .inl (cI, 36, .inl o_road_f))] H) (hD : va_D A [(o, .inr (9, [.ref o_road, .ref o_told, .ref o_fresh, .ref o_was, .int o_acts, .ref o_kept, .ref o_isKept, .ref o_sights, .int o_many, .ref o_text, .int o_letters, .int 0, .int o_cursor, .int o_token, .int o_start, .long o_value, .int o_isFault, .int o_faultAt, .int u6, .int u7, .ref o_topOf, .ref o_partsOf, .ref o_sent])), (o_road, .inl (cI, 36, .inl o_road_f))]) (hS : va_S A s.heap H locs), W p l e ({ frames := 4, cells := 0, slots := 0, locals := 97 } : Room) s m ([.ref o, .int a1, .int a2, .int a3] : List Value).toArray below meth c H locs 0 0 Q (F0 m 168 ls [.int y_5]) := by
                intro y_5 hy_y_5 H locs hP hD hS
                have ky_y_5 : y_5 = 0 ∨ y_5 = 1 := by rw [← hy_y_5]; (repeat' split) <;> simp
                refine lv_istore (lv' := [(7, .int y_5), (6, .int y_2), (0, .ref o), (1, .int a1), (2, .int a2), (3, .int a3), (4, .int v52_4), (5, .int v52_5)]) hx hb dX9_send_168 hl (by decide) rfl (fun ls hl => ?_)
                refine lv_iload hx hb dX9_send_170 (lv_at hl 0 rfl) ?_
                have K_y_6 : ∀ (y_6 : Int32) (hy_y_6 : (if y_5 = 0 then v52_4 else v52_5) = y_6) (H : Heap) (locs : List Loc) (hP : va_P D vwCl [(o, .inr (9, [.ref o_road, .ref o_told, .ref o_fresh, .ref o_was, .int o_acts, .ref o_kept, .ref o_isKept, .ref o_sights, .int o_many, .ref o_text, .int o_letters, .int 0, .int o_cursor, .int o_token, .int o_start, .long o_value, .int o_isFault, .int o_faultAt, .int u6, .int u7, .ref o_topOf, .ref o_partsOf, .ref o_sent])), (o_road, .inl (cI, 36, .inl o_road_f))] H) (hD : va_D A [(o, .inr (9, [.ref o_road, .ref o_told, .ref o_fresh, .ref o_was, .int o_acts, .ref o_kept, .ref o_isKept, .ref o_sights, .int o_many, .ref o_text, .int o_letters, .int 0, .int o_cursor, .int o_token, .int o_start, .long o_value, .int o_isFault, .int o_faultAt, .int u6, .int u7, .ref o_topOf, .ref o_partsOf, .ref o_sent])), (o_road, .inl (cI, 36, .inl o_road_f))]) (hS : va_S A s.heap H locs), W p l e ({ frames := 4, cells := 0, slots := 0, locals := 97 } : Room) s m ([.ref o, .int a1, .int a2, .int a3] : List Value).toArray below meth c H locs 0 0 Q (F0 m 182 ls [.int y_6]) := by
                  intro y_6 hy_y_6 H locs hP hD hS
                  have ky_y_6 : y_6 = v52_4 ∨ y_6 = v52_5 := by rw [← hy_y_6]; (repeat' split) <;> simp
                  refine lv_istore (lv' := [(4, .int y_6), (7, .int y_5), (6, .int y_2), (0, .ref o), (1, .int a1), (2, .int a2), (3, .int a3), (5, .int v52_5)]) hx hb dX9_send_182 hl (by decide) rfl (fun ls hl => ?_)
                  refine lv_iinc (v := (v52_5 + 1)) (lv' := [(5, .int (v52_5 + 1)), (4, .int y_6), (7, .int y_5), (6, .int y_2), (0, .ref o), (1, .int a1), (2, .int a2), (3, .int a3)]) hx hb dX9_send_184 hl (k := 7) rfl (by rfl) (by decide) rfl (fun ls hl => ?_)
                  refine lv_goto (tgt := 52) hx hb dX9_send_187 (by decide) ?_
                  have z_3 : (v52_5 + 1).toInt = v52_5.toInt + (1 : Int32).toInt := z_add (by omega) (by omega)
                  exact ih_52 y_6 (v52_5 + 1) u6 u7 (by first | assumption | omega | decide | (split <;> rename_i hh <;> first | (have h9 := t_nlt hh; omega) | (have h9 := t_lt hh; omega) | (have h9 := t_nle hh; omega) | (have h9 := t_le hh; omega))) (by first | assumption | omega | decide | (split <;> rename_i hh <;> first | (have h9 := t_nlt hh; omega) | (have h9 := t_lt hh; omega) | (have h9 := t_nle hh; omega) | (have h9 := t_le hh; omega))) (by first | assumption | omega | decide | (split <;> rename_i hh <;> first | (have h9 := t_nlt hh; omega) | (have h9 := t_lt hh; omega) | (have h9 := t_nle hh; omega) | (have h9 := t_le hh; omega))) _ _ _ (lv_sub hl [4, 5, 6, 7, 1, 0] rfl) hP hD hS (hF.trans (by simp only [fX9_send_52, xlet, if_neg c_4, ↓hy_y_2, if_neg c_8, ↓hw_10, if_neg c_9, ↓hy_y_5, ↓hy_y_6]))
                refine lv_if_eq (tgt := 180) hx hb dX9_send_172 (by decide) (fun c_13 => ?_) (fun c_13 => ?_)
                · have kc_13 := t_eq c_13
                  refine lv_iload hx hb dX9_send_180 (lv_at hl 6 rfl) ?_
                  exact K_y_6 _ (by simp only [xlet, if_pos c_13]) _ _ hP hD hS
                · have kc_13 := t_neq c_13
                  refine lv_iload hx hb dX9_send_175 (lv_at hl 7 rfl) ?_
                  refine lv_goto (tgt := 182) hx hb dX9_send_177 (by decide) ?_
                  exact K_y_6 _ (by simp only [xlet, if_neg c_13]) _ _ hP hD hS
              refine lv_if_ne (tgt := 150) hx hb dX9_send_126 (by decide) (fun c_10 => ?_) (fun c_10 => ?_)
              · have kc_10 := t_neq c_10
                refine lv_aload_n hx hb dX9_send_150 rfl (lv_at hl 1 rfl) ?_
                refine xget hx hb hts hown hK 9 (C2 := RX9) (T := TX9) (N := 23) rfl hin_9 hP 0 rfl 18 (by decide) fl_166 rfl rfl rfl dX9_send_151 ?_
                refine lv_iload_n hx hb dX9_send_154 rfl (lv_at hl 3 rfl) ?_
                refine lv_aload_n hx hb dX9_send_155 rfl (lv_at hl 1 rfl) ?_
                refine xget hx hb hts hown hK 9 (C2 := RX9) (T := TX9) (N := 23) rfl hin_9 hP 0 rfl 19 (by decide) fl_169 rfl rfl rfl dX9_send_156 ?_
                refine lv_imul hx hb dX9_send_159 ?_
                refine lv_icmp_lt (tgt := 167) hx hb dX9_send_160 (by decide) (fun c_11 => ?_) (fun c_11 => ?_)
                · have kc_11 := t_lt c_11
                  refine lv_iconst (v := 0) hx hb dX9_send_167 (by decide) ?_
                  exact K_y_5 _ (by simp only [xlet, if_neg c_10, if_pos c_11]) _ _ hP hD hS
                · have kc_11 := t_nlt c_11
                  refine lv_iconst (v := 1) hx hb dX9_send_163 (by decide) ?_
                  refine lv_goto (tgt := 168) hx hb dX9_send_164 (by decide) ?_
                  exact K_y_5 _ (by simp only [xlet, if_neg c_10, if_neg c_11]) _ _ hP hD hS
              · have kc_10 := t_eq c_10
                refine lv_aload_n hx hb dX9_send_129 rfl (lv_at hl 1 rfl) ?_
                refine xget hx hb hts hown hK 9 (C2 := RX9) (T := TX9) (N := 23) rfl hin_9 hP 0 rfl 18 (by decide) fl_166 rfl rfl rfl dX9_send_130 ?_
                refine lv_iload_n hx hb dX9_send_133 rfl (lv_at hl 3 rfl) ?_
                refine lv_aload_n hx hb dX9_send_134 rfl (lv_at hl 1 rfl) ?_
                refine xget hx hb hts hown hK 9 (C2 := RX9) (T := TX9) (N := 23) rfl hin_9 hP 0 rfl 19 (by decide) fl_169 rfl rfl rfl dX9_send_135 ?_
                refine lv_imul hx hb dX9_send_138 ?_
                refine lv_icmp_gt (tgt := 146) hx hb dX9_send_139 (by decide) (fun c_12 => ?_) (fun c_12 => ?_)
                · have kc_12 := t_lt c_12
                  refine lv_iconst (v := 0) hx hb dX9_send_146 (by decide) ?_
                  refine lv_goto (tgt := 168) hx hb dX9_send_147 (by decide) ?_
                  exact K_y_5 _ (by simp only [xlet, if_pos c_10, if_pos c_12]) _ _ hP hD hS
                · have kc_12 := t_nlt c_12
                  refine lv_iconst (v := 1) hx hb dX9_send_142 (by decide) ?_
                  refine lv_goto (tgt := 168) hx hb dX9_send_143 (by decide) ?_
                  exact K_y_5 _ (by simp only [xlet, if_pos c_10, if_neg c_12]) _ _ hP hD hS
        refine lv_if_ne (tgt := 100) hx hb dX9_send_74 (by decide) (fun c_5 => ?_) (fun c_5 => ?_)
        · refine lv_iconst (v := 0) hx hb dX9_send_100 (by decide) ?_
          exact K_y_2 _ (by simp only [xlet, if_neg c_5]) _ _ hP hD hS
        · refine lv_iload hx hb dX9_send_77 (lv_at hl 4 rfl) ?_
          refine lv_iconst (v := (-1)) hx hb dX9_send_79 (by decide) ?_
          refine lv_icmp_eq (tgt := 96) hx hb dX9_send_80 (by decide) (fun c_6 => ?_) (fun c_6 => ?_)
          · have kc_6 := t_eq c_6
            refine lv_iconst (v := 1) hx hb dX9_send_96 (by decide) ?_
            refine lv_goto (tgt := 101) hx hb dX9_send_97 (by decide) ?_
            exact K_y_2 _ (by simp only [xlet, if_pos c_5, if_pos c_6]) _ _ hP hD hS
          · have kc_6 := t_neq c_6
            refine lv_iload hx hb dX9_send_83 (lv_at hl 5 rfl) ?_
            refine xcalli (S := Unit) (Wc := []) (wr := [(o, .inr (9, [.ref o_road, .ref o_told, .ref o_fresh, .ref o_was, .int o_acts, .ref o_kept, .ref o_isKept, .ref o_sights, .int o_many, .ref o_text, .int o_letters, .int 0, .int o_cursor, .int o_token, .int o_start, .long o_value, .int o_isFault, .int o_faultAt, .int o_above_52, .int o_below_52, .ref o_topOf, .ref o_partsOf, .ref o_sent])), (o_road, .inl (cI, 36, .inl o_road_f))]) (W1 := (fun (u : Unit) => [])) (Wn := (fun (u : Unit) => [(o, .inr (9, [.ref o_road, .ref o_told, .ref o_fresh, .ref o_was, .int o_acts, .ref o_kept, .ref o_isKept, .ref o_sights, .int o_many, .ref o_text, .int o_letters, .int 0, .int o_cursor, .int o_token, .int o_start, .long o_value, .int o_isFault, .int o_faultAt, .int o_above_52, .int o_below_52, .ref o_topOf, .ref o_partsOf, .ref o_sent])), (o_road, .inl (cI, 36, .inl o_road_f))])) (xrunS hx hb hml hown hts (c_X9_bits l D cI cZ _ v52_5 ) (va_cwS 1 hts gX9_send_X9_bits rfl rfl rfl (by decide +kernel) ⟨Nat.le_of_ble_eq_true rfl, Nat.le_of_ble_eq_true rfl⟩) hE hK hP hD [] rfl rfl rfl hl.1 rfl (Nat.le_of_ble_eq_true rfl) dX9_send_85 ⟨Nat.le_of_ble_eq_true rfl, Nat.le_of_ble_eq_true rfl⟩) hP hD hS hA [] [0, 1] [0, 1] rfl rfl rfl (by decide) (fun _ => rfl) rfl (fun r4 u H locs hw hz hP hD hS => ?_)
            subst hw
            refine lv_iload hx hb dX9_send_88 (lv_at hl 4 rfl) ?_
            refine xcalli (S := Unit) (Wc := []) (wr := [(o, .inr (9, [.ref o_road, .ref o_told, .ref o_fresh, .ref o_was, .int o_acts, .ref o_kept, .ref o_isKept, .ref o_sights, .int o_many, .ref o_text, .int o_letters, .int 0, .int o_cursor, .int o_token, .int o_start, .long o_value, .int o_isFault, .int o_faultAt, .int o_above_52, .int o_below_52, .ref o_topOf, .ref o_partsOf, .ref o_sent])), (o_road, .inl (cI, 36, .inl o_road_f))]) (W1 := (fun (u : Unit) => [])) (Wn := (fun (u : Unit) => [(o, .inr (9, [.ref o_road, .ref o_told, .ref o_fresh, .ref o_was, .int o_acts, .ref o_kept, .ref o_isKept, .ref o_sights, .int o_many, .ref o_text, .int o_letters, .int 0, .int o_cursor, .int o_token, .int o_start, .long o_value, .int o_isFault, .int o_faultAt, .int o_above_52, .int o_below_52, .ref o_topOf, .ref o_partsOf, .ref o_sent])), (o_road, .inl (cI, 36, .inl o_road_f))])) (xrunS hx hb hml hown hts (c_X9_bits l D cI cZ _ v52_4 ) (va_cwS 1 hts gX9_send_X9_bits rfl rfl rfl (by decide +kernel) ⟨Nat.le_of_ble_eq_true rfl, Nat.le_of_ble_eq_true rfl⟩) hE hK hP hD [] rfl rfl rfl hl.1 rfl (Nat.le_of_ble_eq_true rfl) dX9_send_90 ⟨Nat.le_of_ble_eq_true rfl, Nat.le_of_ble_eq_true rfl⟩) hP hD hS hA [] [0, 1] [0, 1] rfl rfl rfl (by decide) (fun _ => rfl) rfl (fun r5 u H locs hw hz hP hD hS => ?_)
            subst hw
            refine lv_icmp_ge (tgt := 100) hx hb dX9_send_93 (by decide) (fun c_7 => ?_) (fun c_7 => ?_)
            · refine lv_iconst (v := 0) hx hb dX9_send_100 (by decide) ?_
              exact K_y_2 _ (by simp only [xlet, if_pos c_5, if_neg c_6, if_pos c_7]) _ _ hP hD hS
            · refine lv_iconst (v := 1) hx hb dX9_send_96 (by decide) ?_
              refine lv_goto (tgt := 101) hx hb dX9_send_97 (by decide) ?_
              exact K_y_2 _ (by simp only [xlet, if_pos c_5, if_neg c_6, if_neg c_7]) _ _ hP hD hS
  refine lv_aload_n hx hb dX9_send_0 rfl (lv_at hl 0 rfl) ?_
  refine lv_iconst (v := 0) hx hb dX9_send_1 (by decide) ?_
  refine xput hx hb hts hown hK 9 (C2 := RX9) (T := TX9) (N := 23) tyX9 rfl tyX9_ok nmX9 hin_9 hP hD hS 0 rfl 11 (by decide) fl_48 rfl rfl rfl rfl rfl (Nat.le_of_ble_eq_true rfl) dX9_send_2 [(o, .inr (9, [.ref o_road, .ref o_told, .ref o_fresh, .ref o_was, .int o_acts, .ref o_kept, .ref o_isKept, .ref o_sights, .int o_many, .ref o_text, .int o_letters, .int 0, .int o_cursor, .int o_token, .int o_start, .long o_value, .int o_isFault, .int o_faultAt, .int o_above, .int o_below, .ref o_topOf, .ref o_partsOf, .ref o_sent])), (o_road, .inl (cI, 36, .inl o_road_f))] rfl (fun H locs hP hD hS => ?_)
  refine lv_iload_n hx hb dX9_send_5 rfl (lv_at hl 1 rfl) ?_
  refine lv_i2l (v := a1.toInt64) hx hb dX9_send_6 rfl ?_
  refine lv_lconst (v := 1) hx hb dX9_send_7 (by decide) ?_
  refine lv_ldc2 (v := 8) hx hb hown (hts (.constantLong RX9 164 8) (by decide +kernel)) dX9_send_8 ?_
  refine xcalli (S := Unit) (Wc := []) (wr := [(o, .inr (9, [.ref o_road, .ref o_told, .ref o_fresh, .ref o_was, .int o_acts, .ref o_kept, .ref o_isKept, .ref o_sights, .int o_many, .ref o_text, .int o_letters, .int 0, .int o_cursor, .int o_token, .int o_start, .long o_value, .int o_isFault, .int o_faultAt, .int o_above, .int o_below, .ref o_topOf, .ref o_partsOf, .ref o_sent])), (o_road, .inl (cI, 36, .inl o_road_f))]) (W1 := (fun (u : Unit) => [])) (Wn := (fun (u : Unit) => [(o, .inr (9, [.ref o_road, .ref o_told, .ref o_fresh, .ref o_was, .int o_acts, .ref o_kept, .ref o_isKept, .ref o_sights, .int o_many, .ref o_text, .int o_letters, .int 0, .int o_cursor, .int o_token, .int o_start, .long o_value, .int o_isFault, .int o_faultAt, .int o_above, .int o_below, .ref o_topOf, .ref o_partsOf, .ref o_sent])), (o_road, .inl (cI, 36, .inl o_road_f))])) (xrunS hx hb hml hown hts (c_X9_in l D cI cZ _ a1.toInt64 1 8 ) (va_cwS 3 hts gX9_send_X9_in rfl rfl rfl (by decide +kernel) ⟨Nat.le_of_ble_eq_true rfl, Nat.le_of_ble_eq_true rfl⟩) hE hK hP hD [] rfl rfl rfl hl.1 rfl (Nat.le_of_ble_eq_true rfl) dX9_send_11 ⟨Nat.le_of_ble_eq_true rfl, Nat.le_of_ble_eq_true rfl⟩) hP hD hS hA [] [0, 1] [0, 1] rfl rfl rfl (by decide) (fun _ => rfl) rfl (fun r1 u H locs hw hz hP hD hS => ?_)
  subst hw
  refine lv_if_eq (tgt := 43) hx hb dX9_send_14 (by decide) (fun c_1 => ?_) (fun c_1 => ?_)
  · refine lv_bipush (v := (-3)) hx hb dX9_send_43 (by decide) ?_
    exact hret _ _ _ _ (-3) (o_above, o_below) dX9_send_45 ((hF.trans (by simp only [fX9_send, xlet, if_pos c_1])).symm) hP hD hS
  · have kb_c_1 : 1 ≤ a1.toInt ∧ a1.toInt ≤ 8 := in_b c_1 (by decide) (by decide)
    refine lv_iload_n hx hb dX9_send_17 rfl (lv_at hl 2 rfl) ?_
    refine lv_i2l (v := a2.toInt64) hx hb dX9_send_18 rfl ?_
    refine lv_lconst (v := 0) hx hb dX9_send_19 (by decide) ?_
    refine lv_aload_n hx hb dX9_send_20 rfl (lv_at hl 0 rfl) ?_
    refine xget hx hb hts hown hK 9 (C2 := RX9) (T := TX9) (N := 23) rfl hin_9 hP 0 rfl 0 (by decide) fl_7 rfl rfl rfl dX9_send_21 ?_
    refine lv_iconst (v := 0) hx hb dX9_send_24 (by decide) ?_
    refine xald hx hb hK hP 1 0 (k := 0) rfl rfl (vi (by decide) (by decide)) (by decide) dX9_send_25 ?_
    refine lv_i2l (v := (o_road_f 0).toInt64) hx hb dX9_send_26 rfl ?_
    refine xcalli (S := Unit) (Wc := []) (wr := [(o, .inr (9, [.ref o_road, .ref o_told, .ref o_fresh, .ref o_was, .int o_acts, .ref o_kept, .ref o_isKept, .ref o_sights, .int o_many, .ref o_text, .int o_letters, .int 0, .int o_cursor, .int o_token, .int o_start, .long o_value, .int o_isFault, .int o_faultAt, .int o_above, .int o_below, .ref o_topOf, .ref o_partsOf, .ref o_sent])), (o_road, .inl (cI, 36, .inl o_road_f))]) (W1 := (fun (u : Unit) => [])) (Wn := (fun (u : Unit) => [(o, .inr (9, [.ref o_road, .ref o_told, .ref o_fresh, .ref o_was, .int o_acts, .ref o_kept, .ref o_isKept, .ref o_sights, .int o_many, .ref o_text, .int o_letters, .int 0, .int o_cursor, .int o_token, .int o_start, .long o_value, .int o_isFault, .int o_faultAt, .int o_above, .int o_below, .ref o_topOf, .ref o_partsOf, .ref o_sent])), (o_road, .inl (cI, 36, .inl o_road_f))])) (xrunS hx hb hml hown hts (c_X9_in l D cI cZ _ a2.toInt64 0 ((o_road_f 0).toInt64) ) (va_cwS 3 hts gX9_send_X9_in rfl rfl rfl (by decide +kernel) ⟨Nat.le_of_ble_eq_true rfl, Nat.le_of_ble_eq_true rfl⟩) hE hK hP hD [] rfl rfl rfl hl.1 rfl (Nat.le_of_ble_eq_true rfl) dX9_send_27 ⟨Nat.le_of_ble_eq_true rfl, Nat.le_of_ble_eq_true rfl⟩) hP hD hS hA [] [0, 1] [0, 1] rfl rfl rfl (by decide) (fun _ => rfl) rfl (fun r2 u H locs hw hz hP hD hS => ?_)
    subst hw
    refine lv_if_eq (tgt := 43) hx hb dX9_send_30 (by decide) (fun c_2 => ?_) (fun c_2 => ?_)
    · refine lv_bipush (v := (-3)) hx hb dX9_send_43 (by decide) ?_
      exact hret _ _ _ _ (-3) (o_above, o_below) dX9_send_45 ((hF.trans (by simp only [fX9_send, xlet, if_neg c_1, if_pos c_2])).symm) hP hD hS
    · have kb_c_2 : 0 ≤ a2.toInt ∧ a2.toInt ≤ (o_road_f 0).toInt := in_b c_2 (by decide) (Int32.toInt_toInt64 _)
      refine lv_iload_n hx hb dX9_send_33 rfl (lv_at hl 3 rfl) ?_
      refine lv_i2l (v := a3.toInt64) hx hb dX9_send_34 rfl ?_
      refine lv_lconst (v := 0) hx hb dX9_send_35 (by decide) ?_
      refine lv_lconst (v := 1) hx hb dX9_send_36 (by decide) ?_
      refine xcalli (S := Unit) (Wc := []) (wr := [(o, .inr (9, [.ref o_road, .ref o_told, .ref o_fresh, .ref o_was, .int o_acts, .ref o_kept, .ref o_isKept, .ref o_sights, .int o_many, .ref o_text, .int o_letters, .int 0, .int o_cursor, .int o_token, .int o_start, .long o_value, .int o_isFault, .int o_faultAt, .int o_above, .int o_below, .ref o_topOf, .ref o_partsOf, .ref o_sent])), (o_road, .inl (cI, 36, .inl o_road_f))]) (W1 := (fun (u : Unit) => [])) (Wn := (fun (u : Unit) => [(o, .inr (9, [.ref o_road, .ref o_told, .ref o_fresh, .ref o_was, .int o_acts, .ref o_kept, .ref o_isKept, .ref o_sights, .int o_many, .ref o_text, .int o_letters, .int 0, .int o_cursor, .int o_token, .int o_start, .long o_value, .int o_isFault, .int o_faultAt, .int o_above, .int o_below, .ref o_topOf, .ref o_partsOf, .ref o_sent])), (o_road, .inl (cI, 36, .inl o_road_f))])) (xrunS hx hb hml hown hts (c_X9_in l D cI cZ _ a3.toInt64 0 1 ) (va_cwS 3 hts gX9_send_X9_in rfl rfl rfl (by decide +kernel) ⟨Nat.le_of_ble_eq_true rfl, Nat.le_of_ble_eq_true rfl⟩) hE hK hP hD [] rfl rfl rfl hl.1 rfl (Nat.le_of_ble_eq_true rfl) dX9_send_37 ⟨Nat.le_of_ble_eq_true rfl, Nat.le_of_ble_eq_true rfl⟩) hP hD hS hA [] [0, 1] [0, 1] rfl rfl rfl (by decide) (fun _ => rfl) rfl (fun r3 u H locs hw hz hP hD hS => ?_)
      subst hw
      refine lv_if_ne (tgt := 46) hx hb dX9_send_40 (by decide) (fun c_3 => ?_) (fun c_3 => ?_)
      · have kb_c_3 : 0 ≤ a3.toInt ∧ a3.toInt ≤ 1 := in_b c_3 (by decide) (by decide)
        refine lv_iconst (v := (-1)) hx hb dX9_send_46 (by decide) ?_
        refine lv_istore (lv' := [(4, .int (-1)), (0, .ref o), (1, .int a1), (2, .int a2), (3, .int a3)]) hx hb dX9_send_47 hl (by decide) rfl (fun ls hl => ?_)
        refine lv_iconst (v := 0) hx hb dX9_send_49 (by decide) ?_
        refine lv_istore (lv' := [(5, .int 0), (4, .int (-1)), (0, .ref o), (1, .int a1), (2, .int a2), (3, .int a3)]) hx hb dX9_send_50 hl (by decide) rfl (fun ls hl => ?_)
        exact L_52 1000 (-1) 0 o_above o_below (by first | assumption | omega | decide | (split <;> rename_i hh <;> first | (have h9 := t_nlt hh; omega) | (have h9 := t_lt hh; omega) | (have h9 := t_nle hh; omega) | (have h9 := t_le hh; omega))) (by first | assumption | omega | decide | (split <;> rename_i hh <;> first | (have h9 := t_nlt hh; omega) | (have h9 := t_lt hh; omega) | (have h9 := t_nle hh; omega) | (have h9 := t_le hh; omega))) (by first | assumption | omega | decide | (split <;> rename_i hh <;> first | (have h9 := t_nlt hh; omega) | (have h9 := t_lt hh; omega) | (have h9 := t_nle hh; omega) | (have h9 := t_le hh; omega))) _ _ _ (lv_sub hl [2, 3, 4, 5, 1, 0] rfl) hP hD hS (hF.trans (by simp only [fX9_send, xlet, if_neg c_1, if_neg c_2, if_neg c_3]))
      · refine lv_bipush (v := (-3)) hx hb dX9_send_43 (by decide) ?_
        exact hret _ _ _ _ (-3) (o_above, o_below) dX9_send_45 ((hF.trans (by simp only [fX9_send, xlet, if_neg c_1, if_neg c_2, if_pos c_3])).symm) hP hD hS
set_option maxRecDepth 20000 in
theorem ggX9_seen_X9_isWalker : GoodIn wsX9_seen wsX9_isWalker := goodIn_r _ [10, 3, 11, 12, 9, 13, 14, 15, 16, 17, 18, 19, 20, 21, 22, 23, 24, 25, 26, 27, 28, 29, 30, 31, 32, 33, 34, 35, 36] (by decide +kernel) (by decide +kernel)
set_option maxRecDepth 20000 in
theorem gX9_seen_X9_isWalker : GoodIn wsX9_seen (wsV RX9 142 RX9 yX9_isWalker wsX9_isWalker) := goodIn_app (goodIn_of _ (by decide +kernel)) ggX9_seen_X9_isWalker
set_option maxRecDepth 20000 in
theorem ggX9_seen_X9_in : GoodIn wsX9_seen wsX9_in := goodIn_r _ [13] (by decide +kernel) (by decide +kernel)
set_option maxRecDepth 20000 in
theorem gX9_seen_X9_in : GoodIn wsX9_seen (va_wsS RX9 52 yX9_in wsX9_in) := goodIn_app (goodIn_of _ (by decide +kernel)) ggX9_seen_X9_in
theorem dX9_seen_0 : decode cX9_seen 0 = .ok (.aload_n 0, 1) := by decide +kernel
theorem dX9_seen_1 : decode cX9_seen 1 = .ok (.iconst 0, 1) := by decide +kernel
theorem dX9_seen_2 : decode cX9_seen 2 = .ok (.putfield 48, 3) := by decide +kernel
theorem dX9_seen_5 : decode cX9_seen 5 = .ok (.aload_n 0, 1) := by decide +kernel
theorem dX9_seen_6 : decode cX9_seen 6 = .ok (.iload_n 1, 1) := by decide +kernel
theorem dX9_seen_7 : decode cX9_seen 7 = .ok (.invokevirtual 142, 3) := by decide +kernel
theorem dX9_seen_10 : decode cX9_seen 10 = .ok (.ifCond .ne 6, 3) := by decide +kernel
theorem dX9_seen_13 : decode cX9_seen 13 = .ok (.bipush (-2), 2) := by decide +kernel
theorem dX9_seen_15 : decode cX9_seen 15 = .ok (.ireturn, 1) := by decide +kernel
theorem dX9_seen_16 : decode cX9_seen 16 = .ok (.iload_n 2, 1) := by decide +kernel
theorem dX9_seen_17 : decode cX9_seen 17 = .ok (.i2l, 1) := by decide +kernel
theorem dX9_seen_18 : decode cX9_seen 18 = .ok (.lconst 1, 1) := by decide +kernel
theorem dX9_seen_19 : decode cX9_seen 19 = .ok (.ldc2_w 164, 3) := by decide +kernel
theorem dX9_seen_22 : decode cX9_seen 22 = .ok (.invokestatic 52, 3) := by decide +kernel
theorem dX9_seen_25 : decode cX9_seen 25 = .ok (.ifCond .eq 19, 3) := by decide +kernel
theorem dX9_seen_28 : decode cX9_seen 28 = .ok (.iload_n 3, 1) := by decide +kernel
theorem dX9_seen_29 : decode cX9_seen 29 = .ok (.i2l, 1) := by decide +kernel
theorem dX9_seen_30 : decode cX9_seen 30 = .ok (.lconst 0, 1) := by decide +kernel
theorem dX9_seen_31 : decode cX9_seen 31 = .ok (.aload_n 0, 1) := by decide +kernel
theorem dX9_seen_32 : decode cX9_seen 32 = .ok (.getfield 7, 3) := by decide +kernel
theorem dX9_seen_35 : decode cX9_seen 35 = .ok (.iconst 0, 1) := by decide +kernel
theorem dX9_seen_36 : decode cX9_seen 36 = .ok (.iaload, 1) := by decide +kernel
theorem dX9_seen_37 : decode cX9_seen 37 = .ok (.i2l, 1) := by decide +kernel
theorem dX9_seen_38 : decode cX9_seen 38 = .ok (.invokestatic 52, 3) := by decide +kernel
theorem dX9_seen_41 : decode cX9_seen 41 = .ok (.ifCond .ne 6, 3) := by decide +kernel
theorem dX9_seen_44 : decode cX9_seen 44 = .ok (.bipush (-3), 2) := by decide +kernel
theorem dX9_seen_46 : decode cX9_seen 46 = .ok (.ireturn, 1) := by decide +kernel
theorem dX9_seen_47 : decode cX9_seen 47 = .ok (.aload_n 0, 1) := by decide +kernel
theorem dX9_seen_48 : decode cX9_seen 48 = .ok (.getfield 128, 3) := by decide +kernel
theorem dX9_seen_51 : decode cX9_seen 51 = .ok (.bipush 6, 2) := by decide +kernel
theorem dX9_seen_53 : decode cX9_seen 53 = .ok (.if_icmp .ne 6, 3) := by decide +kernel
theorem dX9_seen_56 : decode cX9_seen 56 = .ok (.bipush (-5), 2) := by decide +kernel
theorem dX9_seen_58 : decode cX9_seen 58 = .ok (.ireturn, 1) := by decide +kernel
theorem dX9_seen_59 : decode cX9_seen 59 = .ok (.aload_n 0, 1) := by decide +kernel
theorem dX9_seen_60 : decode cX9_seen 60 = .ok (.getfield 29, 3) := by decide +kernel
theorem dX9_seen_63 : decode cX9_seen 63 = .ok (.iconst 3, 1) := by decide +kernel
theorem dX9_seen_64 : decode cX9_seen 64 = .ok (.aload_n 0, 1) := by decide +kernel
theorem dX9_seen_65 : decode cX9_seen 65 = .ok (.getfield 128, 3) := by decide +kernel
theorem dX9_seen_68 : decode cX9_seen 68 = .ok (.imul, 1) := by decide +kernel
theorem dX9_seen_69 : decode cX9_seen 69 = .ok (.iload_n 1, 1) := by decide +kernel
theorem dX9_seen_70 : decode cX9_seen 70 = .ok (.iastore, 1) := by decide +kernel
theorem dX9_seen_71 : decode cX9_seen 71 = .ok (.aload_n 0, 1) := by decide +kernel
theorem dX9_seen_72 : decode cX9_seen 72 = .ok (.getfield 29, 3) := by decide +kernel
theorem dX9_seen_75 : decode cX9_seen 75 = .ok (.iconst 3, 1) := by decide +kernel
theorem dX9_seen_76 : decode cX9_seen 76 = .ok (.aload_n 0, 1) := by decide +kernel
theorem dX9_seen_77 : decode cX9_seen 77 = .ok (.getfield 128, 3) := by decide +kernel
theorem dX9_seen_80 : decode cX9_seen 80 = .ok (.imul, 1) := by decide +kernel
theorem dX9_seen_81 : decode cX9_seen 81 = .ok (.iconst 1, 1) := by decide +kernel
theorem dX9_seen_82 : decode cX9_seen 82 = .ok (.iadd, 1) := by decide +kernel
theorem dX9_seen_83 : decode cX9_seen 83 = .ok (.iload_n 2, 1) := by decide +kernel
theorem dX9_seen_84 : decode cX9_seen 84 = .ok (.iastore, 1) := by decide +kernel
theorem dX9_seen_85 : decode cX9_seen 85 = .ok (.aload_n 0, 1) := by decide +kernel
theorem dX9_seen_86 : decode cX9_seen 86 = .ok (.getfield 29, 3) := by decide +kernel
theorem dX9_seen_89 : decode cX9_seen 89 = .ok (.iconst 3, 1) := by decide +kernel
theorem dX9_seen_90 : decode cX9_seen 90 = .ok (.aload_n 0, 1) := by decide +kernel
theorem dX9_seen_91 : decode cX9_seen 91 = .ok (.getfield 128, 3) := by decide +kernel
theorem dX9_seen_94 : decode cX9_seen 94 = .ok (.imul, 1) := by decide +kernel
theorem dX9_seen_95 : decode cX9_seen 95 = .ok (.iconst 2, 1) := by decide +kernel
theorem dX9_seen_96 : decode cX9_seen 96 = .ok (.iadd, 1) := by decide +kernel
theorem dX9_seen_97 : decode cX9_seen 97 = .ok (.iload_n 3, 1) := by decide +kernel
theorem dX9_seen_98 : decode cX9_seen 98 = .ok (.iastore, 1) := by decide +kernel
theorem dX9_seen_99 : decode cX9_seen 99 = .ok (.aload_n 0, 1) := by decide +kernel
theorem dX9_seen_100 : decode cX9_seen 100 = .ok (.dup, 1) := by decide +kernel
theorem dX9_seen_101 : decode cX9_seen 101 = .ok (.getfield 128, 3) := by decide +kernel
theorem dX9_seen_104 : decode cX9_seen 104 = .ok (.iconst 1, 1) := by decide +kernel
theorem dX9_seen_105 : decode cX9_seen 105 = .ok (.iadd, 1) := by decide +kernel
theorem dX9_seen_106 : decode cX9_seen 106 = .ok (.putfield 128, 3) := by decide +kernel
theorem dX9_seen_109 : decode cX9_seen 109 = .ok (.aload_n 0, 1) := by decide +kernel
theorem dX9_seen_110 : decode cX9_seen 110 = .ok (.getfield 128, 3) := by decide +kernel
theorem dX9_seen_113 : decode cX9_seen 113 = .ok (.ireturn, 1) := by decide +kernel
def fX9_seen (a1 : Int32) (a2 : Int32) (a3 : Int32) (o_many : Int32) (o_road_f : Nat → Int32) (o_sights_f : Nat → Int32) : Int32 × Int32 × (Nat → Int32) := if (fX9_isWalker a1 o_road_f) = 0 then (((-2), o_many, o_sights_f)) else (if (fX9_in a2.toInt64 1 8) = 0 then (((-3), o_many, o_sights_f)) else (if (fX9_in a3.toInt64 0 ((o_road_f 0).toInt64)) = 0 then (((-3), o_many, o_sights_f)) else (if o_many = 6 then (((-5), o_many, o_sights_f)) else (((o_many + 1), (o_many + 1), (upd (upd (upd o_sights_f (3 * o_many).toNatClampNeg a1) ((3 * o_many) + 1).toNatClampNeg a2) ((3 * o_many) + 2).toNatClampNeg a3))))))
set_option maxHeartbeats 4000000 in
set_option maxRecDepth 100000 in
theorem c_X9_seen (l : Launch) (D : va_G) (cI cZ : ClassId) (sz : Nat) (o : Nat) (a1 : Int32) (a2 : Int32) (a3 : Int32) (o_road : Nat) (o_told : Nat) (o_fresh : Nat) (o_was : Nat) (o_acts : Int32) (o_kept : Nat) (o_isKept : Nat) (o_sights : Nat) (o_many : Int32) (o_text : Nat) (o_letters : Int32) (o_thrown : Int32) (o_cursor : Int32) (o_token : Int32) (o_start : Int32) (o_value : Int64) (o_isFault : Int32) (o_faultAt : Int32) (o_above : Int32) (o_below : Int32) (o_topOf : Nat) (o_partsOf : Nat) (o_sent : Nat) (o_road_f : Nat → Int32) (o_sights_f : Nat → Int32) (hn0 : 4 ≤ (o_road_f 0).toInt) (hn1 : (o_road_f 0).toInt ≤ 20) (hv0 : 0 ≤ (o_road_f 2).toInt) (hv6 : (o_road_f 2).toInt ≤ 6) (hm0 : 0 ≤ o_many.toInt) (hm6 : o_many.toInt ≤ 6) : Met l yX9_seen wsX9_seen ({ frames := 2, cells := 0, slots := 0, locals := 46 } : Room) (va_Pc [.ref o, .int a1, .int a2, .int a3] (xP D cI cZ [(o, .inr (9, [.ref o_road, .ref o_told, .ref o_fresh, .ref o_was, .int o_acts, .ref o_kept, .ref o_isKept, .ref o_sights, .int o_many, .ref o_text, .int o_letters, .int o_thrown, .int o_cursor, .int o_token, .int o_start, .long o_value, .int o_isFault, .int o_faultAt, .int o_above, .int o_below, .ref o_topOf, .ref o_partsOf, .ref o_sent])), (o_road, .inl (cI, 36, .inl o_road_f)), (o_sights, .inl (cI, 18, .inl o_sights_f))] sz)) (va_Qi (fun (r : Int32) (u : Int32 × (Nat → Int32)) => (r, u) = fX9_seen a1 a2 a3 o_many o_road_f o_sights_f) (fun (u : Int32 × (Nat → Int32)) t => xB D cI cZ [(o, .inr (9, [.ref o_road, .ref o_told, .ref o_fresh, .ref o_was, .int o_acts, .ref o_kept, .ref o_isKept, .ref o_sights, .int u.1, .ref o_text, .int o_letters, .int 0, .int o_cursor, .int o_token, .int o_start, .long o_value, .int o_isFault, .int o_faultAt, .int o_above, .int o_below, .ref o_topOf, .ref o_partsOf, .ref o_sent])), (o_road, .inl (cI, 36, .inl o_road_f)), (o_sights, .inl (cI, 18, .inl u.2))] (va_A [(o, .inr (9, [.ref o_road, .ref o_told, .ref o_fresh, .ref o_was, .int o_acts, .ref o_kept, .ref o_isKept, .ref o_sights, .int o_many, .ref o_text, .int o_letters, .int o_thrown, .int o_cursor, .int o_token, .int o_start, .long o_value, .int o_isFault, .int o_faultAt, .int o_above, .int o_below, .ref o_topOf, .ref o_partsOf, .ref o_sent])), (o_road, .inl (cI, 36, .inl o_road_f)), (o_sights, .inl (cI, 18, .inl o_sights_f))] sz) t) (va_A [(o, .inr (9, [.ref o_road, .ref o_told, .ref o_fresh, .ref o_was, .int o_acts, .ref o_kept, .ref o_isKept, .ref o_sights, .int o_many, .ref o_text, .int o_letters, .int o_thrown, .int o_cursor, .int o_token, .int o_start, .long o_value, .int o_isFault, .int o_faultAt, .int o_above, .int o_below, .ref o_topOf, .ref o_partsOf, .ref o_sent])), (o_road, .inl (cI, 36, .inl o_road_f)), (o_sights, .inl (cI, 18, .inl o_sights_f))] sz)) 0 0 (va_A [(o, .inr (9, [.ref o_road, .ref o_told, .ref o_fresh, .ref o_was, .int o_acts, .ref o_kept, .ref o_isKept, .ref o_sights, .int o_many, .ref o_text, .int o_letters, .int o_thrown, .int o_cursor, .int o_token, .int o_start, .long o_value, .int o_isFault, .int o_faultAt, .int o_above, .int o_below, .ref o_topOf, .ref o_partsOf, .ref o_sent])), (o_road, .inl (cI, 36, .inl o_road_f)), (o_sights, .inl (cI, 18, .inl o_sights_f))] sz) := by
  refine Met.ofW (cc := cX9_seen) (maxL := 4) (ret := (some .int)) (by decide) rfl ?_
  intro p e s m args below meth c s₁ B hml hv
  obtain ⟨hargs, hsz, hP, hK, hD0, hE⟩ := hv
  subst hargs
  have hx := B.exec
  have hb := B.bytes
  have hr := B.returns
  have hts := atoms_spec (ws := wsX9_seen) B.pre
  have hown : s.vm.findClass RX9 = some m.cls := findClass_of_methodNamed B.named
  have hlocks := B.notSynchronized
  subst hsz
  have hD := hD0.self (sz := s.heap.size)
  generalize hAe : va_A [(o, .inr (9, [.ref o_road, .ref o_told, .ref o_fresh, .ref o_was, .int o_acts, .ref o_kept, .ref o_isKept, .ref o_sights, .int o_many, .ref o_text, .int o_letters, .int o_thrown, .int o_cursor, .int o_token, .int o_start, .long o_value, .int o_isFault, .int o_faultAt, .int o_above, .int o_below, .ref o_topOf, .ref o_partsOf, .ref o_sent])), (o_road, .inl (cI, 36, .inl o_road_f)), (o_sights, .inl (cI, 18, .inl o_sights_f))] s.heap.size = A at hD ⊢
  have hA : ∀ q : Nat, s.heap.size ≤ q → A q := fun q h => by rw [← hAe]; exact Or.inr h
  have hS : va_S A s.heap s.heap [] := va_S.rf
  have hl := lv_entry ([.ref o, .int a1, .int a2, .int a3]) (n := 4) (Nat.le_of_ble_eq_true rfl)
  rw [lg_entry_eq]
  generalize (lg_sl ([.ref o, .int a1, .int a2, .int a3]) ++ List.replicate (4 - (lg_sl ([.ref o, .int a1, .int a2, .int a3])).length) Slot.unset).toArray = ls at hl ⊢
  have hl : lv_has ls 4 [(0, .ref o), (1, .int a1), (2, .int a2), (3, .int a3)] := hl
  refine wq (X := fun Q => ∀ (pc : Nat) (H : Heap) (locs : List Loc) (ls : Array Slot) (r : Int32) (u : Int32 × (Nat → Int32)) (hd : decode cX9_seen pc = .ok (.ireturn, 1)) (hp : (r, u) = fX9_seen a1 a2 a3 o_many o_road_f o_sights_f) (hP : va_P D vwCl [(o, .inr (9, [.ref o_road, .ref o_told, .ref o_fresh, .ref o_was, .int o_acts, .ref o_kept, .ref o_isKept, .ref o_sights, .int u.1, .ref o_text, .int o_letters, .int 0, .int o_cursor, .int o_token, .int o_start, .long o_value, .int o_isFault, .int o_faultAt, .int o_above, .int o_below, .ref o_topOf, .ref o_partsOf, .ref o_sent])), (o_road, .inl (cI, 36, .inl o_road_f)), (o_sights, .inl (cI, 18, .inl u.2))] H) (hD : va_D A [(o, .inr (9, [.ref o_road, .ref o_told, .ref o_fresh, .ref o_was, .int o_acts, .ref o_kept, .ref o_isKept, .ref o_sights, .int u.1, .ref o_text, .int o_letters, .int 0, .int o_cursor, .int o_token, .int o_start, .long o_value, .int o_isFault, .int o_faultAt, .int o_above, .int o_below, .ref o_topOf, .ref o_partsOf, .ref o_sent])), (o_road, .inl (cI, 36, .inl o_road_f)), (o_sights, .inl (cI, 18, .inl u.2))]) (hS : va_S A s.heap H locs), W p l e ({ frames := 2, cells := 0, slots := 0, locals := 46 } : Room) s m ([.ref o, .int a1, .int a2, .int a3] : List Value).toArray below meth c H locs 0 0 Q (F0 m pc ls [.int r])) ?_ (fun Q hret => ?_)
  · intro pc H locs ls r u hd hp hP hD hS
    exact W.iret (v := r) hx hb hr (fun t ht hW => ⟨⟨r, u, rfl, hp, by rw [ht]; exact hP, va_K.moved hW.alike hK, hD⟩, hS.F ht⟩) hS.2.2 hd
  have hin_9 : ∀ w ∈ u_ws RX9 TX9 23, w ∈ wsX9_seen := by decide +kernel
  have fl_7 := hts (.fieldLink RX9 7 "MileRoadModel" "road" "[I") (by decide +kernel)
  have fl_29 := hts (.fieldLink RX9 29 "MileRoadModel" "sights" "[I") (by decide +kernel)
  have fl_48 := hts (.fieldLink RX9 48 "MileRoadModel" "thrown" "I") (by decide +kernel)
  have fl_128 := hts (.fieldLink RX9 128 "MileRoadModel" "many" "I") (by decide +kernel)
  have zl_0 : (0 : Int32).toInt = 0 := by decide
  have zl_1 : (1 : Int32).toInt = 1 := by decide
  have zl_2 : (2 : Int32).toInt = 2 := by decide
  have zl_3 : (3 : Int32).toInt = 3 := by decide
  have zl_6 : (6 : Int32).toInt = 6 := by decide
  have hF : fX9_seen a1 a2 a3 o_many o_road_f o_sights_f = fX9_seen a1 a2 a3 o_many o_road_f o_sights_f := rfl
  refine lv_aload_n hx hb dX9_seen_0 rfl (lv_at hl 0 rfl) ?_
  refine lv_iconst (v := 0) hx hb dX9_seen_1 (by decide) ?_
  refine xput hx hb hts hown hK 9 (C2 := RX9) (T := TX9) (N := 23) tyX9 rfl tyX9_ok nmX9 hin_9 hP hD hS 0 rfl 11 (by decide) fl_48 rfl rfl rfl rfl rfl (Nat.le_of_ble_eq_true rfl) dX9_seen_2 [(o, .inr (9, [.ref o_road, .ref o_told, .ref o_fresh, .ref o_was, .int o_acts, .ref o_kept, .ref o_isKept, .ref o_sights, .int o_many, .ref o_text, .int o_letters, .int 0, .int o_cursor, .int o_token, .int o_start, .long o_value, .int o_isFault, .int o_faultAt, .int o_above, .int o_below, .ref o_topOf, .ref o_partsOf, .ref o_sent])), (o_road, .inl (cI, 36, .inl o_road_f)), (o_sights, .inl (cI, 18, .inl o_sights_f))] rfl (fun H locs hP hD hS => ?_)
  refine lv_aload_n hx hb dX9_seen_5 rfl (lv_at hl 0 rfl) ?_
  refine lv_iload_n hx hb dX9_seen_6 rfl (lv_at hl 1 rfl) ?_
  refine xcalli (S := Unit) (Wc := [(o, .inr (9, [.ref o_road, .ref o_told, .ref o_fresh, .ref o_was, .int o_acts, .ref o_kept, .ref o_isKept, .ref o_sights, .int o_many, .ref o_text, .int o_letters, .int 0, .int o_cursor, .int o_token, .int o_start, .long o_value, .int o_isFault, .int o_faultAt, .int o_above, .int o_below, .ref o_topOf, .ref o_partsOf, .ref o_sent])), (o_road, .inl (cI, 36, .inl o_road_f))]) (wr := [(o_sights, .inl (cI, 18, .inl o_sights_f))]) (W1 := (fun (u : Unit) => [(o, .inr (9, [.ref o_road, .ref o_told, .ref o_fresh, .ref o_was, .int o_acts, .ref o_kept, .ref o_isKept, .ref o_sights, .int o_many, .ref o_text, .int o_letters, .int 0, .int o_cursor, .int o_token, .int o_start, .long o_value, .int o_isFault, .int o_faultAt, .int o_above, .int o_below, .ref o_topOf, .ref o_partsOf, .ref o_sent])), (o_road, .inl (cI, 36, .inl o_road_f))])) (Wn := (fun (u : Unit) => [(o, .inr (9, [.ref o_road, .ref o_told, .ref o_fresh, .ref o_was, .int o_acts, .ref o_kept, .ref o_isKept, .ref o_sights, .int o_many, .ref o_text, .int o_letters, .int 0, .int o_cursor, .int o_token, .int o_start, .long o_value, .int o_isFault, .int o_faultAt, .int o_above, .int o_below, .ref o_topOf, .ref o_partsOf, .ref o_sent])), (o_road, .inl (cI, 36, .inl o_road_f)), (o_sights, .inl (cI, 18, .inl o_sights_f))])) (xrunV hx hb hml hown hts (c_X9_isWalker l D cI cZ _ o a1 o_road o_told o_fresh o_was o_acts o_kept o_isKept o_sights o_many o_text o_letters 0 o_cursor o_token o_start o_value o_isFault o_faultAt o_above o_below o_topOf o_partsOf o_sent o_road_f ) (cwV 1 hts gX9_seen_X9_isWalker rfl rfl rfl (by decide +kernel) ⟨Nat.le_of_ble_eq_true rfl, Nat.le_of_ble_eq_true rfl⟩) hE hK hP hD [0, 1] rfl rfl 0 9 (T := TX9) (N := 23) rfl rfl rfl hl.1 rfl (Nat.le_of_ble_eq_true rfl) dX9_seen_7 ⟨Nat.le_of_ble_eq_true rfl, Nat.le_of_ble_eq_true rfl⟩) hP hD hS hA [0, 1] [2] [1, 2, 0] rfl rfl rfl (by decide) (fun _ => rfl) rfl (fun r1 u H locs hw hz hP hD hS => ?_)
  subst hw
  refine lv_if_ne (tgt := 16) hx hb dX9_seen_10 (by decide) (fun c_1 => ?_) (fun c_1 => ?_)
  · have kb_c_1 : 0 ≤ a1.toInt ∧ a1.toInt < (o_road_f 2).toInt := isWalker_b c_1 (by omega) (by omega)
    refine lv_iload_n hx hb dX9_seen_16 rfl (lv_at hl 2 rfl) ?_
    refine lv_i2l (v := a2.toInt64) hx hb dX9_seen_17 rfl ?_
    refine lv_lconst (v := 1) hx hb dX9_seen_18 (by decide) ?_
    refine lv_ldc2 (v := 8) hx hb hown (hts (.constantLong RX9 164 8) (by decide +kernel)) dX9_seen_19 ?_
    refine xcalli (S := Unit) (Wc := []) (wr := [(o, .inr (9, [.ref o_road, .ref o_told, .ref o_fresh, .ref o_was, .int o_acts, .ref o_kept, .ref o_isKept, .ref o_sights, .int o_many, .ref o_text, .int o_letters, .int 0, .int o_cursor, .int o_token, .int o_start, .long o_value, .int o_isFault, .int o_faultAt, .int o_above, .int o_below, .ref o_topOf, .ref o_partsOf, .ref o_sent])), (o_road, .inl (cI, 36, .inl o_road_f)), (o_sights, .inl (cI, 18, .inl o_sights_f))]) (W1 := (fun (u : Unit) => [])) (Wn := (fun (u : Unit) => [(o, .inr (9, [.ref o_road, .ref o_told, .ref o_fresh, .ref o_was, .int o_acts, .ref o_kept, .ref o_isKept, .ref o_sights, .int o_many, .ref o_text, .int o_letters, .int 0, .int o_cursor, .int o_token, .int o_start, .long o_value, .int o_isFault, .int o_faultAt, .int o_above, .int o_below, .ref o_topOf, .ref o_partsOf, .ref o_sent])), (o_road, .inl (cI, 36, .inl o_road_f)), (o_sights, .inl (cI, 18, .inl o_sights_f))])) (xrunS hx hb hml hown hts (c_X9_in l D cI cZ _ a2.toInt64 1 8 ) (va_cwS 3 hts gX9_seen_X9_in rfl rfl rfl (by decide +kernel) ⟨Nat.le_of_ble_eq_true rfl, Nat.le_of_ble_eq_true rfl⟩) hE hK hP hD [] rfl rfl rfl hl.1 rfl (Nat.le_of_ble_eq_true rfl) dX9_seen_22 ⟨Nat.le_of_ble_eq_true rfl, Nat.le_of_ble_eq_true rfl⟩) hP hD hS hA [] [0, 1, 2] [0, 1, 2] rfl rfl rfl (by decide) (fun _ => rfl) rfl (fun r2 u H locs hw hz hP hD hS => ?_)
    subst hw
    refine lv_if_eq (tgt := 44) hx hb dX9_seen_25 (by decide) (fun c_2 => ?_) (fun c_2 => ?_)
    · refine lv_bipush (v := (-3)) hx hb dX9_seen_44 (by decide) ?_
      exact hret _ _ _ _ (-3) (o_many, o_sights_f) dX9_seen_46 ((hF.trans (by simp only [fX9_seen, xlet, if_neg c_1, if_pos c_2])).symm) hP hD hS
    · have kb_c_2 : 1 ≤ a2.toInt ∧ a2.toInt ≤ 8 := in_b c_2 (by decide) (by decide)
      refine lv_iload_n hx hb dX9_seen_28 rfl (lv_at hl 3 rfl) ?_
      refine lv_i2l (v := a3.toInt64) hx hb dX9_seen_29 rfl ?_
      refine lv_lconst (v := 0) hx hb dX9_seen_30 (by decide) ?_
      refine lv_aload_n hx hb dX9_seen_31 rfl (lv_at hl 0 rfl) ?_
      refine xget hx hb hts hown hK 9 (C2 := RX9) (T := TX9) (N := 23) rfl hin_9 hP 0 rfl 0 (by decide) fl_7 rfl rfl rfl dX9_seen_32 ?_
      refine lv_iconst (v := 0) hx hb dX9_seen_35 (by decide) ?_
      refine xald hx hb hK hP 1 0 (k := 0) rfl rfl (vi (by decide) (by decide)) (by decide) dX9_seen_36 ?_
      refine lv_i2l (v := (o_road_f 0).toInt64) hx hb dX9_seen_37 rfl ?_
      refine xcalli (S := Unit) (Wc := []) (wr := [(o, .inr (9, [.ref o_road, .ref o_told, .ref o_fresh, .ref o_was, .int o_acts, .ref o_kept, .ref o_isKept, .ref o_sights, .int o_many, .ref o_text, .int o_letters, .int 0, .int o_cursor, .int o_token, .int o_start, .long o_value, .int o_isFault, .int o_faultAt, .int o_above, .int o_below, .ref o_topOf, .ref o_partsOf, .ref o_sent])), (o_road, .inl (cI, 36, .inl o_road_f)), (o_sights, .inl (cI, 18, .inl o_sights_f))]) (W1 := (fun (u : Unit) => [])) (Wn := (fun (u : Unit) => [(o, .inr (9, [.ref o_road, .ref o_told, .ref o_fresh, .ref o_was, .int o_acts, .ref o_kept, .ref o_isKept, .ref o_sights, .int o_many, .ref o_text, .int o_letters, .int 0, .int o_cursor, .int o_token, .int o_start, .long o_value, .int o_isFault, .int o_faultAt, .int o_above, .int o_below, .ref o_topOf, .ref o_partsOf, .ref o_sent])), (o_road, .inl (cI, 36, .inl o_road_f)), (o_sights, .inl (cI, 18, .inl o_sights_f))])) (xrunS hx hb hml hown hts (c_X9_in l D cI cZ _ a3.toInt64 0 ((o_road_f 0).toInt64) ) (va_cwS 3 hts gX9_seen_X9_in rfl rfl rfl (by decide +kernel) ⟨Nat.le_of_ble_eq_true rfl, Nat.le_of_ble_eq_true rfl⟩) hE hK hP hD [] rfl rfl rfl hl.1 rfl (Nat.le_of_ble_eq_true rfl) dX9_seen_38 ⟨Nat.le_of_ble_eq_true rfl, Nat.le_of_ble_eq_true rfl⟩) hP hD hS hA [] [0, 1, 2] [0, 1, 2] rfl rfl rfl (by decide) (fun _ => rfl) rfl (fun r3 u H locs hw hz hP hD hS => ?_)
      subst hw
      refine lv_if_ne (tgt := 47) hx hb dX9_seen_41 (by decide) (fun c_3 => ?_) (fun c_3 => ?_)
      · have kb_c_3 : 0 ≤ a3.toInt ∧ a3.toInt ≤ (o_road_f 0).toInt := in_b c_3 (by decide) (Int32.toInt_toInt64 _)
        refine lv_aload_n hx hb dX9_seen_47 rfl (lv_at hl 0 rfl) ?_
        refine xget hx hb hts hown hK 9 (C2 := RX9) (T := TX9) (N := 23) rfl hin_9 hP 0 rfl 8 (by decide) fl_128 rfl rfl rfl dX9_seen_48 ?_
        refine lv_bipush (v := 6) hx hb dX9_seen_51 (by decide) ?_
        refine lv_icmp_ne (tgt := 59) hx hb dX9_seen_53 (by decide) (fun c_4 => ?_) (fun c_4 => ?_)
        · have kc_4 := t_neq c_4
          refine lv_aload_n hx hb dX9_seen_59 rfl (lv_at hl 0 rfl) ?_
          refine xget hx hb hts hown hK 9 (C2 := RX9) (T := TX9) (N := 23) rfl hin_9 hP 0 rfl 7 (by decide) fl_29 rfl rfl rfl dX9_seen_60 ?_
          refine lv_iconst (v := 3) hx hb dX9_seen_63 (by decide) ?_
          refine lv_aload_n hx hb dX9_seen_64 rfl (lv_at hl 0 rfl) ?_
          refine xget hx hb hts hown hK 9 (C2 := RX9) (T := TX9) (N := 23) rfl hin_9 hP 0 rfl 8 (by decide) fl_128 rfl rfl rfl dX9_seen_65 ?_
          refine lv_imul hx hb dX9_seen_68 ?_
          refine lv_iload_n hx hb dX9_seen_69 rfl (lv_at hl 1 rfl) ?_
          have z_1 : (3 * o_many).toInt = 3 * o_many.toInt := z_mul 3 rfl (by omega) (by omega)
          refine xast hx hb hK hP hD hS 2 0 (k := (3 * o_many).toNatClampNeg) rfl rfl (vi (by omega) (by omega)) rfl dX9_seen_70 [(o, .inr (9, [.ref o_road, .ref o_told, .ref o_fresh, .ref o_was, .int o_acts, .ref o_kept, .ref o_isKept, .ref o_sights, .int o_many, .ref o_text, .int o_letters, .int 0, .int o_cursor, .int o_token, .int o_start, .long o_value, .int o_isFault, .int o_faultAt, .int o_above, .int o_below, .ref o_topOf, .ref o_partsOf, .ref o_sent])), (o_road, .inl (cI, 36, .inl o_road_f)), (o_sights, .inl (cI, 18, .inl (upd o_sights_f (3 * o_many).toNatClampNeg a1)))] rfl (fun H locs hP hD hS => ?_)
          refine lv_aload_n hx hb dX9_seen_71 rfl (lv_at hl 0 rfl) ?_
          refine xget hx hb hts hown hK 9 (C2 := RX9) (T := TX9) (N := 23) rfl hin_9 hP 0 rfl 7 (by decide) fl_29 rfl rfl rfl dX9_seen_72 ?_
          refine lv_iconst (v := 3) hx hb dX9_seen_75 (by decide) ?_
          refine lv_aload_n hx hb dX9_seen_76 rfl (lv_at hl 0 rfl) ?_
          refine xget hx hb hts hown hK 9 (C2 := RX9) (T := TX9) (N := 23) rfl hin_9 hP 0 rfl 8 (by decide) fl_128 rfl rfl rfl dX9_seen_77 ?_
          refine lv_imul hx hb dX9_seen_80 ?_
          refine lv_iconst (v := 1) hx hb dX9_seen_81 (by decide) ?_
          refine lv_iadd hx hb dX9_seen_82 ?_
          refine lv_iload_n hx hb dX9_seen_83 rfl (lv_at hl 2 rfl) ?_
          have z_2 : ((3 * o_many) + 1).toInt = (3 * o_many).toInt + (1 : Int32).toInt := z_add (by omega) (by omega)
          refine xast hx hb hK hP hD hS 2 0 (k := ((3 * o_many) + 1).toNatClampNeg) rfl rfl (vi (by omega) (by omega)) rfl dX9_seen_84 [(o, .inr (9, [.ref o_road, .ref o_told, .ref o_fresh, .ref o_was, .int o_acts, .ref o_kept, .ref o_isKept, .ref o_sights, .int o_many, .ref o_text, .int o_letters, .int 0, .int o_cursor, .int o_token, .int o_start, .long o_value, .int o_isFault, .int o_faultAt, .int o_above, .int o_below, .ref o_topOf, .ref o_partsOf, .ref o_sent])), (o_road, .inl (cI, 36, .inl o_road_f)), (o_sights, .inl (cI, 18, .inl (upd (upd o_sights_f (3 * o_many).toNatClampNeg a1) ((3 * o_many) + 1).toNatClampNeg a2)))] rfl (fun H locs hP hD hS => ?_)
          refine lv_aload_n hx hb dX9_seen_85 rfl (lv_at hl 0 rfl) ?_
          refine xget hx hb hts hown hK 9 (C2 := RX9) (T := TX9) (N := 23) rfl hin_9 hP 0 rfl 7 (by decide) fl_29 rfl rfl rfl dX9_seen_86 ?_
          refine lv_iconst (v := 3) hx hb dX9_seen_89 (by decide) ?_
          refine lv_aload_n hx hb dX9_seen_90 rfl (lv_at hl 0 rfl) ?_
          refine xget hx hb hts hown hK 9 (C2 := RX9) (T := TX9) (N := 23) rfl hin_9 hP 0 rfl 8 (by decide) fl_128 rfl rfl rfl dX9_seen_91 ?_
          refine lv_imul hx hb dX9_seen_94 ?_
          refine lv_iconst (v := 2) hx hb dX9_seen_95 (by decide) ?_
          refine lv_iadd hx hb dX9_seen_96 ?_
          refine lv_iload_n hx hb dX9_seen_97 rfl (lv_at hl 3 rfl) ?_
          have z_3 : ((3 * o_many) + 2).toInt = (3 * o_many).toInt + (2 : Int32).toInt := z_add (by omega) (by omega)
          refine xast hx hb hK hP hD hS 2 0 (k := ((3 * o_many) + 2).toNatClampNeg) rfl rfl (vi (by omega) (by omega)) rfl dX9_seen_98 [(o, .inr (9, [.ref o_road, .ref o_told, .ref o_fresh, .ref o_was, .int o_acts, .ref o_kept, .ref o_isKept, .ref o_sights, .int o_many, .ref o_text, .int o_letters, .int 0, .int o_cursor, .int o_token, .int o_start, .long o_value, .int o_isFault, .int o_faultAt, .int o_above, .int o_below, .ref o_topOf, .ref o_partsOf, .ref o_sent])), (o_road, .inl (cI, 36, .inl o_road_f)), (o_sights, .inl (cI, 18, .inl (upd (upd (upd o_sights_f (3 * o_many).toNatClampNeg a1) ((3 * o_many) + 1).toNatClampNeg a2) ((3 * o_many) + 2).toNatClampNeg a3)))] rfl (fun H locs hP hD hS => ?_)
          refine lv_aload_n hx hb dX9_seen_99 rfl (lv_at hl 0 rfl) ?_
          refine lv_dup hx hb dX9_seen_100 rfl ?_
          refine xget hx hb hts hown hK 9 (C2 := RX9) (T := TX9) (N := 23) rfl hin_9 hP 0 rfl 8 (by decide) fl_128 rfl rfl rfl dX9_seen_101 ?_
          refine lv_iconst (v := 1) hx hb dX9_seen_104 (by decide) ?_
          refine lv_iadd hx hb dX9_seen_105 ?_
          refine xput hx hb hts hown hK 9 (C2 := RX9) (T := TX9) (N := 23) tyX9 rfl tyX9_ok nmX9 hin_9 hP hD hS 0 rfl 8 (by decide) fl_128 rfl rfl rfl rfl rfl (Nat.le_of_ble_eq_true rfl) dX9_seen_106 [(o, .inr (9, [.ref o_road, .ref o_told, .ref o_fresh, .ref o_was, .int o_acts, .ref o_kept, .ref o_isKept, .ref o_sights, .int (o_many + 1), .ref o_text, .int o_letters, .int 0, .int o_cursor, .int o_token, .int o_start, .long o_value, .int o_isFault, .int o_faultAt, .int o_above, .int o_below, .ref o_topOf, .ref o_partsOf, .ref o_sent])), (o_road, .inl (cI, 36, .inl o_road_f)), (o_sights, .inl (cI, 18, .inl (upd (upd (upd o_sights_f (3 * o_many).toNatClampNeg a1) ((3 * o_many) + 1).toNatClampNeg a2) ((3 * o_many) + 2).toNatClampNeg a3)))] rfl (fun H locs hP hD hS => ?_)
          refine lv_aload_n hx hb dX9_seen_109 rfl (lv_at hl 0 rfl) ?_
          refine xget hx hb hts hown hK 9 (C2 := RX9) (T := TX9) (N := 23) rfl hin_9 hP 0 rfl 8 (by decide) fl_128 rfl rfl rfl dX9_seen_110 ?_
          exact hret _ _ _ _ (o_many + 1) ((o_many + 1), (upd (upd (upd o_sights_f (3 * o_many).toNatClampNeg a1) ((3 * o_many) + 1).toNatClampNeg a2) ((3 * o_many) + 2).toNatClampNeg a3)) dX9_seen_113 ((hF.trans (by simp only [fX9_seen, xlet, if_neg c_1, if_neg c_2, if_neg c_3, if_neg c_4])).symm) hP hD hS
        · have kc_4 := t_eq c_4
          refine lv_bipush (v := (-5)) hx hb dX9_seen_56 (by decide) ?_
          exact hret _ _ _ _ (-5) (o_many, o_sights_f) dX9_seen_58 ((hF.trans (by simp only [fX9_seen, xlet, if_neg c_1, if_neg c_2, if_neg c_3, if_pos c_4])).symm) hP hD hS
      · refine lv_bipush (v := (-3)) hx hb dX9_seen_44 (by decide) ?_
        exact hret _ _ _ _ (-3) (o_many, o_sights_f) dX9_seen_46 ((hF.trans (by simp only [fX9_seen, xlet, if_neg c_1, if_neg c_2, if_pos c_3])).symm) hP hD hS
  · refine lv_bipush (v := (-2)) hx hb dX9_seen_13 (by decide) ?_
    exact hret _ _ _ _ (-2) (o_many, o_sights_f) dX9_seen_15 ((hF.trans (by simp only [fX9_seen, xlet, if_pos c_1])).symm) hP hD hS
set_option maxRecDepth 20000 in
theorem ggX9_count_X9_layMean : GoodIn wsX9_count wsX9_layMean := goodIn_r _ [10, 11, 12, 2, 13, 14, 15, 9, 16, 17, 18, 19, 20, 21, 22, 23, 24, 25, 26, 27, 28, 29, 30, 31, 32, 33, 34, 35, 36, 37, 38, 39, 40, 41, 42, 43, 44, 45, 46, 47] (by decide +kernel) (by decide +kernel)
set_option maxRecDepth 20000 in
theorem gX9_count_X9_layMean : GoodIn wsX9_count (wsV RX9 172 RX9 yX9_layMean wsX9_layMean) := goodIn_app (goodIn_of _ (by decide +kernel)) ggX9_count_X9_layMean
theorem dX9_count_0 : decode cX9_count 0 = .ok (.aload_n 0, 1) := by decide +kernel
theorem dX9_count_1 : decode cX9_count 1 = .ok (.iconst 0, 1) := by decide +kernel
theorem dX9_count_2 : decode cX9_count 2 = .ok (.putfield 48, 3) := by decide +kernel
theorem dX9_count_5 : decode cX9_count 5 = .ok (.iconst 0, 1) := by decide +kernel
theorem dX9_count_6 : decode cX9_count 6 = .ok (.istore_n 2, 1) := by decide +kernel
theorem dX9_count_7 : decode cX9_count 7 = .ok (.iload_n 1, 1) := by decide +kernel
theorem dX9_count_8 : decode cX9_count 8 = .ok (.tableswitch 164 0 8 #[52, 59, 66, 73, 80, 111, 149, 154, 159], 52) := by decide +kernel
theorem dX9_count_60 : decode cX9_count 60 = .ok (.aload_n 0, 1) := by decide +kernel
theorem dX9_count_61 : decode cX9_count 61 = .ok (.getfield 7, 3) := by decide +kernel
theorem dX9_count_64 : decode cX9_count 64 = .ok (.iconst 0, 1) := by decide +kernel
theorem dX9_count_65 : decode cX9_count 65 = .ok (.iaload, 1) := by decide +kernel
theorem dX9_count_66 : decode cX9_count 66 = .ok (.ireturn, 1) := by decide +kernel
theorem dX9_count_67 : decode cX9_count 67 = .ok (.aload_n 0, 1) := by decide +kernel
theorem dX9_count_68 : decode cX9_count 68 = .ok (.getfield 7, 3) := by decide +kernel
theorem dX9_count_71 : decode cX9_count 71 = .ok (.iconst 2, 1) := by decide +kernel
theorem dX9_count_72 : decode cX9_count 72 = .ok (.iaload, 1) := by decide +kernel
theorem dX9_count_73 : decode cX9_count 73 = .ok (.ireturn, 1) := by decide +kernel
theorem dX9_count_74 : decode cX9_count 74 = .ok (.aload_n 0, 1) := by decide +kernel
theorem dX9_count_75 : decode cX9_count 75 = .ok (.getfield 7, 3) := by decide +kernel
theorem dX9_count_78 : decode cX9_count 78 = .ok (.iconst 1, 1) := by decide +kernel
theorem dX9_count_79 : decode cX9_count 79 = .ok (.iaload, 1) := by decide +kernel
theorem dX9_count_80 : decode cX9_count 80 = .ok (.ireturn, 1) := by decide +kernel
theorem dX9_count_81 : decode cX9_count 81 = .ok (.aload_n 0, 1) := by decide +kernel
theorem dX9_count_82 : decode cX9_count 82 = .ok (.getfield 7, 3) := by decide +kernel
theorem dX9_count_85 : decode cX9_count 85 = .ok (.iconst 3, 1) := by decide +kernel
theorem dX9_count_86 : decode cX9_count 86 = .ok (.iaload, 1) := by decide +kernel
theorem dX9_count_87 : decode cX9_count 87 = .ok (.ireturn, 1) := by decide +kernel
theorem dX9_count_88 : decode cX9_count 88 = .ok (.iconst 0, 1) := by decide +kernel
theorem dX9_count_89 : decode cX9_count 89 = .ok (.istore_n 3, 1) := by decide +kernel
theorem dX9_count_90 : decode cX9_count 90 = .ok (.iload_n 3, 1) := by decide +kernel
theorem dX9_count_91 : decode cX9_count 91 = .ok (.aload_n 0, 1) := by decide +kernel
theorem dX9_count_92 : decode cX9_count 92 = .ok (.getfield 7, 3) := by decide +kernel
theorem dX9_count_95 : decode cX9_count 95 = .ok (.iconst 0, 1) := by decide +kernel
theorem dX9_count_96 : decode cX9_count 96 = .ok (.iaload, 1) := by decide +kernel
theorem dX9_count_97 : decode cX9_count 97 = .ok (.if_icmp .ge 20, 3) := by decide +kernel
theorem dX9_count_100 : decode cX9_count 100 = .ok (.iload_n 2, 1) := by decide +kernel
theorem dX9_count_101 : decode cX9_count 101 = .ok (.aload_n 0, 1) := by decide +kernel
theorem dX9_count_102 : decode cX9_count 102 = .ok (.getfield 7, 3) := by decide +kernel
theorem dX9_count_105 : decode cX9_count 105 = .ok (.iconst 4, 1) := by decide +kernel
theorem dX9_count_106 : decode cX9_count 106 = .ok (.iload_n 3, 1) := by decide +kernel
theorem dX9_count_107 : decode cX9_count 107 = .ok (.iadd, 1) := by decide +kernel
theorem dX9_count_108 : decode cX9_count 108 = .ok (.iaload, 1) := by decide +kernel
theorem dX9_count_109 : decode cX9_count 109 = .ok (.iadd, 1) := by decide +kernel
theorem dX9_count_110 : decode cX9_count 110 = .ok (.istore_n 2, 1) := by decide +kernel
theorem dX9_count_111 : decode cX9_count 111 = .ok (.iinc 3 1, 3) := by decide +kernel
theorem dX9_count_114 : decode cX9_count 114 = .ok (.goto (-24), 3) := by decide +kernel
theorem dX9_count_117 : decode cX9_count 117 = .ok (.iload_n 2, 1) := by decide +kernel
theorem dX9_count_118 : decode cX9_count 118 = .ok (.ireturn, 1) := by decide +kernel
theorem dX9_count_119 : decode cX9_count 119 = .ok (.iconst 1, 1) := by decide +kernel
theorem dX9_count_120 : decode cX9_count 120 = .ok (.istore_n 3, 1) := by decide +kernel
theorem dX9_count_121 : decode cX9_count 121 = .ok (.iload_n 3, 1) := by decide +kernel
theorem dX9_count_122 : decode cX9_count 122 = .ok (.bipush 9, 2) := by decide +kernel
theorem dX9_count_124 : decode cX9_count 124 = .ok (.if_icmp .ge 31, 3) := by decide +kernel
theorem dX9_count_127 : decode cX9_count 127 = .ok (.iload_n 2, 1) := by decide +kernel
theorem dX9_count_128 : decode cX9_count 128 = .ok (.aload_n 0, 1) := by decide +kernel
theorem dX9_count_129 : decode cX9_count 129 = .ok (.aload_n 0, 1) := by decide +kernel
theorem dX9_count_130 : decode cX9_count 130 = .ok (.getfield 7, 3) := by decide +kernel
theorem dX9_count_133 : decode cX9_count 133 = .ok (.iconst 3, 1) := by decide +kernel
theorem dX9_count_134 : decode cX9_count 134 = .ok (.iaload, 1) := by decide +kernel
theorem dX9_count_135 : decode cX9_count 135 = .ok (.iload_n 3, 1) := by decide +kernel
theorem dX9_count_136 : decode cX9_count 136 = .ok (.invokevirtual 172, 3) := by decide +kernel
theorem dX9_count_139 : decode cX9_count 139 = .ok (.ifCond .eq 7, 3) := by decide +kernel
theorem dX9_count_142 : decode cX9_count 142 = .ok (.iconst 1, 1) := by decide +kernel
theorem dX9_count_143 : decode cX9_count 143 = .ok (.goto 4, 3) := by decide +kernel
theorem dX9_count_146 : decode cX9_count 146 = .ok (.iconst 0, 1) := by decide +kernel
theorem dX9_count_147 : decode cX9_count 147 = .ok (.iadd, 1) := by decide +kernel
theorem dX9_count_148 : decode cX9_count 148 = .ok (.istore_n 2, 1) := by decide +kernel
theorem dX9_count_149 : decode cX9_count 149 = .ok (.iinc 3 1, 3) := by decide +kernel
theorem dX9_count_152 : decode cX9_count 152 = .ok (.goto (-31), 3) := by decide +kernel
theorem dX9_count_155 : decode cX9_count 155 = .ok (.iload_n 2, 1) := by decide +kernel
theorem dX9_count_156 : decode cX9_count 156 = .ok (.ireturn, 1) := by decide +kernel
theorem dX9_count_157 : decode cX9_count 157 = .ok (.aload_n 0, 1) := by decide +kernel
theorem dX9_count_158 : decode cX9_count 158 = .ok (.getfield 128, 3) := by decide +kernel
theorem dX9_count_161 : decode cX9_count 161 = .ok (.ireturn, 1) := by decide +kernel
theorem dX9_count_162 : decode cX9_count 162 = .ok (.aload_n 0, 1) := by decide +kernel
theorem dX9_count_163 : decode cX9_count 163 = .ok (.getfield 131, 3) := by decide +kernel
theorem dX9_count_166 : decode cX9_count 166 = .ok (.ireturn, 1) := by decide +kernel
theorem dX9_count_167 : decode cX9_count 167 = .ok (.aload_n 0, 1) := by decide +kernel
theorem dX9_count_168 : decode cX9_count 168 = .ok (.getfield 58, 3) := by decide +kernel
theorem dX9_count_171 : decode cX9_count 171 = .ok (.ireturn, 1) := by decide +kernel
theorem dX9_count_172 : decode cX9_count 172 = .ok (.bipush (-3), 2) := by decide +kernel
theorem dX9_count_174 : decode cX9_count 174 = .ok (.ireturn, 1) := by decide +kernel
def fX9_count_90 (o_above : Int32) (o_below : Int32) (o_road_f : Nat → Int32)  : Nat → Int32 → Int32 → Int32 × Int32 × Int32
  | 0, _, _ => default
  | n + 1, v90_2, v90_3 => if (o_road_f 0) ≤ v90_3 then ((v90_2, o_above, o_below)) else (fX9_count_90 o_above o_below o_road_f n (v90_2 + (o_road_f (4 + v90_3).toNatClampNeg)) (v90_3 + 1))
def fX9_count_121 (o_road_f : Nat → Int32)  : Nat → Int32 → Int32 → Int32 → Int32 → Int32 × Int32 × Int32
  | 0, _, _, _, _ => default
  | n + 1, v121_2, v121_3, o_above_121, o_below_121 => if 9 ≤ v121_3 then ((v121_2, o_above_121, o_below_121)) else (match fX9_layMean (o_road_f 3) v121_3 o_road_f with | (r3, u1, u2) => xlet (if r3 = 0 then (0 : Int32) else 1) (fun y_1 => fX9_count_121 o_road_f n (v121_2 + y_1) (v121_3 + 1) u1 u2))
def fX9_count (a1 : Int32) (o_acts : Int32) (o_many : Int32) (o_letters : Int32) (o_above : Int32) (o_below : Int32) (o_road_f : Nat → Int32) : Int32 × Int32 × Int32 := if a1 = 0 then (((o_road_f 0), o_above, o_below)) else (if a1 = 1 then (((o_road_f 2), o_above, o_below)) else (if a1 = 2 then (((o_road_f 1), o_above, o_below)) else (if a1 = 3 then (((o_road_f 3), o_above, o_below)) else (if a1 = 4 then (fX9_count_90 o_above o_below o_road_f 1000 0 0) else (if a1 = 5 then (fX9_count_121 o_road_f 1000 0 1 o_above o_below) else (if a1 = 6 then ((o_many, o_above, o_below)) else (if a1 = 7 then ((o_acts, o_above, o_below)) else (if a1 = 8 then ((o_letters, o_above, o_below)) else (((-3), o_above, o_below))))))))))
set_option maxHeartbeats 4000000 in
set_option maxRecDepth 100000 in
theorem c_X9_count (l : Launch) (D : va_G) (cI cZ : ClassId) (sz : Nat) (o : Nat) (a1 : Int32) (o_road : Nat) (o_told : Nat) (o_fresh : Nat) (o_was : Nat) (o_acts : Int32) (o_kept : Nat) (o_isKept : Nat) (o_sights : Nat) (o_many : Int32) (o_text : Nat) (o_letters : Int32) (o_thrown : Int32) (o_cursor : Int32) (o_token : Int32) (o_start : Int32) (o_value : Int64) (o_isFault : Int32) (o_faultAt : Int32) (o_above : Int32) (o_below : Int32) (o_topOf : Nat) (o_partsOf : Nat) (o_sent : Nat) (o_road_f : Nat → Int32) (hn0 : 4 ≤ (o_road_f 0).toInt) (hn1 : (o_road_f 0).toInt ≤ 20) (hv0 : 0 ≤ (o_road_f 2).toInt) (hv6 : (o_road_f 2).toInt ≤ 6) (hhab : ∀ w : Int32, 0 ≤ w.toInt → w.toInt < (o_road_f 2).toInt → ¬ o_road_f (30 + w).toNatClampNeg = 0) : Met l yX9_count wsX9_count ({ frames := 4, cells := 0, slots := 0, locals := 97 } : Room) (va_Pc [.ref o, .int a1] (xP D cI cZ [(o, .inr (9, [.ref o_road, .ref o_told, .ref o_fresh, .ref o_was, .int o_acts, .ref o_kept, .ref o_isKept, .ref o_sights, .int o_many, .ref o_text, .int o_letters, .int o_thrown, .int o_cursor, .int o_token, .int o_start, .long o_value, .int o_isFault, .int o_faultAt, .int o_above, .int o_below, .ref o_topOf, .ref o_partsOf, .ref o_sent])), (o_road, .inl (cI, 36, .inl o_road_f))] sz)) (va_Qi (fun (r : Int32) (u : Int32 × Int32) => (r, u) = fX9_count a1 o_acts o_many o_letters o_above o_below o_road_f) (fun (u : Int32 × Int32) t => xB D cI cZ [(o, .inr (9, [.ref o_road, .ref o_told, .ref o_fresh, .ref o_was, .int o_acts, .ref o_kept, .ref o_isKept, .ref o_sights, .int o_many, .ref o_text, .int o_letters, .int 0, .int o_cursor, .int o_token, .int o_start, .long o_value, .int o_isFault, .int o_faultAt, .int u.1, .int u.2, .ref o_topOf, .ref o_partsOf, .ref o_sent])), (o_road, .inl (cI, 36, .inl o_road_f))] (va_A [(o, .inr (9, [.ref o_road, .ref o_told, .ref o_fresh, .ref o_was, .int o_acts, .ref o_kept, .ref o_isKept, .ref o_sights, .int o_many, .ref o_text, .int o_letters, .int o_thrown, .int o_cursor, .int o_token, .int o_start, .long o_value, .int o_isFault, .int o_faultAt, .int o_above, .int o_below, .ref o_topOf, .ref o_partsOf, .ref o_sent])), (o_road, .inl (cI, 36, .inl o_road_f))] sz) t) (va_A [(o, .inr (9, [.ref o_road, .ref o_told, .ref o_fresh, .ref o_was, .int o_acts, .ref o_kept, .ref o_isKept, .ref o_sights, .int o_many, .ref o_text, .int o_letters, .int o_thrown, .int o_cursor, .int o_token, .int o_start, .long o_value, .int o_isFault, .int o_faultAt, .int o_above, .int o_below, .ref o_topOf, .ref o_partsOf, .ref o_sent])), (o_road, .inl (cI, 36, .inl o_road_f))] sz)) 0 0 (va_A [(o, .inr (9, [.ref o_road, .ref o_told, .ref o_fresh, .ref o_was, .int o_acts, .ref o_kept, .ref o_isKept, .ref o_sights, .int o_many, .ref o_text, .int o_letters, .int o_thrown, .int o_cursor, .int o_token, .int o_start, .long o_value, .int o_isFault, .int o_faultAt, .int o_above, .int o_below, .ref o_topOf, .ref o_partsOf, .ref o_sent])), (o_road, .inl (cI, 36, .inl o_road_f))] sz) := by
  refine Met.ofW (cc := cX9_count) (maxL := 4) (ret := (some .int)) (by decide) rfl ?_
  intro p e s m args below meth c s₁ B hml hv
  obtain ⟨hargs, hsz, hP, hK, hD0, hE⟩ := hv
  subst hargs
  have hx := B.exec
  have hb := B.bytes
  have hr := B.returns
  have hts := atoms_spec (ws := wsX9_count) B.pre
  have hown : s.vm.findClass RX9 = some m.cls := findClass_of_methodNamed B.named
  have hlocks := B.notSynchronized
  subst hsz
  have hD := hD0.self (sz := s.heap.size)
  generalize hAe : va_A [(o, .inr (9, [.ref o_road, .ref o_told, .ref o_fresh, .ref o_was, .int o_acts, .ref o_kept, .ref o_isKept, .ref o_sights, .int o_many, .ref o_text, .int o_letters, .int o_thrown, .int o_cursor, .int o_token, .int o_start, .long o_value, .int o_isFault, .int o_faultAt, .int o_above, .int o_below, .ref o_topOf, .ref o_partsOf, .ref o_sent])), (o_road, .inl (cI, 36, .inl o_road_f))] s.heap.size = A at hD ⊢
  have hA : ∀ q : Nat, s.heap.size ≤ q → A q := fun q h => by rw [← hAe]; exact Or.inr h
  have hS : va_S A s.heap s.heap [] := va_S.rf
  have hl := lv_entry ([.ref o, .int a1]) (n := 4) (Nat.le_of_ble_eq_true rfl)
  rw [lg_entry_eq]
  generalize (lg_sl ([.ref o, .int a1]) ++ List.replicate (4 - (lg_sl ([.ref o, .int a1])).length) Slot.unset).toArray = ls at hl ⊢
  have hl : lv_has ls 4 [(0, .ref o), (1, .int a1)] := hl
  refine wq (X := fun Q => ∀ (pc : Nat) (H : Heap) (locs : List Loc) (ls : Array Slot) (r : Int32) (u : Int32 × Int32) (hd : decode cX9_count pc = .ok (.ireturn, 1)) (hp : (r, u) = fX9_count a1 o_acts o_many o_letters o_above o_below o_road_f) (hP : va_P D vwCl [(o, .inr (9, [.ref o_road, .ref o_told, .ref o_fresh, .ref o_was, .int o_acts, .ref o_kept, .ref o_isKept, .ref o_sights, .int o_many, .ref o_text, .int o_letters, .int 0, .int o_cursor, .int o_token, .int o_start, .long o_value, .int o_isFault, .int o_faultAt, .int u.1, .int u.2, .ref o_topOf, .ref o_partsOf, .ref o_sent])), (o_road, .inl (cI, 36, .inl o_road_f))] H) (hD : va_D A [(o, .inr (9, [.ref o_road, .ref o_told, .ref o_fresh, .ref o_was, .int o_acts, .ref o_kept, .ref o_isKept, .ref o_sights, .int o_many, .ref o_text, .int o_letters, .int 0, .int o_cursor, .int o_token, .int o_start, .long o_value, .int o_isFault, .int o_faultAt, .int u.1, .int u.2, .ref o_topOf, .ref o_partsOf, .ref o_sent])), (o_road, .inl (cI, 36, .inl o_road_f))]) (hS : va_S A s.heap H locs), W p l e ({ frames := 4, cells := 0, slots := 0, locals := 97 } : Room) s m ([.ref o, .int a1] : List Value).toArray below meth c H locs 0 0 Q (F0 m pc ls [.int r])) ?_ (fun Q hret => ?_)
  · intro pc H locs ls r u hd hp hP hD hS
    exact W.iret (v := r) hx hb hr (fun t ht hW => ⟨⟨r, u, rfl, hp, by rw [ht]; exact hP, va_K.moved hW.alike hK, hD⟩, hS.F ht⟩) hS.2.2 hd
  have hin_9 : ∀ w ∈ u_ws RX9 TX9 23, w ∈ wsX9_count := by decide +kernel
  have fl_7 := hts (.fieldLink RX9 7 "MileRoadModel" "road" "[I") (by decide +kernel)
  have fl_48 := hts (.fieldLink RX9 48 "MileRoadModel" "thrown" "I") (by decide +kernel)
  have fl_58 := hts (.fieldLink RX9 58 "MileRoadModel" "letters" "I") (by decide +kernel)
  have fl_128 := hts (.fieldLink RX9 128 "MileRoadModel" "many" "I") (by decide +kernel)
  have fl_131 := hts (.fieldLink RX9 131 "MileRoadModel" "acts" "I") (by decide +kernel)
  have zl_0 : (0 : Int32).toInt = 0 := by decide
  have zl_1 : (1 : Int32).toInt = 1 := by decide
  have zl_4 : (4 : Int32).toInt = 4 := by decide
  have zl_9 : (9 : Int32).toInt = 9 := by decide
  have hF : fX9_count a1 o_acts o_many o_letters o_above o_below o_road_f = fX9_count a1 o_acts o_many o_letters o_above o_below o_road_f := rfl
  have L_90 : ∀  (n_90 : Nat) (v90_2 : Int32) (v90_3 : Int32) (h1_90 : 0 ≤ v90_3.toInt) (h2_90 : v90_3.toInt ≤ 20) (hm : 20 - v90_3.toInt < (n_90 : Int)) (H : Heap) (locs : List Loc) (ls : Array Slot) (hl : lv_has ls 4 [(0, .ref o), (1, .int a1), (2, .int v90_2), (3, .int v90_3)]) (hP : va_P D vwCl [(o, .inr (9, [.ref o_road, .ref o_told, .ref o_fresh, .ref o_was, .int o_acts, .ref o_kept, .ref o_isKept, .ref o_sights, .int o_many, .ref o_text, .int o_letters, .int 0, .int o_cursor, .int o_token, .int o_start, .long o_value, .int o_isFault, .int o_faultAt, .int o_above, .int o_below, .ref o_topOf, .ref o_partsOf, .ref o_sent])), (o_road, .inl (cI, 36, .inl o_road_f))] H) (hD : va_D A [(o, .inr (9, [.ref o_road, .ref o_told, .ref o_fresh, .ref o_was, .int o_acts, .ref o_kept, .ref o_isKept, .ref o_sights, .int o_many, .ref o_text, .int o_letters, .int 0, .int o_cursor, .int o_token, .int o_start, .long o_value, .int o_isFault, .int o_faultAt, .int o_above, .int o_below, .ref o_topOf, .ref o_partsOf, .ref o_sent])), (o_road, .inl (cI, 36, .inl o_road_f))]) (hS : va_S A s.heap H locs) (hF : fX9_count a1 o_acts o_many o_letters o_above o_below o_road_f = fX9_count_90 o_above o_below o_road_f n_90 v90_2 v90_3), W p l e ({ frames := 4, cells := 0, slots := 0, locals := 97 } : Room) s m ([.ref o, .int a1] : List Value).toArray below meth c H locs 0 0 Q (F0 m 90 ls []) := by
    intro  n_90
    induction n_90 with
    | zero =>
      intro v90_2 v90_3 h1_90 h2_90 hm H locs ls hl hP hD hS hF
      exact absurd hm (by omega)
    | succ n_90 ih_90 =>
      intro v90_2 v90_3 h1_90 h2_90 hm H locs ls hl hP hD hS hF
      refine lv_iload_n hx hb dX9_count_90 rfl (lv_at hl 3 rfl) ?_
      refine lv_aload_n hx hb dX9_count_91 rfl (lv_at hl 0 rfl) ?_
      refine xget hx hb hts hown hK 9 (C2 := RX9) (T := TX9) (N := 23) rfl hin_9 hP 0 rfl 0 (by decide) fl_7 rfl rfl rfl dX9_count_92 ?_
      refine lv_iconst (v := 0) hx hb dX9_count_95 (by decide) ?_
      refine xald hx hb hK hP 1 0 (k := 0) rfl rfl (vi (by decide) (by decide)) (by decide) dX9_count_96 ?_
      refine lv_icmp_ge (tgt := 117) hx hb dX9_count_97 (by decide) (fun c_10 => ?_) (fun c_10 => ?_)
      · have kc_10 := t_le c_10
        refine lv_iload_n hx hb dX9_count_117 rfl (lv_at hl 2 rfl) ?_
        exact hret _ _ _ _ v90_2 (o_above, o_below) dX9_count_118 ((hF.trans (by simp only [fX9_count_90, xlet, if_pos c_10])).symm) hP hD hS
      · have kc_10 := t_nle c_10
        refine lv_iload_n hx hb dX9_count_100 rfl (lv_at hl 2 rfl) ?_
        refine lv_aload_n hx hb dX9_count_101 rfl (lv_at hl 0 rfl) ?_
        refine xget hx hb hts hown hK 9 (C2 := RX9) (T := TX9) (N := 23) rfl hin_9 hP 0 rfl 0 (by decide) fl_7 rfl rfl rfl dX9_count_102 ?_
        refine lv_iconst (v := 4) hx hb dX9_count_105 (by decide) ?_
        refine lv_iload_n hx hb dX9_count_106 rfl (lv_at hl 3 rfl) ?_
        refine lv_iadd hx hb dX9_count_107 ?_
        have z_1 : (4 + v90_3).toInt = (4 : Int32).toInt + v90_3.toInt := z_add (by omega) (by omega)
        refine xald hx hb hK hP 1 0 (k := (4 + v90_3).toNatClampNeg) rfl rfl (vi (by omega) (by omega)) rfl dX9_count_108 ?_
        refine lv_iadd hx hb dX9_count_109 ?_
        refine lv_istore_n (lv' := [(2, .int (v90_2 + (o_road_f (4 + v90_3).toNatClampNeg))), (0, .ref o), (1, .int a1), (3, .int v90_3)]) hx hb dX9_count_110 rfl hl (by decide) rfl (fun ls hl => ?_)
        refine lv_iinc (v := (v90_3 + 1)) (lv' := [(3, .int (v90_3 + 1)), (2, .int (v90_2 + (o_road_f (4 + v90_3).toNatClampNeg))), (0, .ref o), (1, .int a1)]) hx hb dX9_count_111 hl (k := 3) rfl (by rfl) (by decide) rfl (fun ls hl => ?_)
        refine lv_goto (tgt := 90) hx hb dX9_count_114 (by decide) ?_
        have z_2 : (v90_3 + 1).toInt = v90_3.toInt + (1 : Int32).toInt := z_add (by omega) (by omega)
        exact ih_90 (v90_2 + (o_road_f (4 + v90_3).toNatClampNeg)) (v90_3 + 1) (by first | assumption | omega | decide | (split <;> rename_i hh <;> first | (have h9 := t_nlt hh; omega) | (have h9 := t_lt hh; omega) | (have h9 := t_nle hh; omega) | (have h9 := t_le hh; omega))) (by first | assumption | omega | decide | (split <;> rename_i hh <;> first | (have h9 := t_nlt hh; omega) | (have h9 := t_lt hh; omega) | (have h9 := t_nle hh; omega) | (have h9 := t_le hh; omega))) (by first | assumption | omega | decide | (split <;> rename_i hh <;> first | (have h9 := t_nlt hh; omega) | (have h9 := t_lt hh; omega) | (have h9 := t_nle hh; omega) | (have h9 := t_le hh; omega))) _ _ _ (lv_sub hl [2, 3, 1, 0] rfl) hP hD hS (hF.trans (by simp only [fX9_count_90, xlet, if_neg c_10]))
  have L_121 : ∀  (n_121 : Nat) (v121_2 : Int32) (v121_3 : Int32) (o_above_121 : Int32) (o_below_121 : Int32) (h1_121 : 1 ≤ v121_3.toInt) (h2_121 : v121_3.toInt ≤ 9) (hm : 9 - v121_3.toInt < (n_121 : Int)) (H : Heap) (locs : List Loc) (ls : Array Slot) (hl : lv_has ls 4 [(0, .ref o), (1, .int a1), (2, .int v121_2), (3, .int v121_3)]) (hP : va_P D vwCl [(o, .inr (9, [.ref o_road, .ref o_told, .ref o_fresh, .ref o_was, .int o_acts, .ref o_kept, .ref o_isKept, .ref o_sights, .int o_many, .ref o_text, .int o_letters, .int 0, .int o_cursor, .int o_token, .int o_start, .long o_value, .int o_isFault, .int o_faultAt, .int o_above_121, .int o_below_121, .ref o_topOf, .ref o_partsOf, .ref o_sent])), (o_road, .inl (cI, 36, .inl o_road_f))] H) (hD : va_D A [(o, .inr (9, [.ref o_road, .ref o_told, .ref o_fresh, .ref o_was, .int o_acts, .ref o_kept, .ref o_isKept, .ref o_sights, .int o_many, .ref o_text, .int o_letters, .int 0, .int o_cursor, .int o_token, .int o_start, .long o_value, .int o_isFault, .int o_faultAt, .int o_above_121, .int o_below_121, .ref o_topOf, .ref o_partsOf, .ref o_sent])), (o_road, .inl (cI, 36, .inl o_road_f))]) (hS : va_S A s.heap H locs) (hF : fX9_count a1 o_acts o_many o_letters o_above o_below o_road_f = fX9_count_121 o_road_f n_121 v121_2 v121_3 o_above_121 o_below_121), W p l e ({ frames := 4, cells := 0, slots := 0, locals := 97 } : Room) s m ([.ref o, .int a1] : List Value).toArray below meth c H locs 0 0 Q (F0 m 121 ls []) := by
    intro  n_121
    induction n_121 with
    | zero =>
      intro v121_2 v121_3 o_above_121 o_below_121 h1_121 h2_121 hm H locs ls hl hP hD hS hF
      exact absurd hm (by omega)
    | succ n_121 ih_121 =>
      intro v121_2 v121_3 o_above_121 o_below_121 h1_121 h2_121 hm H locs ls hl hP hD hS hF
      refine lv_iload_n hx hb dX9_count_121 rfl (lv_at hl 3 rfl) ?_
      refine lv_bipush (v := 9) hx hb dX9_count_122 (by decide) ?_
      refine lv_icmp_ge (tgt := 155) hx hb dX9_count_124 (by decide) (fun c_11 => ?_) (fun c_11 => ?_)
      · have kc_11 := t_le c_11
        refine lv_iload_n hx hb dX9_count_155 rfl (lv_at hl 2 rfl) ?_
        exact hret _ _ _ _ v121_2 (o_above_121, o_below_121) dX9_count_156 ((hF.trans (by simp only [fX9_count_121, xlet, if_pos c_11])).symm) hP hD hS
      · have kc_11 := t_nle c_11
        refine lv_iload_n hx hb dX9_count_127 rfl (lv_at hl 2 rfl) ?_
        refine lv_aload_n hx hb dX9_count_128 rfl (lv_at hl 0 rfl) ?_
        refine lv_aload_n hx hb dX9_count_129 rfl (lv_at hl 0 rfl) ?_
        refine xget hx hb hts hown hK 9 (C2 := RX9) (T := TX9) (N := 23) rfl hin_9 hP 0 rfl 0 (by decide) fl_7 rfl rfl rfl dX9_count_130 ?_
        refine lv_iconst (v := 3) hx hb dX9_count_133 (by decide) ?_
        refine xald hx hb hK hP 1 0 (k := 3) rfl rfl (vi (by decide) (by decide)) (by decide) dX9_count_134 ?_
        refine lv_iload_n hx hb dX9_count_135 rfl (lv_at hl 3 rfl) ?_
        refine xcalli (S := Int32 × Int32) (Wc := [(o, .inr (9, [.ref o_road, .ref o_told, .ref o_fresh, .ref o_was, .int o_acts, .ref o_kept, .ref o_isKept, .ref o_sights, .int o_many, .ref o_text, .int o_letters, .int 0, .int o_cursor, .int o_token, .int o_start, .long o_value, .int o_isFault, .int o_faultAt, .int o_above_121, .int o_below_121, .ref o_topOf, .ref o_partsOf, .ref o_sent])), (o_road, .inl (cI, 36, .inl o_road_f))]) (wr := []) (W1 := (fun (u : Int32 × Int32) => [(o, .inr (9, [.ref o_road, .ref o_told, .ref o_fresh, .ref o_was, .int o_acts, .ref o_kept, .ref o_isKept, .ref o_sights, .int o_many, .ref o_text, .int o_letters, .int 0, .int o_cursor, .int o_token, .int o_start, .long o_value, .int o_isFault, .int o_faultAt, .int u.1, .int u.2, .ref o_topOf, .ref o_partsOf, .ref o_sent])), (o_road, .inl (cI, 36, .inl o_road_f))])) (Wn := (fun (u : Int32 × Int32) => [(o, .inr (9, [.ref o_road, .ref o_told, .ref o_fresh, .ref o_was, .int o_acts, .ref o_kept, .ref o_isKept, .ref o_sights, .int o_many, .ref o_text, .int o_letters, .int 0, .int o_cursor, .int o_token, .int o_start, .long o_value, .int o_isFault, .int o_faultAt, .int u.1, .int u.2, .ref o_topOf, .ref o_partsOf, .ref o_sent])), (o_road, .inl (cI, 36, .inl o_road_f))])) (xrunV hx hb hml hown hts (c_X9_layMean l D cI cZ _ o (o_road_f 3) v121_3 o_road o_told o_fresh o_was o_acts o_kept o_isKept o_sights o_many o_text o_letters 0 o_cursor o_token o_start o_value o_isFault o_faultAt o_above_121 o_below_121 o_topOf o_partsOf o_sent o_road_f hn0 hn1 hv0 hv6 hhab) (cwV 2 hts gX9_count_X9_layMean rfl rfl rfl (by decide +kernel) ⟨Nat.le_of_ble_eq_true rfl, Nat.le_of_ble_eq_true rfl⟩) hE hK hP hD [0, 1] rfl rfl 0 9 (T := TX9) (N := 23) rfl rfl rfl hl.1 rfl (Nat.le_of_ble_eq_true rfl) dX9_count_136 ⟨Nat.le_of_ble_eq_true rfl, Nat.le_of_ble_eq_true rfl⟩) hP hD hS hA [0, 1] [] [0, 1] rfl rfl rfl (by decide) (fun _ => rfl) rfl (fun r3 u H locs hw hz hP hD hS => ?_)
        obtain ⟨u1, u2⟩ := u
        have hw_2 := hw.symm
        have hP : va_P D vwCl [(o, .inr (9, [.ref o_road, .ref o_told, .ref o_fresh, .ref o_was, .int o_acts, .ref o_kept, .ref o_isKept, .ref o_sights, .int o_many, .ref o_text, .int o_letters, .int 0, .int o_cursor, .int o_token, .int o_start, .long o_value, .int o_isFault, .int o_faultAt, .int u1, .int u2, .ref o_topOf, .ref o_partsOf, .ref o_sent])), (o_road, .inl (cI, 36, .inl o_road_f))] H := hP
        have hD : va_D A [(o, .inr (9, [.ref o_road, .ref o_told, .ref o_fresh, .ref o_was, .int o_acts, .ref o_kept, .ref o_isKept, .ref o_sights, .int o_many, .ref o_text, .int o_letters, .int 0, .int o_cursor, .int o_token, .int o_start, .long o_value, .int o_isFault, .int o_faultAt, .int u1, .int u2, .ref o_topOf, .ref o_partsOf, .ref o_sent])), (o_road, .inl (cI, 36, .inl o_road_f))] := hD
        have K_y_1 : ∀ (y_1 : Int32) (hy_y_1 : (if r3 = 0 then (0 : Int32) else 1) = y_1) (H : Heap) (locs : List Loc) (hP : va_P D vwCl [(o, .inr (9, [.ref o_road, .ref o_told, .ref o_fresh, .ref o_was, .int o_acts, .ref o_kept, .ref o_isKept, .ref o_sights, .int o_many, .ref o_text, .int o_letters, .int 0, .int o_cursor, .int o_token, .int o_start, .long o_value, .int o_isFault, .int o_faultAt, .int u1, .int u2, .ref o_topOf, .ref o_partsOf, .ref o_sent])), (o_road, .inl (cI, 36, .inl o_road_f))] H) (hD : va_D A [(o, .inr (9, [.ref o_road, .ref o_told, .ref o_fresh, .ref o_was, .int o_acts, .ref o_kept, .ref o_isKept, .ref o_sights, .int o_many, .ref o_text, .int o_letters, .int 0, .int o_cursor, .int o_token, .int o_start, .long o_value, .int o_isFault, .int o_faultAt, .int u1, .int u2, .ref o_topOf, .ref o_partsOf, .ref o_sent])), (o_road, .inl (cI, 36, .inl o_road_f))]) (hS : va_S A s.heap H locs), W p l e ({ frames := 4, cells := 0, slots := 0, locals := 97 } : Room) s m ([.ref o, .int a1] : List Value).toArray below meth c H locs 0 0 Q (F0 m 147 ls [.int y_1, .int v121_2]) := by
          intro y_1 hy_y_1 H locs hP hD hS
          have ky_y_1 : y_1 = 0 ∨ y_1 = 1 := by rw [← hy_y_1]; (repeat' split) <;> simp
          refine lv_iadd hx hb dX9_count_147 ?_
          refine lv_istore_n (lv' := [(2, .int (v121_2 + y_1)), (0, .ref o), (1, .int a1), (3, .int v121_3)]) hx hb dX9_count_148 rfl hl (by decide) rfl (fun ls hl => ?_)
          refine lv_iinc (v := (v121_3 + 1)) (lv' := [(3, .int (v121_3 + 1)), (2, .int (v121_2 + y_1)), (0, .ref o), (1, .int a1)]) hx hb dX9_count_149 hl (k := 3) rfl (by rfl) (by decide) rfl (fun ls hl => ?_)
          refine lv_goto (tgt := 121) hx hb dX9_count_152 (by decide) ?_
          have z_3 : (v121_3 + 1).toInt = v121_3.toInt + (1 : Int32).toInt := z_add (by omega) (by omega)
          exact ih_121 (v121_2 + y_1) (v121_3 + 1) u1 u2 (by first | assumption | omega | decide | (split <;> rename_i hh <;> first | (have h9 := t_nlt hh; omega) | (have h9 := t_lt hh; omega) | (have h9 := t_nle hh; omega) | (have h9 := t_le hh; omega))) (by first | assumption | omega | decide | (split <;> rename_i hh <;> first | (have h9 := t_nlt hh; omega) | (have h9 := t_lt hh; omega) | (have h9 := t_nle hh; omega) | (have h9 := t_le hh; omega))) (by first | assumption | omega | decide | (split <;> rename_i hh <;> first | (have h9 := t_nlt hh; omega) | (have h9 := t_lt hh; omega) | (have h9 := t_nle hh; omega) | (have h9 := t_le hh; omega))) _ _ _ (lv_sub hl [2, 3, 1, 0] rfl) hP hD hS (hF.trans (by simp only [fX9_count_121, xlet, if_neg c_11, ↓hw_2, ↓hy_y_1]))
        refine lv_if_eq (tgt := 146) hx hb dX9_count_139 (by decide) (fun c_12 => ?_) (fun c_12 => ?_)
        · have kc_12 := t_eq c_12
          refine lv_iconst (v := 0) hx hb dX9_count_146 (by decide) ?_
          exact K_y_1 _ (by simp only [xlet, if_pos c_12]) _ _ hP hD hS
        · have kc_12 := t_neq c_12
          refine lv_iconst (v := 1) hx hb dX9_count_142 (by decide) ?_
          refine lv_goto (tgt := 147) hx hb dX9_count_143 (by decide) ?_
          exact K_y_1 _ (by simp only [xlet, if_neg c_12]) _ _ hP hD hS
  refine lv_aload_n hx hb dX9_count_0 rfl (lv_at hl 0 rfl) ?_
  refine lv_iconst (v := 0) hx hb dX9_count_1 (by decide) ?_
  refine xput hx hb hts hown hK 9 (C2 := RX9) (T := TX9) (N := 23) tyX9 rfl tyX9_ok nmX9 hin_9 hP hD hS 0 rfl 11 (by decide) fl_48 rfl rfl rfl rfl rfl (Nat.le_of_ble_eq_true rfl) dX9_count_2 [(o, .inr (9, [.ref o_road, .ref o_told, .ref o_fresh, .ref o_was, .int o_acts, .ref o_kept, .ref o_isKept, .ref o_sights, .int o_many, .ref o_text, .int o_letters, .int 0, .int o_cursor, .int o_token, .int o_start, .long o_value, .int o_isFault, .int o_faultAt, .int o_above, .int o_below, .ref o_topOf, .ref o_partsOf, .ref o_sent])), (o_road, .inl (cI, 36, .inl o_road_f))] rfl (fun H locs hP hD hS => ?_)
  refine lv_iconst (v := 0) hx hb dX9_count_5 (by decide) ?_
  refine lv_istore_n (lv' := [(2, .int 0), (0, .ref o), (1, .int a1)]) hx hb dX9_count_6 rfl hl (by decide) rfl (fun ls hl => ?_)
  refine lv_iload_n hx hb dX9_count_7 rfl (lv_at hl 2 rfl) ?_
  by_cases c_1 : a1 = 0
  · refine lv_tableIn (tgt := 60) hx hb dX9_count_8 (by rw [c_1]; decide) (by rw [c_1]; decide) (by rw [c_1]; rfl) (by decide) ?_
    refine lv_aload_n hx hb dX9_count_60 rfl (lv_at hl 1 rfl) ?_
    refine xget hx hb hts hown hK 9 (C2 := RX9) (T := TX9) (N := 23) rfl hin_9 hP 0 rfl 0 (by decide) fl_7 rfl rfl rfl dX9_count_61 ?_
    refine lv_iconst (v := 0) hx hb dX9_count_64 (by decide) ?_
    refine xald hx hb hK hP 1 0 (k := 0) rfl rfl (vi (by decide) (by decide)) (by decide) dX9_count_65 ?_
    exact hret _ _ _ _ (o_road_f 0) (o_above, o_below) dX9_count_66 ((hF.trans (by simp only [fX9_count, xlet, if_pos c_1])).symm) hP hD hS
  by_cases c_2 : a1 = 1
  · refine lv_tableIn (tgt := 67) hx hb dX9_count_8 (by rw [c_2]; decide) (by rw [c_2]; decide) (by rw [c_2]; rfl) (by decide) ?_
    refine lv_aload_n hx hb dX9_count_67 rfl (lv_at hl 1 rfl) ?_
    refine xget hx hb hts hown hK 9 (C2 := RX9) (T := TX9) (N := 23) rfl hin_9 hP 0 rfl 0 (by decide) fl_7 rfl rfl rfl dX9_count_68 ?_
    refine lv_iconst (v := 2) hx hb dX9_count_71 (by decide) ?_
    refine xald hx hb hK hP 1 0 (k := 2) rfl rfl (vi (by decide) (by decide)) (by decide) dX9_count_72 ?_
    exact hret _ _ _ _ (o_road_f 2) (o_above, o_below) dX9_count_73 ((hF.trans (by simp only [fX9_count, xlet, if_neg c_1, if_pos c_2])).symm) hP hD hS
  by_cases c_3 : a1 = 2
  · refine lv_tableIn (tgt := 74) hx hb dX9_count_8 (by rw [c_3]; decide) (by rw [c_3]; decide) (by rw [c_3]; rfl) (by decide) ?_
    refine lv_aload_n hx hb dX9_count_74 rfl (lv_at hl 1 rfl) ?_
    refine xget hx hb hts hown hK 9 (C2 := RX9) (T := TX9) (N := 23) rfl hin_9 hP 0 rfl 0 (by decide) fl_7 rfl rfl rfl dX9_count_75 ?_
    refine lv_iconst (v := 1) hx hb dX9_count_78 (by decide) ?_
    refine xald hx hb hK hP 1 0 (k := 1) rfl rfl (vi (by decide) (by decide)) (by decide) dX9_count_79 ?_
    exact hret _ _ _ _ (o_road_f 1) (o_above, o_below) dX9_count_80 ((hF.trans (by simp only [fX9_count, xlet, if_neg c_1, if_neg c_2, if_pos c_3])).symm) hP hD hS
  by_cases c_4 : a1 = 3
  · refine lv_tableIn (tgt := 81) hx hb dX9_count_8 (by rw [c_4]; decide) (by rw [c_4]; decide) (by rw [c_4]; rfl) (by decide) ?_
    refine lv_aload_n hx hb dX9_count_81 rfl (lv_at hl 1 rfl) ?_
    refine xget hx hb hts hown hK 9 (C2 := RX9) (T := TX9) (N := 23) rfl hin_9 hP 0 rfl 0 (by decide) fl_7 rfl rfl rfl dX9_count_82 ?_
    refine lv_iconst (v := 3) hx hb dX9_count_85 (by decide) ?_
    refine xald hx hb hK hP 1 0 (k := 3) rfl rfl (vi (by decide) (by decide)) (by decide) dX9_count_86 ?_
    exact hret _ _ _ _ (o_road_f 3) (o_above, o_below) dX9_count_87 ((hF.trans (by simp only [fX9_count, xlet, if_neg c_1, if_neg c_2, if_neg c_3, if_pos c_4])).symm) hP hD hS
  by_cases c_5 : a1 = 4
  · refine lv_tableIn (tgt := 88) hx hb dX9_count_8 (by rw [c_5]; decide) (by rw [c_5]; decide) (by rw [c_5]; rfl) (by decide) ?_
    refine lv_iconst (v := 0) hx hb dX9_count_88 (by decide) ?_
    refine lv_istore_n (lv' := [(3, .int 0), (2, .int 0), (0, .ref o), (1, .int a1)]) hx hb dX9_count_89 rfl hl (by decide) rfl (fun ls hl => ?_)
    exact L_90 1000 0 0 (by first | assumption | omega | decide | (split <;> rename_i hh <;> first | (have h9 := t_nlt hh; omega) | (have h9 := t_lt hh; omega) | (have h9 := t_nle hh; omega) | (have h9 := t_le hh; omega))) (by first | assumption | omega | decide | (split <;> rename_i hh <;> first | (have h9 := t_nlt hh; omega) | (have h9 := t_lt hh; omega) | (have h9 := t_nle hh; omega) | (have h9 := t_le hh; omega))) (by first | assumption | omega | decide | (split <;> rename_i hh <;> first | (have h9 := t_nlt hh; omega) | (have h9 := t_lt hh; omega) | (have h9 := t_nle hh; omega) | (have h9 := t_le hh; omega))) _ _ _ (lv_sub hl [2, 3, 1, 0] rfl) hP hD hS (hF.trans (by simp only [fX9_count, xlet, if_neg c_1, if_neg c_2, if_neg c_3, if_neg c_4, if_pos c_5]))
  by_cases c_6 : a1 = 5
  · refine lv_tableIn (tgt := 119) hx hb dX9_count_8 (by rw [c_6]; decide) (by rw [c_6]; decide) (by rw [c_6]; rfl) (by decide) ?_
    refine lv_iconst (v := 1) hx hb dX9_count_119 (by decide) ?_
    refine lv_istore_n (lv' := [(3, .int 1), (2, .int 0), (0, .ref o), (1, .int a1)]) hx hb dX9_count_120 rfl hl (by decide) rfl (fun ls hl => ?_)
    exact L_121 1000 0 1 o_above o_below (by first | assumption | omega | decide | (split <;> rename_i hh <;> first | (have h9 := t_nlt hh; omega) | (have h9 := t_lt hh; omega) | (have h9 := t_nle hh; omega) | (have h9 := t_le hh; omega))) (by first | assumption | omega | decide | (split <;> rename_i hh <;> first | (have h9 := t_nlt hh; omega) | (have h9 := t_lt hh; omega) | (have h9 := t_nle hh; omega) | (have h9 := t_le hh; omega))) (by first | assumption | omega | decide | (split <;> rename_i hh <;> first | (have h9 := t_nlt hh; omega) | (have h9 := t_lt hh; omega) | (have h9 := t_nle hh; omega) | (have h9 := t_le hh; omega))) _ _ _ (lv_sub hl [2, 3, 1, 0] rfl) hP hD hS (hF.trans (by simp only [fX9_count, xlet, if_neg c_1, if_neg c_2, if_neg c_3, if_neg c_4, if_neg c_5, if_pos c_6]))
  by_cases c_7 : a1 = 6
  · refine lv_tableIn (tgt := 157) hx hb dX9_count_8 (by rw [c_7]; decide) (by rw [c_7]; decide) (by rw [c_7]; rfl) (by decide) ?_
    refine lv_aload_n hx hb dX9_count_157 rfl (lv_at hl 1 rfl) ?_
    refine xget hx hb hts hown hK 9 (C2 := RX9) (T := TX9) (N := 23) rfl hin_9 hP 0 rfl 8 (by decide) fl_128 rfl rfl rfl dX9_count_158 ?_
    exact hret _ _ _ _ o_many (o_above, o_below) dX9_count_161 ((hF.trans (by simp only [fX9_count, xlet, if_neg c_1, if_neg c_2, if_neg c_3, if_neg c_4, if_neg c_5, if_neg c_6, if_pos c_7])).symm) hP hD hS
  by_cases c_8 : a1 = 7
  · refine lv_tableIn (tgt := 162) hx hb dX9_count_8 (by rw [c_8]; decide) (by rw [c_8]; decide) (by rw [c_8]; rfl) (by decide) ?_
    refine lv_aload_n hx hb dX9_count_162 rfl (lv_at hl 1 rfl) ?_
    refine xget hx hb hts hown hK 9 (C2 := RX9) (T := TX9) (N := 23) rfl hin_9 hP 0 rfl 4 (by decide) fl_131 rfl rfl rfl dX9_count_163 ?_
    exact hret _ _ _ _ o_acts (o_above, o_below) dX9_count_166 ((hF.trans (by simp only [fX9_count, xlet, if_neg c_1, if_neg c_2, if_neg c_3, if_neg c_4, if_neg c_5, if_neg c_6, if_neg c_7, if_pos c_8])).symm) hP hD hS
  by_cases c_9 : a1 = 8
  · refine lv_tableIn (tgt := 167) hx hb dX9_count_8 (by rw [c_9]; decide) (by rw [c_9]; decide) (by rw [c_9]; rfl) (by decide) ?_
    refine lv_aload_n hx hb dX9_count_167 rfl (lv_at hl 1 rfl) ?_
    refine xget hx hb hts hown hK 9 (C2 := RX9) (T := TX9) (N := 23) rfl hin_9 hP 0 rfl 10 (by decide) fl_58 rfl rfl rfl dX9_count_168 ?_
    exact hret _ _ _ _ o_letters (o_above, o_below) dX9_count_171 ((hF.trans (by simp only [fX9_count, xlet, if_neg c_1, if_neg c_2, if_neg c_3, if_neg c_4, if_neg c_5, if_neg c_6, if_neg c_7, if_neg c_8, if_pos c_9])).symm) hP hD hS
  · refine lv_tableOut (tgt := 172) hx hb dX9_count_8 (by have := t_nel 0 (k := 0) rfl c_1; have := t_nel 1 (k := 1) rfl c_2; have := t_nel 2 (k := 2) rfl c_3; have := t_nel 3 (k := 3) rfl c_4; have := t_nel 4 (k := 4) rfl c_5; have := t_nel 5 (k := 5) rfl c_6; have := t_nel 6 (k := 6) rfl c_7; have := t_nel 7 (k := 7) rfl c_8; have := t_nel 8 (k := 8) rfl c_9; omega) (by decide) ?_
    refine lv_bipush (v := (-3)) hx hb dX9_count_172 (by decide) ?_
    exact hret _ _ _ _ (-3) (o_above, o_below) dX9_count_174 ((hF.trans (by simp only [fX9_count, xlet, if_neg c_1, if_neg c_2, if_neg c_3, if_neg c_4, if_neg c_5, if_neg c_6, if_neg c_7, if_neg c_8, if_neg c_9])).symm) hP hD hS
set_option maxRecDepth 20000 in
theorem ggX9_what_X9_isWalker : GoodIn wsX9_what wsX9_isWalker := goodIn_r _ [9, 4, 10, 11, 8, 12, 21, 22, 23, 24, 25, 26, 27, 28, 29, 30, 31, 32, 33, 34, 35, 36, 37, 38, 39, 40, 41, 42, 43] (by decide +kernel) (by decide +kernel)
set_option maxRecDepth 20000 in
theorem gX9_what_X9_isWalker : GoodIn wsX9_what (wsV RX9 142 RX9 yX9_isWalker wsX9_isWalker) := goodIn_app (goodIn_of _ (by decide +kernel)) ggX9_what_X9_isWalker
set_option maxRecDepth 20000 in
theorem ggX9_what_X9_stoneBy : GoodIn wsX9_what wsX9_stoneBy := goodIn_r _ [16, 4, 17, 18, 19, 8, 20, 21, 22, 23, 24, 25, 26, 27, 28, 29, 30, 31, 32, 33, 34, 35, 36, 37, 38, 39, 40, 41, 42, 43] (by decide +kernel) (by decide +kernel)
set_option maxRecDepth 20000 in
theorem gX9_what_X9_stoneBy : GoodIn wsX9_what (wsV RX9 138 RX9 yX9_stoneBy wsX9_stoneBy) := goodIn_app (goodIn_of _ (by decide +kernel)) ggX9_what_X9_stoneBy
theorem dX9_what_0 : decode cX9_what 0 = .ok (.aload_n 0, 1) := by decide +kernel
theorem dX9_what_1 : decode cX9_what 1 = .ok (.iconst 0, 1) := by decide +kernel
theorem dX9_what_2 : decode cX9_what 2 = .ok (.putfield 48, 3) := by decide +kernel
theorem dX9_what_5 : decode cX9_what 5 = .ok (.aload_n 0, 1) := by decide +kernel
theorem dX9_what_6 : decode cX9_what 6 = .ok (.iload_n 1, 1) := by decide +kernel
theorem dX9_what_7 : decode cX9_what 7 = .ok (.invokevirtual 142, 3) := by decide +kernel
theorem dX9_what_10 : decode cX9_what 10 = .ok (.ifCond .ne 6, 3) := by decide +kernel
theorem dX9_what_13 : decode cX9_what 13 = .ok (.bipush (-2), 2) := by decide +kernel
theorem dX9_what_15 : decode cX9_what 15 = .ok (.ireturn, 1) := by decide +kernel
theorem dX9_what_16 : decode cX9_what 16 = .ok (.iconst 0, 1) := by decide +kernel
theorem dX9_what_17 : decode cX9_what 17 = .ok (.istore_n 2, 1) := by decide +kernel
theorem dX9_what_18 : decode cX9_what 18 = .ok (.iconst 0, 1) := by decide +kernel
theorem dX9_what_19 : decode cX9_what 19 = .ok (.istore_n 3, 1) := by decide +kernel
theorem dX9_what_20 : decode cX9_what 20 = .ok (.iload_n 3, 1) := by decide +kernel
theorem dX9_what_21 : decode cX9_what 21 = .ok (.iconst 3, 1) := by decide +kernel
theorem dX9_what_22 : decode cX9_what 22 = .ok (.if_icmp .gt 115, 3) := by decide +kernel
theorem dX9_what_25 : decode cX9_what 25 = .ok (.iconst 1, 1) := by decide +kernel
theorem dX9_what_26 : decode cX9_what 26 = .ok (.istore 4, 2) := by decide +kernel
theorem dX9_what_28 : decode cX9_what 28 = .ok (.iconst 0, 1) := by decide +kernel
theorem dX9_what_29 : decode cX9_what 29 = .ok (.istore 5, 2) := by decide +kernel
theorem dX9_what_31 : decode cX9_what 31 = .ok (.iload 5, 2) := by decide +kernel
theorem dX9_what_33 : decode cX9_what 33 = .ok (.aload_n 0, 1) := by decide +kernel
theorem dX9_what_34 : decode cX9_what 34 = .ok (.getfield 128, 3) := by decide +kernel
theorem dX9_what_37 : decode cX9_what 37 = .ok (.if_icmp .ge 79, 3) := by decide +kernel
theorem dX9_what_40 : decode cX9_what 40 = .ok (.iload 4, 2) := by decide +kernel
theorem dX9_what_42 : decode cX9_what 42 = .ok (.ifCond .eq 65, 3) := by decide +kernel
theorem dX9_what_45 : decode cX9_what 45 = .ok (.aload_n 0, 1) := by decide +kernel
theorem dX9_what_46 : decode cX9_what 46 = .ok (.getfield 29, 3) := by decide +kernel
theorem dX9_what_49 : decode cX9_what 49 = .ok (.iconst 3, 1) := by decide +kernel
theorem dX9_what_50 : decode cX9_what 50 = .ok (.iload 5, 2) := by decide +kernel
theorem dX9_what_52 : decode cX9_what 52 = .ok (.imul, 1) := by decide +kernel
theorem dX9_what_53 : decode cX9_what 53 = .ok (.iaload, 1) := by decide +kernel
theorem dX9_what_54 : decode cX9_what 54 = .ok (.iload_n 1, 1) := by decide +kernel
theorem dX9_what_55 : decode cX9_what 55 = .ok (.if_icmp .ne 48, 3) := by decide +kernel
theorem dX9_what_58 : decode cX9_what 58 = .ok (.aload_n 0, 1) := by decide +kernel
theorem dX9_what_59 : decode cX9_what 59 = .ok (.iload_n 3, 1) := by decide +kernel
theorem dX9_what_60 : decode cX9_what 60 = .ok (.aload_n 0, 1) := by decide +kernel
theorem dX9_what_61 : decode cX9_what 61 = .ok (.getfield 7, 3) := by decide +kernel
theorem dX9_what_64 : decode cX9_what 64 = .ok (.bipush 30, 2) := by decide +kernel
theorem dX9_what_66 : decode cX9_what 66 = .ok (.iload_n 1, 1) := by decide +kernel
theorem dX9_what_67 : decode cX9_what 67 = .ok (.iadd, 1) := by decide +kernel
theorem dX9_what_68 : decode cX9_what 68 = .ok (.iaload, 1) := by decide +kernel
theorem dX9_what_69 : decode cX9_what 69 = .ok (.aload_n 0, 1) := by decide +kernel
theorem dX9_what_70 : decode cX9_what 70 = .ok (.getfield 29, 3) := by decide +kernel
theorem dX9_what_73 : decode cX9_what 73 = .ok (.iconst 3, 1) := by decide +kernel
theorem dX9_what_74 : decode cX9_what 74 = .ok (.iload 5, 2) := by decide +kernel
theorem dX9_what_76 : decode cX9_what 76 = .ok (.imul, 1) := by decide +kernel
theorem dX9_what_77 : decode cX9_what 77 = .ok (.iconst 1, 1) := by decide +kernel
theorem dX9_what_78 : decode cX9_what 78 = .ok (.iadd, 1) := by decide +kernel
theorem dX9_what_79 : decode cX9_what 79 = .ok (.iaload, 1) := by decide +kernel
theorem dX9_what_80 : decode cX9_what 80 = .ok (.aload_n 0, 1) := by decide +kernel
theorem dX9_what_81 : decode cX9_what 81 = .ok (.getfield 7, 3) := by decide +kernel
theorem dX9_what_84 : decode cX9_what 84 = .ok (.iconst 1, 1) := by decide +kernel
theorem dX9_what_85 : decode cX9_what 85 = .ok (.iaload, 1) := by decide +kernel
theorem dX9_what_86 : decode cX9_what 86 = .ok (.invokevirtual 138, 3) := by decide +kernel
theorem dX9_what_89 : decode cX9_what 89 = .ok (.aload_n 0, 1) := by decide +kernel
theorem dX9_what_90 : decode cX9_what 90 = .ok (.getfield 29, 3) := by decide +kernel
theorem dX9_what_93 : decode cX9_what 93 = .ok (.iconst 3, 1) := by decide +kernel
theorem dX9_what_94 : decode cX9_what 94 = .ok (.iload 5, 2) := by decide +kernel
theorem dX9_what_96 : decode cX9_what 96 = .ok (.imul, 1) := by decide +kernel
theorem dX9_what_97 : decode cX9_what 97 = .ok (.iconst 2, 1) := by decide +kernel
theorem dX9_what_98 : decode cX9_what 98 = .ok (.iadd, 1) := by decide +kernel
theorem dX9_what_99 : decode cX9_what 99 = .ok (.iaload, 1) := by decide +kernel
theorem dX9_what_100 : decode cX9_what 100 = .ok (.if_icmp .ne 7, 3) := by decide +kernel
theorem dX9_what_103 : decode cX9_what 103 = .ok (.iconst 1, 1) := by decide +kernel
theorem dX9_what_104 : decode cX9_what 104 = .ok (.goto 4, 3) := by decide +kernel
theorem dX9_what_107 : decode cX9_what 107 = .ok (.iconst 0, 1) := by decide +kernel
theorem dX9_what_108 : decode cX9_what 108 = .ok (.istore 4, 2) := by decide +kernel
theorem dX9_what_110 : decode cX9_what 110 = .ok (.iinc 5 1, 3) := by decide +kernel
theorem dX9_what_113 : decode cX9_what 113 = .ok (.goto (-82), 3) := by decide +kernel
theorem dX9_what_116 : decode cX9_what 116 = .ok (.iload_n 2, 1) := by decide +kernel
theorem dX9_what_117 : decode cX9_what 117 = .ok (.iload 4, 2) := by decide +kernel
theorem dX9_what_119 : decode cX9_what 119 = .ok (.ifCond .eq 9, 3) := by decide +kernel
theorem dX9_what_122 : decode cX9_what 122 = .ok (.iconst 1, 1) := by decide +kernel
theorem dX9_what_123 : decode cX9_what 123 = .ok (.iload_n 3, 1) := by decide +kernel
theorem dX9_what_124 : decode cX9_what 124 = .ok (.ishl, 1) := by decide +kernel
theorem dX9_what_125 : decode cX9_what 125 = .ok (.goto 4, 3) := by decide +kernel
theorem dX9_what_128 : decode cX9_what 128 = .ok (.iconst 0, 1) := by decide +kernel
theorem dX9_what_129 : decode cX9_what 129 = .ok (.ior, 1) := by decide +kernel
theorem dX9_what_130 : decode cX9_what 130 = .ok (.istore_n 2, 1) := by decide +kernel
theorem dX9_what_131 : decode cX9_what 131 = .ok (.iinc 3 1, 3) := by decide +kernel
theorem dX9_what_134 : decode cX9_what 134 = .ok (.goto (-114), 3) := by decide +kernel
theorem dX9_what_137 : decode cX9_what 137 = .ok (.iload_n 2, 1) := by decide +kernel
theorem dX9_what_138 : decode cX9_what 138 = .ok (.ireturn, 1) := by decide +kernel
def fX9_what_31 (a1 : Int32) (o_many : Int32) (o_road_f : Nat → Int32) (o_sights_f : Nat → Int32) (v20_3 : Int32) (v20_2 : Int32) (k_20 : Int32 → Int32 → Int32) : Nat → Int32 → Int32 → Int32
  | 0, _, _ => default
  | n + 1, v31_4, v31_5 => if o_many ≤ v31_5 then (xlet (if v31_4 = 0 then 0 else ((1 : Int32) <<< (v20_3 &&& 31))) (fun y_2 => k_20 (v20_2 ||| y_2) (v20_3 + 1))) else (xlet (if v31_4 = 0 then (0 : Int32) else (if (o_sights_f (3 * v31_5).toNatClampNeg) = a1 then (if (fX9_stoneBy v20_3 (o_road_f (30 + a1).toNatClampNeg) (o_sights_f ((3 * v31_5) + 1).toNatClampNeg) (o_road_f 1) o_road_f) = (o_sights_f ((3 * v31_5) + 2).toNatClampNeg) then 1 else 0) else 1)) (fun y_3 => fX9_what_31 a1 o_many o_road_f o_sights_f v20_3 v20_2 k_20 n y_3 (v31_5 + 1)))
def fX9_what_20 (a1 : Int32) (o_many : Int32) (o_road_f : Nat → Int32) (o_sights_f : Nat → Int32)  : Nat → Int32 → Int32 → Int32
  | 0, _, _ => default
  | n + 1, v20_2, v20_3 => if 3 < v20_3 then v20_2 else (fX9_what_31 a1 o_many o_road_f o_sights_f v20_3 v20_2 (fun v20_2 v20_3 => fX9_what_20 a1 o_many o_road_f o_sights_f n v20_2 v20_3) 1000 1 0)
def fX9_what (a1 : Int32) (o_many : Int32) (o_road_f : Nat → Int32) (o_sights_f : Nat → Int32) : Int32 := if (fX9_isWalker a1 o_road_f) = 0 then ((-2)) else (fX9_what_20 a1 o_many o_road_f o_sights_f 1000 0 0)
set_option maxHeartbeats 4000000 in
set_option maxRecDepth 100000 in
theorem c_X9_what (l : Launch) (D : va_G) (cI cZ : ClassId) (sz : Nat) (o : Nat) (a1 : Int32) (o_road : Nat) (o_told : Nat) (o_fresh : Nat) (o_was : Nat) (o_acts : Int32) (o_kept : Nat) (o_isKept : Nat) (o_sights : Nat) (o_many : Int32) (o_text : Nat) (o_letters : Int32) (o_thrown : Int32) (o_cursor : Int32) (o_token : Int32) (o_start : Int32) (o_value : Int64) (o_isFault : Int32) (o_faultAt : Int32) (o_above : Int32) (o_below : Int32) (o_topOf : Nat) (o_partsOf : Nat) (o_sent : Nat) (o_road_f : Nat → Int32) (o_sights_f : Nat → Int32) (hn0 : 4 ≤ (o_road_f 0).toInt) (hn1 : (o_road_f 0).toInt ≤ 20) (hv0 : 0 ≤ (o_road_f 2).toInt) (hv6 : (o_road_f 2).toInt ≤ 6) (hhab : ∀ w : Int32, 0 ≤ w.toInt → w.toInt < (o_road_f 2).toInt → ¬ o_road_f (30 + w).toNatClampNeg = 0) (hm0 : 0 ≤ o_many.toInt) (hm6 : o_many.toInt ≤ 6) : Met l yX9_what wsX9_what ({ frames := 2, cells := 0, slots := 0, locals := 51 } : Room) (va_Pc [.ref o, .int a1] (xP D cI cZ [(o, .inr (9, [.ref o_road, .ref o_told, .ref o_fresh, .ref o_was, .int o_acts, .ref o_kept, .ref o_isKept, .ref o_sights, .int o_many, .ref o_text, .int o_letters, .int o_thrown, .int o_cursor, .int o_token, .int o_start, .long o_value, .int o_isFault, .int o_faultAt, .int o_above, .int o_below, .ref o_topOf, .ref o_partsOf, .ref o_sent])), (o_road, .inl (cI, 36, .inl o_road_f)), (o_sights, .inl (cI, 18, .inl o_sights_f))] sz)) (va_Qi (fun (r : Int32) (u : Unit) => r = fX9_what a1 o_many o_road_f o_sights_f) (fun (u : Unit) t => xB D cI cZ [(o, .inr (9, [.ref o_road, .ref o_told, .ref o_fresh, .ref o_was, .int o_acts, .ref o_kept, .ref o_isKept, .ref o_sights, .int o_many, .ref o_text, .int o_letters, .int 0, .int o_cursor, .int o_token, .int o_start, .long o_value, .int o_isFault, .int o_faultAt, .int o_above, .int o_below, .ref o_topOf, .ref o_partsOf, .ref o_sent])), (o_road, .inl (cI, 36, .inl o_road_f)), (o_sights, .inl (cI, 18, .inl o_sights_f))] (va_A [(o, .inr (9, [.ref o_road, .ref o_told, .ref o_fresh, .ref o_was, .int o_acts, .ref o_kept, .ref o_isKept, .ref o_sights, .int o_many, .ref o_text, .int o_letters, .int o_thrown, .int o_cursor, .int o_token, .int o_start, .long o_value, .int o_isFault, .int o_faultAt, .int o_above, .int o_below, .ref o_topOf, .ref o_partsOf, .ref o_sent])), (o_road, .inl (cI, 36, .inl o_road_f)), (o_sights, .inl (cI, 18, .inl o_sights_f))] sz) t) (va_A [(o, .inr (9, [.ref o_road, .ref o_told, .ref o_fresh, .ref o_was, .int o_acts, .ref o_kept, .ref o_isKept, .ref o_sights, .int o_many, .ref o_text, .int o_letters, .int o_thrown, .int o_cursor, .int o_token, .int o_start, .long o_value, .int o_isFault, .int o_faultAt, .int o_above, .int o_below, .ref o_topOf, .ref o_partsOf, .ref o_sent])), (o_road, .inl (cI, 36, .inl o_road_f)), (o_sights, .inl (cI, 18, .inl o_sights_f))] sz)) 0 0 (va_A [(o, .inr (9, [.ref o_road, .ref o_told, .ref o_fresh, .ref o_was, .int o_acts, .ref o_kept, .ref o_isKept, .ref o_sights, .int o_many, .ref o_text, .int o_letters, .int o_thrown, .int o_cursor, .int o_token, .int o_start, .long o_value, .int o_isFault, .int o_faultAt, .int o_above, .int o_below, .ref o_topOf, .ref o_partsOf, .ref o_sent])), (o_road, .inl (cI, 36, .inl o_road_f)), (o_sights, .inl (cI, 18, .inl o_sights_f))] sz) := by
  refine Met.ofW (cc := cX9_what) (maxL := 6) (ret := (some .int)) (by decide) rfl ?_
  intro p e s m args below meth c s₁ B hml hv
  obtain ⟨hargs, hsz, hP, hK, hD0, hE⟩ := hv
  subst hargs
  have hx := B.exec
  have hb := B.bytes
  have hr := B.returns
  have hts := atoms_spec (ws := wsX9_what) B.pre
  have hown : s.vm.findClass RX9 = some m.cls := findClass_of_methodNamed B.named
  have hlocks := B.notSynchronized
  subst hsz
  have hD := hD0.self (sz := s.heap.size)
  generalize hAe : va_A [(o, .inr (9, [.ref o_road, .ref o_told, .ref o_fresh, .ref o_was, .int o_acts, .ref o_kept, .ref o_isKept, .ref o_sights, .int o_many, .ref o_text, .int o_letters, .int o_thrown, .int o_cursor, .int o_token, .int o_start, .long o_value, .int o_isFault, .int o_faultAt, .int o_above, .int o_below, .ref o_topOf, .ref o_partsOf, .ref o_sent])), (o_road, .inl (cI, 36, .inl o_road_f)), (o_sights, .inl (cI, 18, .inl o_sights_f))] s.heap.size = A at hD ⊢
  have hA : ∀ q : Nat, s.heap.size ≤ q → A q := fun q h => by rw [← hAe]; exact Or.inr h
  have hS : va_S A s.heap s.heap [] := va_S.rf
  have hl := lv_entry ([.ref o, .int a1]) (n := 6) (Nat.le_of_ble_eq_true rfl)
  rw [lg_entry_eq]
  generalize (lg_sl ([.ref o, .int a1]) ++ List.replicate (6 - (lg_sl ([.ref o, .int a1])).length) Slot.unset).toArray = ls at hl ⊢
  have hl : lv_has ls 6 [(0, .ref o), (1, .int a1)] := hl
  refine wq (X := fun Q => ∀ (pc : Nat) (H : Heap) (locs : List Loc) (ls : Array Slot) (r : Int32) (u : Unit) (hd : decode cX9_what pc = .ok (.ireturn, 1)) (hp : r = fX9_what a1 o_many o_road_f o_sights_f) (hP : va_P D vwCl [(o, .inr (9, [.ref o_road, .ref o_told, .ref o_fresh, .ref o_was, .int o_acts, .ref o_kept, .ref o_isKept, .ref o_sights, .int o_many, .ref o_text, .int o_letters, .int 0, .int o_cursor, .int o_token, .int o_start, .long o_value, .int o_isFault, .int o_faultAt, .int o_above, .int o_below, .ref o_topOf, .ref o_partsOf, .ref o_sent])), (o_road, .inl (cI, 36, .inl o_road_f)), (o_sights, .inl (cI, 18, .inl o_sights_f))] H) (hD : va_D A [(o, .inr (9, [.ref o_road, .ref o_told, .ref o_fresh, .ref o_was, .int o_acts, .ref o_kept, .ref o_isKept, .ref o_sights, .int o_many, .ref o_text, .int o_letters, .int 0, .int o_cursor, .int o_token, .int o_start, .long o_value, .int o_isFault, .int o_faultAt, .int o_above, .int o_below, .ref o_topOf, .ref o_partsOf, .ref o_sent])), (o_road, .inl (cI, 36, .inl o_road_f)), (o_sights, .inl (cI, 18, .inl o_sights_f))]) (hS : va_S A s.heap H locs), W p l e ({ frames := 2, cells := 0, slots := 0, locals := 51 } : Room) s m ([.ref o, .int a1] : List Value).toArray below meth c H locs 0 0 Q (F0 m pc ls [.int r])) ?_ (fun Q hret => ?_)
  · intro pc H locs ls r u hd hp hP hD hS
    exact W.iret (v := r) hx hb hr (fun t ht hW => ⟨⟨r, u, rfl, hp, by rw [ht]; exact hP, va_K.moved hW.alike hK, hD⟩, hS.F ht⟩) hS.2.2 hd
  have hin_9 : ∀ w ∈ u_ws RX9 TX9 23, w ∈ wsX9_what := by decide +kernel
  have fl_7 := hts (.fieldLink RX9 7 "MileRoadModel" "road" "[I") (by decide +kernel)
  have fl_29 := hts (.fieldLink RX9 29 "MileRoadModel" "sights" "[I") (by decide +kernel)
  have fl_48 := hts (.fieldLink RX9 48 "MileRoadModel" "thrown" "I") (by decide +kernel)
  have fl_128 := hts (.fieldLink RX9 128 "MileRoadModel" "many" "I") (by decide +kernel)
  have zl_0 : (0 : Int32).toInt = 0 := by decide
  have zl_1 : (1 : Int32).toInt = 1 := by decide
  have zl_2 : (2 : Int32).toInt = 2 := by decide
  have zl_3 : (3 : Int32).toInt = 3 := by decide
  have zl_30 : (30 : Int32).toInt = 30 := by decide
  have hF : fX9_what a1 o_many o_road_f o_sights_f = fX9_what a1 o_many o_road_f o_sights_f := rfl
  have L_20 : ∀  (n_20 : Nat) (v20_2 : Int32) (v20_3 : Int32) (h1_20 : 0 ≤ v20_3.toInt) (h2_20 : v20_3.toInt ≤ 4) (hw0 : 0 ≤ a1.toInt) (hw1 : a1.toInt < (o_road_f 2).toInt) (hm : 4 - v20_3.toInt < (n_20 : Int)) (H : Heap) (locs : List Loc) (ls : Array Slot) (hl : lv_has ls 6 [(0, .ref o), (1, .int a1), (2, .int v20_2), (3, .int v20_3)]) (hP : va_P D vwCl [(o, .inr (9, [.ref o_road, .ref o_told, .ref o_fresh, .ref o_was, .int o_acts, .ref o_kept, .ref o_isKept, .ref o_sights, .int o_many, .ref o_text, .int o_letters, .int 0, .int o_cursor, .int o_token, .int o_start, .long o_value, .int o_isFault, .int o_faultAt, .int o_above, .int o_below, .ref o_topOf, .ref o_partsOf, .ref o_sent])), (o_road, .inl (cI, 36, .inl o_road_f)), (o_sights, .inl (cI, 18, .inl o_sights_f))] H) (hD : va_D A [(o, .inr (9, [.ref o_road, .ref o_told, .ref o_fresh, .ref o_was, .int o_acts, .ref o_kept, .ref o_isKept, .ref o_sights, .int o_many, .ref o_text, .int o_letters, .int 0, .int o_cursor, .int o_token, .int o_start, .long o_value, .int o_isFault, .int o_faultAt, .int o_above, .int o_below, .ref o_topOf, .ref o_partsOf, .ref o_sent])), (o_road, .inl (cI, 36, .inl o_road_f)), (o_sights, .inl (cI, 18, .inl o_sights_f))]) (hS : va_S A s.heap H locs) (hF : fX9_what a1 o_many o_road_f o_sights_f = fX9_what_20 a1 o_many o_road_f o_sights_f n_20 v20_2 v20_3), W p l e ({ frames := 2, cells := 0, slots := 0, locals := 51 } : Room) s m ([.ref o, .int a1] : List Value).toArray below meth c H locs 0 0 Q (F0 m 20 ls []) := by
    intro  n_20
    induction n_20 with
    | zero =>
      intro v20_2 v20_3 h1_20 h2_20 hw0 hw1 hm H locs ls hl hP hD hS hF
      exact absurd hm (by omega)
    | succ n_20 ih_20 =>
      intro v20_2 v20_3 h1_20 h2_20 hw0 hw1 hm H locs ls hl hP hD hS hF
      have L_31 : ∀ (k_20 : Int32 → Int32 → Int32) (hk_20 : ∀ (v20_2 : Int32) (v20_3 : Int32), k_20 v20_2 v20_3 = fX9_what_20 a1 o_many o_road_f o_sights_f n_20 v20_2 v20_3) (n_31 : Nat) (v31_4 : Int32) (v31_5 : Int32) (h1_31 : 0 ≤ v31_5.toInt) (h2_31 : v31_5.toInt ≤ 6) (hm : 6 - v31_5.toInt < (n_31 : Int)) (H : Heap) (locs : List Loc) (ls : Array Slot) (hl : lv_has ls 6 [(0, .ref o), (1, .int a1), (2, .int v20_2), (3, .int v20_3), (4, .int v31_4), (5, .int v31_5)]) (hP : va_P D vwCl [(o, .inr (9, [.ref o_road, .ref o_told, .ref o_fresh, .ref o_was, .int o_acts, .ref o_kept, .ref o_isKept, .ref o_sights, .int o_many, .ref o_text, .int o_letters, .int 0, .int o_cursor, .int o_token, .int o_start, .long o_value, .int o_isFault, .int o_faultAt, .int o_above, .int o_below, .ref o_topOf, .ref o_partsOf, .ref o_sent])), (o_road, .inl (cI, 36, .inl o_road_f)), (o_sights, .inl (cI, 18, .inl o_sights_f))] H) (hD : va_D A [(o, .inr (9, [.ref o_road, .ref o_told, .ref o_fresh, .ref o_was, .int o_acts, .ref o_kept, .ref o_isKept, .ref o_sights, .int o_many, .ref o_text, .int o_letters, .int 0, .int o_cursor, .int o_token, .int o_start, .long o_value, .int o_isFault, .int o_faultAt, .int o_above, .int o_below, .ref o_topOf, .ref o_partsOf, .ref o_sent])), (o_road, .inl (cI, 36, .inl o_road_f)), (o_sights, .inl (cI, 18, .inl o_sights_f))]) (hS : va_S A s.heap H locs) (hF : fX9_what a1 o_many o_road_f o_sights_f = fX9_what_31 a1 o_many o_road_f o_sights_f v20_3 v20_2 k_20 n_31 v31_4 v31_5), W p l e ({ frames := 2, cells := 0, slots := 0, locals := 51 } : Room) s m ([.ref o, .int a1] : List Value).toArray below meth c H locs 0 0 Q (F0 m 31 ls []) := by
        intro k_20 hk_20 n_31
        induction n_31 with
        | zero =>
          intro v31_4 v31_5 h1_31 h2_31 hm H locs ls hl hP hD hS hF
          exact absurd hm (by omega)
        | succ n_31 ih_31 =>
          intro v31_4 v31_5 h1_31 h2_31 hm H locs ls hl hP hD hS hF
          refine lv_iload hx hb dX9_what_31 (lv_at hl 5 rfl) ?_
          refine lv_aload_n hx hb dX9_what_33 rfl (lv_at hl 0 rfl) ?_
          refine xget hx hb hts hown hK 9 (C2 := RX9) (T := TX9) (N := 23) rfl hin_9 hP 0 rfl 8 (by decide) fl_128 rfl rfl rfl dX9_what_34 ?_
          refine lv_icmp_ge (tgt := 116) hx hb dX9_what_37 (by decide) (fun c_3 => ?_) (fun c_3 => ?_)
          · have kc_3 := t_le c_3
            refine lv_iload_n hx hb dX9_what_116 rfl (lv_at hl 2 rfl) ?_
            refine lv_iload hx hb dX9_what_117 (lv_at hl 4 rfl) ?_
            have K_y_2 : ∀ (y_2 : Int32) (hy_y_2 : (if v31_4 = 0 then 0 else ((1 : Int32) <<< (v20_3 &&& 31))) = y_2) (H : Heap) (locs : List Loc) (hP : va_P D vwCl [(o, .inr (9, [.ref o_road, .ref o_told, .ref o_fresh, .ref o_was, .int o_acts, .ref o_kept, .ref o_isKept, .ref o_sights, .int o_many, .ref o_text, .int o_letters, .int 0, .int o_cursor, .int o_token, .int o_start, .long o_value, .int o_isFault, .int o_faultAt, .int o_above, .int o_below, .ref o_topOf, .ref o_partsOf, .ref o_sent])), (o_road, .inl (cI, 36, .inl o_road_f)), (o_sights, .inl (cI, 18, .inl o_sights_f))] H) (hD : va_D A [(o, .inr (9, [.ref o_road, .ref o_told, .ref o_fresh, .ref o_was, .int o_acts, .ref o_kept, .ref o_isKept, .ref o_sights, .int o_many, .ref o_text, .int o_letters, .int 0, .int o_cursor, .int o_token, .int o_start, .long o_value, .int o_isFault, .int o_faultAt, .int o_above, .int o_below, .ref o_topOf, .ref o_partsOf, .ref o_sent])), (o_road, .inl (cI, 36, .inl o_road_f)), (o_sights, .inl (cI, 18, .inl o_sights_f))]) (hS : va_S A s.heap H locs), W p l e ({ frames := 2, cells := 0, slots := 0, locals := 51 } : Room) s m ([.ref o, .int a1] : List Value).toArray below meth c H locs 0 0 Q (F0 m 129 ls [.int y_2, .int v20_2]) := by
              intro y_2 hy_y_2 H locs hP hD hS
              have ky_y_2 : y_2 = ((1 : Int32) <<< (v20_3 &&& 31)) ∨ y_2 = 0 := by rw [← hy_y_2]; (repeat' split) <;> simp
              refine lv_ior hx hb dX9_what_129 ?_
              refine lv_istore_n (lv' := [(2, .int (v20_2 ||| y_2)), (0, .ref o), (1, .int a1), (3, .int v20_3), (4, .int v31_4), (5, .int v31_5)]) hx hb dX9_what_130 rfl hl (by decide) rfl (fun ls hl => ?_)
              refine lv_iinc (v := (v20_3 + 1)) (lv' := [(3, .int (v20_3 + 1)), (2, .int (v20_2 ||| y_2)), (0, .ref o), (1, .int a1), (4, .int v31_4), (5, .int v31_5)]) hx hb dX9_what_131 hl (k := 3) rfl (by rfl) (by decide) rfl (fun ls hl => ?_)
              refine lv_goto (tgt := 20) hx hb dX9_what_134 (by decide) ?_
              have z_1 : (v20_3 + 1).toInt = v20_3.toInt + (1 : Int32).toInt := z_add (by omega) (by omega)
              exact ih_20 (v20_2 ||| y_2) (v20_3 + 1) (by first | assumption | omega | decide | (split <;> rename_i hh <;> first | (have h9 := t_nlt hh; omega) | (have h9 := t_lt hh; omega) | (have h9 := t_nle hh; omega) | (have h9 := t_le hh; omega))) (by first | assumption | omega | decide | (split <;> rename_i hh <;> first | (have h9 := t_nlt hh; omega) | (have h9 := t_lt hh; omega) | (have h9 := t_nle hh; omega) | (have h9 := t_le hh; omega))) (by first | assumption | omega | decide | (split <;> rename_i hh <;> first | (have h9 := t_nlt hh; omega) | (have h9 := t_lt hh; omega) | (have h9 := t_nle hh; omega) | (have h9 := t_le hh; omega))) (by first | assumption | omega | decide | (split <;> rename_i hh <;> first | (have h9 := t_nlt hh; omega) | (have h9 := t_lt hh; omega) | (have h9 := t_nle hh; omega) | (have h9 := t_le hh; omega))) (by first | assumption | omega | decide | (split <;> rename_i hh <;> first | (have h9 := t_nlt hh; omega) | (have h9 := t_lt hh; omega) | (have h9 := t_nle hh; omega) | (have h9 := t_le hh; omega))) _ _ _ (lv_sub hl [2, 3, 1, 0] rfl) hP hD hS ((hF.trans (by simp only [fX9_what_31, xlet, if_pos c_3, ↓hy_y_2])).trans (hk_20 _ _))
            refine lv_if_eq (tgt := 128) hx hb dX9_what_119 (by decide) (fun c_4 => ?_) (fun c_4 => ?_)
            · have kc_4 := t_eq c_4
              refine lv_iconst (v := 0) hx hb dX9_what_128 (by decide) ?_
              exact K_y_2 _ (by simp only [xlet, if_pos c_4]) _ _ hP hD hS
            · have kc_4 := t_neq c_4
              refine lv_iconst (v := 1) hx hb dX9_what_122 (by decide) ?_
              refine lv_iload_n hx hb dX9_what_123 rfl (lv_at hl 3 rfl) ?_
              refine lv_ishl hx hb dX9_what_124 ?_
              refine lv_goto (tgt := 129) hx hb dX9_what_125 (by decide) ?_
              exact K_y_2 _ (by simp only [xlet, if_neg c_4]) _ _ hP hD hS
          · have kc_3 := t_nle c_3
            refine lv_iload hx hb dX9_what_40 (lv_at hl 4 rfl) ?_
            have K_y_3 : ∀ (y_3 : Int32) (hy_y_3 : (if v31_4 = 0 then (0 : Int32) else (if (o_sights_f (3 * v31_5).toNatClampNeg) = a1 then (if (fX9_stoneBy v20_3 (o_road_f (30 + a1).toNatClampNeg) (o_sights_f ((3 * v31_5) + 1).toNatClampNeg) (o_road_f 1) o_road_f) = (o_sights_f ((3 * v31_5) + 2).toNatClampNeg) then 1 else 0) else 1)) = y_3) (H : Heap) (locs : List Loc) (hP : va_P D vwCl [(o, .inr (9, [.ref o_road, .ref o_told, .ref o_fresh, .ref o_was, .int o_acts, .ref o_kept, .ref o_isKept, .ref o_sights, .int o_many, .ref o_text, .int o_letters, .int 0, .int o_cursor, .int o_token, .int o_start, .long o_value, .int o_isFault, .int o_faultAt, .int o_above, .int o_below, .ref o_topOf, .ref o_partsOf, .ref o_sent])), (o_road, .inl (cI, 36, .inl o_road_f)), (o_sights, .inl (cI, 18, .inl o_sights_f))] H) (hD : va_D A [(o, .inr (9, [.ref o_road, .ref o_told, .ref o_fresh, .ref o_was, .int o_acts, .ref o_kept, .ref o_isKept, .ref o_sights, .int o_many, .ref o_text, .int o_letters, .int 0, .int o_cursor, .int o_token, .int o_start, .long o_value, .int o_isFault, .int o_faultAt, .int o_above, .int o_below, .ref o_topOf, .ref o_partsOf, .ref o_sent])), (o_road, .inl (cI, 36, .inl o_road_f)), (o_sights, .inl (cI, 18, .inl o_sights_f))]) (hS : va_S A s.heap H locs), W p l e ({ frames := 2, cells := 0, slots := 0, locals := 51 } : Room) s m ([.ref o, .int a1] : List Value).toArray below meth c H locs 0 0 Q (F0 m 108 ls [.int y_3]) := by
              intro y_3 hy_y_3 H locs hP hD hS
              have ky_y_3 : y_3 = 0 ∨ y_3 = 1 := by rw [← hy_y_3]; (repeat' split) <;> simp
              refine lv_istore (lv' := [(4, .int y_3), (0, .ref o), (1, .int a1), (2, .int v20_2), (3, .int v20_3), (5, .int v31_5)]) hx hb dX9_what_108 hl (by decide) rfl (fun ls hl => ?_)
              refine lv_iinc (v := (v31_5 + 1)) (lv' := [(5, .int (v31_5 + 1)), (4, .int y_3), (0, .ref o), (1, .int a1), (2, .int v20_2), (3, .int v20_3)]) hx hb dX9_what_110 hl (k := 5) rfl (by rfl) (by decide) rfl (fun ls hl => ?_)
              refine lv_goto (tgt := 31) hx hb dX9_what_113 (by decide) ?_
              have z_6 : (v31_5 + 1).toInt = v31_5.toInt + (1 : Int32).toInt := z_add (by omega) (by omega)
              exact ih_31 y_3 (v31_5 + 1) (by first | assumption | omega | decide | (split <;> rename_i hh <;> first | (have h9 := t_nlt hh; omega) | (have h9 := t_lt hh; omega) | (have h9 := t_nle hh; omega) | (have h9 := t_le hh; omega))) (by first | assumption | omega | decide | (split <;> rename_i hh <;> first | (have h9 := t_nlt hh; omega) | (have h9 := t_lt hh; omega) | (have h9 := t_nle hh; omega) | (have h9 := t_le hh; omega))) (by first | assumption | omega | decide | (split <;> rename_i hh <;> first | (have h9 := t_nlt hh; omega) | (have h9 := t_lt hh; omega) | (have h9 := t_nle hh; omega) | (have h9 := t_le hh; omega))) _ _ _ (lv_sub hl [2, 3, 4, 5, 1, 0] rfl) hP hD hS (hF.trans (by simp only [fX9_what_31, xlet, if_neg c_3, ↓hy_y_3]))
            refine lv_if_eq (tgt := 107) hx hb dX9_what_42 (by decide) (fun c_5 => ?_) (fun c_5 => ?_)
            · have kc_5 := t_eq c_5
              refine lv_iconst (v := 0) hx hb dX9_what_107 (by decide) ?_
              exact K_y_3 _ (by simp only [xlet, if_pos c_5]) _ _ hP hD hS
            · have kc_5 := t_neq c_5
              refine lv_aload_n hx hb dX9_what_45 rfl (lv_at hl 0 rfl) ?_
              refine xget hx hb hts hown hK 9 (C2 := RX9) (T := TX9) (N := 23) rfl hin_9 hP 0 rfl 7 (by decide) fl_29 rfl rfl rfl dX9_what_46 ?_
              refine lv_iconst (v := 3) hx hb dX9_what_49 (by decide) ?_
              refine lv_iload hx hb dX9_what_50 (lv_at hl 5 rfl) ?_
              refine lv_imul hx hb dX9_what_52 ?_
              have z_2 : (3 * v31_5).toInt = 3 * v31_5.toInt := z_mul 3 rfl (by omega) (by omega)
              refine xald hx hb hK hP 2 0 (k := (3 * v31_5).toNatClampNeg) rfl rfl (vi (by omega) (by omega)) rfl dX9_what_53 ?_
              refine lv_iload_n hx hb dX9_what_54 rfl (lv_at hl 1 rfl) ?_
              refine lv_icmp_ne (tgt := 103) hx hb dX9_what_55 (by decide) (fun c_6 => ?_) (fun c_6 => ?_)
              · have kc_6 := t_neq c_6
                refine lv_iconst (v := 1) hx hb dX9_what_103 (by decide) ?_
                refine lv_goto (tgt := 108) hx hb dX9_what_104 (by decide) ?_
                exact K_y_3 _ (by simp only [xlet, if_neg c_5, if_neg c_6]) _ _ hP hD hS
              · have kc_6 := t_eq c_6
                refine lv_aload_n hx hb dX9_what_58 rfl (lv_at hl 0 rfl) ?_
                refine lv_iload_n hx hb dX9_what_59 rfl (lv_at hl 3 rfl) ?_
                refine lv_aload_n hx hb dX9_what_60 rfl (lv_at hl 0 rfl) ?_
                refine xget hx hb hts hown hK 9 (C2 := RX9) (T := TX9) (N := 23) rfl hin_9 hP 0 rfl 0 (by decide) fl_7 rfl rfl rfl dX9_what_61 ?_
                refine lv_bipush (v := 30) hx hb dX9_what_64 (by decide) ?_
                refine lv_iload_n hx hb dX9_what_66 rfl (lv_at hl 1 rfl) ?_
                refine lv_iadd hx hb dX9_what_67 ?_
                have z_3 : (30 + a1).toInt = (30 : Int32).toInt + a1.toInt := z_add (by omega) (by omega)
                refine xald hx hb hK hP 1 0 (k := (30 + a1).toNatClampNeg) rfl rfl (vi (by omega) (by omega)) rfl dX9_what_68 ?_
                refine lv_aload_n hx hb dX9_what_69 rfl (lv_at hl 0 rfl) ?_
                refine xget hx hb hts hown hK 9 (C2 := RX9) (T := TX9) (N := 23) rfl hin_9 hP 0 rfl 7 (by decide) fl_29 rfl rfl rfl dX9_what_70 ?_
                refine lv_iconst (v := 3) hx hb dX9_what_73 (by decide) ?_
                refine lv_iload hx hb dX9_what_74 (lv_at hl 5 rfl) ?_
                refine lv_imul hx hb dX9_what_76 ?_
                refine lv_iconst (v := 1) hx hb dX9_what_77 (by decide) ?_
                refine lv_iadd hx hb dX9_what_78 ?_
                have z_4 : ((3 * v31_5) + 1).toInt = (3 * v31_5).toInt + (1 : Int32).toInt := z_add (by omega) (by omega)
                refine xald hx hb hK hP 2 0 (k := ((3 * v31_5) + 1).toNatClampNeg) rfl rfl (vi (by omega) (by omega)) rfl dX9_what_79 ?_
                refine lv_aload_n hx hb dX9_what_80 rfl (lv_at hl 0 rfl) ?_
                refine xget hx hb hts hown hK 9 (C2 := RX9) (T := TX9) (N := 23) rfl hin_9 hP 0 rfl 0 (by decide) fl_7 rfl rfl rfl dX9_what_81 ?_
                refine lv_iconst (v := 1) hx hb dX9_what_84 (by decide) ?_
                refine xald hx hb hK hP 1 0 (k := 1) rfl rfl (vi (by decide) (by decide)) (by decide) dX9_what_85 ?_
                refine xcalli (S := Unit) (Wc := [(o, .inr (9, [.ref o_road, .ref o_told, .ref o_fresh, .ref o_was, .int o_acts, .ref o_kept, .ref o_isKept, .ref o_sights, .int o_many, .ref o_text, .int o_letters, .int 0, .int o_cursor, .int o_token, .int o_start, .long o_value, .int o_isFault, .int o_faultAt, .int o_above, .int o_below, .ref o_topOf, .ref o_partsOf, .ref o_sent])), (o_road, .inl (cI, 36, .inl o_road_f))]) (wr := [(o_sights, .inl (cI, 18, .inl o_sights_f))]) (W1 := (fun (u : Unit) => [(o, .inr (9, [.ref o_road, .ref o_told, .ref o_fresh, .ref o_was, .int o_acts, .ref o_kept, .ref o_isKept, .ref o_sights, .int o_many, .ref o_text, .int o_letters, .int 0, .int o_cursor, .int o_token, .int o_start, .long o_value, .int o_isFault, .int o_faultAt, .int o_above, .int o_below, .ref o_topOf, .ref o_partsOf, .ref o_sent])), (o_road, .inl (cI, 36, .inl o_road_f))])) (Wn := (fun (u : Unit) => [(o, .inr (9, [.ref o_road, .ref o_told, .ref o_fresh, .ref o_was, .int o_acts, .ref o_kept, .ref o_isKept, .ref o_sights, .int o_many, .ref o_text, .int o_letters, .int 0, .int o_cursor, .int o_token, .int o_start, .long o_value, .int o_isFault, .int o_faultAt, .int o_above, .int o_below, .ref o_topOf, .ref o_partsOf, .ref o_sent])), (o_road, .inl (cI, 36, .inl o_road_f)), (o_sights, .inl (cI, 18, .inl o_sights_f))])) (xrunV hx hb hml hown hts (c_X9_stoneBy l D cI cZ _ o v20_3 (o_road_f (30 + a1).toNatClampNeg) (o_sights_f ((3 * v31_5) + 1).toNatClampNeg) (o_road_f 1) o_road o_told o_fresh o_was o_acts o_kept o_isKept o_sights o_many o_text o_letters 0 o_cursor o_token o_start o_value o_isFault o_faultAt o_above o_below o_topOf o_partsOf o_sent o_road_f hn0 hn1 (hhab _ (by omega) (by omega))) (cwV 4 hts gX9_what_X9_stoneBy rfl rfl rfl (by decide +kernel) ⟨Nat.le_of_ble_eq_true rfl, Nat.le_of_ble_eq_true rfl⟩) hE hK hP hD [0, 1] rfl rfl 0 9 (T := TX9) (N := 23) rfl rfl rfl hl.1 rfl (Nat.le_of_ble_eq_true rfl) dX9_what_86 ⟨Nat.le_of_ble_eq_true rfl, Nat.le_of_ble_eq_true rfl⟩) hP hD hS hA [0, 1] [2] [1, 2, 0] rfl rfl rfl (by decide) (fun _ => rfl) rfl (fun r2 u H locs hw hz hP hD hS => ?_)
                subst hw
                refine lv_aload_n hx hb dX9_what_89 rfl (lv_at hl 0 rfl) ?_
                refine xget hx hb hts hown hK 9 (C2 := RX9) (T := TX9) (N := 23) rfl hin_9 hP 0 rfl 7 (by decide) fl_29 rfl rfl rfl dX9_what_90 ?_
                refine lv_iconst (v := 3) hx hb dX9_what_93 (by decide) ?_
                refine lv_iload hx hb dX9_what_94 (lv_at hl 5 rfl) ?_
                refine lv_imul hx hb dX9_what_96 ?_
                refine lv_iconst (v := 2) hx hb dX9_what_97 (by decide) ?_
                refine lv_iadd hx hb dX9_what_98 ?_
                have z_5 : ((3 * v31_5) + 2).toInt = (3 * v31_5).toInt + (2 : Int32).toInt := z_add (by omega) (by omega)
                refine xald hx hb hK hP 2 0 (k := ((3 * v31_5) + 2).toNatClampNeg) rfl rfl (vi (by omega) (by omega)) rfl dX9_what_99 ?_
                refine lv_icmp_ne (tgt := 107) hx hb dX9_what_100 (by decide) (fun c_7 => ?_) (fun c_7 => ?_)
                · refine lv_iconst (v := 0) hx hb dX9_what_107 (by decide) ?_
                  exact K_y_3 _ (by simp only [xlet, if_neg c_5, if_pos c_6, if_neg c_7]) _ _ hP hD hS
                · refine lv_iconst (v := 1) hx hb dX9_what_103 (by decide) ?_
                  refine lv_goto (tgt := 108) hx hb dX9_what_104 (by decide) ?_
                  exact K_y_3 _ (by simp only [xlet, if_neg c_5, if_pos c_6, if_pos c_7]) _ _ hP hD hS
      refine lv_iload_n hx hb dX9_what_20 rfl (lv_at hl 3 rfl) ?_
      refine lv_iconst (v := 3) hx hb dX9_what_21 (by decide) ?_
      refine lv_icmp_gt (tgt := 137) hx hb dX9_what_22 (by decide) (fun c_2 => ?_) (fun c_2 => ?_)
      · have kc_2 := t_lt c_2
        refine lv_iload_n hx hb dX9_what_137 rfl (lv_at hl 2 rfl) ?_
        exact hret _ _ _ _ v20_2 () dX9_what_138 ((hF.trans (by simp only [fX9_what_20, xlet, if_pos c_2])).symm) hP hD hS
      · have kc_2 := t_nlt c_2
        refine lv_iconst (v := 1) hx hb dX9_what_25 (by decide) ?_
        refine lv_istore (lv' := [(4, .int 1), (0, .ref o), (1, .int a1), (2, .int v20_2), (3, .int v20_3)]) hx hb dX9_what_26 hl (by decide) rfl (fun ls hl => ?_)
        refine lv_iconst (v := 0) hx hb dX9_what_28 (by decide) ?_
        refine lv_istore (lv' := [(5, .int 0), (4, .int 1), (0, .ref o), (1, .int a1), (2, .int v20_2), (3, .int v20_3)]) hx hb dX9_what_29 hl (by decide) rfl (fun ls hl => ?_)
        exact L_31 (fun v20_2 v20_3 => fX9_what_20 a1 o_many o_road_f o_sights_f n_20 v20_2 v20_3) (fun _ _ => rfl) 1000 1 0 (by first | assumption | omega | decide | (split <;> rename_i hh <;> first | (have h9 := t_nlt hh; omega) | (have h9 := t_lt hh; omega) | (have h9 := t_nle hh; omega) | (have h9 := t_le hh; omega))) (by first | assumption | omega | decide | (split <;> rename_i hh <;> first | (have h9 := t_nlt hh; omega) | (have h9 := t_lt hh; omega) | (have h9 := t_nle hh; omega) | (have h9 := t_le hh; omega))) (by first | assumption | omega | decide | (split <;> rename_i hh <;> first | (have h9 := t_nlt hh; omega) | (have h9 := t_lt hh; omega) | (have h9 := t_nle hh; omega) | (have h9 := t_le hh; omega))) _ _ _ (lv_sub hl [2, 3, 4, 5, 1, 0] rfl) hP hD hS (hF.trans (by simp only [fX9_what_20, xlet, if_neg c_2]))
  refine lv_aload_n hx hb dX9_what_0 rfl (lv_at hl 0 rfl) ?_
  refine lv_iconst (v := 0) hx hb dX9_what_1 (by decide) ?_
  refine xput hx hb hts hown hK 9 (C2 := RX9) (T := TX9) (N := 23) tyX9 rfl tyX9_ok nmX9 hin_9 hP hD hS 0 rfl 11 (by decide) fl_48 rfl rfl rfl rfl rfl (Nat.le_of_ble_eq_true rfl) dX9_what_2 [(o, .inr (9, [.ref o_road, .ref o_told, .ref o_fresh, .ref o_was, .int o_acts, .ref o_kept, .ref o_isKept, .ref o_sights, .int o_many, .ref o_text, .int o_letters, .int 0, .int o_cursor, .int o_token, .int o_start, .long o_value, .int o_isFault, .int o_faultAt, .int o_above, .int o_below, .ref o_topOf, .ref o_partsOf, .ref o_sent])), (o_road, .inl (cI, 36, .inl o_road_f)), (o_sights, .inl (cI, 18, .inl o_sights_f))] rfl (fun H locs hP hD hS => ?_)
  refine lv_aload_n hx hb dX9_what_5 rfl (lv_at hl 0 rfl) ?_
  refine lv_iload_n hx hb dX9_what_6 rfl (lv_at hl 1 rfl) ?_
  refine xcalli (S := Unit) (Wc := [(o, .inr (9, [.ref o_road, .ref o_told, .ref o_fresh, .ref o_was, .int o_acts, .ref o_kept, .ref o_isKept, .ref o_sights, .int o_many, .ref o_text, .int o_letters, .int 0, .int o_cursor, .int o_token, .int o_start, .long o_value, .int o_isFault, .int o_faultAt, .int o_above, .int o_below, .ref o_topOf, .ref o_partsOf, .ref o_sent])), (o_road, .inl (cI, 36, .inl o_road_f))]) (wr := [(o_sights, .inl (cI, 18, .inl o_sights_f))]) (W1 := (fun (u : Unit) => [(o, .inr (9, [.ref o_road, .ref o_told, .ref o_fresh, .ref o_was, .int o_acts, .ref o_kept, .ref o_isKept, .ref o_sights, .int o_many, .ref o_text, .int o_letters, .int 0, .int o_cursor, .int o_token, .int o_start, .long o_value, .int o_isFault, .int o_faultAt, .int o_above, .int o_below, .ref o_topOf, .ref o_partsOf, .ref o_sent])), (o_road, .inl (cI, 36, .inl o_road_f))])) (Wn := (fun (u : Unit) => [(o, .inr (9, [.ref o_road, .ref o_told, .ref o_fresh, .ref o_was, .int o_acts, .ref o_kept, .ref o_isKept, .ref o_sights, .int o_many, .ref o_text, .int o_letters, .int 0, .int o_cursor, .int o_token, .int o_start, .long o_value, .int o_isFault, .int o_faultAt, .int o_above, .int o_below, .ref o_topOf, .ref o_partsOf, .ref o_sent])), (o_road, .inl (cI, 36, .inl o_road_f)), (o_sights, .inl (cI, 18, .inl o_sights_f))])) (xrunV hx hb hml hown hts (c_X9_isWalker l D cI cZ _ o a1 o_road o_told o_fresh o_was o_acts o_kept o_isKept o_sights o_many o_text o_letters 0 o_cursor o_token o_start o_value o_isFault o_faultAt o_above o_below o_topOf o_partsOf o_sent o_road_f ) (cwV 1 hts gX9_what_X9_isWalker rfl rfl rfl (by decide +kernel) ⟨Nat.le_of_ble_eq_true rfl, Nat.le_of_ble_eq_true rfl⟩) hE hK hP hD [0, 1] rfl rfl 0 9 (T := TX9) (N := 23) rfl rfl rfl hl.1 rfl (Nat.le_of_ble_eq_true rfl) dX9_what_7 ⟨Nat.le_of_ble_eq_true rfl, Nat.le_of_ble_eq_true rfl⟩) hP hD hS hA [0, 1] [2] [1, 2, 0] rfl rfl rfl (by decide) (fun _ => rfl) rfl (fun r1 u H locs hw hz hP hD hS => ?_)
  subst hw
  refine lv_if_ne (tgt := 16) hx hb dX9_what_10 (by decide) (fun c_1 => ?_) (fun c_1 => ?_)
  · have kb_c_1 : 0 ≤ a1.toInt ∧ a1.toInt < (o_road_f 2).toInt := isWalker_b c_1 (by omega) (by omega)
    refine lv_iconst (v := 0) hx hb dX9_what_16 (by decide) ?_
    refine lv_istore_n (lv' := [(2, .int 0), (0, .ref o), (1, .int a1)]) hx hb dX9_what_17 rfl hl (by decide) rfl (fun ls hl => ?_)
    refine lv_iconst (v := 0) hx hb dX9_what_18 (by decide) ?_
    refine lv_istore_n (lv' := [(3, .int 0), (2, .int 0), (0, .ref o), (1, .int a1)]) hx hb dX9_what_19 rfl hl (by decide) rfl (fun ls hl => ?_)
    exact L_20 1000 0 0 (by first | assumption | omega | decide | (split <;> rename_i hh <;> first | (have h9 := t_nlt hh; omega) | (have h9 := t_lt hh; omega) | (have h9 := t_nle hh; omega) | (have h9 := t_le hh; omega))) (by first | assumption | omega | decide | (split <;> rename_i hh <;> first | (have h9 := t_nlt hh; omega) | (have h9 := t_lt hh; omega) | (have h9 := t_nle hh; omega) | (have h9 := t_le hh; omega))) (by first | assumption | omega | decide | (split <;> rename_i hh <;> first | (have h9 := t_nlt hh; omega) | (have h9 := t_lt hh; omega) | (have h9 := t_nle hh; omega) | (have h9 := t_le hh; omega))) (by first | assumption | omega | decide | (split <;> rename_i hh <;> first | (have h9 := t_nlt hh; omega) | (have h9 := t_lt hh; omega) | (have h9 := t_nle hh; omega) | (have h9 := t_le hh; omega))) (by first | assumption | omega | decide | (split <;> rename_i hh <;> first | (have h9 := t_nlt hh; omega) | (have h9 := t_lt hh; omega) | (have h9 := t_nle hh; omega) | (have h9 := t_le hh; omega))) _ _ _ (lv_sub hl [2, 3, 1, 0] rfl) hP hD hS (hF.trans (by simp only [fX9_what, xlet, if_neg c_1]))
  · refine lv_bipush (v := (-2)) hx hb dX9_what_13 (by decide) ?_
    exact hret _ _ _ _ (-2) () dX9_what_15 ((hF.trans (by simp only [fX9_what, xlet, if_pos c_1])).symm) hP hD hS
set_option maxRecDepth 20000 in
theorem ggX9_miles_X9_in : GoodIn wsX9_miles wsX9_in := goodIn_r _ [8] (by decide +kernel) (by decide +kernel)
set_option maxRecDepth 20000 in
theorem gX9_miles_X9_in : GoodIn wsX9_miles (va_wsS RX9 52 yX9_in wsX9_in) := goodIn_app (goodIn_of _ (by decide +kernel)) ggX9_miles_X9_in
set_option maxRecDepth 20000 in
theorem ggX9_miles_X9_stoneBy : GoodIn wsX9_miles wsX9_stoneBy := goodIn_r _ [12, 4, 13, 14, 15, 7, 16, 17, 18, 19, 20, 21, 22, 23, 24, 25, 26, 27, 28, 29, 30, 31, 32, 33, 34, 35, 36, 37, 38, 39] (by decide +kernel) (by decide +kernel)
set_option maxRecDepth 20000 in
theorem gX9_miles_X9_stoneBy : GoodIn wsX9_miles (wsV RX9 138 RX9 yX9_stoneBy wsX9_stoneBy) := goodIn_app (goodIn_of _ (by decide +kernel)) ggX9_miles_X9_stoneBy
theorem dX9_miles_0 : decode cX9_miles 0 = .ok (.aload_n 0, 1) := by decide +kernel
theorem dX9_miles_1 : decode cX9_miles 1 = .ok (.iconst 0, 1) := by decide +kernel
theorem dX9_miles_2 : decode cX9_miles 2 = .ok (.putfield 48, 3) := by decide +kernel
theorem dX9_miles_5 : decode cX9_miles 5 = .ok (.iload_n 1, 1) := by decide +kernel
theorem dX9_miles_6 : decode cX9_miles 6 = .ok (.i2l, 1) := by decide +kernel
theorem dX9_miles_7 : decode cX9_miles 7 = .ok (.lconst 0, 1) := by decide +kernel
theorem dX9_miles_8 : decode cX9_miles 8 = .ok (.lconst 1, 1) := by decide +kernel
theorem dX9_miles_9 : decode cX9_miles 9 = .ok (.invokestatic 52, 3) := by decide +kernel
theorem dX9_miles_12 : decode cX9_miles 12 = .ok (.ifCond .ne 6, 3) := by decide +kernel
theorem dX9_miles_15 : decode cX9_miles 15 = .ok (.bipush (-3), 2) := by decide +kernel
theorem dX9_miles_17 : decode cX9_miles 17 = .ok (.ireturn, 1) := by decide +kernel
theorem dX9_miles_18 : decode cX9_miles 18 = .ok (.iconst 0, 1) := by decide +kernel
theorem dX9_miles_19 : decode cX9_miles 19 = .ok (.istore_n 2, 1) := by decide +kernel
theorem dX9_miles_20 : decode cX9_miles 20 = .ok (.iconst (-1), 1) := by decide +kernel
theorem dX9_miles_21 : decode cX9_miles 21 = .ok (.istore_n 3, 1) := by decide +kernel
theorem dX9_miles_22 : decode cX9_miles 22 = .ok (.bipush 40, 2) := by decide +kernel
theorem dX9_miles_24 : decode cX9_miles 24 = .ok (.istore 4, 2) := by decide +kernel
theorem dX9_miles_26 : decode cX9_miles 26 = .ok (.iload 4, 2) := by decide +kernel
theorem dX9_miles_28 : decode cX9_miles 28 = .ok (.ifCond .le 129, 3) := by decide +kernel
theorem dX9_miles_31 : decode cX9_miles 31 = .ok (.iconst 1, 1) := by decide +kernel
theorem dX9_miles_32 : decode cX9_miles 32 = .ok (.istore 5, 2) := by decide +kernel
theorem dX9_miles_34 : decode cX9_miles 34 = .ok (.iconst 0, 1) := by decide +kernel
theorem dX9_miles_35 : decode cX9_miles 35 = .ok (.istore 6, 2) := by decide +kernel
theorem dX9_miles_37 : decode cX9_miles 37 = .ok (.iload 6, 2) := by decide +kernel
theorem dX9_miles_39 : decode cX9_miles 39 = .ok (.aload_n 0, 1) := by decide +kernel
theorem dX9_miles_40 : decode cX9_miles 40 = .ok (.getfield 128, 3) := by decide +kernel
theorem dX9_miles_43 : decode cX9_miles 43 = .ok (.if_icmp .ge 83, 3) := by decide +kernel
theorem dX9_miles_46 : decode cX9_miles 46 = .ok (.aload_n 0, 1) := by decide +kernel
theorem dX9_miles_47 : decode cX9_miles 47 = .ok (.getfield 29, 3) := by decide +kernel
theorem dX9_miles_50 : decode cX9_miles 50 = .ok (.iconst 3, 1) := by decide +kernel
theorem dX9_miles_51 : decode cX9_miles 51 = .ok (.iload 6, 2) := by decide +kernel
theorem dX9_miles_53 : decode cX9_miles 53 = .ok (.imul, 1) := by decide +kernel
theorem dX9_miles_54 : decode cX9_miles 54 = .ok (.iaload, 1) := by decide +kernel
theorem dX9_miles_55 : decode cX9_miles 55 = .ok (.istore 7, 2) := by decide +kernel
theorem dX9_miles_57 : decode cX9_miles 57 = .ok (.iload 5, 2) := by decide +kernel
theorem dX9_miles_59 : decode cX9_miles 59 = .ok (.ifCond .eq 58, 3) := by decide +kernel
theorem dX9_miles_62 : decode cX9_miles 62 = .ok (.aload_n 0, 1) := by decide +kernel
theorem dX9_miles_63 : decode cX9_miles 63 = .ok (.aload_n 0, 1) := by decide +kernel
theorem dX9_miles_64 : decode cX9_miles 64 = .ok (.getfield 7, 3) := by decide +kernel
theorem dX9_miles_67 : decode cX9_miles 67 = .ok (.bipush 24, 2) := by decide +kernel
theorem dX9_miles_69 : decode cX9_miles 69 = .ok (.iload 7, 2) := by decide +kernel
theorem dX9_miles_71 : decode cX9_miles 71 = .ok (.iadd, 1) := by decide +kernel
theorem dX9_miles_72 : decode cX9_miles 72 = .ok (.iaload, 1) := by decide +kernel
theorem dX9_miles_73 : decode cX9_miles 73 = .ok (.aload_n 0, 1) := by decide +kernel
theorem dX9_miles_74 : decode cX9_miles 74 = .ok (.getfield 7, 3) := by decide +kernel
theorem dX9_miles_77 : decode cX9_miles 77 = .ok (.bipush 30, 2) := by decide +kernel
theorem dX9_miles_79 : decode cX9_miles 79 = .ok (.iload 7, 2) := by decide +kernel
theorem dX9_miles_81 : decode cX9_miles 81 = .ok (.iadd, 1) := by decide +kernel
theorem dX9_miles_82 : decode cX9_miles 82 = .ok (.iaload, 1) := by decide +kernel
theorem dX9_miles_83 : decode cX9_miles 83 = .ok (.aload_n 0, 1) := by decide +kernel
theorem dX9_miles_84 : decode cX9_miles 84 = .ok (.getfield 29, 3) := by decide +kernel
theorem dX9_miles_87 : decode cX9_miles 87 = .ok (.iconst 3, 1) := by decide +kernel
theorem dX9_miles_88 : decode cX9_miles 88 = .ok (.iload 6, 2) := by decide +kernel
theorem dX9_miles_90 : decode cX9_miles 90 = .ok (.imul, 1) := by decide +kernel
theorem dX9_miles_91 : decode cX9_miles 91 = .ok (.iconst 1, 1) := by decide +kernel
theorem dX9_miles_92 : decode cX9_miles 92 = .ok (.iadd, 1) := by decide +kernel
theorem dX9_miles_93 : decode cX9_miles 93 = .ok (.iaload, 1) := by decide +kernel
theorem dX9_miles_94 : decode cX9_miles 94 = .ok (.iload 4, 2) := by decide +kernel
theorem dX9_miles_96 : decode cX9_miles 96 = .ok (.invokevirtual 138, 3) := by decide +kernel
theorem dX9_miles_99 : decode cX9_miles 99 = .ok (.aload_n 0, 1) := by decide +kernel
theorem dX9_miles_100 : decode cX9_miles 100 = .ok (.getfield 29, 3) := by decide +kernel
theorem dX9_miles_103 : decode cX9_miles 103 = .ok (.iconst 3, 1) := by decide +kernel
theorem dX9_miles_104 : decode cX9_miles 104 = .ok (.iload 6, 2) := by decide +kernel
theorem dX9_miles_106 : decode cX9_miles 106 = .ok (.imul, 1) := by decide +kernel
theorem dX9_miles_107 : decode cX9_miles 107 = .ok (.iconst 2, 1) := by decide +kernel
theorem dX9_miles_108 : decode cX9_miles 108 = .ok (.iadd, 1) := by decide +kernel
theorem dX9_miles_109 : decode cX9_miles 109 = .ok (.iaload, 1) := by decide +kernel
theorem dX9_miles_110 : decode cX9_miles 110 = .ok (.if_icmp .ne 7, 3) := by decide +kernel
theorem dX9_miles_113 : decode cX9_miles 113 = .ok (.iconst 1, 1) := by decide +kernel
theorem dX9_miles_114 : decode cX9_miles 114 = .ok (.goto 4, 3) := by decide +kernel
theorem dX9_miles_117 : decode cX9_miles 117 = .ok (.iconst 0, 1) := by decide +kernel
theorem dX9_miles_118 : decode cX9_miles 118 = .ok (.istore 5, 2) := by decide +kernel
theorem dX9_miles_120 : decode cX9_miles 120 = .ok (.iinc 6 1, 3) := by decide +kernel
theorem dX9_miles_123 : decode cX9_miles 123 = .ok (.goto (-86), 3) := by decide +kernel
theorem dX9_miles_126 : decode cX9_miles 126 = .ok (.iload_n 2, 1) := by decide +kernel
theorem dX9_miles_127 : decode cX9_miles 127 = .ok (.iload 5, 2) := by decide +kernel
theorem dX9_miles_129 : decode cX9_miles 129 = .ok (.ifCond .eq 7, 3) := by decide +kernel
theorem dX9_miles_132 : decode cX9_miles 132 = .ok (.iconst 1, 1) := by decide +kernel
theorem dX9_miles_133 : decode cX9_miles 133 = .ok (.goto 4, 3) := by decide +kernel
theorem dX9_miles_136 : decode cX9_miles 136 = .ok (.iconst 0, 1) := by decide +kernel
theorem dX9_miles_137 : decode cX9_miles 137 = .ok (.iadd, 1) := by decide +kernel
theorem dX9_miles_138 : decode cX9_miles 138 = .ok (.istore_n 2, 1) := by decide +kernel
theorem dX9_miles_139 : decode cX9_miles 139 = .ok (.iload 5, 2) := by decide +kernel
theorem dX9_miles_141 : decode cX9_miles 141 = .ok (.ifCond .eq 8, 3) := by decide +kernel
theorem dX9_miles_144 : decode cX9_miles 144 = .ok (.iload 4, 2) := by decide +kernel
theorem dX9_miles_146 : decode cX9_miles 146 = .ok (.goto 4, 3) := by decide +kernel
theorem dX9_miles_149 : decode cX9_miles 149 = .ok (.iload_n 3, 1) := by decide +kernel
theorem dX9_miles_150 : decode cX9_miles 150 = .ok (.istore_n 3, 1) := by decide +kernel
theorem dX9_miles_151 : decode cX9_miles 151 = .ok (.iinc 4 (-1), 3) := by decide +kernel
theorem dX9_miles_154 : decode cX9_miles 154 = .ok (.goto (-128), 3) := by decide +kernel
theorem dX9_miles_157 : decode cX9_miles 157 = .ok (.iload_n 1, 1) := by decide +kernel
theorem dX9_miles_158 : decode cX9_miles 158 = .ok (.ifCond .ne 7, 3) := by decide +kernel
theorem dX9_miles_161 : decode cX9_miles 161 = .ok (.iload_n 2, 1) := by decide +kernel
theorem dX9_miles_162 : decode cX9_miles 162 = .ok (.goto 4, 3) := by decide +kernel
theorem dX9_miles_165 : decode cX9_miles 165 = .ok (.iload_n 3, 1) := by decide +kernel
theorem dX9_miles_166 : decode cX9_miles 166 = .ok (.ireturn, 1) := by decide +kernel
def fX9_miles_37 (o_many : Int32) (o_sights_f : Nat → Int32) (o_road_f : Nat → Int32) (v26_4 : Int32) (v26_3 : Int32) (v26_2 : Int32) (k_26 : Int32 → Int32 → Int32 → Int32) : Nat → Int32 → Int32 → Int32
  | 0, _, _ => default
  | n + 1, v37_5, v37_6 => if o_many ≤ v37_6 then (xlet (if v37_5 = 0 then (0 : Int32) else 1) (fun y_3 => xlet (if v37_5 = 0 then v26_3 else v26_4) (fun y_4 => k_26 (v26_2 + y_3) y_4 (v26_4 + (-1))))) else (xlet (if v37_5 = 0 then (0 : Int32) else (if (fX9_stoneBy (o_road_f (24 + (o_sights_f (3 * v37_6).toNatClampNeg)).toNatClampNeg) (o_road_f (30 + (o_sights_f (3 * v37_6).toNatClampNeg)).toNatClampNeg) (o_sights_f ((3 * v37_6) + 1).toNatClampNeg) v26_4 o_road_f) = (o_sights_f ((3 * v37_6) + 2).toNatClampNeg) then 1 else 0)) (fun y_5 => fX9_miles_37 o_many o_sights_f o_road_f v26_4 v26_3 v26_2 k_26 n y_5 (v37_6 + 1)))
def fX9_miles_26 (a1 : Int32) (o_many : Int32) (o_sights_f : Nat → Int32) (o_road_f : Nat → Int32)  : Nat → Int32 → Int32 → Int32 → Int32
  | 0, _, _, _ => default
  | n + 1, v26_2, v26_3, v26_4 => if v26_4 ≤ 0 then (xlet (if a1 = 0 then v26_2 else v26_3) (fun y_1 => y_1)) else (fX9_miles_37 o_many o_sights_f o_road_f v26_4 v26_3 v26_2 (fun v26_2 v26_3 v26_4 => fX9_miles_26 a1 o_many o_sights_f o_road_f n v26_2 v26_3 v26_4) 1000 1 0)
def fX9_miles (a1 : Int32) (o_many : Int32) (o_sights_f : Nat → Int32) (o_road_f : Nat → Int32) : Int32 := if (fX9_in a1.toInt64 0 1) = 0 then ((-3)) else (fX9_miles_26 a1 o_many o_sights_f o_road_f 1000 0 (-1) 40)
set_option maxHeartbeats 4000000 in
set_option maxRecDepth 100000 in
theorem c_X9_miles (l : Launch) (D : va_G) (cI cZ : ClassId) (sz : Nat) (o : Nat) (a1 : Int32) (o_road : Nat) (o_told : Nat) (o_fresh : Nat) (o_was : Nat) (o_acts : Int32) (o_kept : Nat) (o_isKept : Nat) (o_sights : Nat) (o_many : Int32) (o_text : Nat) (o_letters : Int32) (o_thrown : Int32) (o_cursor : Int32) (o_token : Int32) (o_start : Int32) (o_value : Int64) (o_isFault : Int32) (o_faultAt : Int32) (o_above : Int32) (o_below : Int32) (o_topOf : Nat) (o_partsOf : Nat) (o_sent : Nat) (o_sights_f : Nat → Int32) (o_road_f : Nat → Int32) (hn0 : 4 ≤ (o_road_f 0).toInt) (hn1 : (o_road_f 0).toInt ≤ 20) (hv0 : 0 ≤ (o_road_f 2).toInt) (hv6 : (o_road_f 2).toInt ≤ 6) (hhab : ∀ w : Int32, 0 ≤ w.toInt → w.toInt < (o_road_f 2).toInt → ¬ o_road_f (30 + w).toNatClampNeg = 0) (hm0 : 0 ≤ o_many.toInt) (hm6 : o_many.toInt ≤ 6) (hsg : ∀ i : Int32, 0 ≤ i.toInt → i.toInt < o_many.toInt → 0 ≤ (o_sights_f (3 * i).toNatClampNeg).toInt ∧ (o_sights_f (3 * i).toNatClampNeg).toInt < (o_road_f 2).toInt) : Met l yX9_miles wsX9_miles ({ frames := 2, cells := 0, slots := 0, locals := 51 } : Room) (va_Pc [.ref o, .int a1] (xP D cI cZ [(o, .inr (9, [.ref o_road, .ref o_told, .ref o_fresh, .ref o_was, .int o_acts, .ref o_kept, .ref o_isKept, .ref o_sights, .int o_many, .ref o_text, .int o_letters, .int o_thrown, .int o_cursor, .int o_token, .int o_start, .long o_value, .int o_isFault, .int o_faultAt, .int o_above, .int o_below, .ref o_topOf, .ref o_partsOf, .ref o_sent])), (o_sights, .inl (cI, 18, .inl o_sights_f)), (o_road, .inl (cI, 36, .inl o_road_f))] sz)) (va_Qi (fun (r : Int32) (u : Unit) => r = fX9_miles a1 o_many o_sights_f o_road_f) (fun (u : Unit) t => xB D cI cZ [(o, .inr (9, [.ref o_road, .ref o_told, .ref o_fresh, .ref o_was, .int o_acts, .ref o_kept, .ref o_isKept, .ref o_sights, .int o_many, .ref o_text, .int o_letters, .int 0, .int o_cursor, .int o_token, .int o_start, .long o_value, .int o_isFault, .int o_faultAt, .int o_above, .int o_below, .ref o_topOf, .ref o_partsOf, .ref o_sent])), (o_sights, .inl (cI, 18, .inl o_sights_f)), (o_road, .inl (cI, 36, .inl o_road_f))] (va_A [(o, .inr (9, [.ref o_road, .ref o_told, .ref o_fresh, .ref o_was, .int o_acts, .ref o_kept, .ref o_isKept, .ref o_sights, .int o_many, .ref o_text, .int o_letters, .int o_thrown, .int o_cursor, .int o_token, .int o_start, .long o_value, .int o_isFault, .int o_faultAt, .int o_above, .int o_below, .ref o_topOf, .ref o_partsOf, .ref o_sent])), (o_sights, .inl (cI, 18, .inl o_sights_f)), (o_road, .inl (cI, 36, .inl o_road_f))] sz) t) (va_A [(o, .inr (9, [.ref o_road, .ref o_told, .ref o_fresh, .ref o_was, .int o_acts, .ref o_kept, .ref o_isKept, .ref o_sights, .int o_many, .ref o_text, .int o_letters, .int o_thrown, .int o_cursor, .int o_token, .int o_start, .long o_value, .int o_isFault, .int o_faultAt, .int o_above, .int o_below, .ref o_topOf, .ref o_partsOf, .ref o_sent])), (o_sights, .inl (cI, 18, .inl o_sights_f)), (o_road, .inl (cI, 36, .inl o_road_f))] sz)) 0 0 (va_A [(o, .inr (9, [.ref o_road, .ref o_told, .ref o_fresh, .ref o_was, .int o_acts, .ref o_kept, .ref o_isKept, .ref o_sights, .int o_many, .ref o_text, .int o_letters, .int o_thrown, .int o_cursor, .int o_token, .int o_start, .long o_value, .int o_isFault, .int o_faultAt, .int o_above, .int o_below, .ref o_topOf, .ref o_partsOf, .ref o_sent])), (o_sights, .inl (cI, 18, .inl o_sights_f)), (o_road, .inl (cI, 36, .inl o_road_f))] sz) := by
  refine Met.ofW (cc := cX9_miles) (maxL := 8) (ret := (some .int)) (by decide) rfl ?_
  intro p e s m args below meth c s₁ B hml hv
  obtain ⟨hargs, hsz, hP, hK, hD0, hE⟩ := hv
  subst hargs
  have hx := B.exec
  have hb := B.bytes
  have hr := B.returns
  have hts := atoms_spec (ws := wsX9_miles) B.pre
  have hown : s.vm.findClass RX9 = some m.cls := findClass_of_methodNamed B.named
  have hlocks := B.notSynchronized
  subst hsz
  have hD := hD0.self (sz := s.heap.size)
  generalize hAe : va_A [(o, .inr (9, [.ref o_road, .ref o_told, .ref o_fresh, .ref o_was, .int o_acts, .ref o_kept, .ref o_isKept, .ref o_sights, .int o_many, .ref o_text, .int o_letters, .int o_thrown, .int o_cursor, .int o_token, .int o_start, .long o_value, .int o_isFault, .int o_faultAt, .int o_above, .int o_below, .ref o_topOf, .ref o_partsOf, .ref o_sent])), (o_sights, .inl (cI, 18, .inl o_sights_f)), (o_road, .inl (cI, 36, .inl o_road_f))] s.heap.size = A at hD ⊢
  have hA : ∀ q : Nat, s.heap.size ≤ q → A q := fun q h => by rw [← hAe]; exact Or.inr h
  have hS : va_S A s.heap s.heap [] := va_S.rf
  have hl := lv_entry ([.ref o, .int a1]) (n := 8) (Nat.le_of_ble_eq_true rfl)
  rw [lg_entry_eq]
  generalize (lg_sl ([.ref o, .int a1]) ++ List.replicate (8 - (lg_sl ([.ref o, .int a1])).length) Slot.unset).toArray = ls at hl ⊢
  have hl : lv_has ls 8 [(0, .ref o), (1, .int a1)] := hl
  refine wq (X := fun Q => ∀ (pc : Nat) (H : Heap) (locs : List Loc) (ls : Array Slot) (r : Int32) (u : Unit) (hd : decode cX9_miles pc = .ok (.ireturn, 1)) (hp : r = fX9_miles a1 o_many o_sights_f o_road_f) (hP : va_P D vwCl [(o, .inr (9, [.ref o_road, .ref o_told, .ref o_fresh, .ref o_was, .int o_acts, .ref o_kept, .ref o_isKept, .ref o_sights, .int o_many, .ref o_text, .int o_letters, .int 0, .int o_cursor, .int o_token, .int o_start, .long o_value, .int o_isFault, .int o_faultAt, .int o_above, .int o_below, .ref o_topOf, .ref o_partsOf, .ref o_sent])), (o_sights, .inl (cI, 18, .inl o_sights_f)), (o_road, .inl (cI, 36, .inl o_road_f))] H) (hD : va_D A [(o, .inr (9, [.ref o_road, .ref o_told, .ref o_fresh, .ref o_was, .int o_acts, .ref o_kept, .ref o_isKept, .ref o_sights, .int o_many, .ref o_text, .int o_letters, .int 0, .int o_cursor, .int o_token, .int o_start, .long o_value, .int o_isFault, .int o_faultAt, .int o_above, .int o_below, .ref o_topOf, .ref o_partsOf, .ref o_sent])), (o_sights, .inl (cI, 18, .inl o_sights_f)), (o_road, .inl (cI, 36, .inl o_road_f))]) (hS : va_S A s.heap H locs), W p l e ({ frames := 2, cells := 0, slots := 0, locals := 51 } : Room) s m ([.ref o, .int a1] : List Value).toArray below meth c H locs 0 0 Q (F0 m pc ls [.int r])) ?_ (fun Q hret => ?_)
  · intro pc H locs ls r u hd hp hP hD hS
    exact W.iret (v := r) hx hb hr (fun t ht hW => ⟨⟨r, u, rfl, hp, by rw [ht]; exact hP, va_K.moved hW.alike hK, hD⟩, hS.F ht⟩) hS.2.2 hd
  have hin_9 : ∀ w ∈ u_ws RX9 TX9 23, w ∈ wsX9_miles := by decide +kernel
  have fl_7 := hts (.fieldLink RX9 7 "MileRoadModel" "road" "[I") (by decide +kernel)
  have fl_29 := hts (.fieldLink RX9 29 "MileRoadModel" "sights" "[I") (by decide +kernel)
  have fl_48 := hts (.fieldLink RX9 48 "MileRoadModel" "thrown" "I") (by decide +kernel)
  have fl_128 := hts (.fieldLink RX9 128 "MileRoadModel" "many" "I") (by decide +kernel)
  have zl_m1 : ((-1) : Int32).toInt = (-1) := by decide
  have zl_0 : (0 : Int32).toInt = 0 := by decide
  have zl_1 : (1 : Int32).toInt = 1 := by decide
  have zl_2 : (2 : Int32).toInt = 2 := by decide
  have zl_3 : (3 : Int32).toInt = 3 := by decide
  have zl_24 : (24 : Int32).toInt = 24 := by decide
  have zl_30 : (30 : Int32).toInt = 30 := by decide
  have zl_40 : (40 : Int32).toInt = 40 := by decide
  have hF : fX9_miles a1 o_many o_sights_f o_road_f = fX9_miles a1 o_many o_sights_f o_road_f := rfl
  have L_26 : ∀  (n_26 : Nat) (v26_2 : Int32) (v26_3 : Int32) (v26_4 : Int32) (h1_26 : 0 ≤ v26_4.toInt) (h2_26 : v26_4.toInt ≤ 40) (hm : v26_4.toInt < (n_26 : Int)) (H : Heap) (locs : List Loc) (ls : Array Slot) (hl : lv_has ls 8 [(0, .ref o), (1, .int a1), (2, .int v26_2), (3, .int v26_3), (4, .int v26_4)]) (hP : va_P D vwCl [(o, .inr (9, [.ref o_road, .ref o_told, .ref o_fresh, .ref o_was, .int o_acts, .ref o_kept, .ref o_isKept, .ref o_sights, .int o_many, .ref o_text, .int o_letters, .int 0, .int o_cursor, .int o_token, .int o_start, .long o_value, .int o_isFault, .int o_faultAt, .int o_above, .int o_below, .ref o_topOf, .ref o_partsOf, .ref o_sent])), (o_sights, .inl (cI, 18, .inl o_sights_f)), (o_road, .inl (cI, 36, .inl o_road_f))] H) (hD : va_D A [(o, .inr (9, [.ref o_road, .ref o_told, .ref o_fresh, .ref o_was, .int o_acts, .ref o_kept, .ref o_isKept, .ref o_sights, .int o_many, .ref o_text, .int o_letters, .int 0, .int o_cursor, .int o_token, .int o_start, .long o_value, .int o_isFault, .int o_faultAt, .int o_above, .int o_below, .ref o_topOf, .ref o_partsOf, .ref o_sent])), (o_sights, .inl (cI, 18, .inl o_sights_f)), (o_road, .inl (cI, 36, .inl o_road_f))]) (hS : va_S A s.heap H locs) (hF : fX9_miles a1 o_many o_sights_f o_road_f = fX9_miles_26 a1 o_many o_sights_f o_road_f n_26 v26_2 v26_3 v26_4), W p l e ({ frames := 2, cells := 0, slots := 0, locals := 51 } : Room) s m ([.ref o, .int a1] : List Value).toArray below meth c H locs 0 0 Q (F0 m 26 ls []) := by
    intro  n_26
    induction n_26 with
    | zero =>
      intro v26_2 v26_3 v26_4 h1_26 h2_26 hm H locs ls hl hP hD hS hF
      exact absurd hm (by omega)
    | succ n_26 ih_26 =>
      intro v26_2 v26_3 v26_4 h1_26 h2_26 hm H locs ls hl hP hD hS hF
      have L_37 : ∀ (k_26 : Int32 → Int32 → Int32 → Int32) (hk_26 : ∀ (v26_2 : Int32) (v26_3 : Int32) (v26_4 : Int32), k_26 v26_2 v26_3 v26_4 = fX9_miles_26 a1 o_many o_sights_f o_road_f n_26 v26_2 v26_3 v26_4) (n_37 : Nat) (v37_5 : Int32) (v37_6 : Int32) (h1_37 : 0 ≤ v37_6.toInt) (h2_37 : v37_6.toInt ≤ 6) (hp : 1 ≤ v26_4.toInt) (hm : 6 - v37_6.toInt < (n_37 : Int)) (H : Heap) (locs : List Loc) (ls : Array Slot) (hl : lv_has ls 8 [(0, .ref o), (1, .int a1), (2, .int v26_2), (3, .int v26_3), (4, .int v26_4), (5, .int v37_5), (6, .int v37_6)]) (hP : va_P D vwCl [(o, .inr (9, [.ref o_road, .ref o_told, .ref o_fresh, .ref o_was, .int o_acts, .ref o_kept, .ref o_isKept, .ref o_sights, .int o_many, .ref o_text, .int o_letters, .int 0, .int o_cursor, .int o_token, .int o_start, .long o_value, .int o_isFault, .int o_faultAt, .int o_above, .int o_below, .ref o_topOf, .ref o_partsOf, .ref o_sent])), (o_sights, .inl (cI, 18, .inl o_sights_f)), (o_road, .inl (cI, 36, .inl o_road_f))] H) (hD : va_D A [(o, .inr (9, [.ref o_road, .ref o_told, .ref o_fresh, .ref o_was, .int o_acts, .ref o_kept, .ref o_isKept, .ref o_sights, .int o_many, .ref o_text, .int o_letters, .int 0, .int o_cursor, .int o_token, .int o_start, .long o_value, .int o_isFault, .int o_faultAt, .int o_above, .int o_below, .ref o_topOf, .ref o_partsOf, .ref o_sent])), (o_sights, .inl (cI, 18, .inl o_sights_f)), (o_road, .inl (cI, 36, .inl o_road_f))]) (hS : va_S A s.heap H locs) (hF : fX9_miles a1 o_many o_sights_f o_road_f = fX9_miles_37 o_many o_sights_f o_road_f v26_4 v26_3 v26_2 k_26 n_37 v37_5 v37_6), W p l e ({ frames := 2, cells := 0, slots := 0, locals := 51 } : Room) s m ([.ref o, .int a1] : List Value).toArray below meth c H locs 0 0 Q (F0 m 37 ls []) := by
        intro k_26 hk_26 n_37
        induction n_37 with
        | zero =>
          intro v37_5 v37_6 h1_37 h2_37 hp hm H locs ls hl hP hD hS hF
          exact absurd hm (by omega)
        | succ n_37 ih_37 =>
          intro v37_5 v37_6 h1_37 h2_37 hp hm H locs ls hl hP hD hS hF
          have zq : (v26_4 + (-1)).toInt = v26_4.toInt + ((-1) : Int32).toInt := z_add (by omega) (by omega)
          have q1 : 0 ≤ (v26_4 + (-1)).toInt := by omega
          have q2 : (v26_4 + (-1)).toInt ≤ 40 := by omega
          have q3 : (v26_4 + (-1)).toInt < (n_26 : Int) := by omega
          refine lv_iload hx hb dX9_miles_37 (lv_at hl 6 rfl) ?_
          refine lv_aload_n hx hb dX9_miles_39 rfl (lv_at hl 0 rfl) ?_
          refine xget hx hb hts hown hK 9 (C2 := RX9) (T := TX9) (N := 23) rfl hin_9 hP 0 rfl 8 (by decide) fl_128 rfl rfl rfl dX9_miles_40 ?_
          refine lv_icmp_ge (tgt := 126) hx hb dX9_miles_43 (by decide) (fun c_4 => ?_) (fun c_4 => ?_)
          · have kc_4 := t_le c_4
            refine lv_iload_n hx hb dX9_miles_126 rfl (lv_at hl 2 rfl) ?_
            refine lv_iload hx hb dX9_miles_127 (lv_at hl 5 rfl) ?_
            have K_y_3 : ∀ (y_3 : Int32) (hy_y_3 : (if v37_5 = 0 then (0 : Int32) else 1) = y_3) (H : Heap) (locs : List Loc) (hP : va_P D vwCl [(o, .inr (9, [.ref o_road, .ref o_told, .ref o_fresh, .ref o_was, .int o_acts, .ref o_kept, .ref o_isKept, .ref o_sights, .int o_many, .ref o_text, .int o_letters, .int 0, .int o_cursor, .int o_token, .int o_start, .long o_value, .int o_isFault, .int o_faultAt, .int o_above, .int o_below, .ref o_topOf, .ref o_partsOf, .ref o_sent])), (o_sights, .inl (cI, 18, .inl o_sights_f)), (o_road, .inl (cI, 36, .inl o_road_f))] H) (hD : va_D A [(o, .inr (9, [.ref o_road, .ref o_told, .ref o_fresh, .ref o_was, .int o_acts, .ref o_kept, .ref o_isKept, .ref o_sights, .int o_many, .ref o_text, .int o_letters, .int 0, .int o_cursor, .int o_token, .int o_start, .long o_value, .int o_isFault, .int o_faultAt, .int o_above, .int o_below, .ref o_topOf, .ref o_partsOf, .ref o_sent])), (o_sights, .inl (cI, 18, .inl o_sights_f)), (o_road, .inl (cI, 36, .inl o_road_f))]) (hS : va_S A s.heap H locs), W p l e ({ frames := 2, cells := 0, slots := 0, locals := 51 } : Room) s m ([.ref o, .int a1] : List Value).toArray below meth c H locs 0 0 Q (F0 m 137 ls [.int y_3, .int v26_2]) := by
              intro y_3 hy_y_3 H locs hP hD hS
              have ky_y_3 : y_3 = 0 ∨ y_3 = 1 := by rw [← hy_y_3]; (repeat' split) <;> simp
              refine lv_iadd hx hb dX9_miles_137 ?_
              refine lv_istore_n (lv' := [(2, .int (v26_2 + y_3)), (0, .ref o), (1, .int a1), (3, .int v26_3), (4, .int v26_4), (5, .int v37_5), (6, .int v37_6)]) hx hb dX9_miles_138 rfl hl (by decide) rfl (fun ls hl => ?_)
              refine lv_iload hx hb dX9_miles_139 (lv_at hl 5 rfl) ?_
              have K_y_4 : ∀ (y_4 : Int32) (hy_y_4 : (if v37_5 = 0 then v26_3 else v26_4) = y_4) (H : Heap) (locs : List Loc) (hP : va_P D vwCl [(o, .inr (9, [.ref o_road, .ref o_told, .ref o_fresh, .ref o_was, .int o_acts, .ref o_kept, .ref o_isKept, .ref o_sights, .int o_many, .ref o_text, .int o_letters, .int 0, .int o_cursor, .int o_token, .int o_start, .long o_value, .int o_isFault, .int o_faultAt, .int o_above, .int o_below, .ref o_topOf, .ref o_partsOf, .ref o_sent])), (o_sights, .inl (cI, 18, .inl o_sights_f)), (o_road, .inl (cI, 36, .inl o_road_f))] H) (hD : va_D A [(o, .inr (9, [.ref o_road, .ref o_told, .ref o_fresh, .ref o_was, .int o_acts, .ref o_kept, .ref o_isKept, .ref o_sights, .int o_many, .ref o_text, .int o_letters, .int 0, .int o_cursor, .int o_token, .int o_start, .long o_value, .int o_isFault, .int o_faultAt, .int o_above, .int o_below, .ref o_topOf, .ref o_partsOf, .ref o_sent])), (o_sights, .inl (cI, 18, .inl o_sights_f)), (o_road, .inl (cI, 36, .inl o_road_f))]) (hS : va_S A s.heap H locs), W p l e ({ frames := 2, cells := 0, slots := 0, locals := 51 } : Room) s m ([.ref o, .int a1] : List Value).toArray below meth c H locs 0 0 Q (F0 m 150 ls [.int y_4]) := by
                intro y_4 hy_y_4 H locs hP hD hS
                have ky_y_4 : y_4 = v26_3 ∨ y_4 = v26_4 := by rw [← hy_y_4]; (repeat' split) <;> simp
                refine lv_istore_n (lv' := [(3, .int y_4), (2, .int (v26_2 + y_3)), (0, .ref o), (1, .int a1), (4, .int v26_4), (5, .int v37_5), (6, .int v37_6)]) hx hb dX9_miles_150 rfl hl (by decide) rfl (fun ls hl => ?_)
                refine lv_iinc (v := (v26_4 + (-1))) (lv' := [(4, .int (v26_4 + (-1))), (3, .int y_4), (2, .int (v26_2 + y_3)), (0, .ref o), (1, .int a1), (5, .int v37_5), (6, .int v37_6)]) hx hb dX9_miles_151 hl (k := 4) rfl (by rfl) (by decide) rfl (fun ls hl => ?_)
                refine lv_goto (tgt := 26) hx hb dX9_miles_154 (by decide) ?_
                have z_1 : (v26_4 + (-1)).toInt = v26_4.toInt + ((-1) : Int32).toInt := z_add (by omega) (by omega)
                exact ih_26 (v26_2 + y_3) y_4 (v26_4 + (-1)) q1 q2 q3 _ _ _ (lv_sub hl [3, 4, 2, 1, 0] rfl) hP hD hS ((hF.trans (by simp only [fX9_miles_37, xlet, if_pos c_4, ↓hy_y_3, ↓hy_y_4])).trans (hk_26 _ _ _))
              refine lv_if_eq (tgt := 149) hx hb dX9_miles_141 (by decide) (fun c_6 => ?_) (fun c_6 => ?_)
              · have kc_6 := t_eq c_6
                refine lv_iload_n hx hb dX9_miles_149 rfl (lv_at hl 3 rfl) ?_
                exact K_y_4 _ (by simp only [xlet, if_pos c_6]) _ _ hP hD hS
              · have kc_6 := t_neq c_6
                refine lv_iload hx hb dX9_miles_144 (lv_at hl 4 rfl) ?_
                refine lv_goto (tgt := 150) hx hb dX9_miles_146 (by decide) ?_
                exact K_y_4 _ (by simp only [xlet, if_neg c_6]) _ _ hP hD hS
            refine lv_if_eq (tgt := 136) hx hb dX9_miles_129 (by decide) (fun c_5 => ?_) (fun c_5 => ?_)
            · have kc_5 := t_eq c_5
              refine lv_iconst (v := 0) hx hb dX9_miles_136 (by decide) ?_
              exact K_y_3 _ (by simp only [xlet, if_pos c_5]) _ _ hP hD hS
            · have kc_5 := t_neq c_5
              refine lv_iconst (v := 1) hx hb dX9_miles_132 (by decide) ?_
              refine lv_goto (tgt := 137) hx hb dX9_miles_133 (by decide) ?_
              exact K_y_3 _ (by simp only [xlet, if_neg c_5]) _ _ hP hD hS
          · have kc_4 := t_nle c_4
            refine lv_aload_n hx hb dX9_miles_46 rfl (lv_at hl 0 rfl) ?_
            refine xget hx hb hts hown hK 9 (C2 := RX9) (T := TX9) (N := 23) rfl hin_9 hP 0 rfl 7 (by decide) fl_29 rfl rfl rfl dX9_miles_47 ?_
            refine lv_iconst (v := 3) hx hb dX9_miles_50 (by decide) ?_
            refine lv_iload hx hb dX9_miles_51 (lv_at hl 6 rfl) ?_
            refine lv_imul hx hb dX9_miles_53 ?_
            have z_2 : (3 * v37_6).toInt = 3 * v37_6.toInt := z_mul 3 rfl (by omega) (by omega)
            refine xald hx hb hK hP 1 0 (k := (3 * v37_6).toNatClampNeg) rfl rfl (vi (by omega) (by omega)) rfl dX9_miles_54 ?_
            refine lv_istore (lv' := [(7, .int (o_sights_f (3 * v37_6).toNatClampNeg)), (0, .ref o), (1, .int a1), (2, .int v26_2), (3, .int v26_3), (4, .int v26_4), (5, .int v37_5), (6, .int v37_6)]) hx hb dX9_miles_55 hl (by decide) rfl (fun ls hl => ?_)
            have hs := hsg v37_6 (by omega) (by omega)
            refine lv_iload hx hb dX9_miles_57 (lv_at hl 6 rfl) ?_
            have K_y_5 : ∀ (y_5 : Int32) (hy_y_5 : (if v37_5 = 0 then (0 : Int32) else (if (fX9_stoneBy (o_road_f (24 + (o_sights_f (3 * v37_6).toNatClampNeg)).toNatClampNeg) (o_road_f (30 + (o_sights_f (3 * v37_6).toNatClampNeg)).toNatClampNeg) (o_sights_f ((3 * v37_6) + 1).toNatClampNeg) v26_4 o_road_f) = (o_sights_f ((3 * v37_6) + 2).toNatClampNeg) then 1 else 0)) = y_5) (H : Heap) (locs : List Loc) (hP : va_P D vwCl [(o, .inr (9, [.ref o_road, .ref o_told, .ref o_fresh, .ref o_was, .int o_acts, .ref o_kept, .ref o_isKept, .ref o_sights, .int o_many, .ref o_text, .int o_letters, .int 0, .int o_cursor, .int o_token, .int o_start, .long o_value, .int o_isFault, .int o_faultAt, .int o_above, .int o_below, .ref o_topOf, .ref o_partsOf, .ref o_sent])), (o_sights, .inl (cI, 18, .inl o_sights_f)), (o_road, .inl (cI, 36, .inl o_road_f))] H) (hD : va_D A [(o, .inr (9, [.ref o_road, .ref o_told, .ref o_fresh, .ref o_was, .int o_acts, .ref o_kept, .ref o_isKept, .ref o_sights, .int o_many, .ref o_text, .int o_letters, .int 0, .int o_cursor, .int o_token, .int o_start, .long o_value, .int o_isFault, .int o_faultAt, .int o_above, .int o_below, .ref o_topOf, .ref o_partsOf, .ref o_sent])), (o_sights, .inl (cI, 18, .inl o_sights_f)), (o_road, .inl (cI, 36, .inl o_road_f))]) (hS : va_S A s.heap H locs), W p l e ({ frames := 2, cells := 0, slots := 0, locals := 51 } : Room) s m ([.ref o, .int a1] : List Value).toArray below meth c H locs 0 0 Q (F0 m 118 ls [.int y_5]) := by
              intro y_5 hy_y_5 H locs hP hD hS
              have ky_y_5 : y_5 = 0 ∨ y_5 = 1 := by rw [← hy_y_5]; (repeat' split) <;> simp
              refine lv_istore (lv' := [(5, .int y_5), (7, .int (o_sights_f (3 * v37_6).toNatClampNeg)), (0, .ref o), (1, .int a1), (2, .int v26_2), (3, .int v26_3), (4, .int v26_4), (6, .int v37_6)]) hx hb dX9_miles_118 hl (by decide) rfl (fun ls hl => ?_)
              refine lv_iinc (v := (v37_6 + 1)) (lv' := [(6, .int (v37_6 + 1)), (5, .int y_5), (7, .int (o_sights_f (3 * v37_6).toNatClampNeg)), (0, .ref o), (1, .int a1), (2, .int v26_2), (3, .int v26_3), (4, .int v26_4)]) hx hb dX9_miles_120 hl (k := 7) rfl (by rfl) (by decide) rfl (fun ls hl => ?_)
              refine lv_goto (tgt := 37) hx hb dX9_miles_123 (by decide) ?_
              have z_7 : (v37_6 + 1).toInt = v37_6.toInt + (1 : Int32).toInt := z_add (by omega) (by omega)
              exact ih_37 y_5 (v37_6 + 1) (by first | assumption | omega | decide | (split <;> rename_i hh <;> first | (have h9 := t_nlt hh; omega) | (have h9 := t_lt hh; omega) | (have h9 := t_nle hh; omega) | (have h9 := t_le hh; omega))) (by first | assumption | omega | decide | (split <;> rename_i hh <;> first | (have h9 := t_nlt hh; omega) | (have h9 := t_lt hh; omega) | (have h9 := t_nle hh; omega) | (have h9 := t_le hh; omega))) (by first | assumption | omega | decide | (split <;> rename_i hh <;> first | (have h9 := t_nlt hh; omega) | (have h9 := t_lt hh; omega) | (have h9 := t_nle hh; omega) | (have h9 := t_le hh; omega))) (by first | assumption | omega | decide | (split <;> rename_i hh <;> first | (have h9 := t_nlt hh; omega) | (have h9 := t_lt hh; omega) | (have h9 := t_nle hh; omega) | (have h9 := t_le hh; omega))) _ _ _ (lv_sub hl [3, 4, 5, 6, 7, 1, 0] rfl) hP hD hS (hF.trans (by simp only [fX9_miles_37, xlet, if_neg c_4, ↓hy_y_5]))
            refine lv_if_eq (tgt := 117) hx hb dX9_miles_59 (by decide) (fun c_7 => ?_) (fun c_7 => ?_)
            · have kc_7 := t_eq c_7
              refine lv_iconst (v := 0) hx hb dX9_miles_117 (by decide) ?_
              exact K_y_5 _ (by simp only [xlet, if_pos c_7]) _ _ hP hD hS
            · have kc_7 := t_neq c_7
              refine lv_aload_n hx hb dX9_miles_62 rfl (lv_at hl 1 rfl) ?_
              refine lv_aload_n hx hb dX9_miles_63 rfl (lv_at hl 1 rfl) ?_
              refine xget hx hb hts hown hK 9 (C2 := RX9) (T := TX9) (N := 23) rfl hin_9 hP 0 rfl 0 (by decide) fl_7 rfl rfl rfl dX9_miles_64 ?_
              refine lv_bipush (v := 24) hx hb dX9_miles_67 (by decide) ?_
              refine lv_iload hx hb dX9_miles_69 (lv_at hl 0 rfl) ?_
              refine lv_iadd hx hb dX9_miles_71 ?_
              have z_3 : (24 + (o_sights_f (3 * v37_6).toNatClampNeg)).toInt = (24 : Int32).toInt + (o_sights_f (3 * v37_6).toNatClampNeg).toInt := z_add (by omega) (by omega)
              refine xald hx hb hK hP 2 0 (k := (24 + (o_sights_f (3 * v37_6).toNatClampNeg)).toNatClampNeg) rfl rfl (vi (by omega) (by omega)) rfl dX9_miles_72 ?_
              refine lv_aload_n hx hb dX9_miles_73 rfl (lv_at hl 1 rfl) ?_
              refine xget hx hb hts hown hK 9 (C2 := RX9) (T := TX9) (N := 23) rfl hin_9 hP 0 rfl 0 (by decide) fl_7 rfl rfl rfl dX9_miles_74 ?_
              refine lv_bipush (v := 30) hx hb dX9_miles_77 (by decide) ?_
              refine lv_iload hx hb dX9_miles_79 (lv_at hl 0 rfl) ?_
              refine lv_iadd hx hb dX9_miles_81 ?_
              have z_4 : (30 + (o_sights_f (3 * v37_6).toNatClampNeg)).toInt = (30 : Int32).toInt + (o_sights_f (3 * v37_6).toNatClampNeg).toInt := z_add (by omega) (by omega)
              refine xald hx hb hK hP 2 0 (k := (30 + (o_sights_f (3 * v37_6).toNatClampNeg)).toNatClampNeg) rfl rfl (vi (by omega) (by omega)) rfl dX9_miles_82 ?_
              refine lv_aload_n hx hb dX9_miles_83 rfl (lv_at hl 1 rfl) ?_
              refine xget hx hb hts hown hK 9 (C2 := RX9) (T := TX9) (N := 23) rfl hin_9 hP 0 rfl 7 (by decide) fl_29 rfl rfl rfl dX9_miles_84 ?_
              refine lv_iconst (v := 3) hx hb dX9_miles_87 (by decide) ?_
              refine lv_iload hx hb dX9_miles_88 (lv_at hl 7 rfl) ?_
              refine lv_imul hx hb dX9_miles_90 ?_
              refine lv_iconst (v := 1) hx hb dX9_miles_91 (by decide) ?_
              refine lv_iadd hx hb dX9_miles_92 ?_
              have z_5 : ((3 * v37_6) + 1).toInt = (3 * v37_6).toInt + (1 : Int32).toInt := z_add (by omega) (by omega)
              refine xald hx hb hK hP 1 0 (k := ((3 * v37_6) + 1).toNatClampNeg) rfl rfl (vi (by omega) (by omega)) rfl dX9_miles_93 ?_
              refine lv_iload hx hb dX9_miles_94 (lv_at hl 5 rfl) ?_
              refine xcalli (S := Unit) (Wc := [(o, .inr (9, [.ref o_road, .ref o_told, .ref o_fresh, .ref o_was, .int o_acts, .ref o_kept, .ref o_isKept, .ref o_sights, .int o_many, .ref o_text, .int o_letters, .int 0, .int o_cursor, .int o_token, .int o_start, .long o_value, .int o_isFault, .int o_faultAt, .int o_above, .int o_below, .ref o_topOf, .ref o_partsOf, .ref o_sent])), (o_road, .inl (cI, 36, .inl o_road_f))]) (wr := [(o_sights, .inl (cI, 18, .inl o_sights_f))]) (W1 := (fun (u : Unit) => [(o, .inr (9, [.ref o_road, .ref o_told, .ref o_fresh, .ref o_was, .int o_acts, .ref o_kept, .ref o_isKept, .ref o_sights, .int o_many, .ref o_text, .int o_letters, .int 0, .int o_cursor, .int o_token, .int o_start, .long o_value, .int o_isFault, .int o_faultAt, .int o_above, .int o_below, .ref o_topOf, .ref o_partsOf, .ref o_sent])), (o_road, .inl (cI, 36, .inl o_road_f))])) (Wn := (fun (u : Unit) => [(o, .inr (9, [.ref o_road, .ref o_told, .ref o_fresh, .ref o_was, .int o_acts, .ref o_kept, .ref o_isKept, .ref o_sights, .int o_many, .ref o_text, .int o_letters, .int 0, .int o_cursor, .int o_token, .int o_start, .long o_value, .int o_isFault, .int o_faultAt, .int o_above, .int o_below, .ref o_topOf, .ref o_partsOf, .ref o_sent])), (o_sights, .inl (cI, 18, .inl o_sights_f)), (o_road, .inl (cI, 36, .inl o_road_f))])) (xrunV hx hb hml hown hts (c_X9_stoneBy l D cI cZ _ o (o_road_f (24 + (o_sights_f (3 * v37_6).toNatClampNeg)).toNatClampNeg) (o_road_f (30 + (o_sights_f (3 * v37_6).toNatClampNeg)).toNatClampNeg) (o_sights_f ((3 * v37_6) + 1).toNatClampNeg) v26_4 o_road o_told o_fresh o_was o_acts o_kept o_isKept o_sights o_many o_text o_letters 0 o_cursor o_token o_start o_value o_isFault o_faultAt o_above o_below o_topOf o_partsOf o_sent o_road_f hn0 hn1 (hhab _ hs.1 hs.2)) (cwV 4 hts gX9_miles_X9_stoneBy rfl rfl rfl (by decide +kernel) ⟨Nat.le_of_ble_eq_true rfl, Nat.le_of_ble_eq_true rfl⟩) hE hK hP hD [0, 2] rfl rfl 0 9 (T := TX9) (N := 23) rfl rfl rfl hl.1 rfl (Nat.le_of_ble_eq_true rfl) dX9_miles_96 ⟨Nat.le_of_ble_eq_true rfl, Nat.le_of_ble_eq_true rfl⟩) hP hD hS hA [0, 2] [1] [1, 0, 2] rfl rfl rfl (by decide) (fun _ => rfl) rfl (fun r2 u H locs hw hz hP hD hS => ?_)
              subst hw
              refine lv_aload_n hx hb dX9_miles_99 rfl (lv_at hl 1 rfl) ?_
              refine xget hx hb hts hown hK 9 (C2 := RX9) (T := TX9) (N := 23) rfl hin_9 hP 0 rfl 7 (by decide) fl_29 rfl rfl rfl dX9_miles_100 ?_
              refine lv_iconst (v := 3) hx hb dX9_miles_103 (by decide) ?_
              refine lv_iload hx hb dX9_miles_104 (lv_at hl 7 rfl) ?_
              refine lv_imul hx hb dX9_miles_106 ?_
              refine lv_iconst (v := 2) hx hb dX9_miles_107 (by decide) ?_
              refine lv_iadd hx hb dX9_miles_108 ?_
              have z_6 : ((3 * v37_6) + 2).toInt = (3 * v37_6).toInt + (2 : Int32).toInt := z_add (by omega) (by omega)
              refine xald hx hb hK hP 1 0 (k := ((3 * v37_6) + 2).toNatClampNeg) rfl rfl (vi (by omega) (by omega)) rfl dX9_miles_109 ?_
              refine lv_icmp_ne (tgt := 117) hx hb dX9_miles_110 (by decide) (fun c_8 => ?_) (fun c_8 => ?_)
              · refine lv_iconst (v := 0) hx hb dX9_miles_117 (by decide) ?_
                exact K_y_5 _ (by simp only [xlet, if_neg c_7, if_neg c_8]) _ _ hP hD hS
              · refine lv_iconst (v := 1) hx hb dX9_miles_113 (by decide) ?_
                refine lv_goto (tgt := 118) hx hb dX9_miles_114 (by decide) ?_
                exact K_y_5 _ (by simp only [xlet, if_neg c_7, if_pos c_8]) _ _ hP hD hS
      refine lv_iload hx hb dX9_miles_26 (lv_at hl 4 rfl) ?_
      refine lv_if_le (tgt := 157) hx hb dX9_miles_28 (by decide) (fun c_2 => ?_) (fun c_2 => ?_)
      · have kc_2 := t_le c_2
        refine lv_iload_n hx hb dX9_miles_157 rfl (lv_at hl 1 rfl) ?_
        have K_y_1 : ∀ (y_1 : Int32) (hy_y_1 : (if a1 = 0 then v26_2 else v26_3) = y_1) (H : Heap) (locs : List Loc) (hP : va_P D vwCl [(o, .inr (9, [.ref o_road, .ref o_told, .ref o_fresh, .ref o_was, .int o_acts, .ref o_kept, .ref o_isKept, .ref o_sights, .int o_many, .ref o_text, .int o_letters, .int 0, .int o_cursor, .int o_token, .int o_start, .long o_value, .int o_isFault, .int o_faultAt, .int o_above, .int o_below, .ref o_topOf, .ref o_partsOf, .ref o_sent])), (o_sights, .inl (cI, 18, .inl o_sights_f)), (o_road, .inl (cI, 36, .inl o_road_f))] H) (hD : va_D A [(o, .inr (9, [.ref o_road, .ref o_told, .ref o_fresh, .ref o_was, .int o_acts, .ref o_kept, .ref o_isKept, .ref o_sights, .int o_many, .ref o_text, .int o_letters, .int 0, .int o_cursor, .int o_token, .int o_start, .long o_value, .int o_isFault, .int o_faultAt, .int o_above, .int o_below, .ref o_topOf, .ref o_partsOf, .ref o_sent])), (o_sights, .inl (cI, 18, .inl o_sights_f)), (o_road, .inl (cI, 36, .inl o_road_f))]) (hS : va_S A s.heap H locs), W p l e ({ frames := 2, cells := 0, slots := 0, locals := 51 } : Room) s m ([.ref o, .int a1] : List Value).toArray below meth c H locs 0 0 Q (F0 m 166 ls [.int y_1]) := by
          intro y_1 hy_y_1 H locs hP hD hS
          have ky_y_1 : y_1 = v26_2 ∨ y_1 = v26_3 := by rw [← hy_y_1]; (repeat' split) <;> simp
          exact hret _ _ _ _ y_1 () dX9_miles_166 ((hF.trans (by simp only [fX9_miles_26, xlet, if_pos c_2, ↓hy_y_1])).symm) hP hD hS
        refine lv_if_ne (tgt := 165) hx hb dX9_miles_158 (by decide) (fun c_3 => ?_) (fun c_3 => ?_)
        · have kc_3 := t_neq c_3
          refine lv_iload_n hx hb dX9_miles_165 rfl (lv_at hl 3 rfl) ?_
          exact K_y_1 _ (by simp only [xlet, if_neg c_3]) _ _ hP hD hS
        · have kc_3 := t_eq c_3
          refine lv_iload_n hx hb dX9_miles_161 rfl (lv_at hl 2 rfl) ?_
          refine lv_goto (tgt := 166) hx hb dX9_miles_162 (by decide) ?_
          exact K_y_1 _ (by simp only [xlet, if_pos c_3]) _ _ hP hD hS
      · have kc_2 := t_nle c_2
        refine lv_iconst (v := 1) hx hb dX9_miles_31 (by decide) ?_
        refine lv_istore (lv' := [(5, .int 1), (0, .ref o), (1, .int a1), (2, .int v26_2), (3, .int v26_3), (4, .int v26_4)]) hx hb dX9_miles_32 hl (by decide) rfl (fun ls hl => ?_)
        refine lv_iconst (v := 0) hx hb dX9_miles_34 (by decide) ?_
        refine lv_istore (lv' := [(6, .int 0), (5, .int 1), (0, .ref o), (1, .int a1), (2, .int v26_2), (3, .int v26_3), (4, .int v26_4)]) hx hb dX9_miles_35 hl (by decide) rfl (fun ls hl => ?_)
        exact L_37 (fun v26_2 v26_3 v26_4 => fX9_miles_26 a1 o_many o_sights_f o_road_f n_26 v26_2 v26_3 v26_4) (fun _ _ _ => rfl) 1000 1 0 (by first | assumption | omega | decide | (split <;> rename_i hh <;> first | (have h9 := t_nlt hh; omega) | (have h9 := t_lt hh; omega) | (have h9 := t_nle hh; omega) | (have h9 := t_le hh; omega))) (by first | assumption | omega | decide | (split <;> rename_i hh <;> first | (have h9 := t_nlt hh; omega) | (have h9 := t_lt hh; omega) | (have h9 := t_nle hh; omega) | (have h9 := t_le hh; omega))) (by first | assumption | omega | decide | (split <;> rename_i hh <;> first | (have h9 := t_nlt hh; omega) | (have h9 := t_lt hh; omega) | (have h9 := t_nle hh; omega) | (have h9 := t_le hh; omega))) (by first | assumption | omega | decide | (split <;> rename_i hh <;> first | (have h9 := t_nlt hh; omega) | (have h9 := t_lt hh; omega) | (have h9 := t_nle hh; omega) | (have h9 := t_le hh; omega))) _ _ _ (lv_sub hl [2, 3, 4, 5, 6, 1, 0] rfl) hP hD hS (hF.trans (by simp only [fX9_miles_26, xlet, if_neg c_2]))
  refine lv_aload_n hx hb dX9_miles_0 rfl (lv_at hl 0 rfl) ?_
  refine lv_iconst (v := 0) hx hb dX9_miles_1 (by decide) ?_
  refine xput hx hb hts hown hK 9 (C2 := RX9) (T := TX9) (N := 23) tyX9 rfl tyX9_ok nmX9 hin_9 hP hD hS 0 rfl 11 (by decide) fl_48 rfl rfl rfl rfl rfl (Nat.le_of_ble_eq_true rfl) dX9_miles_2 [(o, .inr (9, [.ref o_road, .ref o_told, .ref o_fresh, .ref o_was, .int o_acts, .ref o_kept, .ref o_isKept, .ref o_sights, .int o_many, .ref o_text, .int o_letters, .int 0, .int o_cursor, .int o_token, .int o_start, .long o_value, .int o_isFault, .int o_faultAt, .int o_above, .int o_below, .ref o_topOf, .ref o_partsOf, .ref o_sent])), (o_sights, .inl (cI, 18, .inl o_sights_f)), (o_road, .inl (cI, 36, .inl o_road_f))] rfl (fun H locs hP hD hS => ?_)
  refine lv_iload_n hx hb dX9_miles_5 rfl (lv_at hl 1 rfl) ?_
  refine lv_i2l (v := a1.toInt64) hx hb dX9_miles_6 rfl ?_
  refine lv_lconst (v := 0) hx hb dX9_miles_7 (by decide) ?_
  refine lv_lconst (v := 1) hx hb dX9_miles_8 (by decide) ?_
  refine xcalli (S := Unit) (Wc := []) (wr := [(o, .inr (9, [.ref o_road, .ref o_told, .ref o_fresh, .ref o_was, .int o_acts, .ref o_kept, .ref o_isKept, .ref o_sights, .int o_many, .ref o_text, .int o_letters, .int 0, .int o_cursor, .int o_token, .int o_start, .long o_value, .int o_isFault, .int o_faultAt, .int o_above, .int o_below, .ref o_topOf, .ref o_partsOf, .ref o_sent])), (o_sights, .inl (cI, 18, .inl o_sights_f)), (o_road, .inl (cI, 36, .inl o_road_f))]) (W1 := (fun (u : Unit) => [])) (Wn := (fun (u : Unit) => [(o, .inr (9, [.ref o_road, .ref o_told, .ref o_fresh, .ref o_was, .int o_acts, .ref o_kept, .ref o_isKept, .ref o_sights, .int o_many, .ref o_text, .int o_letters, .int 0, .int o_cursor, .int o_token, .int o_start, .long o_value, .int o_isFault, .int o_faultAt, .int o_above, .int o_below, .ref o_topOf, .ref o_partsOf, .ref o_sent])), (o_sights, .inl (cI, 18, .inl o_sights_f)), (o_road, .inl (cI, 36, .inl o_road_f))])) (xrunS hx hb hml hown hts (c_X9_in l D cI cZ _ a1.toInt64 0 1 ) (va_cwS 3 hts gX9_miles_X9_in rfl rfl rfl (by decide +kernel) ⟨Nat.le_of_ble_eq_true rfl, Nat.le_of_ble_eq_true rfl⟩) hE hK hP hD [] rfl rfl rfl hl.1 rfl (Nat.le_of_ble_eq_true rfl) dX9_miles_9 ⟨Nat.le_of_ble_eq_true rfl, Nat.le_of_ble_eq_true rfl⟩) hP hD hS hA [] [0, 1, 2] [0, 1, 2] rfl rfl rfl (by decide) (fun _ => rfl) rfl (fun r1 u H locs hw hz hP hD hS => ?_)
  subst hw
  refine lv_if_ne (tgt := 18) hx hb dX9_miles_12 (by decide) (fun c_1 => ?_) (fun c_1 => ?_)
  · have kb_c_1 : 0 ≤ a1.toInt ∧ a1.toInt ≤ 1 := in_b c_1 (by decide) (by decide)
    refine lv_iconst (v := 0) hx hb dX9_miles_18 (by decide) ?_
    refine lv_istore_n (lv' := [(2, .int 0), (0, .ref o), (1, .int a1)]) hx hb dX9_miles_19 rfl hl (by decide) rfl (fun ls hl => ?_)
    refine lv_iconst (v := (-1)) hx hb dX9_miles_20 (by decide) ?_
    refine lv_istore_n (lv' := [(3, .int (-1)), (2, .int 0), (0, .ref o), (1, .int a1)]) hx hb dX9_miles_21 rfl hl (by decide) rfl (fun ls hl => ?_)
    refine lv_bipush (v := 40) hx hb dX9_miles_22 (by decide) ?_
    refine lv_istore (lv' := [(4, .int 40), (3, .int (-1)), (2, .int 0), (0, .ref o), (1, .int a1)]) hx hb dX9_miles_24 hl (by decide) rfl (fun ls hl => ?_)
    exact L_26 1000 0 (-1) 40 (by first | assumption | omega | decide | (split <;> rename_i hh <;> first | (have h9 := t_nlt hh; omega) | (have h9 := t_lt hh; omega) | (have h9 := t_nle hh; omega) | (have h9 := t_le hh; omega))) (by first | assumption | omega | decide | (split <;> rename_i hh <;> first | (have h9 := t_nlt hh; omega) | (have h9 := t_lt hh; omega) | (have h9 := t_nle hh; omega) | (have h9 := t_le hh; omega))) (by first | assumption | omega | decide | (split <;> rename_i hh <;> first | (have h9 := t_nlt hh; omega) | (have h9 := t_lt hh; omega) | (have h9 := t_nle hh; omega) | (have h9 := t_le hh; omega))) _ _ _ (lv_sub hl [3, 4, 2, 1, 0] rfl) hP hD hS (hF.trans (by simp only [fX9_miles, xlet, if_neg c_1]))
  · refine lv_bipush (v := (-3)) hx hb dX9_miles_15 (by decide) ?_
    exact hret _ _ _ _ (-3) () dX9_miles_17 ((hF.trans (by simp only [fX9_miles, xlet, if_pos c_1])).symm) hP hD hS
