theorem dX7_sortOf_0 : decode cX7_sortOf 0 = .ok (.iload_n 0, 1) := by decide +kernel
theorem dX7_sortOf_1 : decode cX7_sortOf 1 = .ok (.bipush 97, 2) := by decide +kernel
theorem dX7_sortOf_3 : decode cX7_sortOf 3 = .ok (.if_icmp .lt 11, 3) := by decide +kernel
theorem dX7_sortOf_6 : decode cX7_sortOf 6 = .ok (.iload_n 0, 1) := by decide +kernel
theorem dX7_sortOf_7 : decode cX7_sortOf 7 = .ok (.bipush 122, 2) := by decide +kernel
theorem dX7_sortOf_9 : decode cX7_sortOf 9 = .ok (.if_icmp .gt 5, 3) := by decide +kernel
theorem dX7_sortOf_12 : decode cX7_sortOf 12 = .ok (.iconst 1, 1) := by decide +kernel
theorem dX7_sortOf_13 : decode cX7_sortOf 13 = .ok (.ireturn, 1) := by decide +kernel
theorem dX7_sortOf_14 : decode cX7_sortOf 14 = .ok (.iload_n 0, 1) := by decide +kernel
theorem dX7_sortOf_15 : decode cX7_sortOf 15 = .ok (.bipush 48, 2) := by decide +kernel
theorem dX7_sortOf_17 : decode cX7_sortOf 17 = .ok (.if_icmp .lt 13, 3) := by decide +kernel
theorem dX7_sortOf_20 : decode cX7_sortOf 20 = .ok (.iload_n 0, 1) := by decide +kernel
theorem dX7_sortOf_21 : decode cX7_sortOf 21 = .ok (.bipush 57, 2) := by decide +kernel
theorem dX7_sortOf_23 : decode cX7_sortOf 23 = .ok (.if_icmp .gt 7, 3) := by decide +kernel
theorem dX7_sortOf_26 : decode cX7_sortOf 26 = .ok (.iconst 2, 1) := by decide +kernel
theorem dX7_sortOf_27 : decode cX7_sortOf 27 = .ok (.goto 4, 3) := by decide +kernel
theorem dX7_sortOf_30 : decode cX7_sortOf 30 = .ok (.iconst 0, 1) := by decide +kernel
theorem dX7_sortOf_31 : decode cX7_sortOf 31 = .ok (.ireturn, 1) := by decide +kernel
def fX7_sortOf (a1 : Int32) : Int32 := if a1 < 97 then (xlet (if a1 < 48 then (0 : Int32) else (if 57 < a1 then 0 else 2)) (fun y_1 => y_1)) else (if 122 < a1 then (xlet (if a1 < 48 then (0 : Int32) else (if 57 < a1 then 0 else 2)) (fun y_2 => y_2)) else 1)
set_option maxHeartbeats 4000000 in
set_option maxRecDepth 100000 in
theorem c_X7_sortOf (l : Launch) (D : va_G) (cI cZ : ClassId) (sz : Nat) (a1 : Int32)  : Met l yX7_sortOf wsX7_sortOf ({ frames := 0, cells := 0, slots := 0, locals := 0 } : Room) (va_Pc [.int a1] (xP D cI cZ [] sz)) (va_Qi (fun (r : Int32) (u : Unit) => r = fX7_sortOf a1) (fun (u : Unit) t => xB D cI cZ [] (va_A [] sz) t) (va_A [] sz)) 0 0 (va_A [] sz) := by
  refine Met.ofW (cc := cX7_sortOf) (maxL := 1) (ret := (some .int)) (by decide) rfl ?_
  intro p e s m args below meth c s₁ B hml hv
  obtain ⟨hargs, hsz, hP, hK, hD0, hE⟩ := hv
  subst hargs
  have hx := B.exec
  have hb := B.bytes
  have hr := B.returns
  have hts := atoms_spec (ws := wsX7_sortOf) B.pre
  have hown : s.vm.findClass RX7 = some m.cls := findClass_of_methodNamed B.named
  have hlocks := B.notSynchronized
  subst hsz
  have hD := hD0.self (sz := s.heap.size)
  generalize hAe : va_A [] s.heap.size = A at hD ⊢
  have hA : ∀ q : Nat, s.heap.size ≤ q → A q := fun q h => by rw [← hAe]; exact Or.inr h
  have hS : va_S A s.heap s.heap [] := va_S.rf
  have hl := lv_entry ([.int a1]) (n := 1) (Nat.le_of_ble_eq_true rfl)
  rw [lg_entry_eq]
  generalize (lg_sl ([.int a1]) ++ List.replicate (1 - (lg_sl ([.int a1])).length) Slot.unset).toArray = ls at hl ⊢
  have hl : lv_has ls 1 [(0, .int a1)] := hl
  refine wq (X := fun Q => ∀ (pc : Nat) (H : Heap) (locs : List Loc) (ls : Array Slot) (r : Int32) (u : Unit) (hd : decode cX7_sortOf pc = .ok (.ireturn, 1)) (hp : r = fX7_sortOf a1) (hP : va_P D vwCl [] H) (hD : va_D A []) (hS : va_S A s.heap H locs), W p l e ({ frames := 0, cells := 0, slots := 0, locals := 0 } : Room) s m ([.int a1] : List Value).toArray below meth c H locs 0 0 Q (F0 m pc ls [.int r])) ?_ (fun Q hret => ?_)
  · intro pc H locs ls r u hd hp hP hD hS
    exact W.iret (v := r) hx hb hr (fun t ht hW => ⟨⟨r, u, rfl, hp, by rw [ht]; exact hP, va_K.moved hW.alike hK, hD⟩, hS.F ht⟩) hS.2.2 hd
  have hF : fX7_sortOf a1 = fX7_sortOf a1 := rfl
  refine lv_iload_n hx hb dX7_sortOf_0 rfl (lv_at hl 0 rfl) ?_
  refine lv_bipush (v := 97) hx hb dX7_sortOf_1 (by decide) ?_
  refine lv_icmp_lt (tgt := 14) hx hb dX7_sortOf_3 (by decide) (fun c_1 => ?_) (fun c_1 => ?_)
  · refine lv_iload_n hx hb dX7_sortOf_14 rfl (lv_at hl 0 rfl) ?_
    refine lv_bipush (v := 48) hx hb dX7_sortOf_15 (by decide) ?_
    have K_y_1 : ∀ (y_1 : Int32) (hy_y_1 : (if a1 < 48 then (0 : Int32) else (if 57 < a1 then 0 else 2)) = y_1) (H : Heap) (locs : List Loc) (hP : va_P D vwCl [] H) (hD : va_D A []) (hS : va_S A s.heap H locs), W p l e ({ frames := 0, cells := 0, slots := 0, locals := 0 } : Room) s m ([.int a1] : List Value).toArray below meth c H locs 0 0 Q (F0 m 31 ls [.int y_1]) := by
      intro y_1 hy_y_1 H locs hP hD hS
      exact hret _ _ _ _ y_1 () dX7_sortOf_31 ((hF.trans (by simp only [fX7_sortOf, xlet, if_pos c_1, ↓hy_y_1])).symm) hP hD hS
    refine lv_icmp_lt (tgt := 30) hx hb dX7_sortOf_17 (by decide) (fun c_2 => ?_) (fun c_2 => ?_)
    · refine lv_iconst (v := 0) hx hb dX7_sortOf_30 (by decide) ?_
      exact K_y_1 _ (by simp only [xlet, if_pos c_2]) _ _ hP hD hS
    · refine lv_iload_n hx hb dX7_sortOf_20 rfl (lv_at hl 0 rfl) ?_
      refine lv_bipush (v := 57) hx hb dX7_sortOf_21 (by decide) ?_
      refine lv_icmp_gt (tgt := 30) hx hb dX7_sortOf_23 (by decide) (fun c_3 => ?_) (fun c_3 => ?_)
      · refine lv_iconst (v := 0) hx hb dX7_sortOf_30 (by decide) ?_
        exact K_y_1 _ (by simp only [xlet, if_neg c_2, if_pos c_3]) _ _ hP hD hS
      · refine lv_iconst (v := 2) hx hb dX7_sortOf_26 (by decide) ?_
        refine lv_goto (tgt := 31) hx hb dX7_sortOf_27 (by decide) ?_
        exact K_y_1 _ (by simp only [xlet, if_neg c_2, if_neg c_3]) _ _ hP hD hS
  · refine lv_iload_n hx hb dX7_sortOf_6 rfl (lv_at hl 0 rfl) ?_
    refine lv_bipush (v := 122) hx hb dX7_sortOf_7 (by decide) ?_
    refine lv_icmp_gt (tgt := 14) hx hb dX7_sortOf_9 (by decide) (fun c_4 => ?_) (fun c_4 => ?_)
    · refine lv_iload_n hx hb dX7_sortOf_14 rfl (lv_at hl 0 rfl) ?_
      refine lv_bipush (v := 48) hx hb dX7_sortOf_15 (by decide) ?_
      have K_y_2 : ∀ (y_2 : Int32) (hy_y_2 : (if a1 < 48 then (0 : Int32) else (if 57 < a1 then 0 else 2)) = y_2) (H : Heap) (locs : List Loc) (hP : va_P D vwCl [] H) (hD : va_D A []) (hS : va_S A s.heap H locs), W p l e ({ frames := 0, cells := 0, slots := 0, locals := 0 } : Room) s m ([.int a1] : List Value).toArray below meth c H locs 0 0 Q (F0 m 31 ls [.int y_2]) := by
        intro y_2 hy_y_2 H locs hP hD hS
        exact hret _ _ _ _ y_2 () dX7_sortOf_31 ((hF.trans (by simp only [fX7_sortOf, xlet, if_neg c_1, if_pos c_4, ↓hy_y_2])).symm) hP hD hS
      refine lv_icmp_lt (tgt := 30) hx hb dX7_sortOf_17 (by decide) (fun c_5 => ?_) (fun c_5 => ?_)
      · refine lv_iconst (v := 0) hx hb dX7_sortOf_30 (by decide) ?_
        exact K_y_2 _ (by simp only [xlet, if_pos c_5]) _ _ hP hD hS
      · refine lv_iload_n hx hb dX7_sortOf_20 rfl (lv_at hl 0 rfl) ?_
        refine lv_bipush (v := 57) hx hb dX7_sortOf_21 (by decide) ?_
        refine lv_icmp_gt (tgt := 30) hx hb dX7_sortOf_23 (by decide) (fun c_6 => ?_) (fun c_6 => ?_)
        · refine lv_iconst (v := 0) hx hb dX7_sortOf_30 (by decide) ?_
          exact K_y_2 _ (by simp only [xlet, if_neg c_5, if_pos c_6]) _ _ hP hD hS
        · refine lv_iconst (v := 2) hx hb dX7_sortOf_26 (by decide) ?_
          refine lv_goto (tgt := 31) hx hb dX7_sortOf_27 (by decide) ?_
          exact K_y_2 _ (by simp only [xlet, if_neg c_5, if_neg c_6]) _ _ hP hD hS
    · refine lv_iconst (v := 1) hx hb dX7_sortOf_12 (by decide) ?_
      exact hret _ _ _ _ 1 () dX7_sortOf_13 ((hF.trans (by simp only [fX7_sortOf, xlet, if_neg c_1, if_neg c_4])).symm) hP hD hS
set_option maxRecDepth 20000 in
theorem ggX7_add_X4_put : GoodIn wsX7_add wsX4_put := goodIn_r _ [7, 8, 13] (by decide +kernel) (by decide +kernel)
set_option maxRecDepth 20000 in
theorem gX7_add_X4_put : GoodIn wsX7_add (wsV RX7 24 RX4 yX4_put wsX4_put) := goodIn_app (goodIn_of _ (by decide +kernel)) ggX7_add_X4_put
theorem dX7_add_0 : decode cX7_add 0 = .ok (.aload_n 0, 1) := by decide +kernel
theorem dX7_add_1 : decode cX7_add 1 = .ok (.getfield 14, 3) := by decide +kernel
theorem dX7_add_4 : decode cX7_add 4 = .ok (.aload_n 0, 1) := by decide +kernel
theorem dX7_add_5 : decode cX7_add 5 = .ok (.getfield 20, 3) := by decide +kernel
theorem dX7_add_8 : decode cX7_add 8 = .ok (.iload_n 1, 1) := by decide +kernel
theorem dX7_add_9 : decode cX7_add 9 = .ok (.invokevirtual 24, 3) := by decide +kernel
theorem dX7_add_12 : decode cX7_add 12 = .ok (.aload_n 0, 1) := by decide +kernel
theorem dX7_add_13 : decode cX7_add 13 = .ok (.dup, 1) := by decide +kernel
theorem dX7_add_14 : decode cX7_add 14 = .ok (.getfield 20, 3) := by decide +kernel
theorem dX7_add_17 : decode cX7_add 17 = .ok (.iconst 1, 1) := by decide +kernel
theorem dX7_add_18 : decode cX7_add 18 = .ok (.iadd, 1) := by decide +kernel
theorem dX7_add_19 : decode cX7_add 19 = .ok (.putfield 20, 3) := by decide +kernel
theorem dX7_add_22 : decode cX7_add 22 = .ok (.return_, 1) := by decide +kernel
def fX7_add (a1 : Int32) (o_length : Int32) (o_letters_f : Nat → Int32) : (Nat → Int32) := xlet (fX4_put o_length a1 o_letters_f 160) (fun u1 => u1)
set_option maxHeartbeats 4000000 in
set_option maxRecDepth 100000 in
theorem c_X7_add (l : Launch) (D : va_G) (cI cZ : ClassId) (sz : Nat) (o : Nat) (a1 : Int32) (o_letters : Nat) (o_length : Int32) (o_begin : Int32) (o_end : Int32) (o_letters_a : Nat) (o_letters_f : Nat → Int32)  : Met l yX7_add wsX7_add ({ frames := 1, cells := 0, slots := 0, locals := 22 } : Room) (va_Pc [.ref o, .int a1] (xP D cI cZ [(o, .inr (7, [.ref o_letters, .int o_length, .int o_begin, .int o_end])), (o_letters, .inr (4, [.ref o_letters_a])), (o_letters_a, .inl (cI, 160, .inl o_letters_f))] sz)) (va_Qv (fun (u : (Nat → Int32)) => u = fX7_add a1 o_length o_letters_f) (fun (u : (Nat → Int32)) t => xB D cI cZ [(o, .inr (7, [.ref o_letters, .int (o_length + 1), .int o_begin, .int o_end])), (o_letters, .inr (4, [.ref o_letters_a])), (o_letters_a, .inl (cI, 160, .inl u))] (va_A [(o, .inr (7, [.ref o_letters, .int o_length, .int o_begin, .int o_end])), (o_letters, .inr (4, [.ref o_letters_a])), (o_letters_a, .inl (cI, 160, .inl o_letters_f))] sz) t) (va_A [(o, .inr (7, [.ref o_letters, .int o_length, .int o_begin, .int o_end])), (o_letters, .inr (4, [.ref o_letters_a])), (o_letters_a, .inl (cI, 160, .inl o_letters_f))] sz)) 0 0 (va_A [(o, .inr (7, [.ref o_letters, .int o_length, .int o_begin, .int o_end])), (o_letters, .inr (4, [.ref o_letters_a])), (o_letters_a, .inl (cI, 160, .inl o_letters_f))] sz) := by
  refine Met.ofW (cc := cX7_add) (maxL := 2) (ret := none) (by decide) rfl ?_
  intro p e s m args below meth c s₁ B hml hv
  obtain ⟨hargs, hsz, hP, hK, hD0, hE⟩ := hv
  subst hargs
  have hx := B.exec
  have hb := B.bytes
  have hr := B.returns
  have hts := atoms_spec (ws := wsX7_add) B.pre
  have hown : s.vm.findClass RX7 = some m.cls := findClass_of_methodNamed B.named
  have hlocks := B.notSynchronized
  subst hsz
  have hD := hD0.self (sz := s.heap.size)
  generalize hAe : va_A [(o, .inr (7, [.ref o_letters, .int o_length, .int o_begin, .int o_end])), (o_letters, .inr (4, [.ref o_letters_a])), (o_letters_a, .inl (cI, 160, .inl o_letters_f))] s.heap.size = A at hD ⊢
  have hA : ∀ q : Nat, s.heap.size ≤ q → A q := fun q h => by rw [← hAe]; exact Or.inr h
  have hS : va_S A s.heap s.heap [] := va_S.rf
  have hl := lv_entry ([.ref o, .int a1]) (n := 2) (Nat.le_of_ble_eq_true rfl)
  rw [lg_entry_eq]
  generalize (lg_sl ([.ref o, .int a1]) ++ List.replicate (2 - (lg_sl ([.ref o, .int a1])).length) Slot.unset).toArray = ls at hl ⊢
  have hl : lv_has ls 2 [(0, .ref o), (1, .int a1)] := hl
  refine wq (X := fun Q => ∀ (pc : Nat) (H : Heap) (locs : List Loc) (ls : Array Slot) (u : (Nat → Int32)) (hd : decode cX7_add pc = .ok (.return_, 1)) (hp : u = fX7_add a1 o_length o_letters_f) (hP : va_P D vwCl [(o, .inr (7, [.ref o_letters, .int (o_length + 1), .int o_begin, .int o_end])), (o_letters, .inr (4, [.ref o_letters_a])), (o_letters_a, .inl (cI, 160, .inl u))] H) (hD : va_D A [(o, .inr (7, [.ref o_letters, .int (o_length + 1), .int o_begin, .int o_end])), (o_letters, .inr (4, [.ref o_letters_a])), (o_letters_a, .inl (cI, 160, .inl u))]) (hS : va_S A s.heap H locs), W p l e ({ frames := 1, cells := 0, slots := 0, locals := 22 } : Room) s m ([.ref o, .int a1] : List Value).toArray below meth c H locs 0 0 Q (F0 m pc ls [])) ?_ (fun Q hret => ?_)
  · intro pc H locs ls u hd hp hP hD hS
    exact W.vret hx hb hr (fun t ht hW => ⟨⟨u, rfl, hp, by rw [ht]; exact hP, va_K.moved hW.alike hK, hD⟩, hS.F ht⟩) hS.2.2 hd
  have hin_7 : ∀ w ∈ u_ws RX7 TX7 4, w ∈ wsX7_add := by decide +kernel
  have fl_14 := hts (.fieldLink RX7 14 "MileRoad$Text" "letters" "LMileRoad$Row;") (by decide +kernel)
  have fl_20 := hts (.fieldLink RX7 20 "MileRoad$Text" "length" "I") (by decide +kernel)
  have hF : fX7_add a1 o_length o_letters_f = fX7_add a1 o_length o_letters_f := rfl
  refine lv_aload_n hx hb dX7_add_0 rfl (lv_at hl 0 rfl) ?_
  refine xget hx hb hts hown hK 7 (C2 := RX7) (T := TX7) (N := 4) rfl hin_7 hP 0 rfl 0 (by decide) fl_14 rfl rfl rfl dX7_add_1 ?_
  refine lv_aload_n hx hb dX7_add_4 rfl (lv_at hl 0 rfl) ?_
  refine xget hx hb hts hown hK 7 (C2 := RX7) (T := TX7) (N := 4) rfl hin_7 hP 0 rfl 1 (by decide) fl_20 rfl rfl rfl dX7_add_5 ?_
  refine lv_iload_n hx hb dX7_add_8 rfl (lv_at hl 1 rfl) ?_
  refine xcallv (S := (Nat → Int32)) (Wc := [(o_letters, .inr (4, [.ref o_letters_a])), (o_letters_a, .inl (cI, 160, .inl o_letters_f))]) (wr := [(o, .inr (7, [.ref o_letters, .int o_length, .int o_begin, .int o_end]))]) (W1 := (fun (u : (Nat → Int32)) => [(o_letters, .inr (4, [.ref o_letters_a])), (o_letters_a, .inl (cI, 160, .inl u))])) (Wn := (fun (u : (Nat → Int32)) => [(o, .inr (7, [.ref o_letters, .int o_length, .int o_begin, .int o_end])), (o_letters, .inr (4, [.ref o_letters_a])), (o_letters_a, .inl (cI, 160, .inl u))])) (xrunV hx hb hml hown hts (c_X4_put l D cI cZ _ o_letters o_length a1 o_letters_a o_letters_f 160 (by decide)) (cwV 2 hts gX7_add_X4_put rfl rfl rfl (by decide +kernel) ⟨Nat.le_of_ble_eq_true rfl, Nat.le_of_ble_eq_true rfl⟩) hE hK hP hD [1, 2] rfl rfl 0 4 (T := TX4) (N := 1) rfl rfl rfl hl.1 rfl (Nat.le_of_ble_eq_true rfl) dX7_add_9 ⟨Nat.le_of_ble_eq_true rfl, Nat.le_of_ble_eq_true rfl⟩) hP hD hS hA [1, 2] [0] [0, 1, 2] rfl rfl rfl (by decide) (fun _ => rfl) rfl (fun  u H locs hw hz hP hD hS => ?_)
  obtain ⟨u1, hu⟩ : ∃ z, z = u := ⟨u, rfl⟩
  subst hu
  have hw_1 := hw.symm
  have hP : va_P D vwCl [(o, .inr (7, [.ref o_letters, .int o_length, .int o_begin, .int o_end])), (o_letters, .inr (4, [.ref o_letters_a])), (o_letters_a, .inl (cI, 160, .inl u1))] H := hP
  have hD : va_D A [(o, .inr (7, [.ref o_letters, .int o_length, .int o_begin, .int o_end])), (o_letters, .inr (4, [.ref o_letters_a])), (o_letters_a, .inl (cI, 160, .inl u1))] := hD
  refine lv_aload_n hx hb dX7_add_12 rfl (lv_at hl 0 rfl) ?_
  refine lv_dup hx hb dX7_add_13 rfl ?_
  refine xget hx hb hts hown hK 7 (C2 := RX7) (T := TX7) (N := 4) rfl hin_7 hP 0 rfl 1 (by decide) fl_20 rfl rfl rfl dX7_add_14 ?_
  refine lv_iconst (v := 1) hx hb dX7_add_17 (by decide) ?_
  refine lv_iadd hx hb dX7_add_18 ?_
  refine xput hx hb hts hown hK 7 (C2 := RX7) (T := TX7) (N := 4) tyX7 rfl tyX7_ok nmX7 hin_7 hP hD hS 0 rfl 1 (by decide) fl_20 rfl rfl rfl rfl rfl (Nat.le_of_ble_eq_true rfl) dX7_add_19 [(o, .inr (7, [.ref o_letters, .int (o_length + 1), .int o_begin, .int o_end])), (o_letters, .inr (4, [.ref o_letters_a])), (o_letters_a, .inl (cI, 160, .inl u1))] rfl (fun H locs hP hD hS => ?_)
  exact hret _ _ _ _ u1 dX7_add_22 ((hF.trans (by simp only [fX7_add, xlet, ↓hw_1])).symm) hP hD hS
theorem dX7_clear_0 : decode cX7_clear 0 = .ok (.aload_n 0, 1) := by decide +kernel
theorem dX7_clear_1 : decode cX7_clear 1 = .ok (.iconst 0, 1) := by decide +kernel
theorem dX7_clear_2 : decode cX7_clear 2 = .ok (.putfield 20, 3) := by decide +kernel
theorem dX7_clear_5 : decode cX7_clear 5 = .ok (.return_, 1) := by decide +kernel
def fX7_clear  : Unit := ()
set_option maxHeartbeats 4000000 in
set_option maxRecDepth 100000 in
theorem c_X7_clear (l : Launch) (D : va_G) (cI cZ : ClassId) (sz : Nat) (o : Nat) (o_letters : Nat) (o_length : Int32) (o_begin : Int32) (o_end : Int32)  : Met l yX7_clear wsX7_clear ({ frames := 0, cells := 0, slots := 0, locals := 0 } : Room) (va_Pc [.ref o] (xP D cI cZ [(o, .inr (7, [.ref o_letters, .int o_length, .int o_begin, .int o_end]))] sz)) (va_Qv (fun (u : Unit) => True) (fun (u : Unit) t => xB D cI cZ [(o, .inr (7, [.ref o_letters, .int 0, .int o_begin, .int o_end]))] (va_A [(o, .inr (7, [.ref o_letters, .int o_length, .int o_begin, .int o_end]))] sz) t) (va_A [(o, .inr (7, [.ref o_letters, .int o_length, .int o_begin, .int o_end]))] sz)) 0 0 (va_A [(o, .inr (7, [.ref o_letters, .int o_length, .int o_begin, .int o_end]))] sz) := by
  refine Met.ofW (cc := cX7_clear) (maxL := 1) (ret := none) (by decide) rfl ?_
  intro p e s m args below meth c s₁ B hml hv
  obtain ⟨hargs, hsz, hP, hK, hD0, hE⟩ := hv
  subst hargs
  have hx := B.exec
  have hb := B.bytes
  have hr := B.returns
  have hts := atoms_spec (ws := wsX7_clear) B.pre
  have hown : s.vm.findClass RX7 = some m.cls := findClass_of_methodNamed B.named
  have hlocks := B.notSynchronized
  subst hsz
  have hD := hD0.self (sz := s.heap.size)
  generalize hAe : va_A [(o, .inr (7, [.ref o_letters, .int o_length, .int o_begin, .int o_end]))] s.heap.size = A at hD ⊢
  have hA : ∀ q : Nat, s.heap.size ≤ q → A q := fun q h => by rw [← hAe]; exact Or.inr h
  have hS : va_S A s.heap s.heap [] := va_S.rf
  have hl := lv_entry ([.ref o]) (n := 1) (Nat.le_of_ble_eq_true rfl)
  rw [lg_entry_eq]
  generalize (lg_sl ([.ref o]) ++ List.replicate (1 - (lg_sl ([.ref o])).length) Slot.unset).toArray = ls at hl ⊢
  have hl : lv_has ls 1 [(0, .ref o)] := hl
  refine wq (X := fun Q => ∀ (pc : Nat) (H : Heap) (locs : List Loc) (ls : Array Slot) (u : Unit) (hd : decode cX7_clear pc = .ok (.return_, 1)) (hp : True) (hP : va_P D vwCl [(o, .inr (7, [.ref o_letters, .int 0, .int o_begin, .int o_end]))] H) (hD : va_D A [(o, .inr (7, [.ref o_letters, .int 0, .int o_begin, .int o_end]))]) (hS : va_S A s.heap H locs), W p l e ({ frames := 0, cells := 0, slots := 0, locals := 0 } : Room) s m ([.ref o] : List Value).toArray below meth c H locs 0 0 Q (F0 m pc ls [])) ?_ (fun Q hret => ?_)
  · intro pc H locs ls u hd hp hP hD hS
    exact W.vret hx hb hr (fun t ht hW => ⟨⟨u, rfl, hp, by rw [ht]; exact hP, va_K.moved hW.alike hK, hD⟩, hS.F ht⟩) hS.2.2 hd
  have hin_7 : ∀ w ∈ u_ws RX7 TX7 4, w ∈ wsX7_clear := by decide +kernel
  have fl_20 := hts (.fieldLink RX7 20 "MileRoad$Text" "length" "I") (by decide +kernel)
  have hF : fX7_clear = fX7_clear := rfl
  refine lv_aload_n hx hb dX7_clear_0 rfl (lv_at hl 0 rfl) ?_
  refine lv_iconst (v := 0) hx hb dX7_clear_1 (by decide) ?_
  refine xput hx hb hts hown hK 7 (C2 := RX7) (T := TX7) (N := 4) tyX7 rfl tyX7_ok nmX7 hin_7 hP hD hS 0 rfl 1 (by decide) fl_20 rfl rfl rfl rfl rfl (Nat.le_of_ble_eq_true rfl) dX7_clear_2 [(o, .inr (7, [.ref o_letters, .int 0, .int o_begin, .int o_end]))] rfl (fun H locs hP hD hS => ?_)
  exact hret _ _ _ _ () dX7_clear_5 trivial hP hD hS
theorem dX7_isAtEnd_0 : decode cX7_isAtEnd 0 = .ok (.aload_n 0, 1) := by decide +kernel
theorem dX7_isAtEnd_1 : decode cX7_isAtEnd 1 = .ok (.getfield 34, 3) := by decide +kernel
theorem dX7_isAtEnd_4 : decode cX7_isAtEnd 4 = .ok (.aload_n 0, 1) := by decide +kernel
theorem dX7_isAtEnd_5 : decode cX7_isAtEnd 5 = .ok (.getfield 20, 3) := by decide +kernel
theorem dX7_isAtEnd_8 : decode cX7_isAtEnd 8 = .ok (.if_icmp .lt 7, 3) := by decide +kernel
theorem dX7_isAtEnd_11 : decode cX7_isAtEnd 11 = .ok (.iconst 1, 1) := by decide +kernel
theorem dX7_isAtEnd_12 : decode cX7_isAtEnd 12 = .ok (.goto 4, 3) := by decide +kernel
theorem dX7_isAtEnd_15 : decode cX7_isAtEnd 15 = .ok (.iconst 0, 1) := by decide +kernel
theorem dX7_isAtEnd_16 : decode cX7_isAtEnd 16 = .ok (.ireturn, 1) := by decide +kernel
def fX7_isAtEnd (o_length : Int32) (o_begin : Int32) : Int32 := xlet (if o_begin < o_length then (0 : Int32) else 1) (fun y_1 => y_1)
set_option maxHeartbeats 4000000 in
set_option maxRecDepth 100000 in
theorem c_X7_isAtEnd (l : Launch) (D : va_G) (cI cZ : ClassId) (sz : Nat) (o : Nat) (o_letters : Nat) (o_length : Int32) (o_begin : Int32) (o_end : Int32)  : Met l yX7_isAtEnd wsX7_isAtEnd ({ frames := 0, cells := 0, slots := 0, locals := 0 } : Room) (va_Pc [.ref o] (xP D cI cZ [(o, .inr (7, [.ref o_letters, .int o_length, .int o_begin, .int o_end]))] sz)) (va_Qi (fun (r : Int32) (u : Unit) => r = fX7_isAtEnd o_length o_begin) (fun (u : Unit) t => xB D cI cZ [(o, .inr (7, [.ref o_letters, .int o_length, .int o_begin, .int o_end]))] (va_A [(o, .inr (7, [.ref o_letters, .int o_length, .int o_begin, .int o_end]))] sz) t) (va_A [(o, .inr (7, [.ref o_letters, .int o_length, .int o_begin, .int o_end]))] sz)) 0 0 (va_A [(o, .inr (7, [.ref o_letters, .int o_length, .int o_begin, .int o_end]))] sz) := by
  refine Met.ofW (cc := cX7_isAtEnd) (maxL := 1) (ret := (some .boolean)) (by decide) rfl ?_
  intro p e s m args below meth c s₁ B hml hv
  obtain ⟨hargs, hsz, hP, hK, hD0, hE⟩ := hv
  subst hargs
  have hx := B.exec
  have hb := B.bytes
  have hr := B.returns
  have hts := atoms_spec (ws := wsX7_isAtEnd) B.pre
  have hown : s.vm.findClass RX7 = some m.cls := findClass_of_methodNamed B.named
  have hlocks := B.notSynchronized
  subst hsz
  have hD := hD0.self (sz := s.heap.size)
  generalize hAe : va_A [(o, .inr (7, [.ref o_letters, .int o_length, .int o_begin, .int o_end]))] s.heap.size = A at hD ⊢
  have hA : ∀ q : Nat, s.heap.size ≤ q → A q := fun q h => by rw [← hAe]; exact Or.inr h
  have hS : va_S A s.heap s.heap [] := va_S.rf
  have hl := lv_entry ([.ref o]) (n := 1) (Nat.le_of_ble_eq_true rfl)
  rw [lg_entry_eq]
  generalize (lg_sl ([.ref o]) ++ List.replicate (1 - (lg_sl ([.ref o])).length) Slot.unset).toArray = ls at hl ⊢
  have hl : lv_has ls 1 [(0, .ref o)] := hl
  refine wq (X := fun Q => ∀ (pc : Nat) (H : Heap) (locs : List Loc) (ls : Array Slot) (r : Int32) (u : Unit) (hn : narrow .boolean (.int r) = .int r) (hd : decode cX7_isAtEnd pc = .ok (.ireturn, 1)) (hp : r = fX7_isAtEnd o_length o_begin) (hP : va_P D vwCl [(o, .inr (7, [.ref o_letters, .int o_length, .int o_begin, .int o_end]))] H) (hD : va_D A [(o, .inr (7, [.ref o_letters, .int o_length, .int o_begin, .int o_end]))]) (hS : va_S A s.heap H locs), W p l e ({ frames := 0, cells := 0, slots := 0, locals := 0 } : Room) s m ([.ref o] : List Value).toArray below meth c H locs 0 0 Q (F0 m pc ls [.int r])) ?_ (fun Q hret => ?_)
  · intro pc H locs ls r u hn hd hp hP hD hS
    exact W.zret (v := r) hx hb hr hn (fun t ht hW => ⟨⟨r, u, rfl, hp, by rw [ht]; exact hP, va_K.moved hW.alike hK, hD⟩, hS.F ht⟩) hS.2.2 hd
  have hin_7 : ∀ w ∈ u_ws RX7 TX7 4, w ∈ wsX7_isAtEnd := by decide +kernel
  have fl_20 := hts (.fieldLink RX7 20 "MileRoad$Text" "length" "I") (by decide +kernel)
  have fl_34 := hts (.fieldLink RX7 34 "MileRoad$Text" "begin" "I") (by decide +kernel)
  have hF : fX7_isAtEnd o_length o_begin = fX7_isAtEnd o_length o_begin := rfl
  refine lv_aload_n hx hb dX7_isAtEnd_0 rfl (lv_at hl 0 rfl) ?_
  refine xget hx hb hts hown hK 7 (C2 := RX7) (T := TX7) (N := 4) rfl hin_7 hP 0 rfl 2 (by decide) fl_34 rfl rfl rfl dX7_isAtEnd_1 ?_
  refine lv_aload_n hx hb dX7_isAtEnd_4 rfl (lv_at hl 0 rfl) ?_
  refine xget hx hb hts hown hK 7 (C2 := RX7) (T := TX7) (N := 4) rfl hin_7 hP 0 rfl 1 (by decide) fl_20 rfl rfl rfl dX7_isAtEnd_5 ?_
  have K_y_1 : ∀ (y_1 : Int32) (hy_y_1 : (if o_begin < o_length then (0 : Int32) else 1) = y_1) (H : Heap) (locs : List Loc) (hP : va_P D vwCl [(o, .inr (7, [.ref o_letters, .int o_length, .int o_begin, .int o_end]))] H) (hD : va_D A [(o, .inr (7, [.ref o_letters, .int o_length, .int o_begin, .int o_end]))]) (hS : va_S A s.heap H locs), W p l e ({ frames := 0, cells := 0, slots := 0, locals := 0 } : Room) s m ([.ref o] : List Value).toArray below meth c H locs 0 0 Q (F0 m 16 ls [.int y_1]) := by
    intro y_1 hy_y_1 H locs hP hD hS
    have ky_y_1 : y_1 = 0 ∨ y_1 = 1 := by rw [← hy_y_1]; (repeat' split) <;> simp
    exact hret _ _ _ _ y_1 () (by rcases ky_y_1 with h | h <;> rw [h] <;> rfl) dX7_isAtEnd_16 ((hF.trans (by simp only [fX7_isAtEnd, xlet, ↓hy_y_1])).symm) hP hD hS
  refine lv_icmp_lt (tgt := 15) hx hb dX7_isAtEnd_8 (by decide) (fun c_1 => ?_) (fun c_1 => ?_)
  · refine lv_iconst (v := 0) hx hb dX7_isAtEnd_15 (by decide) ?_
    exact K_y_1 _ (by simp only [xlet, if_pos c_1]) _ _ hP hD hS
  · refine lv_iconst (v := 1) hx hb dX7_isAtEnd_11 (by decide) ?_
    refine lv_goto (tgt := 16) hx hb dX7_isAtEnd_12 (by decide) ?_
    exact K_y_1 _ (by simp only [xlet, if_neg c_1]) _ _ hP hD hS
theorem bz_X7_isAtEnd (o_length : Int32) (o_begin : Int32) : narrow .boolean (.int (fX7_isAtEnd o_length o_begin)) = .int (fX7_isAtEnd o_length o_begin) := by
  unfold fX7_isAtEnd; try unfold xlet
  first | rfl | ((repeat' split) <;> first | rfl)
set_option maxRecDepth 20000 in
theorem ggX7_number_X7_isAtEnd : GoodIn wsX7_number wsX7_isAtEnd := goodIn_r _ [8, 2, 9, 19, 20, 21, 22] (by decide +kernel) (by decide +kernel)
set_option maxRecDepth 20000 in
theorem gX7_number_X7_isAtEnd : GoodIn wsX7_number (wsV RX7 59 RX7 yX7_isAtEnd wsX7_isAtEnd) := goodIn_app (goodIn_of _ (by decide +kernel)) ggX7_number_X7_isAtEnd
set_option maxRecDepth 20000 in
theorem ggX7_number_X4_at : GoodIn wsX7_number wsX4_at := goodIn_r _ [14, 15, 23] (by decide +kernel) (by decide +kernel)
set_option maxRecDepth 20000 in
theorem gX7_number_X4_at : GoodIn wsX7_number (wsV RX7 37 RX4 yX4_at wsX4_at) := goodIn_app (goodIn_of _ (by decide +kernel)) ggX7_number_X4_at
set_option maxRecDepth 20000 in
theorem ggX7_number_X7_sortOf : GoodIn wsX7_number wsX7_sortOf := goodIn_r _ [18] (by decide +kernel) (by decide +kernel)
set_option maxRecDepth 20000 in
theorem gX7_number_X7_sortOf : GoodIn wsX7_number (va_wsS RX7 41 yX7_sortOf wsX7_sortOf) := goodIn_app (goodIn_of _ (by decide +kernel)) ggX7_number_X7_sortOf
theorem dX7_number_0 : decode cX7_number 0 = .ok (.aload_n 0, 1) := by decide +kernel
theorem dX7_number_1 : decode cX7_number 1 = .ok (.invokevirtual 59, 3) := by decide +kernel
theorem dX7_number_4 : decode cX7_number 4 = .ok (.ifCond .ne 34, 3) := by decide +kernel
theorem dX7_number_7 : decode cX7_number 7 = .ok (.aload_n 0, 1) := by decide +kernel
theorem dX7_number_8 : decode cX7_number 8 = .ok (.getfield 14, 3) := by decide +kernel
theorem dX7_number_11 : decode cX7_number 11 = .ok (.aload_n 0, 1) := by decide +kernel
theorem dX7_number_12 : decode cX7_number 12 = .ok (.getfield 34, 3) := by decide +kernel
theorem dX7_number_15 : decode cX7_number 15 = .ok (.invokevirtual 37, 3) := by decide +kernel
theorem dX7_number_18 : decode cX7_number 18 = .ok (.invokestatic 41, 3) := by decide +kernel
theorem dX7_number_21 : decode cX7_number 21 = .ok (.iconst 2, 1) := by decide +kernel
theorem dX7_number_22 : decode cX7_number 22 = .ok (.if_icmp .ne 16, 3) := by decide +kernel
theorem dX7_number_25 : decode cX7_number 25 = .ok (.aload_n 0, 1) := by decide +kernel
theorem dX7_number_26 : decode cX7_number 26 = .ok (.getfield 28, 3) := by decide +kernel
theorem dX7_number_29 : decode cX7_number 29 = .ok (.aload_n 0, 1) := by decide +kernel
theorem dX7_number_30 : decode cX7_number 30 = .ok (.getfield 34, 3) := by decide +kernel
theorem dX7_number_33 : decode cX7_number 33 = .ok (.isub, 1) := by decide +kernel
theorem dX7_number_34 : decode cX7_number 34 = .ok (.iconst 2, 1) := by decide +kernel
theorem dX7_number_35 : decode cX7_number 35 = .ok (.if_icmp .le 5, 3) := by decide +kernel
theorem dX7_number_38 : decode cX7_number 38 = .ok (.iconst (-1), 1) := by decide +kernel
theorem dX7_number_39 : decode cX7_number 39 = .ok (.ireturn, 1) := by decide +kernel
theorem dX7_number_40 : decode cX7_number 40 = .ok (.iconst 0, 1) := by decide +kernel
theorem dX7_number_41 : decode cX7_number 41 = .ok (.istore_n 1, 1) := by decide +kernel
theorem dX7_number_42 : decode cX7_number 42 = .ok (.aload_n 0, 1) := by decide +kernel
theorem dX7_number_43 : decode cX7_number 43 = .ok (.getfield 34, 3) := by decide +kernel
theorem dX7_number_46 : decode cX7_number 46 = .ok (.istore_n 2, 1) := by decide +kernel
theorem dX7_number_47 : decode cX7_number 47 = .ok (.iload_n 2, 1) := by decide +kernel
theorem dX7_number_48 : decode cX7_number 48 = .ok (.aload_n 0, 1) := by decide +kernel
theorem dX7_number_49 : decode cX7_number 49 = .ok (.getfield 28, 3) := by decide +kernel
theorem dX7_number_52 : decode cX7_number 52 = .ok (.if_icmp .ge 26, 3) := by decide +kernel
theorem dX7_number_55 : decode cX7_number 55 = .ok (.iload_n 1, 1) := by decide +kernel
theorem dX7_number_56 : decode cX7_number 56 = .ok (.bipush 10, 2) := by decide +kernel
theorem dX7_number_58 : decode cX7_number 58 = .ok (.imul, 1) := by decide +kernel
theorem dX7_number_59 : decode cX7_number 59 = .ok (.aload_n 0, 1) := by decide +kernel
theorem dX7_number_60 : decode cX7_number 60 = .ok (.getfield 14, 3) := by decide +kernel
theorem dX7_number_63 : decode cX7_number 63 = .ok (.iload_n 2, 1) := by decide +kernel
theorem dX7_number_64 : decode cX7_number 64 = .ok (.invokevirtual 37, 3) := by decide +kernel
theorem dX7_number_67 : decode cX7_number 67 = .ok (.iadd, 1) := by decide +kernel
theorem dX7_number_68 : decode cX7_number 68 = .ok (.bipush 48, 2) := by decide +kernel
theorem dX7_number_70 : decode cX7_number 70 = .ok (.isub, 1) := by decide +kernel
theorem dX7_number_71 : decode cX7_number 71 = .ok (.istore_n 1, 1) := by decide +kernel
theorem dX7_number_72 : decode cX7_number 72 = .ok (.iinc 2 1, 3) := by decide +kernel
theorem dX7_number_75 : decode cX7_number 75 = .ok (.goto (-28), 3) := by decide +kernel
theorem dX7_number_78 : decode cX7_number 78 = .ok (.iload_n 1, 1) := by decide +kernel
theorem dX7_number_79 : decode cX7_number 79 = .ok (.ireturn, 1) := by decide +kernel
def fX7_number_47 (o_end : Int32) (o_letters_f : Nat → Int32)  : Nat → Int32 → Int32 → Int32
  | 0, _, _ => default
  | n + 1, v47_1, v47_2 => if o_end ≤ v47_2 then v47_1 else (fX7_number_47 o_end o_letters_f n (((v47_1 * 10) + (fX4_at v47_2 o_letters_f 160)) - 48) (v47_2 + 1))
def fX7_number (o_length : Int32) (o_begin : Int32) (o_end : Int32) (o_letters_f : Nat → Int32) : Int32 := if (fX7_isAtEnd o_length o_begin) = 0 then (if (fX7_sortOf (fX4_at o_begin o_letters_f 160)) = 2 then (if (o_end - o_begin) ≤ 2 then (fX7_number_47 o_end o_letters_f 1000 0 o_begin) else ((-1))) else ((-1))) else ((-1))
set_option maxHeartbeats 4000000 in
set_option maxRecDepth 100000 in
theorem c_X7_number (l : Launch) (D : va_G) (cI cZ : ClassId) (sz : Nat) (o : Nat) (o_letters : Nat) (o_length : Int32) (o_begin : Int32) (o_end : Int32) (o_letters_a : Nat) (o_letters_f : Nat → Int32) (hb0 : 0 ≤ o_begin.toInt) (hb1 : o_begin.toInt ≤ 160) (he1 : o_end.toInt ≤ 160) : Met l yX7_number wsX7_number ({ frames := 1, cells := 0, slots := 0, locals := 21 } : Room) (va_Pc [.ref o] (xP D cI cZ [(o, .inr (7, [.ref o_letters, .int o_length, .int o_begin, .int o_end])), (o_letters, .inr (4, [.ref o_letters_a])), (o_letters_a, .inl (cI, 160, .inl o_letters_f))] sz)) (va_Qi (fun (r : Int32) (u : Unit) => r = fX7_number o_length o_begin o_end o_letters_f) (fun (u : Unit) t => xB D cI cZ [(o, .inr (7, [.ref o_letters, .int o_length, .int o_begin, .int o_end])), (o_letters, .inr (4, [.ref o_letters_a])), (o_letters_a, .inl (cI, 160, .inl o_letters_f))] (va_A [(o, .inr (7, [.ref o_letters, .int o_length, .int o_begin, .int o_end])), (o_letters, .inr (4, [.ref o_letters_a])), (o_letters_a, .inl (cI, 160, .inl o_letters_f))] sz) t) (va_A [(o, .inr (7, [.ref o_letters, .int o_length, .int o_begin, .int o_end])), (o_letters, .inr (4, [.ref o_letters_a])), (o_letters_a, .inl (cI, 160, .inl o_letters_f))] sz)) 0 0 (va_A [(o, .inr (7, [.ref o_letters, .int o_length, .int o_begin, .int o_end])), (o_letters, .inr (4, [.ref o_letters_a])), (o_letters_a, .inl (cI, 160, .inl o_letters_f))] sz) := by
  refine Met.ofW (cc := cX7_number) (maxL := 3) (ret := (some .int)) (by decide) rfl ?_
  intro p e s m args below meth c s₁ B hml hv
  obtain ⟨hargs, hsz, hP, hK, hD0, hE⟩ := hv
  subst hargs
  have hx := B.exec
  have hb := B.bytes
  have hr := B.returns
  have hts := atoms_spec (ws := wsX7_number) B.pre
  have hown : s.vm.findClass RX7 = some m.cls := findClass_of_methodNamed B.named
  have hlocks := B.notSynchronized
  subst hsz
  have hD := hD0.self (sz := s.heap.size)
  generalize hAe : va_A [(o, .inr (7, [.ref o_letters, .int o_length, .int o_begin, .int o_end])), (o_letters, .inr (4, [.ref o_letters_a])), (o_letters_a, .inl (cI, 160, .inl o_letters_f))] s.heap.size = A at hD ⊢
  have hA : ∀ q : Nat, s.heap.size ≤ q → A q := fun q h => by rw [← hAe]; exact Or.inr h
  have hS : va_S A s.heap s.heap [] := va_S.rf
  have hl := lv_entry ([.ref o]) (n := 3) (Nat.le_of_ble_eq_true rfl)
  rw [lg_entry_eq]
  generalize (lg_sl ([.ref o]) ++ List.replicate (3 - (lg_sl ([.ref o])).length) Slot.unset).toArray = ls at hl ⊢
  have hl : lv_has ls 3 [(0, .ref o)] := hl
  refine wq (X := fun Q => ∀ (pc : Nat) (H : Heap) (locs : List Loc) (ls : Array Slot) (r : Int32) (u : Unit) (hd : decode cX7_number pc = .ok (.ireturn, 1)) (hp : r = fX7_number o_length o_begin o_end o_letters_f) (hP : va_P D vwCl [(o, .inr (7, [.ref o_letters, .int o_length, .int o_begin, .int o_end])), (o_letters, .inr (4, [.ref o_letters_a])), (o_letters_a, .inl (cI, 160, .inl o_letters_f))] H) (hD : va_D A [(o, .inr (7, [.ref o_letters, .int o_length, .int o_begin, .int o_end])), (o_letters, .inr (4, [.ref o_letters_a])), (o_letters_a, .inl (cI, 160, .inl o_letters_f))]) (hS : va_S A s.heap H locs), W p l e ({ frames := 1, cells := 0, slots := 0, locals := 21 } : Room) s m ([.ref o] : List Value).toArray below meth c H locs 0 0 Q (F0 m pc ls [.int r])) ?_ (fun Q hret => ?_)
  · intro pc H locs ls r u hd hp hP hD hS
    exact W.iret (v := r) hx hb hr (fun t ht hW => ⟨⟨r, u, rfl, hp, by rw [ht]; exact hP, va_K.moved hW.alike hK, hD⟩, hS.F ht⟩) hS.2.2 hd
  have hin_7 : ∀ w ∈ u_ws RX7 TX7 4, w ∈ wsX7_number := by decide +kernel
  have fl_14 := hts (.fieldLink RX7 14 "MileRoad$Text" "letters" "LMileRoad$Row;") (by decide +kernel)
  have fl_28 := hts (.fieldLink RX7 28 "MileRoad$Text" "end" "I") (by decide +kernel)
  have fl_34 := hts (.fieldLink RX7 34 "MileRoad$Text" "begin" "I") (by decide +kernel)
  have zl_0 : (0 : Int32).toInt = 0 := by decide
  have zl_1 : (1 : Int32).toInt = 1 := by decide
  have zl_2 : (2 : Int32).toInt = 2 := by decide
  have hF : fX7_number o_length o_begin o_end o_letters_f = fX7_number o_length o_begin o_end o_letters_f := rfl
  have L_47 : ∀ (n : Nat) (v47_1 : Int32) (v47_2 : Int32) (h1_47 : 0 ≤ v47_2.toInt) (h2_47 : v47_2.toInt ≤ 160) (hm : 160 - v47_2.toInt < (n : Int)) (H : Heap) (locs : List Loc) (ls : Array Slot) (hl : lv_has ls 3 [(0, .ref o), (1, .int v47_1), (2, .int v47_2)]) (hP : va_P D vwCl [(o, .inr (7, [.ref o_letters, .int o_length, .int o_begin, .int o_end])), (o_letters, .inr (4, [.ref o_letters_a])), (o_letters_a, .inl (cI, 160, .inl o_letters_f))] H) (hD : va_D A [(o, .inr (7, [.ref o_letters, .int o_length, .int o_begin, .int o_end])), (o_letters, .inr (4, [.ref o_letters_a])), (o_letters_a, .inl (cI, 160, .inl o_letters_f))]) (hS : va_S A s.heap H locs) (hF : fX7_number o_length o_begin o_end o_letters_f = fX7_number_47 o_end o_letters_f n v47_1 v47_2), W p l e ({ frames := 1, cells := 0, slots := 0, locals := 21 } : Room) s m ([.ref o] : List Value).toArray below meth c H locs 0 0 Q (F0 m 47 ls []) := by
    intro n
    induction n with
    | zero =>
      intro v47_1 v47_2 h1_47 h2_47 hm H locs ls hl hP hD hS hF
      exact absurd hm (by omega)
    | succ n ih_47 =>
      intro v47_1 v47_2 h1_47 h2_47 hm H locs ls hl hP hD hS hF
      refine lv_iload_n hx hb dX7_number_47 rfl (lv_at hl 2 rfl) ?_
      refine lv_aload_n hx hb dX7_number_48 rfl (lv_at hl 0 rfl) ?_
      refine xget hx hb hts hown hK 7 (C2 := RX7) (T := TX7) (N := 4) rfl hin_7 hP 0 rfl 3 (by decide) fl_28 rfl rfl rfl dX7_number_49 ?_
      refine lv_icmp_ge (tgt := 78) hx hb dX7_number_52 (by decide) (fun c_4 => ?_) (fun c_4 => ?_)
      · have kc_4 := t_le c_4
        refine lv_iload_n hx hb dX7_number_78 rfl (lv_at hl 1 rfl) ?_
        exact hret _ _ _ _ v47_1 () dX7_number_79 ((hF.trans (by simp only [fX7_number_47, xlet, if_pos c_4])).symm) hP hD hS
      · have kc_4 := t_nle c_4
        refine lv_iload_n hx hb dX7_number_55 rfl (lv_at hl 1 rfl) ?_
        refine lv_bipush (v := 10) hx hb dX7_number_56 (by decide) ?_
        refine lv_imul hx hb dX7_number_58 ?_
        refine lv_aload_n hx hb dX7_number_59 rfl (lv_at hl 0 rfl) ?_
        refine xget hx hb hts hown hK 7 (C2 := RX7) (T := TX7) (N := 4) rfl hin_7 hP 0 rfl 0 (by decide) fl_14 rfl rfl rfl dX7_number_60 ?_
        refine lv_iload_n hx hb dX7_number_63 rfl (lv_at hl 2 rfl) ?_
        refine xcalli (S := Unit) (Wc := [(o_letters, .inr (4, [.ref o_letters_a])), (o_letters_a, .inl (cI, 160, .inl o_letters_f))]) (wr := [(o, .inr (7, [.ref o_letters, .int o_length, .int o_begin, .int o_end]))]) (W1 := (fun (u : Unit) => [(o_letters, .inr (4, [.ref o_letters_a])), (o_letters_a, .inl (cI, 160, .inl o_letters_f))])) (Wn := (fun (u : Unit) => [(o, .inr (7, [.ref o_letters, .int o_length, .int o_begin, .int o_end])), (o_letters, .inr (4, [.ref o_letters_a])), (o_letters_a, .inl (cI, 160, .inl o_letters_f))])) (xrunV hx hb hml hown hts (c_X4_at l D cI cZ _ o_letters v47_2 o_letters_a o_letters_f 160 (by decide)) (cwV 1 hts gX7_number_X4_at rfl rfl rfl (by decide +kernel) ⟨Nat.le_of_ble_eq_true rfl, Nat.le_of_ble_eq_true rfl⟩) hE hK hP hD [1, 2] rfl rfl 0 4 (T := TX4) (N := 1) rfl rfl rfl hl.1 rfl (Nat.le_of_ble_eq_true rfl) dX7_number_64 ⟨Nat.le_of_ble_eq_true rfl, Nat.le_of_ble_eq_true rfl⟩) hP hD hS hA [1, 2] [0] [0, 1, 2] rfl rfl rfl (by decide) (fun _ => rfl) rfl (fun r4 u H locs hw hz hP hD hS => ?_)
        subst hw
        refine lv_iadd hx hb dX7_number_67 ?_
        refine lv_bipush (v := 48) hx hb dX7_number_68 (by decide) ?_
        refine lv_isub hx hb dX7_number_70 ?_
        refine lv_istore_n (lv' := [(1, .int (((v47_1 * 10) + (fX4_at v47_2 o_letters_f 160)) - 48)), (0, .ref o), (2, .int v47_2)]) hx hb dX7_number_71 rfl hl (by decide) rfl (fun ls hl => ?_)
        refine lv_iinc (v := (v47_2 + 1)) (lv' := [(2, .int (v47_2 + 1)), (1, .int (((v47_1 * 10) + (fX4_at v47_2 o_letters_f 160)) - 48)), (0, .ref o)]) hx hb dX7_number_72 hl (k := 2) rfl (by rfl) (by decide) rfl (fun ls hl => ?_)
        refine lv_goto (tgt := 47) hx hb dX7_number_75 (by decide) ?_
        have z_1 : (v47_2 + 1).toInt = v47_2.toInt + (1 : Int32).toInt := z_add (by omega) (by omega)
        exact ih_47 (((v47_1 * 10) + (fX4_at v47_2 o_letters_f 160)) - 48) (v47_2 + 1) (by first | assumption | omega | decide | (split <;> rename_i hh <;> first | (have h9 := t_nlt hh; omega) | (have h9 := t_lt hh; omega) | (have h9 := t_nle hh; omega) | (have h9 := t_le hh; omega))) (by first | assumption | omega | decide | (split <;> rename_i hh <;> first | (have h9 := t_nlt hh; omega) | (have h9 := t_lt hh; omega) | (have h9 := t_nle hh; omega) | (have h9 := t_le hh; omega))) (by first | assumption | omega | decide | (split <;> rename_i hh <;> first | (have h9 := t_nlt hh; omega) | (have h9 := t_lt hh; omega) | (have h9 := t_nle hh; omega) | (have h9 := t_le hh; omega))) _ _ _ (lv_sub hl [2, 1, 0] rfl) hP hD hS (hF.trans (by simp only [fX7_number_47, xlet, if_neg c_4]))
  refine lv_aload_n hx hb dX7_number_0 rfl (lv_at hl 0 rfl) ?_
  refine xcalli (S := Unit) (Wc := [(o, .inr (7, [.ref o_letters, .int o_length, .int o_begin, .int o_end]))]) (wr := [(o_letters, .inr (4, [.ref o_letters_a])), (o_letters_a, .inl (cI, 160, .inl o_letters_f))]) (W1 := (fun (u : Unit) => [(o, .inr (7, [.ref o_letters, .int o_length, .int o_begin, .int o_end]))])) (Wn := (fun (u : Unit) => [(o, .inr (7, [.ref o_letters, .int o_length, .int o_begin, .int o_end])), (o_letters, .inr (4, [.ref o_letters_a])), (o_letters_a, .inl (cI, 160, .inl o_letters_f))])) (xrunV hx hb hml hown hts (c_X7_isAtEnd l D cI cZ _ o o_letters o_length o_begin o_end ) (cwV 0 hts gX7_number_X7_isAtEnd rfl rfl rfl (by decide +kernel) ⟨Nat.le_of_ble_eq_true rfl, Nat.le_of_ble_eq_true rfl⟩) hE hK hP hD [0] rfl rfl 0 7 (T := TX7) (N := 4) rfl rfl rfl hl.1 rfl (Nat.le_of_ble_eq_true rfl) dX7_number_1 ⟨Nat.le_of_ble_eq_true rfl, Nat.le_of_ble_eq_true rfl⟩) hP hD hS hA [0] [1, 2] [2, 0, 1] rfl rfl rfl (by decide) (fun _ => rfl) rfl (fun r1 u H locs hw hz hP hD hS => ?_)
  subst hw
  refine lv_if_ne (tgt := 38) hx hb dX7_number_4 (by decide) (fun c_1 => ?_) (fun c_1 => ?_)
  · have kc_1 := t_neq c_1
    refine lv_iconst (v := (-1)) hx hb dX7_number_38 (by decide) ?_
    exact hret _ _ _ _ (-1) () dX7_number_39 ((hF.trans (by simp only [fX7_number, xlet, if_neg c_1])).symm) hP hD hS
  · have kc_1 := t_eq c_1
    refine lv_aload_n hx hb dX7_number_7 rfl (lv_at hl 0 rfl) ?_
    refine xget hx hb hts hown hK 7 (C2 := RX7) (T := TX7) (N := 4) rfl hin_7 hP 0 rfl 0 (by decide) fl_14 rfl rfl rfl dX7_number_8 ?_
    refine lv_aload_n hx hb dX7_number_11 rfl (lv_at hl 0 rfl) ?_
    refine xget hx hb hts hown hK 7 (C2 := RX7) (T := TX7) (N := 4) rfl hin_7 hP 0 rfl 2 (by decide) fl_34 rfl rfl rfl dX7_number_12 ?_
    refine xcalli (S := Unit) (Wc := [(o_letters, .inr (4, [.ref o_letters_a])), (o_letters_a, .inl (cI, 160, .inl o_letters_f))]) (wr := [(o, .inr (7, [.ref o_letters, .int o_length, .int o_begin, .int o_end]))]) (W1 := (fun (u : Unit) => [(o_letters, .inr (4, [.ref o_letters_a])), (o_letters_a, .inl (cI, 160, .inl o_letters_f))])) (Wn := (fun (u : Unit) => [(o, .inr (7, [.ref o_letters, .int o_length, .int o_begin, .int o_end])), (o_letters, .inr (4, [.ref o_letters_a])), (o_letters_a, .inl (cI, 160, .inl o_letters_f))])) (xrunV hx hb hml hown hts (c_X4_at l D cI cZ _ o_letters o_begin o_letters_a o_letters_f 160 (by decide)) (cwV 1 hts gX7_number_X4_at rfl rfl rfl (by decide +kernel) ⟨Nat.le_of_ble_eq_true rfl, Nat.le_of_ble_eq_true rfl⟩) hE hK hP hD [1, 2] rfl rfl 0 4 (T := TX4) (N := 1) rfl rfl rfl hl.1 rfl (Nat.le_of_ble_eq_true rfl) dX7_number_15 ⟨Nat.le_of_ble_eq_true rfl, Nat.le_of_ble_eq_true rfl⟩) hP hD hS hA [1, 2] [0] [0, 1, 2] rfl rfl rfl (by decide) (fun _ => rfl) rfl (fun r2 u H locs hw hz hP hD hS => ?_)
    subst hw
    refine xcalli (S := Unit) (Wc := []) (wr := [(o, .inr (7, [.ref o_letters, .int o_length, .int o_begin, .int o_end])), (o_letters, .inr (4, [.ref o_letters_a])), (o_letters_a, .inl (cI, 160, .inl o_letters_f))]) (W1 := (fun (u : Unit) => [])) (Wn := (fun (u : Unit) => [(o, .inr (7, [.ref o_letters, .int o_length, .int o_begin, .int o_end])), (o_letters, .inr (4, [.ref o_letters_a])), (o_letters_a, .inl (cI, 160, .inl o_letters_f))])) (xrunS hx hb hml hown hts (c_X7_sortOf l D cI cZ _ (fX4_at o_begin o_letters_f 160) ) (va_cwS 1 hts gX7_number_X7_sortOf rfl rfl rfl (by decide +kernel) ⟨Nat.le_of_ble_eq_true rfl, Nat.le_of_ble_eq_true rfl⟩) hE hK hP hD [] rfl rfl rfl hl.1 rfl (Nat.le_of_ble_eq_true rfl) dX7_number_18 ⟨Nat.le_of_ble_eq_true rfl, Nat.le_of_ble_eq_true rfl⟩) hP hD hS hA [] [0, 1, 2] [0, 1, 2] rfl rfl rfl (by decide) (fun _ => rfl) rfl (fun r3 u H locs hw hz hP hD hS => ?_)
    subst hw
    refine lv_iconst (v := 2) hx hb dX7_number_21 (by decide) ?_
    refine lv_icmp_ne (tgt := 38) hx hb dX7_number_22 (by decide) (fun c_2 => ?_) (fun c_2 => ?_)
    · have kc_2 := t_neq c_2
      refine lv_iconst (v := (-1)) hx hb dX7_number_38 (by decide) ?_
      exact hret _ _ _ _ (-1) () dX7_number_39 ((hF.trans (by simp only [fX7_number, xlet, if_pos c_1, if_neg c_2])).symm) hP hD hS
    · have kc_2 := t_eq c_2
      refine lv_aload_n hx hb dX7_number_25 rfl (lv_at hl 0 rfl) ?_
      refine xget hx hb hts hown hK 7 (C2 := RX7) (T := TX7) (N := 4) rfl hin_7 hP 0 rfl 3 (by decide) fl_28 rfl rfl rfl dX7_number_26 ?_
      refine lv_aload_n hx hb dX7_number_29 rfl (lv_at hl 0 rfl) ?_
      refine xget hx hb hts hown hK 7 (C2 := RX7) (T := TX7) (N := 4) rfl hin_7 hP 0 rfl 2 (by decide) fl_34 rfl rfl rfl dX7_number_30 ?_
      refine lv_isub hx hb dX7_number_33 ?_
      refine lv_iconst (v := 2) hx hb dX7_number_34 (by decide) ?_
      refine lv_icmp_le (tgt := 40) hx hb dX7_number_35 (by decide) (fun c_3 => ?_) (fun c_3 => ?_)
      · have kc_3 := t_le c_3
        refine lv_iconst (v := 0) hx hb dX7_number_40 (by decide) ?_
        refine lv_istore_n (lv' := [(1, .int 0), (0, .ref o)]) hx hb dX7_number_41 rfl hl (by decide) rfl (fun ls hl => ?_)
        refine lv_aload_n hx hb dX7_number_42 rfl (lv_at hl 1 rfl) ?_
        refine xget hx hb hts hown hK 7 (C2 := RX7) (T := TX7) (N := 4) rfl hin_7 hP 0 rfl 2 (by decide) fl_34 rfl rfl rfl dX7_number_43 ?_
        refine lv_istore_n (lv' := [(2, .int o_begin), (1, .int 0), (0, .ref o)]) hx hb dX7_number_46 rfl hl (by decide) rfl (fun ls hl => ?_)
        exact L_47 1000 0 o_begin (by first | assumption | omega | decide | (split <;> rename_i hh <;> first | (have h9 := t_nlt hh; omega) | (have h9 := t_lt hh; omega) | (have h9 := t_nle hh; omega) | (have h9 := t_le hh; omega))) (by first | assumption | omega | decide | (split <;> rename_i hh <;> first | (have h9 := t_nlt hh; omega) | (have h9 := t_lt hh; omega) | (have h9 := t_nle hh; omega) | (have h9 := t_le hh; omega))) (by first | assumption | omega | decide | (split <;> rename_i hh <;> first | (have h9 := t_nlt hh; omega) | (have h9 := t_lt hh; omega) | (have h9 := t_nle hh; omega) | (have h9 := t_le hh; omega))) _ _ _ (lv_sub hl [2, 1, 0] rfl) hP hD hS (hF.trans (by simp only [fX7_number, xlet, if_pos c_1, if_pos c_2, if_pos c_3]))
      · have kc_3 := t_nle c_3
        refine lv_iconst (v := (-1)) hx hb dX7_number_38 (by decide) ?_
        exact hret _ _ _ _ (-1) () dX7_number_39 ((hF.trans (by simp only [fX7_number, xlet, if_pos c_1, if_pos c_2, if_neg c_3])).symm) hP hD hS
set_option maxRecDepth 20000 in
theorem ggX7_readNext_X4_at : GoodIn wsX7_readNext wsX4_at := goodIn_r _ [13, 14, 23] (by decide +kernel) (by decide +kernel)
set_option maxRecDepth 20000 in
theorem gX7_readNext_X4_at : GoodIn wsX7_readNext (wsV RX7 37 RX4 yX4_at wsX4_at) := goodIn_app (goodIn_of _ (by decide +kernel)) ggX7_readNext_X4_at
set_option maxRecDepth 20000 in
theorem ggX7_readNext_X7_sortOf : GoodIn wsX7_readNext wsX7_sortOf := goodIn_r _ [18] (by decide +kernel) (by decide +kernel)
set_option maxRecDepth 20000 in
theorem gX7_readNext_X7_sortOf : GoodIn wsX7_readNext (va_wsS RX7 41 yX7_sortOf wsX7_sortOf) := goodIn_app (goodIn_of _ (by decide +kernel)) ggX7_readNext_X7_sortOf
theorem dX7_readNext_0 : decode cX7_readNext 0 = .ok (.aload_n 0, 1) := by decide +kernel
theorem dX7_readNext_1 : decode cX7_readNext 1 = .ok (.aload_n 0, 1) := by decide +kernel
theorem dX7_readNext_2 : decode cX7_readNext 2 = .ok (.getfield 28, 3) := by decide +kernel
theorem dX7_readNext_5 : decode cX7_readNext 5 = .ok (.putfield 34, 3) := by decide +kernel
theorem dX7_readNext_8 : decode cX7_readNext 8 = .ok (.aload_n 0, 1) := by decide +kernel
theorem dX7_readNext_9 : decode cX7_readNext 9 = .ok (.getfield 34, 3) := by decide +kernel
theorem dX7_readNext_12 : decode cX7_readNext 12 = .ok (.aload_n 0, 1) := by decide +kernel
theorem dX7_readNext_13 : decode cX7_readNext 13 = .ok (.getfield 20, 3) := by decide +kernel
theorem dX7_readNext_16 : decode cX7_readNext 16 = .ok (.if_icmp .ge 32, 3) := by decide +kernel
theorem dX7_readNext_19 : decode cX7_readNext 19 = .ok (.aload_n 0, 1) := by decide +kernel
theorem dX7_readNext_20 : decode cX7_readNext 20 = .ok (.getfield 14, 3) := by decide +kernel
theorem dX7_readNext_23 : decode cX7_readNext 23 = .ok (.aload_n 0, 1) := by decide +kernel
theorem dX7_readNext_24 : decode cX7_readNext 24 = .ok (.getfield 34, 3) := by decide +kernel
theorem dX7_readNext_27 : decode cX7_readNext 27 = .ok (.invokevirtual 37, 3) := by decide +kernel
theorem dX7_readNext_30 : decode cX7_readNext 30 = .ok (.bipush 32, 2) := by decide +kernel
theorem dX7_readNext_32 : decode cX7_readNext 32 = .ok (.if_icmp .ne 16, 3) := by decide +kernel
theorem dX7_readNext_35 : decode cX7_readNext 35 = .ok (.aload_n 0, 1) := by decide +kernel
theorem dX7_readNext_36 : decode cX7_readNext 36 = .ok (.dup, 1) := by decide +kernel
theorem dX7_readNext_37 : decode cX7_readNext 37 = .ok (.getfield 34, 3) := by decide +kernel
theorem dX7_readNext_40 : decode cX7_readNext 40 = .ok (.iconst 1, 1) := by decide +kernel
theorem dX7_readNext_41 : decode cX7_readNext 41 = .ok (.iadd, 1) := by decide +kernel
theorem dX7_readNext_42 : decode cX7_readNext 42 = .ok (.putfield 34, 3) := by decide +kernel
theorem dX7_readNext_45 : decode cX7_readNext 45 = .ok (.goto (-37), 3) := by decide +kernel
theorem dX7_readNext_48 : decode cX7_readNext 48 = .ok (.aload_n 0, 1) := by decide +kernel
theorem dX7_readNext_49 : decode cX7_readNext 49 = .ok (.getfield 14, 3) := by decide +kernel
theorem dX7_readNext_52 : decode cX7_readNext 52 = .ok (.aload_n 0, 1) := by decide +kernel
theorem dX7_readNext_53 : decode cX7_readNext 53 = .ok (.getfield 34, 3) := by decide +kernel
theorem dX7_readNext_56 : decode cX7_readNext 56 = .ok (.invokevirtual 37, 3) := by decide +kernel
theorem dX7_readNext_59 : decode cX7_readNext 59 = .ok (.invokestatic 41, 3) := by decide +kernel
theorem dX7_readNext_62 : decode cX7_readNext 62 = .ok (.istore_n 1, 1) := by decide +kernel
theorem dX7_readNext_63 : decode cX7_readNext 63 = .ok (.aload_n 0, 1) := by decide +kernel
theorem dX7_readNext_64 : decode cX7_readNext 64 = .ok (.aload_n 0, 1) := by decide +kernel
theorem dX7_readNext_65 : decode cX7_readNext 65 = .ok (.getfield 34, 3) := by decide +kernel
theorem dX7_readNext_68 : decode cX7_readNext 68 = .ok (.iconst 1, 1) := by decide +kernel
theorem dX7_readNext_69 : decode cX7_readNext 69 = .ok (.iadd, 1) := by decide +kernel
theorem dX7_readNext_70 : decode cX7_readNext 70 = .ok (.aload_n 0, 1) := by decide +kernel
theorem dX7_readNext_71 : decode cX7_readNext 71 = .ok (.getfield 20, 3) := by decide +kernel
theorem dX7_readNext_74 : decode cX7_readNext 74 = .ok (.invokestatic 44, 3) := by decide +kernel
theorem dX7_readNext_77 : decode cX7_readNext 77 = .ok (.putfield 28, 3) := by decide +kernel
theorem dX7_readNext_80 : decode cX7_readNext 80 = .ok (.iload_n 1, 1) := by decide +kernel
theorem dX7_readNext_81 : decode cX7_readNext 81 = .ok (.ifCond .eq 45, 3) := by decide +kernel
theorem dX7_readNext_84 : decode cX7_readNext 84 = .ok (.aload_n 0, 1) := by decide +kernel
theorem dX7_readNext_85 : decode cX7_readNext 85 = .ok (.getfield 28, 3) := by decide +kernel
theorem dX7_readNext_88 : decode cX7_readNext 88 = .ok (.aload_n 0, 1) := by decide +kernel
theorem dX7_readNext_89 : decode cX7_readNext 89 = .ok (.getfield 20, 3) := by decide +kernel
theorem dX7_readNext_92 : decode cX7_readNext 92 = .ok (.if_icmp .ge 34, 3) := by decide +kernel
theorem dX7_readNext_95 : decode cX7_readNext 95 = .ok (.aload_n 0, 1) := by decide +kernel
theorem dX7_readNext_96 : decode cX7_readNext 96 = .ok (.getfield 14, 3) := by decide +kernel
theorem dX7_readNext_99 : decode cX7_readNext 99 = .ok (.aload_n 0, 1) := by decide +kernel
theorem dX7_readNext_100 : decode cX7_readNext 100 = .ok (.getfield 28, 3) := by decide +kernel
theorem dX7_readNext_103 : decode cX7_readNext 103 = .ok (.invokevirtual 37, 3) := by decide +kernel
theorem dX7_readNext_106 : decode cX7_readNext 106 = .ok (.invokestatic 41, 3) := by decide +kernel
theorem dX7_readNext_109 : decode cX7_readNext 109 = .ok (.iload_n 1, 1) := by decide +kernel
theorem dX7_readNext_110 : decode cX7_readNext 110 = .ok (.if_icmp .ne 16, 3) := by decide +kernel
theorem dX7_readNext_113 : decode cX7_readNext 113 = .ok (.aload_n 0, 1) := by decide +kernel
theorem dX7_readNext_114 : decode cX7_readNext 114 = .ok (.dup, 1) := by decide +kernel
theorem dX7_readNext_115 : decode cX7_readNext 115 = .ok (.getfield 28, 3) := by decide +kernel
theorem dX7_readNext_118 : decode cX7_readNext 118 = .ok (.iconst 1, 1) := by decide +kernel
theorem dX7_readNext_119 : decode cX7_readNext 119 = .ok (.iadd, 1) := by decide +kernel
theorem dX7_readNext_120 : decode cX7_readNext 120 = .ok (.putfield 28, 3) := by decide +kernel
theorem dX7_readNext_123 : decode cX7_readNext 123 = .ok (.goto (-43), 3) := by decide +kernel
theorem dX7_readNext_126 : decode cX7_readNext 126 = .ok (.return_, 1) := by decide +kernel
def fX7_readNext_80 (o_length : Int32) (o_letters_f : Nat → Int32) (o_begin_8 : Int32)  : Nat → Int32 → Int32 × Int32
  | 0, _ => default
  | n + 1, o_end_80 => if (fX7_sortOf (fX4_at o_begin_8 o_letters_f 160)) = 0 then ((o_begin_8, o_end_80)) else (if o_length ≤ o_end_80 then ((o_begin_8, o_end_80)) else (if (fX7_sortOf (fX4_at o_end_80 o_letters_f 160)) = (fX7_sortOf (fX4_at o_begin_8 o_letters_f 160)) then (fX7_readNext_80 o_length o_letters_f o_begin_8 n (o_end_80 + 1)) else ((o_begin_8, o_end_80))))
def fX7_readNext_8 (o_length : Int32) (o_letters_f : Nat → Int32)  : Nat → Int32 → Int32 × Int32
  | 0, _ => default
  | n + 1, o_begin_8 => if o_length ≤ o_begin_8 then (fX7_readNext_80 o_length o_letters_f o_begin_8 1000 (if o_length < (o_begin_8 + 1) then o_length else (o_begin_8 + 1))) else (if (fX4_at o_begin_8 o_letters_f 160) = 32 then (fX7_readNext_8 o_length o_letters_f n (o_begin_8 + 1)) else (fX7_readNext_80 o_length o_letters_f o_begin_8 1000 (if o_length < (o_begin_8 + 1) then o_length else (o_begin_8 + 1))))
def fX7_readNext (o_length : Int32) (o_end : Int32) (o_letters_f : Nat → Int32) : Int32 × Int32 := fX7_readNext_8 o_length o_letters_f 1000 o_end
set_option maxHeartbeats 4000000 in
set_option maxRecDepth 100000 in
theorem c_X7_readNext (l : Launch) (D : va_G) (cI cZ : ClassId) (sz : Nat) (o : Nat) (o_letters : Nat) (o_length : Int32) (o_begin : Int32) (o_end : Int32) (o_letters_a : Nat) (o_letters_f : Nat → Int32) (hl0 : 0 ≤ o_length.toInt) (hl1 : o_length.toInt ≤ 160) (he0 : 0 ≤ o_end.toInt) (he1 : o_end.toInt ≤ 160) : Met l yX7_readNext wsX7_readNext ({ frames := 1, cells := 0, slots := 0, locals := 21 } : Room) (va_Pc [.ref o] (xP D cI cZ [(o, .inr (7, [.ref o_letters, .int o_length, .int o_begin, .int o_end])), (o_letters, .inr (4, [.ref o_letters_a])), (o_letters_a, .inl (cI, 160, .inl o_letters_f))] sz)) (va_Qv (fun (u : Int32 × Int32) => u = fX7_readNext o_length o_end o_letters_f) (fun (u : Int32 × Int32) t => xB D cI cZ [(o, .inr (7, [.ref o_letters, .int o_length, .int u.1, .int u.2])), (o_letters, .inr (4, [.ref o_letters_a])), (o_letters_a, .inl (cI, 160, .inl o_letters_f))] (va_A [(o, .inr (7, [.ref o_letters, .int o_length, .int o_begin, .int o_end])), (o_letters, .inr (4, [.ref o_letters_a])), (o_letters_a, .inl (cI, 160, .inl o_letters_f))] sz) t) (va_A [(o, .inr (7, [.ref o_letters, .int o_length, .int o_begin, .int o_end])), (o_letters, .inr (4, [.ref o_letters_a])), (o_letters_a, .inl (cI, 160, .inl o_letters_f))] sz)) 0 0 (va_A [(o, .inr (7, [.ref o_letters, .int o_length, .int o_begin, .int o_end])), (o_letters, .inr (4, [.ref o_letters_a])), (o_letters_a, .inl (cI, 160, .inl o_letters_f))] sz) := by
  refine Met.ofW (cc := cX7_readNext) (maxL := 2) (ret := none) (by decide) rfl ?_
  intro p e s m args below meth c s₁ B hml hv
  obtain ⟨hargs, hsz, hP, hK, hD0, hE⟩ := hv
  subst hargs
  have hx := B.exec
  have hb := B.bytes
  have hr := B.returns
  have hts := atoms_spec (ws := wsX7_readNext) B.pre
  have hown : s.vm.findClass RX7 = some m.cls := findClass_of_methodNamed B.named
  have hlocks := B.notSynchronized
  subst hsz
  have hD := hD0.self (sz := s.heap.size)
  generalize hAe : va_A [(o, .inr (7, [.ref o_letters, .int o_length, .int o_begin, .int o_end])), (o_letters, .inr (4, [.ref o_letters_a])), (o_letters_a, .inl (cI, 160, .inl o_letters_f))] s.heap.size = A at hD ⊢
  have hA : ∀ q : Nat, s.heap.size ≤ q → A q := fun q h => by rw [← hAe]; exact Or.inr h
  have hS : va_S A s.heap s.heap [] := va_S.rf
  have hl := lv_entry ([.ref o]) (n := 2) (Nat.le_of_ble_eq_true rfl)
  rw [lg_entry_eq]
  generalize (lg_sl ([.ref o]) ++ List.replicate (2 - (lg_sl ([.ref o])).length) Slot.unset).toArray = ls at hl ⊢
  have hl : lv_has ls 2 [(0, .ref o)] := hl
  refine wq (X := fun Q => ∀ (pc : Nat) (H : Heap) (locs : List Loc) (ls : Array Slot) (u : Int32 × Int32) (hd : decode cX7_readNext pc = .ok (.return_, 1)) (hp : u = fX7_readNext o_length o_end o_letters_f) (hP : va_P D vwCl [(o, .inr (7, [.ref o_letters, .int o_length, .int u.1, .int u.2])), (o_letters, .inr (4, [.ref o_letters_a])), (o_letters_a, .inl (cI, 160, .inl o_letters_f))] H) (hD : va_D A [(o, .inr (7, [.ref o_letters, .int o_length, .int u.1, .int u.2])), (o_letters, .inr (4, [.ref o_letters_a])), (o_letters_a, .inl (cI, 160, .inl o_letters_f))]) (hS : va_S A s.heap H locs), W p l e ({ frames := 1, cells := 0, slots := 0, locals := 21 } : Room) s m ([.ref o] : List Value).toArray below meth c H locs 0 0 Q (F0 m pc ls [])) ?_ (fun Q hret => ?_)
  · intro pc H locs ls u hd hp hP hD hS
    exact W.vret hx hb hr (fun t ht hW => ⟨⟨u, rfl, hp, by rw [ht]; exact hP, va_K.moved hW.alike hK, hD⟩, hS.F ht⟩) hS.2.2 hd
  have hin_7 : ∀ w ∈ u_ws RX7 TX7 4, w ∈ wsX7_readNext := by decide +kernel
  have fl_14 := hts (.fieldLink RX7 14 "MileRoad$Text" "letters" "LMileRoad$Row;") (by decide +kernel)
  have fl_20 := hts (.fieldLink RX7 20 "MileRoad$Text" "length" "I") (by decide +kernel)
  have fl_28 := hts (.fieldLink RX7 28 "MileRoad$Text" "end" "I") (by decide +kernel)
  have fl_34 := hts (.fieldLink RX7 34 "MileRoad$Text" "begin" "I") (by decide +kernel)
  have zl_0 : (0 : Int32).toInt = 0 := by decide
  have zl_1 : (1 : Int32).toInt = 1 := by decide
  have zl_32 : (32 : Int32).toInt = 32 := by decide
  have hF : fX7_readNext o_length o_end o_letters_f = fX7_readNext o_length o_end o_letters_f := rfl
  have L_8 : ∀ (n : Nat) (o_begin_8 : Int32) (h1_8 : 0 ≤ o_begin_8.toInt) (h2_8 : o_begin_8.toInt ≤ 160) (hm : 160 - o_begin_8.toInt < (n : Int)) (H : Heap) (locs : List Loc) (ls : Array Slot) (hl : lv_has ls 2 [(0, .ref o)]) (hP : va_P D vwCl [(o, .inr (7, [.ref o_letters, .int o_length, .int o_begin_8, .int o_end])), (o_letters, .inr (4, [.ref o_letters_a])), (o_letters_a, .inl (cI, 160, .inl o_letters_f))] H) (hD : va_D A [(o, .inr (7, [.ref o_letters, .int o_length, .int o_begin_8, .int o_end])), (o_letters, .inr (4, [.ref o_letters_a])), (o_letters_a, .inl (cI, 160, .inl o_letters_f))]) (hS : va_S A s.heap H locs) (hF : fX7_readNext o_length o_end o_letters_f = fX7_readNext_8 o_length o_letters_f n o_begin_8), W p l e ({ frames := 1, cells := 0, slots := 0, locals := 21 } : Room) s m ([.ref o] : List Value).toArray below meth c H locs 0 0 Q (F0 m 8 ls []) := by
    intro n
    induction n with
    | zero =>
      intro o_begin_8 h1_8 h2_8 hm H locs ls hl hP hD hS hF
      exact absurd hm (by omega)
    | succ n ih_8 =>
      intro o_begin_8 h1_8 h2_8 hm H locs ls hl hP hD hS hF
      have L_80 : ∀ (n : Nat) (o_end_80 : Int32) (h1_80 : 0 ≤ o_end_80.toInt) (h2_80 : o_end_80.toInt ≤ 160) (hm : 160 - o_end_80.toInt < (n : Int)) (H : Heap) (locs : List Loc) (ls : Array Slot) (hl : lv_has ls 2 [(0, .ref o), (1, .int (fX7_sortOf (fX4_at o_begin_8 o_letters_f 160)))]) (hP : va_P D vwCl [(o, .inr (7, [.ref o_letters, .int o_length, .int o_begin_8, .int o_end_80])), (o_letters, .inr (4, [.ref o_letters_a])), (o_letters_a, .inl (cI, 160, .inl o_letters_f))] H) (hD : va_D A [(o, .inr (7, [.ref o_letters, .int o_length, .int o_begin_8, .int o_end_80])), (o_letters, .inr (4, [.ref o_letters_a])), (o_letters_a, .inl (cI, 160, .inl o_letters_f))]) (hS : va_S A s.heap H locs) (hF : fX7_readNext o_length o_end o_letters_f = fX7_readNext_80 o_length o_letters_f o_begin_8 n o_end_80), W p l e ({ frames := 1, cells := 0, slots := 0, locals := 21 } : Room) s m ([.ref o] : List Value).toArray below meth c H locs 0 0 Q (F0 m 80 ls []) := by
        intro n
        induction n with
        | zero =>
          intro o_end_80 h1_80 h2_80 hm H locs ls hl hP hD hS hF
          exact absurd hm (by omega)
        | succ n ih_80 =>
          intro o_end_80 h1_80 h2_80 hm H locs ls hl hP hD hS hF
          refine lv_iload_n hx hb dX7_readNext_80 rfl (lv_at hl 1 rfl) ?_
          refine lv_if_eq (tgt := 126) hx hb dX7_readNext_81 (by decide) (fun c_3 => ?_) (fun c_3 => ?_)
          · have kc_3 := t_eq c_3
            exact hret _ _ _ _ (o_begin_8, o_end_80) dX7_readNext_126 ((hF.trans (by simp only [fX7_readNext_80, xlet, if_pos c_3])).symm) hP hD hS
          · have kc_3 := t_neq c_3
            refine lv_aload_n hx hb dX7_readNext_84 rfl (lv_at hl 0 rfl) ?_
            refine xget hx hb hts hown hK 7 (C2 := RX7) (T := TX7) (N := 4) rfl hin_7 hP 0 rfl 3 (by decide) fl_28 rfl rfl rfl dX7_readNext_85 ?_
            refine lv_aload_n hx hb dX7_readNext_88 rfl (lv_at hl 0 rfl) ?_
            refine xget hx hb hts hown hK 7 (C2 := RX7) (T := TX7) (N := 4) rfl hin_7 hP 0 rfl 1 (by decide) fl_20 rfl rfl rfl dX7_readNext_89 ?_
            refine lv_icmp_ge (tgt := 126) hx hb dX7_readNext_92 (by decide) (fun c_4 => ?_) (fun c_4 => ?_)
            · have kc_4 := t_le c_4
              exact hret _ _ _ _ (o_begin_8, o_end_80) dX7_readNext_126 ((hF.trans (by simp only [fX7_readNext_80, xlet, if_neg c_3, if_pos c_4])).symm) hP hD hS
            · have kc_4 := t_nle c_4
              refine lv_aload_n hx hb dX7_readNext_95 rfl (lv_at hl 0 rfl) ?_
              refine xget hx hb hts hown hK 7 (C2 := RX7) (T := TX7) (N := 4) rfl hin_7 hP 0 rfl 0 (by decide) fl_14 rfl rfl rfl dX7_readNext_96 ?_
              refine lv_aload_n hx hb dX7_readNext_99 rfl (lv_at hl 0 rfl) ?_
              refine xget hx hb hts hown hK 7 (C2 := RX7) (T := TX7) (N := 4) rfl hin_7 hP 0 rfl 3 (by decide) fl_28 rfl rfl rfl dX7_readNext_100 ?_
              refine xcalli (S := Unit) (Wc := [(o_letters, .inr (4, [.ref o_letters_a])), (o_letters_a, .inl (cI, 160, .inl o_letters_f))]) (wr := [(o, .inr (7, [.ref o_letters, .int o_length, .int o_begin_8, .int o_end_80]))]) (W1 := (fun (u : Unit) => [(o_letters, .inr (4, [.ref o_letters_a])), (o_letters_a, .inl (cI, 160, .inl o_letters_f))])) (Wn := (fun (u : Unit) => [(o, .inr (7, [.ref o_letters, .int o_length, .int o_begin_8, .int o_end_80])), (o_letters, .inr (4, [.ref o_letters_a])), (o_letters_a, .inl (cI, 160, .inl o_letters_f))])) (xrunV hx hb hml hown hts (c_X4_at l D cI cZ _ o_letters o_end_80 o_letters_a o_letters_f 160 (by decide)) (cwV 1 hts gX7_readNext_X4_at rfl rfl rfl (by decide +kernel) ⟨Nat.le_of_ble_eq_true rfl, Nat.le_of_ble_eq_true rfl⟩) hE hK hP hD [1, 2] rfl rfl 0 4 (T := TX4) (N := 1) rfl rfl rfl hl.1 rfl (Nat.le_of_ble_eq_true rfl) dX7_readNext_103 ⟨Nat.le_of_ble_eq_true rfl, Nat.le_of_ble_eq_true rfl⟩) hP hD hS hA [1, 2] [0] [0, 1, 2] rfl rfl rfl (by decide) (fun _ => rfl) rfl (fun r6 u H locs hw hz hP hD hS => ?_)
              subst hw
              refine xcalli (S := Unit) (Wc := []) (wr := [(o, .inr (7, [.ref o_letters, .int o_length, .int o_begin_8, .int o_end_80])), (o_letters, .inr (4, [.ref o_letters_a])), (o_letters_a, .inl (cI, 160, .inl o_letters_f))]) (W1 := (fun (u : Unit) => [])) (Wn := (fun (u : Unit) => [(o, .inr (7, [.ref o_letters, .int o_length, .int o_begin_8, .int o_end_80])), (o_letters, .inr (4, [.ref o_letters_a])), (o_letters_a, .inl (cI, 160, .inl o_letters_f))])) (xrunS hx hb hml hown hts (c_X7_sortOf l D cI cZ _ (fX4_at o_end_80 o_letters_f 160) ) (va_cwS 1 hts gX7_readNext_X7_sortOf rfl rfl rfl (by decide +kernel) ⟨Nat.le_of_ble_eq_true rfl, Nat.le_of_ble_eq_true rfl⟩) hE hK hP hD [] rfl rfl rfl hl.1 rfl (Nat.le_of_ble_eq_true rfl) dX7_readNext_106 ⟨Nat.le_of_ble_eq_true rfl, Nat.le_of_ble_eq_true rfl⟩) hP hD hS hA [] [0, 1, 2] [0, 1, 2] rfl rfl rfl (by decide) (fun _ => rfl) rfl (fun r7 u H locs hw hz hP hD hS => ?_)
              subst hw
              refine lv_iload_n hx hb dX7_readNext_109 rfl (lv_at hl 1 rfl) ?_
              refine lv_icmp_ne (tgt := 126) hx hb dX7_readNext_110 (by decide) (fun c_5 => ?_) (fun c_5 => ?_)
              · have kc_5 := t_neq c_5
                exact hret _ _ _ _ (o_begin_8, o_end_80) dX7_readNext_126 ((hF.trans (by simp only [fX7_readNext_80, xlet, if_neg c_3, if_neg c_4, if_neg c_5])).symm) hP hD hS
              · have kc_5 := t_eq c_5
                refine lv_aload_n hx hb dX7_readNext_113 rfl (lv_at hl 0 rfl) ?_
                refine lv_dup hx hb dX7_readNext_114 rfl ?_
                refine xget hx hb hts hown hK 7 (C2 := RX7) (T := TX7) (N := 4) rfl hin_7 hP 0 rfl 3 (by decide) fl_28 rfl rfl rfl dX7_readNext_115 ?_
                refine lv_iconst (v := 1) hx hb dX7_readNext_118 (by decide) ?_
                refine lv_iadd hx hb dX7_readNext_119 ?_
                refine xput hx hb hts hown hK 7 (C2 := RX7) (T := TX7) (N := 4) tyX7 rfl tyX7_ok nmX7 hin_7 hP hD hS 0 rfl 3 (by decide) fl_28 rfl rfl rfl rfl rfl (Nat.le_of_ble_eq_true rfl) dX7_readNext_120 [(o, .inr (7, [.ref o_letters, .int o_length, .int o_begin_8, .int (o_end_80 + 1)])), (o_letters, .inr (4, [.ref o_letters_a])), (o_letters_a, .inl (cI, 160, .inl o_letters_f))] rfl (fun H locs hP hD hS => ?_)
                refine lv_goto (tgt := 80) hx hb dX7_readNext_123 (by decide) ?_
                have z_4 : (o_end_80 + 1).toInt = o_end_80.toInt + (1 : Int32).toInt := z_add (by omega) (by omega)
                exact ih_80 (o_end_80 + 1) (by first | assumption | omega | decide | (split <;> rename_i hh <;> first | (have h9 := t_nlt hh; omega) | (have h9 := t_lt hh; omega) | (have h9 := t_nle hh; omega) | (have h9 := t_le hh; omega))) (by first | assumption | omega | decide | (split <;> rename_i hh <;> first | (have h9 := t_nlt hh; omega) | (have h9 := t_lt hh; omega) | (have h9 := t_nle hh; omega) | (have h9 := t_le hh; omega))) (by first | assumption | omega | decide | (split <;> rename_i hh <;> first | (have h9 := t_nlt hh; omega) | (have h9 := t_lt hh; omega) | (have h9 := t_nle hh; omega) | (have h9 := t_le hh; omega))) _ _ _ (lv_sub hl [0, 1] rfl) hP hD hS (hF.trans (by simp only [fX7_readNext_80, xlet, if_neg c_3, if_neg c_4, if_pos c_5]))
      refine lv_aload_n hx hb dX7_readNext_8 rfl (lv_at hl 0 rfl) ?_
      refine xget hx hb hts hown hK 7 (C2 := RX7) (T := TX7) (N := 4) rfl hin_7 hP 0 rfl 2 (by decide) fl_34 rfl rfl rfl dX7_readNext_9 ?_
      refine lv_aload_n hx hb dX7_readNext_12 rfl (lv_at hl 0 rfl) ?_
      refine xget hx hb hts hown hK 7 (C2 := RX7) (T := TX7) (N := 4) rfl hin_7 hP 0 rfl 1 (by decide) fl_20 rfl rfl rfl dX7_readNext_13 ?_
      refine lv_icmp_ge (tgt := 48) hx hb dX7_readNext_16 (by decide) (fun c_1 => ?_) (fun c_1 => ?_)
      · have kc_1 := t_le c_1
        refine lv_aload_n hx hb dX7_readNext_48 rfl (lv_at hl 0 rfl) ?_
        refine xget hx hb hts hown hK 7 (C2 := RX7) (T := TX7) (N := 4) rfl hin_7 hP 0 rfl 0 (by decide) fl_14 rfl rfl rfl dX7_readNext_49 ?_
        refine lv_aload_n hx hb dX7_readNext_52 rfl (lv_at hl 0 rfl) ?_
        refine xget hx hb hts hown hK 7 (C2 := RX7) (T := TX7) (N := 4) rfl hin_7 hP 0 rfl 2 (by decide) fl_34 rfl rfl rfl dX7_readNext_53 ?_
        refine xcalli (S := Unit) (Wc := [(o_letters, .inr (4, [.ref o_letters_a])), (o_letters_a, .inl (cI, 160, .inl o_letters_f))]) (wr := [(o, .inr (7, [.ref o_letters, .int o_length, .int o_begin_8, .int o_end]))]) (W1 := (fun (u : Unit) => [(o_letters, .inr (4, [.ref o_letters_a])), (o_letters_a, .inl (cI, 160, .inl o_letters_f))])) (Wn := (fun (u : Unit) => [(o, .inr (7, [.ref o_letters, .int o_length, .int o_begin_8, .int o_end])), (o_letters, .inr (4, [.ref o_letters_a])), (o_letters_a, .inl (cI, 160, .inl o_letters_f))])) (xrunV hx hb hml hown hts (c_X4_at l D cI cZ _ o_letters o_begin_8 o_letters_a o_letters_f 160 (by decide)) (cwV 1 hts gX7_readNext_X4_at rfl rfl rfl (by decide +kernel) ⟨Nat.le_of_ble_eq_true rfl, Nat.le_of_ble_eq_true rfl⟩) hE hK hP hD [1, 2] rfl rfl 0 4 (T := TX4) (N := 1) rfl rfl rfl hl.1 rfl (Nat.le_of_ble_eq_true rfl) dX7_readNext_56 ⟨Nat.le_of_ble_eq_true rfl, Nat.le_of_ble_eq_true rfl⟩) hP hD hS hA [1, 2] [0] [0, 1, 2] rfl rfl rfl (by decide) (fun _ => rfl) rfl (fun r1 u H locs hw hz hP hD hS => ?_)
        subst hw
        refine xcalli (S := Unit) (Wc := []) (wr := [(o, .inr (7, [.ref o_letters, .int o_length, .int o_begin_8, .int o_end])), (o_letters, .inr (4, [.ref o_letters_a])), (o_letters_a, .inl (cI, 160, .inl o_letters_f))]) (W1 := (fun (u : Unit) => [])) (Wn := (fun (u : Unit) => [(o, .inr (7, [.ref o_letters, .int o_length, .int o_begin_8, .int o_end])), (o_letters, .inr (4, [.ref o_letters_a])), (o_letters_a, .inl (cI, 160, .inl o_letters_f))])) (xrunS hx hb hml hown hts (c_X7_sortOf l D cI cZ _ (fX4_at o_begin_8 o_letters_f 160) ) (va_cwS 1 hts gX7_readNext_X7_sortOf rfl rfl rfl (by decide +kernel) ⟨Nat.le_of_ble_eq_true rfl, Nat.le_of_ble_eq_true rfl⟩) hE hK hP hD [] rfl rfl rfl hl.1 rfl (Nat.le_of_ble_eq_true rfl) dX7_readNext_59 ⟨Nat.le_of_ble_eq_true rfl, Nat.le_of_ble_eq_true rfl⟩) hP hD hS hA [] [0, 1, 2] [0, 1, 2] rfl rfl rfl (by decide) (fun _ => rfl) rfl (fun r2 u H locs hw hz hP hD hS => ?_)
        subst hw
        refine lv_istore_n (lv' := [(1, .int (fX7_sortOf (fX4_at o_begin_8 o_letters_f 160))), (0, .ref o)]) hx hb dX7_readNext_62 rfl hl (by decide) rfl (fun ls hl => ?_)
        refine lv_aload_n hx hb dX7_readNext_63 rfl (lv_at hl 1 rfl) ?_
        refine lv_aload_n hx hb dX7_readNext_64 rfl (lv_at hl 1 rfl) ?_
        refine xget hx hb hts hown hK 7 (C2 := RX7) (T := TX7) (N := 4) rfl hin_7 hP 0 rfl 2 (by decide) fl_34 rfl rfl rfl dX7_readNext_65 ?_
        refine lv_iconst (v := 1) hx hb dX7_readNext_68 (by decide) ?_
        refine lv_iadd hx hb dX7_readNext_69 ?_
        refine lv_aload_n hx hb dX7_readNext_70 rfl (lv_at hl 1 rfl) ?_
        refine xget hx hb hts hown hK 7 (C2 := RX7) (T := TX7) (N := 4) rfl hin_7 hP 0 rfl 1 (by decide) fl_20 rfl rfl rfl dX7_readNext_71 ?_
        refine va_mmin hx hb (hml.trans hl.1.symm) hown (hts (.methodLink RX7 44 Lib.Math.min.name) (by decide +kernel)) (hts (.static Lib.Math.min.name) (by decide +kernel)) (hts (.initialized "java/lang/Math") (by decide +kernel)) (hts (.code Lib.Math.min.name Lib.Math.min.code 2 (some .int)) (by decide +kernel)) (Nat.le_of_ble_eq_true rfl) (Nat.le_of_ble_eq_true rfl) (Nat.zero_le _) (Nat.zero_le _) dX7_readNext_74 ?_
        refine xput hx hb hts hown hK 7 (C2 := RX7) (T := TX7) (N := 4) tyX7 rfl tyX7_ok nmX7 hin_7 hP hD hS 0 rfl 3 (by decide) fl_28 rfl rfl rfl rfl rfl (Nat.le_of_ble_eq_true rfl) dX7_readNext_77 [(o, .inr (7, [.ref o_letters, .int o_length, .int o_begin_8, .int (if o_length < (o_begin_8 + 1) then o_length else (o_begin_8 + 1))])), (o_letters, .inr (4, [.ref o_letters_a])), (o_letters_a, .inl (cI, 160, .inl o_letters_f))] rfl (fun H locs hP hD hS => ?_)
        have z_1 : (o_begin_8 + 1).toInt = o_begin_8.toInt + (1 : Int32).toInt := z_add (by omega) (by omega)
        exact L_80 1000 (if o_length < (o_begin_8 + 1) then o_length else (o_begin_8 + 1)) (by first | assumption | omega | decide | (split <;> rename_i hh <;> first | (have h9 := t_nlt hh; omega) | (have h9 := t_lt hh; omega) | (have h9 := t_nle hh; omega) | (have h9 := t_le hh; omega))) (by first | assumption | omega | decide | (split <;> rename_i hh <;> first | (have h9 := t_nlt hh; omega) | (have h9 := t_lt hh; omega) | (have h9 := t_nle hh; omega) | (have h9 := t_le hh; omega))) (by first | assumption | omega | decide | (split <;> rename_i hh <;> first | (have h9 := t_nlt hh; omega) | (have h9 := t_lt hh; omega) | (have h9 := t_nle hh; omega) | (have h9 := t_le hh; omega))) _ _ _ (lv_sub hl [1, 0] rfl) hP hD hS (hF.trans (by simp only [fX7_readNext_8, xlet, if_pos c_1]))
      · have kc_1 := t_nle c_1
        refine lv_aload_n hx hb dX7_readNext_19 rfl (lv_at hl 0 rfl) ?_
        refine xget hx hb hts hown hK 7 (C2 := RX7) (T := TX7) (N := 4) rfl hin_7 hP 0 rfl 0 (by decide) fl_14 rfl rfl rfl dX7_readNext_20 ?_
        refine lv_aload_n hx hb dX7_readNext_23 rfl (lv_at hl 0 rfl) ?_
        refine xget hx hb hts hown hK 7 (C2 := RX7) (T := TX7) (N := 4) rfl hin_7 hP 0 rfl 2 (by decide) fl_34 rfl rfl rfl dX7_readNext_24 ?_
        refine xcalli (S := Unit) (Wc := [(o_letters, .inr (4, [.ref o_letters_a])), (o_letters_a, .inl (cI, 160, .inl o_letters_f))]) (wr := [(o, .inr (7, [.ref o_letters, .int o_length, .int o_begin_8, .int o_end]))]) (W1 := (fun (u : Unit) => [(o_letters, .inr (4, [.ref o_letters_a])), (o_letters_a, .inl (cI, 160, .inl o_letters_f))])) (Wn := (fun (u : Unit) => [(o, .inr (7, [.ref o_letters, .int o_length, .int o_begin_8, .int o_end])), (o_letters, .inr (4, [.ref o_letters_a])), (o_letters_a, .inl (cI, 160, .inl o_letters_f))])) (xrunV hx hb hml hown hts (c_X4_at l D cI cZ _ o_letters o_begin_8 o_letters_a o_letters_f 160 (by decide)) (cwV 1 hts gX7_readNext_X4_at rfl rfl rfl (by decide +kernel) ⟨Nat.le_of_ble_eq_true rfl, Nat.le_of_ble_eq_true rfl⟩) hE hK hP hD [1, 2] rfl rfl 0 4 (T := TX4) (N := 1) rfl rfl rfl hl.1 rfl (Nat.le_of_ble_eq_true rfl) dX7_readNext_27 ⟨Nat.le_of_ble_eq_true rfl, Nat.le_of_ble_eq_true rfl⟩) hP hD hS hA [1, 2] [0] [0, 1, 2] rfl rfl rfl (by decide) (fun _ => rfl) rfl (fun r3 u H locs hw hz hP hD hS => ?_)
        subst hw
        refine lv_bipush (v := 32) hx hb dX7_readNext_30 (by decide) ?_
        refine lv_icmp_ne (tgt := 48) hx hb dX7_readNext_32 (by decide) (fun c_2 => ?_) (fun c_2 => ?_)
        · have kc_2 := t_neq c_2
          refine lv_aload_n hx hb dX7_readNext_48 rfl (lv_at hl 0 rfl) ?_
          refine xget hx hb hts hown hK 7 (C2 := RX7) (T := TX7) (N := 4) rfl hin_7 hP 0 rfl 0 (by decide) fl_14 rfl rfl rfl dX7_readNext_49 ?_
          refine lv_aload_n hx hb dX7_readNext_52 rfl (lv_at hl 0 rfl) ?_
          refine xget hx hb hts hown hK 7 (C2 := RX7) (T := TX7) (N := 4) rfl hin_7 hP 0 rfl 2 (by decide) fl_34 rfl rfl rfl dX7_readNext_53 ?_
          refine xcalli (S := Unit) (Wc := [(o_letters, .inr (4, [.ref o_letters_a])), (o_letters_a, .inl (cI, 160, .inl o_letters_f))]) (wr := [(o, .inr (7, [.ref o_letters, .int o_length, .int o_begin_8, .int o_end]))]) (W1 := (fun (u : Unit) => [(o_letters, .inr (4, [.ref o_letters_a])), (o_letters_a, .inl (cI, 160, .inl o_letters_f))])) (Wn := (fun (u : Unit) => [(o, .inr (7, [.ref o_letters, .int o_length, .int o_begin_8, .int o_end])), (o_letters, .inr (4, [.ref o_letters_a])), (o_letters_a, .inl (cI, 160, .inl o_letters_f))])) (xrunV hx hb hml hown hts (c_X4_at l D cI cZ _ o_letters o_begin_8 o_letters_a o_letters_f 160 (by decide)) (cwV 1 hts gX7_readNext_X4_at rfl rfl rfl (by decide +kernel) ⟨Nat.le_of_ble_eq_true rfl, Nat.le_of_ble_eq_true rfl⟩) hE hK hP hD [1, 2] rfl rfl 0 4 (T := TX4) (N := 1) rfl rfl rfl hl.1 rfl (Nat.le_of_ble_eq_true rfl) dX7_readNext_56 ⟨Nat.le_of_ble_eq_true rfl, Nat.le_of_ble_eq_true rfl⟩) hP hD hS hA [1, 2] [0] [0, 1, 2] rfl rfl rfl (by decide) (fun _ => rfl) rfl (fun r4 u H locs hw hz hP hD hS => ?_)
          subst hw
          refine xcalli (S := Unit) (Wc := []) (wr := [(o, .inr (7, [.ref o_letters, .int o_length, .int o_begin_8, .int o_end])), (o_letters, .inr (4, [.ref o_letters_a])), (o_letters_a, .inl (cI, 160, .inl o_letters_f))]) (W1 := (fun (u : Unit) => [])) (Wn := (fun (u : Unit) => [(o, .inr (7, [.ref o_letters, .int o_length, .int o_begin_8, .int o_end])), (o_letters, .inr (4, [.ref o_letters_a])), (o_letters_a, .inl (cI, 160, .inl o_letters_f))])) (xrunS hx hb hml hown hts (c_X7_sortOf l D cI cZ _ (fX4_at o_begin_8 o_letters_f 160) ) (va_cwS 1 hts gX7_readNext_X7_sortOf rfl rfl rfl (by decide +kernel) ⟨Nat.le_of_ble_eq_true rfl, Nat.le_of_ble_eq_true rfl⟩) hE hK hP hD [] rfl rfl rfl hl.1 rfl (Nat.le_of_ble_eq_true rfl) dX7_readNext_59 ⟨Nat.le_of_ble_eq_true rfl, Nat.le_of_ble_eq_true rfl⟩) hP hD hS hA [] [0, 1, 2] [0, 1, 2] rfl rfl rfl (by decide) (fun _ => rfl) rfl (fun r5 u H locs hw hz hP hD hS => ?_)
          subst hw
          refine lv_istore_n (lv' := [(1, .int (fX7_sortOf (fX4_at o_begin_8 o_letters_f 160))), (0, .ref o)]) hx hb dX7_readNext_62 rfl hl (by decide) rfl (fun ls hl => ?_)
          refine lv_aload_n hx hb dX7_readNext_63 rfl (lv_at hl 1 rfl) ?_
          refine lv_aload_n hx hb dX7_readNext_64 rfl (lv_at hl 1 rfl) ?_
          refine xget hx hb hts hown hK 7 (C2 := RX7) (T := TX7) (N := 4) rfl hin_7 hP 0 rfl 2 (by decide) fl_34 rfl rfl rfl dX7_readNext_65 ?_
          refine lv_iconst (v := 1) hx hb dX7_readNext_68 (by decide) ?_
          refine lv_iadd hx hb dX7_readNext_69 ?_
          refine lv_aload_n hx hb dX7_readNext_70 rfl (lv_at hl 1 rfl) ?_
          refine xget hx hb hts hown hK 7 (C2 := RX7) (T := TX7) (N := 4) rfl hin_7 hP 0 rfl 1 (by decide) fl_20 rfl rfl rfl dX7_readNext_71 ?_
          refine va_mmin hx hb (hml.trans hl.1.symm) hown (hts (.methodLink RX7 44 Lib.Math.min.name) (by decide +kernel)) (hts (.static Lib.Math.min.name) (by decide +kernel)) (hts (.initialized "java/lang/Math") (by decide +kernel)) (hts (.code Lib.Math.min.name Lib.Math.min.code 2 (some .int)) (by decide +kernel)) (Nat.le_of_ble_eq_true rfl) (Nat.le_of_ble_eq_true rfl) (Nat.zero_le _) (Nat.zero_le _) dX7_readNext_74 ?_
          refine xput hx hb hts hown hK 7 (C2 := RX7) (T := TX7) (N := 4) tyX7 rfl tyX7_ok nmX7 hin_7 hP hD hS 0 rfl 3 (by decide) fl_28 rfl rfl rfl rfl rfl (Nat.le_of_ble_eq_true rfl) dX7_readNext_77 [(o, .inr (7, [.ref o_letters, .int o_length, .int o_begin_8, .int (if o_length < (o_begin_8 + 1) then o_length else (o_begin_8 + 1))])), (o_letters, .inr (4, [.ref o_letters_a])), (o_letters_a, .inl (cI, 160, .inl o_letters_f))] rfl (fun H locs hP hD hS => ?_)
          have z_2 : (o_begin_8 + 1).toInt = o_begin_8.toInt + (1 : Int32).toInt := z_add (by omega) (by omega)
          exact L_80 1000 (if o_length < (o_begin_8 + 1) then o_length else (o_begin_8 + 1)) (by first | assumption | omega | decide | (split <;> rename_i hh <;> first | (have h9 := t_nlt hh; omega) | (have h9 := t_lt hh; omega) | (have h9 := t_nle hh; omega) | (have h9 := t_le hh; omega))) (by first | assumption | omega | decide | (split <;> rename_i hh <;> first | (have h9 := t_nlt hh; omega) | (have h9 := t_lt hh; omega) | (have h9 := t_nle hh; omega) | (have h9 := t_le hh; omega))) (by first | assumption | omega | decide | (split <;> rename_i hh <;> first | (have h9 := t_nlt hh; omega) | (have h9 := t_lt hh; omega) | (have h9 := t_nle hh; omega) | (have h9 := t_le hh; omega))) _ _ _ (lv_sub hl [1, 0] rfl) hP hD hS (hF.trans (by simp only [fX7_readNext_8, xlet, if_neg c_1, if_neg c_2]))
        · have kc_2 := t_eq c_2
          refine lv_aload_n hx hb dX7_readNext_35 rfl (lv_at hl 0 rfl) ?_
          refine lv_dup hx hb dX7_readNext_36 rfl ?_
          refine xget hx hb hts hown hK 7 (C2 := RX7) (T := TX7) (N := 4) rfl hin_7 hP 0 rfl 2 (by decide) fl_34 rfl rfl rfl dX7_readNext_37 ?_
          refine lv_iconst (v := 1) hx hb dX7_readNext_40 (by decide) ?_
          refine lv_iadd hx hb dX7_readNext_41 ?_
          refine xput hx hb hts hown hK 7 (C2 := RX7) (T := TX7) (N := 4) tyX7 rfl tyX7_ok nmX7 hin_7 hP hD hS 0 rfl 2 (by decide) fl_34 rfl rfl rfl rfl rfl (Nat.le_of_ble_eq_true rfl) dX7_readNext_42 [(o, .inr (7, [.ref o_letters, .int o_length, .int (o_begin_8 + 1), .int o_end])), (o_letters, .inr (4, [.ref o_letters_a])), (o_letters_a, .inl (cI, 160, .inl o_letters_f))] rfl (fun H locs hP hD hS => ?_)
          refine lv_goto (tgt := 8) hx hb dX7_readNext_45 (by decide) ?_
          have z_3 : (o_begin_8 + 1).toInt = o_begin_8.toInt + (1 : Int32).toInt := z_add (by omega) (by omega)
          exact ih_8 (o_begin_8 + 1) (by first | assumption | omega | decide | (split <;> rename_i hh <;> first | (have h9 := t_nlt hh; omega) | (have h9 := t_lt hh; omega) | (have h9 := t_nle hh; omega) | (have h9 := t_le hh; omega))) (by first | assumption | omega | decide | (split <;> rename_i hh <;> first | (have h9 := t_nlt hh; omega) | (have h9 := t_lt hh; omega) | (have h9 := t_nle hh; omega) | (have h9 := t_le hh; omega))) (by first | assumption | omega | decide | (split <;> rename_i hh <;> first | (have h9 := t_nlt hh; omega) | (have h9 := t_lt hh; omega) | (have h9 := t_nle hh; omega) | (have h9 := t_le hh; omega))) _ _ _ (lv_sub hl [0] rfl) hP hD hS (hF.trans (by simp only [fX7_readNext_8, xlet, if_neg c_1, if_pos c_2]))
  refine lv_aload_n hx hb dX7_readNext_0 rfl (lv_at hl 0 rfl) ?_
  refine lv_aload_n hx hb dX7_readNext_1 rfl (lv_at hl 0 rfl) ?_
  refine xget hx hb hts hown hK 7 (C2 := RX7) (T := TX7) (N := 4) rfl hin_7 hP 0 rfl 3 (by decide) fl_28 rfl rfl rfl dX7_readNext_2 ?_
  refine xput hx hb hts hown hK 7 (C2 := RX7) (T := TX7) (N := 4) tyX7 rfl tyX7_ok nmX7 hin_7 hP hD hS 0 rfl 2 (by decide) fl_34 rfl rfl rfl rfl rfl (Nat.le_of_ble_eq_true rfl) dX7_readNext_5 [(o, .inr (7, [.ref o_letters, .int o_length, .int o_end, .int o_end])), (o_letters, .inr (4, [.ref o_letters_a])), (o_letters_a, .inl (cI, 160, .inl o_letters_f))] rfl (fun H locs hP hD hS => ?_)
  exact L_8 1000 o_end (by first | assumption | omega | decide | (split <;> rename_i hh <;> first | (have h9 := t_nlt hh; omega) | (have h9 := t_lt hh; omega) | (have h9 := t_nle hh; omega) | (have h9 := t_le hh; omega))) (by first | assumption | omega | decide | (split <;> rename_i hh <;> first | (have h9 := t_nlt hh; omega) | (have h9 := t_lt hh; omega) | (have h9 := t_nle hh; omega) | (have h9 := t_le hh; omega))) (by first | assumption | omega | decide | (split <;> rename_i hh <;> first | (have h9 := t_nlt hh; omega) | (have h9 := t_lt hh; omega) | (have h9 := t_nle hh; omega) | (have h9 := t_le hh; omega))) _ _ _ (lv_sub hl [0] rfl) hP hD hS (hF.trans (by simp only [fX7_readNext, xlet]))
set_option maxRecDepth 20000 in
theorem ggX7_readFirst_X7_readNext : GoodIn wsX7_readFirst wsX7_readNext := goodIn_r _ [6, 1, 7, 8, 9, 10, 11, 12, 13, 14, 15, 16, 17, 18, 19, 20, 21, 5, 22, 23, 24, 25, 26, 27] (by decide +kernel) (by decide +kernel)
set_option maxRecDepth 20000 in
theorem gX7_readFirst_X7_readNext : GoodIn wsX7_readFirst (wsV RX7 31 RX7 yX7_readNext wsX7_readNext) := goodIn_app (goodIn_of _ (by decide +kernel)) ggX7_readFirst_X7_readNext
theorem dX7_readFirst_0 : decode cX7_readFirst 0 = .ok (.aload_n 0, 1) := by decide +kernel
theorem dX7_readFirst_1 : decode cX7_readFirst 1 = .ok (.iconst 0, 1) := by decide +kernel
theorem dX7_readFirst_2 : decode cX7_readFirst 2 = .ok (.putfield 28, 3) := by decide +kernel
theorem dX7_readFirst_5 : decode cX7_readFirst 5 = .ok (.aload_n 0, 1) := by decide +kernel
theorem dX7_readFirst_6 : decode cX7_readFirst 6 = .ok (.invokevirtual 31, 3) := by decide +kernel
theorem dX7_readFirst_9 : decode cX7_readFirst 9 = .ok (.return_, 1) := by decide +kernel
def fX7_readFirst (o_length : Int32) (o_letters_f : Nat → Int32) : Int32 × Int32 := match fX7_readNext o_length 0 o_letters_f with | (u1, u2) => (u1, u2)
set_option maxHeartbeats 4000000 in
set_option maxRecDepth 100000 in
theorem c_X7_readFirst (l : Launch) (D : va_G) (cI cZ : ClassId) (sz : Nat) (o : Nat) (o_letters : Nat) (o_length : Int32) (o_begin : Int32) (o_end : Int32) (o_letters_a : Nat) (o_letters_f : Nat → Int32) (hq1 : 0 ≤ o_length.toInt) (hq2 : o_length.toInt ≤ 160) : Met l yX7_readFirst wsX7_readFirst ({ frames := 2, cells := 0, slots := 0, locals := 42 } : Room) (va_Pc [.ref o] (xP D cI cZ [(o, .inr (7, [.ref o_letters, .int o_length, .int o_begin, .int o_end])), (o_letters, .inr (4, [.ref o_letters_a])), (o_letters_a, .inl (cI, 160, .inl o_letters_f))] sz)) (va_Qv (fun (u : Int32 × Int32) => u = fX7_readFirst o_length o_letters_f) (fun (u : Int32 × Int32) t => xB D cI cZ [(o, .inr (7, [.ref o_letters, .int o_length, .int u.1, .int u.2])), (o_letters, .inr (4, [.ref o_letters_a])), (o_letters_a, .inl (cI, 160, .inl o_letters_f))] (va_A [(o, .inr (7, [.ref o_letters, .int o_length, .int o_begin, .int o_end])), (o_letters, .inr (4, [.ref o_letters_a])), (o_letters_a, .inl (cI, 160, .inl o_letters_f))] sz) t) (va_A [(o, .inr (7, [.ref o_letters, .int o_length, .int o_begin, .int o_end])), (o_letters, .inr (4, [.ref o_letters_a])), (o_letters_a, .inl (cI, 160, .inl o_letters_f))] sz)) 0 0 (va_A [(o, .inr (7, [.ref o_letters, .int o_length, .int o_begin, .int o_end])), (o_letters, .inr (4, [.ref o_letters_a])), (o_letters_a, .inl (cI, 160, .inl o_letters_f))] sz) := by
  refine Met.ofW (cc := cX7_readFirst) (maxL := 1) (ret := none) (by decide) rfl ?_
  intro p e s m args below meth c s₁ B hml hv
  obtain ⟨hargs, hsz, hP, hK, hD0, hE⟩ := hv
  subst hargs
  have hx := B.exec
  have hb := B.bytes
  have hr := B.returns
  have hts := atoms_spec (ws := wsX7_readFirst) B.pre
  have hown : s.vm.findClass RX7 = some m.cls := findClass_of_methodNamed B.named
  have hlocks := B.notSynchronized
  subst hsz
  have hD := hD0.self (sz := s.heap.size)
  generalize hAe : va_A [(o, .inr (7, [.ref o_letters, .int o_length, .int o_begin, .int o_end])), (o_letters, .inr (4, [.ref o_letters_a])), (o_letters_a, .inl (cI, 160, .inl o_letters_f))] s.heap.size = A at hD ⊢
  have hA : ∀ q : Nat, s.heap.size ≤ q → A q := fun q h => by rw [← hAe]; exact Or.inr h
  have hS : va_S A s.heap s.heap [] := va_S.rf
  have hl := lv_entry ([.ref o]) (n := 1) (Nat.le_of_ble_eq_true rfl)
  rw [lg_entry_eq]
  generalize (lg_sl ([.ref o]) ++ List.replicate (1 - (lg_sl ([.ref o])).length) Slot.unset).toArray = ls at hl ⊢
  have hl : lv_has ls 1 [(0, .ref o)] := hl
  refine wq (X := fun Q => ∀ (pc : Nat) (H : Heap) (locs : List Loc) (ls : Array Slot) (u : Int32 × Int32) (hd : decode cX7_readFirst pc = .ok (.return_, 1)) (hp : u = fX7_readFirst o_length o_letters_f) (hP : va_P D vwCl [(o, .inr (7, [.ref o_letters, .int o_length, .int u.1, .int u.2])), (o_letters, .inr (4, [.ref o_letters_a])), (o_letters_a, .inl (cI, 160, .inl o_letters_f))] H) (hD : va_D A [(o, .inr (7, [.ref o_letters, .int o_length, .int u.1, .int u.2])), (o_letters, .inr (4, [.ref o_letters_a])), (o_letters_a, .inl (cI, 160, .inl o_letters_f))]) (hS : va_S A s.heap H locs), W p l e ({ frames := 2, cells := 0, slots := 0, locals := 42 } : Room) s m ([.ref o] : List Value).toArray below meth c H locs 0 0 Q (F0 m pc ls [])) ?_ (fun Q hret => ?_)
  · intro pc H locs ls u hd hp hP hD hS
    exact W.vret hx hb hr (fun t ht hW => ⟨⟨u, rfl, hp, by rw [ht]; exact hP, va_K.moved hW.alike hK, hD⟩, hS.F ht⟩) hS.2.2 hd
  have hin_7 : ∀ w ∈ u_ws RX7 TX7 4, w ∈ wsX7_readFirst := by decide +kernel
  have fl_28 := hts (.fieldLink RX7 28 "MileRoad$Text" "end" "I") (by decide +kernel)
  have hF : fX7_readFirst o_length o_letters_f = fX7_readFirst o_length o_letters_f := rfl
  refine lv_aload_n hx hb dX7_readFirst_0 rfl (lv_at hl 0 rfl) ?_
  refine lv_iconst (v := 0) hx hb dX7_readFirst_1 (by decide) ?_
  refine xput hx hb hts hown hK 7 (C2 := RX7) (T := TX7) (N := 4) tyX7 rfl tyX7_ok nmX7 hin_7 hP hD hS 0 rfl 3 (by decide) fl_28 rfl rfl rfl rfl rfl (Nat.le_of_ble_eq_true rfl) dX7_readFirst_2 [(o, .inr (7, [.ref o_letters, .int o_length, .int o_begin, .int 0])), (o_letters, .inr (4, [.ref o_letters_a])), (o_letters_a, .inl (cI, 160, .inl o_letters_f))] rfl (fun H locs hP hD hS => ?_)
  refine lv_aload_n hx hb dX7_readFirst_5 rfl (lv_at hl 0 rfl) ?_
  refine xcallv (S := Int32 × Int32) (Wc := [(o, .inr (7, [.ref o_letters, .int o_length, .int o_begin, .int 0])), (o_letters, .inr (4, [.ref o_letters_a])), (o_letters_a, .inl (cI, 160, .inl o_letters_f))]) (wr := []) (W1 := (fun (u : Int32 × Int32) => [(o, .inr (7, [.ref o_letters, .int o_length, .int u.1, .int u.2])), (o_letters, .inr (4, [.ref o_letters_a])), (o_letters_a, .inl (cI, 160, .inl o_letters_f))])) (Wn := (fun (u : Int32 × Int32) => [(o, .inr (7, [.ref o_letters, .int o_length, .int u.1, .int u.2])), (o_letters, .inr (4, [.ref o_letters_a])), (o_letters_a, .inl (cI, 160, .inl o_letters_f))])) (xrunV hx hb hml hown hts (c_X7_readNext l D cI cZ _ o o_letters o_length o_begin 0 o_letters_a o_letters_f hq1 hq2 (by decide) (by decide)) (cwV 0 hts gX7_readFirst_X7_readNext rfl rfl rfl (by decide +kernel) ⟨Nat.le_of_ble_eq_true rfl, Nat.le_of_ble_eq_true rfl⟩) hE hK hP hD [0, 1, 2] rfl rfl 0 7 (T := TX7) (N := 4) rfl rfl rfl hl.1 rfl (Nat.le_of_ble_eq_true rfl) dX7_readFirst_6 ⟨Nat.le_of_ble_eq_true rfl, Nat.le_of_ble_eq_true rfl⟩) hP hD hS hA [0, 1, 2] [] [0, 1, 2] rfl rfl rfl (by decide) (fun _ => rfl) rfl (fun  u H locs hw hz hP hD hS => ?_)
  obtain ⟨u1, u2⟩ := u
  have hw_1 := hw.symm
  have hP : va_P D vwCl [(o, .inr (7, [.ref o_letters, .int o_length, .int u1, .int u2])), (o_letters, .inr (4, [.ref o_letters_a])), (o_letters_a, .inl (cI, 160, .inl o_letters_f))] H := hP
  have hD : va_D A [(o, .inr (7, [.ref o_letters, .int o_length, .int u1, .int u2])), (o_letters, .inr (4, [.ref o_letters_a])), (o_letters_a, .inl (cI, 160, .inl o_letters_f))] := hD
  exact hret _ _ _ _ (u1, u2) dX7_readFirst_9 ((hF.trans (by simp only [fX7_readFirst, xlet, ↓hw_1])).symm) hP hD hS
set_option maxRecDepth 20000 in
theorem ggX6_counts_X4_at : GoodIn wsX6_counts wsX4_at := goodIn_r _ [6, 7, 11] (by decide +kernel) (by decide +kernel)
set_option maxRecDepth 20000 in
theorem gX6_counts_X4_at : GoodIn wsX6_counts (wsV RX6 43 RX4 yX4_at wsX4_at) := goodIn_app (goodIn_of _ (by decide +kernel)) ggX6_counts_X4_at
theorem dX6_counts_0 : decode cX6_counts 0 = .ok (.iload_n 2, 1) := by decide +kernel
theorem dX6_counts_1 : decode cX6_counts 1 = .ok (.iload_n 1, 1) := by decide +kernel
theorem dX6_counts_2 : decode cX6_counts 2 = .ok (.ishr, 1) := by decide +kernel
theorem dX6_counts_3 : decode cX6_counts 3 = .ok (.iconst 1, 1) := by decide +kernel
theorem dX6_counts_4 : decode cX6_counts 4 = .ok (.iand, 1) := by decide +kernel
theorem dX6_counts_5 : decode cX6_counts 5 = .ok (.iconst 1, 1) := by decide +kernel
theorem dX6_counts_6 : decode cX6_counts 6 = .ok (.if_icmp .ne 19, 3) := by decide +kernel
theorem dX6_counts_9 : decode cX6_counts 9 = .ok (.aload_n 0, 1) := by decide +kernel
theorem dX6_counts_10 : decode cX6_counts 10 = .ok (.getfield 14, 3) := by decide +kernel
theorem dX6_counts_13 : decode cX6_counts 13 = .ok (.iload_n 1, 1) := by decide +kernel
theorem dX6_counts_14 : decode cX6_counts 14 = .ok (.invokevirtual 43, 3) := by decide +kernel
theorem dX6_counts_17 : decode cX6_counts 17 = .ok (.iconst (-1), 1) := by decide +kernel
theorem dX6_counts_18 : decode cX6_counts 18 = .ok (.if_icmp .eq 7, 3) := by decide +kernel
theorem dX6_counts_21 : decode cX6_counts 21 = .ok (.iconst 1, 1) := by decide +kernel
theorem dX6_counts_22 : decode cX6_counts 22 = .ok (.goto 4, 3) := by decide +kernel
theorem dX6_counts_25 : decode cX6_counts 25 = .ok (.iconst 0, 1) := by decide +kernel
theorem dX6_counts_26 : decode cX6_counts 26 = .ok (.ireturn, 1) := by decide +kernel
def fX6_counts (a1 : Int32) (a2 : Int32) (o_places_f : Nat → Int32) : Int32 := xlet (if ((a2 >>> (a1 &&& 31)) &&& 1) = 1 then (if (fX4_at a1 o_places_f 6) = (-1) then (0 : Int32) else 1) else 0) (fun y_1 => y_1)
set_option maxHeartbeats 4000000 in
set_option maxRecDepth 100000 in
theorem c_X6_counts (l : Launch) (D : va_G) (cI cZ : ClassId) (sz : Nat) (o : Nat) (a1 : Int32) (a2 : Int32) (o_places : Nat) (o_walkers : Int32) (o_steps : Int32) (o_places_a : Nat) (o_places_f : Nat → Int32)  : Met l yX6_counts wsX6_counts ({ frames := 1, cells := 0, slots := 0, locals := 21 } : Room) (va_Pc [.ref o, .int a1, .int a2] (xP D cI cZ [(o, .inr (6, [.ref o_places, .int o_walkers, .int o_steps])), (o_places, .inr (4, [.ref o_places_a])), (o_places_a, .inl (cI, 6, .inl o_places_f))] sz)) (va_Qi (fun (r : Int32) (u : Unit) => r = fX6_counts a1 a2 o_places_f) (fun (u : Unit) t => xB D cI cZ [(o, .inr (6, [.ref o_places, .int o_walkers, .int o_steps])), (o_places, .inr (4, [.ref o_places_a])), (o_places_a, .inl (cI, 6, .inl o_places_f))] (va_A [(o, .inr (6, [.ref o_places, .int o_walkers, .int o_steps])), (o_places, .inr (4, [.ref o_places_a])), (o_places_a, .inl (cI, 6, .inl o_places_f))] sz) t) (va_A [(o, .inr (6, [.ref o_places, .int o_walkers, .int o_steps])), (o_places, .inr (4, [.ref o_places_a])), (o_places_a, .inl (cI, 6, .inl o_places_f))] sz)) 0 0 (va_A [(o, .inr (6, [.ref o_places, .int o_walkers, .int o_steps])), (o_places, .inr (4, [.ref o_places_a])), (o_places_a, .inl (cI, 6, .inl o_places_f))] sz) := by
  refine Met.ofW (cc := cX6_counts) (maxL := 3) (ret := (some .boolean)) (by decide) rfl ?_
  intro p e s m args below meth c s₁ B hml hv
  obtain ⟨hargs, hsz, hP, hK, hD0, hE⟩ := hv
  subst hargs
  have hx := B.exec
  have hb := B.bytes
  have hr := B.returns
  have hts := atoms_spec (ws := wsX6_counts) B.pre
  have hown : s.vm.findClass RX6 = some m.cls := findClass_of_methodNamed B.named
  have hlocks := B.notSynchronized
  subst hsz
  have hD := hD0.self (sz := s.heap.size)
  generalize hAe : va_A [(o, .inr (6, [.ref o_places, .int o_walkers, .int o_steps])), (o_places, .inr (4, [.ref o_places_a])), (o_places_a, .inl (cI, 6, .inl o_places_f))] s.heap.size = A at hD ⊢
  have hA : ∀ q : Nat, s.heap.size ≤ q → A q := fun q h => by rw [← hAe]; exact Or.inr h
  have hS : va_S A s.heap s.heap [] := va_S.rf
  have hl := lv_entry ([.ref o, .int a1, .int a2]) (n := 3) (Nat.le_of_ble_eq_true rfl)
  rw [lg_entry_eq]
  generalize (lg_sl ([.ref o, .int a1, .int a2]) ++ List.replicate (3 - (lg_sl ([.ref o, .int a1, .int a2])).length) Slot.unset).toArray = ls at hl ⊢
  have hl : lv_has ls 3 [(0, .ref o), (1, .int a1), (2, .int a2)] := hl
  refine wq (X := fun Q => ∀ (pc : Nat) (H : Heap) (locs : List Loc) (ls : Array Slot) (r : Int32) (u : Unit) (hn : narrow .boolean (.int r) = .int r) (hd : decode cX6_counts pc = .ok (.ireturn, 1)) (hp : r = fX6_counts a1 a2 o_places_f) (hP : va_P D vwCl [(o, .inr (6, [.ref o_places, .int o_walkers, .int o_steps])), (o_places, .inr (4, [.ref o_places_a])), (o_places_a, .inl (cI, 6, .inl o_places_f))] H) (hD : va_D A [(o, .inr (6, [.ref o_places, .int o_walkers, .int o_steps])), (o_places, .inr (4, [.ref o_places_a])), (o_places_a, .inl (cI, 6, .inl o_places_f))]) (hS : va_S A s.heap H locs), W p l e ({ frames := 1, cells := 0, slots := 0, locals := 21 } : Room) s m ([.ref o, .int a1, .int a2] : List Value).toArray below meth c H locs 0 0 Q (F0 m pc ls [.int r])) ?_ (fun Q hret => ?_)
  · intro pc H locs ls r u hn hd hp hP hD hS
    exact W.zret (v := r) hx hb hr hn (fun t ht hW => ⟨⟨r, u, rfl, hp, by rw [ht]; exact hP, va_K.moved hW.alike hK, hD⟩, hS.F ht⟩) hS.2.2 hd
  have hin_6 : ∀ w ∈ u_ws RX6 TX6 3, w ∈ wsX6_counts := by decide +kernel
  have fl_14 := hts (.fieldLink RX6 14 "MileRoad$Stones" "places" "LMileRoad$Row;") (by decide +kernel)
  have hF : fX6_counts a1 a2 o_places_f = fX6_counts a1 a2 o_places_f := rfl
  refine lv_iload_n hx hb dX6_counts_0 rfl (lv_at hl 2 rfl) ?_
  refine lv_iload_n hx hb dX6_counts_1 rfl (lv_at hl 1 rfl) ?_
  refine lv_ishr hx hb dX6_counts_2 ?_
  refine lv_iconst (v := 1) hx hb dX6_counts_3 (by decide) ?_
  refine lv_iand hx hb dX6_counts_4 ?_
  refine lv_iconst (v := 1) hx hb dX6_counts_5 (by decide) ?_
  have K_y_1 : ∀ (y_1 : Int32) (hy_y_1 : (if ((a2 >>> (a1 &&& 31)) &&& 1) = 1 then (if (fX4_at a1 o_places_f 6) = (-1) then (0 : Int32) else 1) else 0) = y_1) (H : Heap) (locs : List Loc) (hP : va_P D vwCl [(o, .inr (6, [.ref o_places, .int o_walkers, .int o_steps])), (o_places, .inr (4, [.ref o_places_a])), (o_places_a, .inl (cI, 6, .inl o_places_f))] H) (hD : va_D A [(o, .inr (6, [.ref o_places, .int o_walkers, .int o_steps])), (o_places, .inr (4, [.ref o_places_a])), (o_places_a, .inl (cI, 6, .inl o_places_f))]) (hS : va_S A s.heap H locs), W p l e ({ frames := 1, cells := 0, slots := 0, locals := 21 } : Room) s m ([.ref o, .int a1, .int a2] : List Value).toArray below meth c H locs 0 0 Q (F0 m 26 ls [.int y_1]) := by
    intro y_1 hy_y_1 H locs hP hD hS
    have ky_y_1 : y_1 = 0 ∨ y_1 = 1 := by rw [← hy_y_1]; (repeat' split) <;> simp
    exact hret _ _ _ _ y_1 () (by rcases ky_y_1 with h | h <;> rw [h] <;> rfl) dX6_counts_26 ((hF.trans (by simp only [fX6_counts, xlet, ↓hy_y_1])).symm) hP hD hS
  refine lv_icmp_ne (tgt := 25) hx hb dX6_counts_6 (by decide) (fun c_1 => ?_) (fun c_1 => ?_)
  · refine lv_iconst (v := 0) hx hb dX6_counts_25 (by decide) ?_
    exact K_y_1 _ (by simp only [xlet, if_neg c_1]) _ _ hP hD hS
  · refine lv_aload_n hx hb dX6_counts_9 rfl (lv_at hl 0 rfl) ?_
    refine xget hx hb hts hown hK 6 (C2 := RX6) (T := TX6) (N := 3) rfl hin_6 hP 0 rfl 0 (by decide) fl_14 rfl rfl rfl dX6_counts_10 ?_
    refine lv_iload_n hx hb dX6_counts_13 rfl (lv_at hl 1 rfl) ?_
    refine xcalli (S := Unit) (Wc := [(o_places, .inr (4, [.ref o_places_a])), (o_places_a, .inl (cI, 6, .inl o_places_f))]) (wr := [(o, .inr (6, [.ref o_places, .int o_walkers, .int o_steps]))]) (W1 := (fun (u : Unit) => [(o_places, .inr (4, [.ref o_places_a])), (o_places_a, .inl (cI, 6, .inl o_places_f))])) (Wn := (fun (u : Unit) => [(o, .inr (6, [.ref o_places, .int o_walkers, .int o_steps])), (o_places, .inr (4, [.ref o_places_a])), (o_places_a, .inl (cI, 6, .inl o_places_f))])) (xrunV hx hb hml hown hts (c_X4_at l D cI cZ _ o_places a1 o_places_a o_places_f 6 (by decide)) (cwV 1 hts gX6_counts_X4_at rfl rfl rfl (by decide +kernel) ⟨Nat.le_of_ble_eq_true rfl, Nat.le_of_ble_eq_true rfl⟩) hE hK hP hD [1, 2] rfl rfl 0 4 (T := TX4) (N := 1) rfl rfl rfl hl.1 rfl (Nat.le_of_ble_eq_true rfl) dX6_counts_14 ⟨Nat.le_of_ble_eq_true rfl, Nat.le_of_ble_eq_true rfl⟩) hP hD hS hA [1, 2] [0] [0, 1, 2] rfl rfl rfl (by decide) (fun _ => rfl) rfl (fun r1 u H locs hw hz hP hD hS => ?_)
    subst hw
    refine lv_iconst (v := (-1)) hx hb dX6_counts_17 (by decide) ?_
    refine lv_icmp_eq (tgt := 25) hx hb dX6_counts_18 (by decide) (fun c_2 => ?_) (fun c_2 => ?_)
    · refine lv_iconst (v := 0) hx hb dX6_counts_25 (by decide) ?_
      exact K_y_1 _ (by simp only [xlet, if_pos c_1, if_pos c_2]) _ _ hP hD hS
    · refine lv_iconst (v := 1) hx hb dX6_counts_21 (by decide) ?_
      refine lv_goto (tgt := 26) hx hb dX6_counts_22 (by decide) ?_
      exact K_y_1 _ (by simp only [xlet, if_pos c_1, if_neg c_2]) _ _ hP hD hS
theorem bz_X6_counts (a1 : Int32) (a2 : Int32) (o_places_f : Nat → Int32) : narrow .boolean (.int (fX6_counts a1 a2 o_places_f)) = .int (fX6_counts a1 a2 o_places_f) := by
  unfold fX6_counts; try unfold xlet
  first | rfl | ((repeat' split) <;> first | rfl)
set_option maxRecDepth 20000 in
theorem ggX6_numberOf_X6_counts : GoodIn wsX6_numberOf wsX6_counts := goodIn_r _ [6, 7, 8, 9, 10, 11, 12, 13, 14, 15, 16, 17] (by decide +kernel) (by decide +kernel)
set_option maxRecDepth 20000 in
theorem gX6_numberOf_X6_counts : GoodIn wsX6_numberOf (wsV RX6 39 RX6 yX6_counts wsX6_counts) := goodIn_app (goodIn_of _ (by decide +kernel)) ggX6_numberOf_X6_counts
theorem dX6_numberOf_0 : decode cX6_numberOf 0 = .ok (.iconst 0, 1) := by decide +kernel
theorem dX6_numberOf_1 : decode cX6_numberOf 1 = .ok (.istore_n 2, 1) := by decide +kernel
theorem dX6_numberOf_2 : decode cX6_numberOf 2 = .ok (.iconst 0, 1) := by decide +kernel
theorem dX6_numberOf_3 : decode cX6_numberOf 3 = .ok (.istore_n 3, 1) := by decide +kernel
theorem dX6_numberOf_4 : decode cX6_numberOf 4 = .ok (.iload_n 3, 1) := by decide +kernel
theorem dX6_numberOf_5 : decode cX6_numberOf 5 = .ok (.aload_n 0, 1) := by decide +kernel
theorem dX6_numberOf_6 : decode cX6_numberOf 6 = .ok (.getfield 26, 3) := by decide +kernel
theorem dX6_numberOf_9 : decode cX6_numberOf 9 = .ok (.if_icmp .ge 21, 3) := by decide +kernel
theorem dX6_numberOf_12 : decode cX6_numberOf 12 = .ok (.aload_n 0, 1) := by decide +kernel
theorem dX6_numberOf_13 : decode cX6_numberOf 13 = .ok (.iload_n 3, 1) := by decide +kernel
theorem dX6_numberOf_14 : decode cX6_numberOf 14 = .ok (.iload_n 1, 1) := by decide +kernel
theorem dX6_numberOf_15 : decode cX6_numberOf 15 = .ok (.invokevirtual 39, 3) := by decide +kernel
theorem dX6_numberOf_18 : decode cX6_numberOf 18 = .ok (.ifCond .eq 6, 3) := by decide +kernel
theorem dX6_numberOf_21 : decode cX6_numberOf 21 = .ok (.iinc 2 1, 3) := by decide +kernel
theorem dX6_numberOf_24 : decode cX6_numberOf 24 = .ok (.iinc 3 1, 3) := by decide +kernel
theorem dX6_numberOf_27 : decode cX6_numberOf 27 = .ok (.goto (-23), 3) := by decide +kernel
theorem dX6_numberOf_30 : decode cX6_numberOf 30 = .ok (.iload_n 2, 1) := by decide +kernel
theorem dX6_numberOf_31 : decode cX6_numberOf 31 = .ok (.ireturn, 1) := by decide +kernel
def fX6_numberOf_4 (a1 : Int32) (o_walkers : Int32) (o_places_f : Nat → Int32)  : Nat → Int32 → Int32 → Int32
  | 0, _, _ => default
  | n + 1, v4_2, v4_3 => if o_walkers ≤ v4_3 then v4_2 else (if (fX6_counts v4_3 a1 o_places_f) = 0 then (fX6_numberOf_4 a1 o_walkers o_places_f n v4_2 (v4_3 + 1)) else (fX6_numberOf_4 a1 o_walkers o_places_f n (v4_2 + 1) (v4_3 + 1)))
def fX6_numberOf (a1 : Int32) (o_walkers : Int32) (o_places_f : Nat → Int32) : Int32 := fX6_numberOf_4 a1 o_walkers o_places_f 1000 0 0
set_option maxHeartbeats 4000000 in
set_option maxRecDepth 100000 in
theorem c_X6_numberOf (l : Launch) (D : va_G) (cI cZ : ClassId) (sz : Nat) (o : Nat) (a1 : Int32) (o_places : Nat) (o_walkers : Int32) (o_steps : Int32) (o_places_a : Nat) (o_places_f : Nat → Int32) (hw6 : o_walkers.toInt ≤ 6) : Met l yX6_numberOf wsX6_numberOf ({ frames := 2, cells := 0, slots := 0, locals := 43 } : Room) (va_Pc [.ref o, .int a1] (xP D cI cZ [(o, .inr (6, [.ref o_places, .int o_walkers, .int o_steps])), (o_places, .inr (4, [.ref o_places_a])), (o_places_a, .inl (cI, 6, .inl o_places_f))] sz)) (va_Qi (fun (r : Int32) (u : Unit) => r = fX6_numberOf a1 o_walkers o_places_f) (fun (u : Unit) t => xB D cI cZ [(o, .inr (6, [.ref o_places, .int o_walkers, .int o_steps])), (o_places, .inr (4, [.ref o_places_a])), (o_places_a, .inl (cI, 6, .inl o_places_f))] (va_A [(o, .inr (6, [.ref o_places, .int o_walkers, .int o_steps])), (o_places, .inr (4, [.ref o_places_a])), (o_places_a, .inl (cI, 6, .inl o_places_f))] sz) t) (va_A [(o, .inr (6, [.ref o_places, .int o_walkers, .int o_steps])), (o_places, .inr (4, [.ref o_places_a])), (o_places_a, .inl (cI, 6, .inl o_places_f))] sz)) 0 0 (va_A [(o, .inr (6, [.ref o_places, .int o_walkers, .int o_steps])), (o_places, .inr (4, [.ref o_places_a])), (o_places_a, .inl (cI, 6, .inl o_places_f))] sz) := by
  refine Met.ofW (cc := cX6_numberOf) (maxL := 4) (ret := (some .int)) (by decide) rfl ?_
  intro p e s m args below meth c s₁ B hml hv
  obtain ⟨hargs, hsz, hP, hK, hD0, hE⟩ := hv
  subst hargs
  have hx := B.exec
  have hb := B.bytes
  have hr := B.returns
  have hts := atoms_spec (ws := wsX6_numberOf) B.pre
  have hown : s.vm.findClass RX6 = some m.cls := findClass_of_methodNamed B.named
  have hlocks := B.notSynchronized
  subst hsz
  have hD := hD0.self (sz := s.heap.size)
  generalize hAe : va_A [(o, .inr (6, [.ref o_places, .int o_walkers, .int o_steps])), (o_places, .inr (4, [.ref o_places_a])), (o_places_a, .inl (cI, 6, .inl o_places_f))] s.heap.size = A at hD ⊢
  have hA : ∀ q : Nat, s.heap.size ≤ q → A q := fun q h => by rw [← hAe]; exact Or.inr h
  have hS : va_S A s.heap s.heap [] := va_S.rf
  have hl := lv_entry ([.ref o, .int a1]) (n := 4) (Nat.le_of_ble_eq_true rfl)
  rw [lg_entry_eq]
  generalize (lg_sl ([.ref o, .int a1]) ++ List.replicate (4 - (lg_sl ([.ref o, .int a1])).length) Slot.unset).toArray = ls at hl ⊢
  have hl : lv_has ls 4 [(0, .ref o), (1, .int a1)] := hl
  refine wq (X := fun Q => ∀ (pc : Nat) (H : Heap) (locs : List Loc) (ls : Array Slot) (r : Int32) (u : Unit) (hd : decode cX6_numberOf pc = .ok (.ireturn, 1)) (hp : r = fX6_numberOf a1 o_walkers o_places_f) (hP : va_P D vwCl [(o, .inr (6, [.ref o_places, .int o_walkers, .int o_steps])), (o_places, .inr (4, [.ref o_places_a])), (o_places_a, .inl (cI, 6, .inl o_places_f))] H) (hD : va_D A [(o, .inr (6, [.ref o_places, .int o_walkers, .int o_steps])), (o_places, .inr (4, [.ref o_places_a])), (o_places_a, .inl (cI, 6, .inl o_places_f))]) (hS : va_S A s.heap H locs), W p l e ({ frames := 2, cells := 0, slots := 0, locals := 43 } : Room) s m ([.ref o, .int a1] : List Value).toArray below meth c H locs 0 0 Q (F0 m pc ls [.int r])) ?_ (fun Q hret => ?_)
  · intro pc H locs ls r u hd hp hP hD hS
    exact W.iret (v := r) hx hb hr (fun t ht hW => ⟨⟨r, u, rfl, hp, by rw [ht]; exact hP, va_K.moved hW.alike hK, hD⟩, hS.F ht⟩) hS.2.2 hd
  have hin_6 : ∀ w ∈ u_ws RX6 TX6 3, w ∈ wsX6_numberOf := by decide +kernel
  have fl_26 := hts (.fieldLink RX6 26 "MileRoad$Stones" "walkers" "I") (by decide +kernel)
  have zl_0 : (0 : Int32).toInt = 0 := by decide
  have zl_1 : (1 : Int32).toInt = 1 := by decide
  have hF : fX6_numberOf a1 o_walkers o_places_f = fX6_numberOf a1 o_walkers o_places_f := rfl
  have L_4 : ∀ (n : Nat) (v4_2 : Int32) (v4_3 : Int32) (h1_4 : 0 ≤ v4_3.toInt) (h2_4 : v4_3.toInt ≤ 6) (hm : 6 - v4_3.toInt < (n : Int)) (H : Heap) (locs : List Loc) (ls : Array Slot) (hl : lv_has ls 4 [(0, .ref o), (1, .int a1), (2, .int v4_2), (3, .int v4_3)]) (hP : va_P D vwCl [(o, .inr (6, [.ref o_places, .int o_walkers, .int o_steps])), (o_places, .inr (4, [.ref o_places_a])), (o_places_a, .inl (cI, 6, .inl o_places_f))] H) (hD : va_D A [(o, .inr (6, [.ref o_places, .int o_walkers, .int o_steps])), (o_places, .inr (4, [.ref o_places_a])), (o_places_a, .inl (cI, 6, .inl o_places_f))]) (hS : va_S A s.heap H locs) (hF : fX6_numberOf a1 o_walkers o_places_f = fX6_numberOf_4 a1 o_walkers o_places_f n v4_2 v4_3), W p l e ({ frames := 2, cells := 0, slots := 0, locals := 43 } : Room) s m ([.ref o, .int a1] : List Value).toArray below meth c H locs 0 0 Q (F0 m 4 ls []) := by
    intro n
    induction n with
    | zero =>
      intro v4_2 v4_3 h1_4 h2_4 hm H locs ls hl hP hD hS hF
      exact absurd hm (by omega)
    | succ n ih_4 =>
      intro v4_2 v4_3 h1_4 h2_4 hm H locs ls hl hP hD hS hF
      refine lv_iload_n hx hb dX6_numberOf_4 rfl (lv_at hl 3 rfl) ?_
      refine lv_aload_n hx hb dX6_numberOf_5 rfl (lv_at hl 0 rfl) ?_
      refine xget hx hb hts hown hK 6 (C2 := RX6) (T := TX6) (N := 3) rfl hin_6 hP 0 rfl 1 (by decide) fl_26 rfl rfl rfl dX6_numberOf_6 ?_
      refine lv_icmp_ge (tgt := 30) hx hb dX6_numberOf_9 (by decide) (fun c_1 => ?_) (fun c_1 => ?_)
      · have kc_1 := t_le c_1
        refine lv_iload_n hx hb dX6_numberOf_30 rfl (lv_at hl 2 rfl) ?_
        exact hret _ _ _ _ v4_2 () dX6_numberOf_31 ((hF.trans (by simp only [fX6_numberOf_4, xlet, if_pos c_1])).symm) hP hD hS
      · have kc_1 := t_nle c_1
        refine lv_aload_n hx hb dX6_numberOf_12 rfl (lv_at hl 0 rfl) ?_
        refine lv_iload_n hx hb dX6_numberOf_13 rfl (lv_at hl 3 rfl) ?_
        refine lv_iload_n hx hb dX6_numberOf_14 rfl (lv_at hl 1 rfl) ?_
        refine xcalli (S := Unit) (Wc := [(o, .inr (6, [.ref o_places, .int o_walkers, .int o_steps])), (o_places, .inr (4, [.ref o_places_a])), (o_places_a, .inl (cI, 6, .inl o_places_f))]) (wr := []) (W1 := (fun (u : Unit) => [(o, .inr (6, [.ref o_places, .int o_walkers, .int o_steps])), (o_places, .inr (4, [.ref o_places_a])), (o_places_a, .inl (cI, 6, .inl o_places_f))])) (Wn := (fun (u : Unit) => [(o, .inr (6, [.ref o_places, .int o_walkers, .int o_steps])), (o_places, .inr (4, [.ref o_places_a])), (o_places_a, .inl (cI, 6, .inl o_places_f))])) (xrunV hx hb hml hown hts (c_X6_counts l D cI cZ _ o v4_3 a1 o_places o_walkers o_steps o_places_a o_places_f ) (cwV 2 hts gX6_numberOf_X6_counts rfl rfl rfl (by decide +kernel) ⟨Nat.le_of_ble_eq_true rfl, Nat.le_of_ble_eq_true rfl⟩) hE hK hP hD [0, 1, 2] rfl rfl 0 6 (T := TX6) (N := 3) rfl rfl rfl hl.1 rfl (Nat.le_of_ble_eq_true rfl) dX6_numberOf_15 ⟨Nat.le_of_ble_eq_true rfl, Nat.le_of_ble_eq_true rfl⟩) hP hD hS hA [0, 1, 2] [] [0, 1, 2] rfl rfl rfl (by decide) (fun _ => rfl) rfl (fun r1 u H locs hw hz hP hD hS => ?_)
        subst hw
        refine lv_if_eq (tgt := 24) hx hb dX6_numberOf_18 (by decide) (fun c_2 => ?_) (fun c_2 => ?_)
        · have kc_2 := t_eq c_2
          refine lv_iinc (v := (v4_3 + 1)) (lv' := [(3, .int (v4_3 + 1)), (0, .ref o), (1, .int a1), (2, .int v4_2)]) hx hb dX6_numberOf_24 hl (k := 3) rfl (by rfl) (by decide) rfl (fun ls hl => ?_)
          refine lv_goto (tgt := 4) hx hb dX6_numberOf_27 (by decide) ?_
          have z_1 : (v4_3 + 1).toInt = v4_3.toInt + (1 : Int32).toInt := z_add (by omega) (by omega)
          exact ih_4 v4_2 (v4_3 + 1) (by first | assumption | omega | decide | (split <;> rename_i hh <;> first | (have h9 := t_nlt hh; omega) | (have h9 := t_lt hh; omega) | (have h9 := t_nle hh; omega) | (have h9 := t_le hh; omega))) (by first | assumption | omega | decide | (split <;> rename_i hh <;> first | (have h9 := t_nlt hh; omega) | (have h9 := t_lt hh; omega) | (have h9 := t_nle hh; omega) | (have h9 := t_le hh; omega))) (by first | assumption | omega | decide | (split <;> rename_i hh <;> first | (have h9 := t_nlt hh; omega) | (have h9 := t_lt hh; omega) | (have h9 := t_nle hh; omega) | (have h9 := t_le hh; omega))) _ _ _ (lv_sub hl [1, 2, 3, 0] rfl) hP hD hS (hF.trans (by simp only [fX6_numberOf_4, xlet, if_neg c_1, if_pos c_2]))
        · have kc_2 := t_neq c_2
          refine lv_iinc (v := (v4_2 + 1)) (lv' := [(2, .int (v4_2 + 1)), (0, .ref o), (1, .int a1), (3, .int v4_3)]) hx hb dX6_numberOf_21 hl (k := 2) rfl (by rfl) (by decide) rfl (fun ls hl => ?_)
          refine lv_iinc (v := (v4_3 + 1)) (lv' := [(3, .int (v4_3 + 1)), (2, .int (v4_2 + 1)), (0, .ref o), (1, .int a1)]) hx hb dX6_numberOf_24 hl (k := 3) rfl (by rfl) (by decide) rfl (fun ls hl => ?_)
          refine lv_goto (tgt := 4) hx hb dX6_numberOf_27 (by decide) ?_
          have z_2 : (v4_3 + 1).toInt = v4_3.toInt + (1 : Int32).toInt := z_add (by omega) (by omega)
          exact ih_4 (v4_2 + 1) (v4_3 + 1) (by first | assumption | omega | decide | (split <;> rename_i hh <;> first | (have h9 := t_nlt hh; omega) | (have h9 := t_lt hh; omega) | (have h9 := t_nle hh; omega) | (have h9 := t_le hh; omega))) (by first | assumption | omega | decide | (split <;> rename_i hh <;> first | (have h9 := t_nlt hh; omega) | (have h9 := t_lt hh; omega) | (have h9 := t_nle hh; omega) | (have h9 := t_le hh; omega))) (by first | assumption | omega | decide | (split <;> rename_i hh <;> first | (have h9 := t_nlt hh; omega) | (have h9 := t_lt hh; omega) | (have h9 := t_nle hh; omega) | (have h9 := t_le hh; omega))) _ _ _ (lv_sub hl [2, 3, 1, 0] rfl) hP hD hS (hF.trans (by simp only [fX6_numberOf_4, xlet, if_neg c_1, if_neg c_2]))
  refine lv_iconst (v := 0) hx hb dX6_numberOf_0 (by decide) ?_
  refine lv_istore_n (lv' := [(2, .int 0), (0, .ref o), (1, .int a1)]) hx hb dX6_numberOf_1 rfl hl (by decide) rfl (fun ls hl => ?_)
  refine lv_iconst (v := 0) hx hb dX6_numberOf_2 (by decide) ?_
  refine lv_istore_n (lv' := [(3, .int 0), (2, .int 0), (0, .ref o), (1, .int a1)]) hx hb dX6_numberOf_3 rfl hl (by decide) rfl (fun ls hl => ?_)
  exact L_4 1000 0 0 (by first | assumption | omega | decide | (split <;> rename_i hh <;> first | (have h9 := t_nlt hh; omega) | (have h9 := t_lt hh; omega) | (have h9 := t_nle hh; omega) | (have h9 := t_le hh; omega))) (by first | assumption | omega | decide | (split <;> rename_i hh <;> first | (have h9 := t_nlt hh; omega) | (have h9 := t_lt hh; omega) | (have h9 := t_nle hh; omega) | (have h9 := t_le hh; omega))) (by first | assumption | omega | decide | (split <;> rename_i hh <;> first | (have h9 := t_nlt hh; omega) | (have h9 := t_lt hh; omega) | (have h9 := t_nle hh; omega) | (have h9 := t_le hh; omega))) _ _ _ (lv_sub hl [2, 3, 1, 0] rfl) hP hD hS (hF.trans (by simp only [fX6_numberOf, xlet]))
set_option maxRecDepth 20000 in
theorem ggX6_sumOf_X6_counts : GoodIn wsX6_sumOf wsX6_counts := goodIn_r _ [7, 2, 8, 9, 10, 11, 12, 13, 14, 15, 16, 17] (by decide +kernel) (by decide +kernel)
set_option maxRecDepth 20000 in
theorem gX6_sumOf_X6_counts : GoodIn wsX6_sumOf (wsV RX6 39 RX6 yX6_counts wsX6_counts) := goodIn_app (goodIn_of _ (by decide +kernel)) ggX6_sumOf_X6_counts
set_option maxRecDepth 20000 in
theorem ggX6_sumOf_X4_at : GoodIn wsX6_sumOf wsX4_at := goodIn_r _ [12, 13, 17] (by decide +kernel) (by decide +kernel)
set_option maxRecDepth 20000 in
theorem gX6_sumOf_X4_at : GoodIn wsX6_sumOf (wsV RX6 43 RX4 yX4_at wsX4_at) := goodIn_app (goodIn_of _ (by decide +kernel)) ggX6_sumOf_X4_at
theorem dX6_sumOf_0 : decode cX6_sumOf 0 = .ok (.iconst 0, 1) := by decide +kernel
theorem dX6_sumOf_1 : decode cX6_sumOf 1 = .ok (.istore_n 2, 1) := by decide +kernel
theorem dX6_sumOf_2 : decode cX6_sumOf 2 = .ok (.iconst 0, 1) := by decide +kernel
theorem dX6_sumOf_3 : decode cX6_sumOf 3 = .ok (.istore_n 3, 1) := by decide +kernel
theorem dX6_sumOf_4 : decode cX6_sumOf 4 = .ok (.iload_n 3, 1) := by decide +kernel
theorem dX6_sumOf_5 : decode cX6_sumOf 5 = .ok (.aload_n 0, 1) := by decide +kernel
theorem dX6_sumOf_6 : decode cX6_sumOf 6 = .ok (.getfield 26, 3) := by decide +kernel
theorem dX6_sumOf_9 : decode cX6_sumOf 9 = .ok (.if_icmp .ge 29, 3) := by decide +kernel
theorem dX6_sumOf_12 : decode cX6_sumOf 12 = .ok (.aload_n 0, 1) := by decide +kernel
theorem dX6_sumOf_13 : decode cX6_sumOf 13 = .ok (.iload_n 3, 1) := by decide +kernel
theorem dX6_sumOf_14 : decode cX6_sumOf 14 = .ok (.iload_n 1, 1) := by decide +kernel
theorem dX6_sumOf_15 : decode cX6_sumOf 15 = .ok (.invokevirtual 39, 3) := by decide +kernel
theorem dX6_sumOf_18 : decode cX6_sumOf 18 = .ok (.ifCond .eq 14, 3) := by decide +kernel
theorem dX6_sumOf_21 : decode cX6_sumOf 21 = .ok (.iload_n 2, 1) := by decide +kernel
theorem dX6_sumOf_22 : decode cX6_sumOf 22 = .ok (.aload_n 0, 1) := by decide +kernel
theorem dX6_sumOf_23 : decode cX6_sumOf 23 = .ok (.getfield 14, 3) := by decide +kernel
theorem dX6_sumOf_26 : decode cX6_sumOf 26 = .ok (.iload_n 3, 1) := by decide +kernel
theorem dX6_sumOf_27 : decode cX6_sumOf 27 = .ok (.invokevirtual 43, 3) := by decide +kernel
theorem dX6_sumOf_30 : decode cX6_sumOf 30 = .ok (.iadd, 1) := by decide +kernel
theorem dX6_sumOf_31 : decode cX6_sumOf 31 = .ok (.istore_n 2, 1) := by decide +kernel
theorem dX6_sumOf_32 : decode cX6_sumOf 32 = .ok (.iinc 3 1, 3) := by decide +kernel
theorem dX6_sumOf_35 : decode cX6_sumOf 35 = .ok (.goto (-31), 3) := by decide +kernel
theorem dX6_sumOf_38 : decode cX6_sumOf 38 = .ok (.iload_n 2, 1) := by decide +kernel
theorem dX6_sumOf_39 : decode cX6_sumOf 39 = .ok (.ireturn, 1) := by decide +kernel
def fX6_sumOf_4 (a1 : Int32) (o_walkers : Int32) (o_places_f : Nat → Int32)  : Nat → Int32 → Int32 → Int32
  | 0, _, _ => default
  | n + 1, v4_2, v4_3 => if o_walkers ≤ v4_3 then v4_2 else (if (fX6_counts v4_3 a1 o_places_f) = 0 then (fX6_sumOf_4 a1 o_walkers o_places_f n v4_2 (v4_3 + 1)) else (fX6_sumOf_4 a1 o_walkers o_places_f n (v4_2 + (fX4_at v4_3 o_places_f 6)) (v4_3 + 1)))
def fX6_sumOf (a1 : Int32) (o_walkers : Int32) (o_places_f : Nat → Int32) : Int32 := fX6_sumOf_4 a1 o_walkers o_places_f 1000 0 0
set_option maxHeartbeats 4000000 in
set_option maxRecDepth 100000 in
theorem c_X6_sumOf (l : Launch) (D : va_G) (cI cZ : ClassId) (sz : Nat) (o : Nat) (a1 : Int32) (o_places : Nat) (o_walkers : Int32) (o_steps : Int32) (o_places_a : Nat) (o_places_f : Nat → Int32) (hw6 : o_walkers.toInt ≤ 6) : Met l yX6_sumOf wsX6_sumOf ({ frames := 2, cells := 0, slots := 0, locals := 43 } : Room) (va_Pc [.ref o, .int a1] (xP D cI cZ [(o, .inr (6, [.ref o_places, .int o_walkers, .int o_steps])), (o_places, .inr (4, [.ref o_places_a])), (o_places_a, .inl (cI, 6, .inl o_places_f))] sz)) (va_Qi (fun (r : Int32) (u : Unit) => r = fX6_sumOf a1 o_walkers o_places_f) (fun (u : Unit) t => xB D cI cZ [(o, .inr (6, [.ref o_places, .int o_walkers, .int o_steps])), (o_places, .inr (4, [.ref o_places_a])), (o_places_a, .inl (cI, 6, .inl o_places_f))] (va_A [(o, .inr (6, [.ref o_places, .int o_walkers, .int o_steps])), (o_places, .inr (4, [.ref o_places_a])), (o_places_a, .inl (cI, 6, .inl o_places_f))] sz) t) (va_A [(o, .inr (6, [.ref o_places, .int o_walkers, .int o_steps])), (o_places, .inr (4, [.ref o_places_a])), (o_places_a, .inl (cI, 6, .inl o_places_f))] sz)) 0 0 (va_A [(o, .inr (6, [.ref o_places, .int o_walkers, .int o_steps])), (o_places, .inr (4, [.ref o_places_a])), (o_places_a, .inl (cI, 6, .inl o_places_f))] sz) := by
  refine Met.ofW (cc := cX6_sumOf) (maxL := 4) (ret := (some .int)) (by decide) rfl ?_
  intro p e s m args below meth c s₁ B hml hv
  obtain ⟨hargs, hsz, hP, hK, hD0, hE⟩ := hv
  subst hargs
  have hx := B.exec
  have hb := B.bytes
  have hr := B.returns
  have hts := atoms_spec (ws := wsX6_sumOf) B.pre
  have hown : s.vm.findClass RX6 = some m.cls := findClass_of_methodNamed B.named
  have hlocks := B.notSynchronized
  subst hsz
  have hD := hD0.self (sz := s.heap.size)
  generalize hAe : va_A [(o, .inr (6, [.ref o_places, .int o_walkers, .int o_steps])), (o_places, .inr (4, [.ref o_places_a])), (o_places_a, .inl (cI, 6, .inl o_places_f))] s.heap.size = A at hD ⊢
  have hA : ∀ q : Nat, s.heap.size ≤ q → A q := fun q h => by rw [← hAe]; exact Or.inr h
  have hS : va_S A s.heap s.heap [] := va_S.rf
  have hl := lv_entry ([.ref o, .int a1]) (n := 4) (Nat.le_of_ble_eq_true rfl)
  rw [lg_entry_eq]
  generalize (lg_sl ([.ref o, .int a1]) ++ List.replicate (4 - (lg_sl ([.ref o, .int a1])).length) Slot.unset).toArray = ls at hl ⊢
  have hl : lv_has ls 4 [(0, .ref o), (1, .int a1)] := hl
  refine wq (X := fun Q => ∀ (pc : Nat) (H : Heap) (locs : List Loc) (ls : Array Slot) (r : Int32) (u : Unit) (hd : decode cX6_sumOf pc = .ok (.ireturn, 1)) (hp : r = fX6_sumOf a1 o_walkers o_places_f) (hP : va_P D vwCl [(o, .inr (6, [.ref o_places, .int o_walkers, .int o_steps])), (o_places, .inr (4, [.ref o_places_a])), (o_places_a, .inl (cI, 6, .inl o_places_f))] H) (hD : va_D A [(o, .inr (6, [.ref o_places, .int o_walkers, .int o_steps])), (o_places, .inr (4, [.ref o_places_a])), (o_places_a, .inl (cI, 6, .inl o_places_f))]) (hS : va_S A s.heap H locs), W p l e ({ frames := 2, cells := 0, slots := 0, locals := 43 } : Room) s m ([.ref o, .int a1] : List Value).toArray below meth c H locs 0 0 Q (F0 m pc ls [.int r])) ?_ (fun Q hret => ?_)
  · intro pc H locs ls r u hd hp hP hD hS
    exact W.iret (v := r) hx hb hr (fun t ht hW => ⟨⟨r, u, rfl, hp, by rw [ht]; exact hP, va_K.moved hW.alike hK, hD⟩, hS.F ht⟩) hS.2.2 hd
  have hin_6 : ∀ w ∈ u_ws RX6 TX6 3, w ∈ wsX6_sumOf := by decide +kernel
  have fl_14 := hts (.fieldLink RX6 14 "MileRoad$Stones" "places" "LMileRoad$Row;") (by decide +kernel)
  have fl_26 := hts (.fieldLink RX6 26 "MileRoad$Stones" "walkers" "I") (by decide +kernel)
  have zl_0 : (0 : Int32).toInt = 0 := by decide
  have zl_1 : (1 : Int32).toInt = 1 := by decide
  have hF : fX6_sumOf a1 o_walkers o_places_f = fX6_sumOf a1 o_walkers o_places_f := rfl
  have L_4 : ∀ (n : Nat) (v4_2 : Int32) (v4_3 : Int32) (h1_4 : 0 ≤ v4_3.toInt) (h2_4 : v4_3.toInt ≤ 6) (hm : 6 - v4_3.toInt < (n : Int)) (H : Heap) (locs : List Loc) (ls : Array Slot) (hl : lv_has ls 4 [(0, .ref o), (1, .int a1), (2, .int v4_2), (3, .int v4_3)]) (hP : va_P D vwCl [(o, .inr (6, [.ref o_places, .int o_walkers, .int o_steps])), (o_places, .inr (4, [.ref o_places_a])), (o_places_a, .inl (cI, 6, .inl o_places_f))] H) (hD : va_D A [(o, .inr (6, [.ref o_places, .int o_walkers, .int o_steps])), (o_places, .inr (4, [.ref o_places_a])), (o_places_a, .inl (cI, 6, .inl o_places_f))]) (hS : va_S A s.heap H locs) (hF : fX6_sumOf a1 o_walkers o_places_f = fX6_sumOf_4 a1 o_walkers o_places_f n v4_2 v4_3), W p l e ({ frames := 2, cells := 0, slots := 0, locals := 43 } : Room) s m ([.ref o, .int a1] : List Value).toArray below meth c H locs 0 0 Q (F0 m 4 ls []) := by
    intro n
    induction n with
    | zero =>
      intro v4_2 v4_3 h1_4 h2_4 hm H locs ls hl hP hD hS hF
      exact absurd hm (by omega)
    | succ n ih_4 =>
      intro v4_2 v4_3 h1_4 h2_4 hm H locs ls hl hP hD hS hF
      refine lv_iload_n hx hb dX6_sumOf_4 rfl (lv_at hl 3 rfl) ?_
      refine lv_aload_n hx hb dX6_sumOf_5 rfl (lv_at hl 0 rfl) ?_
      refine xget hx hb hts hown hK 6 (C2 := RX6) (T := TX6) (N := 3) rfl hin_6 hP 0 rfl 1 (by decide) fl_26 rfl rfl rfl dX6_sumOf_6 ?_
      refine lv_icmp_ge (tgt := 38) hx hb dX6_sumOf_9 (by decide) (fun c_1 => ?_) (fun c_1 => ?_)
      · have kc_1 := t_le c_1
        refine lv_iload_n hx hb dX6_sumOf_38 rfl (lv_at hl 2 rfl) ?_
        exact hret _ _ _ _ v4_2 () dX6_sumOf_39 ((hF.trans (by simp only [fX6_sumOf_4, xlet, if_pos c_1])).symm) hP hD hS
      · have kc_1 := t_nle c_1
        refine lv_aload_n hx hb dX6_sumOf_12 rfl (lv_at hl 0 rfl) ?_
        refine lv_iload_n hx hb dX6_sumOf_13 rfl (lv_at hl 3 rfl) ?_
        refine lv_iload_n hx hb dX6_sumOf_14 rfl (lv_at hl 1 rfl) ?_
        refine xcalli (S := Unit) (Wc := [(o, .inr (6, [.ref o_places, .int o_walkers, .int o_steps])), (o_places, .inr (4, [.ref o_places_a])), (o_places_a, .inl (cI, 6, .inl o_places_f))]) (wr := []) (W1 := (fun (u : Unit) => [(o, .inr (6, [.ref o_places, .int o_walkers, .int o_steps])), (o_places, .inr (4, [.ref o_places_a])), (o_places_a, .inl (cI, 6, .inl o_places_f))])) (Wn := (fun (u : Unit) => [(o, .inr (6, [.ref o_places, .int o_walkers, .int o_steps])), (o_places, .inr (4, [.ref o_places_a])), (o_places_a, .inl (cI, 6, .inl o_places_f))])) (xrunV hx hb hml hown hts (c_X6_counts l D cI cZ _ o v4_3 a1 o_places o_walkers o_steps o_places_a o_places_f ) (cwV 2 hts gX6_sumOf_X6_counts rfl rfl rfl (by decide +kernel) ⟨Nat.le_of_ble_eq_true rfl, Nat.le_of_ble_eq_true rfl⟩) hE hK hP hD [0, 1, 2] rfl rfl 0 6 (T := TX6) (N := 3) rfl rfl rfl hl.1 rfl (Nat.le_of_ble_eq_true rfl) dX6_sumOf_15 ⟨Nat.le_of_ble_eq_true rfl, Nat.le_of_ble_eq_true rfl⟩) hP hD hS hA [0, 1, 2] [] [0, 1, 2] rfl rfl rfl (by decide) (fun _ => rfl) rfl (fun r1 u H locs hw hz hP hD hS => ?_)
        subst hw
        refine lv_if_eq (tgt := 32) hx hb dX6_sumOf_18 (by decide) (fun c_2 => ?_) (fun c_2 => ?_)
        · have kc_2 := t_eq c_2
          refine lv_iinc (v := (v4_3 + 1)) (lv' := [(3, .int (v4_3 + 1)), (0, .ref o), (1, .int a1), (2, .int v4_2)]) hx hb dX6_sumOf_32 hl (k := 3) rfl (by rfl) (by decide) rfl (fun ls hl => ?_)
          refine lv_goto (tgt := 4) hx hb dX6_sumOf_35 (by decide) ?_
          have z_1 : (v4_3 + 1).toInt = v4_3.toInt + (1 : Int32).toInt := z_add (by omega) (by omega)
          exact ih_4 v4_2 (v4_3 + 1) (by first | assumption | omega | decide | (split <;> rename_i hh <;> first | (have h9 := t_nlt hh; omega) | (have h9 := t_lt hh; omega) | (have h9 := t_nle hh; omega) | (have h9 := t_le hh; omega))) (by first | assumption | omega | decide | (split <;> rename_i hh <;> first | (have h9 := t_nlt hh; omega) | (have h9 := t_lt hh; omega) | (have h9 := t_nle hh; omega) | (have h9 := t_le hh; omega))) (by first | assumption | omega | decide | (split <;> rename_i hh <;> first | (have h9 := t_nlt hh; omega) | (have h9 := t_lt hh; omega) | (have h9 := t_nle hh; omega) | (have h9 := t_le hh; omega))) _ _ _ (lv_sub hl [1, 2, 3, 0] rfl) hP hD hS (hF.trans (by simp only [fX6_sumOf_4, xlet, if_neg c_1, if_pos c_2]))
        · have kc_2 := t_neq c_2
          refine lv_iload_n hx hb dX6_sumOf_21 rfl (lv_at hl 2 rfl) ?_
          refine lv_aload_n hx hb dX6_sumOf_22 rfl (lv_at hl 0 rfl) ?_
          refine xget hx hb hts hown hK 6 (C2 := RX6) (T := TX6) (N := 3) rfl hin_6 hP 0 rfl 0 (by decide) fl_14 rfl rfl rfl dX6_sumOf_23 ?_
          refine lv_iload_n hx hb dX6_sumOf_26 rfl (lv_at hl 3 rfl) ?_
          refine xcalli (S := Unit) (Wc := [(o_places, .inr (4, [.ref o_places_a])), (o_places_a, .inl (cI, 6, .inl o_places_f))]) (wr := [(o, .inr (6, [.ref o_places, .int o_walkers, .int o_steps]))]) (W1 := (fun (u : Unit) => [(o_places, .inr (4, [.ref o_places_a])), (o_places_a, .inl (cI, 6, .inl o_places_f))])) (Wn := (fun (u : Unit) => [(o, .inr (6, [.ref o_places, .int o_walkers, .int o_steps])), (o_places, .inr (4, [.ref o_places_a])), (o_places_a, .inl (cI, 6, .inl o_places_f))])) (xrunV hx hb hml hown hts (c_X4_at l D cI cZ _ o_places v4_3 o_places_a o_places_f 6 (by decide)) (cwV 1 hts gX6_sumOf_X4_at rfl rfl rfl (by decide +kernel) ⟨Nat.le_of_ble_eq_true rfl, Nat.le_of_ble_eq_true rfl⟩) hE hK hP hD [1, 2] rfl rfl 0 4 (T := TX4) (N := 1) rfl rfl rfl hl.1 rfl (Nat.le_of_ble_eq_true rfl) dX6_sumOf_27 ⟨Nat.le_of_ble_eq_true rfl, Nat.le_of_ble_eq_true rfl⟩) hP hD hS hA [1, 2] [0] [0, 1, 2] rfl rfl rfl (by decide) (fun _ => rfl) rfl (fun r2 u H locs hw hz hP hD hS => ?_)
          subst hw
          refine lv_iadd hx hb dX6_sumOf_30 ?_
          refine lv_istore_n (lv' := [(2, .int (v4_2 + (fX4_at v4_3 o_places_f 6))), (0, .ref o), (1, .int a1), (3, .int v4_3)]) hx hb dX6_sumOf_31 rfl hl (by decide) rfl (fun ls hl => ?_)
          refine lv_iinc (v := (v4_3 + 1)) (lv' := [(3, .int (v4_3 + 1)), (2, .int (v4_2 + (fX4_at v4_3 o_places_f 6))), (0, .ref o), (1, .int a1)]) hx hb dX6_sumOf_32 hl (k := 3) rfl (by rfl) (by decide) rfl (fun ls hl => ?_)
          refine lv_goto (tgt := 4) hx hb dX6_sumOf_35 (by decide) ?_
          have z_2 : (v4_3 + 1).toInt = v4_3.toInt + (1 : Int32).toInt := z_add (by omega) (by omega)
          exact ih_4 (v4_2 + (fX4_at v4_3 o_places_f 6)) (v4_3 + 1) (by first | assumption | omega | decide | (split <;> rename_i hh <;> first | (have h9 := t_nlt hh; omega) | (have h9 := t_lt hh; omega) | (have h9 := t_nle hh; omega) | (have h9 := t_le hh; omega))) (by first | assumption | omega | decide | (split <;> rename_i hh <;> first | (have h9 := t_nlt hh; omega) | (have h9 := t_lt hh; omega) | (have h9 := t_nle hh; omega) | (have h9 := t_le hh; omega))) (by first | assumption | omega | decide | (split <;> rename_i hh <;> first | (have h9 := t_nlt hh; omega) | (have h9 := t_lt hh; omega) | (have h9 := t_nle hh; omega) | (have h9 := t_le hh; omega))) _ _ _ (lv_sub hl [2, 3, 1, 0] rfl) hP hD hS (hF.trans (by simp only [fX6_sumOf_4, xlet, if_neg c_1, if_neg c_2]))
  refine lv_iconst (v := 0) hx hb dX6_sumOf_0 (by decide) ?_
  refine lv_istore_n (lv' := [(2, .int 0), (0, .ref o), (1, .int a1)]) hx hb dX6_sumOf_1 rfl hl (by decide) rfl (fun ls hl => ?_)
  refine lv_iconst (v := 0) hx hb dX6_sumOf_2 (by decide) ?_
  refine lv_istore_n (lv' := [(3, .int 0), (2, .int 0), (0, .ref o), (1, .int a1)]) hx hb dX6_sumOf_3 rfl hl (by decide) rfl (fun ls hl => ?_)
  exact L_4 1000 0 0 (by first | assumption | omega | decide | (split <;> rename_i hh <;> first | (have h9 := t_nlt hh; omega) | (have h9 := t_lt hh; omega) | (have h9 := t_nle hh; omega) | (have h9 := t_le hh; omega))) (by first | assumption | omega | decide | (split <;> rename_i hh <;> first | (have h9 := t_nlt hh; omega) | (have h9 := t_lt hh; omega) | (have h9 := t_nle hh; omega) | (have h9 := t_le hh; omega))) (by first | assumption | omega | decide | (split <;> rename_i hh <;> first | (have h9 := t_nlt hh; omega) | (have h9 := t_lt hh; omega) | (have h9 := t_nle hh; omega) | (have h9 := t_le hh; omega))) _ _ _ (lv_sub hl [2, 3, 1, 0] rfl) hP hD hS (hF.trans (by simp only [fX6_sumOf, xlet]))
set_option maxRecDepth 20000 in
theorem ggX6_find_X3_stoneOf : GoodIn wsX6_find wsX3_stoneOf := goodIn_r _ [8, 9, 10, 11, 12, 13, 14, 15, 16, 17, 18, 19, 20, 7, 21, 22, 23, 24, 25, 26, 27, 32, 33, 34, 35, 36, 37, 38, 42] (by decide +kernel) (by decide +kernel)
set_option maxRecDepth 20000 in
theorem gX6_find_X3_stoneOf : GoodIn wsX6_find (wsV RX6 31 RX3 yX3_stoneOf wsX3_stoneOf) := goodIn_app (goodIn_of _ (by decide +kernel)) ggX6_find_X3_stoneOf
set_option maxRecDepth 20000 in
theorem ggX6_find_X4_put : GoodIn wsX6_find wsX4_put := goodIn_r _ [31, 17, 42] (by decide +kernel) (by decide +kernel)
set_option maxRecDepth 20000 in
theorem gX6_find_X4_put : GoodIn wsX6_find (wsV RX6 35 RX4 yX4_put wsX4_put) := goodIn_app (goodIn_of _ (by decide +kernel)) ggX6_find_X4_put
theorem dX6_find_0 : decode cX6_find 0 = .ok (.aload_n 0, 1) := by decide +kernel
theorem dX6_find_1 : decode cX6_find 1 = .ok (.aload_n 1, 1) := by decide +kernel
theorem dX6_find_2 : decode cX6_find 2 = .ok (.getfield 20, 3) := by decide +kernel
theorem dX6_find_5 : decode cX6_find 5 = .ok (.putfield 26, 3) := by decide +kernel
theorem dX6_find_8 : decode cX6_find 8 = .ok (.aload_n 0, 1) := by decide +kernel
theorem dX6_find_9 : decode cX6_find 9 = .ok (.aload_n 1, 1) := by decide +kernel
theorem dX6_find_10 : decode cX6_find 10 = .ok (.getfield 27, 3) := by decide +kernel
theorem dX6_find_13 : decode cX6_find 13 = .ok (.putfield 30, 3) := by decide +kernel
theorem dX6_find_16 : decode cX6_find 16 = .ok (.iconst 0, 1) := by decide +kernel
theorem dX6_find_17 : decode cX6_find 17 = .ok (.istore_n 3, 1) := by decide +kernel
theorem dX6_find_18 : decode cX6_find 18 = .ok (.iload_n 3, 1) := by decide +kernel
theorem dX6_find_19 : decode cX6_find 19 = .ok (.aload_n 0, 1) := by decide +kernel
theorem dX6_find_20 : decode cX6_find 20 = .ok (.getfield 26, 3) := by decide +kernel
theorem dX6_find_23 : decode cX6_find 23 = .ok (.if_icmp .ge 23, 3) := by decide +kernel
theorem dX6_find_26 : decode cX6_find 26 = .ok (.aload_n 0, 1) := by decide +kernel
theorem dX6_find_27 : decode cX6_find 27 = .ok (.getfield 14, 3) := by decide +kernel
theorem dX6_find_30 : decode cX6_find 30 = .ok (.iload_n 3, 1) := by decide +kernel
theorem dX6_find_31 : decode cX6_find 31 = .ok (.aload_n 1, 1) := by decide +kernel
theorem dX6_find_32 : decode cX6_find 32 = .ok (.iload_n 3, 1) := by decide +kernel
theorem dX6_find_33 : decode cX6_find 33 = .ok (.iload_n 2, 1) := by decide +kernel
theorem dX6_find_34 : decode cX6_find 34 = .ok (.invokevirtual 31, 3) := by decide +kernel
theorem dX6_find_37 : decode cX6_find 37 = .ok (.invokevirtual 35, 3) := by decide +kernel
theorem dX6_find_40 : decode cX6_find 40 = .ok (.iinc 3 1, 3) := by decide +kernel
theorem dX6_find_43 : decode cX6_find 43 = .ok (.goto (-25), 3) := by decide +kernel
theorem dX6_find_46 : decode cX6_find 46 = .ok (.return_, 1) := by decide +kernel
def fX6_find_18 (a2 : Int32) (a1_steps : Int32) (a1_mile : Int32) (a1_walkers : Int32) (a1_kinds_f : Nat → Int32) (a1_habits_f : Nat → Int32) (a1_hard_f : Nat → Int32)  : Nat → (Nat → Int32) → Int32 → (Nat → Int32)
  | 0, _, _ => default
  | n + 1, o_places_a_f_18, v18_3 => if a1_walkers ≤ v18_3 then o_places_a_f_18 else (xlet (fX4_put v18_3 (fX3_stoneOf v18_3 a2 a1_steps a1_mile a1_kinds_f a1_habits_f a1_hard_f) o_places_a_f_18 6) (fun u2 => fX6_find_18 a2 a1_steps a1_mile a1_walkers a1_kinds_f a1_habits_f a1_hard_f n u2 (v18_3 + 1)))
def fX6_find (a2 : Int32) (a1_steps : Int32) (a1_mile : Int32) (a1_walkers : Int32) (a1_kinds_f : Nat → Int32) (a1_habits_f : Nat → Int32) (a1_hard_f : Nat → Int32) (o_places_f : Nat → Int32) : (Nat → Int32) := fX6_find_18 a2 a1_steps a1_mile a1_walkers a1_kinds_f a1_habits_f a1_hard_f 1000 o_places_f 0
set_option maxHeartbeats 4000000 in
set_option maxRecDepth 100000 in
theorem c_X6_find (l : Launch) (D : va_G) (cI cZ : ClassId) (sz : Nat) (o : Nat) (a1 : Nat) (a2 : Int32) (a1_steps : Int32) (a1_mile : Int32) (a1_walkers : Int32) (a1_walked : Int32) (a1_hard : Nat) (a1_kinds : Nat) (a1_habits : Nat) (o_places : Nat) (o_walkers : Int32) (o_steps : Int32) (a1_kinds_a : Nat) (a1_kinds_f : Nat → Int32) (a1_habits_a : Nat) (a1_habits_f : Nat → Int32) (a1_hard_a : Nat) (a1_hard_f : Nat → Int32) (o_places_a : Nat) (o_places_f : Nat → Int32) (hw6 : a1_walkers.toInt ≤ 6) (hq2 : a1_steps.toInt ≤ 20) : Met l yX6_find wsX6_find ({ frames := 4, cells := 0, slots := 0, locals := 92 } : Room) (va_Pc [.ref o, .ref a1, .int a2] (xP D cI cZ [(a1, .inr (3, [.int a1_steps, .int a1_mile, .int a1_walkers, .int a1_walked, .ref a1_hard, .ref a1_kinds, .ref a1_habits])), (o, .inr (6, [.ref o_places, .int o_walkers, .int o_steps])), (a1_kinds, .inr (4, [.ref a1_kinds_a])), (a1_kinds_a, .inl (cI, 6, .inl a1_kinds_f)), (a1_habits, .inr (4, [.ref a1_habits_a])), (a1_habits_a, .inl (cI, 6, .inl a1_habits_f)), (a1_hard, .inr (4, [.ref a1_hard_a])), (a1_hard_a, .inl (cI, 21, .inl a1_hard_f)), (o_places, .inr (4, [.ref o_places_a])), (o_places_a, .inl (cI, 6, .inl o_places_f))] sz)) (va_Qv (fun (u : (Nat → Int32)) => u = fX6_find a2 a1_steps a1_mile a1_walkers a1_kinds_f a1_habits_f a1_hard_f o_places_f) (fun (u : (Nat → Int32)) t => xB D cI cZ [(a1, .inr (3, [.int a1_steps, .int a1_mile, .int a1_walkers, .int a1_walked, .ref a1_hard, .ref a1_kinds, .ref a1_habits])), (o, .inr (6, [.ref o_places, .int a1_walkers, .int a1_steps])), (a1_kinds, .inr (4, [.ref a1_kinds_a])), (a1_kinds_a, .inl (cI, 6, .inl a1_kinds_f)), (a1_habits, .inr (4, [.ref a1_habits_a])), (a1_habits_a, .inl (cI, 6, .inl a1_habits_f)), (a1_hard, .inr (4, [.ref a1_hard_a])), (a1_hard_a, .inl (cI, 21, .inl a1_hard_f)), (o_places, .inr (4, [.ref o_places_a])), (o_places_a, .inl (cI, 6, .inl u))] (va_A [(a1, .inr (3, [.int a1_steps, .int a1_mile, .int a1_walkers, .int a1_walked, .ref a1_hard, .ref a1_kinds, .ref a1_habits])), (o, .inr (6, [.ref o_places, .int o_walkers, .int o_steps])), (a1_kinds, .inr (4, [.ref a1_kinds_a])), (a1_kinds_a, .inl (cI, 6, .inl a1_kinds_f)), (a1_habits, .inr (4, [.ref a1_habits_a])), (a1_habits_a, .inl (cI, 6, .inl a1_habits_f)), (a1_hard, .inr (4, [.ref a1_hard_a])), (a1_hard_a, .inl (cI, 21, .inl a1_hard_f)), (o_places, .inr (4, [.ref o_places_a])), (o_places_a, .inl (cI, 6, .inl o_places_f))] sz) t) (va_A [(a1, .inr (3, [.int a1_steps, .int a1_mile, .int a1_walkers, .int a1_walked, .ref a1_hard, .ref a1_kinds, .ref a1_habits])), (o, .inr (6, [.ref o_places, .int o_walkers, .int o_steps])), (a1_kinds, .inr (4, [.ref a1_kinds_a])), (a1_kinds_a, .inl (cI, 6, .inl a1_kinds_f)), (a1_habits, .inr (4, [.ref a1_habits_a])), (a1_habits_a, .inl (cI, 6, .inl a1_habits_f)), (a1_hard, .inr (4, [.ref a1_hard_a])), (a1_hard_a, .inl (cI, 21, .inl a1_hard_f)), (o_places, .inr (4, [.ref o_places_a])), (o_places_a, .inl (cI, 6, .inl o_places_f))] sz)) 0 0 (va_A [(a1, .inr (3, [.int a1_steps, .int a1_mile, .int a1_walkers, .int a1_walked, .ref a1_hard, .ref a1_kinds, .ref a1_habits])), (o, .inr (6, [.ref o_places, .int o_walkers, .int o_steps])), (a1_kinds, .inr (4, [.ref a1_kinds_a])), (a1_kinds_a, .inl (cI, 6, .inl a1_kinds_f)), (a1_habits, .inr (4, [.ref a1_habits_a])), (a1_habits_a, .inl (cI, 6, .inl a1_habits_f)), (a1_hard, .inr (4, [.ref a1_hard_a])), (a1_hard_a, .inl (cI, 21, .inl a1_hard_f)), (o_places, .inr (4, [.ref o_places_a])), (o_places_a, .inl (cI, 6, .inl o_places_f))] sz) := by
  refine Met.ofW (cc := cX6_find) (maxL := 4) (ret := none) (by decide) rfl ?_
  intro p e s m args below meth c s₁ B hml hv
  obtain ⟨hargs, hsz, hP, hK, hD0, hE⟩ := hv
  subst hargs
  have hx := B.exec
  have hb := B.bytes
  have hr := B.returns
  have hts := atoms_spec (ws := wsX6_find) B.pre
  have hown : s.vm.findClass RX6 = some m.cls := findClass_of_methodNamed B.named
  have hlocks := B.notSynchronized
  subst hsz
  have hD := hD0.self (sz := s.heap.size)
  generalize hAe : va_A [(a1, .inr (3, [.int a1_steps, .int a1_mile, .int a1_walkers, .int a1_walked, .ref a1_hard, .ref a1_kinds, .ref a1_habits])), (o, .inr (6, [.ref o_places, .int o_walkers, .int o_steps])), (a1_kinds, .inr (4, [.ref a1_kinds_a])), (a1_kinds_a, .inl (cI, 6, .inl a1_kinds_f)), (a1_habits, .inr (4, [.ref a1_habits_a])), (a1_habits_a, .inl (cI, 6, .inl a1_habits_f)), (a1_hard, .inr (4, [.ref a1_hard_a])), (a1_hard_a, .inl (cI, 21, .inl a1_hard_f)), (o_places, .inr (4, [.ref o_places_a])), (o_places_a, .inl (cI, 6, .inl o_places_f))] s.heap.size = A at hD ⊢
  have hA : ∀ q : Nat, s.heap.size ≤ q → A q := fun q h => by rw [← hAe]; exact Or.inr h
  have hS : va_S A s.heap s.heap [] := va_S.rf
  have hl := lv_entry ([.ref o, .ref a1, .int a2]) (n := 4) (Nat.le_of_ble_eq_true rfl)
  rw [lg_entry_eq]
  generalize (lg_sl ([.ref o, .ref a1, .int a2]) ++ List.replicate (4 - (lg_sl ([.ref o, .ref a1, .int a2])).length) Slot.unset).toArray = ls at hl ⊢
  have hl : lv_has ls 4 [(0, .ref o), (1, .ref a1), (2, .int a2)] := hl
  refine wq (X := fun Q => ∀ (pc : Nat) (H : Heap) (locs : List Loc) (ls : Array Slot) (u : (Nat → Int32)) (hd : decode cX6_find pc = .ok (.return_, 1)) (hp : u = fX6_find a2 a1_steps a1_mile a1_walkers a1_kinds_f a1_habits_f a1_hard_f o_places_f) (hP : va_P D vwCl [(a1, .inr (3, [.int a1_steps, .int a1_mile, .int a1_walkers, .int a1_walked, .ref a1_hard, .ref a1_kinds, .ref a1_habits])), (o, .inr (6, [.ref o_places, .int a1_walkers, .int a1_steps])), (a1_kinds, .inr (4, [.ref a1_kinds_a])), (a1_kinds_a, .inl (cI, 6, .inl a1_kinds_f)), (a1_habits, .inr (4, [.ref a1_habits_a])), (a1_habits_a, .inl (cI, 6, .inl a1_habits_f)), (a1_hard, .inr (4, [.ref a1_hard_a])), (a1_hard_a, .inl (cI, 21, .inl a1_hard_f)), (o_places, .inr (4, [.ref o_places_a])), (o_places_a, .inl (cI, 6, .inl u))] H) (hD : va_D A [(a1, .inr (3, [.int a1_steps, .int a1_mile, .int a1_walkers, .int a1_walked, .ref a1_hard, .ref a1_kinds, .ref a1_habits])), (o, .inr (6, [.ref o_places, .int a1_walkers, .int a1_steps])), (a1_kinds, .inr (4, [.ref a1_kinds_a])), (a1_kinds_a, .inl (cI, 6, .inl a1_kinds_f)), (a1_habits, .inr (4, [.ref a1_habits_a])), (a1_habits_a, .inl (cI, 6, .inl a1_habits_f)), (a1_hard, .inr (4, [.ref a1_hard_a])), (a1_hard_a, .inl (cI, 21, .inl a1_hard_f)), (o_places, .inr (4, [.ref o_places_a])), (o_places_a, .inl (cI, 6, .inl u))]) (hS : va_S A s.heap H locs), W p l e ({ frames := 4, cells := 0, slots := 0, locals := 92 } : Room) s m ([.ref o, .ref a1, .int a2] : List Value).toArray below meth c H locs 0 0 Q (F0 m pc ls [])) ?_ (fun Q hret => ?_)
  · intro pc H locs ls u hd hp hP hD hS
    exact W.vret hx hb hr (fun t ht hW => ⟨⟨u, rfl, hp, by rw [ht]; exact hP, va_K.moved hW.alike hK, hD⟩, hS.F ht⟩) hS.2.2 hd
  have hin_3 : ∀ w ∈ u_ws RX3 TX3 7, w ∈ wsX6_find := by decide +kernel
  have hin_6 : ∀ w ∈ u_ws RX6 TX6 3, w ∈ wsX6_find := by decide +kernel
  have fl_14 := hts (.fieldLink RX6 14 "MileRoad$Stones" "places" "LMileRoad$Row;") (by decide +kernel)
  have fl_20 := hE.f 24 rfl ([.ref o, .ref a1, .int a2] : List Value).toArray
  have fl_26 := hts (.fieldLink RX6 26 "MileRoad$Stones" "walkers" "I") (by decide +kernel)
  have fl_27 := hE.f 25 rfl ([.ref o, .ref a1, .int a2] : List Value).toArray
  have fl_30 := hts (.fieldLink RX6 30 "MileRoad$Stones" "steps" "I") (by decide +kernel)
  have zl_0 : (0 : Int32).toInt = 0 := by decide
  have zl_1 : (1 : Int32).toInt = 1 := by decide
  have hF : fX6_find a2 a1_steps a1_mile a1_walkers a1_kinds_f a1_habits_f a1_hard_f o_places_f = fX6_find a2 a1_steps a1_mile a1_walkers a1_kinds_f a1_habits_f a1_hard_f o_places_f := rfl
  have L_18 : ∀ (n : Nat) (o_places_a_f_18 : Nat → Int32) (v18_3 : Int32) (h1_18 : 0 ≤ v18_3.toInt) (h2_18 : v18_3.toInt ≤ 6) (hm : 6 - v18_3.toInt < (n : Int)) (H : Heap) (locs : List Loc) (ls : Array Slot) (hl : lv_has ls 4 [(0, .ref o), (1, .ref a1), (2, .int a2), (3, .int v18_3)]) (hP : va_P D vwCl [(a1, .inr (3, [.int a1_steps, .int a1_mile, .int a1_walkers, .int a1_walked, .ref a1_hard, .ref a1_kinds, .ref a1_habits])), (o, .inr (6, [.ref o_places, .int a1_walkers, .int a1_steps])), (a1_kinds, .inr (4, [.ref a1_kinds_a])), (a1_kinds_a, .inl (cI, 6, .inl a1_kinds_f)), (a1_habits, .inr (4, [.ref a1_habits_a])), (a1_habits_a, .inl (cI, 6, .inl a1_habits_f)), (a1_hard, .inr (4, [.ref a1_hard_a])), (a1_hard_a, .inl (cI, 21, .inl a1_hard_f)), (o_places, .inr (4, [.ref o_places_a])), (o_places_a, .inl (cI, 6, .inl o_places_a_f_18))] H) (hD : va_D A [(a1, .inr (3, [.int a1_steps, .int a1_mile, .int a1_walkers, .int a1_walked, .ref a1_hard, .ref a1_kinds, .ref a1_habits])), (o, .inr (6, [.ref o_places, .int a1_walkers, .int a1_steps])), (a1_kinds, .inr (4, [.ref a1_kinds_a])), (a1_kinds_a, .inl (cI, 6, .inl a1_kinds_f)), (a1_habits, .inr (4, [.ref a1_habits_a])), (a1_habits_a, .inl (cI, 6, .inl a1_habits_f)), (a1_hard, .inr (4, [.ref a1_hard_a])), (a1_hard_a, .inl (cI, 21, .inl a1_hard_f)), (o_places, .inr (4, [.ref o_places_a])), (o_places_a, .inl (cI, 6, .inl o_places_a_f_18))]) (hS : va_S A s.heap H locs) (hF : fX6_find a2 a1_steps a1_mile a1_walkers a1_kinds_f a1_habits_f a1_hard_f o_places_f = fX6_find_18 a2 a1_steps a1_mile a1_walkers a1_kinds_f a1_habits_f a1_hard_f n o_places_a_f_18 v18_3), W p l e ({ frames := 4, cells := 0, slots := 0, locals := 92 } : Room) s m ([.ref o, .ref a1, .int a2] : List Value).toArray below meth c H locs 0 0 Q (F0 m 18 ls []) := by
    intro n
    induction n with
    | zero =>
      intro o_places_a_f_18 v18_3 h1_18 h2_18 hm H locs ls hl hP hD hS hF
      exact absurd hm (by omega)
    | succ n ih_18 =>
      intro o_places_a_f_18 v18_3 h1_18 h2_18 hm H locs ls hl hP hD hS hF
      refine lv_iload_n hx hb dX6_find_18 rfl (lv_at hl 3 rfl) ?_
      refine lv_aload_n hx hb dX6_find_19 rfl (lv_at hl 0 rfl) ?_
      refine xget hx hb hts hown hK 6 (C2 := RX6) (T := TX6) (N := 3) rfl hin_6 hP 1 rfl 1 (by decide) fl_26 rfl rfl rfl dX6_find_20 ?_
      refine lv_icmp_ge (tgt := 46) hx hb dX6_find_23 (by decide) (fun c_1 => ?_) (fun c_1 => ?_)
      · have kc_1 := t_le c_1
        exact hret _ _ _ _ o_places_a_f_18 dX6_find_46 ((hF.trans (by simp only [fX6_find_18, xlet, if_pos c_1])).symm) hP hD hS
      · have kc_1 := t_nle c_1
        refine lv_aload_n hx hb dX6_find_26 rfl (lv_at hl 0 rfl) ?_
        refine xget hx hb hts hown hK 6 (C2 := RX6) (T := TX6) (N := 3) rfl hin_6 hP 1 rfl 0 (by decide) fl_14 rfl rfl rfl dX6_find_27 ?_
        refine lv_iload_n hx hb dX6_find_30 rfl (lv_at hl 3 rfl) ?_
        refine lv_aload_n hx hb dX6_find_31 rfl (lv_at hl 1 rfl) ?_
        refine lv_iload_n hx hb dX6_find_32 rfl (lv_at hl 3 rfl) ?_
        refine lv_iload_n hx hb dX6_find_33 rfl (lv_at hl 2 rfl) ?_
        refine xcalli (S := Unit) (Wc := [(a1, .inr (3, [.int a1_steps, .int a1_mile, .int a1_walkers, .int a1_walked, .ref a1_hard, .ref a1_kinds, .ref a1_habits])), (a1_kinds, .inr (4, [.ref a1_kinds_a])), (a1_kinds_a, .inl (cI, 6, .inl a1_kinds_f)), (a1_habits, .inr (4, [.ref a1_habits_a])), (a1_habits_a, .inl (cI, 6, .inl a1_habits_f)), (a1_hard, .inr (4, [.ref a1_hard_a])), (a1_hard_a, .inl (cI, 21, .inl a1_hard_f))]) (wr := [(o, .inr (6, [.ref o_places, .int a1_walkers, .int a1_steps])), (o_places, .inr (4, [.ref o_places_a])), (o_places_a, .inl (cI, 6, .inl o_places_a_f_18))]) (W1 := (fun (u : Unit) => [(a1, .inr (3, [.int a1_steps, .int a1_mile, .int a1_walkers, .int a1_walked, .ref a1_hard, .ref a1_kinds, .ref a1_habits])), (a1_kinds, .inr (4, [.ref a1_kinds_a])), (a1_kinds_a, .inl (cI, 6, .inl a1_kinds_f)), (a1_habits, .inr (4, [.ref a1_habits_a])), (a1_habits_a, .inl (cI, 6, .inl a1_habits_f)), (a1_hard, .inr (4, [.ref a1_hard_a])), (a1_hard_a, .inl (cI, 21, .inl a1_hard_f))])) (Wn := (fun (u : Unit) => [(a1, .inr (3, [.int a1_steps, .int a1_mile, .int a1_walkers, .int a1_walked, .ref a1_hard, .ref a1_kinds, .ref a1_habits])), (o, .inr (6, [.ref o_places, .int a1_walkers, .int a1_steps])), (a1_kinds, .inr (4, [.ref a1_kinds_a])), (a1_kinds_a, .inl (cI, 6, .inl a1_kinds_f)), (a1_habits, .inr (4, [.ref a1_habits_a])), (a1_habits_a, .inl (cI, 6, .inl a1_habits_f)), (a1_hard, .inr (4, [.ref a1_hard_a])), (a1_hard_a, .inl (cI, 21, .inl a1_hard_f)), (o_places, .inr (4, [.ref o_places_a])), (o_places_a, .inl (cI, 6, .inl o_places_a_f_18))])) (xrunV hx hb hml hown hts (c_X3_stoneOf l D cI cZ _ a1 v18_3 a2 a1_steps a1_mile a1_walkers a1_walked a1_hard a1_kinds a1_habits a1_kinds_a a1_kinds_f a1_habits_a a1_habits_f a1_hard_a a1_hard_f hq2) (cwV 2 hts gX6_find_X3_stoneOf rfl rfl rfl (by decide +kernel) ⟨Nat.le_of_ble_eq_true rfl, Nat.le_of_ble_eq_true rfl⟩) hE hK hP hD [0, 2, 3, 4, 5, 6, 7] rfl rfl 0 3 (T := TX3) (N := 7) rfl rfl rfl hl.1 rfl (Nat.le_of_ble_eq_true rfl) dX6_find_34 ⟨Nat.le_of_ble_eq_true rfl, Nat.le_of_ble_eq_true rfl⟩) hP hD hS hA [0, 2, 3, 4, 5, 6, 7] [1, 8, 9] [3, 0, 4, 5, 6, 7, 8, 9, 1, 2] rfl rfl rfl (by decide) (fun _ => rfl) rfl (fun r1 u H locs hw hz hP hD hS => ?_)
        subst hw
        refine xcallv (S := (Nat → Int32)) (Wc := [(o_places, .inr (4, [.ref o_places_a])), (o_places_a, .inl (cI, 6, .inl o_places_a_f_18))]) (wr := [(a1, .inr (3, [.int a1_steps, .int a1_mile, .int a1_walkers, .int a1_walked, .ref a1_hard, .ref a1_kinds, .ref a1_habits])), (o, .inr (6, [.ref o_places, .int a1_walkers, .int a1_steps])), (a1_kinds, .inr (4, [.ref a1_kinds_a])), (a1_kinds_a, .inl (cI, 6, .inl a1_kinds_f)), (a1_habits, .inr (4, [.ref a1_habits_a])), (a1_habits_a, .inl (cI, 6, .inl a1_habits_f)), (a1_hard, .inr (4, [.ref a1_hard_a])), (a1_hard_a, .inl (cI, 21, .inl a1_hard_f))]) (W1 := (fun (u : (Nat → Int32)) => [(o_places, .inr (4, [.ref o_places_a])), (o_places_a, .inl (cI, 6, .inl u))])) (Wn := (fun (u : (Nat → Int32)) => [(a1, .inr (3, [.int a1_steps, .int a1_mile, .int a1_walkers, .int a1_walked, .ref a1_hard, .ref a1_kinds, .ref a1_habits])), (o, .inr (6, [.ref o_places, .int a1_walkers, .int a1_steps])), (a1_kinds, .inr (4, [.ref a1_kinds_a])), (a1_kinds_a, .inl (cI, 6, .inl a1_kinds_f)), (a1_habits, .inr (4, [.ref a1_habits_a])), (a1_habits_a, .inl (cI, 6, .inl a1_habits_f)), (a1_hard, .inr (4, [.ref a1_hard_a])), (a1_hard_a, .inl (cI, 21, .inl a1_hard_f)), (o_places, .inr (4, [.ref o_places_a])), (o_places_a, .inl (cI, 6, .inl u))])) (xrunV hx hb hml hown hts (c_X4_put l D cI cZ _ o_places v18_3 (fX3_stoneOf v18_3 a2 a1_steps a1_mile a1_kinds_f a1_habits_f a1_hard_f) o_places_a o_places_a_f_18 6 (by decide)) (cwV 2 hts gX6_find_X4_put rfl rfl rfl (by decide +kernel) ⟨Nat.le_of_ble_eq_true rfl, Nat.le_of_ble_eq_true rfl⟩) hE hK hP hD [8, 9] rfl rfl 0 4 (T := TX4) (N := 1) rfl rfl rfl hl.1 rfl (Nat.le_of_ble_eq_true rfl) dX6_find_37 ⟨Nat.le_of_ble_eq_true rfl, Nat.le_of_ble_eq_true rfl⟩) hP hD hS hA [8, 9] [0, 1, 2, 3, 4, 5, 6, 7] [0, 1, 2, 3, 4, 5, 6, 7, 8, 9] rfl rfl rfl (by decide) (fun _ => rfl) rfl (fun  u H locs hw hz hP hD hS => ?_)
        obtain ⟨u2, hu⟩ : ∃ z, z = u := ⟨u, rfl⟩
        subst hu
        have hw_4 := hw.symm
        have hP : va_P D vwCl [(a1, .inr (3, [.int a1_steps, .int a1_mile, .int a1_walkers, .int a1_walked, .ref a1_hard, .ref a1_kinds, .ref a1_habits])), (o, .inr (6, [.ref o_places, .int a1_walkers, .int a1_steps])), (a1_kinds, .inr (4, [.ref a1_kinds_a])), (a1_kinds_a, .inl (cI, 6, .inl a1_kinds_f)), (a1_habits, .inr (4, [.ref a1_habits_a])), (a1_habits_a, .inl (cI, 6, .inl a1_habits_f)), (a1_hard, .inr (4, [.ref a1_hard_a])), (a1_hard_a, .inl (cI, 21, .inl a1_hard_f)), (o_places, .inr (4, [.ref o_places_a])), (o_places_a, .inl (cI, 6, .inl u2))] H := hP
        have hD : va_D A [(a1, .inr (3, [.int a1_steps, .int a1_mile, .int a1_walkers, .int a1_walked, .ref a1_hard, .ref a1_kinds, .ref a1_habits])), (o, .inr (6, [.ref o_places, .int a1_walkers, .int a1_steps])), (a1_kinds, .inr (4, [.ref a1_kinds_a])), (a1_kinds_a, .inl (cI, 6, .inl a1_kinds_f)), (a1_habits, .inr (4, [.ref a1_habits_a])), (a1_habits_a, .inl (cI, 6, .inl a1_habits_f)), (a1_hard, .inr (4, [.ref a1_hard_a])), (a1_hard_a, .inl (cI, 21, .inl a1_hard_f)), (o_places, .inr (4, [.ref o_places_a])), (o_places_a, .inl (cI, 6, .inl u2))] := hD
        refine lv_iinc (v := (v18_3 + 1)) (lv' := [(3, .int (v18_3 + 1)), (0, .ref o), (1, .ref a1), (2, .int a2)]) hx hb dX6_find_40 hl (k := 3) rfl (by rfl) (by decide) rfl (fun ls hl => ?_)
        refine lv_goto (tgt := 18) hx hb dX6_find_43 (by decide) ?_
        have z_1 : (v18_3 + 1).toInt = v18_3.toInt + (1 : Int32).toInt := z_add (by omega) (by omega)
        exact ih_18 u2 (v18_3 + 1) (by first | assumption | omega | decide | (split <;> rename_i hh <;> first | (have h9 := t_nlt hh; omega) | (have h9 := t_lt hh; omega) | (have h9 := t_nle hh; omega) | (have h9 := t_le hh; omega))) (by first | assumption | omega | decide | (split <;> rename_i hh <;> first | (have h9 := t_nlt hh; omega) | (have h9 := t_lt hh; omega) | (have h9 := t_nle hh; omega) | (have h9 := t_le hh; omega))) (by first | assumption | omega | decide | (split <;> rename_i hh <;> first | (have h9 := t_nlt hh; omega) | (have h9 := t_lt hh; omega) | (have h9 := t_nle hh; omega) | (have h9 := t_le hh; omega))) _ _ _ (lv_sub hl [1, 2, 3, 0] rfl) hP hD hS (hF.trans (by simp only [fX6_find_18, xlet, if_neg c_1, ↓hw_4]))
  refine lv_aload_n hx hb dX6_find_0 rfl (lv_at hl 0 rfl) ?_
  refine lv_aload_n hx hb dX6_find_1 rfl (lv_at hl 1 rfl) ?_
  refine xgetN hx hb hts hown hK 3 (C2 := RX3) (T := TX3) (N := 7) rfl hin_3 hP 0 rfl 2 (by decide) fl_20 rfl rfl rfl dX6_find_2 ?_
  refine xput hx hb hts hown hK 6 (C2 := RX6) (T := TX6) (N := 3) tyX6 rfl tyX6_ok nmX6 hin_6 hP hD hS 1 rfl 1 (by decide) fl_26 rfl rfl rfl rfl rfl (Nat.le_of_ble_eq_true rfl) dX6_find_5 [(a1, .inr (3, [.int a1_steps, .int a1_mile, .int a1_walkers, .int a1_walked, .ref a1_hard, .ref a1_kinds, .ref a1_habits])), (o, .inr (6, [.ref o_places, .int a1_walkers, .int o_steps])), (a1_kinds, .inr (4, [.ref a1_kinds_a])), (a1_kinds_a, .inl (cI, 6, .inl a1_kinds_f)), (a1_habits, .inr (4, [.ref a1_habits_a])), (a1_habits_a, .inl (cI, 6, .inl a1_habits_f)), (a1_hard, .inr (4, [.ref a1_hard_a])), (a1_hard_a, .inl (cI, 21, .inl a1_hard_f)), (o_places, .inr (4, [.ref o_places_a])), (o_places_a, .inl (cI, 6, .inl o_places_f))] rfl (fun H locs hP hD hS => ?_)
  refine lv_aload_n hx hb dX6_find_8 rfl (lv_at hl 0 rfl) ?_
  refine lv_aload_n hx hb dX6_find_9 rfl (lv_at hl 1 rfl) ?_
  refine xgetN hx hb hts hown hK 3 (C2 := RX3) (T := TX3) (N := 7) rfl hin_3 hP 0 rfl 0 (by decide) fl_27 rfl rfl rfl dX6_find_10 ?_
  refine xput hx hb hts hown hK 6 (C2 := RX6) (T := TX6) (N := 3) tyX6 rfl tyX6_ok nmX6 hin_6 hP hD hS 1 rfl 2 (by decide) fl_30 rfl rfl rfl rfl rfl (Nat.le_of_ble_eq_true rfl) dX6_find_13 [(a1, .inr (3, [.int a1_steps, .int a1_mile, .int a1_walkers, .int a1_walked, .ref a1_hard, .ref a1_kinds, .ref a1_habits])), (o, .inr (6, [.ref o_places, .int a1_walkers, .int a1_steps])), (a1_kinds, .inr (4, [.ref a1_kinds_a])), (a1_kinds_a, .inl (cI, 6, .inl a1_kinds_f)), (a1_habits, .inr (4, [.ref a1_habits_a])), (a1_habits_a, .inl (cI, 6, .inl a1_habits_f)), (a1_hard, .inr (4, [.ref a1_hard_a])), (a1_hard_a, .inl (cI, 21, .inl a1_hard_f)), (o_places, .inr (4, [.ref o_places_a])), (o_places_a, .inl (cI, 6, .inl o_places_f))] rfl (fun H locs hP hD hS => ?_)
  refine lv_iconst (v := 0) hx hb dX6_find_16 (by decide) ?_
  refine lv_istore_n (lv' := [(3, .int 0), (0, .ref o), (1, .ref a1), (2, .int a2)]) hx hb dX6_find_17 rfl hl (by decide) rfl (fun ls hl => ?_)
  exact L_18 1000 o_places_f 0 (by first | assumption | omega | decide | (split <;> rename_i hh <;> first | (have h9 := t_nlt hh; omega) | (have h9 := t_lt hh; omega) | (have h9 := t_nle hh; omega) | (have h9 := t_le hh; omega))) (by first | assumption | omega | decide | (split <;> rename_i hh <;> first | (have h9 := t_nlt hh; omega) | (have h9 := t_lt hh; omega) | (have h9 := t_nle hh; omega) | (have h9 := t_le hh; omega))) (by first | assumption | omega | decide | (split <;> rename_i hh <;> first | (have h9 := t_nlt hh; omega) | (have h9 := t_lt hh; omega) | (have h9 := t_nle hh; omega) | (have h9 := t_le hh; omega))) _ _ _ (lv_sub hl [1, 2, 3, 0] rfl) hP hD hS (hF.trans (by simp only [fX6_find, xlet]))
theorem dJ6_bitCount_0f7a4_0 : decode cJ6_bitCount_0f7a4 0 = .ok (.iload_n 0, 1) := by decide +kernel
theorem dJ6_bitCount_0f7a4_1 : decode cJ6_bitCount_0f7a4 1 = .ok (.iload_n 0, 1) := by decide +kernel
theorem dJ6_bitCount_0f7a4_2 : decode cJ6_bitCount_0f7a4 2 = .ok (.iconst 1, 1) := by decide +kernel
theorem dJ6_bitCount_0f7a4_3 : decode cJ6_bitCount_0f7a4 3 = .ok (.iushr, 1) := by decide +kernel
theorem dJ6_bitCount_0f7a4_4 : decode cJ6_bitCount_0f7a4 4 = .ok (.ldc_w 265, 3) := by decide +kernel
theorem dJ6_bitCount_0f7a4_7 : decode cJ6_bitCount_0f7a4 7 = .ok (.iand, 1) := by decide +kernel
theorem dJ6_bitCount_0f7a4_8 : decode cJ6_bitCount_0f7a4 8 = .ok (.isub, 1) := by decide +kernel
theorem dJ6_bitCount_0f7a4_9 : decode cJ6_bitCount_0f7a4 9 = .ok (.istore_n 0, 1) := by decide +kernel
theorem dJ6_bitCount_0f7a4_10 : decode cJ6_bitCount_0f7a4 10 = .ok (.iload_n 0, 1) := by decide +kernel
theorem dJ6_bitCount_0f7a4_11 : decode cJ6_bitCount_0f7a4 11 = .ok (.ldc_w 266, 3) := by decide +kernel
theorem dJ6_bitCount_0f7a4_14 : decode cJ6_bitCount_0f7a4 14 = .ok (.iand, 1) := by decide +kernel
theorem dJ6_bitCount_0f7a4_15 : decode cJ6_bitCount_0f7a4 15 = .ok (.iload_n 0, 1) := by decide +kernel
theorem dJ6_bitCount_0f7a4_16 : decode cJ6_bitCount_0f7a4 16 = .ok (.iconst 2, 1) := by decide +kernel
theorem dJ6_bitCount_0f7a4_17 : decode cJ6_bitCount_0f7a4 17 = .ok (.iushr, 1) := by decide +kernel
theorem dJ6_bitCount_0f7a4_18 : decode cJ6_bitCount_0f7a4 18 = .ok (.ldc_w 266, 3) := by decide +kernel
theorem dJ6_bitCount_0f7a4_21 : decode cJ6_bitCount_0f7a4 21 = .ok (.iand, 1) := by decide +kernel
theorem dJ6_bitCount_0f7a4_22 : decode cJ6_bitCount_0f7a4 22 = .ok (.iadd, 1) := by decide +kernel
theorem dJ6_bitCount_0f7a4_23 : decode cJ6_bitCount_0f7a4 23 = .ok (.istore_n 0, 1) := by decide +kernel
theorem dJ6_bitCount_0f7a4_24 : decode cJ6_bitCount_0f7a4 24 = .ok (.iload_n 0, 1) := by decide +kernel
theorem dJ6_bitCount_0f7a4_25 : decode cJ6_bitCount_0f7a4 25 = .ok (.iload_n 0, 1) := by decide +kernel
theorem dJ6_bitCount_0f7a4_26 : decode cJ6_bitCount_0f7a4 26 = .ok (.iconst 4, 1) := by decide +kernel
theorem dJ6_bitCount_0f7a4_27 : decode cJ6_bitCount_0f7a4 27 = .ok (.iushr, 1) := by decide +kernel
theorem dJ6_bitCount_0f7a4_28 : decode cJ6_bitCount_0f7a4 28 = .ok (.iadd, 1) := by decide +kernel
theorem dJ6_bitCount_0f7a4_29 : decode cJ6_bitCount_0f7a4 29 = .ok (.ldc_w 267, 3) := by decide +kernel
theorem dJ6_bitCount_0f7a4_32 : decode cJ6_bitCount_0f7a4 32 = .ok (.iand, 1) := by decide +kernel
theorem dJ6_bitCount_0f7a4_33 : decode cJ6_bitCount_0f7a4 33 = .ok (.istore_n 0, 1) := by decide +kernel
theorem dJ6_bitCount_0f7a4_34 : decode cJ6_bitCount_0f7a4 34 = .ok (.iload_n 0, 1) := by decide +kernel
theorem dJ6_bitCount_0f7a4_35 : decode cJ6_bitCount_0f7a4 35 = .ok (.iload_n 0, 1) := by decide +kernel
theorem dJ6_bitCount_0f7a4_36 : decode cJ6_bitCount_0f7a4 36 = .ok (.bipush 8, 2) := by decide +kernel
theorem dJ6_bitCount_0f7a4_38 : decode cJ6_bitCount_0f7a4 38 = .ok (.iushr, 1) := by decide +kernel
theorem dJ6_bitCount_0f7a4_39 : decode cJ6_bitCount_0f7a4 39 = .ok (.iadd, 1) := by decide +kernel
theorem dJ6_bitCount_0f7a4_40 : decode cJ6_bitCount_0f7a4 40 = .ok (.istore_n 0, 1) := by decide +kernel
theorem dJ6_bitCount_0f7a4_41 : decode cJ6_bitCount_0f7a4 41 = .ok (.iload_n 0, 1) := by decide +kernel
theorem dJ6_bitCount_0f7a4_42 : decode cJ6_bitCount_0f7a4 42 = .ok (.iload_n 0, 1) := by decide +kernel
theorem dJ6_bitCount_0f7a4_43 : decode cJ6_bitCount_0f7a4 43 = .ok (.bipush 16, 2) := by decide +kernel
theorem dJ6_bitCount_0f7a4_45 : decode cJ6_bitCount_0f7a4 45 = .ok (.iushr, 1) := by decide +kernel
theorem dJ6_bitCount_0f7a4_46 : decode cJ6_bitCount_0f7a4 46 = .ok (.iadd, 1) := by decide +kernel
theorem dJ6_bitCount_0f7a4_47 : decode cJ6_bitCount_0f7a4 47 = .ok (.istore_n 0, 1) := by decide +kernel
theorem dJ6_bitCount_0f7a4_48 : decode cJ6_bitCount_0f7a4 48 = .ok (.iload_n 0, 1) := by decide +kernel
theorem dJ6_bitCount_0f7a4_49 : decode cJ6_bitCount_0f7a4 49 = .ok (.bipush 63, 2) := by decide +kernel
theorem dJ6_bitCount_0f7a4_51 : decode cJ6_bitCount_0f7a4 51 = .ok (.iand, 1) := by decide +kernel
theorem dJ6_bitCount_0f7a4_52 : decode cJ6_bitCount_0f7a4 52 = .ok (.ireturn, 1) := by decide +kernel
def fJ6_bitCount_0f7a4 (a1 : Int32) : Int32 := xlet (a1 - ((a1.toUInt32 >>> ((1 : Int32).toUInt32 &&& Int32.toUInt32 31)).toInt32 &&& 1431655765)) (fun y_1 => xlet ((y_1 &&& 858993459) + ((y_1.toUInt32 >>> ((2 : Int32).toUInt32 &&& Int32.toUInt32 31)).toInt32 &&& 858993459)) (fun y_2 => xlet ((y_2 + (y_2.toUInt32 >>> ((4 : Int32).toUInt32 &&& Int32.toUInt32 31)).toInt32) &&& 252645135) (fun y_3 => xlet (y_3 + (y_3.toUInt32 >>> ((8 : Int32).toUInt32 &&& Int32.toUInt32 31)).toInt32) (fun y_4 => xlet (y_4 + (y_4.toUInt32 >>> ((16 : Int32).toUInt32 &&& Int32.toUInt32 31)).toInt32) (fun y_5 => (y_5 &&& 63))))))
set_option maxHeartbeats 4000000 in
set_option maxRecDepth 100000 in
theorem c_J6_bitCount_0f7a4 (l : Launch) (D : va_G) (cI cZ : ClassId) (sz : Nat) (a1 : Int32)  : Met l yJ6_bitCount_0f7a4 wsJ6_bitCount_0f7a4 ({ frames := 0, cells := 0, slots := 0, locals := 0 } : Room) (va_Pc [.int a1] (xP D cI cZ [] sz)) (va_Qi (fun (r : Int32) (u : Unit) => r = fJ6_bitCount_0f7a4 a1) (fun (u : Unit) t => xB D cI cZ [] (va_A [] sz) t) (va_A [] sz)) 0 0 (va_A [] sz) := by
  refine Met.ofW (cc := cJ6_bitCount_0f7a4) (maxL := 1) (ret := (some .int)) (by decide) rfl ?_
  intro p e s m args below meth c s₁ B hml hv
  obtain ⟨hargs, hsz, hP, hK, hD0, hE⟩ := hv
  subst hargs
  have hx := B.exec
  have hb := B.bytes
  have hr := B.returns
  have hts := atoms_spec (ws := wsJ6_bitCount_0f7a4) B.pre
  have hown : s.vm.findClass RJ6 = some m.cls := findClass_of_methodNamed B.named
  have hlocks := B.notSynchronized
  subst hsz
  have hD := hD0.self (sz := s.heap.size)
  generalize hAe : va_A [] s.heap.size = A at hD ⊢
  have hA : ∀ q : Nat, s.heap.size ≤ q → A q := fun q h => by rw [← hAe]; exact Or.inr h
  have hS : va_S A s.heap s.heap [] := va_S.rf
  have hl := lv_entry ([.int a1]) (n := 1) (Nat.le_of_ble_eq_true rfl)
  rw [lg_entry_eq]
  generalize (lg_sl ([.int a1]) ++ List.replicate (1 - (lg_sl ([.int a1])).length) Slot.unset).toArray = ls at hl ⊢
  have hl : lv_has ls 1 [(0, .int a1)] := hl
  refine wq (X := fun Q => ∀ (pc : Nat) (H : Heap) (locs : List Loc) (ls : Array Slot) (r : Int32) (u : Unit) (hd : decode cJ6_bitCount_0f7a4 pc = .ok (.ireturn, 1)) (hp : r = fJ6_bitCount_0f7a4 a1) (hP : va_P D vwCl [] H) (hD : va_D A []) (hS : va_S A s.heap H locs), W p l e ({ frames := 0, cells := 0, slots := 0, locals := 0 } : Room) s m ([.int a1] : List Value).toArray below meth c H locs 0 0 Q (F0 m pc ls [.int r])) ?_ (fun Q hret => ?_)
  · intro pc H locs ls r u hd hp hP hD hS
    exact W.iret (v := r) hx hb hr (fun t ht hW => ⟨⟨r, u, rfl, hp, by rw [ht]; exact hP, va_K.moved hW.alike hK, hD⟩, hS.F ht⟩) hS.2.2 hd
  have hF : fJ6_bitCount_0f7a4 a1 = fJ6_bitCount_0f7a4 a1 := rfl
  refine lv_iload_n hx hb dJ6_bitCount_0f7a4_0 rfl (lv_at hl 0 rfl) ?_
  refine lv_iload_n hx hb dJ6_bitCount_0f7a4_1 rfl (lv_at hl 0 rfl) ?_
  refine lv_iconst (v := 1) hx hb dJ6_bitCount_0f7a4_2 (by decide) ?_
  refine lv_iushr (v := (a1.toUInt32 >>> ((1 : Int32).toUInt32 &&& Int32.toUInt32 31)).toInt32) hx hb dJ6_bitCount_0f7a4_3 rfl ?_
  refine lv_ldcw (v := 1431655765) hx hb hown (hts (.constant RJ6 265 1431655765) (by decide +kernel)) dJ6_bitCount_0f7a4_4 ?_
  refine lv_iand hx hb dJ6_bitCount_0f7a4_7 ?_
  refine lv_isub hx hb dJ6_bitCount_0f7a4_8 ?_
  refine lv_topi (fun y_1 hq_y_1 => ?_)
  have hy_y_1 := hq_y_1.symm
  refine lv_istore_n (lv' := [(0, .int y_1)]) hx hb dJ6_bitCount_0f7a4_9 rfl hl (by decide) rfl (fun ls hl => ?_)
  refine lv_iload_n hx hb dJ6_bitCount_0f7a4_10 rfl (lv_at hl 0 rfl) ?_
  refine lv_ldcw (v := 858993459) hx hb hown (hts (.constant RJ6 266 858993459) (by decide +kernel)) dJ6_bitCount_0f7a4_11 ?_
  refine lv_iand hx hb dJ6_bitCount_0f7a4_14 ?_
  refine lv_iload_n hx hb dJ6_bitCount_0f7a4_15 rfl (lv_at hl 0 rfl) ?_
  refine lv_iconst (v := 2) hx hb dJ6_bitCount_0f7a4_16 (by decide) ?_
  refine lv_iushr (v := (y_1.toUInt32 >>> ((2 : Int32).toUInt32 &&& Int32.toUInt32 31)).toInt32) hx hb dJ6_bitCount_0f7a4_17 rfl ?_
  refine lv_ldcw (v := 858993459) hx hb hown (hts (.constant RJ6 266 858993459) (by decide +kernel)) dJ6_bitCount_0f7a4_18 ?_
  refine lv_iand hx hb dJ6_bitCount_0f7a4_21 ?_
  refine lv_iadd hx hb dJ6_bitCount_0f7a4_22 ?_
  refine lv_topi (fun y_2 hq_y_2 => ?_)
  have hy_y_2 := hq_y_2.symm
  refine lv_istore_n (lv' := [(0, .int y_2)]) hx hb dJ6_bitCount_0f7a4_23 rfl hl (by decide) rfl (fun ls hl => ?_)
  refine lv_iload_n hx hb dJ6_bitCount_0f7a4_24 rfl (lv_at hl 0 rfl) ?_
  refine lv_iload_n hx hb dJ6_bitCount_0f7a4_25 rfl (lv_at hl 0 rfl) ?_
  refine lv_iconst (v := 4) hx hb dJ6_bitCount_0f7a4_26 (by decide) ?_
  refine lv_iushr (v := (y_2.toUInt32 >>> ((4 : Int32).toUInt32 &&& Int32.toUInt32 31)).toInt32) hx hb dJ6_bitCount_0f7a4_27 rfl ?_
  refine lv_iadd hx hb dJ6_bitCount_0f7a4_28 ?_
  refine lv_ldcw (v := 252645135) hx hb hown (hts (.constant RJ6 267 252645135) (by decide +kernel)) dJ6_bitCount_0f7a4_29 ?_
  refine lv_iand hx hb dJ6_bitCount_0f7a4_32 ?_
  refine lv_topi (fun y_3 hq_y_3 => ?_)
  have hy_y_3 := hq_y_3.symm
  refine lv_istore_n (lv' := [(0, .int y_3)]) hx hb dJ6_bitCount_0f7a4_33 rfl hl (by decide) rfl (fun ls hl => ?_)
  refine lv_iload_n hx hb dJ6_bitCount_0f7a4_34 rfl (lv_at hl 0 rfl) ?_
  refine lv_iload_n hx hb dJ6_bitCount_0f7a4_35 rfl (lv_at hl 0 rfl) ?_
  refine lv_bipush (v := 8) hx hb dJ6_bitCount_0f7a4_36 (by decide) ?_
  refine lv_iushr (v := (y_3.toUInt32 >>> ((8 : Int32).toUInt32 &&& Int32.toUInt32 31)).toInt32) hx hb dJ6_bitCount_0f7a4_38 rfl ?_
  refine lv_iadd hx hb dJ6_bitCount_0f7a4_39 ?_
  refine lv_topi (fun y_4 hq_y_4 => ?_)
  have hy_y_4 := hq_y_4.symm
  refine lv_istore_n (lv' := [(0, .int y_4)]) hx hb dJ6_bitCount_0f7a4_40 rfl hl (by decide) rfl (fun ls hl => ?_)
  refine lv_iload_n hx hb dJ6_bitCount_0f7a4_41 rfl (lv_at hl 0 rfl) ?_
  refine lv_iload_n hx hb dJ6_bitCount_0f7a4_42 rfl (lv_at hl 0 rfl) ?_
  refine lv_bipush (v := 16) hx hb dJ6_bitCount_0f7a4_43 (by decide) ?_
  refine lv_iushr (v := (y_4.toUInt32 >>> ((16 : Int32).toUInt32 &&& Int32.toUInt32 31)).toInt32) hx hb dJ6_bitCount_0f7a4_45 rfl ?_
  refine lv_iadd hx hb dJ6_bitCount_0f7a4_46 ?_
  refine lv_topi (fun y_5 hq_y_5 => ?_)
  have hy_y_5 := hq_y_5.symm
  refine lv_istore_n (lv' := [(0, .int y_5)]) hx hb dJ6_bitCount_0f7a4_47 rfl hl (by decide) rfl (fun ls hl => ?_)
  refine lv_iload_n hx hb dJ6_bitCount_0f7a4_48 rfl (lv_at hl 0 rfl) ?_
  refine lv_bipush (v := 63) hx hb dJ6_bitCount_0f7a4_49 (by decide) ?_
  refine lv_iand hx hb dJ6_bitCount_0f7a4_51 ?_
  exact hret _ _ _ _ (y_5 &&& 63) () dJ6_bitCount_0f7a4_52 ((hF.trans (by simp only [fJ6_bitCount_0f7a4, xlet, ↓hy_y_1, ↓hy_y_2, ↓hy_y_3, ↓hy_y_4, ↓hy_y_5])).symm) hP hD hS
set_option maxRecDepth 20000 in
theorem ggX1_add_X4_shift : GoodIn wsX1_add wsX4_shift := goodIn_r _ [9, 10, 19] (by decide +kernel) (by decide +kernel)
set_option maxRecDepth 20000 in
theorem gX1_add_X4_shift : GoodIn wsX1_add (wsV RX1 30 RX4 yX4_shift wsX4_shift) := goodIn_app (goodIn_of _ (by decide +kernel)) ggX1_add_X4_shift
set_option maxRecDepth 20000 in
theorem ggX1_add_X4_put : GoodIn wsX1_add wsX4_put := goodIn_r _ [14, 10, 19] (by decide +kernel) (by decide +kernel)
set_option maxRecDepth 20000 in
theorem gX1_add_X4_put : GoodIn wsX1_add (wsV RX1 33 RX4 yX4_put wsX4_put) := goodIn_app (goodIn_of _ (by decide +kernel)) ggX1_add_X4_put
theorem dX1_add_0 : decode cX1_add 0 = .ok (.aload_n 0, 1) := by decide +kernel
theorem dX1_add_1 : decode cX1_add 1 = .ok (.getfield 26, 3) := by decide +kernel
theorem dX1_add_4 : decode cX1_add 4 = .ok (.bipush 8, 2) := by decide +kernel
theorem dX1_add_6 : decode cX1_add 6 = .ok (.if_icmp .lt 30, 3) := by decide +kernel
theorem dX1_add_9 : decode cX1_add 9 = .ok (.aload_n 0, 1) := by decide +kernel
theorem dX1_add_10 : decode cX1_add 10 = .ok (.getfield 14, 3) := by decide +kernel
theorem dX1_add_13 : decode cX1_add 13 = .ok (.invokevirtual 30, 3) := by decide +kernel
theorem dX1_add_16 : decode cX1_add 16 = .ok (.aload_n 0, 1) := by decide +kernel
theorem dX1_add_17 : decode cX1_add 17 = .ok (.getfield 20, 3) := by decide +kernel
theorem dX1_add_20 : decode cX1_add 20 = .ok (.invokevirtual 30, 3) := by decide +kernel
theorem dX1_add_23 : decode cX1_add 23 = .ok (.aload_n 0, 1) := by decide +kernel
theorem dX1_add_24 : decode cX1_add 24 = .ok (.getfield 23, 3) := by decide +kernel
theorem dX1_add_27 : decode cX1_add 27 = .ok (.invokevirtual 30, 3) := by decide +kernel
theorem dX1_add_30 : decode cX1_add 30 = .ok (.aload_n 0, 1) := by decide +kernel
theorem dX1_add_31 : decode cX1_add 31 = .ok (.bipush 7, 2) := by decide +kernel
theorem dX1_add_33 : decode cX1_add 33 = .ok (.putfield 26, 3) := by decide +kernel
theorem dX1_add_36 : decode cX1_add 36 = .ok (.aload_n 0, 1) := by decide +kernel
theorem dX1_add_37 : decode cX1_add 37 = .ok (.getfield 14, 3) := by decide +kernel
theorem dX1_add_40 : decode cX1_add 40 = .ok (.aload_n 0, 1) := by decide +kernel
theorem dX1_add_41 : decode cX1_add 41 = .ok (.getfield 26, 3) := by decide +kernel
theorem dX1_add_44 : decode cX1_add 44 = .ok (.iload_n 1, 1) := by decide +kernel
theorem dX1_add_45 : decode cX1_add 45 = .ok (.invokevirtual 33, 3) := by decide +kernel
theorem dX1_add_48 : decode cX1_add 48 = .ok (.aload_n 0, 1) := by decide +kernel
theorem dX1_add_49 : decode cX1_add 49 = .ok (.getfield 20, 3) := by decide +kernel
theorem dX1_add_52 : decode cX1_add 52 = .ok (.aload_n 0, 1) := by decide +kernel
theorem dX1_add_53 : decode cX1_add 53 = .ok (.getfield 26, 3) := by decide +kernel
theorem dX1_add_56 : decode cX1_add 56 = .ok (.iload_n 2, 1) := by decide +kernel
theorem dX1_add_57 : decode cX1_add 57 = .ok (.invokevirtual 33, 3) := by decide +kernel
theorem dX1_add_60 : decode cX1_add 60 = .ok (.aload_n 0, 1) := by decide +kernel
theorem dX1_add_61 : decode cX1_add 61 = .ok (.getfield 23, 3) := by decide +kernel
theorem dX1_add_64 : decode cX1_add 64 = .ok (.aload_n 0, 1) := by decide +kernel
theorem dX1_add_65 : decode cX1_add 65 = .ok (.getfield 26, 3) := by decide +kernel
theorem dX1_add_68 : decode cX1_add 68 = .ok (.iload_n 3, 1) := by decide +kernel
theorem dX1_add_69 : decode cX1_add 69 = .ok (.invokevirtual 33, 3) := by decide +kernel
theorem dX1_add_72 : decode cX1_add 72 = .ok (.aload_n 0, 1) := by decide +kernel
theorem dX1_add_73 : decode cX1_add 73 = .ok (.dup, 1) := by decide +kernel
theorem dX1_add_74 : decode cX1_add 74 = .ok (.getfield 26, 3) := by decide +kernel
theorem dX1_add_77 : decode cX1_add 77 = .ok (.iconst 1, 1) := by decide +kernel
theorem dX1_add_78 : decode cX1_add 78 = .ok (.iadd, 1) := by decide +kernel
theorem dX1_add_79 : decode cX1_add 79 = .ok (.putfield 26, 3) := by decide +kernel
theorem dX1_add_82 : decode cX1_add 82 = .ok (.return_, 1) := by decide +kernel
def fX1_add (a1 : Int32) (a2 : Int32) (a3 : Int32) (o_held : Int32) (o_deeds_f : Nat → Int32) (o_places_f : Nat → Int32) (o_olds_f : Nat → Int32) : Int32 × (Nat → Int32) × (Nat → Int32) × (Nat → Int32) := if o_held < 8 then (xlet (fX4_put o_held a1 o_deeds_f 8) (fun u1 => xlet (fX4_put o_held a2 o_places_f 8) (fun u2 => xlet (fX4_put o_held a3 o_olds_f 8) (fun u3 => ((o_held + 1), u1, u2, u3))))) else (xlet (fX4_shift o_deeds_f 8) (fun u4 => xlet (fX4_shift o_places_f 8) (fun u5 => xlet (fX4_shift o_olds_f 8) (fun u6 => xlet (fX4_put 7 a1 u4 8) (fun u7 => xlet (fX4_put 7 a2 u5 8) (fun u8 => xlet (fX4_put 7 a3 u6 8) (fun u9 => ((7 + 1), u7, u8, u9))))))))
set_option maxHeartbeats 4000000 in
set_option maxRecDepth 100000 in
theorem c_X1_add (l : Launch) (D : va_G) (cI cZ : ClassId) (sz : Nat) (o : Nat) (a1 : Int32) (a2 : Int32) (a3 : Int32) (o_deeds : Nat) (o_places : Nat) (o_olds : Nat) (o_held : Int32) (o_deeds_a : Nat) (o_deeds_f : Nat → Int32) (o_places_a : Nat) (o_places_f : Nat → Int32) (o_olds_a : Nat) (o_olds_f : Nat → Int32)  : Met l yX1_add wsX1_add ({ frames := 1, cells := 0, slots := 0, locals := 22 } : Room) (va_Pc [.ref o, .int a1, .int a2, .int a3] (xP D cI cZ [(o, .inr (1, [.ref o_deeds, .ref o_places, .ref o_olds, .int o_held])), (o_deeds, .inr (4, [.ref o_deeds_a])), (o_deeds_a, .inl (cI, 8, .inl o_deeds_f)), (o_places, .inr (4, [.ref o_places_a])), (o_places_a, .inl (cI, 8, .inl o_places_f)), (o_olds, .inr (4, [.ref o_olds_a])), (o_olds_a, .inl (cI, 8, .inl o_olds_f))] sz)) (va_Qv (fun (u : Int32 × (Nat → Int32) × (Nat → Int32) × (Nat → Int32)) => u = fX1_add a1 a2 a3 o_held o_deeds_f o_places_f o_olds_f) (fun (u : Int32 × (Nat → Int32) × (Nat → Int32) × (Nat → Int32)) t => xB D cI cZ [(o, .inr (1, [.ref o_deeds, .ref o_places, .ref o_olds, .int u.1])), (o_deeds, .inr (4, [.ref o_deeds_a])), (o_deeds_a, .inl (cI, 8, .inl u.2.1)), (o_places, .inr (4, [.ref o_places_a])), (o_places_a, .inl (cI, 8, .inl u.2.2.1)), (o_olds, .inr (4, [.ref o_olds_a])), (o_olds_a, .inl (cI, 8, .inl u.2.2.2))] (va_A [(o, .inr (1, [.ref o_deeds, .ref o_places, .ref o_olds, .int o_held])), (o_deeds, .inr (4, [.ref o_deeds_a])), (o_deeds_a, .inl (cI, 8, .inl o_deeds_f)), (o_places, .inr (4, [.ref o_places_a])), (o_places_a, .inl (cI, 8, .inl o_places_f)), (o_olds, .inr (4, [.ref o_olds_a])), (o_olds_a, .inl (cI, 8, .inl o_olds_f))] sz) t) (va_A [(o, .inr (1, [.ref o_deeds, .ref o_places, .ref o_olds, .int o_held])), (o_deeds, .inr (4, [.ref o_deeds_a])), (o_deeds_a, .inl (cI, 8, .inl o_deeds_f)), (o_places, .inr (4, [.ref o_places_a])), (o_places_a, .inl (cI, 8, .inl o_places_f)), (o_olds, .inr (4, [.ref o_olds_a])), (o_olds_a, .inl (cI, 8, .inl o_olds_f))] sz)) 0 0 (va_A [(o, .inr (1, [.ref o_deeds, .ref o_places, .ref o_olds, .int o_held])), (o_deeds, .inr (4, [.ref o_deeds_a])), (o_deeds_a, .inl (cI, 8, .inl o_deeds_f)), (o_places, .inr (4, [.ref o_places_a])), (o_places_a, .inl (cI, 8, .inl o_places_f)), (o_olds, .inr (4, [.ref o_olds_a])), (o_olds_a, .inl (cI, 8, .inl o_olds_f))] sz) := by
  refine Met.ofW (cc := cX1_add) (maxL := 4) (ret := none) (by decide) rfl ?_
  intro p e s m args below meth c s₁ B hml hv
  obtain ⟨hargs, hsz, hP, hK, hD0, hE⟩ := hv
  subst hargs
  have hx := B.exec
  have hb := B.bytes
  have hr := B.returns
  have hts := atoms_spec (ws := wsX1_add) B.pre
  have hown : s.vm.findClass RX1 = some m.cls := findClass_of_methodNamed B.named
  have hlocks := B.notSynchronized
  subst hsz
  have hD := hD0.self (sz := s.heap.size)
  generalize hAe : va_A [(o, .inr (1, [.ref o_deeds, .ref o_places, .ref o_olds, .int o_held])), (o_deeds, .inr (4, [.ref o_deeds_a])), (o_deeds_a, .inl (cI, 8, .inl o_deeds_f)), (o_places, .inr (4, [.ref o_places_a])), (o_places_a, .inl (cI, 8, .inl o_places_f)), (o_olds, .inr (4, [.ref o_olds_a])), (o_olds_a, .inl (cI, 8, .inl o_olds_f))] s.heap.size = A at hD ⊢
  have hA : ∀ q : Nat, s.heap.size ≤ q → A q := fun q h => by rw [← hAe]; exact Or.inr h
  have hS : va_S A s.heap s.heap [] := va_S.rf
  have hl := lv_entry ([.ref o, .int a1, .int a2, .int a3]) (n := 4) (Nat.le_of_ble_eq_true rfl)
  rw [lg_entry_eq]
  generalize (lg_sl ([.ref o, .int a1, .int a2, .int a3]) ++ List.replicate (4 - (lg_sl ([.ref o, .int a1, .int a2, .int a3])).length) Slot.unset).toArray = ls at hl ⊢
  have hl : lv_has ls 4 [(0, .ref o), (1, .int a1), (2, .int a2), (3, .int a3)] := hl
  refine wq (X := fun Q => ∀ (pc : Nat) (H : Heap) (locs : List Loc) (ls : Array Slot) (u : Int32 × (Nat → Int32) × (Nat → Int32) × (Nat → Int32)) (hd : decode cX1_add pc = .ok (.return_, 1)) (hp : u = fX1_add a1 a2 a3 o_held o_deeds_f o_places_f o_olds_f) (hP : va_P D vwCl [(o, .inr (1, [.ref o_deeds, .ref o_places, .ref o_olds, .int u.1])), (o_deeds, .inr (4, [.ref o_deeds_a])), (o_deeds_a, .inl (cI, 8, .inl u.2.1)), (o_places, .inr (4, [.ref o_places_a])), (o_places_a, .inl (cI, 8, .inl u.2.2.1)), (o_olds, .inr (4, [.ref o_olds_a])), (o_olds_a, .inl (cI, 8, .inl u.2.2.2))] H) (hD : va_D A [(o, .inr (1, [.ref o_deeds, .ref o_places, .ref o_olds, .int u.1])), (o_deeds, .inr (4, [.ref o_deeds_a])), (o_deeds_a, .inl (cI, 8, .inl u.2.1)), (o_places, .inr (4, [.ref o_places_a])), (o_places_a, .inl (cI, 8, .inl u.2.2.1)), (o_olds, .inr (4, [.ref o_olds_a])), (o_olds_a, .inl (cI, 8, .inl u.2.2.2))]) (hS : va_S A s.heap H locs), W p l e ({ frames := 1, cells := 0, slots := 0, locals := 22 } : Room) s m ([.ref o, .int a1, .int a2, .int a3] : List Value).toArray below meth c H locs 0 0 Q (F0 m pc ls [])) ?_ (fun Q hret => ?_)
  · intro pc H locs ls u hd hp hP hD hS
    exact W.vret hx hb hr (fun t ht hW => ⟨⟨u, rfl, hp, by rw [ht]; exact hP, va_K.moved hW.alike hK, hD⟩, hS.F ht⟩) hS.2.2 hd
  have hin_1 : ∀ w ∈ u_ws RX1 TX1 4, w ∈ wsX1_add := by decide +kernel
  have fl_14 := hts (.fieldLink RX1 14 "MileRoad$Past" "deeds" "LMileRoad$Row;") (by decide +kernel)
  have fl_20 := hts (.fieldLink RX1 20 "MileRoad$Past" "places" "LMileRoad$Row;") (by decide +kernel)
  have fl_23 := hts (.fieldLink RX1 23 "MileRoad$Past" "olds" "LMileRoad$Row;") (by decide +kernel)
  have fl_26 := hts (.fieldLink RX1 26 "MileRoad$Past" "held" "I") (by decide +kernel)
  have hF : fX1_add a1 a2 a3 o_held o_deeds_f o_places_f o_olds_f = fX1_add a1 a2 a3 o_held o_deeds_f o_places_f o_olds_f := rfl
  refine lv_aload_n hx hb dX1_add_0 rfl (lv_at hl 0 rfl) ?_
  refine xget hx hb hts hown hK 1 (C2 := RX1) (T := TX1) (N := 4) rfl hin_1 hP 0 rfl 3 (by decide) fl_26 rfl rfl rfl dX1_add_1 ?_
  refine lv_bipush (v := 8) hx hb dX1_add_4 (by decide) ?_
  refine lv_icmp_lt (tgt := 36) hx hb dX1_add_6 (by decide) (fun c_1 => ?_) (fun c_1 => ?_)
  · refine lv_aload_n hx hb dX1_add_36 rfl (lv_at hl 0 rfl) ?_
    refine xget hx hb hts hown hK 1 (C2 := RX1) (T := TX1) (N := 4) rfl hin_1 hP 0 rfl 0 (by decide) fl_14 rfl rfl rfl dX1_add_37 ?_
    refine lv_aload_n hx hb dX1_add_40 rfl (lv_at hl 0 rfl) ?_
    refine xget hx hb hts hown hK 1 (C2 := RX1) (T := TX1) (N := 4) rfl hin_1 hP 0 rfl 3 (by decide) fl_26 rfl rfl rfl dX1_add_41 ?_
    refine lv_iload_n hx hb dX1_add_44 rfl (lv_at hl 1 rfl) ?_
    refine xcallv (S := (Nat → Int32)) (Wc := [(o_deeds, .inr (4, [.ref o_deeds_a])), (o_deeds_a, .inl (cI, 8, .inl o_deeds_f))]) (wr := [(o, .inr (1, [.ref o_deeds, .ref o_places, .ref o_olds, .int o_held])), (o_places, .inr (4, [.ref o_places_a])), (o_places_a, .inl (cI, 8, .inl o_places_f)), (o_olds, .inr (4, [.ref o_olds_a])), (o_olds_a, .inl (cI, 8, .inl o_olds_f))]) (W1 := (fun (u : (Nat → Int32)) => [(o_deeds, .inr (4, [.ref o_deeds_a])), (o_deeds_a, .inl (cI, 8, .inl u))])) (Wn := (fun (u : (Nat → Int32)) => [(o, .inr (1, [.ref o_deeds, .ref o_places, .ref o_olds, .int o_held])), (o_deeds, .inr (4, [.ref o_deeds_a])), (o_deeds_a, .inl (cI, 8, .inl u)), (o_places, .inr (4, [.ref o_places_a])), (o_places_a, .inl (cI, 8, .inl o_places_f)), (o_olds, .inr (4, [.ref o_olds_a])), (o_olds_a, .inl (cI, 8, .inl o_olds_f))])) (xrunV hx hb hml hown hts (c_X4_put l D cI cZ _ o_deeds o_held a1 o_deeds_a o_deeds_f 8 (by decide)) (cwV 2 hts gX1_add_X4_put rfl rfl rfl (by decide +kernel) ⟨Nat.le_of_ble_eq_true rfl, Nat.le_of_ble_eq_true rfl⟩) hE hK hP hD [1, 2] rfl rfl 0 4 (T := TX4) (N := 1) rfl rfl rfl hl.1 rfl (Nat.le_of_ble_eq_true rfl) dX1_add_45 ⟨Nat.le_of_ble_eq_true rfl, Nat.le_of_ble_eq_true rfl⟩) hP hD hS hA [1, 2] [0, 3, 4, 5, 6] [0, 5, 6, 1, 2, 3, 4] rfl rfl rfl (by decide) (fun _ => rfl) rfl (fun  u H locs hw hz hP hD hS => ?_)
    obtain ⟨u1, hu⟩ : ∃ z, z = u := ⟨u, rfl⟩
    subst hu
    have hw_2 := hw.symm
    have hP : va_P D vwCl [(o, .inr (1, [.ref o_deeds, .ref o_places, .ref o_olds, .int o_held])), (o_deeds, .inr (4, [.ref o_deeds_a])), (o_deeds_a, .inl (cI, 8, .inl u1)), (o_places, .inr (4, [.ref o_places_a])), (o_places_a, .inl (cI, 8, .inl o_places_f)), (o_olds, .inr (4, [.ref o_olds_a])), (o_olds_a, .inl (cI, 8, .inl o_olds_f))] H := hP
    have hD : va_D A [(o, .inr (1, [.ref o_deeds, .ref o_places, .ref o_olds, .int o_held])), (o_deeds, .inr (4, [.ref o_deeds_a])), (o_deeds_a, .inl (cI, 8, .inl u1)), (o_places, .inr (4, [.ref o_places_a])), (o_places_a, .inl (cI, 8, .inl o_places_f)), (o_olds, .inr (4, [.ref o_olds_a])), (o_olds_a, .inl (cI, 8, .inl o_olds_f))] := hD
    refine lv_aload_n hx hb dX1_add_48 rfl (lv_at hl 0 rfl) ?_
    refine xget hx hb hts hown hK 1 (C2 := RX1) (T := TX1) (N := 4) rfl hin_1 hP 0 rfl 1 (by decide) fl_20 rfl rfl rfl dX1_add_49 ?_
    refine lv_aload_n hx hb dX1_add_52 rfl (lv_at hl 0 rfl) ?_
    refine xget hx hb hts hown hK 1 (C2 := RX1) (T := TX1) (N := 4) rfl hin_1 hP 0 rfl 3 (by decide) fl_26 rfl rfl rfl dX1_add_53 ?_
    refine lv_iload_n hx hb dX1_add_56 rfl (lv_at hl 2 rfl) ?_
    refine xcallv (S := (Nat → Int32)) (Wc := [(o_places, .inr (4, [.ref o_places_a])), (o_places_a, .inl (cI, 8, .inl o_places_f))]) (wr := [(o, .inr (1, [.ref o_deeds, .ref o_places, .ref o_olds, .int o_held])), (o_deeds, .inr (4, [.ref o_deeds_a])), (o_deeds_a, .inl (cI, 8, .inl u1)), (o_olds, .inr (4, [.ref o_olds_a])), (o_olds_a, .inl (cI, 8, .inl o_olds_f))]) (W1 := (fun (u : (Nat → Int32)) => [(o_places, .inr (4, [.ref o_places_a])), (o_places_a, .inl (cI, 8, .inl u))])) (Wn := (fun (u : (Nat → Int32)) => [(o, .inr (1, [.ref o_deeds, .ref o_places, .ref o_olds, .int o_held])), (o_deeds, .inr (4, [.ref o_deeds_a])), (o_deeds_a, .inl (cI, 8, .inl u1)), (o_places, .inr (4, [.ref o_places_a])), (o_places_a, .inl (cI, 8, .inl u)), (o_olds, .inr (4, [.ref o_olds_a])), (o_olds_a, .inl (cI, 8, .inl o_olds_f))])) (xrunV hx hb hml hown hts (c_X4_put l D cI cZ _ o_places o_held a2 o_places_a o_places_f 8 (by decide)) (cwV 2 hts gX1_add_X4_put rfl rfl rfl (by decide +kernel) ⟨Nat.le_of_ble_eq_true rfl, Nat.le_of_ble_eq_true rfl⟩) hE hK hP hD [3, 4] rfl rfl 0 4 (T := TX4) (N := 1) rfl rfl rfl hl.1 rfl (Nat.le_of_ble_eq_true rfl) dX1_add_57 ⟨Nat.le_of_ble_eq_true rfl, Nat.le_of_ble_eq_true rfl⟩) hP hD hS hA [3, 4] [0, 1, 2, 5, 6] [0, 1, 2, 5, 6, 3, 4] rfl rfl rfl (by decide) (fun _ => rfl) rfl (fun  u H locs hw hz hP hD hS => ?_)
    obtain ⟨u2, hu⟩ : ∃ z, z = u := ⟨u, rfl⟩
    subst hu
    have hw_3 := hw.symm
    have hP : va_P D vwCl [(o, .inr (1, [.ref o_deeds, .ref o_places, .ref o_olds, .int o_held])), (o_deeds, .inr (4, [.ref o_deeds_a])), (o_deeds_a, .inl (cI, 8, .inl u1)), (o_places, .inr (4, [.ref o_places_a])), (o_places_a, .inl (cI, 8, .inl u2)), (o_olds, .inr (4, [.ref o_olds_a])), (o_olds_a, .inl (cI, 8, .inl o_olds_f))] H := hP
    have hD : va_D A [(o, .inr (1, [.ref o_deeds, .ref o_places, .ref o_olds, .int o_held])), (o_deeds, .inr (4, [.ref o_deeds_a])), (o_deeds_a, .inl (cI, 8, .inl u1)), (o_places, .inr (4, [.ref o_places_a])), (o_places_a, .inl (cI, 8, .inl u2)), (o_olds, .inr (4, [.ref o_olds_a])), (o_olds_a, .inl (cI, 8, .inl o_olds_f))] := hD
    refine lv_aload_n hx hb dX1_add_60 rfl (lv_at hl 0 rfl) ?_
    refine xget hx hb hts hown hK 1 (C2 := RX1) (T := TX1) (N := 4) rfl hin_1 hP 0 rfl 2 (by decide) fl_23 rfl rfl rfl dX1_add_61 ?_
    refine lv_aload_n hx hb dX1_add_64 rfl (lv_at hl 0 rfl) ?_
    refine xget hx hb hts hown hK 1 (C2 := RX1) (T := TX1) (N := 4) rfl hin_1 hP 0 rfl 3 (by decide) fl_26 rfl rfl rfl dX1_add_65 ?_
    refine lv_iload_n hx hb dX1_add_68 rfl (lv_at hl 3 rfl) ?_
    refine xcallv (S := (Nat → Int32)) (Wc := [(o_olds, .inr (4, [.ref o_olds_a])), (o_olds_a, .inl (cI, 8, .inl o_olds_f))]) (wr := [(o, .inr (1, [.ref o_deeds, .ref o_places, .ref o_olds, .int o_held])), (o_deeds, .inr (4, [.ref o_deeds_a])), (o_deeds_a, .inl (cI, 8, .inl u1)), (o_places, .inr (4, [.ref o_places_a])), (o_places_a, .inl (cI, 8, .inl u2))]) (W1 := (fun (u : (Nat → Int32)) => [(o_olds, .inr (4, [.ref o_olds_a])), (o_olds_a, .inl (cI, 8, .inl u))])) (Wn := (fun (u : (Nat → Int32)) => [(o, .inr (1, [.ref o_deeds, .ref o_places, .ref o_olds, .int o_held])), (o_deeds, .inr (4, [.ref o_deeds_a])), (o_deeds_a, .inl (cI, 8, .inl u1)), (o_places, .inr (4, [.ref o_places_a])), (o_places_a, .inl (cI, 8, .inl u2)), (o_olds, .inr (4, [.ref o_olds_a])), (o_olds_a, .inl (cI, 8, .inl u))])) (xrunV hx hb hml hown hts (c_X4_put l D cI cZ _ o_olds o_held a3 o_olds_a o_olds_f 8 (by decide)) (cwV 2 hts gX1_add_X4_put rfl rfl rfl (by decide +kernel) ⟨Nat.le_of_ble_eq_true rfl, Nat.le_of_ble_eq_true rfl⟩) hE hK hP hD [5, 6] rfl rfl 0 4 (T := TX4) (N := 1) rfl rfl rfl hl.1 rfl (Nat.le_of_ble_eq_true rfl) dX1_add_69 ⟨Nat.le_of_ble_eq_true rfl, Nat.le_of_ble_eq_true rfl⟩) hP hD hS hA [5, 6] [0, 1, 2, 3, 4] [0, 1, 2, 3, 4, 5, 6] rfl rfl rfl (by decide) (fun _ => rfl) rfl (fun  u H locs hw hz hP hD hS => ?_)
    obtain ⟨u3, hu⟩ : ∃ z, z = u := ⟨u, rfl⟩
    subst hu
    have hw_4 := hw.symm
    have hP : va_P D vwCl [(o, .inr (1, [.ref o_deeds, .ref o_places, .ref o_olds, .int o_held])), (o_deeds, .inr (4, [.ref o_deeds_a])), (o_deeds_a, .inl (cI, 8, .inl u1)), (o_places, .inr (4, [.ref o_places_a])), (o_places_a, .inl (cI, 8, .inl u2)), (o_olds, .inr (4, [.ref o_olds_a])), (o_olds_a, .inl (cI, 8, .inl u3))] H := hP
    have hD : va_D A [(o, .inr (1, [.ref o_deeds, .ref o_places, .ref o_olds, .int o_held])), (o_deeds, .inr (4, [.ref o_deeds_a])), (o_deeds_a, .inl (cI, 8, .inl u1)), (o_places, .inr (4, [.ref o_places_a])), (o_places_a, .inl (cI, 8, .inl u2)), (o_olds, .inr (4, [.ref o_olds_a])), (o_olds_a, .inl (cI, 8, .inl u3))] := hD
    refine lv_aload_n hx hb dX1_add_72 rfl (lv_at hl 0 rfl) ?_
    refine lv_dup hx hb dX1_add_73 rfl ?_
    refine xget hx hb hts hown hK 1 (C2 := RX1) (T := TX1) (N := 4) rfl hin_1 hP 0 rfl 3 (by decide) fl_26 rfl rfl rfl dX1_add_74 ?_
    refine lv_iconst (v := 1) hx hb dX1_add_77 (by decide) ?_
    refine lv_iadd hx hb dX1_add_78 ?_
    refine xput hx hb hts hown hK 1 (C2 := RX1) (T := TX1) (N := 4) tyX1 rfl tyX1_ok nmX1 hin_1 hP hD hS 0 rfl 3 (by decide) fl_26 rfl rfl rfl rfl rfl (Nat.le_of_ble_eq_true rfl) dX1_add_79 [(o, .inr (1, [.ref o_deeds, .ref o_places, .ref o_olds, .int (o_held + 1)])), (o_deeds, .inr (4, [.ref o_deeds_a])), (o_deeds_a, .inl (cI, 8, .inl u1)), (o_places, .inr (4, [.ref o_places_a])), (o_places_a, .inl (cI, 8, .inl u2)), (o_olds, .inr (4, [.ref o_olds_a])), (o_olds_a, .inl (cI, 8, .inl u3))] rfl (fun H locs hP hD hS => ?_)
    exact hret _ _ _ _ ((o_held + 1), u1, u2, u3) dX1_add_82 ((hF.trans (by simp only [fX1_add, xlet, if_pos c_1, ↓hw_2, ↓hw_3, ↓hw_4])).symm) hP hD hS
  · refine lv_aload_n hx hb dX1_add_9 rfl (lv_at hl 0 rfl) ?_
    refine xget hx hb hts hown hK 1 (C2 := RX1) (T := TX1) (N := 4) rfl hin_1 hP 0 rfl 0 (by decide) fl_14 rfl rfl rfl dX1_add_10 ?_
    refine xcallv (S := (Nat → Int32)) (Wc := [(o_deeds, .inr (4, [.ref o_deeds_a])), (o_deeds_a, .inl (cI, 8, .inl o_deeds_f))]) (wr := [(o, .inr (1, [.ref o_deeds, .ref o_places, .ref o_olds, .int o_held])), (o_places, .inr (4, [.ref o_places_a])), (o_places_a, .inl (cI, 8, .inl o_places_f)), (o_olds, .inr (4, [.ref o_olds_a])), (o_olds_a, .inl (cI, 8, .inl o_olds_f))]) (W1 := (fun (u : (Nat → Int32)) => [(o_deeds, .inr (4, [.ref o_deeds_a])), (o_deeds_a, .inl (cI, 8, .inl u))])) (Wn := (fun (u : (Nat → Int32)) => [(o, .inr (1, [.ref o_deeds, .ref o_places, .ref o_olds, .int o_held])), (o_deeds, .inr (4, [.ref o_deeds_a])), (o_deeds_a, .inl (cI, 8, .inl u)), (o_places, .inr (4, [.ref o_places_a])), (o_places_a, .inl (cI, 8, .inl o_places_f)), (o_olds, .inr (4, [.ref o_olds_a])), (o_olds_a, .inl (cI, 8, .inl o_olds_f))])) (xrunV hx hb hml hown hts (c_X4_shift l D cI cZ _ o_deeds o_deeds_a o_deeds_f 8 (by decide)) (cwV 0 hts gX1_add_X4_shift rfl rfl rfl (by decide +kernel) ⟨Nat.le_of_ble_eq_true rfl, Nat.le_of_ble_eq_true rfl⟩) hE hK hP hD [1, 2] rfl rfl 0 4 (T := TX4) (N := 1) rfl rfl rfl hl.1 rfl (Nat.le_of_ble_eq_true rfl) dX1_add_13 ⟨Nat.le_of_ble_eq_true rfl, Nat.le_of_ble_eq_true rfl⟩) hP hD hS hA [1, 2] [0, 3, 4, 5, 6] [0, 5, 6, 1, 2, 3, 4] rfl rfl rfl (by decide) (fun _ => rfl) rfl (fun  u H locs hw hz hP hD hS => ?_)
    obtain ⟨u4, hu⟩ : ∃ z, z = u := ⟨u, rfl⟩
    subst hu
    have hw_5 := hw.symm
    have hP : va_P D vwCl [(o, .inr (1, [.ref o_deeds, .ref o_places, .ref o_olds, .int o_held])), (o_deeds, .inr (4, [.ref o_deeds_a])), (o_deeds_a, .inl (cI, 8, .inl u4)), (o_places, .inr (4, [.ref o_places_a])), (o_places_a, .inl (cI, 8, .inl o_places_f)), (o_olds, .inr (4, [.ref o_olds_a])), (o_olds_a, .inl (cI, 8, .inl o_olds_f))] H := hP
    have hD : va_D A [(o, .inr (1, [.ref o_deeds, .ref o_places, .ref o_olds, .int o_held])), (o_deeds, .inr (4, [.ref o_deeds_a])), (o_deeds_a, .inl (cI, 8, .inl u4)), (o_places, .inr (4, [.ref o_places_a])), (o_places_a, .inl (cI, 8, .inl o_places_f)), (o_olds, .inr (4, [.ref o_olds_a])), (o_olds_a, .inl (cI, 8, .inl o_olds_f))] := hD
    refine lv_aload_n hx hb dX1_add_16 rfl (lv_at hl 0 rfl) ?_
    refine xget hx hb hts hown hK 1 (C2 := RX1) (T := TX1) (N := 4) rfl hin_1 hP 0 rfl 1 (by decide) fl_20 rfl rfl rfl dX1_add_17 ?_
    refine xcallv (S := (Nat → Int32)) (Wc := [(o_places, .inr (4, [.ref o_places_a])), (o_places_a, .inl (cI, 8, .inl o_places_f))]) (wr := [(o, .inr (1, [.ref o_deeds, .ref o_places, .ref o_olds, .int o_held])), (o_deeds, .inr (4, [.ref o_deeds_a])), (o_deeds_a, .inl (cI, 8, .inl u4)), (o_olds, .inr (4, [.ref o_olds_a])), (o_olds_a, .inl (cI, 8, .inl o_olds_f))]) (W1 := (fun (u : (Nat → Int32)) => [(o_places, .inr (4, [.ref o_places_a])), (o_places_a, .inl (cI, 8, .inl u))])) (Wn := (fun (u : (Nat → Int32)) => [(o, .inr (1, [.ref o_deeds, .ref o_places, .ref o_olds, .int o_held])), (o_deeds, .inr (4, [.ref o_deeds_a])), (o_deeds_a, .inl (cI, 8, .inl u4)), (o_places, .inr (4, [.ref o_places_a])), (o_places_a, .inl (cI, 8, .inl u)), (o_olds, .inr (4, [.ref o_olds_a])), (o_olds_a, .inl (cI, 8, .inl o_olds_f))])) (xrunV hx hb hml hown hts (c_X4_shift l D cI cZ _ o_places o_places_a o_places_f 8 (by decide)) (cwV 0 hts gX1_add_X4_shift rfl rfl rfl (by decide +kernel) ⟨Nat.le_of_ble_eq_true rfl, Nat.le_of_ble_eq_true rfl⟩) hE hK hP hD [3, 4] rfl rfl 0 4 (T := TX4) (N := 1) rfl rfl rfl hl.1 rfl (Nat.le_of_ble_eq_true rfl) dX1_add_20 ⟨Nat.le_of_ble_eq_true rfl, Nat.le_of_ble_eq_true rfl⟩) hP hD hS hA [3, 4] [0, 1, 2, 5, 6] [0, 1, 2, 5, 6, 3, 4] rfl rfl rfl (by decide) (fun _ => rfl) rfl (fun  u H locs hw hz hP hD hS => ?_)
    obtain ⟨u5, hu⟩ : ∃ z, z = u := ⟨u, rfl⟩
    subst hu
    have hw_6 := hw.symm
    have hP : va_P D vwCl [(o, .inr (1, [.ref o_deeds, .ref o_places, .ref o_olds, .int o_held])), (o_deeds, .inr (4, [.ref o_deeds_a])), (o_deeds_a, .inl (cI, 8, .inl u4)), (o_places, .inr (4, [.ref o_places_a])), (o_places_a, .inl (cI, 8, .inl u5)), (o_olds, .inr (4, [.ref o_olds_a])), (o_olds_a, .inl (cI, 8, .inl o_olds_f))] H := hP
    have hD : va_D A [(o, .inr (1, [.ref o_deeds, .ref o_places, .ref o_olds, .int o_held])), (o_deeds, .inr (4, [.ref o_deeds_a])), (o_deeds_a, .inl (cI, 8, .inl u4)), (o_places, .inr (4, [.ref o_places_a])), (o_places_a, .inl (cI, 8, .inl u5)), (o_olds, .inr (4, [.ref o_olds_a])), (o_olds_a, .inl (cI, 8, .inl o_olds_f))] := hD
    refine lv_aload_n hx hb dX1_add_23 rfl (lv_at hl 0 rfl) ?_
    refine xget hx hb hts hown hK 1 (C2 := RX1) (T := TX1) (N := 4) rfl hin_1 hP 0 rfl 2 (by decide) fl_23 rfl rfl rfl dX1_add_24 ?_
    refine xcallv (S := (Nat → Int32)) (Wc := [(o_olds, .inr (4, [.ref o_olds_a])), (o_olds_a, .inl (cI, 8, .inl o_olds_f))]) (wr := [(o, .inr (1, [.ref o_deeds, .ref o_places, .ref o_olds, .int o_held])), (o_deeds, .inr (4, [.ref o_deeds_a])), (o_deeds_a, .inl (cI, 8, .inl u4)), (o_places, .inr (4, [.ref o_places_a])), (o_places_a, .inl (cI, 8, .inl u5))]) (W1 := (fun (u : (Nat → Int32)) => [(o_olds, .inr (4, [.ref o_olds_a])), (o_olds_a, .inl (cI, 8, .inl u))])) (Wn := (fun (u : (Nat → Int32)) => [(o, .inr (1, [.ref o_deeds, .ref o_places, .ref o_olds, .int o_held])), (o_deeds, .inr (4, [.ref o_deeds_a])), (o_deeds_a, .inl (cI, 8, .inl u4)), (o_places, .inr (4, [.ref o_places_a])), (o_places_a, .inl (cI, 8, .inl u5)), (o_olds, .inr (4, [.ref o_olds_a])), (o_olds_a, .inl (cI, 8, .inl u))])) (xrunV hx hb hml hown hts (c_X4_shift l D cI cZ _ o_olds o_olds_a o_olds_f 8 (by decide)) (cwV 0 hts gX1_add_X4_shift rfl rfl rfl (by decide +kernel) ⟨Nat.le_of_ble_eq_true rfl, Nat.le_of_ble_eq_true rfl⟩) hE hK hP hD [5, 6] rfl rfl 0 4 (T := TX4) (N := 1) rfl rfl rfl hl.1 rfl (Nat.le_of_ble_eq_true rfl) dX1_add_27 ⟨Nat.le_of_ble_eq_true rfl, Nat.le_of_ble_eq_true rfl⟩) hP hD hS hA [5, 6] [0, 1, 2, 3, 4] [0, 1, 2, 3, 4, 5, 6] rfl rfl rfl (by decide) (fun _ => rfl) rfl (fun  u H locs hw hz hP hD hS => ?_)
    obtain ⟨u6, hu⟩ : ∃ z, z = u := ⟨u, rfl⟩
    subst hu
    have hw_7 := hw.symm
    have hP : va_P D vwCl [(o, .inr (1, [.ref o_deeds, .ref o_places, .ref o_olds, .int o_held])), (o_deeds, .inr (4, [.ref o_deeds_a])), (o_deeds_a, .inl (cI, 8, .inl u4)), (o_places, .inr (4, [.ref o_places_a])), (o_places_a, .inl (cI, 8, .inl u5)), (o_olds, .inr (4, [.ref o_olds_a])), (o_olds_a, .inl (cI, 8, .inl u6))] H := hP
    have hD : va_D A [(o, .inr (1, [.ref o_deeds, .ref o_places, .ref o_olds, .int o_held])), (o_deeds, .inr (4, [.ref o_deeds_a])), (o_deeds_a, .inl (cI, 8, .inl u4)), (o_places, .inr (4, [.ref o_places_a])), (o_places_a, .inl (cI, 8, .inl u5)), (o_olds, .inr (4, [.ref o_olds_a])), (o_olds_a, .inl (cI, 8, .inl u6))] := hD
    refine lv_aload_n hx hb dX1_add_30 rfl (lv_at hl 0 rfl) ?_
    refine lv_bipush (v := 7) hx hb dX1_add_31 (by decide) ?_
    refine xput hx hb hts hown hK 1 (C2 := RX1) (T := TX1) (N := 4) tyX1 rfl tyX1_ok nmX1 hin_1 hP hD hS 0 rfl 3 (by decide) fl_26 rfl rfl rfl rfl rfl (Nat.le_of_ble_eq_true rfl) dX1_add_33 [(o, .inr (1, [.ref o_deeds, .ref o_places, .ref o_olds, .int 7])), (o_deeds, .inr (4, [.ref o_deeds_a])), (o_deeds_a, .inl (cI, 8, .inl u4)), (o_places, .inr (4, [.ref o_places_a])), (o_places_a, .inl (cI, 8, .inl u5)), (o_olds, .inr (4, [.ref o_olds_a])), (o_olds_a, .inl (cI, 8, .inl u6))] rfl (fun H locs hP hD hS => ?_)
    refine lv_aload_n hx hb dX1_add_36 rfl (lv_at hl 0 rfl) ?_
    refine xget hx hb hts hown hK 1 (C2 := RX1) (T := TX1) (N := 4) rfl hin_1 hP 0 rfl 0 (by decide) fl_14 rfl rfl rfl dX1_add_37 ?_
    refine lv_aload_n hx hb dX1_add_40 rfl (lv_at hl 0 rfl) ?_
    refine xget hx hb hts hown hK 1 (C2 := RX1) (T := TX1) (N := 4) rfl hin_1 hP 0 rfl 3 (by decide) fl_26 rfl rfl rfl dX1_add_41 ?_
    refine lv_iload_n hx hb dX1_add_44 rfl (lv_at hl 1 rfl) ?_
    refine xcallv (S := (Nat → Int32)) (Wc := [(o_deeds, .inr (4, [.ref o_deeds_a])), (o_deeds_a, .inl (cI, 8, .inl u4))]) (wr := [(o, .inr (1, [.ref o_deeds, .ref o_places, .ref o_olds, .int 7])), (o_places, .inr (4, [.ref o_places_a])), (o_places_a, .inl (cI, 8, .inl u5)), (o_olds, .inr (4, [.ref o_olds_a])), (o_olds_a, .inl (cI, 8, .inl u6))]) (W1 := (fun (u : (Nat → Int32)) => [(o_deeds, .inr (4, [.ref o_deeds_a])), (o_deeds_a, .inl (cI, 8, .inl u))])) (Wn := (fun (u : (Nat → Int32)) => [(o, .inr (1, [.ref o_deeds, .ref o_places, .ref o_olds, .int 7])), (o_deeds, .inr (4, [.ref o_deeds_a])), (o_deeds_a, .inl (cI, 8, .inl u)), (o_places, .inr (4, [.ref o_places_a])), (o_places_a, .inl (cI, 8, .inl u5)), (o_olds, .inr (4, [.ref o_olds_a])), (o_olds_a, .inl (cI, 8, .inl u6))])) (xrunV hx hb hml hown hts (c_X4_put l D cI cZ _ o_deeds 7 a1 o_deeds_a u4 8 (by decide)) (cwV 2 hts gX1_add_X4_put rfl rfl rfl (by decide +kernel) ⟨Nat.le_of_ble_eq_true rfl, Nat.le_of_ble_eq_true rfl⟩) hE hK hP hD [1, 2] rfl rfl 0 4 (T := TX4) (N := 1) rfl rfl rfl hl.1 rfl (Nat.le_of_ble_eq_true rfl) dX1_add_45 ⟨Nat.le_of_ble_eq_true rfl, Nat.le_of_ble_eq_true rfl⟩) hP hD hS hA [1, 2] [0, 3, 4, 5, 6] [0, 5, 6, 1, 2, 3, 4] rfl rfl rfl (by decide) (fun _ => rfl) rfl (fun  u H locs hw hz hP hD hS => ?_)
    obtain ⟨u7, hu⟩ : ∃ z, z = u := ⟨u, rfl⟩
    subst hu
    have hw_8 := hw.symm
    have hP : va_P D vwCl [(o, .inr (1, [.ref o_deeds, .ref o_places, .ref o_olds, .int 7])), (o_deeds, .inr (4, [.ref o_deeds_a])), (o_deeds_a, .inl (cI, 8, .inl u7)), (o_places, .inr (4, [.ref o_places_a])), (o_places_a, .inl (cI, 8, .inl u5)), (o_olds, .inr (4, [.ref o_olds_a])), (o_olds_a, .inl (cI, 8, .inl u6))] H := hP
    have hD : va_D A [(o, .inr (1, [.ref o_deeds, .ref o_places, .ref o_olds, .int 7])), (o_deeds, .inr (4, [.ref o_deeds_a])), (o_deeds_a, .inl (cI, 8, .inl u7)), (o_places, .inr (4, [.ref o_places_a])), (o_places_a, .inl (cI, 8, .inl u5)), (o_olds, .inr (4, [.ref o_olds_a])), (o_olds_a, .inl (cI, 8, .inl u6))] := hD
    refine lv_aload_n hx hb dX1_add_48 rfl (lv_at hl 0 rfl) ?_
    refine xget hx hb hts hown hK 1 (C2 := RX1) (T := TX1) (N := 4) rfl hin_1 hP 0 rfl 1 (by decide) fl_20 rfl rfl rfl dX1_add_49 ?_
    refine lv_aload_n hx hb dX1_add_52 rfl (lv_at hl 0 rfl) ?_
    refine xget hx hb hts hown hK 1 (C2 := RX1) (T := TX1) (N := 4) rfl hin_1 hP 0 rfl 3 (by decide) fl_26 rfl rfl rfl dX1_add_53 ?_
    refine lv_iload_n hx hb dX1_add_56 rfl (lv_at hl 2 rfl) ?_
    refine xcallv (S := (Nat → Int32)) (Wc := [(o_places, .inr (4, [.ref o_places_a])), (o_places_a, .inl (cI, 8, .inl u5))]) (wr := [(o, .inr (1, [.ref o_deeds, .ref o_places, .ref o_olds, .int 7])), (o_deeds, .inr (4, [.ref o_deeds_a])), (o_deeds_a, .inl (cI, 8, .inl u7)), (o_olds, .inr (4, [.ref o_olds_a])), (o_olds_a, .inl (cI, 8, .inl u6))]) (W1 := (fun (u : (Nat → Int32)) => [(o_places, .inr (4, [.ref o_places_a])), (o_places_a, .inl (cI, 8, .inl u))])) (Wn := (fun (u : (Nat → Int32)) => [(o, .inr (1, [.ref o_deeds, .ref o_places, .ref o_olds, .int 7])), (o_deeds, .inr (4, [.ref o_deeds_a])), (o_deeds_a, .inl (cI, 8, .inl u7)), (o_places, .inr (4, [.ref o_places_a])), (o_places_a, .inl (cI, 8, .inl u)), (o_olds, .inr (4, [.ref o_olds_a])), (o_olds_a, .inl (cI, 8, .inl u6))])) (xrunV hx hb hml hown hts (c_X4_put l D cI cZ _ o_places 7 a2 o_places_a u5 8 (by decide)) (cwV 2 hts gX1_add_X4_put rfl rfl rfl (by decide +kernel) ⟨Nat.le_of_ble_eq_true rfl, Nat.le_of_ble_eq_true rfl⟩) hE hK hP hD [3, 4] rfl rfl 0 4 (T := TX4) (N := 1) rfl rfl rfl hl.1 rfl (Nat.le_of_ble_eq_true rfl) dX1_add_57 ⟨Nat.le_of_ble_eq_true rfl, Nat.le_of_ble_eq_true rfl⟩) hP hD hS hA [3, 4] [0, 1, 2, 5, 6] [0, 1, 2, 5, 6, 3, 4] rfl rfl rfl (by decide) (fun _ => rfl) rfl (fun  u H locs hw hz hP hD hS => ?_)
    obtain ⟨u8, hu⟩ : ∃ z, z = u := ⟨u, rfl⟩
    subst hu
    have hw_9 := hw.symm
    have hP : va_P D vwCl [(o, .inr (1, [.ref o_deeds, .ref o_places, .ref o_olds, .int 7])), (o_deeds, .inr (4, [.ref o_deeds_a])), (o_deeds_a, .inl (cI, 8, .inl u7)), (o_places, .inr (4, [.ref o_places_a])), (o_places_a, .inl (cI, 8, .inl u8)), (o_olds, .inr (4, [.ref o_olds_a])), (o_olds_a, .inl (cI, 8, .inl u6))] H := hP
    have hD : va_D A [(o, .inr (1, [.ref o_deeds, .ref o_places, .ref o_olds, .int 7])), (o_deeds, .inr (4, [.ref o_deeds_a])), (o_deeds_a, .inl (cI, 8, .inl u7)), (o_places, .inr (4, [.ref o_places_a])), (o_places_a, .inl (cI, 8, .inl u8)), (o_olds, .inr (4, [.ref o_olds_a])), (o_olds_a, .inl (cI, 8, .inl u6))] := hD
    refine lv_aload_n hx hb dX1_add_60 rfl (lv_at hl 0 rfl) ?_
    refine xget hx hb hts hown hK 1 (C2 := RX1) (T := TX1) (N := 4) rfl hin_1 hP 0 rfl 2 (by decide) fl_23 rfl rfl rfl dX1_add_61 ?_
    refine lv_aload_n hx hb dX1_add_64 rfl (lv_at hl 0 rfl) ?_
    refine xget hx hb hts hown hK 1 (C2 := RX1) (T := TX1) (N := 4) rfl hin_1 hP 0 rfl 3 (by decide) fl_26 rfl rfl rfl dX1_add_65 ?_
    refine lv_iload_n hx hb dX1_add_68 rfl (lv_at hl 3 rfl) ?_
    refine xcallv (S := (Nat → Int32)) (Wc := [(o_olds, .inr (4, [.ref o_olds_a])), (o_olds_a, .inl (cI, 8, .inl u6))]) (wr := [(o, .inr (1, [.ref o_deeds, .ref o_places, .ref o_olds, .int 7])), (o_deeds, .inr (4, [.ref o_deeds_a])), (o_deeds_a, .inl (cI, 8, .inl u7)), (o_places, .inr (4, [.ref o_places_a])), (o_places_a, .inl (cI, 8, .inl u8))]) (W1 := (fun (u : (Nat → Int32)) => [(o_olds, .inr (4, [.ref o_olds_a])), (o_olds_a, .inl (cI, 8, .inl u))])) (Wn := (fun (u : (Nat → Int32)) => [(o, .inr (1, [.ref o_deeds, .ref o_places, .ref o_olds, .int 7])), (o_deeds, .inr (4, [.ref o_deeds_a])), (o_deeds_a, .inl (cI, 8, .inl u7)), (o_places, .inr (4, [.ref o_places_a])), (o_places_a, .inl (cI, 8, .inl u8)), (o_olds, .inr (4, [.ref o_olds_a])), (o_olds_a, .inl (cI, 8, .inl u))])) (xrunV hx hb hml hown hts (c_X4_put l D cI cZ _ o_olds 7 a3 o_olds_a u6 8 (by decide)) (cwV 2 hts gX1_add_X4_put rfl rfl rfl (by decide +kernel) ⟨Nat.le_of_ble_eq_true rfl, Nat.le_of_ble_eq_true rfl⟩) hE hK hP hD [5, 6] rfl rfl 0 4 (T := TX4) (N := 1) rfl rfl rfl hl.1 rfl (Nat.le_of_ble_eq_true rfl) dX1_add_69 ⟨Nat.le_of_ble_eq_true rfl, Nat.le_of_ble_eq_true rfl⟩) hP hD hS hA [5, 6] [0, 1, 2, 3, 4] [0, 1, 2, 3, 4, 5, 6] rfl rfl rfl (by decide) (fun _ => rfl) rfl (fun  u H locs hw hz hP hD hS => ?_)
    obtain ⟨u9, hu⟩ : ∃ z, z = u := ⟨u, rfl⟩
    subst hu
    have hw_10 := hw.symm
    have hP : va_P D vwCl [(o, .inr (1, [.ref o_deeds, .ref o_places, .ref o_olds, .int 7])), (o_deeds, .inr (4, [.ref o_deeds_a])), (o_deeds_a, .inl (cI, 8, .inl u7)), (o_places, .inr (4, [.ref o_places_a])), (o_places_a, .inl (cI, 8, .inl u8)), (o_olds, .inr (4, [.ref o_olds_a])), (o_olds_a, .inl (cI, 8, .inl u9))] H := hP
    have hD : va_D A [(o, .inr (1, [.ref o_deeds, .ref o_places, .ref o_olds, .int 7])), (o_deeds, .inr (4, [.ref o_deeds_a])), (o_deeds_a, .inl (cI, 8, .inl u7)), (o_places, .inr (4, [.ref o_places_a])), (o_places_a, .inl (cI, 8, .inl u8)), (o_olds, .inr (4, [.ref o_olds_a])), (o_olds_a, .inl (cI, 8, .inl u9))] := hD
    refine lv_aload_n hx hb dX1_add_72 rfl (lv_at hl 0 rfl) ?_
    refine lv_dup hx hb dX1_add_73 rfl ?_
    refine xget hx hb hts hown hK 1 (C2 := RX1) (T := TX1) (N := 4) rfl hin_1 hP 0 rfl 3 (by decide) fl_26 rfl rfl rfl dX1_add_74 ?_
    refine lv_iconst (v := 1) hx hb dX1_add_77 (by decide) ?_
    refine lv_iadd hx hb dX1_add_78 ?_
    refine xput hx hb hts hown hK 1 (C2 := RX1) (T := TX1) (N := 4) tyX1 rfl tyX1_ok nmX1 hin_1 hP hD hS 0 rfl 3 (by decide) fl_26 rfl rfl rfl rfl rfl (Nat.le_of_ble_eq_true rfl) dX1_add_79 [(o, .inr (1, [.ref o_deeds, .ref o_places, .ref o_olds, .int (7 + 1)])), (o_deeds, .inr (4, [.ref o_deeds_a])), (o_deeds_a, .inl (cI, 8, .inl u7)), (o_places, .inr (4, [.ref o_places_a])), (o_places_a, .inl (cI, 8, .inl u8)), (o_olds, .inr (4, [.ref o_olds_a])), (o_olds_a, .inl (cI, 8, .inl u9))] rfl (fun H locs hP hD hS => ?_)
    exact hret _ _ _ _ ((7 + 1), u7, u8, u9) dX1_add_82 ((hF.trans (by simp only [fX1_add, xlet, if_neg c_1, ↓hw_5, ↓hw_6, ↓hw_7, ↓hw_8, ↓hw_9, ↓hw_10])).symm) hP hD hS
set_option maxRecDepth 20000 in
theorem ggX1_undoLatest_X4_at : GoodIn wsX1_undoLatest wsX4_at := goodIn_r _ [9, 10, 32] (by decide +kernel) (by decide +kernel)
set_option maxRecDepth 20000 in
theorem gX1_undoLatest_X4_at : GoodIn wsX1_undoLatest (wsV RX1 37 RX4 yX4_at wsX4_at) := goodIn_app (goodIn_of _ (by decide +kernel)) ggX1_undoLatest_X4_at
set_option maxRecDepth 20000 in
theorem ggX1_undoLatest_X3_setWalked : GoodIn wsX1_undoLatest wsX3_setWalked := goodIn_r _ [15, 16, 25, 26, 27, 28, 29, 30, 31] (by decide +kernel) (by decide +kernel)
set_option maxRecDepth 20000 in
theorem gX1_undoLatest_X3_setWalked : GoodIn wsX1_undoLatest (wsV RX1 41 RX3 yX3_setWalked wsX3_setWalked) := goodIn_app (goodIn_of _ (by decide +kernel)) ggX1_undoLatest_X3_setWalked
set_option maxRecDepth 20000 in
theorem ggX1_undoLatest_X4_put : GoodIn wsX1_undoLatest wsX4_put := goodIn_r _ [20, 10, 32] (by decide +kernel) (by decide +kernel)
set_option maxRecDepth 20000 in
theorem gX1_undoLatest_X4_put : GoodIn wsX1_undoLatest (wsV RX1 33 RX4 yX4_put wsX4_put) := goodIn_app (goodIn_of _ (by decide +kernel)) ggX1_undoLatest_X4_put
theorem dX1_undoLatest_0 : decode cX1_undoLatest 0 = .ok (.aload_n 0, 1) := by decide +kernel
theorem dX1_undoLatest_1 : decode cX1_undoLatest 1 = .ok (.dup, 1) := by decide +kernel
theorem dX1_undoLatest_2 : decode cX1_undoLatest 2 = .ok (.getfield 26, 3) := by decide +kernel
theorem dX1_undoLatest_5 : decode cX1_undoLatest 5 = .ok (.iconst 1, 1) := by decide +kernel
theorem dX1_undoLatest_6 : decode cX1_undoLatest 6 = .ok (.isub, 1) := by decide +kernel
theorem dX1_undoLatest_7 : decode cX1_undoLatest 7 = .ok (.putfield 26, 3) := by decide +kernel
theorem dX1_undoLatest_10 : decode cX1_undoLatest 10 = .ok (.aload_n 0, 1) := by decide +kernel
theorem dX1_undoLatest_11 : decode cX1_undoLatest 11 = .ok (.getfield 14, 3) := by decide +kernel
theorem dX1_undoLatest_14 : decode cX1_undoLatest 14 = .ok (.aload_n 0, 1) := by decide +kernel
theorem dX1_undoLatest_15 : decode cX1_undoLatest 15 = .ok (.getfield 26, 3) := by decide +kernel
theorem dX1_undoLatest_18 : decode cX1_undoLatest 18 = .ok (.invokevirtual 37, 3) := by decide +kernel
theorem dX1_undoLatest_21 : decode cX1_undoLatest 21 = .ok (.istore_n 2, 1) := by decide +kernel
theorem dX1_undoLatest_22 : decode cX1_undoLatest 22 = .ok (.aload_n 0, 1) := by decide +kernel
theorem dX1_undoLatest_23 : decode cX1_undoLatest 23 = .ok (.getfield 23, 3) := by decide +kernel
theorem dX1_undoLatest_26 : decode cX1_undoLatest 26 = .ok (.aload_n 0, 1) := by decide +kernel
theorem dX1_undoLatest_27 : decode cX1_undoLatest 27 = .ok (.getfield 26, 3) := by decide +kernel
theorem dX1_undoLatest_30 : decode cX1_undoLatest 30 = .ok (.invokevirtual 37, 3) := by decide +kernel
theorem dX1_undoLatest_33 : decode cX1_undoLatest 33 = .ok (.istore_n 3, 1) := by decide +kernel
theorem dX1_undoLatest_34 : decode cX1_undoLatest 34 = .ok (.iload_n 2, 1) := by decide +kernel
theorem dX1_undoLatest_35 : decode cX1_undoLatest 35 = .ok (.ifCond .ne 22, 3) := by decide +kernel
theorem dX1_undoLatest_38 : decode cX1_undoLatest 38 = .ok (.aload_n 1, 1) := by decide +kernel
theorem dX1_undoLatest_39 : decode cX1_undoLatest 39 = .ok (.aload_n 0, 1) := by decide +kernel
theorem dX1_undoLatest_40 : decode cX1_undoLatest 40 = .ok (.getfield 20, 3) := by decide +kernel
theorem dX1_undoLatest_43 : decode cX1_undoLatest 43 = .ok (.aload_n 0, 1) := by decide +kernel
theorem dX1_undoLatest_44 : decode cX1_undoLatest 44 = .ok (.getfield 26, 3) := by decide +kernel
theorem dX1_undoLatest_47 : decode cX1_undoLatest 47 = .ok (.invokevirtual 37, 3) := by decide +kernel
theorem dX1_undoLatest_50 : decode cX1_undoLatest 50 = .ok (.iload_n 3, 1) := by decide +kernel
theorem dX1_undoLatest_51 : decode cX1_undoLatest 51 = .ok (.invokevirtual 41, 3) := by decide +kernel
theorem dX1_undoLatest_54 : decode cX1_undoLatest 54 = .ok (.goto 35, 3) := by decide +kernel
theorem dX1_undoLatest_57 : decode cX1_undoLatest 57 = .ok (.iload_n 2, 1) := by decide +kernel
theorem dX1_undoLatest_58 : decode cX1_undoLatest 58 = .ok (.iconst 1, 1) := by decide +kernel
theorem dX1_undoLatest_59 : decode cX1_undoLatest 59 = .ok (.if_icmp .ne 25, 3) := by decide +kernel
theorem dX1_undoLatest_62 : decode cX1_undoLatest 62 = .ok (.aload_n 1, 1) := by decide +kernel
theorem dX1_undoLatest_63 : decode cX1_undoLatest 63 = .ok (.getfield 46, 3) := by decide +kernel
theorem dX1_undoLatest_66 : decode cX1_undoLatest 66 = .ok (.aload_n 0, 1) := by decide +kernel
theorem dX1_undoLatest_67 : decode cX1_undoLatest 67 = .ok (.getfield 20, 3) := by decide +kernel
theorem dX1_undoLatest_70 : decode cX1_undoLatest 70 = .ok (.aload_n 0, 1) := by decide +kernel
theorem dX1_undoLatest_71 : decode cX1_undoLatest 71 = .ok (.getfield 26, 3) := by decide +kernel
theorem dX1_undoLatest_74 : decode cX1_undoLatest 74 = .ok (.invokevirtual 37, 3) := by decide +kernel
theorem dX1_undoLatest_77 : decode cX1_undoLatest 77 = .ok (.iload_n 3, 1) := by decide +kernel
theorem dX1_undoLatest_78 : decode cX1_undoLatest 78 = .ok (.invokevirtual 33, 3) := by decide +kernel
theorem dX1_undoLatest_81 : decode cX1_undoLatest 81 = .ok (.goto 8, 3) := by decide +kernel
theorem dX1_undoLatest_84 : decode cX1_undoLatest 84 = .ok (.aload_n 1, 1) := by decide +kernel
theorem dX1_undoLatest_85 : decode cX1_undoLatest 85 = .ok (.iload_n 3, 1) := by decide +kernel
theorem dX1_undoLatest_86 : decode cX1_undoLatest 86 = .ok (.putfield 49, 3) := by decide +kernel
theorem dX1_undoLatest_89 : decode cX1_undoLatest 89 = .ok (.return_, 1) := by decide +kernel
def fX1_undoLatest (o_held : Int32) (o_deeds_f : Nat → Int32) (o_olds_f : Nat → Int32) (a1_mile : Int32) (a1_walked : Int32) (o_places_f : Nat → Int32) (a1_hard_f : Nat → Int32) : Int32 × Int32 × (Nat → Int32) := if (fX4_at (o_held - 1) o_deeds_f 8) = 0 then (xlet (fX3_setWalked (fX4_at (o_held - 1) o_places_f 8) (fX4_at (o_held - 1) o_olds_f 8) a1_walked) (fun u6 => (a1_mile, u6, a1_hard_f))) else (if (fX4_at (o_held - 1) o_deeds_f 8) = 1 then (xlet (fX4_put (fX4_at (o_held - 1) o_places_f 8) (fX4_at (o_held - 1) o_olds_f 8) a1_hard_f 21) (fun u4 => (a1_mile, a1_walked, u4))) else (((fX4_at (o_held - 1) o_olds_f 8), a1_walked, a1_hard_f)))
set_option maxHeartbeats 4000000 in
set_option maxRecDepth 100000 in
theorem c_X1_undoLatest (l : Launch) (D : va_G) (cI cZ : ClassId) (sz : Nat) (o : Nat) (a1 : Nat) (o_deeds : Nat) (o_places : Nat) (o_olds : Nat) (o_held : Int32) (o_deeds_a : Nat) (o_deeds_f : Nat → Int32) (o_olds_a : Nat) (o_olds_f : Nat → Int32) (a1_steps : Int32) (a1_mile : Int32) (a1_walkers : Int32) (a1_walked : Int32) (a1_hard : Nat) (a1_kinds : Nat) (a1_habits : Nat) (o_places_a : Nat) (o_places_f : Nat → Int32) (a1_hard_a : Nat) (a1_hard_f : Nat → Int32)  : Met l yX1_undoLatest wsX1_undoLatest ({ frames := 1, cells := 0, slots := 0, locals := 22 } : Room) (va_Pc [.ref o, .ref a1] (xP D cI cZ [(o, .inr (1, [.ref o_deeds, .ref o_places, .ref o_olds, .int o_held])), (o_deeds, .inr (4, [.ref o_deeds_a])), (o_deeds_a, .inl (cI, 8, .inl o_deeds_f)), (o_olds, .inr (4, [.ref o_olds_a])), (o_olds_a, .inl (cI, 8, .inl o_olds_f)), (a1, .inr (3, [.int a1_steps, .int a1_mile, .int a1_walkers, .int a1_walked, .ref a1_hard, .ref a1_kinds, .ref a1_habits])), (o_places, .inr (4, [.ref o_places_a])), (o_places_a, .inl (cI, 8, .inl o_places_f)), (a1_hard, .inr (4, [.ref a1_hard_a])), (a1_hard_a, .inl (cI, 21, .inl a1_hard_f))] sz)) (va_Qv (fun (u : Int32 × Int32 × (Nat → Int32)) => u = fX1_undoLatest o_held o_deeds_f o_olds_f a1_mile a1_walked o_places_f a1_hard_f) (fun (u : Int32 × Int32 × (Nat → Int32)) t => xB D cI cZ [(o, .inr (1, [.ref o_deeds, .ref o_places, .ref o_olds, .int (o_held - 1)])), (o_deeds, .inr (4, [.ref o_deeds_a])), (o_deeds_a, .inl (cI, 8, .inl o_deeds_f)), (o_olds, .inr (4, [.ref o_olds_a])), (o_olds_a, .inl (cI, 8, .inl o_olds_f)), (a1, .inr (3, [.int a1_steps, .int u.1, .int a1_walkers, .int u.2.1, .ref a1_hard, .ref a1_kinds, .ref a1_habits])), (o_places, .inr (4, [.ref o_places_a])), (o_places_a, .inl (cI, 8, .inl o_places_f)), (a1_hard, .inr (4, [.ref a1_hard_a])), (a1_hard_a, .inl (cI, 21, .inl u.2.2))] (va_A [(o, .inr (1, [.ref o_deeds, .ref o_places, .ref o_olds, .int o_held])), (o_deeds, .inr (4, [.ref o_deeds_a])), (o_deeds_a, .inl (cI, 8, .inl o_deeds_f)), (o_olds, .inr (4, [.ref o_olds_a])), (o_olds_a, .inl (cI, 8, .inl o_olds_f)), (a1, .inr (3, [.int a1_steps, .int a1_mile, .int a1_walkers, .int a1_walked, .ref a1_hard, .ref a1_kinds, .ref a1_habits])), (o_places, .inr (4, [.ref o_places_a])), (o_places_a, .inl (cI, 8, .inl o_places_f)), (a1_hard, .inr (4, [.ref a1_hard_a])), (a1_hard_a, .inl (cI, 21, .inl a1_hard_f))] sz) t) (va_A [(o, .inr (1, [.ref o_deeds, .ref o_places, .ref o_olds, .int o_held])), (o_deeds, .inr (4, [.ref o_deeds_a])), (o_deeds_a, .inl (cI, 8, .inl o_deeds_f)), (o_olds, .inr (4, [.ref o_olds_a])), (o_olds_a, .inl (cI, 8, .inl o_olds_f)), (a1, .inr (3, [.int a1_steps, .int a1_mile, .int a1_walkers, .int a1_walked, .ref a1_hard, .ref a1_kinds, .ref a1_habits])), (o_places, .inr (4, [.ref o_places_a])), (o_places_a, .inl (cI, 8, .inl o_places_f)), (a1_hard, .inr (4, [.ref a1_hard_a])), (a1_hard_a, .inl (cI, 21, .inl a1_hard_f))] sz)) 0 0 (va_A [(o, .inr (1, [.ref o_deeds, .ref o_places, .ref o_olds, .int o_held])), (o_deeds, .inr (4, [.ref o_deeds_a])), (o_deeds_a, .inl (cI, 8, .inl o_deeds_f)), (o_olds, .inr (4, [.ref o_olds_a])), (o_olds_a, .inl (cI, 8, .inl o_olds_f)), (a1, .inr (3, [.int a1_steps, .int a1_mile, .int a1_walkers, .int a1_walked, .ref a1_hard, .ref a1_kinds, .ref a1_habits])), (o_places, .inr (4, [.ref o_places_a])), (o_places_a, .inl (cI, 8, .inl o_places_f)), (a1_hard, .inr (4, [.ref a1_hard_a])), (a1_hard_a, .inl (cI, 21, .inl a1_hard_f))] sz) := by
  refine Met.ofW (cc := cX1_undoLatest) (maxL := 4) (ret := none) (by decide) rfl ?_
  intro p e s m args below meth c s₁ B hml hv
  obtain ⟨hargs, hsz, hP, hK, hD0, hE⟩ := hv
  subst hargs
  have hx := B.exec
  have hb := B.bytes
  have hr := B.returns
  have hts := atoms_spec (ws := wsX1_undoLatest) B.pre
  have hown : s.vm.findClass RX1 = some m.cls := findClass_of_methodNamed B.named
  have hlocks := B.notSynchronized
  subst hsz
  have hD := hD0.self (sz := s.heap.size)
  generalize hAe : va_A [(o, .inr (1, [.ref o_deeds, .ref o_places, .ref o_olds, .int o_held])), (o_deeds, .inr (4, [.ref o_deeds_a])), (o_deeds_a, .inl (cI, 8, .inl o_deeds_f)), (o_olds, .inr (4, [.ref o_olds_a])), (o_olds_a, .inl (cI, 8, .inl o_olds_f)), (a1, .inr (3, [.int a1_steps, .int a1_mile, .int a1_walkers, .int a1_walked, .ref a1_hard, .ref a1_kinds, .ref a1_habits])), (o_places, .inr (4, [.ref o_places_a])), (o_places_a, .inl (cI, 8, .inl o_places_f)), (a1_hard, .inr (4, [.ref a1_hard_a])), (a1_hard_a, .inl (cI, 21, .inl a1_hard_f))] s.heap.size = A at hD ⊢
  have hA : ∀ q : Nat, s.heap.size ≤ q → A q := fun q h => by rw [← hAe]; exact Or.inr h
  have hS : va_S A s.heap s.heap [] := va_S.rf
  have hl := lv_entry ([.ref o, .ref a1]) (n := 4) (Nat.le_of_ble_eq_true rfl)
  rw [lg_entry_eq]
  generalize (lg_sl ([.ref o, .ref a1]) ++ List.replicate (4 - (lg_sl ([.ref o, .ref a1])).length) Slot.unset).toArray = ls at hl ⊢
  have hl : lv_has ls 4 [(0, .ref o), (1, .ref a1)] := hl
  refine wq (X := fun Q => ∀ (pc : Nat) (H : Heap) (locs : List Loc) (ls : Array Slot) (u : Int32 × Int32 × (Nat → Int32)) (hd : decode cX1_undoLatest pc = .ok (.return_, 1)) (hp : u = fX1_undoLatest o_held o_deeds_f o_olds_f a1_mile a1_walked o_places_f a1_hard_f) (hP : va_P D vwCl [(o, .inr (1, [.ref o_deeds, .ref o_places, .ref o_olds, .int (o_held - 1)])), (o_deeds, .inr (4, [.ref o_deeds_a])), (o_deeds_a, .inl (cI, 8, .inl o_deeds_f)), (o_olds, .inr (4, [.ref o_olds_a])), (o_olds_a, .inl (cI, 8, .inl o_olds_f)), (a1, .inr (3, [.int a1_steps, .int u.1, .int a1_walkers, .int u.2.1, .ref a1_hard, .ref a1_kinds, .ref a1_habits])), (o_places, .inr (4, [.ref o_places_a])), (o_places_a, .inl (cI, 8, .inl o_places_f)), (a1_hard, .inr (4, [.ref a1_hard_a])), (a1_hard_a, .inl (cI, 21, .inl u.2.2))] H) (hD : va_D A [(o, .inr (1, [.ref o_deeds, .ref o_places, .ref o_olds, .int (o_held - 1)])), (o_deeds, .inr (4, [.ref o_deeds_a])), (o_deeds_a, .inl (cI, 8, .inl o_deeds_f)), (o_olds, .inr (4, [.ref o_olds_a])), (o_olds_a, .inl (cI, 8, .inl o_olds_f)), (a1, .inr (3, [.int a1_steps, .int u.1, .int a1_walkers, .int u.2.1, .ref a1_hard, .ref a1_kinds, .ref a1_habits])), (o_places, .inr (4, [.ref o_places_a])), (o_places_a, .inl (cI, 8, .inl o_places_f)), (a1_hard, .inr (4, [.ref a1_hard_a])), (a1_hard_a, .inl (cI, 21, .inl u.2.2))]) (hS : va_S A s.heap H locs), W p l e ({ frames := 1, cells := 0, slots := 0, locals := 22 } : Room) s m ([.ref o, .ref a1] : List Value).toArray below meth c H locs 0 0 Q (F0 m pc ls [])) ?_ (fun Q hret => ?_)
  · intro pc H locs ls u hd hp hP hD hS
    exact W.vret hx hb hr (fun t ht hW => ⟨⟨u, rfl, hp, by rw [ht]; exact hP, va_K.moved hW.alike hK, hD⟩, hS.F ht⟩) hS.2.2 hd
  have hin_1 : ∀ w ∈ u_ws RX1 TX1 4, w ∈ wsX1_undoLatest := by decide +kernel
  have hin_3 : ∀ w ∈ u_ws RX3 TX3 7, w ∈ wsX1_undoLatest := by decide +kernel
  have fl_14 := hts (.fieldLink RX1 14 "MileRoad$Past" "deeds" "LMileRoad$Row;") (by decide +kernel)
  have fl_20 := hts (.fieldLink RX1 20 "MileRoad$Past" "places" "LMileRoad$Row;") (by decide +kernel)
  have fl_23 := hts (.fieldLink RX1 23 "MileRoad$Past" "olds" "LMileRoad$Row;") (by decide +kernel)
  have fl_26 := hts (.fieldLink RX1 26 "MileRoad$Past" "held" "I") (by decide +kernel)
  have fl_46 := hE.f 15 rfl ([.ref o, .ref a1] : List Value).toArray
  have fl_49 := hE.f 16 rfl ([.ref o, .ref a1] : List Value).toArray
  have hF : fX1_undoLatest o_held o_deeds_f o_olds_f a1_mile a1_walked o_places_f a1_hard_f = fX1_undoLatest o_held o_deeds_f o_olds_f a1_mile a1_walked o_places_f a1_hard_f := rfl
  refine lv_aload_n hx hb dX1_undoLatest_0 rfl (lv_at hl 0 rfl) ?_
  refine lv_dup hx hb dX1_undoLatest_1 rfl ?_
  refine xget hx hb hts hown hK 1 (C2 := RX1) (T := TX1) (N := 4) rfl hin_1 hP 0 rfl 3 (by decide) fl_26 rfl rfl rfl dX1_undoLatest_2 ?_
  refine lv_iconst (v := 1) hx hb dX1_undoLatest_5 (by decide) ?_
  refine lv_isub hx hb dX1_undoLatest_6 ?_
  refine xput hx hb hts hown hK 1 (C2 := RX1) (T := TX1) (N := 4) tyX1 rfl tyX1_ok nmX1 hin_1 hP hD hS 0 rfl 3 (by decide) fl_26 rfl rfl rfl rfl rfl (Nat.le_of_ble_eq_true rfl) dX1_undoLatest_7 [(o, .inr (1, [.ref o_deeds, .ref o_places, .ref o_olds, .int (o_held - 1)])), (o_deeds, .inr (4, [.ref o_deeds_a])), (o_deeds_a, .inl (cI, 8, .inl o_deeds_f)), (o_olds, .inr (4, [.ref o_olds_a])), (o_olds_a, .inl (cI, 8, .inl o_olds_f)), (a1, .inr (3, [.int a1_steps, .int a1_mile, .int a1_walkers, .int a1_walked, .ref a1_hard, .ref a1_kinds, .ref a1_habits])), (o_places, .inr (4, [.ref o_places_a])), (o_places_a, .inl (cI, 8, .inl o_places_f)), (a1_hard, .inr (4, [.ref a1_hard_a])), (a1_hard_a, .inl (cI, 21, .inl a1_hard_f))] rfl (fun H locs hP hD hS => ?_)
  refine lv_aload_n hx hb dX1_undoLatest_10 rfl (lv_at hl 0 rfl) ?_
  refine xget hx hb hts hown hK 1 (C2 := RX1) (T := TX1) (N := 4) rfl hin_1 hP 0 rfl 0 (by decide) fl_14 rfl rfl rfl dX1_undoLatest_11 ?_
  refine lv_aload_n hx hb dX1_undoLatest_14 rfl (lv_at hl 0 rfl) ?_
  refine xget hx hb hts hown hK 1 (C2 := RX1) (T := TX1) (N := 4) rfl hin_1 hP 0 rfl 3 (by decide) fl_26 rfl rfl rfl dX1_undoLatest_15 ?_
  refine xcalli (S := Unit) (Wc := [(o_deeds, .inr (4, [.ref o_deeds_a])), (o_deeds_a, .inl (cI, 8, .inl o_deeds_f))]) (wr := [(o, .inr (1, [.ref o_deeds, .ref o_places, .ref o_olds, .int (o_held - 1)])), (o_olds, .inr (4, [.ref o_olds_a])), (o_olds_a, .inl (cI, 8, .inl o_olds_f)), (a1, .inr (3, [.int a1_steps, .int a1_mile, .int a1_walkers, .int a1_walked, .ref a1_hard, .ref a1_kinds, .ref a1_habits])), (o_places, .inr (4, [.ref o_places_a])), (o_places_a, .inl (cI, 8, .inl o_places_f)), (a1_hard, .inr (4, [.ref a1_hard_a])), (a1_hard_a, .inl (cI, 21, .inl a1_hard_f))]) (W1 := (fun (u : Unit) => [(o_deeds, .inr (4, [.ref o_deeds_a])), (o_deeds_a, .inl (cI, 8, .inl o_deeds_f))])) (Wn := (fun (u : Unit) => [(o, .inr (1, [.ref o_deeds, .ref o_places, .ref o_olds, .int (o_held - 1)])), (o_deeds, .inr (4, [.ref o_deeds_a])), (o_deeds_a, .inl (cI, 8, .inl o_deeds_f)), (o_olds, .inr (4, [.ref o_olds_a])), (o_olds_a, .inl (cI, 8, .inl o_olds_f)), (a1, .inr (3, [.int a1_steps, .int a1_mile, .int a1_walkers, .int a1_walked, .ref a1_hard, .ref a1_kinds, .ref a1_habits])), (o_places, .inr (4, [.ref o_places_a])), (o_places_a, .inl (cI, 8, .inl o_places_f)), (a1_hard, .inr (4, [.ref a1_hard_a])), (a1_hard_a, .inl (cI, 21, .inl a1_hard_f))])) (xrunV hx hb hml hown hts (c_X4_at l D cI cZ _ o_deeds (o_held - 1) o_deeds_a o_deeds_f 8 (by decide)) (cwV 1 hts gX1_undoLatest_X4_at rfl rfl rfl (by decide +kernel) ⟨Nat.le_of_ble_eq_true rfl, Nat.le_of_ble_eq_true rfl⟩) hE hK hP hD [1, 2] rfl rfl 0 4 (T := TX4) (N := 1) rfl rfl rfl hl.1 rfl (Nat.le_of_ble_eq_true rfl) dX1_undoLatest_18 ⟨Nat.le_of_ble_eq_true rfl, Nat.le_of_ble_eq_true rfl⟩) hP hD hS hA [1, 2] [0, 3, 4, 5, 6, 7, 8, 9] [0, 8, 9, 1, 2, 3, 4, 5, 6, 7] rfl rfl rfl (by decide) (fun _ => rfl) rfl (fun r1 u H locs hw hz hP hD hS => ?_)
  subst hw
  refine lv_istore_n (lv' := [(2, .int (fX4_at (o_held - 1) o_deeds_f 8)), (0, .ref o), (1, .ref a1)]) hx hb dX1_undoLatest_21 rfl hl (by decide) rfl (fun ls hl => ?_)
  refine lv_aload_n hx hb dX1_undoLatest_22 rfl (lv_at hl 1 rfl) ?_
  refine xget hx hb hts hown hK 1 (C2 := RX1) (T := TX1) (N := 4) rfl hin_1 hP 0 rfl 2 (by decide) fl_23 rfl rfl rfl dX1_undoLatest_23 ?_
  refine lv_aload_n hx hb dX1_undoLatest_26 rfl (lv_at hl 1 rfl) ?_
  refine xget hx hb hts hown hK 1 (C2 := RX1) (T := TX1) (N := 4) rfl hin_1 hP 0 rfl 3 (by decide) fl_26 rfl rfl rfl dX1_undoLatest_27 ?_
  refine xcalli (S := Unit) (Wc := [(o_olds, .inr (4, [.ref o_olds_a])), (o_olds_a, .inl (cI, 8, .inl o_olds_f))]) (wr := [(o, .inr (1, [.ref o_deeds, .ref o_places, .ref o_olds, .int (o_held - 1)])), (o_deeds, .inr (4, [.ref o_deeds_a])), (o_deeds_a, .inl (cI, 8, .inl o_deeds_f)), (a1, .inr (3, [.int a1_steps, .int a1_mile, .int a1_walkers, .int a1_walked, .ref a1_hard, .ref a1_kinds, .ref a1_habits])), (o_places, .inr (4, [.ref o_places_a])), (o_places_a, .inl (cI, 8, .inl o_places_f)), (a1_hard, .inr (4, [.ref a1_hard_a])), (a1_hard_a, .inl (cI, 21, .inl a1_hard_f))]) (W1 := (fun (u : Unit) => [(o_olds, .inr (4, [.ref o_olds_a])), (o_olds_a, .inl (cI, 8, .inl o_olds_f))])) (Wn := (fun (u : Unit) => [(o, .inr (1, [.ref o_deeds, .ref o_places, .ref o_olds, .int (o_held - 1)])), (o_deeds, .inr (4, [.ref o_deeds_a])), (o_deeds_a, .inl (cI, 8, .inl o_deeds_f)), (o_olds, .inr (4, [.ref o_olds_a])), (o_olds_a, .inl (cI, 8, .inl o_olds_f)), (a1, .inr (3, [.int a1_steps, .int a1_mile, .int a1_walkers, .int a1_walked, .ref a1_hard, .ref a1_kinds, .ref a1_habits])), (o_places, .inr (4, [.ref o_places_a])), (o_places_a, .inl (cI, 8, .inl o_places_f)), (a1_hard, .inr (4, [.ref a1_hard_a])), (a1_hard_a, .inl (cI, 21, .inl a1_hard_f))])) (xrunV hx hb hml hown hts (c_X4_at l D cI cZ _ o_olds (o_held - 1) o_olds_a o_olds_f 8 (by decide)) (cwV 1 hts gX1_undoLatest_X4_at rfl rfl rfl (by decide +kernel) ⟨Nat.le_of_ble_eq_true rfl, Nat.le_of_ble_eq_true rfl⟩) hE hK hP hD [3, 4] rfl rfl 0 4 (T := TX4) (N := 1) rfl rfl rfl hl.1 rfl (Nat.le_of_ble_eq_true rfl) dX1_undoLatest_30 ⟨Nat.le_of_ble_eq_true rfl, Nat.le_of_ble_eq_true rfl⟩) hP hD hS hA [3, 4] [0, 1, 2, 5, 6, 7, 8, 9] [0, 1, 2, 8, 9, 3, 4, 5, 6, 7] rfl rfl rfl (by decide) (fun _ => rfl) rfl (fun r2 u H locs hw hz hP hD hS => ?_)
  subst hw
  refine lv_istore_n (lv' := [(3, .int (fX4_at (o_held - 1) o_olds_f 8)), (2, .int (fX4_at (o_held - 1) o_deeds_f 8)), (0, .ref o), (1, .ref a1)]) hx hb dX1_undoLatest_33 rfl hl (by decide) rfl (fun ls hl => ?_)
  refine lv_iload_n hx hb dX1_undoLatest_34 rfl (lv_at hl 1 rfl) ?_
  refine lv_if_ne (tgt := 57) hx hb dX1_undoLatest_35 (by decide) (fun c_1 => ?_) (fun c_1 => ?_)
  · refine lv_iload_n hx hb dX1_undoLatest_57 rfl (lv_at hl 1 rfl) ?_
    refine lv_iconst (v := 1) hx hb dX1_undoLatest_58 (by decide) ?_
    refine lv_icmp_ne (tgt := 84) hx hb dX1_undoLatest_59 (by decide) (fun c_2 => ?_) (fun c_2 => ?_)
    · refine lv_aload_n hx hb dX1_undoLatest_84 rfl (lv_at hl 3 rfl) ?_
      refine lv_iload_n hx hb dX1_undoLatest_85 rfl (lv_at hl 0 rfl) ?_
      refine xputN hx hb hts hown hK 3 (C2 := RX3) (T := TX3) (N := 7) tyX3 rfl tyX3_ok nmX3 hin_3 hP hD hS 5 rfl 1 (by decide) fl_49 rfl rfl rfl rfl rfl (Nat.le_of_ble_eq_true rfl) dX1_undoLatest_86 [(o, .inr (1, [.ref o_deeds, .ref o_places, .ref o_olds, .int (o_held - 1)])), (o_deeds, .inr (4, [.ref o_deeds_a])), (o_deeds_a, .inl (cI, 8, .inl o_deeds_f)), (o_olds, .inr (4, [.ref o_olds_a])), (o_olds_a, .inl (cI, 8, .inl o_olds_f)), (a1, .inr (3, [.int a1_steps, .int (fX4_at (o_held - 1) o_olds_f 8), .int a1_walkers, .int a1_walked, .ref a1_hard, .ref a1_kinds, .ref a1_habits])), (o_places, .inr (4, [.ref o_places_a])), (o_places_a, .inl (cI, 8, .inl o_places_f)), (a1_hard, .inr (4, [.ref a1_hard_a])), (a1_hard_a, .inl (cI, 21, .inl a1_hard_f))] rfl (fun H locs hP hD hS => ?_)
      exact hret _ _ _ _ ((fX4_at (o_held - 1) o_olds_f 8), a1_walked, a1_hard_f) dX1_undoLatest_89 ((hF.trans (by simp only [fX1_undoLatest, xlet, if_neg c_1, if_neg c_2])).symm) hP hD hS
    · refine lv_aload_n hx hb dX1_undoLatest_62 rfl (lv_at hl 3 rfl) ?_
      refine xgetN hx hb hts hown hK 3 (C2 := RX3) (T := TX3) (N := 7) rfl hin_3 hP 5 rfl 4 (by decide) fl_46 rfl rfl rfl dX1_undoLatest_63 ?_
      refine lv_aload_n hx hb dX1_undoLatest_66 rfl (lv_at hl 2 rfl) ?_
      refine xget hx hb hts hown hK 1 (C2 := RX1) (T := TX1) (N := 4) rfl hin_1 hP 0 rfl 1 (by decide) fl_20 rfl rfl rfl dX1_undoLatest_67 ?_
      refine lv_aload_n hx hb dX1_undoLatest_70 rfl (lv_at hl 2 rfl) ?_
      refine xget hx hb hts hown hK 1 (C2 := RX1) (T := TX1) (N := 4) rfl hin_1 hP 0 rfl 3 (by decide) fl_26 rfl rfl rfl dX1_undoLatest_71 ?_
      refine xcalli (S := Unit) (Wc := [(o_places, .inr (4, [.ref o_places_a])), (o_places_a, .inl (cI, 8, .inl o_places_f))]) (wr := [(o, .inr (1, [.ref o_deeds, .ref o_places, .ref o_olds, .int (o_held - 1)])), (o_deeds, .inr (4, [.ref o_deeds_a])), (o_deeds_a, .inl (cI, 8, .inl o_deeds_f)), (o_olds, .inr (4, [.ref o_olds_a])), (o_olds_a, .inl (cI, 8, .inl o_olds_f)), (a1, .inr (3, [.int a1_steps, .int a1_mile, .int a1_walkers, .int a1_walked, .ref a1_hard, .ref a1_kinds, .ref a1_habits])), (a1_hard, .inr (4, [.ref a1_hard_a])), (a1_hard_a, .inl (cI, 21, .inl a1_hard_f))]) (W1 := (fun (u : Unit) => [(o_places, .inr (4, [.ref o_places_a])), (o_places_a, .inl (cI, 8, .inl o_places_f))])) (Wn := (fun (u : Unit) => [(o, .inr (1, [.ref o_deeds, .ref o_places, .ref o_olds, .int (o_held - 1)])), (o_deeds, .inr (4, [.ref o_deeds_a])), (o_deeds_a, .inl (cI, 8, .inl o_deeds_f)), (o_olds, .inr (4, [.ref o_olds_a])), (o_olds_a, .inl (cI, 8, .inl o_olds_f)), (a1, .inr (3, [.int a1_steps, .int a1_mile, .int a1_walkers, .int a1_walked, .ref a1_hard, .ref a1_kinds, .ref a1_habits])), (o_places, .inr (4, [.ref o_places_a])), (o_places_a, .inl (cI, 8, .inl o_places_f)), (a1_hard, .inr (4, [.ref a1_hard_a])), (a1_hard_a, .inl (cI, 21, .inl a1_hard_f))])) (xrunV hx hb hml hown hts (c_X4_at l D cI cZ _ o_places (o_held - 1) o_places_a o_places_f 8 (by decide)) (cwV 1 hts gX1_undoLatest_X4_at rfl rfl rfl (by decide +kernel) ⟨Nat.le_of_ble_eq_true rfl, Nat.le_of_ble_eq_true rfl⟩) hE hK hP hD [6, 7] rfl rfl 0 4 (T := TX4) (N := 1) rfl rfl rfl hl.1 rfl (Nat.le_of_ble_eq_true rfl) dX1_undoLatest_74 ⟨Nat.le_of_ble_eq_true rfl, Nat.le_of_ble_eq_true rfl⟩) hP hD hS hA [6, 7] [0, 1, 2, 3, 4, 5, 8, 9] [0, 1, 2, 3, 4, 5, 8, 9, 6, 7] rfl rfl rfl (by decide) (fun _ => rfl) rfl (fun r3 u H locs hw hz hP hD hS => ?_)
      subst hw
      refine lv_iload_n hx hb dX1_undoLatest_77 rfl (lv_at hl 0 rfl) ?_
      refine xcallv (S := (Nat → Int32)) (Wc := [(a1_hard, .inr (4, [.ref a1_hard_a])), (a1_hard_a, .inl (cI, 21, .inl a1_hard_f))]) (wr := [(o, .inr (1, [.ref o_deeds, .ref o_places, .ref o_olds, .int (o_held - 1)])), (o_deeds, .inr (4, [.ref o_deeds_a])), (o_deeds_a, .inl (cI, 8, .inl o_deeds_f)), (o_olds, .inr (4, [.ref o_olds_a])), (o_olds_a, .inl (cI, 8, .inl o_olds_f)), (a1, .inr (3, [.int a1_steps, .int a1_mile, .int a1_walkers, .int a1_walked, .ref a1_hard, .ref a1_kinds, .ref a1_habits])), (o_places, .inr (4, [.ref o_places_a])), (o_places_a, .inl (cI, 8, .inl o_places_f))]) (W1 := (fun (u : (Nat → Int32)) => [(a1_hard, .inr (4, [.ref a1_hard_a])), (a1_hard_a, .inl (cI, 21, .inl u))])) (Wn := (fun (u : (Nat → Int32)) => [(o, .inr (1, [.ref o_deeds, .ref o_places, .ref o_olds, .int (o_held - 1)])), (o_deeds, .inr (4, [.ref o_deeds_a])), (o_deeds_a, .inl (cI, 8, .inl o_deeds_f)), (o_olds, .inr (4, [.ref o_olds_a])), (o_olds_a, .inl (cI, 8, .inl o_olds_f)), (a1, .inr (3, [.int a1_steps, .int a1_mile, .int a1_walkers, .int a1_walked, .ref a1_hard, .ref a1_kinds, .ref a1_habits])), (o_places, .inr (4, [.ref o_places_a])), (o_places_a, .inl (cI, 8, .inl o_places_f)), (a1_hard, .inr (4, [.ref a1_hard_a])), (a1_hard_a, .inl (cI, 21, .inl u))])) (xrunV hx hb hml hown hts (c_X4_put l D cI cZ _ a1_hard (fX4_at (o_held - 1) o_places_f 8) (fX4_at (o_held - 1) o_olds_f 8) a1_hard_a a1_hard_f 21 (by decide)) (cwV 2 hts gX1_undoLatest_X4_put rfl rfl rfl (by decide +kernel) ⟨Nat.le_of_ble_eq_true rfl, Nat.le_of_ble_eq_true rfl⟩) hE hK hP hD [8, 9] rfl rfl 0 4 (T := TX4) (N := 1) rfl rfl rfl hl.1 rfl (Nat.le_of_ble_eq_true rfl) dX1_undoLatest_78 ⟨Nat.le_of_ble_eq_true rfl, Nat.le_of_ble_eq_true rfl⟩) hP hD hS hA [8, 9] [0, 1, 2, 3, 4, 5, 6, 7] [0, 1, 2, 3, 4, 5, 6, 7, 8, 9] rfl rfl rfl (by decide) (fun _ => rfl) rfl (fun  u H locs hw hz hP hD hS => ?_)
      obtain ⟨u4, hu⟩ : ∃ z, z = u := ⟨u, rfl⟩
      subst hu
      have hw_8 := hw.symm
      have hP : va_P D vwCl [(o, .inr (1, [.ref o_deeds, .ref o_places, .ref o_olds, .int (o_held - 1)])), (o_deeds, .inr (4, [.ref o_deeds_a])), (o_deeds_a, .inl (cI, 8, .inl o_deeds_f)), (o_olds, .inr (4, [.ref o_olds_a])), (o_olds_a, .inl (cI, 8, .inl o_olds_f)), (a1, .inr (3, [.int a1_steps, .int a1_mile, .int a1_walkers, .int a1_walked, .ref a1_hard, .ref a1_kinds, .ref a1_habits])), (o_places, .inr (4, [.ref o_places_a])), (o_places_a, .inl (cI, 8, .inl o_places_f)), (a1_hard, .inr (4, [.ref a1_hard_a])), (a1_hard_a, .inl (cI, 21, .inl u4))] H := hP
      have hD : va_D A [(o, .inr (1, [.ref o_deeds, .ref o_places, .ref o_olds, .int (o_held - 1)])), (o_deeds, .inr (4, [.ref o_deeds_a])), (o_deeds_a, .inl (cI, 8, .inl o_deeds_f)), (o_olds, .inr (4, [.ref o_olds_a])), (o_olds_a, .inl (cI, 8, .inl o_olds_f)), (a1, .inr (3, [.int a1_steps, .int a1_mile, .int a1_walkers, .int a1_walked, .ref a1_hard, .ref a1_kinds, .ref a1_habits])), (o_places, .inr (4, [.ref o_places_a])), (o_places_a, .inl (cI, 8, .inl o_places_f)), (a1_hard, .inr (4, [.ref a1_hard_a])), (a1_hard_a, .inl (cI, 21, .inl u4))] := hD
      refine lv_goto (tgt := 89) hx hb dX1_undoLatest_81 (by decide) ?_
      exact hret _ _ _ _ (a1_mile, a1_walked, u4) dX1_undoLatest_89 ((hF.trans (by simp only [fX1_undoLatest, xlet, if_neg c_1, if_pos c_2, ↓hw_8])).symm) hP hD hS
  · refine lv_aload_n hx hb dX1_undoLatest_38 rfl (lv_at hl 3 rfl) ?_
    refine lv_aload_n hx hb dX1_undoLatest_39 rfl (lv_at hl 2 rfl) ?_
    refine xget hx hb hts hown hK 1 (C2 := RX1) (T := TX1) (N := 4) rfl hin_1 hP 0 rfl 1 (by decide) fl_20 rfl rfl rfl dX1_undoLatest_40 ?_
    refine lv_aload_n hx hb dX1_undoLatest_43 rfl (lv_at hl 2 rfl) ?_
    refine xget hx hb hts hown hK 1 (C2 := RX1) (T := TX1) (N := 4) rfl hin_1 hP 0 rfl 3 (by decide) fl_26 rfl rfl rfl dX1_undoLatest_44 ?_
    refine xcalli (S := Unit) (Wc := [(o_places, .inr (4, [.ref o_places_a])), (o_places_a, .inl (cI, 8, .inl o_places_f))]) (wr := [(o, .inr (1, [.ref o_deeds, .ref o_places, .ref o_olds, .int (o_held - 1)])), (o_deeds, .inr (4, [.ref o_deeds_a])), (o_deeds_a, .inl (cI, 8, .inl o_deeds_f)), (o_olds, .inr (4, [.ref o_olds_a])), (o_olds_a, .inl (cI, 8, .inl o_olds_f)), (a1, .inr (3, [.int a1_steps, .int a1_mile, .int a1_walkers, .int a1_walked, .ref a1_hard, .ref a1_kinds, .ref a1_habits])), (a1_hard, .inr (4, [.ref a1_hard_a])), (a1_hard_a, .inl (cI, 21, .inl a1_hard_f))]) (W1 := (fun (u : Unit) => [(o_places, .inr (4, [.ref o_places_a])), (o_places_a, .inl (cI, 8, .inl o_places_f))])) (Wn := (fun (u : Unit) => [(o, .inr (1, [.ref o_deeds, .ref o_places, .ref o_olds, .int (o_held - 1)])), (o_deeds, .inr (4, [.ref o_deeds_a])), (o_deeds_a, .inl (cI, 8, .inl o_deeds_f)), (o_olds, .inr (4, [.ref o_olds_a])), (o_olds_a, .inl (cI, 8, .inl o_olds_f)), (a1, .inr (3, [.int a1_steps, .int a1_mile, .int a1_walkers, .int a1_walked, .ref a1_hard, .ref a1_kinds, .ref a1_habits])), (o_places, .inr (4, [.ref o_places_a])), (o_places_a, .inl (cI, 8, .inl o_places_f)), (a1_hard, .inr (4, [.ref a1_hard_a])), (a1_hard_a, .inl (cI, 21, .inl a1_hard_f))])) (xrunV hx hb hml hown hts (c_X4_at l D cI cZ _ o_places (o_held - 1) o_places_a o_places_f 8 (by decide)) (cwV 1 hts gX1_undoLatest_X4_at rfl rfl rfl (by decide +kernel) ⟨Nat.le_of_ble_eq_true rfl, Nat.le_of_ble_eq_true rfl⟩) hE hK hP hD [6, 7] rfl rfl 0 4 (T := TX4) (N := 1) rfl rfl rfl hl.1 rfl (Nat.le_of_ble_eq_true rfl) dX1_undoLatest_47 ⟨Nat.le_of_ble_eq_true rfl, Nat.le_of_ble_eq_true rfl⟩) hP hD hS hA [6, 7] [0, 1, 2, 3, 4, 5, 8, 9] [0, 1, 2, 3, 4, 5, 8, 9, 6, 7] rfl rfl rfl (by decide) (fun _ => rfl) rfl (fun r5 u H locs hw hz hP hD hS => ?_)
    subst hw
    refine lv_iload_n hx hb dX1_undoLatest_50 rfl (lv_at hl 0 rfl) ?_
    refine xcallv (S := Int32) (Wc := [(a1, .inr (3, [.int a1_steps, .int a1_mile, .int a1_walkers, .int a1_walked, .ref a1_hard, .ref a1_kinds, .ref a1_habits]))]) (wr := [(o, .inr (1, [.ref o_deeds, .ref o_places, .ref o_olds, .int (o_held - 1)])), (o_deeds, .inr (4, [.ref o_deeds_a])), (o_deeds_a, .inl (cI, 8, .inl o_deeds_f)), (o_olds, .inr (4, [.ref o_olds_a])), (o_olds_a, .inl (cI, 8, .inl o_olds_f)), (o_places, .inr (4, [.ref o_places_a])), (o_places_a, .inl (cI, 8, .inl o_places_f)), (a1_hard, .inr (4, [.ref a1_hard_a])), (a1_hard_a, .inl (cI, 21, .inl a1_hard_f))]) (W1 := (fun (u : Int32) => [(a1, .inr (3, [.int a1_steps, .int a1_mile, .int a1_walkers, .int u, .ref a1_hard, .ref a1_kinds, .ref a1_habits]))])) (Wn := (fun (u : Int32) => [(o, .inr (1, [.ref o_deeds, .ref o_places, .ref o_olds, .int (o_held - 1)])), (o_deeds, .inr (4, [.ref o_deeds_a])), (o_deeds_a, .inl (cI, 8, .inl o_deeds_f)), (o_olds, .inr (4, [.ref o_olds_a])), (o_olds_a, .inl (cI, 8, .inl o_olds_f)), (a1, .inr (3, [.int a1_steps, .int a1_mile, .int a1_walkers, .int u, .ref a1_hard, .ref a1_kinds, .ref a1_habits])), (o_places, .inr (4, [.ref o_places_a])), (o_places_a, .inl (cI, 8, .inl o_places_f)), (a1_hard, .inr (4, [.ref a1_hard_a])), (a1_hard_a, .inl (cI, 21, .inl a1_hard_f))])) (xrunV hx hb hml hown hts (c_X3_setWalked l D cI cZ _ a1 (fX4_at (o_held - 1) o_places_f 8) (fX4_at (o_held - 1) o_olds_f 8) a1_steps a1_mile a1_walkers a1_walked a1_hard a1_kinds a1_habits ) (cwV 2 hts gX1_undoLatest_X3_setWalked rfl rfl rfl (by decide +kernel) ⟨Nat.le_of_ble_eq_true rfl, Nat.le_of_ble_eq_true rfl⟩) hE hK hP hD [5] rfl rfl 0 3 (T := TX3) (N := 7) rfl rfl rfl hl.1 rfl (Nat.le_of_ble_eq_true rfl) dX1_undoLatest_51 ⟨Nat.le_of_ble_eq_true rfl, Nat.le_of_ble_eq_true rfl⟩) hP hD hS hA [5] [0, 1, 2, 3, 4, 6, 7, 8, 9] [0, 1, 2, 3, 4, 9, 5, 6, 7, 8] rfl rfl rfl (by decide) (fun _ => rfl) rfl (fun  u H locs hw hz hP hD hS => ?_)
    obtain ⟨u6, hu⟩ : ∃ z, z = u := ⟨u, rfl⟩
    subst hu
    have hw_10 := hw.symm
    have hP : va_P D vwCl [(o, .inr (1, [.ref o_deeds, .ref o_places, .ref o_olds, .int (o_held - 1)])), (o_deeds, .inr (4, [.ref o_deeds_a])), (o_deeds_a, .inl (cI, 8, .inl o_deeds_f)), (o_olds, .inr (4, [.ref o_olds_a])), (o_olds_a, .inl (cI, 8, .inl o_olds_f)), (a1, .inr (3, [.int a1_steps, .int a1_mile, .int a1_walkers, .int u6, .ref a1_hard, .ref a1_kinds, .ref a1_habits])), (o_places, .inr (4, [.ref o_places_a])), (o_places_a, .inl (cI, 8, .inl o_places_f)), (a1_hard, .inr (4, [.ref a1_hard_a])), (a1_hard_a, .inl (cI, 21, .inl a1_hard_f))] H := hP
    have hD : va_D A [(o, .inr (1, [.ref o_deeds, .ref o_places, .ref o_olds, .int (o_held - 1)])), (o_deeds, .inr (4, [.ref o_deeds_a])), (o_deeds_a, .inl (cI, 8, .inl o_deeds_f)), (o_olds, .inr (4, [.ref o_olds_a])), (o_olds_a, .inl (cI, 8, .inl o_olds_f)), (a1, .inr (3, [.int a1_steps, .int a1_mile, .int a1_walkers, .int u6, .ref a1_hard, .ref a1_kinds, .ref a1_habits])), (o_places, .inr (4, [.ref o_places_a])), (o_places_a, .inl (cI, 8, .inl o_places_f)), (a1_hard, .inr (4, [.ref a1_hard_a])), (a1_hard_a, .inl (cI, 21, .inl a1_hard_f))] := hD
    refine lv_goto (tgt := 89) hx hb dX1_undoLatest_54 (by decide) ?_
    exact hret _ _ _ _ (a1_mile, u6, a1_hard_f) dX1_undoLatest_89 ((hF.trans (by simp only [fX1_undoLatest, xlet, if_pos c_1, ↓hw_10])).symm) hP hD hS
