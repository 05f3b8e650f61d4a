set_option maxRecDepth 20000 in
theorem ggX3_has_X8_within : GoodIn wsX3_has wsX8_within := goodIn_r _ [4] (by decide +kernel) (by decide +kernel)
set_option maxRecDepth 20000 in
theorem gX3_has_X8_within_n57 : GoodIn wsX3_has (wsX8_within) := ggX3_has_X8_within
theorem dX3_has_0 : decode cX3_has 0 = .ok (.iload_n 1, 1) := by decide +kernel
theorem dX3_has_1 : decode cX3_has 1 = .ok (.iconst 0, 1) := by decide +kernel
theorem dX3_has_2 : decode cX3_has 2 = .ok (.aload_n 0, 1) := by decide +kernel
theorem dX3_has_3 : decode cX3_has 3 = .ok (.getfield 47, 3) := by decide +kernel
theorem dX3_has_6 : decode cX3_has 6 = .ok (.iconst 1, 1) := by decide +kernel
theorem dX3_has_7 : decode cX3_has 7 = .ok (.isub, 1) := by decide +kernel
theorem dX3_has_8 : decode cX3_has 8 = .ok (.invokestatic 57, 3) := by decide +kernel
theorem dX3_has_11 : decode cX3_has 11 = .ok (.ireturn, 1) := by decide +kernel
def fX3_has (a1 : Int32) (o_walkers : Int32) : Int32 := (fX8_within a1 0 (o_walkers - 1))
set_option maxHeartbeats 4000000 in
set_option maxRecDepth 100000 in
theorem c_X3_has (l : Launch) (D : va_G) (cI cZ : ClassId) (sz : Nat) (o : Nat) (a1 : Int32) (o_steps : Int32) (o_mile : Int32) (o_walkers : Int32) (o_walked : Int32) (o_hard : Nat) (o_kinds : Nat) (o_habits : Nat)  : Met l yX3_has wsX3_has ({ frames := 1, cells := 0, slots := 0, locals := 22 } : Room) (va_Pc [.ref o, .int a1] (xP D cI cZ [(o, .inr (3, [.int o_steps, .int o_mile, .int o_walkers, .int o_walked, .ref o_hard, .ref o_kinds, .ref o_habits]))] sz)) (va_Qi (fun (r : Int32) (u : Unit) => r = fX3_has a1 o_walkers) (fun (u : Unit) t => xB D cI cZ [(o, .inr (3, [.int o_steps, .int o_mile, .int o_walkers, .int o_walked, .ref o_hard, .ref o_kinds, .ref o_habits]))] (va_A [(o, .inr (3, [.int o_steps, .int o_mile, .int o_walkers, .int o_walked, .ref o_hard, .ref o_kinds, .ref o_habits]))] sz) t) (va_A [(o, .inr (3, [.int o_steps, .int o_mile, .int o_walkers, .int o_walked, .ref o_hard, .ref o_kinds, .ref o_habits]))] sz)) 0 0 (va_A [(o, .inr (3, [.int o_steps, .int o_mile, .int o_walkers, .int o_walked, .ref o_hard, .ref o_kinds, .ref o_habits]))] sz) := by
  refine Met.ofW (cc := cX3_has) (maxL := 2) (ret := (some .boolean)) (by decide) rfl ?_
  intro p e s m args below meth c s₁ B hml hv
  obtain ⟨hargs, hsz, hP, hK, hD0, hE⟩ := hv
  subst hargs
  have hx := B.exec
  have hb := B.bytes
  have hr := B.returns
  have hts := atoms_spec (ws := wsX3_has) B.pre
  have hown : s.vm.findClass RX3 = some m.cls := findClass_of_methodNamed B.named
  have hlocks := B.notSynchronized
  subst hsz
  have hD := hD0.self (sz := s.heap.size)
  generalize hAe : va_A [(o, .inr (3, [.int o_steps, .int o_mile, .int o_walkers, .int o_walked, .ref o_hard, .ref o_kinds, .ref o_habits]))] s.heap.size = A at hD ⊢
  have hA : ∀ q : Nat, s.heap.size ≤ q → A q := fun q h => by rw [← hAe]; exact Or.inr h
  have hS : va_S A s.heap s.heap [] := va_S.rf
  have hl := lv_entry ([.ref o, .int a1]) (n := 2) (Nat.le_of_ble_eq_true rfl)
  rw [lg_entry_eq]
  generalize (lg_sl ([.ref o, .int a1]) ++ List.replicate (2 - (lg_sl ([.ref o, .int a1])).length) Slot.unset).toArray = ls at hl ⊢
  have hl : lv_has ls 2 [(0, .ref o), (1, .int a1)] := hl
  refine wq (X := fun Q => ∀ (pc : Nat) (H : Heap) (locs : List Loc) (ls : Array Slot) (r : Int32) (u : Unit) (hn : narrow .boolean (.int r) = .int r) (hd : decode cX3_has pc = .ok (.ireturn, 1)) (hp : r = fX3_has a1 o_walkers) (hP : va_P D vwCl [(o, .inr (3, [.int o_steps, .int o_mile, .int o_walkers, .int o_walked, .ref o_hard, .ref o_kinds, .ref o_habits]))] H) (hD : va_D A [(o, .inr (3, [.int o_steps, .int o_mile, .int o_walkers, .int o_walked, .ref o_hard, .ref o_kinds, .ref o_habits]))]) (hS : va_S A s.heap H locs), W p l e ({ frames := 1, cells := 0, slots := 0, locals := 22 } : Room) s m ([.ref o, .int a1] : List Value).toArray below meth c H locs 0 0 Q (F0 m pc ls [.int r])) ?_ (fun Q hret => ?_)
  · intro pc H locs ls r u hn hd hp hP hD hS
    exact W.zret (v := r) hx hb hr hn (fun t ht hW => ⟨⟨r, u, rfl, hp, by rw [ht]; exact hP, va_K.moved hW.alike hK, hD⟩, hS.F ht⟩) hS.2.2 hd
  have hin_3 : ∀ w ∈ u_ws RX3 TX3 7, w ∈ wsX3_has := by decide +kernel
  have fl_47 := hts (.fieldLink RX3 47 "MileRoad$Road" "walkers" "I") (by decide +kernel)
  have hF : fX3_has a1 o_walkers = fX3_has a1 o_walkers := rfl
  refine lv_iload_n hx hb dX3_has_0 rfl (lv_at hl 1 rfl) ?_
  refine lv_iconst (v := 0) hx hb dX3_has_1 (by decide) ?_
  refine lv_aload_n hx hb dX3_has_2 rfl (lv_at hl 0 rfl) ?_
  refine xget hx hb hts hown hK 3 (C2 := RX3) (T := TX3) (N := 7) rfl hin_3 hP 0 rfl 2 (by decide) fl_47 rfl rfl rfl dX3_has_3 ?_
  refine lv_iconst (v := 1) hx hb dX3_has_6 (by decide) ?_
  refine lv_isub hx hb dX3_has_7 ?_
  refine xcalli (S := Unit) (Wc := []) (wr := [(o, .inr (3, [.int o_steps, .int o_mile, .int o_walkers, .int o_walked, .ref o_hard, .ref o_kinds, .ref o_habits]))]) (W1 := (fun (u : Unit) => [])) (Wn := (fun (u : Unit) => [(o, .inr (3, [.int o_steps, .int o_mile, .int o_walkers, .int o_walked, .ref o_hard, .ref o_kinds, .ref o_habits]))])) (xrunSN hx hb hml hown hts (c_X8_within l D cI cZ _ a1 0 (o_walkers - 1) ) ⟨va_cnB 3 hts gX3_has_X8_within_n57 rfl rfl rfl (hE.m 0 rfl) (hts (.initialized RX8) (by decide +kernel)) (by decide +kernel) ⟨Nat.le_of_ble_eq_true rfl, Nat.le_of_ble_eq_true rfl⟩, hts (.static yX8_within) (by decide +kernel), trivial⟩ hE hK hP hD [] rfl rfl rfl hl.1 rfl (Nat.le_of_ble_eq_true rfl) dX3_has_8 ⟨Nat.le_of_ble_eq_true rfl, Nat.le_of_ble_eq_true rfl⟩) hP hD hS hA [] [0] [0] rfl rfl rfl (by decide) (fun _ => rfl) rfl (fun r1 u H locs hw hz hP hD hS => ?_)
  subst hw
  exact hret _ _ _ _ (fX8_within a1 0 (o_walkers - 1)) () (bz_X8_within _ _ _) dX3_has_11 ((hF.trans (by simp only [fX3_has, xlet])).symm) hP hD hS
theorem bz_X3_has (a1 : Int32) (o_walkers : Int32) : narrow .boolean (.int (fX3_has a1 o_walkers)) = .int (fX3_has a1 o_walkers) := by
  unfold fX3_has; try unfold xlet
  first | rfl | exact bz_X8_within _ _ _ | ((repeat' split) <;> first | rfl | exact bz_X8_within _ _ _)
theorem dX3_hasWalked_0 : decode cX3_hasWalked 0 = .ok (.aload_n 0, 1) := by decide +kernel
theorem dX3_hasWalked_1 : decode cX3_hasWalked 1 = .ok (.getfield 50, 3) := by decide +kernel
theorem dX3_hasWalked_4 : decode cX3_hasWalked 4 = .ok (.iload_n 1, 1) := by decide +kernel
theorem dX3_hasWalked_5 : decode cX3_hasWalked 5 = .ok (.ishr, 1) := by decide +kernel
theorem dX3_hasWalked_6 : decode cX3_hasWalked 6 = .ok (.iconst 1, 1) := by decide +kernel
theorem dX3_hasWalked_7 : decode cX3_hasWalked 7 = .ok (.iand, 1) := by decide +kernel
theorem dX3_hasWalked_8 : decode cX3_hasWalked 8 = .ok (.ireturn, 1) := by decide +kernel
def fX3_hasWalked (a1 : Int32) (o_walked : Int32) : Int32 := ((o_walked >>> (a1 &&& 31)) &&& 1)
set_option maxHeartbeats 4000000 in
set_option maxRecDepth 100000 in
theorem c_X3_hasWalked (l : Launch) (D : va_G) (cI cZ : ClassId) (sz : Nat) (o : Nat) (a1 : Int32) (o_steps : Int32) (o_mile : Int32) (o_walkers : Int32) (o_walked : Int32) (o_hard : Nat) (o_kinds : Nat) (o_habits : Nat)  : Met l yX3_hasWalked wsX3_hasWalked ({ frames := 0, cells := 0, slots := 0, locals := 0 } : Room) (va_Pc [.ref o, .int a1] (xP D cI cZ [(o, .inr (3, [.int o_steps, .int o_mile, .int o_walkers, .int o_walked, .ref o_hard, .ref o_kinds, .ref o_habits]))] sz)) (va_Qi (fun (r : Int32) (u : Unit) => r = fX3_hasWalked a1 o_walked) (fun (u : Unit) t => xB D cI cZ [(o, .inr (3, [.int o_steps, .int o_mile, .int o_walkers, .int o_walked, .ref o_hard, .ref o_kinds, .ref o_habits]))] (va_A [(o, .inr (3, [.int o_steps, .int o_mile, .int o_walkers, .int o_walked, .ref o_hard, .ref o_kinds, .ref o_habits]))] sz) t) (va_A [(o, .inr (3, [.int o_steps, .int o_mile, .int o_walkers, .int o_walked, .ref o_hard, .ref o_kinds, .ref o_habits]))] sz)) 0 0 (va_A [(o, .inr (3, [.int o_steps, .int o_mile, .int o_walkers, .int o_walked, .ref o_hard, .ref o_kinds, .ref o_habits]))] sz) := by
  refine Met.ofW (cc := cX3_hasWalked) (maxL := 2) (ret := (some .int)) (by decide) rfl ?_
  intro p e s m args below meth c s₁ B hml hv
  obtain ⟨hargs, hsz, hP, hK, hD0, hE⟩ := hv
  subst hargs
  have hx := B.exec
  have hb := B.bytes
  have hr := B.returns
  have hts := atoms_spec (ws := wsX3_hasWalked) B.pre
  have hown : s.vm.findClass RX3 = some m.cls := findClass_of_methodNamed B.named
  have hlocks := B.notSynchronized
  subst hsz
  have hD := hD0.self (sz := s.heap.size)
  generalize hAe : va_A [(o, .inr (3, [.int o_steps, .int o_mile, .int o_walkers, .int o_walked, .ref o_hard, .ref o_kinds, .ref o_habits]))] s.heap.size = A at hD ⊢
  have hA : ∀ q : Nat, s.heap.size ≤ q → A q := fun q h => by rw [← hAe]; exact Or.inr h
  have hS : va_S A s.heap s.heap [] := va_S.rf
  have hl := lv_entry ([.ref o, .int a1]) (n := 2) (Nat.le_of_ble_eq_true rfl)
  rw [lg_entry_eq]
  generalize (lg_sl ([.ref o, .int a1]) ++ List.replicate (2 - (lg_sl ([.ref o, .int a1])).length) Slot.unset).toArray = ls at hl ⊢
  have hl : lv_has ls 2 [(0, .ref o), (1, .int a1)] := hl
  refine wq (X := fun Q => ∀ (pc : Nat) (H : Heap) (locs : List Loc) (ls : Array Slot) (r : Int32) (u : Unit) (hd : decode cX3_hasWalked pc = .ok (.ireturn, 1)) (hp : r = fX3_hasWalked a1 o_walked) (hP : va_P D vwCl [(o, .inr (3, [.int o_steps, .int o_mile, .int o_walkers, .int o_walked, .ref o_hard, .ref o_kinds, .ref o_habits]))] H) (hD : va_D A [(o, .inr (3, [.int o_steps, .int o_mile, .int o_walkers, .int o_walked, .ref o_hard, .ref o_kinds, .ref o_habits]))]) (hS : va_S A s.heap H locs), W p l e ({ frames := 0, cells := 0, slots := 0, locals := 0 } : Room) s m ([.ref o, .int a1] : List Value).toArray below meth c H locs 0 0 Q (F0 m pc ls [.int r])) ?_ (fun Q hret => ?_)
  · intro pc H locs ls r u hd hp hP hD hS
    exact W.iret (v := r) hx hb hr (fun t ht hW => ⟨⟨r, u, rfl, hp, by rw [ht]; exact hP, va_K.moved hW.alike hK, hD⟩, hS.F ht⟩) hS.2.2 hd
  have hin_3 : ∀ w ∈ u_ws RX3 TX3 7, w ∈ wsX3_hasWalked := by decide +kernel
  have fl_50 := hts (.fieldLink RX3 50 "MileRoad$Road" "walked" "I") (by decide +kernel)
  have hF : fX3_hasWalked a1 o_walked = fX3_hasWalked a1 o_walked := rfl
  refine lv_aload_n hx hb dX3_hasWalked_0 rfl (lv_at hl 0 rfl) ?_
  refine xget hx hb hts hown hK 3 (C2 := RX3) (T := TX3) (N := 7) rfl hin_3 hP 0 rfl 3 (by decide) fl_50 rfl rfl rfl dX3_hasWalked_1 ?_
  refine lv_iload_n hx hb dX3_hasWalked_4 rfl (lv_at hl 1 rfl) ?_
  refine lv_ishr hx hb dX3_hasWalked_5 ?_
  refine lv_iconst (v := 1) hx hb dX3_hasWalked_6 (by decide) ?_
  refine lv_iand hx hb dX3_hasWalked_7 ?_
  exact hret _ _ _ _ ((o_walked >>> (a1 &&& 31)) &&& 1) () dX3_hasWalked_8 ((hF.trans (by simp only [fX3_hasWalked, xlet])).symm) hP hD hS
theorem dX3_setWalked_0 : decode cX3_setWalked 0 = .ok (.aload_n 0, 1) := by decide +kernel
theorem dX3_setWalked_1 : decode cX3_setWalked 1 = .ok (.iload_n 2, 1) := by decide +kernel
theorem dX3_setWalked_2 : decode cX3_setWalked 2 = .ok (.iconst 1, 1) := by decide +kernel
theorem dX3_setWalked_3 : decode cX3_setWalked 3 = .ok (.if_icmp .ne 14, 3) := by decide +kernel
theorem dX3_setWalked_6 : decode cX3_setWalked 6 = .ok (.aload_n 0, 1) := by decide +kernel
theorem dX3_setWalked_7 : decode cX3_setWalked 7 = .ok (.getfield 50, 3) := by decide +kernel
theorem dX3_setWalked_10 : decode cX3_setWalked 10 = .ok (.iconst 1, 1) := by decide +kernel
theorem dX3_setWalked_11 : decode cX3_setWalked 11 = .ok (.iload_n 1, 1) := by decide +kernel
theorem dX3_setWalked_12 : decode cX3_setWalked 12 = .ok (.ishl, 1) := by decide +kernel
theorem dX3_setWalked_13 : decode cX3_setWalked 13 = .ok (.ior, 1) := by decide +kernel
theorem dX3_setWalked_14 : decode cX3_setWalked 14 = .ok (.goto 13, 3) := by decide +kernel
theorem dX3_setWalked_17 : decode cX3_setWalked 17 = .ok (.aload_n 0, 1) := by decide +kernel
theorem dX3_setWalked_18 : decode cX3_setWalked 18 = .ok (.getfield 50, 3) := by decide +kernel
theorem dX3_setWalked_21 : decode cX3_setWalked 21 = .ok (.iconst 1, 1) := by decide +kernel
theorem dX3_setWalked_22 : decode cX3_setWalked 22 = .ok (.iload_n 1, 1) := by decide +kernel
theorem dX3_setWalked_23 : decode cX3_setWalked 23 = .ok (.ishl, 1) := by decide +kernel
theorem dX3_setWalked_24 : decode cX3_setWalked 24 = .ok (.iconst (-1), 1) := by decide +kernel
theorem dX3_setWalked_25 : decode cX3_setWalked 25 = .ok (.ixor, 1) := by decide +kernel
theorem dX3_setWalked_26 : decode cX3_setWalked 26 = .ok (.iand, 1) := by decide +kernel
theorem dX3_setWalked_27 : decode cX3_setWalked 27 = .ok (.putfield 50, 3) := by decide +kernel
theorem dX3_setWalked_30 : decode cX3_setWalked 30 = .ok (.return_, 1) := by decide +kernel
def fX3_setWalked (a1 : Int32) (a2 : Int32) (o_walked : Int32) : Int32 := xlet (if a2 = 1 then (o_walked ||| ((1 : Int32) <<< (a1 &&& 31))) else (o_walked &&& (((1 : Int32) <<< (a1 &&& 31)) ^^^ (-1)))) (fun y_1 => y_1)
set_option maxHeartbeats 4000000 in
set_option maxRecDepth 100000 in
theorem c_X3_setWalked (l : Launch) (D : va_G) (cI cZ : ClassId) (sz : Nat) (o : Nat) (a1 : Int32) (a2 : Int32) (o_steps : Int32) (o_mile : Int32) (o_walkers : Int32) (o_walked : Int32) (o_hard : Nat) (o_kinds : Nat) (o_habits : Nat)  : Met l yX3_setWalked wsX3_setWalked ({ frames := 0, cells := 0, slots := 0, locals := 0 } : Room) (va_Pc [.ref o, .int a1, .int a2] (xP D cI cZ [(o, .inr (3, [.int o_steps, .int o_mile, .int o_walkers, .int o_walked, .ref o_hard, .ref o_kinds, .ref o_habits]))] sz)) (va_Qv (fun (u : Int32) => u = fX3_setWalked a1 a2 o_walked) (fun (u : Int32) t => xB D cI cZ [(o, .inr (3, [.int o_steps, .int o_mile, .int o_walkers, .int u, .ref o_hard, .ref o_kinds, .ref o_habits]))] (va_A [(o, .inr (3, [.int o_steps, .int o_mile, .int o_walkers, .int o_walked, .ref o_hard, .ref o_kinds, .ref o_habits]))] sz) t) (va_A [(o, .inr (3, [.int o_steps, .int o_mile, .int o_walkers, .int o_walked, .ref o_hard, .ref o_kinds, .ref o_habits]))] sz)) 0 0 (va_A [(o, .inr (3, [.int o_steps, .int o_mile, .int o_walkers, .int o_walked, .ref o_hard, .ref o_kinds, .ref o_habits]))] sz) := by
  refine Met.ofW (cc := cX3_setWalked) (maxL := 3) (ret := none) (by decide) rfl ?_
  intro p e s m args below meth c s₁ B hml hv
  obtain ⟨hargs, hsz, hP, hK, hD0, hE⟩ := hv
  subst hargs
  have hx := B.exec
  have hb := B.bytes
  have hr := B.returns
  have hts := atoms_spec (ws := wsX3_setWalked) B.pre
  have hown : s.vm.findClass RX3 = some m.cls := findClass_of_methodNamed B.named
  have hlocks := B.notSynchronized
  subst hsz
  have hD := hD0.self (sz := s.heap.size)
  generalize hAe : va_A [(o, .inr (3, [.int o_steps, .int o_mile, .int o_walkers, .int o_walked, .ref o_hard, .ref o_kinds, .ref o_habits]))] s.heap.size = A at hD ⊢
  have hA : ∀ q : Nat, s.heap.size ≤ q → A q := fun q h => by rw [← hAe]; exact Or.inr h
  have hS : va_S A s.heap s.heap [] := va_S.rf
  have hl := lv_entry ([.ref o, .int a1, .int a2]) (n := 3) (Nat.le_of_ble_eq_true rfl)
  rw [lg_entry_eq]
  generalize (lg_sl ([.ref o, .int a1, .int a2]) ++ List.replicate (3 - (lg_sl ([.ref o, .int a1, .int a2])).length) Slot.unset).toArray = ls at hl ⊢
  have hl : lv_has ls 3 [(0, .ref o), (1, .int a1), (2, .int a2)] := hl
  refine wq (X := fun Q => ∀ (pc : Nat) (H : Heap) (locs : List Loc) (ls : Array Slot) (u : Int32) (hd : decode cX3_setWalked pc = .ok (.return_, 1)) (hp : u = fX3_setWalked a1 a2 o_walked) (hP : va_P D vwCl [(o, .inr (3, [.int o_steps, .int o_mile, .int o_walkers, .int u, .ref o_hard, .ref o_kinds, .ref o_habits]))] H) (hD : va_D A [(o, .inr (3, [.int o_steps, .int o_mile, .int o_walkers, .int u, .ref o_hard, .ref o_kinds, .ref o_habits]))]) (hS : va_S A s.heap H locs), W p l e ({ frames := 0, cells := 0, slots := 0, locals := 0 } : Room) s m ([.ref o, .int a1, .int a2] : List Value).toArray below meth c H locs 0 0 Q (F0 m pc ls [])) ?_ (fun Q hret => ?_)
  · intro pc H locs ls u hd hp hP hD hS
    exact W.vret hx hb hr (fun t ht hW => ⟨⟨u, rfl, hp, by rw [ht]; exact hP, va_K.moved hW.alike hK, hD⟩, hS.F ht⟩) hS.2.2 hd
  have hin_3 : ∀ w ∈ u_ws RX3 TX3 7, w ∈ wsX3_setWalked := by decide +kernel
  have fl_50 := hts (.fieldLink RX3 50 "MileRoad$Road" "walked" "I") (by decide +kernel)
  have hF : fX3_setWalked a1 a2 o_walked = fX3_setWalked a1 a2 o_walked := rfl
  refine lv_aload_n hx hb dX3_setWalked_0 rfl (lv_at hl 0 rfl) ?_
  refine lv_iload_n hx hb dX3_setWalked_1 rfl (lv_at hl 2 rfl) ?_
  refine lv_iconst (v := 1) hx hb dX3_setWalked_2 (by decide) ?_
  have K_y_1 : ∀ (y_1 : Int32) (hy_y_1 : (if a2 = 1 then (o_walked ||| ((1 : Int32) <<< (a1 &&& 31))) else (o_walked &&& (((1 : Int32) <<< (a1 &&& 31)) ^^^ (-1)))) = y_1) (H : Heap) (locs : List Loc) (hP : va_P D vwCl [(o, .inr (3, [.int o_steps, .int o_mile, .int o_walkers, .int o_walked, .ref o_hard, .ref o_kinds, .ref o_habits]))] H) (hD : va_D A [(o, .inr (3, [.int o_steps, .int o_mile, .int o_walkers, .int o_walked, .ref o_hard, .ref o_kinds, .ref o_habits]))]) (hS : va_S A s.heap H locs), W p l e ({ frames := 0, cells := 0, slots := 0, locals := 0 } : Room) s m ([.ref o, .int a1, .int a2] : List Value).toArray below meth c H locs 0 0 Q (F0 m 27 ls [.int y_1, .ref o]) := by
    intro y_1 hy_y_1 H locs hP hD hS
    refine xput hx hb hts hown hK 3 (C2 := RX3) (T := TX3) (N := 7) tyX3 rfl tyX3_ok nmX3 hin_3 hP hD hS 0 rfl 3 (by decide) fl_50 rfl rfl rfl rfl rfl (Nat.le_of_ble_eq_true rfl) dX3_setWalked_27 [(o, .inr (3, [.int o_steps, .int o_mile, .int o_walkers, .int y_1, .ref o_hard, .ref o_kinds, .ref o_habits]))] rfl (fun H locs hP hD hS => ?_)
    exact hret _ _ _ _ y_1 dX3_setWalked_30 ((hF.trans (by simp only [fX3_setWalked, xlet, ↓hy_y_1])).symm) hP hD hS
  refine lv_icmp_ne (tgt := 17) hx hb dX3_setWalked_3 (by decide) (fun c_1 => ?_) (fun c_1 => ?_)
  · refine lv_aload_n hx hb dX3_setWalked_17 rfl (lv_at hl 0 rfl) ?_
    refine xget hx hb hts hown hK 3 (C2 := RX3) (T := TX3) (N := 7) rfl hin_3 hP 0 rfl 3 (by decide) fl_50 rfl rfl rfl dX3_setWalked_18 ?_
    refine lv_iconst (v := 1) hx hb dX3_setWalked_21 (by decide) ?_
    refine lv_iload_n hx hb dX3_setWalked_22 rfl (lv_at hl 1 rfl) ?_
    refine lv_ishl hx hb dX3_setWalked_23 ?_
    refine lv_iconst (v := (-1)) hx hb dX3_setWalked_24 (by decide) ?_
    refine lv_ixor hx hb dX3_setWalked_25 ?_
    refine lv_iand hx hb dX3_setWalked_26 ?_
    exact K_y_1 _ (by simp only [xlet, if_neg c_1]) _ _ hP hD hS
  · refine lv_aload_n hx hb dX3_setWalked_6 rfl (lv_at hl 0 rfl) ?_
    refine xget hx hb hts hown hK 3 (C2 := RX3) (T := TX3) (N := 7) rfl hin_3 hP 0 rfl 3 (by decide) fl_50 rfl rfl rfl dX3_setWalked_7 ?_
    refine lv_iconst (v := 1) hx hb dX3_setWalked_10 (by decide) ?_
    refine lv_iload_n hx hb dX3_setWalked_11 rfl (lv_at hl 1 rfl) ?_
    refine lv_ishl hx hb dX3_setWalked_12 ?_
    refine lv_ior hx hb dX3_setWalked_13 ?_
    refine lv_goto (tgt := 27) hx hb dX3_setWalked_14 (by decide) ?_
    exact K_y_1 _ (by simp only [xlet, if_pos c_1]) _ _ hP hD hS
theorem dX3_leaveNobody_0 : decode cX3_leaveNobody 0 = .ok (.aload_n 0, 1) := by decide +kernel
theorem dX3_leaveNobody_1 : decode cX3_leaveNobody 1 = .ok (.iconst 0, 1) := by decide +kernel
theorem dX3_leaveNobody_2 : decode cX3_leaveNobody 2 = .ok (.putfield 47, 3) := by decide +kernel
theorem dX3_leaveNobody_5 : decode cX3_leaveNobody 5 = .ok (.aload_n 0, 1) := by decide +kernel
theorem dX3_leaveNobody_6 : decode cX3_leaveNobody 6 = .ok (.iconst 0, 1) := by decide +kernel
theorem dX3_leaveNobody_7 : decode cX3_leaveNobody 7 = .ok (.putfield 50, 3) := by decide +kernel
theorem dX3_leaveNobody_10 : decode cX3_leaveNobody 10 = .ok (.return_, 1) := by decide +kernel
def fX3_leaveNobody  : Unit := ()
set_option maxHeartbeats 4000000 in
set_option maxRecDepth 100000 in
theorem c_X3_leaveNobody (l : Launch) (D : va_G) (cI cZ : ClassId) (sz : Nat) (o : Nat) (o_steps : Int32) (o_mile : Int32) (o_walkers : Int32) (o_walked : Int32) (o_hard : Nat) (o_kinds : Nat) (o_habits : Nat)  : Met l yX3_leaveNobody wsX3_leaveNobody ({ frames := 0, cells := 0, slots := 0, locals := 0 } : Room) (va_Pc [.ref o] (xP D cI cZ [(o, .inr (3, [.int o_steps, .int o_mile, .int o_walkers, .int o_walked, .ref o_hard, .ref o_kinds, .ref o_habits]))] sz)) (va_Qv (fun (u : Unit) => True) (fun (u : Unit) t => xB D cI cZ [(o, .inr (3, [.int o_steps, .int o_mile, .int 0, .int 0, .ref o_hard, .ref o_kinds, .ref o_habits]))] (va_A [(o, .inr (3, [.int o_steps, .int o_mile, .int o_walkers, .int o_walked, .ref o_hard, .ref o_kinds, .ref o_habits]))] sz) t) (va_A [(o, .inr (3, [.int o_steps, .int o_mile, .int o_walkers, .int o_walked, .ref o_hard, .ref o_kinds, .ref o_habits]))] sz)) 0 0 (va_A [(o, .inr (3, [.int o_steps, .int o_mile, .int o_walkers, .int o_walked, .ref o_hard, .ref o_kinds, .ref o_habits]))] sz) := by
  refine Met.ofW (cc := cX3_leaveNobody) (maxL := 1) (ret := none) (by decide) rfl ?_
  intro p e s m args below meth c s₁ B hml hv
  obtain ⟨hargs, hsz, hP, hK, hD0, hE⟩ := hv
  subst hargs
  have hx := B.exec
  have hb := B.bytes
  have hr := B.returns
  have hts := atoms_spec (ws := wsX3_leaveNobody) B.pre
  have hown : s.vm.findClass RX3 = some m.cls := findClass_of_methodNamed B.named
  have hlocks := B.notSynchronized
  subst hsz
  have hD := hD0.self (sz := s.heap.size)
  generalize hAe : va_A [(o, .inr (3, [.int o_steps, .int o_mile, .int o_walkers, .int o_walked, .ref o_hard, .ref o_kinds, .ref o_habits]))] s.heap.size = A at hD ⊢
  have hA : ∀ q : Nat, s.heap.size ≤ q → A q := fun q h => by rw [← hAe]; exact Or.inr h
  have hS : va_S A s.heap s.heap [] := va_S.rf
  have hl := lv_entry ([.ref o]) (n := 1) (Nat.le_of_ble_eq_true rfl)
  rw [lg_entry_eq]
  generalize (lg_sl ([.ref o]) ++ List.replicate (1 - (lg_sl ([.ref o])).length) Slot.unset).toArray = ls at hl ⊢
  have hl : lv_has ls 1 [(0, .ref o)] := hl
  refine wq (X := fun Q => ∀ (pc : Nat) (H : Heap) (locs : List Loc) (ls : Array Slot) (u : Unit) (hd : decode cX3_leaveNobody pc = .ok (.return_, 1)) (hp : True) (hP : va_P D vwCl [(o, .inr (3, [.int o_steps, .int o_mile, .int 0, .int 0, .ref o_hard, .ref o_kinds, .ref o_habits]))] H) (hD : va_D A [(o, .inr (3, [.int o_steps, .int o_mile, .int 0, .int 0, .ref o_hard, .ref o_kinds, .ref o_habits]))]) (hS : va_S A s.heap H locs), W p l e ({ frames := 0, cells := 0, slots := 0, locals := 0 } : Room) s m ([.ref o] : List Value).toArray below meth c H locs 0 0 Q (F0 m pc ls [])) ?_ (fun Q hret => ?_)
  · intro pc H locs ls u hd hp hP hD hS
    exact W.vret hx hb hr (fun t ht hW => ⟨⟨u, rfl, hp, by rw [ht]; exact hP, va_K.moved hW.alike hK, hD⟩, hS.F ht⟩) hS.2.2 hd
  have hin_3 : ∀ w ∈ u_ws RX3 TX3 7, w ∈ wsX3_leaveNobody := by decide +kernel
  have fl_47 := hts (.fieldLink RX3 47 "MileRoad$Road" "walkers" "I") (by decide +kernel)
  have fl_50 := hts (.fieldLink RX3 50 "MileRoad$Road" "walked" "I") (by decide +kernel)
  have hF : fX3_leaveNobody = fX3_leaveNobody := rfl
  refine lv_aload_n hx hb dX3_leaveNobody_0 rfl (lv_at hl 0 rfl) ?_
  refine lv_iconst (v := 0) hx hb dX3_leaveNobody_1 (by decide) ?_
  refine xput hx hb hts hown hK 3 (C2 := RX3) (T := TX3) (N := 7) tyX3 rfl tyX3_ok nmX3 hin_3 hP hD hS 0 rfl 2 (by decide) fl_47 rfl rfl rfl rfl rfl (Nat.le_of_ble_eq_true rfl) dX3_leaveNobody_2 [(o, .inr (3, [.int o_steps, .int o_mile, .int 0, .int o_walked, .ref o_hard, .ref o_kinds, .ref o_habits]))] rfl (fun H locs hP hD hS => ?_)
  refine lv_aload_n hx hb dX3_leaveNobody_5 rfl (lv_at hl 0 rfl) ?_
  refine lv_iconst (v := 0) hx hb dX3_leaveNobody_6 (by decide) ?_
  refine xput hx hb hts hown hK 3 (C2 := RX3) (T := TX3) (N := 7) tyX3 rfl tyX3_ok nmX3 hin_3 hP hD hS 0 rfl 3 (by decide) fl_50 rfl rfl rfl rfl rfl (Nat.le_of_ble_eq_true rfl) dX3_leaveNobody_7 [(o, .inr (3, [.int o_steps, .int o_mile, .int 0, .int 0, .ref o_hard, .ref o_kinds, .ref o_habits]))] rfl (fun H locs hP hD hS => ?_)
  exact hret _ _ _ _ () dX3_leaveNobody_10 trivial hP hD hS
set_option maxRecDepth 20000 in
theorem ggX3_hire_X4_put : GoodIn wsX3_hire wsX4_put := goodIn_r _ [8, 9, 17] (by decide +kernel) (by decide +kernel)
set_option maxRecDepth 20000 in
theorem gX3_hire_X4_put : GoodIn wsX3_hire (wsV RX3 43 RX4 yX4_put wsX4_put) := goodIn_app (goodIn_of _ (by decide +kernel)) ggX3_hire_X4_put
theorem dX3_hire_0 : decode cX3_hire 0 = .ok (.aload_n 0, 1) := by decide +kernel
theorem dX3_hire_1 : decode cX3_hire 1 = .ok (.getfield 20, 3) := by decide +kernel
theorem dX3_hire_4 : decode cX3_hire 4 = .ok (.aload_n 0, 1) := by decide +kernel
theorem dX3_hire_5 : decode cX3_hire 5 = .ok (.getfield 47, 3) := by decide +kernel
theorem dX3_hire_8 : decode cX3_hire 8 = .ok (.iload_n 1, 1) := by decide +kernel
theorem dX3_hire_9 : decode cX3_hire 9 = .ok (.invokevirtual 43, 3) := by decide +kernel
theorem dX3_hire_12 : decode cX3_hire 12 = .ok (.aload_n 0, 1) := by decide +kernel
theorem dX3_hire_13 : decode cX3_hire 13 = .ok (.getfield 23, 3) := by decide +kernel
theorem dX3_hire_16 : decode cX3_hire 16 = .ok (.aload_n 0, 1) := by decide +kernel
theorem dX3_hire_17 : decode cX3_hire 17 = .ok (.getfield 47, 3) := by decide +kernel
theorem dX3_hire_20 : decode cX3_hire 20 = .ok (.iload_n 2, 1) := by decide +kernel
theorem dX3_hire_21 : decode cX3_hire 21 = .ok (.invokevirtual 43, 3) := by decide +kernel
theorem dX3_hire_24 : decode cX3_hire 24 = .ok (.aload_n 0, 1) := by decide +kernel
theorem dX3_hire_25 : decode cX3_hire 25 = .ok (.dup, 1) := by decide +kernel
theorem dX3_hire_26 : decode cX3_hire 26 = .ok (.getfield 47, 3) := by decide +kernel
theorem dX3_hire_29 : decode cX3_hire 29 = .ok (.iconst 1, 1) := by decide +kernel
theorem dX3_hire_30 : decode cX3_hire 30 = .ok (.iadd, 1) := by decide +kernel
theorem dX3_hire_31 : decode cX3_hire 31 = .ok (.putfield 47, 3) := by decide +kernel
theorem dX3_hire_34 : decode cX3_hire 34 = .ok (.return_, 1) := by decide +kernel
def fX3_hire (a1 : Int32) (a2 : Int32) (o_walkers : Int32) (o_kinds_f : Nat → Int32) (o_habits_f : Nat → Int32) : (Nat → Int32) × (Nat → Int32) := xlet (fX4_put o_walkers a1 o_kinds_f 6) (fun u1 => xlet (fX4_put o_walkers a2 o_habits_f 6) (fun u2 => (u1, u2)))
set_option maxHeartbeats 4000000 in
set_option maxRecDepth 100000 in
theorem c_X3_hire (l : Launch) (D : va_G) (cI cZ : ClassId) (sz : Nat) (o : Nat) (a1 : Int32) (a2 : Int32) (o_steps : Int32) (o_mile : Int32) (o_walkers : Int32) (o_walked : Int32) (o_hard : Nat) (o_kinds : Nat) (o_habits : Nat) (o_kinds_a : Nat) (o_kinds_f : Nat → Int32) (o_habits_a : Nat) (o_habits_f : Nat → Int32)  : Met l yX3_hire wsX3_hire ({ frames := 1, cells := 0, slots := 0, locals := 22 } : Room) (va_Pc [.ref o, .int a1, .int a2] (xP D cI cZ [(o, .inr (3, [.int o_steps, .int o_mile, .int o_walkers, .int o_walked, .ref o_hard, .ref o_kinds, .ref o_habits])), (o_kinds, .inr (4, [.ref o_kinds_a])), (o_kinds_a, .inl (cI, 6, .inl o_kinds_f)), (o_habits, .inr (4, [.ref o_habits_a])), (o_habits_a, .inl (cI, 6, .inl o_habits_f))] sz)) (va_Qv (fun (u : (Nat → Int32) × (Nat → Int32)) => u = fX3_hire a1 a2 o_walkers o_kinds_f o_habits_f) (fun (u : (Nat → Int32) × (Nat → Int32)) t => xB D cI cZ [(o, .inr (3, [.int o_steps, .int o_mile, .int (o_walkers + 1), .int o_walked, .ref o_hard, .ref o_kinds, .ref o_habits])), (o_kinds, .inr (4, [.ref o_kinds_a])), (o_kinds_a, .inl (cI, 6, .inl u.1)), (o_habits, .inr (4, [.ref o_habits_a])), (o_habits_a, .inl (cI, 6, .inl u.2))] (va_A [(o, .inr (3, [.int o_steps, .int o_mile, .int o_walkers, .int o_walked, .ref o_hard, .ref o_kinds, .ref o_habits])), (o_kinds, .inr (4, [.ref o_kinds_a])), (o_kinds_a, .inl (cI, 6, .inl o_kinds_f)), (o_habits, .inr (4, [.ref o_habits_a])), (o_habits_a, .inl (cI, 6, .inl o_habits_f))] sz) t) (va_A [(o, .inr (3, [.int o_steps, .int o_mile, .int o_walkers, .int o_walked, .ref o_hard, .ref o_kinds, .ref o_habits])), (o_kinds, .inr (4, [.ref o_kinds_a])), (o_kinds_a, .inl (cI, 6, .inl o_kinds_f)), (o_habits, .inr (4, [.ref o_habits_a])), (o_habits_a, .inl (cI, 6, .inl o_habits_f))] sz)) 0 0 (va_A [(o, .inr (3, [.int o_steps, .int o_mile, .int o_walkers, .int o_walked, .ref o_hard, .ref o_kinds, .ref o_habits])), (o_kinds, .inr (4, [.ref o_kinds_a])), (o_kinds_a, .inl (cI, 6, .inl o_kinds_f)), (o_habits, .inr (4, [.ref o_habits_a])), (o_habits_a, .inl (cI, 6, .inl o_habits_f))] sz) := by
  refine Met.ofW (cc := cX3_hire) (maxL := 3) (ret := none) (by decide) rfl ?_
  intro p e s m args below meth c s₁ B hml hv
  obtain ⟨hargs, hsz, hP, hK, hD0, hE⟩ := hv
  subst hargs
  have hx := B.exec
  have hb := B.bytes
  have hr := B.returns
  have hts := atoms_spec (ws := wsX3_hire) B.pre
  have hown : s.vm.findClass RX3 = some m.cls := findClass_of_methodNamed B.named
  have hlocks := B.notSynchronized
  subst hsz
  have hD := hD0.self (sz := s.heap.size)
  generalize hAe : va_A [(o, .inr (3, [.int o_steps, .int o_mile, .int o_walkers, .int o_walked, .ref o_hard, .ref o_kinds, .ref o_habits])), (o_kinds, .inr (4, [.ref o_kinds_a])), (o_kinds_a, .inl (cI, 6, .inl o_kinds_f)), (o_habits, .inr (4, [.ref o_habits_a])), (o_habits_a, .inl (cI, 6, .inl o_habits_f))] s.heap.size = A at hD ⊢
  have hA : ∀ q : Nat, s.heap.size ≤ q → A q := fun q h => by rw [← hAe]; exact Or.inr h
  have hS : va_S A s.heap s.heap [] := va_S.rf
  have hl := lv_entry ([.ref o, .int a1, .int a2]) (n := 3) (Nat.le_of_ble_eq_true rfl)
  rw [lg_entry_eq]
  generalize (lg_sl ([.ref o, .int a1, .int a2]) ++ List.replicate (3 - (lg_sl ([.ref o, .int a1, .int a2])).length) Slot.unset).toArray = ls at hl ⊢
  have hl : lv_has ls 3 [(0, .ref o), (1, .int a1), (2, .int a2)] := hl
  refine wq (X := fun Q => ∀ (pc : Nat) (H : Heap) (locs : List Loc) (ls : Array Slot) (u : (Nat → Int32) × (Nat → Int32)) (hd : decode cX3_hire pc = .ok (.return_, 1)) (hp : u = fX3_hire a1 a2 o_walkers o_kinds_f o_habits_f) (hP : va_P D vwCl [(o, .inr (3, [.int o_steps, .int o_mile, .int (o_walkers + 1), .int o_walked, .ref o_hard, .ref o_kinds, .ref o_habits])), (o_kinds, .inr (4, [.ref o_kinds_a])), (o_kinds_a, .inl (cI, 6, .inl u.1)), (o_habits, .inr (4, [.ref o_habits_a])), (o_habits_a, .inl (cI, 6, .inl u.2))] H) (hD : va_D A [(o, .inr (3, [.int o_steps, .int o_mile, .int (o_walkers + 1), .int o_walked, .ref o_hard, .ref o_kinds, .ref o_habits])), (o_kinds, .inr (4, [.ref o_kinds_a])), (o_kinds_a, .inl (cI, 6, .inl u.1)), (o_habits, .inr (4, [.ref o_habits_a])), (o_habits_a, .inl (cI, 6, .inl u.2))]) (hS : va_S A s.heap H locs), W p l e ({ frames := 1, cells := 0, slots := 0, locals := 22 } : Room) s m ([.ref o, .int a1, .int a2] : List Value).toArray below meth c H locs 0 0 Q (F0 m pc ls [])) ?_ (fun Q hret => ?_)
  · intro pc H locs ls u hd hp hP hD hS
    exact W.vret hx hb hr (fun t ht hW => ⟨⟨u, rfl, hp, by rw [ht]; exact hP, va_K.moved hW.alike hK, hD⟩, hS.F ht⟩) hS.2.2 hd
  have hin_3 : ∀ w ∈ u_ws RX3 TX3 7, w ∈ wsX3_hire := by decide +kernel
  have fl_20 := hts (.fieldLink RX3 20 "MileRoad$Road" "kinds" "LMileRoad$Row;") (by decide +kernel)
  have fl_23 := hts (.fieldLink RX3 23 "MileRoad$Road" "habits" "LMileRoad$Row;") (by decide +kernel)
  have fl_47 := hts (.fieldLink RX3 47 "MileRoad$Road" "walkers" "I") (by decide +kernel)
  have hF : fX3_hire a1 a2 o_walkers o_kinds_f o_habits_f = fX3_hire a1 a2 o_walkers o_kinds_f o_habits_f := rfl
  refine lv_aload_n hx hb dX3_hire_0 rfl (lv_at hl 0 rfl) ?_
  refine xget hx hb hts hown hK 3 (C2 := RX3) (T := TX3) (N := 7) rfl hin_3 hP 0 rfl 5 (by decide) fl_20 rfl rfl rfl dX3_hire_1 ?_
  refine lv_aload_n hx hb dX3_hire_4 rfl (lv_at hl 0 rfl) ?_
  refine xget hx hb hts hown hK 3 (C2 := RX3) (T := TX3) (N := 7) rfl hin_3 hP 0 rfl 2 (by decide) fl_47 rfl rfl rfl dX3_hire_5 ?_
  refine lv_iload_n hx hb dX3_hire_8 rfl (lv_at hl 1 rfl) ?_
  refine xcallv (S := (Nat → Int32)) (Wc := [(o_kinds, .inr (4, [.ref o_kinds_a])), (o_kinds_a, .inl (cI, 6, .inl o_kinds_f))]) (wr := [(o, .inr (3, [.int o_steps, .int o_mile, .int o_walkers, .int o_walked, .ref o_hard, .ref o_kinds, .ref o_habits])), (o_habits, .inr (4, [.ref o_habits_a])), (o_habits_a, .inl (cI, 6, .inl o_habits_f))]) (W1 := (fun (u : (Nat → Int32)) => [(o_kinds, .inr (4, [.ref o_kinds_a])), (o_kinds_a, .inl (cI, 6, .inl u))])) (Wn := (fun (u : (Nat → Int32)) => [(o, .inr (3, [.int o_steps, .int o_mile, .int o_walkers, .int o_walked, .ref o_hard, .ref o_kinds, .ref o_habits])), (o_kinds, .inr (4, [.ref o_kinds_a])), (o_kinds_a, .inl (cI, 6, .inl u)), (o_habits, .inr (4, [.ref o_habits_a])), (o_habits_a, .inl (cI, 6, .inl o_habits_f))])) (xrunV hx hb hml hown hts (c_X4_put l D cI cZ _ o_kinds o_walkers a1 o_kinds_a o_kinds_f 6 (by decide)) (cwV 2 hts gX3_hire_X4_put rfl rfl rfl (by decide +kernel) ⟨Nat.le_of_ble_eq_true rfl, Nat.le_of_ble_eq_true rfl⟩) hE hK hP hD [1, 2] rfl rfl 0 4 (T := TX4) (N := 1) rfl rfl rfl hl.1 rfl (Nat.le_of_ble_eq_true rfl) dX3_hire_9 ⟨Nat.le_of_ble_eq_true rfl, Nat.le_of_ble_eq_true rfl⟩) hP hD hS hA [1, 2] [0, 3, 4] [0, 3, 4, 1, 2] rfl rfl rfl (by decide) (fun _ => rfl) rfl (fun  u H locs hw hz hP hD hS => ?_)
  obtain ⟨u1, hu⟩ : ∃ z, z = u := ⟨u, rfl⟩
  subst hu
  have hw_1 := hw.symm
  have hP : va_P D vwCl [(o, .inr (3, [.int o_steps, .int o_mile, .int o_walkers, .int o_walked, .ref o_hard, .ref o_kinds, .ref o_habits])), (o_kinds, .inr (4, [.ref o_kinds_a])), (o_kinds_a, .inl (cI, 6, .inl u1)), (o_habits, .inr (4, [.ref o_habits_a])), (o_habits_a, .inl (cI, 6, .inl o_habits_f))] H := hP
  have hD : va_D A [(o, .inr (3, [.int o_steps, .int o_mile, .int o_walkers, .int o_walked, .ref o_hard, .ref o_kinds, .ref o_habits])), (o_kinds, .inr (4, [.ref o_kinds_a])), (o_kinds_a, .inl (cI, 6, .inl u1)), (o_habits, .inr (4, [.ref o_habits_a])), (o_habits_a, .inl (cI, 6, .inl o_habits_f))] := hD
  refine lv_aload_n hx hb dX3_hire_12 rfl (lv_at hl 0 rfl) ?_
  refine xget hx hb hts hown hK 3 (C2 := RX3) (T := TX3) (N := 7) rfl hin_3 hP 0 rfl 6 (by decide) fl_23 rfl rfl rfl dX3_hire_13 ?_
  refine lv_aload_n hx hb dX3_hire_16 rfl (lv_at hl 0 rfl) ?_
  refine xget hx hb hts hown hK 3 (C2 := RX3) (T := TX3) (N := 7) rfl hin_3 hP 0 rfl 2 (by decide) fl_47 rfl rfl rfl dX3_hire_17 ?_
  refine lv_iload_n hx hb dX3_hire_20 rfl (lv_at hl 2 rfl) ?_
  refine xcallv (S := (Nat → Int32)) (Wc := [(o_habits, .inr (4, [.ref o_habits_a])), (o_habits_a, .inl (cI, 6, .inl o_habits_f))]) (wr := [(o, .inr (3, [.int o_steps, .int o_mile, .int o_walkers, .int o_walked, .ref o_hard, .ref o_kinds, .ref o_habits])), (o_kinds, .inr (4, [.ref o_kinds_a])), (o_kinds_a, .inl (cI, 6, .inl u1))]) (W1 := (fun (u : (Nat → Int32)) => [(o_habits, .inr (4, [.ref o_habits_a])), (o_habits_a, .inl (cI, 6, .inl u))])) (Wn := (fun (u : (Nat → Int32)) => [(o, .inr (3, [.int o_steps, .int o_mile, .int o_walkers, .int o_walked, .ref o_hard, .ref o_kinds, .ref o_habits])), (o_kinds, .inr (4, [.ref o_kinds_a])), (o_kinds_a, .inl (cI, 6, .inl u1)), (o_habits, .inr (4, [.ref o_habits_a])), (o_habits_a, .inl (cI, 6, .inl u))])) (xrunV hx hb hml hown hts (c_X4_put l D cI cZ _ o_habits o_walkers a2 o_habits_a o_habits_f 6 (by decide)) (cwV 2 hts gX3_hire_X4_put rfl rfl rfl (by decide +kernel) ⟨Nat.le_of_ble_eq_true rfl, Nat.le_of_ble_eq_true rfl⟩) hE hK hP hD [3, 4] rfl rfl 0 4 (T := TX4) (N := 1) rfl rfl rfl hl.1 rfl (Nat.le_of_ble_eq_true rfl) dX3_hire_21 ⟨Nat.le_of_ble_eq_true rfl, Nat.le_of_ble_eq_true rfl⟩) hP hD hS hA [3, 4] [0, 1, 2] [0, 1, 2, 3, 4] rfl rfl rfl (by decide) (fun _ => rfl) rfl (fun  u H locs hw hz hP hD hS => ?_)
  obtain ⟨u2, hu⟩ : ∃ z, z = u := ⟨u, rfl⟩
  subst hu
  have hw_2 := hw.symm
  have hP : va_P D vwCl [(o, .inr (3, [.int o_steps, .int o_mile, .int o_walkers, .int o_walked, .ref o_hard, .ref o_kinds, .ref o_habits])), (o_kinds, .inr (4, [.ref o_kinds_a])), (o_kinds_a, .inl (cI, 6, .inl u1)), (o_habits, .inr (4, [.ref o_habits_a])), (o_habits_a, .inl (cI, 6, .inl u2))] H := hP
  have hD : va_D A [(o, .inr (3, [.int o_steps, .int o_mile, .int o_walkers, .int o_walked, .ref o_hard, .ref o_kinds, .ref o_habits])), (o_kinds, .inr (4, [.ref o_kinds_a])), (o_kinds_a, .inl (cI, 6, .inl u1)), (o_habits, .inr (4, [.ref o_habits_a])), (o_habits_a, .inl (cI, 6, .inl u2))] := hD
  refine lv_aload_n hx hb dX3_hire_24 rfl (lv_at hl 0 rfl) ?_
  refine lv_dup hx hb dX3_hire_25 rfl ?_
  refine xget hx hb hts hown hK 3 (C2 := RX3) (T := TX3) (N := 7) rfl hin_3 hP 0 rfl 2 (by decide) fl_47 rfl rfl rfl dX3_hire_26 ?_
  refine lv_iconst (v := 1) hx hb dX3_hire_29 (by decide) ?_
  refine lv_iadd hx hb dX3_hire_30 ?_
  refine xput hx hb hts hown hK 3 (C2 := RX3) (T := TX3) (N := 7) tyX3 rfl tyX3_ok nmX3 hin_3 hP hD hS 0 rfl 2 (by decide) fl_47 rfl rfl rfl rfl rfl (Nat.le_of_ble_eq_true rfl) dX3_hire_31 [(o, .inr (3, [.int o_steps, .int o_mile, .int (o_walkers + 1), .int o_walked, .ref o_hard, .ref o_kinds, .ref o_habits])), (o_kinds, .inr (4, [.ref o_kinds_a])), (o_kinds_a, .inl (cI, 6, .inl u1)), (o_habits, .inr (4, [.ref o_habits_a])), (o_habits_a, .inl (cI, 6, .inl u2))] rfl (fun H locs hP hD hS => ?_)
  exact hret _ _ _ _ (u1, u2) dX3_hire_34 ((hF.trans (by simp only [fX3_hire, xlet, ↓hw_1, ↓hw_2])).symm) hP hD hS
set_option maxRecDepth 20000 in
theorem ggX3_raise_X4_put : GoodIn wsX3_raise wsX4_put := goodIn_r _ [6, 7, 15] (by decide +kernel) (by decide +kernel)
set_option maxRecDepth 20000 in
theorem gX3_raise_X4_put : GoodIn wsX3_raise (wsV RX3 43 RX4 yX4_put wsX4_put) := goodIn_app (goodIn_of _ (by decide +kernel)) ggX3_raise_X4_put
theorem dX3_raise_0 : decode cX3_raise 0 = .ok (.iload_n 1, 1) := by decide +kernel
theorem dX3_raise_1 : decode cX3_raise 1 = .ok (.istore 4, 2) := by decide +kernel
theorem dX3_raise_3 : decode cX3_raise 3 = .ok (.iload 4, 2) := by decide +kernel
theorem dX3_raise_5 : decode cX3_raise 5 = .ok (.iload_n 2, 1) := by decide +kernel
theorem dX3_raise_6 : decode cX3_raise 6 = .ok (.if_icmp .gt 19, 3) := by decide +kernel
theorem dX3_raise_9 : decode cX3_raise 9 = .ok (.aload_n 0, 1) := by decide +kernel
theorem dX3_raise_10 : decode cX3_raise 10 = .ok (.getfield 14, 3) := by decide +kernel
theorem dX3_raise_13 : decode cX3_raise 13 = .ok (.iload 4, 2) := by decide +kernel
theorem dX3_raise_15 : decode cX3_raise 15 = .ok (.iload_n 3, 1) := by decide +kernel
theorem dX3_raise_16 : decode cX3_raise 16 = .ok (.invokevirtual 43, 3) := by decide +kernel
theorem dX3_raise_19 : decode cX3_raise 19 = .ok (.iinc 4 1, 3) := by decide +kernel
theorem dX3_raise_22 : decode cX3_raise 22 = .ok (.goto (-19), 3) := by decide +kernel
theorem dX3_raise_25 : decode cX3_raise 25 = .ok (.return_, 1) := by decide +kernel
def fX3_raise_3 (a2 : Int32) (a3 : Int32)  : Nat → (Nat → Int32) → Int32 → (Nat → Int32)
  | 0, _, _ => default
  | n + 1, o_hard_a_f_3, v3_4 => if a2 < v3_4 then o_hard_a_f_3 else (xlet (fX4_put v3_4 a3 o_hard_a_f_3 21) (fun u1 => fX3_raise_3 a2 a3 n u1 (v3_4 + 1)))
def fX3_raise (a1 : Int32) (a2 : Int32) (a3 : Int32) (o_hard_f : Nat → Int32) : (Nat → Int32) := fX3_raise_3 a2 a3 1000 o_hard_f a1
set_option maxHeartbeats 4000000 in
set_option maxRecDepth 100000 in
theorem c_X3_raise (l : Launch) (D : va_G) (cI cZ : ClassId) (sz : Nat) (o : Nat) (a1 : Int32) (a2 : Int32) (a3 : Int32) (o_steps : Int32) (o_mile : Int32) (o_walkers : Int32) (o_walked : Int32) (o_hard : Nat) (o_kinds : Nat) (o_habits : Nat) (o_hard_a : Nat) (o_hard_f : Nat → Int32) (ha1 : 0 ≤ a1.toInt) (ha1b : a1.toInt ≤ 21) (ha2 : a2.toInt ≤ 20) : Met l yX3_raise wsX3_raise ({ frames := 1, cells := 0, slots := 0, locals := 22 } : Room) (va_Pc [.ref o, .int a1, .int a2, .int a3] (xP D cI cZ [(o, .inr (3, [.int o_steps, .int o_mile, .int o_walkers, .int o_walked, .ref o_hard, .ref o_kinds, .ref o_habits])), (o_hard, .inr (4, [.ref o_hard_a])), (o_hard_a, .inl (cI, 21, .inl o_hard_f))] sz)) (va_Qv (fun (u : (Nat → Int32)) => u = fX3_raise a1 a2 a3 o_hard_f) (fun (u : (Nat → Int32)) t => xB D cI cZ [(o, .inr (3, [.int o_steps, .int o_mile, .int o_walkers, .int o_walked, .ref o_hard, .ref o_kinds, .ref o_habits])), (o_hard, .inr (4, [.ref o_hard_a])), (o_hard_a, .inl (cI, 21, .inl u))] (va_A [(o, .inr (3, [.int o_steps, .int o_mile, .int o_walkers, .int o_walked, .ref o_hard, .ref o_kinds, .ref o_habits])), (o_hard, .inr (4, [.ref o_hard_a])), (o_hard_a, .inl (cI, 21, .inl o_hard_f))] sz) t) (va_A [(o, .inr (3, [.int o_steps, .int o_mile, .int o_walkers, .int o_walked, .ref o_hard, .ref o_kinds, .ref o_habits])), (o_hard, .inr (4, [.ref o_hard_a])), (o_hard_a, .inl (cI, 21, .inl o_hard_f))] sz)) 0 0 (va_A [(o, .inr (3, [.int o_steps, .int o_mile, .int o_walkers, .int o_walked, .ref o_hard, .ref o_kinds, .ref o_habits])), (o_hard, .inr (4, [.ref o_hard_a])), (o_hard_a, .inl (cI, 21, .inl o_hard_f))] sz) := by
  refine Met.ofW (cc := cX3_raise) (maxL := 5) (ret := none) (by decide) rfl ?_
  intro p e s m args below meth c s₁ B hml hv
  obtain ⟨hargs, hsz, hP, hK, hD0, hE⟩ := hv
  subst hargs
  have hx := B.exec
  have hb := B.bytes
  have hr := B.returns
  have hts := atoms_spec (ws := wsX3_raise) B.pre
  have hown : s.vm.findClass RX3 = some m.cls := findClass_of_methodNamed B.named
  have hlocks := B.notSynchronized
  subst hsz
  have hD := hD0.self (sz := s.heap.size)
  generalize hAe : va_A [(o, .inr (3, [.int o_steps, .int o_mile, .int o_walkers, .int o_walked, .ref o_hard, .ref o_kinds, .ref o_habits])), (o_hard, .inr (4, [.ref o_hard_a])), (o_hard_a, .inl (cI, 21, .inl o_hard_f))] s.heap.size = A at hD ⊢
  have hA : ∀ q : Nat, s.heap.size ≤ q → A q := fun q h => by rw [← hAe]; exact Or.inr h
  have hS : va_S A s.heap s.heap [] := va_S.rf
  have hl := lv_entry ([.ref o, .int a1, .int a2, .int a3]) (n := 5) (Nat.le_of_ble_eq_true rfl)
  rw [lg_entry_eq]
  generalize (lg_sl ([.ref o, .int a1, .int a2, .int a3]) ++ List.replicate (5 - (lg_sl ([.ref o, .int a1, .int a2, .int a3])).length) Slot.unset).toArray = ls at hl ⊢
  have hl : lv_has ls 5 [(0, .ref o), (1, .int a1), (2, .int a2), (3, .int a3)] := hl
  refine wq (X := fun Q => ∀ (pc : Nat) (H : Heap) (locs : List Loc) (ls : Array Slot) (u : (Nat → Int32)) (hd : decode cX3_raise pc = .ok (.return_, 1)) (hp : u = fX3_raise a1 a2 a3 o_hard_f) (hP : va_P D vwCl [(o, .inr (3, [.int o_steps, .int o_mile, .int o_walkers, .int o_walked, .ref o_hard, .ref o_kinds, .ref o_habits])), (o_hard, .inr (4, [.ref o_hard_a])), (o_hard_a, .inl (cI, 21, .inl u))] H) (hD : va_D A [(o, .inr (3, [.int o_steps, .int o_mile, .int o_walkers, .int o_walked, .ref o_hard, .ref o_kinds, .ref o_habits])), (o_hard, .inr (4, [.ref o_hard_a])), (o_hard_a, .inl (cI, 21, .inl u))]) (hS : va_S A s.heap H locs), W p l e ({ frames := 1, cells := 0, slots := 0, locals := 22 } : Room) s m ([.ref o, .int a1, .int a2, .int a3] : List Value).toArray below meth c H locs 0 0 Q (F0 m pc ls [])) ?_ (fun Q hret => ?_)
  · intro pc H locs ls u hd hp hP hD hS
    exact W.vret hx hb hr (fun t ht hW => ⟨⟨u, rfl, hp, by rw [ht]; exact hP, va_K.moved hW.alike hK, hD⟩, hS.F ht⟩) hS.2.2 hd
  have hin_3 : ∀ w ∈ u_ws RX3 TX3 7, w ∈ wsX3_raise := by decide +kernel
  have fl_14 := hts (.fieldLink RX3 14 "MileRoad$Road" "hard" "LMileRoad$Row;") (by decide +kernel)
  have zl_1 : (1 : Int32).toInt = 1 := by decide
  have hF : fX3_raise a1 a2 a3 o_hard_f = fX3_raise a1 a2 a3 o_hard_f := rfl
  have L_3 : ∀ (n : Nat) (o_hard_a_f_3 : Nat → Int32) (v3_4 : Int32) (h1_3 : 0 ≤ v3_4.toInt) (h2_3 : v3_4.toInt ≤ 21) (hm : 21 - v3_4.toInt < (n : Int)) (H : Heap) (locs : List Loc) (ls : Array Slot) (hl : lv_has ls 5 [(0, .ref o), (1, .int a1), (2, .int a2), (3, .int a3), (4, .int v3_4)]) (hP : va_P D vwCl [(o, .inr (3, [.int o_steps, .int o_mile, .int o_walkers, .int o_walked, .ref o_hard, .ref o_kinds, .ref o_habits])), (o_hard, .inr (4, [.ref o_hard_a])), (o_hard_a, .inl (cI, 21, .inl o_hard_a_f_3))] H) (hD : va_D A [(o, .inr (3, [.int o_steps, .int o_mile, .int o_walkers, .int o_walked, .ref o_hard, .ref o_kinds, .ref o_habits])), (o_hard, .inr (4, [.ref o_hard_a])), (o_hard_a, .inl (cI, 21, .inl o_hard_a_f_3))]) (hS : va_S A s.heap H locs) (hF : fX3_raise a1 a2 a3 o_hard_f = fX3_raise_3 a2 a3 n o_hard_a_f_3 v3_4), W p l e ({ frames := 1, cells := 0, slots := 0, locals := 22 } : Room) s m ([.ref o, .int a1, .int a2, .int a3] : List Value).toArray below meth c H locs 0 0 Q (F0 m 3 ls []) := by
    intro n
    induction n with
    | zero =>
      intro o_hard_a_f_3 v3_4 h1_3 h2_3 hm H locs ls hl hP hD hS hF
      exact absurd hm (by omega)
    | succ n ih_3 =>
      intro o_hard_a_f_3 v3_4 h1_3 h2_3 hm H locs ls hl hP hD hS hF
      refine lv_iload hx hb dX3_raise_3 (lv_at hl 4 rfl) ?_
      refine lv_iload_n hx hb dX3_raise_5 rfl (lv_at hl 2 rfl) ?_
      refine lv_icmp_gt (tgt := 25) hx hb dX3_raise_6 (by decide) (fun c_1 => ?_) (fun c_1 => ?_)
      · have kc_1 := t_lt c_1
        exact hret _ _ _ _ o_hard_a_f_3 dX3_raise_25 ((hF.trans (by simp only [fX3_raise_3, xlet, if_pos c_1])).symm) hP hD hS
      · have kc_1 := t_nlt c_1
        refine lv_aload_n hx hb dX3_raise_9 rfl (lv_at hl 0 rfl) ?_
        refine xget hx hb hts hown hK 3 (C2 := RX3) (T := TX3) (N := 7) rfl hin_3 hP 0 rfl 4 (by decide) fl_14 rfl rfl rfl dX3_raise_10 ?_
        refine lv_iload hx hb dX3_raise_13 (lv_at hl 4 rfl) ?_
        refine lv_iload_n hx hb dX3_raise_15 rfl (lv_at hl 3 rfl) ?_
        refine xcallv (S := (Nat → Int32)) (Wc := [(o_hard, .inr (4, [.ref o_hard_a])), (o_hard_a, .inl (cI, 21, .inl o_hard_a_f_3))]) (wr := [(o, .inr (3, [.int o_steps, .int o_mile, .int o_walkers, .int o_walked, .ref o_hard, .ref o_kinds, .ref o_habits]))]) (W1 := (fun (u : (Nat → Int32)) => [(o_hard, .inr (4, [.ref o_hard_a])), (o_hard_a, .inl (cI, 21, .inl u))])) (Wn := (fun (u : (Nat → Int32)) => [(o, .inr (3, [.int o_steps, .int o_mile, .int o_walkers, .int o_walked, .ref o_hard, .ref o_kinds, .ref o_habits])), (o_hard, .inr (4, [.ref o_hard_a])), (o_hard_a, .inl (cI, 21, .inl u))])) (xrunV hx hb hml hown hts (c_X4_put l D cI cZ _ o_hard v3_4 a3 o_hard_a o_hard_a_f_3 21 (by decide)) (cwV 2 hts gX3_raise_X4_put rfl rfl rfl (by decide +kernel) ⟨Nat.le_of_ble_eq_true rfl, Nat.le_of_ble_eq_true rfl⟩) hE hK hP hD [1, 2] rfl rfl 0 4 (T := TX4) (N := 1) rfl rfl rfl hl.1 rfl (Nat.le_of_ble_eq_true rfl) dX3_raise_16 ⟨Nat.le_of_ble_eq_true rfl, Nat.le_of_ble_eq_true rfl⟩) hP hD hS hA [1, 2] [0] [0, 1, 2] rfl rfl rfl (by decide) (fun _ => rfl) rfl (fun  u H locs hw hz hP hD hS => ?_)
        obtain ⟨u1, hu⟩ : ∃ z, z = u := ⟨u, rfl⟩
        subst hu
        have hw_2 := hw.symm
        have hP : va_P D vwCl [(o, .inr (3, [.int o_steps, .int o_mile, .int o_walkers, .int o_walked, .ref o_hard, .ref o_kinds, .ref o_habits])), (o_hard, .inr (4, [.ref o_hard_a])), (o_hard_a, .inl (cI, 21, .inl u1))] H := hP
        have hD : va_D A [(o, .inr (3, [.int o_steps, .int o_mile, .int o_walkers, .int o_walked, .ref o_hard, .ref o_kinds, .ref o_habits])), (o_hard, .inr (4, [.ref o_hard_a])), (o_hard_a, .inl (cI, 21, .inl u1))] := hD
        refine lv_iinc (v := (v3_4 + 1)) (lv' := [(4, .int (v3_4 + 1)), (0, .ref o), (1, .int a1), (2, .int a2), (3, .int a3)]) hx hb dX3_raise_19 hl (k := 4) rfl (by rfl) (by decide) rfl (fun ls hl => ?_)
        refine lv_goto (tgt := 3) hx hb dX3_raise_22 (by decide) ?_
        have z_1 : (v3_4 + 1).toInt = v3_4.toInt + (1 : Int32).toInt := z_add (by omega) (by omega)
        exact ih_3 u1 (v3_4 + 1) (by first | assumption | omega | decide | (split <;> rename_i hh <;> first | (have h9 := t_nlt hh; omega) | (have h9 := t_lt hh; omega) | (have h9 := t_nle hh; omega) | (have h9 := t_le hh; omega))) (by first | assumption | omega | decide | (split <;> rename_i hh <;> first | (have h9 := t_nlt hh; omega) | (have h9 := t_lt hh; omega) | (have h9 := t_nle hh; omega) | (have h9 := t_le hh; omega))) (by first | assumption | omega | decide | (split <;> rename_i hh <;> first | (have h9 := t_nlt hh; omega) | (have h9 := t_lt hh; omega) | (have h9 := t_nle hh; omega) | (have h9 := t_le hh; omega))) _ _ _ (lv_sub hl [1, 2, 3, 4, 0] rfl) hP hD hS (hF.trans (by simp only [fX3_raise_3, xlet, if_neg c_1, ↓hw_2]))
  refine lv_iload_n hx hb dX3_raise_0 rfl (lv_at hl 1 rfl) ?_
  refine lv_istore (lv' := [(4, .int a1), (0, .ref o), (1, .int a1), (2, .int a2), (3, .int a3)]) hx hb dX3_raise_1 hl (by decide) rfl (fun ls hl => ?_)
  exact L_3 1000 o_hard_f a1 (by first | assumption | omega | decide | (split <;> rename_i hh <;> first | (have h9 := t_nlt hh; omega) | (have h9 := t_lt hh; omega) | (have h9 := t_nle hh; omega) | (have h9 := t_le hh; omega))) (by first | assumption | omega | decide | (split <;> rename_i hh <;> first | (have h9 := t_nlt hh; omega) | (have h9 := t_lt hh; omega) | (have h9 := t_nle hh; omega) | (have h9 := t_le hh; omega))) (by first | assumption | omega | decide | (split <;> rename_i hh <;> first | (have h9 := t_nlt hh; omega) | (have h9 := t_lt hh; omega) | (have h9 := t_nle hh; omega) | (have h9 := t_le hh; omega))) _ _ _ (lv_sub hl [1, 2, 3, 4, 0] rfl) hP hD hS (hF.trans (by simp only [fX3_raise, xlet]))
set_option maxRecDepth 20000 in
theorem ggX3_lay_X3_leaveNobody : GoodIn wsX3_lay wsX3_leaveNobody := goodIn_r _ [7, 8, 9, 21, 22, 23, 24, 25, 26, 27] (by decide +kernel) (by decide +kernel)
set_option maxRecDepth 20000 in
theorem gX3_lay_X3_leaveNobody : GoodIn wsX3_lay (wsV RX3 36 RX3 yX3_leaveNobody wsX3_leaveNobody) := goodIn_app (goodIn_of _ (by decide +kernel)) ggX3_lay_X3_leaveNobody
set_option maxRecDepth 20000 in
theorem ggX3_lay_X3_raise : GoodIn wsX3_lay wsX3_raise := goodIn_r _ [13, 14, 15, 16, 17, 18, 19, 20, 21, 22, 23, 24, 25, 26, 27, 28] (by decide +kernel) (by decide +kernel)
set_option maxRecDepth 20000 in
theorem gX3_lay_X3_raise : GoodIn wsX3_lay (wsV RX3 39 RX3 yX3_raise wsX3_raise) := goodIn_app (goodIn_of _ (by decide +kernel)) ggX3_lay_X3_raise
theorem dX3_lay_0 : decode cX3_lay 0 = .ok (.aload_n 0, 1) := by decide +kernel
theorem dX3_lay_1 : decode cX3_lay 1 = .ok (.iload_n 1, 1) := by decide +kernel
theorem dX3_lay_2 : decode cX3_lay 2 = .ok (.putfield 29, 3) := by decide +kernel
theorem dX3_lay_5 : decode cX3_lay 5 = .ok (.aload_n 0, 1) := by decide +kernel
theorem dX3_lay_6 : decode cX3_lay 6 = .ok (.bipush 10, 2) := by decide +kernel
theorem dX3_lay_8 : decode cX3_lay 8 = .ok (.putfield 33, 3) := by decide +kernel
theorem dX3_lay_11 : decode cX3_lay 11 = .ok (.aload_n 0, 1) := by decide +kernel
theorem dX3_lay_12 : decode cX3_lay 12 = .ok (.invokevirtual 36, 3) := by decide +kernel
theorem dX3_lay_15 : decode cX3_lay 15 = .ok (.aload_n 0, 1) := by decide +kernel
theorem dX3_lay_16 : decode cX3_lay 16 = .ok (.iconst 1, 1) := by decide +kernel
theorem dX3_lay_17 : decode cX3_lay 17 = .ok (.iload_n 1, 1) := by decide +kernel
theorem dX3_lay_18 : decode cX3_lay 18 = .ok (.iconst 3, 1) := by decide +kernel
theorem dX3_lay_19 : decode cX3_lay 19 = .ok (.invokevirtual 39, 3) := by decide +kernel
theorem dX3_lay_22 : decode cX3_lay 22 = .ok (.return_, 1) := by decide +kernel
def fX3_lay (a1 : Int32) (o_hard_f : Nat → Int32) : (Nat → Int32) := xlet (fX3_raise 1 a1 3 o_hard_f) (fun u1 => u1)
set_option maxHeartbeats 4000000 in
set_option maxRecDepth 100000 in
theorem c_X3_lay (l : Launch) (D : va_G) (cI cZ : ClassId) (sz : Nat) (o : Nat) (a1 : Int32) (o_steps : Int32) (o_mile : Int32) (o_walkers : Int32) (o_walked : Int32) (o_hard : Nat) (o_kinds : Nat) (o_habits : Nat) (o_hard_a : Nat) (o_hard_f : Nat → Int32) (ha1 : a1.toInt ≤ 20) : Met l yX3_lay wsX3_lay ({ frames := 2, cells := 0, slots := 0, locals := 46 } : Room) (va_Pc [.ref o, .int a1] (xP D cI cZ [(o, .inr (3, [.int o_steps, .int o_mile, .int o_walkers, .int o_walked, .ref o_hard, .ref o_kinds, .ref o_habits])), (o_hard, .inr (4, [.ref o_hard_a])), (o_hard_a, .inl (cI, 21, .inl o_hard_f))] sz)) (va_Qv (fun (u : (Nat → Int32)) => u = fX3_lay a1 o_hard_f) (fun (u : (Nat → Int32)) t => xB D cI cZ [(o, .inr (3, [.int a1, .int 10, .int 0, .int 0, .ref o_hard, .ref o_kinds, .ref o_habits])), (o_hard, .inr (4, [.ref o_hard_a])), (o_hard_a, .inl (cI, 21, .inl u))] (va_A [(o, .inr (3, [.int o_steps, .int o_mile, .int o_walkers, .int o_walked, .ref o_hard, .ref o_kinds, .ref o_habits])), (o_hard, .inr (4, [.ref o_hard_a])), (o_hard_a, .inl (cI, 21, .inl o_hard_f))] sz) t) (va_A [(o, .inr (3, [.int o_steps, .int o_mile, .int o_walkers, .int o_walked, .ref o_hard, .ref o_kinds, .ref o_habits])), (o_hard, .inr (4, [.ref o_hard_a])), (o_hard_a, .inl (cI, 21, .inl o_hard_f))] sz)) 0 0 (va_A [(o, .inr (3, [.int o_steps, .int o_mile, .int o_walkers, .int o_walked, .ref o_hard, .ref o_kinds, .ref o_habits])), (o_hard, .inr (4, [.ref o_hard_a])), (o_hard_a, .inl (cI, 21, .inl o_hard_f))] sz) := by
  refine Met.ofW (cc := cX3_lay) (maxL := 2) (ret := none) (by decide) rfl ?_
  intro p e s m args below meth c s₁ B hml hv
  obtain ⟨hargs, hsz, hP, hK, hD0, hE⟩ := hv
  subst hargs
  have hx := B.exec
  have hb := B.bytes
  have hr := B.returns
  have hts := atoms_spec (ws := wsX3_lay) B.pre
  have hown : s.vm.findClass RX3 = some m.cls := findClass_of_methodNamed B.named
  have hlocks := B.notSynchronized
  subst hsz
  have hD := hD0.self (sz := s.heap.size)
  generalize hAe : va_A [(o, .inr (3, [.int o_steps, .int o_mile, .int o_walkers, .int o_walked, .ref o_hard, .ref o_kinds, .ref o_habits])), (o_hard, .inr (4, [.ref o_hard_a])), (o_hard_a, .inl (cI, 21, .inl o_hard_f))] s.heap.size = A at hD ⊢
  have hA : ∀ q : Nat, s.heap.size ≤ q → A q := fun q h => by rw [← hAe]; exact Or.inr h
  have hS : va_S A s.heap s.heap [] := va_S.rf
  have hl := lv_entry ([.ref o, .int a1]) (n := 2) (Nat.le_of_ble_eq_true rfl)
  rw [lg_entry_eq]
  generalize (lg_sl ([.ref o, .int a1]) ++ List.replicate (2 - (lg_sl ([.ref o, .int a1])).length) Slot.unset).toArray = ls at hl ⊢
  have hl : lv_has ls 2 [(0, .ref o), (1, .int a1)] := hl
  refine wq (X := fun Q => ∀ (pc : Nat) (H : Heap) (locs : List Loc) (ls : Array Slot) (u : (Nat → Int32)) (hd : decode cX3_lay pc = .ok (.return_, 1)) (hp : u = fX3_lay a1 o_hard_f) (hP : va_P D vwCl [(o, .inr (3, [.int a1, .int 10, .int 0, .int 0, .ref o_hard, .ref o_kinds, .ref o_habits])), (o_hard, .inr (4, [.ref o_hard_a])), (o_hard_a, .inl (cI, 21, .inl u))] H) (hD : va_D A [(o, .inr (3, [.int a1, .int 10, .int 0, .int 0, .ref o_hard, .ref o_kinds, .ref o_habits])), (o_hard, .inr (4, [.ref o_hard_a])), (o_hard_a, .inl (cI, 21, .inl u))]) (hS : va_S A s.heap H locs), W p l e ({ frames := 2, cells := 0, slots := 0, locals := 46 } : Room) s m ([.ref o, .int a1] : List Value).toArray below meth c H locs 0 0 Q (F0 m pc ls [])) ?_ (fun Q hret => ?_)
  · intro pc H locs ls u hd hp hP hD hS
    exact W.vret hx hb hr (fun t ht hW => ⟨⟨u, rfl, hp, by rw [ht]; exact hP, va_K.moved hW.alike hK, hD⟩, hS.F ht⟩) hS.2.2 hd
  have hin_3 : ∀ w ∈ u_ws RX3 TX3 7, w ∈ wsX3_lay := by decide +kernel
  have fl_29 := hts (.fieldLink RX3 29 "MileRoad$Road" "steps" "I") (by decide +kernel)
  have fl_33 := hts (.fieldLink RX3 33 "MileRoad$Road" "mile" "I") (by decide +kernel)
  have hF : fX3_lay a1 o_hard_f = fX3_lay a1 o_hard_f := rfl
  refine lv_aload_n hx hb dX3_lay_0 rfl (lv_at hl 0 rfl) ?_
  refine lv_iload_n hx hb dX3_lay_1 rfl (lv_at hl 1 rfl) ?_
  refine xput hx hb hts hown hK 3 (C2 := RX3) (T := TX3) (N := 7) tyX3 rfl tyX3_ok nmX3 hin_3 hP hD hS 0 rfl 0 (by decide) fl_29 rfl rfl rfl rfl rfl (Nat.le_of_ble_eq_true rfl) dX3_lay_2 [(o, .inr (3, [.int a1, .int o_mile, .int o_walkers, .int o_walked, .ref o_hard, .ref o_kinds, .ref o_habits])), (o_hard, .inr (4, [.ref o_hard_a])), (o_hard_a, .inl (cI, 21, .inl o_hard_f))] rfl (fun H locs hP hD hS => ?_)
  refine lv_aload_n hx hb dX3_lay_5 rfl (lv_at hl 0 rfl) ?_
  refine lv_bipush (v := 10) hx hb dX3_lay_6 (by decide) ?_
  refine xput hx hb hts hown hK 3 (C2 := RX3) (T := TX3) (N := 7) tyX3 rfl tyX3_ok nmX3 hin_3 hP hD hS 0 rfl 1 (by decide) fl_33 rfl rfl rfl rfl rfl (Nat.le_of_ble_eq_true rfl) dX3_lay_8 [(o, .inr (3, [.int a1, .int 10, .int o_walkers, .int o_walked, .ref o_hard, .ref o_kinds, .ref o_habits])), (o_hard, .inr (4, [.ref o_hard_a])), (o_hard_a, .inl (cI, 21, .inl o_hard_f))] rfl (fun H locs hP hD hS => ?_)
  refine lv_aload_n hx hb dX3_lay_11 rfl (lv_at hl 0 rfl) ?_
  refine xcallv (S := Unit) (Wc := [(o, .inr (3, [.int a1, .int 10, .int o_walkers, .int o_walked, .ref o_hard, .ref o_kinds, .ref o_habits]))]) (wr := [(o_hard, .inr (4, [.ref o_hard_a])), (o_hard_a, .inl (cI, 21, .inl o_hard_f))]) (W1 := (fun (u : Unit) => [(o, .inr (3, [.int a1, .int 10, .int 0, .int 0, .ref o_hard, .ref o_kinds, .ref o_habits]))])) (Wn := (fun (u : Unit) => [(o, .inr (3, [.int a1, .int 10, .int 0, .int 0, .ref o_hard, .ref o_kinds, .ref o_habits])), (o_hard, .inr (4, [.ref o_hard_a])), (o_hard_a, .inl (cI, 21, .inl o_hard_f))])) (xrunV hx hb hml hown hts (c_X3_leaveNobody l D cI cZ _ o a1 10 o_walkers o_walked o_hard o_kinds o_habits ) (cwV 0 hts gX3_lay_X3_leaveNobody rfl rfl rfl (by decide +kernel) ⟨Nat.le_of_ble_eq_true rfl, Nat.le_of_ble_eq_true rfl⟩) hE hK hP hD [0] rfl rfl 0 3 (T := TX3) (N := 7) rfl rfl rfl hl.1 rfl (Nat.le_of_ble_eq_true rfl) dX3_lay_12 ⟨Nat.le_of_ble_eq_true rfl, Nat.le_of_ble_eq_true rfl⟩) hP hD hS hA [0] [1, 2] [2, 0, 1] rfl rfl rfl (by decide) (fun _ => rfl) rfl (fun  u H locs hw hz hP hD hS => ?_)
  have hP : va_P D vwCl [(o, .inr (3, [.int a1, .int 10, .int 0, .int 0, .ref o_hard, .ref o_kinds, .ref o_habits])), (o_hard, .inr (4, [.ref o_hard_a])), (o_hard_a, .inl (cI, 21, .inl o_hard_f))] H := hP
  have hD : va_D A [(o, .inr (3, [.int a1, .int 10, .int 0, .int 0, .ref o_hard, .ref o_kinds, .ref o_habits])), (o_hard, .inr (4, [.ref o_hard_a])), (o_hard_a, .inl (cI, 21, .inl o_hard_f))] := hD
  refine lv_aload_n hx hb dX3_lay_15 rfl (lv_at hl 0 rfl) ?_
  refine lv_iconst (v := 1) hx hb dX3_lay_16 (by decide) ?_
  refine lv_iload_n hx hb dX3_lay_17 rfl (lv_at hl 1 rfl) ?_
  refine lv_iconst (v := 3) hx hb dX3_lay_18 (by decide) ?_
  refine xcallv (S := (Nat → Int32)) (Wc := [(o, .inr (3, [.int a1, .int 10, .int 0, .int 0, .ref o_hard, .ref o_kinds, .ref o_habits])), (o_hard, .inr (4, [.ref o_hard_a])), (o_hard_a, .inl (cI, 21, .inl o_hard_f))]) (wr := []) (W1 := (fun (u : (Nat → Int32)) => [(o, .inr (3, [.int a1, .int 10, .int 0, .int 0, .ref o_hard, .ref o_kinds, .ref o_habits])), (o_hard, .inr (4, [.ref o_hard_a])), (o_hard_a, .inl (cI, 21, .inl u))])) (Wn := (fun (u : (Nat → Int32)) => [(o, .inr (3, [.int a1, .int 10, .int 0, .int 0, .ref o_hard, .ref o_kinds, .ref o_habits])), (o_hard, .inr (4, [.ref o_hard_a])), (o_hard_a, .inl (cI, 21, .inl u))])) (xrunV hx hb hml hown hts (c_X3_raise l D cI cZ _ o 1 a1 3 a1 10 0 0 o_hard o_kinds o_habits o_hard_a o_hard_f (by decide) (by decide) (by first | assumption | decide | omega)) (cwV 3 hts gX3_lay_X3_raise rfl rfl rfl (by decide +kernel) ⟨Nat.le_of_ble_eq_true rfl, Nat.le_of_ble_eq_true rfl⟩) hE hK hP hD [0, 1, 2] rfl rfl 0 3 (T := TX3) (N := 7) rfl rfl rfl hl.1 rfl (Nat.le_of_ble_eq_true rfl) dX3_lay_19 ⟨Nat.le_of_ble_eq_true rfl, Nat.le_of_ble_eq_true rfl⟩) hP hD hS hA [0, 1, 2] [] [0, 1, 2] rfl rfl rfl (by decide) (fun _ => rfl) rfl (fun  u H locs hw hz hP hD hS => ?_)
  obtain ⟨u1, hu⟩ : ∃ z, z = u := ⟨u, rfl⟩
  subst hu
  have hw_2 := hw.symm
  have hP : va_P D vwCl [(o, .inr (3, [.int a1, .int 10, .int 0, .int 0, .ref o_hard, .ref o_kinds, .ref o_habits])), (o_hard, .inr (4, [.ref o_hard_a])), (o_hard_a, .inl (cI, 21, .inl u1))] H := hP
  have hD : va_D A [(o, .inr (3, [.int a1, .int 10, .int 0, .int 0, .ref o_hard, .ref o_kinds, .ref o_habits])), (o_hard, .inr (4, [.ref o_hard_a])), (o_hard_a, .inl (cI, 21, .inl u1))] := hD
  exact hret _ _ _ _ u1 dX3_lay_22 ((hF.trans (by simp only [fX3_lay, xlet, ↓hw_2])).symm) hP hD hS
set_option maxRecDepth 20000 in
theorem ggX3_take_X4_take : GoodIn wsX3_take wsX4_take := goodIn_r _ [12, 13, 14, 15, 16, 11, 17, 25] (by decide +kernel) (by decide +kernel)
set_option maxRecDepth 20000 in
theorem gX3_take_X4_take : GoodIn wsX3_take (wsV RX3 53 RX4 yX4_take wsX4_take) := goodIn_app (goodIn_of _ (by decide +kernel)) ggX3_take_X4_take
theorem dX3_take_0 : decode cX3_take 0 = .ok (.aload_n 0, 1) := by decide +kernel
theorem dX3_take_1 : decode cX3_take 1 = .ok (.aload_n 1, 1) := by decide +kernel
theorem dX3_take_2 : decode cX3_take 2 = .ok (.getfield 29, 3) := by decide +kernel
theorem dX3_take_5 : decode cX3_take 5 = .ok (.putfield 29, 3) := by decide +kernel
theorem dX3_take_8 : decode cX3_take 8 = .ok (.aload_n 0, 1) := by decide +kernel
theorem dX3_take_9 : decode cX3_take 9 = .ok (.aload_n 1, 1) := by decide +kernel
theorem dX3_take_10 : decode cX3_take 10 = .ok (.getfield 33, 3) := by decide +kernel
theorem dX3_take_13 : decode cX3_take 13 = .ok (.putfield 33, 3) := by decide +kernel
theorem dX3_take_16 : decode cX3_take 16 = .ok (.aload_n 0, 1) := by decide +kernel
theorem dX3_take_17 : decode cX3_take 17 = .ok (.aload_n 1, 1) := by decide +kernel
theorem dX3_take_18 : decode cX3_take 18 = .ok (.getfield 47, 3) := by decide +kernel
theorem dX3_take_21 : decode cX3_take 21 = .ok (.putfield 47, 3) := by decide +kernel
theorem dX3_take_24 : decode cX3_take 24 = .ok (.aload_n 0, 1) := by decide +kernel
theorem dX3_take_25 : decode cX3_take 25 = .ok (.aload_n 1, 1) := by decide +kernel
theorem dX3_take_26 : decode cX3_take 26 = .ok (.getfield 50, 3) := by decide +kernel
theorem dX3_take_29 : decode cX3_take 29 = .ok (.putfield 50, 3) := by decide +kernel
theorem dX3_take_32 : decode cX3_take 32 = .ok (.aload_n 0, 1) := by decide +kernel
theorem dX3_take_33 : decode cX3_take 33 = .ok (.getfield 14, 3) := by decide +kernel
theorem dX3_take_36 : decode cX3_take 36 = .ok (.aload_n 1, 1) := by decide +kernel
theorem dX3_take_37 : decode cX3_take 37 = .ok (.getfield 14, 3) := by decide +kernel
theorem dX3_take_40 : decode cX3_take 40 = .ok (.invokevirtual 53, 3) := by decide +kernel
theorem dX3_take_43 : decode cX3_take 43 = .ok (.aload_n 0, 1) := by decide +kernel
theorem dX3_take_44 : decode cX3_take 44 = .ok (.getfield 20, 3) := by decide +kernel
theorem dX3_take_47 : decode cX3_take 47 = .ok (.aload_n 1, 1) := by decide +kernel
theorem dX3_take_48 : decode cX3_take 48 = .ok (.getfield 20, 3) := by decide +kernel
theorem dX3_take_51 : decode cX3_take 51 = .ok (.invokevirtual 53, 3) := by decide +kernel
theorem dX3_take_54 : decode cX3_take 54 = .ok (.aload_n 0, 1) := by decide +kernel
theorem dX3_take_55 : decode cX3_take 55 = .ok (.getfield 23, 3) := by decide +kernel
theorem dX3_take_58 : decode cX3_take 58 = .ok (.aload_n 1, 1) := by decide +kernel
theorem dX3_take_59 : decode cX3_take 59 = .ok (.getfield 23, 3) := by decide +kernel
theorem dX3_take_62 : decode cX3_take 62 = .ok (.invokevirtual 53, 3) := by decide +kernel
theorem dX3_take_65 : decode cX3_take 65 = .ok (.return_, 1) := by decide +kernel
def fX3_take (o_hard_f : Nat → Int32) (a1_hard_f : Nat → Int32) (o_kinds_f : Nat → Int32) (a1_kinds_f : Nat → Int32) (o_habits_f : Nat → Int32) (a1_habits_f : Nat → Int32) : (Nat → Int32) × (Nat → Int32) × (Nat → Int32) := xlet (fX4_take o_hard_f 21 a1_hard_f 21) (fun u1 => xlet (fX4_take o_kinds_f 6 a1_kinds_f 6) (fun u2 => xlet (fX4_take o_habits_f 6 a1_habits_f 6) (fun u3 => (u1, u2, u3))))
set_option maxHeartbeats 4000000 in
set_option maxRecDepth 100000 in
theorem c_X3_take (l : Launch) (D : va_G) (cI cZ : ClassId) (sz : Nat) (o : Nat) (a1 : Nat) (a1_steps : Int32) (a1_mile : Int32) (a1_walkers : Int32) (a1_walked : Int32) (a1_hard : Nat) (a1_kinds : Nat) (a1_habits : Nat) (o_steps : Int32) (o_mile : Int32) (o_walkers : Int32) (o_walked : Int32) (o_hard : Nat) (o_kinds : Nat) (o_habits : Nat) (o_hard_a : Nat) (o_hard_f : Nat → Int32) (a1_hard_a : Nat) (a1_hard_f : Nat → Int32) (o_kinds_a : Nat) (o_kinds_f : Nat → Int32) (a1_kinds_a : Nat) (a1_kinds_f : Nat → Int32) (o_habits_a : Nat) (o_habits_f : Nat → Int32) (a1_habits_a : Nat) (a1_habits_f : Nat → Int32)  : Met l yX3_take wsX3_take ({ frames := 2, cells := 0, slots := 0, locals := 43 } : Room) (va_Pc [.ref o, .ref a1] (xP D cI cZ [(a1, .inr (3, [.int a1_steps, .int a1_mile, .int a1_walkers, .int a1_walked, .ref a1_hard, .ref a1_kinds, .ref a1_habits])), (o, .inr (3, [.int o_steps, .int o_mile, .int o_walkers, .int o_walked, .ref o_hard, .ref o_kinds, .ref o_habits])), (o_hard, .inr (4, [.ref o_hard_a])), (o_hard_a, .inl (cI, 21, .inl o_hard_f)), (a1_hard, .inr (4, [.ref a1_hard_a])), (a1_hard_a, .inl (cI, 21, .inl a1_hard_f)), (o_kinds, .inr (4, [.ref o_kinds_a])), (o_kinds_a, .inl (cI, 6, .inl o_kinds_f)), (a1_kinds, .inr (4, [.ref a1_kinds_a])), (a1_kinds_a, .inl (cI, 6, .inl a1_kinds_f)), (o_habits, .inr (4, [.ref o_habits_a])), (o_habits_a, .inl (cI, 6, .inl o_habits_f)), (a1_habits, .inr (4, [.ref a1_habits_a])), (a1_habits_a, .inl (cI, 6, .inl a1_habits_f))] sz)) (va_Qv (fun (u : (Nat → Int32) × (Nat → Int32) × (Nat → Int32)) => u = fX3_take o_hard_f a1_hard_f o_kinds_f a1_kinds_f o_habits_f a1_habits_f) (fun (u : (Nat → Int32) × (Nat → Int32) × (Nat → Int32)) t => xB D cI cZ [(a1, .inr (3, [.int a1_steps, .int a1_mile, .int a1_walkers, .int a1_walked, .ref a1_hard, .ref a1_kinds, .ref a1_habits])), (o, .inr (3, [.int a1_steps, .int a1_mile, .int a1_walkers, .int a1_walked, .ref o_hard, .ref o_kinds, .ref o_habits])), (o_hard, .inr (4, [.ref o_hard_a])), (o_hard_a, .inl (cI, 21, .inl u.1)), (a1_hard, .inr (4, [.ref a1_hard_a])), (a1_hard_a, .inl (cI, 21, .inl a1_hard_f)), (o_kinds, .inr (4, [.ref o_kinds_a])), (o_kinds_a, .inl (cI, 6, .inl u.2.1)), (a1_kinds, .inr (4, [.ref a1_kinds_a])), (a1_kinds_a, .inl (cI, 6, .inl a1_kinds_f)), (o_habits, .inr (4, [.ref o_habits_a])), (o_habits_a, .inl (cI, 6, .inl u.2.2)), (a1_habits, .inr (4, [.ref a1_habits_a])), (a1_habits_a, .inl (cI, 6, .inl a1_habits_f))] (va_A [(a1, .inr (3, [.int a1_steps, .int a1_mile, .int a1_walkers, .int a1_walked, .ref a1_hard, .ref a1_kinds, .ref a1_habits])), (o, .inr (3, [.int o_steps, .int o_mile, .int o_walkers, .int o_walked, .ref o_hard, .ref o_kinds, .ref o_habits])), (o_hard, .inr (4, [.ref o_hard_a])), (o_hard_a, .inl (cI, 21, .inl o_hard_f)), (a1_hard, .inr (4, [.ref a1_hard_a])), (a1_hard_a, .inl (cI, 21, .inl a1_hard_f)), (o_kinds, .inr (4, [.ref o_kinds_a])), (o_kinds_a, .inl (cI, 6, .inl o_kinds_f)), (a1_kinds, .inr (4, [.ref a1_kinds_a])), (a1_kinds_a, .inl (cI, 6, .inl a1_kinds_f)), (o_habits, .inr (4, [.ref o_habits_a])), (o_habits_a, .inl (cI, 6, .inl o_habits_f)), (a1_habits, .inr (4, [.ref a1_habits_a])), (a1_habits_a, .inl (cI, 6, .inl a1_habits_f))] sz) t) (va_A [(a1, .inr (3, [.int a1_steps, .int a1_mile, .int a1_walkers, .int a1_walked, .ref a1_hard, .ref a1_kinds, .ref a1_habits])), (o, .inr (3, [.int o_steps, .int o_mile, .int o_walkers, .int o_walked, .ref o_hard, .ref o_kinds, .ref o_habits])), (o_hard, .inr (4, [.ref o_hard_a])), (o_hard_a, .inl (cI, 21, .inl o_hard_f)), (a1_hard, .inr (4, [.ref a1_hard_a])), (a1_hard_a, .inl (cI, 21, .inl a1_hard_f)), (o_kinds, .inr (4, [.ref o_kinds_a])), (o_kinds_a, .inl (cI, 6, .inl o_kinds_f)), (a1_kinds, .inr (4, [.ref a1_kinds_a])), (a1_kinds_a, .inl (cI, 6, .inl a1_kinds_f)), (o_habits, .inr (4, [.ref o_habits_a])), (o_habits_a, .inl (cI, 6, .inl o_habits_f)), (a1_habits, .inr (4, [.ref a1_habits_a])), (a1_habits_a, .inl (cI, 6, .inl a1_habits_f))] sz)) 0 0 (va_A [(a1, .inr (3, [.int a1_steps, .int a1_mile, .int a1_walkers, .int a1_walked, .ref a1_hard, .ref a1_kinds, .ref a1_habits])), (o, .inr (3, [.int o_steps, .int o_mile, .int o_walkers, .int o_walked, .ref o_hard, .ref o_kinds, .ref o_habits])), (o_hard, .inr (4, [.ref o_hard_a])), (o_hard_a, .inl (cI, 21, .inl o_hard_f)), (a1_hard, .inr (4, [.ref a1_hard_a])), (a1_hard_a, .inl (cI, 21, .inl a1_hard_f)), (o_kinds, .inr (4, [.ref o_kinds_a])), (o_kinds_a, .inl (cI, 6, .inl o_kinds_f)), (a1_kinds, .inr (4, [.ref a1_kinds_a])), (a1_kinds_a, .inl (cI, 6, .inl a1_kinds_f)), (o_habits, .inr (4, [.ref o_habits_a])), (o_habits_a, .inl (cI, 6, .inl o_habits_f)), (a1_habits, .inr (4, [.ref a1_habits_a])), (a1_habits_a, .inl (cI, 6, .inl a1_habits_f))] sz) := by
  refine Met.ofW (cc := cX3_take) (maxL := 2) (ret := none) (by decide) rfl ?_
  intro p e s m args below meth c s₁ B hml hv
  obtain ⟨hargs, hsz, hP, hK, hD0, hE⟩ := hv
  subst hargs
  have hx := B.exec
  have hb := B.bytes
  have hr := B.returns
  have hts := atoms_spec (ws := wsX3_take) B.pre
  have hown : s.vm.findClass RX3 = some m.cls := findClass_of_methodNamed B.named
  have hlocks := B.notSynchronized
  subst hsz
  have hD := hD0.self (sz := s.heap.size)
  generalize hAe : va_A [(a1, .inr (3, [.int a1_steps, .int a1_mile, .int a1_walkers, .int a1_walked, .ref a1_hard, .ref a1_kinds, .ref a1_habits])), (o, .inr (3, [.int o_steps, .int o_mile, .int o_walkers, .int o_walked, .ref o_hard, .ref o_kinds, .ref o_habits])), (o_hard, .inr (4, [.ref o_hard_a])), (o_hard_a, .inl (cI, 21, .inl o_hard_f)), (a1_hard, .inr (4, [.ref a1_hard_a])), (a1_hard_a, .inl (cI, 21, .inl a1_hard_f)), (o_kinds, .inr (4, [.ref o_kinds_a])), (o_kinds_a, .inl (cI, 6, .inl o_kinds_f)), (a1_kinds, .inr (4, [.ref a1_kinds_a])), (a1_kinds_a, .inl (cI, 6, .inl a1_kinds_f)), (o_habits, .inr (4, [.ref o_habits_a])), (o_habits_a, .inl (cI, 6, .inl o_habits_f)), (a1_habits, .inr (4, [.ref a1_habits_a])), (a1_habits_a, .inl (cI, 6, .inl a1_habits_f))] s.heap.size = A at hD ⊢
  have hA : ∀ q : Nat, s.heap.size ≤ q → A q := fun q h => by rw [← hAe]; exact Or.inr h
  have hS : va_S A s.heap s.heap [] := va_S.rf
  have hl := lv_entry ([.ref o, .ref a1]) (n := 2) (Nat.le_of_ble_eq_true rfl)
  rw [lg_entry_eq]
  generalize (lg_sl ([.ref o, .ref a1]) ++ List.replicate (2 - (lg_sl ([.ref o, .ref a1])).length) Slot.unset).toArray = ls at hl ⊢
  have hl : lv_has ls 2 [(0, .ref o), (1, .ref a1)] := hl
  refine wq (X := fun Q => ∀ (pc : Nat) (H : Heap) (locs : List Loc) (ls : Array Slot) (u : (Nat → Int32) × (Nat → Int32) × (Nat → Int32)) (hd : decode cX3_take pc = .ok (.return_, 1)) (hp : u = fX3_take o_hard_f a1_hard_f o_kinds_f a1_kinds_f o_habits_f a1_habits_f) (hP : va_P D vwCl [(a1, .inr (3, [.int a1_steps, .int a1_mile, .int a1_walkers, .int a1_walked, .ref a1_hard, .ref a1_kinds, .ref a1_habits])), (o, .inr (3, [.int a1_steps, .int a1_mile, .int a1_walkers, .int a1_walked, .ref o_hard, .ref o_kinds, .ref o_habits])), (o_hard, .inr (4, [.ref o_hard_a])), (o_hard_a, .inl (cI, 21, .inl u.1)), (a1_hard, .inr (4, [.ref a1_hard_a])), (a1_hard_a, .inl (cI, 21, .inl a1_hard_f)), (o_kinds, .inr (4, [.ref o_kinds_a])), (o_kinds_a, .inl (cI, 6, .inl u.2.1)), (a1_kinds, .inr (4, [.ref a1_kinds_a])), (a1_kinds_a, .inl (cI, 6, .inl a1_kinds_f)), (o_habits, .inr (4, [.ref o_habits_a])), (o_habits_a, .inl (cI, 6, .inl u.2.2)), (a1_habits, .inr (4, [.ref a1_habits_a])), (a1_habits_a, .inl (cI, 6, .inl a1_habits_f))] H) (hD : va_D A [(a1, .inr (3, [.int a1_steps, .int a1_mile, .int a1_walkers, .int a1_walked, .ref a1_hard, .ref a1_kinds, .ref a1_habits])), (o, .inr (3, [.int a1_steps, .int a1_mile, .int a1_walkers, .int a1_walked, .ref o_hard, .ref o_kinds, .ref o_habits])), (o_hard, .inr (4, [.ref o_hard_a])), (o_hard_a, .inl (cI, 21, .inl u.1)), (a1_hard, .inr (4, [.ref a1_hard_a])), (a1_hard_a, .inl (cI, 21, .inl a1_hard_f)), (o_kinds, .inr (4, [.ref o_kinds_a])), (o_kinds_a, .inl (cI, 6, .inl u.2.1)), (a1_kinds, .inr (4, [.ref a1_kinds_a])), (a1_kinds_a, .inl (cI, 6, .inl a1_kinds_f)), (o_habits, .inr (4, [.ref o_habits_a])), (o_habits_a, .inl (cI, 6, .inl u.2.2)), (a1_habits, .inr (4, [.ref a1_habits_a])), (a1_habits_a, .inl (cI, 6, .inl a1_habits_f))]) (hS : va_S A s.heap H locs), W p l e ({ frames := 2, cells := 0, slots := 0, locals := 43 } : Room) s m ([.ref o, .ref a1] : List Value).toArray below meth c H locs 0 0 Q (F0 m pc ls [])) ?_ (fun Q hret => ?_)
  · intro pc H locs ls u hd hp hP hD hS
    exact W.vret hx hb hr (fun t ht hW => ⟨⟨u, rfl, hp, by rw [ht]; exact hP, va_K.moved hW.alike hK, hD⟩, hS.F ht⟩) hS.2.2 hd
  have hin_3 : ∀ w ∈ u_ws RX3 TX3 7, w ∈ wsX3_take := by decide +kernel
  have fl_14 := hts (.fieldLink RX3 14 "MileRoad$Road" "hard" "LMileRoad$Row;") (by decide +kernel)
  have fl_20 := hts (.fieldLink RX3 20 "MileRoad$Road" "kinds" "LMileRoad$Row;") (by decide +kernel)
  have fl_23 := hts (.fieldLink RX3 23 "MileRoad$Road" "habits" "LMileRoad$Row;") (by decide +kernel)
  have fl_29 := hts (.fieldLink RX3 29 "MileRoad$Road" "steps" "I") (by decide +kernel)
  have fl_33 := hts (.fieldLink RX3 33 "MileRoad$Road" "mile" "I") (by decide +kernel)
  have fl_47 := hts (.fieldLink RX3 47 "MileRoad$Road" "walkers" "I") (by decide +kernel)
  have fl_50 := hts (.fieldLink RX3 50 "MileRoad$Road" "walked" "I") (by decide +kernel)
  have hF : fX3_take o_hard_f a1_hard_f o_kinds_f a1_kinds_f o_habits_f a1_habits_f = fX3_take o_hard_f a1_hard_f o_kinds_f a1_kinds_f o_habits_f a1_habits_f := rfl
  refine lv_aload_n hx hb dX3_take_0 rfl (lv_at hl 0 rfl) ?_
  refine lv_aload_n hx hb dX3_take_1 rfl (lv_at hl 1 rfl) ?_
  refine xget hx hb hts hown hK 3 (C2 := RX3) (T := TX3) (N := 7) rfl hin_3 hP 0 rfl 0 (by decide) fl_29 rfl rfl rfl dX3_take_2 ?_
  refine xput hx hb hts hown hK 3 (C2 := RX3) (T := TX3) (N := 7) tyX3 rfl tyX3_ok nmX3 hin_3 hP hD hS 1 rfl 0 (by decide) fl_29 rfl rfl rfl rfl rfl (Nat.le_of_ble_eq_true rfl) dX3_take_5 [(a1, .inr (3, [.int a1_steps, .int a1_mile, .int a1_walkers, .int a1_walked, .ref a1_hard, .ref a1_kinds, .ref a1_habits])), (o, .inr (3, [.int a1_steps, .int o_mile, .int o_walkers, .int o_walked, .ref o_hard, .ref o_kinds, .ref o_habits])), (o_hard, .inr (4, [.ref o_hard_a])), (o_hard_a, .inl (cI, 21, .inl o_hard_f)), (a1_hard, .inr (4, [.ref a1_hard_a])), (a1_hard_a, .inl (cI, 21, .inl a1_hard_f)), (o_kinds, .inr (4, [.ref o_kinds_a])), (o_kinds_a, .inl (cI, 6, .inl o_kinds_f)), (a1_kinds, .inr (4, [.ref a1_kinds_a])), (a1_kinds_a, .inl (cI, 6, .inl a1_kinds_f)), (o_habits, .inr (4, [.ref o_habits_a])), (o_habits_a, .inl (cI, 6, .inl o_habits_f)), (a1_habits, .inr (4, [.ref a1_habits_a])), (a1_habits_a, .inl (cI, 6, .inl a1_habits_f))] rfl (fun H locs hP hD hS => ?_)
  refine lv_aload_n hx hb dX3_take_8 rfl (lv_at hl 0 rfl) ?_
  refine lv_aload_n hx hb dX3_take_9 rfl (lv_at hl 1 rfl) ?_
  refine xget hx hb hts hown hK 3 (C2 := RX3) (T := TX3) (N := 7) rfl hin_3 hP 0 rfl 1 (by decide) fl_33 rfl rfl rfl dX3_take_10 ?_
  refine xput hx hb hts hown hK 3 (C2 := RX3) (T := TX3) (N := 7) tyX3 rfl tyX3_ok nmX3 hin_3 hP hD hS 1 rfl 1 (by decide) fl_33 rfl rfl rfl rfl rfl (Nat.le_of_ble_eq_true rfl) dX3_take_13 [(a1, .inr (3, [.int a1_steps, .int a1_mile, .int a1_walkers, .int a1_walked, .ref a1_hard, .ref a1_kinds, .ref a1_habits])), (o, .inr (3, [.int a1_steps, .int a1_mile, .int o_walkers, .int o_walked, .ref o_hard, .ref o_kinds, .ref o_habits])), (o_hard, .inr (4, [.ref o_hard_a])), (o_hard_a, .inl (cI, 21, .inl o_hard_f)), (a1_hard, .inr (4, [.ref a1_hard_a])), (a1_hard_a, .inl (cI, 21, .inl a1_hard_f)), (o_kinds, .inr (4, [.ref o_kinds_a])), (o_kinds_a, .inl (cI, 6, .inl o_kinds_f)), (a1_kinds, .inr (4, [.ref a1_kinds_a])), (a1_kinds_a, .inl (cI, 6, .inl a1_kinds_f)), (o_habits, .inr (4, [.ref o_habits_a])), (o_habits_a, .inl (cI, 6, .inl o_habits_f)), (a1_habits, .inr (4, [.ref a1_habits_a])), (a1_habits_a, .inl (cI, 6, .inl a1_habits_f))] rfl (fun H locs hP hD hS => ?_)
  refine lv_aload_n hx hb dX3_take_16 rfl (lv_at hl 0 rfl) ?_
  refine lv_aload_n hx hb dX3_take_17 rfl (lv_at hl 1 rfl) ?_
  refine xget hx hb hts hown hK 3 (C2 := RX3) (T := TX3) (N := 7) rfl hin_3 hP 0 rfl 2 (by decide) fl_47 rfl rfl rfl dX3_take_18 ?_
  refine xput hx hb hts hown hK 3 (C2 := RX3) (T := TX3) (N := 7) tyX3 rfl tyX3_ok nmX3 hin_3 hP hD hS 1 rfl 2 (by decide) fl_47 rfl rfl rfl rfl rfl (Nat.le_of_ble_eq_true rfl) dX3_take_21 [(a1, .inr (3, [.int a1_steps, .int a1_mile, .int a1_walkers, .int a1_walked, .ref a1_hard, .ref a1_kinds, .ref a1_habits])), (o, .inr (3, [.int a1_steps, .int a1_mile, .int a1_walkers, .int o_walked, .ref o_hard, .ref o_kinds, .ref o_habits])), (o_hard, .inr (4, [.ref o_hard_a])), (o_hard_a, .inl (cI, 21, .inl o_hard_f)), (a1_hard, .inr (4, [.ref a1_hard_a])), (a1_hard_a, .inl (cI, 21, .inl a1_hard_f)), (o_kinds, .inr (4, [.ref o_kinds_a])), (o_kinds_a, .inl (cI, 6, .inl o_kinds_f)), (a1_kinds, .inr (4, [.ref a1_kinds_a])), (a1_kinds_a, .inl (cI, 6, .inl a1_kinds_f)), (o_habits, .inr (4, [.ref o_habits_a])), (o_habits_a, .inl (cI, 6, .inl o_habits_f)), (a1_habits, .inr (4, [.ref a1_habits_a])), (a1_habits_a, .inl (cI, 6, .inl a1_habits_f))] rfl (fun H locs hP hD hS => ?_)
  refine lv_aload_n hx hb dX3_take_24 rfl (lv_at hl 0 rfl) ?_
  refine lv_aload_n hx hb dX3_take_25 rfl (lv_at hl 1 rfl) ?_
  refine xget hx hb hts hown hK 3 (C2 := RX3) (T := TX3) (N := 7) rfl hin_3 hP 0 rfl 3 (by decide) fl_50 rfl rfl rfl dX3_take_26 ?_
  refine xput hx hb hts hown hK 3 (C2 := RX3) (T := TX3) (N := 7) tyX3 rfl tyX3_ok nmX3 hin_3 hP hD hS 1 rfl 3 (by decide) fl_50 rfl rfl rfl rfl rfl (Nat.le_of_ble_eq_true rfl) dX3_take_29 [(a1, .inr (3, [.int a1_steps, .int a1_mile, .int a1_walkers, .int a1_walked, .ref a1_hard, .ref a1_kinds, .ref a1_habits])), (o, .inr (3, [.int a1_steps, .int a1_mile, .int a1_walkers, .int a1_walked, .ref o_hard, .ref o_kinds, .ref o_habits])), (o_hard, .inr (4, [.ref o_hard_a])), (o_hard_a, .inl (cI, 21, .inl o_hard_f)), (a1_hard, .inr (4, [.ref a1_hard_a])), (a1_hard_a, .inl (cI, 21, .inl a1_hard_f)), (o_kinds, .inr (4, [.ref o_kinds_a])), (o_kinds_a, .inl (cI, 6, .inl o_kinds_f)), (a1_kinds, .inr (4, [.ref a1_kinds_a])), (a1_kinds_a, .inl (cI, 6, .inl a1_kinds_f)), (o_habits, .inr (4, [.ref o_habits_a])), (o_habits_a, .inl (cI, 6, .inl o_habits_f)), (a1_habits, .inr (4, [.ref a1_habits_a])), (a1_habits_a, .inl (cI, 6, .inl a1_habits_f))] rfl (fun H locs hP hD hS => ?_)
  refine lv_aload_n hx hb dX3_take_32 rfl (lv_at hl 0 rfl) ?_
  refine xget hx hb hts hown hK 3 (C2 := RX3) (T := TX3) (N := 7) rfl hin_3 hP 1 rfl 4 (by decide) fl_14 rfl rfl rfl dX3_take_33 ?_
  refine lv_aload_n hx hb dX3_take_36 rfl (lv_at hl 1 rfl) ?_
  refine xget hx hb hts hown hK 3 (C2 := RX3) (T := TX3) (N := 7) rfl hin_3 hP 0 rfl 4 (by decide) fl_14 rfl rfl rfl dX3_take_37 ?_
  refine xcallv (S := (Nat → Int32)) (Wc := [(o_hard, .inr (4, [.ref o_hard_a])), (o_hard_a, .inl (cI, 21, .inl o_hard_f)), (a1_hard, .inr (4, [.ref a1_hard_a])), (a1_hard_a, .inl (cI, 21, .inl a1_hard_f))]) (wr := [(a1, .inr (3, [.int a1_steps, .int a1_mile, .int a1_walkers, .int a1_walked, .ref a1_hard, .ref a1_kinds, .ref a1_habits])), (o, .inr (3, [.int a1_steps, .int a1_mile, .int a1_walkers, .int a1_walked, .ref o_hard, .ref o_kinds, .ref o_habits])), (o_kinds, .inr (4, [.ref o_kinds_a])), (o_kinds_a, .inl (cI, 6, .inl o_kinds_f)), (a1_kinds, .inr (4, [.ref a1_kinds_a])), (a1_kinds_a, .inl (cI, 6, .inl a1_kinds_f)), (o_habits, .inr (4, [.ref o_habits_a])), (o_habits_a, .inl (cI, 6, .inl o_habits_f)), (a1_habits, .inr (4, [.ref a1_habits_a])), (a1_habits_a, .inl (cI, 6, .inl a1_habits_f))]) (W1 := (fun (u : (Nat → Int32)) => [(o_hard, .inr (4, [.ref o_hard_a])), (o_hard_a, .inl (cI, 21, .inl u)), (a1_hard, .inr (4, [.ref a1_hard_a])), (a1_hard_a, .inl (cI, 21, .inl a1_hard_f))])) (Wn := (fun (u : (Nat → Int32)) => [(a1, .inr (3, [.int a1_steps, .int a1_mile, .int a1_walkers, .int a1_walked, .ref a1_hard, .ref a1_kinds, .ref a1_habits])), (o, .inr (3, [.int a1_steps, .int a1_mile, .int a1_walkers, .int a1_walked, .ref o_hard, .ref o_kinds, .ref o_habits])), (o_hard, .inr (4, [.ref o_hard_a])), (o_hard_a, .inl (cI, 21, .inl u)), (a1_hard, .inr (4, [.ref a1_hard_a])), (a1_hard_a, .inl (cI, 21, .inl a1_hard_f)), (o_kinds, .inr (4, [.ref o_kinds_a])), (o_kinds_a, .inl (cI, 6, .inl o_kinds_f)), (a1_kinds, .inr (4, [.ref a1_kinds_a])), (a1_kinds_a, .inl (cI, 6, .inl a1_kinds_f)), (o_habits, .inr (4, [.ref o_habits_a])), (o_habits_a, .inl (cI, 6, .inl o_habits_f)), (a1_habits, .inr (4, [.ref a1_habits_a])), (a1_habits_a, .inl (cI, 6, .inl a1_habits_f))])) (xrunV hx hb hml hown hts (c_X4_take l D cI cZ _ o_hard a1_hard o_hard_a o_hard_f 21 a1_hard_a a1_hard_f 21 (by decide) (by decide)) (cwV 1 hts gX3_take_X4_take rfl rfl rfl (by decide +kernel) ⟨Nat.le_of_ble_eq_true rfl, Nat.le_of_ble_eq_true rfl⟩) hE hK hP hD [2, 3, 4, 5] rfl rfl 0 4 (T := TX4) (N := 1) rfl rfl rfl hl.1 rfl (Nat.le_of_ble_eq_true rfl) dX3_take_40 ⟨Nat.le_of_ble_eq_true rfl, Nat.le_of_ble_eq_true rfl⟩) hP hD hS hA [2, 3, 4, 5] [0, 1, 6, 7, 8, 9, 10, 11, 12, 13] [0, 1, 10, 11, 12, 13, 2, 3, 4, 5, 6, 7, 8, 9] rfl rfl rfl (by decide) (fun _ => rfl) rfl (fun  u H locs hw hz hP hD hS => ?_)
  obtain ⟨u1, hu⟩ : ∃ z, z = u := ⟨u, rfl⟩
  subst hu
  have hw_1 := hw.symm
  have hP : va_P D vwCl [(a1, .inr (3, [.int a1_steps, .int a1_mile, .int a1_walkers, .int a1_walked, .ref a1_hard, .ref a1_kinds, .ref a1_habits])), (o, .inr (3, [.int a1_steps, .int a1_mile, .int a1_walkers, .int a1_walked, .ref o_hard, .ref o_kinds, .ref o_habits])), (o_hard, .inr (4, [.ref o_hard_a])), (o_hard_a, .inl (cI, 21, .inl u1)), (a1_hard, .inr (4, [.ref a1_hard_a])), (a1_hard_a, .inl (cI, 21, .inl a1_hard_f)), (o_kinds, .inr (4, [.ref o_kinds_a])), (o_kinds_a, .inl (cI, 6, .inl o_kinds_f)), (a1_kinds, .inr (4, [.ref a1_kinds_a])), (a1_kinds_a, .inl (cI, 6, .inl a1_kinds_f)), (o_habits, .inr (4, [.ref o_habits_a])), (o_habits_a, .inl (cI, 6, .inl o_habits_f)), (a1_habits, .inr (4, [.ref a1_habits_a])), (a1_habits_a, .inl (cI, 6, .inl a1_habits_f))] H := hP
  have hD : va_D A [(a1, .inr (3, [.int a1_steps, .int a1_mile, .int a1_walkers, .int a1_walked, .ref a1_hard, .ref a1_kinds, .ref a1_habits])), (o, .inr (3, [.int a1_steps, .int a1_mile, .int a1_walkers, .int a1_walked, .ref o_hard, .ref o_kinds, .ref o_habits])), (o_hard, .inr (4, [.ref o_hard_a])), (o_hard_a, .inl (cI, 21, .inl u1)), (a1_hard, .inr (4, [.ref a1_hard_a])), (a1_hard_a, .inl (cI, 21, .inl a1_hard_f)), (o_kinds, .inr (4, [.ref o_kinds_a])), (o_kinds_a, .inl (cI, 6, .inl o_kinds_f)), (a1_kinds, .inr (4, [.ref a1_kinds_a])), (a1_kinds_a, .inl (cI, 6, .inl a1_kinds_f)), (o_habits, .inr (4, [.ref o_habits_a])), (o_habits_a, .inl (cI, 6, .inl o_habits_f)), (a1_habits, .inr (4, [.ref a1_habits_a])), (a1_habits_a, .inl (cI, 6, .inl a1_habits_f))] := hD
  refine lv_aload_n hx hb dX3_take_43 rfl (lv_at hl 0 rfl) ?_
  refine xget hx hb hts hown hK 3 (C2 := RX3) (T := TX3) (N := 7) rfl hin_3 hP 1 rfl 5 (by decide) fl_20 rfl rfl rfl dX3_take_44 ?_
  refine lv_aload_n hx hb dX3_take_47 rfl (lv_at hl 1 rfl) ?_
  refine xget hx hb hts hown hK 3 (C2 := RX3) (T := TX3) (N := 7) rfl hin_3 hP 0 rfl 5 (by decide) fl_20 rfl rfl rfl dX3_take_48 ?_
  refine xcallv (S := (Nat → Int32)) (Wc := [(o_kinds, .inr (4, [.ref o_kinds_a])), (o_kinds_a, .inl (cI, 6, .inl o_kinds_f)), (a1_kinds, .inr (4, [.ref a1_kinds_a])), (a1_kinds_a, .inl (cI, 6, .inl a1_kinds_f))]) (wr := [(a1, .inr (3, [.int a1_steps, .int a1_mile, .int a1_walkers, .int a1_walked, .ref a1_hard, .ref a1_kinds, .ref a1_habits])), (o, .inr (3, [.int a1_steps, .int a1_mile, .int a1_walkers, .int a1_walked, .ref o_hard, .ref o_kinds, .ref o_habits])), (o_hard, .inr (4, [.ref o_hard_a])), (o_hard_a, .inl (cI, 21, .inl u1)), (a1_hard, .inr (4, [.ref a1_hard_a])), (a1_hard_a, .inl (cI, 21, .inl a1_hard_f)), (o_habits, .inr (4, [.ref o_habits_a])), (o_habits_a, .inl (cI, 6, .inl o_habits_f)), (a1_habits, .inr (4, [.ref a1_habits_a])), (a1_habits_a, .inl (cI, 6, .inl a1_habits_f))]) (W1 := (fun (u : (Nat → Int32)) => [(o_kinds, .inr (4, [.ref o_kinds_a])), (o_kinds_a, .inl (cI, 6, .inl u)), (a1_kinds, .inr (4, [.ref a1_kinds_a])), (a1_kinds_a, .inl (cI, 6, .inl a1_kinds_f))])) (Wn := (fun (u : (Nat → Int32)) => [(a1, .inr (3, [.int a1_steps, .int a1_mile, .int a1_walkers, .int a1_walked, .ref a1_hard, .ref a1_kinds, .ref a1_habits])), (o, .inr (3, [.int a1_steps, .int a1_mile, .int a1_walkers, .int a1_walked, .ref o_hard, .ref o_kinds, .ref o_habits])), (o_hard, .inr (4, [.ref o_hard_a])), (o_hard_a, .inl (cI, 21, .inl u1)), (a1_hard, .inr (4, [.ref a1_hard_a])), (a1_hard_a, .inl (cI, 21, .inl a1_hard_f)), (o_kinds, .inr (4, [.ref o_kinds_a])), (o_kinds_a, .inl (cI, 6, .inl u)), (a1_kinds, .inr (4, [.ref a1_kinds_a])), (a1_kinds_a, .inl (cI, 6, .inl a1_kinds_f)), (o_habits, .inr (4, [.ref o_habits_a])), (o_habits_a, .inl (cI, 6, .inl o_habits_f)), (a1_habits, .inr (4, [.ref a1_habits_a])), (a1_habits_a, .inl (cI, 6, .inl a1_habits_f))])) (xrunV hx hb hml hown hts (c_X4_take l D cI cZ _ o_kinds a1_kinds o_kinds_a o_kinds_f 6 a1_kinds_a a1_kinds_f 6 (by decide) (by decide)) (cwV 1 hts gX3_take_X4_take rfl rfl rfl (by decide +kernel) ⟨Nat.le_of_ble_eq_true rfl, Nat.le_of_ble_eq_true rfl⟩) hE hK hP hD [6, 7, 8, 9] rfl rfl 0 4 (T := TX4) (N := 1) rfl rfl rfl hl.1 rfl (Nat.le_of_ble_eq_true rfl) dX3_take_51 ⟨Nat.le_of_ble_eq_true rfl, Nat.le_of_ble_eq_true rfl⟩) hP hD hS hA [6, 7, 8, 9] [0, 1, 2, 3, 4, 5, 10, 11, 12, 13] [0, 1, 2, 3, 4, 5, 10, 11, 12, 13, 6, 7, 8, 9] rfl rfl rfl (by decide) (fun _ => rfl) rfl (fun  u H locs hw hz hP hD hS => ?_)
  obtain ⟨u2, hu⟩ : ∃ z, z = u := ⟨u, rfl⟩
  subst hu
  have hw_2 := hw.symm
  have hP : va_P D vwCl [(a1, .inr (3, [.int a1_steps, .int a1_mile, .int a1_walkers, .int a1_walked, .ref a1_hard, .ref a1_kinds, .ref a1_habits])), (o, .inr (3, [.int a1_steps, .int a1_mile, .int a1_walkers, .int a1_walked, .ref o_hard, .ref o_kinds, .ref o_habits])), (o_hard, .inr (4, [.ref o_hard_a])), (o_hard_a, .inl (cI, 21, .inl u1)), (a1_hard, .inr (4, [.ref a1_hard_a])), (a1_hard_a, .inl (cI, 21, .inl a1_hard_f)), (o_kinds, .inr (4, [.ref o_kinds_a])), (o_kinds_a, .inl (cI, 6, .inl u2)), (a1_kinds, .inr (4, [.ref a1_kinds_a])), (a1_kinds_a, .inl (cI, 6, .inl a1_kinds_f)), (o_habits, .inr (4, [.ref o_habits_a])), (o_habits_a, .inl (cI, 6, .inl o_habits_f)), (a1_habits, .inr (4, [.ref a1_habits_a])), (a1_habits_a, .inl (cI, 6, .inl a1_habits_f))] H := hP
  have hD : va_D A [(a1, .inr (3, [.int a1_steps, .int a1_mile, .int a1_walkers, .int a1_walked, .ref a1_hard, .ref a1_kinds, .ref a1_habits])), (o, .inr (3, [.int a1_steps, .int a1_mile, .int a1_walkers, .int a1_walked, .ref o_hard, .ref o_kinds, .ref o_habits])), (o_hard, .inr (4, [.ref o_hard_a])), (o_hard_a, .inl (cI, 21, .inl u1)), (a1_hard, .inr (4, [.ref a1_hard_a])), (a1_hard_a, .inl (cI, 21, .inl a1_hard_f)), (o_kinds, .inr (4, [.ref o_kinds_a])), (o_kinds_a, .inl (cI, 6, .inl u2)), (a1_kinds, .inr (4, [.ref a1_kinds_a])), (a1_kinds_a, .inl (cI, 6, .inl a1_kinds_f)), (o_habits, .inr (4, [.ref o_habits_a])), (o_habits_a, .inl (cI, 6, .inl o_habits_f)), (a1_habits, .inr (4, [.ref a1_habits_a])), (a1_habits_a, .inl (cI, 6, .inl a1_habits_f))] := hD
  refine lv_aload_n hx hb dX3_take_54 rfl (lv_at hl 0 rfl) ?_
  refine xget hx hb hts hown hK 3 (C2 := RX3) (T := TX3) (N := 7) rfl hin_3 hP 1 rfl 6 (by decide) fl_23 rfl rfl rfl dX3_take_55 ?_
  refine lv_aload_n hx hb dX3_take_58 rfl (lv_at hl 1 rfl) ?_
  refine xget hx hb hts hown hK 3 (C2 := RX3) (T := TX3) (N := 7) rfl hin_3 hP 0 rfl 6 (by decide) fl_23 rfl rfl rfl dX3_take_59 ?_
  refine xcallv (S := (Nat → Int32)) (Wc := [(o_habits, .inr (4, [.ref o_habits_a])), (o_habits_a, .inl (cI, 6, .inl o_habits_f)), (a1_habits, .inr (4, [.ref a1_habits_a])), (a1_habits_a, .inl (cI, 6, .inl a1_habits_f))]) (wr := [(a1, .inr (3, [.int a1_steps, .int a1_mile, .int a1_walkers, .int a1_walked, .ref a1_hard, .ref a1_kinds, .ref a1_habits])), (o, .inr (3, [.int a1_steps, .int a1_mile, .int a1_walkers, .int a1_walked, .ref o_hard, .ref o_kinds, .ref o_habits])), (o_hard, .inr (4, [.ref o_hard_a])), (o_hard_a, .inl (cI, 21, .inl u1)), (a1_hard, .inr (4, [.ref a1_hard_a])), (a1_hard_a, .inl (cI, 21, .inl a1_hard_f)), (o_kinds, .inr (4, [.ref o_kinds_a])), (o_kinds_a, .inl (cI, 6, .inl u2)), (a1_kinds, .inr (4, [.ref a1_kinds_a])), (a1_kinds_a, .inl (cI, 6, .inl a1_kinds_f))]) (W1 := (fun (u : (Nat → Int32)) => [(o_habits, .inr (4, [.ref o_habits_a])), (o_habits_a, .inl (cI, 6, .inl u)), (a1_habits, .inr (4, [.ref a1_habits_a])), (a1_habits_a, .inl (cI, 6, .inl a1_habits_f))])) (Wn := (fun (u : (Nat → Int32)) => [(a1, .inr (3, [.int a1_steps, .int a1_mile, .int a1_walkers, .int a1_walked, .ref a1_hard, .ref a1_kinds, .ref a1_habits])), (o, .inr (3, [.int a1_steps, .int a1_mile, .int a1_walkers, .int a1_walked, .ref o_hard, .ref o_kinds, .ref o_habits])), (o_hard, .inr (4, [.ref o_hard_a])), (o_hard_a, .inl (cI, 21, .inl u1)), (a1_hard, .inr (4, [.ref a1_hard_a])), (a1_hard_a, .inl (cI, 21, .inl a1_hard_f)), (o_kinds, .inr (4, [.ref o_kinds_a])), (o_kinds_a, .inl (cI, 6, .inl u2)), (a1_kinds, .inr (4, [.ref a1_kinds_a])), (a1_kinds_a, .inl (cI, 6, .inl a1_kinds_f)), (o_habits, .inr (4, [.ref o_habits_a])), (o_habits_a, .inl (cI, 6, .inl u)), (a1_habits, .inr (4, [.ref a1_habits_a])), (a1_habits_a, .inl (cI, 6, .inl a1_habits_f))])) (xrunV hx hb hml hown hts (c_X4_take l D cI cZ _ o_habits a1_habits o_habits_a o_habits_f 6 a1_habits_a a1_habits_f 6 (by decide) (by decide)) (cwV 1 hts gX3_take_X4_take rfl rfl rfl (by decide +kernel) ⟨Nat.le_of_ble_eq_true rfl, Nat.le_of_ble_eq_true rfl⟩) hE hK hP hD [10, 11, 12, 13] rfl rfl 0 4 (T := TX4) (N := 1) rfl rfl rfl hl.1 rfl (Nat.le_of_ble_eq_true rfl) dX3_take_62 ⟨Nat.le_of_ble_eq_true rfl, Nat.le_of_ble_eq_true rfl⟩) hP hD hS hA [10, 11, 12, 13] [0, 1, 2, 3, 4, 5, 6, 7, 8, 9] [0, 1, 2, 3, 4, 5, 6, 7, 8, 9, 10, 11, 12, 13] rfl rfl rfl (by decide) (fun _ => rfl) rfl (fun  u H locs hw hz hP hD hS => ?_)
  obtain ⟨u3, hu⟩ : ∃ z, z = u := ⟨u, rfl⟩
  subst hu
  have hw_3 := hw.symm
  have hP : va_P D vwCl [(a1, .inr (3, [.int a1_steps, .int a1_mile, .int a1_walkers, .int a1_walked, .ref a1_hard, .ref a1_kinds, .ref a1_habits])), (o, .inr (3, [.int a1_steps, .int a1_mile, .int a1_walkers, .int a1_walked, .ref o_hard, .ref o_kinds, .ref o_habits])), (o_hard, .inr (4, [.ref o_hard_a])), (o_hard_a, .inl (cI, 21, .inl u1)), (a1_hard, .inr (4, [.ref a1_hard_a])), (a1_hard_a, .inl (cI, 21, .inl a1_hard_f)), (o_kinds, .inr (4, [.ref o_kinds_a])), (o_kinds_a, .inl (cI, 6, .inl u2)), (a1_kinds, .inr (4, [.ref a1_kinds_a])), (a1_kinds_a, .inl (cI, 6, .inl a1_kinds_f)), (o_habits, .inr (4, [.ref o_habits_a])), (o_habits_a, .inl (cI, 6, .inl u3)), (a1_habits, .inr (4, [.ref a1_habits_a])), (a1_habits_a, .inl (cI, 6, .inl a1_habits_f))] H := hP
  have hD : va_D A [(a1, .inr (3, [.int a1_steps, .int a1_mile, .int a1_walkers, .int a1_walked, .ref a1_hard, .ref a1_kinds, .ref a1_habits])), (o, .inr (3, [.int a1_steps, .int a1_mile, .int a1_walkers, .int a1_walked, .ref o_hard, .ref o_kinds, .ref o_habits])), (o_hard, .inr (4, [.ref o_hard_a])), (o_hard_a, .inl (cI, 21, .inl u1)), (a1_hard, .inr (4, [.ref a1_hard_a])), (a1_hard_a, .inl (cI, 21, .inl a1_hard_f)), (o_kinds, .inr (4, [.ref o_kinds_a])), (o_kinds_a, .inl (cI, 6, .inl u2)), (a1_kinds, .inr (4, [.ref a1_kinds_a])), (a1_kinds_a, .inl (cI, 6, .inl a1_kinds_f)), (o_habits, .inr (4, [.ref o_habits_a])), (o_habits_a, .inl (cI, 6, .inl u3)), (a1_habits, .inr (4, [.ref a1_habits_a])), (a1_habits_a, .inl (cI, 6, .inl a1_habits_f))] := hD
  exact hret _ _ _ _ (u1, u2, u3) dX3_take_65 ((hF.trans (by simp only [fX3_take, xlet, ↓hw_1, ↓hw_2, ↓hw_3])).symm) hP hD hS
set_option maxRecDepth 20000 in
theorem ggX3_allHard_X4_at : GoodIn wsX3_allHard wsX4_at := goodIn_r _ [7, 8, 16] (by decide +kernel) (by decide +kernel)
set_option maxRecDepth 20000 in
theorem gX3_allHard_X4_at : GoodIn wsX3_allHard (wsV RX3 61 RX4 yX4_at wsX4_at) := goodIn_app (goodIn_of _ (by decide +kernel)) ggX3_allHard_X4_at
theorem dX3_allHard_0 : decode cX3_allHard 0 = .ok (.iconst 0, 1) := by decide +kernel
theorem dX3_allHard_1 : decode cX3_allHard 1 = .ok (.istore_n 1, 1) := by decide +kernel
theorem dX3_allHard_2 : decode cX3_allHard 2 = .ok (.iconst 1, 1) := by decide +kernel
theorem dX3_allHard_3 : decode cX3_allHard 3 = .ok (.istore_n 2, 1) := by decide +kernel
theorem dX3_allHard_4 : decode cX3_allHard 4 = .ok (.iload_n 2, 1) := by decide +kernel
theorem dX3_allHard_5 : decode cX3_allHard 5 = .ok (.aload_n 0, 1) := by decide +kernel
theorem dX3_allHard_6 : decode cX3_allHard 6 = .ok (.getfield 29, 3) := by decide +kernel
theorem dX3_allHard_9 : decode cX3_allHard 9 = .ok (.if_icmp .gt 20, 3) := by decide +kernel
theorem dX3_allHard_12 : decode cX3_allHard 12 = .ok (.iload_n 1, 1) := by decide +kernel
theorem dX3_allHard_13 : decode cX3_allHard 13 = .ok (.aload_n 0, 1) := by decide +kernel
theorem dX3_allHard_14 : decode cX3_allHard 14 = .ok (.getfield 14, 3) := by decide +kernel
theorem dX3_allHard_17 : decode cX3_allHard 17 = .ok (.iload_n 2, 1) := by decide +kernel
theorem dX3_allHard_18 : decode cX3_allHard 18 = .ok (.invokevirtual 61, 3) := by decide +kernel
theorem dX3_allHard_21 : decode cX3_allHard 21 = .ok (.iadd, 1) := by decide +kernel
theorem dX3_allHard_22 : decode cX3_allHard 22 = .ok (.istore_n 1, 1) := by decide +kernel
theorem dX3_allHard_23 : decode cX3_allHard 23 = .ok (.iinc 2 1, 3) := by decide +kernel
theorem dX3_allHard_26 : decode cX3_allHard 26 = .ok (.goto (-22), 3) := by decide +kernel
theorem dX3_allHard_29 : decode cX3_allHard 29 = .ok (.iload_n 1, 1) := by decide +kernel
theorem dX3_allHard_30 : decode cX3_allHard 30 = .ok (.ireturn, 1) := by decide +kernel
def fX3_allHard_4 (o_steps : Int32) (o_hard_f : Nat → Int32)  : Nat → Int32 → Int32 → Int32
  | 0, _, _ => default
  | n + 1, v4_1, v4_2 => if o_steps < v4_2 then v4_1 else (fX3_allHard_4 o_steps o_hard_f n (v4_1 + (fX4_at v4_2 o_hard_f 21)) (v4_2 + 1))
def fX3_allHard (o_steps : Int32) (o_hard_f : Nat → Int32) : Int32 := fX3_allHard_4 o_steps o_hard_f 1000 0 1
set_option maxHeartbeats 4000000 in
set_option maxRecDepth 100000 in
theorem c_X3_allHard (l : Launch) (D : va_G) (cI cZ : ClassId) (sz : Nat) (o : Nat) (o_steps : Int32) (o_mile : Int32) (o_walkers : Int32) (o_walked : Int32) (o_hard : Nat) (o_kinds : Nat) (o_habits : Nat) (o_hard_a : Nat) (o_hard_f : Nat → Int32) (hst : o_steps.toInt ≤ 20) : Met l yX3_allHard wsX3_allHard ({ frames := 1, cells := 0, slots := 0, locals := 21 } : Room) (va_Pc [.ref o] (xP D cI cZ [(o, .inr (3, [.int o_steps, .int o_mile, .int o_walkers, .int o_walked, .ref o_hard, .ref o_kinds, .ref o_habits])), (o_hard, .inr (4, [.ref o_hard_a])), (o_hard_a, .inl (cI, 21, .inl o_hard_f))] sz)) (va_Qi (fun (r : Int32) (u : Unit) => r = fX3_allHard o_steps o_hard_f) (fun (u : Unit) t => xB D cI cZ [(o, .inr (3, [.int o_steps, .int o_mile, .int o_walkers, .int o_walked, .ref o_hard, .ref o_kinds, .ref o_habits])), (o_hard, .inr (4, [.ref o_hard_a])), (o_hard_a, .inl (cI, 21, .inl o_hard_f))] (va_A [(o, .inr (3, [.int o_steps, .int o_mile, .int o_walkers, .int o_walked, .ref o_hard, .ref o_kinds, .ref o_habits])), (o_hard, .inr (4, [.ref o_hard_a])), (o_hard_a, .inl (cI, 21, .inl o_hard_f))] sz) t) (va_A [(o, .inr (3, [.int o_steps, .int o_mile, .int o_walkers, .int o_walked, .ref o_hard, .ref o_kinds, .ref o_habits])), (o_hard, .inr (4, [.ref o_hard_a])), (o_hard_a, .inl (cI, 21, .inl o_hard_f))] sz)) 0 0 (va_A [(o, .inr (3, [.int o_steps, .int o_mile, .int o_walkers, .int o_walked, .ref o_hard, .ref o_kinds, .ref o_habits])), (o_hard, .inr (4, [.ref o_hard_a])), (o_hard_a, .inl (cI, 21, .inl o_hard_f))] sz) := by
  refine Met.ofW (cc := cX3_allHard) (maxL := 3) (ret := (some .int)) (by decide) rfl ?_
  intro p e s m args below meth c s₁ B hml hv
  obtain ⟨hargs, hsz, hP, hK, hD0, hE⟩ := hv
  subst hargs
  have hx := B.exec
  have hb := B.bytes
  have hr := B.returns
  have hts := atoms_spec (ws := wsX3_allHard) B.pre
  have hown : s.vm.findClass RX3 = some m.cls := findClass_of_methodNamed B.named
  have hlocks := B.notSynchronized
  subst hsz
  have hD := hD0.self (sz := s.heap.size)
  generalize hAe : va_A [(o, .inr (3, [.int o_steps, .int o_mile, .int o_walkers, .int o_walked, .ref o_hard, .ref o_kinds, .ref o_habits])), (o_hard, .inr (4, [.ref o_hard_a])), (o_hard_a, .inl (cI, 21, .inl o_hard_f))] s.heap.size = A at hD ⊢
  have hA : ∀ q : Nat, s.heap.size ≤ q → A q := fun q h => by rw [← hAe]; exact Or.inr h
  have hS : va_S A s.heap s.heap [] := va_S.rf
  have hl := lv_entry ([.ref o]) (n := 3) (Nat.le_of_ble_eq_true rfl)
  rw [lg_entry_eq]
  generalize (lg_sl ([.ref o]) ++ List.replicate (3 - (lg_sl ([.ref o])).length) Slot.unset).toArray = ls at hl ⊢
  have hl : lv_has ls 3 [(0, .ref o)] := hl
  refine wq (X := fun Q => ∀ (pc : Nat) (H : Heap) (locs : List Loc) (ls : Array Slot) (r : Int32) (u : Unit) (hd : decode cX3_allHard pc = .ok (.ireturn, 1)) (hp : r = fX3_allHard o_steps o_hard_f) (hP : va_P D vwCl [(o, .inr (3, [.int o_steps, .int o_mile, .int o_walkers, .int o_walked, .ref o_hard, .ref o_kinds, .ref o_habits])), (o_hard, .inr (4, [.ref o_hard_a])), (o_hard_a, .inl (cI, 21, .inl o_hard_f))] H) (hD : va_D A [(o, .inr (3, [.int o_steps, .int o_mile, .int o_walkers, .int o_walked, .ref o_hard, .ref o_kinds, .ref o_habits])), (o_hard, .inr (4, [.ref o_hard_a])), (o_hard_a, .inl (cI, 21, .inl o_hard_f))]) (hS : va_S A s.heap H locs), W p l e ({ frames := 1, cells := 0, slots := 0, locals := 21 } : Room) s m ([.ref o] : List Value).toArray below meth c H locs 0 0 Q (F0 m pc ls [.int r])) ?_ (fun Q hret => ?_)
  · intro pc H locs ls r u hd hp hP hD hS
    exact W.iret (v := r) hx hb hr (fun t ht hW => ⟨⟨r, u, rfl, hp, by rw [ht]; exact hP, va_K.moved hW.alike hK, hD⟩, hS.F ht⟩) hS.2.2 hd
  have hin_3 : ∀ w ∈ u_ws RX3 TX3 7, w ∈ wsX3_allHard := by decide +kernel
  have fl_14 := hts (.fieldLink RX3 14 "MileRoad$Road" "hard" "LMileRoad$Row;") (by decide +kernel)
  have fl_29 := hts (.fieldLink RX3 29 "MileRoad$Road" "steps" "I") (by decide +kernel)
  have zl_1 : (1 : Int32).toInt = 1 := by decide
  have hF : fX3_allHard o_steps o_hard_f = fX3_allHard o_steps o_hard_f := rfl
  have L_4 : ∀ (n : Nat) (v4_1 : Int32) (v4_2 : Int32) (h1_4 : 1 ≤ v4_2.toInt) (h2_4 : v4_2.toInt ≤ 21) (hm : 21 - v4_2.toInt < (n : Int)) (H : Heap) (locs : List Loc) (ls : Array Slot) (hl : lv_has ls 3 [(0, .ref o), (1, .int v4_1), (2, .int v4_2)]) (hP : va_P D vwCl [(o, .inr (3, [.int o_steps, .int o_mile, .int o_walkers, .int o_walked, .ref o_hard, .ref o_kinds, .ref o_habits])), (o_hard, .inr (4, [.ref o_hard_a])), (o_hard_a, .inl (cI, 21, .inl o_hard_f))] H) (hD : va_D A [(o, .inr (3, [.int o_steps, .int o_mile, .int o_walkers, .int o_walked, .ref o_hard, .ref o_kinds, .ref o_habits])), (o_hard, .inr (4, [.ref o_hard_a])), (o_hard_a, .inl (cI, 21, .inl o_hard_f))]) (hS : va_S A s.heap H locs) (hF : fX3_allHard o_steps o_hard_f = fX3_allHard_4 o_steps o_hard_f n v4_1 v4_2), W p l e ({ frames := 1, cells := 0, slots := 0, locals := 21 } : Room) s m ([.ref o] : List Value).toArray below meth c H locs 0 0 Q (F0 m 4 ls []) := by
    intro n
    induction n with
    | zero =>
      intro v4_1 v4_2 h1_4 h2_4 hm H locs ls hl hP hD hS hF
      exact absurd hm (by omega)
    | succ n ih_4 =>
      intro v4_1 v4_2 h1_4 h2_4 hm H locs ls hl hP hD hS hF
      refine lv_iload_n hx hb dX3_allHard_4 rfl (lv_at hl 2 rfl) ?_
      refine lv_aload_n hx hb dX3_allHard_5 rfl (lv_at hl 0 rfl) ?_
      refine xget hx hb hts hown hK 3 (C2 := RX3) (T := TX3) (N := 7) rfl hin_3 hP 0 rfl 0 (by decide) fl_29 rfl rfl rfl dX3_allHard_6 ?_
      refine lv_icmp_gt (tgt := 29) hx hb dX3_allHard_9 (by decide) (fun c_1 => ?_) (fun c_1 => ?_)
      · have kc_1 := t_lt c_1
        refine lv_iload_n hx hb dX3_allHard_29 rfl (lv_at hl 1 rfl) ?_
        exact hret _ _ _ _ v4_1 () dX3_allHard_30 ((hF.trans (by simp only [fX3_allHard_4, xlet, if_pos c_1])).symm) hP hD hS
      · have kc_1 := t_nlt c_1
        refine lv_iload_n hx hb dX3_allHard_12 rfl (lv_at hl 1 rfl) ?_
        refine lv_aload_n hx hb dX3_allHard_13 rfl (lv_at hl 0 rfl) ?_
        refine xget hx hb hts hown hK 3 (C2 := RX3) (T := TX3) (N := 7) rfl hin_3 hP 0 rfl 4 (by decide) fl_14 rfl rfl rfl dX3_allHard_14 ?_
        refine lv_iload_n hx hb dX3_allHard_17 rfl (lv_at hl 2 rfl) ?_
        refine xcalli (S := Unit) (Wc := [(o_hard, .inr (4, [.ref o_hard_a])), (o_hard_a, .inl (cI, 21, .inl o_hard_f))]) (wr := [(o, .inr (3, [.int o_steps, .int o_mile, .int o_walkers, .int o_walked, .ref o_hard, .ref o_kinds, .ref o_habits]))]) (W1 := (fun (u : Unit) => [(o_hard, .inr (4, [.ref o_hard_a])), (o_hard_a, .inl (cI, 21, .inl o_hard_f))])) (Wn := (fun (u : Unit) => [(o, .inr (3, [.int o_steps, .int o_mile, .int o_walkers, .int o_walked, .ref o_hard, .ref o_kinds, .ref o_habits])), (o_hard, .inr (4, [.ref o_hard_a])), (o_hard_a, .inl (cI, 21, .inl o_hard_f))])) (xrunV hx hb hml hown hts (c_X4_at l D cI cZ _ o_hard v4_2 o_hard_a o_hard_f 21 (by decide)) (cwV 1 hts gX3_allHard_X4_at rfl rfl rfl (by decide +kernel) ⟨Nat.le_of_ble_eq_true rfl, Nat.le_of_ble_eq_true rfl⟩) hE hK hP hD [1, 2] rfl rfl 0 4 (T := TX4) (N := 1) rfl rfl rfl hl.1 rfl (Nat.le_of_ble_eq_true rfl) dX3_allHard_18 ⟨Nat.le_of_ble_eq_true rfl, Nat.le_of_ble_eq_true rfl⟩) hP hD hS hA [1, 2] [0] [0, 1, 2] rfl rfl rfl (by decide) (fun _ => rfl) rfl (fun r1 u H locs hw hz hP hD hS => ?_)
        subst hw
        refine lv_iadd hx hb dX3_allHard_21 ?_
        refine lv_istore_n (lv' := [(1, .int (v4_1 + (fX4_at v4_2 o_hard_f 21))), (0, .ref o), (2, .int v4_2)]) hx hb dX3_allHard_22 rfl hl (by decide) rfl (fun ls hl => ?_)
        refine lv_iinc (v := (v4_2 + 1)) (lv' := [(2, .int (v4_2 + 1)), (1, .int (v4_1 + (fX4_at v4_2 o_hard_f 21))), (0, .ref o)]) hx hb dX3_allHard_23 hl (k := 2) rfl (by rfl) (by decide) rfl (fun ls hl => ?_)
        refine lv_goto (tgt := 4) hx hb dX3_allHard_26 (by decide) ?_
        have z_1 : (v4_2 + 1).toInt = v4_2.toInt + (1 : Int32).toInt := z_add (by omega) (by omega)
        exact ih_4 (v4_1 + (fX4_at v4_2 o_hard_f 21)) (v4_2 + 1) (by first | assumption | omega | decide | (split <;> rename_i hh <;> first | (have h9 := t_nlt hh; omega) | (have h9 := t_lt hh; omega) | (have h9 := t_nle hh; omega) | (have h9 := t_le hh; omega))) (by first | assumption | omega | decide | (split <;> rename_i hh <;> first | (have h9 := t_nlt hh; omega) | (have h9 := t_lt hh; omega) | (have h9 := t_nle hh; omega) | (have h9 := t_le hh; omega))) (by first | assumption | omega | decide | (split <;> rename_i hh <;> first | (have h9 := t_nlt hh; omega) | (have h9 := t_lt hh; omega) | (have h9 := t_nle hh; omega) | (have h9 := t_le hh; omega))) _ _ _ (lv_sub hl [2, 1, 0] rfl) hP hD hS (hF.trans (by simp only [fX3_allHard_4, xlet, if_neg c_1]))
  refine lv_iconst (v := 0) hx hb dX3_allHard_0 (by decide) ?_
  refine lv_istore_n (lv' := [(1, .int 0), (0, .ref o)]) hx hb dX3_allHard_1 rfl hl (by decide) rfl (fun ls hl => ?_)
  refine lv_iconst (v := 1) hx hb dX3_allHard_2 (by decide) ?_
  refine lv_istore_n (lv' := [(2, .int 1), (1, .int 0), (0, .ref o)]) hx hb dX3_allHard_3 rfl hl (by decide) rfl (fun ls hl => ?_)
  exact L_4 1000 0 1 (by first | assumption | omega | decide | (split <;> rename_i hh <;> first | (have h9 := t_nlt hh; omega) | (have h9 := t_lt hh; omega) | (have h9 := t_nle hh; omega) | (have h9 := t_le hh; omega))) (by first | assumption | omega | decide | (split <;> rename_i hh <;> first | (have h9 := t_nlt hh; omega) | (have h9 := t_lt hh; omega) | (have h9 := t_nle hh; omega) | (have h9 := t_le hh; omega))) (by first | assumption | omega | decide | (split <;> rename_i hh <;> first | (have h9 := t_nlt hh; omega) | (have h9 := t_lt hh; omega) | (have h9 := t_nle hh; omega) | (have h9 := t_le hh; omega))) _ _ _ (lv_sub hl [2, 1, 0] rfl) hP hD hS (hF.trans (by simp only [fX3_allHard, xlet]))
set_option maxRecDepth 20000 in
theorem ggX3_felt_X4_at : GoodIn wsX3_felt wsX4_at := goodIn_r _ [7, 8, 16] (by decide +kernel) (by decide +kernel)
set_option maxRecDepth 20000 in
theorem gX3_felt_X4_at : GoodIn wsX3_felt (wsV RX3 61 RX4 yX4_at wsX4_at) := goodIn_app (goodIn_of _ (by decide +kernel)) ggX3_felt_X4_at
theorem dX3_felt_0 : decode cX3_felt 0 = .ok (.aload_n 0, 1) := by decide +kernel
theorem dX3_felt_1 : decode cX3_felt 1 = .ok (.getfield 14, 3) := by decide +kernel
theorem dX3_felt_4 : decode cX3_felt 4 = .ok (.iload_n 1, 1) := by decide +kernel
theorem dX3_felt_5 : decode cX3_felt 5 = .ok (.iconst 3, 1) := by decide +kernel
theorem dX3_felt_6 : decode cX3_felt 6 = .ok (.if_icmp .ne 14, 3) := by decide +kernel
theorem dX3_felt_9 : decode cX3_felt 9 = .ok (.aload_n 0, 1) := by decide +kernel
theorem dX3_felt_10 : decode cX3_felt 10 = .ok (.getfield 29, 3) := by decide +kernel
theorem dX3_felt_13 : decode cX3_felt 13 = .ok (.iconst 1, 1) := by decide +kernel
theorem dX3_felt_14 : decode cX3_felt 14 = .ok (.iadd, 1) := by decide +kernel
theorem dX3_felt_15 : decode cX3_felt 15 = .ok (.iload_n 3, 1) := by decide +kernel
theorem dX3_felt_16 : decode cX3_felt 16 = .ok (.isub, 1) := by decide +kernel
theorem dX3_felt_17 : decode cX3_felt 17 = .ok (.goto 4, 3) := by decide +kernel
theorem dX3_felt_20 : decode cX3_felt 20 = .ok (.iload_n 3, 1) := by decide +kernel
theorem dX3_felt_21 : decode cX3_felt 21 = .ok (.invokevirtual 61, 3) := by decide +kernel
theorem dX3_felt_24 : decode cX3_felt 24 = .ok (.istore 4, 2) := by decide +kernel
theorem dX3_felt_26 : decode cX3_felt 26 = .ok (.iload_n 1, 1) := by decide +kernel
theorem dX3_felt_27 : decode cX3_felt 27 = .ok (.iconst 3, 1) := by decide +kernel
theorem dX3_felt_28 : decode cX3_felt 28 = .ok (.if_icmp .ne 8, 3) := by decide +kernel
theorem dX3_felt_31 : decode cX3_felt 31 = .ok (.iload 4, 2) := by decide +kernel
theorem dX3_felt_33 : decode cX3_felt 33 = .ok (.iload_n 2, 1) := by decide +kernel
theorem dX3_felt_34 : decode cX3_felt 34 = .ok (.iadd, 1) := by decide +kernel
theorem dX3_felt_35 : decode cX3_felt 35 = .ok (.ireturn, 1) := by decide +kernel
theorem dX3_felt_36 : decode cX3_felt 36 = .ok (.iload_n 1, 1) := by decide +kernel
theorem dX3_felt_37 : decode cX3_felt 37 = .ok (.iconst 1, 1) := by decide +kernel
theorem dX3_felt_38 : decode cX3_felt 38 = .ok (.if_icmp .ne 16, 3) := by decide +kernel
theorem dX3_felt_41 : decode cX3_felt 41 = .ok (.iload_n 2, 1) := by decide +kernel
theorem dX3_felt_42 : decode cX3_felt 42 = .ok (.ifCond .le 12, 3) := by decide +kernel
theorem dX3_felt_45 : decode cX3_felt 45 = .ok (.iload 4, 2) := by decide +kernel
theorem dX3_felt_47 : decode cX3_felt 47 = .ok (.iload_n 3, 1) := by decide +kernel
theorem dX3_felt_48 : decode cX3_felt 48 = .ok (.iconst 1, 1) := by decide +kernel
theorem dX3_felt_49 : decode cX3_felt 49 = .ok (.isub, 1) := by decide +kernel
theorem dX3_felt_50 : decode cX3_felt 50 = .ok (.iload_n 2, 1) := by decide +kernel
theorem dX3_felt_51 : decode cX3_felt 51 = .ok (.idiv, 1) := by decide +kernel
theorem dX3_felt_52 : decode cX3_felt 52 = .ok (.iadd, 1) := by decide +kernel
theorem dX3_felt_53 : decode cX3_felt 53 = .ok (.ireturn, 1) := by decide +kernel
theorem dX3_felt_54 : decode cX3_felt 54 = .ok (.iload_n 1, 1) := by decide +kernel
theorem dX3_felt_55 : decode cX3_felt 55 = .ok (.iconst 2, 1) := by decide +kernel
theorem dX3_felt_56 : decode cX3_felt 56 = .ok (.if_icmp .ne 18, 3) := by decide +kernel
theorem dX3_felt_59 : decode cX3_felt 59 = .ok (.iload_n 2, 1) := by decide +kernel
theorem dX3_felt_60 : decode cX3_felt 60 = .ok (.ifCond .le 14, 3) := by decide +kernel
theorem dX3_felt_63 : decode cX3_felt 63 = .ok (.iload_n 3, 1) := by decide +kernel
theorem dX3_felt_64 : decode cX3_felt 64 = .ok (.iload_n 2, 1) := by decide +kernel
theorem dX3_felt_65 : decode cX3_felt 65 = .ok (.irem, 1) := by decide +kernel
theorem dX3_felt_66 : decode cX3_felt 66 = .ok (.ifCond .ne 8, 3) := by decide +kernel
theorem dX3_felt_69 : decode cX3_felt 69 = .ok (.iload 4, 2) := by decide +kernel
theorem dX3_felt_71 : decode cX3_felt 71 = .ok (.iconst 2, 1) := by decide +kernel
theorem dX3_felt_72 : decode cX3_felt 72 = .ok (.imul, 1) := by decide +kernel
theorem dX3_felt_73 : decode cX3_felt 73 = .ok (.ireturn, 1) := by decide +kernel
theorem dX3_felt_74 : decode cX3_felt 74 = .ok (.iload 4, 2) := by decide +kernel
theorem dX3_felt_76 : decode cX3_felt 76 = .ok (.ireturn, 1) := by decide +kernel
def fX3_felt (a1 : Int32) (a2 : Int32) (a3 : Int32) (o_steps : Int32) (o_hard_f : Nat → Int32) : Int32 := xlet (if a1 = 3 then ((o_steps + 1) - a3) else a3) (fun y_1 => if a1 = 3 then (((fX4_at y_1 o_hard_f 21) + a2)) else (if a1 = 1 then (if a2 ≤ 0 then (if a1 = 2 then ((fX4_at y_1 o_hard_f 21)) else ((fX4_at y_1 o_hard_f 21))) else (((fX4_at y_1 o_hard_f 21) + ((a3 - 1) / a2)))) else (if a1 = 2 then (if a2 ≤ 0 then ((fX4_at y_1 o_hard_f 21)) else (if (a3 - a3 / a2 * a2) = 0 then (((fX4_at y_1 o_hard_f 21) * 2)) else ((fX4_at y_1 o_hard_f 21)))) else ((fX4_at y_1 o_hard_f 21)))))
set_option maxHeartbeats 4000000 in
set_option maxRecDepth 100000 in
theorem c_X3_felt (l : Launch) (D : va_G) (cI cZ : ClassId) (sz : Nat) (o : Nat) (a1 : Int32) (a2 : Int32) (a3 : Int32) (o_steps : Int32) (o_mile : Int32) (o_walkers : Int32) (o_walked : Int32) (o_hard : Nat) (o_kinds : Nat) (o_habits : Nat) (o_hard_a : Nat) (o_hard_f : Nat → Int32)  : Met l yX3_felt wsX3_felt ({ frames := 1, cells := 0, slots := 0, locals := 21 } : Room) (va_Pc [.ref o, .int a1, .int a2, .int a3] (xP D cI cZ [(o, .inr (3, [.int o_steps, .int o_mile, .int o_walkers, .int o_walked, .ref o_hard, .ref o_kinds, .ref o_habits])), (o_hard, .inr (4, [.ref o_hard_a])), (o_hard_a, .inl (cI, 21, .inl o_hard_f))] sz)) (va_Qi (fun (r : Int32) (u : Unit) => r = fX3_felt a1 a2 a3 o_steps o_hard_f) (fun (u : Unit) t => xB D cI cZ [(o, .inr (3, [.int o_steps, .int o_mile, .int o_walkers, .int o_walked, .ref o_hard, .ref o_kinds, .ref o_habits])), (o_hard, .inr (4, [.ref o_hard_a])), (o_hard_a, .inl (cI, 21, .inl o_hard_f))] (va_A [(o, .inr (3, [.int o_steps, .int o_mile, .int o_walkers, .int o_walked, .ref o_hard, .ref o_kinds, .ref o_habits])), (o_hard, .inr (4, [.ref o_hard_a])), (o_hard_a, .inl (cI, 21, .inl o_hard_f))] sz) t) (va_A [(o, .inr (3, [.int o_steps, .int o_mile, .int o_walkers, .int o_walked, .ref o_hard, .ref o_kinds, .ref o_habits])), (o_hard, .inr (4, [.ref o_hard_a])), (o_hard_a, .inl (cI, 21, .inl o_hard_f))] sz)) 0 0 (va_A [(o, .inr (3, [.int o_steps, .int o_mile, .int o_walkers, .int o_walked, .ref o_hard, .ref o_kinds, .ref o_habits])), (o_hard, .inr (4, [.ref o_hard_a])), (o_hard_a, .inl (cI, 21, .inl o_hard_f))] sz) := by
  refine Met.ofW (cc := cX3_felt) (maxL := 5) (ret := (some .int)) (by decide) rfl ?_
  intro p e s m args below meth c s₁ B hml hv
  obtain ⟨hargs, hsz, hP, hK, hD0, hE⟩ := hv
  subst hargs
  have hx := B.exec
  have hb := B.bytes
  have hr := B.returns
  have hts := atoms_spec (ws := wsX3_felt) B.pre
  have hown : s.vm.findClass RX3 = some m.cls := findClass_of_methodNamed B.named
  have hlocks := B.notSynchronized
  subst hsz
  have hD := hD0.self (sz := s.heap.size)
  generalize hAe : va_A [(o, .inr (3, [.int o_steps, .int o_mile, .int o_walkers, .int o_walked, .ref o_hard, .ref o_kinds, .ref o_habits])), (o_hard, .inr (4, [.ref o_hard_a])), (o_hard_a, .inl (cI, 21, .inl o_hard_f))] s.heap.size = A at hD ⊢
  have hA : ∀ q : Nat, s.heap.size ≤ q → A q := fun q h => by rw [← hAe]; exact Or.inr h
  have hS : va_S A s.heap s.heap [] := va_S.rf
  have hl := lv_entry ([.ref o, .int a1, .int a2, .int a3]) (n := 5) (Nat.le_of_ble_eq_true rfl)
  rw [lg_entry_eq]
  generalize (lg_sl ([.ref o, .int a1, .int a2, .int a3]) ++ List.replicate (5 - (lg_sl ([.ref o, .int a1, .int a2, .int a3])).length) Slot.unset).toArray = ls at hl ⊢
  have hl : lv_has ls 5 [(0, .ref o), (1, .int a1), (2, .int a2), (3, .int a3)] := hl
  refine wq (X := fun Q => ∀ (pc : Nat) (H : Heap) (locs : List Loc) (ls : Array Slot) (r : Int32) (u : Unit) (hd : decode cX3_felt pc = .ok (.ireturn, 1)) (hp : r = fX3_felt a1 a2 a3 o_steps o_hard_f) (hP : va_P D vwCl [(o, .inr (3, [.int o_steps, .int o_mile, .int o_walkers, .int o_walked, .ref o_hard, .ref o_kinds, .ref o_habits])), (o_hard, .inr (4, [.ref o_hard_a])), (o_hard_a, .inl (cI, 21, .inl o_hard_f))] H) (hD : va_D A [(o, .inr (3, [.int o_steps, .int o_mile, .int o_walkers, .int o_walked, .ref o_hard, .ref o_kinds, .ref o_habits])), (o_hard, .inr (4, [.ref o_hard_a])), (o_hard_a, .inl (cI, 21, .inl o_hard_f))]) (hS : va_S A s.heap H locs), W p l e ({ frames := 1, cells := 0, slots := 0, locals := 21 } : Room) s m ([.ref o, .int a1, .int a2, .int a3] : List Value).toArray below meth c H locs 0 0 Q (F0 m pc ls [.int r])) ?_ (fun Q hret => ?_)
  · intro pc H locs ls r u hd hp hP hD hS
    exact W.iret (v := r) hx hb hr (fun t ht hW => ⟨⟨r, u, rfl, hp, by rw [ht]; exact hP, va_K.moved hW.alike hK, hD⟩, hS.F ht⟩) hS.2.2 hd
  have hin_3 : ∀ w ∈ u_ws RX3 TX3 7, w ∈ wsX3_felt := by decide +kernel
  have fl_14 := hts (.fieldLink RX3 14 "MileRoad$Road" "hard" "LMileRoad$Row;") (by decide +kernel)
  have fl_29 := hts (.fieldLink RX3 29 "MileRoad$Road" "steps" "I") (by decide +kernel)
  have zl_0 : (0 : Int32).toInt = 0 := by decide
  have zl_1 : (1 : Int32).toInt = 1 := by decide
  have zl_2 : (2 : Int32).toInt = 2 := by decide
  have zl_3 : (3 : Int32).toInt = 3 := by decide
  have hF : fX3_felt a1 a2 a3 o_steps o_hard_f = fX3_felt a1 a2 a3 o_steps o_hard_f := rfl
  refine lv_aload_n hx hb dX3_felt_0 rfl (lv_at hl 0 rfl) ?_
  refine xget hx hb hts hown hK 3 (C2 := RX3) (T := TX3) (N := 7) rfl hin_3 hP 0 rfl 4 (by decide) fl_14 rfl rfl rfl dX3_felt_1 ?_
  refine lv_iload_n hx hb dX3_felt_4 rfl (lv_at hl 1 rfl) ?_
  refine lv_iconst (v := 3) hx hb dX3_felt_5 (by decide) ?_
  have K_y_1 : ∀ (y_1 : Int32) (hy_y_1 : (if a1 = 3 then ((o_steps + 1) - a3) else a3) = y_1) (H : Heap) (locs : List Loc) (hP : va_P D vwCl [(o, .inr (3, [.int o_steps, .int o_mile, .int o_walkers, .int o_walked, .ref o_hard, .ref o_kinds, .ref o_habits])), (o_hard, .inr (4, [.ref o_hard_a])), (o_hard_a, .inl (cI, 21, .inl o_hard_f))] H) (hD : va_D A [(o, .inr (3, [.int o_steps, .int o_mile, .int o_walkers, .int o_walked, .ref o_hard, .ref o_kinds, .ref o_habits])), (o_hard, .inr (4, [.ref o_hard_a])), (o_hard_a, .inl (cI, 21, .inl o_hard_f))]) (hS : va_S A s.heap H locs), W p l e ({ frames := 1, cells := 0, slots := 0, locals := 21 } : Room) s m ([.ref o, .int a1, .int a2, .int a3] : List Value).toArray below meth c H locs 0 0 Q (F0 m 21 ls [.int y_1, .ref o_hard]) := by
    intro y_1 hy_y_1 H locs hP hD hS
    have ky_y_1 : y_1 = ((o_steps + 1) - a3) ∨ y_1 = a3 := by rw [← hy_y_1]; (repeat' split) <;> simp
    refine xcalli (S := Unit) (Wc := [(o_hard, .inr (4, [.ref o_hard_a])), (o_hard_a, .inl (cI, 21, .inl o_hard_f))]) (wr := [(o, .inr (3, [.int o_steps, .int o_mile, .int o_walkers, .int o_walked, .ref o_hard, .ref o_kinds, .ref o_habits]))]) (W1 := (fun (u : Unit) => [(o_hard, .inr (4, [.ref o_hard_a])), (o_hard_a, .inl (cI, 21, .inl o_hard_f))])) (Wn := (fun (u : Unit) => [(o, .inr (3, [.int o_steps, .int o_mile, .int o_walkers, .int o_walked, .ref o_hard, .ref o_kinds, .ref o_habits])), (o_hard, .inr (4, [.ref o_hard_a])), (o_hard_a, .inl (cI, 21, .inl o_hard_f))])) (xrunV hx hb hml hown hts (c_X4_at l D cI cZ _ o_hard y_1 o_hard_a o_hard_f 21 (by decide)) (cwV 1 hts gX3_felt_X4_at rfl rfl rfl (by decide +kernel) ⟨Nat.le_of_ble_eq_true rfl, Nat.le_of_ble_eq_true rfl⟩) hE hK hP hD [1, 2] rfl rfl 0 4 (T := TX4) (N := 1) rfl rfl rfl hl.1 rfl (Nat.le_of_ble_eq_true rfl) dX3_felt_21 ⟨Nat.le_of_ble_eq_true rfl, Nat.le_of_ble_eq_true rfl⟩) hP hD hS hA [1, 2] [0] [0, 1, 2] rfl rfl rfl (by decide) (fun _ => rfl) rfl (fun r1 u H locs hw hz hP hD hS => ?_)
    subst hw
    refine lv_istore (lv' := [(4, .int (fX4_at y_1 o_hard_f 21)), (0, .ref o), (1, .int a1), (2, .int a2), (3, .int a3)]) hx hb dX3_felt_24 hl (by decide) rfl (fun ls hl => ?_)
    refine lv_iload_n hx hb dX3_felt_26 rfl (lv_at hl 2 rfl) ?_
    refine lv_iconst (v := 3) hx hb dX3_felt_27 (by decide) ?_
    refine lv_icmp_ne (tgt := 36) hx hb dX3_felt_28 (by decide) (fun c_2 => ?_) (fun c_2 => ?_)
    · have kc_2 := t_neq c_2
      refine lv_iload_n hx hb dX3_felt_36 rfl (lv_at hl 2 rfl) ?_
      refine lv_iconst (v := 1) hx hb dX3_felt_37 (by decide) ?_
      refine lv_icmp_ne (tgt := 54) hx hb dX3_felt_38 (by decide) (fun c_3 => ?_) (fun c_3 => ?_)
      · have kc_3 := t_neq c_3
        refine lv_iload_n hx hb dX3_felt_54 rfl (lv_at hl 2 rfl) ?_
        refine lv_iconst (v := 2) hx hb dX3_felt_55 (by decide) ?_
        refine lv_icmp_ne (tgt := 74) hx hb dX3_felt_56 (by decide) (fun c_4 => ?_) (fun c_4 => ?_)
        · have kc_4 := t_neq c_4
          refine lv_iload hx hb dX3_felt_74 (lv_at hl 0 rfl) ?_
          exact hret _ _ _ _ (fX4_at y_1 o_hard_f 21) () dX3_felt_76 ((hF.trans (by simp only [fX3_felt, xlet, ↓hy_y_1, if_neg c_2, if_neg c_3, if_neg c_4])).symm) hP hD hS
        · have kc_4 := t_eq c_4
          refine lv_iload_n hx hb dX3_felt_59 rfl (lv_at hl 3 rfl) ?_
          refine lv_if_le (tgt := 74) hx hb dX3_felt_60 (by decide) (fun c_5 => ?_) (fun c_5 => ?_)
          · have kc_5 := t_le c_5
            refine lv_iload hx hb dX3_felt_74 (lv_at hl 0 rfl) ?_
            exact hret _ _ _ _ (fX4_at y_1 o_hard_f 21) () dX3_felt_76 ((hF.trans (by simp only [fX3_felt, xlet, ↓hy_y_1, if_neg c_2, if_neg c_3, if_pos c_4, if_pos c_5])).symm) hP hD hS
          · have kc_5 := t_nle c_5
            refine lv_iload_n hx hb dX3_felt_63 rfl (lv_at hl 4 rfl) ?_
            refine lv_iload_n hx hb dX3_felt_64 rfl (lv_at hl 3 rfl) ?_
            refine lv_irem hx hb dX3_felt_65 (by first | assumption | (intro h0; have h1 := t_eq h0; omega)) ?_
            refine lv_if_ne (tgt := 74) hx hb dX3_felt_66 (by decide) (fun c_6 => ?_) (fun c_6 => ?_)
            · have kc_6 := t_neq c_6
              refine lv_iload hx hb dX3_felt_74 (lv_at hl 0 rfl) ?_
              exact hret _ _ _ _ (fX4_at y_1 o_hard_f 21) () dX3_felt_76 ((hF.trans (by simp only [fX3_felt, xlet, ↓hy_y_1, if_neg c_2, if_neg c_3, if_pos c_4, if_neg c_5, if_neg c_6])).symm) hP hD hS
            · have kc_6 := t_eq c_6
              refine lv_iload hx hb dX3_felt_69 (lv_at hl 0 rfl) ?_
              refine lv_iconst (v := 2) hx hb dX3_felt_71 (by decide) ?_
              refine lv_imul hx hb dX3_felt_72 ?_
              exact hret _ _ _ _ ((fX4_at y_1 o_hard_f 21) * 2) () dX3_felt_73 ((hF.trans (by simp only [fX3_felt, xlet, ↓hy_y_1, if_neg c_2, if_neg c_3, if_pos c_4, if_neg c_5, if_pos c_6])).symm) hP hD hS
      · have kc_3 := t_eq c_3
        refine lv_iload_n hx hb dX3_felt_41 rfl (lv_at hl 3 rfl) ?_
        refine lv_if_le (tgt := 54) hx hb dX3_felt_42 (by decide) (fun c_7 => ?_) (fun c_7 => ?_)
        · have kc_7 := t_le c_7
          refine lv_iload_n hx hb dX3_felt_54 rfl (lv_at hl 2 rfl) ?_
          refine lv_iconst (v := 2) hx hb dX3_felt_55 (by decide) ?_
          refine lv_icmp_ne (tgt := 74) hx hb dX3_felt_56 (by decide) (fun c_8 => ?_) (fun c_8 => ?_)
          · have kc_8 := t_neq c_8
            refine lv_iload hx hb dX3_felt_74 (lv_at hl 0 rfl) ?_
            exact hret _ _ _ _ (fX4_at y_1 o_hard_f 21) () dX3_felt_76 ((hF.trans (by simp only [fX3_felt, xlet, ↓hy_y_1, if_neg c_2, if_pos c_3, if_pos c_7, if_neg c_8])).symm) hP hD hS
          · have kc_8 := t_eq c_8
            refine lv_iload_n hx hb dX3_felt_59 rfl (lv_at hl 3 rfl) ?_
            refine lv_if_le (tgt := 74) hx hb dX3_felt_60 (by decide) (fun c_9 => ?_) (fun c_9 => ?_)
            · refine lv_iload hx hb dX3_felt_74 (lv_at hl 0 rfl) ?_
              exact hret _ _ _ _ (fX4_at y_1 o_hard_f 21) () dX3_felt_76 ((hF.trans (by simp only [fX3_felt, xlet, ↓hy_y_1, if_neg c_2, if_pos c_3, if_pos c_7, if_pos c_8])).symm) hP hD hS
            · exact absurd c_7 c_9
        · have kc_7 := t_nle c_7
          refine lv_iload hx hb dX3_felt_45 (lv_at hl 0 rfl) ?_
          refine lv_iload_n hx hb dX3_felt_47 rfl (lv_at hl 4 rfl) ?_
          refine lv_iconst (v := 1) hx hb dX3_felt_48 (by decide) ?_
          refine lv_isub hx hb dX3_felt_49 ?_
          refine lv_iload_n hx hb dX3_felt_50 rfl (lv_at hl 3 rfl) ?_
          refine lv_idiv hx hb dX3_felt_51 (by first | assumption | (intro h0; have h1 := t_eq h0; omega)) ?_
          refine lv_iadd hx hb dX3_felt_52 ?_
          exact hret _ _ _ _ ((fX4_at y_1 o_hard_f 21) + ((a3 - 1) / a2)) () dX3_felt_53 ((hF.trans (by simp only [fX3_felt, xlet, ↓hy_y_1, if_neg c_2, if_pos c_3, if_neg c_7])).symm) hP hD hS
    · have kc_2 := t_eq c_2
      refine lv_iload hx hb dX3_felt_31 (lv_at hl 0 rfl) ?_
      refine lv_iload_n hx hb dX3_felt_33 rfl (lv_at hl 3 rfl) ?_
      refine lv_iadd hx hb dX3_felt_34 ?_
      exact hret _ _ _ _ ((fX4_at y_1 o_hard_f 21) + a2) () dX3_felt_35 ((hF.trans (by simp only [fX3_felt, xlet, ↓hy_y_1, if_pos c_2])).symm) hP hD hS
  refine lv_icmp_ne (tgt := 20) hx hb dX3_felt_6 (by decide) (fun c_1 => ?_) (fun c_1 => ?_)
  · have kc_1 := t_neq c_1
    refine lv_iload_n hx hb dX3_felt_20 rfl (lv_at hl 3 rfl) ?_
    exact K_y_1 _ (by simp only [xlet, if_neg c_1]) _ _ hP hD hS
  · have kc_1 := t_eq c_1
    refine lv_aload_n hx hb dX3_felt_9 rfl (lv_at hl 0 rfl) ?_
    refine xget hx hb hts hown hK 3 (C2 := RX3) (T := TX3) (N := 7) rfl hin_3 hP 0 rfl 0 (by decide) fl_29 rfl rfl rfl dX3_felt_10 ?_
    refine lv_iconst (v := 1) hx hb dX3_felt_13 (by decide) ?_
    refine lv_iadd hx hb dX3_felt_14 ?_
    refine lv_iload_n hx hb dX3_felt_15 rfl (lv_at hl 3 rfl) ?_
    refine lv_isub hx hb dX3_felt_16 ?_
    refine lv_goto (tgt := 21) hx hb dX3_felt_17 (by decide) ?_
    exact K_y_1 _ (by simp only [xlet, if_pos c_1]) _ _ hP hD hS
set_option maxRecDepth 20000 in
theorem ggX3_allFeltBy_X4_at : GoodIn wsX3_allFeltBy wsX4_at := goodIn_r _ [8, 9, 23] (by decide +kernel) (by decide +kernel)
set_option maxRecDepth 20000 in
theorem gX3_allFeltBy_X4_at : GoodIn wsX3_allFeltBy (wsV RX3 61 RX4 yX4_at wsX4_at) := goodIn_app (goodIn_of _ (by decide +kernel)) ggX3_allFeltBy_X4_at
set_option maxRecDepth 20000 in
theorem ggX3_allFeltBy_X3_felt : GoodIn wsX3_allFeltBy wsX3_felt := goodIn_r _ [14, 15, 1, 4, 5, 6, 7, 8, 9, 16, 17, 18, 19, 20, 21, 22, 23] (by decide +kernel) (by decide +kernel)
set_option maxRecDepth 20000 in
theorem gX3_allFeltBy_X3_felt : GoodIn wsX3_allFeltBy (wsV RX3 65 RX3 yX3_felt wsX3_felt) := goodIn_app (goodIn_of _ (by decide +kernel)) ggX3_allFeltBy_X3_felt
theorem dX3_allFeltBy_0 : decode cX3_allFeltBy 0 = .ok (.iconst 0, 1) := by decide +kernel
theorem dX3_allFeltBy_1 : decode cX3_allFeltBy 1 = .ok (.istore_n 2, 1) := by decide +kernel
theorem dX3_allFeltBy_2 : decode cX3_allFeltBy 2 = .ok (.iconst 1, 1) := by decide +kernel
theorem dX3_allFeltBy_3 : decode cX3_allFeltBy 3 = .ok (.istore_n 3, 1) := by decide +kernel
theorem dX3_allFeltBy_4 : decode cX3_allFeltBy 4 = .ok (.iload_n 3, 1) := by decide +kernel
theorem dX3_allFeltBy_5 : decode cX3_allFeltBy 5 = .ok (.aload_n 0, 1) := by decide +kernel
theorem dX3_allFeltBy_6 : decode cX3_allFeltBy 6 = .ok (.getfield 29, 3) := by decide +kernel
theorem dX3_allFeltBy_9 : decode cX3_allFeltBy 9 = .ok (.if_icmp .gt 33, 3) := by decide +kernel
theorem dX3_allFeltBy_12 : decode cX3_allFeltBy 12 = .ok (.iload_n 2, 1) := by decide +kernel
theorem dX3_allFeltBy_13 : decode cX3_allFeltBy 13 = .ok (.aload_n 0, 1) := by decide +kernel
theorem dX3_allFeltBy_14 : decode cX3_allFeltBy 14 = .ok (.aload_n 0, 1) := by decide +kernel
theorem dX3_allFeltBy_15 : decode cX3_allFeltBy 15 = .ok (.getfield 20, 3) := by decide +kernel
theorem dX3_allFeltBy_18 : decode cX3_allFeltBy 18 = .ok (.iload_n 1, 1) := by decide +kernel
theorem dX3_allFeltBy_19 : decode cX3_allFeltBy 19 = .ok (.invokevirtual 61, 3) := by decide +kernel
theorem dX3_allFeltBy_22 : decode cX3_allFeltBy 22 = .ok (.aload_n 0, 1) := by decide +kernel
theorem dX3_allFeltBy_23 : decode cX3_allFeltBy 23 = .ok (.getfield 23, 3) := by decide +kernel
theorem dX3_allFeltBy_26 : decode cX3_allFeltBy 26 = .ok (.iload_n 1, 1) := by decide +kernel
theorem dX3_allFeltBy_27 : decode cX3_allFeltBy 27 = .ok (.invokevirtual 61, 3) := by decide +kernel
theorem dX3_allFeltBy_30 : decode cX3_allFeltBy 30 = .ok (.iload_n 3, 1) := by decide +kernel
theorem dX3_allFeltBy_31 : decode cX3_allFeltBy 31 = .ok (.invokevirtual 65, 3) := by decide +kernel
theorem dX3_allFeltBy_34 : decode cX3_allFeltBy 34 = .ok (.iadd, 1) := by decide +kernel
theorem dX3_allFeltBy_35 : decode cX3_allFeltBy 35 = .ok (.istore_n 2, 1) := by decide +kernel
theorem dX3_allFeltBy_36 : decode cX3_allFeltBy 36 = .ok (.iinc 3 1, 3) := by decide +kernel
theorem dX3_allFeltBy_39 : decode cX3_allFeltBy 39 = .ok (.goto (-35), 3) := by decide +kernel
theorem dX3_allFeltBy_42 : decode cX3_allFeltBy 42 = .ok (.iload_n 2, 1) := by decide +kernel
theorem dX3_allFeltBy_43 : decode cX3_allFeltBy 43 = .ok (.ireturn, 1) := by decide +kernel
def fX3_allFeltBy_4 (a1 : Int32) (o_steps : Int32) (o_kinds_f : Nat → Int32) (o_habits_f : Nat → Int32) (o_hard_f : Nat → Int32)  : Nat → Int32 → Int32 → Int32
  | 0, _, _ => default
  | n + 1, v4_2, v4_3 => if o_steps < v4_3 then v4_2 else (fX3_allFeltBy_4 a1 o_steps o_kinds_f o_habits_f o_hard_f n (v4_2 + (fX3_felt (fX4_at a1 o_kinds_f 6) (fX4_at a1 o_habits_f 6) v4_3 o_steps o_hard_f)) (v4_3 + 1))
def fX3_allFeltBy (a1 : Int32) (o_steps : Int32) (o_kinds_f : Nat → Int32) (o_habits_f : Nat → Int32) (o_hard_f : Nat → Int32) : Int32 := fX3_allFeltBy_4 a1 o_steps o_kinds_f o_habits_f o_hard_f 1000 0 1
set_option maxHeartbeats 4000000 in
set_option maxRecDepth 100000 in
theorem c_X3_allFeltBy (l : Launch) (D : va_G) (cI cZ : ClassId) (sz : Nat) (o : Nat) (a1 : Int32) (o_steps : Int32) (o_mile : Int32) (o_walkers : Int32) (o_walked : Int32) (o_hard : Nat) (o_kinds : Nat) (o_habits : Nat) (o_kinds_a : Nat) (o_kinds_f : Nat → Int32) (o_habits_a : Nat) (o_habits_f : Nat → Int32) (o_hard_a : Nat) (o_hard_f : Nat → Int32) (hst : o_steps.toInt ≤ 20) : Met l yX3_allFeltBy wsX3_allFeltBy ({ frames := 2, cells := 0, slots := 0, locals := 45 } : Room) (va_Pc [.ref o, .int a1] (xP D cI cZ [(o, .inr (3, [.int o_steps, .int o_mile, .int o_walkers, .int o_walked, .ref o_hard, .ref o_kinds, .ref o_habits])), (o_kinds, .inr (4, [.ref o_kinds_a])), (o_kinds_a, .inl (cI, 6, .inl o_kinds_f)), (o_habits, .inr (4, [.ref o_habits_a])), (o_habits_a, .inl (cI, 6, .inl o_habits_f)), (o_hard, .inr (4, [.ref o_hard_a])), (o_hard_a, .inl (cI, 21, .inl o_hard_f))] sz)) (va_Qi (fun (r : Int32) (u : Unit) => r = fX3_allFeltBy a1 o_steps o_kinds_f o_habits_f o_hard_f) (fun (u : Unit) t => xB D cI cZ [(o, .inr (3, [.int o_steps, .int o_mile, .int o_walkers, .int o_walked, .ref o_hard, .ref o_kinds, .ref o_habits])), (o_kinds, .inr (4, [.ref o_kinds_a])), (o_kinds_a, .inl (cI, 6, .inl o_kinds_f)), (o_habits, .inr (4, [.ref o_habits_a])), (o_habits_a, .inl (cI, 6, .inl o_habits_f)), (o_hard, .inr (4, [.ref o_hard_a])), (o_hard_a, .inl (cI, 21, .inl o_hard_f))] (va_A [(o, .inr (3, [.int o_steps, .int o_mile, .int o_walkers, .int o_walked, .ref o_hard, .ref o_kinds, .ref o_habits])), (o_kinds, .inr (4, [.ref o_kinds_a])), (o_kinds_a, .inl (cI, 6, .inl o_kinds_f)), (o_habits, .inr (4, [.ref o_habits_a])), (o_habits_a, .inl (cI, 6, .inl o_habits_f)), (o_hard, .inr (4, [.ref o_hard_a])), (o_hard_a, .inl (cI, 21, .inl o_hard_f))] sz) t) (va_A [(o, .inr (3, [.int o_steps, .int o_mile, .int o_walkers, .int o_walked, .ref o_hard, .ref o_kinds, .ref o_habits])), (o_kinds, .inr (4, [.ref o_kinds_a])), (o_kinds_a, .inl (cI, 6, .inl o_kinds_f)), (o_habits, .inr (4, [.ref o_habits_a])), (o_habits_a, .inl (cI, 6, .inl o_habits_f)), (o_hard, .inr (4, [.ref o_hard_a])), (o_hard_a, .inl (cI, 21, .inl o_hard_f))] sz)) 0 0 (va_A [(o, .inr (3, [.int o_steps, .int o_mile, .int o_walkers, .int o_walked, .ref o_hard, .ref o_kinds, .ref o_habits])), (o_kinds, .inr (4, [.ref o_kinds_a])), (o_kinds_a, .inl (cI, 6, .inl o_kinds_f)), (o_habits, .inr (4, [.ref o_habits_a])), (o_habits_a, .inl (cI, 6, .inl o_habits_f)), (o_hard, .inr (4, [.ref o_hard_a])), (o_hard_a, .inl (cI, 21, .inl o_hard_f))] sz) := by
  refine Met.ofW (cc := cX3_allFeltBy) (maxL := 4) (ret := (some .int)) (by decide) rfl ?_
  intro p e s m args below meth c s₁ B hml hv
  obtain ⟨hargs, hsz, hP, hK, hD0, hE⟩ := hv
  subst hargs
  have hx := B.exec
  have hb := B.bytes
  have hr := B.returns
  have hts := atoms_spec (ws := wsX3_allFeltBy) B.pre
  have hown : s.vm.findClass RX3 = some m.cls := findClass_of_methodNamed B.named
  have hlocks := B.notSynchronized
  subst hsz
  have hD := hD0.self (sz := s.heap.size)
  generalize hAe : va_A [(o, .inr (3, [.int o_steps, .int o_mile, .int o_walkers, .int o_walked, .ref o_hard, .ref o_kinds, .ref o_habits])), (o_kinds, .inr (4, [.ref o_kinds_a])), (o_kinds_a, .inl (cI, 6, .inl o_kinds_f)), (o_habits, .inr (4, [.ref o_habits_a])), (o_habits_a, .inl (cI, 6, .inl o_habits_f)), (o_hard, .inr (4, [.ref o_hard_a])), (o_hard_a, .inl (cI, 21, .inl o_hard_f))] s.heap.size = A at hD ⊢
  have hA : ∀ q : Nat, s.heap.size ≤ q → A q := fun q h => by rw [← hAe]; exact Or.inr h
  have hS : va_S A s.heap s.heap [] := va_S.rf
  have hl := lv_entry ([.ref o, .int a1]) (n := 4) (Nat.le_of_ble_eq_true rfl)
  rw [lg_entry_eq]
  generalize (lg_sl ([.ref o, .int a1]) ++ List.replicate (4 - (lg_sl ([.ref o, .int a1])).length) Slot.unset).toArray = ls at hl ⊢
  have hl : lv_has ls 4 [(0, .ref o), (1, .int a1)] := hl
  refine wq (X := fun Q => ∀ (pc : Nat) (H : Heap) (locs : List Loc) (ls : Array Slot) (r : Int32) (u : Unit) (hd : decode cX3_allFeltBy pc = .ok (.ireturn, 1)) (hp : r = fX3_allFeltBy a1 o_steps o_kinds_f o_habits_f o_hard_f) (hP : va_P D vwCl [(o, .inr (3, [.int o_steps, .int o_mile, .int o_walkers, .int o_walked, .ref o_hard, .ref o_kinds, .ref o_habits])), (o_kinds, .inr (4, [.ref o_kinds_a])), (o_kinds_a, .inl (cI, 6, .inl o_kinds_f)), (o_habits, .inr (4, [.ref o_habits_a])), (o_habits_a, .inl (cI, 6, .inl o_habits_f)), (o_hard, .inr (4, [.ref o_hard_a])), (o_hard_a, .inl (cI, 21, .inl o_hard_f))] H) (hD : va_D A [(o, .inr (3, [.int o_steps, .int o_mile, .int o_walkers, .int o_walked, .ref o_hard, .ref o_kinds, .ref o_habits])), (o_kinds, .inr (4, [.ref o_kinds_a])), (o_kinds_a, .inl (cI, 6, .inl o_kinds_f)), (o_habits, .inr (4, [.ref o_habits_a])), (o_habits_a, .inl (cI, 6, .inl o_habits_f)), (o_hard, .inr (4, [.ref o_hard_a])), (o_hard_a, .inl (cI, 21, .inl o_hard_f))]) (hS : va_S A s.heap H locs), W p l e ({ frames := 2, cells := 0, slots := 0, locals := 45 } : Room) s m ([.ref o, .int a1] : List Value).toArray below meth c H locs 0 0 Q (F0 m pc ls [.int r])) ?_ (fun Q hret => ?_)
  · intro pc H locs ls r u hd hp hP hD hS
    exact W.iret (v := r) hx hb hr (fun t ht hW => ⟨⟨r, u, rfl, hp, by rw [ht]; exact hP, va_K.moved hW.alike hK, hD⟩, hS.F ht⟩) hS.2.2 hd
  have hin_3 : ∀ w ∈ u_ws RX3 TX3 7, w ∈ wsX3_allFeltBy := by decide +kernel
  have fl_20 := hts (.fieldLink RX3 20 "MileRoad$Road" "kinds" "LMileRoad$Row;") (by decide +kernel)
  have fl_23 := hts (.fieldLink RX3 23 "MileRoad$Road" "habits" "LMileRoad$Row;") (by decide +kernel)
  have fl_29 := hts (.fieldLink RX3 29 "MileRoad$Road" "steps" "I") (by decide +kernel)
  have zl_1 : (1 : Int32).toInt = 1 := by decide
  have hF : fX3_allFeltBy a1 o_steps o_kinds_f o_habits_f o_hard_f = fX3_allFeltBy a1 o_steps o_kinds_f o_habits_f o_hard_f := rfl
  have L_4 : ∀ (n : Nat) (v4_2 : Int32) (v4_3 : Int32) (h1_4 : 1 ≤ v4_3.toInt) (h2_4 : v4_3.toInt ≤ 21) (hm : 21 - v4_3.toInt < (n : Int)) (H : Heap) (locs : List Loc) (ls : Array Slot) (hl : lv_has ls 4 [(0, .ref o), (1, .int a1), (2, .int v4_2), (3, .int v4_3)]) (hP : va_P D vwCl [(o, .inr (3, [.int o_steps, .int o_mile, .int o_walkers, .int o_walked, .ref o_hard, .ref o_kinds, .ref o_habits])), (o_kinds, .inr (4, [.ref o_kinds_a])), (o_kinds_a, .inl (cI, 6, .inl o_kinds_f)), (o_habits, .inr (4, [.ref o_habits_a])), (o_habits_a, .inl (cI, 6, .inl o_habits_f)), (o_hard, .inr (4, [.ref o_hard_a])), (o_hard_a, .inl (cI, 21, .inl o_hard_f))] H) (hD : va_D A [(o, .inr (3, [.int o_steps, .int o_mile, .int o_walkers, .int o_walked, .ref o_hard, .ref o_kinds, .ref o_habits])), (o_kinds, .inr (4, [.ref o_kinds_a])), (o_kinds_a, .inl (cI, 6, .inl o_kinds_f)), (o_habits, .inr (4, [.ref o_habits_a])), (o_habits_a, .inl (cI, 6, .inl o_habits_f)), (o_hard, .inr (4, [.ref o_hard_a])), (o_hard_a, .inl (cI, 21, .inl o_hard_f))]) (hS : va_S A s.heap H locs) (hF : fX3_allFeltBy a1 o_steps o_kinds_f o_habits_f o_hard_f = fX3_allFeltBy_4 a1 o_steps o_kinds_f o_habits_f o_hard_f n v4_2 v4_3), W p l e ({ frames := 2, cells := 0, slots := 0, locals := 45 } : Room) s m ([.ref o, .int a1] : List Value).toArray below meth c H locs 0 0 Q (F0 m 4 ls []) := by
    intro n
    induction n with
    | zero =>
      intro v4_2 v4_3 h1_4 h2_4 hm H locs ls hl hP hD hS hF
      exact absurd hm (by omega)
    | succ n ih_4 =>
      intro v4_2 v4_3 h1_4 h2_4 hm H locs ls hl hP hD hS hF
      refine lv_iload_n hx hb dX3_allFeltBy_4 rfl (lv_at hl 3 rfl) ?_
      refine lv_aload_n hx hb dX3_allFeltBy_5 rfl (lv_at hl 0 rfl) ?_
      refine xget hx hb hts hown hK 3 (C2 := RX3) (T := TX3) (N := 7) rfl hin_3 hP 0 rfl 0 (by decide) fl_29 rfl rfl rfl dX3_allFeltBy_6 ?_
      refine lv_icmp_gt (tgt := 42) hx hb dX3_allFeltBy_9 (by decide) (fun c_1 => ?_) (fun c_1 => ?_)
      · have kc_1 := t_lt c_1
        refine lv_iload_n hx hb dX3_allFeltBy_42 rfl (lv_at hl 2 rfl) ?_
        exact hret _ _ _ _ v4_2 () dX3_allFeltBy_43 ((hF.trans (by simp only [fX3_allFeltBy_4, xlet, if_pos c_1])).symm) hP hD hS
      · have kc_1 := t_nlt c_1
        refine lv_iload_n hx hb dX3_allFeltBy_12 rfl (lv_at hl 2 rfl) ?_
        refine lv_aload_n hx hb dX3_allFeltBy_13 rfl (lv_at hl 0 rfl) ?_
        refine lv_aload_n hx hb dX3_allFeltBy_14 rfl (lv_at hl 0 rfl) ?_
        refine xget hx hb hts hown hK 3 (C2 := RX3) (T := TX3) (N := 7) rfl hin_3 hP 0 rfl 5 (by decide) fl_20 rfl rfl rfl dX3_allFeltBy_15 ?_
        refine lv_iload_n hx hb dX3_allFeltBy_18 rfl (lv_at hl 1 rfl) ?_
        refine xcalli (S := Unit) (Wc := [(o_kinds, .inr (4, [.ref o_kinds_a])), (o_kinds_a, .inl (cI, 6, .inl o_kinds_f))]) (wr := [(o, .inr (3, [.int o_steps, .int o_mile, .int o_walkers, .int o_walked, .ref o_hard, .ref o_kinds, .ref o_habits])), (o_habits, .inr (4, [.ref o_habits_a])), (o_habits_a, .inl (cI, 6, .inl o_habits_f)), (o_hard, .inr (4, [.ref o_hard_a])), (o_hard_a, .inl (cI, 21, .inl o_hard_f))]) (W1 := (fun (u : Unit) => [(o_kinds, .inr (4, [.ref o_kinds_a])), (o_kinds_a, .inl (cI, 6, .inl o_kinds_f))])) (Wn := (fun (u : Unit) => [(o, .inr (3, [.int o_steps, .int o_mile, .int o_walkers, .int o_walked, .ref o_hard, .ref o_kinds, .ref o_habits])), (o_kinds, .inr (4, [.ref o_kinds_a])), (o_kinds_a, .inl (cI, 6, .inl o_kinds_f)), (o_habits, .inr (4, [.ref o_habits_a])), (o_habits_a, .inl (cI, 6, .inl o_habits_f)), (o_hard, .inr (4, [.ref o_hard_a])), (o_hard_a, .inl (cI, 21, .inl o_hard_f))])) (xrunV hx hb hml hown hts (c_X4_at l D cI cZ _ o_kinds a1 o_kinds_a o_kinds_f 6 (by decide)) (cwV 1 hts gX3_allFeltBy_X4_at rfl rfl rfl (by decide +kernel) ⟨Nat.le_of_ble_eq_true rfl, Nat.le_of_ble_eq_true rfl⟩) hE hK hP hD [1, 2] rfl rfl 0 4 (T := TX4) (N := 1) rfl rfl rfl hl.1 rfl (Nat.le_of_ble_eq_true rfl) dX3_allFeltBy_19 ⟨Nat.le_of_ble_eq_true rfl, Nat.le_of_ble_eq_true rfl⟩) hP hD hS hA [1, 2] [0, 3, 4, 5, 6] [0, 5, 6, 1, 2, 3, 4] rfl rfl rfl (by decide) (fun _ => rfl) rfl (fun r1 u H locs hw hz hP hD hS => ?_)
        subst hw
        refine lv_aload_n hx hb dX3_allFeltBy_22 rfl (lv_at hl 0 rfl) ?_
        refine xget hx hb hts hown hK 3 (C2 := RX3) (T := TX3) (N := 7) rfl hin_3 hP 0 rfl 6 (by decide) fl_23 rfl rfl rfl dX3_allFeltBy_23 ?_
        refine lv_iload_n hx hb dX3_allFeltBy_26 rfl (lv_at hl 1 rfl) ?_
        refine xcalli (S := Unit) (Wc := [(o_habits, .inr (4, [.ref o_habits_a])), (o_habits_a, .inl (cI, 6, .inl o_habits_f))]) (wr := [(o, .inr (3, [.int o_steps, .int o_mile, .int o_walkers, .int o_walked, .ref o_hard, .ref o_kinds, .ref o_habits])), (o_kinds, .inr (4, [.ref o_kinds_a])), (o_kinds_a, .inl (cI, 6, .inl o_kinds_f)), (o_hard, .inr (4, [.ref o_hard_a])), (o_hard_a, .inl (cI, 21, .inl o_hard_f))]) (W1 := (fun (u : Unit) => [(o_habits, .inr (4, [.ref o_habits_a])), (o_habits_a, .inl (cI, 6, .inl o_habits_f))])) (Wn := (fun (u : Unit) => [(o, .inr (3, [.int o_steps, .int o_mile, .int o_walkers, .int o_walked, .ref o_hard, .ref o_kinds, .ref o_habits])), (o_kinds, .inr (4, [.ref o_kinds_a])), (o_kinds_a, .inl (cI, 6, .inl o_kinds_f)), (o_habits, .inr (4, [.ref o_habits_a])), (o_habits_a, .inl (cI, 6, .inl o_habits_f)), (o_hard, .inr (4, [.ref o_hard_a])), (o_hard_a, .inl (cI, 21, .inl o_hard_f))])) (xrunV hx hb hml hown hts (c_X4_at l D cI cZ _ o_habits a1 o_habits_a o_habits_f 6 (by decide)) (cwV 1 hts gX3_allFeltBy_X4_at rfl rfl rfl (by decide +kernel) ⟨Nat.le_of_ble_eq_true rfl, Nat.le_of_ble_eq_true rfl⟩) hE hK hP hD [3, 4] rfl rfl 0 4 (T := TX4) (N := 1) rfl rfl rfl hl.1 rfl (Nat.le_of_ble_eq_true rfl) dX3_allFeltBy_27 ⟨Nat.le_of_ble_eq_true rfl, Nat.le_of_ble_eq_true rfl⟩) hP hD hS hA [3, 4] [0, 1, 2, 5, 6] [0, 1, 2, 5, 6, 3, 4] rfl rfl rfl (by decide) (fun _ => rfl) rfl (fun r2 u H locs hw hz hP hD hS => ?_)
        subst hw
        refine lv_iload_n hx hb dX3_allFeltBy_30 rfl (lv_at hl 3 rfl) ?_
        refine xcalli (S := Unit) (Wc := [(o, .inr (3, [.int o_steps, .int o_mile, .int o_walkers, .int o_walked, .ref o_hard, .ref o_kinds, .ref o_habits])), (o_hard, .inr (4, [.ref o_hard_a])), (o_hard_a, .inl (cI, 21, .inl o_hard_f))]) (wr := [(o_kinds, .inr (4, [.ref o_kinds_a])), (o_kinds_a, .inl (cI, 6, .inl o_kinds_f)), (o_habits, .inr (4, [.ref o_habits_a])), (o_habits_a, .inl (cI, 6, .inl o_habits_f))]) (W1 := (fun (u : Unit) => [(o, .inr (3, [.int o_steps, .int o_mile, .int o_walkers, .int o_walked, .ref o_hard, .ref o_kinds, .ref o_habits])), (o_hard, .inr (4, [.ref o_hard_a])), (o_hard_a, .inl (cI, 21, .inl o_hard_f))])) (Wn := (fun (u : Unit) => [(o, .inr (3, [.int o_steps, .int o_mile, .int o_walkers, .int o_walked, .ref o_hard, .ref o_kinds, .ref o_habits])), (o_kinds, .inr (4, [.ref o_kinds_a])), (o_kinds_a, .inl (cI, 6, .inl o_kinds_f)), (o_habits, .inr (4, [.ref o_habits_a])), (o_habits_a, .inl (cI, 6, .inl o_habits_f)), (o_hard, .inr (4, [.ref o_hard_a])), (o_hard_a, .inl (cI, 21, .inl o_hard_f))])) (xrunV hx hb hml hown hts (c_X3_felt l D cI cZ _ o (fX4_at a1 o_kinds_f 6) (fX4_at a1 o_habits_f 6) v4_3 o_steps o_mile o_walkers o_walked o_hard o_kinds o_habits o_hard_a o_hard_f ) (cwV 3 hts gX3_allFeltBy_X3_felt rfl rfl rfl (by decide +kernel) ⟨Nat.le_of_ble_eq_true rfl, Nat.le_of_ble_eq_true rfl⟩) hE hK hP hD [0, 5, 6] rfl rfl 0 3 (T := TX3) (N := 7) rfl rfl rfl hl.1 rfl (Nat.le_of_ble_eq_true rfl) dX3_allFeltBy_31 ⟨Nat.le_of_ble_eq_true rfl, Nat.le_of_ble_eq_true rfl⟩) hP hD hS hA [0, 5, 6] [1, 2, 3, 4] [4, 0, 1, 2, 3, 5, 6] rfl rfl rfl (by decide) (fun _ => rfl) rfl (fun r3 u H locs hw hz hP hD hS => ?_)
        subst hw
        refine lv_iadd hx hb dX3_allFeltBy_34 ?_
        refine lv_istore_n (lv' := [(2, .int (v4_2 + (fX3_felt (fX4_at a1 o_kinds_f 6) (fX4_at a1 o_habits_f 6) v4_3 o_steps o_hard_f))), (0, .ref o), (1, .int a1), (3, .int v4_3)]) hx hb dX3_allFeltBy_35 rfl hl (by decide) rfl (fun ls hl => ?_)
        refine lv_iinc (v := (v4_3 + 1)) (lv' := [(3, .int (v4_3 + 1)), (2, .int (v4_2 + (fX3_felt (fX4_at a1 o_kinds_f 6) (fX4_at a1 o_habits_f 6) v4_3 o_steps o_hard_f))), (0, .ref o), (1, .int a1)]) hx hb dX3_allFeltBy_36 hl (k := 3) rfl (by rfl) (by decide) rfl (fun ls hl => ?_)
        refine lv_goto (tgt := 4) hx hb dX3_allFeltBy_39 (by decide) ?_
        have z_1 : (v4_3 + 1).toInt = v4_3.toInt + (1 : Int32).toInt := z_add (by omega) (by omega)
        exact ih_4 (v4_2 + (fX3_felt (fX4_at a1 o_kinds_f 6) (fX4_at a1 o_habits_f 6) v4_3 o_steps o_hard_f)) (v4_3 + 1) (by first | assumption | omega | decide | (split <;> rename_i hh <;> first | (have h9 := t_nlt hh; omega) | (have h9 := t_lt hh; omega) | (have h9 := t_nle hh; omega) | (have h9 := t_le hh; omega))) (by first | assumption | omega | decide | (split <;> rename_i hh <;> first | (have h9 := t_nlt hh; omega) | (have h9 := t_lt hh; omega) | (have h9 := t_nle hh; omega) | (have h9 := t_le hh; omega))) (by first | assumption | omega | decide | (split <;> rename_i hh <;> first | (have h9 := t_nlt hh; omega) | (have h9 := t_lt hh; omega) | (have h9 := t_nle hh; omega) | (have h9 := t_le hh; omega))) _ _ _ (lv_sub hl [2, 3, 1, 0] rfl) hP hD hS (hF.trans (by simp only [fX3_allFeltBy_4, xlet, if_neg c_1]))
  refine lv_iconst (v := 0) hx hb dX3_allFeltBy_0 (by decide) ?_
  refine lv_istore_n (lv' := [(2, .int 0), (0, .ref o), (1, .int a1)]) hx hb dX3_allFeltBy_1 rfl hl (by decide) rfl (fun ls hl => ?_)
  refine lv_iconst (v := 1) hx hb dX3_allFeltBy_2 (by decide) ?_
  refine lv_istore_n (lv' := [(3, .int 1), (2, .int 0), (0, .ref o), (1, .int a1)]) hx hb dX3_allFeltBy_3 rfl hl (by decide) rfl (fun ls hl => ?_)
  exact L_4 1000 0 1 (by first | assumption | omega | decide | (split <;> rename_i hh <;> first | (have h9 := t_nlt hh; omega) | (have h9 := t_lt hh; omega) | (have h9 := t_nle hh; omega) | (have h9 := t_le hh; omega))) (by first | assumption | omega | decide | (split <;> rename_i hh <;> first | (have h9 := t_nlt hh; omega) | (have h9 := t_lt hh; omega) | (have h9 := t_nle hh; omega) | (have h9 := t_le hh; omega))) (by first | assumption | omega | decide | (split <;> rename_i hh <;> first | (have h9 := t_nlt hh; omega) | (have h9 := t_lt hh; omega) | (have h9 := t_nle hh; omega) | (have h9 := t_le hh; omega))) _ _ _ (lv_sub hl [2, 3, 1, 0] rfl) hP hD hS (hF.trans (by simp only [fX3_allFeltBy, xlet]))
set_option maxRecDepth 20000 in
theorem ggX3_placeFelt_X3_felt : GoodIn wsX3_placeFelt wsX3_felt := goodIn_r _ [6, 7, 1, 8, 9, 10, 11, 12, 13, 14, 15, 16, 17, 18, 19, 20, 21] (by decide +kernel) (by decide +kernel)
set_option maxRecDepth 20000 in
theorem gX3_placeFelt_X3_felt : GoodIn wsX3_placeFelt (wsV RX3 65 RX3 yX3_felt wsX3_felt) := goodIn_app (goodIn_of _ (by decide +kernel)) ggX3_placeFelt_X3_felt
theorem dX3_placeFelt_0 : decode cX3_placeFelt 0 = .ok (.iconst 0, 1) := by decide +kernel
theorem dX3_placeFelt_1 : decode cX3_placeFelt 1 = .ok (.istore 4, 2) := by decide +kernel
theorem dX3_placeFelt_3 : decode cX3_placeFelt 3 = .ok (.iconst 1, 1) := by decide +kernel
theorem dX3_placeFelt_4 : decode cX3_placeFelt 4 = .ok (.istore 5, 2) := by decide +kernel
theorem dX3_placeFelt_6 : decode cX3_placeFelt 6 = .ok (.iload 5, 2) := by decide +kernel
theorem dX3_placeFelt_8 : decode cX3_placeFelt 8 = .ok (.aload_n 0, 1) := by decide +kernel
theorem dX3_placeFelt_9 : decode cX3_placeFelt 9 = .ok (.getfield 29, 3) := by decide +kernel
theorem dX3_placeFelt_12 : decode cX3_placeFelt 12 = .ok (.if_icmp .gt 46, 3) := by decide +kernel
theorem dX3_placeFelt_15 : decode cX3_placeFelt 15 = .ok (.iload 4, 2) := by decide +kernel
theorem dX3_placeFelt_17 : decode cX3_placeFelt 17 = .ok (.aload_n 0, 1) := by decide +kernel
theorem dX3_placeFelt_18 : decode cX3_placeFelt 18 = .ok (.iload_n 1, 1) := by decide +kernel
theorem dX3_placeFelt_19 : decode cX3_placeFelt 19 = .ok (.iload_n 2, 1) := by decide +kernel
theorem dX3_placeFelt_20 : decode cX3_placeFelt 20 = .ok (.iload 5, 2) := by decide +kernel
theorem dX3_placeFelt_22 : decode cX3_placeFelt 22 = .ok (.invokevirtual 65, 3) := by decide +kernel
theorem dX3_placeFelt_25 : decode cX3_placeFelt 25 = .ok (.iadd, 1) := by decide +kernel
theorem dX3_placeFelt_26 : decode cX3_placeFelt 26 = .ok (.istore 4, 2) := by decide +kernel
theorem dX3_placeFelt_28 : decode cX3_placeFelt 28 = .ok (.iload 4, 2) := by decide +kernel
theorem dX3_placeFelt_30 : decode cX3_placeFelt 30 = .ok (.iload_n 3, 1) := by decide +kernel
theorem dX3_placeFelt_31 : decode cX3_placeFelt 31 = .ok (.if_icmp .lt 21, 3) := by decide +kernel
theorem dX3_placeFelt_34 : decode cX3_placeFelt 34 = .ok (.iload_n 1, 1) := by decide +kernel
theorem dX3_placeFelt_35 : decode cX3_placeFelt 35 = .ok (.iconst 3, 1) := by decide +kernel
theorem dX3_placeFelt_36 : decode cX3_placeFelt 36 = .ok (.if_icmp .ne 13, 3) := by decide +kernel
theorem dX3_placeFelt_39 : decode cX3_placeFelt 39 = .ok (.aload_n 0, 1) := by decide +kernel
theorem dX3_placeFelt_40 : decode cX3_placeFelt 40 = .ok (.getfield 29, 3) := by decide +kernel
theorem dX3_placeFelt_43 : decode cX3_placeFelt 43 = .ok (.iload 5, 2) := by decide +kernel
theorem dX3_placeFelt_45 : decode cX3_placeFelt 45 = .ok (.isub, 1) := by decide +kernel
theorem dX3_placeFelt_46 : decode cX3_placeFelt 46 = .ok (.goto 5, 3) := by decide +kernel
theorem dX3_placeFelt_49 : decode cX3_placeFelt 49 = .ok (.iload 5, 2) := by decide +kernel
theorem dX3_placeFelt_51 : decode cX3_placeFelt 51 = .ok (.ireturn, 1) := by decide +kernel
theorem dX3_placeFelt_52 : decode cX3_placeFelt 52 = .ok (.iinc 5 1, 3) := by decide +kernel
theorem dX3_placeFelt_55 : decode cX3_placeFelt 55 = .ok (.goto (-49), 3) := by decide +kernel
theorem dX3_placeFelt_58 : decode cX3_placeFelt 58 = .ok (.iconst (-1), 1) := by decide +kernel
theorem dX3_placeFelt_59 : decode cX3_placeFelt 59 = .ok (.ireturn, 1) := by decide +kernel
def fX3_placeFelt_6 (a1 : Int32) (a2 : Int32) (a3 : Int32) (o_steps : Int32) (o_hard_f : Nat → Int32)  : Nat → Int32 → Int32 → Int32
  | 0, _, _ => default
  | n + 1, v6_4, v6_5 => if o_steps < v6_5 then ((-1)) else (if (v6_4 + (fX3_felt a1 a2 v6_5 o_steps o_hard_f)) < a3 then (fX3_placeFelt_6 a1 a2 a3 o_steps o_hard_f n (v6_4 + (fX3_felt a1 a2 v6_5 o_steps o_hard_f)) (v6_5 + 1)) else (xlet (if a1 = 3 then (o_steps - v6_5) else v6_5) (fun y_1 => y_1)))
def fX3_placeFelt (a1 : Int32) (a2 : Int32) (a3 : Int32) (o_steps : Int32) (o_hard_f : Nat → Int32) : Int32 := fX3_placeFelt_6 a1 a2 a3 o_steps o_hard_f 1000 0 1
set_option maxHeartbeats 4000000 in
set_option maxRecDepth 100000 in
theorem c_X3_placeFelt (l : Launch) (D : va_G) (cI cZ : ClassId) (sz : Nat) (o : Nat) (a1 : Int32) (a2 : Int32) (a3 : Int32) (o_steps : Int32) (o_mile : Int32) (o_walkers : Int32) (o_walked : Int32) (o_hard : Nat) (o_kinds : Nat) (o_habits : Nat) (o_hard_a : Nat) (o_hard_f : Nat → Int32) (hst : o_steps.toInt ≤ 20) : Met l yX3_placeFelt wsX3_placeFelt ({ frames := 2, cells := 0, slots := 0, locals := 45 } : Room) (va_Pc [.ref o, .int a1, .int a2, .int a3] (xP D cI cZ [(o, .inr (3, [.int o_steps, .int o_mile, .int o_walkers, .int o_walked, .ref o_hard, .ref o_kinds, .ref o_habits])), (o_hard, .inr (4, [.ref o_hard_a])), (o_hard_a, .inl (cI, 21, .inl o_hard_f))] sz)) (va_Qi (fun (r : Int32) (u : Unit) => r = fX3_placeFelt a1 a2 a3 o_steps o_hard_f) (fun (u : Unit) t => xB D cI cZ [(o, .inr (3, [.int o_steps, .int o_mile, .int o_walkers, .int o_walked, .ref o_hard, .ref o_kinds, .ref o_habits])), (o_hard, .inr (4, [.ref o_hard_a])), (o_hard_a, .inl (cI, 21, .inl o_hard_f))] (va_A [(o, .inr (3, [.int o_steps, .int o_mile, .int o_walkers, .int o_walked, .ref o_hard, .ref o_kinds, .ref o_habits])), (o_hard, .inr (4, [.ref o_hard_a])), (o_hard_a, .inl (cI, 21, .inl o_hard_f))] sz) t) (va_A [(o, .inr (3, [.int o_steps, .int o_mile, .int o_walkers, .int o_walked, .ref o_hard, .ref o_kinds, .ref o_habits])), (o_hard, .inr (4, [.ref o_hard_a])), (o_hard_a, .inl (cI, 21, .inl o_hard_f))] sz)) 0 0 (va_A [(o, .inr (3, [.int o_steps, .int o_mile, .int o_walkers, .int o_walked, .ref o_hard, .ref o_kinds, .ref o_habits])), (o_hard, .inr (4, [.ref o_hard_a])), (o_hard_a, .inl (cI, 21, .inl o_hard_f))] sz) := by
  refine Met.ofW (cc := cX3_placeFelt) (maxL := 6) (ret := (some .int)) (by decide) rfl ?_
  intro p e s m args below meth c s₁ B hml hv
  obtain ⟨hargs, hsz, hP, hK, hD0, hE⟩ := hv
  subst hargs
  have hx := B.exec
  have hb := B.bytes
  have hr := B.returns
  have hts := atoms_spec (ws := wsX3_placeFelt) B.pre
  have hown : s.vm.findClass RX3 = some m.cls := findClass_of_methodNamed B.named
  have hlocks := B.notSynchronized
  subst hsz
  have hD := hD0.self (sz := s.heap.size)
  generalize hAe : va_A [(o, .inr (3, [.int o_steps, .int o_mile, .int o_walkers, .int o_walked, .ref o_hard, .ref o_kinds, .ref o_habits])), (o_hard, .inr (4, [.ref o_hard_a])), (o_hard_a, .inl (cI, 21, .inl o_hard_f))] s.heap.size = A at hD ⊢
  have hA : ∀ q : Nat, s.heap.size ≤ q → A q := fun q h => by rw [← hAe]; exact Or.inr h
  have hS : va_S A s.heap s.heap [] := va_S.rf
  have hl := lv_entry ([.ref o, .int a1, .int a2, .int a3]) (n := 6) (Nat.le_of_ble_eq_true rfl)
  rw [lg_entry_eq]
  generalize (lg_sl ([.ref o, .int a1, .int a2, .int a3]) ++ List.replicate (6 - (lg_sl ([.ref o, .int a1, .int a2, .int a3])).length) Slot.unset).toArray = ls at hl ⊢
  have hl : lv_has ls 6 [(0, .ref o), (1, .int a1), (2, .int a2), (3, .int a3)] := hl
  refine wq (X := fun Q => ∀ (pc : Nat) (H : Heap) (locs : List Loc) (ls : Array Slot) (r : Int32) (u : Unit) (hd : decode cX3_placeFelt pc = .ok (.ireturn, 1)) (hp : r = fX3_placeFelt a1 a2 a3 o_steps o_hard_f) (hP : va_P D vwCl [(o, .inr (3, [.int o_steps, .int o_mile, .int o_walkers, .int o_walked, .ref o_hard, .ref o_kinds, .ref o_habits])), (o_hard, .inr (4, [.ref o_hard_a])), (o_hard_a, .inl (cI, 21, .inl o_hard_f))] H) (hD : va_D A [(o, .inr (3, [.int o_steps, .int o_mile, .int o_walkers, .int o_walked, .ref o_hard, .ref o_kinds, .ref o_habits])), (o_hard, .inr (4, [.ref o_hard_a])), (o_hard_a, .inl (cI, 21, .inl o_hard_f))]) (hS : va_S A s.heap H locs), W p l e ({ frames := 2, cells := 0, slots := 0, locals := 45 } : Room) s m ([.ref o, .int a1, .int a2, .int a3] : List Value).toArray below meth c H locs 0 0 Q (F0 m pc ls [.int r])) ?_ (fun Q hret => ?_)
  · intro pc H locs ls r u hd hp hP hD hS
    exact W.iret (v := r) hx hb hr (fun t ht hW => ⟨⟨r, u, rfl, hp, by rw [ht]; exact hP, va_K.moved hW.alike hK, hD⟩, hS.F ht⟩) hS.2.2 hd
  have hin_3 : ∀ w ∈ u_ws RX3 TX3 7, w ∈ wsX3_placeFelt := by decide +kernel
  have fl_29 := hts (.fieldLink RX3 29 "MileRoad$Road" "steps" "I") (by decide +kernel)
  have zl_0 : (0 : Int32).toInt = 0 := by decide
  have zl_1 : (1 : Int32).toInt = 1 := by decide
  have zl_3 : (3 : Int32).toInt = 3 := by decide
  have hF : fX3_placeFelt a1 a2 a3 o_steps o_hard_f = fX3_placeFelt a1 a2 a3 o_steps o_hard_f := rfl
  have L_6 : ∀ (n : Nat) (v6_4 : Int32) (v6_5 : Int32) (h1_6 : 1 ≤ v6_5.toInt) (h2_6 : v6_5.toInt ≤ 21) (hm : 21 - v6_5.toInt < (n : Int)) (H : Heap) (locs : List Loc) (ls : Array Slot) (hl : lv_has ls 6 [(0, .ref o), (1, .int a1), (2, .int a2), (3, .int a3), (4, .int v6_4), (5, .int v6_5)]) (hP : va_P D vwCl [(o, .inr (3, [.int o_steps, .int o_mile, .int o_walkers, .int o_walked, .ref o_hard, .ref o_kinds, .ref o_habits])), (o_hard, .inr (4, [.ref o_hard_a])), (o_hard_a, .inl (cI, 21, .inl o_hard_f))] H) (hD : va_D A [(o, .inr (3, [.int o_steps, .int o_mile, .int o_walkers, .int o_walked, .ref o_hard, .ref o_kinds, .ref o_habits])), (o_hard, .inr (4, [.ref o_hard_a])), (o_hard_a, .inl (cI, 21, .inl o_hard_f))]) (hS : va_S A s.heap H locs) (hF : fX3_placeFelt a1 a2 a3 o_steps o_hard_f = fX3_placeFelt_6 a1 a2 a3 o_steps o_hard_f n v6_4 v6_5), W p l e ({ frames := 2, cells := 0, slots := 0, locals := 45 } : Room) s m ([.ref o, .int a1, .int a2, .int a3] : List Value).toArray below meth c H locs 0 0 Q (F0 m 6 ls []) := by
    intro n
    induction n with
    | zero =>
      intro v6_4 v6_5 h1_6 h2_6 hm H locs ls hl hP hD hS hF
      exact absurd hm (by omega)
    | succ n ih_6 =>
      intro v6_4 v6_5 h1_6 h2_6 hm H locs ls hl hP hD hS hF
      refine lv_iload hx hb dX3_placeFelt_6 (lv_at hl 5 rfl) ?_
      refine lv_aload_n hx hb dX3_placeFelt_8 rfl (lv_at hl 0 rfl) ?_
      refine xget hx hb hts hown hK 3 (C2 := RX3) (T := TX3) (N := 7) rfl hin_3 hP 0 rfl 0 (by decide) fl_29 rfl rfl rfl dX3_placeFelt_9 ?_
      refine lv_icmp_gt (tgt := 58) hx hb dX3_placeFelt_12 (by decide) (fun c_1 => ?_) (fun c_1 => ?_)
      · have kc_1 := t_lt c_1
        refine lv_iconst (v := (-1)) hx hb dX3_placeFelt_58 (by decide) ?_
        exact hret _ _ _ _ (-1) () dX3_placeFelt_59 ((hF.trans (by simp only [fX3_placeFelt_6, xlet, if_pos c_1])).symm) hP hD hS
      · have kc_1 := t_nlt c_1
        refine lv_iload hx hb dX3_placeFelt_15 (lv_at hl 4 rfl) ?_
        refine lv_aload_n hx hb dX3_placeFelt_17 rfl (lv_at hl 0 rfl) ?_
        refine lv_iload_n hx hb dX3_placeFelt_18 rfl (lv_at hl 1 rfl) ?_
        refine lv_iload_n hx hb dX3_placeFelt_19 rfl (lv_at hl 2 rfl) ?_
        refine lv_iload hx hb dX3_placeFelt_20 (lv_at hl 5 rfl) ?_
        refine xcalli (S := Unit) (Wc := [(o, .inr (3, [.int o_steps, .int o_mile, .int o_walkers, .int o_walked, .ref o_hard, .ref o_kinds, .ref o_habits])), (o_hard, .inr (4, [.ref o_hard_a])), (o_hard_a, .inl (cI, 21, .inl o_hard_f))]) (wr := []) (W1 := (fun (u : Unit) => [(o, .inr (3, [.int o_steps, .int o_mile, .int o_walkers, .int o_walked, .ref o_hard, .ref o_kinds, .ref o_habits])), (o_hard, .inr (4, [.ref o_hard_a])), (o_hard_a, .inl (cI, 21, .inl o_hard_f))])) (Wn := (fun (u : Unit) => [(o, .inr (3, [.int o_steps, .int o_mile, .int o_walkers, .int o_walked, .ref o_hard, .ref o_kinds, .ref o_habits])), (o_hard, .inr (4, [.ref o_hard_a])), (o_hard_a, .inl (cI, 21, .inl o_hard_f))])) (xrunV hx hb hml hown hts (c_X3_felt l D cI cZ _ o a1 a2 v6_5 o_steps o_mile o_walkers o_walked o_hard o_kinds o_habits o_hard_a o_hard_f ) (cwV 3 hts gX3_placeFelt_X3_felt rfl rfl rfl (by decide +kernel) ⟨Nat.le_of_ble_eq_true rfl, Nat.le_of_ble_eq_true rfl⟩) hE hK hP hD [0, 1, 2] rfl rfl 0 3 (T := TX3) (N := 7) rfl rfl rfl hl.1 rfl (Nat.le_of_ble_eq_true rfl) dX3_placeFelt_22 ⟨Nat.le_of_ble_eq_true rfl, Nat.le_of_ble_eq_true rfl⟩) hP hD hS hA [0, 1, 2] [] [0, 1, 2] rfl rfl rfl (by decide) (fun _ => rfl) rfl (fun r1 u H locs hw hz hP hD hS => ?_)
        subst hw
        refine lv_iadd hx hb dX3_placeFelt_25 ?_
        refine lv_istore (lv' := [(4, .int (v6_4 + (fX3_felt a1 a2 v6_5 o_steps o_hard_f))), (0, .ref o), (1, .int a1), (2, .int a2), (3, .int a3), (5, .int v6_5)]) hx hb dX3_placeFelt_26 hl (by decide) rfl (fun ls hl => ?_)
        refine lv_iload hx hb dX3_placeFelt_28 (lv_at hl 0 rfl) ?_
        refine lv_iload_n hx hb dX3_placeFelt_30 rfl (lv_at hl 4 rfl) ?_
        refine lv_icmp_lt (tgt := 52) hx hb dX3_placeFelt_31 (by decide) (fun c_2 => ?_) (fun c_2 => ?_)
        · have kc_2 := t_lt c_2
          refine lv_iinc (v := (v6_5 + 1)) (lv' := [(5, .int (v6_5 + 1)), (4, .int (v6_4 + (fX3_felt a1 a2 v6_5 o_steps o_hard_f))), (0, .ref o), (1, .int a1), (2, .int a2), (3, .int a3)]) hx hb dX3_placeFelt_52 hl (k := 5) rfl (by rfl) (by decide) rfl (fun ls hl => ?_)
          refine lv_goto (tgt := 6) hx hb dX3_placeFelt_55 (by decide) ?_
          have z_1 : (v6_5 + 1).toInt = v6_5.toInt + (1 : Int32).toInt := z_add (by omega) (by omega)
          exact ih_6 (v6_4 + (fX3_felt a1 a2 v6_5 o_steps o_hard_f)) (v6_5 + 1) (by first | assumption | omega | decide | (split <;> rename_i hh <;> first | (have h9 := t_nlt hh; omega) | (have h9 := t_lt hh; omega) | (have h9 := t_nle hh; omega) | (have h9 := t_le hh; omega))) (by first | assumption | omega | decide | (split <;> rename_i hh <;> first | (have h9 := t_nlt hh; omega) | (have h9 := t_lt hh; omega) | (have h9 := t_nle hh; omega) | (have h9 := t_le hh; omega))) (by first | assumption | omega | decide | (split <;> rename_i hh <;> first | (have h9 := t_nlt hh; omega) | (have h9 := t_lt hh; omega) | (have h9 := t_nle hh; omega) | (have h9 := t_le hh; omega))) _ _ _ (lv_sub hl [2, 3, 4, 5, 1, 0] rfl) hP hD hS (hF.trans (by simp only [fX3_placeFelt_6, xlet, if_neg c_1, if_pos c_2]))
        · have kc_2 := t_nlt c_2
          refine lv_iload_n hx hb dX3_placeFelt_34 rfl (lv_at hl 2 rfl) ?_
          refine lv_iconst (v := 3) hx hb dX3_placeFelt_35 (by decide) ?_
          have K_y_1 : ∀ (y_1 : Int32) (hy_y_1 : (if a1 = 3 then (o_steps - v6_5) else v6_5) = y_1) (H : Heap) (locs : List Loc) (hP : va_P D vwCl [(o, .inr (3, [.int o_steps, .int o_mile, .int o_walkers, .int o_walked, .ref o_hard, .ref o_kinds, .ref o_habits])), (o_hard, .inr (4, [.ref o_hard_a])), (o_hard_a, .inl (cI, 21, .inl o_hard_f))] H) (hD : va_D A [(o, .inr (3, [.int o_steps, .int o_mile, .int o_walkers, .int o_walked, .ref o_hard, .ref o_kinds, .ref o_habits])), (o_hard, .inr (4, [.ref o_hard_a])), (o_hard_a, .inl (cI, 21, .inl o_hard_f))]) (hS : va_S A s.heap H locs), W p l e ({ frames := 2, cells := 0, slots := 0, locals := 45 } : Room) s m ([.ref o, .int a1, .int a2, .int a3] : List Value).toArray below meth c H locs 0 0 Q (F0 m 51 ls [.int y_1]) := by
            intro y_1 hy_y_1 H locs hP hD hS
            have ky_y_1 : y_1 = (o_steps - v6_5) ∨ y_1 = v6_5 := by rw [← hy_y_1]; (repeat' split) <;> simp
            exact hret _ _ _ _ y_1 () dX3_placeFelt_51 ((hF.trans (by simp only [fX3_placeFelt_6, xlet, if_neg c_1, if_neg c_2, ↓hy_y_1])).symm) hP hD hS
          refine lv_icmp_ne (tgt := 49) hx hb dX3_placeFelt_36 (by decide) (fun c_3 => ?_) (fun c_3 => ?_)
          · have kc_3 := t_neq c_3
            refine lv_iload hx hb dX3_placeFelt_49 (lv_at hl 5 rfl) ?_
            exact K_y_1 _ (by simp only [xlet, if_neg c_3]) _ _ hP hD hS
          · have kc_3 := t_eq c_3
            refine lv_aload_n hx hb dX3_placeFelt_39 rfl (lv_at hl 1 rfl) ?_
            refine xget hx hb hts hown hK 3 (C2 := RX3) (T := TX3) (N := 7) rfl hin_3 hP 0 rfl 0 (by decide) fl_29 rfl rfl rfl dX3_placeFelt_40 ?_
            refine lv_iload hx hb dX3_placeFelt_43 (lv_at hl 5 rfl) ?_
            refine lv_isub hx hb dX3_placeFelt_45 ?_
            refine lv_goto (tgt := 51) hx hb dX3_placeFelt_46 (by decide) ?_
            exact K_y_1 _ (by simp only [xlet, if_pos c_3]) _ _ hP hD hS
  refine lv_iconst (v := 0) hx hb dX3_placeFelt_0 (by decide) ?_
  refine lv_istore (lv' := [(4, .int 0), (0, .ref o), (1, .int a1), (2, .int a2), (3, .int a3)]) hx hb dX3_placeFelt_1 hl (by decide) rfl (fun ls hl => ?_)
  refine lv_iconst (v := 1) hx hb dX3_placeFelt_3 (by decide) ?_
  refine lv_istore (lv' := [(5, .int 1), (4, .int 0), (0, .ref o), (1, .int a1), (2, .int a2), (3, .int a3)]) hx hb dX3_placeFelt_4 hl (by decide) rfl (fun ls hl => ?_)
  exact L_6 1000 0 1 (by first | assumption | omega | decide | (split <;> rename_i hh <;> first | (have h9 := t_nlt hh; omega) | (have h9 := t_lt hh; omega) | (have h9 := t_nle hh; omega) | (have h9 := t_le hh; omega))) (by first | assumption | omega | decide | (split <;> rename_i hh <;> first | (have h9 := t_nlt hh; omega) | (have h9 := t_lt hh; omega) | (have h9 := t_nle hh; omega) | (have h9 := t_le hh; omega))) (by first | assumption | omega | decide | (split <;> rename_i hh <;> first | (have h9 := t_nlt hh; omega) | (have h9 := t_lt hh; omega) | (have h9 := t_nle hh; omega) | (have h9 := t_le hh; omega))) _ _ _ (lv_sub hl [2, 3, 4, 5, 1, 0] rfl) hP hD hS (hF.trans (by simp only [fX3_placeFelt, xlet]))
set_option maxRecDepth 20000 in
theorem ggX3_stoneOf_X4_at : GoodIn wsX3_stoneOf wsX4_at := goodIn_r _ [8, 9, 28] (by decide +kernel) (by decide +kernel)
set_option maxRecDepth 20000 in
theorem gX3_stoneOf_X4_at : GoodIn wsX3_stoneOf (wsV RX3 61 RX4 yX4_at wsX4_at) := goodIn_app (goodIn_of _ (by decide +kernel)) ggX3_stoneOf_X4_at
set_option maxRecDepth 20000 in
theorem ggX3_stoneOf_X3_placeFelt : GoodIn wsX3_stoneOf wsX3_placeFelt := goodIn_r _ [14, 15, 16, 17, 18, 13, 19, 20, 4, 5, 6, 7, 8, 9, 21, 22, 23, 24, 25, 26, 27, 28] (by decide +kernel) (by decide +kernel)
set_option maxRecDepth 20000 in
theorem gX3_stoneOf_X3_placeFelt : GoodIn wsX3_stoneOf (wsV RX3 69 RX3 yX3_placeFelt wsX3_placeFelt) := goodIn_app (goodIn_of _ (by decide +kernel)) ggX3_stoneOf_X3_placeFelt
theorem dX3_stoneOf_0 : decode cX3_stoneOf 0 = .ok (.aload_n 0, 1) := by decide +kernel
theorem dX3_stoneOf_1 : decode cX3_stoneOf 1 = .ok (.aload_n 0, 1) := by decide +kernel
theorem dX3_stoneOf_2 : decode cX3_stoneOf 2 = .ok (.getfield 20, 3) := by decide +kernel
theorem dX3_stoneOf_5 : decode cX3_stoneOf 5 = .ok (.iload_n 1, 1) := by decide +kernel
theorem dX3_stoneOf_6 : decode cX3_stoneOf 6 = .ok (.invokevirtual 61, 3) := by decide +kernel
theorem dX3_stoneOf_9 : decode cX3_stoneOf 9 = .ok (.aload_n 0, 1) := by decide +kernel
theorem dX3_stoneOf_10 : decode cX3_stoneOf 10 = .ok (.getfield 23, 3) := by decide +kernel
theorem dX3_stoneOf_13 : decode cX3_stoneOf 13 = .ok (.iload_n 1, 1) := by decide +kernel
theorem dX3_stoneOf_14 : decode cX3_stoneOf 14 = .ok (.invokevirtual 61, 3) := by decide +kernel
theorem dX3_stoneOf_17 : decode cX3_stoneOf 17 = .ok (.iload_n 2, 1) := by decide +kernel
theorem dX3_stoneOf_18 : decode cX3_stoneOf 18 = .ok (.aload_n 0, 1) := by decide +kernel
theorem dX3_stoneOf_19 : decode cX3_stoneOf 19 = .ok (.getfield 33, 3) := by decide +kernel
theorem dX3_stoneOf_22 : decode cX3_stoneOf 22 = .ok (.imul, 1) := by decide +kernel
theorem dX3_stoneOf_23 : decode cX3_stoneOf 23 = .ok (.invokevirtual 69, 3) := by decide +kernel
theorem dX3_stoneOf_26 : decode cX3_stoneOf 26 = .ok (.ireturn, 1) := by decide +kernel
def fX3_stoneOf (a1 : Int32) (a2 : Int32) (o_steps : Int32) (o_mile : Int32) (o_kinds_f : Nat → Int32) (o_habits_f : Nat → Int32) (o_hard_f : Nat → Int32) : Int32 := (fX3_placeFelt (fX4_at a1 o_kinds_f 6) (fX4_at a1 o_habits_f 6) (a2 * o_mile) o_steps o_hard_f)
set_option maxHeartbeats 4000000 in
set_option maxRecDepth 100000 in
theorem c_X3_stoneOf (l : Launch) (D : va_G) (cI cZ : ClassId) (sz : Nat) (o : Nat) (a1 : Int32) (a2 : Int32) (o_steps : Int32) (o_mile : Int32) (o_walkers : Int32) (o_walked : Int32) (o_hard : Nat) (o_kinds : Nat) (o_habits : Nat) (o_kinds_a : Nat) (o_kinds_f : Nat → Int32) (o_habits_a : Nat) (o_habits_f : Nat → Int32) (o_hard_a : Nat) (o_hard_f : Nat → Int32) (hq1 : o_steps.toInt ≤ 20) : Met l yX3_stoneOf wsX3_stoneOf ({ frames := 3, cells := 0, slots := 0, locals := 70 } : Room) (va_Pc [.ref o, .int a1, .int a2] (xP D cI cZ [(o, .inr (3, [.int o_steps, .int o_mile, .int o_walkers, .int o_walked, .ref o_hard, .ref o_kinds, .ref o_habits])), (o_kinds, .inr (4, [.ref o_kinds_a])), (o_kinds_a, .inl (cI, 6, .inl o_kinds_f)), (o_habits, .inr (4, [.ref o_habits_a])), (o_habits_a, .inl (cI, 6, .inl o_habits_f)), (o_hard, .inr (4, [.ref o_hard_a])), (o_hard_a, .inl (cI, 21, .inl o_hard_f))] sz)) (va_Qi (fun (r : Int32) (u : Unit) => r = fX3_stoneOf a1 a2 o_steps o_mile o_kinds_f o_habits_f o_hard_f) (fun (u : Unit) t => xB D cI cZ [(o, .inr (3, [.int o_steps, .int o_mile, .int o_walkers, .int o_walked, .ref o_hard, .ref o_kinds, .ref o_habits])), (o_kinds, .inr (4, [.ref o_kinds_a])), (o_kinds_a, .inl (cI, 6, .inl o_kinds_f)), (o_habits, .inr (4, [.ref o_habits_a])), (o_habits_a, .inl (cI, 6, .inl o_habits_f)), (o_hard, .inr (4, [.ref o_hard_a])), (o_hard_a, .inl (cI, 21, .inl o_hard_f))] (va_A [(o, .inr (3, [.int o_steps, .int o_mile, .int o_walkers, .int o_walked, .ref o_hard, .ref o_kinds, .ref o_habits])), (o_kinds, .inr (4, [.ref o_kinds_a])), (o_kinds_a, .inl (cI, 6, .inl o_kinds_f)), (o_habits, .inr (4, [.ref o_habits_a])), (o_habits_a, .inl (cI, 6, .inl o_habits_f)), (o_hard, .inr (4, [.ref o_hard_a])), (o_hard_a, .inl (cI, 21, .inl o_hard_f))] sz) t) (va_A [(o, .inr (3, [.int o_steps, .int o_mile, .int o_walkers, .int o_walked, .ref o_hard, .ref o_kinds, .ref o_habits])), (o_kinds, .inr (4, [.ref o_kinds_a])), (o_kinds_a, .inl (cI, 6, .inl o_kinds_f)), (o_habits, .inr (4, [.ref o_habits_a])), (o_habits_a, .inl (cI, 6, .inl o_habits_f)), (o_hard, .inr (4, [.ref o_hard_a])), (o_hard_a, .inl (cI, 21, .inl o_hard_f))] sz)) 0 0 (va_A [(o, .inr (3, [.int o_steps, .int o_mile, .int o_walkers, .int o_walked, .ref o_hard, .ref o_kinds, .ref o_habits])), (o_kinds, .inr (4, [.ref o_kinds_a])), (o_kinds_a, .inl (cI, 6, .inl o_kinds_f)), (o_habits, .inr (4, [.ref o_habits_a])), (o_habits_a, .inl (cI, 6, .inl o_habits_f)), (o_hard, .inr (4, [.ref o_hard_a])), (o_hard_a, .inl (cI, 21, .inl o_hard_f))] sz) := by
  refine Met.ofW (cc := cX3_stoneOf) (maxL := 3) (ret := (some .int)) (by decide) rfl ?_
  intro p e s m args below meth c s₁ B hml hv
  obtain ⟨hargs, hsz, hP, hK, hD0, hE⟩ := hv
  subst hargs
  have hx := B.exec
  have hb := B.bytes
  have hr := B.returns
  have hts := atoms_spec (ws := wsX3_stoneOf) B.pre
  have hown : s.vm.findClass RX3 = some m.cls := findClass_of_methodNamed B.named
  have hlocks := B.notSynchronized
  subst hsz
  have hD := hD0.self (sz := s.heap.size)
  generalize hAe : va_A [(o, .inr (3, [.int o_steps, .int o_mile, .int o_walkers, .int o_walked, .ref o_hard, .ref o_kinds, .ref o_habits])), (o_kinds, .inr (4, [.ref o_kinds_a])), (o_kinds_a, .inl (cI, 6, .inl o_kinds_f)), (o_habits, .inr (4, [.ref o_habits_a])), (o_habits_a, .inl (cI, 6, .inl o_habits_f)), (o_hard, .inr (4, [.ref o_hard_a])), (o_hard_a, .inl (cI, 21, .inl o_hard_f))] s.heap.size = A at hD ⊢
  have hA : ∀ q : Nat, s.heap.size ≤ q → A q := fun q h => by rw [← hAe]; exact Or.inr h
  have hS : va_S A s.heap s.heap [] := va_S.rf
  have hl := lv_entry ([.ref o, .int a1, .int a2]) (n := 3) (Nat.le_of_ble_eq_true rfl)
  rw [lg_entry_eq]
  generalize (lg_sl ([.ref o, .int a1, .int a2]) ++ List.replicate (3 - (lg_sl ([.ref o, .int a1, .int a2])).length) Slot.unset).toArray = ls at hl ⊢
  have hl : lv_has ls 3 [(0, .ref o), (1, .int a1), (2, .int a2)] := hl
  refine wq (X := fun Q => ∀ (pc : Nat) (H : Heap) (locs : List Loc) (ls : Array Slot) (r : Int32) (u : Unit) (hd : decode cX3_stoneOf pc = .ok (.ireturn, 1)) (hp : r = fX3_stoneOf a1 a2 o_steps o_mile o_kinds_f o_habits_f o_hard_f) (hP : va_P D vwCl [(o, .inr (3, [.int o_steps, .int o_mile, .int o_walkers, .int o_walked, .ref o_hard, .ref o_kinds, .ref o_habits])), (o_kinds, .inr (4, [.ref o_kinds_a])), (o_kinds_a, .inl (cI, 6, .inl o_kinds_f)), (o_habits, .inr (4, [.ref o_habits_a])), (o_habits_a, .inl (cI, 6, .inl o_habits_f)), (o_hard, .inr (4, [.ref o_hard_a])), (o_hard_a, .inl (cI, 21, .inl o_hard_f))] H) (hD : va_D A [(o, .inr (3, [.int o_steps, .int o_mile, .int o_walkers, .int o_walked, .ref o_hard, .ref o_kinds, .ref o_habits])), (o_kinds, .inr (4, [.ref o_kinds_a])), (o_kinds_a, .inl (cI, 6, .inl o_kinds_f)), (o_habits, .inr (4, [.ref o_habits_a])), (o_habits_a, .inl (cI, 6, .inl o_habits_f)), (o_hard, .inr (4, [.ref o_hard_a])), (o_hard_a, .inl (cI, 21, .inl o_hard_f))]) (hS : va_S A s.heap H locs), W p l e ({ frames := 3, cells := 0, slots := 0, locals := 70 } : Room) s m ([.ref o, .int a1, .int a2] : List Value).toArray below meth c H locs 0 0 Q (F0 m pc ls [.int r])) ?_ (fun Q hret => ?_)
  · intro pc H locs ls r u hd hp hP hD hS
    exact W.iret (v := r) hx hb hr (fun t ht hW => ⟨⟨r, u, rfl, hp, by rw [ht]; exact hP, va_K.moved hW.alike hK, hD⟩, hS.F ht⟩) hS.2.2 hd
  have hin_3 : ∀ w ∈ u_ws RX3 TX3 7, w ∈ wsX3_stoneOf := by decide +kernel
  have fl_20 := hts (.fieldLink RX3 20 "MileRoad$Road" "kinds" "LMileRoad$Row;") (by decide +kernel)
  have fl_23 := hts (.fieldLink RX3 23 "MileRoad$Road" "habits" "LMileRoad$Row;") (by decide +kernel)
  have fl_33 := hts (.fieldLink RX3 33 "MileRoad$Road" "mile" "I") (by decide +kernel)
  have hF : fX3_stoneOf a1 a2 o_steps o_mile o_kinds_f o_habits_f o_hard_f = fX3_stoneOf a1 a2 o_steps o_mile o_kinds_f o_habits_f o_hard_f := rfl
  refine lv_aload_n hx hb dX3_stoneOf_0 rfl (lv_at hl 0 rfl) ?_
  refine lv_aload_n hx hb dX3_stoneOf_1 rfl (lv_at hl 0 rfl) ?_
  refine xget hx hb hts hown hK 3 (C2 := RX3) (T := TX3) (N := 7) rfl hin_3 hP 0 rfl 5 (by decide) fl_20 rfl rfl rfl dX3_stoneOf_2 ?_
  refine lv_iload_n hx hb dX3_stoneOf_5 rfl (lv_at hl 1 rfl) ?_
  refine xcalli (S := Unit) (Wc := [(o_kinds, .inr (4, [.ref o_kinds_a])), (o_kinds_a, .inl (cI, 6, .inl o_kinds_f))]) (wr := [(o, .inr (3, [.int o_steps, .int o_mile, .int o_walkers, .int o_walked, .ref o_hard, .ref o_kinds, .ref o_habits])), (o_habits, .inr (4, [.ref o_habits_a])), (o_habits_a, .inl (cI, 6, .inl o_habits_f)), (o_hard, .inr (4, [.ref o_hard_a])), (o_hard_a, .inl (cI, 21, .inl o_hard_f))]) (W1 := (fun (u : Unit) => [(o_kinds, .inr (4, [.ref o_kinds_a])), (o_kinds_a, .inl (cI, 6, .inl o_kinds_f))])) (Wn := (fun (u : Unit) => [(o, .inr (3, [.int o_steps, .int o_mile, .int o_walkers, .int o_walked, .ref o_hard, .ref o_kinds, .ref o_habits])), (o_kinds, .inr (4, [.ref o_kinds_a])), (o_kinds_a, .inl (cI, 6, .inl o_kinds_f)), (o_habits, .inr (4, [.ref o_habits_a])), (o_habits_a, .inl (cI, 6, .inl o_habits_f)), (o_hard, .inr (4, [.ref o_hard_a])), (o_hard_a, .inl (cI, 21, .inl o_hard_f))])) (xrunV hx hb hml hown hts (c_X4_at l D cI cZ _ o_kinds a1 o_kinds_a o_kinds_f 6 (by decide)) (cwV 1 hts gX3_stoneOf_X4_at rfl rfl rfl (by decide +kernel) ⟨Nat.le_of_ble_eq_true rfl, Nat.le_of_ble_eq_true rfl⟩) hE hK hP hD [1, 2] rfl rfl 0 4 (T := TX4) (N := 1) rfl rfl rfl hl.1 rfl (Nat.le_of_ble_eq_true rfl) dX3_stoneOf_6 ⟨Nat.le_of_ble_eq_true rfl, Nat.le_of_ble_eq_true rfl⟩) hP hD hS hA [1, 2] [0, 3, 4, 5, 6] [0, 5, 6, 1, 2, 3, 4] rfl rfl rfl (by decide) (fun _ => rfl) rfl (fun r1 u H locs hw hz hP hD hS => ?_)
  subst hw
  refine lv_aload_n hx hb dX3_stoneOf_9 rfl (lv_at hl 0 rfl) ?_
  refine xget hx hb hts hown hK 3 (C2 := RX3) (T := TX3) (N := 7) rfl hin_3 hP 0 rfl 6 (by decide) fl_23 rfl rfl rfl dX3_stoneOf_10 ?_
  refine lv_iload_n hx hb dX3_stoneOf_13 rfl (lv_at hl 1 rfl) ?_
  refine xcalli (S := Unit) (Wc := [(o_habits, .inr (4, [.ref o_habits_a])), (o_habits_a, .inl (cI, 6, .inl o_habits_f))]) (wr := [(o, .inr (3, [.int o_steps, .int o_mile, .int o_walkers, .int o_walked, .ref o_hard, .ref o_kinds, .ref o_habits])), (o_kinds, .inr (4, [.ref o_kinds_a])), (o_kinds_a, .inl (cI, 6, .inl o_kinds_f)), (o_hard, .inr (4, [.ref o_hard_a])), (o_hard_a, .inl (cI, 21, .inl o_hard_f))]) (W1 := (fun (u : Unit) => [(o_habits, .inr (4, [.ref o_habits_a])), (o_habits_a, .inl (cI, 6, .inl o_habits_f))])) (Wn := (fun (u : Unit) => [(o, .inr (3, [.int o_steps, .int o_mile, .int o_walkers, .int o_walked, .ref o_hard, .ref o_kinds, .ref o_habits])), (o_kinds, .inr (4, [.ref o_kinds_a])), (o_kinds_a, .inl (cI, 6, .inl o_kinds_f)), (o_habits, .inr (4, [.ref o_habits_a])), (o_habits_a, .inl (cI, 6, .inl o_habits_f)), (o_hard, .inr (4, [.ref o_hard_a])), (o_hard_a, .inl (cI, 21, .inl o_hard_f))])) (xrunV hx hb hml hown hts (c_X4_at l D cI cZ _ o_habits a1 o_habits_a o_habits_f 6 (by decide)) (cwV 1 hts gX3_stoneOf_X4_at rfl rfl rfl (by decide +kernel) ⟨Nat.le_of_ble_eq_true rfl, Nat.le_of_ble_eq_true rfl⟩) hE hK hP hD [3, 4] rfl rfl 0 4 (T := TX4) (N := 1) rfl rfl rfl hl.1 rfl (Nat.le_of_ble_eq_true rfl) dX3_stoneOf_14 ⟨Nat.le_of_ble_eq_true rfl, Nat.le_of_ble_eq_true rfl⟩) hP hD hS hA [3, 4] [0, 1, 2, 5, 6] [0, 1, 2, 5, 6, 3, 4] rfl rfl rfl (by decide) (fun _ => rfl) rfl (fun r2 u H locs hw hz hP hD hS => ?_)
  subst hw
  refine lv_iload_n hx hb dX3_stoneOf_17 rfl (lv_at hl 2 rfl) ?_
  refine lv_aload_n hx hb dX3_stoneOf_18 rfl (lv_at hl 0 rfl) ?_
  refine xget hx hb hts hown hK 3 (C2 := RX3) (T := TX3) (N := 7) rfl hin_3 hP 0 rfl 1 (by decide) fl_33 rfl rfl rfl dX3_stoneOf_19 ?_
  refine lv_imul hx hb dX3_stoneOf_22 ?_
  refine xcalli (S := Unit) (Wc := [(o, .inr (3, [.int o_steps, .int o_mile, .int o_walkers, .int o_walked, .ref o_hard, .ref o_kinds, .ref o_habits])), (o_hard, .inr (4, [.ref o_hard_a])), (o_hard_a, .inl (cI, 21, .inl o_hard_f))]) (wr := [(o_kinds, .inr (4, [.ref o_kinds_a])), (o_kinds_a, .inl (cI, 6, .inl o_kinds_f)), (o_habits, .inr (4, [.ref o_habits_a])), (o_habits_a, .inl (cI, 6, .inl o_habits_f))]) (W1 := (fun (u : Unit) => [(o, .inr (3, [.int o_steps, .int o_mile, .int o_walkers, .int o_walked, .ref o_hard, .ref o_kinds, .ref o_habits])), (o_hard, .inr (4, [.ref o_hard_a])), (o_hard_a, .inl (cI, 21, .inl o_hard_f))])) (Wn := (fun (u : Unit) => [(o, .inr (3, [.int o_steps, .int o_mile, .int o_walkers, .int o_walked, .ref o_hard, .ref o_kinds, .ref o_habits])), (o_kinds, .inr (4, [.ref o_kinds_a])), (o_kinds_a, .inl (cI, 6, .inl o_kinds_f)), (o_habits, .inr (4, [.ref o_habits_a])), (o_habits_a, .inl (cI, 6, .inl o_habits_f)), (o_hard, .inr (4, [.ref o_hard_a])), (o_hard_a, .inl (cI, 21, .inl o_hard_f))])) (xrunV hx hb hml hown hts (c_X3_placeFelt l D cI cZ _ o (fX4_at a1 o_kinds_f 6) (fX4_at a1 o_habits_f 6) (a2 * o_mile) o_steps o_mile o_walkers o_walked o_hard o_kinds o_habits o_hard_a o_hard_f hq1) (cwV 3 hts gX3_stoneOf_X3_placeFelt rfl rfl rfl (by decide +kernel) ⟨Nat.le_of_ble_eq_true rfl, Nat.le_of_ble_eq_true rfl⟩) hE hK hP hD [0, 5, 6] rfl rfl 0 3 (T := TX3) (N := 7) rfl rfl rfl hl.1 rfl (Nat.le_of_ble_eq_true rfl) dX3_stoneOf_23 ⟨Nat.le_of_ble_eq_true rfl, Nat.le_of_ble_eq_true rfl⟩) hP hD hS hA [0, 5, 6] [1, 2, 3, 4] [4, 0, 1, 2, 3, 5, 6] rfl rfl rfl (by decide) (fun _ => rfl) rfl (fun r3 u H locs hw hz hP hD hS => ?_)
  subst hw
  exact hret _ _ _ _ (fX3_placeFelt (fX4_at a1 o_kinds_f 6) (fX4_at a1 o_habits_f 6) (a2 * o_mile) o_steps o_hard_f) () dX3_stoneOf_26 ((hF.trans (by simp only [fX3_stoneOf, xlet])).symm) hP hD hS
set_option maxRecDepth 20000 in
theorem ggX3_stonesOf_X3_allFeltBy : GoodIn wsX3_stonesOf wsX3_allFeltBy := goodIn_r _ [10, 11, 12, 13, 14, 15, 16, 17, 18, 19, 20, 21, 22, 9, 23, 24, 25, 26, 27, 28, 29, 30, 31, 32] (by decide +kernel) (by decide +kernel)
set_option maxRecDepth 20000 in
theorem gX3_stonesOf_X3_allFeltBy : GoodIn wsX3_stonesOf (wsV RX3 72 RX3 yX3_allFeltBy wsX3_allFeltBy) := goodIn_app (goodIn_of _ (by decide +kernel)) ggX3_stonesOf_X3_allFeltBy
theorem dX3_stonesOf_0 : decode cX3_stonesOf 0 = .ok (.aload_n 0, 1) := by decide +kernel
theorem dX3_stonesOf_1 : decode cX3_stonesOf 1 = .ok (.getfield 33, 3) := by decide +kernel
theorem dX3_stonesOf_4 : decode cX3_stonesOf 4 = .ok (.ifCond .gt 7, 3) := by decide +kernel
theorem dX3_stonesOf_7 : decode cX3_stonesOf 7 = .ok (.iconst 0, 1) := by decide +kernel
theorem dX3_stonesOf_8 : decode cX3_stonesOf 8 = .ok (.goto 18, 3) := by decide +kernel
theorem dX3_stonesOf_11 : decode cX3_stonesOf 11 = .ok (.bipush 8, 2) := by decide +kernel
theorem dX3_stonesOf_13 : decode cX3_stonesOf 13 = .ok (.aload_n 0, 1) := by decide +kernel
theorem dX3_stonesOf_14 : decode cX3_stonesOf 14 = .ok (.iload_n 1, 1) := by decide +kernel
theorem dX3_stonesOf_15 : decode cX3_stonesOf 15 = .ok (.invokevirtual 72, 3) := by decide +kernel
theorem dX3_stonesOf_18 : decode cX3_stonesOf 18 = .ok (.aload_n 0, 1) := by decide +kernel
theorem dX3_stonesOf_19 : decode cX3_stonesOf 19 = .ok (.getfield 33, 3) := by decide +kernel
theorem dX3_stonesOf_22 : decode cX3_stonesOf 22 = .ok (.idiv, 1) := by decide +kernel
theorem dX3_stonesOf_23 : decode cX3_stonesOf 23 = .ok (.invokestatic 75, 3) := by decide +kernel
theorem dX3_stonesOf_26 : decode cX3_stonesOf 26 = .ok (.ireturn, 1) := by decide +kernel
def fX3_stonesOf (a1 : Int32) (o_steps : Int32) (o_mile : Int32) (o_kinds_f : Nat → Int32) (o_habits_f : Nat → Int32) (o_hard_f : Nat → Int32) : Int32 := xlet (if 0 < o_mile then (if ((fX3_allFeltBy a1 o_steps o_kinds_f o_habits_f o_hard_f) / o_mile) < 8 then ((fX3_allFeltBy a1 o_steps o_kinds_f o_habits_f o_hard_f) / o_mile) else 8) else 0) (fun y_1 => y_1)
set_option maxHeartbeats 4000000 in
set_option maxRecDepth 100000 in
theorem c_X3_stonesOf (l : Launch) (D : va_G) (cI cZ : ClassId) (sz : Nat) (o : Nat) (a1 : Int32) (o_steps : Int32) (o_mile : Int32) (o_walkers : Int32) (o_walked : Int32) (o_hard : Nat) (o_kinds : Nat) (o_habits : Nat) (o_kinds_a : Nat) (o_kinds_f : Nat → Int32) (o_habits_a : Nat) (o_habits_f : Nat → Int32) (o_hard_a : Nat) (o_hard_f : Nat → Int32) (hq1 : o_steps.toInt ≤ 20) : Met l yX3_stonesOf wsX3_stonesOf ({ frames := 3, cells := 0, slots := 0, locals := 68 } : Room) (va_Pc [.ref o, .int a1] (xP D cI cZ [(o, .inr (3, [.int o_steps, .int o_mile, .int o_walkers, .int o_walked, .ref o_hard, .ref o_kinds, .ref o_habits])), (o_kinds, .inr (4, [.ref o_kinds_a])), (o_kinds_a, .inl (cI, 6, .inl o_kinds_f)), (o_habits, .inr (4, [.ref o_habits_a])), (o_habits_a, .inl (cI, 6, .inl o_habits_f)), (o_hard, .inr (4, [.ref o_hard_a])), (o_hard_a, .inl (cI, 21, .inl o_hard_f))] sz)) (va_Qi (fun (r : Int32) (u : Unit) => r = fX3_stonesOf a1 o_steps o_mile o_kinds_f o_habits_f o_hard_f) (fun (u : Unit) t => xB D cI cZ [(o, .inr (3, [.int o_steps, .int o_mile, .int o_walkers, .int o_walked, .ref o_hard, .ref o_kinds, .ref o_habits])), (o_kinds, .inr (4, [.ref o_kinds_a])), (o_kinds_a, .inl (cI, 6, .inl o_kinds_f)), (o_habits, .inr (4, [.ref o_habits_a])), (o_habits_a, .inl (cI, 6, .inl o_habits_f)), (o_hard, .inr (4, [.ref o_hard_a])), (o_hard_a, .inl (cI, 21, .inl o_hard_f))] (va_A [(o, .inr (3, [.int o_steps, .int o_mile, .int o_walkers, .int o_walked, .ref o_hard, .ref o_kinds, .ref o_habits])), (o_kinds, .inr (4, [.ref o_kinds_a])), (o_kinds_a, .inl (cI, 6, .inl o_kinds_f)), (o_habits, .inr (4, [.ref o_habits_a])), (o_habits_a, .inl (cI, 6, .inl o_habits_f)), (o_hard, .inr (4, [.ref o_hard_a])), (o_hard_a, .inl (cI, 21, .inl o_hard_f))] sz) t) (va_A [(o, .inr (3, [.int o_steps, .int o_mile, .int o_walkers, .int o_walked, .ref o_hard, .ref o_kinds, .ref o_habits])), (o_kinds, .inr (4, [.ref o_kinds_a])), (o_kinds_a, .inl (cI, 6, .inl o_kinds_f)), (o_habits, .inr (4, [.ref o_habits_a])), (o_habits_a, .inl (cI, 6, .inl o_habits_f)), (o_hard, .inr (4, [.ref o_hard_a])), (o_hard_a, .inl (cI, 21, .inl o_hard_f))] sz)) 0 0 (va_A [(o, .inr (3, [.int o_steps, .int o_mile, .int o_walkers, .int o_walked, .ref o_hard, .ref o_kinds, .ref o_habits])), (o_kinds, .inr (4, [.ref o_kinds_a])), (o_kinds_a, .inl (cI, 6, .inl o_kinds_f)), (o_habits, .inr (4, [.ref o_habits_a])), (o_habits_a, .inl (cI, 6, .inl o_habits_f)), (o_hard, .inr (4, [.ref o_hard_a])), (o_hard_a, .inl (cI, 21, .inl o_hard_f))] sz) := by
  refine Met.ofW (cc := cX3_stonesOf) (maxL := 2) (ret := (some .int)) (by decide) rfl ?_
  intro p e s m args below meth c s₁ B hml hv
  obtain ⟨hargs, hsz, hP, hK, hD0, hE⟩ := hv
  subst hargs
  have hx := B.exec
  have hb := B.bytes
  have hr := B.returns
  have hts := atoms_spec (ws := wsX3_stonesOf) B.pre
  have hown : s.vm.findClass RX3 = some m.cls := findClass_of_methodNamed B.named
  have hlocks := B.notSynchronized
  subst hsz
  have hD := hD0.self (sz := s.heap.size)
  generalize hAe : va_A [(o, .inr (3, [.int o_steps, .int o_mile, .int o_walkers, .int o_walked, .ref o_hard, .ref o_kinds, .ref o_habits])), (o_kinds, .inr (4, [.ref o_kinds_a])), (o_kinds_a, .inl (cI, 6, .inl o_kinds_f)), (o_habits, .inr (4, [.ref o_habits_a])), (o_habits_a, .inl (cI, 6, .inl o_habits_f)), (o_hard, .inr (4, [.ref o_hard_a])), (o_hard_a, .inl (cI, 21, .inl o_hard_f))] s.heap.size = A at hD ⊢
  have hA : ∀ q : Nat, s.heap.size ≤ q → A q := fun q h => by rw [← hAe]; exact Or.inr h
  have hS : va_S A s.heap s.heap [] := va_S.rf
  have hl := lv_entry ([.ref o, .int a1]) (n := 2) (Nat.le_of_ble_eq_true rfl)
  rw [lg_entry_eq]
  generalize (lg_sl ([.ref o, .int a1]) ++ List.replicate (2 - (lg_sl ([.ref o, .int a1])).length) Slot.unset).toArray = ls at hl ⊢
  have hl : lv_has ls 2 [(0, .ref o), (1, .int a1)] := hl
  refine wq (X := fun Q => ∀ (pc : Nat) (H : Heap) (locs : List Loc) (ls : Array Slot) (r : Int32) (u : Unit) (hd : decode cX3_stonesOf pc = .ok (.ireturn, 1)) (hp : r = fX3_stonesOf a1 o_steps o_mile o_kinds_f o_habits_f o_hard_f) (hP : va_P D vwCl [(o, .inr (3, [.int o_steps, .int o_mile, .int o_walkers, .int o_walked, .ref o_hard, .ref o_kinds, .ref o_habits])), (o_kinds, .inr (4, [.ref o_kinds_a])), (o_kinds_a, .inl (cI, 6, .inl o_kinds_f)), (o_habits, .inr (4, [.ref o_habits_a])), (o_habits_a, .inl (cI, 6, .inl o_habits_f)), (o_hard, .inr (4, [.ref o_hard_a])), (o_hard_a, .inl (cI, 21, .inl o_hard_f))] H) (hD : va_D A [(o, .inr (3, [.int o_steps, .int o_mile, .int o_walkers, .int o_walked, .ref o_hard, .ref o_kinds, .ref o_habits])), (o_kinds, .inr (4, [.ref o_kinds_a])), (o_kinds_a, .inl (cI, 6, .inl o_kinds_f)), (o_habits, .inr (4, [.ref o_habits_a])), (o_habits_a, .inl (cI, 6, .inl o_habits_f)), (o_hard, .inr (4, [.ref o_hard_a])), (o_hard_a, .inl (cI, 21, .inl o_hard_f))]) (hS : va_S A s.heap H locs), W p l e ({ frames := 3, cells := 0, slots := 0, locals := 68 } : Room) s m ([.ref o, .int a1] : List Value).toArray below meth c H locs 0 0 Q (F0 m pc ls [.int r])) ?_ (fun Q hret => ?_)
  · intro pc H locs ls r u hd hp hP hD hS
    exact W.iret (v := r) hx hb hr (fun t ht hW => ⟨⟨r, u, rfl, hp, by rw [ht]; exact hP, va_K.moved hW.alike hK, hD⟩, hS.F ht⟩) hS.2.2 hd
  have hin_3 : ∀ w ∈ u_ws RX3 TX3 7, w ∈ wsX3_stonesOf := by decide +kernel
  have fl_33 := hts (.fieldLink RX3 33 "MileRoad$Road" "mile" "I") (by decide +kernel)
  have zl_0 : (0 : Int32).toInt = 0 := by decide
  have hF : fX3_stonesOf a1 o_steps o_mile o_kinds_f o_habits_f o_hard_f = fX3_stonesOf a1 o_steps o_mile o_kinds_f o_habits_f o_hard_f := rfl
  refine lv_aload_n hx hb dX3_stonesOf_0 rfl (lv_at hl 0 rfl) ?_
  refine xget hx hb hts hown hK 3 (C2 := RX3) (T := TX3) (N := 7) rfl hin_3 hP 0 rfl 1 (by decide) fl_33 rfl rfl rfl dX3_stonesOf_1 ?_
  have K_y_1 : ∀ (y_1 : Int32) (hy_y_1 : (if 0 < o_mile then (if ((fX3_allFeltBy a1 o_steps o_kinds_f o_habits_f o_hard_f) / o_mile) < 8 then ((fX3_allFeltBy a1 o_steps o_kinds_f o_habits_f o_hard_f) / o_mile) else 8) else 0) = y_1) (H : Heap) (locs : List Loc) (hP : va_P D vwCl [(o, .inr (3, [.int o_steps, .int o_mile, .int o_walkers, .int o_walked, .ref o_hard, .ref o_kinds, .ref o_habits])), (o_kinds, .inr (4, [.ref o_kinds_a])), (o_kinds_a, .inl (cI, 6, .inl o_kinds_f)), (o_habits, .inr (4, [.ref o_habits_a])), (o_habits_a, .inl (cI, 6, .inl o_habits_f)), (o_hard, .inr (4, [.ref o_hard_a])), (o_hard_a, .inl (cI, 21, .inl o_hard_f))] H) (hD : va_D A [(o, .inr (3, [.int o_steps, .int o_mile, .int o_walkers, .int o_walked, .ref o_hard, .ref o_kinds, .ref o_habits])), (o_kinds, .inr (4, [.ref o_kinds_a])), (o_kinds_a, .inl (cI, 6, .inl o_kinds_f)), (o_habits, .inr (4, [.ref o_habits_a])), (o_habits_a, .inl (cI, 6, .inl o_habits_f)), (o_hard, .inr (4, [.ref o_hard_a])), (o_hard_a, .inl (cI, 21, .inl o_hard_f))]) (hS : va_S A s.heap H locs), W p l e ({ frames := 3, cells := 0, slots := 0, locals := 68 } : Room) s m ([.ref o, .int a1] : List Value).toArray below meth c H locs 0 0 Q (F0 m 26 ls [.int y_1]) := by
    intro y_1 hy_y_1 H locs hP hD hS
    have ky_y_1 : y_1 = (if ((fX3_allFeltBy a1 o_steps o_kinds_f o_habits_f o_hard_f) / o_mile) < 8 then ((fX3_allFeltBy a1 o_steps o_kinds_f o_habits_f o_hard_f) / o_mile) else 8) ∨ y_1 = 0 := by rw [← hy_y_1]; (repeat' split) <;> simp
    exact hret _ _ _ _ y_1 () dX3_stonesOf_26 ((hF.trans (by simp only [fX3_stonesOf, xlet, ↓hy_y_1])).symm) hP hD hS
  refine lv_if_gt (tgt := 11) hx hb dX3_stonesOf_4 (by decide) (fun c_1 => ?_) (fun c_1 => ?_)
  · have kc_1 := t_lt c_1
    refine lv_bipush (v := 8) hx hb dX3_stonesOf_11 (by decide) ?_
    refine lv_aload_n hx hb dX3_stonesOf_13 rfl (lv_at hl 0 rfl) ?_
    refine lv_iload_n hx hb dX3_stonesOf_14 rfl (lv_at hl 1 rfl) ?_
    refine xcalli (S := Unit) (Wc := [(o, .inr (3, [.int o_steps, .int o_mile, .int o_walkers, .int o_walked, .ref o_hard, .ref o_kinds, .ref o_habits])), (o_kinds, .inr (4, [.ref o_kinds_a])), (o_kinds_a, .inl (cI, 6, .inl o_kinds_f)), (o_habits, .inr (4, [.ref o_habits_a])), (o_habits_a, .inl (cI, 6, .inl o_habits_f)), (o_hard, .inr (4, [.ref o_hard_a])), (o_hard_a, .inl (cI, 21, .inl o_hard_f))]) (wr := []) (W1 := (fun (u : Unit) => [(o, .inr (3, [.int o_steps, .int o_mile, .int o_walkers, .int o_walked, .ref o_hard, .ref o_kinds, .ref o_habits])), (o_kinds, .inr (4, [.ref o_kinds_a])), (o_kinds_a, .inl (cI, 6, .inl o_kinds_f)), (o_habits, .inr (4, [.ref o_habits_a])), (o_habits_a, .inl (cI, 6, .inl o_habits_f)), (o_hard, .inr (4, [.ref o_hard_a])), (o_hard_a, .inl (cI, 21, .inl o_hard_f))])) (Wn := (fun (u : Unit) => [(o, .inr (3, [.int o_steps, .int o_mile, .int o_walkers, .int o_walked, .ref o_hard, .ref o_kinds, .ref o_habits])), (o_kinds, .inr (4, [.ref o_kinds_a])), (o_kinds_a, .inl (cI, 6, .inl o_kinds_f)), (o_habits, .inr (4, [.ref o_habits_a])), (o_habits_a, .inl (cI, 6, .inl o_habits_f)), (o_hard, .inr (4, [.ref o_hard_a])), (o_hard_a, .inl (cI, 21, .inl o_hard_f))])) (xrunV hx hb hml hown hts (c_X3_allFeltBy l D cI cZ _ o a1 o_steps o_mile o_walkers o_walked o_hard o_kinds o_habits o_kinds_a o_kinds_f o_habits_a o_habits_f o_hard_a o_hard_f hq1) (cwV 1 hts gX3_stonesOf_X3_allFeltBy rfl rfl rfl (by decide +kernel) ⟨Nat.le_of_ble_eq_true rfl, Nat.le_of_ble_eq_true rfl⟩) hE hK hP hD [0, 1, 2, 3, 4, 5, 6] rfl rfl 0 3 (T := TX3) (N := 7) rfl rfl rfl hl.1 rfl (Nat.le_of_ble_eq_true rfl) dX3_stonesOf_15 ⟨Nat.le_of_ble_eq_true rfl, Nat.le_of_ble_eq_true rfl⟩) hP hD hS hA [0, 1, 2, 3, 4, 5, 6] [] [0, 1, 2, 3, 4, 5, 6] rfl rfl rfl (by decide) (fun _ => rfl) rfl (fun r1 u H locs hw hz hP hD hS => ?_)
    subst hw
    refine lv_aload_n hx hb dX3_stonesOf_18 rfl (lv_at hl 0 rfl) ?_
    refine xget hx hb hts hown hK 3 (C2 := RX3) (T := TX3) (N := 7) rfl hin_3 hP 0 rfl 1 (by decide) fl_33 rfl rfl rfl dX3_stonesOf_19 ?_
    refine lv_idiv hx hb dX3_stonesOf_22 (by first | assumption | (intro h0; have h1 := t_eq h0; omega)) ?_
    refine va_mmin hx hb (hml.trans hl.1.symm) hown (hts (.methodLink RX3 75 Lib.Math.min.name) (by decide +kernel)) (hts (.static Lib.Math.min.name) (by decide +kernel)) (hts (.initialized "java/lang/Math") (by decide +kernel)) (hts (.code Lib.Math.min.name Lib.Math.min.code 2 (some .int)) (by decide +kernel)) (Nat.le_of_ble_eq_true rfl) (Nat.le_of_ble_eq_true rfl) (Nat.zero_le _) (Nat.zero_le _) dX3_stonesOf_23 ?_
    exact K_y_1 _ (by simp only [xlet, if_pos c_1]) _ _ hP hD hS
  · have kc_1 := t_nlt c_1
    refine lv_iconst (v := 0) hx hb dX3_stonesOf_7 (by decide) ?_
    refine lv_goto (tgt := 26) hx hb dX3_stonesOf_8 (by decide) ?_
    exact K_y_1 _ (by simp only [xlet, if_neg c_1]) _ _ hP hD hS
