set_option maxRecDepth 20000 in
theorem ggX5_add_X4_put : GoodIn wsX5_add wsX4_put := goodIn_r _ [9, 10, 15] (by decide +kernel) (by decide +kernel)
set_option maxRecDepth 20000 in
theorem gX5_add_X4_put : GoodIn wsX5_add (wsV RX5 30 RX4 yX4_put wsX4_put) := goodIn_app (goodIn_of _ (by decide +kernel)) ggX5_add_X4_put
theorem dX5_add_0 : decode cX5_add 0 = .ok (.aload_n 0, 1) := by decide +kernel
theorem dX5_add_1 : decode cX5_add 1 = .ok (.getfield 14, 3) := by decide +kernel
theorem dX5_add_4 : decode cX5_add 4 = .ok (.aload_n 0, 1) := by decide +kernel
theorem dX5_add_5 : decode cX5_add 5 = .ok (.getfield 26, 3) := by decide +kernel
theorem dX5_add_8 : decode cX5_add 8 = .ok (.iload_n 1, 1) := by decide +kernel
theorem dX5_add_9 : decode cX5_add 9 = .ok (.invokevirtual 30, 3) := by decide +kernel
theorem dX5_add_12 : decode cX5_add 12 = .ok (.aload_n 0, 1) := by decide +kernel
theorem dX5_add_13 : decode cX5_add 13 = .ok (.getfield 20, 3) := by decide +kernel
theorem dX5_add_16 : decode cX5_add 16 = .ok (.aload_n 0, 1) := by decide +kernel
theorem dX5_add_17 : decode cX5_add 17 = .ok (.getfield 26, 3) := by decide +kernel
theorem dX5_add_20 : decode cX5_add 20 = .ok (.iload_n 2, 1) := by decide +kernel
theorem dX5_add_21 : decode cX5_add 21 = .ok (.invokevirtual 30, 3) := by decide +kernel
theorem dX5_add_24 : decode cX5_add 24 = .ok (.aload_n 0, 1) := by decide +kernel
theorem dX5_add_25 : decode cX5_add 25 = .ok (.getfield 23, 3) := by decide +kernel
theorem dX5_add_28 : decode cX5_add 28 = .ok (.aload_n 0, 1) := by decide +kernel
theorem dX5_add_29 : decode cX5_add 29 = .ok (.getfield 26, 3) := by decide +kernel
theorem dX5_add_32 : decode cX5_add 32 = .ok (.iload_n 3, 1) := by decide +kernel
theorem dX5_add_33 : decode cX5_add 33 = .ok (.invokevirtual 30, 3) := by decide +kernel
theorem dX5_add_36 : decode cX5_add 36 = .ok (.aload_n 0, 1) := by decide +kernel
theorem dX5_add_37 : decode cX5_add 37 = .ok (.dup, 1) := by decide +kernel
theorem dX5_add_38 : decode cX5_add 38 = .ok (.getfield 26, 3) := by decide +kernel
theorem dX5_add_41 : decode cX5_add 41 = .ok (.iconst 1, 1) := by decide +kernel
theorem dX5_add_42 : decode cX5_add 42 = .ok (.iadd, 1) := by decide +kernel
theorem dX5_add_43 : decode cX5_add 43 = .ok (.putfield 26, 3) := by decide +kernel
theorem dX5_add_46 : decode cX5_add 46 = .ok (.return_, 1) := by decide +kernel
def fX5_add (a1 : Int32) (a2 : Int32) (a3 : Int32) (o_held : Int32) (o_walkers_f : Nat → Int32) (o_numbers_f : Nat → Int32) (o_places_f : Nat → Int32) : (Nat → Int32) × (Nat → Int32) × (Nat → Int32) := xlet (fX4_put o_held a1 o_walkers_f 6) (fun u1 => xlet (fX4_put o_held a2 o_numbers_f 6) (fun u2 => xlet (fX4_put o_held a3 o_places_f 6) (fun u3 => (u1, u2, u3))))
set_option maxHeartbeats 4000000 in
set_option maxRecDepth 100000 in
theorem c_X5_add (l : Launch) (D : va_G) (cI cZ : ClassId) (sz : Nat) (o : Nat) (a1 : Int32) (a2 : Int32) (a3 : Int32) (o_walkers : Nat) (o_numbers : Nat) (o_places : Nat) (o_held : Int32) (o_walkers_a : Nat) (o_walkers_f : Nat → Int32) (o_numbers_a : Nat) (o_numbers_f : Nat → Int32) (o_places_a : Nat) (o_places_f : Nat → Int32)  : Met l yX5_add wsX5_add ({ frames := 1, cells := 0, slots := 0, locals := 22 } : Room) (va_Pc [.ref o, .int a1, .int a2, .int a3] (xP D cI cZ [(o, .inr (5, [.ref o_walkers, .ref o_numbers, .ref o_places, .int o_held])), (o_walkers, .inr (4, [.ref o_walkers_a])), (o_walkers_a, .inl (cI, 6, .inl o_walkers_f)), (o_numbers, .inr (4, [.ref o_numbers_a])), (o_numbers_a, .inl (cI, 6, .inl o_numbers_f)), (o_places, .inr (4, [.ref o_places_a])), (o_places_a, .inl (cI, 6, .inl o_places_f))] sz)) (va_Qv (fun (u : (Nat → Int32) × (Nat → Int32) × (Nat → Int32)) => u = fX5_add a1 a2 a3 o_held o_walkers_f o_numbers_f o_places_f) (fun (u : (Nat → Int32) × (Nat → Int32) × (Nat → Int32)) t => xB D cI cZ [(o, .inr (5, [.ref o_walkers, .ref o_numbers, .ref o_places, .int (o_held + 1)])), (o_walkers, .inr (4, [.ref o_walkers_a])), (o_walkers_a, .inl (cI, 6, .inl u.1)), (o_numbers, .inr (4, [.ref o_numbers_a])), (o_numbers_a, .inl (cI, 6, .inl u.2.1)), (o_places, .inr (4, [.ref o_places_a])), (o_places_a, .inl (cI, 6, .inl u.2.2))] (va_A [(o, .inr (5, [.ref o_walkers, .ref o_numbers, .ref o_places, .int o_held])), (o_walkers, .inr (4, [.ref o_walkers_a])), (o_walkers_a, .inl (cI, 6, .inl o_walkers_f)), (o_numbers, .inr (4, [.ref o_numbers_a])), (o_numbers_a, .inl (cI, 6, .inl o_numbers_f)), (o_places, .inr (4, [.ref o_places_a])), (o_places_a, .inl (cI, 6, .inl o_places_f))] sz) t) (va_A [(o, .inr (5, [.ref o_walkers, .ref o_numbers, .ref o_places, .int o_held])), (o_walkers, .inr (4, [.ref o_walkers_a])), (o_walkers_a, .inl (cI, 6, .inl o_walkers_f)), (o_numbers, .inr (4, [.ref o_numbers_a])), (o_numbers_a, .inl (cI, 6, .inl o_numbers_f)), (o_places, .inr (4, [.ref o_places_a])), (o_places_a, .inl (cI, 6, .inl o_places_f))] sz)) 0 0 (va_A [(o, .inr (5, [.ref o_walkers, .ref o_numbers, .ref o_places, .int o_held])), (o_walkers, .inr (4, [.ref o_walkers_a])), (o_walkers_a, .inl (cI, 6, .inl o_walkers_f)), (o_numbers, .inr (4, [.ref o_numbers_a])), (o_numbers_a, .inl (cI, 6, .inl o_numbers_f)), (o_places, .inr (4, [.ref o_places_a])), (o_places_a, .inl (cI, 6, .inl o_places_f))] sz) := by
  refine Met.ofW (cc := cX5_add) (maxL := 4) (ret := none) (by decide) rfl ?_
  intro p e s m args below meth c s₁ B hml hv
  obtain ⟨hargs, hsz, hP, hK, hD0, hE⟩ := hv
  subst hargs
  have hx := B.exec
  have hb := B.bytes
  have hr := B.returns
  have hts := atoms_spec (ws := wsX5_add) B.pre
  have hown : s.vm.findClass RX5 = some m.cls := findClass_of_methodNamed B.named
  have hlocks := B.notSynchronized
  subst hsz
  have hD := hD0.self (sz := s.heap.size)
  generalize hAe : va_A [(o, .inr (5, [.ref o_walkers, .ref o_numbers, .ref o_places, .int o_held])), (o_walkers, .inr (4, [.ref o_walkers_a])), (o_walkers_a, .inl (cI, 6, .inl o_walkers_f)), (o_numbers, .inr (4, [.ref o_numbers_a])), (o_numbers_a, .inl (cI, 6, .inl o_numbers_f)), (o_places, .inr (4, [.ref o_places_a])), (o_places_a, .inl (cI, 6, .inl o_places_f))] s.heap.size = A at hD ⊢
  have hA : ∀ q : Nat, s.heap.size ≤ q → A q := fun q h => by rw [← hAe]; exact Or.inr h
  have hS : va_S A s.heap s.heap [] := va_S.rf
  have hl := lv_entry ([.ref o, .int a1, .int a2, .int a3]) (n := 4) (Nat.le_of_ble_eq_true rfl)
  rw [lg_entry_eq]
  generalize (lg_sl ([.ref o, .int a1, .int a2, .int a3]) ++ List.replicate (4 - (lg_sl ([.ref o, .int a1, .int a2, .int a3])).length) Slot.unset).toArray = ls at hl ⊢
  have hl : lv_has ls 4 [(0, .ref o), (1, .int a1), (2, .int a2), (3, .int a3)] := hl
  refine wq (X := fun Q => ∀ (pc : Nat) (H : Heap) (locs : List Loc) (ls : Array Slot) (u : (Nat → Int32) × (Nat → Int32) × (Nat → Int32)) (hd : decode cX5_add pc = .ok (.return_, 1)) (hp : u = fX5_add a1 a2 a3 o_held o_walkers_f o_numbers_f o_places_f) (hP : va_P D vwCl [(o, .inr (5, [.ref o_walkers, .ref o_numbers, .ref o_places, .int (o_held + 1)])), (o_walkers, .inr (4, [.ref o_walkers_a])), (o_walkers_a, .inl (cI, 6, .inl u.1)), (o_numbers, .inr (4, [.ref o_numbers_a])), (o_numbers_a, .inl (cI, 6, .inl u.2.1)), (o_places, .inr (4, [.ref o_places_a])), (o_places_a, .inl (cI, 6, .inl u.2.2))] H) (hD : va_D A [(o, .inr (5, [.ref o_walkers, .ref o_numbers, .ref o_places, .int (o_held + 1)])), (o_walkers, .inr (4, [.ref o_walkers_a])), (o_walkers_a, .inl (cI, 6, .inl u.1)), (o_numbers, .inr (4, [.ref o_numbers_a])), (o_numbers_a, .inl (cI, 6, .inl u.2.1)), (o_places, .inr (4, [.ref o_places_a])), (o_places_a, .inl (cI, 6, .inl u.2.2))]) (hS : va_S A s.heap H locs), W p l e ({ frames := 1, cells := 0, slots := 0, locals := 22 } : Room) s m ([.ref o, .int a1, .int a2, .int a3] : List Value).toArray below meth c H locs 0 0 Q (F0 m pc ls [])) ?_ (fun Q hret => ?_)
  · intro pc H locs ls u hd hp hP hD hS
    exact W.vret hx hb hr (fun t ht hW => ⟨⟨u, rfl, hp, by rw [ht]; exact hP, va_K.moved hW.alike hK, hD⟩, hS.F ht⟩) hS.2.2 hd
  have hin_5 : ∀ w ∈ u_ws RX5 TX5 4, w ∈ wsX5_add := by decide +kernel
  have fl_14 := hts (.fieldLink RX5 14 "MileRoad$Sightings" "walkers" "LMileRoad$Row;") (by decide +kernel)
  have fl_20 := hts (.fieldLink RX5 20 "MileRoad$Sightings" "numbers" "LMileRoad$Row;") (by decide +kernel)
  have fl_23 := hts (.fieldLink RX5 23 "MileRoad$Sightings" "places" "LMileRoad$Row;") (by decide +kernel)
  have fl_26 := hts (.fieldLink RX5 26 "MileRoad$Sightings" "held" "I") (by decide +kernel)
  have hF : fX5_add a1 a2 a3 o_held o_walkers_f o_numbers_f o_places_f = fX5_add a1 a2 a3 o_held o_walkers_f o_numbers_f o_places_f := rfl
  refine lv_aload_n hx hb dX5_add_0 rfl (lv_at hl 0 rfl) ?_
  refine xget hx hb hts hown hK 5 (C2 := RX5) (T := TX5) (N := 4) rfl hin_5 hP 0 rfl 0 (by decide) fl_14 rfl rfl rfl dX5_add_1 ?_
  refine lv_aload_n hx hb dX5_add_4 rfl (lv_at hl 0 rfl) ?_
  refine xget hx hb hts hown hK 5 (C2 := RX5) (T := TX5) (N := 4) rfl hin_5 hP 0 rfl 3 (by decide) fl_26 rfl rfl rfl dX5_add_5 ?_
  refine lv_iload_n hx hb dX5_add_8 rfl (lv_at hl 1 rfl) ?_
  refine xcallv (S := (Nat → Int32)) (Wc := [(o_walkers, .inr (4, [.ref o_walkers_a])), (o_walkers_a, .inl (cI, 6, .inl o_walkers_f))]) (wr := [(o, .inr (5, [.ref o_walkers, .ref o_numbers, .ref o_places, .int o_held])), (o_numbers, .inr (4, [.ref o_numbers_a])), (o_numbers_a, .inl (cI, 6, .inl o_numbers_f)), (o_places, .inr (4, [.ref o_places_a])), (o_places_a, .inl (cI, 6, .inl o_places_f))]) (W1 := (fun (u : (Nat → Int32)) => [(o_walkers, .inr (4, [.ref o_walkers_a])), (o_walkers_a, .inl (cI, 6, .inl u))])) (Wn := (fun (u : (Nat → Int32)) => [(o, .inr (5, [.ref o_walkers, .ref o_numbers, .ref o_places, .int o_held])), (o_walkers, .inr (4, [.ref o_walkers_a])), (o_walkers_a, .inl (cI, 6, .inl u)), (o_numbers, .inr (4, [.ref o_numbers_a])), (o_numbers_a, .inl (cI, 6, .inl o_numbers_f)), (o_places, .inr (4, [.ref o_places_a])), (o_places_a, .inl (cI, 6, .inl o_places_f))])) (xrunV hx hb hml hown hts (c_X4_put l D cI cZ _ o_walkers o_held a1 o_walkers_a o_walkers_f 6 (by decide)) (cwV 2 hts gX5_add_X4_put rfl rfl rfl (by decide +kernel) ⟨Nat.le_of_ble_eq_true rfl, Nat.le_of_ble_eq_true rfl⟩) hE hK hP hD [1, 2] rfl rfl 0 4 (T := TX4) (N := 1) rfl rfl rfl hl.1 rfl (Nat.le_of_ble_eq_true rfl) dX5_add_9 ⟨Nat.le_of_ble_eq_true rfl, Nat.le_of_ble_eq_true rfl⟩) hP hD hS hA [1, 2] [0, 3, 4, 5, 6] [0, 5, 6, 1, 2, 3, 4] rfl rfl rfl (by decide) (fun _ => rfl) rfl (fun  u H locs hw hz hP hD hS => ?_)
  obtain ⟨u1, hu⟩ : ∃ z, z = u := ⟨u, rfl⟩
  subst hu
  have hw_1 := hw.symm
  have hP : va_P D vwCl [(o, .inr (5, [.ref o_walkers, .ref o_numbers, .ref o_places, .int o_held])), (o_walkers, .inr (4, [.ref o_walkers_a])), (o_walkers_a, .inl (cI, 6, .inl u1)), (o_numbers, .inr (4, [.ref o_numbers_a])), (o_numbers_a, .inl (cI, 6, .inl o_numbers_f)), (o_places, .inr (4, [.ref o_places_a])), (o_places_a, .inl (cI, 6, .inl o_places_f))] H := hP
  have hD : va_D A [(o, .inr (5, [.ref o_walkers, .ref o_numbers, .ref o_places, .int o_held])), (o_walkers, .inr (4, [.ref o_walkers_a])), (o_walkers_a, .inl (cI, 6, .inl u1)), (o_numbers, .inr (4, [.ref o_numbers_a])), (o_numbers_a, .inl (cI, 6, .inl o_numbers_f)), (o_places, .inr (4, [.ref o_places_a])), (o_places_a, .inl (cI, 6, .inl o_places_f))] := hD
  refine lv_aload_n hx hb dX5_add_12 rfl (lv_at hl 0 rfl) ?_
  refine xget hx hb hts hown hK 5 (C2 := RX5) (T := TX5) (N := 4) rfl hin_5 hP 0 rfl 1 (by decide) fl_20 rfl rfl rfl dX5_add_13 ?_
  refine lv_aload_n hx hb dX5_add_16 rfl (lv_at hl 0 rfl) ?_
  refine xget hx hb hts hown hK 5 (C2 := RX5) (T := TX5) (N := 4) rfl hin_5 hP 0 rfl 3 (by decide) fl_26 rfl rfl rfl dX5_add_17 ?_
  refine lv_iload_n hx hb dX5_add_20 rfl (lv_at hl 2 rfl) ?_
  refine xcallv (S := (Nat → Int32)) (Wc := [(o_numbers, .inr (4, [.ref o_numbers_a])), (o_numbers_a, .inl (cI, 6, .inl o_numbers_f))]) (wr := [(o, .inr (5, [.ref o_walkers, .ref o_numbers, .ref o_places, .int o_held])), (o_walkers, .inr (4, [.ref o_walkers_a])), (o_walkers_a, .inl (cI, 6, .inl u1)), (o_places, .inr (4, [.ref o_places_a])), (o_places_a, .inl (cI, 6, .inl o_places_f))]) (W1 := (fun (u : (Nat → Int32)) => [(o_numbers, .inr (4, [.ref o_numbers_a])), (o_numbers_a, .inl (cI, 6, .inl u))])) (Wn := (fun (u : (Nat → Int32)) => [(o, .inr (5, [.ref o_walkers, .ref o_numbers, .ref o_places, .int o_held])), (o_walkers, .inr (4, [.ref o_walkers_a])), (o_walkers_a, .inl (cI, 6, .inl u1)), (o_numbers, .inr (4, [.ref o_numbers_a])), (o_numbers_a, .inl (cI, 6, .inl u)), (o_places, .inr (4, [.ref o_places_a])), (o_places_a, .inl (cI, 6, .inl o_places_f))])) (xrunV hx hb hml hown hts (c_X4_put l D cI cZ _ o_numbers o_held a2 o_numbers_a o_numbers_f 6 (by decide)) (cwV 2 hts gX5_add_X4_put rfl rfl rfl (by decide +kernel) ⟨Nat.le_of_ble_eq_true rfl, Nat.le_of_ble_eq_true rfl⟩) hE hK hP hD [3, 4] rfl rfl 0 4 (T := TX4) (N := 1) rfl rfl rfl hl.1 rfl (Nat.le_of_ble_eq_true rfl) dX5_add_21 ⟨Nat.le_of_ble_eq_true rfl, Nat.le_of_ble_eq_true rfl⟩) hP hD hS hA [3, 4] [0, 1, 2, 5, 6] [0, 1, 2, 5, 6, 3, 4] rfl rfl rfl (by decide) (fun _ => rfl) rfl (fun  u H locs hw hz hP hD hS => ?_)
  obtain ⟨u2, hu⟩ : ∃ z, z = u := ⟨u, rfl⟩
  subst hu
  have hw_2 := hw.symm
  have hP : va_P D vwCl [(o, .inr (5, [.ref o_walkers, .ref o_numbers, .ref o_places, .int o_held])), (o_walkers, .inr (4, [.ref o_walkers_a])), (o_walkers_a, .inl (cI, 6, .inl u1)), (o_numbers, .inr (4, [.ref o_numbers_a])), (o_numbers_a, .inl (cI, 6, .inl u2)), (o_places, .inr (4, [.ref o_places_a])), (o_places_a, .inl (cI, 6, .inl o_places_f))] H := hP
  have hD : va_D A [(o, .inr (5, [.ref o_walkers, .ref o_numbers, .ref o_places, .int o_held])), (o_walkers, .inr (4, [.ref o_walkers_a])), (o_walkers_a, .inl (cI, 6, .inl u1)), (o_numbers, .inr (4, [.ref o_numbers_a])), (o_numbers_a, .inl (cI, 6, .inl u2)), (o_places, .inr (4, [.ref o_places_a])), (o_places_a, .inl (cI, 6, .inl o_places_f))] := hD
  refine lv_aload_n hx hb dX5_add_24 rfl (lv_at hl 0 rfl) ?_
  refine xget hx hb hts hown hK 5 (C2 := RX5) (T := TX5) (N := 4) rfl hin_5 hP 0 rfl 2 (by decide) fl_23 rfl rfl rfl dX5_add_25 ?_
  refine lv_aload_n hx hb dX5_add_28 rfl (lv_at hl 0 rfl) ?_
  refine xget hx hb hts hown hK 5 (C2 := RX5) (T := TX5) (N := 4) rfl hin_5 hP 0 rfl 3 (by decide) fl_26 rfl rfl rfl dX5_add_29 ?_
  refine lv_iload_n hx hb dX5_add_32 rfl (lv_at hl 3 rfl) ?_
  refine xcallv (S := (Nat → Int32)) (Wc := [(o_places, .inr (4, [.ref o_places_a])), (o_places_a, .inl (cI, 6, .inl o_places_f))]) (wr := [(o, .inr (5, [.ref o_walkers, .ref o_numbers, .ref o_places, .int o_held])), (o_walkers, .inr (4, [.ref o_walkers_a])), (o_walkers_a, .inl (cI, 6, .inl u1)), (o_numbers, .inr (4, [.ref o_numbers_a])), (o_numbers_a, .inl (cI, 6, .inl u2))]) (W1 := (fun (u : (Nat → Int32)) => [(o_places, .inr (4, [.ref o_places_a])), (o_places_a, .inl (cI, 6, .inl u))])) (Wn := (fun (u : (Nat → Int32)) => [(o, .inr (5, [.ref o_walkers, .ref o_numbers, .ref o_places, .int o_held])), (o_walkers, .inr (4, [.ref o_walkers_a])), (o_walkers_a, .inl (cI, 6, .inl u1)), (o_numbers, .inr (4, [.ref o_numbers_a])), (o_numbers_a, .inl (cI, 6, .inl u2)), (o_places, .inr (4, [.ref o_places_a])), (o_places_a, .inl (cI, 6, .inl u))])) (xrunV hx hb hml hown hts (c_X4_put l D cI cZ _ o_places o_held a3 o_places_a o_places_f 6 (by decide)) (cwV 2 hts gX5_add_X4_put rfl rfl rfl (by decide +kernel) ⟨Nat.le_of_ble_eq_true rfl, Nat.le_of_ble_eq_true rfl⟩) hE hK hP hD [5, 6] rfl rfl 0 4 (T := TX4) (N := 1) rfl rfl rfl hl.1 rfl (Nat.le_of_ble_eq_true rfl) dX5_add_33 ⟨Nat.le_of_ble_eq_true rfl, Nat.le_of_ble_eq_true rfl⟩) hP hD hS hA [5, 6] [0, 1, 2, 3, 4] [0, 1, 2, 3, 4, 5, 6] rfl rfl rfl (by decide) (fun _ => rfl) rfl (fun  u H locs hw hz hP hD hS => ?_)
  obtain ⟨u3, hu⟩ : ∃ z, z = u := ⟨u, rfl⟩
  subst hu
  have hw_3 := hw.symm
  have hP : va_P D vwCl [(o, .inr (5, [.ref o_walkers, .ref o_numbers, .ref o_places, .int o_held])), (o_walkers, .inr (4, [.ref o_walkers_a])), (o_walkers_a, .inl (cI, 6, .inl u1)), (o_numbers, .inr (4, [.ref o_numbers_a])), (o_numbers_a, .inl (cI, 6, .inl u2)), (o_places, .inr (4, [.ref o_places_a])), (o_places_a, .inl (cI, 6, .inl u3))] H := hP
  have hD : va_D A [(o, .inr (5, [.ref o_walkers, .ref o_numbers, .ref o_places, .int o_held])), (o_walkers, .inr (4, [.ref o_walkers_a])), (o_walkers_a, .inl (cI, 6, .inl u1)), (o_numbers, .inr (4, [.ref o_numbers_a])), (o_numbers_a, .inl (cI, 6, .inl u2)), (o_places, .inr (4, [.ref o_places_a])), (o_places_a, .inl (cI, 6, .inl u3))] := hD
  refine lv_aload_n hx hb dX5_add_36 rfl (lv_at hl 0 rfl) ?_
  refine lv_dup hx hb dX5_add_37 rfl ?_
  refine xget hx hb hts hown hK 5 (C2 := RX5) (T := TX5) (N := 4) rfl hin_5 hP 0 rfl 3 (by decide) fl_26 rfl rfl rfl dX5_add_38 ?_
  refine lv_iconst (v := 1) hx hb dX5_add_41 (by decide) ?_
  refine lv_iadd hx hb dX5_add_42 ?_
  refine xput hx hb hts hown hK 5 (C2 := RX5) (T := TX5) (N := 4) tyX5 rfl tyX5_ok nmX5 hin_5 hP hD hS 0 rfl 3 (by decide) fl_26 rfl rfl rfl rfl rfl (Nat.le_of_ble_eq_true rfl) dX5_add_43 [(o, .inr (5, [.ref o_walkers, .ref o_numbers, .ref o_places, .int (o_held + 1)])), (o_walkers, .inr (4, [.ref o_walkers_a])), (o_walkers_a, .inl (cI, 6, .inl u1)), (o_numbers, .inr (4, [.ref o_numbers_a])), (o_numbers_a, .inl (cI, 6, .inl u2)), (o_places, .inr (4, [.ref o_places_a])), (o_places_a, .inl (cI, 6, .inl u3))] rfl (fun H locs hP hD hS => ?_)
  exact hret _ _ _ _ (u1, u2, u3) dX5_add_46 ((hF.trans (by simp only [fX5_add, xlet, ↓hw_1, ↓hw_2, ↓hw_3])).symm) hP hD hS
set_option maxRecDepth 20000 in
theorem ggX5_fits_X4_at : GoodIn wsX5_fits wsX4_at := goodIn_r _ [8, 9, 33] (by decide +kernel) (by decide +kernel)
set_option maxRecDepth 20000 in
theorem gX5_fits_X4_at : GoodIn wsX5_fits (wsV RX5 34 RX4 yX4_at wsX4_at) := goodIn_app (goodIn_of _ (by decide +kernel)) ggX5_fits_X4_at
set_option maxRecDepth 20000 in
theorem ggX5_fits_X3_placeFelt : GoodIn wsX5_fits wsX3_placeFelt := goodIn_r _ [14, 15, 16, 17, 18, 13, 19, 20, 21, 5, 6, 7, 8, 9, 22, 23, 24, 25, 26, 27, 28, 33] (by decide +kernel) (by decide +kernel)
set_option maxRecDepth 20000 in
theorem gX5_fits_X3_placeFelt : GoodIn wsX5_fits (wsV RX5 53 RX3 yX3_placeFelt wsX3_placeFelt) := goodIn_app (goodIn_of _ (by decide +kernel)) ggX5_fits_X3_placeFelt
theorem dX5_fits_0 : decode cX5_fits 0 = .ok (.aload_n 2, 1) := by decide +kernel
theorem dX5_fits_1 : decode cX5_fits 1 = .ok (.getfield 50, 3) := by decide +kernel
theorem dX5_fits_4 : decode cX5_fits 4 = .ok (.aload_n 0, 1) := by decide +kernel
theorem dX5_fits_5 : decode cX5_fits 5 = .ok (.getfield 14, 3) := by decide +kernel
theorem dX5_fits_8 : decode cX5_fits 8 = .ok (.iload_n 1, 1) := by decide +kernel
theorem dX5_fits_9 : decode cX5_fits 9 = .ok (.invokevirtual 34, 3) := by decide +kernel
theorem dX5_fits_12 : decode cX5_fits 12 = .ok (.invokevirtual 34, 3) := by decide +kernel
theorem dX5_fits_15 : decode cX5_fits 15 = .ok (.istore 5, 2) := by decide +kernel
theorem dX5_fits_17 : decode cX5_fits 17 = .ok (.aload_n 2, 1) := by decide +kernel
theorem dX5_fits_18 : decode cX5_fits 18 = .ok (.iload_n 3, 1) := by decide +kernel
theorem dX5_fits_19 : decode cX5_fits 19 = .ok (.iload 5, 2) := by decide +kernel
theorem dX5_fits_21 : decode cX5_fits 21 = .ok (.aload_n 0, 1) := by decide +kernel
theorem dX5_fits_22 : decode cX5_fits 22 = .ok (.getfield 20, 3) := by decide +kernel
theorem dX5_fits_25 : decode cX5_fits 25 = .ok (.iload_n 1, 1) := by decide +kernel
theorem dX5_fits_26 : decode cX5_fits 26 = .ok (.invokevirtual 34, 3) := by decide +kernel
theorem dX5_fits_29 : decode cX5_fits 29 = .ok (.iload 4, 2) := by decide +kernel
theorem dX5_fits_31 : decode cX5_fits 31 = .ok (.imul, 1) := by decide +kernel
theorem dX5_fits_32 : decode cX5_fits 32 = .ok (.invokevirtual 53, 3) := by decide +kernel
theorem dX5_fits_35 : decode cX5_fits 35 = .ok (.aload_n 0, 1) := by decide +kernel
theorem dX5_fits_36 : decode cX5_fits 36 = .ok (.getfield 23, 3) := by decide +kernel
theorem dX5_fits_39 : decode cX5_fits 39 = .ok (.iload_n 1, 1) := by decide +kernel
theorem dX5_fits_40 : decode cX5_fits 40 = .ok (.invokevirtual 34, 3) := by decide +kernel
theorem dX5_fits_43 : decode cX5_fits 43 = .ok (.if_icmp .ne 7, 3) := by decide +kernel
theorem dX5_fits_46 : decode cX5_fits 46 = .ok (.iconst 1, 1) := by decide +kernel
theorem dX5_fits_47 : decode cX5_fits 47 = .ok (.goto 4, 3) := by decide +kernel
theorem dX5_fits_50 : decode cX5_fits 50 = .ok (.iconst 0, 1) := by decide +kernel
theorem dX5_fits_51 : decode cX5_fits 51 = .ok (.ireturn, 1) := by decide +kernel
def fX5_fits (a1 : Int32) (a3 : Int32) (a4 : Int32) (a2_steps : Int32) (o_walkers_f : Nat → Int32) (a2_habits_f : Nat → Int32) (o_numbers_f : Nat → Int32) (a2_hard_f : Nat → Int32) (o_places_f : Nat → Int32) : Int32 := xlet (if (fX3_placeFelt a3 (fX4_at (fX4_at a1 o_walkers_f 6) a2_habits_f 6) ((fX4_at a1 o_numbers_f 6) * a4) a2_steps a2_hard_f) = (fX4_at a1 o_places_f 6) then (1 : Int32) else 0) (fun y_1 => y_1)
set_option maxHeartbeats 4000000 in
set_option maxRecDepth 100000 in
theorem c_X5_fits (l : Launch) (D : va_G) (cI cZ : ClassId) (sz : Nat) (o : Nat) (a1 : Int32) (a2 : Nat) (a3 : Int32) (a4 : Int32) (a2_steps : Int32) (a2_mile : Int32) (a2_walkers : Int32) (a2_walked : Int32) (a2_hard : Nat) (a2_kinds : Nat) (a2_habits : Nat) (o_walkers : Nat) (o_numbers : Nat) (o_places : Nat) (o_held : Int32) (o_walkers_a : Nat) (o_walkers_f : Nat → Int32) (a2_habits_a : Nat) (a2_habits_f : Nat → Int32) (o_numbers_a : Nat) (o_numbers_f : Nat → Int32) (a2_hard_a : Nat) (a2_hard_f : Nat → Int32) (o_places_a : Nat) (o_places_f : Nat → Int32) (hq1 : a2_steps.toInt ≤ 20) : Met l yX5_fits wsX5_fits ({ frames := 3, cells := 0, slots := 0, locals := 70 } : Room) (va_Pc [.ref o, .int a1, .ref a2, .int a3, .int a4] (xP D cI cZ [(a2, .inr (3, [.int a2_steps, .int a2_mile, .int a2_walkers, .int a2_walked, .ref a2_hard, .ref a2_kinds, .ref a2_habits])), (o, .inr (5, [.ref o_walkers, .ref o_numbers, .ref o_places, .int o_held])), (o_walkers, .inr (4, [.ref o_walkers_a])), (o_walkers_a, .inl (cI, 6, .inl o_walkers_f)), (a2_habits, .inr (4, [.ref a2_habits_a])), (a2_habits_a, .inl (cI, 6, .inl a2_habits_f)), (o_numbers, .inr (4, [.ref o_numbers_a])), (o_numbers_a, .inl (cI, 6, .inl o_numbers_f)), (a2_hard, .inr (4, [.ref a2_hard_a])), (a2_hard_a, .inl (cI, 21, .inl a2_hard_f)), (o_places, .inr (4, [.ref o_places_a])), (o_places_a, .inl (cI, 6, .inl o_places_f))] sz)) (va_Qi (fun (r : Int32) (u : Unit) => r = fX5_fits a1 a3 a4 a2_steps o_walkers_f a2_habits_f o_numbers_f a2_hard_f o_places_f) (fun (u : Unit) t => xB D cI cZ [(a2, .inr (3, [.int a2_steps, .int a2_mile, .int a2_walkers, .int a2_walked, .ref a2_hard, .ref a2_kinds, .ref a2_habits])), (o, .inr (5, [.ref o_walkers, .ref o_numbers, .ref o_places, .int o_held])), (o_walkers, .inr (4, [.ref o_walkers_a])), (o_walkers_a, .inl (cI, 6, .inl o_walkers_f)), (a2_habits, .inr (4, [.ref a2_habits_a])), (a2_habits_a, .inl (cI, 6, .inl a2_habits_f)), (o_numbers, .inr (4, [.ref o_numbers_a])), (o_numbers_a, .inl (cI, 6, .inl o_numbers_f)), (a2_hard, .inr (4, [.ref a2_hard_a])), (a2_hard_a, .inl (cI, 21, .inl a2_hard_f)), (o_places, .inr (4, [.ref o_places_a])), (o_places_a, .inl (cI, 6, .inl o_places_f))] (va_A [(a2, .inr (3, [.int a2_steps, .int a2_mile, .int a2_walkers, .int a2_walked, .ref a2_hard, .ref a2_kinds, .ref a2_habits])), (o, .inr (5, [.ref o_walkers, .ref o_numbers, .ref o_places, .int o_held])), (o_walkers, .inr (4, [.ref o_walkers_a])), (o_walkers_a, .inl (cI, 6, .inl o_walkers_f)), (a2_habits, .inr (4, [.ref a2_habits_a])), (a2_habits_a, .inl (cI, 6, .inl a2_habits_f)), (o_numbers, .inr (4, [.ref o_numbers_a])), (o_numbers_a, .inl (cI, 6, .inl o_numbers_f)), (a2_hard, .inr (4, [.ref a2_hard_a])), (a2_hard_a, .inl (cI, 21, .inl a2_hard_f)), (o_places, .inr (4, [.ref o_places_a])), (o_places_a, .inl (cI, 6, .inl o_places_f))] sz) t) (va_A [(a2, .inr (3, [.int a2_steps, .int a2_mile, .int a2_walkers, .int a2_walked, .ref a2_hard, .ref a2_kinds, .ref a2_habits])), (o, .inr (5, [.ref o_walkers, .ref o_numbers, .ref o_places, .int o_held])), (o_walkers, .inr (4, [.ref o_walkers_a])), (o_walkers_a, .inl (cI, 6, .inl o_walkers_f)), (a2_habits, .inr (4, [.ref a2_habits_a])), (a2_habits_a, .inl (cI, 6, .inl a2_habits_f)), (o_numbers, .inr (4, [.ref o_numbers_a])), (o_numbers_a, .inl (cI, 6, .inl o_numbers_f)), (a2_hard, .inr (4, [.ref a2_hard_a])), (a2_hard_a, .inl (cI, 21, .inl a2_hard_f)), (o_places, .inr (4, [.ref o_places_a])), (o_places_a, .inl (cI, 6, .inl o_places_f))] sz)) 0 0 (va_A [(a2, .inr (3, [.int a2_steps, .int a2_mile, .int a2_walkers, .int a2_walked, .ref a2_hard, .ref a2_kinds, .ref a2_habits])), (o, .inr (5, [.ref o_walkers, .ref o_numbers, .ref o_places, .int o_held])), (o_walkers, .inr (4, [.ref o_walkers_a])), (o_walkers_a, .inl (cI, 6, .inl o_walkers_f)), (a2_habits, .inr (4, [.ref a2_habits_a])), (a2_habits_a, .inl (cI, 6, .inl a2_habits_f)), (o_numbers, .inr (4, [.ref o_numbers_a])), (o_numbers_a, .inl (cI, 6, .inl o_numbers_f)), (a2_hard, .inr (4, [.ref a2_hard_a])), (a2_hard_a, .inl (cI, 21, .inl a2_hard_f)), (o_places, .inr (4, [.ref o_places_a])), (o_places_a, .inl (cI, 6, .inl o_places_f))] sz) := by
  refine Met.ofW (cc := cX5_fits) (maxL := 6) (ret := (some .boolean)) (by decide) rfl ?_
  intro p e s m args below meth c s₁ B hml hv
  obtain ⟨hargs, hsz, hP, hK, hD0, hE⟩ := hv
  subst hargs
  have hx := B.exec
  have hb := B.bytes
  have hr := B.returns
  have hts := atoms_spec (ws := wsX5_fits) B.pre
  have hown : s.vm.findClass RX5 = some m.cls := findClass_of_methodNamed B.named
  have hlocks := B.notSynchronized
  subst hsz
  have hD := hD0.self (sz := s.heap.size)
  generalize hAe : va_A [(a2, .inr (3, [.int a2_steps, .int a2_mile, .int a2_walkers, .int a2_walked, .ref a2_hard, .ref a2_kinds, .ref a2_habits])), (o, .inr (5, [.ref o_walkers, .ref o_numbers, .ref o_places, .int o_held])), (o_walkers, .inr (4, [.ref o_walkers_a])), (o_walkers_a, .inl (cI, 6, .inl o_walkers_f)), (a2_habits, .inr (4, [.ref a2_habits_a])), (a2_habits_a, .inl (cI, 6, .inl a2_habits_f)), (o_numbers, .inr (4, [.ref o_numbers_a])), (o_numbers_a, .inl (cI, 6, .inl o_numbers_f)), (a2_hard, .inr (4, [.ref a2_hard_a])), (a2_hard_a, .inl (cI, 21, .inl a2_hard_f)), (o_places, .inr (4, [.ref o_places_a])), (o_places_a, .inl (cI, 6, .inl o_places_f))] s.heap.size = A at hD ⊢
  have hA : ∀ q : Nat, s.heap.size ≤ q → A q := fun q h => by rw [← hAe]; exact Or.inr h
  have hS : va_S A s.heap s.heap [] := va_S.rf
  have hl := lv_entry ([.ref o, .int a1, .ref a2, .int a3, .int a4]) (n := 6) (Nat.le_of_ble_eq_true rfl)
  rw [lg_entry_eq]
  generalize (lg_sl ([.ref o, .int a1, .ref a2, .int a3, .int a4]) ++ List.replicate (6 - (lg_sl ([.ref o, .int a1, .ref a2, .int a3, .int a4])).length) Slot.unset).toArray = ls at hl ⊢
  have hl : lv_has ls 6 [(0, .ref o), (1, .int a1), (2, .ref a2), (3, .int a3), (4, .int a4)] := hl
  refine wq (X := fun Q => ∀ (pc : Nat) (H : Heap) (locs : List Loc) (ls : Array Slot) (r : Int32) (u : Unit) (hn : narrow .boolean (.int r) = .int r) (hd : decode cX5_fits pc = .ok (.ireturn, 1)) (hp : r = fX5_fits a1 a3 a4 a2_steps o_walkers_f a2_habits_f o_numbers_f a2_hard_f o_places_f) (hP : va_P D vwCl [(a2, .inr (3, [.int a2_steps, .int a2_mile, .int a2_walkers, .int a2_walked, .ref a2_hard, .ref a2_kinds, .ref a2_habits])), (o, .inr (5, [.ref o_walkers, .ref o_numbers, .ref o_places, .int o_held])), (o_walkers, .inr (4, [.ref o_walkers_a])), (o_walkers_a, .inl (cI, 6, .inl o_walkers_f)), (a2_habits, .inr (4, [.ref a2_habits_a])), (a2_habits_a, .inl (cI, 6, .inl a2_habits_f)), (o_numbers, .inr (4, [.ref o_numbers_a])), (o_numbers_a, .inl (cI, 6, .inl o_numbers_f)), (a2_hard, .inr (4, [.ref a2_hard_a])), (a2_hard_a, .inl (cI, 21, .inl a2_hard_f)), (o_places, .inr (4, [.ref o_places_a])), (o_places_a, .inl (cI, 6, .inl o_places_f))] H) (hD : va_D A [(a2, .inr (3, [.int a2_steps, .int a2_mile, .int a2_walkers, .int a2_walked, .ref a2_hard, .ref a2_kinds, .ref a2_habits])), (o, .inr (5, [.ref o_walkers, .ref o_numbers, .ref o_places, .int o_held])), (o_walkers, .inr (4, [.ref o_walkers_a])), (o_walkers_a, .inl (cI, 6, .inl o_walkers_f)), (a2_habits, .inr (4, [.ref a2_habits_a])), (a2_habits_a, .inl (cI, 6, .inl a2_habits_f)), (o_numbers, .inr (4, [.ref o_numbers_a])), (o_numbers_a, .inl (cI, 6, .inl o_numbers_f)), (a2_hard, .inr (4, [.ref a2_hard_a])), (a2_hard_a, .inl (cI, 21, .inl a2_hard_f)), (o_places, .inr (4, [.ref o_places_a])), (o_places_a, .inl (cI, 6, .inl o_places_f))]) (hS : va_S A s.heap H locs), W p l e ({ frames := 3, cells := 0, slots := 0, locals := 70 } : Room) s m ([.ref o, .int a1, .ref a2, .int a3, .int a4] : List Value).toArray below meth c H locs 0 0 Q (F0 m pc ls [.int r])) ?_ (fun Q hret => ?_)
  · intro pc H locs ls r u hn hd hp hP hD hS
    exact W.zret (v := r) hx hb hr hn (fun t ht hW => ⟨⟨r, u, rfl, hp, by rw [ht]; exact hP, va_K.moved hW.alike hK, hD⟩, hS.F ht⟩) hS.2.2 hd
  have hin_3 : ∀ w ∈ u_ws RX3 TX3 7, w ∈ wsX5_fits := by decide +kernel
  have hin_5 : ∀ w ∈ u_ws RX5 TX5 4, w ∈ wsX5_fits := by decide +kernel
  have fl_14 := hts (.fieldLink RX5 14 "MileRoad$Sightings" "walkers" "LMileRoad$Row;") (by decide +kernel)
  have fl_20 := hts (.fieldLink RX5 20 "MileRoad$Sightings" "numbers" "LMileRoad$Row;") (by decide +kernel)
  have fl_23 := hts (.fieldLink RX5 23 "MileRoad$Sightings" "places" "LMileRoad$Row;") (by decide +kernel)
  have fl_50 := hE.f 23 rfl ([.ref o, .int a1, .ref a2, .int a3, .int a4] : List Value).toArray
  have hF : fX5_fits a1 a3 a4 a2_steps o_walkers_f a2_habits_f o_numbers_f a2_hard_f o_places_f = fX5_fits a1 a3 a4 a2_steps o_walkers_f a2_habits_f o_numbers_f a2_hard_f o_places_f := rfl
  refine lv_aload_n hx hb dX5_fits_0 rfl (lv_at hl 2 rfl) ?_
  refine xgetN hx hb hts hown hK 3 (C2 := RX3) (T := TX3) (N := 7) rfl hin_3 hP 0 rfl 6 (by decide) fl_50 rfl rfl rfl dX5_fits_1 ?_
  refine lv_aload_n hx hb dX5_fits_4 rfl (lv_at hl 0 rfl) ?_
  refine xget hx hb hts hown hK 5 (C2 := RX5) (T := TX5) (N := 4) rfl hin_5 hP 1 rfl 0 (by decide) fl_14 rfl rfl rfl dX5_fits_5 ?_
  refine lv_iload_n hx hb dX5_fits_8 rfl (lv_at hl 1 rfl) ?_
  refine xcalli (S := Unit) (Wc := [(o_walkers, .inr (4, [.ref o_walkers_a])), (o_walkers_a, .inl (cI, 6, .inl o_walkers_f))]) (wr := [(a2, .inr (3, [.int a2_steps, .int a2_mile, .int a2_walkers, .int a2_walked, .ref a2_hard, .ref a2_kinds, .ref a2_habits])), (o, .inr (5, [.ref o_walkers, .ref o_numbers, .ref o_places, .int o_held])), (a2_habits, .inr (4, [.ref a2_habits_a])), (a2_habits_a, .inl (cI, 6, .inl a2_habits_f)), (o_numbers, .inr (4, [.ref o_numbers_a])), (o_numbers_a, .inl (cI, 6, .inl o_numbers_f)), (a2_hard, .inr (4, [.ref a2_hard_a])), (a2_hard_a, .inl (cI, 21, .inl a2_hard_f)), (o_places, .inr (4, [.ref o_places_a])), (o_places_a, .inl (cI, 6, .inl o_places_f))]) (W1 := (fun (u : Unit) => [(o_walkers, .inr (4, [.ref o_walkers_a])), (o_walkers_a, .inl (cI, 6, .inl o_walkers_f))])) (Wn := (fun (u : Unit) => [(a2, .inr (3, [.int a2_steps, .int a2_mile, .int a2_walkers, .int a2_walked, .ref a2_hard, .ref a2_kinds, .ref a2_habits])), (o, .inr (5, [.ref o_walkers, .ref o_numbers, .ref o_places, .int o_held])), (o_walkers, .inr (4, [.ref o_walkers_a])), (o_walkers_a, .inl (cI, 6, .inl o_walkers_f)), (a2_habits, .inr (4, [.ref a2_habits_a])), (a2_habits_a, .inl (cI, 6, .inl a2_habits_f)), (o_numbers, .inr (4, [.ref o_numbers_a])), (o_numbers_a, .inl (cI, 6, .inl o_numbers_f)), (a2_hard, .inr (4, [.ref a2_hard_a])), (a2_hard_a, .inl (cI, 21, .inl a2_hard_f)), (o_places, .inr (4, [.ref o_places_a])), (o_places_a, .inl (cI, 6, .inl o_places_f))])) (xrunV hx hb hml hown hts (c_X4_at l D cI cZ _ o_walkers a1 o_walkers_a o_walkers_f 6 (by decide)) (cwV 1 hts gX5_fits_X4_at rfl rfl rfl (by decide +kernel) ⟨Nat.le_of_ble_eq_true rfl, Nat.le_of_ble_eq_true rfl⟩) hE hK hP hD [2, 3] rfl rfl 0 4 (T := TX4) (N := 1) rfl rfl rfl hl.1 rfl (Nat.le_of_ble_eq_true rfl) dX5_fits_9 ⟨Nat.le_of_ble_eq_true rfl, Nat.le_of_ble_eq_true rfl⟩) hP hD hS hA [2, 3] [0, 1, 4, 5, 6, 7, 8, 9, 10, 11] [0, 1, 10, 11, 2, 3, 4, 5, 6, 7, 8, 9] rfl rfl rfl (by decide) (fun _ => rfl) rfl (fun r1 u H locs hw hz hP hD hS => ?_)
  subst hw
  refine xcalli (S := Unit) (Wc := [(a2_habits, .inr (4, [.ref a2_habits_a])), (a2_habits_a, .inl (cI, 6, .inl a2_habits_f))]) (wr := [(a2, .inr (3, [.int a2_steps, .int a2_mile, .int a2_walkers, .int a2_walked, .ref a2_hard, .ref a2_kinds, .ref a2_habits])), (o, .inr (5, [.ref o_walkers, .ref o_numbers, .ref o_places, .int o_held])), (o_walkers, .inr (4, [.ref o_walkers_a])), (o_walkers_a, .inl (cI, 6, .inl o_walkers_f)), (o_numbers, .inr (4, [.ref o_numbers_a])), (o_numbers_a, .inl (cI, 6, .inl o_numbers_f)), (a2_hard, .inr (4, [.ref a2_hard_a])), (a2_hard_a, .inl (cI, 21, .inl a2_hard_f)), (o_places, .inr (4, [.ref o_places_a])), (o_places_a, .inl (cI, 6, .inl o_places_f))]) (W1 := (fun (u : Unit) => [(a2_habits, .inr (4, [.ref a2_habits_a])), (a2_habits_a, .inl (cI, 6, .inl a2_habits_f))])) (Wn := (fun (u : Unit) => [(a2, .inr (3, [.int a2_steps, .int a2_mile, .int a2_walkers, .int a2_walked, .ref a2_hard, .ref a2_kinds, .ref a2_habits])), (o, .inr (5, [.ref o_walkers, .ref o_numbers, .ref o_places, .int o_held])), (o_walkers, .inr (4, [.ref o_walkers_a])), (o_walkers_a, .inl (cI, 6, .inl o_walkers_f)), (a2_habits, .inr (4, [.ref a2_habits_a])), (a2_habits_a, .inl (cI, 6, .inl a2_habits_f)), (o_numbers, .inr (4, [.ref o_numbers_a])), (o_numbers_a, .inl (cI, 6, .inl o_numbers_f)), (a2_hard, .inr (4, [.ref a2_hard_a])), (a2_hard_a, .inl (cI, 21, .inl a2_hard_f)), (o_places, .inr (4, [.ref o_places_a])), (o_places_a, .inl (cI, 6, .inl o_places_f))])) (xrunV hx hb hml hown hts (c_X4_at l D cI cZ _ a2_habits (fX4_at a1 o_walkers_f 6) a2_habits_a a2_habits_f 6 (by decide)) (cwV 1 hts gX5_fits_X4_at rfl rfl rfl (by decide +kernel) ⟨Nat.le_of_ble_eq_true rfl, Nat.le_of_ble_eq_true rfl⟩) hE hK hP hD [4, 5] rfl rfl 0 4 (T := TX4) (N := 1) rfl rfl rfl hl.1 rfl (Nat.le_of_ble_eq_true rfl) dX5_fits_12 ⟨Nat.le_of_ble_eq_true rfl, Nat.le_of_ble_eq_true rfl⟩) hP hD hS hA [4, 5] [0, 1, 2, 3, 6, 7, 8, 9, 10, 11] [0, 1, 2, 3, 10, 11, 4, 5, 6, 7, 8, 9] rfl rfl rfl (by decide) (fun _ => rfl) rfl (fun r2 u H locs hw hz hP hD hS => ?_)
  subst hw
  refine lv_istore (lv' := [(5, .int (fX4_at (fX4_at a1 o_walkers_f 6) a2_habits_f 6)), (0, .ref o), (1, .int a1), (2, .ref a2), (3, .int a3), (4, .int a4)]) hx hb dX5_fits_15 hl (by decide) rfl (fun ls hl => ?_)
  refine lv_aload_n hx hb dX5_fits_17 rfl (lv_at hl 3 rfl) ?_
  refine lv_iload_n hx hb dX5_fits_18 rfl (lv_at hl 4 rfl) ?_
  refine lv_iload hx hb dX5_fits_19 (lv_at hl 0 rfl) ?_
  refine lv_aload_n hx hb dX5_fits_21 rfl (lv_at hl 1 rfl) ?_
  refine xget hx hb hts hown hK 5 (C2 := RX5) (T := TX5) (N := 4) rfl hin_5 hP 1 rfl 1 (by decide) fl_20 rfl rfl rfl dX5_fits_22 ?_
  refine lv_iload_n hx hb dX5_fits_25 rfl (lv_at hl 2 rfl) ?_
  refine xcalli (S := Unit) (Wc := [(o_numbers, .inr (4, [.ref o_numbers_a])), (o_numbers_a, .inl (cI, 6, .inl o_numbers_f))]) (wr := [(a2, .inr (3, [.int a2_steps, .int a2_mile, .int a2_walkers, .int a2_walked, .ref a2_hard, .ref a2_kinds, .ref a2_habits])), (o, .inr (5, [.ref o_walkers, .ref o_numbers, .ref o_places, .int o_held])), (o_walkers, .inr (4, [.ref o_walkers_a])), (o_walkers_a, .inl (cI, 6, .inl o_walkers_f)), (a2_habits, .inr (4, [.ref a2_habits_a])), (a2_habits_a, .inl (cI, 6, .inl a2_habits_f)), (a2_hard, .inr (4, [.ref a2_hard_a])), (a2_hard_a, .inl (cI, 21, .inl a2_hard_f)), (o_places, .inr (4, [.ref o_places_a])), (o_places_a, .inl (cI, 6, .inl o_places_f))]) (W1 := (fun (u : Unit) => [(o_numbers, .inr (4, [.ref o_numbers_a])), (o_numbers_a, .inl (cI, 6, .inl o_numbers_f))])) (Wn := (fun (u : Unit) => [(a2, .inr (3, [.int a2_steps, .int a2_mile, .int a2_walkers, .int a2_walked, .ref a2_hard, .ref a2_kinds, .ref a2_habits])), (o, .inr (5, [.ref o_walkers, .ref o_numbers, .ref o_places, .int o_held])), (o_walkers, .inr (4, [.ref o_walkers_a])), (o_walkers_a, .inl (cI, 6, .inl o_walkers_f)), (a2_habits, .inr (4, [.ref a2_habits_a])), (a2_habits_a, .inl (cI, 6, .inl a2_habits_f)), (o_numbers, .inr (4, [.ref o_numbers_a])), (o_numbers_a, .inl (cI, 6, .inl o_numbers_f)), (a2_hard, .inr (4, [.ref a2_hard_a])), (a2_hard_a, .inl (cI, 21, .inl a2_hard_f)), (o_places, .inr (4, [.ref o_places_a])), (o_places_a, .inl (cI, 6, .inl o_places_f))])) (xrunV hx hb hml hown hts (c_X4_at l D cI cZ _ o_numbers a1 o_numbers_a o_numbers_f 6 (by decide)) (cwV 1 hts gX5_fits_X4_at rfl rfl rfl (by decide +kernel) ⟨Nat.le_of_ble_eq_true rfl, Nat.le_of_ble_eq_true rfl⟩) hE hK hP hD [6, 7] rfl rfl 0 4 (T := TX4) (N := 1) rfl rfl rfl hl.1 rfl (Nat.le_of_ble_eq_true rfl) dX5_fits_26 ⟨Nat.le_of_ble_eq_true rfl, Nat.le_of_ble_eq_true rfl⟩) hP hD hS hA [6, 7] [0, 1, 2, 3, 4, 5, 8, 9, 10, 11] [0, 1, 2, 3, 4, 5, 10, 11, 6, 7, 8, 9] rfl rfl rfl (by decide) (fun _ => rfl) rfl (fun r3 u H locs hw hz hP hD hS => ?_)
  subst hw
  refine lv_iload hx hb dX5_fits_29 (lv_at hl 5 rfl) ?_
  refine lv_imul hx hb dX5_fits_31 ?_
  refine xcalli (S := Unit) (Wc := [(a2, .inr (3, [.int a2_steps, .int a2_mile, .int a2_walkers, .int a2_walked, .ref a2_hard, .ref a2_kinds, .ref a2_habits])), (a2_hard, .inr (4, [.ref a2_hard_a])), (a2_hard_a, .inl (cI, 21, .inl a2_hard_f))]) (wr := [(o, .inr (5, [.ref o_walkers, .ref o_numbers, .ref o_places, .int o_held])), (o_walkers, .inr (4, [.ref o_walkers_a])), (o_walkers_a, .inl (cI, 6, .inl o_walkers_f)), (a2_habits, .inr (4, [.ref a2_habits_a])), (a2_habits_a, .inl (cI, 6, .inl a2_habits_f)), (o_numbers, .inr (4, [.ref o_numbers_a])), (o_numbers_a, .inl (cI, 6, .inl o_numbers_f)), (o_places, .inr (4, [.ref o_places_a])), (o_places_a, .inl (cI, 6, .inl o_places_f))]) (W1 := (fun (u : Unit) => [(a2, .inr (3, [.int a2_steps, .int a2_mile, .int a2_walkers, .int a2_walked, .ref a2_hard, .ref a2_kinds, .ref a2_habits])), (a2_hard, .inr (4, [.ref a2_hard_a])), (a2_hard_a, .inl (cI, 21, .inl a2_hard_f))])) (Wn := (fun (u : Unit) => [(a2, .inr (3, [.int a2_steps, .int a2_mile, .int a2_walkers, .int a2_walked, .ref a2_hard, .ref a2_kinds, .ref a2_habits])), (o, .inr (5, [.ref o_walkers, .ref o_numbers, .ref o_places, .int o_held])), (o_walkers, .inr (4, [.ref o_walkers_a])), (o_walkers_a, .inl (cI, 6, .inl o_walkers_f)), (a2_habits, .inr (4, [.ref a2_habits_a])), (a2_habits_a, .inl (cI, 6, .inl a2_habits_f)), (o_numbers, .inr (4, [.ref o_numbers_a])), (o_numbers_a, .inl (cI, 6, .inl o_numbers_f)), (a2_hard, .inr (4, [.ref a2_hard_a])), (a2_hard_a, .inl (cI, 21, .inl a2_hard_f)), (o_places, .inr (4, [.ref o_places_a])), (o_places_a, .inl (cI, 6, .inl o_places_f))])) (xrunV hx hb hml hown hts (c_X3_placeFelt l D cI cZ _ a2 a3 (fX4_at (fX4_at a1 o_walkers_f 6) a2_habits_f 6) ((fX4_at a1 o_numbers_f 6) * a4) a2_steps a2_mile a2_walkers a2_walked a2_hard a2_kinds a2_habits a2_hard_a a2_hard_f hq1) (cwV 3 hts gX5_fits_X3_placeFelt rfl rfl rfl (by decide +kernel) ⟨Nat.le_of_ble_eq_true rfl, Nat.le_of_ble_eq_true rfl⟩) hE hK hP hD [0, 8, 9] rfl rfl 0 3 (T := TX3) (N := 7) rfl rfl rfl hl.1 rfl (Nat.le_of_ble_eq_true rfl) dX5_fits_32 ⟨Nat.le_of_ble_eq_true rfl, Nat.le_of_ble_eq_true rfl⟩) hP hD hS hA [0, 8, 9] [1, 2, 3, 4, 5, 6, 7, 10, 11] [9, 0, 1, 2, 3, 4, 5, 6, 10, 11, 7, 8] rfl rfl rfl (by decide) (fun _ => rfl) rfl (fun r4 u H locs hw hz hP hD hS => ?_)
  subst hw
  refine lv_aload_n hx hb dX5_fits_35 rfl (lv_at hl 1 rfl) ?_
  refine xget hx hb hts hown hK 5 (C2 := RX5) (T := TX5) (N := 4) rfl hin_5 hP 1 rfl 2 (by decide) fl_23 rfl rfl rfl dX5_fits_36 ?_
  refine lv_iload_n hx hb dX5_fits_39 rfl (lv_at hl 2 rfl) ?_
  refine xcalli (S := Unit) (Wc := [(o_places, .inr (4, [.ref o_places_a])), (o_places_a, .inl (cI, 6, .inl o_places_f))]) (wr := [(a2, .inr (3, [.int a2_steps, .int a2_mile, .int a2_walkers, .int a2_walked, .ref a2_hard, .ref a2_kinds, .ref a2_habits])), (o, .inr (5, [.ref o_walkers, .ref o_numbers, .ref o_places, .int o_held])), (o_walkers, .inr (4, [.ref o_walkers_a])), (o_walkers_a, .inl (cI, 6, .inl o_walkers_f)), (a2_habits, .inr (4, [.ref a2_habits_a])), (a2_habits_a, .inl (cI, 6, .inl a2_habits_f)), (o_numbers, .inr (4, [.ref o_numbers_a])), (o_numbers_a, .inl (cI, 6, .inl o_numbers_f)), (a2_hard, .inr (4, [.ref a2_hard_a])), (a2_hard_a, .inl (cI, 21, .inl a2_hard_f))]) (W1 := (fun (u : Unit) => [(o_places, .inr (4, [.ref o_places_a])), (o_places_a, .inl (cI, 6, .inl o_places_f))])) (Wn := (fun (u : Unit) => [(a2, .inr (3, [.int a2_steps, .int a2_mile, .int a2_walkers, .int a2_walked, .ref a2_hard, .ref a2_kinds, .ref a2_habits])), (o, .inr (5, [.ref o_walkers, .ref o_numbers, .ref o_places, .int o_held])), (o_walkers, .inr (4, [.ref o_walkers_a])), (o_walkers_a, .inl (cI, 6, .inl o_walkers_f)), (a2_habits, .inr (4, [.ref a2_habits_a])), (a2_habits_a, .inl (cI, 6, .inl a2_habits_f)), (o_numbers, .inr (4, [.ref o_numbers_a])), (o_numbers_a, .inl (cI, 6, .inl o_numbers_f)), (a2_hard, .inr (4, [.ref a2_hard_a])), (a2_hard_a, .inl (cI, 21, .inl a2_hard_f)), (o_places, .inr (4, [.ref o_places_a])), (o_places_a, .inl (cI, 6, .inl o_places_f))])) (xrunV hx hb hml hown hts (c_X4_at l D cI cZ _ o_places a1 o_places_a o_places_f 6 (by decide)) (cwV 1 hts gX5_fits_X4_at rfl rfl rfl (by decide +kernel) ⟨Nat.le_of_ble_eq_true rfl, Nat.le_of_ble_eq_true rfl⟩) hE hK hP hD [10, 11] rfl rfl 0 4 (T := TX4) (N := 1) rfl rfl rfl hl.1 rfl (Nat.le_of_ble_eq_true rfl) dX5_fits_40 ⟨Nat.le_of_ble_eq_true rfl, Nat.le_of_ble_eq_true rfl⟩) hP hD hS hA [10, 11] [0, 1, 2, 3, 4, 5, 6, 7, 8, 9] [0, 1, 2, 3, 4, 5, 6, 7, 8, 9, 10, 11] rfl rfl rfl (by decide) (fun _ => rfl) rfl (fun r5 u H locs hw hz hP hD hS => ?_)
  subst hw
  have K_y_1 : ∀ (y_1 : Int32) (hy_y_1 : (if (fX3_placeFelt a3 (fX4_at (fX4_at a1 o_walkers_f 6) a2_habits_f 6) ((fX4_at a1 o_numbers_f 6) * a4) a2_steps a2_hard_f) = (fX4_at a1 o_places_f 6) then (1 : Int32) else 0) = y_1) (H : Heap) (locs : List Loc) (hP : va_P D vwCl [(a2, .inr (3, [.int a2_steps, .int a2_mile, .int a2_walkers, .int a2_walked, .ref a2_hard, .ref a2_kinds, .ref a2_habits])), (o, .inr (5, [.ref o_walkers, .ref o_numbers, .ref o_places, .int o_held])), (o_walkers, .inr (4, [.ref o_walkers_a])), (o_walkers_a, .inl (cI, 6, .inl o_walkers_f)), (a2_habits, .inr (4, [.ref a2_habits_a])), (a2_habits_a, .inl (cI, 6, .inl a2_habits_f)), (o_numbers, .inr (4, [.ref o_numbers_a])), (o_numbers_a, .inl (cI, 6, .inl o_numbers_f)), (a2_hard, .inr (4, [.ref a2_hard_a])), (a2_hard_a, .inl (cI, 21, .inl a2_hard_f)), (o_places, .inr (4, [.ref o_places_a])), (o_places_a, .inl (cI, 6, .inl o_places_f))] H) (hD : va_D A [(a2, .inr (3, [.int a2_steps, .int a2_mile, .int a2_walkers, .int a2_walked, .ref a2_hard, .ref a2_kinds, .ref a2_habits])), (o, .inr (5, [.ref o_walkers, .ref o_numbers, .ref o_places, .int o_held])), (o_walkers, .inr (4, [.ref o_walkers_a])), (o_walkers_a, .inl (cI, 6, .inl o_walkers_f)), (a2_habits, .inr (4, [.ref a2_habits_a])), (a2_habits_a, .inl (cI, 6, .inl a2_habits_f)), (o_numbers, .inr (4, [.ref o_numbers_a])), (o_numbers_a, .inl (cI, 6, .inl o_numbers_f)), (a2_hard, .inr (4, [.ref a2_hard_a])), (a2_hard_a, .inl (cI, 21, .inl a2_hard_f)), (o_places, .inr (4, [.ref o_places_a])), (o_places_a, .inl (cI, 6, .inl o_places_f))]) (hS : va_S A s.heap H locs), W p l e ({ frames := 3, cells := 0, slots := 0, locals := 70 } : Room) s m ([.ref o, .int a1, .ref a2, .int a3, .int a4] : List Value).toArray below meth c H locs 0 0 Q (F0 m 51 ls [.int y_1]) := by
    intro y_1 hy_y_1 H locs hP hD hS
    have ky_y_1 : y_1 = 0 ∨ y_1 = 1 := by rw [← hy_y_1]; (repeat' split) <;> simp
    exact hret _ _ _ _ y_1 () (by rcases ky_y_1 with h | h <;> rw [h] <;> rfl) dX5_fits_51 ((hF.trans (by simp only [fX5_fits, xlet, ↓hy_y_1])).symm) hP hD hS
  refine lv_icmp_ne (tgt := 50) hx hb dX5_fits_43 (by decide) (fun c_1 => ?_) (fun c_1 => ?_)
  · refine lv_iconst (v := 0) hx hb dX5_fits_50 (by decide) ?_
    exact K_y_1 _ (by simp only [xlet, if_neg c_1]) _ _ hP hD hS
  · refine lv_iconst (v := 1) hx hb dX5_fits_46 (by decide) ?_
    refine lv_goto (tgt := 51) hx hb dX5_fits_47 (by decide) ?_
    exact K_y_1 _ (by simp only [xlet, if_pos c_1]) _ _ hP hD hS
theorem bz_X5_fits (a1 : Int32) (a3 : Int32) (a4 : Int32) (a2_steps : Int32) (o_walkers_f : Nat → Int32) (a2_habits_f : Nat → Int32) (o_numbers_f : Nat → Int32) (a2_hard_f : Nat → Int32) (o_places_f : Nat → Int32) : narrow .boolean (.int (fX5_fits a1 a3 a4 a2_steps o_walkers_f a2_habits_f o_numbers_f a2_hard_f o_places_f)) = .int (fX5_fits a1 a3 a4 a2_steps o_walkers_f a2_habits_f o_numbers_f a2_hard_f o_places_f) := by
  unfold fX5_fits; try unfold xlet
  first | rfl | ((repeat' split) <;> first | rfl)
set_option maxRecDepth 20000 in
theorem ggX5_fitKind_X4_at : GoodIn wsX5_fitKind wsX4_at := goodIn_r _ [7, 8, 39] (by decide +kernel) (by decide +kernel)
set_option maxRecDepth 20000 in
theorem gX5_fitKind_X4_at : GoodIn wsX5_fitKind (wsV RX5 34 RX4 yX4_at wsX4_at) := goodIn_app (goodIn_of _ (by decide +kernel)) ggX5_fitKind_X4_at
set_option maxRecDepth 20000 in
theorem ggX5_fitKind_X5_fits : GoodIn wsX5_fitKind wsX5_fits := goodIn_r _ [13, 2, 14, 15, 3, 4, 5, 6, 7, 8, 16, 17, 18, 19, 20, 21, 22, 23, 24, 25, 26, 27, 32, 33, 34, 35, 36, 37, 38, 28, 29, 30, 31, 39] (by decide +kernel) (by decide +kernel)
set_option maxRecDepth 20000 in
theorem gX5_fitKind_X5_fits : GoodIn wsX5_fitKind (wsV RX5 43 RX5 yX5_fits wsX5_fits) := goodIn_app (goodIn_of _ (by decide +kernel)) ggX5_fitKind_X5_fits
theorem dX5_fitKind_0 : decode cX5_fitKind 0 = .ok (.iconst 0, 1) := by decide +kernel
theorem dX5_fitKind_1 : decode cX5_fitKind 1 = .ok (.istore 4, 2) := by decide +kernel
theorem dX5_fitKind_3 : decode cX5_fitKind 3 = .ok (.iload 4, 2) := by decide +kernel
theorem dX5_fitKind_5 : decode cX5_fitKind 5 = .ok (.aload_n 0, 1) := by decide +kernel
theorem dX5_fitKind_6 : decode cX5_fitKind 6 = .ok (.getfield 26, 3) := by decide +kernel
theorem dX5_fitKind_9 : decode cX5_fitKind 9 = .ok (.if_icmp .ge 39, 3) := by decide +kernel
theorem dX5_fitKind_12 : decode cX5_fitKind 12 = .ok (.aload_n 0, 1) := by decide +kernel
theorem dX5_fitKind_13 : decode cX5_fitKind 13 = .ok (.getfield 14, 3) := by decide +kernel
theorem dX5_fitKind_16 : decode cX5_fitKind 16 = .ok (.iload 4, 2) := by decide +kernel
theorem dX5_fitKind_18 : decode cX5_fitKind 18 = .ok (.invokevirtual 34, 3) := by decide +kernel
theorem dX5_fitKind_21 : decode cX5_fitKind 21 = .ok (.iload_n 2, 1) := by decide +kernel
theorem dX5_fitKind_22 : decode cX5_fitKind 22 = .ok (.if_icmp .ne 20, 3) := by decide +kernel
theorem dX5_fitKind_25 : decode cX5_fitKind 25 = .ok (.aload_n 0, 1) := by decide +kernel
theorem dX5_fitKind_26 : decode cX5_fitKind 26 = .ok (.iload 4, 2) := by decide +kernel
theorem dX5_fitKind_28 : decode cX5_fitKind 28 = .ok (.aload_n 1, 1) := by decide +kernel
theorem dX5_fitKind_29 : decode cX5_fitKind 29 = .ok (.iload_n 3, 1) := by decide +kernel
theorem dX5_fitKind_30 : decode cX5_fitKind 30 = .ok (.aload_n 1, 1) := by decide +kernel
theorem dX5_fitKind_31 : decode cX5_fitKind 31 = .ok (.getfield 38, 3) := by decide +kernel
theorem dX5_fitKind_34 : decode cX5_fitKind 34 = .ok (.invokevirtual 43, 3) := by decide +kernel
theorem dX5_fitKind_37 : decode cX5_fitKind 37 = .ok (.ifCond .ne 5, 3) := by decide +kernel
theorem dX5_fitKind_40 : decode cX5_fitKind 40 = .ok (.iconst 0, 1) := by decide +kernel
theorem dX5_fitKind_41 : decode cX5_fitKind 41 = .ok (.ireturn, 1) := by decide +kernel
theorem dX5_fitKind_42 : decode cX5_fitKind 42 = .ok (.iinc 4 1, 3) := by decide +kernel
theorem dX5_fitKind_45 : decode cX5_fitKind 45 = .ok (.goto (-42), 3) := by decide +kernel
theorem dX5_fitKind_48 : decode cX5_fitKind 48 = .ok (.iconst 1, 1) := by decide +kernel
theorem dX5_fitKind_49 : decode cX5_fitKind 49 = .ok (.ireturn, 1) := by decide +kernel
def fX5_fitKind_3 (a2 : Int32) (a3 : Int32) (o_held : Int32) (o_walkers_f : Nat → Int32) (a1_steps : Int32) (a1_mile : Int32) (a1_habits_f : Nat → Int32) (o_numbers_f : Nat → Int32) (a1_hard_f : Nat → Int32) (o_places_f : Nat → Int32)  : Nat → Int32 → Int32
  | 0, _ => default
  | n + 1, v3_4 => if o_held ≤ v3_4 then 1 else (if (fX4_at v3_4 o_walkers_f 6) = a2 then (if (fX5_fits v3_4 a3 a1_mile a1_steps o_walkers_f a1_habits_f o_numbers_f a1_hard_f o_places_f) = 0 then 0 else (fX5_fitKind_3 a2 a3 o_held o_walkers_f a1_steps a1_mile a1_habits_f o_numbers_f a1_hard_f o_places_f n (v3_4 + 1))) else (fX5_fitKind_3 a2 a3 o_held o_walkers_f a1_steps a1_mile a1_habits_f o_numbers_f a1_hard_f o_places_f n (v3_4 + 1)))
def fX5_fitKind (a2 : Int32) (a3 : Int32) (o_held : Int32) (o_walkers_f : Nat → Int32) (a1_steps : Int32) (a1_mile : Int32) (a1_habits_f : Nat → Int32) (o_numbers_f : Nat → Int32) (a1_hard_f : Nat → Int32) (o_places_f : Nat → Int32) : Int32 := fX5_fitKind_3 a2 a3 o_held o_walkers_f a1_steps a1_mile a1_habits_f o_numbers_f a1_hard_f o_places_f 1000 0
set_option maxHeartbeats 4000000 in
set_option maxRecDepth 100000 in
theorem c_X5_fitKind (l : Launch) (D : va_G) (cI cZ : ClassId) (sz : Nat) (o : Nat) (a1 : Nat) (a2 : Int32) (a3 : Int32) (o_walkers : Nat) (o_numbers : Nat) (o_places : Nat) (o_held : Int32) (o_walkers_a : Nat) (o_walkers_f : Nat → Int32) (a1_steps : Int32) (a1_mile : Int32) (a1_walkers : Int32) (a1_walked : Int32) (a1_hard : Nat) (a1_kinds : Nat) (a1_habits : Nat) (a1_habits_a : Nat) (a1_habits_f : Nat → Int32) (o_numbers_a : Nat) (o_numbers_f : Nat → Int32) (a1_hard_a : Nat) (a1_hard_f : Nat → Int32) (o_places_a : Nat) (o_places_f : Nat → Int32) (hh : o_held.toInt ≤ 6) (hq2 : a1_steps.toInt ≤ 20) : Met l yX5_fitKind wsX5_fitKind ({ frames := 4, cells := 0, slots := 0, locals := 95 } : Room) (va_Pc [.ref o, .ref a1, .int a2, .int a3] (xP D cI cZ [(o, .inr (5, [.ref o_walkers, .ref o_numbers, .ref o_places, .int o_held])), (o_walkers, .inr (4, [.ref o_walkers_a])), (o_walkers_a, .inl (cI, 6, .inl o_walkers_f)), (a1, .inr (3, [.int a1_steps, .int a1_mile, .int a1_walkers, .int a1_walked, .ref a1_hard, .ref a1_kinds, .ref a1_habits])), (a1_habits, .inr (4, [.ref a1_habits_a])), (a1_habits_a, .inl (cI, 6, .inl a1_habits_f)), (o_numbers, .inr (4, [.ref o_numbers_a])), (o_numbers_a, .inl (cI, 6, .inl o_numbers_f)), (a1_hard, .inr (4, [.ref a1_hard_a])), (a1_hard_a, .inl (cI, 21, .inl a1_hard_f)), (o_places, .inr (4, [.ref o_places_a])), (o_places_a, .inl (cI, 6, .inl o_places_f))] sz)) (va_Qi (fun (r : Int32) (u : Unit) => r = fX5_fitKind a2 a3 o_held o_walkers_f a1_steps a1_mile a1_habits_f o_numbers_f a1_hard_f o_places_f) (fun (u : Unit) t => xB D cI cZ [(o, .inr (5, [.ref o_walkers, .ref o_numbers, .ref o_places, .int o_held])), (o_walkers, .inr (4, [.ref o_walkers_a])), (o_walkers_a, .inl (cI, 6, .inl o_walkers_f)), (a1, .inr (3, [.int a1_steps, .int a1_mile, .int a1_walkers, .int a1_walked, .ref a1_hard, .ref a1_kinds, .ref a1_habits])), (a1_habits, .inr (4, [.ref a1_habits_a])), (a1_habits_a, .inl (cI, 6, .inl a1_habits_f)), (o_numbers, .inr (4, [.ref o_numbers_a])), (o_numbers_a, .inl (cI, 6, .inl o_numbers_f)), (a1_hard, .inr (4, [.ref a1_hard_a])), (a1_hard_a, .inl (cI, 21, .inl a1_hard_f)), (o_places, .inr (4, [.ref o_places_a])), (o_places_a, .inl (cI, 6, .inl o_places_f))] (va_A [(o, .inr (5, [.ref o_walkers, .ref o_numbers, .ref o_places, .int o_held])), (o_walkers, .inr (4, [.ref o_walkers_a])), (o_walkers_a, .inl (cI, 6, .inl o_walkers_f)), (a1, .inr (3, [.int a1_steps, .int a1_mile, .int a1_walkers, .int a1_walked, .ref a1_hard, .ref a1_kinds, .ref a1_habits])), (a1_habits, .inr (4, [.ref a1_habits_a])), (a1_habits_a, .inl (cI, 6, .inl a1_habits_f)), (o_numbers, .inr (4, [.ref o_numbers_a])), (o_numbers_a, .inl (cI, 6, .inl o_numbers_f)), (a1_hard, .inr (4, [.ref a1_hard_a])), (a1_hard_a, .inl (cI, 21, .inl a1_hard_f)), (o_places, .inr (4, [.ref o_places_a])), (o_places_a, .inl (cI, 6, .inl o_places_f))] sz) t) (va_A [(o, .inr (5, [.ref o_walkers, .ref o_numbers, .ref o_places, .int o_held])), (o_walkers, .inr (4, [.ref o_walkers_a])), (o_walkers_a, .inl (cI, 6, .inl o_walkers_f)), (a1, .inr (3, [.int a1_steps, .int a1_mile, .int a1_walkers, .int a1_walked, .ref a1_hard, .ref a1_kinds, .ref a1_habits])), (a1_habits, .inr (4, [.ref a1_habits_a])), (a1_habits_a, .inl (cI, 6, .inl a1_habits_f)), (o_numbers, .inr (4, [.ref o_numbers_a])), (o_numbers_a, .inl (cI, 6, .inl o_numbers_f)), (a1_hard, .inr (4, [.ref a1_hard_a])), (a1_hard_a, .inl (cI, 21, .inl a1_hard_f)), (o_places, .inr (4, [.ref o_places_a])), (o_places_a, .inl (cI, 6, .inl o_places_f))] sz)) 0 0 (va_A [(o, .inr (5, [.ref o_walkers, .ref o_numbers, .ref o_places, .int o_held])), (o_walkers, .inr (4, [.ref o_walkers_a])), (o_walkers_a, .inl (cI, 6, .inl o_walkers_f)), (a1, .inr (3, [.int a1_steps, .int a1_mile, .int a1_walkers, .int a1_walked, .ref a1_hard, .ref a1_kinds, .ref a1_habits])), (a1_habits, .inr (4, [.ref a1_habits_a])), (a1_habits_a, .inl (cI, 6, .inl a1_habits_f)), (o_numbers, .inr (4, [.ref o_numbers_a])), (o_numbers_a, .inl (cI, 6, .inl o_numbers_f)), (a1_hard, .inr (4, [.ref a1_hard_a])), (a1_hard_a, .inl (cI, 21, .inl a1_hard_f)), (o_places, .inr (4, [.ref o_places_a])), (o_places_a, .inl (cI, 6, .inl o_places_f))] sz) := by
  refine Met.ofW (cc := cX5_fitKind) (maxL := 5) (ret := (some .boolean)) (by decide) rfl ?_
  intro p e s m args below meth c s₁ B hml hv
  obtain ⟨hargs, hsz, hP, hK, hD0, hE⟩ := hv
  subst hargs
  have hx := B.exec
  have hb := B.bytes
  have hr := B.returns
  have hts := atoms_spec (ws := wsX5_fitKind) B.pre
  have hown : s.vm.findClass RX5 = some m.cls := findClass_of_methodNamed B.named
  have hlocks := B.notSynchronized
  subst hsz
  have hD := hD0.self (sz := s.heap.size)
  generalize hAe : va_A [(o, .inr (5, [.ref o_walkers, .ref o_numbers, .ref o_places, .int o_held])), (o_walkers, .inr (4, [.ref o_walkers_a])), (o_walkers_a, .inl (cI, 6, .inl o_walkers_f)), (a1, .inr (3, [.int a1_steps, .int a1_mile, .int a1_walkers, .int a1_walked, .ref a1_hard, .ref a1_kinds, .ref a1_habits])), (a1_habits, .inr (4, [.ref a1_habits_a])), (a1_habits_a, .inl (cI, 6, .inl a1_habits_f)), (o_numbers, .inr (4, [.ref o_numbers_a])), (o_numbers_a, .inl (cI, 6, .inl o_numbers_f)), (a1_hard, .inr (4, [.ref a1_hard_a])), (a1_hard_a, .inl (cI, 21, .inl a1_hard_f)), (o_places, .inr (4, [.ref o_places_a])), (o_places_a, .inl (cI, 6, .inl o_places_f))] s.heap.size = A at hD ⊢
  have hA : ∀ q : Nat, s.heap.size ≤ q → A q := fun q h => by rw [← hAe]; exact Or.inr h
  have hS : va_S A s.heap s.heap [] := va_S.rf
  have hl := lv_entry ([.ref o, .ref a1, .int a2, .int a3]) (n := 5) (Nat.le_of_ble_eq_true rfl)
  rw [lg_entry_eq]
  generalize (lg_sl ([.ref o, .ref a1, .int a2, .int a3]) ++ List.replicate (5 - (lg_sl ([.ref o, .ref a1, .int a2, .int a3])).length) Slot.unset).toArray = ls at hl ⊢
  have hl : lv_has ls 5 [(0, .ref o), (1, .ref a1), (2, .int a2), (3, .int a3)] := hl
  refine wq (X := fun Q => ∀ (pc : Nat) (H : Heap) (locs : List Loc) (ls : Array Slot) (r : Int32) (u : Unit) (hn : narrow .boolean (.int r) = .int r) (hd : decode cX5_fitKind pc = .ok (.ireturn, 1)) (hp : r = fX5_fitKind a2 a3 o_held o_walkers_f a1_steps a1_mile a1_habits_f o_numbers_f a1_hard_f o_places_f) (hP : va_P D vwCl [(o, .inr (5, [.ref o_walkers, .ref o_numbers, .ref o_places, .int o_held])), (o_walkers, .inr (4, [.ref o_walkers_a])), (o_walkers_a, .inl (cI, 6, .inl o_walkers_f)), (a1, .inr (3, [.int a1_steps, .int a1_mile, .int a1_walkers, .int a1_walked, .ref a1_hard, .ref a1_kinds, .ref a1_habits])), (a1_habits, .inr (4, [.ref a1_habits_a])), (a1_habits_a, .inl (cI, 6, .inl a1_habits_f)), (o_numbers, .inr (4, [.ref o_numbers_a])), (o_numbers_a, .inl (cI, 6, .inl o_numbers_f)), (a1_hard, .inr (4, [.ref a1_hard_a])), (a1_hard_a, .inl (cI, 21, .inl a1_hard_f)), (o_places, .inr (4, [.ref o_places_a])), (o_places_a, .inl (cI, 6, .inl o_places_f))] H) (hD : va_D A [(o, .inr (5, [.ref o_walkers, .ref o_numbers, .ref o_places, .int o_held])), (o_walkers, .inr (4, [.ref o_walkers_a])), (o_walkers_a, .inl (cI, 6, .inl o_walkers_f)), (a1, .inr (3, [.int a1_steps, .int a1_mile, .int a1_walkers, .int a1_walked, .ref a1_hard, .ref a1_kinds, .ref a1_habits])), (a1_habits, .inr (4, [.ref a1_habits_a])), (a1_habits_a, .inl (cI, 6, .inl a1_habits_f)), (o_numbers, .inr (4, [.ref o_numbers_a])), (o_numbers_a, .inl (cI, 6, .inl o_numbers_f)), (a1_hard, .inr (4, [.ref a1_hard_a])), (a1_hard_a, .inl (cI, 21, .inl a1_hard_f)), (o_places, .inr (4, [.ref o_places_a])), (o_places_a, .inl (cI, 6, .inl o_places_f))]) (hS : va_S A s.heap H locs), W p l e ({ frames := 4, cells := 0, slots := 0, locals := 95 } : Room) s m ([.ref o, .ref a1, .int a2, .int a3] : List Value).toArray below meth c H locs 0 0 Q (F0 m pc ls [.int r])) ?_ (fun Q hret => ?_)
  · intro pc H locs ls r u hn hd hp hP hD hS
    exact W.zret (v := r) hx hb hr hn (fun t ht hW => ⟨⟨r, u, rfl, hp, by rw [ht]; exact hP, va_K.moved hW.alike hK, hD⟩, hS.F ht⟩) hS.2.2 hd
  have hin_3 : ∀ w ∈ u_ws RX3 TX3 7, w ∈ wsX5_fitKind := by decide +kernel
  have hin_5 : ∀ w ∈ u_ws RX5 TX5 4, w ∈ wsX5_fitKind := by decide +kernel
  have fl_14 := hts (.fieldLink RX5 14 "MileRoad$Sightings" "walkers" "LMileRoad$Row;") (by decide +kernel)
  have fl_26 := hts (.fieldLink RX5 26 "MileRoad$Sightings" "held" "I") (by decide +kernel)
  have fl_38 := hE.f 21 rfl ([.ref o, .ref a1, .int a2, .int a3] : List Value).toArray
  have zl_0 : (0 : Int32).toInt = 0 := by decide
  have zl_1 : (1 : Int32).toInt = 1 := by decide
  have hF : fX5_fitKind a2 a3 o_held o_walkers_f a1_steps a1_mile a1_habits_f o_numbers_f a1_hard_f o_places_f = fX5_fitKind a2 a3 o_held o_walkers_f a1_steps a1_mile a1_habits_f o_numbers_f a1_hard_f o_places_f := rfl
  have L_3 : ∀ (n : Nat) (v3_4 : Int32) (h1_3 : 0 ≤ v3_4.toInt) (h2_3 : v3_4.toInt ≤ 6) (hm : 6 - v3_4.toInt < (n : Int)) (H : Heap) (locs : List Loc) (ls : Array Slot) (hl : lv_has ls 5 [(0, .ref o), (1, .ref a1), (2, .int a2), (3, .int a3), (4, .int v3_4)]) (hP : va_P D vwCl [(o, .inr (5, [.ref o_walkers, .ref o_numbers, .ref o_places, .int o_held])), (o_walkers, .inr (4, [.ref o_walkers_a])), (o_walkers_a, .inl (cI, 6, .inl o_walkers_f)), (a1, .inr (3, [.int a1_steps, .int a1_mile, .int a1_walkers, .int a1_walked, .ref a1_hard, .ref a1_kinds, .ref a1_habits])), (a1_habits, .inr (4, [.ref a1_habits_a])), (a1_habits_a, .inl (cI, 6, .inl a1_habits_f)), (o_numbers, .inr (4, [.ref o_numbers_a])), (o_numbers_a, .inl (cI, 6, .inl o_numbers_f)), (a1_hard, .inr (4, [.ref a1_hard_a])), (a1_hard_a, .inl (cI, 21, .inl a1_hard_f)), (o_places, .inr (4, [.ref o_places_a])), (o_places_a, .inl (cI, 6, .inl o_places_f))] H) (hD : va_D A [(o, .inr (5, [.ref o_walkers, .ref o_numbers, .ref o_places, .int o_held])), (o_walkers, .inr (4, [.ref o_walkers_a])), (o_walkers_a, .inl (cI, 6, .inl o_walkers_f)), (a1, .inr (3, [.int a1_steps, .int a1_mile, .int a1_walkers, .int a1_walked, .ref a1_hard, .ref a1_kinds, .ref a1_habits])), (a1_habits, .inr (4, [.ref a1_habits_a])), (a1_habits_a, .inl (cI, 6, .inl a1_habits_f)), (o_numbers, .inr (4, [.ref o_numbers_a])), (o_numbers_a, .inl (cI, 6, .inl o_numbers_f)), (a1_hard, .inr (4, [.ref a1_hard_a])), (a1_hard_a, .inl (cI, 21, .inl a1_hard_f)), (o_places, .inr (4, [.ref o_places_a])), (o_places_a, .inl (cI, 6, .inl o_places_f))]) (hS : va_S A s.heap H locs) (hF : fX5_fitKind a2 a3 o_held o_walkers_f a1_steps a1_mile a1_habits_f o_numbers_f a1_hard_f o_places_f = fX5_fitKind_3 a2 a3 o_held o_walkers_f a1_steps a1_mile a1_habits_f o_numbers_f a1_hard_f o_places_f n v3_4), W p l e ({ frames := 4, cells := 0, slots := 0, locals := 95 } : Room) s m ([.ref o, .ref a1, .int a2, .int a3] : List Value).toArray below meth c H locs 0 0 Q (F0 m 3 ls []) := by
    intro n
    induction n with
    | zero =>
      intro v3_4 h1_3 h2_3 hm H locs ls hl hP hD hS hF
      exact absurd hm (by omega)
    | succ n ih_3 =>
      intro v3_4 h1_3 h2_3 hm H locs ls hl hP hD hS hF
      refine lv_iload hx hb dX5_fitKind_3 (lv_at hl 4 rfl) ?_
      refine lv_aload_n hx hb dX5_fitKind_5 rfl (lv_at hl 0 rfl) ?_
      refine xget hx hb hts hown hK 5 (C2 := RX5) (T := TX5) (N := 4) rfl hin_5 hP 0 rfl 3 (by decide) fl_26 rfl rfl rfl dX5_fitKind_6 ?_
      refine lv_icmp_ge (tgt := 48) hx hb dX5_fitKind_9 (by decide) (fun c_1 => ?_) (fun c_1 => ?_)
      · have kc_1 := t_le c_1
        refine lv_iconst (v := 1) hx hb dX5_fitKind_48 (by decide) ?_
        exact hret _ _ _ _ 1 () rfl dX5_fitKind_49 ((hF.trans (by simp only [fX5_fitKind_3, xlet, if_pos c_1])).symm) hP hD hS
      · have kc_1 := t_nle c_1
        refine lv_aload_n hx hb dX5_fitKind_12 rfl (lv_at hl 0 rfl) ?_
        refine xget hx hb hts hown hK 5 (C2 := RX5) (T := TX5) (N := 4) rfl hin_5 hP 0 rfl 0 (by decide) fl_14 rfl rfl rfl dX5_fitKind_13 ?_
        refine lv_iload hx hb dX5_fitKind_16 (lv_at hl 4 rfl) ?_
        refine xcalli (S := Unit) (Wc := [(o_walkers, .inr (4, [.ref o_walkers_a])), (o_walkers_a, .inl (cI, 6, .inl o_walkers_f))]) (wr := [(o, .inr (5, [.ref o_walkers, .ref o_numbers, .ref o_places, .int o_held])), (a1, .inr (3, [.int a1_steps, .int a1_mile, .int a1_walkers, .int a1_walked, .ref a1_hard, .ref a1_kinds, .ref a1_habits])), (a1_habits, .inr (4, [.ref a1_habits_a])), (a1_habits_a, .inl (cI, 6, .inl a1_habits_f)), (o_numbers, .inr (4, [.ref o_numbers_a])), (o_numbers_a, .inl (cI, 6, .inl o_numbers_f)), (a1_hard, .inr (4, [.ref a1_hard_a])), (a1_hard_a, .inl (cI, 21, .inl a1_hard_f)), (o_places, .inr (4, [.ref o_places_a])), (o_places_a, .inl (cI, 6, .inl o_places_f))]) (W1 := (fun (u : Unit) => [(o_walkers, .inr (4, [.ref o_walkers_a])), (o_walkers_a, .inl (cI, 6, .inl o_walkers_f))])) (Wn := (fun (u : Unit) => [(o, .inr (5, [.ref o_walkers, .ref o_numbers, .ref o_places, .int o_held])), (o_walkers, .inr (4, [.ref o_walkers_a])), (o_walkers_a, .inl (cI, 6, .inl o_walkers_f)), (a1, .inr (3, [.int a1_steps, .int a1_mile, .int a1_walkers, .int a1_walked, .ref a1_hard, .ref a1_kinds, .ref a1_habits])), (a1_habits, .inr (4, [.ref a1_habits_a])), (a1_habits_a, .inl (cI, 6, .inl a1_habits_f)), (o_numbers, .inr (4, [.ref o_numbers_a])), (o_numbers_a, .inl (cI, 6, .inl o_numbers_f)), (a1_hard, .inr (4, [.ref a1_hard_a])), (a1_hard_a, .inl (cI, 21, .inl a1_hard_f)), (o_places, .inr (4, [.ref o_places_a])), (o_places_a, .inl (cI, 6, .inl o_places_f))])) (xrunV hx hb hml hown hts (c_X4_at l D cI cZ _ o_walkers v3_4 o_walkers_a o_walkers_f 6 (by decide)) (cwV 1 hts gX5_fitKind_X4_at rfl rfl rfl (by decide +kernel) ⟨Nat.le_of_ble_eq_true rfl, Nat.le_of_ble_eq_true rfl⟩) hE hK hP hD [1, 2] rfl rfl 0 4 (T := TX4) (N := 1) rfl rfl rfl hl.1 rfl (Nat.le_of_ble_eq_true rfl) dX5_fitKind_18 ⟨Nat.le_of_ble_eq_true rfl, Nat.le_of_ble_eq_true rfl⟩) hP hD hS hA [1, 2] [0, 3, 4, 5, 6, 7, 8, 9, 10, 11] [0, 10, 11, 1, 2, 3, 4, 5, 6, 7, 8, 9] rfl rfl rfl (by decide) (fun _ => rfl) rfl (fun r1 u H locs hw hz hP hD hS => ?_)
        subst hw
        refine lv_iload_n hx hb dX5_fitKind_21 rfl (lv_at hl 2 rfl) ?_
        refine lv_icmp_ne (tgt := 42) hx hb dX5_fitKind_22 (by decide) (fun c_2 => ?_) (fun c_2 => ?_)
        · refine lv_iinc (v := (v3_4 + 1)) (lv' := [(4, .int (v3_4 + 1)), (0, .ref o), (1, .ref a1), (2, .int a2), (3, .int a3)]) hx hb dX5_fitKind_42 hl (k := 4) rfl (by rfl) (by decide) rfl (fun ls hl => ?_)
          refine lv_goto (tgt := 3) hx hb dX5_fitKind_45 (by decide) ?_
          have z_1 : (v3_4 + 1).toInt = v3_4.toInt + (1 : Int32).toInt := z_add (by omega) (by omega)
          exact ih_3 (v3_4 + 1) (by first | assumption | omega | decide | (split <;> rename_i hh <;> first | (have h9 := t_nlt hh; omega) | (have h9 := t_lt hh; omega) | (have h9 := t_nle hh; omega) | (have h9 := t_le hh; omega))) (by first | assumption | omega | decide | (split <;> rename_i hh <;> first | (have h9 := t_nlt hh; omega) | (have h9 := t_lt hh; omega) | (have h9 := t_nle hh; omega) | (have h9 := t_le hh; omega))) (by first | assumption | omega | decide | (split <;> rename_i hh <;> first | (have h9 := t_nlt hh; omega) | (have h9 := t_lt hh; omega) | (have h9 := t_nle hh; omega) | (have h9 := t_le hh; omega))) _ _ _ (lv_sub hl [1, 2, 3, 4, 0] rfl) hP hD hS (hF.trans (by simp only [fX5_fitKind_3, xlet, if_neg c_1, if_neg c_2]))
        · refine lv_aload_n hx hb dX5_fitKind_25 rfl (lv_at hl 0 rfl) ?_
          refine lv_iload hx hb dX5_fitKind_26 (lv_at hl 4 rfl) ?_
          refine lv_aload_n hx hb dX5_fitKind_28 rfl (lv_at hl 1 rfl) ?_
          refine lv_iload_n hx hb dX5_fitKind_29 rfl (lv_at hl 3 rfl) ?_
          refine lv_aload_n hx hb dX5_fitKind_30 rfl (lv_at hl 1 rfl) ?_
          refine xgetN hx hb hts hown hK 3 (C2 := RX3) (T := TX3) (N := 7) rfl hin_3 hP 3 rfl 1 (by decide) fl_38 rfl rfl rfl dX5_fitKind_31 ?_
          refine xcalli (S := Unit) (Wc := [(a1, .inr (3, [.int a1_steps, .int a1_mile, .int a1_walkers, .int a1_walked, .ref a1_hard, .ref a1_kinds, .ref a1_habits])), (o, .inr (5, [.ref o_walkers, .ref o_numbers, .ref o_places, .int o_held])), (o_walkers, .inr (4, [.ref o_walkers_a])), (o_walkers_a, .inl (cI, 6, .inl o_walkers_f)), (a1_habits, .inr (4, [.ref a1_habits_a])), (a1_habits_a, .inl (cI, 6, .inl a1_habits_f)), (o_numbers, .inr (4, [.ref o_numbers_a])), (o_numbers_a, .inl (cI, 6, .inl o_numbers_f)), (a1_hard, .inr (4, [.ref a1_hard_a])), (a1_hard_a, .inl (cI, 21, .inl a1_hard_f)), (o_places, .inr (4, [.ref o_places_a])), (o_places_a, .inl (cI, 6, .inl o_places_f))]) (wr := []) (W1 := (fun (u : Unit) => [(a1, .inr (3, [.int a1_steps, .int a1_mile, .int a1_walkers, .int a1_walked, .ref a1_hard, .ref a1_kinds, .ref a1_habits])), (o, .inr (5, [.ref o_walkers, .ref o_numbers, .ref o_places, .int o_held])), (o_walkers, .inr (4, [.ref o_walkers_a])), (o_walkers_a, .inl (cI, 6, .inl o_walkers_f)), (a1_habits, .inr (4, [.ref a1_habits_a])), (a1_habits_a, .inl (cI, 6, .inl a1_habits_f)), (o_numbers, .inr (4, [.ref o_numbers_a])), (o_numbers_a, .inl (cI, 6, .inl o_numbers_f)), (a1_hard, .inr (4, [.ref a1_hard_a])), (a1_hard_a, .inl (cI, 21, .inl a1_hard_f)), (o_places, .inr (4, [.ref o_places_a])), (o_places_a, .inl (cI, 6, .inl o_places_f))])) (Wn := (fun (u : Unit) => [(o, .inr (5, [.ref o_walkers, .ref o_numbers, .ref o_places, .int o_held])), (o_walkers, .inr (4, [.ref o_walkers_a])), (o_walkers_a, .inl (cI, 6, .inl o_walkers_f)), (a1, .inr (3, [.int a1_steps, .int a1_mile, .int a1_walkers, .int a1_walked, .ref a1_hard, .ref a1_kinds, .ref a1_habits])), (a1_habits, .inr (4, [.ref a1_habits_a])), (a1_habits_a, .inl (cI, 6, .inl a1_habits_f)), (o_numbers, .inr (4, [.ref o_numbers_a])), (o_numbers_a, .inl (cI, 6, .inl o_numbers_f)), (a1_hard, .inr (4, [.ref a1_hard_a])), (a1_hard_a, .inl (cI, 21, .inl a1_hard_f)), (o_places, .inr (4, [.ref o_places_a])), (o_places_a, .inl (cI, 6, .inl o_places_f))])) (xrunV hx hb hml hown hts (c_X5_fits l D cI cZ _ o v3_4 a1 a3 a1_mile a1_steps a1_mile a1_walkers a1_walked a1_hard a1_kinds a1_habits o_walkers o_numbers o_places o_held o_walkers_a o_walkers_f a1_habits_a a1_habits_f o_numbers_a o_numbers_f a1_hard_a a1_hard_f o_places_a o_places_f hq2) (cwV 4 hts gX5_fitKind_X5_fits rfl rfl rfl (by decide +kernel) ⟨Nat.le_of_ble_eq_true rfl, Nat.le_of_ble_eq_true rfl⟩) hE hK hP hD [3, 0, 1, 2, 4, 5, 6, 7, 8, 9, 10, 11] rfl rfl 1 5 (T := TX5) (N := 4) rfl rfl rfl hl.1 rfl (Nat.le_of_ble_eq_true rfl) dX5_fitKind_34 ⟨Nat.le_of_ble_eq_true rfl, Nat.le_of_ble_eq_true rfl⟩) hP hD hS hA [3, 0, 1, 2, 4, 5, 6, 7, 8, 9, 10, 11] [] [1, 2, 3, 0, 4, 5, 6, 7, 8, 9, 10, 11] rfl rfl rfl (by decide) (fun _ => rfl) rfl (fun r2 u H locs hw hz hP hD hS => ?_)
          subst hw
          refine lv_if_ne (tgt := 42) hx hb dX5_fitKind_37 (by decide) (fun c_3 => ?_) (fun c_3 => ?_)
          · refine lv_iinc (v := (v3_4 + 1)) (lv' := [(4, .int (v3_4 + 1)), (0, .ref o), (1, .ref a1), (2, .int a2), (3, .int a3)]) hx hb dX5_fitKind_42 hl (k := 4) rfl (by rfl) (by decide) rfl (fun ls hl => ?_)
            refine lv_goto (tgt := 3) hx hb dX5_fitKind_45 (by decide) ?_
            have z_2 : (v3_4 + 1).toInt = v3_4.toInt + (1 : Int32).toInt := z_add (by omega) (by omega)
            exact ih_3 (v3_4 + 1) (by first | assumption | omega | decide | (split <;> rename_i hh <;> first | (have h9 := t_nlt hh; omega) | (have h9 := t_lt hh; omega) | (have h9 := t_nle hh; omega) | (have h9 := t_le hh; omega))) (by first | assumption | omega | decide | (split <;> rename_i hh <;> first | (have h9 := t_nlt hh; omega) | (have h9 := t_lt hh; omega) | (have h9 := t_nle hh; omega) | (have h9 := t_le hh; omega))) (by first | assumption | omega | decide | (split <;> rename_i hh <;> first | (have h9 := t_nlt hh; omega) | (have h9 := t_lt hh; omega) | (have h9 := t_nle hh; omega) | (have h9 := t_le hh; omega))) _ _ _ (lv_sub hl [1, 2, 3, 4, 0] rfl) hP hD hS (hF.trans (by simp only [fX5_fitKind_3, xlet, if_neg c_1, if_pos c_2, if_neg c_3]))
          · refine lv_iconst (v := 0) hx hb dX5_fitKind_40 (by decide) ?_
            exact hret _ _ _ _ 0 () rfl dX5_fitKind_41 ((hF.trans (by simp only [fX5_fitKind_3, xlet, if_neg c_1, if_pos c_2, if_pos c_3])).symm) hP hD hS
  refine lv_iconst (v := 0) hx hb dX5_fitKind_0 (by decide) ?_
  refine lv_istore (lv' := [(4, .int 0), (0, .ref o), (1, .ref a1), (2, .int a2), (3, .int a3)]) hx hb dX5_fitKind_1 hl (by decide) rfl (fun ls hl => ?_)
  exact L_3 1000 0 (by first | assumption | omega | decide | (split <;> rename_i hh <;> first | (have h9 := t_nlt hh; omega) | (have h9 := t_lt hh; omega) | (have h9 := t_nle hh; omega) | (have h9 := t_le hh; omega))) (by first | assumption | omega | decide | (split <;> rename_i hh <;> first | (have h9 := t_nlt hh; omega) | (have h9 := t_lt hh; omega) | (have h9 := t_nle hh; omega) | (have h9 := t_le hh; omega))) (by first | assumption | omega | decide | (split <;> rename_i hh <;> first | (have h9 := t_nlt hh; omega) | (have h9 := t_lt hh; omega) | (have h9 := t_nle hh; omega) | (have h9 := t_le hh; omega))) _ _ _ (lv_sub hl [1, 2, 3, 4, 0] rfl) hP hD hS (hF.trans (by simp only [fX5_fitKind, xlet]))
set_option maxRecDepth 20000 in
theorem ggX5_fitMile_X4_at : GoodIn wsX5_fitMile wsX4_at := goodIn_r _ [7, 8, 39] (by decide +kernel) (by decide +kernel)
set_option maxRecDepth 20000 in
theorem gX5_fitMile_X4_at : GoodIn wsX5_fitMile (wsV RX5 34 RX4 yX4_at wsX4_at) := goodIn_app (goodIn_of _ (by decide +kernel)) ggX5_fitMile_X4_at
set_option maxRecDepth 20000 in
theorem ggX5_fitMile_X5_fits : GoodIn wsX5_fitMile wsX5_fits := goodIn_r _ [13, 2, 14, 15, 3, 4, 5, 6, 7, 8, 16, 17, 18, 19, 20, 21, 22, 23, 24, 25, 26, 27, 32, 33, 34, 35, 36, 37, 38, 28, 29, 30, 31, 39] (by decide +kernel) (by decide +kernel)
set_option maxRecDepth 20000 in
theorem gX5_fitMile_X5_fits : GoodIn wsX5_fitMile (wsV RX5 43 RX5 yX5_fits wsX5_fits) := goodIn_app (goodIn_of _ (by decide +kernel)) ggX5_fitMile_X5_fits
theorem dX5_fitMile_0 : decode cX5_fitMile 0 = .ok (.iconst 0, 1) := by decide +kernel
theorem dX5_fitMile_1 : decode cX5_fitMile 1 = .ok (.istore_n 3, 1) := by decide +kernel
theorem dX5_fitMile_2 : decode cX5_fitMile 2 = .ok (.iload_n 3, 1) := by decide +kernel
theorem dX5_fitMile_3 : decode cX5_fitMile 3 = .ok (.aload_n 0, 1) := by decide +kernel
theorem dX5_fitMile_4 : decode cX5_fitMile 4 = .ok (.getfield 26, 3) := by decide +kernel
theorem dX5_fitMile_7 : decode cX5_fitMile 7 = .ok (.if_icmp .ge 36, 3) := by decide +kernel
theorem dX5_fitMile_10 : decode cX5_fitMile 10 = .ok (.aload_n 0, 1) := by decide +kernel
theorem dX5_fitMile_11 : decode cX5_fitMile 11 = .ok (.iload_n 3, 1) := by decide +kernel
theorem dX5_fitMile_12 : decode cX5_fitMile 12 = .ok (.aload_n 1, 1) := by decide +kernel
theorem dX5_fitMile_13 : decode cX5_fitMile 13 = .ok (.aload_n 1, 1) := by decide +kernel
theorem dX5_fitMile_14 : decode cX5_fitMile 14 = .ok (.getfield 47, 3) := by decide +kernel
theorem dX5_fitMile_17 : decode cX5_fitMile 17 = .ok (.aload_n 0, 1) := by decide +kernel
theorem dX5_fitMile_18 : decode cX5_fitMile 18 = .ok (.getfield 14, 3) := by decide +kernel
theorem dX5_fitMile_21 : decode cX5_fitMile 21 = .ok (.iload_n 3, 1) := by decide +kernel
theorem dX5_fitMile_22 : decode cX5_fitMile 22 = .ok (.invokevirtual 34, 3) := by decide +kernel
theorem dX5_fitMile_25 : decode cX5_fitMile 25 = .ok (.invokevirtual 34, 3) := by decide +kernel
theorem dX5_fitMile_28 : decode cX5_fitMile 28 = .ok (.iload_n 2, 1) := by decide +kernel
theorem dX5_fitMile_29 : decode cX5_fitMile 29 = .ok (.invokevirtual 43, 3) := by decide +kernel
theorem dX5_fitMile_32 : decode cX5_fitMile 32 = .ok (.ifCond .ne 5, 3) := by decide +kernel
theorem dX5_fitMile_35 : decode cX5_fitMile 35 = .ok (.iconst 0, 1) := by decide +kernel
theorem dX5_fitMile_36 : decode cX5_fitMile 36 = .ok (.ireturn, 1) := by decide +kernel
theorem dX5_fitMile_37 : decode cX5_fitMile 37 = .ok (.iinc 3 1, 3) := by decide +kernel
theorem dX5_fitMile_40 : decode cX5_fitMile 40 = .ok (.goto (-38), 3) := by decide +kernel
theorem dX5_fitMile_43 : decode cX5_fitMile 43 = .ok (.iconst 1, 1) := by decide +kernel
theorem dX5_fitMile_44 : decode cX5_fitMile 44 = .ok (.ireturn, 1) := by decide +kernel
def fX5_fitMile_2 (a2 : Int32) (o_held : Int32) (a1_steps : Int32) (o_walkers_f : Nat → Int32) (a1_kinds_f : Nat → Int32) (a1_habits_f : Nat → Int32) (o_numbers_f : Nat → Int32) (a1_hard_f : Nat → Int32) (o_places_f : Nat → Int32)  : Nat → Int32 → Int32
  | 0, _ => default
  | n + 1, v2_3 => if o_held ≤ v2_3 then 1 else (if (fX5_fits v2_3 (fX4_at (fX4_at v2_3 o_walkers_f 6) a1_kinds_f 6) a2 a1_steps o_walkers_f a1_habits_f o_numbers_f a1_hard_f o_places_f) = 0 then 0 else (fX5_fitMile_2 a2 o_held a1_steps o_walkers_f a1_kinds_f a1_habits_f o_numbers_f a1_hard_f o_places_f n (v2_3 + 1)))
def fX5_fitMile (a2 : Int32) (o_held : Int32) (a1_steps : Int32) (o_walkers_f : Nat → Int32) (a1_kinds_f : Nat → Int32) (a1_habits_f : Nat → Int32) (o_numbers_f : Nat → Int32) (a1_hard_f : Nat → Int32) (o_places_f : Nat → Int32) : Int32 := fX5_fitMile_2 a2 o_held a1_steps o_walkers_f a1_kinds_f a1_habits_f o_numbers_f a1_hard_f o_places_f 1000 0
set_option maxHeartbeats 4000000 in
set_option maxRecDepth 100000 in
theorem c_X5_fitMile (l : Launch) (D : va_G) (cI cZ : ClassId) (sz : Nat) (o : Nat) (a1 : Nat) (a2 : Int32) (o_walkers : Nat) (o_numbers : Nat) (o_places : Nat) (o_held : Int32) (a1_steps : Int32) (a1_mile : Int32) (a1_walkers : Int32) (a1_walked : Int32) (a1_hard : Nat) (a1_kinds : Nat) (a1_habits : Nat) (o_walkers_a : Nat) (o_walkers_f : Nat → Int32) (a1_kinds_a : Nat) (a1_kinds_f : Nat → Int32) (a1_habits_a : Nat) (a1_habits_f : Nat → Int32) (o_numbers_a : Nat) (o_numbers_f : Nat → Int32) (a1_hard_a : Nat) (a1_hard_f : Nat → Int32) (o_places_a : Nat) (o_places_f : Nat → Int32) (hh : o_held.toInt ≤ 6) (hq2 : a1_steps.toInt ≤ 20) : Met l yX5_fitMile wsX5_fitMile ({ frames := 4, cells := 0, slots := 0, locals := 95 } : Room) (va_Pc [.ref o, .ref a1, .int a2] (xP D cI cZ [(o, .inr (5, [.ref o_walkers, .ref o_numbers, .ref o_places, .int o_held])), (a1, .inr (3, [.int a1_steps, .int a1_mile, .int a1_walkers, .int a1_walked, .ref a1_hard, .ref a1_kinds, .ref a1_habits])), (o_walkers, .inr (4, [.ref o_walkers_a])), (o_walkers_a, .inl (cI, 6, .inl o_walkers_f)), (a1_kinds, .inr (4, [.ref a1_kinds_a])), (a1_kinds_a, .inl (cI, 6, .inl a1_kinds_f)), (a1_habits, .inr (4, [.ref a1_habits_a])), (a1_habits_a, .inl (cI, 6, .inl a1_habits_f)), (o_numbers, .inr (4, [.ref o_numbers_a])), (o_numbers_a, .inl (cI, 6, .inl o_numbers_f)), (a1_hard, .inr (4, [.ref a1_hard_a])), (a1_hard_a, .inl (cI, 21, .inl a1_hard_f)), (o_places, .inr (4, [.ref o_places_a])), (o_places_a, .inl (cI, 6, .inl o_places_f))] sz)) (va_Qi (fun (r : Int32) (u : Unit) => r = fX5_fitMile a2 o_held a1_steps o_walkers_f a1_kinds_f a1_habits_f o_numbers_f a1_hard_f o_places_f) (fun (u : Unit) t => xB D cI cZ [(o, .inr (5, [.ref o_walkers, .ref o_numbers, .ref o_places, .int o_held])), (a1, .inr (3, [.int a1_steps, .int a1_mile, .int a1_walkers, .int a1_walked, .ref a1_hard, .ref a1_kinds, .ref a1_habits])), (o_walkers, .inr (4, [.ref o_walkers_a])), (o_walkers_a, .inl (cI, 6, .inl o_walkers_f)), (a1_kinds, .inr (4, [.ref a1_kinds_a])), (a1_kinds_a, .inl (cI, 6, .inl a1_kinds_f)), (a1_habits, .inr (4, [.ref a1_habits_a])), (a1_habits_a, .inl (cI, 6, .inl a1_habits_f)), (o_numbers, .inr (4, [.ref o_numbers_a])), (o_numbers_a, .inl (cI, 6, .inl o_numbers_f)), (a1_hard, .inr (4, [.ref a1_hard_a])), (a1_hard_a, .inl (cI, 21, .inl a1_hard_f)), (o_places, .inr (4, [.ref o_places_a])), (o_places_a, .inl (cI, 6, .inl o_places_f))] (va_A [(o, .inr (5, [.ref o_walkers, .ref o_numbers, .ref o_places, .int o_held])), (a1, .inr (3, [.int a1_steps, .int a1_mile, .int a1_walkers, .int a1_walked, .ref a1_hard, .ref a1_kinds, .ref a1_habits])), (o_walkers, .inr (4, [.ref o_walkers_a])), (o_walkers_a, .inl (cI, 6, .inl o_walkers_f)), (a1_kinds, .inr (4, [.ref a1_kinds_a])), (a1_kinds_a, .inl (cI, 6, .inl a1_kinds_f)), (a1_habits, .inr (4, [.ref a1_habits_a])), (a1_habits_a, .inl (cI, 6, .inl a1_habits_f)), (o_numbers, .inr (4, [.ref o_numbers_a])), (o_numbers_a, .inl (cI, 6, .inl o_numbers_f)), (a1_hard, .inr (4, [.ref a1_hard_a])), (a1_hard_a, .inl (cI, 21, .inl a1_hard_f)), (o_places, .inr (4, [.ref o_places_a])), (o_places_a, .inl (cI, 6, .inl o_places_f))] sz) t) (va_A [(o, .inr (5, [.ref o_walkers, .ref o_numbers, .ref o_places, .int o_held])), (a1, .inr (3, [.int a1_steps, .int a1_mile, .int a1_walkers, .int a1_walked, .ref a1_hard, .ref a1_kinds, .ref a1_habits])), (o_walkers, .inr (4, [.ref o_walkers_a])), (o_walkers_a, .inl (cI, 6, .inl o_walkers_f)), (a1_kinds, .inr (4, [.ref a1_kinds_a])), (a1_kinds_a, .inl (cI, 6, .inl a1_kinds_f)), (a1_habits, .inr (4, [.ref a1_habits_a])), (a1_habits_a, .inl (cI, 6, .inl a1_habits_f)), (o_numbers, .inr (4, [.ref o_numbers_a])), (o_numbers_a, .inl (cI, 6, .inl o_numbers_f)), (a1_hard, .inr (4, [.ref a1_hard_a])), (a1_hard_a, .inl (cI, 21, .inl a1_hard_f)), (o_places, .inr (4, [.ref o_places_a])), (o_places_a, .inl (cI, 6, .inl o_places_f))] sz)) 0 0 (va_A [(o, .inr (5, [.ref o_walkers, .ref o_numbers, .ref o_places, .int o_held])), (a1, .inr (3, [.int a1_steps, .int a1_mile, .int a1_walkers, .int a1_walked, .ref a1_hard, .ref a1_kinds, .ref a1_habits])), (o_walkers, .inr (4, [.ref o_walkers_a])), (o_walkers_a, .inl (cI, 6, .inl o_walkers_f)), (a1_kinds, .inr (4, [.ref a1_kinds_a])), (a1_kinds_a, .inl (cI, 6, .inl a1_kinds_f)), (a1_habits, .inr (4, [.ref a1_habits_a])), (a1_habits_a, .inl (cI, 6, .inl a1_habits_f)), (o_numbers, .inr (4, [.ref o_numbers_a])), (o_numbers_a, .inl (cI, 6, .inl o_numbers_f)), (a1_hard, .inr (4, [.ref a1_hard_a])), (a1_hard_a, .inl (cI, 21, .inl a1_hard_f)), (o_places, .inr (4, [.ref o_places_a])), (o_places_a, .inl (cI, 6, .inl o_places_f))] sz) := by
  refine Met.ofW (cc := cX5_fitMile) (maxL := 4) (ret := (some .boolean)) (by decide) rfl ?_
  intro p e s m args below meth c s₁ B hml hv
  obtain ⟨hargs, hsz, hP, hK, hD0, hE⟩ := hv
  subst hargs
  have hx := B.exec
  have hb := B.bytes
  have hr := B.returns
  have hts := atoms_spec (ws := wsX5_fitMile) B.pre
  have hown : s.vm.findClass RX5 = some m.cls := findClass_of_methodNamed B.named
  have hlocks := B.notSynchronized
  subst hsz
  have hD := hD0.self (sz := s.heap.size)
  generalize hAe : va_A [(o, .inr (5, [.ref o_walkers, .ref o_numbers, .ref o_places, .int o_held])), (a1, .inr (3, [.int a1_steps, .int a1_mile, .int a1_walkers, .int a1_walked, .ref a1_hard, .ref a1_kinds, .ref a1_habits])), (o_walkers, .inr (4, [.ref o_walkers_a])), (o_walkers_a, .inl (cI, 6, .inl o_walkers_f)), (a1_kinds, .inr (4, [.ref a1_kinds_a])), (a1_kinds_a, .inl (cI, 6, .inl a1_kinds_f)), (a1_habits, .inr (4, [.ref a1_habits_a])), (a1_habits_a, .inl (cI, 6, .inl a1_habits_f)), (o_numbers, .inr (4, [.ref o_numbers_a])), (o_numbers_a, .inl (cI, 6, .inl o_numbers_f)), (a1_hard, .inr (4, [.ref a1_hard_a])), (a1_hard_a, .inl (cI, 21, .inl a1_hard_f)), (o_places, .inr (4, [.ref o_places_a])), (o_places_a, .inl (cI, 6, .inl o_places_f))] s.heap.size = A at hD ⊢
  have hA : ∀ q : Nat, s.heap.size ≤ q → A q := fun q h => by rw [← hAe]; exact Or.inr h
  have hS : va_S A s.heap s.heap [] := va_S.rf
  have hl := lv_entry ([.ref o, .ref a1, .int a2]) (n := 4) (Nat.le_of_ble_eq_true rfl)
  rw [lg_entry_eq]
  generalize (lg_sl ([.ref o, .ref a1, .int a2]) ++ List.replicate (4 - (lg_sl ([.ref o, .ref a1, .int a2])).length) Slot.unset).toArray = ls at hl ⊢
  have hl : lv_has ls 4 [(0, .ref o), (1, .ref a1), (2, .int a2)] := hl
  refine wq (X := fun Q => ∀ (pc : Nat) (H : Heap) (locs : List Loc) (ls : Array Slot) (r : Int32) (u : Unit) (hn : narrow .boolean (.int r) = .int r) (hd : decode cX5_fitMile pc = .ok (.ireturn, 1)) (hp : r = fX5_fitMile a2 o_held a1_steps o_walkers_f a1_kinds_f a1_habits_f o_numbers_f a1_hard_f o_places_f) (hP : va_P D vwCl [(o, .inr (5, [.ref o_walkers, .ref o_numbers, .ref o_places, .int o_held])), (a1, .inr (3, [.int a1_steps, .int a1_mile, .int a1_walkers, .int a1_walked, .ref a1_hard, .ref a1_kinds, .ref a1_habits])), (o_walkers, .inr (4, [.ref o_walkers_a])), (o_walkers_a, .inl (cI, 6, .inl o_walkers_f)), (a1_kinds, .inr (4, [.ref a1_kinds_a])), (a1_kinds_a, .inl (cI, 6, .inl a1_kinds_f)), (a1_habits, .inr (4, [.ref a1_habits_a])), (a1_habits_a, .inl (cI, 6, .inl a1_habits_f)), (o_numbers, .inr (4, [.ref o_numbers_a])), (o_numbers_a, .inl (cI, 6, .inl o_numbers_f)), (a1_hard, .inr (4, [.ref a1_hard_a])), (a1_hard_a, .inl (cI, 21, .inl a1_hard_f)), (o_places, .inr (4, [.ref o_places_a])), (o_places_a, .inl (cI, 6, .inl o_places_f))] H) (hD : va_D A [(o, .inr (5, [.ref o_walkers, .ref o_numbers, .ref o_places, .int o_held])), (a1, .inr (3, [.int a1_steps, .int a1_mile, .int a1_walkers, .int a1_walked, .ref a1_hard, .ref a1_kinds, .ref a1_habits])), (o_walkers, .inr (4, [.ref o_walkers_a])), (o_walkers_a, .inl (cI, 6, .inl o_walkers_f)), (a1_kinds, .inr (4, [.ref a1_kinds_a])), (a1_kinds_a, .inl (cI, 6, .inl a1_kinds_f)), (a1_habits, .inr (4, [.ref a1_habits_a])), (a1_habits_a, .inl (cI, 6, .inl a1_habits_f)), (o_numbers, .inr (4, [.ref o_numbers_a])), (o_numbers_a, .inl (cI, 6, .inl o_numbers_f)), (a1_hard, .inr (4, [.ref a1_hard_a])), (a1_hard_a, .inl (cI, 21, .inl a1_hard_f)), (o_places, .inr (4, [.ref o_places_a])), (o_places_a, .inl (cI, 6, .inl o_places_f))]) (hS : va_S A s.heap H locs), W p l e ({ frames := 4, cells := 0, slots := 0, locals := 95 } : Room) s m ([.ref o, .ref a1, .int a2] : List Value).toArray below meth c H locs 0 0 Q (F0 m pc ls [.int r])) ?_ (fun Q hret => ?_)
  · intro pc H locs ls r u hn hd hp hP hD hS
    exact W.zret (v := r) hx hb hr hn (fun t ht hW => ⟨⟨r, u, rfl, hp, by rw [ht]; exact hP, va_K.moved hW.alike hK, hD⟩, hS.F ht⟩) hS.2.2 hd
  have hin_3 : ∀ w ∈ u_ws RX3 TX3 7, w ∈ wsX5_fitMile := by decide +kernel
  have hin_5 : ∀ w ∈ u_ws RX5 TX5 4, w ∈ wsX5_fitMile := by decide +kernel
  have fl_14 := hts (.fieldLink RX5 14 "MileRoad$Sightings" "walkers" "LMileRoad$Row;") (by decide +kernel)
  have fl_26 := hts (.fieldLink RX5 26 "MileRoad$Sightings" "held" "I") (by decide +kernel)
  have fl_47 := hE.f 22 rfl ([.ref o, .ref a1, .int a2] : List Value).toArray
  have zl_0 : (0 : Int32).toInt = 0 := by decide
  have zl_1 : (1 : Int32).toInt = 1 := by decide
  have hF : fX5_fitMile a2 o_held a1_steps o_walkers_f a1_kinds_f a1_habits_f o_numbers_f a1_hard_f o_places_f = fX5_fitMile a2 o_held a1_steps o_walkers_f a1_kinds_f a1_habits_f o_numbers_f a1_hard_f o_places_f := rfl
  have L_2 : ∀ (n : Nat) (v2_3 : Int32) (h1_2 : 0 ≤ v2_3.toInt) (h2_2 : v2_3.toInt ≤ 6) (hm : 6 - v2_3.toInt < (n : Int)) (H : Heap) (locs : List Loc) (ls : Array Slot) (hl : lv_has ls 4 [(0, .ref o), (1, .ref a1), (2, .int a2), (3, .int v2_3)]) (hP : va_P D vwCl [(o, .inr (5, [.ref o_walkers, .ref o_numbers, .ref o_places, .int o_held])), (a1, .inr (3, [.int a1_steps, .int a1_mile, .int a1_walkers, .int a1_walked, .ref a1_hard, .ref a1_kinds, .ref a1_habits])), (o_walkers, .inr (4, [.ref o_walkers_a])), (o_walkers_a, .inl (cI, 6, .inl o_walkers_f)), (a1_kinds, .inr (4, [.ref a1_kinds_a])), (a1_kinds_a, .inl (cI, 6, .inl a1_kinds_f)), (a1_habits, .inr (4, [.ref a1_habits_a])), (a1_habits_a, .inl (cI, 6, .inl a1_habits_f)), (o_numbers, .inr (4, [.ref o_numbers_a])), (o_numbers_a, .inl (cI, 6, .inl o_numbers_f)), (a1_hard, .inr (4, [.ref a1_hard_a])), (a1_hard_a, .inl (cI, 21, .inl a1_hard_f)), (o_places, .inr (4, [.ref o_places_a])), (o_places_a, .inl (cI, 6, .inl o_places_f))] H) (hD : va_D A [(o, .inr (5, [.ref o_walkers, .ref o_numbers, .ref o_places, .int o_held])), (a1, .inr (3, [.int a1_steps, .int a1_mile, .int a1_walkers, .int a1_walked, .ref a1_hard, .ref a1_kinds, .ref a1_habits])), (o_walkers, .inr (4, [.ref o_walkers_a])), (o_walkers_a, .inl (cI, 6, .inl o_walkers_f)), (a1_kinds, .inr (4, [.ref a1_kinds_a])), (a1_kinds_a, .inl (cI, 6, .inl a1_kinds_f)), (a1_habits, .inr (4, [.ref a1_habits_a])), (a1_habits_a, .inl (cI, 6, .inl a1_habits_f)), (o_numbers, .inr (4, [.ref o_numbers_a])), (o_numbers_a, .inl (cI, 6, .inl o_numbers_f)), (a1_hard, .inr (4, [.ref a1_hard_a])), (a1_hard_a, .inl (cI, 21, .inl a1_hard_f)), (o_places, .inr (4, [.ref o_places_a])), (o_places_a, .inl (cI, 6, .inl o_places_f))]) (hS : va_S A s.heap H locs) (hF : fX5_fitMile a2 o_held a1_steps o_walkers_f a1_kinds_f a1_habits_f o_numbers_f a1_hard_f o_places_f = fX5_fitMile_2 a2 o_held a1_steps o_walkers_f a1_kinds_f a1_habits_f o_numbers_f a1_hard_f o_places_f n v2_3), W p l e ({ frames := 4, cells := 0, slots := 0, locals := 95 } : Room) s m ([.ref o, .ref a1, .int a2] : List Value).toArray below meth c H locs 0 0 Q (F0 m 2 ls []) := by
    intro n
    induction n with
    | zero =>
      intro v2_3 h1_2 h2_2 hm H locs ls hl hP hD hS hF
      exact absurd hm (by omega)
    | succ n ih_2 =>
      intro v2_3 h1_2 h2_2 hm H locs ls hl hP hD hS hF
      refine lv_iload_n hx hb dX5_fitMile_2 rfl (lv_at hl 3 rfl) ?_
      refine lv_aload_n hx hb dX5_fitMile_3 rfl (lv_at hl 0 rfl) ?_
      refine xget hx hb hts hown hK 5 (C2 := RX5) (T := TX5) (N := 4) rfl hin_5 hP 0 rfl 3 (by decide) fl_26 rfl rfl rfl dX5_fitMile_4 ?_
      refine lv_icmp_ge (tgt := 43) hx hb dX5_fitMile_7 (by decide) (fun c_1 => ?_) (fun c_1 => ?_)
      · have kc_1 := t_le c_1
        refine lv_iconst (v := 1) hx hb dX5_fitMile_43 (by decide) ?_
        exact hret _ _ _ _ 1 () rfl dX5_fitMile_44 ((hF.trans (by simp only [fX5_fitMile_2, xlet, if_pos c_1])).symm) hP hD hS
      · have kc_1 := t_nle c_1
        refine lv_aload_n hx hb dX5_fitMile_10 rfl (lv_at hl 0 rfl) ?_
        refine lv_iload_n hx hb dX5_fitMile_11 rfl (lv_at hl 3 rfl) ?_
        refine lv_aload_n hx hb dX5_fitMile_12 rfl (lv_at hl 1 rfl) ?_
        refine lv_aload_n hx hb dX5_fitMile_13 rfl (lv_at hl 1 rfl) ?_
        refine xgetN hx hb hts hown hK 3 (C2 := RX3) (T := TX3) (N := 7) rfl hin_3 hP 1 rfl 5 (by decide) fl_47 rfl rfl rfl dX5_fitMile_14 ?_
        refine lv_aload_n hx hb dX5_fitMile_17 rfl (lv_at hl 0 rfl) ?_
        refine xget hx hb hts hown hK 5 (C2 := RX5) (T := TX5) (N := 4) rfl hin_5 hP 0 rfl 0 (by decide) fl_14 rfl rfl rfl dX5_fitMile_18 ?_
        refine lv_iload_n hx hb dX5_fitMile_21 rfl (lv_at hl 3 rfl) ?_
        refine xcalli (S := Unit) (Wc := [(o_walkers, .inr (4, [.ref o_walkers_a])), (o_walkers_a, .inl (cI, 6, .inl o_walkers_f))]) (wr := [(o, .inr (5, [.ref o_walkers, .ref o_numbers, .ref o_places, .int o_held])), (a1, .inr (3, [.int a1_steps, .int a1_mile, .int a1_walkers, .int a1_walked, .ref a1_hard, .ref a1_kinds, .ref a1_habits])), (a1_kinds, .inr (4, [.ref a1_kinds_a])), (a1_kinds_a, .inl (cI, 6, .inl a1_kinds_f)), (a1_habits, .inr (4, [.ref a1_habits_a])), (a1_habits_a, .inl (cI, 6, .inl a1_habits_f)), (o_numbers, .inr (4, [.ref o_numbers_a])), (o_numbers_a, .inl (cI, 6, .inl o_numbers_f)), (a1_hard, .inr (4, [.ref a1_hard_a])), (a1_hard_a, .inl (cI, 21, .inl a1_hard_f)), (o_places, .inr (4, [.ref o_places_a])), (o_places_a, .inl (cI, 6, .inl o_places_f))]) (W1 := (fun (u : Unit) => [(o_walkers, .inr (4, [.ref o_walkers_a])), (o_walkers_a, .inl (cI, 6, .inl o_walkers_f))])) (Wn := (fun (u : Unit) => [(o, .inr (5, [.ref o_walkers, .ref o_numbers, .ref o_places, .int o_held])), (a1, .inr (3, [.int a1_steps, .int a1_mile, .int a1_walkers, .int a1_walked, .ref a1_hard, .ref a1_kinds, .ref a1_habits])), (o_walkers, .inr (4, [.ref o_walkers_a])), (o_walkers_a, .inl (cI, 6, .inl o_walkers_f)), (a1_kinds, .inr (4, [.ref a1_kinds_a])), (a1_kinds_a, .inl (cI, 6, .inl a1_kinds_f)), (a1_habits, .inr (4, [.ref a1_habits_a])), (a1_habits_a, .inl (cI, 6, .inl a1_habits_f)), (o_numbers, .inr (4, [.ref o_numbers_a])), (o_numbers_a, .inl (cI, 6, .inl o_numbers_f)), (a1_hard, .inr (4, [.ref a1_hard_a])), (a1_hard_a, .inl (cI, 21, .inl a1_hard_f)), (o_places, .inr (4, [.ref o_places_a])), (o_places_a, .inl (cI, 6, .inl o_places_f))])) (xrunV hx hb hml hown hts (c_X4_at l D cI cZ _ o_walkers v2_3 o_walkers_a o_walkers_f 6 (by decide)) (cwV 1 hts gX5_fitMile_X4_at rfl rfl rfl (by decide +kernel) ⟨Nat.le_of_ble_eq_true rfl, Nat.le_of_ble_eq_true rfl⟩) hE hK hP hD [2, 3] rfl rfl 0 4 (T := TX4) (N := 1) rfl rfl rfl hl.1 rfl (Nat.le_of_ble_eq_true rfl) dX5_fitMile_22 ⟨Nat.le_of_ble_eq_true rfl, Nat.le_of_ble_eq_true rfl⟩) hP hD hS hA [2, 3] [0, 1, 4, 5, 6, 7, 8, 9, 10, 11, 12, 13] [0, 1, 12, 13, 2, 3, 4, 5, 6, 7, 8, 9, 10, 11] rfl rfl rfl (by decide) (fun _ => rfl) rfl (fun r1 u H locs hw hz hP hD hS => ?_)
        subst hw
        refine xcalli (S := Unit) (Wc := [(a1_kinds, .inr (4, [.ref a1_kinds_a])), (a1_kinds_a, .inl (cI, 6, .inl a1_kinds_f))]) (wr := [(o, .inr (5, [.ref o_walkers, .ref o_numbers, .ref o_places, .int o_held])), (a1, .inr (3, [.int a1_steps, .int a1_mile, .int a1_walkers, .int a1_walked, .ref a1_hard, .ref a1_kinds, .ref a1_habits])), (o_walkers, .inr (4, [.ref o_walkers_a])), (o_walkers_a, .inl (cI, 6, .inl o_walkers_f)), (a1_habits, .inr (4, [.ref a1_habits_a])), (a1_habits_a, .inl (cI, 6, .inl a1_habits_f)), (o_numbers, .inr (4, [.ref o_numbers_a])), (o_numbers_a, .inl (cI, 6, .inl o_numbers_f)), (a1_hard, .inr (4, [.ref a1_hard_a])), (a1_hard_a, .inl (cI, 21, .inl a1_hard_f)), (o_places, .inr (4, [.ref o_places_a])), (o_places_a, .inl (cI, 6, .inl o_places_f))]) (W1 := (fun (u : Unit) => [(a1_kinds, .inr (4, [.ref a1_kinds_a])), (a1_kinds_a, .inl (cI, 6, .inl a1_kinds_f))])) (Wn := (fun (u : Unit) => [(o, .inr (5, [.ref o_walkers, .ref o_numbers, .ref o_places, .int o_held])), (a1, .inr (3, [.int a1_steps, .int a1_mile, .int a1_walkers, .int a1_walked, .ref a1_hard, .ref a1_kinds, .ref a1_habits])), (o_walkers, .inr (4, [.ref o_walkers_a])), (o_walkers_a, .inl (cI, 6, .inl o_walkers_f)), (a1_kinds, .inr (4, [.ref a1_kinds_a])), (a1_kinds_a, .inl (cI, 6, .inl a1_kinds_f)), (a1_habits, .inr (4, [.ref a1_habits_a])), (a1_habits_a, .inl (cI, 6, .inl a1_habits_f)), (o_numbers, .inr (4, [.ref o_numbers_a])), (o_numbers_a, .inl (cI, 6, .inl o_numbers_f)), (a1_hard, .inr (4, [.ref a1_hard_a])), (a1_hard_a, .inl (cI, 21, .inl a1_hard_f)), (o_places, .inr (4, [.ref o_places_a])), (o_places_a, .inl (cI, 6, .inl o_places_f))])) (xrunV hx hb hml hown hts (c_X4_at l D cI cZ _ a1_kinds (fX4_at v2_3 o_walkers_f 6) a1_kinds_a a1_kinds_f 6 (by decide)) (cwV 1 hts gX5_fitMile_X4_at rfl rfl rfl (by decide +kernel) ⟨Nat.le_of_ble_eq_true rfl, Nat.le_of_ble_eq_true rfl⟩) hE hK hP hD [4, 5] rfl rfl 0 4 (T := TX4) (N := 1) rfl rfl rfl hl.1 rfl (Nat.le_of_ble_eq_true rfl) dX5_fitMile_25 ⟨Nat.le_of_ble_eq_true rfl, Nat.le_of_ble_eq_true rfl⟩) hP hD hS hA [4, 5] [0, 1, 2, 3, 6, 7, 8, 9, 10, 11, 12, 13] [0, 1, 2, 3, 12, 13, 4, 5, 6, 7, 8, 9, 10, 11] rfl rfl rfl (by decide) (fun _ => rfl) rfl (fun r2 u H locs hw hz hP hD hS => ?_)
        subst hw
        refine lv_iload_n hx hb dX5_fitMile_28 rfl (lv_at hl 2 rfl) ?_
        refine xcalli (S := Unit) (Wc := [(a1, .inr (3, [.int a1_steps, .int a1_mile, .int a1_walkers, .int a1_walked, .ref a1_hard, .ref a1_kinds, .ref a1_habits])), (o, .inr (5, [.ref o_walkers, .ref o_numbers, .ref o_places, .int o_held])), (o_walkers, .inr (4, [.ref o_walkers_a])), (o_walkers_a, .inl (cI, 6, .inl o_walkers_f)), (a1_habits, .inr (4, [.ref a1_habits_a])), (a1_habits_a, .inl (cI, 6, .inl a1_habits_f)), (o_numbers, .inr (4, [.ref o_numbers_a])), (o_numbers_a, .inl (cI, 6, .inl o_numbers_f)), (a1_hard, .inr (4, [.ref a1_hard_a])), (a1_hard_a, .inl (cI, 21, .inl a1_hard_f)), (o_places, .inr (4, [.ref o_places_a])), (o_places_a, .inl (cI, 6, .inl o_places_f))]) (wr := [(a1_kinds, .inr (4, [.ref a1_kinds_a])), (a1_kinds_a, .inl (cI, 6, .inl a1_kinds_f))]) (W1 := (fun (u : Unit) => [(a1, .inr (3, [.int a1_steps, .int a1_mile, .int a1_walkers, .int a1_walked, .ref a1_hard, .ref a1_kinds, .ref a1_habits])), (o, .inr (5, [.ref o_walkers, .ref o_numbers, .ref o_places, .int o_held])), (o_walkers, .inr (4, [.ref o_walkers_a])), (o_walkers_a, .inl (cI, 6, .inl o_walkers_f)), (a1_habits, .inr (4, [.ref a1_habits_a])), (a1_habits_a, .inl (cI, 6, .inl a1_habits_f)), (o_numbers, .inr (4, [.ref o_numbers_a])), (o_numbers_a, .inl (cI, 6, .inl o_numbers_f)), (a1_hard, .inr (4, [.ref a1_hard_a])), (a1_hard_a, .inl (cI, 21, .inl a1_hard_f)), (o_places, .inr (4, [.ref o_places_a])), (o_places_a, .inl (cI, 6, .inl o_places_f))])) (Wn := (fun (u : Unit) => [(o, .inr (5, [.ref o_walkers, .ref o_numbers, .ref o_places, .int o_held])), (a1, .inr (3, [.int a1_steps, .int a1_mile, .int a1_walkers, .int a1_walked, .ref a1_hard, .ref a1_kinds, .ref a1_habits])), (o_walkers, .inr (4, [.ref o_walkers_a])), (o_walkers_a, .inl (cI, 6, .inl o_walkers_f)), (a1_kinds, .inr (4, [.ref a1_kinds_a])), (a1_kinds_a, .inl (cI, 6, .inl a1_kinds_f)), (a1_habits, .inr (4, [.ref a1_habits_a])), (a1_habits_a, .inl (cI, 6, .inl a1_habits_f)), (o_numbers, .inr (4, [.ref o_numbers_a])), (o_numbers_a, .inl (cI, 6, .inl o_numbers_f)), (a1_hard, .inr (4, [.ref a1_hard_a])), (a1_hard_a, .inl (cI, 21, .inl a1_hard_f)), (o_places, .inr (4, [.ref o_places_a])), (o_places_a, .inl (cI, 6, .inl o_places_f))])) (xrunV hx hb hml hown hts (c_X5_fits l D cI cZ _ o v2_3 a1 (fX4_at (fX4_at v2_3 o_walkers_f 6) a1_kinds_f 6) a2 a1_steps a1_mile a1_walkers a1_walked a1_hard a1_kinds a1_habits o_walkers o_numbers o_places o_held o_walkers_a o_walkers_f a1_habits_a a1_habits_f o_numbers_a o_numbers_f a1_hard_a a1_hard_f o_places_a o_places_f hq2) (cwV 4 hts gX5_fitMile_X5_fits rfl rfl rfl (by decide +kernel) ⟨Nat.le_of_ble_eq_true rfl, Nat.le_of_ble_eq_true rfl⟩) hE hK hP hD [1, 0, 2, 3, 6, 7, 8, 9, 10, 11, 12, 13] rfl rfl 1 5 (T := TX5) (N := 4) rfl rfl rfl hl.1 rfl (Nat.le_of_ble_eq_true rfl) dX5_fitMile_29 ⟨Nat.le_of_ble_eq_true rfl, Nat.le_of_ble_eq_true rfl⟩) hP hD hS hA [1, 0, 2, 3, 6, 7, 8, 9, 10, 11, 12, 13] [4, 5] [3, 2, 4, 5, 0, 1, 6, 7, 8, 9, 10, 11, 12, 13] rfl rfl rfl (by decide) (fun _ => rfl) rfl (fun r3 u H locs hw hz hP hD hS => ?_)
        subst hw
        refine lv_if_ne (tgt := 37) hx hb dX5_fitMile_32 (by decide) (fun c_2 => ?_) (fun c_2 => ?_)
        · refine lv_iinc (v := (v2_3 + 1)) (lv' := [(3, .int (v2_3 + 1)), (0, .ref o), (1, .ref a1), (2, .int a2)]) hx hb dX5_fitMile_37 hl (k := 3) rfl (by rfl) (by decide) rfl (fun ls hl => ?_)
          refine lv_goto (tgt := 2) hx hb dX5_fitMile_40 (by decide) ?_
          have z_1 : (v2_3 + 1).toInt = v2_3.toInt + (1 : Int32).toInt := z_add (by omega) (by omega)
          exact ih_2 (v2_3 + 1) (by first | assumption | omega | decide | (split <;> rename_i hh <;> first | (have h9 := t_nlt hh; omega) | (have h9 := t_lt hh; omega) | (have h9 := t_nle hh; omega) | (have h9 := t_le hh; omega))) (by first | assumption | omega | decide | (split <;> rename_i hh <;> first | (have h9 := t_nlt hh; omega) | (have h9 := t_lt hh; omega) | (have h9 := t_nle hh; omega) | (have h9 := t_le hh; omega))) (by first | assumption | omega | decide | (split <;> rename_i hh <;> first | (have h9 := t_nlt hh; omega) | (have h9 := t_lt hh; omega) | (have h9 := t_nle hh; omega) | (have h9 := t_le hh; omega))) _ _ _ (lv_sub hl [1, 2, 3, 0] rfl) hP hD hS (hF.trans (by simp only [fX5_fitMile_2, xlet, if_neg c_1, if_neg c_2]))
        · refine lv_iconst (v := 0) hx hb dX5_fitMile_35 (by decide) ?_
          exact hret _ _ _ _ 0 () rfl dX5_fitMile_36 ((hF.trans (by simp only [fX5_fitMile_2, xlet, if_neg c_1, if_pos c_2])).symm) hP hD hS
  refine lv_iconst (v := 0) hx hb dX5_fitMile_0 (by decide) ?_
  refine lv_istore_n (lv' := [(3, .int 0), (0, .ref o), (1, .ref a1), (2, .int a2)]) hx hb dX5_fitMile_1 rfl hl (by decide) rfl (fun ls hl => ?_)
  exact L_2 1000 0 (by first | assumption | omega | decide | (split <;> rename_i hh <;> first | (have h9 := t_nlt hh; omega) | (have h9 := t_lt hh; omega) | (have h9 := t_nle hh; omega) | (have h9 := t_le hh; omega))) (by first | assumption | omega | decide | (split <;> rename_i hh <;> first | (have h9 := t_nlt hh; omega) | (have h9 := t_lt hh; omega) | (have h9 := t_nle hh; omega) | (have h9 := t_le hh; omega))) (by first | assumption | omega | decide | (split <;> rename_i hh <;> first | (have h9 := t_nlt hh; omega) | (have h9 := t_lt hh; omega) | (have h9 := t_nle hh; omega) | (have h9 := t_le hh; omega))) _ _ _ (lv_sub hl [1, 2, 3, 0] rfl) hP hD hS (hF.trans (by simp only [fX5_fitMile, xlet]))
set_option maxRecDepth 20000 in
theorem ggX0_settle_X4_put : GoodIn wsX0_settle wsX4_put := goodIn_r _ [8, 9, 13] (by decide +kernel) (by decide +kernel)
set_option maxRecDepth 20000 in
theorem gX0_settle_X4_put : GoodIn wsX0_settle (wsV RX0 62 RX4 yX4_put wsX4_put) := goodIn_app (goodIn_of _ (by decide +kernel)) ggX0_settle_X4_put
theorem dX0_settle_0 : decode cX0_settle 0 = .ok (.aload_n 0, 1) := by decide +kernel
theorem dX0_settle_1 : decode cX0_settle 1 = .ok (.getfield 23, 3) := by decide +kernel
theorem dX0_settle_4 : decode cX0_settle 4 = .ok (.iload_n 1, 1) := by decide +kernel
theorem dX0_settle_5 : decode cX0_settle 5 = .ok (.iload_n 2, 1) := by decide +kernel
theorem dX0_settle_6 : decode cX0_settle 6 = .ok (.invokevirtual 62, 3) := by decide +kernel
theorem dX0_settle_9 : decode cX0_settle 9 = .ok (.aload_n 0, 1) := by decide +kernel
theorem dX0_settle_10 : decode cX0_settle 10 = .ok (.getfield 14, 3) := by decide +kernel
theorem dX0_settle_13 : decode cX0_settle 13 = .ok (.iload_n 1, 1) := by decide +kernel
theorem dX0_settle_14 : decode cX0_settle 14 = .ok (.iload_n 3, 1) := by decide +kernel
theorem dX0_settle_15 : decode cX0_settle 15 = .ok (.invokevirtual 62, 3) := by decide +kernel
theorem dX0_settle_18 : decode cX0_settle 18 = .ok (.aload_n 0, 1) := by decide +kernel
theorem dX0_settle_19 : decode cX0_settle 19 = .ok (.getfield 20, 3) := by decide +kernel
theorem dX0_settle_22 : decode cX0_settle 22 = .ok (.iload_n 1, 1) := by decide +kernel
theorem dX0_settle_23 : decode cX0_settle 23 = .ok (.iload 4, 2) := by decide +kernel
theorem dX0_settle_25 : decode cX0_settle 25 = .ok (.invokevirtual 62, 3) := by decide +kernel
theorem dX0_settle_28 : decode cX0_settle 28 = .ok (.return_, 1) := by decide +kernel
def fX0_settle (a1 : Int32) (a2 : Int32) (a3 : Int32) (a4 : Int32) (o_sent_f : Nat → Int32) (o_above_f : Nat → Int32) (o_below_f : Nat → Int32) : (Nat → Int32) × (Nat → Int32) × (Nat → Int32) := xlet (fX4_put a1 a2 o_sent_f 64) (fun u1 => xlet (fX4_put a1 a3 o_above_f 64) (fun u2 => xlet (fX4_put a1 a4 o_below_f 64) (fun u3 => (u1, u2, u3))))
set_option maxHeartbeats 4000000 in
set_option maxRecDepth 100000 in
theorem c_X0_settle (l : Launch) (D : va_G) (cI cZ : ClassId) (sz : Nat) (o : Nat) (a1 : Int32) (a2 : Int32) (a3 : Int32) (a4 : Int32) (o_above : Nat) (o_below : Nat) (o_sent : Nat) (o_sent_a : Nat) (o_sent_f : Nat → Int32) (o_above_a : Nat) (o_above_f : Nat → Int32) (o_below_a : Nat) (o_below_f : Nat → Int32)  : Met l yX0_settle wsX0_settle ({ frames := 1, cells := 0, slots := 0, locals := 22 } : Room) (va_Pc [.ref o, .int a1, .int a2, .int a3, .int a4] (xP D cI cZ [(o, .inr (0, [.ref o_above, .ref o_below, .ref o_sent])), (o_sent, .inr (4, [.ref o_sent_a])), (o_sent_a, .inl (cI, 64, .inl o_sent_f)), (o_above, .inr (4, [.ref o_above_a])), (o_above_a, .inl (cI, 64, .inl o_above_f)), (o_below, .inr (4, [.ref o_below_a])), (o_below_a, .inl (cI, 64, .inl o_below_f))] sz)) (va_Qv (fun (u : (Nat → Int32) × (Nat → Int32) × (Nat → Int32)) => u = fX0_settle a1 a2 a3 a4 o_sent_f o_above_f o_below_f) (fun (u : (Nat → Int32) × (Nat → Int32) × (Nat → Int32)) t => xB D cI cZ [(o, .inr (0, [.ref o_above, .ref o_below, .ref o_sent])), (o_sent, .inr (4, [.ref o_sent_a])), (o_sent_a, .inl (cI, 64, .inl u.1)), (o_above, .inr (4, [.ref o_above_a])), (o_above_a, .inl (cI, 64, .inl u.2.1)), (o_below, .inr (4, [.ref o_below_a])), (o_below_a, .inl (cI, 64, .inl u.2.2))] (va_A [(o, .inr (0, [.ref o_above, .ref o_below, .ref o_sent])), (o_sent, .inr (4, [.ref o_sent_a])), (o_sent_a, .inl (cI, 64, .inl o_sent_f)), (o_above, .inr (4, [.ref o_above_a])), (o_above_a, .inl (cI, 64, .inl o_above_f)), (o_below, .inr (4, [.ref o_below_a])), (o_below_a, .inl (cI, 64, .inl o_below_f))] sz) t) (va_A [(o, .inr (0, [.ref o_above, .ref o_below, .ref o_sent])), (o_sent, .inr (4, [.ref o_sent_a])), (o_sent_a, .inl (cI, 64, .inl o_sent_f)), (o_above, .inr (4, [.ref o_above_a])), (o_above_a, .inl (cI, 64, .inl o_above_f)), (o_below, .inr (4, [.ref o_below_a])), (o_below_a, .inl (cI, 64, .inl o_below_f))] sz)) 0 0 (va_A [(o, .inr (0, [.ref o_above, .ref o_below, .ref o_sent])), (o_sent, .inr (4, [.ref o_sent_a])), (o_sent_a, .inl (cI, 64, .inl o_sent_f)), (o_above, .inr (4, [.ref o_above_a])), (o_above_a, .inl (cI, 64, .inl o_above_f)), (o_below, .inr (4, [.ref o_below_a])), (o_below_a, .inl (cI, 64, .inl o_below_f))] sz) := by
  refine Met.ofW (cc := cX0_settle) (maxL := 5) (ret := none) (by decide) rfl ?_
  intro p e s m args below meth c s₁ B hml hv
  obtain ⟨hargs, hsz, hP, hK, hD0, hE⟩ := hv
  subst hargs
  have hx := B.exec
  have hb := B.bytes
  have hr := B.returns
  have hts := atoms_spec (ws := wsX0_settle) B.pre
  have hown : s.vm.findClass RX0 = some m.cls := findClass_of_methodNamed B.named
  have hlocks := B.notSynchronized
  subst hsz
  have hD := hD0.self (sz := s.heap.size)
  generalize hAe : va_A [(o, .inr (0, [.ref o_above, .ref o_below, .ref o_sent])), (o_sent, .inr (4, [.ref o_sent_a])), (o_sent_a, .inl (cI, 64, .inl o_sent_f)), (o_above, .inr (4, [.ref o_above_a])), (o_above_a, .inl (cI, 64, .inl o_above_f)), (o_below, .inr (4, [.ref o_below_a])), (o_below_a, .inl (cI, 64, .inl o_below_f))] s.heap.size = A at hD ⊢
  have hA : ∀ q : Nat, s.heap.size ≤ q → A q := fun q h => by rw [← hAe]; exact Or.inr h
  have hS : va_S A s.heap s.heap [] := va_S.rf
  have hl := lv_entry ([.ref o, .int a1, .int a2, .int a3, .int a4]) (n := 5) (Nat.le_of_ble_eq_true rfl)
  rw [lg_entry_eq]
  generalize (lg_sl ([.ref o, .int a1, .int a2, .int a3, .int a4]) ++ List.replicate (5 - (lg_sl ([.ref o, .int a1, .int a2, .int a3, .int a4])).length) Slot.unset).toArray = ls at hl ⊢
  have hl : lv_has ls 5 [(0, .ref o), (1, .int a1), (2, .int a2), (3, .int a3), (4, .int a4)] := hl
  refine wq (X := fun Q => ∀ (pc : Nat) (H : Heap) (locs : List Loc) (ls : Array Slot) (u : (Nat → Int32) × (Nat → Int32) × (Nat → Int32)) (hd : decode cX0_settle pc = .ok (.return_, 1)) (hp : u = fX0_settle a1 a2 a3 a4 o_sent_f o_above_f o_below_f) (hP : va_P D vwCl [(o, .inr (0, [.ref o_above, .ref o_below, .ref o_sent])), (o_sent, .inr (4, [.ref o_sent_a])), (o_sent_a, .inl (cI, 64, .inl u.1)), (o_above, .inr (4, [.ref o_above_a])), (o_above_a, .inl (cI, 64, .inl u.2.1)), (o_below, .inr (4, [.ref o_below_a])), (o_below_a, .inl (cI, 64, .inl u.2.2))] H) (hD : va_D A [(o, .inr (0, [.ref o_above, .ref o_below, .ref o_sent])), (o_sent, .inr (4, [.ref o_sent_a])), (o_sent_a, .inl (cI, 64, .inl u.1)), (o_above, .inr (4, [.ref o_above_a])), (o_above_a, .inl (cI, 64, .inl u.2.1)), (o_below, .inr (4, [.ref o_below_a])), (o_below_a, .inl (cI, 64, .inl u.2.2))]) (hS : va_S A s.heap H locs), W p l e ({ frames := 1, cells := 0, slots := 0, locals := 22 } : Room) s m ([.ref o, .int a1, .int a2, .int a3, .int a4] : List Value).toArray below meth c H locs 0 0 Q (F0 m pc ls [])) ?_ (fun Q hret => ?_)
  · intro pc H locs ls u hd hp hP hD hS
    exact W.vret hx hb hr (fun t ht hW => ⟨⟨u, rfl, hp, by rw [ht]; exact hP, va_K.moved hW.alike hK, hD⟩, hS.F ht⟩) hS.2.2 hd
  have hin_0 : ∀ w ∈ u_ws RX0 TX0 3, w ∈ wsX0_settle := by decide +kernel
  have fl_14 := hts (.fieldLink RX0 14 "MileRoad$Game" "above" "LMileRoad$Row;") (by decide +kernel)
  have fl_20 := hts (.fieldLink RX0 20 "MileRoad$Game" "below" "LMileRoad$Row;") (by decide +kernel)
  have fl_23 := hts (.fieldLink RX0 23 "MileRoad$Game" "sent" "LMileRoad$Row;") (by decide +kernel)
  have hF : fX0_settle a1 a2 a3 a4 o_sent_f o_above_f o_below_f = fX0_settle a1 a2 a3 a4 o_sent_f o_above_f o_below_f := rfl
  refine lv_aload_n hx hb dX0_settle_0 rfl (lv_at hl 0 rfl) ?_
  refine xget hx hb hts hown hK 0 (C2 := RX0) (T := TX0) (N := 3) rfl hin_0 hP 0 rfl 2 (by decide) fl_23 rfl rfl rfl dX0_settle_1 ?_
  refine lv_iload_n hx hb dX0_settle_4 rfl (lv_at hl 1 rfl) ?_
  refine lv_iload_n hx hb dX0_settle_5 rfl (lv_at hl 2 rfl) ?_
  refine xcallv (S := (Nat → Int32)) (Wc := [(o_sent, .inr (4, [.ref o_sent_a])), (o_sent_a, .inl (cI, 64, .inl o_sent_f))]) (wr := [(o, .inr (0, [.ref o_above, .ref o_below, .ref o_sent])), (o_above, .inr (4, [.ref o_above_a])), (o_above_a, .inl (cI, 64, .inl o_above_f)), (o_below, .inr (4, [.ref o_below_a])), (o_below_a, .inl (cI, 64, .inl o_below_f))]) (W1 := (fun (u : (Nat → Int32)) => [(o_sent, .inr (4, [.ref o_sent_a])), (o_sent_a, .inl (cI, 64, .inl u))])) (Wn := (fun (u : (Nat → Int32)) => [(o, .inr (0, [.ref o_above, .ref o_below, .ref o_sent])), (o_sent, .inr (4, [.ref o_sent_a])), (o_sent_a, .inl (cI, 64, .inl u)), (o_above, .inr (4, [.ref o_above_a])), (o_above_a, .inl (cI, 64, .inl o_above_f)), (o_below, .inr (4, [.ref o_below_a])), (o_below_a, .inl (cI, 64, .inl o_below_f))])) (xrunV hx hb hml hown hts (c_X4_put l D cI cZ _ o_sent a1 a2 o_sent_a o_sent_f 64 (by decide)) (cwV 2 hts gX0_settle_X4_put rfl rfl rfl (by decide +kernel) ⟨Nat.le_of_ble_eq_true rfl, Nat.le_of_ble_eq_true rfl⟩) hE hK hP hD [1, 2] rfl rfl 0 4 (T := TX4) (N := 1) rfl rfl rfl hl.1 rfl (Nat.le_of_ble_eq_true rfl) dX0_settle_6 ⟨Nat.le_of_ble_eq_true rfl, Nat.le_of_ble_eq_true rfl⟩) hP hD hS hA [1, 2] [0, 3, 4, 5, 6] [0, 5, 6, 1, 2, 3, 4] rfl rfl rfl (by decide) (fun _ => rfl) rfl (fun  u H locs hw hz hP hD hS => ?_)
  obtain ⟨u1, hu⟩ : ∃ z, z = u := ⟨u, rfl⟩
  subst hu
  have hw_1 := hw.symm
  have hP : va_P D vwCl [(o, .inr (0, [.ref o_above, .ref o_below, .ref o_sent])), (o_sent, .inr (4, [.ref o_sent_a])), (o_sent_a, .inl (cI, 64, .inl u1)), (o_above, .inr (4, [.ref o_above_a])), (o_above_a, .inl (cI, 64, .inl o_above_f)), (o_below, .inr (4, [.ref o_below_a])), (o_below_a, .inl (cI, 64, .inl o_below_f))] H := hP
  have hD : va_D A [(o, .inr (0, [.ref o_above, .ref o_below, .ref o_sent])), (o_sent, .inr (4, [.ref o_sent_a])), (o_sent_a, .inl (cI, 64, .inl u1)), (o_above, .inr (4, [.ref o_above_a])), (o_above_a, .inl (cI, 64, .inl o_above_f)), (o_below, .inr (4, [.ref o_below_a])), (o_below_a, .inl (cI, 64, .inl o_below_f))] := hD
  refine lv_aload_n hx hb dX0_settle_9 rfl (lv_at hl 0 rfl) ?_
  refine xget hx hb hts hown hK 0 (C2 := RX0) (T := TX0) (N := 3) rfl hin_0 hP 0 rfl 0 (by decide) fl_14 rfl rfl rfl dX0_settle_10 ?_
  refine lv_iload_n hx hb dX0_settle_13 rfl (lv_at hl 1 rfl) ?_
  refine lv_iload_n hx hb dX0_settle_14 rfl (lv_at hl 3 rfl) ?_
  refine xcallv (S := (Nat → Int32)) (Wc := [(o_above, .inr (4, [.ref o_above_a])), (o_above_a, .inl (cI, 64, .inl o_above_f))]) (wr := [(o, .inr (0, [.ref o_above, .ref o_below, .ref o_sent])), (o_sent, .inr (4, [.ref o_sent_a])), (o_sent_a, .inl (cI, 64, .inl u1)), (o_below, .inr (4, [.ref o_below_a])), (o_below_a, .inl (cI, 64, .inl o_below_f))]) (W1 := (fun (u : (Nat → Int32)) => [(o_above, .inr (4, [.ref o_above_a])), (o_above_a, .inl (cI, 64, .inl u))])) (Wn := (fun (u : (Nat → Int32)) => [(o, .inr (0, [.ref o_above, .ref o_below, .ref o_sent])), (o_sent, .inr (4, [.ref o_sent_a])), (o_sent_a, .inl (cI, 64, .inl u1)), (o_above, .inr (4, [.ref o_above_a])), (o_above_a, .inl (cI, 64, .inl u)), (o_below, .inr (4, [.ref o_below_a])), (o_below_a, .inl (cI, 64, .inl o_below_f))])) (xrunV hx hb hml hown hts (c_X4_put l D cI cZ _ o_above a1 a3 o_above_a o_above_f 64 (by decide)) (cwV 2 hts gX0_settle_X4_put rfl rfl rfl (by decide +kernel) ⟨Nat.le_of_ble_eq_true rfl, Nat.le_of_ble_eq_true rfl⟩) hE hK hP hD [3, 4] rfl rfl 0 4 (T := TX4) (N := 1) rfl rfl rfl hl.1 rfl (Nat.le_of_ble_eq_true rfl) dX0_settle_15 ⟨Nat.le_of_ble_eq_true rfl, Nat.le_of_ble_eq_true rfl⟩) hP hD hS hA [3, 4] [0, 1, 2, 5, 6] [0, 1, 2, 5, 6, 3, 4] rfl rfl rfl (by decide) (fun _ => rfl) rfl (fun  u H locs hw hz hP hD hS => ?_)
  obtain ⟨u2, hu⟩ : ∃ z, z = u := ⟨u, rfl⟩
  subst hu
  have hw_2 := hw.symm
  have hP : va_P D vwCl [(o, .inr (0, [.ref o_above, .ref o_below, .ref o_sent])), (o_sent, .inr (4, [.ref o_sent_a])), (o_sent_a, .inl (cI, 64, .inl u1)), (o_above, .inr (4, [.ref o_above_a])), (o_above_a, .inl (cI, 64, .inl u2)), (o_below, .inr (4, [.ref o_below_a])), (o_below_a, .inl (cI, 64, .inl o_below_f))] H := hP
  have hD : va_D A [(o, .inr (0, [.ref o_above, .ref o_below, .ref o_sent])), (o_sent, .inr (4, [.ref o_sent_a])), (o_sent_a, .inl (cI, 64, .inl u1)), (o_above, .inr (4, [.ref o_above_a])), (o_above_a, .inl (cI, 64, .inl u2)), (o_below, .inr (4, [.ref o_below_a])), (o_below_a, .inl (cI, 64, .inl o_below_f))] := hD
  refine lv_aload_n hx hb dX0_settle_18 rfl (lv_at hl 0 rfl) ?_
  refine xget hx hb hts hown hK 0 (C2 := RX0) (T := TX0) (N := 3) rfl hin_0 hP 0 rfl 1 (by decide) fl_20 rfl rfl rfl dX0_settle_19 ?_
  refine lv_iload_n hx hb dX0_settle_22 rfl (lv_at hl 1 rfl) ?_
  refine lv_iload hx hb dX0_settle_23 (lv_at hl 4 rfl) ?_
  refine xcallv (S := (Nat → Int32)) (Wc := [(o_below, .inr (4, [.ref o_below_a])), (o_below_a, .inl (cI, 64, .inl o_below_f))]) (wr := [(o, .inr (0, [.ref o_above, .ref o_below, .ref o_sent])), (o_sent, .inr (4, [.ref o_sent_a])), (o_sent_a, .inl (cI, 64, .inl u1)), (o_above, .inr (4, [.ref o_above_a])), (o_above_a, .inl (cI, 64, .inl u2))]) (W1 := (fun (u : (Nat → Int32)) => [(o_below, .inr (4, [.ref o_below_a])), (o_below_a, .inl (cI, 64, .inl u))])) (Wn := (fun (u : (Nat → Int32)) => [(o, .inr (0, [.ref o_above, .ref o_below, .ref o_sent])), (o_sent, .inr (4, [.ref o_sent_a])), (o_sent_a, .inl (cI, 64, .inl u1)), (o_above, .inr (4, [.ref o_above_a])), (o_above_a, .inl (cI, 64, .inl u2)), (o_below, .inr (4, [.ref o_below_a])), (o_below_a, .inl (cI, 64, .inl u))])) (xrunV hx hb hml hown hts (c_X4_put l D cI cZ _ o_below a1 a4 o_below_a o_below_f 64 (by decide)) (cwV 2 hts gX0_settle_X4_put rfl rfl rfl (by decide +kernel) ⟨Nat.le_of_ble_eq_true rfl, Nat.le_of_ble_eq_true rfl⟩) hE hK hP hD [5, 6] rfl rfl 0 4 (T := TX4) (N := 1) rfl rfl rfl hl.1 rfl (Nat.le_of_ble_eq_true rfl) dX0_settle_25 ⟨Nat.le_of_ble_eq_true rfl, Nat.le_of_ble_eq_true rfl⟩) hP hD hS hA [5, 6] [0, 1, 2, 3, 4] [0, 1, 2, 3, 4, 5, 6] rfl rfl rfl (by decide) (fun _ => rfl) rfl (fun  u H locs hw hz hP hD hS => ?_)
  obtain ⟨u3, hu⟩ : ∃ z, z = u := ⟨u, rfl⟩
  subst hu
  have hw_3 := hw.symm
  have hP : va_P D vwCl [(o, .inr (0, [.ref o_above, .ref o_below, .ref o_sent])), (o_sent, .inr (4, [.ref o_sent_a])), (o_sent_a, .inl (cI, 64, .inl u1)), (o_above, .inr (4, [.ref o_above_a])), (o_above_a, .inl (cI, 64, .inl u2)), (o_below, .inr (4, [.ref o_below_a])), (o_below_a, .inl (cI, 64, .inl u3))] H := hP
  have hD : va_D A [(o, .inr (0, [.ref o_above, .ref o_below, .ref o_sent])), (o_sent, .inr (4, [.ref o_sent_a])), (o_sent_a, .inl (cI, 64, .inl u1)), (o_above, .inr (4, [.ref o_above_a])), (o_above_a, .inl (cI, 64, .inl u2)), (o_below, .inr (4, [.ref o_below_a])), (o_below_a, .inl (cI, 64, .inl u3))] := hD
  exact hret _ _ _ _ (u1, u2, u3) dX0_settle_28 ((hF.trans (by simp only [fX0_settle, xlet, ↓hw_1, ↓hw_2, ↓hw_3])).symm) hP hD hS
set_option maxRecDepth 20000 in
theorem ggX0_isBetter_X4_at : GoodIn wsX0_isBetter wsX4_at := goodIn_r _ [7, 8, 12] (by decide +kernel) (by decide +kernel)
set_option maxRecDepth 20000 in
theorem gX0_isBetter_X4_at : GoodIn wsX0_isBetter (wsV RX0 42 RX4 yX4_at wsX4_at) := goodIn_app (goodIn_of _ (by decide +kernel)) ggX0_isBetter_X4_at
theorem dX0_isBetter_0 : decode cX0_isBetter 0 = .ok (.aload_n 0, 1) := by decide +kernel
theorem dX0_isBetter_1 : decode cX0_isBetter 1 = .ok (.getfield 20, 3) := by decide +kernel
theorem dX0_isBetter_4 : decode cX0_isBetter 4 = .ok (.iload_n 3, 1) := by decide +kernel
theorem dX0_isBetter_5 : decode cX0_isBetter 5 = .ok (.invokevirtual 42, 3) := by decide +kernel
theorem dX0_isBetter_8 : decode cX0_isBetter 8 = .ok (.ifCond .ne 5, 3) := by decide +kernel
theorem dX0_isBetter_11 : decode cX0_isBetter 11 = .ok (.iconst 1, 1) := by decide +kernel
theorem dX0_isBetter_12 : decode cX0_isBetter 12 = .ok (.ireturn, 1) := by decide +kernel
theorem dX0_isBetter_13 : decode cX0_isBetter 13 = .ok (.iload_n 1, 1) := by decide +kernel
theorem dX0_isBetter_14 : decode cX0_isBetter 14 = .ok (.aload_n 0, 1) := by decide +kernel
theorem dX0_isBetter_15 : decode cX0_isBetter 15 = .ok (.getfield 20, 3) := by decide +kernel
theorem dX0_isBetter_18 : decode cX0_isBetter 18 = .ok (.iload_n 3, 1) := by decide +kernel
theorem dX0_isBetter_19 : decode cX0_isBetter 19 = .ok (.invokevirtual 42, 3) := by decide +kernel
theorem dX0_isBetter_22 : decode cX0_isBetter 22 = .ok (.imul, 1) := by decide +kernel
theorem dX0_isBetter_23 : decode cX0_isBetter 23 = .ok (.istore 5, 2) := by decide +kernel
theorem dX0_isBetter_25 : decode cX0_isBetter 25 = .ok (.aload_n 0, 1) := by decide +kernel
theorem dX0_isBetter_26 : decode cX0_isBetter 26 = .ok (.getfield 14, 3) := by decide +kernel
theorem dX0_isBetter_29 : decode cX0_isBetter 29 = .ok (.iload_n 3, 1) := by decide +kernel
theorem dX0_isBetter_30 : decode cX0_isBetter 30 = .ok (.invokevirtual 42, 3) := by decide +kernel
theorem dX0_isBetter_33 : decode cX0_isBetter 33 = .ok (.iload_n 2, 1) := by decide +kernel
theorem dX0_isBetter_34 : decode cX0_isBetter 34 = .ok (.imul, 1) := by decide +kernel
theorem dX0_isBetter_35 : decode cX0_isBetter 35 = .ok (.istore 6, 2) := by decide +kernel
theorem dX0_isBetter_37 : decode cX0_isBetter 37 = .ok (.iload 4, 2) := by decide +kernel
theorem dX0_isBetter_39 : decode cX0_isBetter 39 = .ok (.ifCond .eq 18, 3) := by decide +kernel
theorem dX0_isBetter_42 : decode cX0_isBetter 42 = .ok (.iload 5, 2) := by decide +kernel
theorem dX0_isBetter_44 : decode cX0_isBetter 44 = .ok (.iload 6, 2) := by decide +kernel
theorem dX0_isBetter_46 : decode cX0_isBetter 46 = .ok (.if_icmp .ge 7, 3) := by decide +kernel
theorem dX0_isBetter_49 : decode cX0_isBetter 49 = .ok (.iconst 1, 1) := by decide +kernel
theorem dX0_isBetter_50 : decode cX0_isBetter 50 = .ok (.goto 19, 3) := by decide +kernel
theorem dX0_isBetter_53 : decode cX0_isBetter 53 = .ok (.iconst 0, 1) := by decide +kernel
theorem dX0_isBetter_54 : decode cX0_isBetter 54 = .ok (.goto 15, 3) := by decide +kernel
theorem dX0_isBetter_57 : decode cX0_isBetter 57 = .ok (.iload 5, 2) := by decide +kernel
theorem dX0_isBetter_59 : decode cX0_isBetter 59 = .ok (.iload 6, 2) := by decide +kernel
theorem dX0_isBetter_61 : decode cX0_isBetter 61 = .ok (.if_icmp .le 7, 3) := by decide +kernel
theorem dX0_isBetter_64 : decode cX0_isBetter 64 = .ok (.iconst 1, 1) := by decide +kernel
theorem dX0_isBetter_65 : decode cX0_isBetter 65 = .ok (.goto 4, 3) := by decide +kernel
theorem dX0_isBetter_68 : decode cX0_isBetter 68 = .ok (.iconst 0, 1) := by decide +kernel
theorem dX0_isBetter_69 : decode cX0_isBetter 69 = .ok (.ireturn, 1) := by decide +kernel
def fX0_isBetter (a1 : Int32) (a2 : Int32) (a3 : Int32) (a4 : Int32) (o_below_f : Nat → Int32) (o_above_f : Nat → Int32) : Int32 := if (fX4_at a3 o_below_f 64) = 0 then 1 else (xlet (if a4 = 0 then (if (a1 * (fX4_at a3 o_below_f 64)) ≤ ((fX4_at a3 o_above_f 64) * a2) then (0 : Int32) else 1) else (if ((fX4_at a3 o_above_f 64) * a2) ≤ (a1 * (fX4_at a3 o_below_f 64)) then 0 else 1)) (fun y_1 => y_1))
set_option maxHeartbeats 4000000 in
set_option maxRecDepth 100000 in
theorem c_X0_isBetter (l : Launch) (D : va_G) (cI cZ : ClassId) (sz : Nat) (o : Nat) (a1 : Int32) (a2 : Int32) (a3 : Int32) (a4 : Int32) (o_above : Nat) (o_below : Nat) (o_sent : Nat) (o_below_a : Nat) (o_below_f : Nat → Int32) (o_above_a : Nat) (o_above_f : Nat → Int32)  : Met l yX0_isBetter wsX0_isBetter ({ frames := 1, cells := 0, slots := 0, locals := 21 } : Room) (va_Pc [.ref o, .int a1, .int a2, .int a3, .int a4] (xP D cI cZ [(o, .inr (0, [.ref o_above, .ref o_below, .ref o_sent])), (o_below, .inr (4, [.ref o_below_a])), (o_below_a, .inl (cI, 64, .inl o_below_f)), (o_above, .inr (4, [.ref o_above_a])), (o_above_a, .inl (cI, 64, .inl o_above_f))] sz)) (va_Qi (fun (r : Int32) (u : Unit) => r = fX0_isBetter a1 a2 a3 a4 o_below_f o_above_f) (fun (u : Unit) t => xB D cI cZ [(o, .inr (0, [.ref o_above, .ref o_below, .ref o_sent])), (o_below, .inr (4, [.ref o_below_a])), (o_below_a, .inl (cI, 64, .inl o_below_f)), (o_above, .inr (4, [.ref o_above_a])), (o_above_a, .inl (cI, 64, .inl o_above_f))] (va_A [(o, .inr (0, [.ref o_above, .ref o_below, .ref o_sent])), (o_below, .inr (4, [.ref o_below_a])), (o_below_a, .inl (cI, 64, .inl o_below_f)), (o_above, .inr (4, [.ref o_above_a])), (o_above_a, .inl (cI, 64, .inl o_above_f))] sz) t) (va_A [(o, .inr (0, [.ref o_above, .ref o_below, .ref o_sent])), (o_below, .inr (4, [.ref o_below_a])), (o_below_a, .inl (cI, 64, .inl o_below_f)), (o_above, .inr (4, [.ref o_above_a])), (o_above_a, .inl (cI, 64, .inl o_above_f))] sz)) 0 0 (va_A [(o, .inr (0, [.ref o_above, .ref o_below, .ref o_sent])), (o_below, .inr (4, [.ref o_below_a])), (o_below_a, .inl (cI, 64, .inl o_below_f)), (o_above, .inr (4, [.ref o_above_a])), (o_above_a, .inl (cI, 64, .inl o_above_f))] sz) := by
  refine Met.ofW (cc := cX0_isBetter) (maxL := 7) (ret := (some .boolean)) (by decide) rfl ?_
  intro p e s m args below meth c s₁ B hml hv
  obtain ⟨hargs, hsz, hP, hK, hD0, hE⟩ := hv
  subst hargs
  have hx := B.exec
  have hb := B.bytes
  have hr := B.returns
  have hts := atoms_spec (ws := wsX0_isBetter) B.pre
  have hown : s.vm.findClass RX0 = some m.cls := findClass_of_methodNamed B.named
  have hlocks := B.notSynchronized
  subst hsz
  have hD := hD0.self (sz := s.heap.size)
  generalize hAe : va_A [(o, .inr (0, [.ref o_above, .ref o_below, .ref o_sent])), (o_below, .inr (4, [.ref o_below_a])), (o_below_a, .inl (cI, 64, .inl o_below_f)), (o_above, .inr (4, [.ref o_above_a])), (o_above_a, .inl (cI, 64, .inl o_above_f))] s.heap.size = A at hD ⊢
  have hA : ∀ q : Nat, s.heap.size ≤ q → A q := fun q h => by rw [← hAe]; exact Or.inr h
  have hS : va_S A s.heap s.heap [] := va_S.rf
  have hl := lv_entry ([.ref o, .int a1, .int a2, .int a3, .int a4]) (n := 7) (Nat.le_of_ble_eq_true rfl)
  rw [lg_entry_eq]
  generalize (lg_sl ([.ref o, .int a1, .int a2, .int a3, .int a4]) ++ List.replicate (7 - (lg_sl ([.ref o, .int a1, .int a2, .int a3, .int a4])).length) Slot.unset).toArray = ls at hl ⊢
  have hl : lv_has ls 7 [(0, .ref o), (1, .int a1), (2, .int a2), (3, .int a3), (4, .int a4)] := hl
  refine wq (X := fun Q => ∀ (pc : Nat) (H : Heap) (locs : List Loc) (ls : Array Slot) (r : Int32) (u : Unit) (hn : narrow .boolean (.int r) = .int r) (hd : decode cX0_isBetter pc = .ok (.ireturn, 1)) (hp : r = fX0_isBetter a1 a2 a3 a4 o_below_f o_above_f) (hP : va_P D vwCl [(o, .inr (0, [.ref o_above, .ref o_below, .ref o_sent])), (o_below, .inr (4, [.ref o_below_a])), (o_below_a, .inl (cI, 64, .inl o_below_f)), (o_above, .inr (4, [.ref o_above_a])), (o_above_a, .inl (cI, 64, .inl o_above_f))] H) (hD : va_D A [(o, .inr (0, [.ref o_above, .ref o_below, .ref o_sent])), (o_below, .inr (4, [.ref o_below_a])), (o_below_a, .inl (cI, 64, .inl o_below_f)), (o_above, .inr (4, [.ref o_above_a])), (o_above_a, .inl (cI, 64, .inl o_above_f))]) (hS : va_S A s.heap H locs), W p l e ({ frames := 1, cells := 0, slots := 0, locals := 21 } : Room) s m ([.ref o, .int a1, .int a2, .int a3, .int a4] : List Value).toArray below meth c H locs 0 0 Q (F0 m pc ls [.int r])) ?_ (fun Q hret => ?_)
  · intro pc H locs ls r u hn hd hp hP hD hS
    exact W.zret (v := r) hx hb hr hn (fun t ht hW => ⟨⟨r, u, rfl, hp, by rw [ht]; exact hP, va_K.moved hW.alike hK, hD⟩, hS.F ht⟩) hS.2.2 hd
  have hin_0 : ∀ w ∈ u_ws RX0 TX0 3, w ∈ wsX0_isBetter := by decide +kernel
  have fl_14 := hts (.fieldLink RX0 14 "MileRoad$Game" "above" "LMileRoad$Row;") (by decide +kernel)
  have fl_20 := hts (.fieldLink RX0 20 "MileRoad$Game" "below" "LMileRoad$Row;") (by decide +kernel)
  have hF : fX0_isBetter a1 a2 a3 a4 o_below_f o_above_f = fX0_isBetter a1 a2 a3 a4 o_below_f o_above_f := rfl
  refine lv_aload_n hx hb dX0_isBetter_0 rfl (lv_at hl 0 rfl) ?_
  refine xget hx hb hts hown hK 0 (C2 := RX0) (T := TX0) (N := 3) rfl hin_0 hP 0 rfl 1 (by decide) fl_20 rfl rfl rfl dX0_isBetter_1 ?_
  refine lv_iload_n hx hb dX0_isBetter_4 rfl (lv_at hl 3 rfl) ?_
  refine xcalli (S := Unit) (Wc := [(o_below, .inr (4, [.ref o_below_a])), (o_below_a, .inl (cI, 64, .inl o_below_f))]) (wr := [(o, .inr (0, [.ref o_above, .ref o_below, .ref o_sent])), (o_above, .inr (4, [.ref o_above_a])), (o_above_a, .inl (cI, 64, .inl o_above_f))]) (W1 := (fun (u : Unit) => [(o_below, .inr (4, [.ref o_below_a])), (o_below_a, .inl (cI, 64, .inl o_below_f))])) (Wn := (fun (u : Unit) => [(o, .inr (0, [.ref o_above, .ref o_below, .ref o_sent])), (o_below, .inr (4, [.ref o_below_a])), (o_below_a, .inl (cI, 64, .inl o_below_f)), (o_above, .inr (4, [.ref o_above_a])), (o_above_a, .inl (cI, 64, .inl o_above_f))])) (xrunV hx hb hml hown hts (c_X4_at l D cI cZ _ o_below a3 o_below_a o_below_f 64 (by decide)) (cwV 1 hts gX0_isBetter_X4_at rfl rfl rfl (by decide +kernel) ⟨Nat.le_of_ble_eq_true rfl, Nat.le_of_ble_eq_true rfl⟩) hE hK hP hD [1, 2] rfl rfl 0 4 (T := TX4) (N := 1) rfl rfl rfl hl.1 rfl (Nat.le_of_ble_eq_true rfl) dX0_isBetter_5 ⟨Nat.le_of_ble_eq_true rfl, Nat.le_of_ble_eq_true rfl⟩) hP hD hS hA [1, 2] [0, 3, 4] [0, 3, 4, 1, 2] rfl rfl rfl (by decide) (fun _ => rfl) rfl (fun r1 u H locs hw hz hP hD hS => ?_)
  subst hw
  refine lv_if_ne (tgt := 13) hx hb dX0_isBetter_8 (by decide) (fun c_1 => ?_) (fun c_1 => ?_)
  · refine lv_iload_n hx hb dX0_isBetter_13 rfl (lv_at hl 1 rfl) ?_
    refine lv_aload_n hx hb dX0_isBetter_14 rfl (lv_at hl 0 rfl) ?_
    refine xget hx hb hts hown hK 0 (C2 := RX0) (T := TX0) (N := 3) rfl hin_0 hP 0 rfl 1 (by decide) fl_20 rfl rfl rfl dX0_isBetter_15 ?_
    refine lv_iload_n hx hb dX0_isBetter_18 rfl (lv_at hl 3 rfl) ?_
    refine xcalli (S := Unit) (Wc := [(o_below, .inr (4, [.ref o_below_a])), (o_below_a, .inl (cI, 64, .inl o_below_f))]) (wr := [(o, .inr (0, [.ref o_above, .ref o_below, .ref o_sent])), (o_above, .inr (4, [.ref o_above_a])), (o_above_a, .inl (cI, 64, .inl o_above_f))]) (W1 := (fun (u : Unit) => [(o_below, .inr (4, [.ref o_below_a])), (o_below_a, .inl (cI, 64, .inl o_below_f))])) (Wn := (fun (u : Unit) => [(o, .inr (0, [.ref o_above, .ref o_below, .ref o_sent])), (o_below, .inr (4, [.ref o_below_a])), (o_below_a, .inl (cI, 64, .inl o_below_f)), (o_above, .inr (4, [.ref o_above_a])), (o_above_a, .inl (cI, 64, .inl o_above_f))])) (xrunV hx hb hml hown hts (c_X4_at l D cI cZ _ o_below a3 o_below_a o_below_f 64 (by decide)) (cwV 1 hts gX0_isBetter_X4_at rfl rfl rfl (by decide +kernel) ⟨Nat.le_of_ble_eq_true rfl, Nat.le_of_ble_eq_true rfl⟩) hE hK hP hD [1, 2] rfl rfl 0 4 (T := TX4) (N := 1) rfl rfl rfl hl.1 rfl (Nat.le_of_ble_eq_true rfl) dX0_isBetter_19 ⟨Nat.le_of_ble_eq_true rfl, Nat.le_of_ble_eq_true rfl⟩) hP hD hS hA [1, 2] [0, 3, 4] [0, 3, 4, 1, 2] rfl rfl rfl (by decide) (fun _ => rfl) rfl (fun r2 u H locs hw hz hP hD hS => ?_)
    subst hw
    refine lv_imul hx hb dX0_isBetter_22 ?_
    refine lv_istore (lv' := [(5, .int (a1 * (fX4_at a3 o_below_f 64))), (0, .ref o), (1, .int a1), (2, .int a2), (3, .int a3), (4, .int a4)]) hx hb dX0_isBetter_23 hl (by decide) rfl (fun ls hl => ?_)
    refine lv_aload_n hx hb dX0_isBetter_25 rfl (lv_at hl 1 rfl) ?_
    refine xget hx hb hts hown hK 0 (C2 := RX0) (T := TX0) (N := 3) rfl hin_0 hP 0 rfl 0 (by decide) fl_14 rfl rfl rfl dX0_isBetter_26 ?_
    refine lv_iload_n hx hb dX0_isBetter_29 rfl (lv_at hl 4 rfl) ?_
    refine xcalli (S := Unit) (Wc := [(o_above, .inr (4, [.ref o_above_a])), (o_above_a, .inl (cI, 64, .inl o_above_f))]) (wr := [(o, .inr (0, [.ref o_above, .ref o_below, .ref o_sent])), (o_below, .inr (4, [.ref o_below_a])), (o_below_a, .inl (cI, 64, .inl o_below_f))]) (W1 := (fun (u : Unit) => [(o_above, .inr (4, [.ref o_above_a])), (o_above_a, .inl (cI, 64, .inl o_above_f))])) (Wn := (fun (u : Unit) => [(o, .inr (0, [.ref o_above, .ref o_below, .ref o_sent])), (o_below, .inr (4, [.ref o_below_a])), (o_below_a, .inl (cI, 64, .inl o_below_f)), (o_above, .inr (4, [.ref o_above_a])), (o_above_a, .inl (cI, 64, .inl o_above_f))])) (xrunV hx hb hml hown hts (c_X4_at l D cI cZ _ o_above a3 o_above_a o_above_f 64 (by decide)) (cwV 1 hts gX0_isBetter_X4_at rfl rfl rfl (by decide +kernel) ⟨Nat.le_of_ble_eq_true rfl, Nat.le_of_ble_eq_true rfl⟩) hE hK hP hD [3, 4] rfl rfl 0 4 (T := TX4) (N := 1) rfl rfl rfl hl.1 rfl (Nat.le_of_ble_eq_true rfl) dX0_isBetter_30 ⟨Nat.le_of_ble_eq_true rfl, Nat.le_of_ble_eq_true rfl⟩) hP hD hS hA [3, 4] [0, 1, 2] [0, 1, 2, 3, 4] rfl rfl rfl (by decide) (fun _ => rfl) rfl (fun r3 u H locs hw hz hP hD hS => ?_)
    subst hw
    refine lv_iload_n hx hb dX0_isBetter_33 rfl (lv_at hl 3 rfl) ?_
    refine lv_imul hx hb dX0_isBetter_34 ?_
    refine lv_istore (lv' := [(6, .int ((fX4_at a3 o_above_f 64) * a2)), (5, .int (a1 * (fX4_at a3 o_below_f 64))), (0, .ref o), (1, .int a1), (2, .int a2), (3, .int a3), (4, .int a4)]) hx hb dX0_isBetter_35 hl (by decide) rfl (fun ls hl => ?_)
    refine lv_iload hx hb dX0_isBetter_37 (lv_at hl 6 rfl) ?_
    have K_y_1 : ∀ (y_1 : Int32) (hy_y_1 : (if a4 = 0 then (if (a1 * (fX4_at a3 o_below_f 64)) ≤ ((fX4_at a3 o_above_f 64) * a2) then (0 : Int32) else 1) else (if ((fX4_at a3 o_above_f 64) * a2) ≤ (a1 * (fX4_at a3 o_below_f 64)) then 0 else 1)) = y_1) (H : Heap) (locs : List Loc) (hP : va_P D vwCl [(o, .inr (0, [.ref o_above, .ref o_below, .ref o_sent])), (o_below, .inr (4, [.ref o_below_a])), (o_below_a, .inl (cI, 64, .inl o_below_f)), (o_above, .inr (4, [.ref o_above_a])), (o_above_a, .inl (cI, 64, .inl o_above_f))] H) (hD : va_D A [(o, .inr (0, [.ref o_above, .ref o_below, .ref o_sent])), (o_below, .inr (4, [.ref o_below_a])), (o_below_a, .inl (cI, 64, .inl o_below_f)), (o_above, .inr (4, [.ref o_above_a])), (o_above_a, .inl (cI, 64, .inl o_above_f))]) (hS : va_S A s.heap H locs), W p l e ({ frames := 1, cells := 0, slots := 0, locals := 21 } : Room) s m ([.ref o, .int a1, .int a2, .int a3, .int a4] : List Value).toArray below meth c H locs 0 0 Q (F0 m 69 ls [.int y_1]) := by
      intro y_1 hy_y_1 H locs hP hD hS
      have ky_y_1 : y_1 = 0 ∨ y_1 = 1 := by rw [← hy_y_1]; (repeat' split) <;> simp
      exact hret _ _ _ _ y_1 () (by rcases ky_y_1 with h | h <;> rw [h] <;> rfl) dX0_isBetter_69 ((hF.trans (by simp only [fX0_isBetter, xlet, if_neg c_1, ↓hy_y_1])).symm) hP hD hS
    refine lv_if_eq (tgt := 57) hx hb dX0_isBetter_39 (by decide) (fun c_2 => ?_) (fun c_2 => ?_)
    · refine lv_iload hx hb dX0_isBetter_57 (lv_at hl 1 rfl) ?_
      refine lv_iload hx hb dX0_isBetter_59 (lv_at hl 0 rfl) ?_
      refine lv_icmp_le (tgt := 68) hx hb dX0_isBetter_61 (by decide) (fun c_3 => ?_) (fun c_3 => ?_)
      · refine lv_iconst (v := 0) hx hb dX0_isBetter_68 (by decide) ?_
        exact K_y_1 _ (by simp only [xlet, if_pos c_2, if_pos c_3]) _ _ hP hD hS
      · refine lv_iconst (v := 1) hx hb dX0_isBetter_64 (by decide) ?_
        refine lv_goto (tgt := 69) hx hb dX0_isBetter_65 (by decide) ?_
        exact K_y_1 _ (by simp only [xlet, if_pos c_2, if_neg c_3]) _ _ hP hD hS
    · refine lv_iload hx hb dX0_isBetter_42 (lv_at hl 1 rfl) ?_
      refine lv_iload hx hb dX0_isBetter_44 (lv_at hl 0 rfl) ?_
      refine lv_icmp_ge (tgt := 53) hx hb dX0_isBetter_46 (by decide) (fun c_4 => ?_) (fun c_4 => ?_)
      · refine lv_iconst (v := 0) hx hb dX0_isBetter_53 (by decide) ?_
        refine lv_goto (tgt := 69) hx hb dX0_isBetter_54 (by decide) ?_
        exact K_y_1 _ (by simp only [xlet, if_neg c_2, if_pos c_4]) _ _ hP hD hS
      · refine lv_iconst (v := 1) hx hb dX0_isBetter_49 (by decide) ?_
        refine lv_goto (tgt := 69) hx hb dX0_isBetter_50 (by decide) ?_
        exact K_y_1 _ (by simp only [xlet, if_neg c_2, if_neg c_4]) _ _ hP hD hS
  · refine lv_iconst (v := 1) hx hb dX0_isBetter_11 (by decide) ?_
    exact hret _ _ _ _ 1 () rfl dX0_isBetter_12 ((hF.trans (by simp only [fX0_isBetter, xlet, if_pos c_1])).symm) hP hD hS
theorem bz_X0_isBetter (a1 : Int32) (a2 : Int32) (a3 : Int32) (a4 : Int32) (o_below_f : Nat → Int32) (o_above_f : Nat → Int32) : narrow .boolean (.int (fX0_isBetter a1 a2 a3 a4 o_below_f o_above_f)) = .int (fX0_isBetter a1 a2 a3 a4 o_below_f o_above_f) := by
  unfold fX0_isBetter; try unfold xlet
  first | rfl | ((repeat' split) <;> first | rfl)
set_option maxRecDepth 20000 in
theorem ggX0_chooseBest_X0_settle : GoodIn wsX0_chooseBest wsX0_settle := goodIn_r _ [7, 8, 1, 2, 9, 10, 11, 12, 13, 14, 42, 43, 44, 45] (by decide +kernel) (by decide +kernel)
set_option maxRecDepth 20000 in
theorem gX0_chooseBest_X0_settle : GoodIn wsX0_chooseBest (wsV RX0 45 RX0 yX0_settle wsX0_settle) := goodIn_app (goodIn_of _ (by decide +kernel)) ggX0_chooseBest_X0_settle
set_option maxRecDepth 20000 in
theorem ggX0_chooseBest_X4_at : GoodIn wsX0_chooseBest wsX4_at := goodIn_r _ [18, 14, 45] (by decide +kernel) (by decide +kernel)
set_option maxRecDepth 20000 in
theorem gX0_chooseBest_X4_at : GoodIn wsX0_chooseBest (wsV RX0 42 RX4 yX4_at wsX4_at) := goodIn_app (goodIn_of _ (by decide +kernel)) ggX0_chooseBest_X4_at
set_option maxRecDepth 20000 in
theorem ggX0_chooseBest_X0_isBetter : GoodIn wsX0_chooseBest wsX0_isBetter := goodIn_r _ [22, 2, 1, 15, 16, 17, 12, 18, 14, 42, 43, 44, 45] (by decide +kernel) (by decide +kernel)
set_option maxRecDepth 20000 in
theorem gX0_chooseBest_X0_isBetter : GoodIn wsX0_chooseBest (wsV RX0 49 RX0 yX0_isBetter wsX0_isBetter) := goodIn_app (goodIn_of _ (by decide +kernel)) ggX0_chooseBest_X0_isBetter
set_option maxRecDepth 20000 in
theorem ggX0_chooseBest_X6_numberOf : GoodIn wsX0_chooseBest wsX6_numberOf := goodIn_r _ [27, 28, 29, 30, 31, 26, 32, 33, 34, 16, 17, 12, 18, 14, 39, 40, 41, 45] (by decide +kernel) (by decide +kernel)
set_option maxRecDepth 20000 in
theorem gX0_chooseBest_X6_numberOf : GoodIn wsX0_chooseBest (wsV RX0 53 RX6 yX6_numberOf wsX6_numberOf) := goodIn_app (goodIn_of _ (by decide +kernel)) ggX0_chooseBest_X6_numberOf
set_option maxRecDepth 20000 in
theorem ggX0_chooseBest_X6_sumOf : GoodIn wsX0_chooseBest wsX6_sumOf := goodIn_r _ [38, 28, 33, 29, 30, 31, 26, 32, 34, 16, 17, 12, 18, 14, 39, 40, 41, 45] (by decide +kernel) (by decide +kernel)
set_option maxRecDepth 20000 in
theorem gX0_chooseBest_X6_sumOf : GoodIn wsX0_chooseBest (wsV RX0 59 RX6 yX6_sumOf wsX6_sumOf) := goodIn_app (goodIn_of _ (by decide +kernel)) ggX0_chooseBest_X6_sumOf
theorem dX0_chooseBest_0 : decode cX0_chooseBest 0 = .ok (.aload_n 0, 1) := by decide +kernel
theorem dX0_chooseBest_1 : decode cX0_chooseBest 1 = .ok (.iload_n 2, 1) := by decide +kernel
theorem dX0_chooseBest_2 : decode cX0_chooseBest 2 = .ok (.iconst (-1), 1) := by decide +kernel
theorem dX0_chooseBest_3 : decode cX0_chooseBest 3 = .ok (.iconst 0, 1) := by decide +kernel
theorem dX0_chooseBest_4 : decode cX0_chooseBest 4 = .ok (.iconst 0, 1) := by decide +kernel
theorem dX0_chooseBest_5 : decode cX0_chooseBest 5 = .ok (.invokevirtual 45, 3) := by decide +kernel
theorem dX0_chooseBest_8 : decode cX0_chooseBest 8 = .ok (.iconst 0, 1) := by decide +kernel
theorem dX0_chooseBest_9 : decode cX0_chooseBest 9 = .ok (.istore 4, 2) := by decide +kernel
theorem dX0_chooseBest_11 : decode cX0_chooseBest 11 = .ok (.iload 4, 2) := by decide +kernel
theorem dX0_chooseBest_13 : decode cX0_chooseBest 13 = .ok (.aload_n 1, 1) := by decide +kernel
theorem dX0_chooseBest_14 : decode cX0_chooseBest 14 = .ok (.getfield 32, 3) := by decide +kernel
theorem dX0_chooseBest_17 : decode cX0_chooseBest 17 = .ok (.if_icmp .ge 75, 3) := by decide +kernel
theorem dX0_chooseBest_20 : decode cX0_chooseBest 20 = .ok (.iload_n 2, 1) := by decide +kernel
theorem dX0_chooseBest_21 : decode cX0_chooseBest 21 = .ok (.iconst 1, 1) := by decide +kernel
theorem dX0_chooseBest_22 : decode cX0_chooseBest 22 = .ok (.iload 4, 2) := by decide +kernel
theorem dX0_chooseBest_24 : decode cX0_chooseBest 24 = .ok (.ishl, 1) := by decide +kernel
theorem dX0_chooseBest_25 : decode cX0_chooseBest 25 = .ok (.ior, 1) := by decide +kernel
theorem dX0_chooseBest_26 : decode cX0_chooseBest 26 = .ok (.istore 5, 2) := by decide +kernel
theorem dX0_chooseBest_28 : decode cX0_chooseBest 28 = .ok (.iload 5, 2) := by decide +kernel
theorem dX0_chooseBest_30 : decode cX0_chooseBest 30 = .ok (.iload_n 2, 1) := by decide +kernel
theorem dX0_chooseBest_31 : decode cX0_chooseBest 31 = .ok (.if_icmp .eq 55, 3) := by decide +kernel
theorem dX0_chooseBest_34 : decode cX0_chooseBest 34 = .ok (.aload_n 0, 1) := by decide +kernel
theorem dX0_chooseBest_35 : decode cX0_chooseBest 35 = .ok (.aload_n 0, 1) := by decide +kernel
theorem dX0_chooseBest_36 : decode cX0_chooseBest 36 = .ok (.getfield 14, 3) := by decide +kernel
theorem dX0_chooseBest_39 : decode cX0_chooseBest 39 = .ok (.iload 5, 2) := by decide +kernel
theorem dX0_chooseBest_41 : decode cX0_chooseBest 41 = .ok (.invokevirtual 42, 3) := by decide +kernel
theorem dX0_chooseBest_44 : decode cX0_chooseBest 44 = .ok (.aload_n 0, 1) := by decide +kernel
theorem dX0_chooseBest_45 : decode cX0_chooseBest 45 = .ok (.getfield 20, 3) := by decide +kernel
theorem dX0_chooseBest_48 : decode cX0_chooseBest 48 = .ok (.iload 5, 2) := by decide +kernel
theorem dX0_chooseBest_50 : decode cX0_chooseBest 50 = .ok (.invokevirtual 42, 3) := by decide +kernel
theorem dX0_chooseBest_53 : decode cX0_chooseBest 53 = .ok (.iload_n 2, 1) := by decide +kernel
theorem dX0_chooseBest_54 : decode cX0_chooseBest 54 = .ok (.iload_n 3, 1) := by decide +kernel
theorem dX0_chooseBest_55 : decode cX0_chooseBest 55 = .ok (.invokevirtual 49, 3) := by decide +kernel
theorem dX0_chooseBest_58 : decode cX0_chooseBest 58 = .ok (.ifCond .eq 28, 3) := by decide +kernel
theorem dX0_chooseBest_61 : decode cX0_chooseBest 61 = .ok (.aload_n 0, 1) := by decide +kernel
theorem dX0_chooseBest_62 : decode cX0_chooseBest 62 = .ok (.iload_n 2, 1) := by decide +kernel
theorem dX0_chooseBest_63 : decode cX0_chooseBest 63 = .ok (.iload 4, 2) := by decide +kernel
theorem dX0_chooseBest_65 : decode cX0_chooseBest 65 = .ok (.aload_n 0, 1) := by decide +kernel
theorem dX0_chooseBest_66 : decode cX0_chooseBest 66 = .ok (.getfield 14, 3) := by decide +kernel
theorem dX0_chooseBest_69 : decode cX0_chooseBest 69 = .ok (.iload 5, 2) := by decide +kernel
theorem dX0_chooseBest_71 : decode cX0_chooseBest 71 = .ok (.invokevirtual 42, 3) := by decide +kernel
theorem dX0_chooseBest_74 : decode cX0_chooseBest 74 = .ok (.aload_n 0, 1) := by decide +kernel
theorem dX0_chooseBest_75 : decode cX0_chooseBest 75 = .ok (.getfield 20, 3) := by decide +kernel
theorem dX0_chooseBest_78 : decode cX0_chooseBest 78 = .ok (.iload 5, 2) := by decide +kernel
theorem dX0_chooseBest_80 : decode cX0_chooseBest 80 = .ok (.invokevirtual 42, 3) := by decide +kernel
theorem dX0_chooseBest_83 : decode cX0_chooseBest 83 = .ok (.invokevirtual 45, 3) := by decide +kernel
theorem dX0_chooseBest_86 : decode cX0_chooseBest 86 = .ok (.iinc 4 1, 3) := by decide +kernel
theorem dX0_chooseBest_89 : decode cX0_chooseBest 89 = .ok (.goto (-78), 3) := by decide +kernel
theorem dX0_chooseBest_92 : decode cX0_chooseBest 92 = .ok (.aload_n 1, 1) := by decide +kernel
theorem dX0_chooseBest_93 : decode cX0_chooseBest 93 = .ok (.iload_n 2, 1) := by decide +kernel
theorem dX0_chooseBest_94 : decode cX0_chooseBest 94 = .ok (.invokevirtual 53, 3) := by decide +kernel
theorem dX0_chooseBest_97 : decode cX0_chooseBest 97 = .ok (.istore 4, 2) := by decide +kernel
theorem dX0_chooseBest_99 : decode cX0_chooseBest 99 = .ok (.iload 4, 2) := by decide +kernel
theorem dX0_chooseBest_101 : decode cX0_chooseBest 101 = .ok (.ifCond .ne 10, 3) := by decide +kernel
theorem dX0_chooseBest_104 : decode cX0_chooseBest 104 = .ok (.aload_n 1, 1) := by decide +kernel
theorem dX0_chooseBest_105 : decode cX0_chooseBest 105 = .ok (.getfield 56, 3) := by decide +kernel
theorem dX0_chooseBest_108 : decode cX0_chooseBest 108 = .ok (.goto 8, 3) := by decide +kernel
theorem dX0_chooseBest_111 : decode cX0_chooseBest 111 = .ok (.aload_n 1, 1) := by decide +kernel
theorem dX0_chooseBest_112 : decode cX0_chooseBest 112 = .ok (.iload_n 2, 1) := by decide +kernel
theorem dX0_chooseBest_113 : decode cX0_chooseBest 113 = .ok (.invokevirtual 59, 3) := by decide +kernel
theorem dX0_chooseBest_116 : decode cX0_chooseBest 116 = .ok (.istore 5, 2) := by decide +kernel
theorem dX0_chooseBest_118 : decode cX0_chooseBest 118 = .ok (.iload 4, 2) := by decide +kernel
theorem dX0_chooseBest_120 : decode cX0_chooseBest 120 = .ok (.ifCond .ne 7, 3) := by decide +kernel
theorem dX0_chooseBest_123 : decode cX0_chooseBest 123 = .ok (.iconst 1, 1) := by decide +kernel
theorem dX0_chooseBest_124 : decode cX0_chooseBest 124 = .ok (.goto 5, 3) := by decide +kernel
theorem dX0_chooseBest_127 : decode cX0_chooseBest 127 = .ok (.iload 4, 2) := by decide +kernel
theorem dX0_chooseBest_129 : decode cX0_chooseBest 129 = .ok (.istore 6, 2) := by decide +kernel
theorem dX0_chooseBest_131 : decode cX0_chooseBest 131 = .ok (.aload_n 0, 1) := by decide +kernel
theorem dX0_chooseBest_132 : decode cX0_chooseBest 132 = .ok (.iload 5, 2) := by decide +kernel
theorem dX0_chooseBest_134 : decode cX0_chooseBest 134 = .ok (.iload 6, 2) := by decide +kernel
theorem dX0_chooseBest_136 : decode cX0_chooseBest 136 = .ok (.iload_n 2, 1) := by decide +kernel
theorem dX0_chooseBest_137 : decode cX0_chooseBest 137 = .ok (.iload_n 3, 1) := by decide +kernel
theorem dX0_chooseBest_138 : decode cX0_chooseBest 138 = .ok (.invokevirtual 49, 3) := by decide +kernel
theorem dX0_chooseBest_141 : decode cX0_chooseBest 141 = .ok (.ifCond .eq 13, 3) := by decide +kernel
theorem dX0_chooseBest_144 : decode cX0_chooseBest 144 = .ok (.aload_n 0, 1) := by decide +kernel
theorem dX0_chooseBest_145 : decode cX0_chooseBest 145 = .ok (.iload_n 2, 1) := by decide +kernel
theorem dX0_chooseBest_146 : decode cX0_chooseBest 146 = .ok (.iconst (-1), 1) := by decide +kernel
theorem dX0_chooseBest_147 : decode cX0_chooseBest 147 = .ok (.iload 5, 2) := by decide +kernel
theorem dX0_chooseBest_149 : decode cX0_chooseBest 149 = .ok (.iload 6, 2) := by decide +kernel
theorem dX0_chooseBest_151 : decode cX0_chooseBest 151 = .ok (.invokevirtual 45, 3) := by decide +kernel
theorem dX0_chooseBest_154 : decode cX0_chooseBest 154 = .ok (.return_, 1) := by decide +kernel
def fX0_chooseBest_11 (a2 : Int32) (a3 : Int32) (a1_walkers : Int32) (a1_steps : Int32) (a1_places_f : Nat → Int32)  : Nat → (Nat → Int32) → (Nat → Int32) → (Nat → Int32) → Int32 → (Nat → Int32) × (Nat → Int32) × (Nat → Int32)
  | 0, _, _, _, _ => default
  | n + 1, o_above_a_f_11, o_below_a_f_11, o_sent_a_f_11, v11_4 => if a1_walkers ≤ v11_4 then (xlet (if (fX6_numberOf a2 a1_walkers a1_places_f) = 0 then a1_steps else (fX6_sumOf a2 a1_walkers a1_places_f)) (fun y_1 => xlet (if (fX6_numberOf a2 a1_walkers a1_places_f) = 0 then 1 else (fX6_numberOf a2 a1_walkers a1_places_f)) (fun y_2 => if (fX0_isBetter y_1 y_2 a2 a3 o_below_a_f_11 o_above_a_f_11) = 0 then ((o_sent_a_f_11, o_above_a_f_11, o_below_a_f_11)) else (match fX0_settle a2 (-1) y_1 y_2 o_sent_a_f_11 o_above_a_f_11 o_below_a_f_11 with | (u7, u8, u9) => (u7, u8, u9))))) else (if (a2 ||| ((1 : Int32) <<< (v11_4 &&& 31))) = a2 then (fX0_chooseBest_11 a2 a3 a1_walkers a1_steps a1_places_f n o_above_a_f_11 o_below_a_f_11 o_sent_a_f_11 (v11_4 + 1)) else (if (fX0_isBetter (fX4_at (a2 ||| ((1 : Int32) <<< (v11_4 &&& 31))) o_above_a_f_11 64) (fX4_at (a2 ||| ((1 : Int32) <<< (v11_4 &&& 31))) o_below_a_f_11 64) a2 a3 o_below_a_f_11 o_above_a_f_11) = 0 then (fX0_chooseBest_11 a2 a3 a1_walkers a1_steps a1_places_f n o_above_a_f_11 o_below_a_f_11 o_sent_a_f_11 (v11_4 + 1)) else (match fX0_settle a2 v11_4 (fX4_at (a2 ||| ((1 : Int32) <<< (v11_4 &&& 31))) o_above_a_f_11 64) (fX4_at (a2 ||| ((1 : Int32) <<< (v11_4 &&& 31))) o_below_a_f_11 64) o_sent_a_f_11 o_above_a_f_11 o_below_a_f_11 with | (u15, u16, u17) => fX0_chooseBest_11 a2 a3 a1_walkers a1_steps a1_places_f n u16 u17 u15 (v11_4 + 1))))
def fX0_chooseBest (a2 : Int32) (a3 : Int32) (o_sent_f : Nat → Int32) (o_above_f : Nat → Int32) (o_below_f : Nat → Int32) (a1_walkers : Int32) (a1_steps : Int32) (a1_places_f : Nat → Int32) : (Nat → Int32) × (Nat → Int32) × (Nat → Int32) := match fX0_settle a2 (-1) 0 0 o_sent_f o_above_f o_below_f with | (u1, u2, u3) => fX0_chooseBest_11 a2 a3 a1_walkers a1_steps a1_places_f 1000 u2 u3 u1 0
set_option maxHeartbeats 4000000 in
set_option maxRecDepth 100000 in
theorem c_X0_chooseBest (l : Launch) (D : va_G) (cI cZ : ClassId) (sz : Nat) (o : Nat) (a1 : Nat) (a2 : Int32) (a3 : Int32) (o_above : Nat) (o_below : Nat) (o_sent : Nat) (o_sent_a : Nat) (o_sent_f : Nat → Int32) (o_above_a : Nat) (o_above_f : Nat → Int32) (o_below_a : Nat) (o_below_f : Nat → Int32) (a1_places : Nat) (a1_walkers : Int32) (a1_steps : Int32) (a1_places_a : Nat) (a1_places_f : Nat → Int32) (hw6 : a1_walkers.toInt ≤ 6) : Met l yX0_chooseBest wsX0_chooseBest ({ frames := 3, cells := 0, slots := 0, locals := 66 } : Room) (va_Pc [.ref o, .ref a1, .int a2, .int a3] (xP D cI cZ [(o, .inr (0, [.ref o_above, .ref o_below, .ref o_sent])), (o_sent, .inr (4, [.ref o_sent_a])), (o_sent_a, .inl (cI, 64, .inl o_sent_f)), (o_above, .inr (4, [.ref o_above_a])), (o_above_a, .inl (cI, 64, .inl o_above_f)), (o_below, .inr (4, [.ref o_below_a])), (o_below_a, .inl (cI, 64, .inl o_below_f)), (a1, .inr (6, [.ref a1_places, .int a1_walkers, .int a1_steps])), (a1_places, .inr (4, [.ref a1_places_a])), (a1_places_a, .inl (cI, 6, .inl a1_places_f))] sz)) (va_Qv (fun (u : (Nat → Int32) × (Nat → Int32) × (Nat → Int32)) => u = fX0_chooseBest a2 a3 o_sent_f o_above_f o_below_f a1_walkers a1_steps a1_places_f) (fun (u : (Nat → Int32) × (Nat → Int32) × (Nat → Int32)) t => xB D cI cZ [(o, .inr (0, [.ref o_above, .ref o_below, .ref o_sent])), (o_sent, .inr (4, [.ref o_sent_a])), (o_sent_a, .inl (cI, 64, .inl u.1)), (o_above, .inr (4, [.ref o_above_a])), (o_above_a, .inl (cI, 64, .inl u.2.1)), (o_below, .inr (4, [.ref o_below_a])), (o_below_a, .inl (cI, 64, .inl u.2.2)), (a1, .inr (6, [.ref a1_places, .int a1_walkers, .int a1_steps])), (a1_places, .inr (4, [.ref a1_places_a])), (a1_places_a, .inl (cI, 6, .inl a1_places_f))] (va_A [(o, .inr (0, [.ref o_above, .ref o_below, .ref o_sent])), (o_sent, .inr (4, [.ref o_sent_a])), (o_sent_a, .inl (cI, 64, .inl o_sent_f)), (o_above, .inr (4, [.ref o_above_a])), (o_above_a, .inl (cI, 64, .inl o_above_f)), (o_below, .inr (4, [.ref o_below_a])), (o_below_a, .inl (cI, 64, .inl o_below_f)), (a1, .inr (6, [.ref a1_places, .int a1_walkers, .int a1_steps])), (a1_places, .inr (4, [.ref a1_places_a])), (a1_places_a, .inl (cI, 6, .inl a1_places_f))] sz) t) (va_A [(o, .inr (0, [.ref o_above, .ref o_below, .ref o_sent])), (o_sent, .inr (4, [.ref o_sent_a])), (o_sent_a, .inl (cI, 64, .inl o_sent_f)), (o_above, .inr (4, [.ref o_above_a])), (o_above_a, .inl (cI, 64, .inl o_above_f)), (o_below, .inr (4, [.ref o_below_a])), (o_below_a, .inl (cI, 64, .inl o_below_f)), (a1, .inr (6, [.ref a1_places, .int a1_walkers, .int a1_steps])), (a1_places, .inr (4, [.ref a1_places_a])), (a1_places_a, .inl (cI, 6, .inl a1_places_f))] sz)) 0 0 (va_A [(o, .inr (0, [.ref o_above, .ref o_below, .ref o_sent])), (o_sent, .inr (4, [.ref o_sent_a])), (o_sent_a, .inl (cI, 64, .inl o_sent_f)), (o_above, .inr (4, [.ref o_above_a])), (o_above_a, .inl (cI, 64, .inl o_above_f)), (o_below, .inr (4, [.ref o_below_a])), (o_below_a, .inl (cI, 64, .inl o_below_f)), (a1, .inr (6, [.ref a1_places, .int a1_walkers, .int a1_steps])), (a1_places, .inr (4, [.ref a1_places_a])), (a1_places_a, .inl (cI, 6, .inl a1_places_f))] sz) := by
  refine Met.ofW (cc := cX0_chooseBest) (maxL := 7) (ret := none) (by decide) rfl ?_
  intro p e s m args below meth c s₁ B hml hv
  obtain ⟨hargs, hsz, hP, hK, hD0, hE⟩ := hv
  subst hargs
  have hx := B.exec
  have hb := B.bytes
  have hr := B.returns
  have hts := atoms_spec (ws := wsX0_chooseBest) B.pre
  have hown : s.vm.findClass RX0 = some m.cls := findClass_of_methodNamed B.named
  have hlocks := B.notSynchronized
  subst hsz
  have hD := hD0.self (sz := s.heap.size)
  generalize hAe : va_A [(o, .inr (0, [.ref o_above, .ref o_below, .ref o_sent])), (o_sent, .inr (4, [.ref o_sent_a])), (o_sent_a, .inl (cI, 64, .inl o_sent_f)), (o_above, .inr (4, [.ref o_above_a])), (o_above_a, .inl (cI, 64, .inl o_above_f)), (o_below, .inr (4, [.ref o_below_a])), (o_below_a, .inl (cI, 64, .inl o_below_f)), (a1, .inr (6, [.ref a1_places, .int a1_walkers, .int a1_steps])), (a1_places, .inr (4, [.ref a1_places_a])), (a1_places_a, .inl (cI, 6, .inl a1_places_f))] s.heap.size = A at hD ⊢
  have hA : ∀ q : Nat, s.heap.size ≤ q → A q := fun q h => by rw [← hAe]; exact Or.inr h
  have hS : va_S A s.heap s.heap [] := va_S.rf
  have hl := lv_entry ([.ref o, .ref a1, .int a2, .int a3]) (n := 7) (Nat.le_of_ble_eq_true rfl)
  rw [lg_entry_eq]
  generalize (lg_sl ([.ref o, .ref a1, .int a2, .int a3]) ++ List.replicate (7 - (lg_sl ([.ref o, .ref a1, .int a2, .int a3])).length) Slot.unset).toArray = ls at hl ⊢
  have hl : lv_has ls 7 [(0, .ref o), (1, .ref a1), (2, .int a2), (3, .int a3)] := hl
  refine wq (X := fun Q => ∀ (pc : Nat) (H : Heap) (locs : List Loc) (ls : Array Slot) (u : (Nat → Int32) × (Nat → Int32) × (Nat → Int32)) (hd : decode cX0_chooseBest pc = .ok (.return_, 1)) (hp : u = fX0_chooseBest a2 a3 o_sent_f o_above_f o_below_f a1_walkers a1_steps a1_places_f) (hP : va_P D vwCl [(o, .inr (0, [.ref o_above, .ref o_below, .ref o_sent])), (o_sent, .inr (4, [.ref o_sent_a])), (o_sent_a, .inl (cI, 64, .inl u.1)), (o_above, .inr (4, [.ref o_above_a])), (o_above_a, .inl (cI, 64, .inl u.2.1)), (o_below, .inr (4, [.ref o_below_a])), (o_below_a, .inl (cI, 64, .inl u.2.2)), (a1, .inr (6, [.ref a1_places, .int a1_walkers, .int a1_steps])), (a1_places, .inr (4, [.ref a1_places_a])), (a1_places_a, .inl (cI, 6, .inl a1_places_f))] H) (hD : va_D A [(o, .inr (0, [.ref o_above, .ref o_below, .ref o_sent])), (o_sent, .inr (4, [.ref o_sent_a])), (o_sent_a, .inl (cI, 64, .inl u.1)), (o_above, .inr (4, [.ref o_above_a])), (o_above_a, .inl (cI, 64, .inl u.2.1)), (o_below, .inr (4, [.ref o_below_a])), (o_below_a, .inl (cI, 64, .inl u.2.2)), (a1, .inr (6, [.ref a1_places, .int a1_walkers, .int a1_steps])), (a1_places, .inr (4, [.ref a1_places_a])), (a1_places_a, .inl (cI, 6, .inl a1_places_f))]) (hS : va_S A s.heap H locs), W p l e ({ frames := 3, cells := 0, slots := 0, locals := 66 } : Room) s m ([.ref o, .ref a1, .int a2, .int a3] : List Value).toArray below meth c H locs 0 0 Q (F0 m pc ls [])) ?_ (fun Q hret => ?_)
  · intro pc H locs ls u hd hp hP hD hS
    exact W.vret hx hb hr (fun t ht hW => ⟨⟨u, rfl, hp, by rw [ht]; exact hP, va_K.moved hW.alike hK, hD⟩, hS.F ht⟩) hS.2.2 hd
  have hin_0 : ∀ w ∈ u_ws RX0 TX0 3, w ∈ wsX0_chooseBest := by decide +kernel
  have hin_6 : ∀ w ∈ u_ws RX6 TX6 3, w ∈ wsX0_chooseBest := by decide +kernel
  have fl_14 := hts (.fieldLink RX0 14 "MileRoad$Game" "above" "LMileRoad$Row;") (by decide +kernel)
  have fl_20 := hts (.fieldLink RX0 20 "MileRoad$Game" "below" "LMileRoad$Row;") (by decide +kernel)
  have fl_32 := hE.f 13 rfl ([.ref o, .ref a1, .int a2, .int a3] : List Value).toArray
  have fl_56 := hE.f 14 rfl ([.ref o, .ref a1, .int a2, .int a3] : List Value).toArray
  have zl_0 : (0 : Int32).toInt = 0 := by decide
  have zl_1 : (1 : Int32).toInt = 1 := by decide
  have hF : fX0_chooseBest a2 a3 o_sent_f o_above_f o_below_f a1_walkers a1_steps a1_places_f = fX0_chooseBest a2 a3 o_sent_f o_above_f o_below_f a1_walkers a1_steps a1_places_f := rfl
  have L_11 : ∀ (n : Nat) (o_above_a_f_11 : Nat → Int32) (o_below_a_f_11 : Nat → Int32) (o_sent_a_f_11 : Nat → Int32) (v11_4 : Int32) (h1_11 : 0 ≤ v11_4.toInt) (h2_11 : v11_4.toInt ≤ 6) (hm : 6 - v11_4.toInt < (n : Int)) (H : Heap) (locs : List Loc) (ls : Array Slot) (hl : lv_has ls 7 [(0, .ref o), (1, .ref a1), (2, .int a2), (3, .int a3), (4, .int v11_4)]) (hP : va_P D vwCl [(o, .inr (0, [.ref o_above, .ref o_below, .ref o_sent])), (o_sent, .inr (4, [.ref o_sent_a])), (o_sent_a, .inl (cI, 64, .inl o_sent_a_f_11)), (o_above, .inr (4, [.ref o_above_a])), (o_above_a, .inl (cI, 64, .inl o_above_a_f_11)), (o_below, .inr (4, [.ref o_below_a])), (o_below_a, .inl (cI, 64, .inl o_below_a_f_11)), (a1, .inr (6, [.ref a1_places, .int a1_walkers, .int a1_steps])), (a1_places, .inr (4, [.ref a1_places_a])), (a1_places_a, .inl (cI, 6, .inl a1_places_f))] H) (hD : va_D A [(o, .inr (0, [.ref o_above, .ref o_below, .ref o_sent])), (o_sent, .inr (4, [.ref o_sent_a])), (o_sent_a, .inl (cI, 64, .inl o_sent_a_f_11)), (o_above, .inr (4, [.ref o_above_a])), (o_above_a, .inl (cI, 64, .inl o_above_a_f_11)), (o_below, .inr (4, [.ref o_below_a])), (o_below_a, .inl (cI, 64, .inl o_below_a_f_11)), (a1, .inr (6, [.ref a1_places, .int a1_walkers, .int a1_steps])), (a1_places, .inr (4, [.ref a1_places_a])), (a1_places_a, .inl (cI, 6, .inl a1_places_f))]) (hS : va_S A s.heap H locs) (hF : fX0_chooseBest a2 a3 o_sent_f o_above_f o_below_f a1_walkers a1_steps a1_places_f = fX0_chooseBest_11 a2 a3 a1_walkers a1_steps a1_places_f n o_above_a_f_11 o_below_a_f_11 o_sent_a_f_11 v11_4), W p l e ({ frames := 3, cells := 0, slots := 0, locals := 66 } : Room) s m ([.ref o, .ref a1, .int a2, .int a3] : List Value).toArray below meth c H locs 0 0 Q (F0 m 11 ls []) := by
    intro n
    induction n with
    | zero =>
      intro o_above_a_f_11 o_below_a_f_11 o_sent_a_f_11 v11_4 h1_11 h2_11 hm H locs ls hl hP hD hS hF
      exact absurd hm (by omega)
    | succ n ih_11 =>
      intro o_above_a_f_11 o_below_a_f_11 o_sent_a_f_11 v11_4 h1_11 h2_11 hm H locs ls hl hP hD hS hF
      refine lv_iload hx hb dX0_chooseBest_11 (lv_at hl 4 rfl) ?_
      refine lv_aload_n hx hb dX0_chooseBest_13 rfl (lv_at hl 1 rfl) ?_
      refine xgetN hx hb hts hown hK 6 (C2 := RX6) (T := TX6) (N := 3) rfl hin_6 hP 7 rfl 1 (by decide) fl_32 rfl rfl rfl dX0_chooseBest_14 ?_
      refine lv_icmp_ge (tgt := 92) hx hb dX0_chooseBest_17 (by decide) (fun c_1 => ?_) (fun c_1 => ?_)
      · have kc_1 := t_le c_1
        refine lv_aload_n hx hb dX0_chooseBest_92 rfl (lv_at hl 1 rfl) ?_
        refine lv_iload_n hx hb dX0_chooseBest_93 rfl (lv_at hl 2 rfl) ?_
        refine xcalli (S := Unit) (Wc := [(a1, .inr (6, [.ref a1_places, .int a1_walkers, .int a1_steps])), (a1_places, .inr (4, [.ref a1_places_a])), (a1_places_a, .inl (cI, 6, .inl a1_places_f))]) (wr := [(o, .inr (0, [.ref o_above, .ref o_below, .ref o_sent])), (o_sent, .inr (4, [.ref o_sent_a])), (o_sent_a, .inl (cI, 64, .inl o_sent_a_f_11)), (o_above, .inr (4, [.ref o_above_a])), (o_above_a, .inl (cI, 64, .inl o_above_a_f_11)), (o_below, .inr (4, [.ref o_below_a])), (o_below_a, .inl (cI, 64, .inl o_below_a_f_11))]) (W1 := (fun (u : Unit) => [(a1, .inr (6, [.ref a1_places, .int a1_walkers, .int a1_steps])), (a1_places, .inr (4, [.ref a1_places_a])), (a1_places_a, .inl (cI, 6, .inl a1_places_f))])) (Wn := (fun (u : Unit) => [(o, .inr (0, [.ref o_above, .ref o_below, .ref o_sent])), (o_sent, .inr (4, [.ref o_sent_a])), (o_sent_a, .inl (cI, 64, .inl o_sent_a_f_11)), (o_above, .inr (4, [.ref o_above_a])), (o_above_a, .inl (cI, 64, .inl o_above_a_f_11)), (o_below, .inr (4, [.ref o_below_a])), (o_below_a, .inl (cI, 64, .inl o_below_a_f_11)), (a1, .inr (6, [.ref a1_places, .int a1_walkers, .int a1_steps])), (a1_places, .inr (4, [.ref a1_places_a])), (a1_places_a, .inl (cI, 6, .inl a1_places_f))])) (xrunV hx hb hml hown hts (c_X6_numberOf l D cI cZ _ a1 a2 a1_places a1_walkers a1_steps a1_places_a a1_places_f hw6) (cwV 1 hts gX0_chooseBest_X6_numberOf rfl rfl rfl (by decide +kernel) ⟨Nat.le_of_ble_eq_true rfl, Nat.le_of_ble_eq_true rfl⟩) hE hK hP hD [7, 8, 9] rfl rfl 0 6 (T := TX6) (N := 3) rfl rfl rfl hl.1 rfl (Nat.le_of_ble_eq_true rfl) dX0_chooseBest_94 ⟨Nat.le_of_ble_eq_true rfl, Nat.le_of_ble_eq_true rfl⟩) hP hD hS hA [7, 8, 9] [0, 1, 2, 3, 4, 5, 6] [0, 1, 2, 3, 4, 5, 6, 7, 8, 9] rfl rfl rfl (by decide) (fun _ => rfl) rfl (fun r4 u H locs hw hz hP hD hS => ?_)
        subst hw
        refine lv_istore (lv' := [(4, .int (fX6_numberOf a2 a1_walkers a1_places_f)), (0, .ref o), (1, .ref a1), (2, .int a2), (3, .int a3)]) hx hb dX0_chooseBest_97 hl (by decide) rfl (fun ls hl => ?_)
        refine lv_iload hx hb dX0_chooseBest_99 (lv_at hl 0 rfl) ?_
        have K_y_1 : ∀ (y_1 : Int32) (hy_y_1 : (if (fX6_numberOf a2 a1_walkers a1_places_f) = 0 then a1_steps else (fX6_sumOf a2 a1_walkers a1_places_f)) = y_1) (H : Heap) (locs : List Loc) (hP : va_P D vwCl [(o, .inr (0, [.ref o_above, .ref o_below, .ref o_sent])), (o_sent, .inr (4, [.ref o_sent_a])), (o_sent_a, .inl (cI, 64, .inl o_sent_a_f_11)), (o_above, .inr (4, [.ref o_above_a])), (o_above_a, .inl (cI, 64, .inl o_above_a_f_11)), (o_below, .inr (4, [.ref o_below_a])), (o_below_a, .inl (cI, 64, .inl o_below_a_f_11)), (a1, .inr (6, [.ref a1_places, .int a1_walkers, .int a1_steps])), (a1_places, .inr (4, [.ref a1_places_a])), (a1_places_a, .inl (cI, 6, .inl a1_places_f))] H) (hD : va_D A [(o, .inr (0, [.ref o_above, .ref o_below, .ref o_sent])), (o_sent, .inr (4, [.ref o_sent_a])), (o_sent_a, .inl (cI, 64, .inl o_sent_a_f_11)), (o_above, .inr (4, [.ref o_above_a])), (o_above_a, .inl (cI, 64, .inl o_above_a_f_11)), (o_below, .inr (4, [.ref o_below_a])), (o_below_a, .inl (cI, 64, .inl o_below_a_f_11)), (a1, .inr (6, [.ref a1_places, .int a1_walkers, .int a1_steps])), (a1_places, .inr (4, [.ref a1_places_a])), (a1_places_a, .inl (cI, 6, .inl a1_places_f))]) (hS : va_S A s.heap H locs), W p l e ({ frames := 3, cells := 0, slots := 0, locals := 66 } : Room) s m ([.ref o, .ref a1, .int a2, .int a3] : List Value).toArray below meth c H locs 0 0 Q (F0 m 116 ls [.int y_1]) := by
          intro y_1 hy_y_1 H locs hP hD hS
          have ky_y_1 : y_1 = (fX6_sumOf a2 a1_walkers a1_places_f) ∨ y_1 = a1_steps := by rw [← hy_y_1]; (repeat' split) <;> simp
          refine lv_istore (lv' := [(5, .int y_1), (4, .int (fX6_numberOf a2 a1_walkers a1_places_f)), (0, .ref o), (1, .ref a1), (2, .int a2), (3, .int a3)]) hx hb dX0_chooseBest_116 hl (by decide) rfl (fun ls hl => ?_)
          refine lv_iload hx hb dX0_chooseBest_118 (lv_at hl 1 rfl) ?_
          have K_y_2 : ∀ (y_2 : Int32) (hy_y_2 : (if (fX6_numberOf a2 a1_walkers a1_places_f) = 0 then 1 else (fX6_numberOf a2 a1_walkers a1_places_f)) = y_2) (H : Heap) (locs : List Loc) (hP : va_P D vwCl [(o, .inr (0, [.ref o_above, .ref o_below, .ref o_sent])), (o_sent, .inr (4, [.ref o_sent_a])), (o_sent_a, .inl (cI, 64, .inl o_sent_a_f_11)), (o_above, .inr (4, [.ref o_above_a])), (o_above_a, .inl (cI, 64, .inl o_above_a_f_11)), (o_below, .inr (4, [.ref o_below_a])), (o_below_a, .inl (cI, 64, .inl o_below_a_f_11)), (a1, .inr (6, [.ref a1_places, .int a1_walkers, .int a1_steps])), (a1_places, .inr (4, [.ref a1_places_a])), (a1_places_a, .inl (cI, 6, .inl a1_places_f))] H) (hD : va_D A [(o, .inr (0, [.ref o_above, .ref o_below, .ref o_sent])), (o_sent, .inr (4, [.ref o_sent_a])), (o_sent_a, .inl (cI, 64, .inl o_sent_a_f_11)), (o_above, .inr (4, [.ref o_above_a])), (o_above_a, .inl (cI, 64, .inl o_above_a_f_11)), (o_below, .inr (4, [.ref o_below_a])), (o_below_a, .inl (cI, 64, .inl o_below_a_f_11)), (a1, .inr (6, [.ref a1_places, .int a1_walkers, .int a1_steps])), (a1_places, .inr (4, [.ref a1_places_a])), (a1_places_a, .inl (cI, 6, .inl a1_places_f))]) (hS : va_S A s.heap H locs), W p l e ({ frames := 3, cells := 0, slots := 0, locals := 66 } : Room) s m ([.ref o, .ref a1, .int a2, .int a3] : List Value).toArray below meth c H locs 0 0 Q (F0 m 129 ls [.int y_2]) := by
            intro y_2 hy_y_2 H locs hP hD hS
            have ky_y_2 : y_2 = (fX6_numberOf a2 a1_walkers a1_places_f) ∨ y_2 = 1 := by rw [← hy_y_2]; (repeat' split) <;> simp
            refine lv_istore (lv' := [(6, .int y_2), (5, .int y_1), (4, .int (fX6_numberOf a2 a1_walkers a1_places_f)), (0, .ref o), (1, .ref a1), (2, .int a2), (3, .int a3)]) hx hb dX0_chooseBest_129 hl (by decide) rfl (fun ls hl => ?_)
            refine lv_aload_n hx hb dX0_chooseBest_131 rfl (lv_at hl 3 rfl) ?_
            refine lv_iload hx hb dX0_chooseBest_132 (lv_at hl 1 rfl) ?_
            refine lv_iload hx hb dX0_chooseBest_134 (lv_at hl 0 rfl) ?_
            refine lv_iload_n hx hb dX0_chooseBest_136 rfl (lv_at hl 5 rfl) ?_
            refine lv_iload_n hx hb dX0_chooseBest_137 rfl (lv_at hl 6 rfl) ?_
            refine xcalli (S := Unit) (Wc := [(o, .inr (0, [.ref o_above, .ref o_below, .ref o_sent])), (o_below, .inr (4, [.ref o_below_a])), (o_below_a, .inl (cI, 64, .inl o_below_a_f_11)), (o_above, .inr (4, [.ref o_above_a])), (o_above_a, .inl (cI, 64, .inl o_above_a_f_11))]) (wr := [(o_sent, .inr (4, [.ref o_sent_a])), (o_sent_a, .inl (cI, 64, .inl o_sent_a_f_11)), (a1, .inr (6, [.ref a1_places, .int a1_walkers, .int a1_steps])), (a1_places, .inr (4, [.ref a1_places_a])), (a1_places_a, .inl (cI, 6, .inl a1_places_f))]) (W1 := (fun (u : Unit) => [(o, .inr (0, [.ref o_above, .ref o_below, .ref o_sent])), (o_below, .inr (4, [.ref o_below_a])), (o_below_a, .inl (cI, 64, .inl o_below_a_f_11)), (o_above, .inr (4, [.ref o_above_a])), (o_above_a, .inl (cI, 64, .inl o_above_a_f_11))])) (Wn := (fun (u : Unit) => [(o, .inr (0, [.ref o_above, .ref o_below, .ref o_sent])), (o_sent, .inr (4, [.ref o_sent_a])), (o_sent_a, .inl (cI, 64, .inl o_sent_a_f_11)), (o_above, .inr (4, [.ref o_above_a])), (o_above_a, .inl (cI, 64, .inl o_above_a_f_11)), (o_below, .inr (4, [.ref o_below_a])), (o_below_a, .inl (cI, 64, .inl o_below_a_f_11)), (a1, .inr (6, [.ref a1_places, .int a1_walkers, .int a1_steps])), (a1_places, .inr (4, [.ref a1_places_a])), (a1_places_a, .inl (cI, 6, .inl a1_places_f))])) (xrunV hx hb hml hown hts (c_X0_isBetter l D cI cZ _ o y_1 y_2 a2 a3 o_above o_below o_sent o_below_a o_below_a_f_11 o_above_a o_above_a_f_11 ) (cwV 4 hts gX0_chooseBest_X0_isBetter rfl rfl rfl (by decide +kernel) ⟨Nat.le_of_ble_eq_true rfl, Nat.le_of_ble_eq_true rfl⟩) hE hK hP hD [0, 5, 6, 3, 4] rfl rfl 0 0 (T := TX0) (N := 3) rfl rfl rfl hl.1 rfl (Nat.le_of_ble_eq_true rfl) dX0_chooseBest_138 ⟨Nat.le_of_ble_eq_true rfl, Nat.le_of_ble_eq_true rfl⟩) hP hD hS hA [0, 5, 6, 3, 4] [1, 2, 7, 8, 9] [5, 0, 1, 8, 9, 6, 7, 2, 3, 4] rfl rfl rfl (by decide) (fun _ => rfl) rfl (fun r6 u H locs hw hz hP hD hS => ?_)
            subst hw
            refine lv_if_eq (tgt := 154) hx hb dX0_chooseBest_141 (by decide) (fun c_4 => ?_) (fun c_4 => ?_)
            · exact hret _ _ _ _ (o_sent_a_f_11, o_above_a_f_11, o_below_a_f_11) dX0_chooseBest_154 ((hF.trans (by simp only [fX0_chooseBest_11, xlet, if_pos c_1, ↓hy_y_1, ↓hy_y_2, if_pos c_4])).symm) hP hD hS
            · refine lv_aload_n hx hb dX0_chooseBest_144 rfl (lv_at hl 3 rfl) ?_
              refine lv_iload_n hx hb dX0_chooseBest_145 rfl (lv_at hl 5 rfl) ?_
              refine lv_iconst (v := (-1)) hx hb dX0_chooseBest_146 (by decide) ?_
              refine lv_iload hx hb dX0_chooseBest_147 (lv_at hl 1 rfl) ?_
              refine lv_iload hx hb dX0_chooseBest_149 (lv_at hl 0 rfl) ?_
              refine xcallv (S := (Nat → Int32) × (Nat → Int32) × (Nat → Int32)) (Wc := [(o, .inr (0, [.ref o_above, .ref o_below, .ref o_sent])), (o_sent, .inr (4, [.ref o_sent_a])), (o_sent_a, .inl (cI, 64, .inl o_sent_a_f_11)), (o_above, .inr (4, [.ref o_above_a])), (o_above_a, .inl (cI, 64, .inl o_above_a_f_11)), (o_below, .inr (4, [.ref o_below_a])), (o_below_a, .inl (cI, 64, .inl o_below_a_f_11))]) (wr := [(a1, .inr (6, [.ref a1_places, .int a1_walkers, .int a1_steps])), (a1_places, .inr (4, [.ref a1_places_a])), (a1_places_a, .inl (cI, 6, .inl a1_places_f))]) (W1 := (fun (u : (Nat → Int32) × (Nat → Int32) × (Nat → Int32)) => [(o, .inr (0, [.ref o_above, .ref o_below, .ref o_sent])), (o_sent, .inr (4, [.ref o_sent_a])), (o_sent_a, .inl (cI, 64, .inl u.1)), (o_above, .inr (4, [.ref o_above_a])), (o_above_a, .inl (cI, 64, .inl u.2.1)), (o_below, .inr (4, [.ref o_below_a])), (o_below_a, .inl (cI, 64, .inl u.2.2))])) (Wn := (fun (u : (Nat → Int32) × (Nat → Int32) × (Nat → Int32)) => [(o, .inr (0, [.ref o_above, .ref o_below, .ref o_sent])), (o_sent, .inr (4, [.ref o_sent_a])), (o_sent_a, .inl (cI, 64, .inl u.1)), (o_above, .inr (4, [.ref o_above_a])), (o_above_a, .inl (cI, 64, .inl u.2.1)), (o_below, .inr (4, [.ref o_below_a])), (o_below_a, .inl (cI, 64, .inl u.2.2)), (a1, .inr (6, [.ref a1_places, .int a1_walkers, .int a1_steps])), (a1_places, .inr (4, [.ref a1_places_a])), (a1_places_a, .inl (cI, 6, .inl a1_places_f))])) (xrunV hx hb hml hown hts (c_X0_settle l D cI cZ _ o a2 (-1) y_1 y_2 o_above o_below o_sent o_sent_a o_sent_a_f_11 o_above_a o_above_a_f_11 o_below_a o_below_a_f_11 ) (cwV 4 hts gX0_chooseBest_X0_settle rfl rfl rfl (by decide +kernel) ⟨Nat.le_of_ble_eq_true rfl, Nat.le_of_ble_eq_true rfl⟩) hE hK hP hD [0, 1, 2, 3, 4, 5, 6] rfl rfl 0 0 (T := TX0) (N := 3) rfl rfl rfl hl.1 rfl (Nat.le_of_ble_eq_true rfl) dX0_chooseBest_151 ⟨Nat.le_of_ble_eq_true rfl, Nat.le_of_ble_eq_true rfl⟩) hP hD hS hA [0, 1, 2, 3, 4, 5, 6] [7, 8, 9] [3, 4, 5, 6, 7, 8, 9, 0, 1, 2] rfl rfl rfl (by decide) (fun _ => rfl) rfl (fun  u H locs hw hz hP hD hS => ?_)
              obtain ⟨u7, u8, u9⟩ := u
              have hw_12 := hw.symm
              have hP : va_P D vwCl [(o, .inr (0, [.ref o_above, .ref o_below, .ref o_sent])), (o_sent, .inr (4, [.ref o_sent_a])), (o_sent_a, .inl (cI, 64, .inl u7)), (o_above, .inr (4, [.ref o_above_a])), (o_above_a, .inl (cI, 64, .inl u8)), (o_below, .inr (4, [.ref o_below_a])), (o_below_a, .inl (cI, 64, .inl u9)), (a1, .inr (6, [.ref a1_places, .int a1_walkers, .int a1_steps])), (a1_places, .inr (4, [.ref a1_places_a])), (a1_places_a, .inl (cI, 6, .inl a1_places_f))] H := hP
              have hD : va_D A [(o, .inr (0, [.ref o_above, .ref o_below, .ref o_sent])), (o_sent, .inr (4, [.ref o_sent_a])), (o_sent_a, .inl (cI, 64, .inl u7)), (o_above, .inr (4, [.ref o_above_a])), (o_above_a, .inl (cI, 64, .inl u8)), (o_below, .inr (4, [.ref o_below_a])), (o_below_a, .inl (cI, 64, .inl u9)), (a1, .inr (6, [.ref a1_places, .int a1_walkers, .int a1_steps])), (a1_places, .inr (4, [.ref a1_places_a])), (a1_places_a, .inl (cI, 6, .inl a1_places_f))] := hD
              exact hret _ _ _ _ (u7, u8, u9) dX0_chooseBest_154 ((hF.trans (by simp only [fX0_chooseBest_11, xlet, if_pos c_1, ↓hy_y_1, ↓hy_y_2, if_neg c_4, ↓hw_12])).symm) hP hD hS
          refine lv_if_ne (tgt := 127) hx hb dX0_chooseBest_120 (by decide) (fun c_3 => ?_) (fun c_3 => ?_)
          · refine lv_iload hx hb dX0_chooseBest_127 (lv_at hl 1 rfl) ?_
            exact K_y_2 _ (by simp only [xlet, if_neg c_3]) _ _ hP hD hS
          · refine lv_iconst (v := 1) hx hb dX0_chooseBest_123 (by decide) ?_
            refine lv_goto (tgt := 129) hx hb dX0_chooseBest_124 (by decide) ?_
            exact K_y_2 _ (by simp only [xlet, if_pos c_3]) _ _ hP hD hS
        refine lv_if_ne (tgt := 111) hx hb dX0_chooseBest_101 (by decide) (fun c_2 => ?_) (fun c_2 => ?_)
        · refine lv_aload_n hx hb dX0_chooseBest_111 rfl (lv_at hl 2 rfl) ?_
          refine lv_iload_n hx hb dX0_chooseBest_112 rfl (lv_at hl 3 rfl) ?_
          refine xcalli (S := Unit) (Wc := [(a1, .inr (6, [.ref a1_places, .int a1_walkers, .int a1_steps])), (a1_places, .inr (4, [.ref a1_places_a])), (a1_places_a, .inl (cI, 6, .inl a1_places_f))]) (wr := [(o, .inr (0, [.ref o_above, .ref o_below, .ref o_sent])), (o_sent, .inr (4, [.ref o_sent_a])), (o_sent_a, .inl (cI, 64, .inl o_sent_a_f_11)), (o_above, .inr (4, [.ref o_above_a])), (o_above_a, .inl (cI, 64, .inl o_above_a_f_11)), (o_below, .inr (4, [.ref o_below_a])), (o_below_a, .inl (cI, 64, .inl o_below_a_f_11))]) (W1 := (fun (u : Unit) => [(a1, .inr (6, [.ref a1_places, .int a1_walkers, .int a1_steps])), (a1_places, .inr (4, [.ref a1_places_a])), (a1_places_a, .inl (cI, 6, .inl a1_places_f))])) (Wn := (fun (u : Unit) => [(o, .inr (0, [.ref o_above, .ref o_below, .ref o_sent])), (o_sent, .inr (4, [.ref o_sent_a])), (o_sent_a, .inl (cI, 64, .inl o_sent_a_f_11)), (o_above, .inr (4, [.ref o_above_a])), (o_above_a, .inl (cI, 64, .inl o_above_a_f_11)), (o_below, .inr (4, [.ref o_below_a])), (o_below_a, .inl (cI, 64, .inl o_below_a_f_11)), (a1, .inr (6, [.ref a1_places, .int a1_walkers, .int a1_steps])), (a1_places, .inr (4, [.ref a1_places_a])), (a1_places_a, .inl (cI, 6, .inl a1_places_f))])) (xrunV hx hb hml hown hts (c_X6_sumOf l D cI cZ _ a1 a2 a1_places a1_walkers a1_steps a1_places_a a1_places_f hw6) (cwV 1 hts gX0_chooseBest_X6_sumOf rfl rfl rfl (by decide +kernel) ⟨Nat.le_of_ble_eq_true rfl, Nat.le_of_ble_eq_true rfl⟩) hE hK hP hD [7, 8, 9] rfl rfl 0 6 (T := TX6) (N := 3) rfl rfl rfl hl.1 rfl (Nat.le_of_ble_eq_true rfl) dX0_chooseBest_113 ⟨Nat.le_of_ble_eq_true rfl, Nat.le_of_ble_eq_true rfl⟩) hP hD hS hA [7, 8, 9] [0, 1, 2, 3, 4, 5, 6] [0, 1, 2, 3, 4, 5, 6, 7, 8, 9] rfl rfl rfl (by decide) (fun _ => rfl) rfl (fun r5 u H locs hw hz hP hD hS => ?_)
          subst hw
          exact K_y_1 _ (by simp only [xlet, if_neg c_2]) _ _ hP hD hS
        · refine lv_aload_n hx hb dX0_chooseBest_104 rfl (lv_at hl 2 rfl) ?_
          refine xgetN hx hb hts hown hK 6 (C2 := RX6) (T := TX6) (N := 3) rfl hin_6 hP 7 rfl 2 (by decide) fl_56 rfl rfl rfl dX0_chooseBest_105 ?_
          refine lv_goto (tgt := 116) hx hb dX0_chooseBest_108 (by decide) ?_
          exact K_y_1 _ (by simp only [xlet, if_pos c_2]) _ _ hP hD hS
      · have kc_1 := t_nle c_1
        refine lv_iload_n hx hb dX0_chooseBest_20 rfl (lv_at hl 2 rfl) ?_
        refine lv_iconst (v := 1) hx hb dX0_chooseBest_21 (by decide) ?_
        refine lv_iload hx hb dX0_chooseBest_22 (lv_at hl 4 rfl) ?_
        refine lv_ishl hx hb dX0_chooseBest_24 ?_
        refine lv_ior hx hb dX0_chooseBest_25 ?_
        refine lv_istore (lv' := [(5, .int (a2 ||| ((1 : Int32) <<< (v11_4 &&& 31)))), (0, .ref o), (1, .ref a1), (2, .int a2), (3, .int a3), (4, .int v11_4)]) hx hb dX0_chooseBest_26 hl (by decide) rfl (fun ls hl => ?_)
        refine lv_iload hx hb dX0_chooseBest_28 (lv_at hl 0 rfl) ?_
        refine lv_iload_n hx hb dX0_chooseBest_30 rfl (lv_at hl 3 rfl) ?_
        refine lv_icmp_eq (tgt := 86) hx hb dX0_chooseBest_31 (by decide) (fun c_5 => ?_) (fun c_5 => ?_)
        · refine lv_iinc (v := (v11_4 + 1)) (lv' := [(4, .int (v11_4 + 1)), (5, .int (a2 ||| ((1 : Int32) <<< (v11_4 &&& 31)))), (0, .ref o), (1, .ref a1), (2, .int a2), (3, .int a3)]) hx hb dX0_chooseBest_86 hl (k := 5) rfl (by rfl) (by decide) rfl (fun ls hl => ?_)
          refine lv_goto (tgt := 11) hx hb dX0_chooseBest_89 (by decide) ?_
          have z_1 : (v11_4 + 1).toInt = v11_4.toInt + (1 : Int32).toInt := z_add (by omega) (by omega)
          exact ih_11 o_above_a_f_11 o_below_a_f_11 o_sent_a_f_11 (v11_4 + 1) (by first | assumption | omega | decide | (split <;> rename_i hh <;> first | (have h9 := t_nlt hh; omega) | (have h9 := t_lt hh; omega) | (have h9 := t_nle hh; omega) | (have h9 := t_le hh; omega))) (by first | assumption | omega | decide | (split <;> rename_i hh <;> first | (have h9 := t_nlt hh; omega) | (have h9 := t_lt hh; omega) | (have h9 := t_nle hh; omega) | (have h9 := t_le hh; omega))) (by first | assumption | omega | decide | (split <;> rename_i hh <;> first | (have h9 := t_nlt hh; omega) | (have h9 := t_lt hh; omega) | (have h9 := t_nle hh; omega) | (have h9 := t_le hh; omega))) _ _ _ (lv_sub hl [2, 3, 4, 5, 0] rfl) hP hD hS (hF.trans (by simp only [fX0_chooseBest_11, xlet, if_neg c_1, if_pos c_5]))
        · refine lv_aload_n hx hb dX0_chooseBest_34 rfl (lv_at hl 1 rfl) ?_
          refine lv_aload_n hx hb dX0_chooseBest_35 rfl (lv_at hl 1 rfl) ?_
          refine xget hx hb hts hown hK 0 (C2 := RX0) (T := TX0) (N := 3) rfl hin_0 hP 0 rfl 0 (by decide) fl_14 rfl rfl rfl dX0_chooseBest_36 ?_
          refine lv_iload hx hb dX0_chooseBest_39 (lv_at hl 0 rfl) ?_
          refine xcalli (S := Unit) (Wc := [(o_above, .inr (4, [.ref o_above_a])), (o_above_a, .inl (cI, 64, .inl o_above_a_f_11))]) (wr := [(o, .inr (0, [.ref o_above, .ref o_below, .ref o_sent])), (o_sent, .inr (4, [.ref o_sent_a])), (o_sent_a, .inl (cI, 64, .inl o_sent_a_f_11)), (o_below, .inr (4, [.ref o_below_a])), (o_below_a, .inl (cI, 64, .inl o_below_a_f_11)), (a1, .inr (6, [.ref a1_places, .int a1_walkers, .int a1_steps])), (a1_places, .inr (4, [.ref a1_places_a])), (a1_places_a, .inl (cI, 6, .inl a1_places_f))]) (W1 := (fun (u : Unit) => [(o_above, .inr (4, [.ref o_above_a])), (o_above_a, .inl (cI, 64, .inl o_above_a_f_11))])) (Wn := (fun (u : Unit) => [(o, .inr (0, [.ref o_above, .ref o_below, .ref o_sent])), (o_sent, .inr (4, [.ref o_sent_a])), (o_sent_a, .inl (cI, 64, .inl o_sent_a_f_11)), (o_above, .inr (4, [.ref o_above_a])), (o_above_a, .inl (cI, 64, .inl o_above_a_f_11)), (o_below, .inr (4, [.ref o_below_a])), (o_below_a, .inl (cI, 64, .inl o_below_a_f_11)), (a1, .inr (6, [.ref a1_places, .int a1_walkers, .int a1_steps])), (a1_places, .inr (4, [.ref a1_places_a])), (a1_places_a, .inl (cI, 6, .inl a1_places_f))])) (xrunV hx hb hml hown hts (c_X4_at l D cI cZ _ o_above (a2 ||| ((1 : Int32) <<< (v11_4 &&& 31))) o_above_a o_above_a_f_11 64 (by decide)) (cwV 1 hts gX0_chooseBest_X4_at rfl rfl rfl (by decide +kernel) ⟨Nat.le_of_ble_eq_true rfl, Nat.le_of_ble_eq_true rfl⟩) hE hK hP hD [3, 4] rfl rfl 0 4 (T := TX4) (N := 1) rfl rfl rfl hl.1 rfl (Nat.le_of_ble_eq_true rfl) dX0_chooseBest_41 ⟨Nat.le_of_ble_eq_true rfl, Nat.le_of_ble_eq_true rfl⟩) hP hD hS hA [3, 4] [0, 1, 2, 5, 6, 7, 8, 9] [0, 1, 2, 8, 9, 3, 4, 5, 6, 7] rfl rfl rfl (by decide) (fun _ => rfl) rfl (fun r10 u H locs hw hz hP hD hS => ?_)
          subst hw
          refine lv_aload_n hx hb dX0_chooseBest_44 rfl (lv_at hl 1 rfl) ?_
          refine xget hx hb hts hown hK 0 (C2 := RX0) (T := TX0) (N := 3) rfl hin_0 hP 0 rfl 1 (by decide) fl_20 rfl rfl rfl dX0_chooseBest_45 ?_
          refine lv_iload hx hb dX0_chooseBest_48 (lv_at hl 0 rfl) ?_
          refine xcalli (S := Unit) (Wc := [(o_below, .inr (4, [.ref o_below_a])), (o_below_a, .inl (cI, 64, .inl o_below_a_f_11))]) (wr := [(o, .inr (0, [.ref o_above, .ref o_below, .ref o_sent])), (o_sent, .inr (4, [.ref o_sent_a])), (o_sent_a, .inl (cI, 64, .inl o_sent_a_f_11)), (o_above, .inr (4, [.ref o_above_a])), (o_above_a, .inl (cI, 64, .inl o_above_a_f_11)), (a1, .inr (6, [.ref a1_places, .int a1_walkers, .int a1_steps])), (a1_places, .inr (4, [.ref a1_places_a])), (a1_places_a, .inl (cI, 6, .inl a1_places_f))]) (W1 := (fun (u : Unit) => [(o_below, .inr (4, [.ref o_below_a])), (o_below_a, .inl (cI, 64, .inl o_below_a_f_11))])) (Wn := (fun (u : Unit) => [(o, .inr (0, [.ref o_above, .ref o_below, .ref o_sent])), (o_sent, .inr (4, [.ref o_sent_a])), (o_sent_a, .inl (cI, 64, .inl o_sent_a_f_11)), (o_above, .inr (4, [.ref o_above_a])), (o_above_a, .inl (cI, 64, .inl o_above_a_f_11)), (o_below, .inr (4, [.ref o_below_a])), (o_below_a, .inl (cI, 64, .inl o_below_a_f_11)), (a1, .inr (6, [.ref a1_places, .int a1_walkers, .int a1_steps])), (a1_places, .inr (4, [.ref a1_places_a])), (a1_places_a, .inl (cI, 6, .inl a1_places_f))])) (xrunV hx hb hml hown hts (c_X4_at l D cI cZ _ o_below (a2 ||| ((1 : Int32) <<< (v11_4 &&& 31))) o_below_a o_below_a_f_11 64 (by decide)) (cwV 1 hts gX0_chooseBest_X4_at rfl rfl rfl (by decide +kernel) ⟨Nat.le_of_ble_eq_true rfl, Nat.le_of_ble_eq_true rfl⟩) hE hK hP hD [5, 6] rfl rfl 0 4 (T := TX4) (N := 1) rfl rfl rfl hl.1 rfl (Nat.le_of_ble_eq_true rfl) dX0_chooseBest_50 ⟨Nat.le_of_ble_eq_true rfl, Nat.le_of_ble_eq_true rfl⟩) hP hD hS hA [5, 6] [0, 1, 2, 3, 4, 7, 8, 9] [0, 1, 2, 3, 4, 8, 9, 5, 6, 7] rfl rfl rfl (by decide) (fun _ => rfl) rfl (fun r11 u H locs hw hz hP hD hS => ?_)
          subst hw
          refine lv_iload_n hx hb dX0_chooseBest_53 rfl (lv_at hl 3 rfl) ?_
          refine lv_iload_n hx hb dX0_chooseBest_54 rfl (lv_at hl 4 rfl) ?_
          refine xcalli (S := Unit) (Wc := [(o, .inr (0, [.ref o_above, .ref o_below, .ref o_sent])), (o_below, .inr (4, [.ref o_below_a])), (o_below_a, .inl (cI, 64, .inl o_below_a_f_11)), (o_above, .inr (4, [.ref o_above_a])), (o_above_a, .inl (cI, 64, .inl o_above_a_f_11))]) (wr := [(o_sent, .inr (4, [.ref o_sent_a])), (o_sent_a, .inl (cI, 64, .inl o_sent_a_f_11)), (a1, .inr (6, [.ref a1_places, .int a1_walkers, .int a1_steps])), (a1_places, .inr (4, [.ref a1_places_a])), (a1_places_a, .inl (cI, 6, .inl a1_places_f))]) (W1 := (fun (u : Unit) => [(o, .inr (0, [.ref o_above, .ref o_below, .ref o_sent])), (o_below, .inr (4, [.ref o_below_a])), (o_below_a, .inl (cI, 64, .inl o_below_a_f_11)), (o_above, .inr (4, [.ref o_above_a])), (o_above_a, .inl (cI, 64, .inl o_above_a_f_11))])) (Wn := (fun (u : Unit) => [(o, .inr (0, [.ref o_above, .ref o_below, .ref o_sent])), (o_sent, .inr (4, [.ref o_sent_a])), (o_sent_a, .inl (cI, 64, .inl o_sent_a_f_11)), (o_above, .inr (4, [.ref o_above_a])), (o_above_a, .inl (cI, 64, .inl o_above_a_f_11)), (o_below, .inr (4, [.ref o_below_a])), (o_below_a, .inl (cI, 64, .inl o_below_a_f_11)), (a1, .inr (6, [.ref a1_places, .int a1_walkers, .int a1_steps])), (a1_places, .inr (4, [.ref a1_places_a])), (a1_places_a, .inl (cI, 6, .inl a1_places_f))])) (xrunV hx hb hml hown hts (c_X0_isBetter l D cI cZ _ o (fX4_at (a2 ||| ((1 : Int32) <<< (v11_4 &&& 31))) o_above_a_f_11 64) (fX4_at (a2 ||| ((1 : Int32) <<< (v11_4 &&& 31))) o_below_a_f_11 64) a2 a3 o_above o_below o_sent o_below_a o_below_a_f_11 o_above_a o_above_a_f_11 ) (cwV 4 hts gX0_chooseBest_X0_isBetter rfl rfl rfl (by decide +kernel) ⟨Nat.le_of_ble_eq_true rfl, Nat.le_of_ble_eq_true rfl⟩) hE hK hP hD [0, 5, 6, 3, 4] rfl rfl 0 0 (T := TX0) (N := 3) rfl rfl rfl hl.1 rfl (Nat.le_of_ble_eq_true rfl) dX0_chooseBest_55 ⟨Nat.le_of_ble_eq_true rfl, Nat.le_of_ble_eq_true rfl⟩) hP hD hS hA [0, 5, 6, 3, 4] [1, 2, 7, 8, 9] [5, 0, 1, 8, 9, 6, 7, 2, 3, 4] rfl rfl rfl (by decide) (fun _ => rfl) rfl (fun r12 u H locs hw hz hP hD hS => ?_)
          subst hw
          refine lv_if_eq (tgt := 86) hx hb dX0_chooseBest_58 (by decide) (fun c_6 => ?_) (fun c_6 => ?_)
          · refine lv_iinc (v := (v11_4 + 1)) (lv' := [(4, .int (v11_4 + 1)), (5, .int (a2 ||| ((1 : Int32) <<< (v11_4 &&& 31)))), (0, .ref o), (1, .ref a1), (2, .int a2), (3, .int a3)]) hx hb dX0_chooseBest_86 hl (k := 5) rfl (by rfl) (by decide) rfl (fun ls hl => ?_)
            refine lv_goto (tgt := 11) hx hb dX0_chooseBest_89 (by decide) ?_
            have z_2 : (v11_4 + 1).toInt = v11_4.toInt + (1 : Int32).toInt := z_add (by omega) (by omega)
            exact ih_11 o_above_a_f_11 o_below_a_f_11 o_sent_a_f_11 (v11_4 + 1) (by first | assumption | omega | decide | (split <;> rename_i hh <;> first | (have h9 := t_nlt hh; omega) | (have h9 := t_lt hh; omega) | (have h9 := t_nle hh; omega) | (have h9 := t_le hh; omega))) (by first | assumption | omega | decide | (split <;> rename_i hh <;> first | (have h9 := t_nlt hh; omega) | (have h9 := t_lt hh; omega) | (have h9 := t_nle hh; omega) | (have h9 := t_le hh; omega))) (by first | assumption | omega | decide | (split <;> rename_i hh <;> first | (have h9 := t_nlt hh; omega) | (have h9 := t_lt hh; omega) | (have h9 := t_nle hh; omega) | (have h9 := t_le hh; omega))) _ _ _ (lv_sub hl [2, 3, 4, 5, 0] rfl) hP hD hS (hF.trans (by simp only [fX0_chooseBest_11, xlet, if_neg c_1, if_neg c_5, if_pos c_6]))
          · refine lv_aload_n hx hb dX0_chooseBest_61 rfl (lv_at hl 1 rfl) ?_
            refine lv_iload_n hx hb dX0_chooseBest_62 rfl (lv_at hl 3 rfl) ?_
            refine lv_iload hx hb dX0_chooseBest_63 (lv_at hl 5 rfl) ?_
            refine lv_aload_n hx hb dX0_chooseBest_65 rfl (lv_at hl 1 rfl) ?_
            refine xget hx hb hts hown hK 0 (C2 := RX0) (T := TX0) (N := 3) rfl hin_0 hP 0 rfl 0 (by decide) fl_14 rfl rfl rfl dX0_chooseBest_66 ?_
            refine lv_iload hx hb dX0_chooseBest_69 (lv_at hl 0 rfl) ?_
            refine xcalli (S := Unit) (Wc := [(o_above, .inr (4, [.ref o_above_a])), (o_above_a, .inl (cI, 64, .inl o_above_a_f_11))]) (wr := [(o, .inr (0, [.ref o_above, .ref o_below, .ref o_sent])), (o_sent, .inr (4, [.ref o_sent_a])), (o_sent_a, .inl (cI, 64, .inl o_sent_a_f_11)), (o_below, .inr (4, [.ref o_below_a])), (o_below_a, .inl (cI, 64, .inl o_below_a_f_11)), (a1, .inr (6, [.ref a1_places, .int a1_walkers, .int a1_steps])), (a1_places, .inr (4, [.ref a1_places_a])), (a1_places_a, .inl (cI, 6, .inl a1_places_f))]) (W1 := (fun (u : Unit) => [(o_above, .inr (4, [.ref o_above_a])), (o_above_a, .inl (cI, 64, .inl o_above_a_f_11))])) (Wn := (fun (u : Unit) => [(o, .inr (0, [.ref o_above, .ref o_below, .ref o_sent])), (o_sent, .inr (4, [.ref o_sent_a])), (o_sent_a, .inl (cI, 64, .inl o_sent_a_f_11)), (o_above, .inr (4, [.ref o_above_a])), (o_above_a, .inl (cI, 64, .inl o_above_a_f_11)), (o_below, .inr (4, [.ref o_below_a])), (o_below_a, .inl (cI, 64, .inl o_below_a_f_11)), (a1, .inr (6, [.ref a1_places, .int a1_walkers, .int a1_steps])), (a1_places, .inr (4, [.ref a1_places_a])), (a1_places_a, .inl (cI, 6, .inl a1_places_f))])) (xrunV hx hb hml hown hts (c_X4_at l D cI cZ _ o_above (a2 ||| ((1 : Int32) <<< (v11_4 &&& 31))) o_above_a o_above_a_f_11 64 (by decide)) (cwV 1 hts gX0_chooseBest_X4_at rfl rfl rfl (by decide +kernel) ⟨Nat.le_of_ble_eq_true rfl, Nat.le_of_ble_eq_true rfl⟩) hE hK hP hD [3, 4] rfl rfl 0 4 (T := TX4) (N := 1) rfl rfl rfl hl.1 rfl (Nat.le_of_ble_eq_true rfl) dX0_chooseBest_71 ⟨Nat.le_of_ble_eq_true rfl, Nat.le_of_ble_eq_true rfl⟩) hP hD hS hA [3, 4] [0, 1, 2, 5, 6, 7, 8, 9] [0, 1, 2, 8, 9, 3, 4, 5, 6, 7] rfl rfl rfl (by decide) (fun _ => rfl) rfl (fun r13 u H locs hw hz hP hD hS => ?_)
            subst hw
            refine lv_aload_n hx hb dX0_chooseBest_74 rfl (lv_at hl 1 rfl) ?_
            refine xget hx hb hts hown hK 0 (C2 := RX0) (T := TX0) (N := 3) rfl hin_0 hP 0 rfl 1 (by decide) fl_20 rfl rfl rfl dX0_chooseBest_75 ?_
            refine lv_iload hx hb dX0_chooseBest_78 (lv_at hl 0 rfl) ?_
            refine xcalli (S := Unit) (Wc := [(o_below, .inr (4, [.ref o_below_a])), (o_below_a, .inl (cI, 64, .inl o_below_a_f_11))]) (wr := [(o, .inr (0, [.ref o_above, .ref o_below, .ref o_sent])), (o_sent, .inr (4, [.ref o_sent_a])), (o_sent_a, .inl (cI, 64, .inl o_sent_a_f_11)), (o_above, .inr (4, [.ref o_above_a])), (o_above_a, .inl (cI, 64, .inl o_above_a_f_11)), (a1, .inr (6, [.ref a1_places, .int a1_walkers, .int a1_steps])), (a1_places, .inr (4, [.ref a1_places_a])), (a1_places_a, .inl (cI, 6, .inl a1_places_f))]) (W1 := (fun (u : Unit) => [(o_below, .inr (4, [.ref o_below_a])), (o_below_a, .inl (cI, 64, .inl o_below_a_f_11))])) (Wn := (fun (u : Unit) => [(o, .inr (0, [.ref o_above, .ref o_below, .ref o_sent])), (o_sent, .inr (4, [.ref o_sent_a])), (o_sent_a, .inl (cI, 64, .inl o_sent_a_f_11)), (o_above, .inr (4, [.ref o_above_a])), (o_above_a, .inl (cI, 64, .inl o_above_a_f_11)), (o_below, .inr (4, [.ref o_below_a])), (o_below_a, .inl (cI, 64, .inl o_below_a_f_11)), (a1, .inr (6, [.ref a1_places, .int a1_walkers, .int a1_steps])), (a1_places, .inr (4, [.ref a1_places_a])), (a1_places_a, .inl (cI, 6, .inl a1_places_f))])) (xrunV hx hb hml hown hts (c_X4_at l D cI cZ _ o_below (a2 ||| ((1 : Int32) <<< (v11_4 &&& 31))) o_below_a o_below_a_f_11 64 (by decide)) (cwV 1 hts gX0_chooseBest_X4_at rfl rfl rfl (by decide +kernel) ⟨Nat.le_of_ble_eq_true rfl, Nat.le_of_ble_eq_true rfl⟩) hE hK hP hD [5, 6] rfl rfl 0 4 (T := TX4) (N := 1) rfl rfl rfl hl.1 rfl (Nat.le_of_ble_eq_true rfl) dX0_chooseBest_80 ⟨Nat.le_of_ble_eq_true rfl, Nat.le_of_ble_eq_true rfl⟩) hP hD hS hA [5, 6] [0, 1, 2, 3, 4, 7, 8, 9] [0, 1, 2, 3, 4, 8, 9, 5, 6, 7] rfl rfl rfl (by decide) (fun _ => rfl) rfl (fun r14 u H locs hw hz hP hD hS => ?_)
            subst hw
            refine xcallv (S := (Nat → Int32) × (Nat → Int32) × (Nat → Int32)) (Wc := [(o, .inr (0, [.ref o_above, .ref o_below, .ref o_sent])), (o_sent, .inr (4, [.ref o_sent_a])), (o_sent_a, .inl (cI, 64, .inl o_sent_a_f_11)), (o_above, .inr (4, [.ref o_above_a])), (o_above_a, .inl (cI, 64, .inl o_above_a_f_11)), (o_below, .inr (4, [.ref o_below_a])), (o_below_a, .inl (cI, 64, .inl o_below_a_f_11))]) (wr := [(a1, .inr (6, [.ref a1_places, .int a1_walkers, .int a1_steps])), (a1_places, .inr (4, [.ref a1_places_a])), (a1_places_a, .inl (cI, 6, .inl a1_places_f))]) (W1 := (fun (u : (Nat → Int32) × (Nat → Int32) × (Nat → Int32)) => [(o, .inr (0, [.ref o_above, .ref o_below, .ref o_sent])), (o_sent, .inr (4, [.ref o_sent_a])), (o_sent_a, .inl (cI, 64, .inl u.1)), (o_above, .inr (4, [.ref o_above_a])), (o_above_a, .inl (cI, 64, .inl u.2.1)), (o_below, .inr (4, [.ref o_below_a])), (o_below_a, .inl (cI, 64, .inl u.2.2))])) (Wn := (fun (u : (Nat → Int32) × (Nat → Int32) × (Nat → Int32)) => [(o, .inr (0, [.ref o_above, .ref o_below, .ref o_sent])), (o_sent, .inr (4, [.ref o_sent_a])), (o_sent_a, .inl (cI, 64, .inl u.1)), (o_above, .inr (4, [.ref o_above_a])), (o_above_a, .inl (cI, 64, .inl u.2.1)), (o_below, .inr (4, [.ref o_below_a])), (o_below_a, .inl (cI, 64, .inl u.2.2)), (a1, .inr (6, [.ref a1_places, .int a1_walkers, .int a1_steps])), (a1_places, .inr (4, [.ref a1_places_a])), (a1_places_a, .inl (cI, 6, .inl a1_places_f))])) (xrunV hx hb hml hown hts (c_X0_settle l D cI cZ _ o a2 v11_4 (fX4_at (a2 ||| ((1 : Int32) <<< (v11_4 &&& 31))) o_above_a_f_11 64) (fX4_at (a2 ||| ((1 : Int32) <<< (v11_4 &&& 31))) o_below_a_f_11 64) o_above o_below o_sent o_sent_a o_sent_a_f_11 o_above_a o_above_a_f_11 o_below_a o_below_a_f_11 ) (cwV 4 hts gX0_chooseBest_X0_settle rfl rfl rfl (by decide +kernel) ⟨Nat.le_of_ble_eq_true rfl, Nat.le_of_ble_eq_true rfl⟩) hE hK hP hD [0, 1, 2, 3, 4, 5, 6] rfl rfl 0 0 (T := TX0) (N := 3) rfl rfl rfl hl.1 rfl (Nat.le_of_ble_eq_true rfl) dX0_chooseBest_83 ⟨Nat.le_of_ble_eq_true rfl, Nat.le_of_ble_eq_true rfl⟩) hP hD hS hA [0, 1, 2, 3, 4, 5, 6] [7, 8, 9] [3, 4, 5, 6, 7, 8, 9, 0, 1, 2] rfl rfl rfl (by decide) (fun _ => rfl) rfl (fun  u H locs hw hz hP hD hS => ?_)
            obtain ⟨u15, u16, u17⟩ := u
            have hw_27 := hw.symm
            have hP : va_P D vwCl [(o, .inr (0, [.ref o_above, .ref o_below, .ref o_sent])), (o_sent, .inr (4, [.ref o_sent_a])), (o_sent_a, .inl (cI, 64, .inl u15)), (o_above, .inr (4, [.ref o_above_a])), (o_above_a, .inl (cI, 64, .inl u16)), (o_below, .inr (4, [.ref o_below_a])), (o_below_a, .inl (cI, 64, .inl u17)), (a1, .inr (6, [.ref a1_places, .int a1_walkers, .int a1_steps])), (a1_places, .inr (4, [.ref a1_places_a])), (a1_places_a, .inl (cI, 6, .inl a1_places_f))] H := hP
            have hD : va_D A [(o, .inr (0, [.ref o_above, .ref o_below, .ref o_sent])), (o_sent, .inr (4, [.ref o_sent_a])), (o_sent_a, .inl (cI, 64, .inl u15)), (o_above, .inr (4, [.ref o_above_a])), (o_above_a, .inl (cI, 64, .inl u16)), (o_below, .inr (4, [.ref o_below_a])), (o_below_a, .inl (cI, 64, .inl u17)), (a1, .inr (6, [.ref a1_places, .int a1_walkers, .int a1_steps])), (a1_places, .inr (4, [.ref a1_places_a])), (a1_places_a, .inl (cI, 6, .inl a1_places_f))] := hD
            refine lv_iinc (v := (v11_4 + 1)) (lv' := [(4, .int (v11_4 + 1)), (5, .int (a2 ||| ((1 : Int32) <<< (v11_4 &&& 31)))), (0, .ref o), (1, .ref a1), (2, .int a2), (3, .int a3)]) hx hb dX0_chooseBest_86 hl (k := 5) rfl (by rfl) (by decide) rfl (fun ls hl => ?_)
            refine lv_goto (tgt := 11) hx hb dX0_chooseBest_89 (by decide) ?_
            have z_3 : (v11_4 + 1).toInt = v11_4.toInt + (1 : Int32).toInt := z_add (by omega) (by omega)
            exact ih_11 u16 u17 u15 (v11_4 + 1) (by first | assumption | omega | decide | (split <;> rename_i hh <;> first | (have h9 := t_nlt hh; omega) | (have h9 := t_lt hh; omega) | (have h9 := t_nle hh; omega) | (have h9 := t_le hh; omega))) (by first | assumption | omega | decide | (split <;> rename_i hh <;> first | (have h9 := t_nlt hh; omega) | (have h9 := t_lt hh; omega) | (have h9 := t_nle hh; omega) | (have h9 := t_le hh; omega))) (by first | assumption | omega | decide | (split <;> rename_i hh <;> first | (have h9 := t_nlt hh; omega) | (have h9 := t_lt hh; omega) | (have h9 := t_nle hh; omega) | (have h9 := t_le hh; omega))) _ _ _ (lv_sub hl [2, 3, 4, 5, 0] rfl) hP hD hS (hF.trans (by simp only [fX0_chooseBest_11, xlet, if_neg c_1, if_neg c_5, if_neg c_6, ↓hw_27]))
  refine lv_aload_n hx hb dX0_chooseBest_0 rfl (lv_at hl 0 rfl) ?_
  refine lv_iload_n hx hb dX0_chooseBest_1 rfl (lv_at hl 2 rfl) ?_
  refine lv_iconst (v := (-1)) hx hb dX0_chooseBest_2 (by decide) ?_
  refine lv_iconst (v := 0) hx hb dX0_chooseBest_3 (by decide) ?_
  refine lv_iconst (v := 0) hx hb dX0_chooseBest_4 (by decide) ?_
  refine xcallv (S := (Nat → Int32) × (Nat → Int32) × (Nat → Int32)) (Wc := [(o, .inr (0, [.ref o_above, .ref o_below, .ref o_sent])), (o_sent, .inr (4, [.ref o_sent_a])), (o_sent_a, .inl (cI, 64, .inl o_sent_f)), (o_above, .inr (4, [.ref o_above_a])), (o_above_a, .inl (cI, 64, .inl o_above_f)), (o_below, .inr (4, [.ref o_below_a])), (o_below_a, .inl (cI, 64, .inl o_below_f))]) (wr := [(a1, .inr (6, [.ref a1_places, .int a1_walkers, .int a1_steps])), (a1_places, .inr (4, [.ref a1_places_a])), (a1_places_a, .inl (cI, 6, .inl a1_places_f))]) (W1 := (fun (u : (Nat → Int32) × (Nat → Int32) × (Nat → Int32)) => [(o, .inr (0, [.ref o_above, .ref o_below, .ref o_sent])), (o_sent, .inr (4, [.ref o_sent_a])), (o_sent_a, .inl (cI, 64, .inl u.1)), (o_above, .inr (4, [.ref o_above_a])), (o_above_a, .inl (cI, 64, .inl u.2.1)), (o_below, .inr (4, [.ref o_below_a])), (o_below_a, .inl (cI, 64, .inl u.2.2))])) (Wn := (fun (u : (Nat → Int32) × (Nat → Int32) × (Nat → Int32)) => [(o, .inr (0, [.ref o_above, .ref o_below, .ref o_sent])), (o_sent, .inr (4, [.ref o_sent_a])), (o_sent_a, .inl (cI, 64, .inl u.1)), (o_above, .inr (4, [.ref o_above_a])), (o_above_a, .inl (cI, 64, .inl u.2.1)), (o_below, .inr (4, [.ref o_below_a])), (o_below_a, .inl (cI, 64, .inl u.2.2)), (a1, .inr (6, [.ref a1_places, .int a1_walkers, .int a1_steps])), (a1_places, .inr (4, [.ref a1_places_a])), (a1_places_a, .inl (cI, 6, .inl a1_places_f))])) (xrunV hx hb hml hown hts (c_X0_settle l D cI cZ _ o a2 (-1) 0 0 o_above o_below o_sent o_sent_a o_sent_f o_above_a o_above_f o_below_a o_below_f ) (cwV 4 hts gX0_chooseBest_X0_settle rfl rfl rfl (by decide +kernel) ⟨Nat.le_of_ble_eq_true rfl, Nat.le_of_ble_eq_true rfl⟩) hE hK hP hD [0, 1, 2, 3, 4, 5, 6] rfl rfl 0 0 (T := TX0) (N := 3) rfl rfl rfl hl.1 rfl (Nat.le_of_ble_eq_true rfl) dX0_chooseBest_5 ⟨Nat.le_of_ble_eq_true rfl, Nat.le_of_ble_eq_true rfl⟩) hP hD hS hA [0, 1, 2, 3, 4, 5, 6] [7, 8, 9] [3, 4, 5, 6, 7, 8, 9, 0, 1, 2] rfl rfl rfl (by decide) (fun _ => rfl) rfl (fun  u H locs hw hz hP hD hS => ?_)
  obtain ⟨u1, u2, u3⟩ := u
  have hw_1 := hw.symm
  have hP : va_P D vwCl [(o, .inr (0, [.ref o_above, .ref o_below, .ref o_sent])), (o_sent, .inr (4, [.ref o_sent_a])), (o_sent_a, .inl (cI, 64, .inl u1)), (o_above, .inr (4, [.ref o_above_a])), (o_above_a, .inl (cI, 64, .inl u2)), (o_below, .inr (4, [.ref o_below_a])), (o_below_a, .inl (cI, 64, .inl u3)), (a1, .inr (6, [.ref a1_places, .int a1_walkers, .int a1_steps])), (a1_places, .inr (4, [.ref a1_places_a])), (a1_places_a, .inl (cI, 6, .inl a1_places_f))] H := hP
  have hD : va_D A [(o, .inr (0, [.ref o_above, .ref o_below, .ref o_sent])), (o_sent, .inr (4, [.ref o_sent_a])), (o_sent_a, .inl (cI, 64, .inl u1)), (o_above, .inr (4, [.ref o_above_a])), (o_above_a, .inl (cI, 64, .inl u2)), (o_below, .inr (4, [.ref o_below_a])), (o_below_a, .inl (cI, 64, .inl u3)), (a1, .inr (6, [.ref a1_places, .int a1_walkers, .int a1_steps])), (a1_places, .inr (4, [.ref a1_places_a])), (a1_places_a, .inl (cI, 6, .inl a1_places_f))] := hD
  refine lv_iconst (v := 0) hx hb dX0_chooseBest_8 (by decide) ?_
  refine lv_istore (lv' := [(4, .int 0), (0, .ref o), (1, .ref a1), (2, .int a2), (3, .int a3)]) hx hb dX0_chooseBest_9 hl (by decide) rfl (fun ls hl => ?_)
  exact L_11 1000 u2 u3 u1 0 (by first | assumption | omega | decide | (split <;> rename_i hh <;> first | (have h9 := t_nlt hh; omega) | (have h9 := t_lt hh; omega) | (have h9 := t_nle hh; omega) | (have h9 := t_le hh; omega))) (by first | assumption | omega | decide | (split <;> rename_i hh <;> first | (have h9 := t_nlt hh; omega) | (have h9 := t_lt hh; omega) | (have h9 := t_nle hh; omega) | (have h9 := t_le hh; omega))) (by first | assumption | omega | decide | (split <;> rename_i hh <;> first | (have h9 := t_nlt hh; omega) | (have h9 := t_lt hh; omega) | (have h9 := t_nle hh; omega) | (have h9 := t_le hh; omega))) _ _ _ (lv_sub hl [1, 2, 3, 4, 0] rfl) hP hD hS (hF.trans (by simp only [fX0_chooseBest, xlet, ↓hw_1]))
set_option maxRecDepth 20000 in
theorem ggX0_sentFrom_X4_at : GoodIn wsX0_sentFrom wsX4_at := goodIn_r _ [6, 7, 11] (by decide +kernel) (by decide +kernel)
set_option maxRecDepth 20000 in
theorem gX0_sentFrom_X4_at : GoodIn wsX0_sentFrom (wsV RX0 42 RX4 yX4_at wsX4_at) := goodIn_app (goodIn_of _ (by decide +kernel)) ggX0_sentFrom_X4_at
theorem dX0_sentFrom_0 : decode cX0_sentFrom 0 = .ok (.aload_n 0, 1) := by decide +kernel
theorem dX0_sentFrom_1 : decode cX0_sentFrom 1 = .ok (.getfield 23, 3) := by decide +kernel
theorem dX0_sentFrom_4 : decode cX0_sentFrom 4 = .ok (.iload_n 1, 1) := by decide +kernel
theorem dX0_sentFrom_5 : decode cX0_sentFrom 5 = .ok (.invokevirtual 42, 3) := by decide +kernel
theorem dX0_sentFrom_8 : decode cX0_sentFrom 8 = .ok (.ireturn, 1) := by decide +kernel
def fX0_sentFrom (a1 : Int32) (o_sent_f : Nat → Int32) : Int32 := (fX4_at a1 o_sent_f 64)
set_option maxHeartbeats 4000000 in
set_option maxRecDepth 100000 in
theorem c_X0_sentFrom (l : Launch) (D : va_G) (cI cZ : ClassId) (sz : Nat) (o : Nat) (a1 : Int32) (o_above : Nat) (o_below : Nat) (o_sent : Nat) (o_sent_a : Nat) (o_sent_f : Nat → Int32)  : Met l yX0_sentFrom wsX0_sentFrom ({ frames := 1, cells := 0, slots := 0, locals := 21 } : Room) (va_Pc [.ref o, .int a1] (xP D cI cZ [(o, .inr (0, [.ref o_above, .ref o_below, .ref o_sent])), (o_sent, .inr (4, [.ref o_sent_a])), (o_sent_a, .inl (cI, 64, .inl o_sent_f))] sz)) (va_Qi (fun (r : Int32) (u : Unit) => r = fX0_sentFrom a1 o_sent_f) (fun (u : Unit) t => xB D cI cZ [(o, .inr (0, [.ref o_above, .ref o_below, .ref o_sent])), (o_sent, .inr (4, [.ref o_sent_a])), (o_sent_a, .inl (cI, 64, .inl o_sent_f))] (va_A [(o, .inr (0, [.ref o_above, .ref o_below, .ref o_sent])), (o_sent, .inr (4, [.ref o_sent_a])), (o_sent_a, .inl (cI, 64, .inl o_sent_f))] sz) t) (va_A [(o, .inr (0, [.ref o_above, .ref o_below, .ref o_sent])), (o_sent, .inr (4, [.ref o_sent_a])), (o_sent_a, .inl (cI, 64, .inl o_sent_f))] sz)) 0 0 (va_A [(o, .inr (0, [.ref o_above, .ref o_below, .ref o_sent])), (o_sent, .inr (4, [.ref o_sent_a])), (o_sent_a, .inl (cI, 64, .inl o_sent_f))] sz) := by
  refine Met.ofW (cc := cX0_sentFrom) (maxL := 2) (ret := (some .int)) (by decide) rfl ?_
  intro p e s m args below meth c s₁ B hml hv
  obtain ⟨hargs, hsz, hP, hK, hD0, hE⟩ := hv
  subst hargs
  have hx := B.exec
  have hb := B.bytes
  have hr := B.returns
  have hts := atoms_spec (ws := wsX0_sentFrom) B.pre
  have hown : s.vm.findClass RX0 = some m.cls := findClass_of_methodNamed B.named
  have hlocks := B.notSynchronized
  subst hsz
  have hD := hD0.self (sz := s.heap.size)
  generalize hAe : va_A [(o, .inr (0, [.ref o_above, .ref o_below, .ref o_sent])), (o_sent, .inr (4, [.ref o_sent_a])), (o_sent_a, .inl (cI, 64, .inl o_sent_f))] s.heap.size = A at hD ⊢
  have hA : ∀ q : Nat, s.heap.size ≤ q → A q := fun q h => by rw [← hAe]; exact Or.inr h
  have hS : va_S A s.heap s.heap [] := va_S.rf
  have hl := lv_entry ([.ref o, .int a1]) (n := 2) (Nat.le_of_ble_eq_true rfl)
  rw [lg_entry_eq]
  generalize (lg_sl ([.ref o, .int a1]) ++ List.replicate (2 - (lg_sl ([.ref o, .int a1])).length) Slot.unset).toArray = ls at hl ⊢
  have hl : lv_has ls 2 [(0, .ref o), (1, .int a1)] := hl
  refine wq (X := fun Q => ∀ (pc : Nat) (H : Heap) (locs : List Loc) (ls : Array Slot) (r : Int32) (u : Unit) (hd : decode cX0_sentFrom pc = .ok (.ireturn, 1)) (hp : r = fX0_sentFrom a1 o_sent_f) (hP : va_P D vwCl [(o, .inr (0, [.ref o_above, .ref o_below, .ref o_sent])), (o_sent, .inr (4, [.ref o_sent_a])), (o_sent_a, .inl (cI, 64, .inl o_sent_f))] H) (hD : va_D A [(o, .inr (0, [.ref o_above, .ref o_below, .ref o_sent])), (o_sent, .inr (4, [.ref o_sent_a])), (o_sent_a, .inl (cI, 64, .inl o_sent_f))]) (hS : va_S A s.heap H locs), W p l e ({ frames := 1, cells := 0, slots := 0, locals := 21 } : Room) s m ([.ref o, .int a1] : List Value).toArray below meth c H locs 0 0 Q (F0 m pc ls [.int r])) ?_ (fun Q hret => ?_)
  · intro pc H locs ls r u hd hp hP hD hS
    exact W.iret (v := r) hx hb hr (fun t ht hW => ⟨⟨r, u, rfl, hp, by rw [ht]; exact hP, va_K.moved hW.alike hK, hD⟩, hS.F ht⟩) hS.2.2 hd
  have hin_0 : ∀ w ∈ u_ws RX0 TX0 3, w ∈ wsX0_sentFrom := by decide +kernel
  have fl_23 := hts (.fieldLink RX0 23 "MileRoad$Game" "sent" "LMileRoad$Row;") (by decide +kernel)
  have hF : fX0_sentFrom a1 o_sent_f = fX0_sentFrom a1 o_sent_f := rfl
  refine lv_aload_n hx hb dX0_sentFrom_0 rfl (lv_at hl 0 rfl) ?_
  refine xget hx hb hts hown hK 0 (C2 := RX0) (T := TX0) (N := 3) rfl hin_0 hP 0 rfl 2 (by decide) fl_23 rfl rfl rfl dX0_sentFrom_1 ?_
  refine lv_iload_n hx hb dX0_sentFrom_4 rfl (lv_at hl 1 rfl) ?_
  refine xcalli (S := Unit) (Wc := [(o_sent, .inr (4, [.ref o_sent_a])), (o_sent_a, .inl (cI, 64, .inl o_sent_f))]) (wr := [(o, .inr (0, [.ref o_above, .ref o_below, .ref o_sent]))]) (W1 := (fun (u : Unit) => [(o_sent, .inr (4, [.ref o_sent_a])), (o_sent_a, .inl (cI, 64, .inl o_sent_f))])) (Wn := (fun (u : Unit) => [(o, .inr (0, [.ref o_above, .ref o_below, .ref o_sent])), (o_sent, .inr (4, [.ref o_sent_a])), (o_sent_a, .inl (cI, 64, .inl o_sent_f))])) (xrunV hx hb hml hown hts (c_X4_at l D cI cZ _ o_sent a1 o_sent_a o_sent_f 64 (by decide)) (cwV 1 hts gX0_sentFrom_X4_at rfl rfl rfl (by decide +kernel) ⟨Nat.le_of_ble_eq_true rfl, Nat.le_of_ble_eq_true rfl⟩) hE hK hP hD [1, 2] rfl rfl 0 4 (T := TX4) (N := 1) rfl rfl rfl hl.1 rfl (Nat.le_of_ble_eq_true rfl) dX0_sentFrom_5 ⟨Nat.le_of_ble_eq_true rfl, Nat.le_of_ble_eq_true rfl⟩) hP hD hS hA [1, 2] [0] [0, 1, 2] rfl rfl rfl (by decide) (fun _ => rfl) rfl (fun r1 u H locs hw hz hP hD hS => ?_)
  subst hw
  exact hret _ _ _ _ (fX4_at a1 o_sent_f 64) () dX0_sentFrom_8 ((hF.trans (by simp only [fX0_sentFrom, xlet])).symm) hP hD hS
set_option maxRecDepth 20000 in
theorem ggX0_aboveFrom_X4_at : GoodIn wsX0_aboveFrom wsX4_at := goodIn_r _ [6, 7, 11] (by decide +kernel) (by decide +kernel)
set_option maxRecDepth 20000 in
theorem gX0_aboveFrom_X4_at : GoodIn wsX0_aboveFrom (wsV RX0 42 RX4 yX4_at wsX4_at) := goodIn_app (goodIn_of _ (by decide +kernel)) ggX0_aboveFrom_X4_at
theorem dX0_aboveFrom_0 : decode cX0_aboveFrom 0 = .ok (.aload_n 0, 1) := by decide +kernel
theorem dX0_aboveFrom_1 : decode cX0_aboveFrom 1 = .ok (.getfield 14, 3) := by decide +kernel
theorem dX0_aboveFrom_4 : decode cX0_aboveFrom 4 = .ok (.iload_n 1, 1) := by decide +kernel
theorem dX0_aboveFrom_5 : decode cX0_aboveFrom 5 = .ok (.invokevirtual 42, 3) := by decide +kernel
theorem dX0_aboveFrom_8 : decode cX0_aboveFrom 8 = .ok (.ireturn, 1) := by decide +kernel
def fX0_aboveFrom (a1 : Int32) (o_above_f : Nat → Int32) : Int32 := (fX4_at a1 o_above_f 64)
set_option maxHeartbeats 4000000 in
set_option maxRecDepth 100000 in
theorem c_X0_aboveFrom (l : Launch) (D : va_G) (cI cZ : ClassId) (sz : Nat) (o : Nat) (a1 : Int32) (o_above : Nat) (o_below : Nat) (o_sent : Nat) (o_above_a : Nat) (o_above_f : Nat → Int32)  : Met l yX0_aboveFrom wsX0_aboveFrom ({ frames := 1, cells := 0, slots := 0, locals := 21 } : Room) (va_Pc [.ref o, .int a1] (xP D cI cZ [(o, .inr (0, [.ref o_above, .ref o_below, .ref o_sent])), (o_above, .inr (4, [.ref o_above_a])), (o_above_a, .inl (cI, 64, .inl o_above_f))] sz)) (va_Qi (fun (r : Int32) (u : Unit) => r = fX0_aboveFrom a1 o_above_f) (fun (u : Unit) t => xB D cI cZ [(o, .inr (0, [.ref o_above, .ref o_below, .ref o_sent])), (o_above, .inr (4, [.ref o_above_a])), (o_above_a, .inl (cI, 64, .inl o_above_f))] (va_A [(o, .inr (0, [.ref o_above, .ref o_below, .ref o_sent])), (o_above, .inr (4, [.ref o_above_a])), (o_above_a, .inl (cI, 64, .inl o_above_f))] sz) t) (va_A [(o, .inr (0, [.ref o_above, .ref o_below, .ref o_sent])), (o_above, .inr (4, [.ref o_above_a])), (o_above_a, .inl (cI, 64, .inl o_above_f))] sz)) 0 0 (va_A [(o, .inr (0, [.ref o_above, .ref o_below, .ref o_sent])), (o_above, .inr (4, [.ref o_above_a])), (o_above_a, .inl (cI, 64, .inl o_above_f))] sz) := by
  refine Met.ofW (cc := cX0_aboveFrom) (maxL := 2) (ret := (some .int)) (by decide) rfl ?_
  intro p e s m args below meth c s₁ B hml hv
  obtain ⟨hargs, hsz, hP, hK, hD0, hE⟩ := hv
  subst hargs
  have hx := B.exec
  have hb := B.bytes
  have hr := B.returns
  have hts := atoms_spec (ws := wsX0_aboveFrom) B.pre
  have hown : s.vm.findClass RX0 = some m.cls := findClass_of_methodNamed B.named
  have hlocks := B.notSynchronized
  subst hsz
  have hD := hD0.self (sz := s.heap.size)
  generalize hAe : va_A [(o, .inr (0, [.ref o_above, .ref o_below, .ref o_sent])), (o_above, .inr (4, [.ref o_above_a])), (o_above_a, .inl (cI, 64, .inl o_above_f))] s.heap.size = A at hD ⊢
  have hA : ∀ q : Nat, s.heap.size ≤ q → A q := fun q h => by rw [← hAe]; exact Or.inr h
  have hS : va_S A s.heap s.heap [] := va_S.rf
  have hl := lv_entry ([.ref o, .int a1]) (n := 2) (Nat.le_of_ble_eq_true rfl)
  rw [lg_entry_eq]
  generalize (lg_sl ([.ref o, .int a1]) ++ List.replicate (2 - (lg_sl ([.ref o, .int a1])).length) Slot.unset).toArray = ls at hl ⊢
  have hl : lv_has ls 2 [(0, .ref o), (1, .int a1)] := hl
  refine wq (X := fun Q => ∀ (pc : Nat) (H : Heap) (locs : List Loc) (ls : Array Slot) (r : Int32) (u : Unit) (hd : decode cX0_aboveFrom pc = .ok (.ireturn, 1)) (hp : r = fX0_aboveFrom a1 o_above_f) (hP : va_P D vwCl [(o, .inr (0, [.ref o_above, .ref o_below, .ref o_sent])), (o_above, .inr (4, [.ref o_above_a])), (o_above_a, .inl (cI, 64, .inl o_above_f))] H) (hD : va_D A [(o, .inr (0, [.ref o_above, .ref o_below, .ref o_sent])), (o_above, .inr (4, [.ref o_above_a])), (o_above_a, .inl (cI, 64, .inl o_above_f))]) (hS : va_S A s.heap H locs), W p l e ({ frames := 1, cells := 0, slots := 0, locals := 21 } : Room) s m ([.ref o, .int a1] : List Value).toArray below meth c H locs 0 0 Q (F0 m pc ls [.int r])) ?_ (fun Q hret => ?_)
  · intro pc H locs ls r u hd hp hP hD hS
    exact W.iret (v := r) hx hb hr (fun t ht hW => ⟨⟨r, u, rfl, hp, by rw [ht]; exact hP, va_K.moved hW.alike hK, hD⟩, hS.F ht⟩) hS.2.2 hd
  have hin_0 : ∀ w ∈ u_ws RX0 TX0 3, w ∈ wsX0_aboveFrom := by decide +kernel
  have fl_14 := hts (.fieldLink RX0 14 "MileRoad$Game" "above" "LMileRoad$Row;") (by decide +kernel)
  have hF : fX0_aboveFrom a1 o_above_f = fX0_aboveFrom a1 o_above_f := rfl
  refine lv_aload_n hx hb dX0_aboveFrom_0 rfl (lv_at hl 0 rfl) ?_
  refine xget hx hb hts hown hK 0 (C2 := RX0) (T := TX0) (N := 3) rfl hin_0 hP 0 rfl 0 (by decide) fl_14 rfl rfl rfl dX0_aboveFrom_1 ?_
  refine lv_iload_n hx hb dX0_aboveFrom_4 rfl (lv_at hl 1 rfl) ?_
  refine xcalli (S := Unit) (Wc := [(o_above, .inr (4, [.ref o_above_a])), (o_above_a, .inl (cI, 64, .inl o_above_f))]) (wr := [(o, .inr (0, [.ref o_above, .ref o_below, .ref o_sent]))]) (W1 := (fun (u : Unit) => [(o_above, .inr (4, [.ref o_above_a])), (o_above_a, .inl (cI, 64, .inl o_above_f))])) (Wn := (fun (u : Unit) => [(o, .inr (0, [.ref o_above, .ref o_below, .ref o_sent])), (o_above, .inr (4, [.ref o_above_a])), (o_above_a, .inl (cI, 64, .inl o_above_f))])) (xrunV hx hb hml hown hts (c_X4_at l D cI cZ _ o_above a1 o_above_a o_above_f 64 (by decide)) (cwV 1 hts gX0_aboveFrom_X4_at rfl rfl rfl (by decide +kernel) ⟨Nat.le_of_ble_eq_true rfl, Nat.le_of_ble_eq_true rfl⟩) hE hK hP hD [1, 2] rfl rfl 0 4 (T := TX4) (N := 1) rfl rfl rfl hl.1 rfl (Nat.le_of_ble_eq_true rfl) dX0_aboveFrom_5 ⟨Nat.le_of_ble_eq_true rfl, Nat.le_of_ble_eq_true rfl⟩) hP hD hS hA [1, 2] [0] [0, 1, 2] rfl rfl rfl (by decide) (fun _ => rfl) rfl (fun r1 u H locs hw hz hP hD hS => ?_)
  subst hw
  exact hret _ _ _ _ (fX4_at a1 o_above_f 64) () dX0_aboveFrom_8 ((hF.trans (by simp only [fX0_aboveFrom, xlet])).symm) hP hD hS
set_option maxRecDepth 20000 in
theorem ggX0_belowFrom_X4_at : GoodIn wsX0_belowFrom wsX4_at := goodIn_r _ [6, 7, 11] (by decide +kernel) (by decide +kernel)
set_option maxRecDepth 20000 in
theorem gX0_belowFrom_X4_at : GoodIn wsX0_belowFrom (wsV RX0 42 RX4 yX4_at wsX4_at) := goodIn_app (goodIn_of _ (by decide +kernel)) ggX0_belowFrom_X4_at
theorem dX0_belowFrom_0 : decode cX0_belowFrom 0 = .ok (.aload_n 0, 1) := by decide +kernel
theorem dX0_belowFrom_1 : decode cX0_belowFrom 1 = .ok (.getfield 20, 3) := by decide +kernel
theorem dX0_belowFrom_4 : decode cX0_belowFrom 4 = .ok (.iload_n 1, 1) := by decide +kernel
theorem dX0_belowFrom_5 : decode cX0_belowFrom 5 = .ok (.invokevirtual 42, 3) := by decide +kernel
theorem dX0_belowFrom_8 : decode cX0_belowFrom 8 = .ok (.ireturn, 1) := by decide +kernel
def fX0_belowFrom (a1 : Int32) (o_below_f : Nat → Int32) : Int32 := (fX4_at a1 o_below_f 64)
set_option maxHeartbeats 4000000 in
set_option maxRecDepth 100000 in
theorem c_X0_belowFrom (l : Launch) (D : va_G) (cI cZ : ClassId) (sz : Nat) (o : Nat) (a1 : Int32) (o_above : Nat) (o_below : Nat) (o_sent : Nat) (o_below_a : Nat) (o_below_f : Nat → Int32)  : Met l yX0_belowFrom wsX0_belowFrom ({ frames := 1, cells := 0, slots := 0, locals := 21 } : Room) (va_Pc [.ref o, .int a1] (xP D cI cZ [(o, .inr (0, [.ref o_above, .ref o_below, .ref o_sent])), (o_below, .inr (4, [.ref o_below_a])), (o_below_a, .inl (cI, 64, .inl o_below_f))] sz)) (va_Qi (fun (r : Int32) (u : Unit) => r = fX0_belowFrom a1 o_below_f) (fun (u : Unit) t => xB D cI cZ [(o, .inr (0, [.ref o_above, .ref o_below, .ref o_sent])), (o_below, .inr (4, [.ref o_below_a])), (o_below_a, .inl (cI, 64, .inl o_below_f))] (va_A [(o, .inr (0, [.ref o_above, .ref o_below, .ref o_sent])), (o_below, .inr (4, [.ref o_below_a])), (o_below_a, .inl (cI, 64, .inl o_below_f))] sz) t) (va_A [(o, .inr (0, [.ref o_above, .ref o_below, .ref o_sent])), (o_below, .inr (4, [.ref o_below_a])), (o_below_a, .inl (cI, 64, .inl o_below_f))] sz)) 0 0 (va_A [(o, .inr (0, [.ref o_above, .ref o_below, .ref o_sent])), (o_below, .inr (4, [.ref o_below_a])), (o_below_a, .inl (cI, 64, .inl o_below_f))] sz) := by
  refine Met.ofW (cc := cX0_belowFrom) (maxL := 2) (ret := (some .int)) (by decide) rfl ?_
  intro p e s m args below meth c s₁ B hml hv
  obtain ⟨hargs, hsz, hP, hK, hD0, hE⟩ := hv
  subst hargs
  have hx := B.exec
  have hb := B.bytes
  have hr := B.returns
  have hts := atoms_spec (ws := wsX0_belowFrom) B.pre
  have hown : s.vm.findClass RX0 = some m.cls := findClass_of_methodNamed B.named
  have hlocks := B.notSynchronized
  subst hsz
  have hD := hD0.self (sz := s.heap.size)
  generalize hAe : va_A [(o, .inr (0, [.ref o_above, .ref o_below, .ref o_sent])), (o_below, .inr (4, [.ref o_below_a])), (o_below_a, .inl (cI, 64, .inl o_below_f))] s.heap.size = A at hD ⊢
  have hA : ∀ q : Nat, s.heap.size ≤ q → A q := fun q h => by rw [← hAe]; exact Or.inr h
  have hS : va_S A s.heap s.heap [] := va_S.rf
  have hl := lv_entry ([.ref o, .int a1]) (n := 2) (Nat.le_of_ble_eq_true rfl)
  rw [lg_entry_eq]
  generalize (lg_sl ([.ref o, .int a1]) ++ List.replicate (2 - (lg_sl ([.ref o, .int a1])).length) Slot.unset).toArray = ls at hl ⊢
  have hl : lv_has ls 2 [(0, .ref o), (1, .int a1)] := hl
  refine wq (X := fun Q => ∀ (pc : Nat) (H : Heap) (locs : List Loc) (ls : Array Slot) (r : Int32) (u : Unit) (hd : decode cX0_belowFrom pc = .ok (.ireturn, 1)) (hp : r = fX0_belowFrom a1 o_below_f) (hP : va_P D vwCl [(o, .inr (0, [.ref o_above, .ref o_below, .ref o_sent])), (o_below, .inr (4, [.ref o_below_a])), (o_below_a, .inl (cI, 64, .inl o_below_f))] H) (hD : va_D A [(o, .inr (0, [.ref o_above, .ref o_below, .ref o_sent])), (o_below, .inr (4, [.ref o_below_a])), (o_below_a, .inl (cI, 64, .inl o_below_f))]) (hS : va_S A s.heap H locs), W p l e ({ frames := 1, cells := 0, slots := 0, locals := 21 } : Room) s m ([.ref o, .int a1] : List Value).toArray below meth c H locs 0 0 Q (F0 m pc ls [.int r])) ?_ (fun Q hret => ?_)
  · intro pc H locs ls r u hd hp hP hD hS
    exact W.iret (v := r) hx hb hr (fun t ht hW => ⟨⟨r, u, rfl, hp, by rw [ht]; exact hP, va_K.moved hW.alike hK, hD⟩, hS.F ht⟩) hS.2.2 hd
  have hin_0 : ∀ w ∈ u_ws RX0 TX0 3, w ∈ wsX0_belowFrom := by decide +kernel
  have fl_20 := hts (.fieldLink RX0 20 "MileRoad$Game" "below" "LMileRoad$Row;") (by decide +kernel)
  have hF : fX0_belowFrom a1 o_below_f = fX0_belowFrom a1 o_below_f := rfl
  refine lv_aload_n hx hb dX0_belowFrom_0 rfl (lv_at hl 0 rfl) ?_
  refine xget hx hb hts hown hK 0 (C2 := RX0) (T := TX0) (N := 3) rfl hin_0 hP 0 rfl 1 (by decide) fl_20 rfl rfl rfl dX0_belowFrom_1 ?_
  refine lv_iload_n hx hb dX0_belowFrom_4 rfl (lv_at hl 1 rfl) ?_
  refine xcalli (S := Unit) (Wc := [(o_below, .inr (4, [.ref o_below_a])), (o_below_a, .inl (cI, 64, .inl o_below_f))]) (wr := [(o, .inr (0, [.ref o_above, .ref o_below, .ref o_sent]))]) (W1 := (fun (u : Unit) => [(o_below, .inr (4, [.ref o_below_a])), (o_below_a, .inl (cI, 64, .inl o_below_f))])) (Wn := (fun (u : Unit) => [(o, .inr (0, [.ref o_above, .ref o_below, .ref o_sent])), (o_below, .inr (4, [.ref o_below_a])), (o_below_a, .inl (cI, 64, .inl o_below_f))])) (xrunV hx hb hml hown hts (c_X4_at l D cI cZ _ o_below a1 o_below_a o_below_f 64 (by decide)) (cwV 1 hts gX0_belowFrom_X4_at rfl rfl rfl (by decide +kernel) ⟨Nat.le_of_ble_eq_true rfl, Nat.le_of_ble_eq_true rfl⟩) hE hK hP hD [1, 2] rfl rfl 0 4 (T := TX4) (N := 1) rfl rfl rfl hl.1 rfl (Nat.le_of_ble_eq_true rfl) dX0_belowFrom_5 ⟨Nat.le_of_ble_eq_true rfl, Nat.le_of_ble_eq_true rfl⟩) hP hD hS hA [1, 2] [0] [0, 1, 2] rfl rfl rfl (by decide) (fun _ => rfl) rfl (fun r1 u H locs hw hz hP hD hS => ?_)
  subst hw
  exact hret _ _ _ _ (fX4_at a1 o_below_f 64) () dX0_belowFrom_8 ((hF.trans (by simp only [fX0_belowFrom, xlet])).symm) hP hD hS
set_option maxRecDepth 20000 in
theorem ggX2_readNumber_X7_number : GoodIn wsX2_readNumber wsX7_number := goodIn_r _ [7, 8, 9, 10, 11, 12, 13, 6, 14, 15, 16, 17, 18, 19, 20, 21, 22, 23, 24, 40, 41, 42, 43, 44] (by decide +kernel) (by decide +kernel)
set_option maxRecDepth 20000 in
theorem gX2_readNumber_X7_number : GoodIn wsX2_readNumber (wsV RX2 116 RX7 yX7_number wsX7_number) := goodIn_app (goodIn_of _ (by decide +kernel)) ggX2_readNumber_X7_number
set_option maxRecDepth 20000 in
theorem ggX2_readNumber_X8_within : GoodIn wsX2_readNumber wsX8_within := goodIn_r _ [27] (by decide +kernel) (by decide +kernel)
set_option maxRecDepth 20000 in
theorem gX2_readNumber_X8_within_n119 : GoodIn wsX2_readNumber (wsX8_within) := ggX2_readNumber_X8_within
set_option maxRecDepth 20000 in
theorem ggX2_readNumber_X7_readNext : GoodIn wsX2_readNumber wsX7_readNext := goodIn_r _ [31, 10, 9, 15, 8, 32, 33, 34, 35, 16, 17, 18, 19, 20, 21, 22, 23, 6, 24, 40, 41, 42, 43, 44] (by decide +kernel) (by decide +kernel)
set_option maxRecDepth 20000 in
theorem gX2_readNumber_X7_readNext : GoodIn wsX2_readNumber (wsV RX2 54 RX7 yX7_readNext wsX7_readNext) := goodIn_app (goodIn_of _ (by decide +kernel)) ggX2_readNumber_X7_readNext
theorem dX2_readNumber_0 : decode cX2_readNumber 0 = .ok (.aload_n 0, 1) := by decide +kernel
theorem dX2_readNumber_1 : decode cX2_readNumber 1 = .ok (.getfield 18, 3) := by decide +kernel
theorem dX2_readNumber_4 : decode cX2_readNumber 4 = .ok (.invokevirtual 116, 3) := by decide +kernel
theorem dX2_readNumber_7 : decode cX2_readNumber 7 = .ok (.istore_n 3, 1) := by decide +kernel
theorem dX2_readNumber_8 : decode cX2_readNumber 8 = .ok (.iload_n 3, 1) := by decide +kernel
theorem dX2_readNumber_9 : decode cX2_readNumber 9 = .ok (.iload_n 1, 1) := by decide +kernel
theorem dX2_readNumber_10 : decode cX2_readNumber 10 = .ok (.iload_n 2, 1) := by decide +kernel
theorem dX2_readNumber_11 : decode cX2_readNumber 11 = .ok (.invokestatic 119, 3) := by decide +kernel
theorem dX2_readNumber_14 : decode cX2_readNumber 14 = .ok (.ifCond .ne 16, 3) := by decide +kernel
theorem dX2_readNumber_17 : decode cX2_readNumber 17 = .ok (.aload_n 0, 1) := by decide +kernel
theorem dX2_readNumber_18 : decode cX2_readNumber 18 = .ok (.aload_n 0, 1) := by decide +kernel
theorem dX2_readNumber_19 : decode cX2_readNumber 19 = .ok (.getfield 18, 3) := by decide +kernel
theorem dX2_readNumber_22 : decode cX2_readNumber 22 = .ok (.getfield 51, 3) := by decide +kernel
theorem dX2_readNumber_25 : decode cX2_readNumber 25 = .ok (.putfield 30, 3) := by decide +kernel
theorem dX2_readNumber_28 : decode cX2_readNumber 28 = .ok (.iconst (-1), 1) := by decide +kernel
theorem dX2_readNumber_29 : decode cX2_readNumber 29 = .ok (.ireturn, 1) := by decide +kernel
theorem dX2_readNumber_30 : decode cX2_readNumber 30 = .ok (.aload_n 0, 1) := by decide +kernel
theorem dX2_readNumber_31 : decode cX2_readNumber 31 = .ok (.getfield 18, 3) := by decide +kernel
theorem dX2_readNumber_34 : decode cX2_readNumber 34 = .ok (.invokevirtual 54, 3) := by decide +kernel
theorem dX2_readNumber_37 : decode cX2_readNumber 37 = .ok (.iload_n 3, 1) := by decide +kernel
theorem dX2_readNumber_38 : decode cX2_readNumber 38 = .ok (.ireturn, 1) := by decide +kernel
def fX2_readNumber (a1 : Int32) (a2 : Int32) (o_faultPlace : Int32) (o_text_length : Int32) (o_text_begin : Int32) (o_text_end : Int32) (o_text_letters_f : Nat → Int32) : Int32 × Int32 × Int32 × Int32 := if (fX8_within (fX7_number o_text_length o_text_begin o_text_end o_text_letters_f) a1 a2) = 0 then (((-1), o_text_begin, o_text_begin, o_text_end)) else (match fX7_readNext o_text_length o_text_end o_text_letters_f with | (u3, u4) => ((fX7_number o_text_length o_text_begin o_text_end o_text_letters_f), o_faultPlace, u3, u4))
set_option maxHeartbeats 4000000 in
set_option maxRecDepth 100000 in
theorem c_X2_readNumber (l : Launch) (D : va_G) (cI cZ : ClassId) (sz : Nat) (o : Nat) (a1 : Int32) (a2 : Int32) (o_text : Nat) (o_draft : Nat) (o_clauses : Int32) (o_faultPlace : Int32) (o_text_letters : Nat) (o_text_length : Int32) (o_text_begin : Int32) (o_text_end : Int32) (o_text_letters_a : Nat) (o_text_letters_f : Nat → Int32) (hq1 : 0 ≤ o_text_begin.toInt) (hq2 : o_text_begin.toInt ≤ 160) (hq3 : o_text_end.toInt ≤ 160) (hq4 : 0 ≤ o_text_length.toInt) (hq5 : o_text_length.toInt ≤ 160) (hq6 : 0 ≤ o_text_end.toInt) : Met l yX2_readNumber wsX2_readNumber ({ frames := 2, cells := 0, slots := 0, locals := 43 } : Room) (va_Pc [.ref o, .int a1, .int a2] (xP D cI cZ [(o, .inr (2, [.ref o_text, .ref o_draft, .int o_clauses, .int o_faultPlace])), (o_text, .inr (7, [.ref o_text_letters, .int o_text_length, .int o_text_begin, .int o_text_end])), (o_text_letters, .inr (4, [.ref o_text_letters_a])), (o_text_letters_a, .inl (cI, 160, .inl o_text_letters_f))] sz)) (va_Qi (fun (r : Int32) (u : Int32 × Int32 × Int32) => (r, u) = fX2_readNumber a1 a2 o_faultPlace o_text_length o_text_begin o_text_end o_text_letters_f) (fun (u : Int32 × Int32 × Int32) t => xB D cI cZ [(o, .inr (2, [.ref o_text, .ref o_draft, .int o_clauses, .int u.1])), (o_text, .inr (7, [.ref o_text_letters, .int o_text_length, .int u.2.1, .int u.2.2])), (o_text_letters, .inr (4, [.ref o_text_letters_a])), (o_text_letters_a, .inl (cI, 160, .inl o_text_letters_f))] (va_A [(o, .inr (2, [.ref o_text, .ref o_draft, .int o_clauses, .int o_faultPlace])), (o_text, .inr (7, [.ref o_text_letters, .int o_text_length, .int o_text_begin, .int o_text_end])), (o_text_letters, .inr (4, [.ref o_text_letters_a])), (o_text_letters_a, .inl (cI, 160, .inl o_text_letters_f))] sz) t) (va_A [(o, .inr (2, [.ref o_text, .ref o_draft, .int o_clauses, .int o_faultPlace])), (o_text, .inr (7, [.ref o_text_letters, .int o_text_length, .int o_text_begin, .int o_text_end])), (o_text_letters, .inr (4, [.ref o_text_letters_a])), (o_text_letters_a, .inl (cI, 160, .inl o_text_letters_f))] sz)) 0 0 (va_A [(o, .inr (2, [.ref o_text, .ref o_draft, .int o_clauses, .int o_faultPlace])), (o_text, .inr (7, [.ref o_text_letters, .int o_text_length, .int o_text_begin, .int o_text_end])), (o_text_letters, .inr (4, [.ref o_text_letters_a])), (o_text_letters_a, .inl (cI, 160, .inl o_text_letters_f))] sz) := by
  refine Met.ofW (cc := cX2_readNumber) (maxL := 4) (ret := (some .int)) (by decide) rfl ?_
  intro p e s m args below meth c s₁ B hml hv
  obtain ⟨hargs, hsz, hP, hK, hD0, hE⟩ := hv
  subst hargs
  have hx := B.exec
  have hb := B.bytes
  have hr := B.returns
  have hts := atoms_spec (ws := wsX2_readNumber) B.pre
  have hown : s.vm.findClass RX2 = some m.cls := findClass_of_methodNamed B.named
  have hlocks := B.notSynchronized
  subst hsz
  have hD := hD0.self (sz := s.heap.size)
  generalize hAe : va_A [(o, .inr (2, [.ref o_text, .ref o_draft, .int o_clauses, .int o_faultPlace])), (o_text, .inr (7, [.ref o_text_letters, .int o_text_length, .int o_text_begin, .int o_text_end])), (o_text_letters, .inr (4, [.ref o_text_letters_a])), (o_text_letters_a, .inl (cI, 160, .inl o_text_letters_f))] s.heap.size = A at hD ⊢
  have hA : ∀ q : Nat, s.heap.size ≤ q → A q := fun q h => by rw [← hAe]; exact Or.inr h
  have hS : va_S A s.heap s.heap [] := va_S.rf
  have hl := lv_entry ([.ref o, .int a1, .int a2]) (n := 4) (Nat.le_of_ble_eq_true rfl)
  rw [lg_entry_eq]
  generalize (lg_sl ([.ref o, .int a1, .int a2]) ++ List.replicate (4 - (lg_sl ([.ref o, .int a1, .int a2])).length) Slot.unset).toArray = ls at hl ⊢
  have hl : lv_has ls 4 [(0, .ref o), (1, .int a1), (2, .int a2)] := hl
  refine wq (X := fun Q => ∀ (pc : Nat) (H : Heap) (locs : List Loc) (ls : Array Slot) (r : Int32) (u : Int32 × Int32 × Int32) (hd : decode cX2_readNumber pc = .ok (.ireturn, 1)) (hp : (r, u) = fX2_readNumber a1 a2 o_faultPlace o_text_length o_text_begin o_text_end o_text_letters_f) (hP : va_P D vwCl [(o, .inr (2, [.ref o_text, .ref o_draft, .int o_clauses, .int u.1])), (o_text, .inr (7, [.ref o_text_letters, .int o_text_length, .int u.2.1, .int u.2.2])), (o_text_letters, .inr (4, [.ref o_text_letters_a])), (o_text_letters_a, .inl (cI, 160, .inl o_text_letters_f))] H) (hD : va_D A [(o, .inr (2, [.ref o_text, .ref o_draft, .int o_clauses, .int u.1])), (o_text, .inr (7, [.ref o_text_letters, .int o_text_length, .int u.2.1, .int u.2.2])), (o_text_letters, .inr (4, [.ref o_text_letters_a])), (o_text_letters_a, .inl (cI, 160, .inl o_text_letters_f))]) (hS : va_S A s.heap H locs), W p l e ({ frames := 2, cells := 0, slots := 0, locals := 43 } : Room) s m ([.ref o, .int a1, .int a2] : List Value).toArray below meth c H locs 0 0 Q (F0 m pc ls [.int r])) ?_ (fun Q hret => ?_)
  · intro pc H locs ls r u hd hp hP hD hS
    exact W.iret (v := r) hx hb hr (fun t ht hW => ⟨⟨r, u, rfl, hp, by rw [ht]; exact hP, va_K.moved hW.alike hK, hD⟩, hS.F ht⟩) hS.2.2 hd
  have hin_2 : ∀ w ∈ u_ws RX2 TX2 4, w ∈ wsX2_readNumber := by decide +kernel
  have hin_7 : ∀ w ∈ u_ws RX7 TX7 4, w ∈ wsX2_readNumber := by decide +kernel
  have fl_18 := hts (.fieldLink RX2 18 "MileRoad$Reader" "text" "LMileRoad$Text;") (by decide +kernel)
  have fl_30 := hts (.fieldLink RX2 30 "MileRoad$Reader" "faultPlace" "I") (by decide +kernel)
  have fl_51 := hE.f 17 rfl ([.ref o, .int a1, .int a2] : List Value).toArray
  have hF : fX2_readNumber a1 a2 o_faultPlace o_text_length o_text_begin o_text_end o_text_letters_f = fX2_readNumber a1 a2 o_faultPlace o_text_length o_text_begin o_text_end o_text_letters_f := rfl
  refine lv_aload_n hx hb dX2_readNumber_0 rfl (lv_at hl 0 rfl) ?_
  refine xget hx hb hts hown hK 2 (C2 := RX2) (T := TX2) (N := 4) rfl hin_2 hP 0 rfl 0 (by decide) fl_18 rfl rfl rfl dX2_readNumber_1 ?_
  refine xcalli (S := Unit) (Wc := [(o_text, .inr (7, [.ref o_text_letters, .int o_text_length, .int o_text_begin, .int o_text_end])), (o_text_letters, .inr (4, [.ref o_text_letters_a])), (o_text_letters_a, .inl (cI, 160, .inl o_text_letters_f))]) (wr := [(o, .inr (2, [.ref o_text, .ref o_draft, .int o_clauses, .int o_faultPlace]))]) (W1 := (fun (u : Unit) => [(o_text, .inr (7, [.ref o_text_letters, .int o_text_length, .int o_text_begin, .int o_text_end])), (o_text_letters, .inr (4, [.ref o_text_letters_a])), (o_text_letters_a, .inl (cI, 160, .inl o_text_letters_f))])) (Wn := (fun (u : Unit) => [(o, .inr (2, [.ref o_text, .ref o_draft, .int o_clauses, .int o_faultPlace])), (o_text, .inr (7, [.ref o_text_letters, .int o_text_length, .int o_text_begin, .int o_text_end])), (o_text_letters, .inr (4, [.ref o_text_letters_a])), (o_text_letters_a, .inl (cI, 160, .inl o_text_letters_f))])) (xrunV hx hb hml hown hts (c_X7_number l D cI cZ _ o_text o_text_letters o_text_length o_text_begin o_text_end o_text_letters_a o_text_letters_f hq1 hq2 hq3) (cwV 0 hts gX2_readNumber_X7_number rfl rfl rfl (by decide +kernel) ⟨Nat.le_of_ble_eq_true rfl, Nat.le_of_ble_eq_true rfl⟩) hE hK hP hD [1, 2, 3] rfl rfl 0 7 (T := TX7) (N := 4) rfl rfl rfl hl.1 rfl (Nat.le_of_ble_eq_true rfl) dX2_readNumber_4 ⟨Nat.le_of_ble_eq_true rfl, Nat.le_of_ble_eq_true rfl⟩) hP hD hS hA [1, 2, 3] [0] [0, 1, 2, 3] rfl rfl rfl (by decide) (fun _ => rfl) rfl (fun r1 u H locs hw hz hP hD hS => ?_)
  subst hw
  refine lv_istore_n (lv' := [(3, .int (fX7_number o_text_length o_text_begin o_text_end o_text_letters_f)), (0, .ref o), (1, .int a1), (2, .int a2)]) hx hb dX2_readNumber_7 rfl hl (by decide) rfl (fun ls hl => ?_)
  refine lv_iload_n hx hb dX2_readNumber_8 rfl (lv_at hl 0 rfl) ?_
  refine lv_iload_n hx hb dX2_readNumber_9 rfl (lv_at hl 2 rfl) ?_
  refine lv_iload_n hx hb dX2_readNumber_10 rfl (lv_at hl 3 rfl) ?_
  refine xcalli (S := Unit) (Wc := []) (wr := [(o, .inr (2, [.ref o_text, .ref o_draft, .int o_clauses, .int o_faultPlace])), (o_text, .inr (7, [.ref o_text_letters, .int o_text_length, .int o_text_begin, .int o_text_end])), (o_text_letters, .inr (4, [.ref o_text_letters_a])), (o_text_letters_a, .inl (cI, 160, .inl o_text_letters_f))]) (W1 := (fun (u : Unit) => [])) (Wn := (fun (u : Unit) => [(o, .inr (2, [.ref o_text, .ref o_draft, .int o_clauses, .int o_faultPlace])), (o_text, .inr (7, [.ref o_text_letters, .int o_text_length, .int o_text_begin, .int o_text_end])), (o_text_letters, .inr (4, [.ref o_text_letters_a])), (o_text_letters_a, .inl (cI, 160, .inl o_text_letters_f))])) (xrunSN hx hb hml hown hts (c_X8_within l D cI cZ _ (fX7_number o_text_length o_text_begin o_text_end o_text_letters_f) a1 a2 ) ⟨va_cnB 3 hts gX2_readNumber_X8_within_n119 rfl rfl rfl (hE.m 1 rfl) (hts (.initialized RX8) (by decide +kernel)) (by decide +kernel) ⟨Nat.le_of_ble_eq_true rfl, Nat.le_of_ble_eq_true rfl⟩, hts (.static yX8_within) (by decide +kernel), trivial⟩ hE hK hP hD [] rfl rfl rfl hl.1 rfl (Nat.le_of_ble_eq_true rfl) dX2_readNumber_11 ⟨Nat.le_of_ble_eq_true rfl, Nat.le_of_ble_eq_true rfl⟩) hP hD hS hA [] [0, 1, 2, 3] [0, 1, 2, 3] rfl rfl rfl (by decide) (fun _ => rfl) rfl (fun r2 u H locs hw hz hP hD hS => ?_)
  subst hw
  refine lv_if_ne (tgt := 30) hx hb dX2_readNumber_14 (by decide) (fun c_1 => ?_) (fun c_1 => ?_)
  · refine lv_aload_n hx hb dX2_readNumber_30 rfl (lv_at hl 1 rfl) ?_
    refine xget hx hb hts hown hK 2 (C2 := RX2) (T := TX2) (N := 4) rfl hin_2 hP 0 rfl 0 (by decide) fl_18 rfl rfl rfl dX2_readNumber_31 ?_
    refine xcallv (S := Int32 × Int32) (Wc := [(o_text, .inr (7, [.ref o_text_letters, .int o_text_length, .int o_text_begin, .int o_text_end])), (o_text_letters, .inr (4, [.ref o_text_letters_a])), (o_text_letters_a, .inl (cI, 160, .inl o_text_letters_f))]) (wr := [(o, .inr (2, [.ref o_text, .ref o_draft, .int o_clauses, .int o_faultPlace]))]) (W1 := (fun (u : Int32 × Int32) => [(o_text, .inr (7, [.ref o_text_letters, .int o_text_length, .int u.1, .int u.2])), (o_text_letters, .inr (4, [.ref o_text_letters_a])), (o_text_letters_a, .inl (cI, 160, .inl o_text_letters_f))])) (Wn := (fun (u : Int32 × Int32) => [(o, .inr (2, [.ref o_text, .ref o_draft, .int o_clauses, .int o_faultPlace])), (o_text, .inr (7, [.ref o_text_letters, .int o_text_length, .int u.1, .int u.2])), (o_text_letters, .inr (4, [.ref o_text_letters_a])), (o_text_letters_a, .inl (cI, 160, .inl o_text_letters_f))])) (xrunV hx hb hml hown hts (c_X7_readNext l D cI cZ _ o_text o_text_letters o_text_length o_text_begin o_text_end o_text_letters_a o_text_letters_f hq4 hq5 hq6 hq3) (cwV 0 hts gX2_readNumber_X7_readNext rfl rfl rfl (by decide +kernel) ⟨Nat.le_of_ble_eq_true rfl, Nat.le_of_ble_eq_true rfl⟩) hE hK hP hD [1, 2, 3] rfl rfl 0 7 (T := TX7) (N := 4) rfl rfl rfl hl.1 rfl (Nat.le_of_ble_eq_true rfl) dX2_readNumber_34 ⟨Nat.le_of_ble_eq_true rfl, Nat.le_of_ble_eq_true rfl⟩) hP hD hS hA [1, 2, 3] [0] [0, 1, 2, 3] rfl rfl rfl (by decide) (fun _ => rfl) rfl (fun  u H locs hw hz hP hD hS => ?_)
    obtain ⟨u3, u4⟩ := u
    have hw_3 := hw.symm
    have hP : va_P D vwCl [(o, .inr (2, [.ref o_text, .ref o_draft, .int o_clauses, .int o_faultPlace])), (o_text, .inr (7, [.ref o_text_letters, .int o_text_length, .int u3, .int u4])), (o_text_letters, .inr (4, [.ref o_text_letters_a])), (o_text_letters_a, .inl (cI, 160, .inl o_text_letters_f))] H := hP
    have hD : va_D A [(o, .inr (2, [.ref o_text, .ref o_draft, .int o_clauses, .int o_faultPlace])), (o_text, .inr (7, [.ref o_text_letters, .int o_text_length, .int u3, .int u4])), (o_text_letters, .inr (4, [.ref o_text_letters_a])), (o_text_letters_a, .inl (cI, 160, .inl o_text_letters_f))] := hD
    refine lv_iload_n hx hb dX2_readNumber_37 rfl (lv_at hl 0 rfl) ?_
    exact hret _ _ _ _ (fX7_number o_text_length o_text_begin o_text_end o_text_letters_f) (o_faultPlace, u3, u4) dX2_readNumber_38 ((hF.trans (by simp only [fX2_readNumber, xlet, if_neg c_1, ↓hw_3])).symm) hP hD hS
  · refine lv_aload_n hx hb dX2_readNumber_17 rfl (lv_at hl 1 rfl) ?_
    refine lv_aload_n hx hb dX2_readNumber_18 rfl (lv_at hl 1 rfl) ?_
    refine xget hx hb hts hown hK 2 (C2 := RX2) (T := TX2) (N := 4) rfl hin_2 hP 0 rfl 0 (by decide) fl_18 rfl rfl rfl dX2_readNumber_19 ?_
    refine xgetN hx hb hts hown hK 7 (C2 := RX7) (T := TX7) (N := 4) rfl hin_7 hP 1 rfl 2 (by decide) fl_51 rfl rfl rfl dX2_readNumber_22 ?_
    refine xput hx hb hts hown hK 2 (C2 := RX2) (T := TX2) (N := 4) tyX2 rfl tyX2_ok nmX2 hin_2 hP hD hS 0 rfl 3 (by decide) fl_30 rfl rfl rfl rfl rfl (Nat.le_of_ble_eq_true rfl) dX2_readNumber_25 [(o, .inr (2, [.ref o_text, .ref o_draft, .int o_clauses, .int o_text_begin])), (o_text, .inr (7, [.ref o_text_letters, .int o_text_length, .int o_text_begin, .int o_text_end])), (o_text_letters, .inr (4, [.ref o_text_letters_a])), (o_text_letters_a, .inl (cI, 160, .inl o_text_letters_f))] rfl (fun H locs hP hD hS => ?_)
    refine lv_iconst (v := (-1)) hx hb dX2_readNumber_28 (by decide) ?_
    exact hret _ _ _ _ (-1) (o_text_begin, o_text_begin, o_text_end) dX2_readNumber_29 ((hF.trans (by simp only [fX2_readNumber, xlet, if_pos c_1])).symm) hP hD hS
