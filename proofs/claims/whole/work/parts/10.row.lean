theorem dX4_at_0 : decode cX4_at 0 = .ok (.iload_n 1, 1) := by decide +kernel
theorem dX4_at_1 : decode cX4_at 1 = .ok (.ifCond .lt 21, 3) := by decide +kernel
theorem dX4_at_4 : decode cX4_at 4 = .ok (.iload_n 1, 1) := by decide +kernel
theorem dX4_at_5 : decode cX4_at 5 = .ok (.aload_n 0, 1) := by decide +kernel
theorem dX4_at_6 : decode cX4_at 6 = .ok (.getfield 13, 3) := by decide +kernel
theorem dX4_at_9 : decode cX4_at 9 = .ok (.arraylength, 1) := by decide +kernel
theorem dX4_at_10 : decode cX4_at 10 = .ok (.if_icmp .ge 12, 3) := by decide +kernel
theorem dX4_at_13 : decode cX4_at 13 = .ok (.aload_n 0, 1) := by decide +kernel
theorem dX4_at_14 : decode cX4_at 14 = .ok (.getfield 13, 3) := by decide +kernel
theorem dX4_at_17 : decode cX4_at 17 = .ok (.iload_n 1, 1) := by decide +kernel
theorem dX4_at_18 : decode cX4_at 18 = .ok (.iaload, 1) := by decide +kernel
theorem dX4_at_19 : decode cX4_at 19 = .ok (.goto 4, 3) := by decide +kernel
theorem dX4_at_22 : decode cX4_at 22 = .ok (.iconst 0, 1) := by decide +kernel
theorem dX4_at_23 : decode cX4_at 23 = .ok (.ireturn, 1) := by decide +kernel
def fX4_at (a1 : Int32) (o_f : Nat → Int32) (o_n : Nat) : Int32 := xlet (if a1 < 0 then 0 else (if (Int32.ofNat o_n) ≤ a1 then 0 else (o_f a1.toNatClampNeg))) (fun y_1 => y_1)
set_option maxHeartbeats 4000000 in
set_option maxRecDepth 100000 in
theorem c_X4_at (l : Launch) (D : va_G) (cI cZ : ClassId) (sz : Nat) (o : Nat) (a1 : Int32) (o_a : Nat) (o_f : Nat → Int32) (o_n : Nat) (ho_n : o_n < 900) : Met l yX4_at wsX4_at ({ frames := 0, cells := 0, slots := 0, locals := 0 } : Room) (va_Pc [.ref o, .int a1] (xP D cI cZ [(o, .inr (4, [.ref o_a])), (o_a, .inl (cI, o_n, .inl o_f))] sz)) (va_Qi (fun (r : Int32) (u : Unit) => r = fX4_at a1 o_f o_n) (fun (u : Unit) t => xB D cI cZ [(o, .inr (4, [.ref o_a])), (o_a, .inl (cI, o_n, .inl o_f))] (va_A [(o, .inr (4, [.ref o_a])), (o_a, .inl (cI, o_n, .inl o_f))] sz) t) (va_A [(o, .inr (4, [.ref o_a])), (o_a, .inl (cI, o_n, .inl o_f))] sz)) 0 0 (va_A [(o, .inr (4, [.ref o_a])), (o_a, .inl (cI, o_n, .inl o_f))] sz) := by
  refine Met.ofW (cc := cX4_at) (maxL := 2) (ret := (some .int)) (by decide) rfl ?_
  intro p e s m args below meth c s₁ B hml hv
  obtain ⟨hargs, hsz, hP, hK, hD0, hE⟩ := hv
  subst hargs
  have hx := B.exec
  have hb := B.bytes
  have hr := B.returns
  have hts := atoms_spec (ws := wsX4_at) B.pre
  have hown : s.vm.findClass RX4 = some m.cls := findClass_of_methodNamed B.named
  have hlocks := B.notSynchronized
  subst hsz
  have hD := hD0.self (sz := s.heap.size)
  generalize hAe : va_A [(o, .inr (4, [.ref o_a])), (o_a, .inl (cI, o_n, .inl o_f))] s.heap.size = A at hD ⊢
  have hA : ∀ q : Nat, s.heap.size ≤ q → A q := fun q h => by rw [← hAe]; exact Or.inr h
  have hS : va_S A s.heap s.heap [] := va_S.rf
  have hl := lv_entry ([.ref o, .int a1]) (n := 2) (Nat.le_of_ble_eq_true rfl)
  rw [lg_entry_eq]
  generalize (lg_sl ([.ref o, .int a1]) ++ List.replicate (2 - (lg_sl ([.ref o, .int a1])).length) Slot.unset).toArray = ls at hl ⊢
  have hl : lv_has ls 2 [(0, .ref o), (1, .int a1)] := hl
  refine wq (X := fun Q => ∀ (pc : Nat) (H : Heap) (locs : List Loc) (ls : Array Slot) (r : Int32) (u : Unit) (hd : decode cX4_at pc = .ok (.ireturn, 1)) (hp : r = fX4_at a1 o_f o_n) (hP : va_P D vwCl [(o, .inr (4, [.ref o_a])), (o_a, .inl (cI, o_n, .inl o_f))] H) (hD : va_D A [(o, .inr (4, [.ref o_a])), (o_a, .inl (cI, o_n, .inl o_f))]) (hS : va_S A s.heap H locs), W p l e ({ frames := 0, cells := 0, slots := 0, locals := 0 } : Room) s m ([.ref o, .int a1] : List Value).toArray below meth c H locs 0 0 Q (F0 m pc ls [.int r])) ?_ (fun Q hret => ?_)
  · intro pc H locs ls r u hd hp hP hD hS
    exact W.iret (v := r) hx hb hr (fun t ht hW => ⟨⟨r, u, rfl, hp, by rw [ht]; exact hP, va_K.moved hW.alike hK, hD⟩, hS.F ht⟩) hS.2.2 hd
  have hin_4 : ∀ w ∈ u_ws RX4 TX4 1, w ∈ wsX4_at := by decide +kernel
  have fl_13 := hts (.fieldLink RX4 13 "MileRoad$Row" "cells" "[I") (by decide +kernel)
  have zl_0 : (0 : Int32).toInt = 0 := by decide
  have zn : (Int32.ofNat o_n).toInt = (o_n : Int) := z_ofNat (by omega)
  have hF : fX4_at a1 o_f o_n = fX4_at a1 o_f o_n := rfl
  refine lv_iload_n hx hb dX4_at_0 rfl (lv_at hl 1 rfl) ?_
  have K_y_1 : ∀ (y_1 : Int32) (hy_y_1 : (if a1 < 0 then 0 else (if (Int32.ofNat o_n) ≤ a1 then 0 else (o_f a1.toNatClampNeg))) = y_1) (H : Heap) (locs : List Loc) (hP : va_P D vwCl [(o, .inr (4, [.ref o_a])), (o_a, .inl (cI, o_n, .inl o_f))] H) (hD : va_D A [(o, .inr (4, [.ref o_a])), (o_a, .inl (cI, o_n, .inl o_f))]) (hS : va_S A s.heap H locs), W p l e ({ frames := 0, cells := 0, slots := 0, locals := 0 } : Room) s m ([.ref o, .int a1] : List Value).toArray below meth c H locs 0 0 Q (F0 m 23 ls [.int y_1]) := by
    intro y_1 hy_y_1 H locs hP hD hS
    have ky_y_1 : y_1 = (o_f a1.toNatClampNeg) ∨ y_1 = 0 := by rw [← hy_y_1]; (repeat' split) <;> simp
    exact hret _ _ _ _ y_1 () dX4_at_23 ((hF.trans (by simp only [fX4_at, xlet, ↓hy_y_1])).symm) hP hD hS
  refine lv_if_lt (tgt := 22) hx hb dX4_at_1 (by decide) (fun c_1 => ?_) (fun c_1 => ?_)
  · have kc_1 := t_lt c_1
    refine lv_iconst (v := 0) hx hb dX4_at_22 (by decide) ?_
    exact K_y_1 _ (by simp only [xlet, if_pos c_1]) _ _ hP hD hS
  · have kc_1 := t_nlt c_1
    refine lv_iload_n hx hb dX4_at_4 rfl (lv_at hl 1 rfl) ?_
    refine lv_aload_n hx hb dX4_at_5 rfl (lv_at hl 0 rfl) ?_
    refine xget hx hb hts hown hK 4 (C2 := RX4) (T := TX4) (N := 1) rfl hin_4 hP 0 rfl 0 (by decide) fl_13 rfl rfl rfl dX4_at_6 ?_
    refine va_alen hx hb hK hP 1 0 rfl rfl (v := (Int32.ofNat o_n)) rfl dX4_at_9 ?_
    refine lv_icmp_ge (tgt := 22) hx hb dX4_at_10 (by decide) (fun c_2 => ?_) (fun c_2 => ?_)
    · have kc_2 := t_le c_2
      refine lv_iconst (v := 0) hx hb dX4_at_22 (by decide) ?_
      exact K_y_1 _ (by simp only [xlet, if_neg c_1, if_pos c_2]) _ _ hP hD hS
    · have kc_2 := t_nle c_2
      refine lv_aload_n hx hb dX4_at_13 rfl (lv_at hl 0 rfl) ?_
      refine xget hx hb hts hown hK 4 (C2 := RX4) (T := TX4) (N := 1) rfl hin_4 hP 0 rfl 0 (by decide) fl_13 rfl rfl rfl dX4_at_14 ?_
      refine lv_iload_n hx hb dX4_at_17 rfl (lv_at hl 1 rfl) ?_
      refine xald hx hb hK hP 1 0 (k := a1.toNatClampNeg) rfl rfl (vi (by omega) (by omega)) rfl dX4_at_18 ?_
      refine lv_goto (tgt := 23) hx hb dX4_at_19 (by decide) ?_
      exact K_y_1 _ (by simp only [xlet, if_neg c_1, if_neg c_2]) _ _ hP hD hS
theorem dX4_put_0 : decode cX4_put 0 = .ok (.iload_n 1, 1) := by decide +kernel
theorem dX4_put_1 : decode cX4_put 1 = .ok (.ifCond .lt 19, 3) := by decide +kernel
theorem dX4_put_4 : decode cX4_put 4 = .ok (.iload_n 1, 1) := by decide +kernel
theorem dX4_put_5 : decode cX4_put 5 = .ok (.aload_n 0, 1) := by decide +kernel
theorem dX4_put_6 : decode cX4_put 6 = .ok (.getfield 13, 3) := by decide +kernel
theorem dX4_put_9 : decode cX4_put 9 = .ok (.arraylength, 1) := by decide +kernel
theorem dX4_put_10 : decode cX4_put 10 = .ok (.if_icmp .ge 10, 3) := by decide +kernel
theorem dX4_put_13 : decode cX4_put 13 = .ok (.aload_n 0, 1) := by decide +kernel
theorem dX4_put_14 : decode cX4_put 14 = .ok (.getfield 13, 3) := by decide +kernel
theorem dX4_put_17 : decode cX4_put 17 = .ok (.iload_n 1, 1) := by decide +kernel
theorem dX4_put_18 : decode cX4_put 18 = .ok (.iload_n 2, 1) := by decide +kernel
theorem dX4_put_19 : decode cX4_put 19 = .ok (.iastore, 1) := by decide +kernel
theorem dX4_put_20 : decode cX4_put 20 = .ok (.return_, 1) := by decide +kernel
def fX4_put (a1 : Int32) (a2 : Int32) (o_f : Nat → Int32) (o_n : Nat) : (Nat → Int32) := if a1 < 0 then o_f else (if (Int32.ofNat o_n) ≤ a1 then o_f else ((upd o_f a1.toNatClampNeg a2)))
set_option maxHeartbeats 4000000 in
set_option maxRecDepth 100000 in
theorem c_X4_put (l : Launch) (D : va_G) (cI cZ : ClassId) (sz : Nat) (o : Nat) (a1 : Int32) (a2 : Int32) (o_a : Nat) (o_f : Nat → Int32) (o_n : Nat) (ho_n : o_n < 900) : Met l yX4_put wsX4_put ({ frames := 0, cells := 0, slots := 0, locals := 0 } : Room) (va_Pc [.ref o, .int a1, .int a2] (xP D cI cZ [(o, .inr (4, [.ref o_a])), (o_a, .inl (cI, o_n, .inl o_f))] sz)) (va_Qv (fun (u : (Nat → Int32)) => u = fX4_put a1 a2 o_f o_n) (fun (u : (Nat → Int32)) t => xB D cI cZ [(o, .inr (4, [.ref o_a])), (o_a, .inl (cI, o_n, .inl u))] (va_A [(o, .inr (4, [.ref o_a])), (o_a, .inl (cI, o_n, .inl o_f))] sz) t) (va_A [(o, .inr (4, [.ref o_a])), (o_a, .inl (cI, o_n, .inl o_f))] sz)) 0 0 (va_A [(o, .inr (4, [.ref o_a])), (o_a, .inl (cI, o_n, .inl o_f))] sz) := by
  refine Met.ofW (cc := cX4_put) (maxL := 3) (ret := none) (by decide) rfl ?_
  intro p e s m args below meth c s₁ B hml hv
  obtain ⟨hargs, hsz, hP, hK, hD0, hE⟩ := hv
  subst hargs
  have hx := B.exec
  have hb := B.bytes
  have hr := B.returns
  have hts := atoms_spec (ws := wsX4_put) B.pre
  have hown : s.vm.findClass RX4 = some m.cls := findClass_of_methodNamed B.named
  have hlocks := B.notSynchronized
  subst hsz
  have hD := hD0.self (sz := s.heap.size)
  generalize hAe : va_A [(o, .inr (4, [.ref o_a])), (o_a, .inl (cI, o_n, .inl o_f))] s.heap.size = A at hD ⊢
  have hA : ∀ q : Nat, s.heap.size ≤ q → A q := fun q h => by rw [← hAe]; exact Or.inr h
  have hS : va_S A s.heap s.heap [] := va_S.rf
  have hl := lv_entry ([.ref o, .int a1, .int a2]) (n := 3) (Nat.le_of_ble_eq_true rfl)
  rw [lg_entry_eq]
  generalize (lg_sl ([.ref o, .int a1, .int a2]) ++ List.replicate (3 - (lg_sl ([.ref o, .int a1, .int a2])).length) Slot.unset).toArray = ls at hl ⊢
  have hl : lv_has ls 3 [(0, .ref o), (1, .int a1), (2, .int a2)] := hl
  refine wq (X := fun Q => ∀ (pc : Nat) (H : Heap) (locs : List Loc) (ls : Array Slot) (u : (Nat → Int32)) (hd : decode cX4_put pc = .ok (.return_, 1)) (hp : u = fX4_put a1 a2 o_f o_n) (hP : va_P D vwCl [(o, .inr (4, [.ref o_a])), (o_a, .inl (cI, o_n, .inl u))] H) (hD : va_D A [(o, .inr (4, [.ref o_a])), (o_a, .inl (cI, o_n, .inl u))]) (hS : va_S A s.heap H locs), W p l e ({ frames := 0, cells := 0, slots := 0, locals := 0 } : Room) s m ([.ref o, .int a1, .int a2] : List Value).toArray below meth c H locs 0 0 Q (F0 m pc ls [])) ?_ (fun Q hret => ?_)
  · intro pc H locs ls u hd hp hP hD hS
    exact W.vret hx hb hr (fun t ht hW => ⟨⟨u, rfl, hp, by rw [ht]; exact hP, va_K.moved hW.alike hK, hD⟩, hS.F ht⟩) hS.2.2 hd
  have hin_4 : ∀ w ∈ u_ws RX4 TX4 1, w ∈ wsX4_put := by decide +kernel
  have fl_13 := hts (.fieldLink RX4 13 "MileRoad$Row" "cells" "[I") (by decide +kernel)
  have zl_0 : (0 : Int32).toInt = 0 := by decide
  have zn : (Int32.ofNat o_n).toInt = (o_n : Int) := z_ofNat (by omega)
  have hF : fX4_put a1 a2 o_f o_n = fX4_put a1 a2 o_f o_n := rfl
  refine lv_iload_n hx hb dX4_put_0 rfl (lv_at hl 1 rfl) ?_
  refine lv_if_lt (tgt := 20) hx hb dX4_put_1 (by decide) (fun c_1 => ?_) (fun c_1 => ?_)
  · have kc_1 := t_lt c_1
    exact hret _ _ _ _ o_f dX4_put_20 ((hF.trans (by simp only [fX4_put, xlet, if_pos c_1])).symm) hP hD hS
  · have kc_1 := t_nlt c_1
    refine lv_iload_n hx hb dX4_put_4 rfl (lv_at hl 1 rfl) ?_
    refine lv_aload_n hx hb dX4_put_5 rfl (lv_at hl 0 rfl) ?_
    refine xget hx hb hts hown hK 4 (C2 := RX4) (T := TX4) (N := 1) rfl hin_4 hP 0 rfl 0 (by decide) fl_13 rfl rfl rfl dX4_put_6 ?_
    refine va_alen hx hb hK hP 1 0 rfl rfl (v := (Int32.ofNat o_n)) rfl dX4_put_9 ?_
    refine lv_icmp_ge (tgt := 20) hx hb dX4_put_10 (by decide) (fun c_2 => ?_) (fun c_2 => ?_)
    · have kc_2 := t_le c_2
      exact hret _ _ _ _ o_f dX4_put_20 ((hF.trans (by simp only [fX4_put, xlet, if_neg c_1, if_pos c_2])).symm) hP hD hS
    · have kc_2 := t_nle c_2
      refine lv_aload_n hx hb dX4_put_13 rfl (lv_at hl 0 rfl) ?_
      refine xget hx hb hts hown hK 4 (C2 := RX4) (T := TX4) (N := 1) rfl hin_4 hP 0 rfl 0 (by decide) fl_13 rfl rfl rfl dX4_put_14 ?_
      refine lv_iload_n hx hb dX4_put_17 rfl (lv_at hl 1 rfl) ?_
      refine lv_iload_n hx hb dX4_put_18 rfl (lv_at hl 2 rfl) ?_
      refine xast hx hb hK hP hD hS 1 0 (k := a1.toNatClampNeg) rfl rfl (vi (by omega) (by omega)) rfl dX4_put_19 [(o, .inr (4, [.ref o_a])), (o_a, .inl (cI, o_n, .inl (upd o_f a1.toNatClampNeg a2)))] rfl (fun H locs hP hD hS => ?_)
      exact hret _ _ _ _ (upd o_f a1.toNatClampNeg a2) dX4_put_20 ((hF.trans (by simp only [fX4_put, xlet, if_neg c_1, if_neg c_2])).symm) hP hD hS
set_option maxRecDepth 20000 in
theorem ggX4_take_X4_at : GoodIn wsX4_take wsX4_at := goodIn_r _ [6, 1, 7] (by decide +kernel) (by decide +kernel)
set_option maxRecDepth 20000 in
theorem gX4_take_X4_at : GoodIn wsX4_take (wsV RX4 19 RX4 yX4_at wsX4_at) := goodIn_app (goodIn_of _ (by decide +kernel)) ggX4_take_X4_at
theorem dX4_take_0 : decode cX4_take 0 = .ok (.iconst 0, 1) := by decide +kernel
theorem dX4_take_1 : decode cX4_take 1 = .ok (.istore_n 2, 1) := by decide +kernel
theorem dX4_take_2 : decode cX4_take 2 = .ok (.iload_n 2, 1) := by decide +kernel
theorem dX4_take_3 : decode cX4_take 3 = .ok (.aload_n 0, 1) := by decide +kernel
theorem dX4_take_4 : decode cX4_take 4 = .ok (.getfield 13, 3) := by decide +kernel
theorem dX4_take_7 : decode cX4_take 7 = .ok (.arraylength, 1) := by decide +kernel
theorem dX4_take_8 : decode cX4_take 8 = .ok (.if_icmp .ge 20, 3) := by decide +kernel
theorem dX4_take_11 : decode cX4_take 11 = .ok (.aload_n 0, 1) := by decide +kernel
theorem dX4_take_12 : decode cX4_take 12 = .ok (.getfield 13, 3) := by decide +kernel
theorem dX4_take_15 : decode cX4_take 15 = .ok (.iload_n 2, 1) := by decide +kernel
theorem dX4_take_16 : decode cX4_take 16 = .ok (.aload_n 1, 1) := by decide +kernel
theorem dX4_take_17 : decode cX4_take 17 = .ok (.iload_n 2, 1) := by decide +kernel
theorem dX4_take_18 : decode cX4_take 18 = .ok (.invokevirtual 19, 3) := by decide +kernel
theorem dX4_take_21 : decode cX4_take 21 = .ok (.iastore, 1) := by decide +kernel
theorem dX4_take_22 : decode cX4_take 22 = .ok (.iinc 2 1, 3) := by decide +kernel
theorem dX4_take_25 : decode cX4_take 25 = .ok (.goto (-23), 3) := by decide +kernel
theorem dX4_take_28 : decode cX4_take 28 = .ok (.return_, 1) := by decide +kernel
def fX4_take_2 (o_n : Nat) (a1_f : Nat → Int32) (a1_n : Nat)  : Nat → (Nat → Int32) → Int32 → (Nat → Int32)
  | 0, _, _ => default
  | n + 1, o_a_f_2, v2_2 => if (Int32.ofNat o_n) ≤ v2_2 then o_a_f_2 else (fX4_take_2 o_n a1_f a1_n n (upd o_a_f_2 v2_2.toNatClampNeg (fX4_at v2_2 a1_f a1_n)) (v2_2 + 1))
def fX4_take (o_f : Nat → Int32) (o_n : Nat) (a1_f : Nat → Int32) (a1_n : Nat) : (Nat → Int32) := fX4_take_2 o_n a1_f a1_n 1000 o_f 0
set_option maxHeartbeats 4000000 in
set_option maxRecDepth 100000 in
theorem c_X4_take (l : Launch) (D : va_G) (cI cZ : ClassId) (sz : Nat) (o : Nat) (a1 : Nat) (o_a : Nat) (o_f : Nat → Int32) (o_n : Nat) (a1_a : Nat) (a1_f : Nat → Int32) (a1_n : Nat) (ho_n : o_n < 900) (ha1_n : a1_n < 900) : Met l yX4_take wsX4_take ({ frames := 1, cells := 0, slots := 0, locals := 21 } : Room) (va_Pc [.ref o, .ref a1] (xP D cI cZ [(o, .inr (4, [.ref o_a])), (o_a, .inl (cI, o_n, .inl o_f)), (a1, .inr (4, [.ref a1_a])), (a1_a, .inl (cI, a1_n, .inl a1_f))] sz)) (va_Qv (fun (u : (Nat → Int32)) => u = fX4_take o_f o_n a1_f a1_n) (fun (u : (Nat → Int32)) t => xB D cI cZ [(o, .inr (4, [.ref o_a])), (o_a, .inl (cI, o_n, .inl u)), (a1, .inr (4, [.ref a1_a])), (a1_a, .inl (cI, a1_n, .inl a1_f))] (va_A [(o, .inr (4, [.ref o_a])), (o_a, .inl (cI, o_n, .inl o_f)), (a1, .inr (4, [.ref a1_a])), (a1_a, .inl (cI, a1_n, .inl a1_f))] sz) t) (va_A [(o, .inr (4, [.ref o_a])), (o_a, .inl (cI, o_n, .inl o_f)), (a1, .inr (4, [.ref a1_a])), (a1_a, .inl (cI, a1_n, .inl a1_f))] sz)) 0 0 (va_A [(o, .inr (4, [.ref o_a])), (o_a, .inl (cI, o_n, .inl o_f)), (a1, .inr (4, [.ref a1_a])), (a1_a, .inl (cI, a1_n, .inl a1_f))] sz) := by
  refine Met.ofW (cc := cX4_take) (maxL := 3) (ret := none) (by decide) rfl ?_
  intro p e s m args below meth c s₁ B hml hv
  obtain ⟨hargs, hsz, hP, hK, hD0, hE⟩ := hv
  subst hargs
  have hx := B.exec
  have hb := B.bytes
  have hr := B.returns
  have hts := atoms_spec (ws := wsX4_take) B.pre
  have hown : s.vm.findClass RX4 = some m.cls := findClass_of_methodNamed B.named
  have hlocks := B.notSynchronized
  subst hsz
  have hD := hD0.self (sz := s.heap.size)
  generalize hAe : va_A [(o, .inr (4, [.ref o_a])), (o_a, .inl (cI, o_n, .inl o_f)), (a1, .inr (4, [.ref a1_a])), (a1_a, .inl (cI, a1_n, .inl a1_f))] s.heap.size = A at hD ⊢
  have hA : ∀ q : Nat, s.heap.size ≤ q → A q := fun q h => by rw [← hAe]; exact Or.inr h
  have hS : va_S A s.heap s.heap [] := va_S.rf
  have hl := lv_entry ([.ref o, .ref a1]) (n := 3) (Nat.le_of_ble_eq_true rfl)
  rw [lg_entry_eq]
  generalize (lg_sl ([.ref o, .ref a1]) ++ List.replicate (3 - (lg_sl ([.ref o, .ref a1])).length) Slot.unset).toArray = ls at hl ⊢
  have hl : lv_has ls 3 [(0, .ref o), (1, .ref a1)] := hl
  refine wq (X := fun Q => ∀ (pc : Nat) (H : Heap) (locs : List Loc) (ls : Array Slot) (u : (Nat → Int32)) (hd : decode cX4_take pc = .ok (.return_, 1)) (hp : u = fX4_take o_f o_n a1_f a1_n) (hP : va_P D vwCl [(o, .inr (4, [.ref o_a])), (o_a, .inl (cI, o_n, .inl u)), (a1, .inr (4, [.ref a1_a])), (a1_a, .inl (cI, a1_n, .inl a1_f))] H) (hD : va_D A [(o, .inr (4, [.ref o_a])), (o_a, .inl (cI, o_n, .inl u)), (a1, .inr (4, [.ref a1_a])), (a1_a, .inl (cI, a1_n, .inl a1_f))]) (hS : va_S A s.heap H locs), W p l e ({ frames := 1, cells := 0, slots := 0, locals := 21 } : Room) s m ([.ref o, .ref a1] : List Value).toArray below meth c H locs 0 0 Q (F0 m pc ls [])) ?_ (fun Q hret => ?_)
  · intro pc H locs ls u hd hp hP hD hS
    exact W.vret hx hb hr (fun t ht hW => ⟨⟨u, rfl, hp, by rw [ht]; exact hP, va_K.moved hW.alike hK, hD⟩, hS.F ht⟩) hS.2.2 hd
  have hin_4 : ∀ w ∈ u_ws RX4 TX4 1, w ∈ wsX4_take := by decide +kernel
  have fl_13 := hts (.fieldLink RX4 13 "MileRoad$Row" "cells" "[I") (by decide +kernel)
  have zl_0 : (0 : Int32).toInt = 0 := by decide
  have zl_1 : (1 : Int32).toInt = 1 := by decide
  have zn : (Int32.ofNat o_n).toInt = (o_n : Int) := z_ofNat (by omega)
  have hF : fX4_take o_f o_n a1_f a1_n = fX4_take o_f o_n a1_f a1_n := rfl
  have L_2 : ∀ (n : Nat) (o_a_f_2 : Nat → Int32) (v2_2 : Int32) (h1_2 : 0 ≤ v2_2.toInt) (h2_2 : v2_2.toInt ≤ (o_n : Int)) (hm : (o_n : Int) - v2_2.toInt < (n : Int)) (H : Heap) (locs : List Loc) (ls : Array Slot) (hl : lv_has ls 3 [(0, .ref o), (1, .ref a1), (2, .int v2_2)]) (hP : va_P D vwCl [(o, .inr (4, [.ref o_a])), (o_a, .inl (cI, o_n, .inl o_a_f_2)), (a1, .inr (4, [.ref a1_a])), (a1_a, .inl (cI, a1_n, .inl a1_f))] H) (hD : va_D A [(o, .inr (4, [.ref o_a])), (o_a, .inl (cI, o_n, .inl o_a_f_2)), (a1, .inr (4, [.ref a1_a])), (a1_a, .inl (cI, a1_n, .inl a1_f))]) (hS : va_S A s.heap H locs) (hF : fX4_take o_f o_n a1_f a1_n = fX4_take_2 o_n a1_f a1_n n o_a_f_2 v2_2), W p l e ({ frames := 1, cells := 0, slots := 0, locals := 21 } : Room) s m ([.ref o, .ref a1] : List Value).toArray below meth c H locs 0 0 Q (F0 m 2 ls []) := by
    intro n
    induction n with
    | zero =>
      intro o_a_f_2 v2_2 h1_2 h2_2 hm H locs ls hl hP hD hS hF
      exact absurd hm (by omega)
    | succ n ih_2 =>
      intro o_a_f_2 v2_2 h1_2 h2_2 hm H locs ls hl hP hD hS hF
      refine lv_iload_n hx hb dX4_take_2 rfl (lv_at hl 2 rfl) ?_
      refine lv_aload_n hx hb dX4_take_3 rfl (lv_at hl 0 rfl) ?_
      refine xget hx hb hts hown hK 4 (C2 := RX4) (T := TX4) (N := 1) rfl hin_4 hP 0 rfl 0 (by decide) fl_13 rfl rfl rfl dX4_take_4 ?_
      refine va_alen hx hb hK hP 1 0 rfl rfl (v := (Int32.ofNat o_n)) rfl dX4_take_7 ?_
      refine lv_icmp_ge (tgt := 28) hx hb dX4_take_8 (by decide) (fun c_1 => ?_) (fun c_1 => ?_)
      · have kc_1 := t_le c_1
        exact hret _ _ _ _ o_a_f_2 dX4_take_28 ((hF.trans (by simp only [fX4_take_2, xlet, if_pos c_1])).symm) hP hD hS
      · have kc_1 := t_nle c_1
        refine lv_aload_n hx hb dX4_take_11 rfl (lv_at hl 0 rfl) ?_
        refine xget hx hb hts hown hK 4 (C2 := RX4) (T := TX4) (N := 1) rfl hin_4 hP 0 rfl 0 (by decide) fl_13 rfl rfl rfl dX4_take_12 ?_
        refine lv_iload_n hx hb dX4_take_15 rfl (lv_at hl 2 rfl) ?_
        refine lv_aload_n hx hb dX4_take_16 rfl (lv_at hl 1 rfl) ?_
        refine lv_iload_n hx hb dX4_take_17 rfl (lv_at hl 2 rfl) ?_
        refine xcalli (S := Unit) (Wc := [(a1, .inr (4, [.ref a1_a])), (a1_a, .inl (cI, a1_n, .inl a1_f))]) (wr := [(o, .inr (4, [.ref o_a])), (o_a, .inl (cI, o_n, .inl o_a_f_2))]) (W1 := (fun (u : Unit) => [(a1, .inr (4, [.ref a1_a])), (a1_a, .inl (cI, a1_n, .inl a1_f))])) (Wn := (fun (u : Unit) => [(o, .inr (4, [.ref o_a])), (o_a, .inl (cI, o_n, .inl o_a_f_2)), (a1, .inr (4, [.ref a1_a])), (a1_a, .inl (cI, a1_n, .inl a1_f))])) (xrunV hx hb hml hown hts (c_X4_at l D cI cZ _ a1 v2_2 a1_a a1_f a1_n ha1_n) (cwV 1 hts gX4_take_X4_at rfl rfl rfl (by decide +kernel) ⟨Nat.le_of_ble_eq_true rfl, Nat.le_of_ble_eq_true rfl⟩) hE hK hP hD [2, 3] rfl rfl 0 4 (T := TX4) (N := 1) rfl rfl rfl hl.1 rfl (Nat.le_of_ble_eq_true rfl) dX4_take_18 ⟨Nat.le_of_ble_eq_true rfl, Nat.le_of_ble_eq_true rfl⟩) hP hD hS hA [2, 3] [0, 1] [0, 1, 2, 3] rfl rfl rfl (by decide) (fun _ => rfl) rfl (fun r1 u H locs hw hz hP hD hS => ?_)
        subst hw
        refine xast hx hb hK hP hD hS 1 0 (k := v2_2.toNatClampNeg) rfl rfl (vi (by omega) (by omega)) rfl dX4_take_21 [(o, .inr (4, [.ref o_a])), (o_a, .inl (cI, o_n, .inl (upd o_a_f_2 v2_2.toNatClampNeg (fX4_at v2_2 a1_f a1_n)))), (a1, .inr (4, [.ref a1_a])), (a1_a, .inl (cI, a1_n, .inl a1_f))] rfl (fun H locs hP hD hS => ?_)
        refine lv_iinc (v := (v2_2 + 1)) (lv' := [(2, .int (v2_2 + 1)), (0, .ref o), (1, .ref a1)]) hx hb dX4_take_22 hl (k := 2) rfl (by rfl) (by decide) rfl (fun ls hl => ?_)
        refine lv_goto (tgt := 2) hx hb dX4_take_25 (by decide) ?_
        have z_1 : (v2_2 + 1).toInt = v2_2.toInt + (1 : Int32).toInt := z_add (by omega) (by omega)
        exact ih_2 (upd o_a_f_2 v2_2.toNatClampNeg (fX4_at v2_2 a1_f a1_n)) (v2_2 + 1) (by first | assumption | omega | decide | (split <;> rename_i hh <;> first | (have h9 := t_nlt hh; omega) | (have h9 := t_lt hh; omega) | (have h9 := t_nle hh; omega) | (have h9 := t_le hh; omega))) (by first | assumption | omega | decide | (split <;> rename_i hh <;> first | (have h9 := t_nlt hh; omega) | (have h9 := t_lt hh; omega) | (have h9 := t_nle hh; omega) | (have h9 := t_le hh; omega))) (by first | assumption | omega | decide | (split <;> rename_i hh <;> first | (have h9 := t_nlt hh; omega) | (have h9 := t_lt hh; omega) | (have h9 := t_nle hh; omega) | (have h9 := t_le hh; omega))) _ _ _ (lv_sub hl [1, 2, 0] rfl) hP hD hS (hF.trans (by simp only [fX4_take_2, xlet, if_neg c_1]))
  refine lv_iconst (v := 0) hx hb dX4_take_0 (by decide) ?_
  refine lv_istore_n (lv' := [(2, .int 0), (0, .ref o), (1, .ref a1)]) hx hb dX4_take_1 rfl hl (by decide) rfl (fun ls hl => ?_)
  exact L_2 1000 o_f 0 (by first | assumption | omega | decide | (split <;> rename_i hh <;> first | (have h9 := t_nlt hh; omega) | (have h9 := t_lt hh; omega) | (have h9 := t_nle hh; omega) | (have h9 := t_le hh; omega))) (by first | assumption | omega | decide | (split <;> rename_i hh <;> first | (have h9 := t_nlt hh; omega) | (have h9 := t_lt hh; omega) | (have h9 := t_nle hh; omega) | (have h9 := t_le hh; omega))) (by first | assumption | omega | decide | (split <;> rename_i hh <;> first | (have h9 := t_nlt hh; omega) | (have h9 := t_lt hh; omega) | (have h9 := t_nle hh; omega) | (have h9 := t_le hh; omega))) _ _ _ (lv_sub hl [1, 2, 0] rfl) hP hD hS (hF.trans (by simp only [fX4_take, xlet]))
theorem dX4_shift_0 : decode cX4_shift 0 = .ok (.iconst 1, 1) := by decide +kernel
theorem dX4_shift_1 : decode cX4_shift 1 = .ok (.istore_n 1, 1) := by decide +kernel
theorem dX4_shift_2 : decode cX4_shift 2 = .ok (.iload_n 1, 1) := by decide +kernel
theorem dX4_shift_3 : decode cX4_shift 3 = .ok (.aload_n 0, 1) := by decide +kernel
theorem dX4_shift_4 : decode cX4_shift 4 = .ok (.getfield 13, 3) := by decide +kernel
theorem dX4_shift_7 : decode cX4_shift 7 = .ok (.arraylength, 1) := by decide +kernel
theorem dX4_shift_8 : decode cX4_shift 8 = .ok (.if_icmp .ge 23, 3) := by decide +kernel
theorem dX4_shift_11 : decode cX4_shift 11 = .ok (.aload_n 0, 1) := by decide +kernel
theorem dX4_shift_12 : decode cX4_shift 12 = .ok (.getfield 13, 3) := by decide +kernel
theorem dX4_shift_15 : decode cX4_shift 15 = .ok (.iload_n 1, 1) := by decide +kernel
theorem dX4_shift_16 : decode cX4_shift 16 = .ok (.iconst 1, 1) := by decide +kernel
theorem dX4_shift_17 : decode cX4_shift 17 = .ok (.isub, 1) := by decide +kernel
theorem dX4_shift_18 : decode cX4_shift 18 = .ok (.aload_n 0, 1) := by decide +kernel
theorem dX4_shift_19 : decode cX4_shift 19 = .ok (.getfield 13, 3) := by decide +kernel
theorem dX4_shift_22 : decode cX4_shift 22 = .ok (.iload_n 1, 1) := by decide +kernel
theorem dX4_shift_23 : decode cX4_shift 23 = .ok (.iaload, 1) := by decide +kernel
theorem dX4_shift_24 : decode cX4_shift 24 = .ok (.iastore, 1) := by decide +kernel
theorem dX4_shift_25 : decode cX4_shift 25 = .ok (.iinc 1 1, 3) := by decide +kernel
theorem dX4_shift_28 : decode cX4_shift 28 = .ok (.goto (-26), 3) := by decide +kernel
theorem dX4_shift_31 : decode cX4_shift 31 = .ok (.return_, 1) := by decide +kernel
def fX4_shift_2 (o_n : Nat)  : Nat → (Nat → Int32) → Int32 → (Nat → Int32)
  | 0, _, _ => default
  | n + 1, o_a_f_2, v2_1 => if (Int32.ofNat o_n) ≤ v2_1 then o_a_f_2 else (fX4_shift_2 o_n n (upd o_a_f_2 (v2_1 - 1).toNatClampNeg (o_a_f_2 v2_1.toNatClampNeg)) (v2_1 + 1))
def fX4_shift (o_f : Nat → Int32) (o_n : Nat) : (Nat → Int32) := fX4_shift_2 o_n 1000 o_f 1
set_option maxHeartbeats 4000000 in
set_option maxRecDepth 100000 in
theorem c_X4_shift (l : Launch) (D : va_G) (cI cZ : ClassId) (sz : Nat) (o : Nat) (o_a : Nat) (o_f : Nat → Int32) (o_n : Nat) (ho_n : o_n < 900) : Met l yX4_shift wsX4_shift ({ frames := 0, cells := 0, slots := 0, locals := 0 } : Room) (va_Pc [.ref o] (xP D cI cZ [(o, .inr (4, [.ref o_a])), (o_a, .inl (cI, o_n, .inl o_f))] sz)) (va_Qv (fun (u : (Nat → Int32)) => u = fX4_shift o_f o_n) (fun (u : (Nat → Int32)) t => xB D cI cZ [(o, .inr (4, [.ref o_a])), (o_a, .inl (cI, o_n, .inl u))] (va_A [(o, .inr (4, [.ref o_a])), (o_a, .inl (cI, o_n, .inl o_f))] sz) t) (va_A [(o, .inr (4, [.ref o_a])), (o_a, .inl (cI, o_n, .inl o_f))] sz)) 0 0 (va_A [(o, .inr (4, [.ref o_a])), (o_a, .inl (cI, o_n, .inl o_f))] sz) := by
  refine Met.ofW (cc := cX4_shift) (maxL := 2) (ret := none) (by decide) rfl ?_
  intro p e s m args below meth c s₁ B hml hv
  obtain ⟨hargs, hsz, hP, hK, hD0, hE⟩ := hv
  subst hargs
  have hx := B.exec
  have hb := B.bytes
  have hr := B.returns
  have hts := atoms_spec (ws := wsX4_shift) B.pre
  have hown : s.vm.findClass RX4 = some m.cls := findClass_of_methodNamed B.named
  have hlocks := B.notSynchronized
  subst hsz
  have hD := hD0.self (sz := s.heap.size)
  generalize hAe : va_A [(o, .inr (4, [.ref o_a])), (o_a, .inl (cI, o_n, .inl o_f))] s.heap.size = A at hD ⊢
  have hA : ∀ q : Nat, s.heap.size ≤ q → A q := fun q h => by rw [← hAe]; exact Or.inr h
  have hS : va_S A s.heap s.heap [] := va_S.rf
  have hl := lv_entry ([.ref o]) (n := 2) (Nat.le_of_ble_eq_true rfl)
  rw [lg_entry_eq]
  generalize (lg_sl ([.ref o]) ++ List.replicate (2 - (lg_sl ([.ref o])).length) Slot.unset).toArray = ls at hl ⊢
  have hl : lv_has ls 2 [(0, .ref o)] := hl
  refine wq (X := fun Q => ∀ (pc : Nat) (H : Heap) (locs : List Loc) (ls : Array Slot) (u : (Nat → Int32)) (hd : decode cX4_shift pc = .ok (.return_, 1)) (hp : u = fX4_shift o_f o_n) (hP : va_P D vwCl [(o, .inr (4, [.ref o_a])), (o_a, .inl (cI, o_n, .inl u))] H) (hD : va_D A [(o, .inr (4, [.ref o_a])), (o_a, .inl (cI, o_n, .inl u))]) (hS : va_S A s.heap H locs), W p l e ({ frames := 0, cells := 0, slots := 0, locals := 0 } : Room) s m ([.ref o] : List Value).toArray below meth c H locs 0 0 Q (F0 m pc ls [])) ?_ (fun Q hret => ?_)
  · intro pc H locs ls u hd hp hP hD hS
    exact W.vret hx hb hr (fun t ht hW => ⟨⟨u, rfl, hp, by rw [ht]; exact hP, va_K.moved hW.alike hK, hD⟩, hS.F ht⟩) hS.2.2 hd
  have hin_4 : ∀ w ∈ u_ws RX4 TX4 1, w ∈ wsX4_shift := by decide +kernel
  have fl_13 := hts (.fieldLink RX4 13 "MileRoad$Row" "cells" "[I") (by decide +kernel)
  have zl_1 : (1 : Int32).toInt = 1 := by decide
  have zn : (Int32.ofNat o_n).toInt = (o_n : Int) := z_ofNat (by omega)
  have hF : fX4_shift o_f o_n = fX4_shift o_f o_n := rfl
  have L_2 : ∀ (n : Nat) (o_a_f_2 : Nat → Int32) (v2_1 : Int32) (h1_2 : 1 ≤ v2_1.toInt) (h2_2 : v2_1.toInt ≤ (o_n : Int) + 1) (hm : (o_n : Int) + 1 - v2_1.toInt < (n : Int)) (H : Heap) (locs : List Loc) (ls : Array Slot) (hl : lv_has ls 2 [(0, .ref o), (1, .int v2_1)]) (hP : va_P D vwCl [(o, .inr (4, [.ref o_a])), (o_a, .inl (cI, o_n, .inl o_a_f_2))] H) (hD : va_D A [(o, .inr (4, [.ref o_a])), (o_a, .inl (cI, o_n, .inl o_a_f_2))]) (hS : va_S A s.heap H locs) (hF : fX4_shift o_f o_n = fX4_shift_2 o_n n o_a_f_2 v2_1), W p l e ({ frames := 0, cells := 0, slots := 0, locals := 0 } : Room) s m ([.ref o] : List Value).toArray below meth c H locs 0 0 Q (F0 m 2 ls []) := by
    intro n
    induction n with
    | zero =>
      intro o_a_f_2 v2_1 h1_2 h2_2 hm H locs ls hl hP hD hS hF
      exact absurd hm (by omega)
    | succ n ih_2 =>
      intro o_a_f_2 v2_1 h1_2 h2_2 hm H locs ls hl hP hD hS hF
      refine lv_iload_n hx hb dX4_shift_2 rfl (lv_at hl 1 rfl) ?_
      refine lv_aload_n hx hb dX4_shift_3 rfl (lv_at hl 0 rfl) ?_
      refine xget hx hb hts hown hK 4 (C2 := RX4) (T := TX4) (N := 1) rfl hin_4 hP 0 rfl 0 (by decide) fl_13 rfl rfl rfl dX4_shift_4 ?_
      refine va_alen hx hb hK hP 1 0 rfl rfl (v := (Int32.ofNat o_n)) rfl dX4_shift_7 ?_
      refine lv_icmp_ge (tgt := 31) hx hb dX4_shift_8 (by decide) (fun c_1 => ?_) (fun c_1 => ?_)
      · have kc_1 := t_le c_1
        exact hret _ _ _ _ o_a_f_2 dX4_shift_31 ((hF.trans (by simp only [fX4_shift_2, xlet, if_pos c_1])).symm) hP hD hS
      · have kc_1 := t_nle c_1
        refine lv_aload_n hx hb dX4_shift_11 rfl (lv_at hl 0 rfl) ?_
        refine xget hx hb hts hown hK 4 (C2 := RX4) (T := TX4) (N := 1) rfl hin_4 hP 0 rfl 0 (by decide) fl_13 rfl rfl rfl dX4_shift_12 ?_
        refine lv_iload_n hx hb dX4_shift_15 rfl (lv_at hl 1 rfl) ?_
        refine lv_iconst (v := 1) hx hb dX4_shift_16 (by decide) ?_
        refine lv_isub hx hb dX4_shift_17 ?_
        refine lv_aload_n hx hb dX4_shift_18 rfl (lv_at hl 0 rfl) ?_
        refine xget hx hb hts hown hK 4 (C2 := RX4) (T := TX4) (N := 1) rfl hin_4 hP 0 rfl 0 (by decide) fl_13 rfl rfl rfl dX4_shift_19 ?_
        refine lv_iload_n hx hb dX4_shift_22 rfl (lv_at hl 1 rfl) ?_
        refine xald hx hb hK hP 1 0 (k := v2_1.toNatClampNeg) rfl rfl (vi (by omega) (by omega)) rfl dX4_shift_23 ?_
        have z_1 : (v2_1 - 1).toInt = v2_1.toInt - (1 : Int32).toInt := z_sub (by omega) (by omega)
        refine xast hx hb hK hP hD hS 1 0 (k := (v2_1 - 1).toNatClampNeg) rfl rfl (vi (by omega) (by omega)) rfl dX4_shift_24 [(o, .inr (4, [.ref o_a])), (o_a, .inl (cI, o_n, .inl (upd o_a_f_2 (v2_1 - 1).toNatClampNeg (o_a_f_2 v2_1.toNatClampNeg))))] rfl (fun H locs hP hD hS => ?_)
        refine lv_iinc (v := (v2_1 + 1)) (lv' := [(1, .int (v2_1 + 1)), (0, .ref o)]) hx hb dX4_shift_25 hl (k := 1) rfl (by rfl) (by decide) rfl (fun ls hl => ?_)
        refine lv_goto (tgt := 2) hx hb dX4_shift_28 (by decide) ?_
        have z_2 : (v2_1 + 1).toInt = v2_1.toInt + (1 : Int32).toInt := z_add (by omega) (by omega)
        exact ih_2 (upd o_a_f_2 (v2_1 - 1).toNatClampNeg (o_a_f_2 v2_1.toNatClampNeg)) (v2_1 + 1) (by first | assumption | omega | decide | (split <;> rename_i hh <;> first | (have h9 := t_nlt hh; omega) | (have h9 := t_lt hh; omega) | (have h9 := t_nle hh; omega) | (have h9 := t_le hh; omega))) (by first | assumption | omega | decide | (split <;> rename_i hh <;> first | (have h9 := t_nlt hh; omega) | (have h9 := t_lt hh; omega) | (have h9 := t_nle hh; omega) | (have h9 := t_le hh; omega))) (by first | assumption | omega | decide | (split <;> rename_i hh <;> first | (have h9 := t_nlt hh; omega) | (have h9 := t_lt hh; omega) | (have h9 := t_nle hh; omega) | (have h9 := t_le hh; omega))) _ _ _ (lv_sub hl [1, 0] rfl) hP hD hS (hF.trans (by simp only [fX4_shift_2, xlet, if_neg c_1]))
  refine lv_iconst (v := 1) hx hb dX4_shift_0 (by decide) ?_
  refine lv_istore_n (lv' := [(1, .int 1), (0, .ref o)]) hx hb dX4_shift_1 rfl hl (by decide) rfl (fun ls hl => ?_)
  exact L_2 1000 o_f 1 (by first | assumption | omega | decide | (split <;> rename_i hh <;> first | (have h9 := t_nlt hh; omega) | (have h9 := t_lt hh; omega) | (have h9 := t_nle hh; omega) | (have h9 := t_le hh; omega))) (by first | assumption | omega | decide | (split <;> rename_i hh <;> first | (have h9 := t_nlt hh; omega) | (have h9 := t_lt hh; omega) | (have h9 := t_nle hh; omega) | (have h9 := t_le hh; omega))) (by first | assumption | omega | decide | (split <;> rename_i hh <;> first | (have h9 := t_nlt hh; omega) | (have h9 := t_lt hh; omega) | (have h9 := t_nle hh; omega) | (have h9 := t_le hh; omega))) _ _ _ (lv_sub hl [1, 0] rfl) hP hD hS (hF.trans (by simp only [fX4_shift, xlet]))
theorem dX8_within_0 : decode cX8_within 0 = .ok (.iload_n 0, 1) := by decide +kernel
theorem dX8_within_1 : decode cX8_within 1 = .ok (.iload_n 1, 1) := by decide +kernel
theorem dX8_within_2 : decode cX8_within 2 = .ok (.if_icmp .lt 12, 3) := by decide +kernel
theorem dX8_within_5 : decode cX8_within 5 = .ok (.iload_n 0, 1) := by decide +kernel
theorem dX8_within_6 : decode cX8_within 6 = .ok (.iload_n 2, 1) := by decide +kernel
theorem dX8_within_7 : decode cX8_within 7 = .ok (.if_icmp .gt 7, 3) := by decide +kernel
theorem dX8_within_10 : decode cX8_within 10 = .ok (.iconst 1, 1) := by decide +kernel
theorem dX8_within_11 : decode cX8_within 11 = .ok (.goto 4, 3) := by decide +kernel
theorem dX8_within_14 : decode cX8_within 14 = .ok (.iconst 0, 1) := by decide +kernel
theorem dX8_within_15 : decode cX8_within 15 = .ok (.ireturn, 1) := by decide +kernel
def fX8_within (a1 : Int32) (a2 : Int32) (a3 : Int32) : Int32 := xlet (if a1 < a2 then (0 : Int32) else (if a3 < a1 then 0 else 1)) (fun y_1 => y_1)
set_option maxHeartbeats 4000000 in
set_option maxRecDepth 100000 in
theorem c_X8_within (l : Launch) (D : va_G) (cI cZ : ClassId) (sz : Nat) (a1 : Int32) (a2 : Int32) (a3 : Int32)  : Met l yX8_within wsX8_within ({ frames := 0, cells := 0, slots := 0, locals := 0 } : Room) (va_Pc [.int a1, .int a2, .int a3] (xP D cI cZ [] sz)) (va_Qi (fun (r : Int32) (u : Unit) => r = fX8_within a1 a2 a3) (fun (u : Unit) t => xB D cI cZ [] (va_A [] sz) t) (va_A [] sz)) 0 0 (va_A [] sz) := by
  refine Met.ofW (cc := cX8_within) (maxL := 3) (ret := (some .boolean)) (by decide) rfl ?_
  intro p e s m args below meth c s₁ B hml hv
  obtain ⟨hargs, hsz, hP, hK, hD0, hE⟩ := hv
  subst hargs
  have hx := B.exec
  have hb := B.bytes
  have hr := B.returns
  have hts := atoms_spec (ws := wsX8_within) B.pre
  have hown : s.vm.findClass RX8 = some m.cls := findClass_of_methodNamed B.named
  have hlocks := B.notSynchronized
  subst hsz
  have hD := hD0.self (sz := s.heap.size)
  generalize hAe : va_A [] s.heap.size = A at hD ⊢
  have hA : ∀ q : Nat, s.heap.size ≤ q → A q := fun q h => by rw [← hAe]; exact Or.inr h
  have hS : va_S A s.heap s.heap [] := va_S.rf
  have hl := lv_entry ([.int a1, .int a2, .int a3]) (n := 3) (Nat.le_of_ble_eq_true rfl)
  rw [lg_entry_eq]
  generalize (lg_sl ([.int a1, .int a2, .int a3]) ++ List.replicate (3 - (lg_sl ([.int a1, .int a2, .int a3])).length) Slot.unset).toArray = ls at hl ⊢
  have hl : lv_has ls 3 [(0, .int a1), (1, .int a2), (2, .int a3)] := hl
  refine wq (X := fun Q => ∀ (pc : Nat) (H : Heap) (locs : List Loc) (ls : Array Slot) (r : Int32) (u : Unit) (hn : narrow .boolean (.int r) = .int r) (hd : decode cX8_within pc = .ok (.ireturn, 1)) (hp : r = fX8_within a1 a2 a3) (hP : va_P D vwCl [] H) (hD : va_D A []) (hS : va_S A s.heap H locs), W p l e ({ frames := 0, cells := 0, slots := 0, locals := 0 } : Room) s m ([.int a1, .int a2, .int a3] : List Value).toArray below meth c H locs 0 0 Q (F0 m pc ls [.int r])) ?_ (fun Q hret => ?_)
  · intro pc H locs ls r u hn hd hp hP hD hS
    exact W.zret (v := r) hx hb hr hn (fun t ht hW => ⟨⟨r, u, rfl, hp, by rw [ht]; exact hP, va_K.moved hW.alike hK, hD⟩, hS.F ht⟩) hS.2.2 hd
  have hF : fX8_within a1 a2 a3 = fX8_within a1 a2 a3 := rfl
  refine lv_iload_n hx hb dX8_within_0 rfl (lv_at hl 0 rfl) ?_
  refine lv_iload_n hx hb dX8_within_1 rfl (lv_at hl 1 rfl) ?_
  have K_y_1 : ∀ (y_1 : Int32) (hy_y_1 : (if a1 < a2 then (0 : Int32) else (if a3 < a1 then 0 else 1)) = y_1) (H : Heap) (locs : List Loc) (hP : va_P D vwCl [] H) (hD : va_D A []) (hS : va_S A s.heap H locs), W p l e ({ frames := 0, cells := 0, slots := 0, locals := 0 } : Room) s m ([.int a1, .int a2, .int a3] : List Value).toArray below meth c H locs 0 0 Q (F0 m 15 ls [.int y_1]) := by
    intro y_1 hy_y_1 H locs hP hD hS
    have ky_y_1 : y_1 = 0 ∨ y_1 = 1 := by rw [← hy_y_1]; (repeat' split) <;> simp
    exact hret _ _ _ _ y_1 () (by rcases ky_y_1 with h | h <;> rw [h] <;> rfl) dX8_within_15 ((hF.trans (by simp only [fX8_within, xlet, ↓hy_y_1])).symm) hP hD hS
  refine lv_icmp_lt (tgt := 14) hx hb dX8_within_2 (by decide) (fun c_1 => ?_) (fun c_1 => ?_)
  · refine lv_iconst (v := 0) hx hb dX8_within_14 (by decide) ?_
    exact K_y_1 _ (by simp only [xlet, if_pos c_1]) _ _ hP hD hS
  · refine lv_iload_n hx hb dX8_within_5 rfl (lv_at hl 0 rfl) ?_
    refine lv_iload_n hx hb dX8_within_6 rfl (lv_at hl 2 rfl) ?_
    refine lv_icmp_gt (tgt := 14) hx hb dX8_within_7 (by decide) (fun c_2 => ?_) (fun c_2 => ?_)
    · refine lv_iconst (v := 0) hx hb dX8_within_14 (by decide) ?_
      exact K_y_1 _ (by simp only [xlet, if_neg c_1, if_pos c_2]) _ _ hP hD hS
    · refine lv_iconst (v := 1) hx hb dX8_within_10 (by decide) ?_
      refine lv_goto (tgt := 15) hx hb dX8_within_11 (by decide) ?_
      exact K_y_1 _ (by simp only [xlet, if_neg c_1, if_neg c_2]) _ _ hP hD hS
theorem bz_X8_within (a1 : Int32) (a2 : Int32) (a3 : Int32) : narrow .boolean (.int (fX8_within a1 a2 a3)) = .int (fX8_within a1 a2 a3) := by
  unfold fX8_within; try unfold xlet
  first | rfl | ((repeat' split) <;> first | rfl)
