set_option maxRecDepth 20000 in
theorem ggX0_play_J6_bitCount_0f7a4 : GoodIn wsX0_play wsJ6_bitCount_0f7a4 := goodIn_r _ [4, 5, 6, 7] (by decide +kernel) (by decide +kernel)
set_option maxRecDepth 20000 in
theorem gX0_play_J6_bitCount_0f7a4 : GoodIn wsX0_play (va_wsS RX0 26 yJ6_bitCount_0f7a4 wsJ6_bitCount_0f7a4) := goodIn_app (goodIn_of _ (by decide +kernel)) ggX0_play_J6_bitCount_0f7a4
set_option maxRecDepth 20000 in
theorem ggX0_play_X0_chooseBest : GoodIn wsX0_play wsX0_chooseBest := goodIn_r _ [12, 13, 14, 15, 16, 17, 11, 18, 19, 20, 21, 22, 23, 24, 25, 26, 27, 28, 29, 30, 31, 32, 33, 34, 35, 36, 37, 38, 39, 40, 41, 42, 43, 44, 45, 46, 47, 48, 49, 50, 51, 52, 53, 54, 55, 56] (by decide +kernel) (by decide +kernel)
set_option maxRecDepth 20000 in
theorem gX0_play_X0_chooseBest : GoodIn wsX0_play (wsV RX0 38 RX0 yX0_chooseBest wsX0_chooseBest) := goodIn_app (goodIn_of _ (by decide +kernel)) ggX0_play_X0_chooseBest
theorem dX0_play_0 : decode cX0_play 0 = .ok (.iload_n 2, 1) := by decide +kernel
theorem dX0_play_1 : decode cX0_play 1 = .ok (.invokestatic 26, 3) := by decide +kernel
theorem dX0_play_4 : decode cX0_play 4 = .ok (.istore_n 3, 1) := by decide +kernel
theorem dX0_play_5 : decode cX0_play 5 = .ok (.iconst 1, 1) := by decide +kernel
theorem dX0_play_6 : decode cX0_play 6 = .ok (.aload_n 1, 1) := by decide +kernel
theorem dX0_play_7 : decode cX0_play 7 = .ok (.getfield 32, 3) := by decide +kernel
theorem dX0_play_10 : decode cX0_play 10 = .ok (.ishl, 1) := by decide +kernel
theorem dX0_play_11 : decode cX0_play 11 = .ok (.iconst 1, 1) := by decide +kernel
theorem dX0_play_12 : decode cX0_play 12 = .ok (.isub, 1) := by decide +kernel
theorem dX0_play_13 : decode cX0_play 13 = .ok (.istore 4, 2) := by decide +kernel
theorem dX0_play_15 : decode cX0_play 15 = .ok (.iload 4, 2) := by decide +kernel
theorem dX0_play_17 : decode cX0_play 17 = .ok (.ifCond .lt 45, 3) := by decide +kernel
theorem dX0_play_20 : decode cX0_play 20 = .ok (.iload 4, 2) := by decide +kernel
theorem dX0_play_22 : decode cX0_play 22 = .ok (.iload_n 2, 1) := by decide +kernel
theorem dX0_play_23 : decode cX0_play 23 = .ok (.iand, 1) := by decide +kernel
theorem dX0_play_24 : decode cX0_play 24 = .ok (.iload_n 2, 1) := by decide +kernel
theorem dX0_play_25 : decode cX0_play 25 = .ok (.if_icmp .ne 31, 3) := by decide +kernel
theorem dX0_play_28 : decode cX0_play 28 = .ok (.iload 4, 2) := by decide +kernel
theorem dX0_play_30 : decode cX0_play 30 = .ok (.invokestatic 26, 3) := by decide +kernel
theorem dX0_play_33 : decode cX0_play 33 = .ok (.iload_n 3, 1) := by decide +kernel
theorem dX0_play_34 : decode cX0_play 34 = .ok (.isub, 1) := by decide +kernel
theorem dX0_play_35 : decode cX0_play 35 = .ok (.iconst 2, 1) := by decide +kernel
theorem dX0_play_36 : decode cX0_play 36 = .ok (.irem, 1) := by decide +kernel
theorem dX0_play_37 : decode cX0_play 37 = .ok (.ifCond .ne 7, 3) := by decide +kernel
theorem dX0_play_40 : decode cX0_play 40 = .ok (.iconst 1, 1) := by decide +kernel
theorem dX0_play_41 : decode cX0_play 41 = .ok (.goto 4, 3) := by decide +kernel
theorem dX0_play_44 : decode cX0_play 44 = .ok (.iconst 0, 1) := by decide +kernel
theorem dX0_play_45 : decode cX0_play 45 = .ok (.istore 5, 2) := by decide +kernel
theorem dX0_play_47 : decode cX0_play 47 = .ok (.aload_n 0, 1) := by decide +kernel
theorem dX0_play_48 : decode cX0_play 48 = .ok (.aload_n 1, 1) := by decide +kernel
theorem dX0_play_49 : decode cX0_play 49 = .ok (.iload 4, 2) := by decide +kernel
theorem dX0_play_51 : decode cX0_play 51 = .ok (.iload 5, 2) := by decide +kernel
theorem dX0_play_53 : decode cX0_play 53 = .ok (.invokevirtual 38, 3) := by decide +kernel
theorem dX0_play_56 : decode cX0_play 56 = .ok (.iinc 4 (-1), 3) := by decide +kernel
theorem dX0_play_59 : decode cX0_play 59 = .ok (.goto (-44), 3) := by decide +kernel
theorem dX0_play_62 : decode cX0_play 62 = .ok (.return_, 1) := by decide +kernel
def fX0_play_15 (a2 : Int32) (a1_walkers : Int32) (a1_steps : Int32) (a1_places_f : Nat → Int32)  : Nat → (Nat → Int32) → (Nat → Int32) → (Nat → Int32) → Int32 → (Nat → Int32) × (Nat → Int32) × (Nat → Int32)
  | 0, _, _, _, _ => default
  | n + 1, o_above_a_f_15, o_below_a_f_15, o_sent_a_f_15, v15_4 => if v15_4 < 0 then ((o_sent_a_f_15, o_above_a_f_15, o_below_a_f_15)) else (if (v15_4 &&& a2) = a2 then (xlet (if (((fJ6_bitCount_0f7a4 v15_4) - (fJ6_bitCount_0f7a4 a2)) - ((fJ6_bitCount_0f7a4 v15_4) - (fJ6_bitCount_0f7a4 a2)) / 2 * 2) = 0 then (1 : Int32) else 0) (fun y_3 => match fX0_chooseBest v15_4 y_3 o_sent_a_f_15 o_above_a_f_15 o_below_a_f_15 a1_walkers a1_steps a1_places_f with | (u3, u4, u5) => fX0_play_15 a2 a1_walkers a1_steps a1_places_f n u4 u5 u3 (v15_4 + (-1)))) else (fX0_play_15 a2 a1_walkers a1_steps a1_places_f n o_above_a_f_15 o_below_a_f_15 o_sent_a_f_15 (v15_4 + (-1))))
def fX0_play (a2 : Int32) (a1_walkers : Int32) (a1_steps : Int32) (o_sent_f : Nat → Int32) (o_above_f : Nat → Int32) (o_below_f : Nat → Int32) (a1_places_f : Nat → Int32) : (Nat → Int32) × (Nat → Int32) × (Nat → Int32) := fX0_play_15 a2 a1_walkers a1_steps a1_places_f 1000 o_above_f o_below_f o_sent_f (((1 : Int32) <<< (a1_walkers &&& 31)) - 1)
set_option maxHeartbeats 4000000 in
set_option maxRecDepth 100000 in
theorem c_X0_play (l : Launch) (D : va_G) (cI cZ : ClassId) (sz : Nat) (o : Nat) (a1 : Nat) (a2 : Int32) (a1_places : Nat) (a1_walkers : Int32) (a1_steps : Int32) (o_above : Nat) (o_below : Nat) (o_sent : Nat) (o_sent_a : Nat) (o_sent_f : Nat → Int32) (o_above_a : Nat) (o_above_f : Nat → Int32) (o_below_a : Nat) (o_below_f : Nat → Int32) (a1_places_a : Nat) (a1_places_f : Nat → Int32) (hw0 : 0 ≤ a1_walkers.toInt) (hw6 : a1_walkers.toInt ≤ 6) : Met l yX0_play wsX0_play ({ frames := 4, cells := 0, slots := 0, locals := 92 } : Room) (va_Pc [.ref o, .ref a1, .int a2] (xP D cI cZ [(a1, .inr (6, [.ref a1_places, .int a1_walkers, .int a1_steps])), (o, .inr (0, [.ref o_above, .ref o_below, .ref o_sent])), (o_sent, .inr (4, [.ref o_sent_a])), (o_sent_a, .inl (cI, 64, .inl o_sent_f)), (o_above, .inr (4, [.ref o_above_a])), (o_above_a, .inl (cI, 64, .inl o_above_f)), (o_below, .inr (4, [.ref o_below_a])), (o_below_a, .inl (cI, 64, .inl o_below_f)), (a1_places, .inr (4, [.ref a1_places_a])), (a1_places_a, .inl (cI, 6, .inl a1_places_f))] sz)) (va_Qv (fun (u : (Nat → Int32) × (Nat → Int32) × (Nat → Int32)) => u = fX0_play a2 a1_walkers a1_steps o_sent_f o_above_f o_below_f a1_places_f) (fun (u : (Nat → Int32) × (Nat → Int32) × (Nat → Int32)) t => xB D cI cZ [(a1, .inr (6, [.ref a1_places, .int a1_walkers, .int a1_steps])), (o, .inr (0, [.ref o_above, .ref o_below, .ref o_sent])), (o_sent, .inr (4, [.ref o_sent_a])), (o_sent_a, .inl (cI, 64, .inl u.1)), (o_above, .inr (4, [.ref o_above_a])), (o_above_a, .inl (cI, 64, .inl u.2.1)), (o_below, .inr (4, [.ref o_below_a])), (o_below_a, .inl (cI, 64, .inl u.2.2)), (a1_places, .inr (4, [.ref a1_places_a])), (a1_places_a, .inl (cI, 6, .inl a1_places_f))] (va_A [(a1, .inr (6, [.ref a1_places, .int a1_walkers, .int a1_steps])), (o, .inr (0, [.ref o_above, .ref o_below, .ref o_sent])), (o_sent, .inr (4, [.ref o_sent_a])), (o_sent_a, .inl (cI, 64, .inl o_sent_f)), (o_above, .inr (4, [.ref o_above_a])), (o_above_a, .inl (cI, 64, .inl o_above_f)), (o_below, .inr (4, [.ref o_below_a])), (o_below_a, .inl (cI, 64, .inl o_below_f)), (a1_places, .inr (4, [.ref a1_places_a])), (a1_places_a, .inl (cI, 6, .inl a1_places_f))] sz) t) (va_A [(a1, .inr (6, [.ref a1_places, .int a1_walkers, .int a1_steps])), (o, .inr (0, [.ref o_above, .ref o_below, .ref o_sent])), (o_sent, .inr (4, [.ref o_sent_a])), (o_sent_a, .inl (cI, 64, .inl o_sent_f)), (o_above, .inr (4, [.ref o_above_a])), (o_above_a, .inl (cI, 64, .inl o_above_f)), (o_below, .inr (4, [.ref o_below_a])), (o_below_a, .inl (cI, 64, .inl o_below_f)), (a1_places, .inr (4, [.ref a1_places_a])), (a1_places_a, .inl (cI, 6, .inl a1_places_f))] sz)) 0 0 (va_A [(a1, .inr (6, [.ref a1_places, .int a1_walkers, .int a1_steps])), (o, .inr (0, [.ref o_above, .ref o_below, .ref o_sent])), (o_sent, .inr (4, [.ref o_sent_a])), (o_sent_a, .inl (cI, 64, .inl o_sent_f)), (o_above, .inr (4, [.ref o_above_a])), (o_above_a, .inl (cI, 64, .inl o_above_f)), (o_below, .inr (4, [.ref o_below_a])), (o_below_a, .inl (cI, 64, .inl o_below_f)), (a1_places, .inr (4, [.ref a1_places_a])), (a1_places_a, .inl (cI, 6, .inl a1_places_f))] sz) := by
  refine Met.ofW (cc := cX0_play) (maxL := 6) (ret := none) (by decide) rfl ?_
  intro p e s m args below meth c s₁ B hml hv
  obtain ⟨hargs, hsz, hP, hK, hD0, hE⟩ := hv
  subst hargs
  have hx := B.exec
  have hb := B.bytes
  have hr := B.returns
  have hts := atoms_spec (ws := wsX0_play) B.pre
  have hown : s.vm.findClass RX0 = some m.cls := findClass_of_methodNamed B.named
  have hlocks := B.notSynchronized
  subst hsz
  have hD := hD0.self (sz := s.heap.size)
  generalize hAe : va_A [(a1, .inr (6, [.ref a1_places, .int a1_walkers, .int a1_steps])), (o, .inr (0, [.ref o_above, .ref o_below, .ref o_sent])), (o_sent, .inr (4, [.ref o_sent_a])), (o_sent_a, .inl (cI, 64, .inl o_sent_f)), (o_above, .inr (4, [.ref o_above_a])), (o_above_a, .inl (cI, 64, .inl o_above_f)), (o_below, .inr (4, [.ref o_below_a])), (o_below_a, .inl (cI, 64, .inl o_below_f)), (a1_places, .inr (4, [.ref a1_places_a])), (a1_places_a, .inl (cI, 6, .inl a1_places_f))] s.heap.size = A at hD ⊢
  have hA : ∀ q : Nat, s.heap.size ≤ q → A q := fun q h => by rw [← hAe]; exact Or.inr h
  have hS : va_S A s.heap s.heap [] := va_S.rf
  have hl := lv_entry ([.ref o, .ref a1, .int a2]) (n := 6) (Nat.le_of_ble_eq_true rfl)
  rw [lg_entry_eq]
  generalize (lg_sl ([.ref o, .ref a1, .int a2]) ++ List.replicate (6 - (lg_sl ([.ref o, .ref a1, .int a2])).length) Slot.unset).toArray = ls at hl ⊢
  have hl : lv_has ls 6 [(0, .ref o), (1, .ref a1), (2, .int a2)] := hl
  refine wq (X := fun Q => ∀ (pc : Nat) (H : Heap) (locs : List Loc) (ls : Array Slot) (u : (Nat → Int32) × (Nat → Int32) × (Nat → Int32)) (hd : decode cX0_play pc = .ok (.return_, 1)) (hp : u = fX0_play a2 a1_walkers a1_steps o_sent_f o_above_f o_below_f a1_places_f) (hP : va_P D vwCl [(a1, .inr (6, [.ref a1_places, .int a1_walkers, .int a1_steps])), (o, .inr (0, [.ref o_above, .ref o_below, .ref o_sent])), (o_sent, .inr (4, [.ref o_sent_a])), (o_sent_a, .inl (cI, 64, .inl u.1)), (o_above, .inr (4, [.ref o_above_a])), (o_above_a, .inl (cI, 64, .inl u.2.1)), (o_below, .inr (4, [.ref o_below_a])), (o_below_a, .inl (cI, 64, .inl u.2.2)), (a1_places, .inr (4, [.ref a1_places_a])), (a1_places_a, .inl (cI, 6, .inl a1_places_f))] H) (hD : va_D A [(a1, .inr (6, [.ref a1_places, .int a1_walkers, .int a1_steps])), (o, .inr (0, [.ref o_above, .ref o_below, .ref o_sent])), (o_sent, .inr (4, [.ref o_sent_a])), (o_sent_a, .inl (cI, 64, .inl u.1)), (o_above, .inr (4, [.ref o_above_a])), (o_above_a, .inl (cI, 64, .inl u.2.1)), (o_below, .inr (4, [.ref o_below_a])), (o_below_a, .inl (cI, 64, .inl u.2.2)), (a1_places, .inr (4, [.ref a1_places_a])), (a1_places_a, .inl (cI, 6, .inl a1_places_f))]) (hS : va_S A s.heap H locs), W p l e ({ frames := 4, cells := 0, slots := 0, locals := 92 } : Room) s m ([.ref o, .ref a1, .int a2] : List Value).toArray below meth c H locs 0 0 Q (F0 m pc ls [])) ?_ (fun Q hret => ?_)
  · intro pc H locs ls u hd hp hP hD hS
    exact W.vret hx hb hr (fun t ht hW => ⟨⟨u, rfl, hp, by rw [ht]; exact hP, va_K.moved hW.alike hK, hD⟩, hS.F ht⟩) hS.2.2 hd
  have hin_6 : ∀ w ∈ u_ws RX6 TX6 3, w ∈ wsX0_play := by decide +kernel
  have fl_32 := hE.f 13 rfl ([.ref o, .ref a1, .int a2] : List Value).toArray
  have zl_m1 : ((-1) : Int32).toInt = (-1) := by decide
  have zl_0 : (0 : Int32).toInt = 0 := by decide
  have zl_1 : (1 : Int32).toInt = 1 := by decide
  have zl_2 : (2 : Int32).toInt = 2 := by decide
  have zs := t_shl hw0 hw6
  have hF : fX0_play a2 a1_walkers a1_steps o_sent_f o_above_f o_below_f a1_places_f = fX0_play a2 a1_walkers a1_steps o_sent_f o_above_f o_below_f a1_places_f := rfl
  have L_15 : ∀ (n : Nat) (o_above_a_f_15 : Nat → Int32) (o_below_a_f_15 : Nat → Int32) (o_sent_a_f_15 : Nat → Int32) (v15_4 : Int32) (h1_15 : -1 ≤ v15_4.toInt) (h2_15 : v15_4.toInt ≤ 63) (hm : v15_4.toInt + 1 < (n : Int)) (H : Heap) (locs : List Loc) (ls : Array Slot) (hl : lv_has ls 6 [(0, .ref o), (1, .ref a1), (2, .int a2), (3, .int (fJ6_bitCount_0f7a4 a2)), (4, .int v15_4)]) (hP : va_P D vwCl [(a1, .inr (6, [.ref a1_places, .int a1_walkers, .int a1_steps])), (o, .inr (0, [.ref o_above, .ref o_below, .ref o_sent])), (o_sent, .inr (4, [.ref o_sent_a])), (o_sent_a, .inl (cI, 64, .inl o_sent_a_f_15)), (o_above, .inr (4, [.ref o_above_a])), (o_above_a, .inl (cI, 64, .inl o_above_a_f_15)), (o_below, .inr (4, [.ref o_below_a])), (o_below_a, .inl (cI, 64, .inl o_below_a_f_15)), (a1_places, .inr (4, [.ref a1_places_a])), (a1_places_a, .inl (cI, 6, .inl a1_places_f))] H) (hD : va_D A [(a1, .inr (6, [.ref a1_places, .int a1_walkers, .int a1_steps])), (o, .inr (0, [.ref o_above, .ref o_below, .ref o_sent])), (o_sent, .inr (4, [.ref o_sent_a])), (o_sent_a, .inl (cI, 64, .inl o_sent_a_f_15)), (o_above, .inr (4, [.ref o_above_a])), (o_above_a, .inl (cI, 64, .inl o_above_a_f_15)), (o_below, .inr (4, [.ref o_below_a])), (o_below_a, .inl (cI, 64, .inl o_below_a_f_15)), (a1_places, .inr (4, [.ref a1_places_a])), (a1_places_a, .inl (cI, 6, .inl a1_places_f))]) (hS : va_S A s.heap H locs) (hF : fX0_play a2 a1_walkers a1_steps o_sent_f o_above_f o_below_f a1_places_f = fX0_play_15 a2 a1_walkers a1_steps a1_places_f n o_above_a_f_15 o_below_a_f_15 o_sent_a_f_15 v15_4), W p l e ({ frames := 4, cells := 0, slots := 0, locals := 92 } : Room) s m ([.ref o, .ref a1, .int a2] : List Value).toArray below meth c H locs 0 0 Q (F0 m 15 ls []) := by
    intro n
    induction n with
    | zero =>
      intro o_above_a_f_15 o_below_a_f_15 o_sent_a_f_15 v15_4 h1_15 h2_15 hm H locs ls hl hP hD hS hF
      exact absurd hm (by omega)
    | succ n ih_15 =>
      intro o_above_a_f_15 o_below_a_f_15 o_sent_a_f_15 v15_4 h1_15 h2_15 hm H locs ls hl hP hD hS hF
      refine lv_iload hx hb dX0_play_15 (lv_at hl 4 rfl) ?_
      refine lv_if_lt (tgt := 62) hx hb dX0_play_17 (by decide) (fun c_1 => ?_) (fun c_1 => ?_)
      · have kc_1 := t_lt c_1
        exact hret _ _ _ _ (o_sent_a_f_15, o_above_a_f_15, o_below_a_f_15) dX0_play_62 ((hF.trans (by simp only [fX0_play_15, xlet, if_pos c_1])).symm) hP hD hS
      · have kc_1 := t_nlt c_1
        have zq : (v15_4 + (-1)).toInt = v15_4.toInt + ((-1) : Int32).toInt := z_add (by omega) (by omega)
        have q1 : -1 ≤ (v15_4 + (-1)).toInt := by omega
        have q2 : (v15_4 + (-1)).toInt ≤ 63 := by omega
        have q3 : (v15_4 + (-1)).toInt + 1 < (n : Int) := by omega
        refine lv_iload hx hb dX0_play_20 (lv_at hl 4 rfl) ?_
        refine lv_iload_n hx hb dX0_play_22 rfl (lv_at hl 2 rfl) ?_
        refine lv_iand hx hb dX0_play_23 ?_
        refine lv_iload_n hx hb dX0_play_24 rfl (lv_at hl 2 rfl) ?_
        refine lv_icmp_ne (tgt := 56) hx hb dX0_play_25 (by decide) (fun c_2 => ?_) (fun c_2 => ?_)
        · refine lv_iinc (v := (v15_4 + (-1))) (lv' := [(4, .int (v15_4 + (-1))), (0, .ref o), (1, .ref a1), (2, .int a2), (3, .int (fJ6_bitCount_0f7a4 a2))]) hx hb dX0_play_56 hl (k := 4) rfl (by rfl) (by decide) rfl (fun ls hl => ?_)
          refine lv_goto (tgt := 15) hx hb dX0_play_59 (by decide) ?_
          exact ih_15 o_above_a_f_15 o_below_a_f_15 o_sent_a_f_15 (v15_4 + (-1)) q1 q2 q3 _ _ _ (lv_sub hl [1, 2, 3, 4, 0] rfl) hP hD hS (hF.trans (by simp only [fX0_play_15, xlet, if_neg c_1, if_neg c_2]))
        · refine lv_iload hx hb dX0_play_28 (lv_at hl 4 rfl) ?_
          refine xcalli (S := Unit) (Wc := []) (wr := [(a1, .inr (6, [.ref a1_places, .int a1_walkers, .int a1_steps])), (o, .inr (0, [.ref o_above, .ref o_below, .ref o_sent])), (o_sent, .inr (4, [.ref o_sent_a])), (o_sent_a, .inl (cI, 64, .inl o_sent_a_f_15)), (o_above, .inr (4, [.ref o_above_a])), (o_above_a, .inl (cI, 64, .inl o_above_a_f_15)), (o_below, .inr (4, [.ref o_below_a])), (o_below_a, .inl (cI, 64, .inl o_below_a_f_15)), (a1_places, .inr (4, [.ref a1_places_a])), (a1_places_a, .inl (cI, 6, .inl a1_places_f))]) (W1 := (fun (u : Unit) => [])) (Wn := (fun (u : Unit) => [(a1, .inr (6, [.ref a1_places, .int a1_walkers, .int a1_steps])), (o, .inr (0, [.ref o_above, .ref o_below, .ref o_sent])), (o_sent, .inr (4, [.ref o_sent_a])), (o_sent_a, .inl (cI, 64, .inl o_sent_a_f_15)), (o_above, .inr (4, [.ref o_above_a])), (o_above_a, .inl (cI, 64, .inl o_above_a_f_15)), (o_below, .inr (4, [.ref o_below_a])), (o_below_a, .inl (cI, 64, .inl o_below_a_f_15)), (a1_places, .inr (4, [.ref a1_places_a])), (a1_places_a, .inl (cI, 6, .inl a1_places_f))])) (xrunS hx hb hml hown hts (c_J6_bitCount_0f7a4 l D cI cZ _ v15_4 ) (va_cwS 1 hts gX0_play_J6_bitCount_0f7a4 rfl rfl rfl (by decide +kernel) ⟨Nat.le_of_ble_eq_true rfl, Nat.le_of_ble_eq_true rfl⟩) hE hK hP hD [] rfl rfl rfl hl.1 rfl (Nat.le_of_ble_eq_true rfl) dX0_play_30 ⟨Nat.le_of_ble_eq_true rfl, Nat.le_of_ble_eq_true rfl⟩) hP hD hS hA [] [0, 1, 2, 3, 4, 5, 6, 7, 8, 9] [0, 1, 2, 3, 4, 5, 6, 7, 8, 9] rfl rfl rfl (by decide) (fun _ => rfl) rfl (fun r2 u H locs hw hz hP hD hS => ?_)
          subst hw
          refine lv_iload_n hx hb dX0_play_33 rfl (lv_at hl 3 rfl) ?_
          refine lv_isub hx hb dX0_play_34 ?_
          refine lv_iconst (v := 2) hx hb dX0_play_35 (by decide) ?_
          refine lv_irem hx hb dX0_play_36 (by decide) ?_
          have K_y_3 : ∀ (y_3 : Int32) (hy_y_3 : (if (((fJ6_bitCount_0f7a4 v15_4) - (fJ6_bitCount_0f7a4 a2)) - ((fJ6_bitCount_0f7a4 v15_4) - (fJ6_bitCount_0f7a4 a2)) / 2 * 2) = 0 then (1 : Int32) else 0) = y_3) (H : Heap) (locs : List Loc) (hP : va_P D vwCl [(a1, .inr (6, [.ref a1_places, .int a1_walkers, .int a1_steps])), (o, .inr (0, [.ref o_above, .ref o_below, .ref o_sent])), (o_sent, .inr (4, [.ref o_sent_a])), (o_sent_a, .inl (cI, 64, .inl o_sent_a_f_15)), (o_above, .inr (4, [.ref o_above_a])), (o_above_a, .inl (cI, 64, .inl o_above_a_f_15)), (o_below, .inr (4, [.ref o_below_a])), (o_below_a, .inl (cI, 64, .inl o_below_a_f_15)), (a1_places, .inr (4, [.ref a1_places_a])), (a1_places_a, .inl (cI, 6, .inl a1_places_f))] H) (hD : va_D A [(a1, .inr (6, [.ref a1_places, .int a1_walkers, .int a1_steps])), (o, .inr (0, [.ref o_above, .ref o_below, .ref o_sent])), (o_sent, .inr (4, [.ref o_sent_a])), (o_sent_a, .inl (cI, 64, .inl o_sent_a_f_15)), (o_above, .inr (4, [.ref o_above_a])), (o_above_a, .inl (cI, 64, .inl o_above_a_f_15)), (o_below, .inr (4, [.ref o_below_a])), (o_below_a, .inl (cI, 64, .inl o_below_a_f_15)), (a1_places, .inr (4, [.ref a1_places_a])), (a1_places_a, .inl (cI, 6, .inl a1_places_f))]) (hS : va_S A s.heap H locs), W p l e ({ frames := 4, cells := 0, slots := 0, locals := 92 } : Room) s m ([.ref o, .ref a1, .int a2] : List Value).toArray below meth c H locs 0 0 Q (F0 m 45 ls [.int y_3]) := by
            intro y_3 hy_y_3 H locs hP hD hS
            have ky_y_3 : y_3 = 0 ∨ y_3 = 1 := by rw [← hy_y_3]; (repeat' split) <;> simp
            refine lv_istore (lv' := [(5, .int y_3), (0, .ref o), (1, .ref a1), (2, .int a2), (3, .int (fJ6_bitCount_0f7a4 a2)), (4, .int v15_4)]) hx hb dX0_play_45 hl (by decide) rfl (fun ls hl => ?_)
            refine lv_aload_n hx hb dX0_play_47 rfl (lv_at hl 1 rfl) ?_
            refine lv_aload_n hx hb dX0_play_48 rfl (lv_at hl 2 rfl) ?_
            refine lv_iload hx hb dX0_play_49 (lv_at hl 5 rfl) ?_
            refine lv_iload hx hb dX0_play_51 (lv_at hl 0 rfl) ?_
            refine xcallv (S := (Nat → Int32) × (Nat → Int32) × (Nat → Int32)) (Wc := [(o, .inr (0, [.ref o_above, .ref o_below, .ref o_sent])), (o_sent, .inr (4, [.ref o_sent_a])), (o_sent_a, .inl (cI, 64, .inl o_sent_a_f_15)), (o_above, .inr (4, [.ref o_above_a])), (o_above_a, .inl (cI, 64, .inl o_above_a_f_15)), (o_below, .inr (4, [.ref o_below_a])), (o_below_a, .inl (cI, 64, .inl o_below_a_f_15)), (a1, .inr (6, [.ref a1_places, .int a1_walkers, .int a1_steps])), (a1_places, .inr (4, [.ref a1_places_a])), (a1_places_a, .inl (cI, 6, .inl a1_places_f))]) (wr := []) (W1 := (fun (u : (Nat → Int32) × (Nat → Int32) × (Nat → Int32)) => [(o, .inr (0, [.ref o_above, .ref o_below, .ref o_sent])), (o_sent, .inr (4, [.ref o_sent_a])), (o_sent_a, .inl (cI, 64, .inl u.1)), (o_above, .inr (4, [.ref o_above_a])), (o_above_a, .inl (cI, 64, .inl u.2.1)), (o_below, .inr (4, [.ref o_below_a])), (o_below_a, .inl (cI, 64, .inl u.2.2)), (a1, .inr (6, [.ref a1_places, .int a1_walkers, .int a1_steps])), (a1_places, .inr (4, [.ref a1_places_a])), (a1_places_a, .inl (cI, 6, .inl a1_places_f))])) (Wn := (fun (u : (Nat → Int32) × (Nat → Int32) × (Nat → Int32)) => [(a1, .inr (6, [.ref a1_places, .int a1_walkers, .int a1_steps])), (o, .inr (0, [.ref o_above, .ref o_below, .ref o_sent])), (o_sent, .inr (4, [.ref o_sent_a])), (o_sent_a, .inl (cI, 64, .inl u.1)), (o_above, .inr (4, [.ref o_above_a])), (o_above_a, .inl (cI, 64, .inl u.2.1)), (o_below, .inr (4, [.ref o_below_a])), (o_below_a, .inl (cI, 64, .inl u.2.2)), (a1_places, .inr (4, [.ref a1_places_a])), (a1_places_a, .inl (cI, 6, .inl a1_places_f))])) (xrunV hx hb hml hown hts (c_X0_chooseBest l D cI cZ _ o a1 v15_4 y_3 o_above o_below o_sent o_sent_a o_sent_a_f_15 o_above_a o_above_a_f_15 o_below_a o_below_a_f_15 a1_places a1_walkers a1_steps a1_places_a a1_places_f hw6) (cwV 3 hts gX0_play_X0_chooseBest rfl rfl rfl (by decide +kernel) ⟨Nat.le_of_ble_eq_true rfl, Nat.le_of_ble_eq_true rfl⟩) hE hK hP hD [1, 2, 3, 4, 5, 6, 7, 0, 8, 9] rfl rfl 0 0 (T := TX0) (N := 3) rfl rfl rfl hl.1 rfl (Nat.le_of_ble_eq_true rfl) dX0_play_53 ⟨Nat.le_of_ble_eq_true rfl, Nat.le_of_ble_eq_true rfl⟩) hP hD hS hA [1, 2, 3, 4, 5, 6, 7, 0, 8, 9] [] [7, 0, 1, 2, 3, 4, 5, 6, 8, 9] rfl rfl rfl (by decide) (fun _ => rfl) rfl (fun  u H locs hw hz hP hD hS => ?_)
            obtain ⟨u3, u4, u5⟩ := u
            have hw_7 := hw.symm
            have hP : va_P D vwCl [(a1, .inr (6, [.ref a1_places, .int a1_walkers, .int a1_steps])), (o, .inr (0, [.ref o_above, .ref o_below, .ref o_sent])), (o_sent, .inr (4, [.ref o_sent_a])), (o_sent_a, .inl (cI, 64, .inl u3)), (o_above, .inr (4, [.ref o_above_a])), (o_above_a, .inl (cI, 64, .inl u4)), (o_below, .inr (4, [.ref o_below_a])), (o_below_a, .inl (cI, 64, .inl u5)), (a1_places, .inr (4, [.ref a1_places_a])), (a1_places_a, .inl (cI, 6, .inl a1_places_f))] H := hP
            have hD : va_D A [(a1, .inr (6, [.ref a1_places, .int a1_walkers, .int a1_steps])), (o, .inr (0, [.ref o_above, .ref o_below, .ref o_sent])), (o_sent, .inr (4, [.ref o_sent_a])), (o_sent_a, .inl (cI, 64, .inl u3)), (o_above, .inr (4, [.ref o_above_a])), (o_above_a, .inl (cI, 64, .inl u4)), (o_below, .inr (4, [.ref o_below_a])), (o_below_a, .inl (cI, 64, .inl u5)), (a1_places, .inr (4, [.ref a1_places_a])), (a1_places_a, .inl (cI, 6, .inl a1_places_f))] := hD
            refine lv_iinc (v := (v15_4 + (-1))) (lv' := [(4, .int (v15_4 + (-1))), (5, .int y_3), (0, .ref o), (1, .ref a1), (2, .int a2), (3, .int (fJ6_bitCount_0f7a4 a2))]) hx hb dX0_play_56 hl (k := 5) rfl (by rfl) (by decide) rfl (fun ls hl => ?_)
            refine lv_goto (tgt := 15) hx hb dX0_play_59 (by decide) ?_
            exact ih_15 u4 u5 u3 (v15_4 + (-1)) q1 q2 q3 _ _ _ (lv_sub hl [2, 3, 4, 5, 0] rfl) hP hD hS (hF.trans (by simp only [fX0_play_15, xlet, if_neg c_1, if_pos c_2, ↓hy_y_3, ↓hw_7]))
          refine lv_if_ne (tgt := 44) hx hb dX0_play_37 (by decide) (fun c_3 => ?_) (fun c_3 => ?_)
          · refine lv_iconst (v := 0) hx hb dX0_play_44 (by decide) ?_
            exact K_y_3 _ (by simp only [xlet, if_neg c_3]) _ _ hP hD hS
          · refine lv_iconst (v := 1) hx hb dX0_play_40 (by decide) ?_
            refine lv_goto (tgt := 45) hx hb dX0_play_41 (by decide) ?_
            exact K_y_3 _ (by simp only [xlet, if_pos c_3]) _ _ hP hD hS
  refine lv_iload_n hx hb dX0_play_0 rfl (lv_at hl 2 rfl) ?_
  refine xcalli (S := Unit) (Wc := []) (wr := [(a1, .inr (6, [.ref a1_places, .int a1_walkers, .int a1_steps])), (o, .inr (0, [.ref o_above, .ref o_below, .ref o_sent])), (o_sent, .inr (4, [.ref o_sent_a])), (o_sent_a, .inl (cI, 64, .inl o_sent_f)), (o_above, .inr (4, [.ref o_above_a])), (o_above_a, .inl (cI, 64, .inl o_above_f)), (o_below, .inr (4, [.ref o_below_a])), (o_below_a, .inl (cI, 64, .inl o_below_f)), (a1_places, .inr (4, [.ref a1_places_a])), (a1_places_a, .inl (cI, 6, .inl a1_places_f))]) (W1 := (fun (u : Unit) => [])) (Wn := (fun (u : Unit) => [(a1, .inr (6, [.ref a1_places, .int a1_walkers, .int a1_steps])), (o, .inr (0, [.ref o_above, .ref o_below, .ref o_sent])), (o_sent, .inr (4, [.ref o_sent_a])), (o_sent_a, .inl (cI, 64, .inl o_sent_f)), (o_above, .inr (4, [.ref o_above_a])), (o_above_a, .inl (cI, 64, .inl o_above_f)), (o_below, .inr (4, [.ref o_below_a])), (o_below_a, .inl (cI, 64, .inl o_below_f)), (a1_places, .inr (4, [.ref a1_places_a])), (a1_places_a, .inl (cI, 6, .inl a1_places_f))])) (xrunS hx hb hml hown hts (c_J6_bitCount_0f7a4 l D cI cZ _ a2 ) (va_cwS 1 hts gX0_play_J6_bitCount_0f7a4 rfl rfl rfl (by decide +kernel) ⟨Nat.le_of_ble_eq_true rfl, Nat.le_of_ble_eq_true rfl⟩) hE hK hP hD [] rfl rfl rfl hl.1 rfl (Nat.le_of_ble_eq_true rfl) dX0_play_1 ⟨Nat.le_of_ble_eq_true rfl, Nat.le_of_ble_eq_true rfl⟩) hP hD hS hA [] [0, 1, 2, 3, 4, 5, 6, 7, 8, 9] [0, 1, 2, 3, 4, 5, 6, 7, 8, 9] rfl rfl rfl (by decide) (fun _ => rfl) rfl (fun r1 u H locs hw hz hP hD hS => ?_)
  subst hw
  refine lv_istore_n (lv' := [(3, .int (fJ6_bitCount_0f7a4 a2)), (0, .ref o), (1, .ref a1), (2, .int a2)]) hx hb dX0_play_4 rfl hl (by decide) rfl (fun ls hl => ?_)
  refine lv_iconst (v := 1) hx hb dX0_play_5 (by decide) ?_
  refine lv_aload_n hx hb dX0_play_6 rfl (lv_at hl 2 rfl) ?_
  refine xgetN hx hb hts hown hK 6 (C2 := RX6) (T := TX6) (N := 3) rfl hin_6 hP 0 rfl 1 (by decide) fl_32 rfl rfl rfl dX0_play_7 ?_
  refine lv_ishl hx hb dX0_play_10 ?_
  refine lv_iconst (v := 1) hx hb dX0_play_11 (by decide) ?_
  refine lv_isub hx hb dX0_play_12 ?_
  refine lv_istore (lv' := [(4, .int (((1 : Int32) <<< (a1_walkers &&& 31)) - 1)), (3, .int (fJ6_bitCount_0f7a4 a2)), (0, .ref o), (1, .ref a1), (2, .int a2)]) hx hb dX0_play_13 hl (by decide) rfl (fun ls hl => ?_)
  have z_1 : (((1 : Int32) <<< (a1_walkers &&& 31)) - 1).toInt = ((1 : Int32) <<< (a1_walkers &&& 31)).toInt - (1 : Int32).toInt := z_sub (by omega) (by omega)
  exact L_15 1000 o_above_f o_below_f o_sent_f (((1 : Int32) <<< (a1_walkers &&& 31)) - 1) (by omega) (by omega) (by omega) _ _ _ (lv_sub hl [2, 3, 4, 1, 0] rfl) hP hD hS (hF.trans (by simp only [fX0_play, xlet]))
