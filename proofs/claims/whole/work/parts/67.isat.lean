set_option maxRecDepth 20000 in
theorem ggX7_isAt_J0_length_8abf5 : GoodIn wsX7_isAt wsJ0_length_8abf5 := goodIn_r _ [8, 9, 10, 11, 12, 7, 13, 14, 15] (by decide +kernel) (by decide +kernel)
set_option maxRecDepth 20000 in
theorem gX7_isAt_J0_length_8abf5 : GoodIn wsX7_isAt (wsV RX7 50 RJ0 yJ0_length_8abf5 wsJ0_length_8abf5) := goodIn_app (goodIn_of _ (by decide +kernel)) ggX7_isAt_J0_length_8abf5
set_option maxRecDepth 20000 in
theorem ggX7_isAt_X4_at : GoodIn wsX7_isAt wsX4_at := goodIn_r _ [20, 21, 63] (by decide +kernel) (by decide +kernel)
set_option maxRecDepth 20000 in
theorem gX7_isAt_X4_at : GoodIn wsX7_isAt (wsV RX7 37 RX4 yX4_at wsX4_at) := goodIn_app (goodIn_of _ (by decide +kernel)) ggX7_isAt_X4_at
set_option maxRecDepth 20000 in
theorem ggX7_isAt_J0_charAt_5068e : GoodIn wsX7_isAt wsJ0_charAt_5068e := goodIn_r _ [25, 9, 26, 27, 28, 7, 29, 14, 15, 30, 31, 32, 33, 34, 35, 36, 37, 38, 39, 40, 41, 42, 43, 44, 45, 46, 47, 48, 49, 50, 51, 52, 53, 54, 55, 56, 57, 58] (by decide +kernel) (by decide +kernel)
set_option maxRecDepth 20000 in
theorem gX7_isAt_J0_charAt_5068e : GoodIn wsX7_isAt (wsV RX7 55 RJ0 yJ0_charAt_5068e wsJ0_charAt_5068e) := goodIn_app (goodIn_of _ (by decide +kernel)) ggX7_isAt_J0_charAt_5068e
theorem dX7_isAt_0 : decode cX7_isAt 0 = .ok (.aload_n 0, 1) := by decide +kernel
theorem dX7_isAt_1 : decode cX7_isAt 1 = .ok (.getfield 28, 3) := by decide +kernel
theorem dX7_isAt_4 : decode cX7_isAt 4 = .ok (.aload_n 0, 1) := by decide +kernel
theorem dX7_isAt_5 : decode cX7_isAt 5 = .ok (.getfield 34, 3) := by decide +kernel
theorem dX7_isAt_8 : decode cX7_isAt 8 = .ok (.isub, 1) := by decide +kernel
theorem dX7_isAt_9 : decode cX7_isAt 9 = .ok (.aload_n 1, 1) := by decide +kernel
theorem dX7_isAt_10 : decode cX7_isAt 10 = .ok (.invokevirtual 50, 3) := by decide +kernel
theorem dX7_isAt_13 : decode cX7_isAt 13 = .ok (.if_icmp .eq 5, 3) := by decide +kernel
theorem dX7_isAt_16 : decode cX7_isAt 16 = .ok (.iconst 0, 1) := by decide +kernel
theorem dX7_isAt_17 : decode cX7_isAt 17 = .ok (.ireturn, 1) := by decide +kernel
theorem dX7_isAt_18 : decode cX7_isAt 18 = .ok (.iconst 0, 1) := by decide +kernel
theorem dX7_isAt_19 : decode cX7_isAt 19 = .ok (.istore_n 2, 1) := by decide +kernel
theorem dX7_isAt_20 : decode cX7_isAt 20 = .ok (.iload_n 2, 1) := by decide +kernel
theorem dX7_isAt_21 : decode cX7_isAt 21 = .ok (.aload_n 1, 1) := by decide +kernel
theorem dX7_isAt_22 : decode cX7_isAt 22 = .ok (.invokevirtual 50, 3) := by decide +kernel
theorem dX7_isAt_25 : decode cX7_isAt 25 = .ok (.if_icmp .ge 32, 3) := by decide +kernel
theorem dX7_isAt_28 : decode cX7_isAt 28 = .ok (.aload_n 0, 1) := by decide +kernel
theorem dX7_isAt_29 : decode cX7_isAt 29 = .ok (.getfield 14, 3) := by decide +kernel
theorem dX7_isAt_32 : decode cX7_isAt 32 = .ok (.aload_n 0, 1) := by decide +kernel
theorem dX7_isAt_33 : decode cX7_isAt 33 = .ok (.getfield 34, 3) := by decide +kernel
theorem dX7_isAt_36 : decode cX7_isAt 36 = .ok (.iload_n 2, 1) := by decide +kernel
theorem dX7_isAt_37 : decode cX7_isAt 37 = .ok (.iadd, 1) := by decide +kernel
theorem dX7_isAt_38 : decode cX7_isAt 38 = .ok (.invokevirtual 37, 3) := by decide +kernel
theorem dX7_isAt_41 : decode cX7_isAt 41 = .ok (.aload_n 1, 1) := by decide +kernel
theorem dX7_isAt_42 : decode cX7_isAt 42 = .ok (.iload_n 2, 1) := by decide +kernel
theorem dX7_isAt_43 : decode cX7_isAt 43 = .ok (.invokevirtual 55, 3) := by decide +kernel
theorem dX7_isAt_46 : decode cX7_isAt 46 = .ok (.if_icmp .eq 5, 3) := by decide +kernel
theorem dX7_isAt_49 : decode cX7_isAt 49 = .ok (.iconst 0, 1) := by decide +kernel
theorem dX7_isAt_50 : decode cX7_isAt 50 = .ok (.ireturn, 1) := by decide +kernel
theorem dX7_isAt_51 : decode cX7_isAt 51 = .ok (.iinc 2 1, 3) := by decide +kernel
theorem dX7_isAt_54 : decode cX7_isAt 54 = .ok (.goto (-34), 3) := by decide +kernel
theorem dX7_isAt_57 : decode cX7_isAt 57 = .ok (.iconst 1, 1) := by decide +kernel
theorem dX7_isAt_58 : decode cX7_isAt 58 = .ok (.ireturn, 1) := by decide +kernel
def fX7_isAt_20 (i1 : Nat) (o_begin : Int32) (o_letters_f : Nat → Int32)  : Nat → Int32 → Int32
  | 0, _ => default
  | n + 1, v20_2 => if (xl i1) ≤ v20_2 then 1 else (if (fX4_at (o_begin + v20_2) o_letters_f 160) = (xb i1 v20_2.toNatClampNeg) then (fX7_isAt_20 i1 o_begin o_letters_f n (v20_2 + 1)) else 0)
def fX7_isAt (i1 : Nat) (o_begin : Int32) (o_end : Int32) (o_letters_f : Nat → Int32) : Int32 := if (o_end - o_begin) = (xl i1) then (fX7_isAt_20 i1 o_begin o_letters_f 1000 0) else 0
set_option maxHeartbeats 4000000 in
set_option maxRecDepth 100000 in
theorem c_X7_isAt (l : Launch) (D : va_G) (cI cZ : ClassId) (aK aV : Nat → Nat) (sz : Nat) (o : Nat) (i1 : Nat) (o_letters : Nat) (o_length : Int32) (o_begin : Int32) (o_end : Int32) (o_letters_a : Nat) (o_letters_f : Nat → Int32) (hi1 : i1 < 9) : Met l yX7_isAt wsX7_isAt ({ frames := 4, cells := 0, slots := 0, locals := 85 } : Room) (va_Pc [.ref o, .ref (aK i1)] (xPS D cI cZ aK aV [(o, .inr (7, [.ref o_letters, .int o_length, .int o_begin, .int o_end])), (o_letters, .inr (4, [.ref o_letters_a])), (o_letters_a, .inl (cI, 160, .inl o_letters_f))] sz)) (va_Qi (fun (r : Int32) (u : Unit) => r = fX7_isAt i1 o_begin o_end o_letters_f) (fun (u : Unit) t => xB D cI cZ [(o, .inr (7, [.ref o_letters, .int o_length, .int o_begin, .int o_end])), (o_letters, .inr (4, [.ref o_letters_a])), (o_letters_a, .inl (cI, 160, .inl o_letters_f))] (va_A [(o, .inr (7, [.ref o_letters, .int o_length, .int o_begin, .int o_end])), (o_letters, .inr (4, [.ref o_letters_a])), (o_letters_a, .inl (cI, 160, .inl o_letters_f))] sz) t) (va_A [(o, .inr (7, [.ref o_letters, .int o_length, .int o_begin, .int o_end])), (o_letters, .inr (4, [.ref o_letters_a])), (o_letters_a, .inl (cI, 160, .inl o_letters_f))] sz)) 0 0 (va_A [(o, .inr (7, [.ref o_letters, .int o_length, .int o_begin, .int o_end])), (o_letters, .inr (4, [.ref o_letters_a])), (o_letters_a, .inl (cI, 160, .inl o_letters_f))] sz) := by
  refine Met.ofW (cc := cX7_isAt) (maxL := 3) (ret := (some .boolean)) (by decide) rfl ?_
  intro p e s m args below meth c s₁ B hml hv
  obtain ⟨hargs, ⟨hsz, hP, hK, hD0, hE⟩, hZ⟩ := hv
  subst hargs
  have hx := B.exec
  have hb := B.bytes
  have hr := B.returns
  have hts := atoms_spec (ws := wsX7_isAt) B.pre
  have hown : s.vm.findClass RX7 = some m.cls := findClass_of_methodNamed B.named
  have hlocks := B.notSynchronized
  subst hsz
  have hD := hD0.self (sz := s.heap.size)
  generalize hAe : va_A [(o, .inr (7, [.ref o_letters, .int o_length, .int o_begin, .int o_end])), (o_letters, .inr (4, [.ref o_letters_a])), (o_letters_a, .inl (cI, 160, .inl o_letters_f))] s.heap.size = A at hD hZ ⊢
  have hA : ∀ q : Nat, s.heap.size ≤ q → A q := fun q h => by rw [← hAe]; exact Or.inr h
  have hS : va_S A s.heap s.heap [] := va_S.rf
  have hl := lv_entry ([.ref o, .ref (aK i1)]) (n := 3) (Nat.le_of_ble_eq_true rfl)
  rw [lg_entry_eq]
  generalize (lg_sl ([.ref o, .ref (aK i1)]) ++ List.replicate (3 - (lg_sl ([.ref o, .ref (aK i1)])).length) Slot.unset).toArray = ls at hl ⊢
  have hl : lv_has ls 3 [(0, .ref o), (1, .ref (aK i1))] := hl
  refine wq (X := fun Q => ∀ (pc : Nat) (H : Heap) (locs : List Loc) (ls : Array Slot) (r : Int32) (u : Unit) (hn : narrow .boolean (.int r) = .int r) (hd : decode cX7_isAt pc = .ok (.ireturn, 1)) (hp : r = fX7_isAt i1 o_begin o_end o_letters_f) (hP : va_P D vwCl [(o, .inr (7, [.ref o_letters, .int o_length, .int o_begin, .int o_end])), (o_letters, .inr (4, [.ref o_letters_a])), (o_letters_a, .inl (cI, 160, .inl o_letters_f))] H) (hD : va_D A [(o, .inr (7, [.ref o_letters, .int o_length, .int o_begin, .int o_end])), (o_letters, .inr (4, [.ref o_letters_a])), (o_letters_a, .inl (cI, 160, .inl o_letters_f))]) (hS : va_S A s.heap H locs), W p l e ({ frames := 4, cells := 0, slots := 0, locals := 85 } : Room) s m ([.ref o, .ref (aK i1)] : List Value).toArray below meth c H locs 0 0 Q (F0 m pc ls [.int r])) ?_ (fun Q hret => ?_)
  · intro pc H locs ls r u hn hd hp hP hD hS
    exact W.zret (v := r) hx hb hr hn (fun t ht hW => ⟨⟨r, u, rfl, hp, by rw [ht]; exact hP, va_K.moved hW.alike hK, hD⟩, hS.F ht⟩) hS.2.2 hd
  have hin_7 : ∀ w ∈ u_ws RX7 TX7 4, w ∈ wsX7_isAt := by decide +kernel
  have fl_14 := hts (.fieldLink RX7 14 "MileRoad$Text" "letters" "LMileRoad$Row;") (by decide +kernel)
  have fl_28 := hts (.fieldLink RX7 28 "MileRoad$Text" "end" "I") (by decide +kernel)
  have fl_34 := hts (.fieldLink RX7 34 "MileRoad$Text" "begin" "I") (by decide +kernel)
  have zl_0 : (0 : Int32).toInt = 0 := by decide
  have zl_1 : (1 : Int32).toInt = 1 := by decide
  have hlb := xl_b i1 hi1
  have hF : fX7_isAt i1 o_begin o_end o_letters_f = fX7_isAt i1 o_begin o_end o_letters_f := rfl
  have L_20 : ∀  (n_20 : Nat) (v20_2 : Int32) (h1_20 : 0 ≤ v20_2.toInt) (h2_20 : v20_2.toInt ≤ (xl i1).toInt) (hm : (xl i1).toInt - v20_2.toInt < (n_20 : Int)) (H : Heap) (locs : List Loc) (ls : Array Slot) (hl : lv_has ls 3 [(0, .ref o), (1, .ref (aK i1)), (2, .int v20_2)]) (hP : va_P D vwCl [(o, .inr (7, [.ref o_letters, .int o_length, .int o_begin, .int o_end])), (o_letters, .inr (4, [.ref o_letters_a])), (o_letters_a, .inl (cI, 160, .inl o_letters_f))] H) (hD : va_D A [(o, .inr (7, [.ref o_letters, .int o_length, .int o_begin, .int o_end])), (o_letters, .inr (4, [.ref o_letters_a])), (o_letters_a, .inl (cI, 160, .inl o_letters_f))]) (hS : va_S A s.heap H locs) (hF : fX7_isAt i1 o_begin o_end o_letters_f = fX7_isAt_20 i1 o_begin o_letters_f n_20 v20_2), W p l e ({ frames := 4, cells := 0, slots := 0, locals := 85 } : Room) s m ([.ref o, .ref (aK i1)] : List Value).toArray below meth c H locs 0 0 Q (F0 m 20 ls []) := by
    intro  n_20
    induction n_20 with
    | zero =>
      intro v20_2 h1_20 h2_20 hm H locs ls hl hP hD hS hF
      exact absurd hm (by with_reducible omega)
    | succ n_20 ih_20 =>
      intro v20_2 h1_20 h2_20 hm H locs ls hl hP hD hS hF
      refine lv_iload_n hx hb dX7_isAt_20 rfl (lv_at hl 2 rfl) ?_
      refine lv_aload_n hx hb dX7_isAt_21 rfl (lv_at hl 1 rfl) ?_
      refine xcalli (S := Unit) (Wc := []) (wr := [(o, .inr (7, [.ref o_letters, .int o_length, .int o_begin, .int o_end])), (o_letters, .inr (4, [.ref o_letters_a])), (o_letters_a, .inl (cI, 160, .inl o_letters_f))]) (W1 := (fun (u : Unit) => [])) (Wn := (fun (u : Unit) => [(o, .inr (7, [.ref o_letters, .int o_length, .int o_begin, .int o_end])), (o_letters, .inr (4, [.ref o_letters_a])), (o_letters_a, .inl (cI, 160, .inl o_letters_f))])) (xrunVK hx hb hml hown hts hi1 (c_J0_length_8abf5 l D cI cZ aK aV _ i1 hi1) (cwV 0 hts gX7_isAt_J0_length_8abf5 rfl rfl rfl (by decide +kernel) ⟨Nat.le_of_ble_eq_true rfl, Nat.le_of_ble_eq_true rfl⟩) hE hK hP hD hS hA hZ rfl hl.1 rfl (Nat.le_of_ble_eq_true rfl) dX7_isAt_22 ⟨Nat.le_of_ble_eq_true rfl, Nat.le_of_ble_eq_true rfl⟩) hP hD hS hA [] [0, 1, 2] [0, 1, 2] rfl rfl rfl (by decide) (fun _ => rfl) rfl (fun r9 u H locs hw hz hP hD hS => ?_)
      subst hw
      refine lv_icmp_ge (tgt := 57) hx hb dX7_isAt_25 (by decide) (fun c_2 => ?_) (fun c_2 => ?_)
      · have kc_2 := t_le c_2
        refine lv_iconst (v := 1) hx hb dX7_isAt_57 (by decide) ?_
        exact hret _ _ _ _ 1 () rfl dX7_isAt_58 ((hF.trans (by simp only [fX7_isAt_20, ↓if_pos c_2])).symm) hP hD hS
      · have kc_2 := t_nle c_2
        refine lv_aload_n hx hb dX7_isAt_28 rfl (lv_at hl 0 rfl) ?_
        refine xget hx hb hts hown hK 7 (C2 := RX7) (T := TX7) (N := 4) rfl hin_7 hP 0 rfl 0 (by decide) fl_14 rfl rfl rfl dX7_isAt_29 ?_
        refine lv_aload_n hx hb dX7_isAt_32 rfl (lv_at hl 0 rfl) ?_
        refine xget hx hb hts hown hK 7 (C2 := RX7) (T := TX7) (N := 4) rfl hin_7 hP 0 rfl 2 (by decide) fl_34 rfl rfl rfl dX7_isAt_33 ?_
        refine lv_iload_n hx hb dX7_isAt_36 rfl (lv_at hl 2 rfl) ?_
        refine lv_iadd hx hb dX7_isAt_37 ?_
        refine xcalli (S := Unit) (Wc := [(o_letters, .inr (4, [.ref o_letters_a])), (o_letters_a, .inl (cI, 160, .inl o_letters_f))]) (wr := [(o, .inr (7, [.ref o_letters, .int o_length, .int o_begin, .int o_end]))]) (W1 := (fun (u : Unit) => [(o_letters, .inr (4, [.ref o_letters_a])), (o_letters_a, .inl (cI, 160, .inl o_letters_f))])) (Wn := (fun (u : Unit) => [(o, .inr (7, [.ref o_letters, .int o_length, .int o_begin, .int o_end])), (o_letters, .inr (4, [.ref o_letters_a])), (o_letters_a, .inl (cI, 160, .inl o_letters_f))])) (xrunV hx hb hml hown hts (c_X4_at l D cI cZ _ o_letters (o_begin + v20_2) o_letters_a o_letters_f 160 (by decide)) (cwV 1 hts gX7_isAt_X4_at rfl rfl rfl (by decide +kernel) ⟨Nat.le_of_ble_eq_true rfl, Nat.le_of_ble_eq_true rfl⟩) hE hK hP hD [1, 2] rfl rfl 0 4 (T := TX4) (N := 1) rfl rfl rfl hl.1 rfl (Nat.le_of_ble_eq_true rfl) dX7_isAt_38 ⟨Nat.le_of_ble_eq_true rfl, Nat.le_of_ble_eq_true rfl⟩) hP hD hS hA [1, 2] [0] [0, 1, 2] rfl rfl rfl (by decide) (fun _ => rfl) rfl (fun r1 u H locs hw hz hP hD hS => ?_)
        subst hw
        refine lv_aload_n hx hb dX7_isAt_41 rfl (lv_at hl 1 rfl) ?_
        refine lv_iload_n hx hb dX7_isAt_42 rfl (lv_at hl 2 rfl) ?_
        refine xcalli (S := Unit) (Wc := []) (wr := [(o, .inr (7, [.ref o_letters, .int o_length, .int o_begin, .int o_end])), (o_letters, .inr (4, [.ref o_letters_a])), (o_letters_a, .inl (cI, 160, .inl o_letters_f))]) (W1 := (fun (u : Unit) => [])) (Wn := (fun (u : Unit) => [(o, .inr (7, [.ref o_letters, .int o_length, .int o_begin, .int o_end])), (o_letters, .inr (4, [.ref o_letters_a])), (o_letters_a, .inl (cI, 160, .inl o_letters_f))])) (xrunVK hx hb hml hown hts hi1 (c_J0_charAt_5068e l D cI cZ aK aV _ i1 hi1 v20_2 (by with_reducible omega) (by with_reducible omega)) (cwV 1 hts gX7_isAt_J0_charAt_5068e rfl rfl rfl (by decide +kernel) ⟨Nat.le_of_ble_eq_true rfl, Nat.le_of_ble_eq_true rfl⟩) hE hK hP hD hS hA hZ rfl hl.1 rfl (Nat.le_of_ble_eq_true rfl) dX7_isAt_43 ⟨Nat.le_of_ble_eq_true rfl, Nat.le_of_ble_eq_true rfl⟩) hP hD hS hA [] [0, 1, 2] [0, 1, 2] rfl rfl rfl (by decide) (fun _ => rfl) rfl (fun r9 u H locs hw hz hP hD hS => ?_)
        subst hw
        refine lv_icmp_eq (tgt := 51) hx hb dX7_isAt_46 (by decide) (fun c_3 => ?_) (fun c_3 => ?_)
        · refine lv_iinc (v := (v20_2 + 1)) (lv' := [(2, .int (v20_2 + 1)), (0, .ref o), (1, .ref (aK i1))]) hx hb dX7_isAt_51 hl (k := 2) rfl (by rfl) (by decide) rfl (fun ls hl => ?_)
          refine lv_goto (tgt := 20) hx hb dX7_isAt_54 (by decide) ?_
          have z_1 : (v20_2 + 1).toInt = v20_2.toInt + (1 : Int32).toInt := z_add (by with_reducible omega) (by with_reducible omega)
          exact ih_20 (v20_2 + 1) (by first | with_reducible assumption | with_reducible omega | decide | (split <;> rename_i hh <;> first | (have h9 := t_nlt hh; with_reducible omega) | (have h9 := t_lt hh; with_reducible omega) | (have h9 := t_nle hh; with_reducible omega) | (have h9 := t_le hh; with_reducible omega))) (by first | with_reducible assumption | with_reducible omega | decide | (split <;> rename_i hh <;> first | (have h9 := t_nlt hh; with_reducible omega) | (have h9 := t_lt hh; with_reducible omega) | (have h9 := t_nle hh; with_reducible omega) | (have h9 := t_le hh; with_reducible omega))) (by first | with_reducible assumption | with_reducible omega | decide | (split <;> rename_i hh <;> first | (have h9 := t_nlt hh; with_reducible omega) | (have h9 := t_lt hh; with_reducible omega) | (have h9 := t_nle hh; with_reducible omega) | (have h9 := t_le hh; with_reducible omega))) _ _ _ (lv_sub hl [1, 2, 0] rfl) hP hD hS (hF.trans (by simp only [fX7_isAt_20, ↓if_neg c_2, ↓if_pos c_3]))
        · refine lv_iconst (v := 0) hx hb dX7_isAt_49 (by decide) ?_
          exact hret _ _ _ _ 0 () rfl dX7_isAt_50 ((hF.trans (by simp only [fX7_isAt_20, ↓if_neg c_2, ↓if_neg c_3])).symm) hP hD hS
  refine lv_aload_n hx hb dX7_isAt_0 rfl (lv_at hl 0 rfl) ?_
  refine xget hx hb hts hown hK 7 (C2 := RX7) (T := TX7) (N := 4) rfl hin_7 hP 0 rfl 3 (by decide) fl_28 rfl rfl rfl dX7_isAt_1 ?_
  refine lv_aload_n hx hb dX7_isAt_4 rfl (lv_at hl 0 rfl) ?_
  refine xget hx hb hts hown hK 7 (C2 := RX7) (T := TX7) (N := 4) rfl hin_7 hP 0 rfl 2 (by decide) fl_34 rfl rfl rfl dX7_isAt_5 ?_
  refine lv_isub hx hb dX7_isAt_8 ?_
  refine lv_aload_n hx hb dX7_isAt_9 rfl (lv_at hl 1 rfl) ?_
  refine xcalli (S := Unit) (Wc := []) (wr := [(o, .inr (7, [.ref o_letters, .int o_length, .int o_begin, .int o_end])), (o_letters, .inr (4, [.ref o_letters_a])), (o_letters_a, .inl (cI, 160, .inl o_letters_f))]) (W1 := (fun (u : Unit) => [])) (Wn := (fun (u : Unit) => [(o, .inr (7, [.ref o_letters, .int o_length, .int o_begin, .int o_end])), (o_letters, .inr (4, [.ref o_letters_a])), (o_letters_a, .inl (cI, 160, .inl o_letters_f))])) (xrunVK hx hb hml hown hts hi1 (c_J0_length_8abf5 l D cI cZ aK aV _ i1 hi1) (cwV 0 hts gX7_isAt_J0_length_8abf5 rfl rfl rfl (by decide +kernel) ⟨Nat.le_of_ble_eq_true rfl, Nat.le_of_ble_eq_true rfl⟩) hE hK hP hD hS hA hZ rfl hl.1 rfl (Nat.le_of_ble_eq_true rfl) dX7_isAt_10 ⟨Nat.le_of_ble_eq_true rfl, Nat.le_of_ble_eq_true rfl⟩) hP hD hS hA [] [0, 1, 2] [0, 1, 2] rfl rfl rfl (by decide) (fun _ => rfl) rfl (fun r9 u H locs hw hz hP hD hS => ?_)
  subst hw
  refine lv_icmp_eq (tgt := 18) hx hb dX7_isAt_13 (by decide) (fun c_1 => ?_) (fun c_1 => ?_)
  · have kc_1 := t_eq c_1
    refine lv_iconst (v := 0) hx hb dX7_isAt_18 (by decide) ?_
    refine lv_istore_n (lv' := [(2, .int 0), (0, .ref o), (1, .ref (aK i1))]) hx hb dX7_isAt_19 rfl hl (by decide) rfl (fun ls hl => ?_)
    exact L_20 1000 0 (by first | with_reducible assumption | with_reducible omega | decide | (split <;> rename_i hh <;> first | (have h9 := t_nlt hh; with_reducible omega) | (have h9 := t_lt hh; with_reducible omega) | (have h9 := t_nle hh; with_reducible omega) | (have h9 := t_le hh; with_reducible omega))) (by first | with_reducible assumption | with_reducible omega | decide | (split <;> rename_i hh <;> first | (have h9 := t_nlt hh; with_reducible omega) | (have h9 := t_lt hh; with_reducible omega) | (have h9 := t_nle hh; with_reducible omega) | (have h9 := t_le hh; with_reducible omega))) (by first | with_reducible assumption | with_reducible omega | decide | (split <;> rename_i hh <;> first | (have h9 := t_nlt hh; with_reducible omega) | (have h9 := t_lt hh; with_reducible omega) | (have h9 := t_nle hh; with_reducible omega) | (have h9 := t_le hh; with_reducible omega))) _ _ _ (lv_sub hl [1, 2, 0] rfl) hP hD hS (hF.trans (by simp only [fX7_isAt, ↓if_pos c_1]))
  · have kc_1 := t_neq c_1
    refine lv_iconst (v := 0) hx hb dX7_isAt_16 (by decide) ?_
    exact hret _ _ _ _ 0 () rfl dX7_isAt_17 ((hF.trans (by simp only [fX7_isAt, ↓if_neg c_1])).symm) hP hD hS
set_option maxRecDepth 20000 in
theorem ggX2_kindAtToken_X7_isAt : GoodIn wsX2_kindAtToken wsX7_isAt := goodIn_r _ [6, 7, 8, 9, 10, 11, 12, 13, 14, 15, 16, 17, 18, 19, 20, 21, 22, 23, 24, 25, 26, 27, 28, 29, 30, 31, 32, 33, 34, 35, 36, 37, 38, 39, 40, 41, 42, 43, 44, 45, 46, 47, 48, 49, 50, 51, 52, 53, 54, 55, 56, 57, 58, 59, 60, 61, 62, 63, 64, 69, 70, 71, 72, 73] (by decide +kernel) (by decide +kernel)
set_option maxRecDepth 20000 in
theorem gX2_kindAtToken_X7_isAt : GoodIn wsX2_kindAtToken (wsV RX2 47 RX7 yX7_isAt wsX7_isAt) := goodIn_app (goodIn_of _ (by decide +kernel)) ggX2_kindAtToken_X7_isAt
theorem dX2_kindAtToken_0 : decode cX2_kindAtToken 0 = .ok (.aload_n 0, 1) := by decide +kernel
theorem dX2_kindAtToken_1 : decode cX2_kindAtToken 1 = .ok (.getfield 18, 3) := by decide +kernel
theorem dX2_kindAtToken_4 : decode cX2_kindAtToken 4 = .ok (.ldc 108, 2) := by decide +kernel
theorem dX2_kindAtToken_6 : decode cX2_kindAtToken 6 = .ok (.invokevirtual 47, 3) := by decide +kernel
theorem dX2_kindAtToken_9 : decode cX2_kindAtToken 9 = .ok (.ifCond .eq 5, 3) := by decide +kernel
theorem dX2_kindAtToken_12 : decode cX2_kindAtToken 12 = .ok (.iconst 0, 1) := by decide +kernel
theorem dX2_kindAtToken_13 : decode cX2_kindAtToken 13 = .ok (.ireturn, 1) := by decide +kernel
theorem dX2_kindAtToken_14 : decode cX2_kindAtToken 14 = .ok (.aload_n 0, 1) := by decide +kernel
theorem dX2_kindAtToken_15 : decode cX2_kindAtToken 15 = .ok (.getfield 18, 3) := by decide +kernel
theorem dX2_kindAtToken_18 : decode cX2_kindAtToken 18 = .ok (.ldc 110, 2) := by decide +kernel
theorem dX2_kindAtToken_20 : decode cX2_kindAtToken 20 = .ok (.invokevirtual 47, 3) := by decide +kernel
theorem dX2_kindAtToken_23 : decode cX2_kindAtToken 23 = .ok (.ifCond .eq 5, 3) := by decide +kernel
theorem dX2_kindAtToken_26 : decode cX2_kindAtToken 26 = .ok (.iconst 1, 1) := by decide +kernel
theorem dX2_kindAtToken_27 : decode cX2_kindAtToken 27 = .ok (.ireturn, 1) := by decide +kernel
theorem dX2_kindAtToken_28 : decode cX2_kindAtToken 28 = .ok (.aload_n 0, 1) := by decide +kernel
theorem dX2_kindAtToken_29 : decode cX2_kindAtToken 29 = .ok (.getfield 18, 3) := by decide +kernel
theorem dX2_kindAtToken_32 : decode cX2_kindAtToken 32 = .ok (.ldc 112, 2) := by decide +kernel
theorem dX2_kindAtToken_34 : decode cX2_kindAtToken 34 = .ok (.invokevirtual 47, 3) := by decide +kernel
theorem dX2_kindAtToken_37 : decode cX2_kindAtToken 37 = .ok (.ifCond .eq 5, 3) := by decide +kernel
theorem dX2_kindAtToken_40 : decode cX2_kindAtToken 40 = .ok (.iconst 2, 1) := by decide +kernel
theorem dX2_kindAtToken_41 : decode cX2_kindAtToken 41 = .ok (.ireturn, 1) := by decide +kernel
theorem dX2_kindAtToken_42 : decode cX2_kindAtToken 42 = .ok (.aload_n 0, 1) := by decide +kernel
theorem dX2_kindAtToken_43 : decode cX2_kindAtToken 43 = .ok (.getfield 18, 3) := by decide +kernel
theorem dX2_kindAtToken_46 : decode cX2_kindAtToken 46 = .ok (.ldc 114, 2) := by decide +kernel
theorem dX2_kindAtToken_48 : decode cX2_kindAtToken 48 = .ok (.invokevirtual 47, 3) := by decide +kernel
theorem dX2_kindAtToken_51 : decode cX2_kindAtToken 51 = .ok (.ifCond .eq 7, 3) := by decide +kernel
theorem dX2_kindAtToken_54 : decode cX2_kindAtToken 54 = .ok (.iconst 3, 1) := by decide +kernel
theorem dX2_kindAtToken_55 : decode cX2_kindAtToken 55 = .ok (.goto 4, 3) := by decide +kernel
theorem dX2_kindAtToken_58 : decode cX2_kindAtToken 58 = .ok (.iconst (-1), 1) := by decide +kernel
theorem dX2_kindAtToken_59 : decode cX2_kindAtToken 59 = .ok (.ireturn, 1) := by decide +kernel
def fX2_kindAtToken (o_text_begin : Int32) (o_text_end : Int32) (o_text_letters_f : Nat → Int32) : Int32 := if (fX7_isAt 5 o_text_begin o_text_end o_text_letters_f) = 0 then (if (fX7_isAt 6 o_text_begin o_text_end o_text_letters_f) = 0 then (if (fX7_isAt 7 o_text_begin o_text_end o_text_letters_f) = 0 then (xlet (if (fX7_isAt 8 o_text_begin o_text_end o_text_letters_f) = 0 then (-1 : Int32) else 3) (fun y_1 => y_1)) else 2) else 1) else 0
set_option maxHeartbeats 4000000 in
set_option maxRecDepth 100000 in
theorem c_X2_kindAtToken (l : Launch) (D : va_G) (cI cZ : ClassId) (aK aV : Nat → Nat) (sz : Nat) (o : Nat) (o_text : Nat) (o_draft : Nat) (o_clauses : Int32) (o_faultPlace : Int32) (o_text_letters : Nat) (o_text_length : Int32) (o_text_begin : Int32) (o_text_end : Int32) (o_text_letters_a : Nat) (o_text_letters_f : Nat → Int32)  : Met l yX2_kindAtToken wsX2_kindAtToken ({ frames := 5, cells := 0, slots := 0, locals := 107 } : Room) (va_Pc [.ref o] (xPS D cI cZ aK aV [(o, .inr (2, [.ref o_text, .ref o_draft, .int o_clauses, .int o_faultPlace])), (o_text, .inr (7, [.ref o_text_letters, .int o_text_length, .int o_text_begin, .int o_text_end])), (o_text_letters, .inr (4, [.ref o_text_letters_a])), (o_text_letters_a, .inl (cI, 160, .inl o_text_letters_f))] sz)) (va_Qi (fun (r : Int32) (u : Unit) => r = fX2_kindAtToken o_text_begin o_text_end o_text_letters_f) (fun (u : Unit) t => xB D cI cZ [(o, .inr (2, [.ref o_text, .ref o_draft, .int o_clauses, .int o_faultPlace])), (o_text, .inr (7, [.ref o_text_letters, .int o_text_length, .int o_text_begin, .int o_text_end])), (o_text_letters, .inr (4, [.ref o_text_letters_a])), (o_text_letters_a, .inl (cI, 160, .inl o_text_letters_f))] (va_A [(o, .inr (2, [.ref o_text, .ref o_draft, .int o_clauses, .int o_faultPlace])), (o_text, .inr (7, [.ref o_text_letters, .int o_text_length, .int o_text_begin, .int o_text_end])), (o_text_letters, .inr (4, [.ref o_text_letters_a])), (o_text_letters_a, .inl (cI, 160, .inl o_text_letters_f))] sz) t) (va_A [(o, .inr (2, [.ref o_text, .ref o_draft, .int o_clauses, .int o_faultPlace])), (o_text, .inr (7, [.ref o_text_letters, .int o_text_length, .int o_text_begin, .int o_text_end])), (o_text_letters, .inr (4, [.ref o_text_letters_a])), (o_text_letters_a, .inl (cI, 160, .inl o_text_letters_f))] sz)) 0 0 (va_A [(o, .inr (2, [.ref o_text, .ref o_draft, .int o_clauses, .int o_faultPlace])), (o_text, .inr (7, [.ref o_text_letters, .int o_text_length, .int o_text_begin, .int o_text_end])), (o_text_letters, .inr (4, [.ref o_text_letters_a])), (o_text_letters_a, .inl (cI, 160, .inl o_text_letters_f))] sz) := by
  refine Met.ofW (cc := cX2_kindAtToken) (maxL := 1) (ret := (some .int)) (by decide) rfl ?_
  intro p e s m args below meth c s₁ B hml hv
  obtain ⟨hargs, ⟨hsz, hP, hK, hD0, hE⟩, hZ⟩ := hv
  subst hargs
  have hx := B.exec
  have hb := B.bytes
  have hr := B.returns
  have hts := atoms_spec (ws := wsX2_kindAtToken) B.pre
  have hown : s.vm.findClass RX2 = some m.cls := findClass_of_methodNamed B.named
  have hlocks := B.notSynchronized
  subst hsz
  have hD := hD0.self (sz := s.heap.size)
  generalize hAe : va_A [(o, .inr (2, [.ref o_text, .ref o_draft, .int o_clauses, .int o_faultPlace])), (o_text, .inr (7, [.ref o_text_letters, .int o_text_length, .int o_text_begin, .int o_text_end])), (o_text_letters, .inr (4, [.ref o_text_letters_a])), (o_text_letters_a, .inl (cI, 160, .inl o_text_letters_f))] s.heap.size = A at hD hZ ⊢
  have hA : ∀ q : Nat, s.heap.size ≤ q → A q := fun q h => by rw [← hAe]; exact Or.inr h
  have hS : va_S A s.heap s.heap [] := va_S.rf
  have hl := lv_entry ([.ref o]) (n := 1) (Nat.le_of_ble_eq_true rfl)
  rw [lg_entry_eq]
  generalize (lg_sl ([.ref o]) ++ List.replicate (1 - (lg_sl ([.ref o])).length) Slot.unset).toArray = ls at hl ⊢
  have hl : lv_has ls 1 [(0, .ref o)] := hl
  refine wq (X := fun Q => ∀ (pc : Nat) (H : Heap) (locs : List Loc) (ls : Array Slot) (r : Int32) (u : Unit) (hd : decode cX2_kindAtToken pc = .ok (.ireturn, 1)) (hp : r = fX2_kindAtToken o_text_begin o_text_end o_text_letters_f) (hP : va_P D vwCl [(o, .inr (2, [.ref o_text, .ref o_draft, .int o_clauses, .int o_faultPlace])), (o_text, .inr (7, [.ref o_text_letters, .int o_text_length, .int o_text_begin, .int o_text_end])), (o_text_letters, .inr (4, [.ref o_text_letters_a])), (o_text_letters_a, .inl (cI, 160, .inl o_text_letters_f))] H) (hD : va_D A [(o, .inr (2, [.ref o_text, .ref o_draft, .int o_clauses, .int o_faultPlace])), (o_text, .inr (7, [.ref o_text_letters, .int o_text_length, .int o_text_begin, .int o_text_end])), (o_text_letters, .inr (4, [.ref o_text_letters_a])), (o_text_letters_a, .inl (cI, 160, .inl o_text_letters_f))]) (hS : va_S A s.heap H locs), W p l e ({ frames := 5, cells := 0, slots := 0, locals := 107 } : Room) s m ([.ref o] : List Value).toArray below meth c H locs 0 0 Q (F0 m pc ls [.int r])) ?_ (fun Q hret => ?_)
  · intro pc H locs ls r u hd hp hP hD hS
    exact W.iret (v := r) hx hb hr (fun t ht hW => ⟨⟨r, u, rfl, hp, by rw [ht]; exact hP, va_K.moved hW.alike hK, hD⟩, hS.F ht⟩) hS.2.2 hd
  have hin_2 : ∀ w ∈ u_ws RX2 TX2 4, w ∈ wsX2_kindAtToken := by decide +kernel
  have fl_18 := hts (.fieldLink RX2 18 "MileRoad$Reader" "text" "LMileRoad$Text;") (by decide +kernel)
  have hF : fX2_kindAtToken o_text_begin o_text_end o_text_letters_f = fX2_kindAtToken o_text_begin o_text_end o_text_letters_f := rfl
  refine lv_aload_n hx hb dX2_kindAtToken_0 rfl (lv_at hl 0 rfl) ?_
  refine xget hx hb hts hown hK 2 (C2 := RX2) (T := TX2) (N := 4) rfl hin_2 hP 0 rfl 0 (by decide) fl_18 rfl rfl rfl dX2_kindAtToken_1 ?_
  refine va_ldcS hx hb hown (hZ.2.2.2 5 (by decide)) dX2_kindAtToken_4 ?_
  refine xcalli (S := Unit) (Wc := [(o_text, .inr (7, [.ref o_text_letters, .int o_text_length, .int o_text_begin, .int o_text_end])), (o_text_letters, .inr (4, [.ref o_text_letters_a])), (o_text_letters_a, .inl (cI, 160, .inl o_text_letters_f))]) (wr := [(o, .inr (2, [.ref o_text, .ref o_draft, .int o_clauses, .int o_faultPlace]))]) (W1 := (fun (u : Unit) => [(o_text, .inr (7, [.ref o_text_letters, .int o_text_length, .int o_text_begin, .int o_text_end])), (o_text_letters, .inr (4, [.ref o_text_letters_a])), (o_text_letters_a, .inl (cI, 160, .inl o_text_letters_f))])) (Wn := (fun (u : Unit) => [(o, .inr (2, [.ref o_text, .ref o_draft, .int o_clauses, .int o_faultPlace])), (o_text, .inr (7, [.ref o_text_letters, .int o_text_length, .int o_text_begin, .int o_text_end])), (o_text_letters, .inr (4, [.ref o_text_letters_a])), (o_text_letters_a, .inl (cI, 160, .inl o_text_letters_f))])) (xrunVZ hx hb hml hown hts (c_X7_isAt l D cI cZ aK aV _ o_text 5 o_text_letters o_text_length o_text_begin o_text_end o_text_letters_a o_text_letters_f (by decide)) (cwV 1 hts gX2_kindAtToken_X7_isAt rfl rfl rfl (by decide +kernel) ⟨Nat.le_of_ble_eq_true rfl, Nat.le_of_ble_eq_true rfl⟩) hE hK hP hD hS hA hZ [1, 2, 3] rfl rfl 0 7 (T := TX7) (N := 4) rfl rfl rfl hl.1 rfl (Nat.le_of_ble_eq_true rfl) dX2_kindAtToken_6 ⟨Nat.le_of_ble_eq_true rfl, Nat.le_of_ble_eq_true rfl⟩) hP hD hS hA [1, 2, 3] [0] [0, 1, 2, 3] rfl rfl rfl (by decide) (fun _ => rfl) rfl (fun r1 u H locs hw hz hP hD hS => ?_)
  subst hw
  refine lv_if_eq (tgt := 14) hx hb dX2_kindAtToken_9 (by decide) (fun c_1 => ?_) (fun c_1 => ?_)
  · refine lv_aload_n hx hb dX2_kindAtToken_14 rfl (lv_at hl 0 rfl) ?_
    refine xget hx hb hts hown hK 2 (C2 := RX2) (T := TX2) (N := 4) rfl hin_2 hP 0 rfl 0 (by decide) fl_18 rfl rfl rfl dX2_kindAtToken_15 ?_
    refine va_ldcS hx hb hown (hZ.2.2.2 6 (by decide)) dX2_kindAtToken_18 ?_
    refine xcalli (S := Unit) (Wc := [(o_text, .inr (7, [.ref o_text_letters, .int o_text_length, .int o_text_begin, .int o_text_end])), (o_text_letters, .inr (4, [.ref o_text_letters_a])), (o_text_letters_a, .inl (cI, 160, .inl o_text_letters_f))]) (wr := [(o, .inr (2, [.ref o_text, .ref o_draft, .int o_clauses, .int o_faultPlace]))]) (W1 := (fun (u : Unit) => [(o_text, .inr (7, [.ref o_text_letters, .int o_text_length, .int o_text_begin, .int o_text_end])), (o_text_letters, .inr (4, [.ref o_text_letters_a])), (o_text_letters_a, .inl (cI, 160, .inl o_text_letters_f))])) (Wn := (fun (u : Unit) => [(o, .inr (2, [.ref o_text, .ref o_draft, .int o_clauses, .int o_faultPlace])), (o_text, .inr (7, [.ref o_text_letters, .int o_text_length, .int o_text_begin, .int o_text_end])), (o_text_letters, .inr (4, [.ref o_text_letters_a])), (o_text_letters_a, .inl (cI, 160, .inl o_text_letters_f))])) (xrunVZ hx hb hml hown hts (c_X7_isAt l D cI cZ aK aV _ o_text 6 o_text_letters o_text_length o_text_begin o_text_end o_text_letters_a o_text_letters_f (by decide)) (cwV 1 hts gX2_kindAtToken_X7_isAt rfl rfl rfl (by decide +kernel) ⟨Nat.le_of_ble_eq_true rfl, Nat.le_of_ble_eq_true rfl⟩) hE hK hP hD hS hA hZ [1, 2, 3] rfl rfl 0 7 (T := TX7) (N := 4) rfl rfl rfl hl.1 rfl (Nat.le_of_ble_eq_true rfl) dX2_kindAtToken_20 ⟨Nat.le_of_ble_eq_true rfl, Nat.le_of_ble_eq_true rfl⟩) hP hD hS hA [1, 2, 3] [0] [0, 1, 2, 3] rfl rfl rfl (by decide) (fun _ => rfl) rfl (fun r2 u H locs hw hz hP hD hS => ?_)
    subst hw
    refine lv_if_eq (tgt := 28) hx hb dX2_kindAtToken_23 (by decide) (fun c_2 => ?_) (fun c_2 => ?_)
    · refine lv_aload_n hx hb dX2_kindAtToken_28 rfl (lv_at hl 0 rfl) ?_
      refine xget hx hb hts hown hK 2 (C2 := RX2) (T := TX2) (N := 4) rfl hin_2 hP 0 rfl 0 (by decide) fl_18 rfl rfl rfl dX2_kindAtToken_29 ?_
      refine va_ldcS hx hb hown (hZ.2.2.2 7 (by decide)) dX2_kindAtToken_32 ?_
      refine xcalli (S := Unit) (Wc := [(o_text, .inr (7, [.ref o_text_letters, .int o_text_length, .int o_text_begin, .int o_text_end])), (o_text_letters, .inr (4, [.ref o_text_letters_a])), (o_text_letters_a, .inl (cI, 160, .inl o_text_letters_f))]) (wr := [(o, .inr (2, [.ref o_text, .ref o_draft, .int o_clauses, .int o_faultPlace]))]) (W1 := (fun (u : Unit) => [(o_text, .inr (7, [.ref o_text_letters, .int o_text_length, .int o_text_begin, .int o_text_end])), (o_text_letters, .inr (4, [.ref o_text_letters_a])), (o_text_letters_a, .inl (cI, 160, .inl o_text_letters_f))])) (Wn := (fun (u : Unit) => [(o, .inr (2, [.ref o_text, .ref o_draft, .int o_clauses, .int o_faultPlace])), (o_text, .inr (7, [.ref o_text_letters, .int o_text_length, .int o_text_begin, .int o_text_end])), (o_text_letters, .inr (4, [.ref o_text_letters_a])), (o_text_letters_a, .inl (cI, 160, .inl o_text_letters_f))])) (xrunVZ hx hb hml hown hts (c_X7_isAt l D cI cZ aK aV _ o_text 7 o_text_letters o_text_length o_text_begin o_text_end o_text_letters_a o_text_letters_f (by decide)) (cwV 1 hts gX2_kindAtToken_X7_isAt rfl rfl rfl (by decide +kernel) ⟨Nat.le_of_ble_eq_true rfl, Nat.le_of_ble_eq_true rfl⟩) hE hK hP hD hS hA hZ [1, 2, 3] rfl rfl 0 7 (T := TX7) (N := 4) rfl rfl rfl hl.1 rfl (Nat.le_of_ble_eq_true rfl) dX2_kindAtToken_34 ⟨Nat.le_of_ble_eq_true rfl, Nat.le_of_ble_eq_true rfl⟩) hP hD hS hA [1, 2, 3] [0] [0, 1, 2, 3] rfl rfl rfl (by decide) (fun _ => rfl) rfl (fun r3 u H locs hw hz hP hD hS => ?_)
      subst hw
      refine lv_if_eq (tgt := 42) hx hb dX2_kindAtToken_37 (by decide) (fun c_3 => ?_) (fun c_3 => ?_)
      · refine lv_aload_n hx hb dX2_kindAtToken_42 rfl (lv_at hl 0 rfl) ?_
        refine xget hx hb hts hown hK 2 (C2 := RX2) (T := TX2) (N := 4) rfl hin_2 hP 0 rfl 0 (by decide) fl_18 rfl rfl rfl dX2_kindAtToken_43 ?_
        refine va_ldcS hx hb hown (hZ.2.2.2 8 (by decide)) dX2_kindAtToken_46 ?_
        refine xcalli (S := Unit) (Wc := [(o_text, .inr (7, [.ref o_text_letters, .int o_text_length, .int o_text_begin, .int o_text_end])), (o_text_letters, .inr (4, [.ref o_text_letters_a])), (o_text_letters_a, .inl (cI, 160, .inl o_text_letters_f))]) (wr := [(o, .inr (2, [.ref o_text, .ref o_draft, .int o_clauses, .int o_faultPlace]))]) (W1 := (fun (u : Unit) => [(o_text, .inr (7, [.ref o_text_letters, .int o_text_length, .int o_text_begin, .int o_text_end])), (o_text_letters, .inr (4, [.ref o_text_letters_a])), (o_text_letters_a, .inl (cI, 160, .inl o_text_letters_f))])) (Wn := (fun (u : Unit) => [(o, .inr (2, [.ref o_text, .ref o_draft, .int o_clauses, .int o_faultPlace])), (o_text, .inr (7, [.ref o_text_letters, .int o_text_length, .int o_text_begin, .int o_text_end])), (o_text_letters, .inr (4, [.ref o_text_letters_a])), (o_text_letters_a, .inl (cI, 160, .inl o_text_letters_f))])) (xrunVZ hx hb hml hown hts (c_X7_isAt l D cI cZ aK aV _ o_text 8 o_text_letters o_text_length o_text_begin o_text_end o_text_letters_a o_text_letters_f (by decide)) (cwV 1 hts gX2_kindAtToken_X7_isAt rfl rfl rfl (by decide +kernel) ⟨Nat.le_of_ble_eq_true rfl, Nat.le_of_ble_eq_true rfl⟩) hE hK hP hD hS hA hZ [1, 2, 3] rfl rfl 0 7 (T := TX7) (N := 4) rfl rfl rfl hl.1 rfl (Nat.le_of_ble_eq_true rfl) dX2_kindAtToken_48 ⟨Nat.le_of_ble_eq_true rfl, Nat.le_of_ble_eq_true rfl⟩) hP hD hS hA [1, 2, 3] [0] [0, 1, 2, 3] rfl rfl rfl (by decide) (fun _ => rfl) rfl (fun r4 u H locs hw hz hP hD hS => ?_)
        subst hw
        have K_y_1 : ∀ (y_1 : Int32) (hy_y_1 : (if (fX7_isAt 8 o_text_begin o_text_end o_text_letters_f) = 0 then (-1 : Int32) else 3) = y_1) (H : Heap) (locs : List Loc) (hP : va_P D vwCl [(o, .inr (2, [.ref o_text, .ref o_draft, .int o_clauses, .int o_faultPlace])), (o_text, .inr (7, [.ref o_text_letters, .int o_text_length, .int o_text_begin, .int o_text_end])), (o_text_letters, .inr (4, [.ref o_text_letters_a])), (o_text_letters_a, .inl (cI, 160, .inl o_text_letters_f))] H) (hD : va_D A [(o, .inr (2, [.ref o_text, .ref o_draft, .int o_clauses, .int o_faultPlace])), (o_text, .inr (7, [.ref o_text_letters, .int o_text_length, .int o_text_begin, .int o_text_end])), (o_text_letters, .inr (4, [.ref o_text_letters_a])), (o_text_letters_a, .inl (cI, 160, .inl o_text_letters_f))]) (hS : va_S A s.heap H locs), W p l e ({ frames := 5, cells := 0, slots := 0, locals := 107 } : Room) s m ([.ref o] : List Value).toArray below meth c H locs 0 0 Q (F0 m 59 ls [.int y_1]) := by
          intro y_1 hy_y_1 H locs hP hD hS
          exact hret _ _ _ _ y_1 () dX2_kindAtToken_59 ((hF.trans (by simp only [fX2_kindAtToken, ↓if_pos c_1, ↓if_pos c_2, ↓if_pos c_3, ↓(xlet_of hy_y_1)])).symm) hP hD hS
        refine lv_if_eq (tgt := 58) hx hb dX2_kindAtToken_51 (by decide) (fun c_4 => ?_) (fun c_4 => ?_)
        · refine lv_iconst (v := (-1)) hx hb dX2_kindAtToken_58 (by decide) ?_
          exact K_y_1 _ (by simp only [↓if_pos c_4]) _ _ hP hD hS
        · refine lv_iconst (v := 3) hx hb dX2_kindAtToken_54 (by decide) ?_
          refine lv_goto (tgt := 59) hx hb dX2_kindAtToken_55 (by decide) ?_
          exact K_y_1 _ (by simp only [↓if_neg c_4]) _ _ hP hD hS
      · refine lv_iconst (v := 2) hx hb dX2_kindAtToken_40 (by decide) ?_
        exact hret _ _ _ _ 2 () dX2_kindAtToken_41 ((hF.trans (by simp only [fX2_kindAtToken, ↓if_pos c_1, ↓if_pos c_2, ↓if_neg c_3])).symm) hP hD hS
    · refine lv_iconst (v := 1) hx hb dX2_kindAtToken_26 (by decide) ?_
      exact hret _ _ _ _ 1 () dX2_kindAtToken_27 ((hF.trans (by simp only [fX2_kindAtToken, ↓if_pos c_1, ↓if_neg c_2])).symm) hP hD hS
  · refine lv_iconst (v := 0) hx hb dX2_kindAtToken_12 (by decide) ?_
    exact hret _ _ _ _ 0 () dX2_kindAtToken_13 ((hF.trans (by simp only [fX2_kindAtToken, ↓if_neg c_1])).symm) hP hD hS
