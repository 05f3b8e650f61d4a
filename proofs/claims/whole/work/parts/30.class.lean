theorem dX8_canBeTakenAs_0 : decode cX8_canBeTakenAs 0 = .ok (.iload_n 1, 1) := by decide +kernel
theorem dX8_canBeTakenAs_1 : decode cX8_canBeTakenAs 1 = .ok (.ifCond .ne 5, 3) := by decide +kernel
theorem dX8_canBeTakenAs_4 : decode cX8_canBeTakenAs 4 = .ok (.iconst 1, 1) := by decide +kernel
theorem dX8_canBeTakenAs_5 : decode cX8_canBeTakenAs 5 = .ok (.ireturn, 1) := by decide +kernel
theorem dX8_canBeTakenAs_6 : decode cX8_canBeTakenAs 6 = .ok (.iload_n 1, 1) := by decide +kernel
theorem dX8_canBeTakenAs_7 : decode cX8_canBeTakenAs 7 = .ok (.iconst 1, 1) := by decide +kernel
theorem dX8_canBeTakenAs_8 : decode cX8_canBeTakenAs 8 = .ok (.if_icmp .ne 14, 3) := by decide +kernel
theorem dX8_canBeTakenAs_11 : decode cX8_canBeTakenAs 11 = .ok (.iload_n 0, 1) := by decide +kernel
theorem dX8_canBeTakenAs_12 : decode cX8_canBeTakenAs 12 = .ok (.iconst 3, 1) := by decide +kernel
theorem dX8_canBeTakenAs_13 : decode cX8_canBeTakenAs 13 = .ok (.if_icmp .eq 7, 3) := by decide +kernel
theorem dX8_canBeTakenAs_16 : decode cX8_canBeTakenAs 16 = .ok (.iconst 1, 1) := by decide +kernel
theorem dX8_canBeTakenAs_17 : decode cX8_canBeTakenAs 17 = .ok (.goto 4, 3) := by decide +kernel
theorem dX8_canBeTakenAs_20 : decode cX8_canBeTakenAs 20 = .ok (.iconst 0, 1) := by decide +kernel
theorem dX8_canBeTakenAs_21 : decode cX8_canBeTakenAs 21 = .ok (.ireturn, 1) := by decide +kernel
theorem dX8_canBeTakenAs_22 : decode cX8_canBeTakenAs 22 = .ok (.iload_n 0, 1) := by decide +kernel
theorem dX8_canBeTakenAs_23 : decode cX8_canBeTakenAs 23 = .ok (.iload_n 1, 1) := by decide +kernel
theorem dX8_canBeTakenAs_24 : decode cX8_canBeTakenAs 24 = .ok (.iconst 1, 1) := by decide +kernel
theorem dX8_canBeTakenAs_25 : decode cX8_canBeTakenAs 25 = .ok (.isub, 1) := by decide +kernel
theorem dX8_canBeTakenAs_26 : decode cX8_canBeTakenAs 26 = .ok (.if_icmp .ne 7, 3) := by decide +kernel
theorem dX8_canBeTakenAs_29 : decode cX8_canBeTakenAs 29 = .ok (.iconst 1, 1) := by decide +kernel
theorem dX8_canBeTakenAs_30 : decode cX8_canBeTakenAs 30 = .ok (.goto 4, 3) := by decide +kernel
theorem dX8_canBeTakenAs_33 : decode cX8_canBeTakenAs 33 = .ok (.iconst 0, 1) := by decide +kernel
theorem dX8_canBeTakenAs_34 : decode cX8_canBeTakenAs 34 = .ok (.ireturn, 1) := by decide +kernel
def fX8_canBeTakenAs (a1 : Int32) (a2 : Int32) : Int32 := if a2 = 0 then 1 else (if a2 = 1 then (xlet (if a1 = 3 then (0 : Int32) else 1) (fun y_2 => y_2)) else (xlet (if a1 = (a2 - 1) then (1 : Int32) else 0) (fun y_1 => y_1)))
set_option maxHeartbeats 4000000 in
set_option maxRecDepth 100000 in
theorem c_X8_canBeTakenAs (l : Launch) (D : va_G) (cI cZ : ClassId) (sz : Nat) (a1 : Int32) (a2 : Int32)  : Met l yX8_canBeTakenAs wsX8_canBeTakenAs ({ frames := 0, cells := 0, slots := 0, locals := 0 } : Room) (va_Pc [.int a1, .int a2] (xP D cI cZ [] sz)) (va_Qi (fun (r : Int32) (u : Unit) => r = fX8_canBeTakenAs a1 a2) (fun (u : Unit) t => xB D cI cZ [] (va_A [] sz) t) (va_A [] sz)) 0 0 (va_A [] sz) := by
  refine Met.ofW (cc := cX8_canBeTakenAs) (maxL := 2) (ret := (some .boolean)) (by decide) rfl ?_
  intro p e s m args below meth c s₁ B hml hv
  obtain ⟨hargs, hsz, hP, hK, hD0, hE⟩ := hv
  subst hargs
  have hx := B.exec
  have hb := B.bytes
  have hr := B.returns
  have hts := atoms_spec (ws := wsX8_canBeTakenAs) B.pre
  have hown : s.vm.findClass RX8 = some m.cls := findClass_of_methodNamed B.named
  have hlocks := B.notSynchronized
  subst hsz
  have hD := hD0.self (sz := s.heap.size)
  generalize hAe : va_A [] s.heap.size = A at hD ⊢
  have hA : ∀ q : Nat, s.heap.size ≤ q → A q := fun q h => by rw [← hAe]; exact Or.inr h
  have hS : va_S A s.heap s.heap [] := va_S.rf
  have hl := lv_entry ([.int a1, .int a2]) (n := 2) (Nat.le_of_ble_eq_true rfl)
  rw [lg_entry_eq]
  generalize (lg_sl ([.int a1, .int a2]) ++ List.replicate (2 - (lg_sl ([.int a1, .int a2])).length) Slot.unset).toArray = ls at hl ⊢
  have hl : lv_has ls 2 [(0, .int a1), (1, .int a2)] := hl
  refine wq (X := fun Q => ∀ (pc : Nat) (H : Heap) (locs : List Loc) (ls : Array Slot) (r : Int32) (u : Unit) (hn : narrow .boolean (.int r) = .int r) (hd : decode cX8_canBeTakenAs pc = .ok (.ireturn, 1)) (hp : r = fX8_canBeTakenAs a1 a2) (hP : va_P D vwCl [] H) (hD : va_D A []) (hS : va_S A s.heap H locs), W p l e ({ frames := 0, cells := 0, slots := 0, locals := 0 } : Room) s m ([.int a1, .int a2] : List Value).toArray below meth c H locs 0 0 Q (F0 m pc ls [.int r])) ?_ (fun Q hret => ?_)
  · intro pc H locs ls r u hn hd hp hP hD hS
    exact W.zret (v := r) hx hb hr hn (fun t ht hW => ⟨⟨r, u, rfl, hp, by rw [ht]; exact hP, va_K.moved hW.alike hK, hD⟩, hS.F ht⟩) hS.2.2 hd
  have hF : fX8_canBeTakenAs a1 a2 = fX8_canBeTakenAs a1 a2 := rfl
  refine lv_iload_n hx hb dX8_canBeTakenAs_0 rfl (lv_at hl 1 rfl) ?_
  refine lv_if_ne (tgt := 6) hx hb dX8_canBeTakenAs_1 (by decide) (fun c_1 => ?_) (fun c_1 => ?_)
  · refine lv_iload_n hx hb dX8_canBeTakenAs_6 rfl (lv_at hl 1 rfl) ?_
    refine lv_iconst (v := 1) hx hb dX8_canBeTakenAs_7 (by decide) ?_
    refine lv_icmp_ne (tgt := 22) hx hb dX8_canBeTakenAs_8 (by decide) (fun c_2 => ?_) (fun c_2 => ?_)
    · refine lv_iload_n hx hb dX8_canBeTakenAs_22 rfl (lv_at hl 0 rfl) ?_
      refine lv_iload_n hx hb dX8_canBeTakenAs_23 rfl (lv_at hl 1 rfl) ?_
      refine lv_iconst (v := 1) hx hb dX8_canBeTakenAs_24 (by decide) ?_
      refine lv_isub hx hb dX8_canBeTakenAs_25 ?_
      have K_y_1 : ∀ (y_1 : Int32) (hy_y_1 : (if a1 = (a2 - 1) then (1 : Int32) else 0) = y_1) (H : Heap) (locs : List Loc) (hP : va_P D vwCl [] H) (hD : va_D A []) (hS : va_S A s.heap H locs), W p l e ({ frames := 0, cells := 0, slots := 0, locals := 0 } : Room) s m ([.int a1, .int a2] : List Value).toArray below meth c H locs 0 0 Q (F0 m 34 ls [.int y_1]) := by
        intro y_1 hy_y_1 H locs hP hD hS
        have ky_y_1 : y_1 = 0 ∨ y_1 = 1 := by rw [← hy_y_1]; (repeat' split) <;> simp
        exact hret _ _ _ _ y_1 () (by rcases ky_y_1 with h | h <;> rw [h] <;> rfl) dX8_canBeTakenAs_34 ((hF.trans (by simp only [fX8_canBeTakenAs, xlet, if_neg c_1, if_neg c_2, ↓hy_y_1])).symm) hP hD hS
      refine lv_icmp_ne (tgt := 33) hx hb dX8_canBeTakenAs_26 (by decide) (fun c_3 => ?_) (fun c_3 => ?_)
      · refine lv_iconst (v := 0) hx hb dX8_canBeTakenAs_33 (by decide) ?_
        exact K_y_1 _ (by simp only [xlet, if_neg c_3]) _ _ hP hD hS
      · refine lv_iconst (v := 1) hx hb dX8_canBeTakenAs_29 (by decide) ?_
        refine lv_goto (tgt := 34) hx hb dX8_canBeTakenAs_30 (by decide) ?_
        exact K_y_1 _ (by simp only [xlet, if_pos c_3]) _ _ hP hD hS
    · refine lv_iload_n hx hb dX8_canBeTakenAs_11 rfl (lv_at hl 0 rfl) ?_
      refine lv_iconst (v := 3) hx hb dX8_canBeTakenAs_12 (by decide) ?_
      have K_y_2 : ∀ (y_2 : Int32) (hy_y_2 : (if a1 = 3 then (0 : Int32) else 1) = y_2) (H : Heap) (locs : List Loc) (hP : va_P D vwCl [] H) (hD : va_D A []) (hS : va_S A s.heap H locs), W p l e ({ frames := 0, cells := 0, slots := 0, locals := 0 } : Room) s m ([.int a1, .int a2] : List Value).toArray below meth c H locs 0 0 Q (F0 m 21 ls [.int y_2]) := by
        intro y_2 hy_y_2 H locs hP hD hS
        have ky_y_2 : y_2 = 0 ∨ y_2 = 1 := by rw [← hy_y_2]; (repeat' split) <;> simp
        exact hret _ _ _ _ y_2 () (by rcases ky_y_2 with h | h <;> rw [h] <;> rfl) dX8_canBeTakenAs_21 ((hF.trans (by simp only [fX8_canBeTakenAs, xlet, if_neg c_1, if_pos c_2, ↓hy_y_2])).symm) hP hD hS
      refine lv_icmp_eq (tgt := 20) hx hb dX8_canBeTakenAs_13 (by decide) (fun c_4 => ?_) (fun c_4 => ?_)
      · refine lv_iconst (v := 0) hx hb dX8_canBeTakenAs_20 (by decide) ?_
        exact K_y_2 _ (by simp only [xlet, if_pos c_4]) _ _ hP hD hS
      · refine lv_iconst (v := 1) hx hb dX8_canBeTakenAs_16 (by decide) ?_
        refine lv_goto (tgt := 21) hx hb dX8_canBeTakenAs_17 (by decide) ?_
        exact K_y_2 _ (by simp only [xlet, if_neg c_4]) _ _ hP hD hS
  · refine lv_iconst (v := 1) hx hb dX8_canBeTakenAs_4 (by decide) ?_
    exact hret _ _ _ _ 1 () rfl dX8_canBeTakenAs_5 ((hF.trans (by simp only [fX8_canBeTakenAs, xlet, if_pos c_1])).symm) hP hD hS
theorem bz_X8_canBeTakenAs (a1 : Int32) (a2 : Int32) : narrow .boolean (.int (fX8_canBeTakenAs a1 a2)) = .int (fX8_canBeTakenAs a1 a2) := by
  unfold fX8_canBeTakenAs; try unfold xlet
  first | rfl | ((repeat' split) <;> first | rfl)
theorem dX8_power_0 : decode cX8_power 0 = .ok (.iconst 1, 1) := by decide +kernel
theorem dX8_power_1 : decode cX8_power 1 = .ok (.istore_n 2, 1) := by decide +kernel
theorem dX8_power_2 : decode cX8_power 2 = .ok (.iconst 0, 1) := by decide +kernel
theorem dX8_power_3 : decode cX8_power 3 = .ok (.istore_n 3, 1) := by decide +kernel
theorem dX8_power_4 : decode cX8_power 4 = .ok (.iload_n 3, 1) := by decide +kernel
theorem dX8_power_5 : decode cX8_power 5 = .ok (.iload_n 1, 1) := by decide +kernel
theorem dX8_power_6 : decode cX8_power 6 = .ok (.if_icmp .ge 13, 3) := by decide +kernel
theorem dX8_power_9 : decode cX8_power 9 = .ok (.iload_n 2, 1) := by decide +kernel
theorem dX8_power_10 : decode cX8_power 10 = .ok (.iload_n 0, 1) := by decide +kernel
theorem dX8_power_11 : decode cX8_power 11 = .ok (.imul, 1) := by decide +kernel
theorem dX8_power_12 : decode cX8_power 12 = .ok (.istore_n 2, 1) := by decide +kernel
theorem dX8_power_13 : decode cX8_power 13 = .ok (.iinc 3 1, 3) := by decide +kernel
theorem dX8_power_16 : decode cX8_power 16 = .ok (.goto (-12), 3) := by decide +kernel
theorem dX8_power_19 : decode cX8_power 19 = .ok (.iload_n 2, 1) := by decide +kernel
theorem dX8_power_20 : decode cX8_power 20 = .ok (.ireturn, 1) := by decide +kernel
def fX8_power_4 (a1 : Int32) (a2 : Int32)  : Nat → Int32 → Int32 → Int32
  | 0, _, _ => default
  | n + 1, v4_2, v4_3 => if a2 ≤ v4_3 then v4_2 else (fX8_power_4 a1 a2 n (v4_2 * a1) (v4_3 + 1))
def fX8_power (a1 : Int32) (a2 : Int32) : Int32 := fX8_power_4 a1 a2 1000 1 0
set_option maxHeartbeats 4000000 in
set_option maxRecDepth 100000 in
theorem c_X8_power (l : Launch) (D : va_G) (cI cZ : ClassId) (sz : Nat) (a1 : Int32) (a2 : Int32) (ha2 : a2.toInt ≤ 100) : Met l yX8_power wsX8_power ({ frames := 0, cells := 0, slots := 0, locals := 0 } : Room) (va_Pc [.int a1, .int a2] (xP D cI cZ [] sz)) (va_Qi (fun (r : Int32) (u : Unit) => r = fX8_power a1 a2) (fun (u : Unit) t => xB D cI cZ [] (va_A [] sz) t) (va_A [] sz)) 0 0 (va_A [] sz) := by
  refine Met.ofW (cc := cX8_power) (maxL := 4) (ret := (some .int)) (by decide) rfl ?_
  intro p e s m args below meth c s₁ B hml hv
  obtain ⟨hargs, hsz, hP, hK, hD0, hE⟩ := hv
  subst hargs
  have hx := B.exec
  have hb := B.bytes
  have hr := B.returns
  have hts := atoms_spec (ws := wsX8_power) B.pre
  have hown : s.vm.findClass RX8 = some m.cls := findClass_of_methodNamed B.named
  have hlocks := B.notSynchronized
  subst hsz
  have hD := hD0.self (sz := s.heap.size)
  generalize hAe : va_A [] s.heap.size = A at hD ⊢
  have hA : ∀ q : Nat, s.heap.size ≤ q → A q := fun q h => by rw [← hAe]; exact Or.inr h
  have hS : va_S A s.heap s.heap [] := va_S.rf
  have hl := lv_entry ([.int a1, .int a2]) (n := 4) (Nat.le_of_ble_eq_true rfl)
  rw [lg_entry_eq]
  generalize (lg_sl ([.int a1, .int a2]) ++ List.replicate (4 - (lg_sl ([.int a1, .int a2])).length) Slot.unset).toArray = ls at hl ⊢
  have hl : lv_has ls 4 [(0, .int a1), (1, .int a2)] := hl
  refine wq (X := fun Q => ∀ (pc : Nat) (H : Heap) (locs : List Loc) (ls : Array Slot) (r : Int32) (u : Unit) (hd : decode cX8_power pc = .ok (.ireturn, 1)) (hp : r = fX8_power a1 a2) (hP : va_P D vwCl [] H) (hD : va_D A []) (hS : va_S A s.heap H locs), W p l e ({ frames := 0, cells := 0, slots := 0, locals := 0 } : Room) s m ([.int a1, .int a2] : List Value).toArray below meth c H locs 0 0 Q (F0 m pc ls [.int r])) ?_ (fun Q hret => ?_)
  · intro pc H locs ls r u hd hp hP hD hS
    exact W.iret (v := r) hx hb hr (fun t ht hW => ⟨⟨r, u, rfl, hp, by rw [ht]; exact hP, va_K.moved hW.alike hK, hD⟩, hS.F ht⟩) hS.2.2 hd
  have zl_0 : (0 : Int32).toInt = 0 := by decide
  have zl_1 : (1 : Int32).toInt = 1 := by decide
  have hF : fX8_power a1 a2 = fX8_power a1 a2 := rfl
  have L_4 : ∀ (n : Nat) (v4_2 : Int32) (v4_3 : Int32) (h1_4 : 0 ≤ v4_3.toInt) (h2_4 : v4_3.toInt ≤ 100) (hm : 100 - v4_3.toInt < (n : Int)) (H : Heap) (locs : List Loc) (ls : Array Slot) (hl : lv_has ls 4 [(0, .int a1), (1, .int a2), (2, .int v4_2), (3, .int v4_3)]) (hP : va_P D vwCl [] H) (hD : va_D A []) (hS : va_S A s.heap H locs) (hF : fX8_power a1 a2 = fX8_power_4 a1 a2 n v4_2 v4_3), W p l e ({ frames := 0, cells := 0, slots := 0, locals := 0 } : Room) s m ([.int a1, .int a2] : List Value).toArray below meth c H locs 0 0 Q (F0 m 4 ls []) := by
    intro n
    induction n with
    | zero =>
      intro v4_2 v4_3 h1_4 h2_4 hm H locs ls hl hP hD hS hF
      exact absurd hm (by omega)
    | succ n ih_4 =>
      intro v4_2 v4_3 h1_4 h2_4 hm H locs ls hl hP hD hS hF
      refine lv_iload_n hx hb dX8_power_4 rfl (lv_at hl 3 rfl) ?_
      refine lv_iload_n hx hb dX8_power_5 rfl (lv_at hl 1 rfl) ?_
      refine lv_icmp_ge (tgt := 19) hx hb dX8_power_6 (by decide) (fun c_1 => ?_) (fun c_1 => ?_)
      · have kc_1 := t_le c_1
        refine lv_iload_n hx hb dX8_power_19 rfl (lv_at hl 2 rfl) ?_
        exact hret _ _ _ _ v4_2 () dX8_power_20 ((hF.trans (by simp only [fX8_power_4, xlet, if_pos c_1])).symm) hP hD hS
      · have kc_1 := t_nle c_1
        refine lv_iload_n hx hb dX8_power_9 rfl (lv_at hl 2 rfl) ?_
        refine lv_iload_n hx hb dX8_power_10 rfl (lv_at hl 0 rfl) ?_
        refine lv_imul hx hb dX8_power_11 ?_
        refine lv_istore_n (lv' := [(2, .int (v4_2 * a1)), (0, .int a1), (1, .int a2), (3, .int v4_3)]) hx hb dX8_power_12 rfl hl (by decide) rfl (fun ls hl => ?_)
        refine lv_iinc (v := (v4_3 + 1)) (lv' := [(3, .int (v4_3 + 1)), (2, .int (v4_2 * a1)), (0, .int a1), (1, .int a2)]) hx hb dX8_power_13 hl (k := 3) rfl (by rfl) (by decide) rfl (fun ls hl => ?_)
        refine lv_goto (tgt := 4) hx hb dX8_power_16 (by decide) ?_
        have z_1 : (v4_3 + 1).toInt = v4_3.toInt + (1 : Int32).toInt := z_add (by omega) (by omega)
        exact ih_4 (v4_2 * a1) (v4_3 + 1) (by first | assumption | omega | decide | (split <;> rename_i hh <;> first | (have h9 := t_nlt hh; omega) | (have h9 := t_lt hh; omega) | (have h9 := t_nle hh; omega) | (have h9 := t_le hh; omega))) (by first | assumption | omega | decide | (split <;> rename_i hh <;> first | (have h9 := t_nlt hh; omega) | (have h9 := t_lt hh; omega) | (have h9 := t_nle hh; omega) | (have h9 := t_le hh; omega))) (by first | assumption | omega | decide | (split <;> rename_i hh <;> first | (have h9 := t_nlt hh; omega) | (have h9 := t_lt hh; omega) | (have h9 := t_nle hh; omega) | (have h9 := t_le hh; omega))) _ _ _ (lv_sub hl [2, 3, 1, 0] rfl) hP hD hS (hF.trans (by simp only [fX8_power_4, xlet, if_neg c_1]))
  refine lv_iconst (v := 1) hx hb dX8_power_0 (by decide) ?_
  refine lv_istore_n (lv' := [(2, .int 1), (0, .int a1), (1, .int a2)]) hx hb dX8_power_1 rfl hl (by decide) rfl (fun ls hl => ?_)
  refine lv_iconst (v := 0) hx hb dX8_power_2 (by decide) ?_
  refine lv_istore_n (lv' := [(3, .int 0), (2, .int 1), (0, .int a1), (1, .int a2)]) hx hb dX8_power_3 rfl hl (by decide) rfl (fun ls hl => ?_)
  exact L_4 1000 1 0 (by first | assumption | omega | decide | (split <;> rename_i hh <;> first | (have h9 := t_nlt hh; omega) | (have h9 := t_lt hh; omega) | (have h9 := t_nle hh; omega) | (have h9 := t_le hh; omega))) (by first | assumption | omega | decide | (split <;> rename_i hh <;> first | (have h9 := t_nlt hh; omega) | (have h9 := t_lt hh; omega) | (have h9 := t_nle hh; omega) | (have h9 := t_le hh; omega))) (by first | assumption | omega | decide | (split <;> rename_i hh <;> first | (have h9 := t_nlt hh; omega) | (have h9 := t_lt hh; omega) | (have h9 := t_nle hh; omega) | (have h9 := t_le hh; omega))) _ _ _ (lv_sub hl [2, 3, 1, 0] rfl) hP hD hS (hF.trans (by simp only [fX8_power, xlet]))
theorem dX8_commonDivisor_0 : decode cX8_commonDivisor 0 = .ok (.iload_n 0, 1) := by decide +kernel
theorem dX8_commonDivisor_1 : decode cX8_commonDivisor 1 = .ok (.istore_n 2, 1) := by decide +kernel
theorem dX8_commonDivisor_2 : decode cX8_commonDivisor 2 = .ok (.iload_n 1, 1) := by decide +kernel
theorem dX8_commonDivisor_3 : decode cX8_commonDivisor 3 = .ok (.istore_n 3, 1) := by decide +kernel
theorem dX8_commonDivisor_4 : decode cX8_commonDivisor 4 = .ok (.iconst 0, 1) := by decide +kernel
theorem dX8_commonDivisor_5 : decode cX8_commonDivisor 5 = .ok (.istore 4, 2) := by decide +kernel
theorem dX8_commonDivisor_7 : decode cX8_commonDivisor 7 = .ok (.iload 4, 2) := by decide +kernel
theorem dX8_commonDivisor_9 : decode cX8_commonDivisor 9 = .ok (.bipush 64, 2) := by decide +kernel
theorem dX8_commonDivisor_11 : decode cX8_commonDivisor 11 = .ok (.if_icmp .ge 23, 3) := by decide +kernel
theorem dX8_commonDivisor_14 : decode cX8_commonDivisor 14 = .ok (.iload_n 3, 1) := by decide +kernel
theorem dX8_commonDivisor_15 : decode cX8_commonDivisor 15 = .ok (.ifCond .eq 19, 3) := by decide +kernel
theorem dX8_commonDivisor_18 : decode cX8_commonDivisor 18 = .ok (.iload_n 2, 1) := by decide +kernel
theorem dX8_commonDivisor_19 : decode cX8_commonDivisor 19 = .ok (.iload_n 3, 1) := by decide +kernel
theorem dX8_commonDivisor_20 : decode cX8_commonDivisor 20 = .ok (.irem, 1) := by decide +kernel
theorem dX8_commonDivisor_21 : decode cX8_commonDivisor 21 = .ok (.istore 5, 2) := by decide +kernel
theorem dX8_commonDivisor_23 : decode cX8_commonDivisor 23 = .ok (.iload_n 3, 1) := by decide +kernel
theorem dX8_commonDivisor_24 : decode cX8_commonDivisor 24 = .ok (.istore_n 2, 1) := by decide +kernel
theorem dX8_commonDivisor_25 : decode cX8_commonDivisor 25 = .ok (.iload 5, 2) := by decide +kernel
theorem dX8_commonDivisor_27 : decode cX8_commonDivisor 27 = .ok (.istore_n 3, 1) := by decide +kernel
theorem dX8_commonDivisor_28 : decode cX8_commonDivisor 28 = .ok (.iinc 4 1, 3) := by decide +kernel
theorem dX8_commonDivisor_31 : decode cX8_commonDivisor 31 = .ok (.goto (-24), 3) := by decide +kernel
theorem dX8_commonDivisor_34 : decode cX8_commonDivisor 34 = .ok (.iload_n 2, 1) := by decide +kernel
theorem dX8_commonDivisor_35 : decode cX8_commonDivisor 35 = .ok (.ireturn, 1) := by decide +kernel
def fX8_commonDivisor_7   : Nat → Int32 → Int32 → Int32 → Int32
  | 0, _, _, _ => default
  | n + 1, v7_2, v7_3, v7_4 => if 64 ≤ v7_4 then v7_2 else (if v7_3 = 0 then v7_2 else (fX8_commonDivisor_7 n v7_3 (v7_2 - v7_2 / v7_3 * v7_3) (v7_4 + 1)))
def fX8_commonDivisor (a1 : Int32) (a2 : Int32) : Int32 := fX8_commonDivisor_7 1000 a1 a2 0
set_option maxHeartbeats 4000000 in
set_option maxRecDepth 100000 in
theorem c_X8_commonDivisor (l : Launch) (D : va_G) (cI cZ : ClassId) (sz : Nat) (a1 : Int32) (a2 : Int32)  : Met l yX8_commonDivisor wsX8_commonDivisor ({ frames := 0, cells := 0, slots := 0, locals := 0 } : Room) (va_Pc [.int a1, .int a2] (xP D cI cZ [] sz)) (va_Qi (fun (r : Int32) (u : Unit) => r = fX8_commonDivisor a1 a2) (fun (u : Unit) t => xB D cI cZ [] (va_A [] sz) t) (va_A [] sz)) 0 0 (va_A [] sz) := by
  refine Met.ofW (cc := cX8_commonDivisor) (maxL := 6) (ret := (some .int)) (by decide) rfl ?_
  intro p e s m args below meth c s₁ B hml hv
  obtain ⟨hargs, hsz, hP, hK, hD0, hE⟩ := hv
  subst hargs
  have hx := B.exec
  have hb := B.bytes
  have hr := B.returns
  have hts := atoms_spec (ws := wsX8_commonDivisor) B.pre
  have hown : s.vm.findClass RX8 = some m.cls := findClass_of_methodNamed B.named
  have hlocks := B.notSynchronized
  subst hsz
  have hD := hD0.self (sz := s.heap.size)
  generalize hAe : va_A [] s.heap.size = A at hD ⊢
  have hA : ∀ q : Nat, s.heap.size ≤ q → A q := fun q h => by rw [← hAe]; exact Or.inr h
  have hS : va_S A s.heap s.heap [] := va_S.rf
  have hl := lv_entry ([.int a1, .int a2]) (n := 6) (Nat.le_of_ble_eq_true rfl)
  rw [lg_entry_eq]
  generalize (lg_sl ([.int a1, .int a2]) ++ List.replicate (6 - (lg_sl ([.int a1, .int a2])).length) Slot.unset).toArray = ls at hl ⊢
  have hl : lv_has ls 6 [(0, .int a1), (1, .int a2)] := hl
  refine wq (X := fun Q => ∀ (pc : Nat) (H : Heap) (locs : List Loc) (ls : Array Slot) (r : Int32) (u : Unit) (hd : decode cX8_commonDivisor pc = .ok (.ireturn, 1)) (hp : r = fX8_commonDivisor a1 a2) (hP : va_P D vwCl [] H) (hD : va_D A []) (hS : va_S A s.heap H locs), W p l e ({ frames := 0, cells := 0, slots := 0, locals := 0 } : Room) s m ([.int a1, .int a2] : List Value).toArray below meth c H locs 0 0 Q (F0 m pc ls [.int r])) ?_ (fun Q hret => ?_)
  · intro pc H locs ls r u hd hp hP hD hS
    exact W.iret (v := r) hx hb hr (fun t ht hW => ⟨⟨r, u, rfl, hp, by rw [ht]; exact hP, va_K.moved hW.alike hK, hD⟩, hS.F ht⟩) hS.2.2 hd
  have zl_0 : (0 : Int32).toInt = 0 := by decide
  have zl_1 : (1 : Int32).toInt = 1 := by decide
  have zl_64 : (64 : Int32).toInt = 64 := by decide
  have hF : fX8_commonDivisor a1 a2 = fX8_commonDivisor a1 a2 := rfl
  have L_7 : ∀ (n : Nat) (v7_2 : Int32) (v7_3 : Int32) (v7_4 : Int32) (h1_7 : 0 ≤ v7_4.toInt) (h2_7 : v7_4.toInt ≤ 64) (hm : 64 - v7_4.toInt < (n : Int)) (H : Heap) (locs : List Loc) (ls : Array Slot) (hl : lv_has ls 6 [(0, .int a1), (1, .int a2), (2, .int v7_2), (3, .int v7_3), (4, .int v7_4)]) (hP : va_P D vwCl [] H) (hD : va_D A []) (hS : va_S A s.heap H locs) (hF : fX8_commonDivisor a1 a2 = fX8_commonDivisor_7 n v7_2 v7_3 v7_4), W p l e ({ frames := 0, cells := 0, slots := 0, locals := 0 } : Room) s m ([.int a1, .int a2] : List Value).toArray below meth c H locs 0 0 Q (F0 m 7 ls []) := by
    intro n
    induction n with
    | zero =>
      intro v7_2 v7_3 v7_4 h1_7 h2_7 hm H locs ls hl hP hD hS hF
      exact absurd hm (by omega)
    | succ n ih_7 =>
      intro v7_2 v7_3 v7_4 h1_7 h2_7 hm H locs ls hl hP hD hS hF
      refine lv_iload hx hb dX8_commonDivisor_7 (lv_at hl 4 rfl) ?_
      refine lv_bipush (v := 64) hx hb dX8_commonDivisor_9 (by decide) ?_
      refine lv_icmp_ge (tgt := 34) hx hb dX8_commonDivisor_11 (by decide) (fun c_1 => ?_) (fun c_1 => ?_)
      · have kc_1 := t_le c_1
        refine lv_iload_n hx hb dX8_commonDivisor_34 rfl (lv_at hl 2 rfl) ?_
        exact hret _ _ _ _ v7_2 () dX8_commonDivisor_35 ((hF.trans (by simp only [fX8_commonDivisor_7, xlet, if_pos c_1])).symm) hP hD hS
      · have kc_1 := t_nle c_1
        refine lv_iload_n hx hb dX8_commonDivisor_14 rfl (lv_at hl 3 rfl) ?_
        refine lv_if_eq (tgt := 34) hx hb dX8_commonDivisor_15 (by decide) (fun c_2 => ?_) (fun c_2 => ?_)
        · have kc_2 := t_eq c_2
          refine lv_iload_n hx hb dX8_commonDivisor_34 rfl (lv_at hl 2 rfl) ?_
          exact hret _ _ _ _ v7_2 () dX8_commonDivisor_35 ((hF.trans (by simp only [fX8_commonDivisor_7, xlet, if_neg c_1, if_pos c_2])).symm) hP hD hS
        · have kc_2 := t_neq c_2
          refine lv_iload_n hx hb dX8_commonDivisor_18 rfl (lv_at hl 2 rfl) ?_
          refine lv_iload_n hx hb dX8_commonDivisor_19 rfl (lv_at hl 3 rfl) ?_
          refine lv_irem hx hb dX8_commonDivisor_20 (by first | assumption | (intro h0; have h1 := t_eq h0; omega)) ?_
          refine lv_istore (lv' := [(5, .int (v7_2 - v7_2 / v7_3 * v7_3)), (0, .int a1), (1, .int a2), (2, .int v7_2), (3, .int v7_3), (4, .int v7_4)]) hx hb dX8_commonDivisor_21 hl (by decide) rfl (fun ls hl => ?_)
          refine lv_iload_n hx hb dX8_commonDivisor_23 rfl (lv_at hl 4 rfl) ?_
          refine lv_istore_n (lv' := [(2, .int v7_3), (5, .int (v7_2 - v7_2 / v7_3 * v7_3)), (0, .int a1), (1, .int a2), (3, .int v7_3), (4, .int v7_4)]) hx hb dX8_commonDivisor_24 rfl hl (by decide) rfl (fun ls hl => ?_)
          refine lv_iload hx hb dX8_commonDivisor_25 (lv_at hl 1 rfl) ?_
          refine lv_istore_n (lv' := [(3, .int (v7_2 - v7_2 / v7_3 * v7_3)), (2, .int v7_3), (5, .int (v7_2 - v7_2 / v7_3 * v7_3)), (0, .int a1), (1, .int a2), (4, .int v7_4)]) hx hb dX8_commonDivisor_27 rfl hl (by decide) rfl (fun ls hl => ?_)
          refine lv_iinc (v := (v7_4 + 1)) (lv' := [(4, .int (v7_4 + 1)), (3, .int (v7_2 - v7_2 / v7_3 * v7_3)), (2, .int v7_3), (5, .int (v7_2 - v7_2 / v7_3 * v7_3)), (0, .int a1), (1, .int a2)]) hx hb dX8_commonDivisor_28 hl (k := 5) rfl (by rfl) (by decide) rfl (fun ls hl => ?_)
          refine lv_goto (tgt := 7) hx hb dX8_commonDivisor_31 (by decide) ?_
          have z_1 : (v7_4 + 1).toInt = v7_4.toInt + (1 : Int32).toInt := z_add (by omega) (by omega)
          exact ih_7 v7_3 (v7_2 - v7_2 / v7_3 * v7_3) (v7_4 + 1) (by first | assumption | omega | decide | (split <;> rename_i hh <;> first | (have h9 := t_nlt hh; omega) | (have h9 := t_lt hh; omega) | (have h9 := t_nle hh; omega) | (have h9 := t_le hh; omega))) (by first | assumption | omega | decide | (split <;> rename_i hh <;> first | (have h9 := t_nlt hh; omega) | (have h9 := t_lt hh; omega) | (have h9 := t_nle hh; omega) | (have h9 := t_le hh; omega))) (by first | assumption | omega | decide | (split <;> rename_i hh <;> first | (have h9 := t_nlt hh; omega) | (have h9 := t_lt hh; omega) | (have h9 := t_nle hh; omega) | (have h9 := t_le hh; omega))) _ _ _ (lv_sub hl [4, 5, 2, 1, 0] rfl) hP hD hS (hF.trans (by simp only [fX8_commonDivisor_7, xlet, if_neg c_1, if_neg c_2]))
  refine lv_iload_n hx hb dX8_commonDivisor_0 rfl (lv_at hl 0 rfl) ?_
  refine lv_istore_n (lv' := [(2, .int a1), (0, .int a1), (1, .int a2)]) hx hb dX8_commonDivisor_1 rfl hl (by decide) rfl (fun ls hl => ?_)
  refine lv_iload_n hx hb dX8_commonDivisor_2 rfl (lv_at hl 2 rfl) ?_
  refine lv_istore_n (lv' := [(3, .int a2), (2, .int a1), (0, .int a1), (1, .int a2)]) hx hb dX8_commonDivisor_3 rfl hl (by decide) rfl (fun ls hl => ?_)
  refine lv_iconst (v := 0) hx hb dX8_commonDivisor_4 (by decide) ?_
  refine lv_istore (lv' := [(4, .int 0), (3, .int a2), (2, .int a1), (0, .int a1), (1, .int a2)]) hx hb dX8_commonDivisor_5 hl (by decide) rfl (fun ls hl => ?_)
  exact L_7 1000 a1 a2 0 (by first | assumption | omega | decide | (split <;> rename_i hh <;> first | (have h9 := t_nlt hh; omega) | (have h9 := t_lt hh; omega) | (have h9 := t_nle hh; omega) | (have h9 := t_le hh; omega))) (by first | assumption | omega | decide | (split <;> rename_i hh <;> first | (have h9 := t_nlt hh; omega) | (have h9 := t_lt hh; omega) | (have h9 := t_nle hh; omega) | (have h9 := t_le hh; omega))) (by first | assumption | omega | decide | (split <;> rename_i hh <;> first | (have h9 := t_nlt hh; omega) | (have h9 := t_lt hh; omega) | (have h9 := t_nle hh; omega) | (have h9 := t_le hh; omega))) _ _ _ (lv_sub hl [3, 4, 2, 1, 0] rfl) hP hD hS (hF.trans (by simp only [fX8_commonDivisor, xlet]))
set_option maxRecDepth 20000 in
theorem ggX8_partOf_X8_commonDivisor : GoodIn wsX8_partOf wsX8_commonDivisor := goodIn_r _ [4] (by decide +kernel) (by decide +kernel)
set_option maxRecDepth 20000 in
theorem gX8_partOf_X8_commonDivisor : GoodIn wsX8_partOf (va_wsS RX8 249 yX8_commonDivisor wsX8_commonDivisor) := goodIn_app (goodIn_of _ (by decide +kernel)) ggX8_partOf_X8_commonDivisor
theorem dX8_partOf_0 : decode cX8_partOf 0 = .ok (.iload_n 0, 1) := by decide +kernel
theorem dX8_partOf_1 : decode cX8_partOf 1 = .ok (.iload_n 1, 1) := by decide +kernel
theorem dX8_partOf_2 : decode cX8_partOf 2 = .ok (.invokestatic 249, 3) := by decide +kernel
theorem dX8_partOf_5 : decode cX8_partOf 5 = .ok (.istore_n 3, 1) := by decide +kernel
theorem dX8_partOf_6 : decode cX8_partOf 6 = .ok (.iload_n 2, 1) := by decide +kernel
theorem dX8_partOf_7 : decode cX8_partOf 7 = .ok (.ifCond .ne 7, 3) := by decide +kernel
theorem dX8_partOf_10 : decode cX8_partOf 10 = .ok (.iload_n 0, 1) := by decide +kernel
theorem dX8_partOf_11 : decode cX8_partOf 11 = .ok (.goto 4, 3) := by decide +kernel
theorem dX8_partOf_14 : decode cX8_partOf 14 = .ok (.iload_n 1, 1) := by decide +kernel
theorem dX8_partOf_15 : decode cX8_partOf 15 = .ok (.istore 4, 2) := by decide +kernel
theorem dX8_partOf_17 : decode cX8_partOf 17 = .ok (.iload_n 3, 1) := by decide +kernel
theorem dX8_partOf_18 : decode cX8_partOf 18 = .ok (.ifCond .ne 8, 3) := by decide +kernel
theorem dX8_partOf_21 : decode cX8_partOf 21 = .ok (.iload 4, 2) := by decide +kernel
theorem dX8_partOf_23 : decode cX8_partOf 23 = .ok (.goto 7, 3) := by decide +kernel
theorem dX8_partOf_26 : decode cX8_partOf 26 = .ok (.iload 4, 2) := by decide +kernel
theorem dX8_partOf_28 : decode cX8_partOf 28 = .ok (.iload_n 3, 1) := by decide +kernel
theorem dX8_partOf_29 : decode cX8_partOf 29 = .ok (.idiv, 1) := by decide +kernel
theorem dX8_partOf_30 : decode cX8_partOf 30 = .ok (.ireturn, 1) := by decide +kernel
def fX8_partOf (a1 : Int32) (a2 : Int32) (a3 : Int32) : Int32 := xlet (if a3 = 0 then a1 else a2) (fun y_1 => xlet (if (fX8_commonDivisor a1 a2) = 0 then y_1 else (y_1 / (fX8_commonDivisor a1 a2))) (fun y_2 => y_2))
set_option maxHeartbeats 4000000 in
set_option maxRecDepth 100000 in
theorem c_X8_partOf (l : Launch) (D : va_G) (cI cZ : ClassId) (sz : Nat) (a1 : Int32) (a2 : Int32) (a3 : Int32)  : Met l yX8_partOf wsX8_partOf ({ frames := 1, cells := 0, slots := 0, locals := 25 } : Room) (va_Pc [.int a1, .int a2, .int a3] (xP D cI cZ [] sz)) (va_Qi (fun (r : Int32) (u : Unit) => r = fX8_partOf a1 a2 a3) (fun (u : Unit) t => xB D cI cZ [] (va_A [] sz) t) (va_A [] sz)) 0 0 (va_A [] sz) := by
  refine Met.ofW (cc := cX8_partOf) (maxL := 5) (ret := (some .int)) (by decide) rfl ?_
  intro p e s m args below meth c s₁ B hml hv
  obtain ⟨hargs, hsz, hP, hK, hD0, hE⟩ := hv
  subst hargs
  have hx := B.exec
  have hb := B.bytes
  have hr := B.returns
  have hts := atoms_spec (ws := wsX8_partOf) B.pre
  have hown : s.vm.findClass RX8 = some m.cls := findClass_of_methodNamed B.named
  have hlocks := B.notSynchronized
  subst hsz
  have hD := hD0.self (sz := s.heap.size)
  generalize hAe : va_A [] s.heap.size = A at hD ⊢
  have hA : ∀ q : Nat, s.heap.size ≤ q → A q := fun q h => by rw [← hAe]; exact Or.inr h
  have hS : va_S A s.heap s.heap [] := va_S.rf
  have hl := lv_entry ([.int a1, .int a2, .int a3]) (n := 5) (Nat.le_of_ble_eq_true rfl)
  rw [lg_entry_eq]
  generalize (lg_sl ([.int a1, .int a2, .int a3]) ++ List.replicate (5 - (lg_sl ([.int a1, .int a2, .int a3])).length) Slot.unset).toArray = ls at hl ⊢
  have hl : lv_has ls 5 [(0, .int a1), (1, .int a2), (2, .int a3)] := hl
  refine wq (X := fun Q => ∀ (pc : Nat) (H : Heap) (locs : List Loc) (ls : Array Slot) (r : Int32) (u : Unit) (hd : decode cX8_partOf pc = .ok (.ireturn, 1)) (hp : r = fX8_partOf a1 a2 a3) (hP : va_P D vwCl [] H) (hD : va_D A []) (hS : va_S A s.heap H locs), W p l e ({ frames := 1, cells := 0, slots := 0, locals := 25 } : Room) s m ([.int a1, .int a2, .int a3] : List Value).toArray below meth c H locs 0 0 Q (F0 m pc ls [.int r])) ?_ (fun Q hret => ?_)
  · intro pc H locs ls r u hd hp hP hD hS
    exact W.iret (v := r) hx hb hr (fun t ht hW => ⟨⟨r, u, rfl, hp, by rw [ht]; exact hP, va_K.moved hW.alike hK, hD⟩, hS.F ht⟩) hS.2.2 hd
  have hF : fX8_partOf a1 a2 a3 = fX8_partOf a1 a2 a3 := rfl
  refine lv_iload_n hx hb dX8_partOf_0 rfl (lv_at hl 0 rfl) ?_
  refine lv_iload_n hx hb dX8_partOf_1 rfl (lv_at hl 1 rfl) ?_
  refine xcalli (S := Unit) (Wc := []) (wr := []) (W1 := (fun (u : Unit) => [])) (Wn := (fun (u : Unit) => [])) (xrunS hx hb hml hown hts (c_X8_commonDivisor l D cI cZ _ a1 a2 ) (va_cwS 2 hts gX8_partOf_X8_commonDivisor rfl rfl rfl (by decide +kernel) ⟨Nat.le_of_ble_eq_true rfl, Nat.le_of_ble_eq_true rfl⟩) hE hK hP hD [] rfl rfl rfl hl.1 rfl (Nat.le_of_ble_eq_true rfl) dX8_partOf_2 ⟨Nat.le_of_ble_eq_true rfl, Nat.le_of_ble_eq_true rfl⟩) hP hD hS hA [] [] [] rfl rfl rfl (by decide) (fun _ => rfl) rfl (fun r1 u H locs hw hz hP hD hS => ?_)
  subst hw
  refine lv_istore_n (lv' := [(3, .int (fX8_commonDivisor a1 a2)), (0, .int a1), (1, .int a2), (2, .int a3)]) hx hb dX8_partOf_5 rfl hl (by decide) rfl (fun ls hl => ?_)
  refine lv_iload_n hx hb dX8_partOf_6 rfl (lv_at hl 3 rfl) ?_
  have K_y_1 : ∀ (y_1 : Int32) (hy_y_1 : (if a3 = 0 then a1 else a2) = y_1) (H : Heap) (locs : List Loc) (hP : va_P D vwCl [] H) (hD : va_D A []) (hS : va_S A s.heap H locs), W p l e ({ frames := 1, cells := 0, slots := 0, locals := 25 } : Room) s m ([.int a1, .int a2, .int a3] : List Value).toArray below meth c H locs 0 0 Q (F0 m 15 ls [.int y_1]) := by
    intro y_1 hy_y_1 H locs hP hD hS
    refine lv_istore (lv' := [(4, .int y_1), (3, .int (fX8_commonDivisor a1 a2)), (0, .int a1), (1, .int a2), (2, .int a3)]) hx hb dX8_partOf_15 hl (by decide) rfl (fun ls hl => ?_)
    refine lv_iload_n hx hb dX8_partOf_17 rfl (lv_at hl 1 rfl) ?_
    have K_y_2 : ∀ (y_2 : Int32) (hy_y_2 : (if (fX8_commonDivisor a1 a2) = 0 then y_1 else (y_1 / (fX8_commonDivisor a1 a2))) = y_2) (H : Heap) (locs : List Loc) (hP : va_P D vwCl [] H) (hD : va_D A []) (hS : va_S A s.heap H locs), W p l e ({ frames := 1, cells := 0, slots := 0, locals := 25 } : Room) s m ([.int a1, .int a2, .int a3] : List Value).toArray below meth c H locs 0 0 Q (F0 m 30 ls [.int y_2]) := by
      intro y_2 hy_y_2 H locs hP hD hS
      exact hret _ _ _ _ y_2 () dX8_partOf_30 ((hF.trans (by simp only [fX8_partOf, xlet, ↓hy_y_1, ↓hy_y_2])).symm) hP hD hS
    refine lv_if_ne (tgt := 26) hx hb dX8_partOf_18 (by decide) (fun c_2 => ?_) (fun c_2 => ?_)
    · refine lv_iload hx hb dX8_partOf_26 (lv_at hl 0 rfl) ?_
      refine lv_iload_n hx hb dX8_partOf_28 rfl (lv_at hl 1 rfl) ?_
      refine lv_idiv hx hb dX8_partOf_29 (by first | assumption | (intro h0; have h1 := t_eq h0; omega)) ?_
      exact K_y_2 _ (by simp only [xlet, if_neg c_2]) _ _ hP hD hS
    · refine lv_iload hx hb dX8_partOf_21 (lv_at hl 0 rfl) ?_
      refine lv_goto (tgt := 30) hx hb dX8_partOf_23 (by decide) ?_
      exact K_y_2 _ (by simp only [xlet, if_pos c_2]) _ _ hP hD hS
  refine lv_if_ne (tgt := 14) hx hb dX8_partOf_7 (by decide) (fun c_1 => ?_) (fun c_1 => ?_)
  · refine lv_iload_n hx hb dX8_partOf_14 rfl (lv_at hl 2 rfl) ?_
    exact K_y_1 _ (by simp only [xlet, if_neg c_1]) _ _ hP hD hS
  · refine lv_iload_n hx hb dX8_partOf_10 rfl (lv_at hl 1 rfl) ?_
    refine lv_goto (tgt := 15) hx hb dX8_partOf_11 (by decide) ?_
    exact K_y_1 _ (by simp only [xlet, if_pos c_1]) _ _ hP hD hS
set_option maxRecDepth 20000 in
theorem ggX8_standsAsWished_X6_numberOf : GoodIn wsX8_standsAsWished wsX6_numberOf := goodIn_r _ [6, 7, 8, 9, 10, 5, 11, 12, 13, 14, 15, 16, 17, 18, 34, 35, 36, 37] (by decide +kernel) (by decide +kernel)
set_option maxRecDepth 20000 in
theorem gX8_standsAsWished_X6_numberOf : GoodIn wsX8_standsAsWished (wsV RX8 183 RX6 yX6_numberOf wsX6_numberOf) := goodIn_app (goodIn_of _ (by decide +kernel)) ggX8_standsAsWished_X6_numberOf
set_option maxRecDepth 20000 in
theorem ggX8_standsAsWished_X6_sumOf : GoodIn wsX8_standsAsWished wsX6_sumOf := goodIn_r _ [22, 7, 12, 8, 9, 10, 5, 11, 13, 14, 15, 16, 17, 18, 34, 35, 36, 37] (by decide +kernel) (by decide +kernel)
set_option maxRecDepth 20000 in
theorem gX8_standsAsWished_X6_sumOf : GoodIn wsX8_standsAsWished (wsV RX8 186 RX6 yX6_sumOf wsX6_sumOf) := goodIn_app (goodIn_of _ (by decide +kernel)) ggX8_standsAsWished_X6_sumOf
theorem dX8_standsAsWished_0 : decode cX8_standsAsWished 0 = .ok (.aload_n 0, 1) := by decide +kernel
theorem dX8_standsAsWished_1 : decode cX8_standsAsWished 1 = .ok (.getfield 58, 3) := by decide +kernel
theorem dX8_standsAsWished_4 : decode cX8_standsAsWished 4 = .ok (.iload_n 1, 1) := by decide +kernel
theorem dX8_standsAsWished_5 : decode cX8_standsAsWished 5 = .ok (.invokevirtual 183, 3) := by decide +kernel
theorem dX8_standsAsWished_8 : decode cX8_standsAsWished 8 = .ok (.istore 4, 2) := by decide +kernel
theorem dX8_standsAsWished_10 : decode cX8_standsAsWished 10 = .ok (.iload 4, 2) := by decide +kernel
theorem dX8_standsAsWished_12 : decode cX8_standsAsWished 12 = .ok (.ifCond .ne 5, 3) := by decide +kernel
theorem dX8_standsAsWished_15 : decode cX8_standsAsWished 15 = .ok (.iconst 0, 1) := by decide +kernel
theorem dX8_standsAsWished_16 : decode cX8_standsAsWished 16 = .ok (.ireturn, 1) := by decide +kernel
theorem dX8_standsAsWished_17 : decode cX8_standsAsWished 17 = .ok (.aload_n 0, 1) := by decide +kernel
theorem dX8_standsAsWished_18 : decode cX8_standsAsWished 18 = .ok (.getfield 58, 3) := by decide +kernel
theorem dX8_standsAsWished_21 : decode cX8_standsAsWished 21 = .ok (.iload_n 1, 1) := by decide +kernel
theorem dX8_standsAsWished_22 : decode cX8_standsAsWished 22 = .ok (.invokevirtual 186, 3) := by decide +kernel
theorem dX8_standsAsWished_25 : decode cX8_standsAsWished 25 = .ok (.istore 5, 2) := by decide +kernel
theorem dX8_standsAsWished_27 : decode cX8_standsAsWished 27 = .ok (.iload_n 3, 1) := by decide +kernel
theorem dX8_standsAsWished_28 : decode cX8_standsAsWished 28 = .ok (.ifCond .eq 20, 3) := by decide +kernel
theorem dX8_standsAsWished_31 : decode cX8_standsAsWished 31 = .ok (.iload 5, 2) := by decide +kernel
theorem dX8_standsAsWished_33 : decode cX8_standsAsWished 33 = .ok (.iload_n 2, 1) := by decide +kernel
theorem dX8_standsAsWished_34 : decode cX8_standsAsWished 34 = .ok (.iload 4, 2) := by decide +kernel
theorem dX8_standsAsWished_36 : decode cX8_standsAsWished 36 = .ok (.imul, 1) := by decide +kernel
theorem dX8_standsAsWished_37 : decode cX8_standsAsWished 37 = .ok (.if_icmp .lt 7, 3) := by decide +kernel
theorem dX8_standsAsWished_40 : decode cX8_standsAsWished 40 = .ok (.iconst 1, 1) := by decide +kernel
theorem dX8_standsAsWished_41 : decode cX8_standsAsWished 41 = .ok (.goto 21, 3) := by decide +kernel
theorem dX8_standsAsWished_44 : decode cX8_standsAsWished 44 = .ok (.iconst 0, 1) := by decide +kernel
theorem dX8_standsAsWished_45 : decode cX8_standsAsWished 45 = .ok (.goto 17, 3) := by decide +kernel
theorem dX8_standsAsWished_48 : decode cX8_standsAsWished 48 = .ok (.iload 5, 2) := by decide +kernel
theorem dX8_standsAsWished_50 : decode cX8_standsAsWished 50 = .ok (.iload_n 2, 1) := by decide +kernel
theorem dX8_standsAsWished_51 : decode cX8_standsAsWished 51 = .ok (.iload 4, 2) := by decide +kernel
theorem dX8_standsAsWished_53 : decode cX8_standsAsWished 53 = .ok (.imul, 1) := by decide +kernel
theorem dX8_standsAsWished_54 : decode cX8_standsAsWished 54 = .ok (.if_icmp .gt 7, 3) := by decide +kernel
theorem dX8_standsAsWished_57 : decode cX8_standsAsWished 57 = .ok (.iconst 1, 1) := by decide +kernel
theorem dX8_standsAsWished_58 : decode cX8_standsAsWished 58 = .ok (.goto 4, 3) := by decide +kernel
theorem dX8_standsAsWished_61 : decode cX8_standsAsWished 61 = .ok (.iconst 0, 1) := by decide +kernel
theorem dX8_standsAsWished_62 : decode cX8_standsAsWished 62 = .ok (.ireturn, 1) := by decide +kernel
def fX8_standsAsWished (a1 : Int32) (a2 : Int32) (a3 : Int32) (o_stones_walkers : Int32) (o_stones_places_f : Nat → Int32) : Int32 := if (fX6_numberOf a1 o_stones_walkers o_stones_places_f) = 0 then 0 else (xlet (if a3 = 0 then (if (a2 * (fX6_numberOf a1 o_stones_walkers o_stones_places_f)) < (fX6_sumOf a1 o_stones_walkers o_stones_places_f) then (0 : Int32) else 1) else (if (fX6_sumOf a1 o_stones_walkers o_stones_places_f) < (a2 * (fX6_numberOf a1 o_stones_walkers o_stones_places_f)) then 0 else 1)) (fun y_1 => y_1))
set_option maxHeartbeats 4000000 in
set_option maxRecDepth 100000 in
theorem c_X8_standsAsWished (l : Launch) (D : va_G) (cI cZ : ClassId) (sz : Nat) (o : Nat) (a1 : Int32) (a2 : Int32) (a3 : Int32) (o_text : Nat) (o_reader : Nat) (o_told : Nat) (o_now : Nat) (o_firstKept : Nat) (o_secondKept : Nat) (o_keptBits : Int32) (o_past : Nat) (o_sightings : Nat) (o_stones : Nat) (o_game : Nat) (o_stones_places : Nat) (o_stones_walkers : Int32) (o_stones_steps : Int32) (o_stones_places_a : Nat) (o_stones_places_f : Nat → Int32) (hq1 : o_stones_walkers.toInt ≤ 6) : Met l yX8_standsAsWished wsX8_standsAsWished ({ frames := 3, cells := 0, slots := 0, locals := 66 } : Room) (va_Pc [.ref o, .int a1, .int a2, .int a3] (xP D cI cZ [(o, .inr (8, [.ref o_text, .ref o_reader, .ref o_told, .ref o_now, .ref o_firstKept, .ref o_secondKept, .int o_keptBits, .ref o_past, .ref o_sightings, .ref o_stones, .ref o_game])), (o_stones, .inr (6, [.ref o_stones_places, .int o_stones_walkers, .int o_stones_steps])), (o_stones_places, .inr (4, [.ref o_stones_places_a])), (o_stones_places_a, .inl (cI, 6, .inl o_stones_places_f))] sz)) (va_Qi (fun (r : Int32) (u : Unit) => r = fX8_standsAsWished a1 a2 a3 o_stones_walkers o_stones_places_f) (fun (u : Unit) t => xB D cI cZ [(o, .inr (8, [.ref o_text, .ref o_reader, .ref o_told, .ref o_now, .ref o_firstKept, .ref o_secondKept, .int o_keptBits, .ref o_past, .ref o_sightings, .ref o_stones, .ref o_game])), (o_stones, .inr (6, [.ref o_stones_places, .int o_stones_walkers, .int o_stones_steps])), (o_stones_places, .inr (4, [.ref o_stones_places_a])), (o_stones_places_a, .inl (cI, 6, .inl o_stones_places_f))] (va_A [(o, .inr (8, [.ref o_text, .ref o_reader, .ref o_told, .ref o_now, .ref o_firstKept, .ref o_secondKept, .int o_keptBits, .ref o_past, .ref o_sightings, .ref o_stones, .ref o_game])), (o_stones, .inr (6, [.ref o_stones_places, .int o_stones_walkers, .int o_stones_steps])), (o_stones_places, .inr (4, [.ref o_stones_places_a])), (o_stones_places_a, .inl (cI, 6, .inl o_stones_places_f))] sz) t) (va_A [(o, .inr (8, [.ref o_text, .ref o_reader, .ref o_told, .ref o_now, .ref o_firstKept, .ref o_secondKept, .int o_keptBits, .ref o_past, .ref o_sightings, .ref o_stones, .ref o_game])), (o_stones, .inr (6, [.ref o_stones_places, .int o_stones_walkers, .int o_stones_steps])), (o_stones_places, .inr (4, [.ref o_stones_places_a])), (o_stones_places_a, .inl (cI, 6, .inl o_stones_places_f))] sz)) 0 0 (va_A [(o, .inr (8, [.ref o_text, .ref o_reader, .ref o_told, .ref o_now, .ref o_firstKept, .ref o_secondKept, .int o_keptBits, .ref o_past, .ref o_sightings, .ref o_stones, .ref o_game])), (o_stones, .inr (6, [.ref o_stones_places, .int o_stones_walkers, .int o_stones_steps])), (o_stones_places, .inr (4, [.ref o_stones_places_a])), (o_stones_places_a, .inl (cI, 6, .inl o_stones_places_f))] sz) := by
  refine Met.ofW (cc := cX8_standsAsWished) (maxL := 6) (ret := (some .boolean)) (by decide) rfl ?_
  intro p e s m args below meth c s₁ B hml hv
  obtain ⟨hargs, hsz, hP, hK, hD0, hE⟩ := hv
  subst hargs
  have hx := B.exec
  have hb := B.bytes
  have hr := B.returns
  have hts := atoms_spec (ws := wsX8_standsAsWished) B.pre
  have hown : s.vm.findClass RX8 = some m.cls := findClass_of_methodNamed B.named
  have hlocks := B.notSynchronized
  subst hsz
  have hD := hD0.self (sz := s.heap.size)
  generalize hAe : va_A [(o, .inr (8, [.ref o_text, .ref o_reader, .ref o_told, .ref o_now, .ref o_firstKept, .ref o_secondKept, .int o_keptBits, .ref o_past, .ref o_sightings, .ref o_stones, .ref o_game])), (o_stones, .inr (6, [.ref o_stones_places, .int o_stones_walkers, .int o_stones_steps])), (o_stones_places, .inr (4, [.ref o_stones_places_a])), (o_stones_places_a, .inl (cI, 6, .inl o_stones_places_f))] s.heap.size = A at hD ⊢
  have hA : ∀ q : Nat, s.heap.size ≤ q → A q := fun q h => by rw [← hAe]; exact Or.inr h
  have hS : va_S A s.heap s.heap [] := va_S.rf
  have hl := lv_entry ([.ref o, .int a1, .int a2, .int a3]) (n := 6) (Nat.le_of_ble_eq_true rfl)
  rw [lg_entry_eq]
  generalize (lg_sl ([.ref o, .int a1, .int a2, .int a3]) ++ List.replicate (6 - (lg_sl ([.ref o, .int a1, .int a2, .int a3])).length) Slot.unset).toArray = ls at hl ⊢
  have hl : lv_has ls 6 [(0, .ref o), (1, .int a1), (2, .int a2), (3, .int a3)] := hl
  refine wq (X := fun Q => ∀ (pc : Nat) (H : Heap) (locs : List Loc) (ls : Array Slot) (r : Int32) (u : Unit) (hn : narrow .boolean (.int r) = .int r) (hd : decode cX8_standsAsWished pc = .ok (.ireturn, 1)) (hp : r = fX8_standsAsWished a1 a2 a3 o_stones_walkers o_stones_places_f) (hP : va_P D vwCl [(o, .inr (8, [.ref o_text, .ref o_reader, .ref o_told, .ref o_now, .ref o_firstKept, .ref o_secondKept, .int o_keptBits, .ref o_past, .ref o_sightings, .ref o_stones, .ref o_game])), (o_stones, .inr (6, [.ref o_stones_places, .int o_stones_walkers, .int o_stones_steps])), (o_stones_places, .inr (4, [.ref o_stones_places_a])), (o_stones_places_a, .inl (cI, 6, .inl o_stones_places_f))] H) (hD : va_D A [(o, .inr (8, [.ref o_text, .ref o_reader, .ref o_told, .ref o_now, .ref o_firstKept, .ref o_secondKept, .int o_keptBits, .ref o_past, .ref o_sightings, .ref o_stones, .ref o_game])), (o_stones, .inr (6, [.ref o_stones_places, .int o_stones_walkers, .int o_stones_steps])), (o_stones_places, .inr (4, [.ref o_stones_places_a])), (o_stones_places_a, .inl (cI, 6, .inl o_stones_places_f))]) (hS : va_S A s.heap H locs), W p l e ({ frames := 3, cells := 0, slots := 0, locals := 66 } : Room) s m ([.ref o, .int a1, .int a2, .int a3] : List Value).toArray below meth c H locs 0 0 Q (F0 m pc ls [.int r])) ?_ (fun Q hret => ?_)
  · intro pc H locs ls r u hn hd hp hP hD hS
    exact W.zret (v := r) hx hb hr hn (fun t ht hW => ⟨⟨r, u, rfl, hp, by rw [ht]; exact hP, va_K.moved hW.alike hK, hD⟩, hS.F ht⟩) hS.2.2 hd
  have hin_8 : ∀ w ∈ u_ws RX8 TX8 11, w ∈ wsX8_standsAsWished := by decide +kernel
  have fl_58 := hts (.fieldLink RX8 58 "MileRoad" "stones" "LMileRoad$Stones;") (by decide +kernel)
  have hF : fX8_standsAsWished a1 a2 a3 o_stones_walkers o_stones_places_f = fX8_standsAsWished a1 a2 a3 o_stones_walkers o_stones_places_f := rfl
  refine lv_aload_n hx hb dX8_standsAsWished_0 rfl (lv_at hl 0 rfl) ?_
  refine xget hx hb hts hown hK 8 (C2 := RX8) (T := TX8) (N := 11) rfl hin_8 hP 0 rfl 9 (by decide) fl_58 rfl rfl rfl dX8_standsAsWished_1 ?_
  refine lv_iload_n hx hb dX8_standsAsWished_4 rfl (lv_at hl 1 rfl) ?_
  refine xcalli (S := Unit) (Wc := [(o_stones, .inr (6, [.ref o_stones_places, .int o_stones_walkers, .int o_stones_steps])), (o_stones_places, .inr (4, [.ref o_stones_places_a])), (o_stones_places_a, .inl (cI, 6, .inl o_stones_places_f))]) (wr := [(o, .inr (8, [.ref o_text, .ref o_reader, .ref o_told, .ref o_now, .ref o_firstKept, .ref o_secondKept, .int o_keptBits, .ref o_past, .ref o_sightings, .ref o_stones, .ref o_game]))]) (W1 := (fun (u : Unit) => [(o_stones, .inr (6, [.ref o_stones_places, .int o_stones_walkers, .int o_stones_steps])), (o_stones_places, .inr (4, [.ref o_stones_places_a])), (o_stones_places_a, .inl (cI, 6, .inl o_stones_places_f))])) (Wn := (fun (u : Unit) => [(o, .inr (8, [.ref o_text, .ref o_reader, .ref o_told, .ref o_now, .ref o_firstKept, .ref o_secondKept, .int o_keptBits, .ref o_past, .ref o_sightings, .ref o_stones, .ref o_game])), (o_stones, .inr (6, [.ref o_stones_places, .int o_stones_walkers, .int o_stones_steps])), (o_stones_places, .inr (4, [.ref o_stones_places_a])), (o_stones_places_a, .inl (cI, 6, .inl o_stones_places_f))])) (xrunV hx hb hml hown hts (c_X6_numberOf l D cI cZ _ o_stones a1 o_stones_places o_stones_walkers o_stones_steps o_stones_places_a o_stones_places_f hq1) (cwV 1 hts gX8_standsAsWished_X6_numberOf rfl rfl rfl (by decide +kernel) ⟨Nat.le_of_ble_eq_true rfl, Nat.le_of_ble_eq_true rfl⟩) hE hK hP hD [1, 2, 3] rfl rfl 0 6 (T := TX6) (N := 3) rfl rfl rfl hl.1 rfl (Nat.le_of_ble_eq_true rfl) dX8_standsAsWished_5 ⟨Nat.le_of_ble_eq_true rfl, Nat.le_of_ble_eq_true rfl⟩) hP hD hS hA [1, 2, 3] [0] [0, 1, 2, 3] rfl rfl rfl (by decide) (fun _ => rfl) rfl (fun r1 u H locs hw hz hP hD hS => ?_)
  subst hw
  refine lv_istore (lv' := [(4, .int (fX6_numberOf a1 o_stones_walkers o_stones_places_f)), (0, .ref o), (1, .int a1), (2, .int a2), (3, .int a3)]) hx hb dX8_standsAsWished_8 hl (by decide) rfl (fun ls hl => ?_)
  refine lv_iload hx hb dX8_standsAsWished_10 (lv_at hl 0 rfl) ?_
  refine lv_if_ne (tgt := 17) hx hb dX8_standsAsWished_12 (by decide) (fun c_1 => ?_) (fun c_1 => ?_)
  · refine lv_aload_n hx hb dX8_standsAsWished_17 rfl (lv_at hl 1 rfl) ?_
    refine xget hx hb hts hown hK 8 (C2 := RX8) (T := TX8) (N := 11) rfl hin_8 hP 0 rfl 9 (by decide) fl_58 rfl rfl rfl dX8_standsAsWished_18 ?_
    refine lv_iload_n hx hb dX8_standsAsWished_21 rfl (lv_at hl 2 rfl) ?_
    refine xcalli (S := Unit) (Wc := [(o_stones, .inr (6, [.ref o_stones_places, .int o_stones_walkers, .int o_stones_steps])), (o_stones_places, .inr (4, [.ref o_stones_places_a])), (o_stones_places_a, .inl (cI, 6, .inl o_stones_places_f))]) (wr := [(o, .inr (8, [.ref o_text, .ref o_reader, .ref o_told, .ref o_now, .ref o_firstKept, .ref o_secondKept, .int o_keptBits, .ref o_past, .ref o_sightings, .ref o_stones, .ref o_game]))]) (W1 := (fun (u : Unit) => [(o_stones, .inr (6, [.ref o_stones_places, .int o_stones_walkers, .int o_stones_steps])), (o_stones_places, .inr (4, [.ref o_stones_places_a])), (o_stones_places_a, .inl (cI, 6, .inl o_stones_places_f))])) (Wn := (fun (u : Unit) => [(o, .inr (8, [.ref o_text, .ref o_reader, .ref o_told, .ref o_now, .ref o_firstKept, .ref o_secondKept, .int o_keptBits, .ref o_past, .ref o_sightings, .ref o_stones, .ref o_game])), (o_stones, .inr (6, [.ref o_stones_places, .int o_stones_walkers, .int o_stones_steps])), (o_stones_places, .inr (4, [.ref o_stones_places_a])), (o_stones_places_a, .inl (cI, 6, .inl o_stones_places_f))])) (xrunV hx hb hml hown hts (c_X6_sumOf l D cI cZ _ o_stones a1 o_stones_places o_stones_walkers o_stones_steps o_stones_places_a o_stones_places_f hq1) (cwV 1 hts gX8_standsAsWished_X6_sumOf rfl rfl rfl (by decide +kernel) ⟨Nat.le_of_ble_eq_true rfl, Nat.le_of_ble_eq_true rfl⟩) hE hK hP hD [1, 2, 3] rfl rfl 0 6 (T := TX6) (N := 3) rfl rfl rfl hl.1 rfl (Nat.le_of_ble_eq_true rfl) dX8_standsAsWished_22 ⟨Nat.le_of_ble_eq_true rfl, Nat.le_of_ble_eq_true rfl⟩) hP hD hS hA [1, 2, 3] [0] [0, 1, 2, 3] rfl rfl rfl (by decide) (fun _ => rfl) rfl (fun r2 u H locs hw hz hP hD hS => ?_)
    subst hw
    refine lv_istore (lv' := [(5, .int (fX6_sumOf a1 o_stones_walkers o_stones_places_f)), (4, .int (fX6_numberOf a1 o_stones_walkers o_stones_places_f)), (0, .ref o), (1, .int a1), (2, .int a2), (3, .int a3)]) hx hb dX8_standsAsWished_25 hl (by decide) rfl (fun ls hl => ?_)
    refine lv_iload_n hx hb dX8_standsAsWished_27 rfl (lv_at hl 5 rfl) ?_
    have K_y_1 : ∀ (y_1 : Int32) (hy_y_1 : (if a3 = 0 then (if (a2 * (fX6_numberOf a1 o_stones_walkers o_stones_places_f)) < (fX6_sumOf a1 o_stones_walkers o_stones_places_f) then (0 : Int32) else 1) else (if (fX6_sumOf a1 o_stones_walkers o_stones_places_f) < (a2 * (fX6_numberOf a1 o_stones_walkers o_stones_places_f)) then 0 else 1)) = y_1) (H : Heap) (locs : List Loc) (hP : va_P D vwCl [(o, .inr (8, [.ref o_text, .ref o_reader, .ref o_told, .ref o_now, .ref o_firstKept, .ref o_secondKept, .int o_keptBits, .ref o_past, .ref o_sightings, .ref o_stones, .ref o_game])), (o_stones, .inr (6, [.ref o_stones_places, .int o_stones_walkers, .int o_stones_steps])), (o_stones_places, .inr (4, [.ref o_stones_places_a])), (o_stones_places_a, .inl (cI, 6, .inl o_stones_places_f))] H) (hD : va_D A [(o, .inr (8, [.ref o_text, .ref o_reader, .ref o_told, .ref o_now, .ref o_firstKept, .ref o_secondKept, .int o_keptBits, .ref o_past, .ref o_sightings, .ref o_stones, .ref o_game])), (o_stones, .inr (6, [.ref o_stones_places, .int o_stones_walkers, .int o_stones_steps])), (o_stones_places, .inr (4, [.ref o_stones_places_a])), (o_stones_places_a, .inl (cI, 6, .inl o_stones_places_f))]) (hS : va_S A s.heap H locs), W p l e ({ frames := 3, cells := 0, slots := 0, locals := 66 } : Room) s m ([.ref o, .int a1, .int a2, .int a3] : List Value).toArray below meth c H locs 0 0 Q (F0 m 62 ls [.int y_1]) := by
      intro y_1 hy_y_1 H locs hP hD hS
      have ky_y_1 : y_1 = 0 ∨ y_1 = 1 := by rw [← hy_y_1]; (repeat' split) <;> simp
      exact hret _ _ _ _ y_1 () (by rcases ky_y_1 with h | h <;> rw [h] <;> rfl) dX8_standsAsWished_62 ((hF.trans (by simp only [fX8_standsAsWished, xlet, if_neg c_1, ↓hy_y_1])).symm) hP hD hS
    refine lv_if_eq (tgt := 48) hx hb dX8_standsAsWished_28 (by decide) (fun c_2 => ?_) (fun c_2 => ?_)
    · refine lv_iload hx hb dX8_standsAsWished_48 (lv_at hl 0 rfl) ?_
      refine lv_iload_n hx hb dX8_standsAsWished_50 rfl (lv_at hl 4 rfl) ?_
      refine lv_iload hx hb dX8_standsAsWished_51 (lv_at hl 1 rfl) ?_
      refine lv_imul hx hb dX8_standsAsWished_53 ?_
      refine lv_icmp_gt (tgt := 61) hx hb dX8_standsAsWished_54 (by decide) (fun c_3 => ?_) (fun c_3 => ?_)
      · refine lv_iconst (v := 0) hx hb dX8_standsAsWished_61 (by decide) ?_
        exact K_y_1 _ (by simp only [xlet, if_pos c_2, if_pos c_3]) _ _ hP hD hS
      · refine lv_iconst (v := 1) hx hb dX8_standsAsWished_57 (by decide) ?_
        refine lv_goto (tgt := 62) hx hb dX8_standsAsWished_58 (by decide) ?_
        exact K_y_1 _ (by simp only [xlet, if_pos c_2, if_neg c_3]) _ _ hP hD hS
    · refine lv_iload hx hb dX8_standsAsWished_31 (lv_at hl 0 rfl) ?_
      refine lv_iload_n hx hb dX8_standsAsWished_33 rfl (lv_at hl 4 rfl) ?_
      refine lv_iload hx hb dX8_standsAsWished_34 (lv_at hl 1 rfl) ?_
      refine lv_imul hx hb dX8_standsAsWished_36 ?_
      refine lv_icmp_lt (tgt := 44) hx hb dX8_standsAsWished_37 (by decide) (fun c_4 => ?_) (fun c_4 => ?_)
      · refine lv_iconst (v := 0) hx hb dX8_standsAsWished_44 (by decide) ?_
        refine lv_goto (tgt := 62) hx hb dX8_standsAsWished_45 (by decide) ?_
        exact K_y_1 _ (by simp only [xlet, if_neg c_2, if_pos c_4]) _ _ hP hD hS
      · refine lv_iconst (v := 1) hx hb dX8_standsAsWished_40 (by decide) ?_
        refine lv_goto (tgt := 62) hx hb dX8_standsAsWished_41 (by decide) ?_
        exact K_y_1 _ (by simp only [xlet, if_neg c_2, if_neg c_4]) _ _ hP hD hS
  · refine lv_iconst (v := 0) hx hb dX8_standsAsWished_15 (by decide) ?_
    exact hret _ _ _ _ 0 () rfl dX8_standsAsWished_16 ((hF.trans (by simp only [fX8_standsAsWished, xlet, if_pos c_1])).symm) hP hD hS
theorem bz_X8_standsAsWished (a1 : Int32) (a2 : Int32) (a3 : Int32) (o_stones_walkers : Int32) (o_stones_places_f : Nat → Int32) : narrow .boolean (.int (fX8_standsAsWished a1 a2 a3 o_stones_walkers o_stones_places_f)) = .int (fX8_standsAsWished a1 a2 a3 o_stones_walkers o_stones_places_f) := by
  unfold fX8_standsAsWished; try unfold xlet
  first | rfl | ((repeat' split) <;> first | rfl)
set_option maxRecDepth 20000 in
theorem ggX8_waysNotShortOf_X6_numberOf : GoodIn wsX8_waysNotShortOf wsX6_numberOf := goodIn_r _ [7, 8, 9, 10, 11, 6, 12, 13, 14, 15, 16, 17, 18, 19, 57, 58, 59, 60] (by decide +kernel) (by decide +kernel)
set_option maxRecDepth 20000 in
theorem gX8_waysNotShortOf_X6_numberOf : GoodIn wsX8_waysNotShortOf (wsV RX8 183 RX6 yX6_numberOf wsX6_numberOf) := goodIn_app (goodIn_of _ (by decide +kernel)) ggX8_waysNotShortOf_X6_numberOf
set_option maxRecDepth 20000 in
theorem ggX8_waysNotShortOf_X8_standsAsWished : GoodIn wsX8_waysNotShortOf wsX8_standsAsWished := goodIn_r _ [24, 2, 3, 4, 5, 6, 7, 8, 9, 10, 11, 12, 13, 14, 15, 16, 17, 18, 19, 25, 26, 27, 28, 39, 40, 41, 42, 43, 44, 45, 46, 47, 48, 49, 57, 58, 59, 60] (by decide +kernel) (by decide +kernel)
set_option maxRecDepth 20000 in
theorem gX8_waysNotShortOf_X8_standsAsWished : GoodIn wsX8_waysNotShortOf (wsV RX8 245 RX8 yX8_standsAsWished wsX8_standsAsWished) := goodIn_app (goodIn_of _ (by decide +kernel)) ggX8_waysNotShortOf_X8_standsAsWished
set_option maxRecDepth 20000 in
theorem ggX8_waysNotShortOf_J6_bitCount_0f7a4 : GoodIn wsX8_waysNotShortOf wsJ6_bitCount_0f7a4 := goodIn_r _ [32, 33, 34, 35] (by decide +kernel) (by decide +kernel)
set_option maxRecDepth 20000 in
theorem gX8_waysNotShortOf_J6_bitCount_0f7a4 : GoodIn wsX8_waysNotShortOf (va_wsS RX8 170 yJ6_bitCount_0f7a4 wsJ6_bitCount_0f7a4) := goodIn_app (goodIn_of _ (by decide +kernel)) ggX8_waysNotShortOf_J6_bitCount_0f7a4
set_option maxRecDepth 20000 in
theorem ggX8_waysNotShortOf_X8_power : GoodIn wsX8_waysNotShortOf wsX8_power := goodIn_r _ [38] (by decide +kernel) (by decide +kernel)
set_option maxRecDepth 20000 in
theorem gX8_waysNotShortOf_X8_power : GoodIn wsX8_waysNotShortOf (va_wsS RX8 238 yX8_power wsX8_power) := goodIn_app (goodIn_of _ (by decide +kernel)) ggX8_waysNotShortOf_X8_power
theorem dX8_waysNotShortOf_0 : decode cX8_waysNotShortOf 0 = .ok (.iconst 0, 1) := by decide +kernel
theorem dX8_waysNotShortOf_1 : decode cX8_waysNotShortOf 1 = .ok (.istore_n 3, 1) := by decide +kernel
theorem dX8_waysNotShortOf_2 : decode cX8_waysNotShortOf 2 = .ok (.iconst 0, 1) := by decide +kernel
theorem dX8_waysNotShortOf_3 : decode cX8_waysNotShortOf 3 = .ok (.istore 4, 2) := by decide +kernel
theorem dX8_waysNotShortOf_5 : decode cX8_waysNotShortOf 5 = .ok (.iload 4, 2) := by decide +kernel
theorem dX8_waysNotShortOf_7 : decode cX8_waysNotShortOf 7 = .ok (.iconst 1, 1) := by decide +kernel
theorem dX8_waysNotShortOf_8 : decode cX8_waysNotShortOf 8 = .ok (.aload_n 0, 1) := by decide +kernel
theorem dX8_waysNotShortOf_9 : decode cX8_waysNotShortOf 9 = .ok (.getfield 32, 3) := by decide +kernel
theorem dX8_waysNotShortOf_12 : decode cX8_waysNotShortOf 12 = .ok (.getfield 235, 3) := by decide +kernel
theorem dX8_waysNotShortOf_15 : decode cX8_waysNotShortOf 15 = .ok (.ishl, 1) := by decide +kernel
theorem dX8_waysNotShortOf_16 : decode cX8_waysNotShortOf 16 = .ok (.if_icmp .ge 66, 3) := by decide +kernel
theorem dX8_waysNotShortOf_19 : decode cX8_waysNotShortOf 19 = .ok (.aload_n 0, 1) := by decide +kernel
theorem dX8_waysNotShortOf_20 : decode cX8_waysNotShortOf 20 = .ok (.getfield 58, 3) := by decide +kernel
theorem dX8_waysNotShortOf_23 : decode cX8_waysNotShortOf 23 = .ok (.iload 4, 2) := by decide +kernel
theorem dX8_waysNotShortOf_25 : decode cX8_waysNotShortOf 25 = .ok (.invokevirtual 183, 3) := by decide +kernel
theorem dX8_waysNotShortOf_28 : decode cX8_waysNotShortOf 28 = .ok (.ifCond .eq 14, 3) := by decide +kernel
theorem dX8_waysNotShortOf_31 : decode cX8_waysNotShortOf 31 = .ok (.aload_n 0, 1) := by decide +kernel
theorem dX8_waysNotShortOf_32 : decode cX8_waysNotShortOf 32 = .ok (.iload 4, 2) := by decide +kernel
theorem dX8_waysNotShortOf_34 : decode cX8_waysNotShortOf 34 = .ok (.iload_n 1, 1) := by decide +kernel
theorem dX8_waysNotShortOf_35 : decode cX8_waysNotShortOf 35 = .ok (.iconst 1, 1) := by decide +kernel
theorem dX8_waysNotShortOf_36 : decode cX8_waysNotShortOf 36 = .ok (.invokevirtual 245, 3) := by decide +kernel
theorem dX8_waysNotShortOf_39 : decode cX8_waysNotShortOf 39 = .ok (.ifCond .eq 37, 3) := by decide +kernel
theorem dX8_waysNotShortOf_42 : decode cX8_waysNotShortOf 42 = .ok (.iload 4, 2) := by decide +kernel
theorem dX8_waysNotShortOf_44 : decode cX8_waysNotShortOf 44 = .ok (.invokestatic 170, 3) := by decide +kernel
theorem dX8_waysNotShortOf_47 : decode cX8_waysNotShortOf 47 = .ok (.istore 5, 2) := by decide +kernel
theorem dX8_waysNotShortOf_49 : decode cX8_waysNotShortOf 49 = .ok (.iload_n 3, 1) := by decide +kernel
theorem dX8_waysNotShortOf_50 : decode cX8_waysNotShortOf 50 = .ok (.iload_n 2, 1) := by decide +kernel
theorem dX8_waysNotShortOf_51 : decode cX8_waysNotShortOf 51 = .ok (.iload 5, 2) := by decide +kernel
theorem dX8_waysNotShortOf_53 : decode cX8_waysNotShortOf 53 = .ok (.invokestatic 238, 3) := by decide +kernel
theorem dX8_waysNotShortOf_56 : decode cX8_waysNotShortOf 56 = .ok (.bipush 10, 2) := by decide +kernel
theorem dX8_waysNotShortOf_58 : decode cX8_waysNotShortOf 58 = .ok (.iload_n 2, 1) := by decide +kernel
theorem dX8_waysNotShortOf_59 : decode cX8_waysNotShortOf 59 = .ok (.isub, 1) := by decide +kernel
theorem dX8_waysNotShortOf_60 : decode cX8_waysNotShortOf 60 = .ok (.aload_n 0, 1) := by decide +kernel
theorem dX8_waysNotShortOf_61 : decode cX8_waysNotShortOf 61 = .ok (.getfield 32, 3) := by decide +kernel
theorem dX8_waysNotShortOf_64 : decode cX8_waysNotShortOf 64 = .ok (.getfield 235, 3) := by decide +kernel
theorem dX8_waysNotShortOf_67 : decode cX8_waysNotShortOf 67 = .ok (.iload 5, 2) := by decide +kernel
theorem dX8_waysNotShortOf_69 : decode cX8_waysNotShortOf 69 = .ok (.isub, 1) := by decide +kernel
theorem dX8_waysNotShortOf_70 : decode cX8_waysNotShortOf 70 = .ok (.invokestatic 238, 3) := by decide +kernel
theorem dX8_waysNotShortOf_73 : decode cX8_waysNotShortOf 73 = .ok (.imul, 1) := by decide +kernel
theorem dX8_waysNotShortOf_74 : decode cX8_waysNotShortOf 74 = .ok (.iadd, 1) := by decide +kernel
theorem dX8_waysNotShortOf_75 : decode cX8_waysNotShortOf 75 = .ok (.istore_n 3, 1) := by decide +kernel
theorem dX8_waysNotShortOf_76 : decode cX8_waysNotShortOf 76 = .ok (.iinc 4 1, 3) := by decide +kernel
theorem dX8_waysNotShortOf_79 : decode cX8_waysNotShortOf 79 = .ok (.goto (-74), 3) := by decide +kernel
theorem dX8_waysNotShortOf_82 : decode cX8_waysNotShortOf 82 = .ok (.iload_n 3, 1) := by decide +kernel
theorem dX8_waysNotShortOf_83 : decode cX8_waysNotShortOf 83 = .ok (.ireturn, 1) := by decide +kernel
def fX8_waysNotShortOf_5 (a1 : Int32) (a2 : Int32) (o_now_walkers : Int32) (o_stones_walkers : Int32) (o_stones_places_f : Nat → Int32)  : Nat → Int32 → Int32 → Int32
  | 0, _, _ => default
  | n + 1, v5_3, v5_4 => if ((1 : Int32) <<< (o_now_walkers &&& 31)) ≤ v5_4 then v5_3 else (if (fX6_numberOf v5_4 o_stones_walkers o_stones_places_f) = 0 then (fX8_waysNotShortOf_5 a1 a2 o_now_walkers o_stones_walkers o_stones_places_f n (v5_3 + ((fX8_power a2 (fJ6_bitCount_0f7a4 v5_4)) * (fX8_power (10 - a2) (o_now_walkers - (fJ6_bitCount_0f7a4 v5_4))))) (v5_4 + 1)) else (if (fX8_standsAsWished v5_4 a1 1 o_stones_walkers o_stones_places_f) = 0 then (fX8_waysNotShortOf_5 a1 a2 o_now_walkers o_stones_walkers o_stones_places_f n v5_3 (v5_4 + 1)) else (fX8_waysNotShortOf_5 a1 a2 o_now_walkers o_stones_walkers o_stones_places_f n (v5_3 + ((fX8_power a2 (fJ6_bitCount_0f7a4 v5_4)) * (fX8_power (10 - a2) (o_now_walkers - (fJ6_bitCount_0f7a4 v5_4))))) (v5_4 + 1))))
def fX8_waysNotShortOf (a1 : Int32) (a2 : Int32) (o_now_walkers : Int32) (o_stones_walkers : Int32) (o_stones_places_f : Nat → Int32) : Int32 := fX8_waysNotShortOf_5 a1 a2 o_now_walkers o_stones_walkers o_stones_places_f 1000 0 0
set_option maxHeartbeats 4000000 in
set_option maxRecDepth 100000 in
theorem c_X8_waysNotShortOf (l : Launch) (D : va_G) (cI cZ : ClassId) (sz : Nat) (o : Nat) (a1 : Int32) (a2 : Int32) (o_text : Nat) (o_reader : Nat) (o_told : Nat) (o_now : Nat) (o_firstKept : Nat) (o_secondKept : Nat) (o_keptBits : Int32) (o_past : Nat) (o_sightings : Nat) (o_stones : Nat) (o_game : Nat) (o_now_steps : Int32) (o_now_mile : Int32) (o_now_walkers : Int32) (o_now_walked : Int32) (o_now_hard : Nat) (o_now_kinds : Nat) (o_now_habits : Nat) (o_stones_places : Nat) (o_stones_walkers : Int32) (o_stones_steps : Int32) (o_stones_places_a : Nat) (o_stones_places_f : Nat → Int32) (hnw0 : 0 ≤ o_now_walkers.toInt) (hnw6 : o_now_walkers.toInt ≤ 6) (hq3 : o_stones_walkers.toInt ≤ 6) : Met l yX8_waysNotShortOf wsX8_waysNotShortOf ({ frames := 4, cells := 0, slots := 0, locals := 91 } : Room) (va_Pc [.ref o, .int a1, .int a2] (xP D cI cZ [(o, .inr (8, [.ref o_text, .ref o_reader, .ref o_told, .ref o_now, .ref o_firstKept, .ref o_secondKept, .int o_keptBits, .ref o_past, .ref o_sightings, .ref o_stones, .ref o_game])), (o_now, .inr (3, [.int o_now_steps, .int o_now_mile, .int o_now_walkers, .int o_now_walked, .ref o_now_hard, .ref o_now_kinds, .ref o_now_habits])), (o_stones, .inr (6, [.ref o_stones_places, .int o_stones_walkers, .int o_stones_steps])), (o_stones_places, .inr (4, [.ref o_stones_places_a])), (o_stones_places_a, .inl (cI, 6, .inl o_stones_places_f))] sz)) (va_Qi (fun (r : Int32) (u : Unit) => r = fX8_waysNotShortOf a1 a2 o_now_walkers o_stones_walkers o_stones_places_f) (fun (u : Unit) t => xB D cI cZ [(o, .inr (8, [.ref o_text, .ref o_reader, .ref o_told, .ref o_now, .ref o_firstKept, .ref o_secondKept, .int o_keptBits, .ref o_past, .ref o_sightings, .ref o_stones, .ref o_game])), (o_now, .inr (3, [.int o_now_steps, .int o_now_mile, .int o_now_walkers, .int o_now_walked, .ref o_now_hard, .ref o_now_kinds, .ref o_now_habits])), (o_stones, .inr (6, [.ref o_stones_places, .int o_stones_walkers, .int o_stones_steps])), (o_stones_places, .inr (4, [.ref o_stones_places_a])), (o_stones_places_a, .inl (cI, 6, .inl o_stones_places_f))] (va_A [(o, .inr (8, [.ref o_text, .ref o_reader, .ref o_told, .ref o_now, .ref o_firstKept, .ref o_secondKept, .int o_keptBits, .ref o_past, .ref o_sightings, .ref o_stones, .ref o_game])), (o_now, .inr (3, [.int o_now_steps, .int o_now_mile, .int o_now_walkers, .int o_now_walked, .ref o_now_hard, .ref o_now_kinds, .ref o_now_habits])), (o_stones, .inr (6, [.ref o_stones_places, .int o_stones_walkers, .int o_stones_steps])), (o_stones_places, .inr (4, [.ref o_stones_places_a])), (o_stones_places_a, .inl (cI, 6, .inl o_stones_places_f))] sz) t) (va_A [(o, .inr (8, [.ref o_text, .ref o_reader, .ref o_told, .ref o_now, .ref o_firstKept, .ref o_secondKept, .int o_keptBits, .ref o_past, .ref o_sightings, .ref o_stones, .ref o_game])), (o_now, .inr (3, [.int o_now_steps, .int o_now_mile, .int o_now_walkers, .int o_now_walked, .ref o_now_hard, .ref o_now_kinds, .ref o_now_habits])), (o_stones, .inr (6, [.ref o_stones_places, .int o_stones_walkers, .int o_stones_steps])), (o_stones_places, .inr (4, [.ref o_stones_places_a])), (o_stones_places_a, .inl (cI, 6, .inl o_stones_places_f))] sz)) 0 0 (va_A [(o, .inr (8, [.ref o_text, .ref o_reader, .ref o_told, .ref o_now, .ref o_firstKept, .ref o_secondKept, .int o_keptBits, .ref o_past, .ref o_sightings, .ref o_stones, .ref o_game])), (o_now, .inr (3, [.int o_now_steps, .int o_now_mile, .int o_now_walkers, .int o_now_walked, .ref o_now_hard, .ref o_now_kinds, .ref o_now_habits])), (o_stones, .inr (6, [.ref o_stones_places, .int o_stones_walkers, .int o_stones_steps])), (o_stones_places, .inr (4, [.ref o_stones_places_a])), (o_stones_places_a, .inl (cI, 6, .inl o_stones_places_f))] sz) := by
  refine Met.ofW (cc := cX8_waysNotShortOf) (maxL := 6) (ret := (some .int)) (by decide) rfl ?_
  intro p e s m args below meth c s₁ B hml hv
  obtain ⟨hargs, hsz, hP, hK, hD0, hE⟩ := hv
  subst hargs
  have hx := B.exec
  have hb := B.bytes
  have hr := B.returns
  have hts := atoms_spec (ws := wsX8_waysNotShortOf) B.pre
  have hown : s.vm.findClass RX8 = some m.cls := findClass_of_methodNamed B.named
  have hlocks := B.notSynchronized
  subst hsz
  have hD := hD0.self (sz := s.heap.size)
  generalize hAe : va_A [(o, .inr (8, [.ref o_text, .ref o_reader, .ref o_told, .ref o_now, .ref o_firstKept, .ref o_secondKept, .int o_keptBits, .ref o_past, .ref o_sightings, .ref o_stones, .ref o_game])), (o_now, .inr (3, [.int o_now_steps, .int o_now_mile, .int o_now_walkers, .int o_now_walked, .ref o_now_hard, .ref o_now_kinds, .ref o_now_habits])), (o_stones, .inr (6, [.ref o_stones_places, .int o_stones_walkers, .int o_stones_steps])), (o_stones_places, .inr (4, [.ref o_stones_places_a])), (o_stones_places_a, .inl (cI, 6, .inl o_stones_places_f))] s.heap.size = A at hD ⊢
  have hA : ∀ q : Nat, s.heap.size ≤ q → A q := fun q h => by rw [← hAe]; exact Or.inr h
  have hS : va_S A s.heap s.heap [] := va_S.rf
  have hl := lv_entry ([.ref o, .int a1, .int a2]) (n := 6) (Nat.le_of_ble_eq_true rfl)
  rw [lg_entry_eq]
  generalize (lg_sl ([.ref o, .int a1, .int a2]) ++ List.replicate (6 - (lg_sl ([.ref o, .int a1, .int a2])).length) Slot.unset).toArray = ls at hl ⊢
  have hl : lv_has ls 6 [(0, .ref o), (1, .int a1), (2, .int a2)] := hl
  refine wq (X := fun Q => ∀ (pc : Nat) (H : Heap) (locs : List Loc) (ls : Array Slot) (r : Int32) (u : Unit) (hd : decode cX8_waysNotShortOf pc = .ok (.ireturn, 1)) (hp : r = fX8_waysNotShortOf a1 a2 o_now_walkers o_stones_walkers o_stones_places_f) (hP : va_P D vwCl [(o, .inr (8, [.ref o_text, .ref o_reader, .ref o_told, .ref o_now, .ref o_firstKept, .ref o_secondKept, .int o_keptBits, .ref o_past, .ref o_sightings, .ref o_stones, .ref o_game])), (o_now, .inr (3, [.int o_now_steps, .int o_now_mile, .int o_now_walkers, .int o_now_walked, .ref o_now_hard, .ref o_now_kinds, .ref o_now_habits])), (o_stones, .inr (6, [.ref o_stones_places, .int o_stones_walkers, .int o_stones_steps])), (o_stones_places, .inr (4, [.ref o_stones_places_a])), (o_stones_places_a, .inl (cI, 6, .inl o_stones_places_f))] H) (hD : va_D A [(o, .inr (8, [.ref o_text, .ref o_reader, .ref o_told, .ref o_now, .ref o_firstKept, .ref o_secondKept, .int o_keptBits, .ref o_past, .ref o_sightings, .ref o_stones, .ref o_game])), (o_now, .inr (3, [.int o_now_steps, .int o_now_mile, .int o_now_walkers, .int o_now_walked, .ref o_now_hard, .ref o_now_kinds, .ref o_now_habits])), (o_stones, .inr (6, [.ref o_stones_places, .int o_stones_walkers, .int o_stones_steps])), (o_stones_places, .inr (4, [.ref o_stones_places_a])), (o_stones_places_a, .inl (cI, 6, .inl o_stones_places_f))]) (hS : va_S A s.heap H locs), W p l e ({ frames := 4, cells := 0, slots := 0, locals := 91 } : Room) s m ([.ref o, .int a1, .int a2] : List Value).toArray below meth c H locs 0 0 Q (F0 m pc ls [.int r])) ?_ (fun Q hret => ?_)
  · intro pc H locs ls r u hd hp hP hD hS
    exact W.iret (v := r) hx hb hr (fun t ht hW => ⟨⟨r, u, rfl, hp, by rw [ht]; exact hP, va_K.moved hW.alike hK, hD⟩, hS.F ht⟩) hS.2.2 hd
  have hin_3 : ∀ w ∈ u_ws RX3 TX3 7, w ∈ wsX8_waysNotShortOf := by decide +kernel
  have hin_8 : ∀ w ∈ u_ws RX8 TX8 11, w ∈ wsX8_waysNotShortOf := by decide +kernel
  have fl_32 := hts (.fieldLink RX8 32 "MileRoad" "now" "LMileRoad$Road;") (by decide +kernel)
  have fl_58 := hts (.fieldLink RX8 58 "MileRoad" "stones" "LMileRoad$Stones;") (by decide +kernel)
  have fl_235 := hE.f 12 rfl ([.ref o, .int a1, .int a2] : List Value).toArray
  have zl_0 : (0 : Int32).toInt = 0 := by decide
  have zl_1 : (1 : Int32).toInt = 1 := by decide
  have zs := t_shl hnw0 hnw6
  have hF : fX8_waysNotShortOf a1 a2 o_now_walkers o_stones_walkers o_stones_places_f = fX8_waysNotShortOf a1 a2 o_now_walkers o_stones_walkers o_stones_places_f := rfl
  have L_5 : ∀ (n : Nat) (v5_3 : Int32) (v5_4 : Int32) (h1_5 : 0 ≤ v5_4.toInt) (h2_5 : v5_4.toInt ≤ 64) (hm : 64 - v5_4.toInt < (n : Int)) (H : Heap) (locs : List Loc) (ls : Array Slot) (hl : lv_has ls 6 [(0, .ref o), (1, .int a1), (2, .int a2), (3, .int v5_3), (4, .int v5_4)]) (hP : va_P D vwCl [(o, .inr (8, [.ref o_text, .ref o_reader, .ref o_told, .ref o_now, .ref o_firstKept, .ref o_secondKept, .int o_keptBits, .ref o_past, .ref o_sightings, .ref o_stones, .ref o_game])), (o_now, .inr (3, [.int o_now_steps, .int o_now_mile, .int o_now_walkers, .int o_now_walked, .ref o_now_hard, .ref o_now_kinds, .ref o_now_habits])), (o_stones, .inr (6, [.ref o_stones_places, .int o_stones_walkers, .int o_stones_steps])), (o_stones_places, .inr (4, [.ref o_stones_places_a])), (o_stones_places_a, .inl (cI, 6, .inl o_stones_places_f))] H) (hD : va_D A [(o, .inr (8, [.ref o_text, .ref o_reader, .ref o_told, .ref o_now, .ref o_firstKept, .ref o_secondKept, .int o_keptBits, .ref o_past, .ref o_sightings, .ref o_stones, .ref o_game])), (o_now, .inr (3, [.int o_now_steps, .int o_now_mile, .int o_now_walkers, .int o_now_walked, .ref o_now_hard, .ref o_now_kinds, .ref o_now_habits])), (o_stones, .inr (6, [.ref o_stones_places, .int o_stones_walkers, .int o_stones_steps])), (o_stones_places, .inr (4, [.ref o_stones_places_a])), (o_stones_places_a, .inl (cI, 6, .inl o_stones_places_f))]) (hS : va_S A s.heap H locs) (hF : fX8_waysNotShortOf a1 a2 o_now_walkers o_stones_walkers o_stones_places_f = fX8_waysNotShortOf_5 a1 a2 o_now_walkers o_stones_walkers o_stones_places_f n v5_3 v5_4), W p l e ({ frames := 4, cells := 0, slots := 0, locals := 91 } : Room) s m ([.ref o, .int a1, .int a2] : List Value).toArray below meth c H locs 0 0 Q (F0 m 5 ls []) := by
    intro n
    induction n with
    | zero =>
      intro v5_3 v5_4 h1_5 h2_5 hm H locs ls hl hP hD hS hF
      exact absurd hm (by omega)
    | succ n ih_5 =>
      intro v5_3 v5_4 h1_5 h2_5 hm H locs ls hl hP hD hS hF
      have bc := bc_b h1_5 h2_5
      refine lv_iload hx hb dX8_waysNotShortOf_5 (lv_at hl 4 rfl) ?_
      refine lv_iconst (v := 1) hx hb dX8_waysNotShortOf_7 (by decide) ?_
      refine lv_aload_n hx hb dX8_waysNotShortOf_8 rfl (lv_at hl 0 rfl) ?_
      refine xget hx hb hts hown hK 8 (C2 := RX8) (T := TX8) (N := 11) rfl hin_8 hP 0 rfl 3 (by decide) fl_32 rfl rfl rfl dX8_waysNotShortOf_9 ?_
      refine xgetN hx hb hts hown hK 3 (C2 := RX3) (T := TX3) (N := 7) rfl hin_3 hP 1 rfl 2 (by decide) fl_235 rfl rfl rfl dX8_waysNotShortOf_12 ?_
      refine lv_ishl hx hb dX8_waysNotShortOf_15 ?_
      refine lv_icmp_ge (tgt := 82) hx hb dX8_waysNotShortOf_16 (by decide) (fun c_1 => ?_) (fun c_1 => ?_)
      · have kc_1 := t_le c_1
        refine lv_iload_n hx hb dX8_waysNotShortOf_82 rfl (lv_at hl 3 rfl) ?_
        exact hret _ _ _ _ v5_3 () dX8_waysNotShortOf_83 ((hF.trans (by simp only [fX8_waysNotShortOf_5, xlet, if_pos c_1])).symm) hP hD hS
      · have kc_1 := t_nle c_1
        refine lv_aload_n hx hb dX8_waysNotShortOf_19 rfl (lv_at hl 0 rfl) ?_
        refine xget hx hb hts hown hK 8 (C2 := RX8) (T := TX8) (N := 11) rfl hin_8 hP 0 rfl 9 (by decide) fl_58 rfl rfl rfl dX8_waysNotShortOf_20 ?_
        refine lv_iload hx hb dX8_waysNotShortOf_23 (lv_at hl 4 rfl) ?_
        refine xcalli (S := Unit) (Wc := [(o_stones, .inr (6, [.ref o_stones_places, .int o_stones_walkers, .int o_stones_steps])), (o_stones_places, .inr (4, [.ref o_stones_places_a])), (o_stones_places_a, .inl (cI, 6, .inl o_stones_places_f))]) (wr := [(o, .inr (8, [.ref o_text, .ref o_reader, .ref o_told, .ref o_now, .ref o_firstKept, .ref o_secondKept, .int o_keptBits, .ref o_past, .ref o_sightings, .ref o_stones, .ref o_game])), (o_now, .inr (3, [.int o_now_steps, .int o_now_mile, .int o_now_walkers, .int o_now_walked, .ref o_now_hard, .ref o_now_kinds, .ref o_now_habits]))]) (W1 := (fun (u : Unit) => [(o_stones, .inr (6, [.ref o_stones_places, .int o_stones_walkers, .int o_stones_steps])), (o_stones_places, .inr (4, [.ref o_stones_places_a])), (o_stones_places_a, .inl (cI, 6, .inl o_stones_places_f))])) (Wn := (fun (u : Unit) => [(o, .inr (8, [.ref o_text, .ref o_reader, .ref o_told, .ref o_now, .ref o_firstKept, .ref o_secondKept, .int o_keptBits, .ref o_past, .ref o_sightings, .ref o_stones, .ref o_game])), (o_now, .inr (3, [.int o_now_steps, .int o_now_mile, .int o_now_walkers, .int o_now_walked, .ref o_now_hard, .ref o_now_kinds, .ref o_now_habits])), (o_stones, .inr (6, [.ref o_stones_places, .int o_stones_walkers, .int o_stones_steps])), (o_stones_places, .inr (4, [.ref o_stones_places_a])), (o_stones_places_a, .inl (cI, 6, .inl o_stones_places_f))])) (xrunV hx hb hml hown hts (c_X6_numberOf l D cI cZ _ o_stones v5_4 o_stones_places o_stones_walkers o_stones_steps o_stones_places_a o_stones_places_f hq3) (cwV 1 hts gX8_waysNotShortOf_X6_numberOf rfl rfl rfl (by decide +kernel) ⟨Nat.le_of_ble_eq_true rfl, Nat.le_of_ble_eq_true rfl⟩) hE hK hP hD [2, 3, 4] rfl rfl 0 6 (T := TX6) (N := 3) rfl rfl rfl hl.1 rfl (Nat.le_of_ble_eq_true rfl) dX8_waysNotShortOf_25 ⟨Nat.le_of_ble_eq_true rfl, Nat.le_of_ble_eq_true rfl⟩) hP hD hS hA [2, 3, 4] [0, 1] [0, 1, 2, 3, 4] rfl rfl rfl (by decide) (fun _ => rfl) rfl (fun r1 u H locs hw hz hP hD hS => ?_)
        subst hw
        refine lv_if_eq (tgt := 42) hx hb dX8_waysNotShortOf_28 (by decide) (fun c_2 => ?_) (fun c_2 => ?_)
        · refine lv_iload hx hb dX8_waysNotShortOf_42 (lv_at hl 4 rfl) ?_
          refine xcalli (S := Unit) (Wc := []) (wr := [(o, .inr (8, [.ref o_text, .ref o_reader, .ref o_told, .ref o_now, .ref o_firstKept, .ref o_secondKept, .int o_keptBits, .ref o_past, .ref o_sightings, .ref o_stones, .ref o_game])), (o_now, .inr (3, [.int o_now_steps, .int o_now_mile, .int o_now_walkers, .int o_now_walked, .ref o_now_hard, .ref o_now_kinds, .ref o_now_habits])), (o_stones, .inr (6, [.ref o_stones_places, .int o_stones_walkers, .int o_stones_steps])), (o_stones_places, .inr (4, [.ref o_stones_places_a])), (o_stones_places_a, .inl (cI, 6, .inl o_stones_places_f))]) (W1 := (fun (u : Unit) => [])) (Wn := (fun (u : Unit) => [(o, .inr (8, [.ref o_text, .ref o_reader, .ref o_told, .ref o_now, .ref o_firstKept, .ref o_secondKept, .int o_keptBits, .ref o_past, .ref o_sightings, .ref o_stones, .ref o_game])), (o_now, .inr (3, [.int o_now_steps, .int o_now_mile, .int o_now_walkers, .int o_now_walked, .ref o_now_hard, .ref o_now_kinds, .ref o_now_habits])), (o_stones, .inr (6, [.ref o_stones_places, .int o_stones_walkers, .int o_stones_steps])), (o_stones_places, .inr (4, [.ref o_stones_places_a])), (o_stones_places_a, .inl (cI, 6, .inl o_stones_places_f))])) (xrunS hx hb hml hown hts (c_J6_bitCount_0f7a4 l D cI cZ _ v5_4 ) (va_cwS 1 hts gX8_waysNotShortOf_J6_bitCount_0f7a4 rfl rfl rfl (by decide +kernel) ⟨Nat.le_of_ble_eq_true rfl, Nat.le_of_ble_eq_true rfl⟩) hE hK hP hD [] rfl rfl rfl hl.1 rfl (Nat.le_of_ble_eq_true rfl) dX8_waysNotShortOf_44 ⟨Nat.le_of_ble_eq_true rfl, Nat.le_of_ble_eq_true rfl⟩) hP hD hS hA [] [0, 1, 2, 3, 4] [0, 1, 2, 3, 4] rfl rfl rfl (by decide) (fun _ => rfl) rfl (fun r2 u H locs hw hz hP hD hS => ?_)
          subst hw
          refine lv_istore (lv' := [(5, .int (fJ6_bitCount_0f7a4 v5_4)), (0, .ref o), (1, .int a1), (2, .int a2), (3, .int v5_3), (4, .int v5_4)]) hx hb dX8_waysNotShortOf_47 hl (by decide) rfl (fun ls hl => ?_)
          refine lv_iload_n hx hb dX8_waysNotShortOf_49 rfl (lv_at hl 4 rfl) ?_
          refine lv_iload_n hx hb dX8_waysNotShortOf_50 rfl (lv_at hl 3 rfl) ?_
          refine lv_iload hx hb dX8_waysNotShortOf_51 (lv_at hl 0 rfl) ?_
          refine xcalli (S := Unit) (Wc := []) (wr := [(o, .inr (8, [.ref o_text, .ref o_reader, .ref o_told, .ref o_now, .ref o_firstKept, .ref o_secondKept, .int o_keptBits, .ref o_past, .ref o_sightings, .ref o_stones, .ref o_game])), (o_now, .inr (3, [.int o_now_steps, .int o_now_mile, .int o_now_walkers, .int o_now_walked, .ref o_now_hard, .ref o_now_kinds, .ref o_now_habits])), (o_stones, .inr (6, [.ref o_stones_places, .int o_stones_walkers, .int o_stones_steps])), (o_stones_places, .inr (4, [.ref o_stones_places_a])), (o_stones_places_a, .inl (cI, 6, .inl o_stones_places_f))]) (W1 := (fun (u : Unit) => [])) (Wn := (fun (u : Unit) => [(o, .inr (8, [.ref o_text, .ref o_reader, .ref o_told, .ref o_now, .ref o_firstKept, .ref o_secondKept, .int o_keptBits, .ref o_past, .ref o_sightings, .ref o_stones, .ref o_game])), (o_now, .inr (3, [.int o_now_steps, .int o_now_mile, .int o_now_walkers, .int o_now_walked, .ref o_now_hard, .ref o_now_kinds, .ref o_now_habits])), (o_stones, .inr (6, [.ref o_stones_places, .int o_stones_walkers, .int o_stones_steps])), (o_stones_places, .inr (4, [.ref o_stones_places_a])), (o_stones_places_a, .inl (cI, 6, .inl o_stones_places_f))])) (xrunS hx hb hml hown hts (c_X8_power l D cI cZ _ a2 (fJ6_bitCount_0f7a4 v5_4) (by omega)) (va_cwS 2 hts gX8_waysNotShortOf_X8_power rfl rfl rfl (by decide +kernel) ⟨Nat.le_of_ble_eq_true rfl, Nat.le_of_ble_eq_true rfl⟩) hE hK hP hD [] rfl rfl rfl hl.1 rfl (Nat.le_of_ble_eq_true rfl) dX8_waysNotShortOf_53 ⟨Nat.le_of_ble_eq_true rfl, Nat.le_of_ble_eq_true rfl⟩) hP hD hS hA [] [0, 1, 2, 3, 4] [0, 1, 2, 3, 4] rfl rfl rfl (by decide) (fun _ => rfl) rfl (fun r3 u H locs hw hz hP hD hS => ?_)
          subst hw
          refine lv_bipush (v := 10) hx hb dX8_waysNotShortOf_56 (by decide) ?_
          refine lv_iload_n hx hb dX8_waysNotShortOf_58 rfl (lv_at hl 3 rfl) ?_
          refine lv_isub hx hb dX8_waysNotShortOf_59 ?_
          refine lv_aload_n hx hb dX8_waysNotShortOf_60 rfl (lv_at hl 1 rfl) ?_
          refine xget hx hb hts hown hK 8 (C2 := RX8) (T := TX8) (N := 11) rfl hin_8 hP 0 rfl 3 (by decide) fl_32 rfl rfl rfl dX8_waysNotShortOf_61 ?_
          refine xgetN hx hb hts hown hK 3 (C2 := RX3) (T := TX3) (N := 7) rfl hin_3 hP 1 rfl 2 (by decide) fl_235 rfl rfl rfl dX8_waysNotShortOf_64 ?_
          refine lv_iload hx hb dX8_waysNotShortOf_67 (lv_at hl 0 rfl) ?_
          refine lv_isub hx hb dX8_waysNotShortOf_69 ?_
          have z_1 : (o_now_walkers - (fJ6_bitCount_0f7a4 v5_4)).toInt = o_now_walkers.toInt - (fJ6_bitCount_0f7a4 v5_4).toInt := z_sub (by omega) (by omega)
          refine xcalli (S := Unit) (Wc := []) (wr := [(o, .inr (8, [.ref o_text, .ref o_reader, .ref o_told, .ref o_now, .ref o_firstKept, .ref o_secondKept, .int o_keptBits, .ref o_past, .ref o_sightings, .ref o_stones, .ref o_game])), (o_now, .inr (3, [.int o_now_steps, .int o_now_mile, .int o_now_walkers, .int o_now_walked, .ref o_now_hard, .ref o_now_kinds, .ref o_now_habits])), (o_stones, .inr (6, [.ref o_stones_places, .int o_stones_walkers, .int o_stones_steps])), (o_stones_places, .inr (4, [.ref o_stones_places_a])), (o_stones_places_a, .inl (cI, 6, .inl o_stones_places_f))]) (W1 := (fun (u : Unit) => [])) (Wn := (fun (u : Unit) => [(o, .inr (8, [.ref o_text, .ref o_reader, .ref o_told, .ref o_now, .ref o_firstKept, .ref o_secondKept, .int o_keptBits, .ref o_past, .ref o_sightings, .ref o_stones, .ref o_game])), (o_now, .inr (3, [.int o_now_steps, .int o_now_mile, .int o_now_walkers, .int o_now_walked, .ref o_now_hard, .ref o_now_kinds, .ref o_now_habits])), (o_stones, .inr (6, [.ref o_stones_places, .int o_stones_walkers, .int o_stones_steps])), (o_stones_places, .inr (4, [.ref o_stones_places_a])), (o_stones_places_a, .inl (cI, 6, .inl o_stones_places_f))])) (xrunS hx hb hml hown hts (c_X8_power l D cI cZ _ (10 - a2) (o_now_walkers - (fJ6_bitCount_0f7a4 v5_4)) (by omega)) (va_cwS 2 hts gX8_waysNotShortOf_X8_power rfl rfl rfl (by decide +kernel) ⟨Nat.le_of_ble_eq_true rfl, Nat.le_of_ble_eq_true rfl⟩) hE hK hP hD [] rfl rfl rfl hl.1 rfl (Nat.le_of_ble_eq_true rfl) dX8_waysNotShortOf_70 ⟨Nat.le_of_ble_eq_true rfl, Nat.le_of_ble_eq_true rfl⟩) hP hD hS hA [] [0, 1, 2, 3, 4] [0, 1, 2, 3, 4] rfl rfl rfl (by decide) (fun _ => rfl) rfl (fun r4 u H locs hw hz hP hD hS => ?_)
          subst hw
          refine lv_imul hx hb dX8_waysNotShortOf_73 ?_
          refine lv_iadd hx hb dX8_waysNotShortOf_74 ?_
          refine lv_istore_n (lv' := [(3, .int (v5_3 + ((fX8_power a2 (fJ6_bitCount_0f7a4 v5_4)) * (fX8_power (10 - a2) (o_now_walkers - (fJ6_bitCount_0f7a4 v5_4)))))), (5, .int (fJ6_bitCount_0f7a4 v5_4)), (0, .ref o), (1, .int a1), (2, .int a2), (4, .int v5_4)]) hx hb dX8_waysNotShortOf_75 rfl hl (by decide) rfl (fun ls hl => ?_)
          refine lv_iinc (v := (v5_4 + 1)) (lv' := [(4, .int (v5_4 + 1)), (3, .int (v5_3 + ((fX8_power a2 (fJ6_bitCount_0f7a4 v5_4)) * (fX8_power (10 - a2) (o_now_walkers - (fJ6_bitCount_0f7a4 v5_4)))))), (5, .int (fJ6_bitCount_0f7a4 v5_4)), (0, .ref o), (1, .int a1), (2, .int a2)]) hx hb dX8_waysNotShortOf_76 hl (k := 5) rfl (by rfl) (by decide) rfl (fun ls hl => ?_)
          refine lv_goto (tgt := 5) hx hb dX8_waysNotShortOf_79 (by decide) ?_
          have z_2 : (v5_4 + 1).toInt = v5_4.toInt + (1 : Int32).toInt := z_add (by omega) (by omega)
          exact ih_5 (v5_3 + ((fX8_power a2 (fJ6_bitCount_0f7a4 v5_4)) * (fX8_power (10 - a2) (o_now_walkers - (fJ6_bitCount_0f7a4 v5_4))))) (v5_4 + 1) (by first | assumption | omega | decide | (split <;> rename_i hh <;> first | (have h9 := t_nlt hh; omega) | (have h9 := t_lt hh; omega) | (have h9 := t_nle hh; omega) | (have h9 := t_le hh; omega))) (by first | assumption | omega | decide | (split <;> rename_i hh <;> first | (have h9 := t_nlt hh; omega) | (have h9 := t_lt hh; omega) | (have h9 := t_nle hh; omega) | (have h9 := t_le hh; omega))) (by first | assumption | omega | decide | (split <;> rename_i hh <;> first | (have h9 := t_nlt hh; omega) | (have h9 := t_lt hh; omega) | (have h9 := t_nle hh; omega) | (have h9 := t_le hh; omega))) _ _ _ (lv_sub hl [3, 4, 5, 1, 0] rfl) hP hD hS (hF.trans (by simp only [fX8_waysNotShortOf_5, xlet, if_neg c_1, if_pos c_2]))
        · refine lv_aload_n hx hb dX8_waysNotShortOf_31 rfl (lv_at hl 0 rfl) ?_
          refine lv_iload hx hb dX8_waysNotShortOf_32 (lv_at hl 4 rfl) ?_
          refine lv_iload_n hx hb dX8_waysNotShortOf_34 rfl (lv_at hl 1 rfl) ?_
          refine lv_iconst (v := 1) hx hb dX8_waysNotShortOf_35 (by decide) ?_
          refine xcalli (S := Unit) (Wc := [(o, .inr (8, [.ref o_text, .ref o_reader, .ref o_told, .ref o_now, .ref o_firstKept, .ref o_secondKept, .int o_keptBits, .ref o_past, .ref o_sightings, .ref o_stones, .ref o_game])), (o_stones, .inr (6, [.ref o_stones_places, .int o_stones_walkers, .int o_stones_steps])), (o_stones_places, .inr (4, [.ref o_stones_places_a])), (o_stones_places_a, .inl (cI, 6, .inl o_stones_places_f))]) (wr := [(o_now, .inr (3, [.int o_now_steps, .int o_now_mile, .int o_now_walkers, .int o_now_walked, .ref o_now_hard, .ref o_now_kinds, .ref o_now_habits]))]) (W1 := (fun (u : Unit) => [(o, .inr (8, [.ref o_text, .ref o_reader, .ref o_told, .ref o_now, .ref o_firstKept, .ref o_secondKept, .int o_keptBits, .ref o_past, .ref o_sightings, .ref o_stones, .ref o_game])), (o_stones, .inr (6, [.ref o_stones_places, .int o_stones_walkers, .int o_stones_steps])), (o_stones_places, .inr (4, [.ref o_stones_places_a])), (o_stones_places_a, .inl (cI, 6, .inl o_stones_places_f))])) (Wn := (fun (u : Unit) => [(o, .inr (8, [.ref o_text, .ref o_reader, .ref o_told, .ref o_now, .ref o_firstKept, .ref o_secondKept, .int o_keptBits, .ref o_past, .ref o_sightings, .ref o_stones, .ref o_game])), (o_now, .inr (3, [.int o_now_steps, .int o_now_mile, .int o_now_walkers, .int o_now_walked, .ref o_now_hard, .ref o_now_kinds, .ref o_now_habits])), (o_stones, .inr (6, [.ref o_stones_places, .int o_stones_walkers, .int o_stones_steps])), (o_stones_places, .inr (4, [.ref o_stones_places_a])), (o_stones_places_a, .inl (cI, 6, .inl o_stones_places_f))])) (xrunV hx hb hml hown hts (c_X8_standsAsWished l D cI cZ _ o v5_4 a1 1 o_text o_reader o_told o_now o_firstKept o_secondKept o_keptBits o_past o_sightings o_stones o_game o_stones_places o_stones_walkers o_stones_steps o_stones_places_a o_stones_places_f hq3) (cwV 3 hts gX8_waysNotShortOf_X8_standsAsWished rfl rfl rfl (by decide +kernel) ⟨Nat.le_of_ble_eq_true rfl, Nat.le_of_ble_eq_true rfl⟩) hE hK hP hD [0, 2, 3, 4] rfl rfl 0 8 (T := TX8) (N := 11) rfl rfl rfl hl.1 rfl (Nat.le_of_ble_eq_true rfl) dX8_waysNotShortOf_36 ⟨Nat.le_of_ble_eq_true rfl, Nat.le_of_ble_eq_true rfl⟩) hP hD hS hA [0, 2, 3, 4] [1] [1, 0, 2, 3, 4] rfl rfl rfl (by decide) (fun _ => rfl) rfl (fun r5 u H locs hw hz hP hD hS => ?_)
          subst hw
          refine lv_if_eq (tgt := 76) hx hb dX8_waysNotShortOf_39 (by decide) (fun c_3 => ?_) (fun c_3 => ?_)
          · refine lv_iinc (v := (v5_4 + 1)) (lv' := [(4, .int (v5_4 + 1)), (0, .ref o), (1, .int a1), (2, .int a2), (3, .int v5_3)]) hx hb dX8_waysNotShortOf_76 hl (k := 4) rfl (by rfl) (by decide) rfl (fun ls hl => ?_)
            refine lv_goto (tgt := 5) hx hb dX8_waysNotShortOf_79 (by decide) ?_
            have z_3 : (v5_4 + 1).toInt = v5_4.toInt + (1 : Int32).toInt := z_add (by omega) (by omega)
            exact ih_5 v5_3 (v5_4 + 1) (by first | assumption | omega | decide | (split <;> rename_i hh <;> first | (have h9 := t_nlt hh; omega) | (have h9 := t_lt hh; omega) | (have h9 := t_nle hh; omega) | (have h9 := t_le hh; omega))) (by first | assumption | omega | decide | (split <;> rename_i hh <;> first | (have h9 := t_nlt hh; omega) | (have h9 := t_lt hh; omega) | (have h9 := t_nle hh; omega) | (have h9 := t_le hh; omega))) (by first | assumption | omega | decide | (split <;> rename_i hh <;> first | (have h9 := t_nlt hh; omega) | (have h9 := t_lt hh; omega) | (have h9 := t_nle hh; omega) | (have h9 := t_le hh; omega))) _ _ _ (lv_sub hl [1, 2, 3, 4, 0] rfl) hP hD hS (hF.trans (by simp only [fX8_waysNotShortOf_5, xlet, if_neg c_1, if_neg c_2, if_pos c_3]))
          · refine lv_iload hx hb dX8_waysNotShortOf_42 (lv_at hl 4 rfl) ?_
            refine xcalli (S := Unit) (Wc := []) (wr := [(o, .inr (8, [.ref o_text, .ref o_reader, .ref o_told, .ref o_now, .ref o_firstKept, .ref o_secondKept, .int o_keptBits, .ref o_past, .ref o_sightings, .ref o_stones, .ref o_game])), (o_now, .inr (3, [.int o_now_steps, .int o_now_mile, .int o_now_walkers, .int o_now_walked, .ref o_now_hard, .ref o_now_kinds, .ref o_now_habits])), (o_stones, .inr (6, [.ref o_stones_places, .int o_stones_walkers, .int o_stones_steps])), (o_stones_places, .inr (4, [.ref o_stones_places_a])), (o_stones_places_a, .inl (cI, 6, .inl o_stones_places_f))]) (W1 := (fun (u : Unit) => [])) (Wn := (fun (u : Unit) => [(o, .inr (8, [.ref o_text, .ref o_reader, .ref o_told, .ref o_now, .ref o_firstKept, .ref o_secondKept, .int o_keptBits, .ref o_past, .ref o_sightings, .ref o_stones, .ref o_game])), (o_now, .inr (3, [.int o_now_steps, .int o_now_mile, .int o_now_walkers, .int o_now_walked, .ref o_now_hard, .ref o_now_kinds, .ref o_now_habits])), (o_stones, .inr (6, [.ref o_stones_places, .int o_stones_walkers, .int o_stones_steps])), (o_stones_places, .inr (4, [.ref o_stones_places_a])), (o_stones_places_a, .inl (cI, 6, .inl o_stones_places_f))])) (xrunS hx hb hml hown hts (c_J6_bitCount_0f7a4 l D cI cZ _ v5_4 ) (va_cwS 1 hts gX8_waysNotShortOf_J6_bitCount_0f7a4 rfl rfl rfl (by decide +kernel) ⟨Nat.le_of_ble_eq_true rfl, Nat.le_of_ble_eq_true rfl⟩) hE hK hP hD [] rfl rfl rfl hl.1 rfl (Nat.le_of_ble_eq_true rfl) dX8_waysNotShortOf_44 ⟨Nat.le_of_ble_eq_true rfl, Nat.le_of_ble_eq_true rfl⟩) hP hD hS hA [] [0, 1, 2, 3, 4] [0, 1, 2, 3, 4] rfl rfl rfl (by decide) (fun _ => rfl) rfl (fun r6 u H locs hw hz hP hD hS => ?_)
            subst hw
            refine lv_istore (lv' := [(5, .int (fJ6_bitCount_0f7a4 v5_4)), (0, .ref o), (1, .int a1), (2, .int a2), (3, .int v5_3), (4, .int v5_4)]) hx hb dX8_waysNotShortOf_47 hl (by decide) rfl (fun ls hl => ?_)
            refine lv_iload_n hx hb dX8_waysNotShortOf_49 rfl (lv_at hl 4 rfl) ?_
            refine lv_iload_n hx hb dX8_waysNotShortOf_50 rfl (lv_at hl 3 rfl) ?_
            refine lv_iload hx hb dX8_waysNotShortOf_51 (lv_at hl 0 rfl) ?_
            refine xcalli (S := Unit) (Wc := []) (wr := [(o, .inr (8, [.ref o_text, .ref o_reader, .ref o_told, .ref o_now, .ref o_firstKept, .ref o_secondKept, .int o_keptBits, .ref o_past, .ref o_sightings, .ref o_stones, .ref o_game])), (o_now, .inr (3, [.int o_now_steps, .int o_now_mile, .int o_now_walkers, .int o_now_walked, .ref o_now_hard, .ref o_now_kinds, .ref o_now_habits])), (o_stones, .inr (6, [.ref o_stones_places, .int o_stones_walkers, .int o_stones_steps])), (o_stones_places, .inr (4, [.ref o_stones_places_a])), (o_stones_places_a, .inl (cI, 6, .inl o_stones_places_f))]) (W1 := (fun (u : Unit) => [])) (Wn := (fun (u : Unit) => [(o, .inr (8, [.ref o_text, .ref o_reader, .ref o_told, .ref o_now, .ref o_firstKept, .ref o_secondKept, .int o_keptBits, .ref o_past, .ref o_sightings, .ref o_stones, .ref o_game])), (o_now, .inr (3, [.int o_now_steps, .int o_now_mile, .int o_now_walkers, .int o_now_walked, .ref o_now_hard, .ref o_now_kinds, .ref o_now_habits])), (o_stones, .inr (6, [.ref o_stones_places, .int o_stones_walkers, .int o_stones_steps])), (o_stones_places, .inr (4, [.ref o_stones_places_a])), (o_stones_places_a, .inl (cI, 6, .inl o_stones_places_f))])) (xrunS hx hb hml hown hts (c_X8_power l D cI cZ _ a2 (fJ6_bitCount_0f7a4 v5_4) (by omega)) (va_cwS 2 hts gX8_waysNotShortOf_X8_power rfl rfl rfl (by decide +kernel) ⟨Nat.le_of_ble_eq_true rfl, Nat.le_of_ble_eq_true rfl⟩) hE hK hP hD [] rfl rfl rfl hl.1 rfl (Nat.le_of_ble_eq_true rfl) dX8_waysNotShortOf_53 ⟨Nat.le_of_ble_eq_true rfl, Nat.le_of_ble_eq_true rfl⟩) hP hD hS hA [] [0, 1, 2, 3, 4] [0, 1, 2, 3, 4] rfl rfl rfl (by decide) (fun _ => rfl) rfl (fun r7 u H locs hw hz hP hD hS => ?_)
            subst hw
            refine lv_bipush (v := 10) hx hb dX8_waysNotShortOf_56 (by decide) ?_
            refine lv_iload_n hx hb dX8_waysNotShortOf_58 rfl (lv_at hl 3 rfl) ?_
            refine lv_isub hx hb dX8_waysNotShortOf_59 ?_
            refine lv_aload_n hx hb dX8_waysNotShortOf_60 rfl (lv_at hl 1 rfl) ?_
            refine xget hx hb hts hown hK 8 (C2 := RX8) (T := TX8) (N := 11) rfl hin_8 hP 0 rfl 3 (by decide) fl_32 rfl rfl rfl dX8_waysNotShortOf_61 ?_
            refine xgetN hx hb hts hown hK 3 (C2 := RX3) (T := TX3) (N := 7) rfl hin_3 hP 1 rfl 2 (by decide) fl_235 rfl rfl rfl dX8_waysNotShortOf_64 ?_
            refine lv_iload hx hb dX8_waysNotShortOf_67 (lv_at hl 0 rfl) ?_
            refine lv_isub hx hb dX8_waysNotShortOf_69 ?_
            have z_4 : (o_now_walkers - (fJ6_bitCount_0f7a4 v5_4)).toInt = o_now_walkers.toInt - (fJ6_bitCount_0f7a4 v5_4).toInt := z_sub (by omega) (by omega)
            refine xcalli (S := Unit) (Wc := []) (wr := [(o, .inr (8, [.ref o_text, .ref o_reader, .ref o_told, .ref o_now, .ref o_firstKept, .ref o_secondKept, .int o_keptBits, .ref o_past, .ref o_sightings, .ref o_stones, .ref o_game])), (o_now, .inr (3, [.int o_now_steps, .int o_now_mile, .int o_now_walkers, .int o_now_walked, .ref o_now_hard, .ref o_now_kinds, .ref o_now_habits])), (o_stones, .inr (6, [.ref o_stones_places, .int o_stones_walkers, .int o_stones_steps])), (o_stones_places, .inr (4, [.ref o_stones_places_a])), (o_stones_places_a, .inl (cI, 6, .inl o_stones_places_f))]) (W1 := (fun (u : Unit) => [])) (Wn := (fun (u : Unit) => [(o, .inr (8, [.ref o_text, .ref o_reader, .ref o_told, .ref o_now, .ref o_firstKept, .ref o_secondKept, .int o_keptBits, .ref o_past, .ref o_sightings, .ref o_stones, .ref o_game])), (o_now, .inr (3, [.int o_now_steps, .int o_now_mile, .int o_now_walkers, .int o_now_walked, .ref o_now_hard, .ref o_now_kinds, .ref o_now_habits])), (o_stones, .inr (6, [.ref o_stones_places, .int o_stones_walkers, .int o_stones_steps])), (o_stones_places, .inr (4, [.ref o_stones_places_a])), (o_stones_places_a, .inl (cI, 6, .inl o_stones_places_f))])) (xrunS hx hb hml hown hts (c_X8_power l D cI cZ _ (10 - a2) (o_now_walkers - (fJ6_bitCount_0f7a4 v5_4)) (by omega)) (va_cwS 2 hts gX8_waysNotShortOf_X8_power rfl rfl rfl (by decide +kernel) ⟨Nat.le_of_ble_eq_true rfl, Nat.le_of_ble_eq_true rfl⟩) hE hK hP hD [] rfl rfl rfl hl.1 rfl (Nat.le_of_ble_eq_true rfl) dX8_waysNotShortOf_70 ⟨Nat.le_of_ble_eq_true rfl, Nat.le_of_ble_eq_true rfl⟩) hP hD hS hA [] [0, 1, 2, 3, 4] [0, 1, 2, 3, 4] rfl rfl rfl (by decide) (fun _ => rfl) rfl (fun r8 u H locs hw hz hP hD hS => ?_)
            subst hw
            refine lv_imul hx hb dX8_waysNotShortOf_73 ?_
            refine lv_iadd hx hb dX8_waysNotShortOf_74 ?_
            refine lv_istore_n (lv' := [(3, .int (v5_3 + ((fX8_power a2 (fJ6_bitCount_0f7a4 v5_4)) * (fX8_power (10 - a2) (o_now_walkers - (fJ6_bitCount_0f7a4 v5_4)))))), (5, .int (fJ6_bitCount_0f7a4 v5_4)), (0, .ref o), (1, .int a1), (2, .int a2), (4, .int v5_4)]) hx hb dX8_waysNotShortOf_75 rfl hl (by decide) rfl (fun ls hl => ?_)
            refine lv_iinc (v := (v5_4 + 1)) (lv' := [(4, .int (v5_4 + 1)), (3, .int (v5_3 + ((fX8_power a2 (fJ6_bitCount_0f7a4 v5_4)) * (fX8_power (10 - a2) (o_now_walkers - (fJ6_bitCount_0f7a4 v5_4)))))), (5, .int (fJ6_bitCount_0f7a4 v5_4)), (0, .ref o), (1, .int a1), (2, .int a2)]) hx hb dX8_waysNotShortOf_76 hl (k := 5) rfl (by rfl) (by decide) rfl (fun ls hl => ?_)
            refine lv_goto (tgt := 5) hx hb dX8_waysNotShortOf_79 (by decide) ?_
            have z_5 : (v5_4 + 1).toInt = v5_4.toInt + (1 : Int32).toInt := z_add (by omega) (by omega)
            exact ih_5 (v5_3 + ((fX8_power a2 (fJ6_bitCount_0f7a4 v5_4)) * (fX8_power (10 - a2) (o_now_walkers - (fJ6_bitCount_0f7a4 v5_4))))) (v5_4 + 1) (by first | assumption | omega | decide | (split <;> rename_i hh <;> first | (have h9 := t_nlt hh; omega) | (have h9 := t_lt hh; omega) | (have h9 := t_nle hh; omega) | (have h9 := t_le hh; omega))) (by first | assumption | omega | decide | (split <;> rename_i hh <;> first | (have h9 := t_nlt hh; omega) | (have h9 := t_lt hh; omega) | (have h9 := t_nle hh; omega) | (have h9 := t_le hh; omega))) (by first | assumption | omega | decide | (split <;> rename_i hh <;> first | (have h9 := t_nlt hh; omega) | (have h9 := t_lt hh; omega) | (have h9 := t_nle hh; omega) | (have h9 := t_le hh; omega))) _ _ _ (lv_sub hl [3, 4, 5, 1, 0] rfl) hP hD hS (hF.trans (by simp only [fX8_waysNotShortOf_5, xlet, if_neg c_1, if_neg c_2, if_neg c_3]))
  refine lv_iconst (v := 0) hx hb dX8_waysNotShortOf_0 (by decide) ?_
  refine lv_istore_n (lv' := [(3, .int 0), (0, .ref o), (1, .int a1), (2, .int a2)]) hx hb dX8_waysNotShortOf_1 rfl hl (by decide) rfl (fun ls hl => ?_)
  refine lv_iconst (v := 0) hx hb dX8_waysNotShortOf_2 (by decide) ?_
  refine lv_istore (lv' := [(4, .int 0), (3, .int 0), (0, .ref o), (1, .int a1), (2, .int a2)]) hx hb dX8_waysNotShortOf_3 hl (by decide) rfl (fun ls hl => ?_)
  exact L_5 1000 0 0 (by first | assumption | omega | decide | (split <;> rename_i hh <;> first | (have h9 := t_nlt hh; omega) | (have h9 := t_lt hh; omega) | (have h9 := t_nle hh; omega) | (have h9 := t_le hh; omega))) (by first | assumption | omega | decide | (split <;> rename_i hh <;> first | (have h9 := t_nlt hh; omega) | (have h9 := t_lt hh; omega) | (have h9 := t_nle hh; omega) | (have h9 := t_le hh; omega))) (by first | assumption | omega | decide | (split <;> rename_i hh <;> first | (have h9 := t_nlt hh; omega) | (have h9 := t_lt hh; omega) | (have h9 := t_nle hh; omega) | (have h9 := t_le hh; omega))) _ _ _ (lv_sub hl [2, 3, 4, 1, 0] rfl) hP hD hS (hF.trans (by simp only [fX8_waysNotShortOf, xlet]))
set_option maxRecDepth 20000 in
theorem ggX8_fewestToSend_J6_bitCount_0f7a4 : GoodIn wsX8_fewestToSend wsJ6_bitCount_0f7a4 := goodIn_r _ [5, 6, 7, 8] (by decide +kernel) (by decide +kernel)
set_option maxRecDepth 20000 in
theorem gX8_fewestToSend_J6_bitCount_0f7a4 : GoodIn wsX8_fewestToSend (va_wsS RX8 170 yJ6_bitCount_0f7a4 wsJ6_bitCount_0f7a4) := goodIn_app (goodIn_of _ (by decide +kernel)) ggX8_fewestToSend_J6_bitCount_0f7a4
set_option maxRecDepth 20000 in
theorem ggX8_fewestToSend_X8_standsAsWished : GoodIn wsX8_fewestToSend wsX8_standsAsWished := goodIn_r _ [13, 14, 15, 16, 17, 18, 19, 20, 21, 22, 23, 24, 25, 26, 27, 28, 29, 30, 31, 32, 33, 34, 35, 36, 37, 38, 39, 40, 41, 42, 43, 44, 45, 46, 54, 55, 56, 57] (by decide +kernel) (by decide +kernel)
set_option maxRecDepth 20000 in
theorem gX8_fewestToSend_X8_standsAsWished : GoodIn wsX8_fewestToSend (wsV RX8 245 RX8 yX8_standsAsWished wsX8_standsAsWished) := goodIn_app (goodIn_of _ (by decide +kernel)) ggX8_fewestToSend_X8_standsAsWished
theorem dX8_fewestToSend_0 : decode cX8_fewestToSend 0 = .ok (.iconst (-1), 1) := by decide +kernel
theorem dX8_fewestToSend_1 : decode cX8_fewestToSend 1 = .ok (.istore_n 3, 1) := by decide +kernel
theorem dX8_fewestToSend_2 : decode cX8_fewestToSend 2 = .ok (.iconst 0, 1) := by decide +kernel
theorem dX8_fewestToSend_3 : decode cX8_fewestToSend 3 = .ok (.istore 4, 2) := by decide +kernel
theorem dX8_fewestToSend_5 : decode cX8_fewestToSend 5 = .ok (.iload 4, 2) := by decide +kernel
theorem dX8_fewestToSend_7 : decode cX8_fewestToSend 7 = .ok (.iconst 1, 1) := by decide +kernel
theorem dX8_fewestToSend_8 : decode cX8_fewestToSend 8 = .ok (.aload_n 0, 1) := by decide +kernel
theorem dX8_fewestToSend_9 : decode cX8_fewestToSend 9 = .ok (.getfield 32, 3) := by decide +kernel
theorem dX8_fewestToSend_12 : decode cX8_fewestToSend 12 = .ok (.getfield 235, 3) := by decide +kernel
theorem dX8_fewestToSend_15 : decode cX8_fewestToSend 15 = .ok (.ishl, 1) := by decide +kernel
theorem dX8_fewestToSend_16 : decode cX8_fewestToSend 16 = .ok (.if_icmp .ge 85, 3) := by decide +kernel
theorem dX8_fewestToSend_19 : decode cX8_fewestToSend 19 = .ok (.iload 4, 2) := by decide +kernel
theorem dX8_fewestToSend_21 : decode cX8_fewestToSend 21 = .ok (.aload_n 0, 1) := by decide +kernel
theorem dX8_fewestToSend_22 : decode cX8_fewestToSend 22 = .ok (.getfield 32, 3) := by decide +kernel
theorem dX8_fewestToSend_25 : decode cX8_fewestToSend 25 = .ok (.getfield 167, 3) := by decide +kernel
theorem dX8_fewestToSend_28 : decode cX8_fewestToSend 28 = .ok (.iand, 1) := by decide +kernel
theorem dX8_fewestToSend_29 : decode cX8_fewestToSend 29 = .ok (.ifCond .ne 7, 3) := by decide +kernel
theorem dX8_fewestToSend_32 : decode cX8_fewestToSend 32 = .ok (.iconst 1, 1) := by decide +kernel
theorem dX8_fewestToSend_33 : decode cX8_fewestToSend 33 = .ok (.goto 4, 3) := by decide +kernel
theorem dX8_fewestToSend_36 : decode cX8_fewestToSend 36 = .ok (.iconst 0, 1) := by decide +kernel
theorem dX8_fewestToSend_37 : decode cX8_fewestToSend 37 = .ok (.istore 5, 2) := by decide +kernel
theorem dX8_fewestToSend_39 : decode cX8_fewestToSend 39 = .ok (.iload_n 3, 1) := by decide +kernel
theorem dX8_fewestToSend_40 : decode cX8_fewestToSend 40 = .ok (.iconst (-1), 1) := by decide +kernel
theorem dX8_fewestToSend_41 : decode cX8_fewestToSend 41 = .ok (.if_icmp .eq 15, 3) := by decide +kernel
theorem dX8_fewestToSend_44 : decode cX8_fewestToSend 44 = .ok (.iload 4, 2) := by decide +kernel
theorem dX8_fewestToSend_46 : decode cX8_fewestToSend 46 = .ok (.invokestatic 170, 3) := by decide +kernel
theorem dX8_fewestToSend_49 : decode cX8_fewestToSend 49 = .ok (.iload_n 3, 1) := by decide +kernel
theorem dX8_fewestToSend_50 : decode cX8_fewestToSend 50 = .ok (.invokestatic 170, 3) := by decide +kernel
theorem dX8_fewestToSend_53 : decode cX8_fewestToSend 53 = .ok (.if_icmp .ge 7, 3) := by decide +kernel
theorem dX8_fewestToSend_56 : decode cX8_fewestToSend 56 = .ok (.iconst 1, 1) := by decide +kernel
theorem dX8_fewestToSend_57 : decode cX8_fewestToSend 57 = .ok (.goto 4, 3) := by decide +kernel
theorem dX8_fewestToSend_60 : decode cX8_fewestToSend 60 = .ok (.iconst 0, 1) := by decide +kernel
theorem dX8_fewestToSend_61 : decode cX8_fewestToSend 61 = .ok (.istore 6, 2) := by decide +kernel
theorem dX8_fewestToSend_63 : decode cX8_fewestToSend 63 = .ok (.iload 5, 2) := by decide +kernel
theorem dX8_fewestToSend_65 : decode cX8_fewestToSend 65 = .ok (.ifCond .eq 30, 3) := by decide +kernel
theorem dX8_fewestToSend_68 : decode cX8_fewestToSend 68 = .ok (.iload 6, 2) := by decide +kernel
theorem dX8_fewestToSend_70 : decode cX8_fewestToSend 70 = .ok (.ifCond .eq 25, 3) := by decide +kernel
theorem dX8_fewestToSend_73 : decode cX8_fewestToSend 73 = .ok (.aload_n 0, 1) := by decide +kernel
theorem dX8_fewestToSend_74 : decode cX8_fewestToSend 74 = .ok (.iload 4, 2) := by decide +kernel
theorem dX8_fewestToSend_76 : decode cX8_fewestToSend 76 = .ok (.aload_n 0, 1) := by decide +kernel
theorem dX8_fewestToSend_77 : decode cX8_fewestToSend 77 = .ok (.getfield 32, 3) := by decide +kernel
theorem dX8_fewestToSend_80 : decode cX8_fewestToSend 80 = .ok (.getfield 167, 3) := by decide +kernel
theorem dX8_fewestToSend_83 : decode cX8_fewestToSend 83 = .ok (.ior, 1) := by decide +kernel
theorem dX8_fewestToSend_84 : decode cX8_fewestToSend 84 = .ok (.iload_n 1, 1) := by decide +kernel
theorem dX8_fewestToSend_85 : decode cX8_fewestToSend 85 = .ok (.iload_n 2, 1) := by decide +kernel
theorem dX8_fewestToSend_86 : decode cX8_fewestToSend 86 = .ok (.invokevirtual 245, 3) := by decide +kernel
theorem dX8_fewestToSend_89 : decode cX8_fewestToSend 89 = .ok (.ifCond .eq 6, 3) := by decide +kernel
theorem dX8_fewestToSend_92 : decode cX8_fewestToSend 92 = .ok (.iload 4, 2) := by decide +kernel
theorem dX8_fewestToSend_94 : decode cX8_fewestToSend 94 = .ok (.istore_n 3, 1) := by decide +kernel
theorem dX8_fewestToSend_95 : decode cX8_fewestToSend 95 = .ok (.iinc 4 1, 3) := by decide +kernel
theorem dX8_fewestToSend_98 : decode cX8_fewestToSend 98 = .ok (.goto (-93), 3) := by decide +kernel
theorem dX8_fewestToSend_101 : decode cX8_fewestToSend 101 = .ok (.iload_n 3, 1) := by decide +kernel
theorem dX8_fewestToSend_102 : decode cX8_fewestToSend 102 = .ok (.ireturn, 1) := by decide +kernel
def fX8_fewestToSend_5 (a1 : Int32) (a2 : Int32) (o_now_walkers : Int32) (o_now_walked : Int32) (o_stones_walkers : Int32) (o_stones_places_f : Nat → Int32)  : Nat → Int32 → Int32 → Int32
  | 0, _, _ => default
  | n + 1, v5_3, v5_4 => if ((1 : Int32) <<< (o_now_walkers &&& 31)) ≤ v5_4 then v5_3 else (xlet (if (v5_4 &&& o_now_walked) = 0 then (1 : Int32) else 0) (fun y_3 => xlet (if v5_3 = (-1) then (1 : Int32) else (if (fJ6_bitCount_0f7a4 v5_3) ≤ (fJ6_bitCount_0f7a4 v5_4) then 0 else 1)) (fun y_4 => if y_3 = 0 then (fX8_fewestToSend_5 a1 a2 o_now_walkers o_now_walked o_stones_walkers o_stones_places_f n v5_3 (v5_4 + 1)) else (if y_4 = 0 then (fX8_fewestToSend_5 a1 a2 o_now_walkers o_now_walked o_stones_walkers o_stones_places_f n v5_3 (v5_4 + 1)) else (if (fX8_standsAsWished (v5_4 ||| o_now_walked) a1 a2 o_stones_walkers o_stones_places_f) = 0 then (fX8_fewestToSend_5 a1 a2 o_now_walkers o_now_walked o_stones_walkers o_stones_places_f n v5_3 (v5_4 + 1)) else (fX8_fewestToSend_5 a1 a2 o_now_walkers o_now_walked o_stones_walkers o_stones_places_f n v5_4 (v5_4 + 1)))))))
def fX8_fewestToSend (a1 : Int32) (a2 : Int32) (o_now_walkers : Int32) (o_now_walked : Int32) (o_stones_walkers : Int32) (o_stones_places_f : Nat → Int32) : Int32 := fX8_fewestToSend_5 a1 a2 o_now_walkers o_now_walked o_stones_walkers o_stones_places_f 1000 (-1) 0
set_option maxHeartbeats 4000000 in
set_option maxRecDepth 100000 in
theorem c_X8_fewestToSend (l : Launch) (D : va_G) (cI cZ : ClassId) (sz : Nat) (o : Nat) (a1 : Int32) (a2 : Int32) (o_text : Nat) (o_reader : Nat) (o_told : Nat) (o_now : Nat) (o_firstKept : Nat) (o_secondKept : Nat) (o_keptBits : Int32) (o_past : Nat) (o_sightings : Nat) (o_stones : Nat) (o_game : Nat) (o_now_steps : Int32) (o_now_mile : Int32) (o_now_walkers : Int32) (o_now_walked : Int32) (o_now_hard : Nat) (o_now_kinds : Nat) (o_now_habits : Nat) (o_stones_places : Nat) (o_stones_walkers : Int32) (o_stones_steps : Int32) (o_stones_places_a : Nat) (o_stones_places_f : Nat → Int32) (hnw0 : 0 ≤ o_now_walkers.toInt) (hnw6 : o_now_walkers.toInt ≤ 6) (hq3 : o_stones_walkers.toInt ≤ 6) : Met l yX8_fewestToSend wsX8_fewestToSend ({ frames := 4, cells := 0, slots := 0, locals := 91 } : Room) (va_Pc [.ref o, .int a1, .int a2] (xP D cI cZ [(o, .inr (8, [.ref o_text, .ref o_reader, .ref o_told, .ref o_now, .ref o_firstKept, .ref o_secondKept, .int o_keptBits, .ref o_past, .ref o_sightings, .ref o_stones, .ref o_game])), (o_now, .inr (3, [.int o_now_steps, .int o_now_mile, .int o_now_walkers, .int o_now_walked, .ref o_now_hard, .ref o_now_kinds, .ref o_now_habits])), (o_stones, .inr (6, [.ref o_stones_places, .int o_stones_walkers, .int o_stones_steps])), (o_stones_places, .inr (4, [.ref o_stones_places_a])), (o_stones_places_a, .inl (cI, 6, .inl o_stones_places_f))] sz)) (va_Qi (fun (r : Int32) (u : Unit) => r = fX8_fewestToSend a1 a2 o_now_walkers o_now_walked o_stones_walkers o_stones_places_f) (fun (u : Unit) t => xB D cI cZ [(o, .inr (8, [.ref o_text, .ref o_reader, .ref o_told, .ref o_now, .ref o_firstKept, .ref o_secondKept, .int o_keptBits, .ref o_past, .ref o_sightings, .ref o_stones, .ref o_game])), (o_now, .inr (3, [.int o_now_steps, .int o_now_mile, .int o_now_walkers, .int o_now_walked, .ref o_now_hard, .ref o_now_kinds, .ref o_now_habits])), (o_stones, .inr (6, [.ref o_stones_places, .int o_stones_walkers, .int o_stones_steps])), (o_stones_places, .inr (4, [.ref o_stones_places_a])), (o_stones_places_a, .inl (cI, 6, .inl o_stones_places_f))] (va_A [(o, .inr (8, [.ref o_text, .ref o_reader, .ref o_told, .ref o_now, .ref o_firstKept, .ref o_secondKept, .int o_keptBits, .ref o_past, .ref o_sightings, .ref o_stones, .ref o_game])), (o_now, .inr (3, [.int o_now_steps, .int o_now_mile, .int o_now_walkers, .int o_now_walked, .ref o_now_hard, .ref o_now_kinds, .ref o_now_habits])), (o_stones, .inr (6, [.ref o_stones_places, .int o_stones_walkers, .int o_stones_steps])), (o_stones_places, .inr (4, [.ref o_stones_places_a])), (o_stones_places_a, .inl (cI, 6, .inl o_stones_places_f))] sz) t) (va_A [(o, .inr (8, [.ref o_text, .ref o_reader, .ref o_told, .ref o_now, .ref o_firstKept, .ref o_secondKept, .int o_keptBits, .ref o_past, .ref o_sightings, .ref o_stones, .ref o_game])), (o_now, .inr (3, [.int o_now_steps, .int o_now_mile, .int o_now_walkers, .int o_now_walked, .ref o_now_hard, .ref o_now_kinds, .ref o_now_habits])), (o_stones, .inr (6, [.ref o_stones_places, .int o_stones_walkers, .int o_stones_steps])), (o_stones_places, .inr (4, [.ref o_stones_places_a])), (o_stones_places_a, .inl (cI, 6, .inl o_stones_places_f))] sz)) 0 0 (va_A [(o, .inr (8, [.ref o_text, .ref o_reader, .ref o_told, .ref o_now, .ref o_firstKept, .ref o_secondKept, .int o_keptBits, .ref o_past, .ref o_sightings, .ref o_stones, .ref o_game])), (o_now, .inr (3, [.int o_now_steps, .int o_now_mile, .int o_now_walkers, .int o_now_walked, .ref o_now_hard, .ref o_now_kinds, .ref o_now_habits])), (o_stones, .inr (6, [.ref o_stones_places, .int o_stones_walkers, .int o_stones_steps])), (o_stones_places, .inr (4, [.ref o_stones_places_a])), (o_stones_places_a, .inl (cI, 6, .inl o_stones_places_f))] sz) := by
  refine Met.ofW (cc := cX8_fewestToSend) (maxL := 7) (ret := (some .int)) (by decide) rfl ?_
  intro p e s m args below meth c s₁ B hml hv
  obtain ⟨hargs, hsz, hP, hK, hD0, hE⟩ := hv
  subst hargs
  have hx := B.exec
  have hb := B.bytes
  have hr := B.returns
  have hts := atoms_spec (ws := wsX8_fewestToSend) B.pre
  have hown : s.vm.findClass RX8 = some m.cls := findClass_of_methodNamed B.named
  have hlocks := B.notSynchronized
  subst hsz
  have hD := hD0.self (sz := s.heap.size)
  generalize hAe : va_A [(o, .inr (8, [.ref o_text, .ref o_reader, .ref o_told, .ref o_now, .ref o_firstKept, .ref o_secondKept, .int o_keptBits, .ref o_past, .ref o_sightings, .ref o_stones, .ref o_game])), (o_now, .inr (3, [.int o_now_steps, .int o_now_mile, .int o_now_walkers, .int o_now_walked, .ref o_now_hard, .ref o_now_kinds, .ref o_now_habits])), (o_stones, .inr (6, [.ref o_stones_places, .int o_stones_walkers, .int o_stones_steps])), (o_stones_places, .inr (4, [.ref o_stones_places_a])), (o_stones_places_a, .inl (cI, 6, .inl o_stones_places_f))] s.heap.size = A at hD ⊢
  have hA : ∀ q : Nat, s.heap.size ≤ q → A q := fun q h => by rw [← hAe]; exact Or.inr h
  have hS : va_S A s.heap s.heap [] := va_S.rf
  have hl := lv_entry ([.ref o, .int a1, .int a2]) (n := 7) (Nat.le_of_ble_eq_true rfl)
  rw [lg_entry_eq]
  generalize (lg_sl ([.ref o, .int a1, .int a2]) ++ List.replicate (7 - (lg_sl ([.ref o, .int a1, .int a2])).length) Slot.unset).toArray = ls at hl ⊢
  have hl : lv_has ls 7 [(0, .ref o), (1, .int a1), (2, .int a2)] := hl
  refine wq (X := fun Q => ∀ (pc : Nat) (H : Heap) (locs : List Loc) (ls : Array Slot) (r : Int32) (u : Unit) (hd : decode cX8_fewestToSend pc = .ok (.ireturn, 1)) (hp : r = fX8_fewestToSend a1 a2 o_now_walkers o_now_walked o_stones_walkers o_stones_places_f) (hP : va_P D vwCl [(o, .inr (8, [.ref o_text, .ref o_reader, .ref o_told, .ref o_now, .ref o_firstKept, .ref o_secondKept, .int o_keptBits, .ref o_past, .ref o_sightings, .ref o_stones, .ref o_game])), (o_now, .inr (3, [.int o_now_steps, .int o_now_mile, .int o_now_walkers, .int o_now_walked, .ref o_now_hard, .ref o_now_kinds, .ref o_now_habits])), (o_stones, .inr (6, [.ref o_stones_places, .int o_stones_walkers, .int o_stones_steps])), (o_stones_places, .inr (4, [.ref o_stones_places_a])), (o_stones_places_a, .inl (cI, 6, .inl o_stones_places_f))] H) (hD : va_D A [(o, .inr (8, [.ref o_text, .ref o_reader, .ref o_told, .ref o_now, .ref o_firstKept, .ref o_secondKept, .int o_keptBits, .ref o_past, .ref o_sightings, .ref o_stones, .ref o_game])), (o_now, .inr (3, [.int o_now_steps, .int o_now_mile, .int o_now_walkers, .int o_now_walked, .ref o_now_hard, .ref o_now_kinds, .ref o_now_habits])), (o_stones, .inr (6, [.ref o_stones_places, .int o_stones_walkers, .int o_stones_steps])), (o_stones_places, .inr (4, [.ref o_stones_places_a])), (o_stones_places_a, .inl (cI, 6, .inl o_stones_places_f))]) (hS : va_S A s.heap H locs), W p l e ({ frames := 4, cells := 0, slots := 0, locals := 91 } : Room) s m ([.ref o, .int a1, .int a2] : List Value).toArray below meth c H locs 0 0 Q (F0 m pc ls [.int r])) ?_ (fun Q hret => ?_)
  · intro pc H locs ls r u hd hp hP hD hS
    exact W.iret (v := r) hx hb hr (fun t ht hW => ⟨⟨r, u, rfl, hp, by rw [ht]; exact hP, va_K.moved hW.alike hK, hD⟩, hS.F ht⟩) hS.2.2 hd
  have hin_3 : ∀ w ∈ u_ws RX3 TX3 7, w ∈ wsX8_fewestToSend := by decide +kernel
  have hin_8 : ∀ w ∈ u_ws RX8 TX8 11, w ∈ wsX8_fewestToSend := by decide +kernel
  have fl_32 := hts (.fieldLink RX8 32 "MileRoad" "now" "LMileRoad$Road;") (by decide +kernel)
  have fl_167 := hE.f 11 rfl ([.ref o, .int a1, .int a2] : List Value).toArray
  have fl_235 := hE.f 12 rfl ([.ref o, .int a1, .int a2] : List Value).toArray
  have zl_m1 : ((-1) : Int32).toInt = (-1) := by decide
  have zl_0 : (0 : Int32).toInt = 0 := by decide
  have zl_1 : (1 : Int32).toInt = 1 := by decide
  have zs := t_shl hnw0 hnw6
  have hF : fX8_fewestToSend a1 a2 o_now_walkers o_now_walked o_stones_walkers o_stones_places_f = fX8_fewestToSend a1 a2 o_now_walkers o_now_walked o_stones_walkers o_stones_places_f := rfl
  have L_5 : ∀ (n : Nat) (v5_3 : Int32) (v5_4 : Int32) (h1_5 : 0 ≤ v5_4.toInt) (h2_5 : v5_4.toInt ≤ 64) (hm : 64 - v5_4.toInt < (n : Int)) (H : Heap) (locs : List Loc) (ls : Array Slot) (hl : lv_has ls 7 [(0, .ref o), (1, .int a1), (2, .int a2), (3, .int v5_3), (4, .int v5_4)]) (hP : va_P D vwCl [(o, .inr (8, [.ref o_text, .ref o_reader, .ref o_told, .ref o_now, .ref o_firstKept, .ref o_secondKept, .int o_keptBits, .ref o_past, .ref o_sightings, .ref o_stones, .ref o_game])), (o_now, .inr (3, [.int o_now_steps, .int o_now_mile, .int o_now_walkers, .int o_now_walked, .ref o_now_hard, .ref o_now_kinds, .ref o_now_habits])), (o_stones, .inr (6, [.ref o_stones_places, .int o_stones_walkers, .int o_stones_steps])), (o_stones_places, .inr (4, [.ref o_stones_places_a])), (o_stones_places_a, .inl (cI, 6, .inl o_stones_places_f))] H) (hD : va_D A [(o, .inr (8, [.ref o_text, .ref o_reader, .ref o_told, .ref o_now, .ref o_firstKept, .ref o_secondKept, .int o_keptBits, .ref o_past, .ref o_sightings, .ref o_stones, .ref o_game])), (o_now, .inr (3, [.int o_now_steps, .int o_now_mile, .int o_now_walkers, .int o_now_walked, .ref o_now_hard, .ref o_now_kinds, .ref o_now_habits])), (o_stones, .inr (6, [.ref o_stones_places, .int o_stones_walkers, .int o_stones_steps])), (o_stones_places, .inr (4, [.ref o_stones_places_a])), (o_stones_places_a, .inl (cI, 6, .inl o_stones_places_f))]) (hS : va_S A s.heap H locs) (hF : fX8_fewestToSend a1 a2 o_now_walkers o_now_walked o_stones_walkers o_stones_places_f = fX8_fewestToSend_5 a1 a2 o_now_walkers o_now_walked o_stones_walkers o_stones_places_f n v5_3 v5_4), W p l e ({ frames := 4, cells := 0, slots := 0, locals := 91 } : Room) s m ([.ref o, .int a1, .int a2] : List Value).toArray below meth c H locs 0 0 Q (F0 m 5 ls []) := by
    intro n
    induction n with
    | zero =>
      intro v5_3 v5_4 h1_5 h2_5 hm H locs ls hl hP hD hS hF
      exact absurd hm (by omega)
    | succ n ih_5 =>
      intro v5_3 v5_4 h1_5 h2_5 hm H locs ls hl hP hD hS hF
      refine lv_iload hx hb dX8_fewestToSend_5 (lv_at hl 4 rfl) ?_
      refine lv_iconst (v := 1) hx hb dX8_fewestToSend_7 (by decide) ?_
      refine lv_aload_n hx hb dX8_fewestToSend_8 rfl (lv_at hl 0 rfl) ?_
      refine xget hx hb hts hown hK 8 (C2 := RX8) (T := TX8) (N := 11) rfl hin_8 hP 0 rfl 3 (by decide) fl_32 rfl rfl rfl dX8_fewestToSend_9 ?_
      refine xgetN hx hb hts hown hK 3 (C2 := RX3) (T := TX3) (N := 7) rfl hin_3 hP 1 rfl 2 (by decide) fl_235 rfl rfl rfl dX8_fewestToSend_12 ?_
      refine lv_ishl hx hb dX8_fewestToSend_15 ?_
      refine lv_icmp_ge (tgt := 101) hx hb dX8_fewestToSend_16 (by decide) (fun c_1 => ?_) (fun c_1 => ?_)
      · have kc_1 := t_le c_1
        refine lv_iload_n hx hb dX8_fewestToSend_101 rfl (lv_at hl 3 rfl) ?_
        exact hret _ _ _ _ v5_3 () dX8_fewestToSend_102 ((hF.trans (by simp only [fX8_fewestToSend_5, xlet, if_pos c_1])).symm) hP hD hS
      · have kc_1 := t_nle c_1
        refine lv_iload hx hb dX8_fewestToSend_19 (lv_at hl 4 rfl) ?_
        refine lv_aload_n hx hb dX8_fewestToSend_21 rfl (lv_at hl 0 rfl) ?_
        refine xget hx hb hts hown hK 8 (C2 := RX8) (T := TX8) (N := 11) rfl hin_8 hP 0 rfl 3 (by decide) fl_32 rfl rfl rfl dX8_fewestToSend_22 ?_
        refine xgetN hx hb hts hown hK 3 (C2 := RX3) (T := TX3) (N := 7) rfl hin_3 hP 1 rfl 3 (by decide) fl_167 rfl rfl rfl dX8_fewestToSend_25 ?_
        refine lv_iand hx hb dX8_fewestToSend_28 ?_
        have K_y_3 : ∀ (y_3 : Int32) (hy_y_3 : (if (v5_4 &&& o_now_walked) = 0 then (1 : Int32) else 0) = y_3) (H : Heap) (locs : List Loc) (hP : va_P D vwCl [(o, .inr (8, [.ref o_text, .ref o_reader, .ref o_told, .ref o_now, .ref o_firstKept, .ref o_secondKept, .int o_keptBits, .ref o_past, .ref o_sightings, .ref o_stones, .ref o_game])), (o_now, .inr (3, [.int o_now_steps, .int o_now_mile, .int o_now_walkers, .int o_now_walked, .ref o_now_hard, .ref o_now_kinds, .ref o_now_habits])), (o_stones, .inr (6, [.ref o_stones_places, .int o_stones_walkers, .int o_stones_steps])), (o_stones_places, .inr (4, [.ref o_stones_places_a])), (o_stones_places_a, .inl (cI, 6, .inl o_stones_places_f))] H) (hD : va_D A [(o, .inr (8, [.ref o_text, .ref o_reader, .ref o_told, .ref o_now, .ref o_firstKept, .ref o_secondKept, .int o_keptBits, .ref o_past, .ref o_sightings, .ref o_stones, .ref o_game])), (o_now, .inr (3, [.int o_now_steps, .int o_now_mile, .int o_now_walkers, .int o_now_walked, .ref o_now_hard, .ref o_now_kinds, .ref o_now_habits])), (o_stones, .inr (6, [.ref o_stones_places, .int o_stones_walkers, .int o_stones_steps])), (o_stones_places, .inr (4, [.ref o_stones_places_a])), (o_stones_places_a, .inl (cI, 6, .inl o_stones_places_f))]) (hS : va_S A s.heap H locs), W p l e ({ frames := 4, cells := 0, slots := 0, locals := 91 } : Room) s m ([.ref o, .int a1, .int a2] : List Value).toArray below meth c H locs 0 0 Q (F0 m 37 ls [.int y_3]) := by
          intro y_3 hy_y_3 H locs hP hD hS
          have ky_y_3 : y_3 = 0 ∨ y_3 = 1 := by rw [← hy_y_3]; (repeat' split) <;> simp
          refine lv_istore (lv' := [(5, .int y_3), (0, .ref o), (1, .int a1), (2, .int a2), (3, .int v5_3), (4, .int v5_4)]) hx hb dX8_fewestToSend_37 hl (by decide) rfl (fun ls hl => ?_)
          refine lv_iload_n hx hb dX8_fewestToSend_39 rfl (lv_at hl 4 rfl) ?_
          refine lv_iconst (v := (-1)) hx hb dX8_fewestToSend_40 (by decide) ?_
          have K_y_4 : ∀ (y_4 : Int32) (hy_y_4 : (if v5_3 = (-1) then (1 : Int32) else (if (fJ6_bitCount_0f7a4 v5_3) ≤ (fJ6_bitCount_0f7a4 v5_4) then 0 else 1)) = y_4) (H : Heap) (locs : List Loc) (hP : va_P D vwCl [(o, .inr (8, [.ref o_text, .ref o_reader, .ref o_told, .ref o_now, .ref o_firstKept, .ref o_secondKept, .int o_keptBits, .ref o_past, .ref o_sightings, .ref o_stones, .ref o_game])), (o_now, .inr (3, [.int o_now_steps, .int o_now_mile, .int o_now_walkers, .int o_now_walked, .ref o_now_hard, .ref o_now_kinds, .ref o_now_habits])), (o_stones, .inr (6, [.ref o_stones_places, .int o_stones_walkers, .int o_stones_steps])), (o_stones_places, .inr (4, [.ref o_stones_places_a])), (o_stones_places_a, .inl (cI, 6, .inl o_stones_places_f))] H) (hD : va_D A [(o, .inr (8, [.ref o_text, .ref o_reader, .ref o_told, .ref o_now, .ref o_firstKept, .ref o_secondKept, .int o_keptBits, .ref o_past, .ref o_sightings, .ref o_stones, .ref o_game])), (o_now, .inr (3, [.int o_now_steps, .int o_now_mile, .int o_now_walkers, .int o_now_walked, .ref o_now_hard, .ref o_now_kinds, .ref o_now_habits])), (o_stones, .inr (6, [.ref o_stones_places, .int o_stones_walkers, .int o_stones_steps])), (o_stones_places, .inr (4, [.ref o_stones_places_a])), (o_stones_places_a, .inl (cI, 6, .inl o_stones_places_f))]) (hS : va_S A s.heap H locs), W p l e ({ frames := 4, cells := 0, slots := 0, locals := 91 } : Room) s m ([.ref o, .int a1, .int a2] : List Value).toArray below meth c H locs 0 0 Q (F0 m 61 ls [.int y_4]) := by
            intro y_4 hy_y_4 H locs hP hD hS
            have ky_y_4 : y_4 = 0 ∨ y_4 = 1 := by rw [← hy_y_4]; (repeat' split) <;> simp
            refine lv_istore (lv' := [(6, .int y_4), (5, .int y_3), (0, .ref o), (1, .int a1), (2, .int a2), (3, .int v5_3), (4, .int v5_4)]) hx hb dX8_fewestToSend_61 hl (by decide) rfl (fun ls hl => ?_)
            refine lv_iload hx hb dX8_fewestToSend_63 (lv_at hl 1 rfl) ?_
            refine lv_if_eq (tgt := 95) hx hb dX8_fewestToSend_65 (by decide) (fun c_5 => ?_) (fun c_5 => ?_)
            · have kc_5 := t_eq c_5
              refine lv_iinc (v := (v5_4 + 1)) (lv' := [(4, .int (v5_4 + 1)), (6, .int y_4), (5, .int y_3), (0, .ref o), (1, .int a1), (2, .int a2), (3, .int v5_3)]) hx hb dX8_fewestToSend_95 hl (k := 6) rfl (by rfl) (by decide) rfl (fun ls hl => ?_)
              refine lv_goto (tgt := 5) hx hb dX8_fewestToSend_98 (by decide) ?_
              have z_1 : (v5_4 + 1).toInt = v5_4.toInt + (1 : Int32).toInt := z_add (by omega) (by omega)
              exact ih_5 v5_3 (v5_4 + 1) (by first | assumption | omega | decide | (split <;> rename_i hh <;> first | (have h9 := t_nlt hh; omega) | (have h9 := t_lt hh; omega) | (have h9 := t_nle hh; omega) | (have h9 := t_le hh; omega))) (by first | assumption | omega | decide | (split <;> rename_i hh <;> first | (have h9 := t_nlt hh; omega) | (have h9 := t_lt hh; omega) | (have h9 := t_nle hh; omega) | (have h9 := t_le hh; omega))) (by first | assumption | omega | decide | (split <;> rename_i hh <;> first | (have h9 := t_nlt hh; omega) | (have h9 := t_lt hh; omega) | (have h9 := t_nle hh; omega) | (have h9 := t_le hh; omega))) _ _ _ (lv_sub hl [3, 4, 5, 6, 0] rfl) hP hD hS (hF.trans (by simp only [fX8_fewestToSend_5, xlet, if_neg c_1, ↓hy_y_3, ↓hy_y_4, if_pos c_5]))
            · have kc_5 := t_neq c_5
              refine lv_iload hx hb dX8_fewestToSend_68 (lv_at hl 0 rfl) ?_
              refine lv_if_eq (tgt := 95) hx hb dX8_fewestToSend_70 (by decide) (fun c_6 => ?_) (fun c_6 => ?_)
              · have kc_6 := t_eq c_6
                refine lv_iinc (v := (v5_4 + 1)) (lv' := [(4, .int (v5_4 + 1)), (6, .int y_4), (5, .int y_3), (0, .ref o), (1, .int a1), (2, .int a2), (3, .int v5_3)]) hx hb dX8_fewestToSend_95 hl (k := 6) rfl (by rfl) (by decide) rfl (fun ls hl => ?_)
                refine lv_goto (tgt := 5) hx hb dX8_fewestToSend_98 (by decide) ?_
                have z_2 : (v5_4 + 1).toInt = v5_4.toInt + (1 : Int32).toInt := z_add (by omega) (by omega)
                exact ih_5 v5_3 (v5_4 + 1) (by first | assumption | omega | decide | (split <;> rename_i hh <;> first | (have h9 := t_nlt hh; omega) | (have h9 := t_lt hh; omega) | (have h9 := t_nle hh; omega) | (have h9 := t_le hh; omega))) (by first | assumption | omega | decide | (split <;> rename_i hh <;> first | (have h9 := t_nlt hh; omega) | (have h9 := t_lt hh; omega) | (have h9 := t_nle hh; omega) | (have h9 := t_le hh; omega))) (by first | assumption | omega | decide | (split <;> rename_i hh <;> first | (have h9 := t_nlt hh; omega) | (have h9 := t_lt hh; omega) | (have h9 := t_nle hh; omega) | (have h9 := t_le hh; omega))) _ _ _ (lv_sub hl [3, 4, 5, 6, 0] rfl) hP hD hS (hF.trans (by simp only [fX8_fewestToSend_5, xlet, if_neg c_1, ↓hy_y_3, ↓hy_y_4, if_neg c_5, if_pos c_6]))
              · have kc_6 := t_neq c_6
                refine lv_aload_n hx hb dX8_fewestToSend_73 rfl (lv_at hl 2 rfl) ?_
                refine lv_iload hx hb dX8_fewestToSend_74 (lv_at hl 6 rfl) ?_
                refine lv_aload_n hx hb dX8_fewestToSend_76 rfl (lv_at hl 2 rfl) ?_
                refine xget hx hb hts hown hK 8 (C2 := RX8) (T := TX8) (N := 11) rfl hin_8 hP 0 rfl 3 (by decide) fl_32 rfl rfl rfl dX8_fewestToSend_77 ?_
                refine xgetN hx hb hts hown hK 3 (C2 := RX3) (T := TX3) (N := 7) rfl hin_3 hP 1 rfl 3 (by decide) fl_167 rfl rfl rfl dX8_fewestToSend_80 ?_
                refine lv_ior hx hb dX8_fewestToSend_83 ?_
                refine lv_iload_n hx hb dX8_fewestToSend_84 rfl (lv_at hl 3 rfl) ?_
                refine lv_iload_n hx hb dX8_fewestToSend_85 rfl (lv_at hl 4 rfl) ?_
                refine xcalli (S := Unit) (Wc := [(o, .inr (8, [.ref o_text, .ref o_reader, .ref o_told, .ref o_now, .ref o_firstKept, .ref o_secondKept, .int o_keptBits, .ref o_past, .ref o_sightings, .ref o_stones, .ref o_game])), (o_stones, .inr (6, [.ref o_stones_places, .int o_stones_walkers, .int o_stones_steps])), (o_stones_places, .inr (4, [.ref o_stones_places_a])), (o_stones_places_a, .inl (cI, 6, .inl o_stones_places_f))]) (wr := [(o_now, .inr (3, [.int o_now_steps, .int o_now_mile, .int o_now_walkers, .int o_now_walked, .ref o_now_hard, .ref o_now_kinds, .ref o_now_habits]))]) (W1 := (fun (u : Unit) => [(o, .inr (8, [.ref o_text, .ref o_reader, .ref o_told, .ref o_now, .ref o_firstKept, .ref o_secondKept, .int o_keptBits, .ref o_past, .ref o_sightings, .ref o_stones, .ref o_game])), (o_stones, .inr (6, [.ref o_stones_places, .int o_stones_walkers, .int o_stones_steps])), (o_stones_places, .inr (4, [.ref o_stones_places_a])), (o_stones_places_a, .inl (cI, 6, .inl o_stones_places_f))])) (Wn := (fun (u : Unit) => [(o, .inr (8, [.ref o_text, .ref o_reader, .ref o_told, .ref o_now, .ref o_firstKept, .ref o_secondKept, .int o_keptBits, .ref o_past, .ref o_sightings, .ref o_stones, .ref o_game])), (o_now, .inr (3, [.int o_now_steps, .int o_now_mile, .int o_now_walkers, .int o_now_walked, .ref o_now_hard, .ref o_now_kinds, .ref o_now_habits])), (o_stones, .inr (6, [.ref o_stones_places, .int o_stones_walkers, .int o_stones_steps])), (o_stones_places, .inr (4, [.ref o_stones_places_a])), (o_stones_places_a, .inl (cI, 6, .inl o_stones_places_f))])) (xrunV hx hb hml hown hts (c_X8_standsAsWished l D cI cZ _ o (v5_4 ||| o_now_walked) a1 a2 o_text o_reader o_told o_now o_firstKept o_secondKept o_keptBits o_past o_sightings o_stones o_game o_stones_places o_stones_walkers o_stones_steps o_stones_places_a o_stones_places_f hq3) (cwV 3 hts gX8_fewestToSend_X8_standsAsWished rfl rfl rfl (by decide +kernel) ⟨Nat.le_of_ble_eq_true rfl, Nat.le_of_ble_eq_true rfl⟩) hE hK hP hD [0, 2, 3, 4] rfl rfl 0 8 (T := TX8) (N := 11) rfl rfl rfl hl.1 rfl (Nat.le_of_ble_eq_true rfl) dX8_fewestToSend_86 ⟨Nat.le_of_ble_eq_true rfl, Nat.le_of_ble_eq_true rfl⟩) hP hD hS hA [0, 2, 3, 4] [1] [1, 0, 2, 3, 4] rfl rfl rfl (by decide) (fun _ => rfl) rfl (fun r3 u H locs hw hz hP hD hS => ?_)
                subst hw
                refine lv_if_eq (tgt := 95) hx hb dX8_fewestToSend_89 (by decide) (fun c_7 => ?_) (fun c_7 => ?_)
                · refine lv_iinc (v := (v5_4 + 1)) (lv' := [(4, .int (v5_4 + 1)), (6, .int y_4), (5, .int y_3), (0, .ref o), (1, .int a1), (2, .int a2), (3, .int v5_3)]) hx hb dX8_fewestToSend_95 hl (k := 6) rfl (by rfl) (by decide) rfl (fun ls hl => ?_)
                  refine lv_goto (tgt := 5) hx hb dX8_fewestToSend_98 (by decide) ?_
                  have z_3 : (v5_4 + 1).toInt = v5_4.toInt + (1 : Int32).toInt := z_add (by omega) (by omega)
                  exact ih_5 v5_3 (v5_4 + 1) (by first | assumption | omega | decide | (split <;> rename_i hh <;> first | (have h9 := t_nlt hh; omega) | (have h9 := t_lt hh; omega) | (have h9 := t_nle hh; omega) | (have h9 := t_le hh; omega))) (by first | assumption | omega | decide | (split <;> rename_i hh <;> first | (have h9 := t_nlt hh; omega) | (have h9 := t_lt hh; omega) | (have h9 := t_nle hh; omega) | (have h9 := t_le hh; omega))) (by first | assumption | omega | decide | (split <;> rename_i hh <;> first | (have h9 := t_nlt hh; omega) | (have h9 := t_lt hh; omega) | (have h9 := t_nle hh; omega) | (have h9 := t_le hh; omega))) _ _ _ (lv_sub hl [3, 4, 5, 6, 0] rfl) hP hD hS (hF.trans (by simp only [fX8_fewestToSend_5, xlet, if_neg c_1, ↓hy_y_3, ↓hy_y_4, if_neg c_5, if_neg c_6, if_pos c_7]))
                · refine lv_iload hx hb dX8_fewestToSend_92 (lv_at hl 6 rfl) ?_
                  refine lv_istore_n (lv' := [(3, .int v5_4), (6, .int y_4), (5, .int y_3), (0, .ref o), (1, .int a1), (2, .int a2), (4, .int v5_4)]) hx hb dX8_fewestToSend_94 rfl hl (by decide) rfl (fun ls hl => ?_)
                  refine lv_iinc (v := (v5_4 + 1)) (lv' := [(4, .int (v5_4 + 1)), (3, .int v5_4), (6, .int y_4), (5, .int y_3), (0, .ref o), (1, .int a1), (2, .int a2)]) hx hb dX8_fewestToSend_95 hl (k := 6) rfl (by rfl) (by decide) rfl (fun ls hl => ?_)
                  refine lv_goto (tgt := 5) hx hb dX8_fewestToSend_98 (by decide) ?_
                  have z_4 : (v5_4 + 1).toInt = v5_4.toInt + (1 : Int32).toInt := z_add (by omega) (by omega)
                  exact ih_5 v5_4 (v5_4 + 1) (by first | assumption | omega | decide | (split <;> rename_i hh <;> first | (have h9 := t_nlt hh; omega) | (have h9 := t_lt hh; omega) | (have h9 := t_nle hh; omega) | (have h9 := t_le hh; omega))) (by first | assumption | omega | decide | (split <;> rename_i hh <;> first | (have h9 := t_nlt hh; omega) | (have h9 := t_lt hh; omega) | (have h9 := t_nle hh; omega) | (have h9 := t_le hh; omega))) (by first | assumption | omega | decide | (split <;> rename_i hh <;> first | (have h9 := t_nlt hh; omega) | (have h9 := t_lt hh; omega) | (have h9 := t_nle hh; omega) | (have h9 := t_le hh; omega))) _ _ _ (lv_sub hl [4, 5, 6, 1, 0] rfl) hP hD hS (hF.trans (by simp only [fX8_fewestToSend_5, xlet, if_neg c_1, ↓hy_y_3, ↓hy_y_4, if_neg c_5, if_neg c_6, if_neg c_7]))
          refine lv_icmp_eq (tgt := 56) hx hb dX8_fewestToSend_41 (by decide) (fun c_3 => ?_) (fun c_3 => ?_)
          · have kc_3 := t_eq c_3
            refine lv_iconst (v := 1) hx hb dX8_fewestToSend_56 (by decide) ?_
            refine lv_goto (tgt := 61) hx hb dX8_fewestToSend_57 (by decide) ?_
            exact K_y_4 _ (by simp only [xlet, if_pos c_3]) _ _ hP hD hS
          · have kc_3 := t_neq c_3
            refine lv_iload hx hb dX8_fewestToSend_44 (lv_at hl 5 rfl) ?_
            refine xcalli (S := Unit) (Wc := []) (wr := [(o, .inr (8, [.ref o_text, .ref o_reader, .ref o_told, .ref o_now, .ref o_firstKept, .ref o_secondKept, .int o_keptBits, .ref o_past, .ref o_sightings, .ref o_stones, .ref o_game])), (o_now, .inr (3, [.int o_now_steps, .int o_now_mile, .int o_now_walkers, .int o_now_walked, .ref o_now_hard, .ref o_now_kinds, .ref o_now_habits])), (o_stones, .inr (6, [.ref o_stones_places, .int o_stones_walkers, .int o_stones_steps])), (o_stones_places, .inr (4, [.ref o_stones_places_a])), (o_stones_places_a, .inl (cI, 6, .inl o_stones_places_f))]) (W1 := (fun (u : Unit) => [])) (Wn := (fun (u : Unit) => [(o, .inr (8, [.ref o_text, .ref o_reader, .ref o_told, .ref o_now, .ref o_firstKept, .ref o_secondKept, .int o_keptBits, .ref o_past, .ref o_sightings, .ref o_stones, .ref o_game])), (o_now, .inr (3, [.int o_now_steps, .int o_now_mile, .int o_now_walkers, .int o_now_walked, .ref o_now_hard, .ref o_now_kinds, .ref o_now_habits])), (o_stones, .inr (6, [.ref o_stones_places, .int o_stones_walkers, .int o_stones_steps])), (o_stones_places, .inr (4, [.ref o_stones_places_a])), (o_stones_places_a, .inl (cI, 6, .inl o_stones_places_f))])) (xrunS hx hb hml hown hts (c_J6_bitCount_0f7a4 l D cI cZ _ v5_4 ) (va_cwS 1 hts gX8_fewestToSend_J6_bitCount_0f7a4 rfl rfl rfl (by decide +kernel) ⟨Nat.le_of_ble_eq_true rfl, Nat.le_of_ble_eq_true rfl⟩) hE hK hP hD [] rfl rfl rfl hl.1 rfl (Nat.le_of_ble_eq_true rfl) dX8_fewestToSend_46 ⟨Nat.le_of_ble_eq_true rfl, Nat.le_of_ble_eq_true rfl⟩) hP hD hS hA [] [0, 1, 2, 3, 4] [0, 1, 2, 3, 4] rfl rfl rfl (by decide) (fun _ => rfl) rfl (fun r1 u H locs hw hz hP hD hS => ?_)
            subst hw
            refine lv_iload_n hx hb dX8_fewestToSend_49 rfl (lv_at hl 4 rfl) ?_
            refine xcalli (S := Unit) (Wc := []) (wr := [(o, .inr (8, [.ref o_text, .ref o_reader, .ref o_told, .ref o_now, .ref o_firstKept, .ref o_secondKept, .int o_keptBits, .ref o_past, .ref o_sightings, .ref o_stones, .ref o_game])), (o_now, .inr (3, [.int o_now_steps, .int o_now_mile, .int o_now_walkers, .int o_now_walked, .ref o_now_hard, .ref o_now_kinds, .ref o_now_habits])), (o_stones, .inr (6, [.ref o_stones_places, .int o_stones_walkers, .int o_stones_steps])), (o_stones_places, .inr (4, [.ref o_stones_places_a])), (o_stones_places_a, .inl (cI, 6, .inl o_stones_places_f))]) (W1 := (fun (u : Unit) => [])) (Wn := (fun (u : Unit) => [(o, .inr (8, [.ref o_text, .ref o_reader, .ref o_told, .ref o_now, .ref o_firstKept, .ref o_secondKept, .int o_keptBits, .ref o_past, .ref o_sightings, .ref o_stones, .ref o_game])), (o_now, .inr (3, [.int o_now_steps, .int o_now_mile, .int o_now_walkers, .int o_now_walked, .ref o_now_hard, .ref o_now_kinds, .ref o_now_habits])), (o_stones, .inr (6, [.ref o_stones_places, .int o_stones_walkers, .int o_stones_steps])), (o_stones_places, .inr (4, [.ref o_stones_places_a])), (o_stones_places_a, .inl (cI, 6, .inl o_stones_places_f))])) (xrunS hx hb hml hown hts (c_J6_bitCount_0f7a4 l D cI cZ _ v5_3 ) (va_cwS 1 hts gX8_fewestToSend_J6_bitCount_0f7a4 rfl rfl rfl (by decide +kernel) ⟨Nat.le_of_ble_eq_true rfl, Nat.le_of_ble_eq_true rfl⟩) hE hK hP hD [] rfl rfl rfl hl.1 rfl (Nat.le_of_ble_eq_true rfl) dX8_fewestToSend_50 ⟨Nat.le_of_ble_eq_true rfl, Nat.le_of_ble_eq_true rfl⟩) hP hD hS hA [] [0, 1, 2, 3, 4] [0, 1, 2, 3, 4] rfl rfl rfl (by decide) (fun _ => rfl) rfl (fun r2 u H locs hw hz hP hD hS => ?_)
            subst hw
            refine lv_icmp_ge (tgt := 60) hx hb dX8_fewestToSend_53 (by decide) (fun c_4 => ?_) (fun c_4 => ?_)
            · refine lv_iconst (v := 0) hx hb dX8_fewestToSend_60 (by decide) ?_
              exact K_y_4 _ (by simp only [xlet, if_neg c_3, if_pos c_4]) _ _ hP hD hS
            · refine lv_iconst (v := 1) hx hb dX8_fewestToSend_56 (by decide) ?_
              refine lv_goto (tgt := 61) hx hb dX8_fewestToSend_57 (by decide) ?_
              exact K_y_4 _ (by simp only [xlet, if_neg c_3, if_neg c_4]) _ _ hP hD hS
        refine lv_if_ne (tgt := 36) hx hb dX8_fewestToSend_29 (by decide) (fun c_2 => ?_) (fun c_2 => ?_)
        · refine lv_iconst (v := 0) hx hb dX8_fewestToSend_36 (by decide) ?_
          exact K_y_3 _ (by simp only [xlet, if_neg c_2]) _ _ hP hD hS
        · refine lv_iconst (v := 1) hx hb dX8_fewestToSend_32 (by decide) ?_
          refine lv_goto (tgt := 37) hx hb dX8_fewestToSend_33 (by decide) ?_
          exact K_y_3 _ (by simp only [xlet, if_pos c_2]) _ _ hP hD hS
  refine lv_iconst (v := (-1)) hx hb dX8_fewestToSend_0 (by decide) ?_
  refine lv_istore_n (lv' := [(3, .int (-1)), (0, .ref o), (1, .int a1), (2, .int a2)]) hx hb dX8_fewestToSend_1 rfl hl (by decide) rfl (fun ls hl => ?_)
  refine lv_iconst (v := 0) hx hb dX8_fewestToSend_2 (by decide) ?_
  refine lv_istore (lv' := [(4, .int 0), (3, .int (-1)), (0, .ref o), (1, .int a1), (2, .int a2)]) hx hb dX8_fewestToSend_3 hl (by decide) rfl (fun ls hl => ?_)
  exact L_5 1000 (-1) 0 (by first | assumption | omega | decide | (split <;> rename_i hh <;> first | (have h9 := t_nlt hh; omega) | (have h9 := t_lt hh; omega) | (have h9 := t_nle hh; omega) | (have h9 := t_le hh; omega))) (by first | assumption | omega | decide | (split <;> rename_i hh <;> first | (have h9 := t_nlt hh; omega) | (have h9 := t_lt hh; omega) | (have h9 := t_nle hh; omega) | (have h9 := t_le hh; omega))) (by first | assumption | omega | decide | (split <;> rename_i hh <;> first | (have h9 := t_nlt hh; omega) | (have h9 := t_lt hh; omega) | (have h9 := t_nle hh; omega) | (have h9 := t_le hh; omega))) _ _ _ (lv_sub hl [2, 3, 4, 1, 0] rfl) hP hD hS (hF.trans (by simp only [fX8_fewestToSend, xlet]))
set_option maxRecDepth 20000 in
theorem ggX8_lawStonesBetween_X6_find : GoodIn wsX8_lawStonesBetween wsX6_find := goodIn_r _ [7, 8, 9, 10, 11, 12, 13, 14, 15, 16, 17, 18, 19, 20, 21, 22, 23, 24, 25, 26, 27, 28, 29, 30, 31, 32, 33, 34, 35, 36, 37, 38, 63, 64, 65, 66, 67, 68, 69, 70, 71, 72, 73] (by decide +kernel) (by decide +kernel)
set_option maxRecDepth 20000 in
theorem gX8_lawStonesBetween_X6_find : GoodIn wsX8_lawStonesBetween (wsV RX8 179 RX6 yX6_find wsX6_find) := goodIn_app (goodIn_of _ (by decide +kernel)) ggX8_lawStonesBetween_X6_find
set_option maxRecDepth 20000 in
theorem ggX8_lawStonesBetween_X6_sumOf : GoodIn wsX8_lawStonesBetween wsX6_sumOf := goodIn_r _ [42, 8, 10, 43, 44, 45, 6, 46, 47, 20, 21, 22, 23, 24, 70, 71, 72, 73] (by decide +kernel) (by decide +kernel)
set_option maxRecDepth 20000 in
theorem gX8_lawStonesBetween_X6_sumOf : GoodIn wsX8_lawStonesBetween (wsV RX8 186 RX6 yX6_sumOf wsX6_sumOf) := goodIn_app (goodIn_of _ (by decide +kernel)) ggX8_lawStonesBetween_X6_sumOf
set_option maxRecDepth 20000 in
theorem ggX8_lawStonesBetween_X6_numberOf : GoodIn wsX8_lawStonesBetween wsX6_numberOf := goodIn_r _ [51, 8, 43, 44, 45, 6, 46, 10, 47, 20, 21, 22, 23, 24, 70, 71, 72, 73] (by decide +kernel) (by decide +kernel)
set_option maxRecDepth 20000 in
theorem gX8_lawStonesBetween_X6_numberOf : GoodIn wsX8_lawStonesBetween (wsV RX8 183 RX6 yX6_numberOf wsX6_numberOf) := goodIn_app (goodIn_of _ (by decide +kernel)) ggX8_lawStonesBetween_X6_numberOf
theorem dX8_lawStonesBetween_0 : decode cX8_lawStonesBetween 0 = .ok (.iconst 0, 1) := by decide +kernel
theorem dX8_lawStonesBetween_1 : decode cX8_lawStonesBetween 1 = .ok (.istore_n 3, 1) := by decide +kernel
theorem dX8_lawStonesBetween_2 : decode cX8_lawStonesBetween 2 = .ok (.iconst 1, 1) := by decide +kernel
theorem dX8_lawStonesBetween_3 : decode cX8_lawStonesBetween 3 = .ok (.istore 4, 2) := by decide +kernel
theorem dX8_lawStonesBetween_5 : decode cX8_lawStonesBetween 5 = .ok (.iload 4, 2) := by decide +kernel
theorem dX8_lawStonesBetween_7 : decode cX8_lawStonesBetween 7 = .ok (.bipush 8, 2) := by decide +kernel
theorem dX8_lawStonesBetween_9 : decode cX8_lawStonesBetween 9 = .ok (.if_icmp .gt 80, 3) := by decide +kernel
theorem dX8_lawStonesBetween_12 : decode cX8_lawStonesBetween 12 = .ok (.aload_n 0, 1) := by decide +kernel
theorem dX8_lawStonesBetween_13 : decode cX8_lawStonesBetween 13 = .ok (.getfield 58, 3) := by decide +kernel
theorem dX8_lawStonesBetween_16 : decode cX8_lawStonesBetween 16 = .ok (.aload_n 0, 1) := by decide +kernel
theorem dX8_lawStonesBetween_17 : decode cX8_lawStonesBetween 17 = .ok (.getfield 32, 3) := by decide +kernel
theorem dX8_lawStonesBetween_20 : decode cX8_lawStonesBetween 20 = .ok (.iload 4, 2) := by decide +kernel
theorem dX8_lawStonesBetween_22 : decode cX8_lawStonesBetween 22 = .ok (.invokevirtual 179, 3) := by decide +kernel
theorem dX8_lawStonesBetween_25 : decode cX8_lawStonesBetween 25 = .ok (.aload_n 0, 1) := by decide +kernel
theorem dX8_lawStonesBetween_26 : decode cX8_lawStonesBetween 26 = .ok (.getfield 58, 3) := by decide +kernel
theorem dX8_lawStonesBetween_29 : decode cX8_lawStonesBetween 29 = .ok (.aload_n 0, 1) := by decide +kernel
theorem dX8_lawStonesBetween_30 : decode cX8_lawStonesBetween 30 = .ok (.getfield 32, 3) := by decide +kernel
theorem dX8_lawStonesBetween_33 : decode cX8_lawStonesBetween 33 = .ok (.getfield 167, 3) := by decide +kernel
theorem dX8_lawStonesBetween_36 : decode cX8_lawStonesBetween 36 = .ok (.invokevirtual 186, 3) := by decide +kernel
theorem dX8_lawStonesBetween_39 : decode cX8_lawStonesBetween 39 = .ok (.istore 5, 2) := by decide +kernel
theorem dX8_lawStonesBetween_41 : decode cX8_lawStonesBetween 41 = .ok (.aload_n 0, 1) := by decide +kernel
theorem dX8_lawStonesBetween_42 : decode cX8_lawStonesBetween 42 = .ok (.getfield 58, 3) := by decide +kernel
theorem dX8_lawStonesBetween_45 : decode cX8_lawStonesBetween 45 = .ok (.aload_n 0, 1) := by decide +kernel
theorem dX8_lawStonesBetween_46 : decode cX8_lawStonesBetween 46 = .ok (.getfield 32, 3) := by decide +kernel
theorem dX8_lawStonesBetween_49 : decode cX8_lawStonesBetween 49 = .ok (.getfield 167, 3) := by decide +kernel
theorem dX8_lawStonesBetween_52 : decode cX8_lawStonesBetween 52 = .ok (.invokevirtual 183, 3) := by decide +kernel
theorem dX8_lawStonesBetween_55 : decode cX8_lawStonesBetween 55 = .ok (.istore 6, 2) := by decide +kernel
theorem dX8_lawStonesBetween_57 : decode cX8_lawStonesBetween 57 = .ok (.iload 6, 2) := by decide +kernel
theorem dX8_lawStonesBetween_59 : decode cX8_lawStonesBetween 59 = .ok (.ifCond .le 24, 3) := by decide +kernel
theorem dX8_lawStonesBetween_62 : decode cX8_lawStonesBetween 62 = .ok (.iload 5, 2) := by decide +kernel
theorem dX8_lawStonesBetween_64 : decode cX8_lawStonesBetween 64 = .ok (.iload_n 1, 1) := by decide +kernel
theorem dX8_lawStonesBetween_65 : decode cX8_lawStonesBetween 65 = .ok (.iload 6, 2) := by decide +kernel
theorem dX8_lawStonesBetween_67 : decode cX8_lawStonesBetween 67 = .ok (.imul, 1) := by decide +kernel
theorem dX8_lawStonesBetween_68 : decode cX8_lawStonesBetween 68 = .ok (.if_icmp .le 15, 3) := by decide +kernel
theorem dX8_lawStonesBetween_71 : decode cX8_lawStonesBetween 71 = .ok (.iload 5, 2) := by decide +kernel
theorem dX8_lawStonesBetween_73 : decode cX8_lawStonesBetween 73 = .ok (.iload_n 2, 1) := by decide +kernel
theorem dX8_lawStonesBetween_74 : decode cX8_lawStonesBetween 74 = .ok (.iload 6, 2) := by decide +kernel
theorem dX8_lawStonesBetween_76 : decode cX8_lawStonesBetween 76 = .ok (.imul, 1) := by decide +kernel
theorem dX8_lawStonesBetween_77 : decode cX8_lawStonesBetween 77 = .ok (.if_icmp .gt 6, 3) := by decide +kernel
theorem dX8_lawStonesBetween_80 : decode cX8_lawStonesBetween 80 = .ok (.iinc 3 1, 3) := by decide +kernel
theorem dX8_lawStonesBetween_83 : decode cX8_lawStonesBetween 83 = .ok (.iinc 4 1, 3) := by decide +kernel
theorem dX8_lawStonesBetween_86 : decode cX8_lawStonesBetween 86 = .ok (.goto (-81), 3) := by decide +kernel
theorem dX8_lawStonesBetween_89 : decode cX8_lawStonesBetween 89 = .ok (.iload_n 3, 1) := by decide +kernel
theorem dX8_lawStonesBetween_90 : decode cX8_lawStonesBetween 90 = .ok (.ireturn, 1) := by decide +kernel
def fX8_lawStonesBetween_5 (a1 : Int32) (a2 : Int32) (o_now_steps : Int32) (o_now_mile : Int32) (o_now_walkers : Int32) (o_now_walked : Int32) (o_now_kinds_f : Nat → Int32) (o_now_habits_f : Nat → Int32) (o_now_hard_f : Nat → Int32)  : Nat → (Nat → Int32) → Int32 → Int32 → Int32 → Int32 → Int32 × Int32 × Int32 × (Nat → Int32)
  | 0, _, _, _, _, _ => default
  | n + 1, o_stones_places_a_f_5, v5_3, v5_4, o_stones_walkers_5, o_stones_steps_5 => if 8 < v5_4 then ((v5_3, o_stones_walkers_5, o_stones_steps_5, o_stones_places_a_f_5)) else (xlet (fX6_find v5_4 o_now_steps o_now_mile o_now_walkers o_now_kinds_f o_now_habits_f o_now_hard_f o_stones_places_a_f_5) (fun u1 => if (fX6_numberOf o_now_walked o_now_walkers u1) ≤ 0 then (fX8_lawStonesBetween_5 a1 a2 o_now_steps o_now_mile o_now_walkers o_now_walked o_now_kinds_f o_now_habits_f o_now_hard_f n u1 v5_3 (v5_4 + 1) o_now_walkers o_now_steps) else (if (fX6_sumOf o_now_walked o_now_walkers u1) ≤ (a1 * (fX6_numberOf o_now_walked o_now_walkers u1)) then (fX8_lawStonesBetween_5 a1 a2 o_now_steps o_now_mile o_now_walkers o_now_walked o_now_kinds_f o_now_habits_f o_now_hard_f n u1 v5_3 (v5_4 + 1) o_now_walkers o_now_steps) else (if (a2 * (fX6_numberOf o_now_walked o_now_walkers u1)) < (fX6_sumOf o_now_walked o_now_walkers u1) then (fX8_lawStonesBetween_5 a1 a2 o_now_steps o_now_mile o_now_walkers o_now_walked o_now_kinds_f o_now_habits_f o_now_hard_f n u1 v5_3 (v5_4 + 1) o_now_walkers o_now_steps) else (fX8_lawStonesBetween_5 a1 a2 o_now_steps o_now_mile o_now_walkers o_now_walked o_now_kinds_f o_now_habits_f o_now_hard_f n u1 (v5_3 + 1) (v5_4 + 1) o_now_walkers o_now_steps)))))
def fX8_lawStonesBetween (a1 : Int32) (a2 : Int32) (o_now_steps : Int32) (o_now_mile : Int32) (o_now_walkers : Int32) (o_now_walked : Int32) (o_stones_walkers : Int32) (o_stones_steps : Int32) (o_now_kinds_f : Nat → Int32) (o_now_habits_f : Nat → Int32) (o_now_hard_f : Nat → Int32) (o_stones_places_f : Nat → Int32) : Int32 × Int32 × Int32 × (Nat → Int32) := fX8_lawStonesBetween_5 a1 a2 o_now_steps o_now_mile o_now_walkers o_now_walked o_now_kinds_f o_now_habits_f o_now_hard_f 1000 o_stones_places_f 0 1 o_stones_walkers o_stones_steps
set_option maxHeartbeats 4000000 in
set_option maxRecDepth 100000 in
theorem c_X8_lawStonesBetween (l : Launch) (D : va_G) (cI cZ : ClassId) (sz : Nat) (o : Nat) (a1 : Int32) (a2 : Int32) (o_text : Nat) (o_reader : Nat) (o_told : Nat) (o_now : Nat) (o_firstKept : Nat) (o_secondKept : Nat) (o_keptBits : Int32) (o_past : Nat) (o_sightings : Nat) (o_stones : Nat) (o_game : Nat) (o_now_steps : Int32) (o_now_mile : Int32) (o_now_walkers : Int32) (o_now_walked : Int32) (o_now_hard : Nat) (o_now_kinds : Nat) (o_now_habits : Nat) (o_stones_places : Nat) (o_stones_walkers : Int32) (o_stones_steps : Int32) (o_now_kinds_a : Nat) (o_now_kinds_f : Nat → Int32) (o_now_habits_a : Nat) (o_now_habits_f : Nat → Int32) (o_now_hard_a : Nat) (o_now_hard_f : Nat → Int32) (o_stones_places_a : Nat) (o_stones_places_f : Nat → Int32) (hq1 : o_now_walkers.toInt ≤ 6) (hq2 : o_now_steps.toInt ≤ 20) : Met l yX8_lawStonesBetween wsX8_lawStonesBetween ({ frames := 5, cells := 0, slots := 0, locals := 115 } : Room) (va_Pc [.ref o, .int a1, .int a2] (xP D cI cZ [(o, .inr (8, [.ref o_text, .ref o_reader, .ref o_told, .ref o_now, .ref o_firstKept, .ref o_secondKept, .int o_keptBits, .ref o_past, .ref o_sightings, .ref o_stones, .ref o_game])), (o_now, .inr (3, [.int o_now_steps, .int o_now_mile, .int o_now_walkers, .int o_now_walked, .ref o_now_hard, .ref o_now_kinds, .ref o_now_habits])), (o_stones, .inr (6, [.ref o_stones_places, .int o_stones_walkers, .int o_stones_steps])), (o_now_kinds, .inr (4, [.ref o_now_kinds_a])), (o_now_kinds_a, .inl (cI, 6, .inl o_now_kinds_f)), (o_now_habits, .inr (4, [.ref o_now_habits_a])), (o_now_habits_a, .inl (cI, 6, .inl o_now_habits_f)), (o_now_hard, .inr (4, [.ref o_now_hard_a])), (o_now_hard_a, .inl (cI, 21, .inl o_now_hard_f)), (o_stones_places, .inr (4, [.ref o_stones_places_a])), (o_stones_places_a, .inl (cI, 6, .inl o_stones_places_f))] sz)) (va_Qi (fun (r : Int32) (u : Int32 × Int32 × (Nat → Int32)) => (r, u) = fX8_lawStonesBetween a1 a2 o_now_steps o_now_mile o_now_walkers o_now_walked o_stones_walkers o_stones_steps o_now_kinds_f o_now_habits_f o_now_hard_f o_stones_places_f) (fun (u : Int32 × Int32 × (Nat → Int32)) t => xB D cI cZ [(o, .inr (8, [.ref o_text, .ref o_reader, .ref o_told, .ref o_now, .ref o_firstKept, .ref o_secondKept, .int o_keptBits, .ref o_past, .ref o_sightings, .ref o_stones, .ref o_game])), (o_now, .inr (3, [.int o_now_steps, .int o_now_mile, .int o_now_walkers, .int o_now_walked, .ref o_now_hard, .ref o_now_kinds, .ref o_now_habits])), (o_stones, .inr (6, [.ref o_stones_places, .int u.1, .int u.2.1])), (o_now_kinds, .inr (4, [.ref o_now_kinds_a])), (o_now_kinds_a, .inl (cI, 6, .inl o_now_kinds_f)), (o_now_habits, .inr (4, [.ref o_now_habits_a])), (o_now_habits_a, .inl (cI, 6, .inl o_now_habits_f)), (o_now_hard, .inr (4, [.ref o_now_hard_a])), (o_now_hard_a, .inl (cI, 21, .inl o_now_hard_f)), (o_stones_places, .inr (4, [.ref o_stones_places_a])), (o_stones_places_a, .inl (cI, 6, .inl u.2.2))] (va_A [(o, .inr (8, [.ref o_text, .ref o_reader, .ref o_told, .ref o_now, .ref o_firstKept, .ref o_secondKept, .int o_keptBits, .ref o_past, .ref o_sightings, .ref o_stones, .ref o_game])), (o_now, .inr (3, [.int o_now_steps, .int o_now_mile, .int o_now_walkers, .int o_now_walked, .ref o_now_hard, .ref o_now_kinds, .ref o_now_habits])), (o_stones, .inr (6, [.ref o_stones_places, .int o_stones_walkers, .int o_stones_steps])), (o_now_kinds, .inr (4, [.ref o_now_kinds_a])), (o_now_kinds_a, .inl (cI, 6, .inl o_now_kinds_f)), (o_now_habits, .inr (4, [.ref o_now_habits_a])), (o_now_habits_a, .inl (cI, 6, .inl o_now_habits_f)), (o_now_hard, .inr (4, [.ref o_now_hard_a])), (o_now_hard_a, .inl (cI, 21, .inl o_now_hard_f)), (o_stones_places, .inr (4, [.ref o_stones_places_a])), (o_stones_places_a, .inl (cI, 6, .inl o_stones_places_f))] sz) t) (va_A [(o, .inr (8, [.ref o_text, .ref o_reader, .ref o_told, .ref o_now, .ref o_firstKept, .ref o_secondKept, .int o_keptBits, .ref o_past, .ref o_sightings, .ref o_stones, .ref o_game])), (o_now, .inr (3, [.int o_now_steps, .int o_now_mile, .int o_now_walkers, .int o_now_walked, .ref o_now_hard, .ref o_now_kinds, .ref o_now_habits])), (o_stones, .inr (6, [.ref o_stones_places, .int o_stones_walkers, .int o_stones_steps])), (o_now_kinds, .inr (4, [.ref o_now_kinds_a])), (o_now_kinds_a, .inl (cI, 6, .inl o_now_kinds_f)), (o_now_habits, .inr (4, [.ref o_now_habits_a])), (o_now_habits_a, .inl (cI, 6, .inl o_now_habits_f)), (o_now_hard, .inr (4, [.ref o_now_hard_a])), (o_now_hard_a, .inl (cI, 21, .inl o_now_hard_f)), (o_stones_places, .inr (4, [.ref o_stones_places_a])), (o_stones_places_a, .inl (cI, 6, .inl o_stones_places_f))] sz)) 0 0 (va_A [(o, .inr (8, [.ref o_text, .ref o_reader, .ref o_told, .ref o_now, .ref o_firstKept, .ref o_secondKept, .int o_keptBits, .ref o_past, .ref o_sightings, .ref o_stones, .ref o_game])), (o_now, .inr (3, [.int o_now_steps, .int o_now_mile, .int o_now_walkers, .int o_now_walked, .ref o_now_hard, .ref o_now_kinds, .ref o_now_habits])), (o_stones, .inr (6, [.ref o_stones_places, .int o_stones_walkers, .int o_stones_steps])), (o_now_kinds, .inr (4, [.ref o_now_kinds_a])), (o_now_kinds_a, .inl (cI, 6, .inl o_now_kinds_f)), (o_now_habits, .inr (4, [.ref o_now_habits_a])), (o_now_habits_a, .inl (cI, 6, .inl o_now_habits_f)), (o_now_hard, .inr (4, [.ref o_now_hard_a])), (o_now_hard_a, .inl (cI, 21, .inl o_now_hard_f)), (o_stones_places, .inr (4, [.ref o_stones_places_a])), (o_stones_places_a, .inl (cI, 6, .inl o_stones_places_f))] sz) := by
  refine Met.ofW (cc := cX8_lawStonesBetween) (maxL := 7) (ret := (some .int)) (by decide) rfl ?_
  intro p e s m args below meth c s₁ B hml hv
  obtain ⟨hargs, hsz, hP, hK, hD0, hE⟩ := hv
  subst hargs
  have hx := B.exec
  have hb := B.bytes
  have hr := B.returns
  have hts := atoms_spec (ws := wsX8_lawStonesBetween) B.pre
  have hown : s.vm.findClass RX8 = some m.cls := findClass_of_methodNamed B.named
  have hlocks := B.notSynchronized
  subst hsz
  have hD := hD0.self (sz := s.heap.size)
  generalize hAe : va_A [(o, .inr (8, [.ref o_text, .ref o_reader, .ref o_told, .ref o_now, .ref o_firstKept, .ref o_secondKept, .int o_keptBits, .ref o_past, .ref o_sightings, .ref o_stones, .ref o_game])), (o_now, .inr (3, [.int o_now_steps, .int o_now_mile, .int o_now_walkers, .int o_now_walked, .ref o_now_hard, .ref o_now_kinds, .ref o_now_habits])), (o_stones, .inr (6, [.ref o_stones_places, .int o_stones_walkers, .int o_stones_steps])), (o_now_kinds, .inr (4, [.ref o_now_kinds_a])), (o_now_kinds_a, .inl (cI, 6, .inl o_now_kinds_f)), (o_now_habits, .inr (4, [.ref o_now_habits_a])), (o_now_habits_a, .inl (cI, 6, .inl o_now_habits_f)), (o_now_hard, .inr (4, [.ref o_now_hard_a])), (o_now_hard_a, .inl (cI, 21, .inl o_now_hard_f)), (o_stones_places, .inr (4, [.ref o_stones_places_a])), (o_stones_places_a, .inl (cI, 6, .inl o_stones_places_f))] s.heap.size = A at hD ⊢
  have hA : ∀ q : Nat, s.heap.size ≤ q → A q := fun q h => by rw [← hAe]; exact Or.inr h
  have hS : va_S A s.heap s.heap [] := va_S.rf
  have hl := lv_entry ([.ref o, .int a1, .int a2]) (n := 7) (Nat.le_of_ble_eq_true rfl)
  rw [lg_entry_eq]
  generalize (lg_sl ([.ref o, .int a1, .int a2]) ++ List.replicate (7 - (lg_sl ([.ref o, .int a1, .int a2])).length) Slot.unset).toArray = ls at hl ⊢
  have hl : lv_has ls 7 [(0, .ref o), (1, .int a1), (2, .int a2)] := hl
  refine wq (X := fun Q => ∀ (pc : Nat) (H : Heap) (locs : List Loc) (ls : Array Slot) (r : Int32) (u : Int32 × Int32 × (Nat → Int32)) (hd : decode cX8_lawStonesBetween pc = .ok (.ireturn, 1)) (hp : (r, u) = fX8_lawStonesBetween a1 a2 o_now_steps o_now_mile o_now_walkers o_now_walked o_stones_walkers o_stones_steps o_now_kinds_f o_now_habits_f o_now_hard_f o_stones_places_f) (hP : va_P D vwCl [(o, .inr (8, [.ref o_text, .ref o_reader, .ref o_told, .ref o_now, .ref o_firstKept, .ref o_secondKept, .int o_keptBits, .ref o_past, .ref o_sightings, .ref o_stones, .ref o_game])), (o_now, .inr (3, [.int o_now_steps, .int o_now_mile, .int o_now_walkers, .int o_now_walked, .ref o_now_hard, .ref o_now_kinds, .ref o_now_habits])), (o_stones, .inr (6, [.ref o_stones_places, .int u.1, .int u.2.1])), (o_now_kinds, .inr (4, [.ref o_now_kinds_a])), (o_now_kinds_a, .inl (cI, 6, .inl o_now_kinds_f)), (o_now_habits, .inr (4, [.ref o_now_habits_a])), (o_now_habits_a, .inl (cI, 6, .inl o_now_habits_f)), (o_now_hard, .inr (4, [.ref o_now_hard_a])), (o_now_hard_a, .inl (cI, 21, .inl o_now_hard_f)), (o_stones_places, .inr (4, [.ref o_stones_places_a])), (o_stones_places_a, .inl (cI, 6, .inl u.2.2))] H) (hD : va_D A [(o, .inr (8, [.ref o_text, .ref o_reader, .ref o_told, .ref o_now, .ref o_firstKept, .ref o_secondKept, .int o_keptBits, .ref o_past, .ref o_sightings, .ref o_stones, .ref o_game])), (o_now, .inr (3, [.int o_now_steps, .int o_now_mile, .int o_now_walkers, .int o_now_walked, .ref o_now_hard, .ref o_now_kinds, .ref o_now_habits])), (o_stones, .inr (6, [.ref o_stones_places, .int u.1, .int u.2.1])), (o_now_kinds, .inr (4, [.ref o_now_kinds_a])), (o_now_kinds_a, .inl (cI, 6, .inl o_now_kinds_f)), (o_now_habits, .inr (4, [.ref o_now_habits_a])), (o_now_habits_a, .inl (cI, 6, .inl o_now_habits_f)), (o_now_hard, .inr (4, [.ref o_now_hard_a])), (o_now_hard_a, .inl (cI, 21, .inl o_now_hard_f)), (o_stones_places, .inr (4, [.ref o_stones_places_a])), (o_stones_places_a, .inl (cI, 6, .inl u.2.2))]) (hS : va_S A s.heap H locs), W p l e ({ frames := 5, cells := 0, slots := 0, locals := 115 } : Room) s m ([.ref o, .int a1, .int a2] : List Value).toArray below meth c H locs 0 0 Q (F0 m pc ls [.int r])) ?_ (fun Q hret => ?_)
  · intro pc H locs ls r u hd hp hP hD hS
    exact W.iret (v := r) hx hb hr (fun t ht hW => ⟨⟨r, u, rfl, hp, by rw [ht]; exact hP, va_K.moved hW.alike hK, hD⟩, hS.F ht⟩) hS.2.2 hd
  have hin_3 : ∀ w ∈ u_ws RX3 TX3 7, w ∈ wsX8_lawStonesBetween := by decide +kernel
  have hin_8 : ∀ w ∈ u_ws RX8 TX8 11, w ∈ wsX8_lawStonesBetween := by decide +kernel
  have fl_32 := hts (.fieldLink RX8 32 "MileRoad" "now" "LMileRoad$Road;") (by decide +kernel)
  have fl_58 := hts (.fieldLink RX8 58 "MileRoad" "stones" "LMileRoad$Stones;") (by decide +kernel)
  have fl_167 := hE.f 11 rfl ([.ref o, .int a1, .int a2] : List Value).toArray
  have zl_0 : (0 : Int32).toInt = 0 := by decide
  have zl_1 : (1 : Int32).toInt = 1 := by decide
  have zl_8 : (8 : Int32).toInt = 8 := by decide
  have hF : fX8_lawStonesBetween a1 a2 o_now_steps o_now_mile o_now_walkers o_now_walked o_stones_walkers o_stones_steps o_now_kinds_f o_now_habits_f o_now_hard_f o_stones_places_f = fX8_lawStonesBetween a1 a2 o_now_steps o_now_mile o_now_walkers o_now_walked o_stones_walkers o_stones_steps o_now_kinds_f o_now_habits_f o_now_hard_f o_stones_places_f := rfl
  have L_5 : ∀ (n : Nat) (o_stones_places_a_f_5 : Nat → Int32) (v5_3 : Int32) (v5_4 : Int32) (o_stones_walkers_5 : Int32) (o_stones_steps_5 : Int32) (h1_5 : 1 ≤ v5_4.toInt) (h2_5 : v5_4.toInt ≤ 9) (hm : 9 - v5_4.toInt < (n : Int)) (H : Heap) (locs : List Loc) (ls : Array Slot) (hl : lv_has ls 7 [(0, .ref o), (1, .int a1), (2, .int a2), (3, .int v5_3), (4, .int v5_4)]) (hP : va_P D vwCl [(o, .inr (8, [.ref o_text, .ref o_reader, .ref o_told, .ref o_now, .ref o_firstKept, .ref o_secondKept, .int o_keptBits, .ref o_past, .ref o_sightings, .ref o_stones, .ref o_game])), (o_now, .inr (3, [.int o_now_steps, .int o_now_mile, .int o_now_walkers, .int o_now_walked, .ref o_now_hard, .ref o_now_kinds, .ref o_now_habits])), (o_stones, .inr (6, [.ref o_stones_places, .int o_stones_walkers_5, .int o_stones_steps_5])), (o_now_kinds, .inr (4, [.ref o_now_kinds_a])), (o_now_kinds_a, .inl (cI, 6, .inl o_now_kinds_f)), (o_now_habits, .inr (4, [.ref o_now_habits_a])), (o_now_habits_a, .inl (cI, 6, .inl o_now_habits_f)), (o_now_hard, .inr (4, [.ref o_now_hard_a])), (o_now_hard_a, .inl (cI, 21, .inl o_now_hard_f)), (o_stones_places, .inr (4, [.ref o_stones_places_a])), (o_stones_places_a, .inl (cI, 6, .inl o_stones_places_a_f_5))] H) (hD : va_D A [(o, .inr (8, [.ref o_text, .ref o_reader, .ref o_told, .ref o_now, .ref o_firstKept, .ref o_secondKept, .int o_keptBits, .ref o_past, .ref o_sightings, .ref o_stones, .ref o_game])), (o_now, .inr (3, [.int o_now_steps, .int o_now_mile, .int o_now_walkers, .int o_now_walked, .ref o_now_hard, .ref o_now_kinds, .ref o_now_habits])), (o_stones, .inr (6, [.ref o_stones_places, .int o_stones_walkers_5, .int o_stones_steps_5])), (o_now_kinds, .inr (4, [.ref o_now_kinds_a])), (o_now_kinds_a, .inl (cI, 6, .inl o_now_kinds_f)), (o_now_habits, .inr (4, [.ref o_now_habits_a])), (o_now_habits_a, .inl (cI, 6, .inl o_now_habits_f)), (o_now_hard, .inr (4, [.ref o_now_hard_a])), (o_now_hard_a, .inl (cI, 21, .inl o_now_hard_f)), (o_stones_places, .inr (4, [.ref o_stones_places_a])), (o_stones_places_a, .inl (cI, 6, .inl o_stones_places_a_f_5))]) (hS : va_S A s.heap H locs) (hF : fX8_lawStonesBetween a1 a2 o_now_steps o_now_mile o_now_walkers o_now_walked o_stones_walkers o_stones_steps o_now_kinds_f o_now_habits_f o_now_hard_f o_stones_places_f = fX8_lawStonesBetween_5 a1 a2 o_now_steps o_now_mile o_now_walkers o_now_walked o_now_kinds_f o_now_habits_f o_now_hard_f n o_stones_places_a_f_5 v5_3 v5_4 o_stones_walkers_5 o_stones_steps_5), W p l e ({ frames := 5, cells := 0, slots := 0, locals := 115 } : Room) s m ([.ref o, .int a1, .int a2] : List Value).toArray below meth c H locs 0 0 Q (F0 m 5 ls []) := by
    intro n
    induction n with
    | zero =>
      intro o_stones_places_a_f_5 v5_3 v5_4 o_stones_walkers_5 o_stones_steps_5 h1_5 h2_5 hm H locs ls hl hP hD hS hF
      exact absurd hm (by omega)
    | succ n ih_5 =>
      intro o_stones_places_a_f_5 v5_3 v5_4 o_stones_walkers_5 o_stones_steps_5 h1_5 h2_5 hm H locs ls hl hP hD hS hF
      refine lv_iload hx hb dX8_lawStonesBetween_5 (lv_at hl 4 rfl) ?_
      refine lv_bipush (v := 8) hx hb dX8_lawStonesBetween_7 (by decide) ?_
      refine lv_icmp_gt (tgt := 89) hx hb dX8_lawStonesBetween_9 (by decide) (fun c_1 => ?_) (fun c_1 => ?_)
      · have kc_1 := t_lt c_1
        refine lv_iload_n hx hb dX8_lawStonesBetween_89 rfl (lv_at hl 3 rfl) ?_
        exact hret _ _ _ _ v5_3 (o_stones_walkers_5, o_stones_steps_5, o_stones_places_a_f_5) dX8_lawStonesBetween_90 ((hF.trans (by simp only [fX8_lawStonesBetween_5, xlet, if_pos c_1])).symm) hP hD hS
      · have kc_1 := t_nlt c_1
        refine lv_aload_n hx hb dX8_lawStonesBetween_12 rfl (lv_at hl 0 rfl) ?_
        refine xget hx hb hts hown hK 8 (C2 := RX8) (T := TX8) (N := 11) rfl hin_8 hP 0 rfl 9 (by decide) fl_58 rfl rfl rfl dX8_lawStonesBetween_13 ?_
        refine lv_aload_n hx hb dX8_lawStonesBetween_16 rfl (lv_at hl 0 rfl) ?_
        refine xget hx hb hts hown hK 8 (C2 := RX8) (T := TX8) (N := 11) rfl hin_8 hP 0 rfl 3 (by decide) fl_32 rfl rfl rfl dX8_lawStonesBetween_17 ?_
        refine lv_iload hx hb dX8_lawStonesBetween_20 (lv_at hl 4 rfl) ?_
        refine xcallv (S := (Nat → Int32)) (Wc := [(o_now, .inr (3, [.int o_now_steps, .int o_now_mile, .int o_now_walkers, .int o_now_walked, .ref o_now_hard, .ref o_now_kinds, .ref o_now_habits])), (o_stones, .inr (6, [.ref o_stones_places, .int o_stones_walkers_5, .int o_stones_steps_5])), (o_now_kinds, .inr (4, [.ref o_now_kinds_a])), (o_now_kinds_a, .inl (cI, 6, .inl o_now_kinds_f)), (o_now_habits, .inr (4, [.ref o_now_habits_a])), (o_now_habits_a, .inl (cI, 6, .inl o_now_habits_f)), (o_now_hard, .inr (4, [.ref o_now_hard_a])), (o_now_hard_a, .inl (cI, 21, .inl o_now_hard_f)), (o_stones_places, .inr (4, [.ref o_stones_places_a])), (o_stones_places_a, .inl (cI, 6, .inl o_stones_places_a_f_5))]) (wr := [(o, .inr (8, [.ref o_text, .ref o_reader, .ref o_told, .ref o_now, .ref o_firstKept, .ref o_secondKept, .int o_keptBits, .ref o_past, .ref o_sightings, .ref o_stones, .ref o_game]))]) (W1 := (fun (u : (Nat → Int32)) => [(o_now, .inr (3, [.int o_now_steps, .int o_now_mile, .int o_now_walkers, .int o_now_walked, .ref o_now_hard, .ref o_now_kinds, .ref o_now_habits])), (o_stones, .inr (6, [.ref o_stones_places, .int o_now_walkers, .int o_now_steps])), (o_now_kinds, .inr (4, [.ref o_now_kinds_a])), (o_now_kinds_a, .inl (cI, 6, .inl o_now_kinds_f)), (o_now_habits, .inr (4, [.ref o_now_habits_a])), (o_now_habits_a, .inl (cI, 6, .inl o_now_habits_f)), (o_now_hard, .inr (4, [.ref o_now_hard_a])), (o_now_hard_a, .inl (cI, 21, .inl o_now_hard_f)), (o_stones_places, .inr (4, [.ref o_stones_places_a])), (o_stones_places_a, .inl (cI, 6, .inl u))])) (Wn := (fun (u : (Nat → Int32)) => [(o, .inr (8, [.ref o_text, .ref o_reader, .ref o_told, .ref o_now, .ref o_firstKept, .ref o_secondKept, .int o_keptBits, .ref o_past, .ref o_sightings, .ref o_stones, .ref o_game])), (o_now, .inr (3, [.int o_now_steps, .int o_now_mile, .int o_now_walkers, .int o_now_walked, .ref o_now_hard, .ref o_now_kinds, .ref o_now_habits])), (o_stones, .inr (6, [.ref o_stones_places, .int o_now_walkers, .int o_now_steps])), (o_now_kinds, .inr (4, [.ref o_now_kinds_a])), (o_now_kinds_a, .inl (cI, 6, .inl o_now_kinds_f)), (o_now_habits, .inr (4, [.ref o_now_habits_a])), (o_now_habits_a, .inl (cI, 6, .inl o_now_habits_f)), (o_now_hard, .inr (4, [.ref o_now_hard_a])), (o_now_hard_a, .inl (cI, 21, .inl o_now_hard_f)), (o_stones_places, .inr (4, [.ref o_stones_places_a])), (o_stones_places_a, .inl (cI, 6, .inl u))])) (xrunV hx hb hml hown hts (c_X6_find l D cI cZ _ o_stones o_now v5_4 o_now_steps o_now_mile o_now_walkers o_now_walked o_now_hard o_now_kinds o_now_habits o_stones_places o_stones_walkers_5 o_stones_steps_5 o_now_kinds_a o_now_kinds_f o_now_habits_a o_now_habits_f o_now_hard_a o_now_hard_f o_stones_places_a o_stones_places_a_f_5 hq1 hq2) (cwV 2 hts gX8_lawStonesBetween_X6_find rfl rfl rfl (by decide +kernel) ⟨Nat.le_of_ble_eq_true rfl, Nat.le_of_ble_eq_true rfl⟩) hE hK hP hD [1, 2, 3, 4, 5, 6, 7, 8, 9, 10] rfl rfl 1 6 (T := TX6) (N := 3) rfl rfl rfl hl.1 rfl (Nat.le_of_ble_eq_true rfl) dX8_lawStonesBetween_22 ⟨Nat.le_of_ble_eq_true rfl, Nat.le_of_ble_eq_true rfl⟩) hP hD hS hA [1, 2, 3, 4, 5, 6, 7, 8, 9, 10] [0] [0, 1, 2, 3, 4, 5, 6, 7, 8, 9, 10] rfl rfl rfl (by decide) (fun _ => rfl) rfl (fun  u H locs hw hz hP hD hS => ?_)
        obtain ⟨u1, hu⟩ : ∃ z, z = u := ⟨u, rfl⟩
        subst hu
        have hw_2 := hw.symm
        have hP : va_P D vwCl [(o, .inr (8, [.ref o_text, .ref o_reader, .ref o_told, .ref o_now, .ref o_firstKept, .ref o_secondKept, .int o_keptBits, .ref o_past, .ref o_sightings, .ref o_stones, .ref o_game])), (o_now, .inr (3, [.int o_now_steps, .int o_now_mile, .int o_now_walkers, .int o_now_walked, .ref o_now_hard, .ref o_now_kinds, .ref o_now_habits])), (o_stones, .inr (6, [.ref o_stones_places, .int o_now_walkers, .int o_now_steps])), (o_now_kinds, .inr (4, [.ref o_now_kinds_a])), (o_now_kinds_a, .inl (cI, 6, .inl o_now_kinds_f)), (o_now_habits, .inr (4, [.ref o_now_habits_a])), (o_now_habits_a, .inl (cI, 6, .inl o_now_habits_f)), (o_now_hard, .inr (4, [.ref o_now_hard_a])), (o_now_hard_a, .inl (cI, 21, .inl o_now_hard_f)), (o_stones_places, .inr (4, [.ref o_stones_places_a])), (o_stones_places_a, .inl (cI, 6, .inl u1))] H := hP
        have hD : va_D A [(o, .inr (8, [.ref o_text, .ref o_reader, .ref o_told, .ref o_now, .ref o_firstKept, .ref o_secondKept, .int o_keptBits, .ref o_past, .ref o_sightings, .ref o_stones, .ref o_game])), (o_now, .inr (3, [.int o_now_steps, .int o_now_mile, .int o_now_walkers, .int o_now_walked, .ref o_now_hard, .ref o_now_kinds, .ref o_now_habits])), (o_stones, .inr (6, [.ref o_stones_places, .int o_now_walkers, .int o_now_steps])), (o_now_kinds, .inr (4, [.ref o_now_kinds_a])), (o_now_kinds_a, .inl (cI, 6, .inl o_now_kinds_f)), (o_now_habits, .inr (4, [.ref o_now_habits_a])), (o_now_habits_a, .inl (cI, 6, .inl o_now_habits_f)), (o_now_hard, .inr (4, [.ref o_now_hard_a])), (o_now_hard_a, .inl (cI, 21, .inl o_now_hard_f)), (o_stones_places, .inr (4, [.ref o_stones_places_a])), (o_stones_places_a, .inl (cI, 6, .inl u1))] := hD
        refine lv_aload_n hx hb dX8_lawStonesBetween_25 rfl (lv_at hl 0 rfl) ?_
        refine xget hx hb hts hown hK 8 (C2 := RX8) (T := TX8) (N := 11) rfl hin_8 hP 0 rfl 9 (by decide) fl_58 rfl rfl rfl dX8_lawStonesBetween_26 ?_
        refine lv_aload_n hx hb dX8_lawStonesBetween_29 rfl (lv_at hl 0 rfl) ?_
        refine xget hx hb hts hown hK 8 (C2 := RX8) (T := TX8) (N := 11) rfl hin_8 hP 0 rfl 3 (by decide) fl_32 rfl rfl rfl dX8_lawStonesBetween_30 ?_
        refine xgetN hx hb hts hown hK 3 (C2 := RX3) (T := TX3) (N := 7) rfl hin_3 hP 1 rfl 3 (by decide) fl_167 rfl rfl rfl dX8_lawStonesBetween_33 ?_
        refine xcalli (S := Unit) (Wc := [(o_stones, .inr (6, [.ref o_stones_places, .int o_now_walkers, .int o_now_steps])), (o_stones_places, .inr (4, [.ref o_stones_places_a])), (o_stones_places_a, .inl (cI, 6, .inl u1))]) (wr := [(o, .inr (8, [.ref o_text, .ref o_reader, .ref o_told, .ref o_now, .ref o_firstKept, .ref o_secondKept, .int o_keptBits, .ref o_past, .ref o_sightings, .ref o_stones, .ref o_game])), (o_now, .inr (3, [.int o_now_steps, .int o_now_mile, .int o_now_walkers, .int o_now_walked, .ref o_now_hard, .ref o_now_kinds, .ref o_now_habits])), (o_now_kinds, .inr (4, [.ref o_now_kinds_a])), (o_now_kinds_a, .inl (cI, 6, .inl o_now_kinds_f)), (o_now_habits, .inr (4, [.ref o_now_habits_a])), (o_now_habits_a, .inl (cI, 6, .inl o_now_habits_f)), (o_now_hard, .inr (4, [.ref o_now_hard_a])), (o_now_hard_a, .inl (cI, 21, .inl o_now_hard_f))]) (W1 := (fun (u : Unit) => [(o_stones, .inr (6, [.ref o_stones_places, .int o_now_walkers, .int o_now_steps])), (o_stones_places, .inr (4, [.ref o_stones_places_a])), (o_stones_places_a, .inl (cI, 6, .inl u1))])) (Wn := (fun (u : Unit) => [(o, .inr (8, [.ref o_text, .ref o_reader, .ref o_told, .ref o_now, .ref o_firstKept, .ref o_secondKept, .int o_keptBits, .ref o_past, .ref o_sightings, .ref o_stones, .ref o_game])), (o_now, .inr (3, [.int o_now_steps, .int o_now_mile, .int o_now_walkers, .int o_now_walked, .ref o_now_hard, .ref o_now_kinds, .ref o_now_habits])), (o_stones, .inr (6, [.ref o_stones_places, .int o_now_walkers, .int o_now_steps])), (o_now_kinds, .inr (4, [.ref o_now_kinds_a])), (o_now_kinds_a, .inl (cI, 6, .inl o_now_kinds_f)), (o_now_habits, .inr (4, [.ref o_now_habits_a])), (o_now_habits_a, .inl (cI, 6, .inl o_now_habits_f)), (o_now_hard, .inr (4, [.ref o_now_hard_a])), (o_now_hard_a, .inl (cI, 21, .inl o_now_hard_f)), (o_stones_places, .inr (4, [.ref o_stones_places_a])), (o_stones_places_a, .inl (cI, 6, .inl u1))])) (xrunV hx hb hml hown hts (c_X6_sumOf l D cI cZ _ o_stones o_now_walked o_stones_places o_now_walkers o_now_steps o_stones_places_a u1 hq1) (cwV 1 hts gX8_lawStonesBetween_X6_sumOf rfl rfl rfl (by decide +kernel) ⟨Nat.le_of_ble_eq_true rfl, Nat.le_of_ble_eq_true rfl⟩) hE hK hP hD [2, 9, 10] rfl rfl 0 6 (T := TX6) (N := 3) rfl rfl rfl hl.1 rfl (Nat.le_of_ble_eq_true rfl) dX8_lawStonesBetween_36 ⟨Nat.le_of_ble_eq_true rfl, Nat.le_of_ble_eq_true rfl⟩) hP hD hS hA [2, 9, 10] [0, 1, 3, 4, 5, 6, 7, 8] [0, 1, 8, 2, 3, 4, 5, 6, 7, 9, 10] rfl rfl rfl (by decide) (fun _ => rfl) rfl (fun r2 u H locs hw hz hP hD hS => ?_)
        subst hw
        refine lv_istore (lv' := [(5, .int (fX6_sumOf o_now_walked o_now_walkers u1)), (0, .ref o), (1, .int a1), (2, .int a2), (3, .int v5_3), (4, .int v5_4)]) hx hb dX8_lawStonesBetween_39 hl (by decide) rfl (fun ls hl => ?_)
        refine lv_aload_n hx hb dX8_lawStonesBetween_41 rfl (lv_at hl 1 rfl) ?_
        refine xget hx hb hts hown hK 8 (C2 := RX8) (T := TX8) (N := 11) rfl hin_8 hP 0 rfl 9 (by decide) fl_58 rfl rfl rfl dX8_lawStonesBetween_42 ?_
        refine lv_aload_n hx hb dX8_lawStonesBetween_45 rfl (lv_at hl 1 rfl) ?_
        refine xget hx hb hts hown hK 8 (C2 := RX8) (T := TX8) (N := 11) rfl hin_8 hP 0 rfl 3 (by decide) fl_32 rfl rfl rfl dX8_lawStonesBetween_46 ?_
        refine xgetN hx hb hts hown hK 3 (C2 := RX3) (T := TX3) (N := 7) rfl hin_3 hP 1 rfl 3 (by decide) fl_167 rfl rfl rfl dX8_lawStonesBetween_49 ?_
        refine xcalli (S := Unit) (Wc := [(o_stones, .inr (6, [.ref o_stones_places, .int o_now_walkers, .int o_now_steps])), (o_stones_places, .inr (4, [.ref o_stones_places_a])), (o_stones_places_a, .inl (cI, 6, .inl u1))]) (wr := [(o, .inr (8, [.ref o_text, .ref o_reader, .ref o_told, .ref o_now, .ref o_firstKept, .ref o_secondKept, .int o_keptBits, .ref o_past, .ref o_sightings, .ref o_stones, .ref o_game])), (o_now, .inr (3, [.int o_now_steps, .int o_now_mile, .int o_now_walkers, .int o_now_walked, .ref o_now_hard, .ref o_now_kinds, .ref o_now_habits])), (o_now_kinds, .inr (4, [.ref o_now_kinds_a])), (o_now_kinds_a, .inl (cI, 6, .inl o_now_kinds_f)), (o_now_habits, .inr (4, [.ref o_now_habits_a])), (o_now_habits_a, .inl (cI, 6, .inl o_now_habits_f)), (o_now_hard, .inr (4, [.ref o_now_hard_a])), (o_now_hard_a, .inl (cI, 21, .inl o_now_hard_f))]) (W1 := (fun (u : Unit) => [(o_stones, .inr (6, [.ref o_stones_places, .int o_now_walkers, .int o_now_steps])), (o_stones_places, .inr (4, [.ref o_stones_places_a])), (o_stones_places_a, .inl (cI, 6, .inl u1))])) (Wn := (fun (u : Unit) => [(o, .inr (8, [.ref o_text, .ref o_reader, .ref o_told, .ref o_now, .ref o_firstKept, .ref o_secondKept, .int o_keptBits, .ref o_past, .ref o_sightings, .ref o_stones, .ref o_game])), (o_now, .inr (3, [.int o_now_steps, .int o_now_mile, .int o_now_walkers, .int o_now_walked, .ref o_now_hard, .ref o_now_kinds, .ref o_now_habits])), (o_stones, .inr (6, [.ref o_stones_places, .int o_now_walkers, .int o_now_steps])), (o_now_kinds, .inr (4, [.ref o_now_kinds_a])), (o_now_kinds_a, .inl (cI, 6, .inl o_now_kinds_f)), (o_now_habits, .inr (4, [.ref o_now_habits_a])), (o_now_habits_a, .inl (cI, 6, .inl o_now_habits_f)), (o_now_hard, .inr (4, [.ref o_now_hard_a])), (o_now_hard_a, .inl (cI, 21, .inl o_now_hard_f)), (o_stones_places, .inr (4, [.ref o_stones_places_a])), (o_stones_places_a, .inl (cI, 6, .inl u1))])) (xrunV hx hb hml hown hts (c_X6_numberOf l D cI cZ _ o_stones o_now_walked o_stones_places o_now_walkers o_now_steps o_stones_places_a u1 hq1) (cwV 1 hts gX8_lawStonesBetween_X6_numberOf rfl rfl rfl (by decide +kernel) ⟨Nat.le_of_ble_eq_true rfl, Nat.le_of_ble_eq_true rfl⟩) hE hK hP hD [2, 9, 10] rfl rfl 0 6 (T := TX6) (N := 3) rfl rfl rfl hl.1 rfl (Nat.le_of_ble_eq_true rfl) dX8_lawStonesBetween_52 ⟨Nat.le_of_ble_eq_true rfl, Nat.le_of_ble_eq_true rfl⟩) hP hD hS hA [2, 9, 10] [0, 1, 3, 4, 5, 6, 7, 8] [0, 1, 8, 2, 3, 4, 5, 6, 7, 9, 10] rfl rfl rfl (by decide) (fun _ => rfl) rfl (fun r3 u H locs hw hz hP hD hS => ?_)
        subst hw
        refine lv_istore (lv' := [(6, .int (fX6_numberOf o_now_walked o_now_walkers u1)), (5, .int (fX6_sumOf o_now_walked o_now_walkers u1)), (0, .ref o), (1, .int a1), (2, .int a2), (3, .int v5_3), (4, .int v5_4)]) hx hb dX8_lawStonesBetween_55 hl (by decide) rfl (fun ls hl => ?_)
        refine lv_iload hx hb dX8_lawStonesBetween_57 (lv_at hl 0 rfl) ?_
        refine lv_if_le (tgt := 83) hx hb dX8_lawStonesBetween_59 (by decide) (fun c_2 => ?_) (fun c_2 => ?_)
        · refine lv_iinc (v := (v5_4 + 1)) (lv' := [(4, .int (v5_4 + 1)), (6, .int (fX6_numberOf o_now_walked o_now_walkers u1)), (5, .int (fX6_sumOf o_now_walked o_now_walkers u1)), (0, .ref o), (1, .int a1), (2, .int a2), (3, .int v5_3)]) hx hb dX8_lawStonesBetween_83 hl (k := 6) rfl (by rfl) (by decide) rfl (fun ls hl => ?_)
          refine lv_goto (tgt := 5) hx hb dX8_lawStonesBetween_86 (by decide) ?_
          have z_1 : (v5_4 + 1).toInt = v5_4.toInt + (1 : Int32).toInt := z_add (by omega) (by omega)
          exact ih_5 u1 v5_3 (v5_4 + 1) o_now_walkers o_now_steps (by first | assumption | omega | decide | (split <;> rename_i hh <;> first | (have h9 := t_nlt hh; omega) | (have h9 := t_lt hh; omega) | (have h9 := t_nle hh; omega) | (have h9 := t_le hh; omega))) (by first | assumption | omega | decide | (split <;> rename_i hh <;> first | (have h9 := t_nlt hh; omega) | (have h9 := t_lt hh; omega) | (have h9 := t_nle hh; omega) | (have h9 := t_le hh; omega))) (by first | assumption | omega | decide | (split <;> rename_i hh <;> first | (have h9 := t_nlt hh; omega) | (have h9 := t_lt hh; omega) | (have h9 := t_nle hh; omega) | (have h9 := t_le hh; omega))) _ _ _ (lv_sub hl [3, 4, 5, 6, 0] rfl) hP hD hS (hF.trans (by simp only [fX8_lawStonesBetween_5, xlet, if_neg c_1, ↓hw_2, if_pos c_2]))
        · refine lv_iload hx hb dX8_lawStonesBetween_62 (lv_at hl 1 rfl) ?_
          refine lv_iload_n hx hb dX8_lawStonesBetween_64 rfl (lv_at hl 3 rfl) ?_
          refine lv_iload hx hb dX8_lawStonesBetween_65 (lv_at hl 0 rfl) ?_
          refine lv_imul hx hb dX8_lawStonesBetween_67 ?_
          refine lv_icmp_le (tgt := 83) hx hb dX8_lawStonesBetween_68 (by decide) (fun c_3 => ?_) (fun c_3 => ?_)
          · refine lv_iinc (v := (v5_4 + 1)) (lv' := [(4, .int (v5_4 + 1)), (6, .int (fX6_numberOf o_now_walked o_now_walkers u1)), (5, .int (fX6_sumOf o_now_walked o_now_walkers u1)), (0, .ref o), (1, .int a1), (2, .int a2), (3, .int v5_3)]) hx hb dX8_lawStonesBetween_83 hl (k := 6) rfl (by rfl) (by decide) rfl (fun ls hl => ?_)
            refine lv_goto (tgt := 5) hx hb dX8_lawStonesBetween_86 (by decide) ?_
            have z_2 : (v5_4 + 1).toInt = v5_4.toInt + (1 : Int32).toInt := z_add (by omega) (by omega)
            exact ih_5 u1 v5_3 (v5_4 + 1) o_now_walkers o_now_steps (by first | assumption | omega | decide | (split <;> rename_i hh <;> first | (have h9 := t_nlt hh; omega) | (have h9 := t_lt hh; omega) | (have h9 := t_nle hh; omega) | (have h9 := t_le hh; omega))) (by first | assumption | omega | decide | (split <;> rename_i hh <;> first | (have h9 := t_nlt hh; omega) | (have h9 := t_lt hh; omega) | (have h9 := t_nle hh; omega) | (have h9 := t_le hh; omega))) (by first | assumption | omega | decide | (split <;> rename_i hh <;> first | (have h9 := t_nlt hh; omega) | (have h9 := t_lt hh; omega) | (have h9 := t_nle hh; omega) | (have h9 := t_le hh; omega))) _ _ _ (lv_sub hl [3, 4, 5, 6, 0] rfl) hP hD hS (hF.trans (by simp only [fX8_lawStonesBetween_5, xlet, if_neg c_1, ↓hw_2, if_neg c_2, if_pos c_3]))
          · refine lv_iload hx hb dX8_lawStonesBetween_71 (lv_at hl 1 rfl) ?_
            refine lv_iload_n hx hb dX8_lawStonesBetween_73 rfl (lv_at hl 4 rfl) ?_
            refine lv_iload hx hb dX8_lawStonesBetween_74 (lv_at hl 0 rfl) ?_
            refine lv_imul hx hb dX8_lawStonesBetween_76 ?_
            refine lv_icmp_gt (tgt := 83) hx hb dX8_lawStonesBetween_77 (by decide) (fun c_4 => ?_) (fun c_4 => ?_)
            · refine lv_iinc (v := (v5_4 + 1)) (lv' := [(4, .int (v5_4 + 1)), (6, .int (fX6_numberOf o_now_walked o_now_walkers u1)), (5, .int (fX6_sumOf o_now_walked o_now_walkers u1)), (0, .ref o), (1, .int a1), (2, .int a2), (3, .int v5_3)]) hx hb dX8_lawStonesBetween_83 hl (k := 6) rfl (by rfl) (by decide) rfl (fun ls hl => ?_)
              refine lv_goto (tgt := 5) hx hb dX8_lawStonesBetween_86 (by decide) ?_
              have z_3 : (v5_4 + 1).toInt = v5_4.toInt + (1 : Int32).toInt := z_add (by omega) (by omega)
              exact ih_5 u1 v5_3 (v5_4 + 1) o_now_walkers o_now_steps (by first | assumption | omega | decide | (split <;> rename_i hh <;> first | (have h9 := t_nlt hh; omega) | (have h9 := t_lt hh; omega) | (have h9 := t_nle hh; omega) | (have h9 := t_le hh; omega))) (by first | assumption | omega | decide | (split <;> rename_i hh <;> first | (have h9 := t_nlt hh; omega) | (have h9 := t_lt hh; omega) | (have h9 := t_nle hh; omega) | (have h9 := t_le hh; omega))) (by first | assumption | omega | decide | (split <;> rename_i hh <;> first | (have h9 := t_nlt hh; omega) | (have h9 := t_lt hh; omega) | (have h9 := t_nle hh; omega) | (have h9 := t_le hh; omega))) _ _ _ (lv_sub hl [3, 4, 5, 6, 0] rfl) hP hD hS (hF.trans (by simp only [fX8_lawStonesBetween_5, xlet, if_neg c_1, ↓hw_2, if_neg c_2, if_neg c_3, if_pos c_4]))
            · refine lv_iinc (v := (v5_3 + 1)) (lv' := [(3, .int (v5_3 + 1)), (6, .int (fX6_numberOf o_now_walked o_now_walkers u1)), (5, .int (fX6_sumOf o_now_walked o_now_walkers u1)), (0, .ref o), (1, .int a1), (2, .int a2), (4, .int v5_4)]) hx hb dX8_lawStonesBetween_80 hl (k := 5) rfl (by rfl) (by decide) rfl (fun ls hl => ?_)
              refine lv_iinc (v := (v5_4 + 1)) (lv' := [(4, .int (v5_4 + 1)), (3, .int (v5_3 + 1)), (6, .int (fX6_numberOf o_now_walked o_now_walkers u1)), (5, .int (fX6_sumOf o_now_walked o_now_walkers u1)), (0, .ref o), (1, .int a1), (2, .int a2)]) hx hb dX8_lawStonesBetween_83 hl (k := 6) rfl (by rfl) (by decide) rfl (fun ls hl => ?_)
              refine lv_goto (tgt := 5) hx hb dX8_lawStonesBetween_86 (by decide) ?_
              have z_4 : (v5_4 + 1).toInt = v5_4.toInt + (1 : Int32).toInt := z_add (by omega) (by omega)
              exact ih_5 u1 (v5_3 + 1) (v5_4 + 1) o_now_walkers o_now_steps (by first | assumption | omega | decide | (split <;> rename_i hh <;> first | (have h9 := t_nlt hh; omega) | (have h9 := t_lt hh; omega) | (have h9 := t_nle hh; omega) | (have h9 := t_le hh; omega))) (by first | assumption | omega | decide | (split <;> rename_i hh <;> first | (have h9 := t_nlt hh; omega) | (have h9 := t_lt hh; omega) | (have h9 := t_nle hh; omega) | (have h9 := t_le hh; omega))) (by first | assumption | omega | decide | (split <;> rename_i hh <;> first | (have h9 := t_nlt hh; omega) | (have h9 := t_lt hh; omega) | (have h9 := t_nle hh; omega) | (have h9 := t_le hh; omega))) _ _ _ (lv_sub hl [4, 5, 6, 1, 0] rfl) hP hD hS (hF.trans (by simp only [fX8_lawStonesBetween_5, xlet, if_neg c_1, ↓hw_2, if_neg c_2, if_neg c_3, if_neg c_4]))
  refine lv_iconst (v := 0) hx hb dX8_lawStonesBetween_0 (by decide) ?_
  refine lv_istore_n (lv' := [(3, .int 0), (0, .ref o), (1, .int a1), (2, .int a2)]) hx hb dX8_lawStonesBetween_1 rfl hl (by decide) rfl (fun ls hl => ?_)
  refine lv_iconst (v := 1) hx hb dX8_lawStonesBetween_2 (by decide) ?_
  refine lv_istore (lv' := [(4, .int 1), (3, .int 0), (0, .ref o), (1, .int a1), (2, .int a2)]) hx hb dX8_lawStonesBetween_3 hl (by decide) rfl (fun ls hl => ?_)
  exact L_5 1000 o_stones_places_f 0 1 o_stones_walkers o_stones_steps (by first | assumption | omega | decide | (split <;> rename_i hh <;> first | (have h9 := t_nlt hh; omega) | (have h9 := t_lt hh; omega) | (have h9 := t_nle hh; omega) | (have h9 := t_le hh; omega))) (by first | assumption | omega | decide | (split <;> rename_i hh <;> first | (have h9 := t_nlt hh; omega) | (have h9 := t_lt hh; omega) | (have h9 := t_nle hh; omega) | (have h9 := t_le hh; omega))) (by first | assumption | omega | decide | (split <;> rename_i hh <;> first | (have h9 := t_nlt hh; omega) | (have h9 := t_lt hh; omega) | (have h9 := t_nle hh; omega) | (have h9 := t_le hh; omega))) _ _ _ (lv_sub hl [2, 3, 4, 1, 0] rfl) hP hD hS (hF.trans (by simp only [fX8_lawStonesBetween, xlet]))
set_option maxRecDepth 20000 in
theorem ggX8_crossesNext_X6_find : GoodIn wsX8_crossesNext wsX6_find := goodIn_r _ [7, 8, 9, 10, 11, 12, 13, 14, 15, 16, 17, 18, 19, 20, 21, 22, 23, 24, 25, 26, 27, 28, 29, 30, 31, 32, 33, 34, 35, 36, 37, 38, 63, 64, 65, 66, 67, 68, 69, 70, 71, 72, 73] (by decide +kernel) (by decide +kernel)
set_option maxRecDepth 20000 in
theorem gX8_crossesNext_X6_find : GoodIn wsX8_crossesNext (wsV RX8 179 RX6 yX6_find wsX6_find) := goodIn_app (goodIn_of _ (by decide +kernel)) ggX8_crossesNext_X6_find
set_option maxRecDepth 20000 in
theorem ggX8_crossesNext_X6_sumOf : GoodIn wsX8_crossesNext wsX6_sumOf := goodIn_r _ [42, 8, 10, 43, 44, 45, 6, 46, 47, 20, 21, 22, 23, 24, 70, 71, 72, 73] (by decide +kernel) (by decide +kernel)
set_option maxRecDepth 20000 in
theorem gX8_crossesNext_X6_sumOf : GoodIn wsX8_crossesNext (wsV RX8 186 RX6 yX6_sumOf wsX6_sumOf) := goodIn_app (goodIn_of _ (by decide +kernel)) ggX8_crossesNext_X6_sumOf
set_option maxRecDepth 20000 in
theorem ggX8_crossesNext_X6_numberOf : GoodIn wsX8_crossesNext wsX6_numberOf := goodIn_r _ [51, 8, 43, 44, 45, 6, 46, 10, 47, 20, 21, 22, 23, 24, 70, 71, 72, 73] (by decide +kernel) (by decide +kernel)
set_option maxRecDepth 20000 in
theorem gX8_crossesNext_X6_numberOf : GoodIn wsX8_crossesNext (wsV RX8 183 RX6 yX6_numberOf wsX6_numberOf) := goodIn_app (goodIn_of _ (by decide +kernel)) ggX8_crossesNext_X6_numberOf
theorem dX8_crossesNext_0 : decode cX8_crossesNext 0 = .ok (.aload_n 0, 1) := by decide +kernel
theorem dX8_crossesNext_1 : decode cX8_crossesNext 1 = .ok (.getfield 58, 3) := by decide +kernel
theorem dX8_crossesNext_4 : decode cX8_crossesNext 4 = .ok (.aload_n 0, 1) := by decide +kernel
theorem dX8_crossesNext_5 : decode cX8_crossesNext 5 = .ok (.getfield 32, 3) := by decide +kernel
theorem dX8_crossesNext_8 : decode cX8_crossesNext 8 = .ok (.iload_n 1, 1) := by decide +kernel
theorem dX8_crossesNext_9 : decode cX8_crossesNext 9 = .ok (.invokevirtual 179, 3) := by decide +kernel
theorem dX8_crossesNext_12 : decode cX8_crossesNext 12 = .ok (.aload_n 0, 1) := by decide +kernel
theorem dX8_crossesNext_13 : decode cX8_crossesNext 13 = .ok (.getfield 58, 3) := by decide +kernel
theorem dX8_crossesNext_16 : decode cX8_crossesNext 16 = .ok (.aload_n 0, 1) := by decide +kernel
theorem dX8_crossesNext_17 : decode cX8_crossesNext 17 = .ok (.getfield 32, 3) := by decide +kernel
theorem dX8_crossesNext_20 : decode cX8_crossesNext 20 = .ok (.getfield 167, 3) := by decide +kernel
theorem dX8_crossesNext_23 : decode cX8_crossesNext 23 = .ok (.invokevirtual 186, 3) := by decide +kernel
theorem dX8_crossesNext_26 : decode cX8_crossesNext 26 = .ok (.istore_n 2, 1) := by decide +kernel
theorem dX8_crossesNext_27 : decode cX8_crossesNext 27 = .ok (.aload_n 0, 1) := by decide +kernel
theorem dX8_crossesNext_28 : decode cX8_crossesNext 28 = .ok (.getfield 58, 3) := by decide +kernel
theorem dX8_crossesNext_31 : decode cX8_crossesNext 31 = .ok (.aload_n 0, 1) := by decide +kernel
theorem dX8_crossesNext_32 : decode cX8_crossesNext 32 = .ok (.getfield 32, 3) := by decide +kernel
theorem dX8_crossesNext_35 : decode cX8_crossesNext 35 = .ok (.getfield 167, 3) := by decide +kernel
theorem dX8_crossesNext_38 : decode cX8_crossesNext 38 = .ok (.invokevirtual 183, 3) := by decide +kernel
theorem dX8_crossesNext_41 : decode cX8_crossesNext 41 = .ok (.istore_n 3, 1) := by decide +kernel
theorem dX8_crossesNext_42 : decode cX8_crossesNext 42 = .ok (.aload_n 0, 1) := by decide +kernel
theorem dX8_crossesNext_43 : decode cX8_crossesNext 43 = .ok (.getfield 58, 3) := by decide +kernel
theorem dX8_crossesNext_46 : decode cX8_crossesNext 46 = .ok (.aload_n 0, 1) := by decide +kernel
theorem dX8_crossesNext_47 : decode cX8_crossesNext 47 = .ok (.getfield 32, 3) := by decide +kernel
theorem dX8_crossesNext_50 : decode cX8_crossesNext 50 = .ok (.iload_n 1, 1) := by decide +kernel
theorem dX8_crossesNext_51 : decode cX8_crossesNext 51 = .ok (.iconst 1, 1) := by decide +kernel
theorem dX8_crossesNext_52 : decode cX8_crossesNext 52 = .ok (.iadd, 1) := by decide +kernel
theorem dX8_crossesNext_53 : decode cX8_crossesNext 53 = .ok (.invokevirtual 179, 3) := by decide +kernel
theorem dX8_crossesNext_56 : decode cX8_crossesNext 56 = .ok (.aload_n 0, 1) := by decide +kernel
theorem dX8_crossesNext_57 : decode cX8_crossesNext 57 = .ok (.getfield 58, 3) := by decide +kernel
theorem dX8_crossesNext_60 : decode cX8_crossesNext 60 = .ok (.aload_n 0, 1) := by decide +kernel
theorem dX8_crossesNext_61 : decode cX8_crossesNext 61 = .ok (.getfield 32, 3) := by decide +kernel
theorem dX8_crossesNext_64 : decode cX8_crossesNext 64 = .ok (.getfield 167, 3) := by decide +kernel
theorem dX8_crossesNext_67 : decode cX8_crossesNext 67 = .ok (.invokevirtual 186, 3) := by decide +kernel
theorem dX8_crossesNext_70 : decode cX8_crossesNext 70 = .ok (.istore 4, 2) := by decide +kernel
theorem dX8_crossesNext_72 : decode cX8_crossesNext 72 = .ok (.aload_n 0, 1) := by decide +kernel
theorem dX8_crossesNext_73 : decode cX8_crossesNext 73 = .ok (.getfield 58, 3) := by decide +kernel
theorem dX8_crossesNext_76 : decode cX8_crossesNext 76 = .ok (.aload_n 0, 1) := by decide +kernel
theorem dX8_crossesNext_77 : decode cX8_crossesNext 77 = .ok (.getfield 32, 3) := by decide +kernel
theorem dX8_crossesNext_80 : decode cX8_crossesNext 80 = .ok (.getfield 167, 3) := by decide +kernel
theorem dX8_crossesNext_83 : decode cX8_crossesNext 83 = .ok (.invokevirtual 183, 3) := by decide +kernel
theorem dX8_crossesNext_86 : decode cX8_crossesNext 86 = .ok (.istore 5, 2) := by decide +kernel
theorem dX8_crossesNext_88 : decode cX8_crossesNext 88 = .ok (.iload_n 3, 1) := by decide +kernel
theorem dX8_crossesNext_89 : decode cX8_crossesNext 89 = .ok (.ifCond .le 23, 3) := by decide +kernel
theorem dX8_crossesNext_92 : decode cX8_crossesNext 92 = .ok (.iload 5, 2) := by decide +kernel
theorem dX8_crossesNext_94 : decode cX8_crossesNext 94 = .ok (.ifCond .le 18, 3) := by decide +kernel
theorem dX8_crossesNext_97 : decode cX8_crossesNext 97 = .ok (.iload 4, 2) := by decide +kernel
theorem dX8_crossesNext_99 : decode cX8_crossesNext 99 = .ok (.iload_n 3, 1) := by decide +kernel
theorem dX8_crossesNext_100 : decode cX8_crossesNext 100 = .ok (.imul, 1) := by decide +kernel
theorem dX8_crossesNext_101 : decode cX8_crossesNext 101 = .ok (.iload_n 2, 1) := by decide +kernel
theorem dX8_crossesNext_102 : decode cX8_crossesNext 102 = .ok (.iload 5, 2) := by decide +kernel
theorem dX8_crossesNext_104 : decode cX8_crossesNext 104 = .ok (.imul, 1) := by decide +kernel
theorem dX8_crossesNext_105 : decode cX8_crossesNext 105 = .ok (.if_icmp .gt 7, 3) := by decide +kernel
theorem dX8_crossesNext_108 : decode cX8_crossesNext 108 = .ok (.iconst 1, 1) := by decide +kernel
theorem dX8_crossesNext_109 : decode cX8_crossesNext 109 = .ok (.goto 4, 3) := by decide +kernel
theorem dX8_crossesNext_112 : decode cX8_crossesNext 112 = .ok (.iconst 0, 1) := by decide +kernel
theorem dX8_crossesNext_113 : decode cX8_crossesNext 113 = .ok (.ireturn, 1) := by decide +kernel
def fX8_crossesNext (a1 : Int32) (o_now_steps : Int32) (o_now_mile : Int32) (o_now_walkers : Int32) (o_now_walked : Int32) (o_now_kinds_f : Nat → Int32) (o_now_habits_f : Nat → Int32) (o_now_hard_f : Nat → Int32) (o_stones_places_f : Nat → Int32) : Int32 × (Nat → Int32) := xlet (fX6_find a1 o_now_steps o_now_mile o_now_walkers o_now_kinds_f o_now_habits_f o_now_hard_f o_stones_places_f) (fun u1 => xlet (fX6_find (a1 + 1) o_now_steps o_now_mile o_now_walkers o_now_kinds_f o_now_habits_f o_now_hard_f u1) (fun u4 => xlet (if (fX6_numberOf o_now_walked o_now_walkers u1) ≤ 0 then (0 : Int32) else (if (fX6_numberOf o_now_walked o_now_walkers u4) ≤ 0 then 0 else (if ((fX6_sumOf o_now_walked o_now_walkers u1) * (fX6_numberOf o_now_walked o_now_walkers u4)) < ((fX6_sumOf o_now_walked o_now_walkers u4) * (fX6_numberOf o_now_walked o_now_walkers u1)) then 0 else 1))) (fun y_1 => (y_1, u4))))
set_option maxHeartbeats 4000000 in
set_option maxRecDepth 100000 in
theorem c_X8_crossesNext (l : Launch) (D : va_G) (cI cZ : ClassId) (sz : Nat) (o : Nat) (a1 : Int32) (o_text : Nat) (o_reader : Nat) (o_told : Nat) (o_now : Nat) (o_firstKept : Nat) (o_secondKept : Nat) (o_keptBits : Int32) (o_past : Nat) (o_sightings : Nat) (o_stones : Nat) (o_game : Nat) (o_now_steps : Int32) (o_now_mile : Int32) (o_now_walkers : Int32) (o_now_walked : Int32) (o_now_hard : Nat) (o_now_kinds : Nat) (o_now_habits : Nat) (o_stones_places : Nat) (o_stones_walkers : Int32) (o_stones_steps : Int32) (o_now_kinds_a : Nat) (o_now_kinds_f : Nat → Int32) (o_now_habits_a : Nat) (o_now_habits_f : Nat → Int32) (o_now_hard_a : Nat) (o_now_hard_f : Nat → Int32) (o_stones_places_a : Nat) (o_stones_places_f : Nat → Int32) (hq1 : o_now_walkers.toInt ≤ 6) (hq2 : o_now_steps.toInt ≤ 20) : Met l yX8_crossesNext wsX8_crossesNext ({ frames := 5, cells := 0, slots := 0, locals := 115 } : Room) (va_Pc [.ref o, .int a1] (xP D cI cZ [(o, .inr (8, [.ref o_text, .ref o_reader, .ref o_told, .ref o_now, .ref o_firstKept, .ref o_secondKept, .int o_keptBits, .ref o_past, .ref o_sightings, .ref o_stones, .ref o_game])), (o_now, .inr (3, [.int o_now_steps, .int o_now_mile, .int o_now_walkers, .int o_now_walked, .ref o_now_hard, .ref o_now_kinds, .ref o_now_habits])), (o_stones, .inr (6, [.ref o_stones_places, .int o_stones_walkers, .int o_stones_steps])), (o_now_kinds, .inr (4, [.ref o_now_kinds_a])), (o_now_kinds_a, .inl (cI, 6, .inl o_now_kinds_f)), (o_now_habits, .inr (4, [.ref o_now_habits_a])), (o_now_habits_a, .inl (cI, 6, .inl o_now_habits_f)), (o_now_hard, .inr (4, [.ref o_now_hard_a])), (o_now_hard_a, .inl (cI, 21, .inl o_now_hard_f)), (o_stones_places, .inr (4, [.ref o_stones_places_a])), (o_stones_places_a, .inl (cI, 6, .inl o_stones_places_f))] sz)) (va_Qi (fun (r : Int32) (u : (Nat → Int32)) => (r, u) = fX8_crossesNext a1 o_now_steps o_now_mile o_now_walkers o_now_walked o_now_kinds_f o_now_habits_f o_now_hard_f o_stones_places_f) (fun (u : (Nat → Int32)) t => xB D cI cZ [(o, .inr (8, [.ref o_text, .ref o_reader, .ref o_told, .ref o_now, .ref o_firstKept, .ref o_secondKept, .int o_keptBits, .ref o_past, .ref o_sightings, .ref o_stones, .ref o_game])), (o_now, .inr (3, [.int o_now_steps, .int o_now_mile, .int o_now_walkers, .int o_now_walked, .ref o_now_hard, .ref o_now_kinds, .ref o_now_habits])), (o_stones, .inr (6, [.ref o_stones_places, .int o_now_walkers, .int o_now_steps])), (o_now_kinds, .inr (4, [.ref o_now_kinds_a])), (o_now_kinds_a, .inl (cI, 6, .inl o_now_kinds_f)), (o_now_habits, .inr (4, [.ref o_now_habits_a])), (o_now_habits_a, .inl (cI, 6, .inl o_now_habits_f)), (o_now_hard, .inr (4, [.ref o_now_hard_a])), (o_now_hard_a, .inl (cI, 21, .inl o_now_hard_f)), (o_stones_places, .inr (4, [.ref o_stones_places_a])), (o_stones_places_a, .inl (cI, 6, .inl u))] (va_A [(o, .inr (8, [.ref o_text, .ref o_reader, .ref o_told, .ref o_now, .ref o_firstKept, .ref o_secondKept, .int o_keptBits, .ref o_past, .ref o_sightings, .ref o_stones, .ref o_game])), (o_now, .inr (3, [.int o_now_steps, .int o_now_mile, .int o_now_walkers, .int o_now_walked, .ref o_now_hard, .ref o_now_kinds, .ref o_now_habits])), (o_stones, .inr (6, [.ref o_stones_places, .int o_stones_walkers, .int o_stones_steps])), (o_now_kinds, .inr (4, [.ref o_now_kinds_a])), (o_now_kinds_a, .inl (cI, 6, .inl o_now_kinds_f)), (o_now_habits, .inr (4, [.ref o_now_habits_a])), (o_now_habits_a, .inl (cI, 6, .inl o_now_habits_f)), (o_now_hard, .inr (4, [.ref o_now_hard_a])), (o_now_hard_a, .inl (cI, 21, .inl o_now_hard_f)), (o_stones_places, .inr (4, [.ref o_stones_places_a])), (o_stones_places_a, .inl (cI, 6, .inl o_stones_places_f))] sz) t) (va_A [(o, .inr (8, [.ref o_text, .ref o_reader, .ref o_told, .ref o_now, .ref o_firstKept, .ref o_secondKept, .int o_keptBits, .ref o_past, .ref o_sightings, .ref o_stones, .ref o_game])), (o_now, .inr (3, [.int o_now_steps, .int o_now_mile, .int o_now_walkers, .int o_now_walked, .ref o_now_hard, .ref o_now_kinds, .ref o_now_habits])), (o_stones, .inr (6, [.ref o_stones_places, .int o_stones_walkers, .int o_stones_steps])), (o_now_kinds, .inr (4, [.ref o_now_kinds_a])), (o_now_kinds_a, .inl (cI, 6, .inl o_now_kinds_f)), (o_now_habits, .inr (4, [.ref o_now_habits_a])), (o_now_habits_a, .inl (cI, 6, .inl o_now_habits_f)), (o_now_hard, .inr (4, [.ref o_now_hard_a])), (o_now_hard_a, .inl (cI, 21, .inl o_now_hard_f)), (o_stones_places, .inr (4, [.ref o_stones_places_a])), (o_stones_places_a, .inl (cI, 6, .inl o_stones_places_f))] sz)) 0 0 (va_A [(o, .inr (8, [.ref o_text, .ref o_reader, .ref o_told, .ref o_now, .ref o_firstKept, .ref o_secondKept, .int o_keptBits, .ref o_past, .ref o_sightings, .ref o_stones, .ref o_game])), (o_now, .inr (3, [.int o_now_steps, .int o_now_mile, .int o_now_walkers, .int o_now_walked, .ref o_now_hard, .ref o_now_kinds, .ref o_now_habits])), (o_stones, .inr (6, [.ref o_stones_places, .int o_stones_walkers, .int o_stones_steps])), (o_now_kinds, .inr (4, [.ref o_now_kinds_a])), (o_now_kinds_a, .inl (cI, 6, .inl o_now_kinds_f)), (o_now_habits, .inr (4, [.ref o_now_habits_a])), (o_now_habits_a, .inl (cI, 6, .inl o_now_habits_f)), (o_now_hard, .inr (4, [.ref o_now_hard_a])), (o_now_hard_a, .inl (cI, 21, .inl o_now_hard_f)), (o_stones_places, .inr (4, [.ref o_stones_places_a])), (o_stones_places_a, .inl (cI, 6, .inl o_stones_places_f))] sz) := by
  refine Met.ofW (cc := cX8_crossesNext) (maxL := 6) (ret := (some .boolean)) (by decide) rfl ?_
  intro p e s m args below meth c s₁ B hml hv
  obtain ⟨hargs, hsz, hP, hK, hD0, hE⟩ := hv
  subst hargs
  have hx := B.exec
  have hb := B.bytes
  have hr := B.returns
  have hts := atoms_spec (ws := wsX8_crossesNext) B.pre
  have hown : s.vm.findClass RX8 = some m.cls := findClass_of_methodNamed B.named
  have hlocks := B.notSynchronized
  subst hsz
  have hD := hD0.self (sz := s.heap.size)
  generalize hAe : va_A [(o, .inr (8, [.ref o_text, .ref o_reader, .ref o_told, .ref o_now, .ref o_firstKept, .ref o_secondKept, .int o_keptBits, .ref o_past, .ref o_sightings, .ref o_stones, .ref o_game])), (o_now, .inr (3, [.int o_now_steps, .int o_now_mile, .int o_now_walkers, .int o_now_walked, .ref o_now_hard, .ref o_now_kinds, .ref o_now_habits])), (o_stones, .inr (6, [.ref o_stones_places, .int o_stones_walkers, .int o_stones_steps])), (o_now_kinds, .inr (4, [.ref o_now_kinds_a])), (o_now_kinds_a, .inl (cI, 6, .inl o_now_kinds_f)), (o_now_habits, .inr (4, [.ref o_now_habits_a])), (o_now_habits_a, .inl (cI, 6, .inl o_now_habits_f)), (o_now_hard, .inr (4, [.ref o_now_hard_a])), (o_now_hard_a, .inl (cI, 21, .inl o_now_hard_f)), (o_stones_places, .inr (4, [.ref o_stones_places_a])), (o_stones_places_a, .inl (cI, 6, .inl o_stones_places_f))] s.heap.size = A at hD ⊢
  have hA : ∀ q : Nat, s.heap.size ≤ q → A q := fun q h => by rw [← hAe]; exact Or.inr h
  have hS : va_S A s.heap s.heap [] := va_S.rf
  have hl := lv_entry ([.ref o, .int a1]) (n := 6) (Nat.le_of_ble_eq_true rfl)
  rw [lg_entry_eq]
  generalize (lg_sl ([.ref o, .int a1]) ++ List.replicate (6 - (lg_sl ([.ref o, .int a1])).length) Slot.unset).toArray = ls at hl ⊢
  have hl : lv_has ls 6 [(0, .ref o), (1, .int a1)] := hl
  refine wq (X := fun Q => ∀ (pc : Nat) (H : Heap) (locs : List Loc) (ls : Array Slot) (r : Int32) (u : (Nat → Int32)) (hn : narrow .boolean (.int r) = .int r) (hd : decode cX8_crossesNext pc = .ok (.ireturn, 1)) (hp : (r, u) = fX8_crossesNext a1 o_now_steps o_now_mile o_now_walkers o_now_walked o_now_kinds_f o_now_habits_f o_now_hard_f o_stones_places_f) (hP : va_P D vwCl [(o, .inr (8, [.ref o_text, .ref o_reader, .ref o_told, .ref o_now, .ref o_firstKept, .ref o_secondKept, .int o_keptBits, .ref o_past, .ref o_sightings, .ref o_stones, .ref o_game])), (o_now, .inr (3, [.int o_now_steps, .int o_now_mile, .int o_now_walkers, .int o_now_walked, .ref o_now_hard, .ref o_now_kinds, .ref o_now_habits])), (o_stones, .inr (6, [.ref o_stones_places, .int o_now_walkers, .int o_now_steps])), (o_now_kinds, .inr (4, [.ref o_now_kinds_a])), (o_now_kinds_a, .inl (cI, 6, .inl o_now_kinds_f)), (o_now_habits, .inr (4, [.ref o_now_habits_a])), (o_now_habits_a, .inl (cI, 6, .inl o_now_habits_f)), (o_now_hard, .inr (4, [.ref o_now_hard_a])), (o_now_hard_a, .inl (cI, 21, .inl o_now_hard_f)), (o_stones_places, .inr (4, [.ref o_stones_places_a])), (o_stones_places_a, .inl (cI, 6, .inl u))] H) (hD : va_D A [(o, .inr (8, [.ref o_text, .ref o_reader, .ref o_told, .ref o_now, .ref o_firstKept, .ref o_secondKept, .int o_keptBits, .ref o_past, .ref o_sightings, .ref o_stones, .ref o_game])), (o_now, .inr (3, [.int o_now_steps, .int o_now_mile, .int o_now_walkers, .int o_now_walked, .ref o_now_hard, .ref o_now_kinds, .ref o_now_habits])), (o_stones, .inr (6, [.ref o_stones_places, .int o_now_walkers, .int o_now_steps])), (o_now_kinds, .inr (4, [.ref o_now_kinds_a])), (o_now_kinds_a, .inl (cI, 6, .inl o_now_kinds_f)), (o_now_habits, .inr (4, [.ref o_now_habits_a])), (o_now_habits_a, .inl (cI, 6, .inl o_now_habits_f)), (o_now_hard, .inr (4, [.ref o_now_hard_a])), (o_now_hard_a, .inl (cI, 21, .inl o_now_hard_f)), (o_stones_places, .inr (4, [.ref o_stones_places_a])), (o_stones_places_a, .inl (cI, 6, .inl u))]) (hS : va_S A s.heap H locs), W p l e ({ frames := 5, cells := 0, slots := 0, locals := 115 } : Room) s m ([.ref o, .int a1] : List Value).toArray below meth c H locs 0 0 Q (F0 m pc ls [.int r])) ?_ (fun Q hret => ?_)
  · intro pc H locs ls r u hn hd hp hP hD hS
    exact W.zret (v := r) hx hb hr hn (fun t ht hW => ⟨⟨r, u, rfl, hp, by rw [ht]; exact hP, va_K.moved hW.alike hK, hD⟩, hS.F ht⟩) hS.2.2 hd
  have hin_3 : ∀ w ∈ u_ws RX3 TX3 7, w ∈ wsX8_crossesNext := by decide +kernel
  have hin_8 : ∀ w ∈ u_ws RX8 TX8 11, w ∈ wsX8_crossesNext := by decide +kernel
  have fl_32 := hts (.fieldLink RX8 32 "MileRoad" "now" "LMileRoad$Road;") (by decide +kernel)
  have fl_58 := hts (.fieldLink RX8 58 "MileRoad" "stones" "LMileRoad$Stones;") (by decide +kernel)
  have fl_167 := hE.f 11 rfl ([.ref o, .int a1] : List Value).toArray
  have hF : fX8_crossesNext a1 o_now_steps o_now_mile o_now_walkers o_now_walked o_now_kinds_f o_now_habits_f o_now_hard_f o_stones_places_f = fX8_crossesNext a1 o_now_steps o_now_mile o_now_walkers o_now_walked o_now_kinds_f o_now_habits_f o_now_hard_f o_stones_places_f := rfl
  refine lv_aload_n hx hb dX8_crossesNext_0 rfl (lv_at hl 0 rfl) ?_
  refine xget hx hb hts hown hK 8 (C2 := RX8) (T := TX8) (N := 11) rfl hin_8 hP 0 rfl 9 (by decide) fl_58 rfl rfl rfl dX8_crossesNext_1 ?_
  refine lv_aload_n hx hb dX8_crossesNext_4 rfl (lv_at hl 0 rfl) ?_
  refine xget hx hb hts hown hK 8 (C2 := RX8) (T := TX8) (N := 11) rfl hin_8 hP 0 rfl 3 (by decide) fl_32 rfl rfl rfl dX8_crossesNext_5 ?_
  refine lv_iload_n hx hb dX8_crossesNext_8 rfl (lv_at hl 1 rfl) ?_
  refine xcallv (S := (Nat → Int32)) (Wc := [(o_now, .inr (3, [.int o_now_steps, .int o_now_mile, .int o_now_walkers, .int o_now_walked, .ref o_now_hard, .ref o_now_kinds, .ref o_now_habits])), (o_stones, .inr (6, [.ref o_stones_places, .int o_stones_walkers, .int o_stones_steps])), (o_now_kinds, .inr (4, [.ref o_now_kinds_a])), (o_now_kinds_a, .inl (cI, 6, .inl o_now_kinds_f)), (o_now_habits, .inr (4, [.ref o_now_habits_a])), (o_now_habits_a, .inl (cI, 6, .inl o_now_habits_f)), (o_now_hard, .inr (4, [.ref o_now_hard_a])), (o_now_hard_a, .inl (cI, 21, .inl o_now_hard_f)), (o_stones_places, .inr (4, [.ref o_stones_places_a])), (o_stones_places_a, .inl (cI, 6, .inl o_stones_places_f))]) (wr := [(o, .inr (8, [.ref o_text, .ref o_reader, .ref o_told, .ref o_now, .ref o_firstKept, .ref o_secondKept, .int o_keptBits, .ref o_past, .ref o_sightings, .ref o_stones, .ref o_game]))]) (W1 := (fun (u : (Nat → Int32)) => [(o_now, .inr (3, [.int o_now_steps, .int o_now_mile, .int o_now_walkers, .int o_now_walked, .ref o_now_hard, .ref o_now_kinds, .ref o_now_habits])), (o_stones, .inr (6, [.ref o_stones_places, .int o_now_walkers, .int o_now_steps])), (o_now_kinds, .inr (4, [.ref o_now_kinds_a])), (o_now_kinds_a, .inl (cI, 6, .inl o_now_kinds_f)), (o_now_habits, .inr (4, [.ref o_now_habits_a])), (o_now_habits_a, .inl (cI, 6, .inl o_now_habits_f)), (o_now_hard, .inr (4, [.ref o_now_hard_a])), (o_now_hard_a, .inl (cI, 21, .inl o_now_hard_f)), (o_stones_places, .inr (4, [.ref o_stones_places_a])), (o_stones_places_a, .inl (cI, 6, .inl u))])) (Wn := (fun (u : (Nat → Int32)) => [(o, .inr (8, [.ref o_text, .ref o_reader, .ref o_told, .ref o_now, .ref o_firstKept, .ref o_secondKept, .int o_keptBits, .ref o_past, .ref o_sightings, .ref o_stones, .ref o_game])), (o_now, .inr (3, [.int o_now_steps, .int o_now_mile, .int o_now_walkers, .int o_now_walked, .ref o_now_hard, .ref o_now_kinds, .ref o_now_habits])), (o_stones, .inr (6, [.ref o_stones_places, .int o_now_walkers, .int o_now_steps])), (o_now_kinds, .inr (4, [.ref o_now_kinds_a])), (o_now_kinds_a, .inl (cI, 6, .inl o_now_kinds_f)), (o_now_habits, .inr (4, [.ref o_now_habits_a])), (o_now_habits_a, .inl (cI, 6, .inl o_now_habits_f)), (o_now_hard, .inr (4, [.ref o_now_hard_a])), (o_now_hard_a, .inl (cI, 21, .inl o_now_hard_f)), (o_stones_places, .inr (4, [.ref o_stones_places_a])), (o_stones_places_a, .inl (cI, 6, .inl u))])) (xrunV hx hb hml hown hts (c_X6_find l D cI cZ _ o_stones o_now a1 o_now_steps o_now_mile o_now_walkers o_now_walked o_now_hard o_now_kinds o_now_habits o_stones_places o_stones_walkers o_stones_steps o_now_kinds_a o_now_kinds_f o_now_habits_a o_now_habits_f o_now_hard_a o_now_hard_f o_stones_places_a o_stones_places_f hq1 hq2) (cwV 2 hts gX8_crossesNext_X6_find rfl rfl rfl (by decide +kernel) ⟨Nat.le_of_ble_eq_true rfl, Nat.le_of_ble_eq_true rfl⟩) hE hK hP hD [1, 2, 3, 4, 5, 6, 7, 8, 9, 10] rfl rfl 1 6 (T := TX6) (N := 3) rfl rfl rfl hl.1 rfl (Nat.le_of_ble_eq_true rfl) dX8_crossesNext_9 ⟨Nat.le_of_ble_eq_true rfl, Nat.le_of_ble_eq_true rfl⟩) hP hD hS hA [1, 2, 3, 4, 5, 6, 7, 8, 9, 10] [0] [0, 1, 2, 3, 4, 5, 6, 7, 8, 9, 10] rfl rfl rfl (by decide) (fun _ => rfl) rfl (fun  u H locs hw hz hP hD hS => ?_)
  obtain ⟨u1, hu⟩ : ∃ z, z = u := ⟨u, rfl⟩
  subst hu
  have hw_1 := hw.symm
  have hP : va_P D vwCl [(o, .inr (8, [.ref o_text, .ref o_reader, .ref o_told, .ref o_now, .ref o_firstKept, .ref o_secondKept, .int o_keptBits, .ref o_past, .ref o_sightings, .ref o_stones, .ref o_game])), (o_now, .inr (3, [.int o_now_steps, .int o_now_mile, .int o_now_walkers, .int o_now_walked, .ref o_now_hard, .ref o_now_kinds, .ref o_now_habits])), (o_stones, .inr (6, [.ref o_stones_places, .int o_now_walkers, .int o_now_steps])), (o_now_kinds, .inr (4, [.ref o_now_kinds_a])), (o_now_kinds_a, .inl (cI, 6, .inl o_now_kinds_f)), (o_now_habits, .inr (4, [.ref o_now_habits_a])), (o_now_habits_a, .inl (cI, 6, .inl o_now_habits_f)), (o_now_hard, .inr (4, [.ref o_now_hard_a])), (o_now_hard_a, .inl (cI, 21, .inl o_now_hard_f)), (o_stones_places, .inr (4, [.ref o_stones_places_a])), (o_stones_places_a, .inl (cI, 6, .inl u1))] H := hP
  have hD : va_D A [(o, .inr (8, [.ref o_text, .ref o_reader, .ref o_told, .ref o_now, .ref o_firstKept, .ref o_secondKept, .int o_keptBits, .ref o_past, .ref o_sightings, .ref o_stones, .ref o_game])), (o_now, .inr (3, [.int o_now_steps, .int o_now_mile, .int o_now_walkers, .int o_now_walked, .ref o_now_hard, .ref o_now_kinds, .ref o_now_habits])), (o_stones, .inr (6, [.ref o_stones_places, .int o_now_walkers, .int o_now_steps])), (o_now_kinds, .inr (4, [.ref o_now_kinds_a])), (o_now_kinds_a, .inl (cI, 6, .inl o_now_kinds_f)), (o_now_habits, .inr (4, [.ref o_now_habits_a])), (o_now_habits_a, .inl (cI, 6, .inl o_now_habits_f)), (o_now_hard, .inr (4, [.ref o_now_hard_a])), (o_now_hard_a, .inl (cI, 21, .inl o_now_hard_f)), (o_stones_places, .inr (4, [.ref o_stones_places_a])), (o_stones_places_a, .inl (cI, 6, .inl u1))] := hD
  refine lv_aload_n hx hb dX8_crossesNext_12 rfl (lv_at hl 0 rfl) ?_
  refine xget hx hb hts hown hK 8 (C2 := RX8) (T := TX8) (N := 11) rfl hin_8 hP 0 rfl 9 (by decide) fl_58 rfl rfl rfl dX8_crossesNext_13 ?_
  refine lv_aload_n hx hb dX8_crossesNext_16 rfl (lv_at hl 0 rfl) ?_
  refine xget hx hb hts hown hK 8 (C2 := RX8) (T := TX8) (N := 11) rfl hin_8 hP 0 rfl 3 (by decide) fl_32 rfl rfl rfl dX8_crossesNext_17 ?_
  refine xgetN hx hb hts hown hK 3 (C2 := RX3) (T := TX3) (N := 7) rfl hin_3 hP 1 rfl 3 (by decide) fl_167 rfl rfl rfl dX8_crossesNext_20 ?_
  refine xcalli (S := Unit) (Wc := [(o_stones, .inr (6, [.ref o_stones_places, .int o_now_walkers, .int o_now_steps])), (o_stones_places, .inr (4, [.ref o_stones_places_a])), (o_stones_places_a, .inl (cI, 6, .inl u1))]) (wr := [(o, .inr (8, [.ref o_text, .ref o_reader, .ref o_told, .ref o_now, .ref o_firstKept, .ref o_secondKept, .int o_keptBits, .ref o_past, .ref o_sightings, .ref o_stones, .ref o_game])), (o_now, .inr (3, [.int o_now_steps, .int o_now_mile, .int o_now_walkers, .int o_now_walked, .ref o_now_hard, .ref o_now_kinds, .ref o_now_habits])), (o_now_kinds, .inr (4, [.ref o_now_kinds_a])), (o_now_kinds_a, .inl (cI, 6, .inl o_now_kinds_f)), (o_now_habits, .inr (4, [.ref o_now_habits_a])), (o_now_habits_a, .inl (cI, 6, .inl o_now_habits_f)), (o_now_hard, .inr (4, [.ref o_now_hard_a])), (o_now_hard_a, .inl (cI, 21, .inl o_now_hard_f))]) (W1 := (fun (u : Unit) => [(o_stones, .inr (6, [.ref o_stones_places, .int o_now_walkers, .int o_now_steps])), (o_stones_places, .inr (4, [.ref o_stones_places_a])), (o_stones_places_a, .inl (cI, 6, .inl u1))])) (Wn := (fun (u : Unit) => [(o, .inr (8, [.ref o_text, .ref o_reader, .ref o_told, .ref o_now, .ref o_firstKept, .ref o_secondKept, .int o_keptBits, .ref o_past, .ref o_sightings, .ref o_stones, .ref o_game])), (o_now, .inr (3, [.int o_now_steps, .int o_now_mile, .int o_now_walkers, .int o_now_walked, .ref o_now_hard, .ref o_now_kinds, .ref o_now_habits])), (o_stones, .inr (6, [.ref o_stones_places, .int o_now_walkers, .int o_now_steps])), (o_now_kinds, .inr (4, [.ref o_now_kinds_a])), (o_now_kinds_a, .inl (cI, 6, .inl o_now_kinds_f)), (o_now_habits, .inr (4, [.ref o_now_habits_a])), (o_now_habits_a, .inl (cI, 6, .inl o_now_habits_f)), (o_now_hard, .inr (4, [.ref o_now_hard_a])), (o_now_hard_a, .inl (cI, 21, .inl o_now_hard_f)), (o_stones_places, .inr (4, [.ref o_stones_places_a])), (o_stones_places_a, .inl (cI, 6, .inl u1))])) (xrunV hx hb hml hown hts (c_X6_sumOf l D cI cZ _ o_stones o_now_walked o_stones_places o_now_walkers o_now_steps o_stones_places_a u1 hq1) (cwV 1 hts gX8_crossesNext_X6_sumOf rfl rfl rfl (by decide +kernel) ⟨Nat.le_of_ble_eq_true rfl, Nat.le_of_ble_eq_true rfl⟩) hE hK hP hD [2, 9, 10] rfl rfl 0 6 (T := TX6) (N := 3) rfl rfl rfl hl.1 rfl (Nat.le_of_ble_eq_true rfl) dX8_crossesNext_23 ⟨Nat.le_of_ble_eq_true rfl, Nat.le_of_ble_eq_true rfl⟩) hP hD hS hA [2, 9, 10] [0, 1, 3, 4, 5, 6, 7, 8] [0, 1, 8, 2, 3, 4, 5, 6, 7, 9, 10] rfl rfl rfl (by decide) (fun _ => rfl) rfl (fun r2 u H locs hw hz hP hD hS => ?_)
  subst hw
  refine lv_istore_n (lv' := [(2, .int (fX6_sumOf o_now_walked o_now_walkers u1)), (0, .ref o), (1, .int a1)]) hx hb dX8_crossesNext_26 rfl hl (by decide) rfl (fun ls hl => ?_)
  refine lv_aload_n hx hb dX8_crossesNext_27 rfl (lv_at hl 1 rfl) ?_
  refine xget hx hb hts hown hK 8 (C2 := RX8) (T := TX8) (N := 11) rfl hin_8 hP 0 rfl 9 (by decide) fl_58 rfl rfl rfl dX8_crossesNext_28 ?_
  refine lv_aload_n hx hb dX8_crossesNext_31 rfl (lv_at hl 1 rfl) ?_
  refine xget hx hb hts hown hK 8 (C2 := RX8) (T := TX8) (N := 11) rfl hin_8 hP 0 rfl 3 (by decide) fl_32 rfl rfl rfl dX8_crossesNext_32 ?_
  refine xgetN hx hb hts hown hK 3 (C2 := RX3) (T := TX3) (N := 7) rfl hin_3 hP 1 rfl 3 (by decide) fl_167 rfl rfl rfl dX8_crossesNext_35 ?_
  refine xcalli (S := Unit) (Wc := [(o_stones, .inr (6, [.ref o_stones_places, .int o_now_walkers, .int o_now_steps])), (o_stones_places, .inr (4, [.ref o_stones_places_a])), (o_stones_places_a, .inl (cI, 6, .inl u1))]) (wr := [(o, .inr (8, [.ref o_text, .ref o_reader, .ref o_told, .ref o_now, .ref o_firstKept, .ref o_secondKept, .int o_keptBits, .ref o_past, .ref o_sightings, .ref o_stones, .ref o_game])), (o_now, .inr (3, [.int o_now_steps, .int o_now_mile, .int o_now_walkers, .int o_now_walked, .ref o_now_hard, .ref o_now_kinds, .ref o_now_habits])), (o_now_kinds, .inr (4, [.ref o_now_kinds_a])), (o_now_kinds_a, .inl (cI, 6, .inl o_now_kinds_f)), (o_now_habits, .inr (4, [.ref o_now_habits_a])), (o_now_habits_a, .inl (cI, 6, .inl o_now_habits_f)), (o_now_hard, .inr (4, [.ref o_now_hard_a])), (o_now_hard_a, .inl (cI, 21, .inl o_now_hard_f))]) (W1 := (fun (u : Unit) => [(o_stones, .inr (6, [.ref o_stones_places, .int o_now_walkers, .int o_now_steps])), (o_stones_places, .inr (4, [.ref o_stones_places_a])), (o_stones_places_a, .inl (cI, 6, .inl u1))])) (Wn := (fun (u : Unit) => [(o, .inr (8, [.ref o_text, .ref o_reader, .ref o_told, .ref o_now, .ref o_firstKept, .ref o_secondKept, .int o_keptBits, .ref o_past, .ref o_sightings, .ref o_stones, .ref o_game])), (o_now, .inr (3, [.int o_now_steps, .int o_now_mile, .int o_now_walkers, .int o_now_walked, .ref o_now_hard, .ref o_now_kinds, .ref o_now_habits])), (o_stones, .inr (6, [.ref o_stones_places, .int o_now_walkers, .int o_now_steps])), (o_now_kinds, .inr (4, [.ref o_now_kinds_a])), (o_now_kinds_a, .inl (cI, 6, .inl o_now_kinds_f)), (o_now_habits, .inr (4, [.ref o_now_habits_a])), (o_now_habits_a, .inl (cI, 6, .inl o_now_habits_f)), (o_now_hard, .inr (4, [.ref o_now_hard_a])), (o_now_hard_a, .inl (cI, 21, .inl o_now_hard_f)), (o_stones_places, .inr (4, [.ref o_stones_places_a])), (o_stones_places_a, .inl (cI, 6, .inl u1))])) (xrunV hx hb hml hown hts (c_X6_numberOf l D cI cZ _ o_stones o_now_walked o_stones_places o_now_walkers o_now_steps o_stones_places_a u1 hq1) (cwV 1 hts gX8_crossesNext_X6_numberOf rfl rfl rfl (by decide +kernel) ⟨Nat.le_of_ble_eq_true rfl, Nat.le_of_ble_eq_true rfl⟩) hE hK hP hD [2, 9, 10] rfl rfl 0 6 (T := TX6) (N := 3) rfl rfl rfl hl.1 rfl (Nat.le_of_ble_eq_true rfl) dX8_crossesNext_38 ⟨Nat.le_of_ble_eq_true rfl, Nat.le_of_ble_eq_true rfl⟩) hP hD hS hA [2, 9, 10] [0, 1, 3, 4, 5, 6, 7, 8] [0, 1, 8, 2, 3, 4, 5, 6, 7, 9, 10] rfl rfl rfl (by decide) (fun _ => rfl) rfl (fun r3 u H locs hw hz hP hD hS => ?_)
  subst hw
  refine lv_istore_n (lv' := [(3, .int (fX6_numberOf o_now_walked o_now_walkers u1)), (2, .int (fX6_sumOf o_now_walked o_now_walkers u1)), (0, .ref o), (1, .int a1)]) hx hb dX8_crossesNext_41 rfl hl (by decide) rfl (fun ls hl => ?_)
  refine lv_aload_n hx hb dX8_crossesNext_42 rfl (lv_at hl 2 rfl) ?_
  refine xget hx hb hts hown hK 8 (C2 := RX8) (T := TX8) (N := 11) rfl hin_8 hP 0 rfl 9 (by decide) fl_58 rfl rfl rfl dX8_crossesNext_43 ?_
  refine lv_aload_n hx hb dX8_crossesNext_46 rfl (lv_at hl 2 rfl) ?_
  refine xget hx hb hts hown hK 8 (C2 := RX8) (T := TX8) (N := 11) rfl hin_8 hP 0 rfl 3 (by decide) fl_32 rfl rfl rfl dX8_crossesNext_47 ?_
  refine lv_iload_n hx hb dX8_crossesNext_50 rfl (lv_at hl 3 rfl) ?_
  refine lv_iconst (v := 1) hx hb dX8_crossesNext_51 (by decide) ?_
  refine lv_iadd hx hb dX8_crossesNext_52 ?_
  refine xcallv (S := (Nat → Int32)) (Wc := [(o_now, .inr (3, [.int o_now_steps, .int o_now_mile, .int o_now_walkers, .int o_now_walked, .ref o_now_hard, .ref o_now_kinds, .ref o_now_habits])), (o_stones, .inr (6, [.ref o_stones_places, .int o_now_walkers, .int o_now_steps])), (o_now_kinds, .inr (4, [.ref o_now_kinds_a])), (o_now_kinds_a, .inl (cI, 6, .inl o_now_kinds_f)), (o_now_habits, .inr (4, [.ref o_now_habits_a])), (o_now_habits_a, .inl (cI, 6, .inl o_now_habits_f)), (o_now_hard, .inr (4, [.ref o_now_hard_a])), (o_now_hard_a, .inl (cI, 21, .inl o_now_hard_f)), (o_stones_places, .inr (4, [.ref o_stones_places_a])), (o_stones_places_a, .inl (cI, 6, .inl u1))]) (wr := [(o, .inr (8, [.ref o_text, .ref o_reader, .ref o_told, .ref o_now, .ref o_firstKept, .ref o_secondKept, .int o_keptBits, .ref o_past, .ref o_sightings, .ref o_stones, .ref o_game]))]) (W1 := (fun (u : (Nat → Int32)) => [(o_now, .inr (3, [.int o_now_steps, .int o_now_mile, .int o_now_walkers, .int o_now_walked, .ref o_now_hard, .ref o_now_kinds, .ref o_now_habits])), (o_stones, .inr (6, [.ref o_stones_places, .int o_now_walkers, .int o_now_steps])), (o_now_kinds, .inr (4, [.ref o_now_kinds_a])), (o_now_kinds_a, .inl (cI, 6, .inl o_now_kinds_f)), (o_now_habits, .inr (4, [.ref o_now_habits_a])), (o_now_habits_a, .inl (cI, 6, .inl o_now_habits_f)), (o_now_hard, .inr (4, [.ref o_now_hard_a])), (o_now_hard_a, .inl (cI, 21, .inl o_now_hard_f)), (o_stones_places, .inr (4, [.ref o_stones_places_a])), (o_stones_places_a, .inl (cI, 6, .inl u))])) (Wn := (fun (u : (Nat → Int32)) => [(o, .inr (8, [.ref o_text, .ref o_reader, .ref o_told, .ref o_now, .ref o_firstKept, .ref o_secondKept, .int o_keptBits, .ref o_past, .ref o_sightings, .ref o_stones, .ref o_game])), (o_now, .inr (3, [.int o_now_steps, .int o_now_mile, .int o_now_walkers, .int o_now_walked, .ref o_now_hard, .ref o_now_kinds, .ref o_now_habits])), (o_stones, .inr (6, [.ref o_stones_places, .int o_now_walkers, .int o_now_steps])), (o_now_kinds, .inr (4, [.ref o_now_kinds_a])), (o_now_kinds_a, .inl (cI, 6, .inl o_now_kinds_f)), (o_now_habits, .inr (4, [.ref o_now_habits_a])), (o_now_habits_a, .inl (cI, 6, .inl o_now_habits_f)), (o_now_hard, .inr (4, [.ref o_now_hard_a])), (o_now_hard_a, .inl (cI, 21, .inl o_now_hard_f)), (o_stones_places, .inr (4, [.ref o_stones_places_a])), (o_stones_places_a, .inl (cI, 6, .inl u))])) (xrunV hx hb hml hown hts (c_X6_find l D cI cZ _ o_stones o_now (a1 + 1) o_now_steps o_now_mile o_now_walkers o_now_walked o_now_hard o_now_kinds o_now_habits o_stones_places o_now_walkers o_now_steps o_now_kinds_a o_now_kinds_f o_now_habits_a o_now_habits_f o_now_hard_a o_now_hard_f o_stones_places_a u1 hq1 hq2) (cwV 2 hts gX8_crossesNext_X6_find rfl rfl rfl (by decide +kernel) ⟨Nat.le_of_ble_eq_true rfl, Nat.le_of_ble_eq_true rfl⟩) hE hK hP hD [1, 2, 3, 4, 5, 6, 7, 8, 9, 10] rfl rfl 1 6 (T := TX6) (N := 3) rfl rfl rfl hl.1 rfl (Nat.le_of_ble_eq_true rfl) dX8_crossesNext_53 ⟨Nat.le_of_ble_eq_true rfl, Nat.le_of_ble_eq_true rfl⟩) hP hD hS hA [1, 2, 3, 4, 5, 6, 7, 8, 9, 10] [0] [0, 1, 2, 3, 4, 5, 6, 7, 8, 9, 10] rfl rfl rfl (by decide) (fun _ => rfl) rfl (fun  u H locs hw hz hP hD hS => ?_)
  obtain ⟨u4, hu⟩ : ∃ z, z = u := ⟨u, rfl⟩
  subst hu
  have hw_4 := hw.symm
  have hP : va_P D vwCl [(o, .inr (8, [.ref o_text, .ref o_reader, .ref o_told, .ref o_now, .ref o_firstKept, .ref o_secondKept, .int o_keptBits, .ref o_past, .ref o_sightings, .ref o_stones, .ref o_game])), (o_now, .inr (3, [.int o_now_steps, .int o_now_mile, .int o_now_walkers, .int o_now_walked, .ref o_now_hard, .ref o_now_kinds, .ref o_now_habits])), (o_stones, .inr (6, [.ref o_stones_places, .int o_now_walkers, .int o_now_steps])), (o_now_kinds, .inr (4, [.ref o_now_kinds_a])), (o_now_kinds_a, .inl (cI, 6, .inl o_now_kinds_f)), (o_now_habits, .inr (4, [.ref o_now_habits_a])), (o_now_habits_a, .inl (cI, 6, .inl o_now_habits_f)), (o_now_hard, .inr (4, [.ref o_now_hard_a])), (o_now_hard_a, .inl (cI, 21, .inl o_now_hard_f)), (o_stones_places, .inr (4, [.ref o_stones_places_a])), (o_stones_places_a, .inl (cI, 6, .inl u4))] H := hP
  have hD : va_D A [(o, .inr (8, [.ref o_text, .ref o_reader, .ref o_told, .ref o_now, .ref o_firstKept, .ref o_secondKept, .int o_keptBits, .ref o_past, .ref o_sightings, .ref o_stones, .ref o_game])), (o_now, .inr (3, [.int o_now_steps, .int o_now_mile, .int o_now_walkers, .int o_now_walked, .ref o_now_hard, .ref o_now_kinds, .ref o_now_habits])), (o_stones, .inr (6, [.ref o_stones_places, .int o_now_walkers, .int o_now_steps])), (o_now_kinds, .inr (4, [.ref o_now_kinds_a])), (o_now_kinds_a, .inl (cI, 6, .inl o_now_kinds_f)), (o_now_habits, .inr (4, [.ref o_now_habits_a])), (o_now_habits_a, .inl (cI, 6, .inl o_now_habits_f)), (o_now_hard, .inr (4, [.ref o_now_hard_a])), (o_now_hard_a, .inl (cI, 21, .inl o_now_hard_f)), (o_stones_places, .inr (4, [.ref o_stones_places_a])), (o_stones_places_a, .inl (cI, 6, .inl u4))] := hD
  refine lv_aload_n hx hb dX8_crossesNext_56 rfl (lv_at hl 2 rfl) ?_
  refine xget hx hb hts hown hK 8 (C2 := RX8) (T := TX8) (N := 11) rfl hin_8 hP 0 rfl 9 (by decide) fl_58 rfl rfl rfl dX8_crossesNext_57 ?_
  refine lv_aload_n hx hb dX8_crossesNext_60 rfl (lv_at hl 2 rfl) ?_
  refine xget hx hb hts hown hK 8 (C2 := RX8) (T := TX8) (N := 11) rfl hin_8 hP 0 rfl 3 (by decide) fl_32 rfl rfl rfl dX8_crossesNext_61 ?_
  refine xgetN hx hb hts hown hK 3 (C2 := RX3) (T := TX3) (N := 7) rfl hin_3 hP 1 rfl 3 (by decide) fl_167 rfl rfl rfl dX8_crossesNext_64 ?_
  refine xcalli (S := Unit) (Wc := [(o_stones, .inr (6, [.ref o_stones_places, .int o_now_walkers, .int o_now_steps])), (o_stones_places, .inr (4, [.ref o_stones_places_a])), (o_stones_places_a, .inl (cI, 6, .inl u4))]) (wr := [(o, .inr (8, [.ref o_text, .ref o_reader, .ref o_told, .ref o_now, .ref o_firstKept, .ref o_secondKept, .int o_keptBits, .ref o_past, .ref o_sightings, .ref o_stones, .ref o_game])), (o_now, .inr (3, [.int o_now_steps, .int o_now_mile, .int o_now_walkers, .int o_now_walked, .ref o_now_hard, .ref o_now_kinds, .ref o_now_habits])), (o_now_kinds, .inr (4, [.ref o_now_kinds_a])), (o_now_kinds_a, .inl (cI, 6, .inl o_now_kinds_f)), (o_now_habits, .inr (4, [.ref o_now_habits_a])), (o_now_habits_a, .inl (cI, 6, .inl o_now_habits_f)), (o_now_hard, .inr (4, [.ref o_now_hard_a])), (o_now_hard_a, .inl (cI, 21, .inl o_now_hard_f))]) (W1 := (fun (u : Unit) => [(o_stones, .inr (6, [.ref o_stones_places, .int o_now_walkers, .int o_now_steps])), (o_stones_places, .inr (4, [.ref o_stones_places_a])), (o_stones_places_a, .inl (cI, 6, .inl u4))])) (Wn := (fun (u : Unit) => [(o, .inr (8, [.ref o_text, .ref o_reader, .ref o_told, .ref o_now, .ref o_firstKept, .ref o_secondKept, .int o_keptBits, .ref o_past, .ref o_sightings, .ref o_stones, .ref o_game])), (o_now, .inr (3, [.int o_now_steps, .int o_now_mile, .int o_now_walkers, .int o_now_walked, .ref o_now_hard, .ref o_now_kinds, .ref o_now_habits])), (o_stones, .inr (6, [.ref o_stones_places, .int o_now_walkers, .int o_now_steps])), (o_now_kinds, .inr (4, [.ref o_now_kinds_a])), (o_now_kinds_a, .inl (cI, 6, .inl o_now_kinds_f)), (o_now_habits, .inr (4, [.ref o_now_habits_a])), (o_now_habits_a, .inl (cI, 6, .inl o_now_habits_f)), (o_now_hard, .inr (4, [.ref o_now_hard_a])), (o_now_hard_a, .inl (cI, 21, .inl o_now_hard_f)), (o_stones_places, .inr (4, [.ref o_stones_places_a])), (o_stones_places_a, .inl (cI, 6, .inl u4))])) (xrunV hx hb hml hown hts (c_X6_sumOf l D cI cZ _ o_stones o_now_walked o_stones_places o_now_walkers o_now_steps o_stones_places_a u4 hq1) (cwV 1 hts gX8_crossesNext_X6_sumOf rfl rfl rfl (by decide +kernel) ⟨Nat.le_of_ble_eq_true rfl, Nat.le_of_ble_eq_true rfl⟩) hE hK hP hD [2, 9, 10] rfl rfl 0 6 (T := TX6) (N := 3) rfl rfl rfl hl.1 rfl (Nat.le_of_ble_eq_true rfl) dX8_crossesNext_67 ⟨Nat.le_of_ble_eq_true rfl, Nat.le_of_ble_eq_true rfl⟩) hP hD hS hA [2, 9, 10] [0, 1, 3, 4, 5, 6, 7, 8] [0, 1, 8, 2, 3, 4, 5, 6, 7, 9, 10] rfl rfl rfl (by decide) (fun _ => rfl) rfl (fun r5 u H locs hw hz hP hD hS => ?_)
  subst hw
  refine lv_istore (lv' := [(4, .int (fX6_sumOf o_now_walked o_now_walkers u4)), (3, .int (fX6_numberOf o_now_walked o_now_walkers u1)), (2, .int (fX6_sumOf o_now_walked o_now_walkers u1)), (0, .ref o), (1, .int a1)]) hx hb dX8_crossesNext_70 hl (by decide) rfl (fun ls hl => ?_)
  refine lv_aload_n hx hb dX8_crossesNext_72 rfl (lv_at hl 3 rfl) ?_
  refine xget hx hb hts hown hK 8 (C2 := RX8) (T := TX8) (N := 11) rfl hin_8 hP 0 rfl 9 (by decide) fl_58 rfl rfl rfl dX8_crossesNext_73 ?_
  refine lv_aload_n hx hb dX8_crossesNext_76 rfl (lv_at hl 3 rfl) ?_
  refine xget hx hb hts hown hK 8 (C2 := RX8) (T := TX8) (N := 11) rfl hin_8 hP 0 rfl 3 (by decide) fl_32 rfl rfl rfl dX8_crossesNext_77 ?_
  refine xgetN hx hb hts hown hK 3 (C2 := RX3) (T := TX3) (N := 7) rfl hin_3 hP 1 rfl 3 (by decide) fl_167 rfl rfl rfl dX8_crossesNext_80 ?_
  refine xcalli (S := Unit) (Wc := [(o_stones, .inr (6, [.ref o_stones_places, .int o_now_walkers, .int o_now_steps])), (o_stones_places, .inr (4, [.ref o_stones_places_a])), (o_stones_places_a, .inl (cI, 6, .inl u4))]) (wr := [(o, .inr (8, [.ref o_text, .ref o_reader, .ref o_told, .ref o_now, .ref o_firstKept, .ref o_secondKept, .int o_keptBits, .ref o_past, .ref o_sightings, .ref o_stones, .ref o_game])), (o_now, .inr (3, [.int o_now_steps, .int o_now_mile, .int o_now_walkers, .int o_now_walked, .ref o_now_hard, .ref o_now_kinds, .ref o_now_habits])), (o_now_kinds, .inr (4, [.ref o_now_kinds_a])), (o_now_kinds_a, .inl (cI, 6, .inl o_now_kinds_f)), (o_now_habits, .inr (4, [.ref o_now_habits_a])), (o_now_habits_a, .inl (cI, 6, .inl o_now_habits_f)), (o_now_hard, .inr (4, [.ref o_now_hard_a])), (o_now_hard_a, .inl (cI, 21, .inl o_now_hard_f))]) (W1 := (fun (u : Unit) => [(o_stones, .inr (6, [.ref o_stones_places, .int o_now_walkers, .int o_now_steps])), (o_stones_places, .inr (4, [.ref o_stones_places_a])), (o_stones_places_a, .inl (cI, 6, .inl u4))])) (Wn := (fun (u : Unit) => [(o, .inr (8, [.ref o_text, .ref o_reader, .ref o_told, .ref o_now, .ref o_firstKept, .ref o_secondKept, .int o_keptBits, .ref o_past, .ref o_sightings, .ref o_stones, .ref o_game])), (o_now, .inr (3, [.int o_now_steps, .int o_now_mile, .int o_now_walkers, .int o_now_walked, .ref o_now_hard, .ref o_now_kinds, .ref o_now_habits])), (o_stones, .inr (6, [.ref o_stones_places, .int o_now_walkers, .int o_now_steps])), (o_now_kinds, .inr (4, [.ref o_now_kinds_a])), (o_now_kinds_a, .inl (cI, 6, .inl o_now_kinds_f)), (o_now_habits, .inr (4, [.ref o_now_habits_a])), (o_now_habits_a, .inl (cI, 6, .inl o_now_habits_f)), (o_now_hard, .inr (4, [.ref o_now_hard_a])), (o_now_hard_a, .inl (cI, 21, .inl o_now_hard_f)), (o_stones_places, .inr (4, [.ref o_stones_places_a])), (o_stones_places_a, .inl (cI, 6, .inl u4))])) (xrunV hx hb hml hown hts (c_X6_numberOf l D cI cZ _ o_stones o_now_walked o_stones_places o_now_walkers o_now_steps o_stones_places_a u4 hq1) (cwV 1 hts gX8_crossesNext_X6_numberOf rfl rfl rfl (by decide +kernel) ⟨Nat.le_of_ble_eq_true rfl, Nat.le_of_ble_eq_true rfl⟩) hE hK hP hD [2, 9, 10] rfl rfl 0 6 (T := TX6) (N := 3) rfl rfl rfl hl.1 rfl (Nat.le_of_ble_eq_true rfl) dX8_crossesNext_83 ⟨Nat.le_of_ble_eq_true rfl, Nat.le_of_ble_eq_true rfl⟩) hP hD hS hA [2, 9, 10] [0, 1, 3, 4, 5, 6, 7, 8] [0, 1, 8, 2, 3, 4, 5, 6, 7, 9, 10] rfl rfl rfl (by decide) (fun _ => rfl) rfl (fun r6 u H locs hw hz hP hD hS => ?_)
  subst hw
  refine lv_istore (lv' := [(5, .int (fX6_numberOf o_now_walked o_now_walkers u4)), (4, .int (fX6_sumOf o_now_walked o_now_walkers u4)), (3, .int (fX6_numberOf o_now_walked o_now_walkers u1)), (2, .int (fX6_sumOf o_now_walked o_now_walkers u1)), (0, .ref o), (1, .int a1)]) hx hb dX8_crossesNext_86 hl (by decide) rfl (fun ls hl => ?_)
  refine lv_iload_n hx hb dX8_crossesNext_88 rfl (lv_at hl 2 rfl) ?_
  have K_y_1 : ∀ (y_1 : Int32) (hy_y_1 : (if (fX6_numberOf o_now_walked o_now_walkers u1) ≤ 0 then (0 : Int32) else (if (fX6_numberOf o_now_walked o_now_walkers u4) ≤ 0 then 0 else (if ((fX6_sumOf o_now_walked o_now_walkers u1) * (fX6_numberOf o_now_walked o_now_walkers u4)) < ((fX6_sumOf o_now_walked o_now_walkers u4) * (fX6_numberOf o_now_walked o_now_walkers u1)) then 0 else 1))) = y_1) (H : Heap) (locs : List Loc) (hP : va_P D vwCl [(o, .inr (8, [.ref o_text, .ref o_reader, .ref o_told, .ref o_now, .ref o_firstKept, .ref o_secondKept, .int o_keptBits, .ref o_past, .ref o_sightings, .ref o_stones, .ref o_game])), (o_now, .inr (3, [.int o_now_steps, .int o_now_mile, .int o_now_walkers, .int o_now_walked, .ref o_now_hard, .ref o_now_kinds, .ref o_now_habits])), (o_stones, .inr (6, [.ref o_stones_places, .int o_now_walkers, .int o_now_steps])), (o_now_kinds, .inr (4, [.ref o_now_kinds_a])), (o_now_kinds_a, .inl (cI, 6, .inl o_now_kinds_f)), (o_now_habits, .inr (4, [.ref o_now_habits_a])), (o_now_habits_a, .inl (cI, 6, .inl o_now_habits_f)), (o_now_hard, .inr (4, [.ref o_now_hard_a])), (o_now_hard_a, .inl (cI, 21, .inl o_now_hard_f)), (o_stones_places, .inr (4, [.ref o_stones_places_a])), (o_stones_places_a, .inl (cI, 6, .inl u4))] H) (hD : va_D A [(o, .inr (8, [.ref o_text, .ref o_reader, .ref o_told, .ref o_now, .ref o_firstKept, .ref o_secondKept, .int o_keptBits, .ref o_past, .ref o_sightings, .ref o_stones, .ref o_game])), (o_now, .inr (3, [.int o_now_steps, .int o_now_mile, .int o_now_walkers, .int o_now_walked, .ref o_now_hard, .ref o_now_kinds, .ref o_now_habits])), (o_stones, .inr (6, [.ref o_stones_places, .int o_now_walkers, .int o_now_steps])), (o_now_kinds, .inr (4, [.ref o_now_kinds_a])), (o_now_kinds_a, .inl (cI, 6, .inl o_now_kinds_f)), (o_now_habits, .inr (4, [.ref o_now_habits_a])), (o_now_habits_a, .inl (cI, 6, .inl o_now_habits_f)), (o_now_hard, .inr (4, [.ref o_now_hard_a])), (o_now_hard_a, .inl (cI, 21, .inl o_now_hard_f)), (o_stones_places, .inr (4, [.ref o_stones_places_a])), (o_stones_places_a, .inl (cI, 6, .inl u4))]) (hS : va_S A s.heap H locs), W p l e ({ frames := 5, cells := 0, slots := 0, locals := 115 } : Room) s m ([.ref o, .int a1] : List Value).toArray below meth c H locs 0 0 Q (F0 m 113 ls [.int y_1]) := by
    intro y_1 hy_y_1 H locs hP hD hS
    have ky_y_1 : y_1 = 0 ∨ y_1 = 1 := by rw [← hy_y_1]; (repeat' split) <;> simp
    exact hret _ _ _ _ y_1 u4 (by rcases ky_y_1 with h | h <;> rw [h] <;> rfl) dX8_crossesNext_113 ((hF.trans (by simp only [fX8_crossesNext, xlet, ↓hw_1, ↓hw_4, ↓hy_y_1])).symm) hP hD hS
  refine lv_if_le (tgt := 112) hx hb dX8_crossesNext_89 (by decide) (fun c_1 => ?_) (fun c_1 => ?_)
  · refine lv_iconst (v := 0) hx hb dX8_crossesNext_112 (by decide) ?_
    exact K_y_1 _ (by simp only [xlet, if_pos c_1]) _ _ hP hD hS
  · refine lv_iload hx hb dX8_crossesNext_92 (lv_at hl 0 rfl) ?_
    refine lv_if_le (tgt := 112) hx hb dX8_crossesNext_94 (by decide) (fun c_2 => ?_) (fun c_2 => ?_)
    · refine lv_iconst (v := 0) hx hb dX8_crossesNext_112 (by decide) ?_
      exact K_y_1 _ (by simp only [xlet, if_neg c_1, if_pos c_2]) _ _ hP hD hS
    · refine lv_iload hx hb dX8_crossesNext_97 (lv_at hl 1 rfl) ?_
      refine lv_iload_n hx hb dX8_crossesNext_99 rfl (lv_at hl 2 rfl) ?_
      refine lv_imul hx hb dX8_crossesNext_100 ?_
      refine lv_iload_n hx hb dX8_crossesNext_101 rfl (lv_at hl 3 rfl) ?_
      refine lv_iload hx hb dX8_crossesNext_102 (lv_at hl 0 rfl) ?_
      refine lv_imul hx hb dX8_crossesNext_104 ?_
      refine lv_icmp_gt (tgt := 112) hx hb dX8_crossesNext_105 (by decide) (fun c_3 => ?_) (fun c_3 => ?_)
      · refine lv_iconst (v := 0) hx hb dX8_crossesNext_112 (by decide) ?_
        exact K_y_1 _ (by simp only [xlet, if_neg c_1, if_neg c_2, if_pos c_3]) _ _ hP hD hS
      · refine lv_iconst (v := 1) hx hb dX8_crossesNext_108 (by decide) ?_
        refine lv_goto (tgt := 113) hx hb dX8_crossesNext_109 (by decide) ?_
        exact K_y_1 _ (by simp only [xlet, if_neg c_1, if_neg c_2, if_neg c_3]) _ _ hP hD hS
