theorem dX9_in_0 : decode cX9_in 0 = .ok (.lload_n 0, 1) := by decide +kernel
theorem dX9_in_1 : decode cX9_in 1 = .ok (.lload_n 2, 1) := by decide +kernel
theorem dX9_in_2 : decode cX9_in 2 = .ok (.lcmp, 1) := by decide +kernel
theorem dX9_in_3 : decode cX9_in 3 = .ok (.ifCond .lt 14, 3) := by decide +kernel
theorem dX9_in_6 : decode cX9_in 6 = .ok (.lload_n 0, 1) := by decide +kernel
theorem dX9_in_7 : decode cX9_in 7 = .ok (.lload 4, 2) := by decide +kernel
theorem dX9_in_9 : decode cX9_in 9 = .ok (.lcmp, 1) := by decide +kernel
theorem dX9_in_10 : decode cX9_in 10 = .ok (.ifCond .gt 7, 3) := by decide +kernel
theorem dX9_in_13 : decode cX9_in 13 = .ok (.iconst 1, 1) := by decide +kernel
theorem dX9_in_14 : decode cX9_in 14 = .ok (.goto 4, 3) := by decide +kernel
theorem dX9_in_17 : decode cX9_in 17 = .ok (.iconst 0, 1) := by decide +kernel
theorem dX9_in_18 : decode cX9_in 18 = .ok (.ireturn, 1) := by decide +kernel
def fX9_in (a1 : Int64) (a2 : Int64) (a3 : Int64) : Int32 := xlet (if (lg_cmp a1 a2) < 0 then (0 : Int32) else (if 0 < (lg_cmp a1 a3) then 0 else 1)) (fun y_1 => y_1)
set_option maxHeartbeats 4000000 in
set_option maxRecDepth 100000 in
theorem c_X9_in (l : Launch) (D : va_G) (cI cZ : ClassId) (sz : Nat) (a1 : Int64) (a2 : Int64) (a3 : Int64)  : Met l yX9_in wsX9_in ({ frames := 0, cells := 0, slots := 0, locals := 0 } : Room) (va_Pc [.long a1, .long a2, .long a3] (xP D cI cZ [] sz)) (va_Qi (fun (r : Int32) (u : Unit) => r = fX9_in a1 a2 a3) (fun (u : Unit) t => xB D cI cZ [] (va_A [] sz) t) (va_A [] sz)) 0 0 (va_A [] sz) := by
  refine Met.ofW (cc := cX9_in) (maxL := 6) (ret := (some .boolean)) (by decide) rfl ?_
  intro p e s m args below meth c s₁ B hml hv
  obtain ⟨hargs, hsz, hP, hK, hD0, hE⟩ := hv
  subst hargs
  have hx := B.exec
  have hb := B.bytes
  have hr := B.returns
  have hts := atoms_spec (ws := wsX9_in) B.pre
  have hown : s.vm.findClass RX9 = some m.cls := findClass_of_methodNamed B.named
  have hlocks := B.notSynchronized
  subst hsz
  have hD := hD0.self (sz := s.heap.size)
  generalize hAe : va_A [] s.heap.size = A at hD ⊢
  have hA : ∀ q : Nat, s.heap.size ≤ q → A q := fun q h => by rw [← hAe]; exact Or.inr h
  have hS : va_S A s.heap s.heap [] := va_S.rf
  have hl := lv_entry ([.long a1, .long a2, .long a3]) (n := 6) (Nat.le_of_ble_eq_true rfl)
  rw [lg_entry_eq]
  generalize (lg_sl ([.long a1, .long a2, .long a3]) ++ List.replicate (6 - (lg_sl ([.long a1, .long a2, .long a3])).length) Slot.unset).toArray = ls at hl ⊢
  have hl : lv_has ls 6 [(0, .long a1), (2, .long a2), (4, .long a3)] := hl
  refine wq (X := fun Q => ∀ (pc : Nat) (H : Heap) (locs : List Loc) (ls : Array Slot) (r : Int32) (u : Unit) (hn : narrow .boolean (.int r) = .int r) (hd : decode cX9_in pc = .ok (.ireturn, 1)) (hp : r = fX9_in a1 a2 a3) (hP : va_P D vwCl [] H) (hD : va_D A []) (hS : va_S A s.heap H locs), W p l e ({ frames := 0, cells := 0, slots := 0, locals := 0 } : Room) s m ([.long a1, .long a2, .long a3] : List Value).toArray below meth c H locs 0 0 Q (F0 m pc ls [.int r])) ?_ (fun Q hret => ?_)
  · intro pc H locs ls r u hn hd hp hP hD hS
    exact W.zret (v := r) hx hb hr hn (fun t ht hW => ⟨⟨r, u, rfl, hp, by rw [ht]; exact hP, va_K.moved hW.alike hK, hD⟩, hS.F ht⟩) hS.2.2 hd
  have hF : fX9_in a1 a2 a3 = fX9_in a1 a2 a3 := rfl
  refine lv_lload_n hx hb dX9_in_0 rfl (lv_at hl 0 rfl) ?_
  refine lv_lload_n hx hb dX9_in_1 rfl (lv_at hl 1 rfl) ?_
  refine W.lcmp hx hb dX9_in_2 ?_
  have K_y_1 : ∀ (y_1 : Int32) (hy_y_1 : (if (lg_cmp a1 a2) < 0 then (0 : Int32) else (if 0 < (lg_cmp a1 a3) then 0 else 1)) = y_1) (H : Heap) (locs : List Loc) (hP : va_P D vwCl [] H) (hD : va_D A []) (hS : va_S A s.heap H locs), W p l e ({ frames := 0, cells := 0, slots := 0, locals := 0 } : Room) s m ([.long a1, .long a2, .long a3] : List Value).toArray below meth c H locs 0 0 Q (F0 m 18 ls [.int y_1]) := by
    intro y_1 hy_y_1 H locs hP hD hS
    have ky_y_1 : y_1 = 0 ∨ y_1 = 1 := by rw [← hy_y_1]; (repeat' split) <;> simp
    exact hret _ _ _ _ y_1 () (by rcases ky_y_1 with h | h <;> rw [h] <;> rfl) dX9_in_18 ((hF.trans (by simp only [fX9_in, xlet, ↓hy_y_1])).symm) hP hD hS
  refine lv_if_lt (tgt := 17) hx hb dX9_in_3 (by decide) (fun c_1 => ?_) (fun c_1 => ?_)
  · refine lv_iconst (v := 0) hx hb dX9_in_17 (by decide) ?_
    exact K_y_1 _ (by simp only [xlet, if_pos c_1]) _ _ hP hD hS
  · refine lv_lload_n hx hb dX9_in_6 rfl (lv_at hl 0 rfl) ?_
    refine lv_lload hx hb dX9_in_7 (lv_at hl 2 rfl) ?_
    refine W.lcmp hx hb dX9_in_9 ?_
    refine lv_if_gt (tgt := 17) hx hb dX9_in_10 (by decide) (fun c_2 => ?_) (fun c_2 => ?_)
    · refine lv_iconst (v := 0) hx hb dX9_in_17 (by decide) ?_
      exact K_y_1 _ (by simp only [xlet, if_neg c_1, if_pos c_2]) _ _ hP hD hS
    · refine lv_iconst (v := 1) hx hb dX9_in_13 (by decide) ?_
      refine lv_goto (tgt := 18) hx hb dX9_in_14 (by decide) ?_
      exact K_y_1 _ (by simp only [xlet, if_neg c_1, if_neg c_2]) _ _ hP hD hS
theorem bz_X9_in (a1 : Int64) (a2 : Int64) (a3 : Int64) : narrow .boolean (.int (fX9_in a1 a2 a3)) = .int (fX9_in a1 a2 a3) := by
  unfold fX9_in; try unfold xlet
  first | rfl | ((repeat' split) <;> first | rfl)
theorem dX9_bits_0 : decode cX9_bits 0 = .ok (.iconst 0, 1) := by decide +kernel
theorem dX9_bits_1 : decode cX9_bits 1 = .ok (.istore_n 1, 1) := by decide +kernel
theorem dX9_bits_2 : decode cX9_bits 2 = .ok (.iconst 0, 1) := by decide +kernel
theorem dX9_bits_3 : decode cX9_bits 3 = .ok (.istore_n 2, 1) := by decide +kernel
theorem dX9_bits_4 : decode cX9_bits 4 = .ok (.iload_n 2, 1) := by decide +kernel
theorem dX9_bits_5 : decode cX9_bits 5 = .ok (.bipush 6, 2) := by decide +kernel
theorem dX9_bits_7 : decode cX9_bits 7 = .ok (.if_icmp .ge 17, 3) := by decide +kernel
theorem dX9_bits_10 : decode cX9_bits 10 = .ok (.iload_n 1, 1) := by decide +kernel
theorem dX9_bits_11 : decode cX9_bits 11 = .ok (.iload_n 0, 1) := by decide +kernel
theorem dX9_bits_12 : decode cX9_bits 12 = .ok (.iload_n 2, 1) := by decide +kernel
theorem dX9_bits_13 : decode cX9_bits 13 = .ok (.ishr, 1) := by decide +kernel
theorem dX9_bits_14 : decode cX9_bits 14 = .ok (.iconst 1, 1) := by decide +kernel
theorem dX9_bits_15 : decode cX9_bits 15 = .ok (.iand, 1) := by decide +kernel
theorem dX9_bits_16 : decode cX9_bits 16 = .ok (.iadd, 1) := by decide +kernel
theorem dX9_bits_17 : decode cX9_bits 17 = .ok (.istore_n 1, 1) := by decide +kernel
theorem dX9_bits_18 : decode cX9_bits 18 = .ok (.iinc 2 1, 3) := by decide +kernel
theorem dX9_bits_21 : decode cX9_bits 21 = .ok (.goto (-17), 3) := by decide +kernel
theorem dX9_bits_24 : decode cX9_bits 24 = .ok (.iload_n 1, 1) := by decide +kernel
theorem dX9_bits_25 : decode cX9_bits 25 = .ok (.ireturn, 1) := by decide +kernel
def fX9_bits_4 (a1 : Int32)  : Nat → Int32 → Int32 → Int32
  | 0, _, _ => default
  | n + 1, v4_1, v4_2 => if 6 ≤ v4_2 then v4_1 else (fX9_bits_4 a1 n (v4_1 + ((a1 >>> (v4_2 &&& 31)) &&& 1)) (v4_2 + 1))
def fX9_bits (a1 : Int32) : Int32 := fX9_bits_4 a1 1000 0 0
set_option maxHeartbeats 4000000 in
set_option maxRecDepth 100000 in
theorem c_X9_bits (l : Launch) (D : va_G) (cI cZ : ClassId) (sz : Nat) (a1 : Int32)  : Met l yX9_bits wsX9_bits ({ frames := 0, cells := 0, slots := 0, locals := 0 } : Room) (va_Pc [.int a1] (xP D cI cZ [] sz)) (va_Qi (fun (r : Int32) (u : Unit) => r = fX9_bits a1) (fun (u : Unit) t => xB D cI cZ [] (va_A [] sz) t) (va_A [] sz)) 0 0 (va_A [] sz) := by
  refine Met.ofW (cc := cX9_bits) (maxL := 3) (ret := (some .int)) (by decide) rfl ?_
  intro p e s m args below meth c s₁ B hml hv
  obtain ⟨hargs, hsz, hP, hK, hD0, hE⟩ := hv
  subst hargs
  have hx := B.exec
  have hb := B.bytes
  have hr := B.returns
  have hts := atoms_spec (ws := wsX9_bits) B.pre
  have hown : s.vm.findClass RX9 = some m.cls := findClass_of_methodNamed B.named
  have hlocks := B.notSynchronized
  subst hsz
  have hD := hD0.self (sz := s.heap.size)
  generalize hAe : va_A [] s.heap.size = A at hD ⊢
  have hA : ∀ q : Nat, s.heap.size ≤ q → A q := fun q h => by rw [← hAe]; exact Or.inr h
  have hS : va_S A s.heap s.heap [] := va_S.rf
  have hl := lv_entry ([.int a1]) (n := 3) (Nat.le_of_ble_eq_true rfl)
  rw [lg_entry_eq]
  generalize (lg_sl ([.int a1]) ++ List.replicate (3 - (lg_sl ([.int a1])).length) Slot.unset).toArray = ls at hl ⊢
  have hl : lv_has ls 3 [(0, .int a1)] := hl
  refine wq (X := fun Q => ∀ (pc : Nat) (H : Heap) (locs : List Loc) (ls : Array Slot) (r : Int32) (u : Unit) (hd : decode cX9_bits pc = .ok (.ireturn, 1)) (hp : r = fX9_bits a1) (hP : va_P D vwCl [] H) (hD : va_D A []) (hS : va_S A s.heap H locs), W p l e ({ frames := 0, cells := 0, slots := 0, locals := 0 } : Room) s m ([.int a1] : List Value).toArray below meth c H locs 0 0 Q (F0 m pc ls [.int r])) ?_ (fun Q hret => ?_)
  · intro pc H locs ls r u hd hp hP hD hS
    exact W.iret (v := r) hx hb hr (fun t ht hW => ⟨⟨r, u, rfl, hp, by rw [ht]; exact hP, va_K.moved hW.alike hK, hD⟩, hS.F ht⟩) hS.2.2 hd
  have zl_0 : (0 : Int32).toInt = 0 := by decide
  have zl_1 : (1 : Int32).toInt = 1 := by decide
  have zl_6 : (6 : Int32).toInt = 6 := by decide
  have hF : fX9_bits a1 = fX9_bits a1 := rfl
  have L_4 : ∀ (n : Nat) (v4_1 : Int32) (v4_2 : Int32) (h1_4 : 0 ≤ v4_2.toInt) (h2_4 : v4_2.toInt ≤ 6) (hm : 6 - v4_2.toInt < (n : Int)) (H : Heap) (locs : List Loc) (ls : Array Slot) (hl : lv_has ls 3 [(0, .int a1), (1, .int v4_1), (2, .int v4_2)]) (hP : va_P D vwCl [] H) (hD : va_D A []) (hS : va_S A s.heap H locs) (hF : fX9_bits a1 = fX9_bits_4 a1 n v4_1 v4_2), W p l e ({ frames := 0, cells := 0, slots := 0, locals := 0 } : Room) s m ([.int a1] : List Value).toArray below meth c H locs 0 0 Q (F0 m 4 ls []) := by
    intro n
    induction n with
    | zero =>
      intro v4_1 v4_2 h1_4 h2_4 hm H locs ls hl hP hD hS hF
      exact absurd hm (by omega)
    | succ n ih_4 =>
      intro v4_1 v4_2 h1_4 h2_4 hm H locs ls hl hP hD hS hF
      refine lv_iload_n hx hb dX9_bits_4 rfl (lv_at hl 2 rfl) ?_
      refine lv_bipush (v := 6) hx hb dX9_bits_5 (by decide) ?_
      refine lv_icmp_ge (tgt := 24) hx hb dX9_bits_7 (by decide) (fun c_1 => ?_) (fun c_1 => ?_)
      · have kc_1 := t_le c_1
        refine lv_iload_n hx hb dX9_bits_24 rfl (lv_at hl 1 rfl) ?_
        exact hret _ _ _ _ v4_1 () dX9_bits_25 ((hF.trans (by simp only [fX9_bits_4, xlet, if_pos c_1])).symm) hP hD hS
      · have kc_1 := t_nle c_1
        refine lv_iload_n hx hb dX9_bits_10 rfl (lv_at hl 1 rfl) ?_
        refine lv_iload_n hx hb dX9_bits_11 rfl (lv_at hl 0 rfl) ?_
        refine lv_iload_n hx hb dX9_bits_12 rfl (lv_at hl 2 rfl) ?_
        refine lv_ishr hx hb dX9_bits_13 ?_
        refine lv_iconst (v := 1) hx hb dX9_bits_14 (by decide) ?_
        refine lv_iand hx hb dX9_bits_15 ?_
        refine lv_iadd hx hb dX9_bits_16 ?_
        refine lv_istore_n (lv' := [(1, .int (v4_1 + ((a1 >>> (v4_2 &&& 31)) &&& 1))), (0, .int a1), (2, .int v4_2)]) hx hb dX9_bits_17 rfl hl (by decide) rfl (fun ls hl => ?_)
        refine lv_iinc (v := (v4_2 + 1)) (lv' := [(2, .int (v4_2 + 1)), (1, .int (v4_1 + ((a1 >>> (v4_2 &&& 31)) &&& 1))), (0, .int a1)]) hx hb dX9_bits_18 hl (k := 2) rfl (by rfl) (by decide) rfl (fun ls hl => ?_)
        refine lv_goto (tgt := 4) hx hb dX9_bits_21 (by decide) ?_
        have z_1 : (v4_2 + 1).toInt = v4_2.toInt + (1 : Int32).toInt := z_add (by omega) (by omega)
        exact ih_4 (v4_1 + ((a1 >>> (v4_2 &&& 31)) &&& 1)) (v4_2 + 1) (by first | assumption | omega | decide | (split <;> rename_i hh <;> first | (have h9 := t_nlt hh; omega) | (have h9 := t_lt hh; omega) | (have h9 := t_nle hh; omega) | (have h9 := t_le hh; omega))) (by first | assumption | omega | decide | (split <;> rename_i hh <;> first | (have h9 := t_nlt hh; omega) | (have h9 := t_lt hh; omega) | (have h9 := t_nle hh; omega) | (have h9 := t_le hh; omega))) (by first | assumption | omega | decide | (split <;> rename_i hh <;> first | (have h9 := t_nlt hh; omega) | (have h9 := t_lt hh; omega) | (have h9 := t_nle hh; omega) | (have h9 := t_le hh; omega))) _ _ _ (lv_sub hl [2, 1, 0] rfl) hP hD hS (hF.trans (by simp only [fX9_bits_4, xlet, if_neg c_1]))
  refine lv_iconst (v := 0) hx hb dX9_bits_0 (by decide) ?_
  refine lv_istore_n (lv' := [(1, .int 0), (0, .int a1)]) hx hb dX9_bits_1 rfl hl (by decide) rfl (fun ls hl => ?_)
  refine lv_iconst (v := 0) hx hb dX9_bits_2 (by decide) ?_
  refine lv_istore_n (lv' := [(2, .int 0), (1, .int 0), (0, .int a1)]) hx hb dX9_bits_3 rfl hl (by decide) rfl (fun ls hl => ?_)
  exact L_4 1000 0 0 (by first | assumption | omega | decide | (split <;> rename_i hh <;> first | (have h9 := t_nlt hh; omega) | (have h9 := t_lt hh; omega) | (have h9 := t_nle hh; omega) | (have h9 := t_le hh; omega))) (by first | assumption | omega | decide | (split <;> rename_i hh <;> first | (have h9 := t_nlt hh; omega) | (have h9 := t_lt hh; omega) | (have h9 := t_nle hh; omega) | (have h9 := t_le hh; omega))) (by first | assumption | omega | decide | (split <;> rename_i hh <;> first | (have h9 := t_nlt hh; omega) | (have h9 := t_lt hh; omega) | (have h9 := t_nle hh; omega) | (have h9 := t_le hh; omega))) _ _ _ (lv_sub hl [2, 1, 0] rfl) hP hD hS (hF.trans (by simp only [fX9_bits, xlet]))
set_option maxRecDepth 20000 in
theorem ggX9_isSmall_X9_in : GoodIn wsX9_isSmall wsX9_in := goodIn_r _ [6] (by decide +kernel) (by decide +kernel)
set_option maxRecDepth 20000 in
theorem gX9_isSmall_X9_in : GoodIn wsX9_isSmall (va_wsS RX9 52 yX9_in wsX9_in) := goodIn_app (goodIn_of _ (by decide +kernel)) ggX9_isSmall_X9_in
theorem dX9_isSmall_0 : decode cX9_isSmall 0 = .ok (.iload_n 0, 1) := by decide +kernel
theorem dX9_isSmall_1 : decode cX9_isSmall 1 = .ok (.i2l, 1) := by decide +kernel
theorem dX9_isSmall_2 : decode cX9_isSmall 2 = .ok (.ldc2_w 61, 3) := by decide +kernel
theorem dX9_isSmall_5 : decode cX9_isSmall 5 = .ok (.ldc2_w 63, 3) := by decide +kernel
theorem dX9_isSmall_8 : decode cX9_isSmall 8 = .ok (.invokestatic 52, 3) := by decide +kernel
theorem dX9_isSmall_11 : decode cX9_isSmall 11 = .ok (.ireturn, 1) := by decide +kernel
def fX9_isSmall (a1 : Int32) : Int32 := (fX9_in a1.toInt64 97 122)
set_option maxHeartbeats 4000000 in
set_option maxRecDepth 100000 in
theorem c_X9_isSmall (l : Launch) (D : va_G) (cI cZ : ClassId) (sz : Nat) (a1 : Int32)  : Met l yX9_isSmall wsX9_isSmall ({ frames := 1, cells := 0, slots := 0, locals := 25 } : Room) (va_Pc [.int a1] (xP D cI cZ [] sz)) (va_Qi (fun (r : Int32) (u : Unit) => r = fX9_isSmall a1) (fun (u : Unit) t => xB D cI cZ [] (va_A [] sz) t) (va_A [] sz)) 0 0 (va_A [] sz) := by
  refine Met.ofW (cc := cX9_isSmall) (maxL := 1) (ret := (some .boolean)) (by decide) rfl ?_
  intro p e s m args below meth c s₁ B hml hv
  obtain ⟨hargs, hsz, hP, hK, hD0, hE⟩ := hv
  subst hargs
  have hx := B.exec
  have hb := B.bytes
  have hr := B.returns
  have hts := atoms_spec (ws := wsX9_isSmall) B.pre
  have hown : s.vm.findClass RX9 = some m.cls := findClass_of_methodNamed B.named
  have hlocks := B.notSynchronized
  subst hsz
  have hD := hD0.self (sz := s.heap.size)
  generalize hAe : va_A [] s.heap.size = A at hD ⊢
  have hA : ∀ q : Nat, s.heap.size ≤ q → A q := fun q h => by rw [← hAe]; exact Or.inr h
  have hS : va_S A s.heap s.heap [] := va_S.rf
  have hl := lv_entry ([.int a1]) (n := 1) (Nat.le_of_ble_eq_true rfl)
  rw [lg_entry_eq]
  generalize (lg_sl ([.int a1]) ++ List.replicate (1 - (lg_sl ([.int a1])).length) Slot.unset).toArray = ls at hl ⊢
  have hl : lv_has ls 1 [(0, .int a1)] := hl
  refine wq (X := fun Q => ∀ (pc : Nat) (H : Heap) (locs : List Loc) (ls : Array Slot) (r : Int32) (u : Unit) (hn : narrow .boolean (.int r) = .int r) (hd : decode cX9_isSmall pc = .ok (.ireturn, 1)) (hp : r = fX9_isSmall a1) (hP : va_P D vwCl [] H) (hD : va_D A []) (hS : va_S A s.heap H locs), W p l e ({ frames := 1, cells := 0, slots := 0, locals := 25 } : Room) s m ([.int a1] : List Value).toArray below meth c H locs 0 0 Q (F0 m pc ls [.int r])) ?_ (fun Q hret => ?_)
  · intro pc H locs ls r u hn hd hp hP hD hS
    exact W.zret (v := r) hx hb hr hn (fun t ht hW => ⟨⟨r, u, rfl, hp, by rw [ht]; exact hP, va_K.moved hW.alike hK, hD⟩, hS.F ht⟩) hS.2.2 hd
  have hF : fX9_isSmall a1 = fX9_isSmall a1 := rfl
  refine lv_iload_n hx hb dX9_isSmall_0 rfl (lv_at hl 0 rfl) ?_
  refine lv_i2l (v := a1.toInt64) hx hb dX9_isSmall_1 rfl ?_
  refine lv_ldc2 (v := 97) hx hb hown (hts (.constantLong RX9 61 97) (by decide +kernel)) dX9_isSmall_2 ?_
  refine lv_ldc2 (v := 122) hx hb hown (hts (.constantLong RX9 63 122) (by decide +kernel)) dX9_isSmall_5 ?_
  refine xcalli (S := Unit) (Wc := []) (wr := []) (W1 := (fun (u : Unit) => [])) (Wn := (fun (u : Unit) => [])) (xrunS hx hb hml hown hts (c_X9_in l D cI cZ _ a1.toInt64 97 122 ) (va_cwS 3 hts gX9_isSmall_X9_in rfl rfl rfl (by decide +kernel) ⟨Nat.le_of_ble_eq_true rfl, Nat.le_of_ble_eq_true rfl⟩) hE hK hP hD [] rfl rfl rfl hl.1 rfl (Nat.le_of_ble_eq_true rfl) dX9_isSmall_8 ⟨Nat.le_of_ble_eq_true rfl, Nat.le_of_ble_eq_true rfl⟩) hP hD hS hA [] [] [] rfl rfl rfl (by decide) (fun _ => rfl) rfl (fun r1 u H locs hw hz hP hD hS => ?_)
  subst hw
  exact hret _ _ _ _ (fX9_in a1.toInt64 97 122) () (bz_X9_in _ _ _) dX9_isSmall_11 ((hF.trans (by simp only [fX9_isSmall, xlet])).symm) hP hD hS
theorem bz_X9_isSmall (a1 : Int32) : narrow .boolean (.int (fX9_isSmall a1)) = .int (fX9_isSmall a1) := by
  unfold fX9_isSmall; try unfold xlet
  first | rfl | exact bz_X9_in _ _ _ | ((repeat' split) <;> first | rfl | exact bz_X9_in _ _ _)
set_option maxRecDepth 20000 in
theorem ggX9_isDigit_X9_in : GoodIn wsX9_isDigit wsX9_in := goodIn_r _ [6] (by decide +kernel) (by decide +kernel)
set_option maxRecDepth 20000 in
theorem gX9_isDigit_X9_in : GoodIn wsX9_isDigit (va_wsS RX9 52 yX9_in wsX9_in) := goodIn_app (goodIn_of _ (by decide +kernel)) ggX9_isDigit_X9_in
theorem dX9_isDigit_0 : decode cX9_isDigit 0 = .ok (.iload_n 0, 1) := by decide +kernel
theorem dX9_isDigit_1 : decode cX9_isDigit 1 = .ok (.i2l, 1) := by decide +kernel
theorem dX9_isDigit_2 : decode cX9_isDigit 2 = .ok (.ldc2_w 65, 3) := by decide +kernel
theorem dX9_isDigit_5 : decode cX9_isDigit 5 = .ok (.ldc2_w 67, 3) := by decide +kernel
theorem dX9_isDigit_8 : decode cX9_isDigit 8 = .ok (.invokestatic 52, 3) := by decide +kernel
theorem dX9_isDigit_11 : decode cX9_isDigit 11 = .ok (.ireturn, 1) := by decide +kernel
def fX9_isDigit (a1 : Int32) : Int32 := (fX9_in a1.toInt64 48 57)
set_option maxHeartbeats 4000000 in
set_option maxRecDepth 100000 in
theorem c_X9_isDigit (l : Launch) (D : va_G) (cI cZ : ClassId) (sz : Nat) (a1 : Int32)  : Met l yX9_isDigit wsX9_isDigit ({ frames := 1, cells := 0, slots := 0, locals := 25 } : Room) (va_Pc [.int a1] (xP D cI cZ [] sz)) (va_Qi (fun (r : Int32) (u : Unit) => r = fX9_isDigit a1) (fun (u : Unit) t => xB D cI cZ [] (va_A [] sz) t) (va_A [] sz)) 0 0 (va_A [] sz) := by
  refine Met.ofW (cc := cX9_isDigit) (maxL := 1) (ret := (some .boolean)) (by decide) rfl ?_
  intro p e s m args below meth c s₁ B hml hv
  obtain ⟨hargs, hsz, hP, hK, hD0, hE⟩ := hv
  subst hargs
  have hx := B.exec
  have hb := B.bytes
  have hr := B.returns
  have hts := atoms_spec (ws := wsX9_isDigit) B.pre
  have hown : s.vm.findClass RX9 = some m.cls := findClass_of_methodNamed B.named
  have hlocks := B.notSynchronized
  subst hsz
  have hD := hD0.self (sz := s.heap.size)
  generalize hAe : va_A [] s.heap.size = A at hD ⊢
  have hA : ∀ q : Nat, s.heap.size ≤ q → A q := fun q h => by rw [← hAe]; exact Or.inr h
  have hS : va_S A s.heap s.heap [] := va_S.rf
  have hl := lv_entry ([.int a1]) (n := 1) (Nat.le_of_ble_eq_true rfl)
  rw [lg_entry_eq]
  generalize (lg_sl ([.int a1]) ++ List.replicate (1 - (lg_sl ([.int a1])).length) Slot.unset).toArray = ls at hl ⊢
  have hl : lv_has ls 1 [(0, .int a1)] := hl
  refine wq (X := fun Q => ∀ (pc : Nat) (H : Heap) (locs : List Loc) (ls : Array Slot) (r : Int32) (u : Unit) (hn : narrow .boolean (.int r) = .int r) (hd : decode cX9_isDigit pc = .ok (.ireturn, 1)) (hp : r = fX9_isDigit a1) (hP : va_P D vwCl [] H) (hD : va_D A []) (hS : va_S A s.heap H locs), W p l e ({ frames := 1, cells := 0, slots := 0, locals := 25 } : Room) s m ([.int a1] : List Value).toArray below meth c H locs 0 0 Q (F0 m pc ls [.int r])) ?_ (fun Q hret => ?_)
  · intro pc H locs ls r u hn hd hp hP hD hS
    exact W.zret (v := r) hx hb hr hn (fun t ht hW => ⟨⟨r, u, rfl, hp, by rw [ht]; exact hP, va_K.moved hW.alike hK, hD⟩, hS.F ht⟩) hS.2.2 hd
  have hF : fX9_isDigit a1 = fX9_isDigit a1 := rfl
  refine lv_iload_n hx hb dX9_isDigit_0 rfl (lv_at hl 0 rfl) ?_
  refine lv_i2l (v := a1.toInt64) hx hb dX9_isDigit_1 rfl ?_
  refine lv_ldc2 (v := 48) hx hb hown (hts (.constantLong RX9 65 48) (by decide +kernel)) dX9_isDigit_2 ?_
  refine lv_ldc2 (v := 57) hx hb hown (hts (.constantLong RX9 67 57) (by decide +kernel)) dX9_isDigit_5 ?_
  refine xcalli (S := Unit) (Wc := []) (wr := []) (W1 := (fun (u : Unit) => [])) (Wn := (fun (u : Unit) => [])) (xrunS hx hb hml hown hts (c_X9_in l D cI cZ _ a1.toInt64 48 57 ) (va_cwS 3 hts gX9_isDigit_X9_in rfl rfl rfl (by decide +kernel) ⟨Nat.le_of_ble_eq_true rfl, Nat.le_of_ble_eq_true rfl⟩) hE hK hP hD [] rfl rfl rfl hl.1 rfl (Nat.le_of_ble_eq_true rfl) dX9_isDigit_8 ⟨Nat.le_of_ble_eq_true rfl, Nat.le_of_ble_eq_true rfl⟩) hP hD hS hA [] [] [] rfl rfl rfl (by decide) (fun _ => rfl) rfl (fun r1 u H locs hw hz hP hD hS => ?_)
  subst hw
  exact hret _ _ _ _ (fX9_in a1.toInt64 48 57) () (bz_X9_in _ _ _) dX9_isDigit_11 ((hF.trans (by simp only [fX9_isDigit, xlet])).symm) hP hD hS
theorem bz_X9_isDigit (a1 : Int32) : narrow .boolean (.int (fX9_isDigit a1)) = .int (fX9_isDigit a1) := by
  unfold fX9_isDigit; try unfold xlet
  first | rfl | exact bz_X9_in _ _ _ | ((repeat' split) <;> first | rfl | exact bz_X9_in _ _ _)
theorem dX9_word_0 : decode cX9_word 0 = .ok (.lconst 0, 1) := by decide +kernel
theorem dX9_word_1 : decode cX9_word 1 = .ok (.lstore 6, 2) := by decide +kernel
theorem dX9_word_3 : decode cX9_word 3 = .ok (.ldc2_w 86, 3) := by decide +kernel
theorem dX9_word_6 : decode cX9_word 6 = .ok (.lload 6, 2) := by decide +kernel
theorem dX9_word_8 : decode cX9_word 8 = .ok (.lmul, 1) := by decide +kernel
theorem dX9_word_9 : decode cX9_word 9 = .ok (.iload_n 0, 1) := by decide +kernel
theorem dX9_word_10 : decode cX9_word 10 = .ok (.i2l, 1) := by decide +kernel
theorem dX9_word_11 : decode cX9_word 11 = .ok (.ladd, 1) := by decide +kernel
theorem dX9_word_12 : decode cX9_word 12 = .ok (.lstore 6, 2) := by decide +kernel
theorem dX9_word_14 : decode cX9_word 14 = .ok (.ldc2_w 86, 3) := by decide +kernel
theorem dX9_word_17 : decode cX9_word 17 = .ok (.lload 6, 2) := by decide +kernel
theorem dX9_word_19 : decode cX9_word 19 = .ok (.lmul, 1) := by decide +kernel
theorem dX9_word_20 : decode cX9_word 20 = .ok (.iload_n 1, 1) := by decide +kernel
theorem dX9_word_21 : decode cX9_word 21 = .ok (.i2l, 1) := by decide +kernel
theorem dX9_word_22 : decode cX9_word 22 = .ok (.ladd, 1) := by decide +kernel
theorem dX9_word_23 : decode cX9_word 23 = .ok (.lstore 6, 2) := by decide +kernel
theorem dX9_word_25 : decode cX9_word 25 = .ok (.ldc2_w 86, 3) := by decide +kernel
theorem dX9_word_28 : decode cX9_word 28 = .ok (.lload 6, 2) := by decide +kernel
theorem dX9_word_30 : decode cX9_word 30 = .ok (.lmul, 1) := by decide +kernel
theorem dX9_word_31 : decode cX9_word 31 = .ok (.iload_n 2, 1) := by decide +kernel
theorem dX9_word_32 : decode cX9_word 32 = .ok (.i2l, 1) := by decide +kernel
theorem dX9_word_33 : decode cX9_word 33 = .ok (.ladd, 1) := by decide +kernel
theorem dX9_word_34 : decode cX9_word 34 = .ok (.lstore 6, 2) := by decide +kernel
theorem dX9_word_36 : decode cX9_word 36 = .ok (.iload_n 3, 1) := by decide +kernel
theorem dX9_word_37 : decode cX9_word 37 = .ok (.ifCond .ne 8, 3) := by decide +kernel
theorem dX9_word_40 : decode cX9_word 40 = .ok (.lload 6, 2) := by decide +kernel
theorem dX9_word_42 : decode cX9_word 42 = .ok (.goto 12, 3) := by decide +kernel
theorem dX9_word_45 : decode cX9_word 45 = .ok (.ldc2_w 86, 3) := by decide +kernel
theorem dX9_word_48 : decode cX9_word 48 = .ok (.lload 6, 2) := by decide +kernel
theorem dX9_word_50 : decode cX9_word 50 = .ok (.lmul, 1) := by decide +kernel
theorem dX9_word_51 : decode cX9_word 51 = .ok (.iload_n 3, 1) := by decide +kernel
theorem dX9_word_52 : decode cX9_word 52 = .ok (.i2l, 1) := by decide +kernel
theorem dX9_word_53 : decode cX9_word 53 = .ok (.ladd, 1) := by decide +kernel
theorem dX9_word_54 : decode cX9_word 54 = .ok (.lstore 6, 2) := by decide +kernel
theorem dX9_word_56 : decode cX9_word 56 = .ok (.iload 4, 2) := by decide +kernel
theorem dX9_word_58 : decode cX9_word 58 = .ok (.ifCond .ne 8, 3) := by decide +kernel
theorem dX9_word_61 : decode cX9_word 61 = .ok (.lload 6, 2) := by decide +kernel
theorem dX9_word_63 : decode cX9_word 63 = .ok (.goto 13, 3) := by decide +kernel
theorem dX9_word_66 : decode cX9_word 66 = .ok (.ldc2_w 86, 3) := by decide +kernel
theorem dX9_word_69 : decode cX9_word 69 = .ok (.lload 6, 2) := by decide +kernel
theorem dX9_word_71 : decode cX9_word 71 = .ok (.lmul, 1) := by decide +kernel
theorem dX9_word_72 : decode cX9_word 72 = .ok (.iload 4, 2) := by decide +kernel
theorem dX9_word_74 : decode cX9_word 74 = .ok (.i2l, 1) := by decide +kernel
theorem dX9_word_75 : decode cX9_word 75 = .ok (.ladd, 1) := by decide +kernel
theorem dX9_word_76 : decode cX9_word 76 = .ok (.lstore 6, 2) := by decide +kernel
theorem dX9_word_78 : decode cX9_word 78 = .ok (.iload 5, 2) := by decide +kernel
theorem dX9_word_80 : decode cX9_word 80 = .ok (.ifCond .ne 8, 3) := by decide +kernel
theorem dX9_word_83 : decode cX9_word 83 = .ok (.lload 6, 2) := by decide +kernel
theorem dX9_word_85 : decode cX9_word 85 = .ok (.goto 13, 3) := by decide +kernel
theorem dX9_word_88 : decode cX9_word 88 = .ok (.ldc2_w 86, 3) := by decide +kernel
theorem dX9_word_91 : decode cX9_word 91 = .ok (.lload 6, 2) := by decide +kernel
theorem dX9_word_93 : decode cX9_word 93 = .ok (.lmul, 1) := by decide +kernel
theorem dX9_word_94 : decode cX9_word 94 = .ok (.iload 5, 2) := by decide +kernel
theorem dX9_word_96 : decode cX9_word 96 = .ok (.i2l, 1) := by decide +kernel
theorem dX9_word_97 : decode cX9_word 97 = .ok (.ladd, 1) := by decide +kernel
theorem dX9_word_98 : decode cX9_word 98 = .ok (.lreturn, 1) := by decide +kernel
def fX9_word (a1 : Int32) (a2 : Int32) (a3 : Int32) (a4 : Int32) (a5 : Int32) (a6 : Int32) : Int64 := xlet (if a4 = 0 then ((32 * ((32 * ((32 * 0) + a1.toInt64)) + a2.toInt64)) + a3.toInt64) else ((32 * ((32 * ((32 * ((32 * 0) + a1.toInt64)) + a2.toInt64)) + a3.toInt64)) + a4.toInt64)) (fun y_1 => xlet (if a5 = 0 then y_1 else ((32 * y_1) + a5.toInt64)) (fun y_2 => xlet (if a6 = 0 then y_2 else ((32 * y_2) + a6.toInt64)) (fun y_3 => y_3)))
set_option maxHeartbeats 4000000 in
set_option maxRecDepth 100000 in
theorem c_X9_word (l : Launch) (D : va_G) (cI cZ : ClassId) (sz : Nat) (a1 : Int32) (a2 : Int32) (a3 : Int32) (a4 : Int32) (a5 : Int32) (a6 : Int32)  : Met l yX9_word wsX9_word ({ frames := 0, cells := 0, slots := 0, locals := 0 } : Room) (va_Pc [.int a1, .int a2, .int a3, .int a4, .int a5, .int a6] (xP D cI cZ [] sz)) (va_Ql (fun (r : Int64) (u : Unit) => r = fX9_word a1 a2 a3 a4 a5 a6) (fun (u : Unit) t => xB D cI cZ [] (va_A [] sz) t) (va_A [] sz)) 0 0 (va_A [] sz) := by
  refine Met.ofW (cc := cX9_word) (maxL := 8) (ret := (some .long)) (by decide) rfl ?_
  intro p e s m args below meth c s₁ B hml hv
  obtain ⟨hargs, hsz, hP, hK, hD0, hE⟩ := hv
  subst hargs
  have hx := B.exec
  have hb := B.bytes
  have hr := B.returns
  have hts := atoms_spec (ws := wsX9_word) B.pre
  have hown : s.vm.findClass RX9 = some m.cls := findClass_of_methodNamed B.named
  have hlocks := B.notSynchronized
  subst hsz
  have hD := hD0.self (sz := s.heap.size)
  generalize hAe : va_A [] s.heap.size = A at hD ⊢
  have hA : ∀ q : Nat, s.heap.size ≤ q → A q := fun q h => by rw [← hAe]; exact Or.inr h
  have hS : va_S A s.heap s.heap [] := va_S.rf
  have hl := lv_entry ([.int a1, .int a2, .int a3, .int a4, .int a5, .int a6]) (n := 8) (Nat.le_of_ble_eq_true rfl)
  rw [lg_entry_eq]
  generalize (lg_sl ([.int a1, .int a2, .int a3, .int a4, .int a5, .int a6]) ++ List.replicate (8 - (lg_sl ([.int a1, .int a2, .int a3, .int a4, .int a5, .int a6])).length) Slot.unset).toArray = ls at hl ⊢
  have hl : lv_has ls 8 [(0, .int a1), (1, .int a2), (2, .int a3), (3, .int a4), (4, .int a5), (5, .int a6)] := hl
  refine wq (X := fun Q => ∀ (pc : Nat) (H : Heap) (locs : List Loc) (ls : Array Slot) (r : Int64) (u : Unit) (hd : decode cX9_word pc = .ok (.lreturn, 1)) (hp : r = fX9_word a1 a2 a3 a4 a5 a6) (hP : va_P D vwCl [] H) (hD : va_D A []) (hS : va_S A s.heap H locs), W p l e ({ frames := 0, cells := 0, slots := 0, locals := 0 } : Room) s m ([.int a1, .int a2, .int a3, .int a4, .int a5, .int a6] : List Value).toArray below meth c H locs 0 0 Q (F0 m pc ls [.long r])) ?_ (fun Q hret => ?_)
  · intro pc H locs ls r u hd hp hP hD hS
    exact W.lret (v := r) hx hb hr (fun t ht hW => ⟨⟨r, u, rfl, hp, by rw [ht]; exact hP, va_K.moved hW.alike hK, hD⟩, hS.F ht⟩) hS.2.2 hd
  have hF : fX9_word a1 a2 a3 a4 a5 a6 = fX9_word a1 a2 a3 a4 a5 a6 := rfl
  refine lv_lconst (v := 0) hx hb dX9_word_0 (by decide) ?_
  refine lv_lstore (lv' := [(6, .long 0), (0, .int a1), (1, .int a2), (2, .int a3), (3, .int a4), (4, .int a5), (5, .int a6)]) hx hb dX9_word_1 hl (by decide) rfl (fun ls hl => ?_)
  refine lv_ldc2 (v := 32) hx hb hown (hts (.constantLong RX9 86 32) (by decide +kernel)) dX9_word_3 ?_
  refine lv_lload hx hb dX9_word_6 (lv_at hl 0 rfl) ?_
  refine lv_lmul hx hb dX9_word_8 ?_
  refine lv_iload_n hx hb dX9_word_9 rfl (lv_at hl 1 rfl) ?_
  refine lv_i2l (v := a1.toInt64) hx hb dX9_word_10 rfl ?_
  refine lv_ladd hx hb dX9_word_11 ?_
  refine lv_lstore (lv' := [(6, .long ((32 * 0) + a1.toInt64)), (0, .int a1), (1, .int a2), (2, .int a3), (3, .int a4), (4, .int a5), (5, .int a6)]) hx hb dX9_word_12 hl (by decide) rfl (fun ls hl => ?_)
  refine lv_ldc2 (v := 32) hx hb hown (hts (.constantLong RX9 86 32) (by decide +kernel)) dX9_word_14 ?_
  refine lv_lload hx hb dX9_word_17 (lv_at hl 0 rfl) ?_
  refine lv_lmul hx hb dX9_word_19 ?_
  refine lv_iload_n hx hb dX9_word_20 rfl (lv_at hl 2 rfl) ?_
  refine lv_i2l (v := a2.toInt64) hx hb dX9_word_21 rfl ?_
  refine lv_ladd hx hb dX9_word_22 ?_
  refine lv_lstore (lv' := [(6, .long ((32 * ((32 * 0) + a1.toInt64)) + a2.toInt64)), (0, .int a1), (1, .int a2), (2, .int a3), (3, .int a4), (4, .int a5), (5, .int a6)]) hx hb dX9_word_23 hl (by decide) rfl (fun ls hl => ?_)
  refine lv_ldc2 (v := 32) hx hb hown (hts (.constantLong RX9 86 32) (by decide +kernel)) dX9_word_25 ?_
  refine lv_lload hx hb dX9_word_28 (lv_at hl 0 rfl) ?_
  refine lv_lmul hx hb dX9_word_30 ?_
  refine lv_iload_n hx hb dX9_word_31 rfl (lv_at hl 3 rfl) ?_
  refine lv_i2l (v := a3.toInt64) hx hb dX9_word_32 rfl ?_
  refine lv_ladd hx hb dX9_word_33 ?_
  refine lv_lstore (lv' := [(6, .long ((32 * ((32 * ((32 * 0) + a1.toInt64)) + a2.toInt64)) + a3.toInt64)), (0, .int a1), (1, .int a2), (2, .int a3), (3, .int a4), (4, .int a5), (5, .int a6)]) hx hb dX9_word_34 hl (by decide) rfl (fun ls hl => ?_)
  refine lv_iload_n hx hb dX9_word_36 rfl (lv_at hl 4 rfl) ?_
  have K_y_1 : ∀ (y_1 : Int64) (hy_y_1 : (if a4 = 0 then ((32 * ((32 * ((32 * 0) + a1.toInt64)) + a2.toInt64)) + a3.toInt64) else ((32 * ((32 * ((32 * ((32 * 0) + a1.toInt64)) + a2.toInt64)) + a3.toInt64)) + a4.toInt64)) = y_1) (H : Heap) (locs : List Loc) (hP : va_P D vwCl [] H) (hD : va_D A []) (hS : va_S A s.heap H locs), W p l e ({ frames := 0, cells := 0, slots := 0, locals := 0 } : Room) s m ([.int a1, .int a2, .int a3, .int a4, .int a5, .int a6] : List Value).toArray below meth c H locs 0 0 Q (F0 m 54 ls [.long y_1]) := by
    intro y_1 hy_y_1 H locs hP hD hS
    refine lv_lstore (lv' := [(6, .long y_1), (0, .int a1), (1, .int a2), (2, .int a3), (3, .int a4), (4, .int a5), (5, .int a6)]) hx hb dX9_word_54 hl (by decide) rfl (fun ls hl => ?_)
    refine lv_iload hx hb dX9_word_56 (lv_at hl 5 rfl) ?_
    have K_y_2 : ∀ (y_2 : Int64) (hy_y_2 : (if a5 = 0 then y_1 else ((32 * y_1) + a5.toInt64)) = y_2) (H : Heap) (locs : List Loc) (hP : va_P D vwCl [] H) (hD : va_D A []) (hS : va_S A s.heap H locs), W p l e ({ frames := 0, cells := 0, slots := 0, locals := 0 } : Room) s m ([.int a1, .int a2, .int a3, .int a4, .int a5, .int a6] : List Value).toArray below meth c H locs 0 0 Q (F0 m 76 ls [.long y_2]) := by
      intro y_2 hy_y_2 H locs hP hD hS
      refine lv_lstore (lv' := [(6, .long y_2), (0, .int a1), (1, .int a2), (2, .int a3), (3, .int a4), (4, .int a5), (5, .int a6)]) hx hb dX9_word_76 hl (by decide) rfl (fun ls hl => ?_)
      refine lv_iload hx hb dX9_word_78 (lv_at hl 6 rfl) ?_
      have K_y_3 : ∀ (y_3 : Int64) (hy_y_3 : (if a6 = 0 then y_2 else ((32 * y_2) + a6.toInt64)) = y_3) (H : Heap) (locs : List Loc) (hP : va_P D vwCl [] H) (hD : va_D A []) (hS : va_S A s.heap H locs), W p l e ({ frames := 0, cells := 0, slots := 0, locals := 0 } : Room) s m ([.int a1, .int a2, .int a3, .int a4, .int a5, .int a6] : List Value).toArray below meth c H locs 0 0 Q (F0 m 98 ls [.long y_3]) := by
        intro y_3 hy_y_3 H locs hP hD hS
        exact hret _ _ _ _ y_3 () dX9_word_98 ((hF.trans (by simp only [fX9_word, xlet, ↓hy_y_1, ↓hy_y_2, ↓hy_y_3])).symm) hP hD hS
      refine lv_if_ne (tgt := 88) hx hb dX9_word_80 (by decide) (fun c_3 => ?_) (fun c_3 => ?_)
      · refine lv_ldc2 (v := 32) hx hb hown (hts (.constantLong RX9 86 32) (by decide +kernel)) dX9_word_88 ?_
        refine lv_lload hx hb dX9_word_91 (lv_at hl 0 rfl) ?_
        refine lv_lmul hx hb dX9_word_93 ?_
        refine lv_iload hx hb dX9_word_94 (lv_at hl 6 rfl) ?_
        refine lv_i2l (v := a6.toInt64) hx hb dX9_word_96 rfl ?_
        refine lv_ladd hx hb dX9_word_97 ?_
        exact K_y_3 _ (by simp only [xlet, if_neg c_3]) _ _ hP hD hS
      · refine lv_lload hx hb dX9_word_83 (lv_at hl 0 rfl) ?_
        refine lv_goto (tgt := 98) hx hb dX9_word_85 (by decide) ?_
        exact K_y_3 _ (by simp only [xlet, if_pos c_3]) _ _ hP hD hS
    refine lv_if_ne (tgt := 66) hx hb dX9_word_58 (by decide) (fun c_2 => ?_) (fun c_2 => ?_)
    · refine lv_ldc2 (v := 32) hx hb hown (hts (.constantLong RX9 86 32) (by decide +kernel)) dX9_word_66 ?_
      refine lv_lload hx hb dX9_word_69 (lv_at hl 0 rfl) ?_
      refine lv_lmul hx hb dX9_word_71 ?_
      refine lv_iload hx hb dX9_word_72 (lv_at hl 5 rfl) ?_
      refine lv_i2l (v := a5.toInt64) hx hb dX9_word_74 rfl ?_
      refine lv_ladd hx hb dX9_word_75 ?_
      exact K_y_2 _ (by simp only [xlet, if_neg c_2]) _ _ hP hD hS
    · refine lv_lload hx hb dX9_word_61 (lv_at hl 0 rfl) ?_
      refine lv_goto (tgt := 76) hx hb dX9_word_63 (by decide) ?_
      exact K_y_2 _ (by simp only [xlet, if_pos c_2]) _ _ hP hD hS
  refine lv_if_ne (tgt := 45) hx hb dX9_word_37 (by decide) (fun c_1 => ?_) (fun c_1 => ?_)
  · refine lv_ldc2 (v := 32) hx hb hown (hts (.constantLong RX9 86 32) (by decide +kernel)) dX9_word_45 ?_
    refine lv_lload hx hb dX9_word_48 (lv_at hl 0 rfl) ?_
    refine lv_lmul hx hb dX9_word_50 ?_
    refine lv_iload_n hx hb dX9_word_51 rfl (lv_at hl 4 rfl) ?_
    refine lv_i2l (v := a4.toInt64) hx hb dX9_word_52 rfl ?_
    refine lv_ladd hx hb dX9_word_53 ?_
    exact K_y_1 _ (by simp only [xlet, if_neg c_1]) _ _ hP hD hS
  · refine lv_lload hx hb dX9_word_40 (lv_at hl 0 rfl) ?_
    refine lv_goto (tgt := 54) hx hb dX9_word_42 (by decide) ?_
    exact K_y_1 _ (by simp only [xlet, if_pos c_1]) _ _ hP hD hS
theorem dX9_layRoad_0 : decode cX9_layRoad 0 = .ok (.iconst 0, 1) := by decide +kernel
theorem dX9_layRoad_1 : decode cX9_layRoad 1 = .ok (.istore_n 2, 1) := by decide +kernel
theorem dX9_layRoad_2 : decode cX9_layRoad 2 = .ok (.iload_n 2, 1) := by decide +kernel
theorem dX9_layRoad_3 : decode cX9_layRoad 3 = .ok (.bipush 36, 2) := by decide +kernel
theorem dX9_layRoad_5 : decode cX9_layRoad 5 = .ok (.if_icmp .ge 13, 3) := by decide +kernel
theorem dX9_layRoad_8 : decode cX9_layRoad 8 = .ok (.aload_n 0, 1) := by decide +kernel
theorem dX9_layRoad_9 : decode cX9_layRoad 9 = .ok (.iload_n 2, 1) := by decide +kernel
theorem dX9_layRoad_10 : decode cX9_layRoad 10 = .ok (.iconst 0, 1) := by decide +kernel
theorem dX9_layRoad_11 : decode cX9_layRoad 11 = .ok (.iastore, 1) := by decide +kernel
theorem dX9_layRoad_12 : decode cX9_layRoad 12 = .ok (.iinc 2 1, 3) := by decide +kernel
theorem dX9_layRoad_15 : decode cX9_layRoad 15 = .ok (.goto (-13), 3) := by decide +kernel
theorem dX9_layRoad_18 : decode cX9_layRoad 18 = .ok (.aload_n 0, 1) := by decide +kernel
theorem dX9_layRoad_19 : decode cX9_layRoad 19 = .ok (.iconst 0, 1) := by decide +kernel
theorem dX9_layRoad_20 : decode cX9_layRoad 20 = .ok (.iload_n 1, 1) := by decide +kernel
theorem dX9_layRoad_21 : decode cX9_layRoad 21 = .ok (.iastore, 1) := by decide +kernel
theorem dX9_layRoad_22 : decode cX9_layRoad 22 = .ok (.aload_n 0, 1) := by decide +kernel
theorem dX9_layRoad_23 : decode cX9_layRoad 23 = .ok (.iconst 1, 1) := by decide +kernel
theorem dX9_layRoad_24 : decode cX9_layRoad 24 = .ok (.bipush 10, 2) := by decide +kernel
theorem dX9_layRoad_26 : decode cX9_layRoad 26 = .ok (.iastore, 1) := by decide +kernel
theorem dX9_layRoad_27 : decode cX9_layRoad 27 = .ok (.iconst 0, 1) := by decide +kernel
theorem dX9_layRoad_28 : decode cX9_layRoad 28 = .ok (.istore_n 2, 1) := by decide +kernel
theorem dX9_layRoad_29 : decode cX9_layRoad 29 = .ok (.iload_n 2, 1) := by decide +kernel
theorem dX9_layRoad_30 : decode cX9_layRoad 30 = .ok (.iload_n 1, 1) := by decide +kernel
theorem dX9_layRoad_31 : decode cX9_layRoad 31 = .ok (.if_icmp .ge 15, 3) := by decide +kernel
theorem dX9_layRoad_34 : decode cX9_layRoad 34 = .ok (.aload_n 0, 1) := by decide +kernel
theorem dX9_layRoad_35 : decode cX9_layRoad 35 = .ok (.iconst 4, 1) := by decide +kernel
theorem dX9_layRoad_36 : decode cX9_layRoad 36 = .ok (.iload_n 2, 1) := by decide +kernel
theorem dX9_layRoad_37 : decode cX9_layRoad 37 = .ok (.iadd, 1) := by decide +kernel
theorem dX9_layRoad_38 : decode cX9_layRoad 38 = .ok (.iconst 3, 1) := by decide +kernel
theorem dX9_layRoad_39 : decode cX9_layRoad 39 = .ok (.iastore, 1) := by decide +kernel
theorem dX9_layRoad_40 : decode cX9_layRoad 40 = .ok (.iinc 2 1, 3) := by decide +kernel
theorem dX9_layRoad_43 : decode cX9_layRoad 43 = .ok (.goto (-14), 3) := by decide +kernel
theorem dX9_layRoad_46 : decode cX9_layRoad 46 = .ok (.return_, 1) := by decide +kernel
def fX9_layRoad_29 (a2 : Int32)  : Nat → (Nat → Int32) → Int32 → (Nat → Int32)
  | 0, _, _ => default
  | n + 1, a1_f_29, v29_2 => if a2 ≤ v29_2 then a1_f_29 else (fX9_layRoad_29 a2 n (upd a1_f_29 (4 + v29_2).toNatClampNeg 3) (v29_2 + 1))
def fX9_layRoad_2 (a2 : Int32)  : Nat → (Nat → Int32) → Int32 → (Nat → Int32)
  | 0, _, _ => default
  | n + 1, a1_f_2, v2_2 => if 36 ≤ v2_2 then (fX9_layRoad_29 a2 1000 (upd (upd a1_f_2 0 a2) 1 10) 0) else (fX9_layRoad_2 a2 n (upd a1_f_2 v2_2.toNatClampNeg 0) (v2_2 + 1))
def fX9_layRoad (a2 : Int32) (a1_f : Nat → Int32) : (Nat → Int32) := fX9_layRoad_2 a2 1000 a1_f 0
set_option maxHeartbeats 4000000 in
set_option maxRecDepth 100000 in
theorem c_X9_layRoad (l : Launch) (D : va_G) (cI cZ : ClassId) (sz : Nat) (a1 : Nat) (a2 : Int32) (a1_f : Nat → Int32) (ha2 : a2.toInt ≤ 20) : Met l yX9_layRoad wsX9_layRoad ({ frames := 0, cells := 0, slots := 0, locals := 0 } : Room) (va_Pc [.ref a1, .int a2] (xP D cI cZ [(a1, .inl (cI, 36, .inl a1_f))] sz)) (va_Qv (fun (u : (Nat → Int32)) => u = fX9_layRoad a2 a1_f) (fun (u : (Nat → Int32)) t => xB D cI cZ [(a1, .inl (cI, 36, .inl u))] (va_A [(a1, .inl (cI, 36, .inl a1_f))] sz) t) (va_A [(a1, .inl (cI, 36, .inl a1_f))] sz)) 0 0 (va_A [(a1, .inl (cI, 36, .inl a1_f))] sz) := by
  refine Met.ofW (cc := cX9_layRoad) (maxL := 3) (ret := none) (by decide) rfl ?_
  intro p e s m args below meth c s₁ B hml hv
  obtain ⟨hargs, hsz, hP, hK, hD0, hE⟩ := hv
  subst hargs
  have hx := B.exec
  have hb := B.bytes
  have hr := B.returns
  have hts := atoms_spec (ws := wsX9_layRoad) B.pre
  have hown : s.vm.findClass RX9 = some m.cls := findClass_of_methodNamed B.named
  have hlocks := B.notSynchronized
  subst hsz
  have hD := hD0.self (sz := s.heap.size)
  generalize hAe : va_A [(a1, .inl (cI, 36, .inl a1_f))] s.heap.size = A at hD ⊢
  have hA : ∀ q : Nat, s.heap.size ≤ q → A q := fun q h => by rw [← hAe]; exact Or.inr h
  have hS : va_S A s.heap s.heap [] := va_S.rf
  have hl := lv_entry ([.ref a1, .int a2]) (n := 3) (Nat.le_of_ble_eq_true rfl)
  rw [lg_entry_eq]
  generalize (lg_sl ([.ref a1, .int a2]) ++ List.replicate (3 - (lg_sl ([.ref a1, .int a2])).length) Slot.unset).toArray = ls at hl ⊢
  have hl : lv_has ls 3 [(0, .ref a1), (1, .int a2)] := hl
  refine wq (X := fun Q => ∀ (pc : Nat) (H : Heap) (locs : List Loc) (ls : Array Slot) (u : (Nat → Int32)) (hd : decode cX9_layRoad pc = .ok (.return_, 1)) (hp : u = fX9_layRoad a2 a1_f) (hP : va_P D vwCl [(a1, .inl (cI, 36, .inl u))] H) (hD : va_D A [(a1, .inl (cI, 36, .inl u))]) (hS : va_S A s.heap H locs), W p l e ({ frames := 0, cells := 0, slots := 0, locals := 0 } : Room) s m ([.ref a1, .int a2] : List Value).toArray below meth c H locs 0 0 Q (F0 m pc ls [])) ?_ (fun Q hret => ?_)
  · intro pc H locs ls u hd hp hP hD hS
    exact W.vret hx hb hr (fun t ht hW => ⟨⟨u, rfl, hp, by rw [ht]; exact hP, va_K.moved hW.alike hK, hD⟩, hS.F ht⟩) hS.2.2 hd
  have zl_0 : (0 : Int32).toInt = 0 := by decide
  have zl_1 : (1 : Int32).toInt = 1 := by decide
  have zl_4 : (4 : Int32).toInt = 4 := by decide
  have zl_36 : (36 : Int32).toInt = 36 := by decide
  have hF : fX9_layRoad a2 a1_f = fX9_layRoad a2 a1_f := rfl
  have L_2 : ∀ (n : Nat) (a1_f_2 : Nat → Int32) (v2_2 : Int32) (h1_2 : 0 ≤ v2_2.toInt) (h2_2 : v2_2.toInt ≤ 36) (hm : 36 - v2_2.toInt < (n : Int)) (H : Heap) (locs : List Loc) (ls : Array Slot) (hl : lv_has ls 3 [(0, .ref a1), (1, .int a2), (2, .int v2_2)]) (hP : va_P D vwCl [(a1, .inl (cI, 36, .inl a1_f_2))] H) (hD : va_D A [(a1, .inl (cI, 36, .inl a1_f_2))]) (hS : va_S A s.heap H locs) (hF : fX9_layRoad a2 a1_f = fX9_layRoad_2 a2 n a1_f_2 v2_2), W p l e ({ frames := 0, cells := 0, slots := 0, locals := 0 } : Room) s m ([.ref a1, .int a2] : List Value).toArray below meth c H locs 0 0 Q (F0 m 2 ls []) := by
    intro n
    induction n with
    | zero =>
      intro a1_f_2 v2_2 h1_2 h2_2 hm H locs ls hl hP hD hS hF
      exact absurd hm (by omega)
    | succ n ih_2 =>
      intro a1_f_2 v2_2 h1_2 h2_2 hm H locs ls hl hP hD hS hF
      have L_29 : ∀ (n : Nat) (a1_f_29 : Nat → Int32) (v29_2 : Int32) (h1_29 : 0 ≤ v29_2.toInt) (h2_29 : v29_2.toInt ≤ 20) (hm : 20 - v29_2.toInt < (n : Int)) (H : Heap) (locs : List Loc) (ls : Array Slot) (hl : lv_has ls 3 [(0, .ref a1), (1, .int a2), (2, .int v29_2)]) (hP : va_P D vwCl [(a1, .inl (cI, 36, .inl a1_f_29))] H) (hD : va_D A [(a1, .inl (cI, 36, .inl a1_f_29))]) (hS : va_S A s.heap H locs) (hF : fX9_layRoad a2 a1_f = fX9_layRoad_29 a2 n a1_f_29 v29_2), W p l e ({ frames := 0, cells := 0, slots := 0, locals := 0 } : Room) s m ([.ref a1, .int a2] : List Value).toArray below meth c H locs 0 0 Q (F0 m 29 ls []) := by
        intro n
        induction n with
        | zero =>
          intro a1_f_29 v29_2 h1_29 h2_29 hm H locs ls hl hP hD hS hF
          exact absurd hm (by omega)
        | succ n ih_29 =>
          intro a1_f_29 v29_2 h1_29 h2_29 hm H locs ls hl hP hD hS hF
          refine lv_iload_n hx hb dX9_layRoad_29 rfl (lv_at hl 2 rfl) ?_
          refine lv_iload_n hx hb dX9_layRoad_30 rfl (lv_at hl 1 rfl) ?_
          refine lv_icmp_ge (tgt := 46) hx hb dX9_layRoad_31 (by decide) (fun c_2 => ?_) (fun c_2 => ?_)
          · have kc_2 := t_le c_2
            exact hret _ _ _ _ a1_f_29 dX9_layRoad_46 ((hF.trans (by simp only [fX9_layRoad_29, xlet, if_pos c_2])).symm) hP hD hS
          · have kc_2 := t_nle c_2
            refine lv_aload_n hx hb dX9_layRoad_34 rfl (lv_at hl 0 rfl) ?_
            refine lv_iconst (v := 4) hx hb dX9_layRoad_35 (by decide) ?_
            refine lv_iload_n hx hb dX9_layRoad_36 rfl (lv_at hl 2 rfl) ?_
            refine lv_iadd hx hb dX9_layRoad_37 ?_
            refine lv_iconst (v := 3) hx hb dX9_layRoad_38 (by decide) ?_
            have z_2 : (4 + v29_2).toInt = (4 : Int32).toInt + v29_2.toInt := z_add (by omega) (by omega)
            refine xast hx hb hK hP hD hS 0 0 (k := (4 + v29_2).toNatClampNeg) rfl rfl (vi (by omega) (by omega)) rfl dX9_layRoad_39 [(a1, .inl (cI, 36, .inl (upd a1_f_29 (4 + v29_2).toNatClampNeg 3)))] rfl (fun H locs hP hD hS => ?_)
            refine lv_iinc (v := (v29_2 + 1)) (lv' := [(2, .int (v29_2 + 1)), (0, .ref a1), (1, .int a2)]) hx hb dX9_layRoad_40 hl (k := 2) rfl (by rfl) (by decide) rfl (fun ls hl => ?_)
            refine lv_goto (tgt := 29) hx hb dX9_layRoad_43 (by decide) ?_
            have z_3 : (v29_2 + 1).toInt = v29_2.toInt + (1 : Int32).toInt := z_add (by omega) (by omega)
            exact ih_29 (upd a1_f_29 (4 + v29_2).toNatClampNeg 3) (v29_2 + 1) (by first | assumption | omega | decide | (split <;> rename_i hh <;> first | (have h9 := t_nlt hh; omega) | (have h9 := t_lt hh; omega) | (have h9 := t_nle hh; omega) | (have h9 := t_le hh; omega))) (by first | assumption | omega | decide | (split <;> rename_i hh <;> first | (have h9 := t_nlt hh; omega) | (have h9 := t_lt hh; omega) | (have h9 := t_nle hh; omega) | (have h9 := t_le hh; omega))) (by first | assumption | omega | decide | (split <;> rename_i hh <;> first | (have h9 := t_nlt hh; omega) | (have h9 := t_lt hh; omega) | (have h9 := t_nle hh; omega) | (have h9 := t_le hh; omega))) _ _ _ (lv_sub hl [1, 2, 0] rfl) hP hD hS (hF.trans (by simp only [fX9_layRoad_29, xlet, if_neg c_2]))
      refine lv_iload_n hx hb dX9_layRoad_2 rfl (lv_at hl 2 rfl) ?_
      refine lv_bipush (v := 36) hx hb dX9_layRoad_3 (by decide) ?_
      refine lv_icmp_ge (tgt := 18) hx hb dX9_layRoad_5 (by decide) (fun c_1 => ?_) (fun c_1 => ?_)
      · have kc_1 := t_le c_1
        refine lv_aload_n hx hb dX9_layRoad_18 rfl (lv_at hl 0 rfl) ?_
        refine lv_iconst (v := 0) hx hb dX9_layRoad_19 (by decide) ?_
        refine lv_iload_n hx hb dX9_layRoad_20 rfl (lv_at hl 1 rfl) ?_
        refine xast hx hb hK hP hD hS 0 0 (k := 0) rfl rfl (vi (by decide) (by decide)) (by decide) dX9_layRoad_21 [(a1, .inl (cI, 36, .inl (upd a1_f_2 0 a2)))] rfl (fun H locs hP hD hS => ?_)
        refine lv_aload_n hx hb dX9_layRoad_22 rfl (lv_at hl 0 rfl) ?_
        refine lv_iconst (v := 1) hx hb dX9_layRoad_23 (by decide) ?_
        refine lv_bipush (v := 10) hx hb dX9_layRoad_24 (by decide) ?_
        refine xast hx hb hK hP hD hS 0 0 (k := 1) rfl rfl (vi (by decide) (by decide)) (by decide) dX9_layRoad_26 [(a1, .inl (cI, 36, .inl (upd (upd a1_f_2 0 a2) 1 10)))] rfl (fun H locs hP hD hS => ?_)
        refine lv_iconst (v := 0) hx hb dX9_layRoad_27 (by decide) ?_
        refine lv_istore_n (lv' := [(2, .int 0), (0, .ref a1), (1, .int a2)]) hx hb dX9_layRoad_28 rfl hl (by decide) rfl (fun ls hl => ?_)
        exact L_29 1000 (upd (upd a1_f_2 0 a2) 1 10) 0 (by first | assumption | omega | decide | (split <;> rename_i hh <;> first | (have h9 := t_nlt hh; omega) | (have h9 := t_lt hh; omega) | (have h9 := t_nle hh; omega) | (have h9 := t_le hh; omega))) (by first | assumption | omega | decide | (split <;> rename_i hh <;> first | (have h9 := t_nlt hh; omega) | (have h9 := t_lt hh; omega) | (have h9 := t_nle hh; omega) | (have h9 := t_le hh; omega))) (by first | assumption | omega | decide | (split <;> rename_i hh <;> first | (have h9 := t_nlt hh; omega) | (have h9 := t_lt hh; omega) | (have h9 := t_nle hh; omega) | (have h9 := t_le hh; omega))) _ _ _ (lv_sub hl [1, 2, 0] rfl) hP hD hS (hF.trans (by simp only [fX9_layRoad_2, xlet, if_pos c_1]))
      · have kc_1 := t_nle c_1
        refine lv_aload_n hx hb dX9_layRoad_8 rfl (lv_at hl 0 rfl) ?_
        refine lv_iload_n hx hb dX9_layRoad_9 rfl (lv_at hl 2 rfl) ?_
        refine lv_iconst (v := 0) hx hb dX9_layRoad_10 (by decide) ?_
        refine xast hx hb hK hP hD hS 0 0 (k := v2_2.toNatClampNeg) rfl rfl (vi (by omega) (by omega)) rfl dX9_layRoad_11 [(a1, .inl (cI, 36, .inl (upd a1_f_2 v2_2.toNatClampNeg 0)))] rfl (fun H locs hP hD hS => ?_)
        refine lv_iinc (v := (v2_2 + 1)) (lv' := [(2, .int (v2_2 + 1)), (0, .ref a1), (1, .int a2)]) hx hb dX9_layRoad_12 hl (k := 2) rfl (by rfl) (by decide) rfl (fun ls hl => ?_)
        refine lv_goto (tgt := 2) hx hb dX9_layRoad_15 (by decide) ?_
        have z_1 : (v2_2 + 1).toInt = v2_2.toInt + (1 : Int32).toInt := z_add (by omega) (by omega)
        exact ih_2 (upd a1_f_2 v2_2.toNatClampNeg 0) (v2_2 + 1) (by first | assumption | omega | decide | (split <;> rename_i hh <;> first | (have h9 := t_nlt hh; omega) | (have h9 := t_lt hh; omega) | (have h9 := t_nle hh; omega) | (have h9 := t_le hh; omega))) (by first | assumption | omega | decide | (split <;> rename_i hh <;> first | (have h9 := t_nlt hh; omega) | (have h9 := t_lt hh; omega) | (have h9 := t_nle hh; omega) | (have h9 := t_le hh; omega))) (by first | assumption | omega | decide | (split <;> rename_i hh <;> first | (have h9 := t_nlt hh; omega) | (have h9 := t_lt hh; omega) | (have h9 := t_nle hh; omega) | (have h9 := t_le hh; omega))) _ _ _ (lv_sub hl [1, 2, 0] rfl) hP hD hS (hF.trans (by simp only [fX9_layRoad_2, xlet, if_neg c_1]))
  refine lv_iconst (v := 0) hx hb dX9_layRoad_0 (by decide) ?_
  refine lv_istore_n (lv' := [(2, .int 0), (0, .ref a1), (1, .int a2)]) hx hb dX9_layRoad_1 rfl hl (by decide) rfl (fun ls hl => ?_)
  exact L_2 1000 a1_f 0 (by first | assumption | omega | decide | (split <;> rename_i hh <;> first | (have h9 := t_nlt hh; omega) | (have h9 := t_lt hh; omega) | (have h9 := t_nle hh; omega) | (have h9 := t_le hh; omega))) (by first | assumption | omega | decide | (split <;> rename_i hh <;> first | (have h9 := t_nlt hh; omega) | (have h9 := t_lt hh; omega) | (have h9 := t_nle hh; omega) | (have h9 := t_le hh; omega))) (by first | assumption | omega | decide | (split <;> rename_i hh <;> first | (have h9 := t_nlt hh; omega) | (have h9 := t_lt hh; omega) | (have h9 := t_nle hh; omega) | (have h9 := t_le hh; omega))) _ _ _ (lv_sub hl [1, 2, 0] rfl) hP hD hS (hF.trans (by simp only [fX9_layRoad, xlet]))
set_option maxRecDepth 20000 in
theorem ggX9_isWalker_X9_in : GoodIn wsX9_isWalker wsX9_in := goodIn_r _ [5] (by decide +kernel) (by decide +kernel)
set_option maxRecDepth 20000 in
theorem gX9_isWalker_X9_in : GoodIn wsX9_isWalker (va_wsS RX9 52 yX9_in wsX9_in) := goodIn_app (goodIn_of _ (by decide +kernel)) ggX9_isWalker_X9_in
theorem dX9_isWalker_0 : decode cX9_isWalker 0 = .ok (.iload_n 1, 1) := by decide +kernel
theorem dX9_isWalker_1 : decode cX9_isWalker 1 = .ok (.i2l, 1) := by decide +kernel
theorem dX9_isWalker_2 : decode cX9_isWalker 2 = .ok (.lconst 0, 1) := by decide +kernel
theorem dX9_isWalker_3 : decode cX9_isWalker 3 = .ok (.aload_n 0, 1) := by decide +kernel
theorem dX9_isWalker_4 : decode cX9_isWalker 4 = .ok (.getfield 7, 3) := by decide +kernel
theorem dX9_isWalker_7 : decode cX9_isWalker 7 = .ok (.iconst 2, 1) := by decide +kernel
theorem dX9_isWalker_8 : decode cX9_isWalker 8 = .ok (.iaload, 1) := by decide +kernel
theorem dX9_isWalker_9 : decode cX9_isWalker 9 = .ok (.iconst 1, 1) := by decide +kernel
theorem dX9_isWalker_10 : decode cX9_isWalker 10 = .ok (.isub, 1) := by decide +kernel
theorem dX9_isWalker_11 : decode cX9_isWalker 11 = .ok (.i2l, 1) := by decide +kernel
theorem dX9_isWalker_12 : decode cX9_isWalker 12 = .ok (.invokestatic 52, 3) := by decide +kernel
theorem dX9_isWalker_15 : decode cX9_isWalker 15 = .ok (.ireturn, 1) := by decide +kernel
def fX9_isWalker (a1 : Int32) (o_road_f : Nat → Int32) : Int32 := (fX9_in a1.toInt64 0 (((o_road_f 2) - 1).toInt64))
set_option maxHeartbeats 4000000 in
set_option maxRecDepth 100000 in
theorem c_X9_isWalker (l : Launch) (D : va_G) (cI cZ : ClassId) (sz : Nat) (o : Nat) (a1 : Int32) (o_road : Nat) (o_told : Nat) (o_fresh : Nat) (o_was : Nat) (o_acts : Int32) (o_kept : Nat) (o_isKept : Nat) (o_sights : Nat) (o_many : Int32) (o_text : Nat) (o_letters : Int32) (o_thrown : Int32) (o_cursor : Int32) (o_token : Int32) (o_start : Int32) (o_value : Int64) (o_isFault : Int32) (o_faultAt : Int32) (o_above : Int32) (o_below : Int32) (o_topOf : Nat) (o_partsOf : Nat) (o_sent : Nat) (o_road_f : Nat → Int32)  : Met l yX9_isWalker wsX9_isWalker ({ frames := 1, cells := 0, slots := 0, locals := 25 } : Room) (va_Pc [.ref o, .int a1] (xP D cI cZ [(o, .inr (9, [.ref o_road, .ref o_told, .ref o_fresh, .ref o_was, .int o_acts, .ref o_kept, .ref o_isKept, .ref o_sights, .int o_many, .ref o_text, .int o_letters, .int o_thrown, .int o_cursor, .int o_token, .int o_start, .long o_value, .int o_isFault, .int o_faultAt, .int o_above, .int o_below, .ref o_topOf, .ref o_partsOf, .ref o_sent])), (o_road, .inl (cI, 36, .inl o_road_f))] sz)) (va_Qi (fun (r : Int32) (u : Unit) => r = fX9_isWalker a1 o_road_f) (fun (u : Unit) t => xB D cI cZ [(o, .inr (9, [.ref o_road, .ref o_told, .ref o_fresh, .ref o_was, .int o_acts, .ref o_kept, .ref o_isKept, .ref o_sights, .int o_many, .ref o_text, .int o_letters, .int o_thrown, .int o_cursor, .int o_token, .int o_start, .long o_value, .int o_isFault, .int o_faultAt, .int o_above, .int o_below, .ref o_topOf, .ref o_partsOf, .ref o_sent])), (o_road, .inl (cI, 36, .inl o_road_f))] (va_A [(o, .inr (9, [.ref o_road, .ref o_told, .ref o_fresh, .ref o_was, .int o_acts, .ref o_kept, .ref o_isKept, .ref o_sights, .int o_many, .ref o_text, .int o_letters, .int o_thrown, .int o_cursor, .int o_token, .int o_start, .long o_value, .int o_isFault, .int o_faultAt, .int o_above, .int o_below, .ref o_topOf, .ref o_partsOf, .ref o_sent])), (o_road, .inl (cI, 36, .inl o_road_f))] sz) t) (va_A [(o, .inr (9, [.ref o_road, .ref o_told, .ref o_fresh, .ref o_was, .int o_acts, .ref o_kept, .ref o_isKept, .ref o_sights, .int o_many, .ref o_text, .int o_letters, .int o_thrown, .int o_cursor, .int o_token, .int o_start, .long o_value, .int o_isFault, .int o_faultAt, .int o_above, .int o_below, .ref o_topOf, .ref o_partsOf, .ref o_sent])), (o_road, .inl (cI, 36, .inl o_road_f))] sz)) 0 0 (va_A [(o, .inr (9, [.ref o_road, .ref o_told, .ref o_fresh, .ref o_was, .int o_acts, .ref o_kept, .ref o_isKept, .ref o_sights, .int o_many, .ref o_text, .int o_letters, .int o_thrown, .int o_cursor, .int o_token, .int o_start, .long o_value, .int o_isFault, .int o_faultAt, .int o_above, .int o_below, .ref o_topOf, .ref o_partsOf, .ref o_sent])), (o_road, .inl (cI, 36, .inl o_road_f))] sz) := by
  refine Met.ofW (cc := cX9_isWalker) (maxL := 2) (ret := (some .boolean)) (by decide) rfl ?_
  intro p e s m args below meth c s₁ B hml hv
  obtain ⟨hargs, hsz, hP, hK, hD0, hE⟩ := hv
  subst hargs
  have hx := B.exec
  have hb := B.bytes
  have hr := B.returns
  have hts := atoms_spec (ws := wsX9_isWalker) B.pre
  have hown : s.vm.findClass RX9 = some m.cls := findClass_of_methodNamed B.named
  have hlocks := B.notSynchronized
  subst hsz
  have hD := hD0.self (sz := s.heap.size)
  generalize hAe : va_A [(o, .inr (9, [.ref o_road, .ref o_told, .ref o_fresh, .ref o_was, .int o_acts, .ref o_kept, .ref o_isKept, .ref o_sights, .int o_many, .ref o_text, .int o_letters, .int o_thrown, .int o_cursor, .int o_token, .int o_start, .long o_value, .int o_isFault, .int o_faultAt, .int o_above, .int o_below, .ref o_topOf, .ref o_partsOf, .ref o_sent])), (o_road, .inl (cI, 36, .inl o_road_f))] s.heap.size = A at hD ⊢
  have hA : ∀ q : Nat, s.heap.size ≤ q → A q := fun q h => by rw [← hAe]; exact Or.inr h
  have hS : va_S A s.heap s.heap [] := va_S.rf
  have hl := lv_entry ([.ref o, .int a1]) (n := 2) (Nat.le_of_ble_eq_true rfl)
  rw [lg_entry_eq]
  generalize (lg_sl ([.ref o, .int a1]) ++ List.replicate (2 - (lg_sl ([.ref o, .int a1])).length) Slot.unset).toArray = ls at hl ⊢
  have hl : lv_has ls 2 [(0, .ref o), (1, .int a1)] := hl
  refine wq (X := fun Q => ∀ (pc : Nat) (H : Heap) (locs : List Loc) (ls : Array Slot) (r : Int32) (u : Unit) (hn : narrow .boolean (.int r) = .int r) (hd : decode cX9_isWalker pc = .ok (.ireturn, 1)) (hp : r = fX9_isWalker a1 o_road_f) (hP : va_P D vwCl [(o, .inr (9, [.ref o_road, .ref o_told, .ref o_fresh, .ref o_was, .int o_acts, .ref o_kept, .ref o_isKept, .ref o_sights, .int o_many, .ref o_text, .int o_letters, .int o_thrown, .int o_cursor, .int o_token, .int o_start, .long o_value, .int o_isFault, .int o_faultAt, .int o_above, .int o_below, .ref o_topOf, .ref o_partsOf, .ref o_sent])), (o_road, .inl (cI, 36, .inl o_road_f))] H) (hD : va_D A [(o, .inr (9, [.ref o_road, .ref o_told, .ref o_fresh, .ref o_was, .int o_acts, .ref o_kept, .ref o_isKept, .ref o_sights, .int o_many, .ref o_text, .int o_letters, .int o_thrown, .int o_cursor, .int o_token, .int o_start, .long o_value, .int o_isFault, .int o_faultAt, .int o_above, .int o_below, .ref o_topOf, .ref o_partsOf, .ref o_sent])), (o_road, .inl (cI, 36, .inl o_road_f))]) (hS : va_S A s.heap H locs), W p l e ({ frames := 1, cells := 0, slots := 0, locals := 25 } : Room) s m ([.ref o, .int a1] : List Value).toArray below meth c H locs 0 0 Q (F0 m pc ls [.int r])) ?_ (fun Q hret => ?_)
  · intro pc H locs ls r u hn hd hp hP hD hS
    exact W.zret (v := r) hx hb hr hn (fun t ht hW => ⟨⟨r, u, rfl, hp, by rw [ht]; exact hP, va_K.moved hW.alike hK, hD⟩, hS.F ht⟩) hS.2.2 hd
  have hin_9 : ∀ w ∈ u_ws RX9 TX9 23, w ∈ wsX9_isWalker := by decide +kernel
  have fl_7 := hts (.fieldLink RX9 7 "MileRoadModel" "road" "[I") (by decide +kernel)
  have hF : fX9_isWalker a1 o_road_f = fX9_isWalker a1 o_road_f := rfl
  refine lv_iload_n hx hb dX9_isWalker_0 rfl (lv_at hl 1 rfl) ?_
  refine lv_i2l (v := a1.toInt64) hx hb dX9_isWalker_1 rfl ?_
  refine lv_lconst (v := 0) hx hb dX9_isWalker_2 (by decide) ?_
  refine lv_aload_n hx hb dX9_isWalker_3 rfl (lv_at hl 0 rfl) ?_
  refine xget hx hb hts hown hK 9 (C2 := RX9) (T := TX9) (N := 23) rfl hin_9 hP 0 rfl 0 (by decide) fl_7 rfl rfl rfl dX9_isWalker_4 ?_
  refine lv_iconst (v := 2) hx hb dX9_isWalker_7 (by decide) ?_
  refine xald hx hb hK hP 1 0 (k := 2) rfl rfl (vi (by decide) (by decide)) (by decide) dX9_isWalker_8 ?_
  refine lv_iconst (v := 1) hx hb dX9_isWalker_9 (by decide) ?_
  refine lv_isub hx hb dX9_isWalker_10 ?_
  refine lv_i2l (v := ((o_road_f 2) - 1).toInt64) hx hb dX9_isWalker_11 rfl ?_
  refine xcalli (S := Unit) (Wc := []) (wr := [(o, .inr (9, [.ref o_road, .ref o_told, .ref o_fresh, .ref o_was, .int o_acts, .ref o_kept, .ref o_isKept, .ref o_sights, .int o_many, .ref o_text, .int o_letters, .int o_thrown, .int o_cursor, .int o_token, .int o_start, .long o_value, .int o_isFault, .int o_faultAt, .int o_above, .int o_below, .ref o_topOf, .ref o_partsOf, .ref o_sent])), (o_road, .inl (cI, 36, .inl o_road_f))]) (W1 := (fun (u : Unit) => [])) (Wn := (fun (u : Unit) => [(o, .inr (9, [.ref o_road, .ref o_told, .ref o_fresh, .ref o_was, .int o_acts, .ref o_kept, .ref o_isKept, .ref o_sights, .int o_many, .ref o_text, .int o_letters, .int o_thrown, .int o_cursor, .int o_token, .int o_start, .long o_value, .int o_isFault, .int o_faultAt, .int o_above, .int o_below, .ref o_topOf, .ref o_partsOf, .ref o_sent])), (o_road, .inl (cI, 36, .inl o_road_f))])) (xrunS hx hb hml hown hts (c_X9_in l D cI cZ _ a1.toInt64 0 (((o_road_f 2) - 1).toInt64) ) (va_cwS 3 hts gX9_isWalker_X9_in rfl rfl rfl (by decide +kernel) ⟨Nat.le_of_ble_eq_true rfl, Nat.le_of_ble_eq_true rfl⟩) hE hK hP hD [] rfl rfl rfl hl.1 rfl (Nat.le_of_ble_eq_true rfl) dX9_isWalker_12 ⟨Nat.le_of_ble_eq_true rfl, Nat.le_of_ble_eq_true rfl⟩) hP hD hS hA [] [0, 1] [0, 1] rfl rfl rfl (by decide) (fun _ => rfl) rfl (fun r1 u H locs hw hz hP hD hS => ?_)
  subst hw
  exact hret _ _ _ _ (fX9_in a1.toInt64 0 (((o_road_f 2) - 1).toInt64)) () (bz_X9_in _ _ _) dX9_isWalker_15 ((hF.trans (by simp only [fX9_isWalker, xlet])).symm) hP hD hS
theorem bz_X9_isWalker (a1 : Int32) (o_road_f : Nat → Int32) : narrow .boolean (.int (fX9_isWalker a1 o_road_f)) = .int (fX9_isWalker a1 o_road_f) := by
  unfold fX9_isWalker; try unfold xlet
  first | rfl | exact bz_X9_in _ _ _ | ((repeat' split) <;> first | rfl | exact bz_X9_in _ _ _)
theorem dX9_erase_0 : decode cX9_erase 0 = .ok (.aload_n 0, 1) := by decide +kernel
theorem dX9_erase_1 : decode cX9_erase 1 = .ok (.iconst 0, 1) := by decide +kernel
theorem dX9_erase_2 : decode cX9_erase 2 = .ok (.putfield 48, 3) := by decide +kernel
theorem dX9_erase_5 : decode cX9_erase 5 = .ok (.aload_n 0, 1) := by decide +kernel
theorem dX9_erase_6 : decode cX9_erase 6 = .ok (.getfield 58, 3) := by decide +kernel
theorem dX9_erase_9 : decode cX9_erase 9 = .ok (.istore_n 1, 1) := by decide +kernel
theorem dX9_erase_10 : decode cX9_erase 10 = .ok (.aload_n 0, 1) := by decide +kernel
theorem dX9_erase_11 : decode cX9_erase 11 = .ok (.iconst 0, 1) := by decide +kernel
theorem dX9_erase_12 : decode cX9_erase 12 = .ok (.putfield 58, 3) := by decide +kernel
theorem dX9_erase_15 : decode cX9_erase 15 = .ok (.iload_n 1, 1) := by decide +kernel
theorem dX9_erase_16 : decode cX9_erase 16 = .ok (.ireturn, 1) := by decide +kernel
def fX9_erase (o_letters : Int32) : Int32 := o_letters
set_option maxHeartbeats 4000000 in
set_option maxRecDepth 100000 in
theorem c_X9_erase (l : Launch) (D : va_G) (cI cZ : ClassId) (sz : Nat) (o : Nat) (o_road : Nat) (o_told : Nat) (o_fresh : Nat) (o_was : Nat) (o_acts : Int32) (o_kept : Nat) (o_isKept : Nat) (o_sights : Nat) (o_many : Int32) (o_text : Nat) (o_letters : Int32) (o_thrown : Int32) (o_cursor : Int32) (o_token : Int32) (o_start : Int32) (o_value : Int64) (o_isFault : Int32) (o_faultAt : Int32) (o_above : Int32) (o_below : Int32) (o_topOf : Nat) (o_partsOf : Nat) (o_sent : Nat)  : Met l yX9_erase wsX9_erase ({ frames := 0, cells := 0, slots := 0, locals := 0 } : Room) (va_Pc [.ref o] (xP D cI cZ [(o, .inr (9, [.ref o_road, .ref o_told, .ref o_fresh, .ref o_was, .int o_acts, .ref o_kept, .ref o_isKept, .ref o_sights, .int o_many, .ref o_text, .int o_letters, .int o_thrown, .int o_cursor, .int o_token, .int o_start, .long o_value, .int o_isFault, .int o_faultAt, .int o_above, .int o_below, .ref o_topOf, .ref o_partsOf, .ref o_sent]))] sz)) (va_Qi (fun (r : Int32) (u : Unit) => r = fX9_erase o_letters) (fun (u : Unit) t => xB D cI cZ [(o, .inr (9, [.ref o_road, .ref o_told, .ref o_fresh, .ref o_was, .int o_acts, .ref o_kept, .ref o_isKept, .ref o_sights, .int o_many, .ref o_text, .int 0, .int 0, .int o_cursor, .int o_token, .int o_start, .long o_value, .int o_isFault, .int o_faultAt, .int o_above, .int o_below, .ref o_topOf, .ref o_partsOf, .ref o_sent]))] (va_A [(o, .inr (9, [.ref o_road, .ref o_told, .ref o_fresh, .ref o_was, .int o_acts, .ref o_kept, .ref o_isKept, .ref o_sights, .int o_many, .ref o_text, .int o_letters, .int o_thrown, .int o_cursor, .int o_token, .int o_start, .long o_value, .int o_isFault, .int o_faultAt, .int o_above, .int o_below, .ref o_topOf, .ref o_partsOf, .ref o_sent]))] sz) t) (va_A [(o, .inr (9, [.ref o_road, .ref o_told, .ref o_fresh, .ref o_was, .int o_acts, .ref o_kept, .ref o_isKept, .ref o_sights, .int o_many, .ref o_text, .int o_letters, .int o_thrown, .int o_cursor, .int o_token, .int o_start, .long o_value, .int o_isFault, .int o_faultAt, .int o_above, .int o_below, .ref o_topOf, .ref o_partsOf, .ref o_sent]))] sz)) 0 0 (va_A [(o, .inr (9, [.ref o_road, .ref o_told, .ref o_fresh, .ref o_was, .int o_acts, .ref o_kept, .ref o_isKept, .ref o_sights, .int o_many, .ref o_text, .int o_letters, .int o_thrown, .int o_cursor, .int o_token, .int o_start, .long o_value, .int o_isFault, .int o_faultAt, .int o_above, .int o_below, .ref o_topOf, .ref o_partsOf, .ref o_sent]))] sz) := by
  refine Met.ofW (cc := cX9_erase) (maxL := 2) (ret := (some .int)) (by decide) rfl ?_
  intro p e s m args below meth c s₁ B hml hv
  obtain ⟨hargs, hsz, hP, hK, hD0, hE⟩ := hv
  subst hargs
  have hx := B.exec
  have hb := B.bytes
  have hr := B.returns
  have hts := atoms_spec (ws := wsX9_erase) B.pre
  have hown : s.vm.findClass RX9 = some m.cls := findClass_of_methodNamed B.named
  have hlocks := B.notSynchronized
  subst hsz
  have hD := hD0.self (sz := s.heap.size)
  generalize hAe : va_A [(o, .inr (9, [.ref o_road, .ref o_told, .ref o_fresh, .ref o_was, .int o_acts, .ref o_kept, .ref o_isKept, .ref o_sights, .int o_many, .ref o_text, .int o_letters, .int o_thrown, .int o_cursor, .int o_token, .int o_start, .long o_value, .int o_isFault, .int o_faultAt, .int o_above, .int o_below, .ref o_topOf, .ref o_partsOf, .ref o_sent]))] s.heap.size = A at hD ⊢
  have hA : ∀ q : Nat, s.heap.size ≤ q → A q := fun q h => by rw [← hAe]; exact Or.inr h
  have hS : va_S A s.heap s.heap [] := va_S.rf
  have hl := lv_entry ([.ref o]) (n := 2) (Nat.le_of_ble_eq_true rfl)
  rw [lg_entry_eq]
  generalize (lg_sl ([.ref o]) ++ List.replicate (2 - (lg_sl ([.ref o])).length) Slot.unset).toArray = ls at hl ⊢
  have hl : lv_has ls 2 [(0, .ref o)] := hl
  refine wq (X := fun Q => ∀ (pc : Nat) (H : Heap) (locs : List Loc) (ls : Array Slot) (r : Int32) (u : Unit) (hd : decode cX9_erase pc = .ok (.ireturn, 1)) (hp : r = fX9_erase o_letters) (hP : va_P D vwCl [(o, .inr (9, [.ref o_road, .ref o_told, .ref o_fresh, .ref o_was, .int o_acts, .ref o_kept, .ref o_isKept, .ref o_sights, .int o_many, .ref o_text, .int 0, .int 0, .int o_cursor, .int o_token, .int o_start, .long o_value, .int o_isFault, .int o_faultAt, .int o_above, .int o_below, .ref o_topOf, .ref o_partsOf, .ref o_sent]))] H) (hD : va_D A [(o, .inr (9, [.ref o_road, .ref o_told, .ref o_fresh, .ref o_was, .int o_acts, .ref o_kept, .ref o_isKept, .ref o_sights, .int o_many, .ref o_text, .int 0, .int 0, .int o_cursor, .int o_token, .int o_start, .long o_value, .int o_isFault, .int o_faultAt, .int o_above, .int o_below, .ref o_topOf, .ref o_partsOf, .ref o_sent]))]) (hS : va_S A s.heap H locs), W p l e ({ frames := 0, cells := 0, slots := 0, locals := 0 } : Room) s m ([.ref o] : List Value).toArray below meth c H locs 0 0 Q (F0 m pc ls [.int r])) ?_ (fun Q hret => ?_)
  · intro pc H locs ls r u hd hp hP hD hS
    exact W.iret (v := r) hx hb hr (fun t ht hW => ⟨⟨r, u, rfl, hp, by rw [ht]; exact hP, va_K.moved hW.alike hK, hD⟩, hS.F ht⟩) hS.2.2 hd
  have hin_9 : ∀ w ∈ u_ws RX9 TX9 23, w ∈ wsX9_erase := by decide +kernel
  have fl_48 := hts (.fieldLink RX9 48 "MileRoadModel" "thrown" "I") (by decide +kernel)
  have fl_58 := hts (.fieldLink RX9 58 "MileRoadModel" "letters" "I") (by decide +kernel)
  have hF : fX9_erase o_letters = fX9_erase o_letters := rfl
  refine lv_aload_n hx hb dX9_erase_0 rfl (lv_at hl 0 rfl) ?_
  refine lv_iconst (v := 0) hx hb dX9_erase_1 (by decide) ?_
  refine xput hx hb hts hown hK 9 (C2 := RX9) (T := TX9) (N := 23) tyX9 rfl tyX9_ok nmX9 hin_9 hP hD hS 0 rfl 11 (by decide) fl_48 rfl rfl rfl rfl rfl (Nat.le_of_ble_eq_true rfl) dX9_erase_2 [(o, .inr (9, [.ref o_road, .ref o_told, .ref o_fresh, .ref o_was, .int o_acts, .ref o_kept, .ref o_isKept, .ref o_sights, .int o_many, .ref o_text, .int o_letters, .int 0, .int o_cursor, .int o_token, .int o_start, .long o_value, .int o_isFault, .int o_faultAt, .int o_above, .int o_below, .ref o_topOf, .ref o_partsOf, .ref o_sent]))] rfl (fun H locs hP hD hS => ?_)
  refine lv_aload_n hx hb dX9_erase_5 rfl (lv_at hl 0 rfl) ?_
  refine xget hx hb hts hown hK 9 (C2 := RX9) (T := TX9) (N := 23) rfl hin_9 hP 0 rfl 10 (by decide) fl_58 rfl rfl rfl dX9_erase_6 ?_
  refine lv_istore_n (lv' := [(1, .int o_letters), (0, .ref o)]) hx hb dX9_erase_9 rfl hl (by decide) rfl (fun ls hl => ?_)
  refine lv_aload_n hx hb dX9_erase_10 rfl (lv_at hl 1 rfl) ?_
  refine lv_iconst (v := 0) hx hb dX9_erase_11 (by decide) ?_
  refine xput hx hb hts hown hK 9 (C2 := RX9) (T := TX9) (N := 23) tyX9 rfl tyX9_ok nmX9 hin_9 hP hD hS 0 rfl 10 (by decide) fl_58 rfl rfl rfl rfl rfl (Nat.le_of_ble_eq_true rfl) dX9_erase_12 [(o, .inr (9, [.ref o_road, .ref o_told, .ref o_fresh, .ref o_was, .int o_acts, .ref o_kept, .ref o_isKept, .ref o_sights, .int o_many, .ref o_text, .int 0, .int 0, .int o_cursor, .int o_token, .int o_start, .long o_value, .int o_isFault, .int o_faultAt, .int o_above, .int o_below, .ref o_topOf, .ref o_partsOf, .ref o_sent]))] rfl (fun H locs hP hD hS => ?_)
  refine lv_iload_n hx hb dX9_erase_15 rfl (lv_at hl 0 rfl) ?_
  exact hret _ _ _ _ o_letters () dX9_erase_16 ((hF.trans (by simp only [fX9_erase, xlet])).symm) hP hD hS
theorem dX9_bad_0 : decode cX9_bad 0 = .ok (.aload_n 0, 1) := by decide +kernel
theorem dX9_bad_1 : decode cX9_bad 1 = .ok (.aload_n 0, 1) := by decide +kernel
theorem dX9_bad_2 : decode cX9_bad 2 = .ok (.getfield 95, 3) := by decide +kernel
theorem dX9_bad_5 : decode cX9_bad 5 = .ok (.ifCond .eq 10, 3) := by decide +kernel
theorem dX9_bad_8 : decode cX9_bad 8 = .ok (.aload_n 0, 1) := by decide +kernel
theorem dX9_bad_9 : decode cX9_bad 9 = .ok (.getfield 99, 3) := by decide +kernel
theorem dX9_bad_12 : decode cX9_bad 12 = .ok (.goto 7, 3) := by decide +kernel
theorem dX9_bad_15 : decode cX9_bad 15 = .ok (.aload_n 0, 1) := by decide +kernel
theorem dX9_bad_16 : decode cX9_bad 16 = .ok (.getfield 72, 3) := by decide +kernel
theorem dX9_bad_19 : decode cX9_bad 19 = .ok (.putfield 99, 3) := by decide +kernel
theorem dX9_bad_22 : decode cX9_bad 22 = .ok (.aload_n 0, 1) := by decide +kernel
theorem dX9_bad_23 : decode cX9_bad 23 = .ok (.iconst 1, 1) := by decide +kernel
theorem dX9_bad_24 : decode cX9_bad 24 = .ok (.putfield 95, 3) := by decide +kernel
theorem dX9_bad_27 : decode cX9_bad 27 = .ok (.return_, 1) := by decide +kernel
def fX9_bad (o_start : Int32) (o_isFault : Int32) (o_faultAt : Int32) : Int32 := xlet (if o_isFault = 0 then o_start else o_faultAt) (fun y_1 => y_1)
set_option maxHeartbeats 4000000 in
set_option maxRecDepth 100000 in
theorem c_X9_bad (l : Launch) (D : va_G) (cI cZ : ClassId) (sz : Nat) (o : Nat) (o_road : Nat) (o_told : Nat) (o_fresh : Nat) (o_was : Nat) (o_acts : Int32) (o_kept : Nat) (o_isKept : Nat) (o_sights : Nat) (o_many : Int32) (o_text : Nat) (o_letters : Int32) (o_thrown : Int32) (o_cursor : Int32) (o_token : Int32) (o_start : Int32) (o_value : Int64) (o_isFault : Int32) (o_faultAt : Int32) (o_above : Int32) (o_below : Int32) (o_topOf : Nat) (o_partsOf : Nat) (o_sent : Nat)  : Met l yX9_bad wsX9_bad ({ frames := 0, cells := 0, slots := 0, locals := 0 } : Room) (va_Pc [.ref o] (xP D cI cZ [(o, .inr (9, [.ref o_road, .ref o_told, .ref o_fresh, .ref o_was, .int o_acts, .ref o_kept, .ref o_isKept, .ref o_sights, .int o_many, .ref o_text, .int o_letters, .int o_thrown, .int o_cursor, .int o_token, .int o_start, .long o_value, .int o_isFault, .int o_faultAt, .int o_above, .int o_below, .ref o_topOf, .ref o_partsOf, .ref o_sent]))] sz)) (va_Qv (fun (u : Int32) => u = fX9_bad o_start o_isFault o_faultAt) (fun (u : Int32) t => xB D cI cZ [(o, .inr (9, [.ref o_road, .ref o_told, .ref o_fresh, .ref o_was, .int o_acts, .ref o_kept, .ref o_isKept, .ref o_sights, .int o_many, .ref o_text, .int o_letters, .int o_thrown, .int o_cursor, .int o_token, .int o_start, .long o_value, .int 1, .int u, .int o_above, .int o_below, .ref o_topOf, .ref o_partsOf, .ref o_sent]))] (va_A [(o, .inr (9, [.ref o_road, .ref o_told, .ref o_fresh, .ref o_was, .int o_acts, .ref o_kept, .ref o_isKept, .ref o_sights, .int o_many, .ref o_text, .int o_letters, .int o_thrown, .int o_cursor, .int o_token, .int o_start, .long o_value, .int o_isFault, .int o_faultAt, .int o_above, .int o_below, .ref o_topOf, .ref o_partsOf, .ref o_sent]))] sz) t) (va_A [(o, .inr (9, [.ref o_road, .ref o_told, .ref o_fresh, .ref o_was, .int o_acts, .ref o_kept, .ref o_isKept, .ref o_sights, .int o_many, .ref o_text, .int o_letters, .int o_thrown, .int o_cursor, .int o_token, .int o_start, .long o_value, .int o_isFault, .int o_faultAt, .int o_above, .int o_below, .ref o_topOf, .ref o_partsOf, .ref o_sent]))] sz)) 0 0 (va_A [(o, .inr (9, [.ref o_road, .ref o_told, .ref o_fresh, .ref o_was, .int o_acts, .ref o_kept, .ref o_isKept, .ref o_sights, .int o_many, .ref o_text, .int o_letters, .int o_thrown, .int o_cursor, .int o_token, .int o_start, .long o_value, .int o_isFault, .int o_faultAt, .int o_above, .int o_below, .ref o_topOf, .ref o_partsOf, .ref o_sent]))] sz) := by
  refine Met.ofW (cc := cX9_bad) (maxL := 1) (ret := none) (by decide) rfl ?_
  intro p e s m args below meth c s₁ B hml hv
  obtain ⟨hargs, hsz, hP, hK, hD0, hE⟩ := hv
  subst hargs
  have hx := B.exec
  have hb := B.bytes
  have hr := B.returns
  have hts := atoms_spec (ws := wsX9_bad) B.pre
  have hown : s.vm.findClass RX9 = some m.cls := findClass_of_methodNamed B.named
  have hlocks := B.notSynchronized
  subst hsz
  have hD := hD0.self (sz := s.heap.size)
  generalize hAe : va_A [(o, .inr (9, [.ref o_road, .ref o_told, .ref o_fresh, .ref o_was, .int o_acts, .ref o_kept, .ref o_isKept, .ref o_sights, .int o_many, .ref o_text, .int o_letters, .int o_thrown, .int o_cursor, .int o_token, .int o_start, .long o_value, .int o_isFault, .int o_faultAt, .int o_above, .int o_below, .ref o_topOf, .ref o_partsOf, .ref o_sent]))] s.heap.size = A at hD ⊢
  have hA : ∀ q : Nat, s.heap.size ≤ q → A q := fun q h => by rw [← hAe]; exact Or.inr h
  have hS : va_S A s.heap s.heap [] := va_S.rf
  have hl := lv_entry ([.ref o]) (n := 1) (Nat.le_of_ble_eq_true rfl)
  rw [lg_entry_eq]
  generalize (lg_sl ([.ref o]) ++ List.replicate (1 - (lg_sl ([.ref o])).length) Slot.unset).toArray = ls at hl ⊢
  have hl : lv_has ls 1 [(0, .ref o)] := hl
  refine wq (X := fun Q => ∀ (pc : Nat) (H : Heap) (locs : List Loc) (ls : Array Slot) (u : Int32) (hd : decode cX9_bad pc = .ok (.return_, 1)) (hp : u = fX9_bad o_start o_isFault o_faultAt) (hP : va_P D vwCl [(o, .inr (9, [.ref o_road, .ref o_told, .ref o_fresh, .ref o_was, .int o_acts, .ref o_kept, .ref o_isKept, .ref o_sights, .int o_many, .ref o_text, .int o_letters, .int o_thrown, .int o_cursor, .int o_token, .int o_start, .long o_value, .int 1, .int u, .int o_above, .int o_below, .ref o_topOf, .ref o_partsOf, .ref o_sent]))] H) (hD : va_D A [(o, .inr (9, [.ref o_road, .ref o_told, .ref o_fresh, .ref o_was, .int o_acts, .ref o_kept, .ref o_isKept, .ref o_sights, .int o_many, .ref o_text, .int o_letters, .int o_thrown, .int o_cursor, .int o_token, .int o_start, .long o_value, .int 1, .int u, .int o_above, .int o_below, .ref o_topOf, .ref o_partsOf, .ref o_sent]))]) (hS : va_S A s.heap H locs), W p l e ({ frames := 0, cells := 0, slots := 0, locals := 0 } : Room) s m ([.ref o] : List Value).toArray below meth c H locs 0 0 Q (F0 m pc ls [])) ?_ (fun Q hret => ?_)
  · intro pc H locs ls u hd hp hP hD hS
    exact W.vret hx hb hr (fun t ht hW => ⟨⟨u, rfl, hp, by rw [ht]; exact hP, va_K.moved hW.alike hK, hD⟩, hS.F ht⟩) hS.2.2 hd
  have hin_9 : ∀ w ∈ u_ws RX9 TX9 23, w ∈ wsX9_bad := by decide +kernel
  have fl_72 := hts (.fieldLink RX9 72 "MileRoadModel" "start" "I") (by decide +kernel)
  have fl_95 := hts (.fieldLink RX9 95 "MileRoadModel" "isFault" "Z") (by decide +kernel)
  have fl_99 := hts (.fieldLink RX9 99 "MileRoadModel" "faultAt" "I") (by decide +kernel)
  have hF : fX9_bad o_start o_isFault o_faultAt = fX9_bad o_start o_isFault o_faultAt := rfl
  refine lv_aload_n hx hb dX9_bad_0 rfl (lv_at hl 0 rfl) ?_
  refine lv_aload_n hx hb dX9_bad_1 rfl (lv_at hl 0 rfl) ?_
  refine xget hx hb hts hown hK 9 (C2 := RX9) (T := TX9) (N := 23) rfl hin_9 hP 0 rfl 16 (by decide) fl_95 rfl rfl rfl dX9_bad_2 ?_
  have K_y_1 : ∀ (y_1 : Int32) (hy_y_1 : (if o_isFault = 0 then o_start else o_faultAt) = y_1) (H : Heap) (locs : List Loc) (hP : va_P D vwCl [(o, .inr (9, [.ref o_road, .ref o_told, .ref o_fresh, .ref o_was, .int o_acts, .ref o_kept, .ref o_isKept, .ref o_sights, .int o_many, .ref o_text, .int o_letters, .int o_thrown, .int o_cursor, .int o_token, .int o_start, .long o_value, .int o_isFault, .int o_faultAt, .int o_above, .int o_below, .ref o_topOf, .ref o_partsOf, .ref o_sent]))] H) (hD : va_D A [(o, .inr (9, [.ref o_road, .ref o_told, .ref o_fresh, .ref o_was, .int o_acts, .ref o_kept, .ref o_isKept, .ref o_sights, .int o_many, .ref o_text, .int o_letters, .int o_thrown, .int o_cursor, .int o_token, .int o_start, .long o_value, .int o_isFault, .int o_faultAt, .int o_above, .int o_below, .ref o_topOf, .ref o_partsOf, .ref o_sent]))]) (hS : va_S A s.heap H locs), W p l e ({ frames := 0, cells := 0, slots := 0, locals := 0 } : Room) s m ([.ref o] : List Value).toArray below meth c H locs 0 0 Q (F0 m 19 ls [.int y_1, .ref o]) := by
    intro y_1 hy_y_1 H locs hP hD hS
    refine xput hx hb hts hown hK 9 (C2 := RX9) (T := TX9) (N := 23) tyX9 rfl tyX9_ok nmX9 hin_9 hP hD hS 0 rfl 17 (by decide) fl_99 rfl rfl rfl rfl rfl (Nat.le_of_ble_eq_true rfl) dX9_bad_19 [(o, .inr (9, [.ref o_road, .ref o_told, .ref o_fresh, .ref o_was, .int o_acts, .ref o_kept, .ref o_isKept, .ref o_sights, .int o_many, .ref o_text, .int o_letters, .int o_thrown, .int o_cursor, .int o_token, .int o_start, .long o_value, .int o_isFault, .int y_1, .int o_above, .int o_below, .ref o_topOf, .ref o_partsOf, .ref o_sent]))] rfl (fun H locs hP hD hS => ?_)
    refine lv_aload_n hx hb dX9_bad_22 rfl (lv_at hl 0 rfl) ?_
    refine lv_iconst (v := 1) hx hb dX9_bad_23 (by decide) ?_
    refine xput hx hb hts hown hK 9 (C2 := RX9) (T := TX9) (N := 23) tyX9 rfl tyX9_ok nmX9 hin_9 hP hD hS 0 rfl 16 (by decide) fl_95 rfl rfl rfl rfl rfl (Nat.le_of_ble_eq_true rfl) dX9_bad_24 [(o, .inr (9, [.ref o_road, .ref o_told, .ref o_fresh, .ref o_was, .int o_acts, .ref o_kept, .ref o_isKept, .ref o_sights, .int o_many, .ref o_text, .int o_letters, .int o_thrown, .int o_cursor, .int o_token, .int o_start, .long o_value, .int 1, .int y_1, .int o_above, .int o_below, .ref o_topOf, .ref o_partsOf, .ref o_sent]))] rfl (fun H locs hP hD hS => ?_)
    exact hret _ _ _ _ y_1 dX9_bad_27 ((hF.trans (by simp only [fX9_bad, xlet, ↓hy_y_1])).symm) hP hD hS
  refine lv_if_eq (tgt := 15) hx hb dX9_bad_5 (by decide) (fun c_1 => ?_) (fun c_1 => ?_)
  · refine lv_aload_n hx hb dX9_bad_15 rfl (lv_at hl 0 rfl) ?_
    refine xget hx hb hts hown hK 9 (C2 := RX9) (T := TX9) (N := 23) rfl hin_9 hP 0 rfl 14 (by decide) fl_72 rfl rfl rfl dX9_bad_16 ?_
    exact K_y_1 _ (by simp only [xlet, if_pos c_1]) _ _ hP hD hS
  · refine lv_aload_n hx hb dX9_bad_8 rfl (lv_at hl 0 rfl) ?_
    refine xget hx hb hts hown hK 9 (C2 := RX9) (T := TX9) (N := 23) rfl hin_9 hP 0 rfl 17 (by decide) fl_99 rfl rfl rfl dX9_bad_9 ?_
    refine lv_goto (tgt := 19) hx hb dX9_bad_12 (by decide) ?_
    exact K_y_1 _ (by simp only [xlet, if_neg c_1]) _ _ hP hD hS
set_option maxRecDepth 20000 in
theorem ggX9_kindBy_X9_word : GoodIn wsX9_kindBy wsX9_word := goodIn_r _ [6, 7] (by decide +kernel) (by decide +kernel)
set_option maxRecDepth 20000 in
theorem gX9_kindBy_X9_word : GoodIn wsX9_kindBy (va_wsS RX9 108 yX9_word wsX9_word) := goodIn_app (goodIn_of _ (by decide +kernel)) ggX9_kindBy_X9_word
theorem dX9_kindBy_0 : decode cX9_kindBy 0 = .ok (.aload_n 0, 1) := by decide +kernel
theorem dX9_kindBy_1 : decode cX9_kindBy 1 = .ok (.getfield 79, 3) := by decide +kernel
theorem dX9_kindBy_4 : decode cX9_kindBy 4 = .ok (.iconst 1, 1) := by decide +kernel
theorem dX9_kindBy_5 : decode cX9_kindBy 5 = .ok (.if_icmp .eq 5, 3) := by decide +kernel
theorem dX9_kindBy_8 : decode cX9_kindBy 8 = .ok (.iconst (-1), 1) := by decide +kernel
theorem dX9_kindBy_9 : decode cX9_kindBy 9 = .ok (.ireturn, 1) := by decide +kernel
theorem dX9_kindBy_10 : decode cX9_kindBy 10 = .ok (.aload_n 0, 1) := by decide +kernel
theorem dX9_kindBy_11 : decode cX9_kindBy 11 = .ok (.getfield 75, 3) := by decide +kernel
theorem dX9_kindBy_14 : decode cX9_kindBy 14 = .ok (.bipush 19, 2) := by decide +kernel
theorem dX9_kindBy_16 : decode cX9_kindBy 16 = .ok (.bipush 20, 2) := by decide +kernel
theorem dX9_kindBy_18 : decode cX9_kindBy 18 = .ok (.iconst 5, 1) := by decide +kernel
theorem dX9_kindBy_19 : decode cX9_kindBy 19 = .ok (.iconst 1, 1) := by decide +kernel
theorem dX9_kindBy_20 : decode cX9_kindBy 20 = .ok (.iconst 4, 1) := by decide +kernel
theorem dX9_kindBy_21 : decode cX9_kindBy 21 = .ok (.bipush 25, 2) := by decide +kernel
theorem dX9_kindBy_23 : decode cX9_kindBy 23 = .ok (.invokestatic 108, 3) := by decide +kernel
theorem dX9_kindBy_26 : decode cX9_kindBy 26 = .ok (.lcmp, 1) := by decide +kernel
theorem dX9_kindBy_27 : decode cX9_kindBy 27 = .ok (.ifCond .ne 7, 3) := by decide +kernel
theorem dX9_kindBy_30 : decode cX9_kindBy 30 = .ok (.iconst 0, 1) := by decide +kernel
theorem dX9_kindBy_31 : decode cX9_kindBy 31 = .ok (.goto 74, 3) := by decide +kernel
theorem dX9_kindBy_34 : decode cX9_kindBy 34 = .ok (.aload_n 0, 1) := by decide +kernel
theorem dX9_kindBy_35 : decode cX9_kindBy 35 = .ok (.getfield 75, 3) := by decide +kernel
theorem dX9_kindBy_38 : decode cX9_kindBy 38 = .ok (.bipush 15, 2) := by decide +kernel
theorem dX9_kindBy_40 : decode cX9_kindBy 40 = .ok (.bipush 12, 2) := by decide +kernel
theorem dX9_kindBy_42 : decode cX9_kindBy 42 = .ok (.iconst 4, 1) := by decide +kernel
theorem dX9_kindBy_43 : decode cX9_kindBy 43 = .ok (.iconst 0, 1) := by decide +kernel
theorem dX9_kindBy_44 : decode cX9_kindBy 44 = .ok (.iconst 0, 1) := by decide +kernel
theorem dX9_kindBy_45 : decode cX9_kindBy 45 = .ok (.iconst 0, 1) := by decide +kernel
theorem dX9_kindBy_46 : decode cX9_kindBy 46 = .ok (.invokestatic 108, 3) := by decide +kernel
theorem dX9_kindBy_49 : decode cX9_kindBy 49 = .ok (.lcmp, 1) := by decide +kernel
theorem dX9_kindBy_50 : decode cX9_kindBy 50 = .ok (.ifCond .ne 7, 3) := by decide +kernel
theorem dX9_kindBy_53 : decode cX9_kindBy 53 = .ok (.iconst 1, 1) := by decide +kernel
theorem dX9_kindBy_54 : decode cX9_kindBy 54 = .ok (.goto 51, 3) := by decide +kernel
theorem dX9_kindBy_57 : decode cX9_kindBy 57 = .ok (.aload_n 0, 1) := by decide +kernel
theorem dX9_kindBy_58 : decode cX9_kindBy 58 = .ok (.getfield 75, 3) := by decide +kernel
theorem dX9_kindBy_61 : decode cX9_kindBy 61 = .ok (.iconst 4, 1) := by decide +kernel
theorem dX9_kindBy_62 : decode cX9_kindBy 62 = .ok (.bipush 18, 2) := by decide +kernel
theorem dX9_kindBy_64 : decode cX9_kindBy 64 = .ok (.bipush 21, 2) := by decide +kernel
theorem dX9_kindBy_66 : decode cX9_kindBy 66 = .ok (.bipush 14, 2) := by decide +kernel
theorem dX9_kindBy_68 : decode cX9_kindBy 68 = .ok (.bipush 11, 2) := by decide +kernel
theorem dX9_kindBy_70 : decode cX9_kindBy 70 = .ok (.iconst 0, 1) := by decide +kernel
theorem dX9_kindBy_71 : decode cX9_kindBy 71 = .ok (.invokestatic 108, 3) := by decide +kernel
theorem dX9_kindBy_74 : decode cX9_kindBy 74 = .ok (.lcmp, 1) := by decide +kernel
theorem dX9_kindBy_75 : decode cX9_kindBy 75 = .ok (.ifCond .ne 7, 3) := by decide +kernel
theorem dX9_kindBy_78 : decode cX9_kindBy 78 = .ok (.iconst 2, 1) := by decide +kernel
theorem dX9_kindBy_79 : decode cX9_kindBy 79 = .ok (.goto 26, 3) := by decide +kernel
theorem dX9_kindBy_82 : decode cX9_kindBy 82 = .ok (.aload_n 0, 1) := by decide +kernel
theorem dX9_kindBy_83 : decode cX9_kindBy 83 = .ok (.getfield 75, 3) := by decide +kernel
theorem dX9_kindBy_86 : decode cX9_kindBy 86 = .ok (.iconst 2, 1) := by decide +kernel
theorem dX9_kindBy_87 : decode cX9_kindBy 87 = .ok (.iconst 1, 1) := by decide +kernel
theorem dX9_kindBy_88 : decode cX9_kindBy 88 = .ok (.iconst 3, 1) := by decide +kernel
theorem dX9_kindBy_89 : decode cX9_kindBy 89 = .ok (.bipush 11, 2) := by decide +kernel
theorem dX9_kindBy_91 : decode cX9_kindBy 91 = .ok (.iconst 0, 1) := by decide +kernel
theorem dX9_kindBy_92 : decode cX9_kindBy 92 = .ok (.iconst 0, 1) := by decide +kernel
theorem dX9_kindBy_93 : decode cX9_kindBy 93 = .ok (.invokestatic 108, 3) := by decide +kernel
theorem dX9_kindBy_96 : decode cX9_kindBy 96 = .ok (.lcmp, 1) := by decide +kernel
theorem dX9_kindBy_97 : decode cX9_kindBy 97 = .ok (.ifCond .ne 7, 3) := by decide +kernel
theorem dX9_kindBy_100 : decode cX9_kindBy 100 = .ok (.iconst 3, 1) := by decide +kernel
theorem dX9_kindBy_101 : decode cX9_kindBy 101 = .ok (.goto 4, 3) := by decide +kernel
theorem dX9_kindBy_104 : decode cX9_kindBy 104 = .ok (.iconst (-1), 1) := by decide +kernel
theorem dX9_kindBy_105 : decode cX9_kindBy 105 = .ok (.ireturn, 1) := by decide +kernel
def fX9_kindBy (o_token : Int32) (o_value : Int64) : Int32 := if o_token = 1 then (xlet (if (lg_cmp o_value (fX9_word 19 20 5 1 4 25)) = 0 then (0 : Int32) else (if (lg_cmp o_value (fX9_word 15 12 4 0 0 0)) = 0 then 1 else (if (lg_cmp o_value (fX9_word 4 18 21 14 11 0)) = 0 then 2 else (if (lg_cmp o_value (fX9_word 2 1 3 11 0 0)) = 0 then 3 else (-1))))) (fun y_1 => y_1)) else ((-1))
set_option maxHeartbeats 4000000 in
set_option maxRecDepth 100000 in
theorem c_X9_kindBy (l : Launch) (D : va_G) (cI cZ : ClassId) (sz : Nat) (o : Nat) (o_road : Nat) (o_told : Nat) (o_fresh : Nat) (o_was : Nat) (o_acts : Int32) (o_kept : Nat) (o_isKept : Nat) (o_sights : Nat) (o_many : Int32) (o_text : Nat) (o_letters : Int32) (o_thrown : Int32) (o_cursor : Int32) (o_token : Int32) (o_start : Int32) (o_value : Int64) (o_isFault : Int32) (o_faultAt : Int32) (o_above : Int32) (o_below : Int32) (o_topOf : Nat) (o_partsOf : Nat) (o_sent : Nat)  : Met l yX9_kindBy wsX9_kindBy ({ frames := 1, cells := 0, slots := 0, locals := 27 } : Room) (va_Pc [.ref o] (xP D cI cZ [(o, .inr (9, [.ref o_road, .ref o_told, .ref o_fresh, .ref o_was, .int o_acts, .ref o_kept, .ref o_isKept, .ref o_sights, .int o_many, .ref o_text, .int o_letters, .int o_thrown, .int o_cursor, .int o_token, .int o_start, .long o_value, .int o_isFault, .int o_faultAt, .int o_above, .int o_below, .ref o_topOf, .ref o_partsOf, .ref o_sent]))] sz)) (va_Qi (fun (r : Int32) (u : Unit) => r = fX9_kindBy o_token o_value) (fun (u : Unit) t => xB D cI cZ [(o, .inr (9, [.ref o_road, .ref o_told, .ref o_fresh, .ref o_was, .int o_acts, .ref o_kept, .ref o_isKept, .ref o_sights, .int o_many, .ref o_text, .int o_letters, .int o_thrown, .int o_cursor, .int o_token, .int o_start, .long o_value, .int o_isFault, .int o_faultAt, .int o_above, .int o_below, .ref o_topOf, .ref o_partsOf, .ref o_sent]))] (va_A [(o, .inr (9, [.ref o_road, .ref o_told, .ref o_fresh, .ref o_was, .int o_acts, .ref o_kept, .ref o_isKept, .ref o_sights, .int o_many, .ref o_text, .int o_letters, .int o_thrown, .int o_cursor, .int o_token, .int o_start, .long o_value, .int o_isFault, .int o_faultAt, .int o_above, .int o_below, .ref o_topOf, .ref o_partsOf, .ref o_sent]))] sz) t) (va_A [(o, .inr (9, [.ref o_road, .ref o_told, .ref o_fresh, .ref o_was, .int o_acts, .ref o_kept, .ref o_isKept, .ref o_sights, .int o_many, .ref o_text, .int o_letters, .int o_thrown, .int o_cursor, .int o_token, .int o_start, .long o_value, .int o_isFault, .int o_faultAt, .int o_above, .int o_below, .ref o_topOf, .ref o_partsOf, .ref o_sent]))] sz)) 0 0 (va_A [(o, .inr (9, [.ref o_road, .ref o_told, .ref o_fresh, .ref o_was, .int o_acts, .ref o_kept, .ref o_isKept, .ref o_sights, .int o_many, .ref o_text, .int o_letters, .int o_thrown, .int o_cursor, .int o_token, .int o_start, .long o_value, .int o_isFault, .int o_faultAt, .int o_above, .int o_below, .ref o_topOf, .ref o_partsOf, .ref o_sent]))] sz) := by
  refine Met.ofW (cc := cX9_kindBy) (maxL := 1) (ret := (some .int)) (by decide) rfl ?_
  intro p e s m args below meth c s₁ B hml hv
  obtain ⟨hargs, hsz, hP, hK, hD0, hE⟩ := hv
  subst hargs
  have hx := B.exec
  have hb := B.bytes
  have hr := B.returns
  have hts := atoms_spec (ws := wsX9_kindBy) B.pre
  have hown : s.vm.findClass RX9 = some m.cls := findClass_of_methodNamed B.named
  have hlocks := B.notSynchronized
  subst hsz
  have hD := hD0.self (sz := s.heap.size)
  generalize hAe : va_A [(o, .inr (9, [.ref o_road, .ref o_told, .ref o_fresh, .ref o_was, .int o_acts, .ref o_kept, .ref o_isKept, .ref o_sights, .int o_many, .ref o_text, .int o_letters, .int o_thrown, .int o_cursor, .int o_token, .int o_start, .long o_value, .int o_isFault, .int o_faultAt, .int o_above, .int o_below, .ref o_topOf, .ref o_partsOf, .ref o_sent]))] s.heap.size = A at hD ⊢
  have hA : ∀ q : Nat, s.heap.size ≤ q → A q := fun q h => by rw [← hAe]; exact Or.inr h
  have hS : va_S A s.heap s.heap [] := va_S.rf
  have hl := lv_entry ([.ref o]) (n := 1) (Nat.le_of_ble_eq_true rfl)
  rw [lg_entry_eq]
  generalize (lg_sl ([.ref o]) ++ List.replicate (1 - (lg_sl ([.ref o])).length) Slot.unset).toArray = ls at hl ⊢
  have hl : lv_has ls 1 [(0, .ref o)] := hl
  refine wq (X := fun Q => ∀ (pc : Nat) (H : Heap) (locs : List Loc) (ls : Array Slot) (r : Int32) (u : Unit) (hd : decode cX9_kindBy pc = .ok (.ireturn, 1)) (hp : r = fX9_kindBy o_token o_value) (hP : va_P D vwCl [(o, .inr (9, [.ref o_road, .ref o_told, .ref o_fresh, .ref o_was, .int o_acts, .ref o_kept, .ref o_isKept, .ref o_sights, .int o_many, .ref o_text, .int o_letters, .int o_thrown, .int o_cursor, .int o_token, .int o_start, .long o_value, .int o_isFault, .int o_faultAt, .int o_above, .int o_below, .ref o_topOf, .ref o_partsOf, .ref o_sent]))] H) (hD : va_D A [(o, .inr (9, [.ref o_road, .ref o_told, .ref o_fresh, .ref o_was, .int o_acts, .ref o_kept, .ref o_isKept, .ref o_sights, .int o_many, .ref o_text, .int o_letters, .int o_thrown, .int o_cursor, .int o_token, .int o_start, .long o_value, .int o_isFault, .int o_faultAt, .int o_above, .int o_below, .ref o_topOf, .ref o_partsOf, .ref o_sent]))]) (hS : va_S A s.heap H locs), W p l e ({ frames := 1, cells := 0, slots := 0, locals := 27 } : Room) s m ([.ref o] : List Value).toArray below meth c H locs 0 0 Q (F0 m pc ls [.int r])) ?_ (fun Q hret => ?_)
  · intro pc H locs ls r u hd hp hP hD hS
    exact W.iret (v := r) hx hb hr (fun t ht hW => ⟨⟨r, u, rfl, hp, by rw [ht]; exact hP, va_K.moved hW.alike hK, hD⟩, hS.F ht⟩) hS.2.2 hd
  have hin_9 : ∀ w ∈ u_ws RX9 TX9 23, w ∈ wsX9_kindBy := by decide +kernel
  have fl_75 := hts (.fieldLink RX9 75 "MileRoadModel" "value" "J") (by decide +kernel)
  have fl_79 := hts (.fieldLink RX9 79 "MileRoadModel" "token" "I") (by decide +kernel)
  have hF : fX9_kindBy o_token o_value = fX9_kindBy o_token o_value := rfl
  refine lv_aload_n hx hb dX9_kindBy_0 rfl (lv_at hl 0 rfl) ?_
  refine xget hx hb hts hown hK 9 (C2 := RX9) (T := TX9) (N := 23) rfl hin_9 hP 0 rfl 13 (by decide) fl_79 rfl rfl rfl dX9_kindBy_1 ?_
  refine lv_iconst (v := 1) hx hb dX9_kindBy_4 (by decide) ?_
  refine lv_icmp_eq (tgt := 10) hx hb dX9_kindBy_5 (by decide) (fun c_1 => ?_) (fun c_1 => ?_)
  · refine lv_aload_n hx hb dX9_kindBy_10 rfl (lv_at hl 0 rfl) ?_
    refine xget hx hb hts hown hK 9 (C2 := RX9) (T := TX9) (N := 23) rfl hin_9 hP 0 rfl 15 (by decide) fl_75 rfl rfl rfl dX9_kindBy_11 ?_
    refine lv_bipush (v := 19) hx hb dX9_kindBy_14 (by decide) ?_
    refine lv_bipush (v := 20) hx hb dX9_kindBy_16 (by decide) ?_
    refine lv_iconst (v := 5) hx hb dX9_kindBy_18 (by decide) ?_
    refine lv_iconst (v := 1) hx hb dX9_kindBy_19 (by decide) ?_
    refine lv_iconst (v := 4) hx hb dX9_kindBy_20 (by decide) ?_
    refine lv_bipush (v := 25) hx hb dX9_kindBy_21 (by decide) ?_
    refine xcalll (S := Unit) (Wc := []) (wr := [(o, .inr (9, [.ref o_road, .ref o_told, .ref o_fresh, .ref o_was, .int o_acts, .ref o_kept, .ref o_isKept, .ref o_sights, .int o_many, .ref o_text, .int o_letters, .int o_thrown, .int o_cursor, .int o_token, .int o_start, .long o_value, .int o_isFault, .int o_faultAt, .int o_above, .int o_below, .ref o_topOf, .ref o_partsOf, .ref o_sent]))]) (W1 := (fun (u : Unit) => [])) (Wn := (fun (u : Unit) => [(o, .inr (9, [.ref o_road, .ref o_told, .ref o_fresh, .ref o_was, .int o_acts, .ref o_kept, .ref o_isKept, .ref o_sights, .int o_many, .ref o_text, .int o_letters, .int o_thrown, .int o_cursor, .int o_token, .int o_start, .long o_value, .int o_isFault, .int o_faultAt, .int o_above, .int o_below, .ref o_topOf, .ref o_partsOf, .ref o_sent]))])) (xrunS hx hb hml hown hts (c_X9_word l D cI cZ _ 19 20 5 1 4 25 ) (va_cwS 6 hts gX9_kindBy_X9_word rfl rfl rfl (by decide +kernel) ⟨Nat.le_of_ble_eq_true rfl, Nat.le_of_ble_eq_true rfl⟩) hE hK hP hD [] rfl rfl rfl hl.1 rfl (Nat.le_of_ble_eq_true rfl) dX9_kindBy_23 ⟨Nat.le_of_ble_eq_true rfl, Nat.le_of_ble_eq_true rfl⟩) hP hD hS hA [] [0] [0] rfl rfl rfl (by decide) (fun _ => rfl) rfl (fun r1 u H locs hw hz hP hD hS => ?_)
    subst hw
    refine W.lcmp hx hb dX9_kindBy_26 ?_
    have K_y_1 : ∀ (y_1 : Int32) (hy_y_1 : (if (lg_cmp o_value (fX9_word 19 20 5 1 4 25)) = 0 then (0 : Int32) else (if (lg_cmp o_value (fX9_word 15 12 4 0 0 0)) = 0 then 1 else (if (lg_cmp o_value (fX9_word 4 18 21 14 11 0)) = 0 then 2 else (if (lg_cmp o_value (fX9_word 2 1 3 11 0 0)) = 0 then 3 else (-1))))) = y_1) (H : Heap) (locs : List Loc) (hP : va_P D vwCl [(o, .inr (9, [.ref o_road, .ref o_told, .ref o_fresh, .ref o_was, .int o_acts, .ref o_kept, .ref o_isKept, .ref o_sights, .int o_many, .ref o_text, .int o_letters, .int o_thrown, .int o_cursor, .int o_token, .int o_start, .long o_value, .int o_isFault, .int o_faultAt, .int o_above, .int o_below, .ref o_topOf, .ref o_partsOf, .ref o_sent]))] H) (hD : va_D A [(o, .inr (9, [.ref o_road, .ref o_told, .ref o_fresh, .ref o_was, .int o_acts, .ref o_kept, .ref o_isKept, .ref o_sights, .int o_many, .ref o_text, .int o_letters, .int o_thrown, .int o_cursor, .int o_token, .int o_start, .long o_value, .int o_isFault, .int o_faultAt, .int o_above, .int o_below, .ref o_topOf, .ref o_partsOf, .ref o_sent]))]) (hS : va_S A s.heap H locs), W p l e ({ frames := 1, cells := 0, slots := 0, locals := 27 } : Room) s m ([.ref o] : List Value).toArray below meth c H locs 0 0 Q (F0 m 105 ls [.int y_1]) := by
      intro y_1 hy_y_1 H locs hP hD hS
      exact hret _ _ _ _ y_1 () dX9_kindBy_105 ((hF.trans (by simp only [fX9_kindBy, xlet, if_pos c_1, ↓hy_y_1])).symm) hP hD hS
    refine lv_if_ne (tgt := 34) hx hb dX9_kindBy_27 (by decide) (fun c_2 => ?_) (fun c_2 => ?_)
    · refine lv_aload_n hx hb dX9_kindBy_34 rfl (lv_at hl 0 rfl) ?_
      refine xget hx hb hts hown hK 9 (C2 := RX9) (T := TX9) (N := 23) rfl hin_9 hP 0 rfl 15 (by decide) fl_75 rfl rfl rfl dX9_kindBy_35 ?_
      refine lv_bipush (v := 15) hx hb dX9_kindBy_38 (by decide) ?_
      refine lv_bipush (v := 12) hx hb dX9_kindBy_40 (by decide) ?_
      refine lv_iconst (v := 4) hx hb dX9_kindBy_42 (by decide) ?_
      refine lv_iconst (v := 0) hx hb dX9_kindBy_43 (by decide) ?_
      refine lv_iconst (v := 0) hx hb dX9_kindBy_44 (by decide) ?_
      refine lv_iconst (v := 0) hx hb dX9_kindBy_45 (by decide) ?_
      refine xcalll (S := Unit) (Wc := []) (wr := [(o, .inr (9, [.ref o_road, .ref o_told, .ref o_fresh, .ref o_was, .int o_acts, .ref o_kept, .ref o_isKept, .ref o_sights, .int o_many, .ref o_text, .int o_letters, .int o_thrown, .int o_cursor, .int o_token, .int o_start, .long o_value, .int o_isFault, .int o_faultAt, .int o_above, .int o_below, .ref o_topOf, .ref o_partsOf, .ref o_sent]))]) (W1 := (fun (u : Unit) => [])) (Wn := (fun (u : Unit) => [(o, .inr (9, [.ref o_road, .ref o_told, .ref o_fresh, .ref o_was, .int o_acts, .ref o_kept, .ref o_isKept, .ref o_sights, .int o_many, .ref o_text, .int o_letters, .int o_thrown, .int o_cursor, .int o_token, .int o_start, .long o_value, .int o_isFault, .int o_faultAt, .int o_above, .int o_below, .ref o_topOf, .ref o_partsOf, .ref o_sent]))])) (xrunS hx hb hml hown hts (c_X9_word l D cI cZ _ 15 12 4 0 0 0 ) (va_cwS 6 hts gX9_kindBy_X9_word rfl rfl rfl (by decide +kernel) ⟨Nat.le_of_ble_eq_true rfl, Nat.le_of_ble_eq_true rfl⟩) hE hK hP hD [] rfl rfl rfl hl.1 rfl (Nat.le_of_ble_eq_true rfl) dX9_kindBy_46 ⟨Nat.le_of_ble_eq_true rfl, Nat.le_of_ble_eq_true rfl⟩) hP hD hS hA [] [0] [0] rfl rfl rfl (by decide) (fun _ => rfl) rfl (fun r2 u H locs hw hz hP hD hS => ?_)
      subst hw
      refine W.lcmp hx hb dX9_kindBy_49 ?_
      refine lv_if_ne (tgt := 57) hx hb dX9_kindBy_50 (by decide) (fun c_3 => ?_) (fun c_3 => ?_)
      · refine lv_aload_n hx hb dX9_kindBy_57 rfl (lv_at hl 0 rfl) ?_
        refine xget hx hb hts hown hK 9 (C2 := RX9) (T := TX9) (N := 23) rfl hin_9 hP 0 rfl 15 (by decide) fl_75 rfl rfl rfl dX9_kindBy_58 ?_
        refine lv_iconst (v := 4) hx hb dX9_kindBy_61 (by decide) ?_
        refine lv_bipush (v := 18) hx hb dX9_kindBy_62 (by decide) ?_
        refine lv_bipush (v := 21) hx hb dX9_kindBy_64 (by decide) ?_
        refine lv_bipush (v := 14) hx hb dX9_kindBy_66 (by decide) ?_
        refine lv_bipush (v := 11) hx hb dX9_kindBy_68 (by decide) ?_
        refine lv_iconst (v := 0) hx hb dX9_kindBy_70 (by decide) ?_
        refine xcalll (S := Unit) (Wc := []) (wr := [(o, .inr (9, [.ref o_road, .ref o_told, .ref o_fresh, .ref o_was, .int o_acts, .ref o_kept, .ref o_isKept, .ref o_sights, .int o_many, .ref o_text, .int o_letters, .int o_thrown, .int o_cursor, .int o_token, .int o_start, .long o_value, .int o_isFault, .int o_faultAt, .int o_above, .int o_below, .ref o_topOf, .ref o_partsOf, .ref o_sent]))]) (W1 := (fun (u : Unit) => [])) (Wn := (fun (u : Unit) => [(o, .inr (9, [.ref o_road, .ref o_told, .ref o_fresh, .ref o_was, .int o_acts, .ref o_kept, .ref o_isKept, .ref o_sights, .int o_many, .ref o_text, .int o_letters, .int o_thrown, .int o_cursor, .int o_token, .int o_start, .long o_value, .int o_isFault, .int o_faultAt, .int o_above, .int o_below, .ref o_topOf, .ref o_partsOf, .ref o_sent]))])) (xrunS hx hb hml hown hts (c_X9_word l D cI cZ _ 4 18 21 14 11 0 ) (va_cwS 6 hts gX9_kindBy_X9_word rfl rfl rfl (by decide +kernel) ⟨Nat.le_of_ble_eq_true rfl, Nat.le_of_ble_eq_true rfl⟩) hE hK hP hD [] rfl rfl rfl hl.1 rfl (Nat.le_of_ble_eq_true rfl) dX9_kindBy_71 ⟨Nat.le_of_ble_eq_true rfl, Nat.le_of_ble_eq_true rfl⟩) hP hD hS hA [] [0] [0] rfl rfl rfl (by decide) (fun _ => rfl) rfl (fun r3 u H locs hw hz hP hD hS => ?_)
        subst hw
        refine W.lcmp hx hb dX9_kindBy_74 ?_
        refine lv_if_ne (tgt := 82) hx hb dX9_kindBy_75 (by decide) (fun c_4 => ?_) (fun c_4 => ?_)
        · refine lv_aload_n hx hb dX9_kindBy_82 rfl (lv_at hl 0 rfl) ?_
          refine xget hx hb hts hown hK 9 (C2 := RX9) (T := TX9) (N := 23) rfl hin_9 hP 0 rfl 15 (by decide) fl_75 rfl rfl rfl dX9_kindBy_83 ?_
          refine lv_iconst (v := 2) hx hb dX9_kindBy_86 (by decide) ?_
          refine lv_iconst (v := 1) hx hb dX9_kindBy_87 (by decide) ?_
          refine lv_iconst (v := 3) hx hb dX9_kindBy_88 (by decide) ?_
          refine lv_bipush (v := 11) hx hb dX9_kindBy_89 (by decide) ?_
          refine lv_iconst (v := 0) hx hb dX9_kindBy_91 (by decide) ?_
          refine lv_iconst (v := 0) hx hb dX9_kindBy_92 (by decide) ?_
          refine xcalll (S := Unit) (Wc := []) (wr := [(o, .inr (9, [.ref o_road, .ref o_told, .ref o_fresh, .ref o_was, .int o_acts, .ref o_kept, .ref o_isKept, .ref o_sights, .int o_many, .ref o_text, .int o_letters, .int o_thrown, .int o_cursor, .int o_token, .int o_start, .long o_value, .int o_isFault, .int o_faultAt, .int o_above, .int o_below, .ref o_topOf, .ref o_partsOf, .ref o_sent]))]) (W1 := (fun (u : Unit) => [])) (Wn := (fun (u : Unit) => [(o, .inr (9, [.ref o_road, .ref o_told, .ref o_fresh, .ref o_was, .int o_acts, .ref o_kept, .ref o_isKept, .ref o_sights, .int o_many, .ref o_text, .int o_letters, .int o_thrown, .int o_cursor, .int o_token, .int o_start, .long o_value, .int o_isFault, .int o_faultAt, .int o_above, .int o_below, .ref o_topOf, .ref o_partsOf, .ref o_sent]))])) (xrunS hx hb hml hown hts (c_X9_word l D cI cZ _ 2 1 3 11 0 0 ) (va_cwS 6 hts gX9_kindBy_X9_word rfl rfl rfl (by decide +kernel) ⟨Nat.le_of_ble_eq_true rfl, Nat.le_of_ble_eq_true rfl⟩) hE hK hP hD [] rfl rfl rfl hl.1 rfl (Nat.le_of_ble_eq_true rfl) dX9_kindBy_93 ⟨Nat.le_of_ble_eq_true rfl, Nat.le_of_ble_eq_true rfl⟩) hP hD hS hA [] [0] [0] rfl rfl rfl (by decide) (fun _ => rfl) rfl (fun r4 u H locs hw hz hP hD hS => ?_)
          subst hw
          refine W.lcmp hx hb dX9_kindBy_96 ?_
          refine lv_if_ne (tgt := 104) hx hb dX9_kindBy_97 (by decide) (fun c_5 => ?_) (fun c_5 => ?_)
          · refine lv_iconst (v := (-1)) hx hb dX9_kindBy_104 (by decide) ?_
            exact K_y_1 _ (by simp only [xlet, if_neg c_2, if_neg c_3, if_neg c_4, if_neg c_5]) _ _ hP hD hS
          · refine lv_iconst (v := 3) hx hb dX9_kindBy_100 (by decide) ?_
            refine lv_goto (tgt := 105) hx hb dX9_kindBy_101 (by decide) ?_
            exact K_y_1 _ (by simp only [xlet, if_neg c_2, if_neg c_3, if_neg c_4, if_pos c_5]) _ _ hP hD hS
        · refine lv_iconst (v := 2) hx hb dX9_kindBy_78 (by decide) ?_
          refine lv_goto (tgt := 105) hx hb dX9_kindBy_79 (by decide) ?_
          exact K_y_1 _ (by simp only [xlet, if_neg c_2, if_neg c_3, if_pos c_4]) _ _ hP hD hS
      · refine lv_iconst (v := 1) hx hb dX9_kindBy_53 (by decide) ?_
        refine lv_goto (tgt := 105) hx hb dX9_kindBy_54 (by decide) ?_
        exact K_y_1 _ (by simp only [xlet, if_neg c_2, if_pos c_3]) _ _ hP hD hS
    · refine lv_iconst (v := 0) hx hb dX9_kindBy_30 (by decide) ?_
      refine lv_goto (tgt := 105) hx hb dX9_kindBy_31 (by decide) ?_
      exact K_y_1 _ (by simp only [xlet, if_pos c_2]) _ _ hP hD hS
  · refine lv_iconst (v := (-1)) hx hb dX9_kindBy_8 (by decide) ?_
    exact hret _ _ _ _ (-1) () dX9_kindBy_9 ((hF.trans (by simp only [fX9_kindBy, xlet, if_neg c_1])).symm) hP hD hS
theorem dX9_forget_0 : decode cX9_forget 0 = .ok (.aload_n 0, 1) := by decide +kernel
theorem dX9_forget_1 : decode cX9_forget 1 = .ok (.iconst 0, 1) := by decide +kernel
theorem dX9_forget_2 : decode cX9_forget 2 = .ok (.putfield 48, 3) := by decide +kernel
theorem dX9_forget_5 : decode cX9_forget 5 = .ok (.aload_n 0, 1) := by decide +kernel
theorem dX9_forget_6 : decode cX9_forget 6 = .ok (.getfield 128, 3) := by decide +kernel
theorem dX9_forget_9 : decode cX9_forget 9 = .ok (.istore_n 1, 1) := by decide +kernel
theorem dX9_forget_10 : decode cX9_forget 10 = .ok (.aload_n 0, 1) := by decide +kernel
theorem dX9_forget_11 : decode cX9_forget 11 = .ok (.iconst 0, 1) := by decide +kernel
theorem dX9_forget_12 : decode cX9_forget 12 = .ok (.putfield 128, 3) := by decide +kernel
theorem dX9_forget_15 : decode cX9_forget 15 = .ok (.iload_n 1, 1) := by decide +kernel
theorem dX9_forget_16 : decode cX9_forget 16 = .ok (.ireturn, 1) := by decide +kernel
def fX9_forget (o_many : Int32) : Int32 := o_many
set_option maxHeartbeats 4000000 in
set_option maxRecDepth 100000 in
theorem c_X9_forget (l : Launch) (D : va_G) (cI cZ : ClassId) (sz : Nat) (o : Nat) (o_road : Nat) (o_told : Nat) (o_fresh : Nat) (o_was : Nat) (o_acts : Int32) (o_kept : Nat) (o_isKept : Nat) (o_sights : Nat) (o_many : Int32) (o_text : Nat) (o_letters : Int32) (o_thrown : Int32) (o_cursor : Int32) (o_token : Int32) (o_start : Int32) (o_value : Int64) (o_isFault : Int32) (o_faultAt : Int32) (o_above : Int32) (o_below : Int32) (o_topOf : Nat) (o_partsOf : Nat) (o_sent : Nat)  : Met l yX9_forget wsX9_forget ({ frames := 0, cells := 0, slots := 0, locals := 0 } : Room) (va_Pc [.ref o] (xP D cI cZ [(o, .inr (9, [.ref o_road, .ref o_told, .ref o_fresh, .ref o_was, .int o_acts, .ref o_kept, .ref o_isKept, .ref o_sights, .int o_many, .ref o_text, .int o_letters, .int o_thrown, .int o_cursor, .int o_token, .int o_start, .long o_value, .int o_isFault, .int o_faultAt, .int o_above, .int o_below, .ref o_topOf, .ref o_partsOf, .ref o_sent]))] sz)) (va_Qi (fun (r : Int32) (u : Unit) => r = fX9_forget o_many) (fun (u : Unit) t => xB D cI cZ [(o, .inr (9, [.ref o_road, .ref o_told, .ref o_fresh, .ref o_was, .int o_acts, .ref o_kept, .ref o_isKept, .ref o_sights, .int 0, .ref o_text, .int o_letters, .int 0, .int o_cursor, .int o_token, .int o_start, .long o_value, .int o_isFault, .int o_faultAt, .int o_above, .int o_below, .ref o_topOf, .ref o_partsOf, .ref o_sent]))] (va_A [(o, .inr (9, [.ref o_road, .ref o_told, .ref o_fresh, .ref o_was, .int o_acts, .ref o_kept, .ref o_isKept, .ref o_sights, .int o_many, .ref o_text, .int o_letters, .int o_thrown, .int o_cursor, .int o_token, .int o_start, .long o_value, .int o_isFault, .int o_faultAt, .int o_above, .int o_below, .ref o_topOf, .ref o_partsOf, .ref o_sent]))] sz) t) (va_A [(o, .inr (9, [.ref o_road, .ref o_told, .ref o_fresh, .ref o_was, .int o_acts, .ref o_kept, .ref o_isKept, .ref o_sights, .int o_many, .ref o_text, .int o_letters, .int o_thrown, .int o_cursor, .int o_token, .int o_start, .long o_value, .int o_isFault, .int o_faultAt, .int o_above, .int o_below, .ref o_topOf, .ref o_partsOf, .ref o_sent]))] sz)) 0 0 (va_A [(o, .inr (9, [.ref o_road, .ref o_told, .ref o_fresh, .ref o_was, .int o_acts, .ref o_kept, .ref o_isKept, .ref o_sights, .int o_many, .ref o_text, .int o_letters, .int o_thrown, .int o_cursor, .int o_token, .int o_start, .long o_value, .int o_isFault, .int o_faultAt, .int o_above, .int o_below, .ref o_topOf, .ref o_partsOf, .ref o_sent]))] sz) := by
  refine Met.ofW (cc := cX9_forget) (maxL := 2) (ret := (some .int)) (by decide) rfl ?_
  intro p e s m args below meth c s₁ B hml hv
  obtain ⟨hargs, hsz, hP, hK, hD0, hE⟩ := hv
  subst hargs
  have hx := B.exec
  have hb := B.bytes
  have hr := B.returns
  have hts := atoms_spec (ws := wsX9_forget) B.pre
  have hown : s.vm.findClass RX9 = some m.cls := findClass_of_methodNamed B.named
  have hlocks := B.notSynchronized
  subst hsz
  have hD := hD0.self (sz := s.heap.size)
  generalize hAe : va_A [(o, .inr (9, [.ref o_road, .ref o_told, .ref o_fresh, .ref o_was, .int o_acts, .ref o_kept, .ref o_isKept, .ref o_sights, .int o_many, .ref o_text, .int o_letters, .int o_thrown, .int o_cursor, .int o_token, .int o_start, .long o_value, .int o_isFault, .int o_faultAt, .int o_above, .int o_below, .ref o_topOf, .ref o_partsOf, .ref o_sent]))] s.heap.size = A at hD ⊢
  have hA : ∀ q : Nat, s.heap.size ≤ q → A q := fun q h => by rw [← hAe]; exact Or.inr h
  have hS : va_S A s.heap s.heap [] := va_S.rf
  have hl := lv_entry ([.ref o]) (n := 2) (Nat.le_of_ble_eq_true rfl)
  rw [lg_entry_eq]
  generalize (lg_sl ([.ref o]) ++ List.replicate (2 - (lg_sl ([.ref o])).length) Slot.unset).toArray = ls at hl ⊢
  have hl : lv_has ls 2 [(0, .ref o)] := hl
  refine wq (X := fun Q => ∀ (pc : Nat) (H : Heap) (locs : List Loc) (ls : Array Slot) (r : Int32) (u : Unit) (hd : decode cX9_forget pc = .ok (.ireturn, 1)) (hp : r = fX9_forget o_many) (hP : va_P D vwCl [(o, .inr (9, [.ref o_road, .ref o_told, .ref o_fresh, .ref o_was, .int o_acts, .ref o_kept, .ref o_isKept, .ref o_sights, .int 0, .ref o_text, .int o_letters, .int 0, .int o_cursor, .int o_token, .int o_start, .long o_value, .int o_isFault, .int o_faultAt, .int o_above, .int o_below, .ref o_topOf, .ref o_partsOf, .ref o_sent]))] H) (hD : va_D A [(o, .inr (9, [.ref o_road, .ref o_told, .ref o_fresh, .ref o_was, .int o_acts, .ref o_kept, .ref o_isKept, .ref o_sights, .int 0, .ref o_text, .int o_letters, .int 0, .int o_cursor, .int o_token, .int o_start, .long o_value, .int o_isFault, .int o_faultAt, .int o_above, .int o_below, .ref o_topOf, .ref o_partsOf, .ref o_sent]))]) (hS : va_S A s.heap H locs), W p l e ({ frames := 0, cells := 0, slots := 0, locals := 0 } : Room) s m ([.ref o] : List Value).toArray below meth c H locs 0 0 Q (F0 m pc ls [.int r])) ?_ (fun Q hret => ?_)
  · intro pc H locs ls r u hd hp hP hD hS
    exact W.iret (v := r) hx hb hr (fun t ht hW => ⟨⟨r, u, rfl, hp, by rw [ht]; exact hP, va_K.moved hW.alike hK, hD⟩, hS.F ht⟩) hS.2.2 hd
  have hin_9 : ∀ w ∈ u_ws RX9 TX9 23, w ∈ wsX9_forget := by decide +kernel
  have fl_48 := hts (.fieldLink RX9 48 "MileRoadModel" "thrown" "I") (by decide +kernel)
  have fl_128 := hts (.fieldLink RX9 128 "MileRoadModel" "many" "I") (by decide +kernel)
  have hF : fX9_forget o_many = fX9_forget o_many := rfl
  refine lv_aload_n hx hb dX9_forget_0 rfl (lv_at hl 0 rfl) ?_
  refine lv_iconst (v := 0) hx hb dX9_forget_1 (by decide) ?_
  refine xput hx hb hts hown hK 9 (C2 := RX9) (T := TX9) (N := 23) tyX9 rfl tyX9_ok nmX9 hin_9 hP hD hS 0 rfl 11 (by decide) fl_48 rfl rfl rfl rfl rfl (Nat.le_of_ble_eq_true rfl) dX9_forget_2 [(o, .inr (9, [.ref o_road, .ref o_told, .ref o_fresh, .ref o_was, .int o_acts, .ref o_kept, .ref o_isKept, .ref o_sights, .int o_many, .ref o_text, .int o_letters, .int 0, .int o_cursor, .int o_token, .int o_start, .long o_value, .int o_isFault, .int o_faultAt, .int o_above, .int o_below, .ref o_topOf, .ref o_partsOf, .ref o_sent]))] rfl (fun H locs hP hD hS => ?_)
  refine lv_aload_n hx hb dX9_forget_5 rfl (lv_at hl 0 rfl) ?_
  refine xget hx hb hts hown hK 9 (C2 := RX9) (T := TX9) (N := 23) rfl hin_9 hP 0 rfl 8 (by decide) fl_128 rfl rfl rfl dX9_forget_6 ?_
  refine lv_istore_n (lv' := [(1, .int o_many), (0, .ref o)]) hx hb dX9_forget_9 rfl hl (by decide) rfl (fun ls hl => ?_)
  refine lv_aload_n hx hb dX9_forget_10 rfl (lv_at hl 1 rfl) ?_
  refine lv_iconst (v := 0) hx hb dX9_forget_11 (by decide) ?_
  refine xput hx hb hts hown hK 9 (C2 := RX9) (T := TX9) (N := 23) tyX9 rfl tyX9_ok nmX9 hin_9 hP hD hS 0 rfl 8 (by decide) fl_128 rfl rfl rfl rfl rfl (Nat.le_of_ble_eq_true rfl) dX9_forget_12 [(o, .inr (9, [.ref o_road, .ref o_told, .ref o_fresh, .ref o_was, .int o_acts, .ref o_kept, .ref o_isKept, .ref o_sights, .int 0, .ref o_text, .int o_letters, .int 0, .int o_cursor, .int o_token, .int o_start, .long o_value, .int o_isFault, .int o_faultAt, .int o_above, .int o_below, .ref o_topOf, .ref o_partsOf, .ref o_sent]))] rfl (fun H locs hP hD hS => ?_)
  refine lv_iload_n hx hb dX9_forget_15 rfl (lv_at hl 0 rfl) ?_
  exact hret _ _ _ _ o_many () dX9_forget_16 ((hF.trans (by simp only [fX9_forget, xlet])).symm) hP hD hS
