theorem dX9_common_0 : decode cX9_common 0 = .ok (.lload_n 0, 1) := by decide +kernel
theorem dX9_common_1 : decode cX9_common 1 = .ok (.lstore 4, 2) := by decide +kernel
theorem dX9_common_3 : decode cX9_common 3 = .ok (.lload_n 2, 1) := by decide +kernel
theorem dX9_common_4 : decode cX9_common 4 = .ok (.lstore 6, 2) := by decide +kernel
theorem dX9_common_6 : decode cX9_common 6 = .ok (.lload 6, 2) := by decide +kernel
theorem dX9_common_8 : decode cX9_common 8 = .ok (.lconst 0, 1) := by decide +kernel
theorem dX9_common_9 : decode cX9_common 9 = .ok (.lcmp, 1) := by decide +kernel
theorem dX9_common_10 : decode cX9_common 10 = .ok (.ifCond .eq 21, 3) := by decide +kernel
theorem dX9_common_13 : decode cX9_common 13 = .ok (.lload 4, 2) := by decide +kernel
theorem dX9_common_15 : decode cX9_common 15 = .ok (.lload 6, 2) := by decide +kernel
theorem dX9_common_17 : decode cX9_common 17 = .ok (.lrem, 1) := by decide +kernel
theorem dX9_common_18 : decode cX9_common 18 = .ok (.lstore 8, 2) := by decide +kernel
theorem dX9_common_20 : decode cX9_common 20 = .ok (.lload 6, 2) := by decide +kernel
theorem dX9_common_22 : decode cX9_common 22 = .ok (.lstore 4, 2) := by decide +kernel
theorem dX9_common_24 : decode cX9_common 24 = .ok (.lload 8, 2) := by decide +kernel
theorem dX9_common_26 : decode cX9_common 26 = .ok (.lstore 6, 2) := by decide +kernel
theorem dX9_common_28 : decode cX9_common 28 = .ok (.goto (-22), 3) := by decide +kernel
theorem dX9_common_31 : decode cX9_common 31 = .ok (.lload 4, 2) := by decide +kernel
theorem dX9_common_33 : decode cX9_common 33 = .ok (.lreturn, 1) := by decide +kernel
def fX9_common_6   : Nat → Int64 → Int64 → Int64
  | 0, _, _ => default
  | n + 1, v6_4, v6_6 => if (lg_cmp v6_6 0) = 0 then v6_4 else (fX9_common_6 n v6_6 (v6_4 - v6_4 / v6_6 * v6_6))
def fX9_common (a1 : Int64) (a2 : Int64) : Int64 := fX9_common_6 100000001 a1 a2
set_option maxHeartbeats 4000000 in
set_option maxRecDepth 100000 in
theorem c_X9_common (l : Launch) (D : va_G) (cI cZ : ClassId) (sz : Nat) (a1 : Int64) (a2 : Int64) (ha0 : 0 ≤ a1.toInt) (hb0 : 0 ≤ a2.toInt) (hb1 : a2.toInt ≤ 100000000) : Met l yX9_common wsX9_common ({ frames := 0, cells := 0, slots := 0, locals := 0 } : Room) (va_Pc [.long a1, .long a2] (xP D cI cZ [] sz)) (va_Ql (fun (r : Int64) (u : Unit) => r = fX9_common a1 a2) (fun (u : Unit) t => xB D cI cZ [] (va_A [] sz) t) (va_A [] sz)) 0 0 (va_A [] sz) := by
  refine Met.ofW (cc := cX9_common) (maxL := 10) (ret := (some .long)) (by decide) rfl ?_
  intro p e s m args below meth c s₁ B hml hv
  obtain ⟨hargs, hsz, hP, hK, hD0, hE⟩ := hv
  subst hargs
  have hx := B.exec
  have hb := B.bytes
  have hr := B.returns
  have hts := atoms_spec (ws := wsX9_common) B.pre
  have hown : s.vm.findClass RX9 = some m.cls := findClass_of_methodNamed B.named
  have hlocks := B.notSynchronized
  subst hsz
  have hD := hD0.self (sz := s.heap.size)
  generalize hAe : va_A [] s.heap.size = A at hD ⊢
  have hA : ∀ q : Nat, s.heap.size ≤ q → A q := fun q h => by rw [← hAe]; exact Or.inr h
  have hS : va_S A s.heap s.heap [] := va_S.rf
  have hl := lv_entry ([.long a1, .long a2]) (n := 10) (Nat.le_of_ble_eq_true rfl)
  rw [lg_entry_eq]
  generalize (lg_sl ([.long a1, .long a2]) ++ List.replicate (10 - (lg_sl ([.long a1, .long a2])).length) Slot.unset).toArray = ls at hl ⊢
  have hl : lv_has ls 10 [(0, .long a1), (2, .long a2)] := hl
  refine wq (X := fun Q => ∀ (pc : Nat) (H : Heap) (locs : List Loc) (ls : Array Slot) (r : Int64) (u : Unit) (hd : decode cX9_common pc = .ok (.lreturn, 1)) (hp : r = fX9_common a1 a2) (hP : va_P D vwCl [] H) (hD : va_D A []) (hS : va_S A s.heap H locs), W p l e ({ frames := 0, cells := 0, slots := 0, locals := 0 } : Room) s m ([.long a1, .long a2] : List Value).toArray below meth c H locs 0 0 Q (F0 m pc ls [.long r])) ?_ (fun Q hret => ?_)
  · intro pc H locs ls r u hd hp hP hD hS
    exact W.lret (v := r) hx hb hr (fun t ht hW => ⟨⟨r, u, rfl, hp, by rw [ht]; exact hP, va_K.moved hW.alike hK, hD⟩, hS.F ht⟩) hS.2.2 hd
  have zl_0 : (0 : Int32).toInt = 0 := by decide
  have hF : fX9_common a1 a2 = fX9_common a1 a2 := rfl
  have L_6 : ∀  (n_6 : Nat) (v6_4 : Int64) (v6_6 : Int64) (h1_6 : 0 ≤ v6_4.toInt) (h2_6 : 0 ≤ v6_6.toInt) (h3_6 : v6_6.toInt ≤ 100000000) (hm : v6_6.toInt < (n_6 : Int)) (H : Heap) (locs : List Loc) (ls : Array Slot) (hl : lv_has ls 10 [(0, .long a1), (2, .long a2), (4, .long v6_4), (6, .long v6_6)]) (hP : va_P D vwCl [] H) (hD : va_D A []) (hS : va_S A s.heap H locs) (hF : fX9_common a1 a2 = fX9_common_6 n_6 v6_4 v6_6), W p l e ({ frames := 0, cells := 0, slots := 0, locals := 0 } : Room) s m ([.long a1, .long a2] : List Value).toArray below meth c H locs 0 0 Q (F0 m 6 ls []) := by
    intro  n_6
    induction n_6 with
    | zero =>
      intro v6_4 v6_6 h1_6 h2_6 h3_6 hm H locs ls hl hP hD hS hF
      exact absurd hm (by with_reducible omega)
    | succ n_6 ih_6 =>
      intro v6_4 v6_6 h1_6 h2_6 h3_6 hm H locs ls hl hP hD hS hF
      refine lv_lload hx hb dX9_common_6 (lv_at hl 3 rfl) ?_
      refine lv_lconst (v := 0) hx hb dX9_common_8 (by decide) ?_
      refine W.lcmp hx hb dX9_common_9 ?_
      refine lv_if_eq (tgt := 31) hx hb dX9_common_10 (by decide) (fun c_1 => ?_) (fun c_1 => ?_)
      · refine lv_lload hx hb dX9_common_31 (lv_at hl 2 rfl) ?_
        exact hret _ _ _ _ v6_4 () dX9_common_33 ((hF.trans (by simp only [fX9_common_6, ↓if_pos c_1])).symm) hP hD hS
      · have q0 : 0 < v6_6.toInt := pos64 ‹¬ (lg_cmp v6_6 0) = 0› h2_6
        have qr := z64_rem h1_6 q0
        refine lv_lload hx hb dX9_common_13 (lv_at hl 2 rfl) ?_
        refine lv_lload hx hb dX9_common_15 (lv_at hl 3 rfl) ?_
        refine lv_lrem hx hb dX9_common_17 (ne64 q0) ?_
        refine lv_lstore (lv' := [(8, .long (v6_4 - v6_4 / v6_6 * v6_6)), (0, .long a1), (2, .long a2), (4, .long v6_4), (6, .long v6_6)]) hx hb dX9_common_18 hl (by decide) rfl (fun ls hl => ?_)
        refine lv_lload hx hb dX9_common_20 (lv_at hl 4 rfl) ?_
        refine lv_lstore (lv' := [(4, .long v6_6), (8, .long (v6_4 - v6_4 / v6_6 * v6_6)), (0, .long a1), (2, .long a2), (6, .long v6_6)]) hx hb dX9_common_22 hl (by decide) rfl (fun ls hl => ?_)
        refine lv_lload hx hb dX9_common_24 (lv_at hl 1 rfl) ?_
        refine lv_lstore (lv' := [(6, .long (v6_4 - v6_4 / v6_6 * v6_6)), (4, .long v6_6), (8, .long (v6_4 - v6_4 / v6_6 * v6_6)), (0, .long a1), (2, .long a2)]) hx hb dX9_common_26 hl (by decide) rfl (fun ls hl => ?_)
        refine lv_goto (tgt := 6) hx hb dX9_common_28 (by decide) ?_
        exact ih_6 v6_6 (v6_4 - v6_4 / v6_6 * v6_6) h2_6 qr.1 (Int.le_of_lt (Int.lt_of_lt_of_le qr.2 h3_6)) (by first | with_reducible assumption | with_reducible omega | decide | (split <;> rename_i hh <;> first | (have h9 := t_nlt hh; with_reducible omega) | (have h9 := t_lt hh; with_reducible omega) | (have h9 := t_nle hh; with_reducible omega) | (have h9 := t_le hh; with_reducible omega))) _ _ _ (lv_sub hl [3, 4, 1, 0] rfl) hP hD hS (hF.trans (by simp only [fX9_common_6, ↓if_neg c_1]))
  refine lv_lload_n hx hb dX9_common_0 rfl (lv_at hl 0 rfl) ?_
  refine lv_lstore (lv' := [(4, .long a1), (0, .long a1), (2, .long a2)]) hx hb dX9_common_1 hl (by decide) rfl (fun ls hl => ?_)
  refine lv_lload_n hx hb dX9_common_3 rfl (lv_at hl 2 rfl) ?_
  refine lv_lstore (lv' := [(6, .long a2), (4, .long a1), (0, .long a1), (2, .long a2)]) hx hb dX9_common_4 hl (by decide) rfl (fun ls hl => ?_)
  exact L_6 100000001 a1 a2 (by first | with_reducible assumption | with_reducible omega | decide | (split <;> rename_i hh <;> first | (have h9 := t_nlt hh; with_reducible omega) | (have h9 := t_lt hh; with_reducible omega) | (have h9 := t_nle hh; with_reducible omega) | (have h9 := t_le hh; with_reducible omega))) (by first | with_reducible assumption | with_reducible omega | decide | (split <;> rename_i hh <;> first | (have h9 := t_nlt hh; with_reducible omega) | (have h9 := t_lt hh; with_reducible omega) | (have h9 := t_nle hh; with_reducible omega) | (have h9 := t_le hh; with_reducible omega))) (by first | with_reducible assumption | with_reducible omega | decide | (split <;> rename_i hh <;> first | (have h9 := t_nlt hh; with_reducible omega) | (have h9 := t_lt hh; with_reducible omega) | (have h9 := t_nle hh; with_reducible omega) | (have h9 := t_le hh; with_reducible omega))) (by first | with_reducible assumption | with_reducible omega | decide | (split <;> rename_i hh <;> first | (have h9 := t_nlt hh; with_reducible omega) | (have h9 := t_lt hh; with_reducible omega) | (have h9 := t_nle hh; with_reducible omega) | (have h9 := t_le hh; with_reducible omega))) _ _ _ (lv_sub hl [2, 3, 1, 0] rfl) hP hD hS (hF.trans (by simp only [fX9_common]))
