theorem dX8_keptAs_0 : decode cX8_keptAs 0 = .ok (.iload_n 1, 1) := by decide +kernel
theorem dX8_keptAs_1 : decode cX8_keptAs 1 = .ok (.ifCond .ne 10, 3) := by decide +kernel
theorem dX8_keptAs_4 : decode cX8_keptAs 4 = .ok (.aload_n 0, 1) := by decide +kernel
theorem dX8_keptAs_5 : decode cX8_keptAs 5 = .ok (.getfield 35, 3) := by decide +kernel
theorem dX8_keptAs_8 : decode cX8_keptAs 8 = .ok (.goto 7, 3) := by decide +kernel
theorem dX8_keptAs_11 : decode cX8_keptAs 11 = .ok (.aload_n 0, 1) := by decide +kernel
theorem dX8_keptAs_12 : decode cX8_keptAs 12 = .ok (.getfield 38, 3) := by decide +kernel
theorem dX8_keptAs_15 : decode cX8_keptAs 15 = .ok (.areturn, 1) := by decide +kernel
section XH2
variable {p : Program} {l : Launch} {e : Env} {R : Room} {s : State} {m : MethodId} {args : Array Value} {below : List Frame} {meth : Method} {c : Code} {H : Heap} {locs : List Loc} {cells slots : Nat} {Q : State → Prop}
variable {pc : Nat} {ls : Array Slot} {rest st : List Value} {D : va_G} {cI cZ : ClassId} {A : Nat → Prop} {Ws Wc wr : va_W}
variable {S : Type} {W1 Wn : S → va_W} {a : Array Value}
theorem xcallr {post : S → Prop} {g : Nat → Prop} (hr : va_Run p l e R s m args below meth c H locs cells slots 0 0 (F0 m pc ls st) rest (va_Qr post (fun u ra t => g ra ∧ xB D cI cZ (W1 u) (va_A Wc H.size) t) (va_A Wc H.size) a) (va_A Wc H.size))
    (hP : va_P D vwCl Ws H) (hD : va_D A Ws) (hS : va_S A s.heap H locs) (hA : ∀ q, s.heap.size ≤ q → A q) (isC isR isB : List Nat) (hC : isC.map (fun i => Ws[i]?) = Wc.map some) (hR : isR.map (fun i => Ws[i]?) = wr.map some) (hnR : va_nd isR = true) (hdis : ∀ i ∈ isR, i ∉ isC) (hB : ∀ u : S, isB.map (fun i => (wr ++ W1 u)[i]?) = (Wn u).map some) (hnB : va_nd isB = true)
    (kk : ∀ (ra : Nat) (u : S) (H1 : Heap) (locs1 : List Loc), g ra → post u → H.size ≤ H1.size → va_P D vwCl (Wn u) H1 → va_D A (Wn u) → va_S A s.heap H1 locs1 → W p l e R s m args below meth c H1 locs1 cells slots Q (F0 m (pc + 3) ls (.ref ra :: rest))) : W p l e R s m args below meth c H locs cells slots Q (F0 m pc ls st) := by
  refine va_callr hr hS (fun q _ h => va_free hD hS hA isC hC q h) (va_free hD hS hA isC hC) (fun u ra t H1 locs1 ht hvm hw hB2 hz hk hS1 => ?_)
  obtain ⟨hg, hP1, hK1, hD1⟩ := hB2
  rw [ht] at hP1
  obtain ⟨hP3, hD3⟩ := x_join hP hD hS hA isC isR isB hC hR hnR hdis hB hnB u hk hP1 hD1
  exact kk ra u H1 locs1 hg hw hz hP3 hD3 hS1
end XH2
set_option maxHeartbeats 4000000 in
set_option maxRecDepth 100000 in
theorem c_X8_keptAs (l : Launch) (D : va_G) (cI cZ : ClassId) (sz : Nat) (o : Nat) (a1 : Int32) (o_text o_reader o_told o_now o_firstKept o_secondKept : Nat) (o_keptBits : Int32) (o_past o_sightings o_stones o_game : Nat) : Met l yX8_keptAs wsX8_keptAs ({ frames := 0, cells := 0, slots := 0, locals := 0 } : Room) (va_Pc [.ref o, .int a1] (xP D cI cZ [(o, .inr (8, [.ref o_text, .ref o_reader, .ref o_told, .ref o_now, .ref o_firstKept, .ref o_secondKept, .int o_keptBits, .ref o_past, .ref o_sightings, .ref o_stones, .ref o_game]))] sz)) (va_Qr (fun (u : Unit) => True) (fun (u : Unit) ra t => (if a1 = 0 then o_firstKept else o_secondKept) = ra ∧ xB D cI cZ [(o, .inr (8, [.ref o_text, .ref o_reader, .ref o_told, .ref o_now, .ref o_firstKept, .ref o_secondKept, .int o_keptBits, .ref o_past, .ref o_sightings, .ref o_stones, .ref o_game]))] (va_A [(o, .inr (8, [.ref o_text, .ref o_reader, .ref o_told, .ref o_now, .ref o_firstKept, .ref o_secondKept, .int o_keptBits, .ref o_past, .ref o_sightings, .ref o_stones, .ref o_game]))] sz) t) (va_A [(o, .inr (8, [.ref o_text, .ref o_reader, .ref o_told, .ref o_now, .ref o_firstKept, .ref o_secondKept, .int o_keptBits, .ref o_past, .ref o_sightings, .ref o_stones, .ref o_game]))] sz)) 0 0 (va_A [(o, .inr (8, [.ref o_text, .ref o_reader, .ref o_told, .ref o_now, .ref o_firstKept, .ref o_secondKept, .int o_keptBits, .ref o_past, .ref o_sightings, .ref o_stones, .ref o_game]))] sz) := by
  refine Met.ofW (cc := cX8_keptAs) (maxL := 2) (ret := (some (.object "MileRoad$Road"))) (by decide) rfl ?_
  intro p e s m args below meth c s₁ B hml hv
  obtain ⟨hargs, hsz, hP, hK, hD0, hE⟩ := hv
  subst hargs
  have hx := B.exec
  have hb := B.bytes
  have hr := B.returns
  have hts := atoms_spec (ws := wsX8_keptAs) B.pre
  have hown : s.vm.findClass RX8 = some m.cls := findClass_of_methodNamed B.named
  have hlocks := B.notSynchronized
  subst hsz
  have hD := hD0.self (sz := s.heap.size)
  generalize hAe : va_A [(o, .inr (8, [.ref o_text, .ref o_reader, .ref o_told, .ref o_now, .ref o_firstKept, .ref o_secondKept, .int o_keptBits, .ref o_past, .ref o_sightings, .ref o_stones, .ref o_game]))] s.heap.size = A at hD ⊢
  have hA : ∀ q : Nat, s.heap.size ≤ q → A q := fun q h => by rw [← hAe]; exact Or.inr h
  have hS : va_S A s.heap s.heap [] := va_S.rf
  have hl := lv_entry ([.ref o, .int a1]) (n := 2) (Nat.le_of_ble_eq_true rfl)
  rw [lg_entry_eq]
  generalize (lg_sl ([.ref o, .int a1]) ++ List.replicate (2 - (lg_sl ([.ref o, .int a1])).length) Slot.unset).toArray = ls at hl ⊢
  have hl : lv_has ls 2 [(0, .ref o), (1, .int a1)] := hl
  have hin_8 : ∀ w ∈ u_ws RX8 TX8 11, w ∈ wsX8_keptAs := by decide +kernel
  have fl_35 := hts (.fieldLink RX8 35 "MileRoad" "firstKept" "LMileRoad$Road;") (by decide +kernel)
  have fl_38 := hts (.fieldLink RX8 38 "MileRoad" "secondKept" "LMileRoad$Road;") (by decide +kernel)
  refine lv_iload_n hx hb dX8_keptAs_0 rfl (lv_at hl 1 rfl) ?_
  refine lv_if_ne (tgt := 11) hx hb dX8_keptAs_1 (by decide) (fun c_1 => ?_) (fun c_1 => ?_)
  · refine lv_aload_n hx hb dX8_keptAs_11 rfl (lv_at hl 0 rfl) ?_
    refine xget hx hb hts hown hK 8 (C2 := RX8) (T := TX8) (N := 11) rfl hin_8 hP 0 rfl 5 (by decide) fl_38 rfl rfl rfl dX8_keptAs_12 ?_
    exact W.aret hx hb hr (Or.inl ⟨_, rfl⟩) (Or.inr ⟨_, rfl⟩) (fun t ht hW => ⟨⟨(), _, rfl, trivial, if_neg c_1, by rw [ht]; exact hP, va_K.moved hW.alike hK, hD⟩, hS.F ht⟩) hS.2.2 dX8_keptAs_15
  · refine lv_aload_n hx hb dX8_keptAs_4 rfl (lv_at hl 0 rfl) ?_
    refine xget hx hb hts hown hK 8 (C2 := RX8) (T := TX8) (N := 11) rfl hin_8 hP 0 rfl 4 (by decide) fl_35 rfl rfl rfl dX8_keptAs_5 ?_
    refine lv_goto (tgt := 15) hx hb dX8_keptAs_8 (by decide) ?_
    exact W.aret hx hb hr (Or.inl ⟨_, rfl⟩) (Or.inr ⟨_, rfl⟩) (fun t ht hW => ⟨⟨(), _, rfl, trivial, if_pos c_1, by rw [ht]; exact hP, va_K.moved hW.alike hK, hD⟩, hS.F ht⟩) hS.2.2 dX8_keptAs_15
