/-! helpers: worlds with two kinds of arrays known; calls with their frame in one row; small facts of ints -/
abbrev xT (cI cZ : ClassId) : List (ClassId × FieldType) := [(cI, .int), (cZ, .boolean)]
/-- private members of nest mates: what the tables say of them -/
def xNF : List (String × Nat × String × String × String) := [(RX8, 73, "MileRoad$Text", "length", "I"), (RX8, 88, "MileRoad$Reader", "faultPlace", "I"), (RX8, 91, "MileRoad$Reader", "draft", "LMileRoad$Road;"), (RX8, 97, "MileRoad$Sightings", "held", "I"), (RX8, 100, "MileRoad$Past", "held", "I"), (RX8, 104, "MileRoad$Reader", "clauses", "I"), (RX8, 111, "MileRoad$Road", "kinds", "LMileRoad$Row;"), (RX8, 121, "MileRoad$Road", "habits", "LMileRoad$Row;"), (RX8, 137, "MileRoad$Road", "steps", "I"), (RX8, 144, "MileRoad$Road", "hard", "LMileRoad$Row;"), (RX8, 157, "MileRoad$Road", "mile", "I"), (RX8, 167, "MileRoad$Road", "walked", "I"), (RX8, 235, "MileRoad$Road", "walkers", "I"), (RX0, 32, "MileRoad$Stones", "walkers", "I"), (RX0, 56, "MileRoad$Stones", "steps", "I"), (RX1, 46, "MileRoad$Road", "hard", "LMileRoad$Row;"), (RX1, 49, "MileRoad$Road", "mile", "I"), (RX2, 51, "MileRoad$Text", "begin", "I"), (RX2, 92, "MileRoad$Road", "steps", "I"), (RX2, 99, "MileRoad$Road", "mile", "I"), (RX2, 101, "MileRoad$Road", "walkers", "I"), (RX5, 38, "MileRoad$Road", "mile", "I"), (RX5, 47, "MileRoad$Road", "kinds", "LMileRoad$Row;"), (RX5, 50, "MileRoad$Road", "habits", "LMileRoad$Row;"), (RX6, 20, "MileRoad$Road", "walkers", "I"), (RX6, 27, "MileRoad$Road", "steps", "I")]
def xNM : List (String × Nat × MethodName) := [(RX3, 57, yX8_within), (RX2, 119, yX8_within), (RX8, 9, yX7_init), (RX8, 43, yX1_init), (RX8, 50, yX5_init), (RX8, 57, yX6_init), (RX8, 64, yX0_init)]
def xE (U : State) : Prop := (∀ q ∈ xNF, va_Nw (.fieldLinkNest q.1 q.2.1 q.2.2.1 q.2.2.2.1 q.2.2.2.2 RX8) U) ∧ ∀ q ∈ xNM, va_Nw (.methodLinkNest q.1 q.2.1 q.2.2 RX8) U
theorem xE.same {u U : State} (h : u.vm = U.vm) (q : xE u) : xE U := ⟨fun w hw => va_Nw.same rfl h (q.1 w hw), fun w hw => va_Nw.same rfl h (q.2 w hw)⟩
theorem xE.warm {u U : State} (h : u.WarmedH U.vm) (q : xE u) : xE U := ⟨fun w hw => va_Nw.warmF h (q.1 w hw), fun w hw => va_Nw.warmM h (q.2 w hw)⟩
theorem xE.f {U : State} (h : xE U) (k : Nat) {q : String × Nat × String × String × String} (hk : xNF[k]? = some q) (args : Array Value) : (Cond.fieldLinkNest q.1 q.2.1 q.2.2.1 q.2.2.2.1 q.2.2.2.2 RX8).before args U = true := va_Nw.use rfl (h.1 q (List.mem_of_getElem? hk))
theorem xE.m {U : State} (h : xE U) (k : Nat) {q : String × Nat × MethodName} (hk : xNM[k]? = some q) : va_Nw (.methodLinkNest q.1 q.2.1 q.2.2 RX8) U := h.2 q (List.mem_of_getElem? hk)
def xP (D : va_G) (cI cZ : ClassId) (W : va_W) (sz : Nat) (U : State) : Prop := U.heap.size = sz ∧ va_P D vwCl W U.heap ∧ va_K D vwCl (xT cI cZ) U ∧ va_D (fun _ => True) W ∧ xE U
def xB (D : va_G) (cI cZ : ClassId) (W : va_W) (A : Nat → Prop) (t : State) : Prop := va_P D vwCl W t.heap ∧ va_K D vwCl (xT cI cZ) t ∧ va_D A W
theorem xP_blind {D : va_G} {cI cZ : ClassId} {W : va_W} {sz : Nat} {av : List Value} : FrameBlind (va_Pc av (xP D cI cZ W sz)) := fun a U g mk q => by
  obtain ⟨q0, q1, qP, qK, qD, qE⟩ := q
  exact ⟨q0, q1, qP, va_K.moved (u := U) (U := U.calling g mk a) (Vm.Alike.refl U.vm) qK, qD, qE.same rfl⟩
theorem x_fm {W W' : va_W} {is : List Nat} (h : is.map (fun i => W[i]?) = W'.map some) : is.filterMap (fun i => W[i]?) = W' := by
  have e : is.filterMap (fun i => W[i]?) = (is.map (fun i => W[i]?)).filterMap id := by rw [List.filterMap_map]; rfl
  rw [e, h, List.filterMap_map]
  simp
section XH
variable {p : Program} {l : Launch} {e : Env} {R : Room} {s : State} {m : MethodId} {args : Array Value} {below : List Frame} {meth : Method} {c : Code} {H : Heap} {locs : List Loc} {cells slots : Nat} {Q : State → Prop}
variable {cc : ByteArray} {pc : Nat} {ls : Array Slot} {rest st : List Value}
variable {y : MethodName} {bytes : ByteArray} {maxL nL mc ms n index : Nat} {ret : Option FieldType} {ws : List Cond} {rm : Room} {Qc : Array Value → State → Outcome → State → Prop} {free : Addr → Prop} {Ts : List Cond} {own C : String} {b : Nat} {As : List Value}
variable {D : va_G} {cI cZ : ClassId} {A : Nat → Prop} {Ws Wc wr : va_W}
theorem wq {Q0 : State → Prop} {g : JFrame} (X : (State → Prop) → Prop) (hX : X Q0) (k : ∀ Q, X Q → W p l e R s m args below meth c H locs cells slots Q g) : W p l e R s m args below meth c H locs cells slots Q0 g := k Q0 hX
theorem xrunV (hx : p.tables.exec = Jvm.exec) (hb : c.code = cc) (hml : c.maxLocals = nL) (hown : s.vm.findClass own = some m.cls) (hts : ∀ w ∈ Ts, w.before args s = true)
    (hM : Met l y ws rm (va_Pc (.ref b :: As) (xP D cI cZ Wc H.size)) Qc mc ms free) (cw : CallW R s args own C index y bytes maxL ret ws rm mc ms n)
    (hE : xE s) (hK : va_K D vwCl (xT cI cZ) s) (hP : va_P D vwCl Ws H) (hD : va_D A Ws) (isC : List Nat) (hC : isC.map (fun i => Ws[i]?) = Wc.map some) (hnC : va_nd isC = true)
    (q0 ci : Nat) {fs : List Value} {T : u_T} {N : Nat} (he : Wc[q0]? = some (b, .inr (ci, fs))) (hc : vwCl[ci]? = some (C, T, N))
    (hn : As.length = n) (hsize : ls.size = nL) (hst : st = As.reverse ++ .ref b :: rest) (hW : (rest.map fun v => v.category).sum ≤ 8) (hdg : decode cc pc = .ok (.invokevirtual index, 3)) (hf : cells + mc ≤ R.cells ∧ slots + ms ≤ R.slots) :
    va_Run p l e R s m args below meth c H locs cells slots mc ms (F0 m pc ls st) rest (Qc (Value.ref b :: As).toArray) free := by
  have hPc : va_P D vwCl Wc H := hP.sub isC (x_fm hC)
  have hDc : va_D A Wc := hD.sub isC hnC hC
  exact va_runV ⟨hx, hb, hml, hown, hts⟩ hM cw ⟨xP_blind, va_recv hK hPc hc he, fun U hU hW => ⟨rfl, by rw [hU], by rw [hU]; exact hPc, va_K.moved hW.alike hK, hDc.weaken (fun _ _ _ _ => trivial), hE.warm hW⟩⟩ rfl hn hsize hst (lv_room hW) hdg hf
theorem xrunS (hx : p.tables.exec = Jvm.exec) (hb : c.code = cc) (hml : c.maxLocals = nL) (hown : s.vm.findClass own = some m.cls) (hts : ∀ w ∈ Ts, w.before args s = true)
    (hM : Met l y ws rm (va_Pc As (xP D cI cZ Wc H.size)) Qc mc ms free) (cw : CallB R s args own index y bytes maxL ret ws rm mc ms n ∧ (Cond.static y).before args s = true)
    (hE : xE s) (hK : va_K D vwCl (xT cI cZ) s) (hP : va_P D vwCl Ws H) (hD : va_D A Ws) (isC : List Nat) (hC : isC.map (fun i => Ws[i]?) = Wc.map some) (hnC : va_nd isC = true)
    (hn : As.length = n) (hsize : ls.size = nL) (hst : st = As.reverse ++ rest) (hW : (rest.map fun v => v.category).sum ≤ 8) (hdg : decode cc pc = .ok (.invokestatic index, 3)) (hf : cells + mc ≤ R.cells ∧ slots + ms ≤ R.slots) :
    va_Run p l e R s m args below meth c H locs cells slots mc ms (F0 m pc ls st) rest (Qc As.toArray) free := by
  have hPc : va_P D vwCl Wc H := hP.sub isC (x_fm hC)
  have hDc : va_D A Wc := hD.sub isC hnC hC
  exact va_runS ⟨hx, hb, hml, hown, hts⟩ hM cw ⟨xP_blind, fun U hU hW => ⟨rfl, by rw [hU], by rw [hU]; exact hPc, va_K.moved hW.alike hK, hDc.weaken (fun _ _ _ _ => trivial), hE.warm hW⟩⟩ rfl hn hsize hst (lv_room hW) hdg hf
theorem xrunI (hx : p.tables.exec = Jvm.exec) (hb : c.code = cc) (hml : c.maxLocals = nL) (hown : s.vm.findClass own = some m.cls) (hts : ∀ w ∈ Ts, w.before args s = true)
    (hM : Met l y ws rm (va_Pc (.ref b :: As) (xP D cI cZ Wc H.size)) Qc mc ms free) (cw : CallB R s args own index y bytes maxL none ws rm mc ms n ∧ y.name = "<init>" ∧ (Cond.instanceMethod y).before args s = true)
    (hE : xE s) (hK : va_K D vwCl (xT cI cZ) s) (hP : va_P D vwCl Ws H) (hD : va_D A Ws) (isC : List Nat) (hC : isC.map (fun i => Ws[i]?) = Wc.map some) (hnC : va_nd isC = true)
    (hn : As.length = n) (hsize : ls.size = nL) (hst : st = As.reverse ++ .ref b :: rest) (hW : (rest.map fun v => v.category).sum ≤ 8) (hdg : decode cc pc = .ok (.invokespecial index, 3)) (hf : cells + mc ≤ R.cells ∧ slots + ms ≤ R.slots) :
    va_Run p l e R s m args below meth c H locs cells slots mc ms (F0 m pc ls st) rest (Qc (Value.ref b :: As).toArray) free := by
  have hPc : va_P D vwCl Wc H := hP.sub isC (x_fm hC)
  have hDc : va_D A Wc := hD.sub isC hnC hC
  exact va_runI ⟨hx, hb, hml, hown, hts⟩ hM cw ⟨xP_blind, fun U hU hW => ⟨rfl, by rw [hU], by rw [hU]; exact hPc, va_K.moved hW.alike hK, hDc.weaken (fun _ _ _ _ => trivial), hE.warm hW⟩⟩ rfl hn hsize hst (lv_room hW) hdg hf
theorem xrunSN (hx : p.tables.exec = Jvm.exec) (hb : c.code = cc) (hml : c.maxLocals = nL) (hown : s.vm.findClass own = some m.cls) (hts : ∀ w ∈ Ts, w.before args s = true)
    (hM : Met l y ws rm (va_Pc As (xP D cI cZ Wc H.size)) Qc mc ms free) {host : String} (cw : va_CN R s args own index y host bytes maxL ret ws rm mc ms n ∧ (Cond.static y).before args s = true ∧ True)
    (hE : xE s) (hK : va_K D vwCl (xT cI cZ) s) (hP : va_P D vwCl Ws H) (hD : va_D A Ws) (isC : List Nat) (hC : isC.map (fun i => Ws[i]?) = Wc.map some) (hnC : va_nd isC = true)
    (hn : As.length = n) (hsize : ls.size = nL) (hst : st = As.reverse ++ rest) (hW : (rest.map fun v => v.category).sum ≤ 8) (hdg : decode cc pc = .ok (.invokestatic index, 3)) (hf : cells + mc ≤ R.cells ∧ slots + ms ≤ R.slots) :
    va_Run p l e R s m args below meth c H locs cells slots mc ms (F0 m pc ls st) rest (Qc As.toArray) free := by
  have hPc : va_P D vwCl Wc H := hP.sub isC (x_fm hC)
  have hDc : va_D A Wc := hD.sub isC hnC hC
  exact va_runSN ⟨hx, hb, hml, hown, hts⟩ hM cw ⟨xP_blind, fun U hU hW => ⟨rfl, by rw [hU], by rw [hU]; exact hPc, va_K.moved hW.alike hK, hDc.weaken (fun _ _ _ _ => trivial), hE.warm hW⟩⟩ rfl hn hsize hst (lv_room hW) hdg hf
theorem xrunIN (hx : p.tables.exec = Jvm.exec) (hb : c.code = cc) (hml : c.maxLocals = nL) (hown : s.vm.findClass own = some m.cls) (hts : ∀ w ∈ Ts, w.before args s = true)
    (hM : Met l y ws rm (va_Pc (.ref b :: As) (xP D cI cZ Wc H.size)) Qc mc ms free) {host : String} (cw : va_CN R s args own index y host bytes maxL none ws rm mc ms n ∧ y.name = "<init>" ∧ (Cond.instanceMethod y).before args s = true)
    (hE : xE s) (hK : va_K D vwCl (xT cI cZ) s) (hP : va_P D vwCl Ws H) (hD : va_D A Ws) (isC : List Nat) (hC : isC.map (fun i => Ws[i]?) = Wc.map some) (hnC : va_nd isC = true)
    (hn : As.length = n) (hsize : ls.size = nL) (hst : st = As.reverse ++ .ref b :: rest) (hW : (rest.map fun v => v.category).sum ≤ 8) (hdg : decode cc pc = .ok (.invokespecial index, 3)) (hf : cells + mc ≤ R.cells ∧ slots + ms ≤ R.slots) :
    va_Run p l e R s m args below meth c H locs cells slots mc ms (F0 m pc ls st) rest (Qc (Value.ref b :: As).toArray) free := by
  have hPc : va_P D vwCl Wc H := hP.sub isC (x_fm hC)
  have hDc : va_D A Wc := hD.sub isC hnC hC
  exact va_runIN ⟨hx, hb, hml, hown, hts⟩ hM cw ⟨xP_blind, fun U hU hW => ⟨rfl, by rw [hU], by rw [hU]; exact hPc, va_K.moved hW.alike hK, hDc.weaken (fun _ _ _ _ => trivial), hE.warm hW⟩⟩ rfl hn hsize hst (lv_room hW) hdg hf
section XC
variable {S : Type} {W1 Wn : S → va_W} {a : Array Value}
theorem x_join (hP : va_P D vwCl Ws H) (hD : va_D A Ws) (hS : va_S A s.heap H locs) (hA : ∀ q, s.heap.size ≤ q → A q) (isC isR isB : List Nat) (hC : isC.map (fun i => Ws[i]?) = Wc.map some) (hR : isR.map (fun i => Ws[i]?) = wr.map some) (hnR : va_nd isR = true) (hdis : ∀ i ∈ isR, i ∉ isC) (hB : ∀ u : S, isB.map (fun i => (wr ++ W1 u)[i]?) = (Wn u).map some) (hnB : va_nd isB = true)
    {H1 : Heap} (u : S) (hk : ∀ q : Nat, q < H.size → ¬ va_A Wc H.size q → H1[q]? = H[q]?) (hP1 : va_P D vwCl (W1 u) H1) (hD1 : va_D (va_A Wc H.size) (W1 u)) : va_P D vwCl (Wn u) H1 ∧ va_D A (Wn u) := by
  obtain ⟨hP2, hD2⟩ := va_join hP hD isC isR hC hR hnR hdis hk (va_free hD hS hA isC hC) hP1 hD1
  exact ⟨hP2.sub isB (x_fm (hB u)), hD2.sub isB hnB (hB u)⟩
theorem xcalli {post : Int32 → S → Prop} (hr : va_Run p l e R s m args below meth c H locs cells slots 0 0 (F0 m pc ls st) rest (va_Qi post (fun u t => xB D cI cZ (W1 u) (va_A Wc H.size) t) (va_A Wc H.size) a) (va_A Wc H.size))
    (hP : va_P D vwCl Ws H) (hD : va_D A Ws) (hS : va_S A s.heap H locs) (hA : ∀ q, s.heap.size ≤ q → A q) (isC isR isB : List Nat) (hC : isC.map (fun i => Ws[i]?) = Wc.map some) (hR : isR.map (fun i => Ws[i]?) = wr.map some) (hnR : va_nd isR = true) (hdis : ∀ i ∈ isR, i ∉ isC) (hB : ∀ u : S, isB.map (fun i => (wr ++ W1 u)[i]?) = (Wn u).map some) (hnB : va_nd isB = true)
    (kk : ∀ (r : Int32) (u : S) (H1 : Heap) (locs1 : List Loc), post r u → H.size ≤ H1.size → va_P D vwCl (Wn u) H1 → va_D A (Wn u) → va_S A s.heap H1 locs1 → W p l e R s m args below meth c H1 locs1 cells slots Q (F0 m (pc + 3) ls (.int r :: rest))) : W p l e R s m args below meth c H locs cells slots Q (F0 m pc ls st) := by
  refine va_calli hr hS (fun q _ h => va_free hD hS hA isC hC q h) (va_free hD hS hA isC hC) (fun r u t H1 locs1 ht hvm hw hB2 hz hk hS1 => ?_)
  obtain ⟨hP1, hK1, hD1⟩ := hB2
  rw [ht] at hP1
  obtain ⟨hP3, hD3⟩ := x_join hP hD hS hA isC isR isB hC hR hnR hdis hB hnB u hk hP1 hD1
  exact kk r u H1 locs1 hw hz hP3 hD3 hS1
theorem xcalll {post : Int64 → S → Prop} (hr : va_Run p l e R s m args below meth c H locs cells slots 0 0 (F0 m pc ls st) rest (va_Ql post (fun u t => xB D cI cZ (W1 u) (va_A Wc H.size) t) (va_A Wc H.size) a) (va_A Wc H.size))
    (hP : va_P D vwCl Ws H) (hD : va_D A Ws) (hS : va_S A s.heap H locs) (hA : ∀ q, s.heap.size ≤ q → A q) (isC isR isB : List Nat) (hC : isC.map (fun i => Ws[i]?) = Wc.map some) (hR : isR.map (fun i => Ws[i]?) = wr.map some) (hnR : va_nd isR = true) (hdis : ∀ i ∈ isR, i ∉ isC) (hB : ∀ u : S, isB.map (fun i => (wr ++ W1 u)[i]?) = (Wn u).map some) (hnB : va_nd isB = true)
    (kk : ∀ (r : Int64) (u : S) (H1 : Heap) (locs1 : List Loc), post r u → H.size ≤ H1.size → va_P D vwCl (Wn u) H1 → va_D A (Wn u) → va_S A s.heap H1 locs1 → W p l e R s m args below meth c H1 locs1 cells slots Q (F0 m (pc + 3) ls (.long r :: rest))) : W p l e R s m args below meth c H locs cells slots Q (F0 m pc ls st) := by
  refine va_calll hr hS (fun q _ h => va_free hD hS hA isC hC q h) (va_free hD hS hA isC hC) (fun r u t H1 locs1 ht hvm hw hB2 hz hk hS1 => ?_)
  obtain ⟨hP1, hK1, hD1⟩ := hB2
  rw [ht] at hP1
  obtain ⟨hP3, hD3⟩ := x_join hP hD hS hA isC isR isB hC hR hnR hdis hB hnB u hk hP1 hD1
  exact kk r u H1 locs1 hw hz hP3 hD3 hS1
theorem xcallv {post : S → Prop} (hr : va_Run p l e R s m args below meth c H locs cells slots 0 0 (F0 m pc ls st) rest (va_Qv post (fun u t => xB D cI cZ (W1 u) (va_A Wc H.size) t) (va_A Wc H.size) a) (va_A Wc H.size))
    (hP : va_P D vwCl Ws H) (hD : va_D A Ws) (hS : va_S A s.heap H locs) (hA : ∀ q, s.heap.size ≤ q → A q) (isC isR isB : List Nat) (hC : isC.map (fun i => Ws[i]?) = Wc.map some) (hR : isR.map (fun i => Ws[i]?) = wr.map some) (hnR : va_nd isR = true) (hdis : ∀ i ∈ isR, i ∉ isC) (hB : ∀ u : S, isB.map (fun i => (wr ++ W1 u)[i]?) = (Wn u).map some) (hnB : va_nd isB = true)
    (kk : ∀ (u : S) (H1 : Heap) (locs1 : List Loc), post u → H.size ≤ H1.size → va_P D vwCl (Wn u) H1 → va_D A (Wn u) → va_S A s.heap H1 locs1 → W p l e R s m args below meth c H1 locs1 cells slots Q (F0 m (pc + 3) ls rest)) : W p l e R s m args below meth c H locs cells slots Q (F0 m pc ls st) := by
  refine va_callv hr hS (fun q _ h => va_free hD hS hA isC hC q h) (va_free hD hS hA isC hC) (fun u t H1 locs1 ht hvm hw hB2 hz hk hS1 => ?_)
  obtain ⟨hP1, hK1, hD1⟩ := hB2
  rw [ht] at hP1
  obtain ⟨hP3, hD3⟩ := x_join hP hD hS hA isC isR isB hC hR hnR hdis hB hnB u hk hP1 hD1
  exact kk u H1 locs1 hw hz hP3 hD3 hS1
theorem xcallvN {post : S → Prop} (hr : va_Run p l e R s m args below meth c H locs cells slots mc ms (F0 m pc ls st) rest (va_Qv post (fun u t => xB D cI cZ (W1 u) (va_A Wc H.size) t) (va_A Wc H.size) a) (va_A Wc H.size))
    (hP : va_P D vwCl Ws H) (hD : va_D A Ws) (hS : va_S A s.heap H locs) (hA : ∀ q, s.heap.size ≤ q → A q) (isC isR isB : List Nat) (hC : isC.map (fun i => Ws[i]?) = Wc.map some) (hR : isR.map (fun i => Ws[i]?) = wr.map some) (hnR : va_nd isR = true) (hdis : ∀ i ∈ isR, i ∉ isC) (hB : ∀ u : S, isB.map (fun i => (wr ++ W1 u)[i]?) = (Wn u).map some) (hnB : va_nd isB = true)
    (kk : ∀ (u : S) (H1 : Heap) (locs1 : List Loc), post u → H.size ≤ H1.size → va_P D vwCl (Wn u) H1 → va_D A (Wn u) → va_S A s.heap H1 locs1 → W p l e R s m args below meth c H1 locs1 (cells + mc) (slots + ms) Q (F0 m (pc + 3) ls rest)) : W p l e R s m args below meth c H locs cells slots Q (F0 m pc ls st) := by
  refine va_callv hr hS (fun q _ h => va_free hD hS hA isC hC q h) (va_free hD hS hA isC hC) (fun u t H1 locs1 ht hvm hw hB2 hz hk hS1 => ?_)
  obtain ⟨hP1, hK1, hD1⟩ := hB2
  rw [ht] at hP1
  obtain ⟨hP3, hD3⟩ := x_join hP hD hS hA isC isR isB hC hR hnR hdis hB hnB u hk hP1 hD1
  exact kk u H1 locs1 hw hz hP3 hD3 hS1
end XC
theorem xald (hx : p.tables.exec = Jvm.exec) (hb : c.code = cc) {tys : List (ClassId × FieldType)} (hK : va_K D vwCl tys s) (hP : va_P D vwCl Ws H) (q0 t0 : Nat) {cA : ClassId} {k n : Nat} {f : Nat → Int32} {a : Nat} (ha : Ws[q0]? = some (a, .inl (cA, n, .inl f))) (ht : tys[t0]? = some (cA, .int)) {i : Int32} (hin : vp_in i n) (hk : i.toNatClampNeg = k) (hdg : decode cc pc = .ok (.iaload, 1))
    (kk : W p l e R s m args below meth c H locs cells slots Q (F0 m (pc + 1) ls (.int (f k) :: rest))) : W p l e R s m args below meth c H locs cells slots Q (F0 m pc ls (.int i :: .ref a :: rest)) := va_iald hx hb hK hP q0 t0 ha ht hin hdg (by rw [hk]; exact kk)
theorem xzld (hx : p.tables.exec = Jvm.exec) (hb : c.code = cc) {tys : List (ClassId × FieldType)} (hK : va_K D vwCl tys s) (hP : va_P D vwCl Ws H) (q0 t0 : Nat) {cA : ClassId} {k n : Nat} {f : Nat → Int32} {a : Nat} (ha : Ws[q0]? = some (a, .inl (cA, n, .inl f))) (ht : tys[t0]? = some (cA, .boolean)) {i : Int32} (hin : vp_in i n) (hk : i.toNatClampNeg = k) (hdg : decode cc pc = .ok (.baload, 1))
    (kk : W p l e R s m args below meth c H locs cells slots Q (F0 m (pc + 1) ls (.int (f k) :: rest))) : W p l e R s m args below meth c H locs cells slots Q (F0 m pc ls (.int i :: .ref a :: rest)) := va_zald hx hb hK hP q0 t0 ha ht hin hdg (by rw [hk]; exact kk)
theorem xast (hx : p.tables.exec = Jvm.exec) (hb : c.code = cc) {tys : List (ClassId × FieldType)} {H0 : Heap} (hK : va_K D vwCl tys s) (hP : va_P D vwCl Ws H) (hD : va_D A Ws) (hS : va_S A H0 H locs) (q0 t0 : Nat) {cA : ClassId} {k n : Nat} {f : Nat → Int32} {a : Nat} (ha : Ws[q0]? = some (a, .inl (cA, n, .inl f))) (ht : tys[t0]? = some (cA, .int)) {i x : Int32} (hin : vp_in i n) (hk : i.toNatClampNeg = k) (hdg : decode cc pc = .ok (.iastore, 1)) (Wn : va_W) (hWn : Ws.set q0 (a, .inl (cA, n, .inl (upd f k x))) = Wn)
    (kk : ∀ (H1 : Heap) (locs1 : List Loc), va_P D vwCl Wn H1 → va_D A Wn → va_S A H0 H1 locs1 → W p l e R s m args below meth c H1 locs1 cells slots Q (F0 m (pc + 1) ls rest)) : W p l e R s m args below meth c H locs cells slots Q (F0 m pc ls (.int x :: .int i :: .ref a :: rest)) :=
  va_iast hx hb hK hP hD hS q0 t0 ha ht hin hdg (fun H1 locs1 h1 h2 h3 => kk H1 locs1 (by rw [hk, hWn] at h1; exact h1) (by rw [hk, hWn] at h2; exact h2) h3)
theorem xzst (hx : p.tables.exec = Jvm.exec) (hb : c.code = cc) {tys : List (ClassId × FieldType)} {H0 : Heap} (hK : va_K D vwCl tys s) (hP : va_P D vwCl Ws H) (hD : va_D A Ws) (hS : va_S A H0 H locs) (q0 t0 : Nat) {cA : ClassId} {k n : Nat} {f : Nat → Int32} {a : Nat} (ha : Ws[q0]? = some (a, .inl (cA, n, .inl f))) (ht : tys[t0]? = some (cA, .boolean)) {i x v : Int32} (hv : vp_nar .boolean x = v) (hin : vp_in i n) (hk : i.toNatClampNeg = k) (hdg : decode cc pc = .ok (.bastore, 1)) (Wn : va_W) (hWn : Ws.set q0 (a, .inl (cA, n, .inl (upd f k v))) = Wn)
    (kk : ∀ (H1 : Heap) (locs1 : List Loc), va_P D vwCl Wn H1 → va_D A Wn → va_S A H0 H1 locs1 → W p l e R s m args below meth c H1 locs1 cells slots Q (F0 m (pc + 1) ls rest)) : W p l e R s m args below meth c H locs cells slots Q (F0 m pc ls (.int x :: .int i :: .ref a :: rest)) :=
  va_zast hx hb hK hP hD hS q0 t0 ha ht hin hdg (fun H1 locs1 h1 h2 h3 => kk H1 locs1 (by rw [hk, hv, hWn] at h1; exact h1) (by rw [hk, hv, hWn] at h2; exact h2) h3)
theorem xget (hx : p.tables.exec = Jvm.exec) (hb : c.code = cc) (hts : ∀ w ∈ Ts, w.before args s = true) (hown : s.vm.findClass own = some m.cls) {tys : List (ClassId × FieldType)} (hK : va_K D vwCl tys s) (ci : Nat) {C2 : String} {T : u_T} {N : Nat} {a : Nat} (hc : vwCl[ci]? = some (C2, T, N)) (hin : ∀ w ∈ u_ws C2 T N, w ∈ Ts) (hP : va_P D vwCl Ws H) (q0 : Nat) {fs : List Value} (he : Ws[q0]? = some (a, .inr (ci, fs))) (k : Nat) (hk : k < N) {n d : String} (hlink : (Cond.fieldLink own index (T k).1 n d).before args s = true) (hn : (T k).2.1 = n) (hd : (T k).2.2.1 = d) {v : Value} (hv : fs[k]? = some v) (hdg : decode cc pc = .ok (.getfield index, 3))
    (kk : W p l e R s m args below meth c H locs cells slots Q (F0 m (pc + 3) ls (v :: rest))) : W p l e R s m args below meth c H locs cells slots Q (F0 m pc ls (.ref a :: rest)) := by
  subst hn; subst hd
  exact va_get hx hb hts hin hown hK hP q0 he hc k hk hlink (fun _ h => h) hv hdg kk
theorem xput (hx : p.tables.exec = Jvm.exec) (hb : c.code = cc) (hts : ∀ w ∈ Ts, w.before args s = true) (hown : s.vm.findClass own = some m.cls) {tys : List (ClassId × FieldType)} {H0 : Heap} (hK : va_K D vwCl tys s) (ci : Nat) {C2 : String} {T : u_T} {N : Nat} {a : Nat} (ty0 : Nat → FieldType) (hc : vwCl[ci]? = some (C2, T, N)) (hty : ∀ k, k < N → parseFieldDescriptor (T k).2.2.1 = some (ty0 k)) (hnm : ∀ a, a < N → ∀ b, b < N → a ≠ b → (T a).2.1 ≠ (T b).2.1) (hin : ∀ w ∈ u_ws C2 T N, w ∈ Ts) (hP : va_P D vwCl Ws H) (hD : va_D A Ws) (hS : va_S A H0 H locs) (q0 : Nat) {fs : List Value} (he : Ws[q0]? = some (a, .inr (ci, fs))) (k : Nat) (hk : k < N) {n d : String} (hlink : (Cond.fieldLink own index (T k).1 n d).before args s = true) (hn : (T k).2.1 = n) (hd : (T k).2.2.1 = d) (hfin : (T k).2.2.2 = false) {v : Value} (hnar : narrow (ty0 k) v = v) (hfit : fits (ty0 k) v = true) (hl : k < fs.length) (hdg : decode cc pc = .ok (.putfield index, 3)) (Wn : va_W) (hWn : Ws.set q0 (a, .inr (ci, fs.set k v)) = Wn)
    (kk : ∀ (H1 : Heap) (locs1 : List Loc), va_P D vwCl Wn H1 → va_D A Wn → va_S A H0 H1 locs1 → W p l e R s m args below meth c H1 locs1 cells slots Q (F0 m (pc + 3) ls rest)) : W p l e R s m args below meth c H locs cells slots Q (F0 m pc ls (v :: .ref a :: rest)) := by
  subst hn; subst hd; subst hWn
  exact va_put hx hb hts hin ty0 hty hnm hown hK hP hD hS q0 he hc k hk hlink (fun _ h => h) hfin (hty k hk) hnar hfit hl hdg kk
theorem xputF (hx : p.tables.exec = Jvm.exec) (hb : c.code = cc) (hts : ∀ w ∈ Ts, w.before args s = true) (hown : s.vm.findClass own = some m.cls) {tys : List (ClassId × FieldType)} {H0 : Heap} (hK : va_K D vwCl tys s) (ci : Nat) {C2 : String} {T : u_T} {N : Nat} {a : Nat} (ty0 : Nat → FieldType) (hc : vwCl[ci]? = some (C2, T, N)) (hty : ∀ k, k < N → parseFieldDescriptor (T k).2.2.1 = some (ty0 k)) (hnm : ∀ a, a < N → ∀ b, b < N → a ≠ b → (T a).2.1 ≠ (T b).2.1) (hin : ∀ w ∈ u_ws C2 T N, w ∈ Ts) (hP : va_P D vwCl Ws H) (hD : va_D A Ws) (hS : va_S A H0 H locs) (q0 : Nat) {fs : List Value} (he : Ws[q0]? = some (a, .inr (ci, fs))) (k : Nat) (hk : k < N) {n d : String} (hlink : (Cond.fieldLink own index (T k).1 n d).before args s = true) (hn : (T k).2.1 = n) (hd : (T k).2.2.1 = d) (hfin : (T k).2.2.2 = true) (hin2 : meth.name = "<init>") (hdecl : (T k).1 = own) {v : Value} (hnar : narrow (ty0 k) v = v) (hfit : fits (ty0 k) v = true) (hl : k < fs.length) (hdg : decode cc pc = .ok (.putfield index, 3)) (Wn : va_W) (hWn : Ws.set q0 (a, .inr (ci, fs.set k v)) = Wn)
    (kk : ∀ (H1 : Heap) (locs1 : List Loc), va_P D vwCl Wn H1 → va_D A Wn → va_S A H0 H1 locs1 → W p l e R s m args below meth c H1 locs1 cells slots Q (F0 m (pc + 3) ls rest)) : W p l e R s m args below meth c H locs cells slots Q (F0 m pc ls (v :: .ref a :: rest)) := by
  subst hn; subst hd; subst hWn
  exact va_putF hx hb hts hin ty0 hty hnm hown hK hP hD hS q0 he hc k hk hlink (fun _ h => h) hfin hin2 hdecl (hty k hk) hnar hfit hl hdg kk
theorem xgetN (hx : p.tables.exec = Jvm.exec) (hb : c.code = cc) (hts : ∀ w ∈ Ts, w.before args s = true) (hown : s.vm.findClass own = some m.cls) {tys : List (ClassId × FieldType)} (hK : va_K D vwCl tys s) (ci : Nat) {C2 : String} {T : u_T} {N : Nat} {a : Nat} (hc : vwCl[ci]? = some (C2, T, N)) (hin : ∀ w ∈ u_ws C2 T N, w ∈ Ts) (hP : va_P D vwCl Ws H) (q0 : Nat) {fs : List Value} (he : Ws[q0]? = some (a, .inr (ci, fs))) (k : Nat) (hk : k < N) {n d : String} {host : String} (hlink : (Cond.fieldLinkNest own index (T k).1 n d host).before args s = true) (hn : (T k).2.1 = n) (hd : (T k).2.2.1 = d) {v : Value} (hv : fs[k]? = some v) (hdg : decode cc pc = .ok (.getfield index, 3))
    (kk : W p l e R s m args below meth c H locs cells slots Q (F0 m (pc + 3) ls (v :: rest))) : W p l e R s m args below meth c H locs cells slots Q (F0 m pc ls (.ref a :: rest)) := by
  subst hn; subst hd
  exact va_getN hx hb hts hin hown hK hP q0 he hc k hk hlink (fun _ h => h) hv hdg kk
theorem xputN (hx : p.tables.exec = Jvm.exec) (hb : c.code = cc) (hts : ∀ w ∈ Ts, w.before args s = true) (hown : s.vm.findClass own = some m.cls) {tys : List (ClassId × FieldType)} {H0 : Heap} (hK : va_K D vwCl tys s) (ci : Nat) {C2 : String} {T : u_T} {N : Nat} {a : Nat} (ty0 : Nat → FieldType) (hc : vwCl[ci]? = some (C2, T, N)) (hty : ∀ k, k < N → parseFieldDescriptor (T k).2.2.1 = some (ty0 k)) (hnm : ∀ a, a < N → ∀ b, b < N → a ≠ b → (T a).2.1 ≠ (T b).2.1) (hin : ∀ w ∈ u_ws C2 T N, w ∈ Ts) (hP : va_P D vwCl Ws H) (hD : va_D A Ws) (hS : va_S A H0 H locs) (q0 : Nat) {fs : List Value} (he : Ws[q0]? = some (a, .inr (ci, fs))) (k : Nat) (hk : k < N) {n d : String} {host : String} (hlink : (Cond.fieldLinkNest own index (T k).1 n d host).before args s = true) (hn : (T k).2.1 = n) (hd : (T k).2.2.1 = d) (hfin : (T k).2.2.2 = false) {v : Value} (hnar : narrow (ty0 k) v = v) (hfit : fits (ty0 k) v = true) (hl : k < fs.length) (hdg : decode cc pc = .ok (.putfield index, 3)) (Wn : va_W) (hWn : Ws.set q0 (a, .inr (ci, fs.set k v)) = Wn)
    (kk : ∀ (H1 : Heap) (locs1 : List Loc), va_P D vwCl Wn H1 → va_D A Wn → va_S A H0 H1 locs1 → W p l e R s m args below meth c H1 locs1 cells slots Q (F0 m (pc + 3) ls rest)) : W p l e R s m args below meth c H locs cells slots Q (F0 m pc ls (v :: .ref a :: rest)) := by
  subst hn; subst hd; subst hWn
  exact va_putN hx hb hts hin ty0 hty hnm hown hK hP hD hS q0 he hc k hk hlink (fun _ h => h) hfin (hty k hk) hnar hfit hl hdg kk
end XH
def xlet {α β : Type} (a : α) (k : α → β) : β := k a
-- facts of ints
theorem t_lt {x y : Int32} (h : x < y) : x.toInt < y.toInt := Int32.lt_iff_toInt_lt.mp h
theorem t_le {x y : Int32} (h : x ≤ y) : x.toInt ≤ y.toInt := Int32.le_iff_toInt_le.mp h
theorem t_nlt {x y : Int32} (h : ¬ x < y) : y.toInt ≤ x.toInt := Int.not_lt.mp (fun q => h (Int32.lt_iff_toInt_lt.mpr q))
theorem t_nle {x y : Int32} (h : ¬ x ≤ y) : y.toInt < x.toInt := Int.not_le.mp (fun q => h (Int32.le_iff_toInt_le.mpr q))
theorem t_eq {x y : Int32} (h : x = y) : x.toInt = y.toInt := by rw [h]
theorem t_neq {x y : Int32} (h : ¬ x = y) : x.toInt ≠ y.toInt := fun q => h (Int32.toInt_inj.mp q)
theorem t_nel {x : Int32} {k : Int} (y : Int32) (hy : y.toInt = k) (h : ¬ x = y) : x.toInt ≠ k := by rw [← hy]; exact t_neq h
theorem z_bm {a : Int} (h1 : -2147483648 ≤ a) (h2 : a ≤ 2147483647) : a.bmod (2 ^ 32) = a := by
  apply Int.bmod_eq_of_le <;> omega
theorem z_add {x y : Int32} (h1 : -2147483648 ≤ x.toInt + y.toInt) (h2 : x.toInt + y.toInt ≤ 2147483647) : (x + y).toInt = x.toInt + y.toInt := by
  rw [Int32.toInt_add]; exact z_bm h1 h2
theorem z_sub {x y : Int32} (h1 : -2147483648 ≤ x.toInt - y.toInt) (h2 : x.toInt - y.toInt ≤ 2147483647) : (x - y).toInt = x.toInt - y.toInt := by
  rw [Int32.toInt_sub]; exact z_bm h1 h2
theorem z_mul {x y : Int32} (k : Int) (hk : x.toInt = k) (h1 : -2147483648 ≤ k * y.toInt) (h2 : k * y.toInt ≤ 2147483647) : (x * y).toInt = k * y.toInt := by
  rw [Int32.toInt_mul, hk]; exact z_bm h1 h2
theorem z_rng (x : Int32) : -2147483648 ≤ x.toInt ∧ x.toInt ≤ 2147483647 := ⟨Int32.le_toInt x, by have := Int32.toInt_lt x; omega⟩
theorem z_nc {x : Int32} (h : 0 ≤ x.toInt) : (x.toNatClampNeg : Int) = x.toInt := by
  show ((x.toInt.toNat : Nat) : Int) = x.toInt
  omega
theorem z_ofNat {n : Nat} (h : n < 2147483648) : (Int32.ofNat n).toInt = (n : Int) := nI_toInt (by omega)
theorem vi {x : Int32} {n : Nat} (h0 : 0 ≤ x.toInt) (h1 : x.toInt < (n : Int)) : vp_in x n := vp_in_iff.mpr ⟨h0, h1⟩
theorem t_in7 {w : Int32} (h0 : 0 ≤ w.toInt) (h6 : w.toInt ≤ 6) : w = 0 ∨ w = 1 ∨ w = 2 ∨ w = 3 ∨ w = 4 ∨ w = 5 ∨ w = 6 := by
  have e : ∀ k : Int32, w.toInt = k.toInt → w = k := fun k h => Int32.toInt_inj.mp h
  have c : w.toInt = 0 ∨ w.toInt = 1 ∨ w.toInt = 2 ∨ w.toInt = 3 ∨ w.toInt = 4 ∨ w.toInt = 5 ∨ w.toInt = 6 := by omega
  rcases c with c | c | c | c | c | c | c
  · exact Or.inl (e 0 c)
  · exact Or.inr (Or.inl (e 1 c))
  · exact Or.inr (Or.inr (Or.inl (e 2 c)))
  · exact Or.inr (Or.inr (Or.inr (Or.inl (e 3 c))))
  · exact Or.inr (Or.inr (Or.inr (Or.inr (Or.inl (e 4 c)))))
  · exact Or.inr (Or.inr (Or.inr (Or.inr (Or.inr (Or.inl (e 5 c))))))
  · exact Or.inr (Or.inr (Or.inr (Or.inr (Or.inr (Or.inr (e 6 c))))))
theorem t_shl {w : Int32} (h0 : 0 ≤ w.toInt) (h6 : w.toInt ≤ 6) : 1 ≤ ((1 : Int32) <<< (w &&& 31)).toInt ∧ ((1 : Int32) <<< (w &&& 31)).toInt ≤ 64 := by
  rcases t_in7 h0 h6 with rfl | rfl | rfl | rfl | rfl | rfl | rfl <;> decide
