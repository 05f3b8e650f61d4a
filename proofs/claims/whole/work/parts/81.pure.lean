-- TURNS: the class's game. Fractions over one another, by turns
def dd (t : Int32) (x y a b : Int) : Int := if t = 0 then a * y - x * b else x * b - a * y
theorem fr_id (p1 p2 q1 q2 r1 r2 : Int) : (r1 * p2 - p1 * r2) * q2 = (q1 * p2 - p1 * q2) * r2 + (r1 * q2 - q1 * r2) * p2 := by
  rw [Int.sub_mul, Int.sub_mul, Int.sub_mul]
  have e1 : r1 * p2 * q2 = r1 * q2 * p2 := by rw [Int.mul_assoc, Int.mul_comm p2 q2, ← Int.mul_assoc]
  have e2 : p1 * r2 * q2 = p1 * q2 * r2 := by rw [Int.mul_assoc, Int.mul_comm r2 q2, ← Int.mul_assoc]
  have e3 : q1 * p2 * r2 = q1 * r2 * p2 := by rw [Int.mul_assoc, Int.mul_comm p2 r2, ← Int.mul_assoc]
  omega
theorem fr_tr {p1 p2 q1 q2 r1 r2 : Int} (hp : 0 < p2) (hq : 0 < q2) (hr : 0 < r2) (h1 : 0 ≤ q1 * p2 - p1 * q2) (h2 : 0 ≤ r1 * q2 - q1 * r2) : 0 ≤ r1 * p2 - p1 * r2 ∧ ((0 < q1 * p2 - p1 * q2 ∨ 0 < r1 * q2 - q1 * r2) → 0 < r1 * p2 - p1 * r2) := by
  have id := fr_id p1 p2 q1 q2 r1 r2
  have a1 := Int.mul_nonneg h1 (Int.le_of_lt hr)
  have a2 := Int.mul_nonneg h2 (Int.le_of_lt hp)
  refine ⟨?_, fun h => ?_⟩
  · by_cases q : r1 * p2 - p1 * r2 < 0
    · have := Int.mul_neg_of_neg_of_pos q hq
      omega
    · exact Int.not_lt.mp q
  · have hs : 0 < (r1 * p2 - p1 * r2) * q2 := by
      rcases h with h | h
      · have := Int.mul_pos h hr; omega
      · have := Int.mul_pos h hp; omega
    by_cases q : 0 < r1 * p2 - p1 * r2
    · exact q
    · rcases Int.lt_or_eq_of_le (Int.not_lt.mp q) with q2' | q2'
      · have := Int.mul_neg_of_neg_of_pos q2' hq; omega
      · rw [q2', Int.zero_mul] at hs; omega
theorem dd_anti (t : Int32) (x y a b : Int) : dd t a b x y = - dd t x y a b := by
  unfold dd
  by_cases c : t = 0
  · rw [if_pos c, if_pos c]; omega
  · rw [if_neg c, if_neg c]; omega
theorem dd_tr {t : Int32} {p1 p2 q1 q2 r1 r2 : Int} (hp : 0 < p2) (hq : 0 < q2) (hr : 0 < r2) (h1 : 0 ≤ dd t p1 p2 q1 q2) (h2 : 0 ≤ dd t q1 q2 r1 r2) : 0 ≤ dd t p1 p2 r1 r2 ∧ ((0 < dd t p1 p2 q1 q2 ∨ 0 < dd t q1 q2 r1 r2) → 0 < dd t p1 p2 r1 r2) := by
  unfold dd at *
  by_cases c : t = 0
  · simp only [if_pos c] at *
    exact fr_tr hp hq hr h1 h2
  · simp only [if_neg c] at *
    have := fr_tr hr hq hp h2 h1
    exact ⟨this.1, fun h => this.2 (Or.symm h)⟩
def bnd (x y : Int32) : Prop := (0 ≤ x.toInt ∧ x.toInt ≤ 120) ∧ 1 ≤ y.toInt ∧ y.toInt ≤ 6
theorem bnd_mul {x y a b : Int32} (h : bnd x y) (g : bnd a b) : (x * b).toInt = x.toInt * b.toInt ∧ 0 ≤ x.toInt * b.toInt ∧ x.toInt * b.toInt ≤ 720 := by
  have h1 : 0 ≤ x.toInt * b.toInt := Int.mul_nonneg h.1.1 (by have := g.2.1; omega)
  have h2 : x.toInt * b.toInt ≤ 120 * 6 := Int.mul_le_mul h.1.2 g.2.2 (by have := g.2.1; omega) (by omega)
  exact ⟨by rw [Int32.toInt_mul]; exact z_bm (by omega) (by omega), h1, by omega⟩
def isb (near x y a b : Int32) : Int32 := if b = 0 then 1 else (if near = 0 then (if (x * b) ≤ (a * y) then (0 : Int32) else 1) else (if (a * y) ≤ (x * b) then 0 else 1))
theorem isb_dd {t near x y a b : Int32} (htn : (t = 0 ∧ near = 1) ∨ (t = 1 ∧ near = 0)) (h : bnd x y) (g : bnd a b) : isb near x y a b = 0 ↔ dd t x.toInt y.toInt a.toInt b.toInt ≤ 0 := by
  have e0 : (0 : Int32).toInt = 0 := by decide
  obtain ⟨m1, -, -⟩ := bnd_mul h g
  obtain ⟨m2, -, -⟩ := bnd_mul g h
  have hb : ¬ b = 0 := fun q => by have := g.2.1; rw [q] at this; omega
  unfold isb dd
  rw [if_neg hb]
  rcases htn with ⟨rfl, rfl⟩ | ⟨rfl, rfl⟩
  · rw [if_neg (show ¬ (1 : Int32) = 0 by decide), if_pos rfl, b01]
    constructor
    · intro q; have := t_le q; omega
    · intro q; exact Int32.le_iff_toInt_le.mpr (by omega)
  · rw [if_pos rfl, if_neg (show ¬ (1 : Int32) = 0 by decide), b01]
    constructor
    · intro q; have := t_le q; omega
    · intro q; exact Int32.le_iff_toInt_le.mpr (by omega)
theorem tk_dd {t x y a b : Int32} (ht : t = 0 ∨ t = 1) (h : bnd x y) (g : bnd a b) : ((if t = 0 then (if 0 ≤ ((x * b) - (a * y)) then (0 : Int32) else 1) else (if ((x * b) - (a * y)) ≤ 0 then 0 else 1)) = 0 ↔ dd t x.toInt y.toInt a.toInt b.toInt ≤ 0) ∧ (((x * b) - (a * y)) = 0 ↔ dd t x.toInt y.toInt a.toInt b.toInt = 0) := by
  have e0 : (0 : Int32).toInt = 0 := by decide
  obtain ⟨m1, m2, m3⟩ := bnd_mul h g
  obtain ⟨k1, k2, k3⟩ := bnd_mul g h
  have z : ((x * b) - (a * y)).toInt = (x * b).toInt - (a * y).toInt := z_sub (by omega) (by omega)
  generalize ((x * b) - (a * y)) = w at z ⊢
  unfold dd
  have hw : w = 0 ↔ w.toInt = 0 := ⟨fun q => by rw [q]; decide, fun q => Int32.toInt_inj.mp (by omega)⟩
  rcases ht with rfl | rfl
  · rw [if_pos rfl, if_pos rfl, b01, hw]
    refine ⟨⟨fun q => by have := t_le q; omega, fun q => Int32.le_iff_toInt_le.mpr (by omega)⟩, ⟨fun q => by omega, fun q => by omega⟩⟩
  · rw [if_neg (show ¬ (1 : Int32) = 0 by decide), if_neg (show ¬ (1 : Int32) = 0 by decide), b01, hw]
    refine ⟨⟨fun q => by have := t_le q; omega, fun q => Int32.le_iff_toInt_le.mpr (by omega)⟩, ⟨fun q => by omega, fun q => by omega⟩⟩
def csc (near pa pb st : Int32) (A B : Nat → Int32) : Nat → Int32 → Int32 → Int32 → Int32 → Int32 × Int32 × Int32
  | 0, _, a, b, c => if isb near pa pb a b = 0 then (a, b, c) else (pa, pb, -1)
  | r + 1, w, a, b, c => if (st ||| ((1 : Int32) <<< (w &&& 31))) = st then csc near pa pb st A B r (w + 1) a b c else (if isb near (A (st ||| ((1 : Int32) <<< (w &&& 31))).toInt.toNat) (B (st ||| ((1 : Int32) <<< (w &&& 31))).toInt.toNat) a b = 0 then csc near pa pb st A B r (w + 1) a b c else csc near pa pb st A B r (w + 1) (A (st ||| ((1 : Int32) <<< (w &&& 31))).toInt.toNat) (B (st ||| ((1 : Int32) <<< (w &&& 31))).toInt.toNat) w)
theorem mem_tab : ∀ s, s < 64 → ∀ w, w < 6 → (((nI s >>> (nI w &&& 31)) &&& 1) = 0 ↔ ¬ (nI s ||| ((1 : Int32) <<< (nI w &&& 31))) = nI s) := by decide +kernel
theorem mem_iff {s w : Int32} (h0 : 0 ≤ s.toInt) (h1 : s.toInt ≤ 63) (g0 : 0 ≤ w.toInt) (g1 : w.toInt ≤ 5) : ((s >>> (w &&& 31)) &&& 1) = 0 ↔ ¬ (s ||| ((1 : Int32) <<< (w &&& 31))) = s := by
  obtain ⟨a, ha, rfl⟩ := t_small (k := 63) (by decide) h0 (by omega)
  obtain ⟨b, hb, rfl⟩ := t_small (k := 5) (by decide) g0 (by omega)
  exact mem_tab a (by omega) b (by omega)
/-- what both scans hold, side by side -/
def srel (t pa pb a9 b9 c9 a8 b8 c8 : Int32) : Prop := (c9 = -1 ∧ a9 = pa ∧ b9 = pb ∧ (b8 = 0 ∨ (bnd a8 b8 ∧ 0 < dd t pa.toInt pb.toInt a8.toInt b8.toInt))) ∨ (¬ c9 = -1 ∧ a9 = a8 ∧ b9 = b8 ∧ c9 = c8 ∧ bnd a8 b8 ∧ dd t pa.toInt pb.toInt a8.toInt b8.toInt ≤ 0)
theorem sim {t near m st pa pb : Int32} {A B T P : Nat → Int32} (htn : (t = 0 ∧ near = 1) ∨ (t = 1 ∧ near = 0)) (h0 : 0 ≤ st.toInt) (h1 : st.toInt ≤ 63) (h6 : m.toInt ≤ 6) (hp : bnd pa pb) (hL : ∀ w : Int32, 0 ≤ w.toInt → w.toInt < m.toInt → ((st >>> (w &&& 31)) &&& 1) = 0 → A (st ||| ((1 : Int32) <<< (w &&& 31))).toInt.toNat = T (tnx st t w) ∧ B (st ||| ((1 : Int32) <<< (w &&& 31))).toInt.toNat = P (tnx st t w) ∧ bnd (T (tnx st t w)) (P (tnx st t w))) : ∀ (r : Nat) (w a9 b9 c9 a8 b8 c8 : Int32), 0 ≤ w.toInt → w.toInt + (r : Int) = m.toInt → srel t pa pb a9 b9 c9 a8 b8 c8 → csc near pa pb st A B r w a8 b8 c8 = tsc m st t T P r w a9 b9 c9 := by
  have e1 : (1 : Int32).toInt = 1 := by decide
  have em : ((-1) : Int32).toInt = -1 := by decide
  have ht : t = 0 ∨ t = 1 := htn.imp And.left And.left
  have n10 : ¬ (1 : Int32) = 0 := by decide
  intro r
  induction r with
  | zero =>
    intro w a9 b9 c9 a8 b8 c8 g0 g1 hr
    rw [csc, tsc]
    rcases hr with ⟨rfl, rfl, rfl, h | ⟨hb, hd⟩⟩ | ⟨-, rfl, rfl, rfl, hb, hd⟩
    · subst h
      rw [if_neg (by unfold isb; rw [if_pos rfl]; exact n10)]
    · rw [if_neg (fun q => by have := (isb_dd htn hp hb).mp q; omega)]
    · rw [if_pos ((isb_dd htn hp hb).mpr hd)]
  | succ r ih =>
    intro w a9 b9 c9 a8 b8 c8 g0 g1 hr
    have zw : (w + 1).toInt = w.toInt + (1 : Int32).toInt := z_add (by omega) (by omega)
    have hmi := mem_iff (s := st) (w := w) h0 h1 g0 (by omega)
    have hwn : ¬ w = -1 := fun q => by have := congrArg Int32.toInt q; omega
    have g := fun a9 b9 c9 a8 b8 c8 => ih (w + 1) a9 b9 c9 a8 b8 c8 (by omega) (by omega)
    rw [csc, tsc]
    by_cases c1 : ((st >>> (w &&& 31)) &&& 1) = 0
    · obtain ⟨l1, l2, l3⟩ := hL w g0 (by omega) c1
      rw [if_neg (hmi.mp c1), if_pos c1, l1, l2]
      have en : T (((2 * (st ||| ((1 : Int32) <<< (w &&& 31)))) + 1) - t).toNatClampNeg = T (tnx st t w) := rfl
      have en2 : P (((2 * (st ||| ((1 : Int32) <<< (w &&& 31)))) + 1) - t).toNatClampNeg = P (tnx st t w) := rfl
      rw [en, en2]
      generalize T (tnx st t w) = x at l3 ⊢
      generalize P (tnx st t w) = y at l3 ⊢
      have hy : 0 < y.toInt := by have := l3.2.1; omega
      have hpb : 0 < pb.toInt := by have := hp.2.1; omega
      rcases hr with ⟨rfl, rfl, rfl, hb⟩ | ⟨hc, rfl, rfl, rfl, hb, hd⟩
      · obtain ⟨k1, k2⟩ := tk_dd ht l3 hp
        have an := dd_anti t x.toInt y.toInt a9.toInt b9.toInt
        by_cases c2 : 0 ≤ dd t x.toInt y.toInt a9.toInt b9.toInt
        · have hnew : srel t a9 b9 x y w x y w := Or.inr ⟨hwn, rfl, rfl, rfl, l3, by omega⟩
          have hcs : ¬ isb near x y a8 b8 = 0 := by
            rcases hb with rfl | ⟨hb, hd⟩
            · unfold isb; rw [if_pos rfl]; exact n10
            · intro q
              have q := (isb_dd htn l3 hb).mp q
              have hb8 : 0 < b8.toInt := by have := hb.2.1; omega
              have := (dd_tr (t := t) hy hpb hb8 c2 (Int.le_of_lt hd)).2 (Or.inr hd)
              omega
          rw [if_neg hcs, g _ _ _ _ _ _ hnew]
          by_cases c3 : dd t x.toInt y.toInt a9.toInt b9.toInt = 0
          · rw [if_pos (k1.mpr (by omega)), if_pos (k2.mpr c3), if_pos rfl]
          · rw [if_neg (fun q => by have := k1.mp q; omega)]
        · rw [if_pos (k1.mpr (by omega)), if_neg (show ¬ ((x * b9) - (a9 * y)) = 0 from fun q => by have := k2.mp q; omega)]
          by_cases c4 : isb near x y a8 b8 = 0
          · rw [if_pos c4]
            exact g _ _ _ _ _ _ (Or.inl ⟨rfl, rfl, rfl, hb⟩)
          · rw [if_neg c4]
            exact g _ _ _ _ _ _ (Or.inl ⟨rfl, rfl, rfl, Or.inr ⟨l3, by omega⟩⟩)
      · obtain ⟨k1, k2⟩ := tk_dd ht l3 hb
        have hb8 : 0 < b9.toInt := by have := hb.2.1; omega
        by_cases c2 : 0 < dd t x.toInt y.toInt a9.toInt b9.toInt
        · rw [if_neg (fun q => by have := (isb_dd htn l3 hb).mp q; omega), if_neg (fun q => by have := k1.mp q; omega)]
          have an := dd_anti t a9.toInt b9.toInt pa.toInt pb.toInt
          have an2 := dd_anti t x.toInt y.toInt pa.toInt pb.toInt
          have := (dd_tr (t := t) hy hb8 hpb (Int.le_of_lt c2) (show 0 ≤ dd t a9.toInt b9.toInt pa.toInt pb.toInt by omega)).1
          exact g _ _ _ _ _ _ (Or.inr ⟨hwn, rfl, rfl, rfl, l3, by omega⟩)
        · rw [if_pos ((isb_dd htn l3 hb).mpr (by omega)), if_pos (k1.mpr (by omega)), if_neg hc]
          have := g _ _ _ _ _ _ (Or.inr ⟨hc, rfl, rfl, rfl, hb, hd⟩)
          by_cases c5 : ((x * b9) - (a9 * y)) = 0
          · rw [if_pos c5]; exact this
          · rw [if_neg c5]; exact this
    · rw [if_pos (Decidable.not_not.mp (fun q => c1 (hmi.mpr q))), if_neg c1]
      exact g _ _ _ _ _ _ hr
