-- THE PURE SIDE: the class's road and the reference's row
def gR (f : Nat → Int32) : Prop := (4 ≤ (f 0).toInt ∧ (f 0).toInt ≤ 20) ∧ (1 ≤ (f 1).toInt ∧ (f 1).toInt ≤ 40) ∧ (0 ≤ (f 2).toInt ∧ (f 2).toInt ≤ 6) ∧ (0 ≤ (f 3).toInt ∧ (f 3).toInt < ((1 : Int32) <<< ((f 2) &&& 31)).toInt) ∧ (∀ i : Nat, i < (f 0).toInt.toNat → 1 ≤ (f (4 + i)).toInt ∧ (f (4 + i)).toInt ≤ 9) ∧ ∀ i : Nat, i < (f 2).toInt.toNat → (0 ≤ (f (24 + i)).toInt ∧ (f (24 + i)).toInt ≤ 3) ∧ 1 ≤ (f (30 + i)).toInt ∧ (f (30 + i)).toInt ≤ 9
def rr (f : Nat → Int32) (st mi wk wd : Int32) (ha ki hb : Nat → Int32) : Prop := st = f 0 ∧ mi = f 1 ∧ wk = f 2 ∧ wd = f 3 ∧ (∀ i : Nat, i < (f 0).toInt.toNat → ha (i + 1) = f (4 + i)) ∧ ∀ i : Nat, i < (f 2).toInt.toNat → ki i = f (24 + i) ∧ hb i = f (30 + i)
theorem at_in {v : Int32} {g : Nat → Int32} {n : Nat} (hn : n < 1000) (h0 : 0 ≤ v.toInt) (h1 : v.toInt < (n : Int)) : fX4_at v g n = g v.toInt.toNat := by
  have e0 : (0 : Int32).toInt = 0 := by decide
  have en : (Int32.ofNat n).toInt = (n : Int) := z_ofNat (by omega)
  unfold fX4_at xlet
  rw [if_neg (show ¬ v < 0 from fun q => by have := t_lt q; omega), if_neg (show ¬ Int32.ofNat n ≤ v from fun q => by have := t_le q; omega)]
  rfl
theorem put_in {v x : Int32} {g : Nat → Int32} {n : Nat} (hn : n < 1000) (h0 : 0 ≤ v.toInt) (h1 : v.toInt < (n : Int)) : fX4_put v x g n = upd g v.toInt.toNat x := by
  have e0 : (0 : Int32).toInt = 0 := by decide
  have en : (Int32.ofNat n).toInt = (n : Int) := z_ofNat (by omega)
  unfold fX4_put
  rw [if_neg (show ¬ v < 0 from fun q => by have := t_lt q; omega), if_neg (show ¬ Int32.ofNat n ≤ v from fun q => by have := t_le q; omega)]
  rfl
theorem ix_add {y : Int32} (c : Int32) (k : Nat) (hc : c.toInt = (k : Int)) (hk : k ≤ 1000) (h0 : 0 ≤ y.toInt) (h1 : y.toInt ≤ 1000) : (c + y).toNatClampNeg = k + y.toInt.toNat := by
  have z : (c + y).toInt = c.toInt + y.toInt := z_add (by omega) (by omega)
  rw [cn_of, z]; omega
theorem k4 {w : Int32} (h0 : 0 ≤ w.toInt) (h3 : w.toInt ≤ 3) : w = 0 ∨ w = 1 ∨ w = 2 ∨ w = 3 := by
  have e : ∀ k : Int32, w.toInt = k.toInt → w = k := fun k h => Int32.toInt_inj.mp h
  have c : w.toInt = 0 ∨ w.toInt = 1 ∨ w.toInt = 2 ∨ w.toInt = 3 := by omega
  rcases c with c | c | c | c
  · exact Or.inl (e 0 c)
  · exact Or.inr (Or.inl (e 1 c))
  · exact Or.inr (Or.inr (Or.inl (e 2 c)))
  · exact Or.inr (Or.inr (Or.inr (e 3 c)))
-- what is felt
theorem felt_eq {f ha : Nat → Int32} (hf : gR f) (hh : ∀ i : Nat, i < (f 0).toInt.toNat → ha (i + 1) = f (4 + i)) {kind habit g : Int32} (hk : 0 ≤ kind.toInt ∧ kind.toInt ≤ 3) (hb : 1 ≤ habit.toInt) (hg : 1 ≤ g.toInt ∧ g.toInt ≤ (f 0).toInt) : fX3_felt kind habit g (f 0) ha = fX9_feltAt kind habit g f := by
  obtain ⟨⟨n0, n1⟩, -⟩ := hf
  have e1 : (1 : Int32).toInt = 1 := by decide
  have e0 : (0 : Int32).toInt = 0 := by decide
  have zg : (g - 1).toInt = g.toInt - (1 : Int32).toInt := z_sub (by omega) (by omega)
  have zn : (f 0 - g).toInt = (f 0).toInt - g.toInt := z_sub (by omega) (by omega)
  have zm : (f 0 + 1).toInt = (f 0).toInt + (1 : Int32).toInt := z_add (by omega) (by omega)
  have zq : (f 0 + 1 - g).toInt = (f 0 + 1).toInt - g.toInt := z_sub (by omega) (by omega)
  have hA : fX4_at g ha 21 = f (4 + (g - 1)).toNatClampNeg := by
    rw [at_in (by decide) (by omega) (by omega), ix_add 4 4 (by decide) (by decide) (by omega) (by omega), ← hh _ (by omega)]
    congr 1
    omega
  have hB : fX4_at (f 0 + 1 - g) ha 21 = f (4 + (f 0 - g)).toNatClampNeg := by
    rw [at_in (by decide) (by omega) (by omega), ix_add 4 4 (by decide) (by decide) (by omega) (by omega), ← hh _ (by omega)]
    congr 1
    omega
  have hl : ¬ habit ≤ 0 := fun q => by have := t_le q; omega
  have n03 : ¬ (0 : Int32) = 3 := by decide
  have n13 : ¬ (1 : Int32) = 3 := by decide
  have n23 : ¬ (2 : Int32) = 3 := by decide
  have n01 : ¬ (0 : Int32) = 1 := by decide
  have n02 : ¬ (0 : Int32) = 2 := by decide
  have n21 : ¬ (2 : Int32) = 1 := by decide
  have n10 : ¬ (1 : Int32) = 0 := by decide
  have n20 : ¬ (2 : Int32) = 0 := by decide
  have n30 : ¬ (3 : Int32) = 0 := by decide
  have n31 : ¬ (3 : Int32) = 1 := by decide
  have n32 : ¬ (3 : Int32) = 2 := by decide
  rcases k4 hk.1 hk.2 with rfl | rfl | rfl | rfl
  · simp only [fX3_felt, fX9_feltAt, xlet, n03, n01, n02, if_false, eq_self, if_true]
    exact hA
  · simp only [fX3_felt, fX9_feltAt, xlet, n13, n10, hl, if_false, eq_self, if_true]
    rw [hA]
  · simp only [fX3_felt, fX9_feltAt, xlet, n23, n21, n20, hl, if_false, eq_self, if_true]
    rw [hA, Int32.mul_comm (f _) 2]
  · simp only [fX3_felt, fX9_feltAt, xlet, n30, n31, n32, if_false, eq_self, if_true]
    rw [hB]
theorem place_eq6 {f ha : Nat → Int32} (hf : gR f) (hh : ∀ i : Nat, i < (f 0).toInt.toNat → ha (i + 1) = f (4 + i)) {kind habit : Int32} (k mile : Int32) (hk : 0 ≤ kind.toInt ∧ kind.toInt ≤ 3) (hb : 1 ≤ habit.toInt) : ∀ (n : Nat) (s g : Int32), 1 ≤ g.toInt → fX3_placeFelt_6 kind habit (k * mile) (f 0) ha n s g = fX9_stoneBy_6 kind habit k mile f n s g := by
  have e1 : (1 : Int32).toInt = 1 := by decide
  intro n
  induction n with
  | zero => intro s g hg; rfl
  | succ n ih =>
    intro s g hg
    rw [fX3_placeFelt_6, fX9_stoneBy_6]
    by_cases c : f 0 < g
    · rw [if_pos c, if_pos c]
    · rw [if_neg c, if_neg c]
      have kc := t_nlt c
      have h20 := hf.1.2
      have zg : (g + 1).toInt = g.toInt + (1 : Int32).toInt := z_add (by omega) (by omega)
      rw [felt_eq hf hh hk hb ⟨hg, kc⟩, ih _ (g + 1) (by omega)]
theorem place_eq {f ha : Nat → Int32} (hf : gR f) (hh : ∀ i : Nat, i < (f 0).toInt.toNat → ha (i + 1) = f (4 + i)) {kind habit : Int32} (k mile : Int32) (hk : 0 ≤ kind.toInt ∧ kind.toInt ≤ 3) (hb : 1 ≤ habit.toInt) : fX3_placeFelt kind habit (k * mile) (f 0) ha = fX9_stoneBy kind habit k mile f := place_eq6 hf hh k mile hk hb 1000 0 1 (by decide)
/-- one of the walkers: his kind and habit, read on both sides -/
theorem wk_eq {f ki hb : Nat → Int32} (hf : gR f) (hw : ∀ i : Nat, i < (f 2).toInt.toNat → ki i = f (24 + i) ∧ hb i = f (30 + i)) {w : Int32} (h0 : 0 ≤ w.toInt) (h1 : w.toInt < (f 2).toInt) : fX4_at w ki 6 = f (24 + w).toNatClampNeg ∧ fX4_at w hb 6 = f (30 + w).toNatClampNeg ∧ (0 ≤ (f (24 + w).toNatClampNeg).toInt ∧ (f (24 + w).toNatClampNeg).toInt ≤ 3) ∧ 1 ≤ (f (30 + w).toNatClampNeg).toInt ∧ (f (30 + w).toNatClampNeg).toInt ≤ 9 := by
  obtain ⟨-, -, ⟨v0, v6⟩, -, -, hg⟩ := hf
  have h := hw w.toInt.toNat (by omega)
  have g := hg w.toInt.toNat (by omega)
  rw [at_in (by decide) h0 (by omega), at_in (by decide) h0 (by omega), ix_add 24 24 (by decide) (by decide) h0 (by omega), ix_add 30 30 (by decide) (by decide) h0 (by omega)]
  exact ⟨h.1, h.2, g.1, g.2⟩
theorem stone_eq {f ha ki hb : Nat → Int32} (hf : gR f) (hh : ∀ i : Nat, i < (f 0).toInt.toNat → ha (i + 1) = f (4 + i)) (hw : ∀ i : Nat, i < (f 2).toInt.toNat → ki i = f (24 + i) ∧ hb i = f (30 + i)) {w : Int32} (k : Int32) (h0 : 0 ≤ w.toInt) (h1 : w.toInt < (f 2).toInt) : fX3_stoneOf w k (f 0) (f 1) ki hb ha = fX9_stoneOf w k f := by
  obtain ⟨a, b, c, d⟩ := wk_eq hf hw h0 h1
  unfold fX3_stoneOf fX9_stoneOf
  rw [a, b]
  exact place_eq hf hh k (f 1) c d.1
theorem allFelt_eq4 {f ha ki hb : Nat → Int32} (hf : gR f) (hh : ∀ i : Nat, i < (f 0).toInt.toNat → ha (i + 1) = f (4 + i)) (hw : ∀ i : Nat, i < (f 2).toInt.toNat → ki i = f (24 + i) ∧ hb i = f (30 + i)) {w : Int32} (h0 : 0 ≤ w.toInt) (h1 : w.toInt < (f 2).toInt) : ∀ (n : Nat) (s g : Int32), 1 ≤ g.toInt → fX3_allFeltBy_4 w (f 0) ki hb ha n s g = fX9_feltInAll_4 w f n s g := by
  have e1 : (1 : Int32).toInt = 1 := by decide
  obtain ⟨a, b, c, d⟩ := wk_eq hf hw h0 h1
  intro n
  induction n with
  | zero => intro s g hg; rfl
  | succ n ih =>
    intro s g hg
    rw [fX3_allFeltBy_4, fX9_feltInAll_4]
    by_cases c1 : f 0 < g
    · rw [if_pos c1, if_pos c1]
    · rw [if_neg c1, if_neg c1]
      have kc := t_nlt c1
      have h20 := hf.1.2
      have zg : (g + 1).toInt = g.toInt + (1 : Int32).toInt := z_add (by omega) (by omega)
      rw [a, b, felt_eq hf hh c d.1 ⟨hg, kc⟩, ih _ (g + 1) (by omega)]
theorem allFelt_eq {f ha ki hb : Nat → Int32} (hf : gR f) (hh : ∀ i : Nat, i < (f 0).toInt.toNat → ha (i + 1) = f (4 + i)) (hw : ∀ i : Nat, i < (f 2).toInt.toNat → ki i = f (24 + i) ∧ hb i = f (30 + i)) {w : Int32} (h0 : 0 ≤ w.toInt) (h1 : w.toInt < (f 2).toInt) : fX3_allFeltBy w (f 0) ki hb ha = fX9_feltInAll w f := allFelt_eq4 hf hh hw h0 h1 1000 0 1 (by decide)
theorem lt1000 {f : Nat → Int32} (hf : gR f) : (f 2).toInt - (0 : Int32).toInt < ((1000 : Nat) : Int) := by
  have := hf.2.2.1.2
  have e0 : (0 : Int32).toInt = 0 := by decide
  rw [e0]; omega
-- stones that are found, sums and numbers of a set, the mean
theorem find_18 {f ha ki hb : Nat → Int32} (hf : gR f) (hh : ∀ i : Nat, i < (f 0).toInt.toNat → ha (i + 1) = f (4 + i)) (hw : ∀ i : Nat, i < (f 2).toInt.toNat → ki i = f (24 + i) ∧ hb i = f (30 + i)) (k : Int32) : ∀ (n : Nat) (u : Nat → Int32) (v : Int32), 0 ≤ v.toInt → v.toInt ≤ (f 2).toInt → (f 2).toInt - v.toInt < (n : Int) → (∀ w : Int32, 0 ≤ w.toInt → w.toInt < v.toInt → w.toInt < (f 2).toInt → u w.toInt.toNat = fX9_stoneOf w k f) → ∀ w : Int32, 0 ≤ w.toInt → w.toInt < (f 2).toInt → fX6_find_18 k (f 0) (f 1) (f 2) ki hb ha n u v w.toInt.toNat = fX9_stoneOf w k f := by
  have e1 : (1 : Int32).toInt = 1 := by decide
  intro n
  induction n with
  | zero =>
    intro u v h0 hz h1 hu w g0 g1
    omega
  | succ n ih =>
    intro u v h0 hz h1 hu w g0 g1
    have h6 := hf.2.2.1.2
    rw [fX6_find_18]
    by_cases c : f 2 ≤ v
    · rw [if_pos c]
      have := t_le c
      exact hu w g0 (by omega) g1
    · rw [if_neg c]
      have kc := t_nle c
      have zv : (v + 1).toInt = v.toInt + (1 : Int32).toInt := z_add (by omega) (by omega)
      rw [put_in (by decide) h0 (by omega)]
      refine ih _ (v + 1) (by omega) (by omega) (by omega) (fun x x0 x1 x2 => ?_) w g0 g1
      by_cases q : x.toInt = v.toInt
      · have : x = v := Int32.toInt_inj.mp q
        subst this
        rw [upd_at]
        exact stone_eq hf hh hw k x0 x2
      · rw [upd_ne _ _ (by omega)]
        exact hu x x0 (by omega) x2
theorem find_eq {f ha ki hb u : Nat → Int32} (hf : gR f) (hh : ∀ i : Nat, i < (f 0).toInt.toNat → ha (i + 1) = f (4 + i)) (hw : ∀ i : Nat, i < (f 2).toInt.toNat → ki i = f (24 + i) ∧ hb i = f (30 + i)) (k : Int32) : ∀ w : Int32, 0 ≤ w.toInt → w.toInt < (f 2).toInt → fX6_find k (f 0) (f 1) (f 2) ki hb ha u w.toInt.toNat = fX9_stoneOf w k f :=
  find_18 hf hh hw k 1000 u 0 (by decide) hf.2.2.1.1 (lt1000 hf) (fun w g0 g1 => absurd g1 (by rw [show (0 : Int32).toInt = 0 by decide]; omega))
theorem mean_12 {f u : Nat → Int32} (hf : gR f) (k st : Int32) (hu : ∀ w : Int32, 0 ≤ w.toInt → w.toInt < (f 2).toInt → u w.toInt.toNat = fX9_stoneOf w k f) : ∀ (n : Nat) (v ab be : Int32), 0 ≤ v.toInt → v.toInt ≤ (f 2).toInt → (f 2).toInt - v.toInt < (n : Int) → fX9_layMean_12 st k f n v ab be = ((if fX6_numberOf_4 st (f 2) u n be v ≤ 0 then (0 : Int32) else 1), fX6_sumOf_4 st (f 2) u n ab v, fX6_numberOf_4 st (f 2) u n be v) := by
  have e1 : (1 : Int32).toInt = 1 := by decide
  have n01 : ¬ (1 : Int32) = 0 := by decide
  intro n
  induction n with
  | zero =>
    intro v ab be h0 hz h1
    omega
  | succ n ih =>
    intro v ab be h0 hz h1
    have h6 := hf.2.2.1.2
    rw [fX9_layMean_12, fX6_numberOf_4, fX6_sumOf_4]
    by_cases c : f 2 ≤ v
    · rw [if_pos c, if_pos c, if_pos c]
      rfl
    · rw [if_neg c, if_neg c, if_neg c]
      have kc := t_nle c
      have zv : (v + 1).toInt = v.toInt + (1 : Int32).toInt := z_add (by omega) (by omega)
      have hx : fX4_at v u 6 = fX9_stoneOf v k f := by
        rw [at_in (by decide) h0 (by omega)]
        exact hu v h0 kc
      unfold fX6_counts xlet
      by_cases c1 : ((st >>> (v &&& 31)) &&& 1) = 1
      · by_cases c2 : fX9_stoneOf v k f = -1
        · simp only [if_pos c1, hx, if_pos c2, if_pos rfl, if_true, Int32.add_zero]
          exact ih (v + 1) ab be (by omega) (by omega) (by omega)
        · simp only [if_pos c1, hx, if_neg c2, if_neg n01]
          exact ih (v + 1) _ _ (by omega) (by omega) (by omega)
      · simp only [if_neg c1, if_pos rfl, if_true, Int32.add_zero]
        exact ih (v + 1) ab be (by omega) (by omega) (by omega)
theorem mean_eq {f u : Nat → Int32} (hf : gR f) (k st : Int32) (hu : ∀ w : Int32, 0 ≤ w.toInt → w.toInt < (f 2).toInt → u w.toInt.toNat = fX9_stoneOf w k f) : fX9_layMean st k f = ((if fX6_numberOf st (f 2) u ≤ 0 then (0 : Int32) else 1), fX6_sumOf st (f 2) u, fX6_numberOf st (f 2) u) :=
  mean_12 hf k st hu 1000 0 0 0 (by decide) hf.2.2.1.1 (lt1000 hf)
