-- the law's stones: class and reference
def hU (f : Nat → Int32) (k : Int32) (u : Nat → Int32) : Prop := ∀ w : Int32, 0 ≤ w.toInt → w.toInt < (f 2).toInt → u w.toInt.toNat = fX9_stoneOf w k f
theorem mean_b {f u : Nat → Int32} (hf : gR f) (k st : Int32) (hu : hU f k u) : (0 ≤ (fX6_sumOf st (f 2) u).toInt ∧ (fX6_sumOf st (f 2) u).toInt ≤ 120) ∧ 0 ≤ (fX6_numberOf st (f 2) u).toInt ∧ (fX6_numberOf st (f 2) u).toInt ≤ 6 := by
  have h := layMean_b (st := st) (k := k) hf.1.1 hf.1.2 hf.2.2.1.2
  rw [mean_eq hf k st hu] at h
  exact ⟨⟨h.1, h.2.1⟩, h.2.2.1, h.2.2.2.1⟩
theorem num_0 {x : Int32} (h : 0 ≤ x.toInt) : (x = 0) ↔ (x ≤ 0) := by
  have e0 : (0 : Int32).toInt = 0 := by decide
  constructor
  · intro q; rw [q]; decide
  · intro q; have := t_le q; exact Int32.toInt_inj.mp (by omega)
theorem b01 {P : Prop} [Decidable P] : ((if P then (0 : Int32) else 1) = 0) ↔ P := by
  by_cases c : P
  · rw [if_pos c]; exact ⟨fun _ => c, fun _ => rfl⟩
  · rw [if_neg c]; exact ⟨fun h => absurd h (by decide), fun h => absurd h c⟩
theorem place_pair {f u : Nat → Int32} (hf : gR f) (k st : Int32) (hu : hU f k u) : fX9_layPlace st k f = if fX6_numberOf st (f 2) u = 0 then (f 0, 1) else (fX6_sumOf st (f 2) u, fX6_numberOf st (f 2) u) := by
  have hb := mean_b hf k st hu
  unfold fX9_layPlace
  rw [mean_eq hf k st hu]
  dsimp only
  by_cases c : fX6_numberOf st (f 2) u = 0
  · rw [if_pos c, if_pos (b01.mpr ((num_0 hb.2.1).mp c))]
  · rw [if_neg c, if_neg (fun h => c ((num_0 hb.2.1).mpr (b01.mp h)))]
-- CROSSED
theorem crossNext {f ha ki hb : Nat → Int32} (hf : gR f) (hh : ∀ i : Nat, i < (f 0).toInt.toNat → ha (i + 1) = f (4 + i)) (hw : ∀ i : Nat, i < (f 2).toInt.toNat → ki i = f (24 + i) ∧ hb i = f (30 + i)) (k : Int32) (u : Nat → Int32) : ∃ u1 u2 : Nat → Int32, hU f k u1 ∧ hU f (k + 1) u2 ∧ fX8_crossesNext k (f 0) (f 1) (f 2) (f 3) ki hb ha u = ((if (fX6_numberOf (f 3) (f 2) u1) ≤ 0 then (0 : Int32) else (if (fX6_numberOf (f 3) (f 2) u2) ≤ 0 then 0 else (if ((fX6_sumOf (f 3) (f 2) u1) * (fX6_numberOf (f 3) (f 2) u2)) < ((fX6_sumOf (f 3) (f 2) u2) * (fX6_numberOf (f 3) (f 2) u1)) then 0 else 1))), u2) := by
  have h1 : hU f k (fX6_find k (f 0) (f 1) (f 2) ki hb ha u) := find_eq hf hh hw k
  have h2 : hU f (k + 1) (fX6_find (k + 1) (f 0) (f 1) (f 2) ki hb ha (fX6_find k (f 0) (f 1) (f 2) ki hb ha u)) := find_eq hf hh hw (k + 1)
  refine ⟨_, _, h1, h2, ?_⟩
  unfold fX8_crossesNext
  generalize fX6_find k (f 0) (f 1) (f 2) ki hb ha u = u1
  rw [xlet_eq]
  generalize fX6_find (k + 1) (f 0) (f 1) (f 2) ki hb ha u1 = u2
  rw [xlet_eq, xlet_eq]
theorem crossed_7 {f ha ki hb : Nat → Int32} (hf : gR f) (hh : ∀ i : Nat, i < (f 0).toInt.toNat → ha (i + 1) = f (4 + i)) (hw : ∀ i : Nat, i < (f 2).toInt.toNat → ki i = f (24 + i) ∧ hb i = f (30 + i)) : ∀ (n : Nat) (u : Nat → Int32) (k sw ss ab be : Int32), (fX8_crossed_2 (f 0) (f 1) (f 2) (f 3) ki hb ha n u k sw ss).1 = (fX9_crossed_7 f n k ab be).1 := by
  intro n
  induction n with
  | zero => intro u k sw ss ab be; rfl
  | succ n ih =>
    intro u k sw ss ab be
    rw [fX8_crossed_2, fX9_crossed_7]
    by_cases c : (8 : Int32) ≤ k
    · rw [if_pos c, if_pos c]
    · rw [if_neg c, if_neg c]
      obtain ⟨u1, u2, h1, h2, e⟩ := crossNext hf hh hw k u
      rw [e, mean_eq hf k (f 3) h1, mean_eq hf (k + 1) (f 3) h2]
      dsimp only
      generalize fX6_numberOf (f 3) (f 2) u1 = n1
      generalize fX6_numberOf (f 3) (f 2) u2 = n2
      generalize fX6_sumOf (f 3) (f 2) u1 = s1
      generalize fX6_sumOf (f 3) (f 2) u2 = s2
      have n10 : ¬ (1 : Int32) = 0 := by decide
      by_cases c1 : n1 ≤ 0
      · simp only [if_pos c1, if_true, eq_self]
        exact ih u2 (k + 1) _ _ _ _
      · by_cases c2 : n2 ≤ 0
        · simp only [if_neg c1, if_pos c2, if_neg n10, if_true, eq_self]
          exact ih u2 (k + 1) _ _ _ _
        · by_cases c3 : s1 * n2 < s2 * n1
          · simp only [if_neg c1, if_neg c2, if_neg n10, if_pos c3, if_true, eq_self]
            exact ih u2 (k + 1) _ _ _ _
          · simp only [if_neg c1, if_neg c2, if_neg n10, if_neg c3]
theorem m_crossed {f : Nat → Int32} {st mi wk wd : Int32} {ha ki hb : Nat → Int32} (h : rN f st mi wk wd ha ki hb) (sw ss ab be : Int32) (u : Nat → Int32) : (fX8_crossed st mi wk wd sw ss ki hb ha u).1 = (fX9_crossed ab be f).1 := by
  obtain ⟨hf, rfl, rfl, rfl, rfl, hh, hw⟩ := h
  exact crossed_7 hf hh hw 1000 u 1 sw ss ab be
-- BOOKS, and how many stones stand
theorem books_5 {f ha ki hb : Nat → Int32} (hf : gR f) (hh : ∀ i : Nat, i < (f 0).toInt.toNat → ha (i + 1) = f (4 + i)) (hw : ∀ i : Nat, i < (f 2).toInt.toNat → ki i = f (24 + i) ∧ hb i = f (30 + i)) (x y : Int32) : ∀ (n : Nat) (u : Nat → Int32) (c k sw ss ab be : Int32), (fX8_lawStonesBetween_5 x y (f 0) (f 1) (f 2) (f 3) ki hb ha n u c k sw ss).1 = (fX9_books_69 f n x y c k ab be).1 := by
  have e8 : (8 : Int32).toInt = 8 := by decide
  have e9 : (9 : Int32).toInt = 9 := by decide
  have n10 : ¬ (1 : Int32) = 0 := by decide
  intro n
  induction n with
  | zero => intro u c k sw ss ab be; rfl
  | succ n ih =>
    intro u c k sw ss ab be
    rw [fX8_lawStonesBetween_5, fX9_books_69]
    by_cases c0 : (8 : Int32) < k
    · have := t_lt c0
      rw [if_pos c0, if_pos (show (9 : Int32) ≤ k from Int32.le_iff_toInt_le.mpr (by omega))]
    · have := t_nlt c0
      rw [if_neg c0, if_neg (show ¬ (9 : Int32) ≤ k from fun q => by have := t_le q; omega)]
      have h1 : hU f k (fX6_find k (f 0) (f 1) (f 2) ki hb ha u) := find_eq hf hh hw k
      rw [mean_eq hf k (f 3) h1]
      simp only [xlet_eq]
      generalize fX6_find k (f 0) (f 1) (f 2) ki hb ha u = u1
      try dsimp only
      generalize fX6_numberOf (f 3) (f 2) u1 = n1
      generalize fX6_sumOf (f 3) (f 2) u1 = s1
      by_cases c1 : n1 ≤ 0
      · simp only [if_pos c1, if_true, eq_self, Int32.add_zero]
        exact ih u1 c (k + 1) _ _ _ _
      · by_cases c2 : s1 ≤ x * n1
        · simp only [if_neg c1, if_pos c2, if_neg n10, Int32.add_zero]
          exact ih u1 c (k + 1) _ _ _ _
        · by_cases c3 : y * n1 < s1
          · simp only [if_neg c1, if_neg c2, if_neg n10, if_pos c3, Int32.add_zero]
            exact ih u1 c (k + 1) _ _ _ _
          · simp only [if_neg c1, if_neg c2, if_neg n10, if_neg c3]
            exact ih u1 (c + 1) (k + 1) _ _ _ _
theorem m_books {f : Nat → Int32} {st mi wk wd : Int32} {ha ki hb : Nat → Int32} (h : rN f st mi wk wd ha ki hb) (a b sw ss ab be : Int32) (u : Nat → Int32) : (fX8_books a b st mi wk wd sw ss ki hb ha u).1 = (fX9_books a b ab be f).1 := by
  obtain ⟨hf, rfl, rfl, rfl, rfl, hh, hw⟩ := h
  have ea : fX8_within a 0 (f 0) = fX9_in a.toInt64 0 (f 0).toInt64 := within_in (by decide) rfl
  have eb : fX8_within b 0 (f 0) = fX9_in b.toInt64 0 (f 0).toInt64 := within_in (by decide) rfl
  unfold fX8_books fX9_books
  rw [ea, eb]
  by_cases c1 : fX9_in a.toInt64 0 (f 0).toInt64 = 0
  · rw [if_pos c1, if_pos c1]
  · rw [if_neg c1, if_neg c1]
    by_cases c2 : fX9_in b.toInt64 0 (f 0).toInt64 = 0
    · rw [if_pos c2, if_pos c2]
    · rw [if_neg c2, if_neg c2]
      have e1 : (if b < a then b else a) = (if b ≤ a then b else a) := by
        by_cases q : b < a
        · rw [if_pos q, if_pos (Int32.le_iff_toInt_le.mpr (Int.le_of_lt (t_lt q)))]
        · rw [if_neg q]
          by_cases q2 : b ≤ a
          · rw [if_pos q2]; exact Int32.toInt_inj.mp (by have := t_le q2; have := t_nlt q; omega)
          · rw [if_neg q2]
      have e2 : (if a < b then b else a) = (if b ≤ a then a else b) := by
        by_cases q : b ≤ a
        · rw [if_pos q, if_neg (fun q2 => by have := t_le q; have := t_lt q2; omega)]
        · rw [if_neg q, if_pos (Int32.lt_iff_toInt_lt.mpr (t_nle q))]
      rw [e1, e2]
      have hq := books_5 hf hh hw (if b ≤ a then b else a) (if b ≤ a then a else b) 1000 u 0 1 sw ss ab be
      unfold fX8_lawStonesBetween
      rcases e : fX8_lawStonesBetween_5 (if b ≤ a then b else a) (if b ≤ a then a else b) (f 0) (f 1) (f 2) (f 3) ki hb ha 1000 u 0 1 sw ss with ⟨r, x1, x2, x3⟩
      rw [e] at hq
      rw [xlet_eq, xlet_eq]
      exact hq
-- a stone stands beyond -1 and not beyond the end
theorem stoneBy_6_le (a1 a2 a3 a4 : Int32) (f : Nat → Int32) (h0 : 4 ≤ (f 0).toInt) (h1 : (f 0).toInt ≤ 20) : ∀ (n : Nat) (v5 v6 : Int32), 1 ≤ v6.toInt → v6.toInt ≤ 21 → 21 - v6.toInt < (n : Int) → (fX9_stoneBy_6 a1 a2 a3 a4 f n v5 v6).toInt ≤ (f 0).toInt := by
  have e1 : (1 : Int32).toInt = 1 := by decide
  have em : ((-1) : Int32).toInt = -1 := by decide
  intro n
  induction n with
  | zero => intro v5 v6 g1 g2 g3; omega
  | succ n ih =>
    intro v5 v6 g1 g2 g3
    rw [fX9_stoneBy_6]
    by_cases c1 : f 0 < v6
    · rw [if_pos c1]; omega
    · rw [if_neg c1]
      have k1 := t_nlt c1
      by_cases c2 : v5 + fX9_feltAt a1 a2 v6 f < a3 * a4
      · rw [if_pos c2]
        have z : (v6 + 1).toInt = v6.toInt + (1 : Int32).toInt := z_add (by omega) (by omega)
        exact ih _ _ (by omega) (by omega) (by omega)
      · rw [if_neg c2]
        simp only [xlet_eq]
        by_cases c3 : a1 = 3
        · rw [if_pos c3]
          have z : (f 0 - v6).toInt = (f 0).toInt - v6.toInt := z_sub (by omega) (by omega)
          omega
        · rw [if_neg c3]
          omega
theorem sum_4_le {f u : Nat → Int32} (hf : gR f) (k st : Int32) (hu : hU f k u) : ∀ (n : Nat) (v ab be : Int32), 0 ≤ v.toInt → v.toInt ≤ (f 2).toInt → (f 2).toInt - v.toInt < (n : Int) → 0 ≤ ab.toInt → ab.toInt ≤ 20 * v.toInt → 0 ≤ be.toInt → be.toInt ≤ v.toInt → ab.toInt ≤ (f 0).toInt * be.toInt → (fX6_sumOf_4 st (f 2) u n ab v).toInt ≤ (f 0).toInt * (fX6_numberOf_4 st (f 2) u n be v).toInt := by
  have e1 : (1 : Int32).toInt = 1 := by decide
  have em : ((-1) : Int32).toInt = -1 := by decide
  have n10 : ¬ (1 : Int32) = 0 := by decide
  have h6 := hf.2.2.1.2
  intro n
  induction n with
  | zero => intro v ab be g1 g2 g3; omega
  | succ n ih =>
    intro v ab be g1 g2 g3 g4 g5 g6 g7 g8
    rw [fX6_sumOf_4, fX6_numberOf_4]
    by_cases c : f 2 ≤ v
    · rw [if_pos c, if_pos c]; exact g8
    · rw [if_neg c, if_neg c]
      have kc := t_nle c
      have zv : (v + 1).toInt = v.toInt + (1 : Int32).toInt := z_add (by omega) (by omega)
      have hx : fX4_at v u 6 = fX9_stoneOf v k f := by
        rw [at_in (by decide) g1 (by omega)]
        exact hu v g1 kc
      have hs := stoneBy_b (a1 := f (24 + v).toNatClampNeg) (a2 := f (30 + v).toNatClampNeg) (a3 := k) (a4 := f 1) hf.1.1 hf.1.2
      have hl := stoneBy_6_le (f (24 + v).toNatClampNeg) (f (30 + v).toNatClampNeg) k (f 1) f hf.1.1 hf.1.2 1000 0 1 (by decide) (by decide) (by decide)
      have hs : -1 ≤ (fX9_stoneOf v k f).toInt ∧ (fX9_stoneOf v k f).toInt ≤ 20 := hs
      have hl : (fX9_stoneOf v k f).toInt ≤ (f 0).toInt := hl
      unfold fX6_counts
      simp only [xlet_eq]
      by_cases c1 : ((st >>> (v &&& 31)) &&& 1) = 1
      · by_cases c2 : fX9_stoneOf v k f = -1
        · simp only [if_pos c1, hx, if_pos c2, if_true, eq_self]
          exact ih (v + 1) ab be (by omega) (by omega) (by omega) g4 (by omega) g6 (by omega) g8
        · simp only [if_pos c1, hx, if_neg c2, if_neg n10]
          have k2 := t_neq c2
          have za : (ab + fX9_stoneOf v k f).toInt = ab.toInt + (fX9_stoneOf v k f).toInt := z_add (by omega) (by omega)
          have zb : (be + 1).toInt = be.toInt + (1 : Int32).toInt := z_add (by omega) (by omega)
          have zm : (f 0).toInt * (be + 1).toInt = (f 0).toInt * be.toInt + (f 0).toInt := by rw [zb, e1, Int.mul_add, Int.mul_one]
          exact ih (v + 1) _ _ (by omega) (by omega) (by omega) (by omega) (by omega) (by omega) (by omega) (by omega)
      · simp only [if_neg c1, if_true, eq_self]
        exact ih (v + 1) ab be (by omega) (by omega) (by omega) g4 (by omega) g6 (by omega) g8
theorem sum_le {f u : Nat → Int32} (hf : gR f) (k st : Int32) (hu : hU f k u) : (fX6_sumOf st (f 2) u).toInt ≤ (f 0).toInt * (fX6_numberOf st (f 2) u).toInt :=
  sum_4_le hf k st hu 1000 0 0 0 (by decide) hf.2.2.1.1 (lt1000 hf) (by decide) (by decide) (by decide) (by decide) (by rw [show (0 : Int32).toInt = 0 by decide, Int.mul_zero]; exact Int.le_refl _)
theorem count_121 {f ha ki hb : Nat → Int32} (hf : gR f) (hh : ∀ i : Nat, i < (f 0).toInt.toNat → ha (i + 1) = f (4 + i)) (hw : ∀ i : Nat, i < (f 2).toInt.toNat → ki i = f (24 + i) ∧ hb i = f (30 + i)) : ∀ (n : Nat) (u : Nat → Int32) (c k sw ss ab be : Int32), (fX8_lawStonesBetween_5 (-1) (f 0) (f 0) (f 1) (f 2) (f 3) ki hb ha n u c k sw ss).1 = (fX9_count_121 f n c k ab be).1 := by
  have e8 : (8 : Int32).toInt = 8 := by decide
  have e9 : (9 : Int32).toInt = 9 := by decide
  have n10 : ¬ (1 : Int32) = 0 := by decide
  have h0 := hf.1
  intro n
  induction n with
  | zero => intro u c k sw ss ab be; rfl
  | succ n ih =>
    intro u c k sw ss ab be
    rw [fX8_lawStonesBetween_5, fX9_count_121]
    by_cases c0 : (8 : Int32) < k
    · have := t_lt c0
      rw [if_pos c0, if_pos (show (9 : Int32) ≤ k from Int32.le_iff_toInt_le.mpr (by omega))]
    · have := t_nlt c0
      rw [if_neg c0, if_neg (show ¬ (9 : Int32) ≤ k from fun q => by have := t_le q; omega)]
      have h1 : hU f k (fX6_find k (f 0) (f 1) (f 2) ki hb ha u) := find_eq hf hh hw k
      have hb1 := mean_b hf k (f 3) h1
      have hl1 := sum_le hf k (f 3) h1
      rw [mean_eq hf k (f 3) h1]
      simp only [xlet_eq]
      generalize fX6_find k (f 0) (f 1) (f 2) ki hb ha u = u1 at h1 hb1 hl1 ⊢
      try dsimp only
      generalize fX6_numberOf (f 3) (f 2) u1 = n1 at hb1 hl1 ⊢
      generalize fX6_sumOf (f 3) (f 2) u1 = s1 at hb1 hl1 ⊢
      by_cases c1 : n1 ≤ 0
      · simp only [if_pos c1, if_true, eq_self, Int32.add_zero]
        exact ih u1 c (k + 1) _ _ _ _
      · have k1 := t_nle c1
        have e0 : (0 : Int32).toInt = 0 := by decide
        have em : ((-1) : Int32).toInt = -1 := by decide
        have zm : ((-1) * n1).toInt = (-1) * n1.toInt := z_mul (-1) em (by omega) (by omega)
        have hp1 : 0 ≤ (f 0).toInt * n1.toInt := Int.mul_nonneg (by omega) (by omega)
        have hp2 : (f 0).toInt * n1.toInt ≤ 20 * 6 := Int.mul_le_mul h0.2 hb1.2.2 (by omega) (by omega)
        have zf : (f 0 * n1).toInt = (f 0).toInt * n1.toInt := by rw [Int32.toInt_mul]; exact z_bm (by omega) (by omega)
        have c2 : ¬ s1 ≤ (-1) * n1 := fun q => by have := t_le q; omega
        have c3 : ¬ f 0 * n1 < s1 := fun q => by have := t_lt q; omega
        simp only [if_neg c1, if_neg c2, if_neg n10, if_neg c3]
        exact ih u1 (c + 1) (k + 1) _ _ _ _
theorem hard_90 {f ha : Nat → Int32} (hf : gR f) (hh : ∀ i : Nat, i < (f 0).toInt.toNat → ha (i + 1) = f (4 + i)) (ab be : Int32) : ∀ (n : Nat) (c g v : Int32), 0 ≤ v.toInt → v.toInt ≤ 20 → g.toInt = v.toInt + 1 → fX3_allHard_4 (f 0) ha n c g = (fX9_count_90 ab be f n c v).1 := by
  have e1 : (1 : Int32).toInt = 1 := by decide
  have h20 := hf.1.2
  intro n
  induction n with
  | zero => intro c g v h0 h1 h2; rfl
  | succ n ih =>
    intro c g v h0 h1 h2
    rw [fX3_allHard_4, fX9_count_90]
    by_cases c1 : f 0 ≤ v
    · rw [if_pos c1, if_pos (show f 0 < g from Int32.lt_iff_toInt_lt.mpr (by have := t_le c1; omega))]
    · have k1 := t_nle c1
      rw [if_neg c1, if_neg (show ¬ f 0 < g from fun q => by have := t_lt q; omega)]
      have zv : (v + 1).toInt = v.toInt + (1 : Int32).toInt := z_add (by omega) (by omega)
      have zg : (g + 1).toInt = g.toInt + (1 : Int32).toInt := z_add (by omega) (by omega)
      have hx : fX4_at g ha 21 = f (4 + v).toNatClampNeg := by
        rw [at_in (by decide) (by omega) (by omega), ix_add 4 4 (by decide) (by decide) h0 (by omega), ← hh _ (by omega)]
        congr 1
        omega
      rw [hx]
      exact ih _ _ _ (by omega) (by omega) (by omega)
theorem m_count {f : Nat → Int32} {st mi wk wd : Int32} {ha ki hb : Nat → Int32} (h : rN f st mi wk wd ha ki hb) (a sw ss ab be held many pa acts tl le : Int32) (u : Nat → Int32) (h1 : held = many) (h2 : pa = acts) (h3 : tl = le) : (fX8_count a st mi wk wd ha sw ss ki hb u held pa tl).1 = (fX9_count a acts many le ab be f).1 := by
  obtain ⟨hf, rfl, rfl, rfl, rfl, hh, hw⟩ := h
  subst h1; subst h2; subst h3
  unfold fX8_count fX9_count
  by_cases c0 : a = 0
  · rw [if_pos c0, if_pos c0]
  · rw [if_neg c0, if_neg c0]
    by_cases c1 : a = 1
    · rw [if_pos c1, if_pos c1]
    · rw [if_neg c1, if_neg c1]
      by_cases c2 : a = 2
      · rw [if_pos c2, if_pos c2]
      · rw [if_neg c2, if_neg c2]
        by_cases c3 : a = 3
        · rw [if_pos c3, if_pos c3]
        · rw [if_neg c3, if_neg c3]
          by_cases c4 : a = 4
          · rw [if_pos c4, if_pos c4]
            exact hard_90 hf hh ab be 1000 0 1 0 (by decide) (by decide) (by decide)
          · rw [if_neg c4, if_neg c4]
            by_cases c5 : a = 5
            · rw [if_pos c5, if_pos c5]
              have hq := count_121 hf hh hw 1000 u 0 1 sw ss ab be
              unfold fX8_lawStonesBetween
              rcases e : fX8_lawStonesBetween_5 (-1) (f 0) (f 0) (f 1) (f 2) (f 3) ki hb ha 1000 u 0 1 sw ss with ⟨r, x1, x2, x3⟩
              rw [e] at hq
              exact hq
            · rw [if_neg c5, if_neg c5]
              by_cases c6 : a = 6
              · rw [if_pos c6, if_pos c6]
              · rw [if_neg c6, if_neg c6]
                by_cases c7 : a = 7
                · rw [if_pos c7, if_pos c7]
                · rw [if_neg c7, if_neg c7]
                  by_cases c8 : a = 8
                  · rw [if_pos c8, if_pos c8]
                  · rw [if_neg c8, if_neg c8]
