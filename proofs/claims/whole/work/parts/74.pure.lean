theorem i32_div {a b : Nat} (ha : a < 2 ^ 31) (hb : b < 2 ^ 31) : nI a / nI b = nI (a / b) := by
  have hq : a / b ≤ a := Nat.div_le_self a b
  apply Int32.toInt_inj.mp
  rw [Int32.toInt_div, nI_toInt ha, nI_toInt hb, nI_toInt (by omega), ← Int.ofNat_tdiv]
  generalize a / b = q at hq ⊢
  exact z_bm (by omega) (by omega)
theorem i32_rem {a b : Nat} (ha : a < 2 ^ 31) (hb0 : 0 < b) (hb : b < 2 ^ 31) : nI a - nI a / nI b * nI b = nI (a % b) := by
  have hm : a / b * b ≤ a := Nat.div_mul_le_self a b
  have hr : a % b + b * (a / b) = a := Nat.mod_add_div a b
  rw [Nat.mul_comm] at hr
  have hz : nI (a / b) * nI b = nI (a / b * b) := by
    show Int32.ofNat _ * Int32.ofNat _ = Int32.ofNat _
    exact (Int32.ofNat_mul _ _).symm
  rw [i32_div ha hb, hz]
  generalize a / b * b = q at hm hr ⊢
  apply Int32.toInt_inj.mp
  rw [z_sub (by rw [nI_toInt ha, nI_toInt (by omega)]; omega) (by rw [nI_toInt ha, nI_toInt (by omega)]; omega), nI_toInt ha, nI_toInt (by omega), nI_toInt (by omega)]
  omega
-- within and in; who is a walker
theorem within_in {a lo hi : Int32} {lo9 hi9 : Int64} (h1 : lo.toInt64 = lo9) (h2 : hi.toInt64 = hi9) : fX8_within a lo hi = fX9_in a.toInt64 lo9 hi9 := by
  subst h1; subst h2
  unfold fX8_within fX9_in
  simp only [xlet]
  have p1 : (a < lo) ↔ lg_cmp a.toInt64 lo.toInt64 < 0 := by
    rw [lg_cmp_lt, Int64.lt_iff_toInt_lt, Int32.toInt_toInt64, Int32.toInt_toInt64, Int32.lt_iff_toInt_lt]
  have p2 : (hi < a) ↔ 0 < lg_cmp a.toInt64 hi.toInt64 := by
    rw [lg_cmp_gt, Int64.lt_iff_toInt_lt, Int32.toInt_toInt64, Int32.toInt_toInt64, Int32.lt_iff_toInt_lt]
  by_cases c1 : a < lo
  · rw [if_pos c1, if_pos (p1.mp c1)]
  · rw [if_neg c1, if_neg (fun h => c1 (p1.mpr h))]
    by_cases c2 : hi < a
    · rw [if_pos c2, if_pos (p2.mp c2)]
    · rw [if_neg c2, if_neg (fun h => c2 (p2.mpr h))]
theorem has_eq (a w : Int32) (f : Nat → Int32) (h : w = f 2) : fX3_has a w = fX9_isWalker a f := by
  subst h
  exact within_in (by decide) rfl
-- THE TEXT
def rT (le9 : Int32) (te9 : Nat → Int32) (le8 : Int32) (te8 : Nat → Int32) : Prop := le8 = le9 ∧ (0 ≤ le9.toInt ∧ le9.toInt ≤ 160) ∧ ∀ i : Nat, (i : Int) < le9.toInt → te8 i = te9 i ∧ 0 ≤ (te9 i).toInt ∧ (te9 i).toInt ≤ 255
theorem m_write {a le9 le8 : Int32} {te9 te8 : Nat → Int32} (h : rT le9 te9 le8 te8) : (fX8_write a le8 te8).1 = (fX9_write a le9 te9).1 ∧ rT (fX9_write a le9 te9).2.1 (fX9_write a le9 te9).2.2 (fX8_write a le8 te8).2.1 (fX8_write a le8 te8).2.2 := by
  obtain ⟨rfl, ⟨l0, l1⟩, ht⟩ := h
  have e1 : (1 : Int32).toInt = 1 := by decide
  have e160 : (160 : Int32).toInt = 160 := by decide
  have ew : fX8_within a 0 255 = fX9_in a.toInt64 0 255 := within_in (by decide) (by decide)
  unfold fX8_write fX9_write
  rw [ew]
  by_cases c1 : fX9_in a.toInt64 0 255 = 0
  · rw [if_pos c1, if_pos c1]
    exact ⟨rfl, rfl, ⟨l0, l1⟩, ht⟩
  · rw [if_neg c1, if_neg c1]
    have hb := in_b (l := 0) (h := 255) c1 (by decide) (by decide)
    by_cases c2 : le8 = 160
    · rw [if_pos c2, if_neg (show ¬ le8 < 160 by rw [c2]; decide)]
      exact ⟨rfl, rfl, ⟨l0, l1⟩, ht⟩
    · have k2 := t_neq c2
      rw [if_neg c2, if_pos (show le8 < 160 from Int32.lt_iff_toInt_lt.mpr (by omega))]
      have zl : (le8 + 1).toInt = le8.toInt + (1 : Int32).toInt := z_add (by omega) (by omega)
      unfold fX7_add
      simp only [xlet]
      rw [put_in (by decide) l0 (by omega)]
      refine ⟨by first | trivial | rfl, rfl, ⟨by show 0 ≤ (le8 + 1).toInt; omega, by show (le8 + 1).toInt ≤ 160; omega⟩, fun i hi => ?_⟩
      have hi : (i : Int) < (le8 + 1).toInt := hi
      show upd te8 le8.toInt.toNat a i = upd te9 le8.toNatClampNeg a i ∧ 0 ≤ (upd te9 le8.toNatClampNeg a i).toInt ∧ (upd te9 le8.toNatClampNeg a i).toInt ≤ 255
      rw [cn_of]
      by_cases q : i = le8.toInt.toNat
      · subst q
        rw [upd_at, upd_at]
        exact ⟨rfl, hb⟩
      · rw [upd_ne _ _ q, upd_ne _ _ q]
        exact ht i (by omega)
theorem rT_0 {te9 te8 : Nat → Int32} : rT 0 te9 0 te8 := ⟨rfl, ⟨by decide, by decide⟩, fun i hi => absurd hi (by rw [show (0 : Int32).toInt = 0 by decide]; omega)⟩
-- ONE ROAD ON BOTH SIDES: the class's values are the row's, the row is within its bounds
def rN (f : Nat → Int32) (st mi wk wd : Int32) (ha ki hb : Nat → Int32) : Prop := gR f ∧ rr f st mi wk wd ha ki hb
-- walker, as, step, stone
theorem m_step {f : Nat → Int32} {st mi wk wd : Int32} {ha ki hb : Nat → Int32} (h : rN f st mi wk wd ha ki hb) (a : Int32) : fX8_step a st ha = fX9_step a f := by
  obtain ⟨hf, rfl, rfl, rfl, rfl, hh, hw⟩ := h
  have h20 := hf.1.2
  have e1 : (1 : Int32).toInt = 1 := by decide
  have e4 : (4 : Int32).toInt = 4 := by decide
  have ew : fX8_within a 1 (f 0) = fX9_in a.toInt64 1 (f 0).toInt64 := within_in (by decide) rfl
  unfold fX8_step fX9_step
  simp only [xlet]
  rw [ew]
  by_cases c1 : fX9_in a.toInt64 1 (f 0).toInt64 = 0
  · rw [if_pos c1, if_pos c1]
  · rw [if_neg c1, if_neg c1]
    have hb := in_b (l := 1) c1 (by decide) (Int32.toInt_toInt64 _)
    have z4 : (4 + a).toInt = (4 : Int32).toInt + a.toInt := z_add (by omega) (by omega)
    have z5 : ((4 + a) - 1).toInt = (4 + a).toInt - (1 : Int32).toInt := z_sub (by omega) (by omega)
    have zi : ((4 + a) - 1).toNatClampNeg = 4 + (a.toInt.toNat - 1) := by rw [cn_of, z5, z4, e1, e4]; omega
    rw [at_in (by decide) (by omega) (by omega), zi, ← hh _ (by omega)]
    congr 1
    omega
theorem m_stone {f : Nat → Int32} {st mi wk wd : Int32} {ha ki hb : Nat → Int32} (h : rN f st mi wk wd ha ki hb) (a k : Int32) : fX8_stone a k st mi wk ki hb ha = fX9_stone a k f := by
  obtain ⟨hf, rfl, rfl, rfl, rfl, hh, hw⟩ := h
  have ew : fX8_within k 1 8 = fX9_in k.toInt64 1 8 := within_in (by decide) (by decide)
  unfold fX8_stone fX9_stone
  simp only [xlet]
  rw [has_eq a (f 2) f rfl, ew]
  by_cases c1 : fX9_isWalker a f = 0
  · rw [if_pos c1, if_pos c1]
  · rw [if_neg c1, if_neg c1]
    obtain ⟨b0, b1⟩ := isWalker_b c1 hf.2.2.1.1 hf.2.2.1.2
    rw [stone_eq hf hh hw k b0 b1]
theorem can_eq {kd k : Int32} (q3 : 0 ≤ kd.toInt ∧ kd.toInt ≤ 3) (hk : 0 ≤ k.toInt ∧ k.toInt ≤ 4) : fX8_canBeTakenAs kd k = (if k = 0 then (1 : Int32) else (if k = kd + 1 then 1 else (if k = 1 then (if 3 ≤ kd then 0 else 1) else 0))) := by
  have hk5 : k = 0 ∨ k = 1 ∨ k = 2 ∨ k = 3 ∨ k = 4 := by
    have e : ∀ x : Int32, k.toInt = x.toInt → k = x := fun x h => Int32.toInt_inj.mp h
    have c : k.toInt = 0 ∨ k.toInt = 1 ∨ k.toInt = 2 ∨ k.toInt = 3 ∨ k.toInt = 4 := by omega
    rcases c with c | c | c | c | c
    · exact Or.inl (e 0 c)
    · exact Or.inr (Or.inl (e 1 c))
    · exact Or.inr (Or.inr (Or.inl (e 2 c)))
    · exact Or.inr (Or.inr (Or.inr (Or.inl (e 3 c))))
    · exact Or.inr (Or.inr (Or.inr (Or.inr (e 4 c))))
  rcases k4 q3.1 q3.2 with rfl | rfl | rfl | rfl <;> rcases hk5 with rfl | rfl | rfl | rfl | rfl <;> decide
theorem m_as {f : Nat → Int32} {st mi wk wd : Int32} {ha ki hb : Nat → Int32} (h : rN f st mi wk wd ha ki hb) (a k : Int32) : fX8_as a k st wk ki hb ha = fX9_as a k f := by
  obtain ⟨hf, rfl, rfl, rfl, rfl, hh, hw⟩ := h
  have ew : fX8_within k 0 4 = fX9_in k.toInt64 0 4 := within_in (by decide) (by decide)
  unfold fX8_as fX9_as
  rw [has_eq a (f 2) f rfl, ew]
  by_cases c1 : fX9_isWalker a f = 0
  · rw [if_pos c1, if_pos c1]
  · rw [if_neg c1, if_neg c1]
    obtain ⟨b0, b1⟩ := isWalker_b c1 hf.2.2.1.1 hf.2.2.1.2
    by_cases c2 : fX9_in k.toInt64 0 4 = 0
    · rw [if_pos c2, if_pos c2]
    · rw [if_neg c2, if_neg c2]
      obtain ⟨q1, q2, q3, q4⟩ := wk_eq hf hw b0 b1
      rw [q1, q2, felt_eq hf hh q3 q4.1 ⟨by have := hf.1.1; omega, Int.le_refl _⟩, can_eq q3 (in_b (l := 0) (h := 4) c2 (by decide) (by decide))]
      rfl
