-- where a token of the class stands
theorem rn_80_b (le : Int32) (te : Nat → Int32) (b : Int32) (hl : le.toInt ≤ 160) (hb0 : 0 ≤ b.toInt) (hb1 : b.toInt ≤ 160) : ∀ (n : Nat) (e : Int32), 0 ≤ e.toInt → e.toInt ≤ 160 → 160 - e.toInt < (n : Int) → (0 ≤ (fX7_readNext_80 le te b n e).1.toInt ∧ (fX7_readNext_80 le te b n e).1.toInt ≤ 160) ∧ 0 ≤ (fX7_readNext_80 le te b n e).2.toInt ∧ (fX7_readNext_80 le te b n e).2.toInt ≤ 160 := by
  have e1 : (1 : Int32).toInt = 1 := by decide
  intro n
  induction n with
  | zero => intro e h0 h1 h2; omega
  | succ n ih =>
    intro e h0 h1 h2
    rw [fX7_readNext_80]
    by_cases c1 : fX7_sortOf (fX4_at b te 160) = 0
    · rw [if_pos c1]; exact ⟨⟨hb0, hb1⟩, h0, h1⟩
    · rw [if_neg c1]
      by_cases c2 : le ≤ e
      · rw [if_pos c2]; exact ⟨⟨hb0, hb1⟩, h0, h1⟩
      · rw [if_neg c2]
        have k2 := t_nle c2
        have zc : (e + 1).toInt = e.toInt + (1 : Int32).toInt := z_add (by omega) (by omega)
        by_cases c3 : fX7_sortOf (fX4_at e te 160) = fX7_sortOf (fX4_at b te 160)
        · rw [if_pos c3]; exact ih _ (by omega) (by omega) (by omega)
        · rw [if_neg c3]; exact ⟨⟨hb0, hb1⟩, h0, h1⟩
theorem rn_8_eq (le : Int32) (te : Nat → Int32) (n : Nat) (b : Int32) : fX7_readNext_8 le te (n + 1) b = if le ≤ b then fX7_readNext_80 le te b 1000 (if le < (b + 1) then le else (b + 1)) else (if fX4_at b te 160 = 32 then fX7_readNext_8 le te n (b + 1) else fX7_readNext_80 le te b 1000 (if le < (b + 1) then le else (b + 1))) := by
  rw [fX7_readNext_8]
theorem rn_8_b (le : Int32) (te : Nat → Int32) (hl0 : 0 ≤ le.toInt) (hl : le.toInt ≤ 160) : ∀ (n : Nat) (b : Int32), 0 ≤ b.toInt → b.toInt ≤ 160 → 160 - b.toInt < (n : Int) → (0 ≤ (fX7_readNext_8 le te n b).1.toInt ∧ (fX7_readNext_8 le te n b).1.toInt ≤ 160) ∧ 0 ≤ (fX7_readNext_8 le te n b).2.toInt ∧ (fX7_readNext_8 le te n b).2.toInt ≤ 160 := by
  have e1 : (1 : Int32).toInt = 1 := by decide
  intro n
  induction n with
  | zero => intro b h0 h1 h2; omega
  | succ n ih =>
    intro b h0 h1 h2
    have zb : (b + 1).toInt = b.toInt + (1 : Int32).toInt := z_add (by omega) (by omega)
    have he : 0 ≤ (if le < (b + 1) then le else (b + 1)).toInt ∧ (if le < (b + 1) then le else (b + 1)).toInt ≤ 160 := by
      by_cases c : le < b + 1
      · rw [if_pos c]; exact ⟨hl0, hl⟩
      · rw [if_neg c]; have := t_nlt c; omega
    rw [rn_8_eq]
    by_cases c1 : le ≤ b
    · rw [if_pos c1]
      exact rn_80_b le te b hl h0 h1 1000 _ he.1 he.2 (by omega)
    · rw [if_neg c1]
      have k1 := t_nle c1
      by_cases c2 : fX4_at b te 160 = 32
      · rw [if_pos c2]
        exact ih _ (by omega) (by omega) (by omega)
      · rw [if_neg c2]
        exact rn_80_b le te b hl h0 h1 1000 _ he.1 he.2 (by omega)
theorem readNext_b (le e : Int32) (te : Nat → Int32) (hl0 : 0 ≤ le.toInt) (hl1 : le.toInt ≤ 160) (he0 : 0 ≤ e.toInt) (he1 : e.toInt ≤ 160) : (0 ≤ (fX7_readNext le e te).1.toInt ∧ (fX7_readNext le e te).1.toInt ≤ 160) ∧ 0 ≤ (fX7_readNext le e te).2.toInt ∧ (fX7_readNext le e te).2.toInt ≤ 160 := rn_8_b le te hl0 hl1 1000 e he0 he1 (by omega)
theorem readFirst_b (le : Int32) (te : Nat → Int32) (hl0 : 0 ≤ le.toInt) (hl1 : le.toInt ≤ 160) : (0 ≤ (fX7_readFirst le te).1.toInt ∧ (fX7_readFirst le te).1.toInt ≤ 160) ∧ 0 ≤ (fX7_readFirst le te).2.toInt ∧ (fX7_readFirst le te).2.toInt ≤ 160 := by
  have h := readNext_b le 0 te hl0 hl1 (by decide) (by decide)
  unfold fX7_readFirst
  rcases e : fX7_readNext le 0 te with ⟨u, v⟩
  rw [e] at h
  exact h
theorem readNumber_b (lo hi fa le b e : Int32) (te : Nat → Int32) (hb0 : 0 ≤ b.toInt) (hb1 : b.toInt ≤ 160) (he1 : e.toInt ≤ 160) (hl0 : 0 ≤ le.toInt) (hl1 : le.toInt ≤ 160) (he0 : 0 ≤ e.toInt) : ((0 ≤ (fX2_readNumber lo hi fa le b e te).2.2.1.toInt ∧ (fX2_readNumber lo hi fa le b e te).2.2.1.toInt ≤ 160) ∧ 0 ≤ (fX2_readNumber lo hi fa le b e te).2.2.2.toInt ∧ (fX2_readNumber lo hi fa le b e te).2.2.2.toInt ≤ 160) ∧ (¬ (fX2_readNumber lo hi fa le b e te).1 = -1 → lo.toInt ≤ (fX2_readNumber lo hi fa le b e te).1.toInt ∧ (fX2_readNumber lo hi fa le b e te).1.toInt ≤ hi.toInt) := by
  have hn := readNext_b le e te hl0 hl1 he0 he1
  unfold fX2_readNumber
  by_cases c : fX8_within (fX7_number le b e te) lo hi = 0
  · rw [if_pos c]
    exact ⟨⟨⟨hb0, hb1⟩, he0, he1⟩, fun h => absurd rfl h⟩
  · rw [if_neg c]
    rcases en : fX7_readNext le e te with ⟨u, v⟩
    rw [en] at hn
    exact ⟨hn, fun _ => within_b c⟩
