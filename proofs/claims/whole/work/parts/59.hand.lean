-- where the cursor is behind a token
theorem next_90_b (le : Int32) (te : Nat → Int32) (s : Int32) (hl : le.toInt ≤ 160) : ∀ (n : Nat) (c : Int32) (v : Int64), 0 ≤ c.toInt → c.toInt ≤ le.toInt → le.toInt - c.toInt < (n : Int) → 0 ≤ (fX9_next_90 le te s n c v).1.toInt ∧ (fX9_next_90 le te s n c v).1.toInt ≤ le.toInt := by
  have e1 : (1 : Int32).toInt = 1 := by decide
  intro n
  induction n with
  | zero => intro c v h0 h1 h2; omega
  | succ n ih =>
    intro c v h0 h1 h2
    rw [fX9_next_90]
    by_cases c1 : le ≤ c
    · rw [if_pos c1]
      exact ⟨h0, h1⟩
    · rw [if_neg c1]
      have k1 := t_nle c1
      have zc : (c + 1).toInt = c.toInt + (1 : Int32).toInt := z_add (by omega) (by omega)
      by_cases c2 : fX9_isSmall (te c.toNatClampNeg) = 0
      · rw [if_pos c2]
        exact ⟨h0, h1⟩
      · rw [if_neg c2]
        exact ih _ _ (by omega) (by omega) (by omega)
theorem next_193_b (le : Int32) (te : Nat → Int32) (s : Int32) (hl : le.toInt ≤ 160) : ∀ (n : Nat) (c : Int32) (v : Int64), 0 ≤ c.toInt → c.toInt ≤ le.toInt → le.toInt - c.toInt < (n : Int) → 0 ≤ (fX9_next_193 le te s n c v).1.toInt ∧ (fX9_next_193 le te s n c v).1.toInt ≤ le.toInt := by
  have e1 : (1 : Int32).toInt = 1 := by decide
  intro n
  induction n with
  | zero => intro c v h0 h1 h2; omega
  | succ n ih =>
    intro c v h0 h1 h2
    rw [fX9_next_193]
    by_cases c1 : le ≤ c
    · rw [if_pos c1]
      exact ⟨h0, h1⟩
    · rw [if_neg c1]
      have k1 := t_nle c1
      have zc : (c + 1).toInt = c.toInt + (1 : Int32).toInt := z_add (by omega) (by omega)
      by_cases c2 : fX9_isDigit (te c.toNatClampNeg) = 0
      · rw [if_pos c2]
        exact ⟨h0, h1⟩
      · rw [if_neg c2]
        exact ih _ _ (by omega) (by omega) (by omega)
/-- what next() does at a letter that is no blank, or at the end -/
def nxt (le c : Int32) (te : Nat → Int32) : Int32 × Int32 × Int32 × Int64 := if c = le then (c, 0, c, 0) else (if (fX9_isSmall (te c.toNatClampNeg)) = 0 then (if (fX9_isDigit (te c.toNatClampNeg)) = 0 then ((c + 1), 3, c, (te c.toNatClampNeg).toInt64) else (fX9_next_193 le te c 1000 c 0)) else (fX9_next_90 le te c 1000 c 0))
theorem next_0_eq (le : Int32) (te : Nat → Int32) (n : Nat) (c : Int32) : fX9_next_0 le te (n + 1) c = if le ≤ c then nxt le c te else (if te c.toNatClampNeg = 32 then fX9_next_0 le te n (c + 1) else nxt le c te) := by
  rw [fX9_next_0]
  unfold nxt
  exact Eq.refl _
theorem nxt_b (le c : Int32) (te : Nat → Int32) (hl : le.toInt ≤ 160) (h0 : 0 ≤ c.toInt) (h1 : c.toInt ≤ le.toInt) : 0 ≤ (nxt le c te).1.toInt ∧ (nxt le c te).1.toInt ≤ le.toInt := by
  have e1 : (1 : Int32).toInt = 1 := by decide
  have zc : (c + 1).toInt = c.toInt + (1 : Int32).toInt := z_add (by omega) (by omega)
  unfold nxt
  by_cases c1 : c = le
  · rw [if_pos c1]
    exact ⟨h0, h1⟩
  · rw [if_neg c1]
    have k1 := t_neq c1
    by_cases c2 : fX9_isSmall (te c.toNatClampNeg) = 0
    · rw [if_pos c2]
      by_cases c3 : fX9_isDigit (te c.toNatClampNeg) = 0
      · rw [if_pos c3]
        show 0 ≤ (c + 1).toInt ∧ (c + 1).toInt ≤ le.toInt
        omega
      · rw [if_neg c3]
        exact next_193_b le te c hl 1000 c 0 h0 h1 (by omega)
    · rw [if_neg c2]
      exact next_90_b le te c hl 1000 c 0 h0 h1 (by omega)
theorem next_0_b (le : Int32) (te : Nat → Int32) (hl : le.toInt ≤ 160) : ∀ (n : Nat) (c : Int32), 0 ≤ c.toInt → c.toInt ≤ le.toInt → le.toInt - c.toInt < (n : Int) → 0 ≤ (fX9_next_0 le te n c).1.toInt ∧ (fX9_next_0 le te n c).1.toInt ≤ le.toInt := by
  have e1 : (1 : Int32).toInt = 1 := by decide
  intro n
  induction n with
  | zero => intro c h0 h1 h2; omega
  | succ n ih =>
    intro c h0 h1 h2
    rw [next_0_eq]
    by_cases c1 : le ≤ c
    · rw [if_pos c1]
      exact nxt_b le c te hl h0 h1
    · rw [if_neg c1]
      have k1 := t_nle c1
      have zc : (c + 1).toInt = c.toInt + (1 : Int32).toInt := z_add (by omega) (by omega)
      by_cases c2 : te c.toNatClampNeg = 32
      · rw [if_pos c2]
        exact ih _ (by omega) (by omega) (by omega)
      · rw [if_neg c2]
        exact nxt_b le c te hl h0 h1
theorem next_b (le c : Int32) (te : Nat → Int32) (hl0 : 0 ≤ le.toInt) (hl1 : le.toInt ≤ 160) (hc0 : 0 ≤ c.toInt) (hc1 : c.toInt ≤ le.toInt) : 0 ≤ (fX9_next le c te).1.toInt ∧ (fX9_next le c te).1.toInt ≤ le.toInt := next_0_b le te hl1 1000 c hc0 hc1 (by omega)
