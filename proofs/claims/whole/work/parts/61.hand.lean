theorem i64_i32 {x : Int64} {l h : Int32} (h0 : l.toInt64 ≤ x) (h1 : x ≤ h.toInt64) : l.toInt ≤ x.toInt32.toInt ∧ x.toInt32.toInt ≤ h.toInt := by
  have a := Int64.le_iff_toInt_le.mp h0
  have b := Int64.le_iff_toInt_le.mp h1
  rw [Int32.toInt_toInt64] at a b
  have hl := z_rng l
  have hh := z_rng h
  have e : x.toInt32.toInt = x.toInt := by
    rw [Int64.toInt_toInt32]
    apply Int.bmod_eq_of_le <;> omega
  omega
theorem number_b (lo hi le c tk st : Int32) (va : Int64) (fl fa : Int32) (te : Nat → Int32) (hl0 : 0 ≤ le.toInt) (hl1 : le.toInt ≤ 160) (hc0 : 0 ≤ c.toInt) (hc1 : c.toInt ≤ le.toInt) : (0 ≤ (fX9_number lo hi le c tk st va fl fa te).2.1.toInt ∧ (fX9_number lo hi le c tk st va fl fa te).2.1.toInt ≤ le.toInt) ∧ ((fX9_number lo hi le c tk st va fl fa te).2.2.2.2.2.1 = 0 → lo.toInt ≤ (fX9_number lo hi le c tk st va fl fa te).1.toInt ∧ (fX9_number lo hi le c tk st va fl fa te).1.toInt ≤ hi.toInt) := by
  have hn := next_b le c te hl0 hl1 hc0 hc1
  have n10 : ¬ (1 : Int32) = 0 := by decide
  unfold fX9_number
  by_cases c1 : tk = 2
  · rw [if_pos c1]
    by_cases c2 : fX9_in va lo.toInt64 hi.toInt64 = 0
    · rw [if_pos c2]
      simp only [xlet, if_neg n10]
      exact ⟨⟨hc0, hc1⟩, fun h => absurd h n10⟩
    · rw [if_neg c2]
      obtain ⟨i0, i1⟩ := in_ne c2
      have hb := i64_i32 i0 i1
      by_cases c3 : fl = 0
      · rw [if_pos c3]
        rcases e : fX9_next le c te with ⟨u1, u2, u3, u4⟩
        rw [e] at hn
        exact ⟨hn, fun _ => hb⟩
      · rw [if_neg c3]
        exact ⟨⟨hc0, hc1⟩, fun _ => hb⟩
  · rw [if_neg c1]
    simp only [xlet, if_neg n10]
    exact ⟨⟨hc0, hc1⟩, fun h => absurd h n10⟩
