-- what in(..), isWalker(..), within(..) say
theorem in_ne {a lo hi : Int64} (c : ¬ fX9_in a lo hi = 0) : lo ≤ a ∧ a ≤ hi := by
  unfold fX9_in xlet at c
  by_cases h1 : lg_cmp a lo < 0
  · exact absurd (by rw [if_pos h1]) c
  · rw [if_neg h1] at c
    by_cases h2 : 0 < lg_cmp a hi
    · exact absurd (by rw [if_pos h2]) c
    · exact ⟨by rw [lg_cmp_lt] at h1; exact Int64.not_lt.mp h1, by rw [lg_cmp_gt] at h2; exact Int64.not_lt.mp h2⟩
theorem in_b {a : Int32} {lo hi : Int64} {l h : Int} (c : ¬ fX9_in a.toInt64 lo hi = 0) (hl : lo.toInt = l) (hh : hi.toInt = h) : l ≤ a.toInt ∧ a.toInt ≤ h := by
  obtain ⟨h1, h2⟩ := in_ne c
  have e := Int32.toInt_toInt64 a
  exact ⟨by rw [← hl, ← e]; exact Int64.le_iff_toInt_le.mp h1, by rw [← hh, ← e]; exact Int64.le_iff_toInt_le.mp h2⟩
theorem isWalker_b {a : Int32} {f : Nat → Int32} (c : ¬ fX9_isWalker a f = 0) (h0 : 0 ≤ (f 2).toInt) (h6 : (f 2).toInt ≤ 6) : 0 ≤ a.toInt ∧ a.toInt < (f 2).toInt := by
  have z : (f 2 - 1).toInt = (f 2).toInt - (1 : Int32).toInt := z_sub (by have : (1 : Int32).toInt = 1 := by decide
                                                                          omega) (by have : (1 : Int32).toInt = 1 := by decide
                                                                                     omega)
  have z1 : (1 : Int32).toInt = 1 := by decide
  obtain ⟨h1, h2⟩ := in_b (l := 0) c (by decide) (Int32.toInt_toInt64 _)
  omega
theorem within_b {a lo hi : Int32} (c : ¬ fX8_within a lo hi = 0) : lo.toInt ≤ a.toInt ∧ a.toInt ≤ hi.toInt := by
  unfold fX8_within xlet at c
  by_cases h1 : a < lo
  · exact absurd (by rw [if_pos h1]) c
  · rw [if_neg h1] at c
    by_cases h2 : hi < a
    · exact absurd (by rw [if_pos h2]) c
    · exact ⟨t_nlt h1, t_nlt h2⟩
theorem t_small {x : Int32} {k : Nat} (hk : k < 2 ^ 31) (h0 : 0 ≤ x.toInt) (h1 : x.toInt ≤ (k : Int)) : ∃ j : Nat, j ≤ k ∧ x = nI j := by
  refine ⟨x.toInt.toNat, by omega, Int32.toInt_inj.mp ?_⟩
  rw [nI_toInt (by omega)]
  omega
theorem bc_tab : ∀ j, j < 65 → 0 ≤ (fJ6_bitCount_0f7a4 (nI j)).toInt ∧ (fJ6_bitCount_0f7a4 (nI j)).toInt ≤ 6 := by decide +kernel
theorem bc_b {x : Int32} (h0 : 0 ≤ x.toInt) (h1 : x.toInt ≤ 64) : 0 ≤ (fJ6_bitCount_0f7a4 x).toInt ∧ (fJ6_bitCount_0f7a4 x).toInt ≤ 6 := by
  obtain ⟨j, hj, rfl⟩ := t_small (k := 64) (by decide) h0 (by omega)
  exact bc_tab j (by omega)
