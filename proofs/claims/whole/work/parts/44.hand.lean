theorem lN_of {x : Int64} (h : 0 ≤ x.toInt) : ∃ k : Nat, k < 2 ^ 63 ∧ x = lN k := pk_lOf (fun q => by
  have h1 := Int64.lt_iff_toInt_lt.mp q
  have h2 : (0 : Int64).toInt = 0 := by decide
  omega)
theorem z64_rem {x y : Int64} (hx : 0 ≤ x.toInt) (hy : 0 < y.toInt) : 0 ≤ (x - x / y * y).toInt ∧ (x - x / y * y).toInt < y.toInt := by
  obtain ⟨a, ha, rfl⟩ := lN_of hx
  obtain ⟨b, hb, rfl⟩ := lN_of (Int.le_of_lt hy)
  rw [pk_lT hb] at hy ⊢
  have hb0 : 0 < b := by omega
  rw [pk_lRem ha hb0 hb, pk_lT (Nat.lt_of_le_of_lt (Nat.mod_le _ _) ha)]
  have := Nat.mod_lt a hb0
  omega
theorem pos64 {x : Int64} (c : ¬ lg_cmp x 0 = 0) (h : 0 ≤ x.toInt) : 0 < x.toInt := by
  rcases Int.lt_or_eq_of_le h with q | q
  · exact q
  · exact absurd ((lg_cmp_eq _ _).mpr (Int64.toInt_inj.mp (by rw [← q]; decide))) c
theorem ne64 {x : Int64} (h : 0 < x.toInt) : ¬ x = 0 := fun q => by rw [q] at h; exact absurd h (by decide)
