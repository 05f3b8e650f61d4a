theorem cp_step {v : Int32} {g t : Nat → Int32} (h0 : 0 ≤ v.toInt) (h1 : v.toInt ≤ 1000) (h : ∀ i : Nat, (i : Int) < v.toInt → g i = t i) : ∀ i : Nat, (i : Int) < (v + 1).toInt → upd g v.toNatClampNeg (t v.toNatClampNeg) i = t i := by
  have e1 : (1 : Int32).toInt = 1 := by decide
  have zv : (v + 1).toInt = v.toInt + (1 : Int32).toInt := z_add (by omega) (by omega)
  intro i hi
  have hk : v.toNatClampNeg = v.toInt.toNat := rfl
  by_cases q : i = v.toNatClampNeg
  · subst q; exact upd_at _ _ _
  · rw [upd_ne _ _ q]; exact h i (by omega)
theorem cp_0 {g t : Nat → Int32} : ∀ i : Nat, (i : Int) < (0 : Int32).toInt → g i = t i := by
  have e0 : (0 : Int32).toInt = 0 := by decide
  intro i hi
  omega
theorem more_b {P Q : Prop} [Decidable P] [Decidable Q] {x y : Int32} (h : (if P then (if Q then (if 14 ≤ x then (0 : Int32) else 1) else 0) else 0) = y) (hy : ¬ y = 0) : x.toInt ≤ 13 := by
  have e14 : (14 : Int32).toInt = 14 := by decide
  by_cases c1 : P
  · rw [if_pos c1] at h
    by_cases c2 : Q
    · rw [if_pos c2] at h
      by_cases c3 : 14 ≤ x
      · rw [if_pos c3] at h; exact absurd h.symm hy
      · have := t_nle c3; omega
    · rw [if_neg c2] at h; exact absurd h.symm hy
  · rw [if_neg c1] at h; exact absurd h.symm hy
