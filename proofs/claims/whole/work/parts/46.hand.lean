-- the reference's common(..) is gcd
theorem common_6_gcd : ∀ (n a b : Nat), b < n → a < 2 ^ 63 → b < 2 ^ 63 → fX9_common_6 n (lN a) (lN b) = lN (Nat.gcd a b) := by
  intro n
  induction n with
  | zero => intro a b h; omega
  | succ n ih =>
    intro a b h ha hb
    rw [fX9_common_6]
    by_cases h0 : b = 0
    · subst h0
      rw [if_pos ((lg_cmp_eq (lN 0) 0).mpr rfl), Nat.gcd_zero_right]
    · have hp : 0 < b := Nat.pos_of_ne_zero h0
      have hm := Nat.mod_lt a hp
      have hc : ¬ lg_cmp (lN b) 0 = 0 := fun q => h0 ((pk_lEQ (a := b) (b := 0) hb (by decide)).mp ((lg_cmp_eq _ _).mp q))
      rw [if_neg hc, pk_lRem ha hp hb, ih b (a % b) (by omega) hb (by omega), Nat.gcd_comm b (a % b), ← Nat.gcd_rec b a, Nat.gcd_comm]
theorem common_gcd {a b : Nat} (ha : a < 2 ^ 63) (hb : b ≤ 100000000) : fX9_common (lN a) (lN b) = lN (Nat.gcd a b) := common_6_gcd 100000001 a b (by omega) ha (by omega)
theorem i32_nat {x : Int32} (h : 0 ≤ x.toInt) : ∃ j : Nat, j < 2 ^ 31 ∧ x = nI j ∧ (j : Int) = x.toInt := by
  have hr := z_rng x
  refine ⟨x.toInt.toNat, by omega, Int32.toInt_inj.mp ?_, by omega⟩
  rw [nI_toInt (by omega)]
  omega
theorem common_ne0 {x y : Int32} (hx : 0 ≤ x.toInt) (hy : 1 ≤ y.toInt) (hy2 : y.toInt ≤ 1000000) : ¬ (fX9_common x.toInt64 y.toInt64).toInt32 = 0 := by
  obtain ⟨a, ha, rfl, -⟩ := i32_nat hx
  obtain ⟨b, hb, rfl, e⟩ := i32_nat (x := y) (by omega)
  rw [nI_l ha, nI_l hb, common_gcd (by omega) (by omega), lN_i]
  have hg : 0 < Nat.gcd a b := Nat.gcd_pos_of_pos_right a (by omega)
  have hl : Nat.gcd a b ≤ b := Nat.le_of_dvd (by omega) (Nat.gcd_dvd_right a b)
  exact nI_ne0 hg (by omega)
