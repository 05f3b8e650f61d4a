-- where a stone can stand
theorem stoneBy_6_b (a1 a2 a3 a4 : Int32) (f : Nat → Int32) (h0 : 4 ≤ (f 0).toInt) (h1 : (f 0).toInt ≤ 20) : ∀ (n : Nat) (v5 v6 : Int32), 1 ≤ v6.toInt → v6.toInt ≤ 21 → 21 - v6.toInt < (n : Int) → -1 ≤ (fX9_stoneBy_6 a1 a2 a3 a4 f n v5 v6).toInt ∧ (fX9_stoneBy_6 a1 a2 a3 a4 f n v5 v6).toInt ≤ 20 := by
  have e1 : (1 : Int32).toInt = 1 := by decide
  intro n
  induction n with
  | zero => intro v5 v6 g1 g2 g3; omega
  | succ n ih =>
    intro v5 v6 g1 g2 g3
    rw [fX9_stoneBy_6]
    by_cases c1 : f 0 < v6
    · rw [if_pos c1]; decide
    · rw [if_neg c1]
      have k1 := t_nlt c1
      by_cases c2 : v5 + fX9_feltAt a1 a2 v6 f < a3 * a4
      · rw [if_pos c2]
        have z : (v6 + 1).toInt = v6.toInt + (1 : Int32).toInt := z_add (by omega) (by omega)
        exact ih _ _ (by omega) (by omega) (by omega)
      · rw [if_neg c2]
        show -1 ≤ (if a1 = 3 then (f 0 - v6) else v6).toInt ∧ (if a1 = 3 then (f 0 - v6) else v6).toInt ≤ 20
        by_cases c3 : a1 = 3
        · rw [if_pos c3]
          have z : (f 0 - v6).toInt = (f 0).toInt - v6.toInt := z_sub (by omega) (by omega)
          omega
        · rw [if_neg c3]
          omega
theorem stoneBy_b {a1 a2 a3 a4 : Int32} {f : Nat → Int32} (h0 : 4 ≤ (f 0).toInt) (h1 : (f 0).toInt ≤ 20) : -1 ≤ (fX9_stoneBy a1 a2 a3 a4 f).toInt ∧ (fX9_stoneBy a1 a2 a3 a4 f).toInt ≤ 20 :=
  stoneBy_6_b a1 a2 a3 a4 f h0 h1 1000 0 1 (by decide) (by decide) (by decide)
theorem layMean_12_b (st k : Int32) (f : Nat → Int32) (h0 : 4 ≤ (f 0).toInt) (h1 : (f 0).toInt ≤ 20) (hv : (f 2).toInt ≤ 6) : ∀ (n : Nat) (v ab be : Int32), 0 ≤ v.toInt → v.toInt ≤ 6 → 6 - v.toInt < (n : Int) → 0 ≤ ab.toInt → ab.toInt ≤ 20 * v.toInt → 0 ≤ be.toInt → be.toInt ≤ v.toInt →
    0 ≤ (fX9_layMean_12 st k f n v ab be).2.1.toInt ∧ (fX9_layMean_12 st k f n v ab be).2.1.toInt ≤ 120 ∧ 0 ≤ (fX9_layMean_12 st k f n v ab be).2.2.toInt ∧ (fX9_layMean_12 st k f n v ab be).2.2.toInt ≤ 6 ∧ (¬ (fX9_layMean_12 st k f n v ab be).1 = 0 → 1 ≤ (fX9_layMean_12 st k f n v ab be).2.2.toInt) := by
  have e1 : (1 : Int32).toInt = 1 := by decide
  have e0 : (0 : Int32).toInt = 0 := by decide
  have em : ((-1) : Int32).toInt = -1 := by decide
  intro n
  induction n with
  | zero => intro v ab be g1 g2 g3; omega
  | succ n ih =>
    intro v ab be g1 g2 g3 g4 g5 g6 g7
    rw [fX9_layMean_12]
    by_cases c1 : f 2 ≤ v
    · rw [if_pos c1]
      show 0 ≤ ab.toInt ∧ ab.toInt ≤ 120 ∧ 0 ≤ be.toInt ∧ be.toInt ≤ 6 ∧ (¬ (if be ≤ 0 then (0 : Int32) else 1) = 0 → 1 ≤ be.toInt)
      refine ⟨g4, by omega, g6, by omega, fun h => ?_⟩
      by_cases c2 : be ≤ 0
      · rw [if_pos c2] at h; exact absurd rfl h
      · have := t_nle c2; omega
    · rw [if_neg c1]
      have k1 := t_nle c1
      have zv : (v + 1).toInt = v.toInt + (1 : Int32).toInt := z_add (by omega) (by omega)
      obtain ⟨y, hy⟩ : ∃ y, y = (if ((st >>> (v &&& 31)) &&& 1) = 1 then fX9_stoneOf v k f else (-1)) := ⟨_, rfl⟩
      have hyb : -1 ≤ y.toInt ∧ y.toInt ≤ 20 := by
        rw [hy]
        split
        · exact stoneBy_b h0 h1
        · decide
      rw [← hy]
      by_cases c3 : y = -1
      · simp only [xlet_of (Eq.refl y), xlet_of (if_pos c3 : (if y = -1 then (0 : Int32) else y) = 0), xlet_of (if_pos c3 : (if y = -1 then (0 : Int32) else 1) = 0)]
        have za : (ab + 0).toInt = ab.toInt + (0 : Int32).toInt := z_add (by omega) (by omega)
        have zb : (be + 0).toInt = be.toInt + (0 : Int32).toInt := z_add (by omega) (by omega)
        exact ih (v + 1) (ab + 0) (be + 0) (by omega) (by omega) (by omega) (by omega) (by omega) (by omega) (by omega)
      · simp only [xlet_of (Eq.refl y), xlet_of (if_neg c3 : (if y = -1 then (0 : Int32) else y) = y), xlet_of (if_neg c3 : (if y = -1 then (0 : Int32) else 1) = 1)]
        have k3 := t_neq c3
        have za : (ab + y).toInt = ab.toInt + y.toInt := z_add (by omega) (by omega)
        have zb : (be + 1).toInt = be.toInt + (1 : Int32).toInt := z_add (by omega) (by omega)
        exact ih (v + 1) (ab + y) (be + 1) (by omega) (by omega) (by omega) (by omega) (by omega) (by omega) (by omega)
theorem layMean_b {st k : Int32} {f : Nat → Int32} (h0 : 4 ≤ (f 0).toInt) (h1 : (f 0).toInt ≤ 20) (hv : (f 2).toInt ≤ 6) : 0 ≤ (fX9_layMean st k f).2.1.toInt ∧ (fX9_layMean st k f).2.1.toInt ≤ 120 ∧ 0 ≤ (fX9_layMean st k f).2.2.toInt ∧ (fX9_layMean st k f).2.2.toInt ≤ 6 ∧ (¬ (fX9_layMean st k f).1 = 0 → 1 ≤ (fX9_layMean st k f).2.2.toInt) :=
  layMean_12_b st k f h0 h1 hv 1000 0 0 0 (by decide) (by decide) (by decide) (by decide) (by decide) (by decide) (by decide)
