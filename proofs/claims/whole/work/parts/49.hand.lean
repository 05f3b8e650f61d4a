-- sets of walkers: one more stays within 63
theorem or_tab : ∀ a, a < 64 → ∀ w, w < 6 → 0 ≤ (nI a ||| ((1 : Int32) <<< (nI w &&& 31))).toInt ∧ (nI a ||| ((1 : Int32) <<< (nI w &&& 31))).toInt ≤ 63 := by decide +kernel
theorem or_b {x w : Int32} (h0 : 0 ≤ x.toInt) (h1 : x.toInt ≤ 63) (g0 : 0 ≤ w.toInt) (g1 : w.toInt ≤ 5) : 0 ≤ (x ||| ((1 : Int32) <<< (w &&& 31))).toInt ∧ (x ||| ((1 : Int32) <<< (w &&& 31))).toInt ≤ 63 := by
  obtain ⟨a, ha, rfl⟩ := t_small (k := 63) (by decide) h0 (by omega)
  obtain ⟨b, hb, rfl⟩ := t_small (k := 5) (by decide) g0 (by omega)
  exact or_tab a (by omega) b (by omega)
