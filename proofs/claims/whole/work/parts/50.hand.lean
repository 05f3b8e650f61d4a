theorem dec0_b {v : Int32} (h1 : 0 ≤ v.toInt) (h2 : v.toInt ≤ 1000) : -1 ≤ (v + (-1)).toInt ∧ (v + (-1)).toInt ≤ v.toInt ∧ (v + (-1)).toInt + 1 = v.toInt := by
  have e : ((-1) : Int32).toInt = -1 := by decide
  have z : (v + (-1)).toInt = v.toInt + ((-1) : Int32).toInt := z_add (by rw [e]; omega) (by rw [e]; omega)
  rw [z, e]
  omega
