-- CIDER in the reference: the ways of a set, of all sets
def ciWt (q st : Int32) : Nat → Int64 → Int32 → Int64
  | 0, a, _ => a
  | r + 1, a, w => ciWt q st r (a * (if ((st >>> (w &&& 31)) &&& 1) = 1 then q.toInt64 else (10 - q).toInt64)) (w + 1)
def ciT (q m st : Int32) : Int64 := ciWt q st m.toInt.toNat 1 0
def ciAl (q m : Int32) : Nat → Int64
  | 0 => 0
  | j + 1 => ciAl q m j + ciT q m (nI j)
theorem ciT_tab : ∀ q, q < 11 → ∀ m, m < 7 → ∀ s, s < 2 ^ m → 0 ≤ (ciT (nI q) (nI m) (nI s)).toInt ∧ (ciT (nI q) (nI m) (nI s)).toInt ≤ 1000000 := by decide +kernel
theorem ciAl_tab : ∀ q, q < 11 → ∀ m, m < 7 → ciAl (nI q) (nI m) (2 ^ m) = lN (10 ^ m) := by decide +kernel
theorem shl_tab : ∀ m, m < 7 → ((1 : Int32) <<< (nI m &&& 31)).toInt = 2 ^ m := by decide +kernel
theorem ci_w0 (q m st : Int32) : ciWt q st (m.toInt - (0 : Int32).toInt).toNat 1 0 = ciT q m st := by
  have e0 : (0 : Int32).toInt = 0 := by decide
  rw [e0, Int.sub_zero]
  rfl
theorem ci_ws {q m st w : Int32} {a y : Int64} (hw : ciWt q st (m.toInt - w.toInt).toNat a w = ciT q m st) (h0 : 0 ≤ w.toInt) (h6 : w.toInt ≤ 6) (hx : w.toInt < m.toInt) (hy : (if ((st >>> (w &&& 31)) &&& 1) = 1 then q.toInt64 else (10 - q).toInt64) = y) : ciWt q st (m.toInt - (w + 1).toInt).toNat (a * y) (w + 1) = ciT q m st := by
  have e1 : (1 : Int32).toInt = 1 := by decide
  have zw : (w + 1).toInt = w.toInt + (1 : Int32).toInt := z_add (by omega) (by omega)
  have e : (m.toInt - w.toInt).toNat = (m.toInt - (w + 1).toInt).toNat + 1 := by omega
  rw [e, ciWt, hy] at hw
  exact hw
theorem nI_of_toNat {s : Int32} (h0 : 0 ≤ s.toInt) : nI s.toInt.toNat = s := by
  have hr := z_rng s
  refine Int32.toInt_inj.mp ?_
  rw [nI_toInt (by omega)]
  omega
theorem ci_all {q m s w : Int32} {al a : Int64} (h0 : 0 ≤ s.toInt) (h64 : s.toInt ≤ 64) (hal : al = ciAl q m s.toInt.toNat) (hw : ciWt q s (m.toInt - w.toInt).toNat a w = ciT q m s) (hx : m.toInt ≤ w.toInt) : al + a = ciAl q m (s + 1).toInt.toNat := by
  have e1 : (1 : Int32).toInt = 1 := by decide
  have zs : (s + 1).toInt = s.toInt + (1 : Int32).toInt := z_add (by omega) (by omega)
  have e : (m.toInt - w.toInt).toNat = 0 := by omega
  have e2 : (s + 1).toInt.toNat = s.toInt.toNat + 1 := by omega
  rw [e] at hw
  rw [e2, ciAl, nI_of_toNat h0, ← hw, hal]
  rfl
theorem ciT_b {q m s : Int32} (hq : 0 ≤ q.toInt ∧ q.toInt ≤ 10) (hm0 : 0 ≤ m.toInt) (hm6 : m.toInt ≤ 6) (h0 : 0 ≤ s.toInt) (h1 : s.toInt < ((1 : Int32) <<< (m &&& 31)).toInt) : 0 ≤ (ciT q m s).toInt ∧ (ciT q m s).toInt ≤ 1000000 := by
  obtain ⟨q, hq', rfl⟩ := t_small (k := 10) (x := q) (by decide) (by omega) (by omega)
  obtain ⟨m, hm', rfl⟩ := t_small (k := 6) (x := m) (by decide) (by omega) (by omega)
  have hz := t_shl hm0 hm6
  rw [shl_tab m (by omega)] at h1
  obtain ⟨s, hs', rfl⟩ := t_small (k := 64) (x := s) (by decide) (by omega) (by rw [shl_tab m (by omega)] at hz; omega)
  rw [nI_toInt (by omega)] at h1
  refine ciT_tab q (by omega) m (by omega) s ?_
  have e : ((2 ^ m : Nat) : Int) = (2 : Int) ^ m := by simp
  omega
theorem z64_add {x y : Int64} (h1 : -9223372036854775808 ≤ x.toInt + y.toInt) (h2 : x.toInt + y.toInt ≤ 9223372036854775807) : (x + y).toInt = x.toInt + y.toInt := by
  rw [Int64.toInt_add]
  apply Int.bmod_eq_of_le <;> omega
theorem ci_odds {q m s w : Int32} {od a y : Int64} (hq : 0 ≤ q.toInt ∧ q.toInt ≤ 10) (hm0 : 0 ≤ m.toInt) (hm6 : m.toInt ≤ 6) (h0 : 0 ≤ s.toInt) (h1 : s.toInt < ((1 : Int32) <<< (m &&& 31)).toInt) (ho : 0 ≤ od.toInt ∧ od.toInt ≤ 1000000 * s.toInt) (hw : ciWt q s (m.toInt - w.toInt).toNat a w = ciT q m s) (hx : m.toInt ≤ w.toInt) (hy : y = 0 ∨ y = a) : 0 ≤ (od + y).toInt ∧ (od + y).toInt ≤ 1000000 * (s + 1).toInt := by
  have hb := ciT_b hq hm0 hm6 h0 h1
  have hz := t_shl hm0 hm6
  have e1 : (1 : Int32).toInt = 1 := by decide
  have e0 : (0 : Int64).toInt = 0 := by decide
  have zs : (s + 1).toInt = s.toInt + (1 : Int32).toInt := z_add (by omega) (by omega)
  have e : (m.toInt - w.toInt).toNat = 0 := by omega
  rw [e] at hw
  have ha : a = ciT q m s := hw
  rw [← ha] at hb
  rcases hy with rfl | rfl
  · rw [z64_add (by omega) (by omega)]; omega
  · rw [z64_add (by omega) (by omega)]; omega
theorem ci_end {q m s : Int32} {al : Int64} (hq : 0 ≤ q.toInt ∧ q.toInt ≤ 10) (hm0 : 0 ≤ m.toInt) (hm6 : m.toInt ≤ 6) (h1 : s.toInt ≤ ((1 : Int32) <<< (m &&& 31)).toInt) (h2 : ((1 : Int32) <<< (m &&& 31)).toInt ≤ s.toInt) (hal : al = ciAl q m s.toInt.toNat) : 1 ≤ al.toInt ∧ al.toInt ≤ 1000000 ∧ al = lN (10 ^ m.toInt.toNat) := by
  obtain ⟨q, hq', rfl⟩ := t_small (k := 10) (x := q) (by decide) (by omega) (by omega)
  obtain ⟨m, hm', rfl⟩ := t_small (k := 6) (x := m) (by decide) (by omega) (by omega)
  rw [shl_tab m (by omega)] at h1 h2
  have e : ((2 ^ m : Nat) : Int) = (2 : Int) ^ m := by simp
  have es : s.toInt.toNat = 2 ^ m := by
    have h9 : s.toInt = ((2 ^ m : Nat) : Int) := by rw [e]; exact Int.le_antisymm h1 h2
    rw [h9]; exact Int.toNat_natCast _
  rw [es, ciAl_tab q (by omega) m (by omega)] at hal
  rw [nI_toInt (by omega)]
  have hp : 1 ≤ 10 ^ m ∧ 10 ^ m ≤ 1000000 := by
    rcases (show m = 0 ∨ m = 1 ∨ m = 2 ∨ m = 3 ∨ m = 4 ∨ m = 5 ∨ m = 6 by omega) with rfl | rfl | rfl | rfl | rfl | rfl | rfl <;> decide
  rw [hal, lN_toInt (by omega)]
  refine ⟨by omega, by omega, ?_⟩
  simp
theorem common_ne0l {x y : Int64} (hx : 0 ≤ x.toInt) (hy : 1 ≤ y.toInt) (hy2 : y.toInt ≤ 1000000) : ¬ fX9_common x y = 0 := by
  obtain ⟨a, ha, rfl⟩ := lN_of hx
  obtain ⟨b, hb, rfl⟩ := lN_of (x := y) (by omega)
  rw [pk_lT hb] at hy hy2
  rw [common_gcd ha (by omega)]
  have hg : 0 < Nat.gcd a b := Nat.gcd_pos_of_pos_right a (by omega)
  have hl : Nat.gcd a b ≤ b := Nat.le_of_dvd (by omega) (Nat.gcd_dvd_right a b)
  exact fun q => by
    have := (lN_eq (a := Nat.gcd a b) (b := 0) (by omega) (by omega)).mp q
    omega
theorem ci_z (q m : Int32) : (0 : Int64) = ciAl q m (0 : Int32).toInt.toNat := by
  have e0 : (0 : Int32).toInt.toNat = 0 := by decide
  rw [e0]
  rfl
