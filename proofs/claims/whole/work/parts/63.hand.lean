-- what a clause leaves: the cursor in the text, the row within its bounds
theorem clause_236_b (le : Int32) : ∀ (n : Nat) (g : Nat → Int32) (a b h k cu tk st : Int32) (va : Int64) (fl fa : Int32), (fl = 0 → 1 ≤ k.toInt ∧ b.toInt ≤ 20 ∧ k.toInt ≤ 21) → (if fl = 0 then 21 - k.toInt else 0) < (n : Int) → (fX9_readClause_236 n g a b h k cu tk st va fl fa).1 = cu ∧ (fX9_readClause_236 n g a b h k cu tk st va fl fa).2.2.2.2.2.2 0 = g 0 ∧ (fX9_readClause_236 n g a b h k cu tk st va fl fa).2.2.2.2.2.2 2 = g 2 := by
  have e1 : (1 : Int32).toInt = 1 := by decide
  have e4 : (4 : Int32).toInt = 4 := by decide
  intro n
  induction n with
  | zero =>
    intro g a b h k cu tk st va fl fa hi hm
    exact absurd hm (if h9 : fl = 0 then (by have h8 := hi h9; rw [if_pos h9]; omega) else (by rw [if_neg h9]; decide))
  | succ n ih =>
    intro g a b h k cu tk st va fl fa hi hm
    rw [fX9_readClause_236]
    by_cases c1 : b < k
    · rw [if_pos c1]
      exact ⟨rfl, rfl, rfl⟩
    · rw [if_neg c1]
      by_cases c2 : fl = 0
      · rw [if_pos c2]
        have k1 := t_nlt c1
        have h8 := hi c2
        rw [if_pos c2] at hm
        have zk : (k + 1).toInt = k.toInt + (1 : Int32).toInt := z_add (by omega) (by omega)
        have z4 : (4 + k).toInt = (4 : Int32).toInt + k.toInt := z_add (by omega) (by omega)
        have z5 : ((4 + k) - 1).toInt = (4 + k).toInt - (1 : Int32).toInt := z_sub (by omega) (by omega)
        have zi : ((4 + k) - 1).toNatClampNeg = 3 + k.toInt.toNat := by rw [cn_of, z5, z4, e1, e4]; omega
        obtain ⟨i1, i2, i3⟩ := ih (upd g ((4 + k) - 1).toNatClampNeg h) a b h (k + 1) cu tk st va fl fa (fun _ => by omega) (by rw [if_pos c2]; omega)
        refine ⟨i1, i2.trans (upd_ne _ _ (by rw [zi]; omega)), i3.trans (upd_ne _ _ (by rw [zi]; omega))⟩
      · rw [if_neg c2]
        exact ⟨rfl, rfl, rfl⟩
theorem layRoad_2_f : ∀ (r n : Nat) (g : Nat → Int32) (v a2 : Int32), r < n → 0 ≤ v.toInt → v.toInt + (r : Int) = 36 → ∃ g2 : Nat → Int32, fX9_layRoad_2 a2 n g v = fX9_layRoad_29 a2 1000 (upd (upd g2 0 a2) 1 10) 0 ∧ (∀ i : Nat, v.toInt ≤ (i : Int) → i < 36 → g2 i = 0) ∧ ∀ i : Nat, (i : Int) < v.toInt ∨ 36 ≤ i → g2 i = g i := by
  have e1 : (1 : Int32).toInt = 1 := by decide
  have e36 : (36 : Int32).toInt = 36 := by decide
  intro r
  induction r with
  | zero =>
    intro n g v a2 hr h0 h1
    obtain ⟨n, rfl⟩ : ∃ q, n = q + 1 := ⟨n - 1, by omega⟩
    rw [fX9_layRoad_2, if_pos (show (36 : Int32) ≤ v from Int32.le_iff_toInt_le.mpr (by omega))]
    exact ⟨g, rfl, fun i hi h => by omega, fun i _ => rfl⟩
  | succ r ih =>
    intro n g v a2 hr h0 h1
    obtain ⟨n, rfl⟩ : ∃ q, n = q + 1 := ⟨n - 1, by omega⟩
    have zv : (v + 1).toInt = v.toInt + (1 : Int32).toInt := z_add (by omega) (by omega)
    have hi : v.toNatClampNeg = v.toInt.toNat := rfl
    rw [fX9_layRoad_2, if_neg (show ¬ (36 : Int32) ≤ v from fun q => by have := t_le q; omega)]
    obtain ⟨g2, q1, q2, q3⟩ := ih n (upd g v.toNatClampNeg 0) (v + 1) a2 (by omega) (by omega) (by omega)
    refine ⟨g2, q1, fun i hi2 h36 => ?_, fun i hi2 => ?_⟩
    · by_cases q : (i : Int) = v.toInt
      · rw [q3 i (Or.inl (by omega)), hi, show v.toInt.toNat = i by omega, upd_at]
      · exact q2 i (by omega) h36
    · rw [q3 i (by omega), upd_ne _ _ (by omega)]
theorem layRoad_29_f : ∀ (r n : Nat) (g : Nat → Int32) (v a2 : Int32), r < n → 0 ≤ v.toInt → v.toInt + (r : Int) = a2.toInt → a2.toInt ≤ 20 → ∀ i : Nat, fX9_layRoad_29 a2 n g v i = if 4 + v.toInt.toNat ≤ i ∧ i < 4 + a2.toInt.toNat then 3 else g i := by
  have e1 : (1 : Int32).toInt = 1 := by decide
  intro r
  induction r with
  | zero =>
    intro n g v a2 hr h0 h1 h2 i
    obtain ⟨n, rfl⟩ : ∃ q, n = q + 1 := ⟨n - 1, by omega⟩
    rw [fX9_layRoad_29, if_pos (show a2 ≤ v from Int32.le_iff_toInt_le.mpr (by omega)), if_neg (by omega)]
  | succ r ih =>
    intro n g v a2 hr h0 h1 h2 i
    obtain ⟨n, rfl⟩ : ∃ q, n = q + 1 := ⟨n - 1, by omega⟩
    have zv : (v + 1).toInt = v.toInt + (1 : Int32).toInt := z_add (by omega) (by omega)
    rw [fX9_layRoad_29, if_neg (show ¬ a2 ≤ v from fun q => by have := t_le q; omega), ih n _ (v + 1) a2 (by omega) (by omega) (by omega) h2 i, ix_add 4 4 (by decide) (by decide) h0 (by omega)]
    by_cases q : i = 4 + v.toInt.toNat
    · subst q
      rw [upd_at, if_neg (by omega), if_pos (by omega)]
    · rw [upd_ne _ _ q]
      by_cases q2 : 4 + (v + 1).toInt.toNat ≤ i ∧ i < 4 + a2.toInt.toNat
      · rw [if_pos q2, if_pos (by omega)]
      · rw [if_neg q2, if_neg (by omega)]
/-- layRoad: the row that it lays -/
theorem layRoad_f (g : Nat → Int32) {n : Int32} (h0 : 0 ≤ n.toInt) (h1 : n.toInt ≤ 20) : fX9_layRoad n g 0 = n ∧ fX9_layRoad n g 1 = 10 ∧ fX9_layRoad n g 2 = 0 ∧ fX9_layRoad n g 3 = 0 ∧ (∀ i : Nat, i < n.toInt.toNat → fX9_layRoad n g (4 + i) = 3) ∧ ∀ i : Nat, 36 ≤ i → fX9_layRoad n g i = g i := by
  have e0 : (0 : Int32).toInt = 0 := by decide
  obtain ⟨g2, q1, q2, q3⟩ := layRoad_2_f 36 1000 g 0 n (by omega) (by decide) (by decide)
  have hf : ∀ i : Nat, fX9_layRoad n g i = if 4 + (0 : Int32).toInt.toNat ≤ i ∧ i < 4 + n.toInt.toNat then 3 else (upd (upd g2 0 n) 1 10) i := fun i => by
    unfold fX9_layRoad
    rw [q1]
    exact layRoad_29_f n.toInt.toNat 1000 _ 0 n (by omega) (by decide) (by rw [e0]; omega) h1 i
  rw [e0] at hf q2 q3
  refine ⟨?_, ?_, ?_, ?_, fun i hi => ?_, fun i hi => ?_⟩
  · rw [hf, if_neg (by omega), upd_ne _ _ (by decide), upd_at]
  · rw [hf, if_neg (by omega), upd_at]
  · rw [hf, if_neg (by omega), upd_ne _ _ (by decide), upd_ne _ _ (by decide), q2 2 (by decide) (by decide)]
  · rw [hf, if_neg (by omega), upd_ne _ _ (by decide), upd_ne _ _ (by decide), q2 3 (by decide) (by decide)]
  · rw [hf, if_pos (by omega)]
  · rw [hf, if_neg (by omega), upd_ne _ _ (by omega), upd_ne _ _ (by omega), q3 i (Or.inr hi)]
theorem clause_b (le cu tk st : Int32) (va : Int64) (fl fa : Int32) (te fr : Nat → Int32) (hl0 : 0 ≤ le.toInt) (hl1 : le.toInt ≤ 160) (hc0 : 0 ≤ cu.toInt) (hc1 : cu.toInt ≤ le.toInt) (hf0 : (fr 0).toInt ≤ 20) (hf2 : 0 ≤ (fr 2).toInt) (hf6 : (fr 2).toInt ≤ 6) : (0 ≤ (fX9_readClause le cu tk st va fl fa te fr).1.toInt ∧ (fX9_readClause le cu tk st va fl fa te fr).1.toInt ≤ le.toInt) ∧ ((fX9_readClause le cu tk st va fl fa te fr).2.2.2.2.2.2 0).toInt ≤ 20 ∧ 0 ≤ ((fX9_readClause le cu tk st va fl fa te fr).2.2.2.2.2.2 2).toInt ∧ ((fX9_readClause le cu tk st va fl fa te fr).2.2.2.2.2.2 2).toInt ≤ 6 := by
  have e1 : (1 : Int32).toInt = 1 := by decide
  have e0 : (0 : Int32).toInt = 0 := by decide
  have e4 : (4 : Int32).toInt = 4 := by decide
  have e6 : (6 : Int32).toInt = 6 := by decide
  have e20 : (20 : Int32).toInt = 20 := by decide
  have hn := next_b le cu te hl0 hl1 hc0 hc1
  unfold fX9_readClause
  rcases en : fX9_next le cu te with ⟨n1, n2, n3, n4⟩
  rw [en] at hn
  dsimp only at hn
  have hq := fun lo hi => number_b lo hi le n1 n2 n3 n4 fl fa te hl0 hl1 hn.1 hn.2
  by_cases c1 : fX9_kindBy tk va = -1
  · rw [if_pos c1]
    by_cases c2 : tk = 1
    · rw [if_pos c2]
      by_cases c3 : lg_cmp va (fX9_word 18 15 1 4 0 0) = 0
      · rw [if_pos c3]
        dsimp only
        have h := hq 4 20
        rcases e : fX9_number 4 20 le n1 n2 n3 n4 fl fa te with ⟨r, m1, m2, m3, m4, m5, m6⟩
        rw [e] at h
        dsimp only at h ⊢
        by_cases c4 : m5 = 0
        · rw [if_pos c4]
          unfold xlet
          have hb := h.2 c4
          obtain ⟨l0, -, l2, -⟩ := layRoad_f fr (n := r) (by omega) (by omega)
          exact ⟨h.1, by show (fX9_layRoad r fr 0).toInt ≤ 20; rw [l0]; omega, by show 0 ≤ (fX9_layRoad r fr 2).toInt; rw [l2]; decide, by show (fX9_layRoad r fr 2).toInt ≤ 6; rw [l2]; decide⟩
        · rw [if_neg c4]
          exact ⟨h.1, hf0, hf2, hf6⟩
      · rw [if_neg c3]
        by_cases c5 : lg_cmp va (fX9_word 8 9 12 12 0 0) = 0
        · rw [if_pos c5]
          dsimp only
          have h := hq 1 (fr 0)
          rcases e : fX9_number 1 (fr 0) le n1 n2 n3 n4 fl fa te with ⟨r, m1, m2, m3, m4, m5, m6⟩
          rw [e] at h
          dsimp only at h ⊢
          by_cases c6 : m5 = 0
          · rw [if_pos c6]
            have hb := h.2 c6
            have h2 := number_b r (fr 0) le m1 m2 m3 m4 m5 m6 te hl0 hl1 h.1.1 h.1.2
            rcases e2 : fX9_number r (fr 0) le m1 m2 m3 m4 m5 m6 te with ⟨r2, p1, p2, p3, p4, p5, p6⟩
            rw [e2] at h2
            dsimp only at h2 ⊢
            by_cases c7 : p5 = 0
            · rw [if_pos c7]
              have hb2 := h2.2 c7
              have h3 := number_b 1 9 le p1 p2 p3 p4 p5 p6 te hl0 hl1 h2.1.1 h2.1.2
              rcases e3 : fX9_number 1 9 le p1 p2 p3 p4 p5 p6 te with ⟨r3, q1, q2, q3, q4, q5, q6⟩
              rw [e3] at h3
              dsimp only at h3 ⊢
              obtain ⟨k1, k2, k3⟩ := clause_236_b le 1000 fr r r2 r3 r q1 q2 q3 q4 q5 q6 (fun _ => by omega) (by split <;> omega)
              rw [k1, k2, k3]
              exact ⟨h3.1, hf0, hf2, hf6⟩
            · rw [if_neg c7]
              obtain ⟨k1, k2, k3⟩ := clause_236_b le 1000 fr r r2 0 r p1 p2 p3 p4 p5 p6 (fun q => absurd q c7) (by rw [if_neg c7]; decide)
              rw [k1, k2, k3]
              exact ⟨h2.1, hf0, hf2, hf6⟩
          · rw [if_neg c6]
            obtain ⟨k1, k2, k3⟩ := clause_236_b le 1000 fr r r 0 r m1 m2 m3 m4 m5 m6 (fun q => absurd q c6) (by rw [if_neg c6]; decide)
            rw [k1, k2, k3]
            exact ⟨h.1, hf0, hf2, hf6⟩
        · rw [if_neg c5]
          by_cases c8 : lg_cmp va (fX9_word 13 9 12 5 0 0) = 0
          · rw [if_pos c8]
            dsimp only
            have h := hq 1 40
            rcases e : fX9_number 1 40 le n1 n2 n3 n4 fl fa te with ⟨r, m1, m2, m3, m4, m5, m6⟩
            rw [e] at h
            dsimp only at h ⊢
            unfold xlet
            exact ⟨h.1, hf0, hf2, hf6⟩
          · rw [if_neg c8]
            by_cases c9 : lg_cmp va (fX9_word 14 15 2 15 4 25) = 0
            · rw [if_pos c9]
              exact ⟨hn, hf0, by show 0 ≤ (upd fr 2 0 2).toInt; rw [upd_at]; decide, by show (upd fr 2 0 2).toInt ≤ 6; rw [upd_at]; decide⟩
            · rw [if_neg c9]
              exact ⟨⟨hc0, hc1⟩, hf0, hf2, hf6⟩
    · rw [if_neg c2]
      exact ⟨⟨hc0, hc1⟩, hf0, hf2, hf6⟩
  · rw [if_neg c1]
    by_cases c2 : fr 2 = 6
    · rw [if_pos c2]
      exact ⟨⟨hc0, hc1⟩, hf0, hf2, hf6⟩
    · rw [if_neg c2]
      have k2 := t_neq c2
      dsimp only
      have h := hq 1 9
      rcases e : fX9_number 1 9 le n1 n2 n3 n4 fl fa te with ⟨r, m1, m2, m3, m4, m5, m6⟩
      rw [e] at h
      dsimp only at h ⊢
      by_cases c4 : m5 = 0
      · rw [if_pos c4]
        have z24 : (24 + (fr 2)).toNatClampNeg = 24 + (fr 2).toInt.toNat := ix_add 24 24 (by decide) (by decide) hf2 (by omega)
        have z30 : (30 + (fr 2)).toNatClampNeg = 30 + (fr 2).toInt.toNat := ix_add 30 30 (by decide) (by decide) hf2 (by omega)
        have u2 : ∀ x, upd fr (24 + (fr 2)).toNatClampNeg x 2 = fr 2 := fun x => upd_ne _ _ (by rw [z24]; omega)
        have u0 : ∀ x, upd fr (24 + (fr 2)).toNatClampNeg x 0 = fr 0 := fun x => upd_ne _ _ (by rw [z24]; omega)
        have za : (fr 2 + 1).toInt = (fr 2).toInt + (1 : Int32).toInt := z_add (by omega) (by omega)
        have v2 : ∀ x y, upd (upd fr (24 + (fr 2)).toNatClampNeg x) (30 + (fr 2)).toNatClampNeg y 2 = fr 2 := fun x y => by rw [upd_ne _ _ (by rw [z30]; omega), u2]
        have v0 : ∀ x y, upd (upd fr (24 + (fr 2)).toNatClampNeg x) (30 + (fr 2)).toNatClampNeg y 0 = fr 0 := fun x y => by rw [upd_ne _ _ (by rw [z30]; omega), u0]
        dsimp only
        rw [u2, v2, upd_ne _ _ (by decide), upd_at, v0]
        exact ⟨h.1, hf0, by omega, by omega⟩
      · rw [if_neg c4]
        exact ⟨h.1, hf0, hf2, hf6⟩
