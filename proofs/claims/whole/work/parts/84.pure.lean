-- UNDO
theorem undo_27 (was : Nat → Int32) (n : Int32) (h0 : 1 ≤ n.toInt) (h8 : n.toInt ≤ 8) : ∀ (r k : Nat) (f : Nat → Int32) (v : Int32), r < k → 0 ≤ v.toInt → v.toInt + (r : Int) = 36 → (fX9_undo_27 n was k f v).1 = n - 1 ∧ (fX9_undo_27 n was k f v).2.1 = n - 1 ∧ ∀ i : Nat, (fX9_undo_27 n was k f v).2.2 i = if v.toInt.toNat ≤ i ∧ i < 36 then was (36 * (n.toInt.toNat - 1) + i) else f i := by
  have e1 : (1 : Int32).toInt = 1 := by decide
  have e36 : (36 : Int32).toInt = 36 := by decide
  have zm : (n - 1).toInt = n.toInt - (1 : Int32).toInt := z_sub (by omega) (by omega)
  intro r
  induction r with
  | zero =>
    intro k f v hr g0 g1
    obtain ⟨k, rfl⟩ : ∃ q, k = q + 1 := ⟨k - 1, by omega⟩
    rw [fX9_undo_27, if_pos (show (36 : Int32) ≤ v from Int32.le_iff_toInt_le.mpr (by omega))]
    exact ⟨rfl, rfl, fun i => by rw [if_neg (by omega)]⟩
  | succ r ih =>
    intro k f v hr g0 g1
    obtain ⟨k, rfl⟩ : ∃ q, k = q + 1 := ⟨k - 1, by omega⟩
    have zv : (v + 1).toInt = v.toInt + (1 : Int32).toInt := z_add (by omega) (by omega)
    rw [fX9_undo_27, if_neg (show ¬ (36 : Int32) ≤ v from fun q => by have := t_le q; omega)]
    obtain ⟨a, b, c⟩ := ih k (upd f v.toNatClampNeg (was ((36 * (n - 1)) + v).toNatClampNeg)) (v + 1) (by omega) (by omega) (by omega)
    refine ⟨a, b, fun i => ?_⟩
    rw [c i, ix36 (n := n - 1) (by omega) (by omega) g0 (by omega), cn_of]
    by_cases q : i = v.toInt.toNat
    · rw [if_neg (by omega), if_pos (by omega), q, upd_at]
      exact congrArg was (by omega)
    · rw [upd_ne _ _ q]
      by_cases q2 : (v + 1).toInt.toNat ≤ i ∧ i < 36
      · rw [if_pos q2, if_pos (by omega)]
      · rw [if_neg q2, if_neg (by omega)]
theorem m_undo {f : Nat → Int32} {st mi wk wd : Int32} {ha ki hb : Nat → Int32} (h : rN f st mi wk wd ha ki hb) {acts held : Int32} {was de pl ol : Nat → Int32} (hp : rP acts was f held de pl ol) : (fX8_undo held de ol mi wd pl ha).1 = (fX9_undo acts was f).1 ∧ rN (fX9_undo acts was f).2.2 st (fX8_undo held de ol mi wd pl ha).2.2.1 wk (fX8_undo held de ol mi wd pl ha).2.2.2.1 (fX8_undo held de ol mi wd pl ha).2.2.2.2 ki hb ∧ rP (fX9_undo acts was f).2.1 was (fX9_undo acts was f).2.2 (fX8_undo held de ol mi wd pl ha).2.1 de pl ol ∧ (fX9_undo acts was f).2.2 2 = f 2 := by
  obtain ⟨hf, rfl, rfl, rfl, rfl, hh, hw⟩ := id h
  obtain ⟨rfl, ⟨h0, h8⟩, hs⟩ := id hp
  have e1 : (1 : Int32).toInt = 1 := by decide
  have e0 : (0 : Int32).toInt = 0 := by decide
  unfold fX8_undo fX9_undo
  by_cases c : held = 0
  · rw [if_pos c, if_neg (show ¬ (0 : Int32) < held by rw [c]; decide)]
    exact ⟨rfl, h, hp, rfl⟩
  · have k := t_neq c
    rw [if_neg c, if_pos (show (0 : Int32) < held from Int32.lt_iff_toInt_lt.mpr (by omega))]
    have zm : (held - 1).toInt = held.toInt - (1 : Int32).toInt := z_sub (by omega) (by omega)
    obtain ⟨a1, a2, a3⟩ := undo_27 was held (by omega) h8 36 1000 f 0 (by omega) (by decide) (by decide)
    rcases e9 : fX9_undo_27 held was 1000 f 0 with ⟨r1, r2, f2⟩
    rw [e9] at a1 a2 a3
    dsimp only at a1 a2 a3 ⊢
    subst a1; subst a2
    have hn : (held - 1).toInt.toNat = held.toInt.toNat - 1 := by omega
    obtain ⟨u1, u2⟩ := hs (held.toInt.toNat - 1) (by omega)
    have f2j : ∀ j : Nat, j < 36 → f2 j = sq was f held.toInt.toNat (held.toInt.toNat - 1) j := fun j hj => by
      unfold sq
      rw [a3 j, if_pos (by omega), if_neg (by omega)]
    have hcur : ∀ j : Nat, f j = sq was f held.toInt.toNat (held.toInt.toNat - 1 + 1) j := fun j => by
      unfold sq
      rw [if_pos (by omega)]
    have hg2 : gR f2 := gR_cong f2j u2
    have hur : UR (de (held.toInt.toNat - 1)) (pl (held.toInt.toNat - 1)) (ol (held.toInt.toNat - 1)) f f2 := UR_cong (fun j _ => hcur j) f2j u1
    have hpast : rP (held - 1) was f2 (held - 1) de pl ol := by
      refine ⟨rfl, ⟨by omega, by omega⟩, fun i hi => ?_⟩
      rw [hn]
      obtain ⟨v1, v2⟩ := hs i (by omega)
      have es : ∀ i2 : Nat, i2 ≤ held.toInt.toNat - 1 → ∀ j : Nat, j < 36 → sq was f2 (held.toInt.toNat - 1) i2 j = sq was f held.toInt.toNat i2 j := fun i2 hi2 j hj => by
        by_cases q : i2 = held.toInt.toNat - 1
        · rw [q, ← f2j j hj]; unfold sq; rw [if_pos rfl]
        · unfold sq; rw [if_neg q, if_neg (by omega)]
      exact ⟨UR_cong (es (i + 1) (by omega)) (es i (by omega)) v1, gR_cong (es i (by omega)) v2⟩
    have hat : ∀ g : Nat → Int32, fX4_at (held - 1) g 8 = g (held.toInt.toNat - 1) := fun g => by rw [at_in (by decide) (by omega) (by omega), hn]
    unfold fX1_undoLatest
    rw [hat, hat, hat]
    generalize de (held.toInt.toNat - 1) = d at hur ⊢
    generalize pl (held.toInt.toNat - 1) = p at hur ⊢
    generalize ol (held.toInt.toNat - 1) = o at hur ⊢
    have n10 : ¬ (1 : Int32) = 0 := by decide
    have n20 : ¬ (2 : Int32) = 0 := by decide
    have n21 : ¬ (2 : Int32) = 1 := by decide
    rcases hur with ⟨rfl, p2, p3, p4⟩ | ⟨rfl, p2, p3, p4⟩ | ⟨rfl, p3, p4⟩
    · rw [if_pos rfl, xlet_eq]
      have q0 := p4 0 (by decide) (by decide)
      have q1 := p4 1 (by decide) (by decide)
      have q2 := p4 2 (by decide) (by decide)
      refine ⟨rfl, ⟨hg2, q0.symm, q1.symm, q2.symm, p3.symm, fun i hi => ?_, fun i hi => ?_⟩, hpast, q2⟩
      · rw [q0] at hi; rw [p4 (4 + i) (by have := hf.1.2; omega) (by omega)]; exact hh i hi
      · rw [q2] at hi; have := hf.2.2.1.2; rw [p4 (24 + i) (by omega) (by omega), p4 (30 + i) (by omega) (by omega)]; exact hw i hi
    · rw [if_neg n10, if_pos rfl, put_in (by decide) (by omega) (by omega), xlet_eq]
      have q0 := p4 0 (by decide) (by omega)
      have q1 := p4 1 (by decide) (by omega)
      have q2 := p4 2 (by decide) (by omega)
      have q3 := p4 3 (by decide) (by omega)
      refine ⟨rfl, ⟨hg2, q0.symm, q1.symm, q2.symm, q3.symm, fun i hi => ?_, fun i hi => ?_⟩, hpast, q2⟩
      · rw [q0] at hi
        show upd ha p.toInt.toNat o (i + 1) = f2 (4 + i)
        by_cases q : i + 1 = p.toInt.toNat
        · rw [q, upd_at, show 4 + i = 3 + p.toInt.toNat by omega, p3]
        · rw [upd_ne _ _ q, p4 (4 + i) (by have := hf.1.2; omega) (by omega)]; exact hh i hi
      · rw [q2] at hi; have := hf.2.2.1.2; rw [p4 (24 + i) (by omega) (by omega), p4 (30 + i) (by omega) (by omega)]; exact hw i hi
    · rw [if_neg n20, if_neg n21]
      have q0 := p4 0 (by decide) (by decide)
      have q2 := p4 2 (by decide) (by decide)
      have q3 := p4 3 (by decide) (by decide)
      refine ⟨rfl, ⟨hg2, q0.symm, p3.symm, q2.symm, q3.symm, fun i hi => ?_, fun i hi => ?_⟩, hpast, q2⟩
      · rw [q0] at hi; rw [p4 (4 + i) (by have := hf.1.2; omega) (by omega)]; exact hh i hi
      · rw [q2] at hi; have := hf.2.2.1.2; rw [p4 (24 + i) (by omega) (by omega), p4 (30 + i) (by omega) (by omega)]; exact hw i hi
-- KEEP, BACK
theorem take_2 (n : Nat) (hn : n < 900) (g : Nat → Int32) : ∀ (r k : Nat) (u : Nat → Int32) (v : Int32), r < k → 0 ≤ v.toInt → v.toInt + (r : Int) = (n : Int) → ∀ i : Nat, fX4_take_2 n g n k u v i = if v.toInt.toNat ≤ i ∧ i < n then g i else u i := by
  have e1 : (1 : Int32).toInt = 1 := by decide
  have en : (Int32.ofNat n).toInt = (n : Int) := z_ofNat (by omega)
  intro r
  induction r with
  | zero =>
    intro k u v hr g0 g1 i
    obtain ⟨k, rfl⟩ : ∃ q, k = q + 1 := ⟨k - 1, by omega⟩
    rw [fX4_take_2, if_pos (show Int32.ofNat n ≤ v from Int32.le_iff_toInt_le.mpr (by omega)), if_neg (by omega)]
  | succ r ih =>
    intro k u v hr g0 g1 i
    obtain ⟨k, rfl⟩ : ∃ q, k = q + 1 := ⟨k - 1, by omega⟩
    have zv : (v + 1).toInt = v.toInt + (1 : Int32).toInt := z_add (by omega) (by omega)
    rw [fX4_take_2, if_neg (show ¬ Int32.ofNat n ≤ v from fun q => by have := t_le q; omega), ih k _ (v + 1) (by omega) (by omega) (by omega) i, at_in (by omega) g0 (by omega), cn_of]
    by_cases q : i = v.toInt.toNat
    · rw [if_neg (by omega), if_pos (by omega), q, upd_at]
    · rw [upd_ne _ _ q]
      by_cases q2 : (v + 1).toInt.toNat ≤ i ∧ i < n
      · rw [if_pos q2, if_pos (by omega)]
      · rw [if_neg q2, if_neg (by omega)]
theorem take_f (n : Nat) (hn : n < 900) (u g : Nat → Int32) (i : Nat) (hi : i < n) : fX4_take u n g n i = g i := by
  have h := take_2 n hn g n 1000 u 0 (by omega) (by decide) (by rw [show (0 : Int32).toInt = 0 by decide]; omega) i
  rw [if_pos ⟨by rw [show (0 : Int32).toInt.toNat = 0 by decide]; omega, hi⟩] at h
  exact h
/-- a road taken over holds the same -/
theorem take_rr {f : Nat → Int32} {st mi wk wd : Int32} {ha ki hb h2 k2 b2 : Nat → Int32} (h : rN f st mi wk wd ha ki hb) : ∃ ha2 ki2 hb2, fX3_take h2 ha k2 ki b2 hb = (ha2, ki2, hb2) ∧ rN f st mi wk wd ha2 ki2 hb2 := by
  obtain ⟨hf, e1, e2, e3, e4, hh, hw⟩ := h
  have h20 := hf.1.2
  have h6 := hf.2.2.1.2
  refine ⟨fX4_take h2 21 ha 21, fX4_take k2 6 ki 6, fX4_take b2 6 hb 6, ?_, hf, e1, e2, e3, e4, fun i hi => ?_, fun i hi => ?_⟩
  · unfold fX3_take
    rw [xlet_eq, xlet_eq, xlet_eq]
  · rw [take_f 21 (by omega) _ _ _ (by omega)]; exact hh i hi
  · rw [take_f 6 (by omega) _ _ _ (by omega), take_f 6 (by omega) _ _ _ (by omega)]; exact hw i hi
theorem rN_cong {f g : Nat → Int32} {st mi wk wd : Int32} {ha ki hb : Nat → Int32} (h : ∀ j : Nat, j < 36 → g j = f j) (hn : rN f st mi wk wd ha ki hb) : rN g st mi wk wd ha ki hb := by
  obtain ⟨hf, e1, e2, e3, e4, hh, hw⟩ := hn
  have h20 := hf.1.2
  have h6 := hf.2.2.1.2
  have g0 := h 0 (by decide)
  have g2 := h 2 (by decide)
  refine ⟨gR_cong h hf, by rw [g0]; exact e1, by rw [h 1 (by decide)]; exact e2, by rw [g2]; exact e3, by rw [h 3 (by decide)]; exact e4, fun i hi => ?_, fun i hi => ?_⟩
  · rw [g0] at hi; rw [h _ (by omega)]; exact hh i hi
  · rw [g2] at hi; rw [h _ (by omega), h _ (by omega)]; exact hw i hi
def rK (bits : Int32) (s1 m1 w1 d1 : Int32) (h1 k1 b1 : Nat → Int32) (s2 m2 w2 d2 : Int32) (h2 k2 b2 isK kept f : Nat → Int32) : Prop := (bits = 0 ∨ bits = 1 ∨ bits = 2 ∨ bits = 3) ∧ ((bits &&& ((1 : Int32) <<< ((0 : Int32) &&& 31))) = 0 ↔ isK 0 = 0) ∧ ((bits &&& ((1 : Int32) <<< ((1 : Int32) &&& 31))) = 0 ↔ isK 1 = 0) ∧ (¬ isK 0 = 0 → rN (fun j => kept j) s1 m1 w1 d1 h1 k1 b1 ∧ kept 2 = f 2) ∧ (¬ isK 1 = 0 → rN (fun j => kept (36 + j)) s2 m2 w2 d2 h2 k2 b2 ∧ kept 38 = f 2)
theorem rK_f {bits s1 m1 w1 d1 s2 m2 w2 d2 : Int32} {h1 k1 b1 h2 k2 b2 isK kept f f2 : Nat → Int32} (h : rK bits s1 m1 w1 d1 h1 k1 b1 s2 m2 w2 d2 h2 k2 b2 isK kept f) (e : f2 2 = f 2) : rK bits s1 m1 w1 d1 h1 k1 b1 s2 m2 w2 d2 h2 k2 b2 isK kept f2 := by
  unfold rK
  rw [e]
  exact h
theorem rK_0 {s1 m1 w1 d1 s2 m2 w2 d2 : Int32} {h1 k1 b1 h2 k2 b2 isK kept f : Nat → Int32} : rK 0 s1 m1 w1 d1 h1 k1 b1 s2 m2 w2 d2 h2 k2 b2 (upd (upd isK 0 0) 1 0) kept f := by
  have i1 : upd (upd isK 0 0) 1 0 1 = 0 := upd_at _ _ _
  have i0 : upd (upd isK 0 0) 1 0 0 = 0 := by rw [upd_ne _ _ (by decide), upd_at]
  refine ⟨Or.inl rfl, ?_, ?_, fun h => absurd i0 h, fun h => absurd i1 h⟩
  · rw [i0]; exact ⟨fun _ => rfl, fun _ => by decide⟩
  · rw [i1]; exact ⟨fun _ => rfl, fun _ => by decide⟩
theorem keep_20 (k : Int32) (f isK : Nat → Int32) (h0 : 0 ≤ k.toInt) (h1 : k.toInt ≤ 1) : ∀ (r n : Nat) (kept : Nat → Int32) (v : Int32), r < n → 0 ≤ v.toInt → v.toInt + (r : Int) = 36 → (fX9_keep_20 k f isK n kept v).1 = fX9_bits (f 3) ∧ (fX9_keep_20 k f isK n kept v).2.2 = upd isK k.toNatClampNeg 1 ∧ ∀ i : Nat, (fX9_keep_20 k f isK n kept v).2.1 i = if 36 * k.toInt.toNat + v.toInt.toNat ≤ i ∧ i < 36 * k.toInt.toNat + 36 then f (i - 36 * k.toInt.toNat) else kept i := by
  have e1 : (1 : Int32).toInt = 1 := by decide
  have e36 : (36 : Int32).toInt = 36 := by decide
  intro r
  induction r with
  | zero =>
    intro n kept v hr g0 g1
    obtain ⟨n, rfl⟩ : ∃ q, n = q + 1 := ⟨n - 1, by omega⟩
    rw [fX9_keep_20, if_pos (show (36 : Int32) ≤ v from Int32.le_iff_toInt_le.mpr (by omega))]
    exact ⟨rfl, rfl, fun i => by rw [if_neg (by omega)]⟩
  | succ r ih =>
    intro n kept v hr g0 g1
    obtain ⟨n, rfl⟩ : ∃ q, n = q + 1 := ⟨n - 1, by omega⟩
    have zv : (v + 1).toInt = v.toInt + (1 : Int32).toInt := z_add (by omega) (by omega)
    rw [fX9_keep_20, if_neg (show ¬ (36 : Int32) ≤ v from fun q => by have := t_le q; omega)]
    obtain ⟨a, b, c⟩ := ih n (upd kept ((36 * k) + v).toNatClampNeg (f v.toNatClampNeg)) (v + 1) (by omega) (by omega) (by omega)
    refine ⟨a, b, fun i => ?_⟩
    rw [c i, ix36 h0 (by omega) g0 (by omega), cn_of]
    by_cases q : i = 36 * k.toInt.toNat + v.toInt.toNat
    · rw [if_neg (by omega), if_pos (by omega), q, upd_at]
      exact congrArg f (by omega)
    · rw [upd_ne _ _ q]
      by_cases q2 : 36 * k.toInt.toNat + (v + 1).toInt.toNat ≤ i ∧ i < 36 * k.toInt.toNat + 36
      · rw [if_pos q2, if_pos (by omega)]
      · rw [if_neg q2, if_neg (by omega)]
theorem back_32 (k : Int32) (kept : Nat → Int32) (h0 : 0 ≤ k.toInt) (h1 : k.toInt ≤ 1) : ∀ (r n : Nat) (f : Nat → Int32) (v : Int32), r < n → 0 ≤ v.toInt → v.toInt + (r : Int) = 36 → (fX9_back_32 k kept n f v).1 = fX9_bits ((fX9_back_32 k kept n f v).2.2 3) ∧ (fX9_back_32 k kept n f v).2.1 = 0 ∧ ∀ i : Nat, (fX9_back_32 k kept n f v).2.2 i = if v.toInt.toNat ≤ i ∧ i < 36 then kept (36 * k.toInt.toNat + i) else f i := by
  have e1 : (1 : Int32).toInt = 1 := by decide
  have e36 : (36 : Int32).toInt = 36 := by decide
  intro r
  induction r with
  | zero =>
    intro n f v hr g0 g1
    obtain ⟨n, rfl⟩ : ∃ q, n = q + 1 := ⟨n - 1, by omega⟩
    rw [fX9_back_32, if_pos (show (36 : Int32) ≤ v from Int32.le_iff_toInt_le.mpr (by omega))]
    exact ⟨rfl, rfl, fun i => by rw [if_neg (by omega)]⟩
  | succ r ih =>
    intro n f v hr g0 g1
    obtain ⟨n, rfl⟩ : ∃ q, n = q + 1 := ⟨n - 1, by omega⟩
    have zv : (v + 1).toInt = v.toInt + (1 : Int32).toInt := z_add (by omega) (by omega)
    rw [fX9_back_32, if_neg (show ¬ (36 : Int32) ≤ v from fun q => by have := t_le q; omega)]
    obtain ⟨a, b, c⟩ := ih n (upd f v.toNatClampNeg (kept ((36 * k) + v).toNatClampNeg)) (v + 1) (by omega) (by omega) (by omega)
    refine ⟨a, b, fun i => ?_⟩
    rw [c i, ix36 h0 (by omega) g0 (by omega), cn_of]
    by_cases q : i = v.toInt.toNat
    · rw [if_neg (by omega), if_pos (by omega), q, upd_at]
    · rw [upd_ne _ _ q]
      by_cases q2 : (v + 1).toInt.toNat ≤ i ∧ i < 36
      · rw [if_pos q2, if_pos (by omega)]
      · rw [if_neg q2, if_neg (by omega)]
theorem bits4 : ∀ b : Int32, (b = 0 ∨ b = 1 ∨ b = 2 ∨ b = 3) → ((b ||| ((1 : Int32) <<< ((0 : Int32) &&& 31))) = 0 ∨ (b ||| ((1 : Int32) <<< ((0 : Int32) &&& 31))) = 1 ∨ (b ||| ((1 : Int32) <<< ((0 : Int32) &&& 31))) = 2 ∨ (b ||| ((1 : Int32) <<< ((0 : Int32) &&& 31))) = 3) ∧ ((b ||| ((1 : Int32) <<< ((1 : Int32) &&& 31))) = 0 ∨ (b ||| ((1 : Int32) <<< ((1 : Int32) &&& 31))) = 1 ∨ (b ||| ((1 : Int32) <<< ((1 : Int32) &&& 31))) = 2 ∨ (b ||| ((1 : Int32) <<< ((1 : Int32) &&& 31))) = 3) ∧ ¬ ((b ||| ((1 : Int32) <<< ((0 : Int32) &&& 31))) &&& ((1 : Int32) <<< ((0 : Int32) &&& 31))) = 0 ∧ ¬ ((b ||| ((1 : Int32) <<< ((1 : Int32) &&& 31))) &&& ((1 : Int32) <<< ((1 : Int32) &&& 31))) = 0 ∧ ((b ||| ((1 : Int32) <<< ((0 : Int32) &&& 31))) &&& ((1 : Int32) <<< ((1 : Int32) &&& 31))) = (b &&& ((1 : Int32) <<< ((1 : Int32) &&& 31))) ∧ ((b ||| ((1 : Int32) <<< ((1 : Int32) &&& 31))) &&& ((1 : Int32) <<< ((0 : Int32) &&& 31))) = (b &&& ((1 : Int32) <<< ((0 : Int32) &&& 31))) := by
  intro b hb
  rcases hb with rfl | rfl | rfl | rfl <;> decide
