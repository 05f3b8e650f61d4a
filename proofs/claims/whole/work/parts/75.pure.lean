theorem xlet_eq {α β : Type} (a : α) (k : α → β) : xlet a k = k a := xlet_of (Eq.refl a) k
-- how many stones: as many as the miles that he felt, eight at most
theorem feltAt_b {f : Nat → Int32} (hf : gR f) {kind habit g : Int32} (hk : 0 ≤ kind.toInt ∧ kind.toInt ≤ 3) (hb : 1 ≤ habit.toInt ∧ habit.toInt ≤ 9) (hg : 1 ≤ g.toInt ∧ g.toInt ≤ (f 0).toInt) : 1 ≤ (fX9_feltAt kind habit g f).toInt ∧ (fX9_feltAt kind habit g f).toInt ≤ 30 := by
  obtain ⟨⟨n0, n1⟩, -, -, -, hH, -⟩ := hf
  have e1 : (1 : Int32).toInt = 1 := by decide
  have e2 : (2 : Int32).toInt = 2 := by decide
  have e0 : (0 : Int32).toInt = 0 := by decide
  have zg : (g - 1).toInt = g.toInt - (1 : Int32).toInt := z_sub (by omega) (by omega)
  have zn : (f 0 - g).toInt = (f 0).toInt - g.toInt := z_sub (by omega) (by omega)
  have hA := hH (g.toInt.toNat - 1) (by omega)
  have hB := hH ((f 0).toInt.toNat - g.toInt.toNat) (by omega)
  have iA : (4 + (g - 1)).toNatClampNeg = 4 + (g.toInt.toNat - 1) := by
    rw [ix_add 4 4 (by decide) (by decide) (by omega) (by omega)]; omega
  have iB : (4 + (f 0 - g)).toNatClampNeg = 4 + ((f 0).toInt.toNat - g.toInt.toNat) := by
    rw [ix_add 4 4 (by decide) (by decide) (by omega) (by omega)]; omega
  rw [← iA] at hA
  rw [← iB] at hB
  have hd : 0 ≤ ((g - 1) / habit).toInt ∧ ((g - 1) / habit).toInt ≤ 19 := by
    obtain ⟨a, ha, ea, -⟩ := i32_nat (x := g - 1) (by omega)
    obtain ⟨c, hc, ec, -⟩ := i32_nat (x := habit) (by omega)
    have ta := nI_toInt ha
    rw [← ea] at ta
    have hq : a / c ≤ a := Nat.div_le_self a c
    rw [ea, ec, i32_div ha hc, nI_toInt (by omega)]
    generalize a / c = q at hq ⊢
    omega
  have n03 : ¬ (0 : Int32) = 3 := by decide
  have n13 : ¬ (1 : Int32) = 3 := by decide
  have n23 : ¬ (2 : Int32) = 3 := by decide
  have n21 : ¬ (2 : Int32) = 1 := by decide
  have n10 : ¬ (1 : Int32) = 0 := by decide
  have n20 : ¬ (2 : Int32) = 0 := by decide
  have n30 : ¬ (3 : Int32) = 0 := by decide
  have n31 : ¬ (3 : Int32) = 1 := by decide
  have n32 : ¬ (3 : Int32) = 2 := by decide
  rcases k4 hk.1 hk.2 with rfl | rfl | rfl | rfl
  · simp only [fX9_feltAt, xlet, n03, if_false, eq_self, if_true]
    omega
  · simp only [fX9_feltAt, xlet, n13, n10, if_false, eq_self, if_true]
    rw [z_add (by omega) (by omega)]; omega
  · simp only [fX9_feltAt, xlet, n23, n21, n20, if_false, eq_self, if_true]
    by_cases c : (g - g / habit * habit) = 0
    · rw [if_pos c, z_mul 2 rfl (by omega) (by omega)]; omega
    · rw [if_neg c]; omega
  · simp only [fX9_feltAt, xlet, n30, n31, n32, if_false, eq_self, if_true]
    rw [z_add (by omega) (by omega)]; omega
/-- what is felt from step g on, behind s: at least s, at most 30 a step -/
theorem felt_4_b {f : Nat → Int32} (hf : gR f) {w : Int32} (hk : 0 ≤ (f (24 + w).toNatClampNeg).toInt ∧ (f (24 + w).toNatClampNeg).toInt ≤ 3) (hb : 1 ≤ (f (30 + w).toNatClampNeg).toInt ∧ (f (30 + w).toNatClampNeg).toInt ≤ 9) : ∀ (n : Nat) (s g : Int32), 1 ≤ g.toInt → g.toInt ≤ 21 → 21 - g.toInt < (n : Int) → 0 ≤ s.toInt → s.toInt ≤ 30 * (g.toInt - 1) → s.toInt ≤ (fX9_feltInAll_4 w f n s g).toInt ∧ (fX9_feltInAll_4 w f n s g).toInt ≤ 600 := by
  have e1 : (1 : Int32).toInt = 1 := by decide
  have h20 := hf.1.2
  intro n
  induction n with
  | zero => intro s g h0 h1 h2; omega
  | succ n ih =>
    intro s g h0 h1 h2 h3 h4
    rw [fX9_feltInAll_4]
    by_cases c : f 0 < g
    · rw [if_pos c]; omega
    · rw [if_neg c]
      have kc := t_nlt c
      have hfb := feltAt_b hf hk hb ⟨h0, kc⟩
      generalize fX9_feltAt (f (24 + w).toNatClampNeg) (f (30 + w).toNatClampNeg) g f = x at hfb ⊢
      have zg : (g + 1).toInt = g.toInt + (1 : Int32).toInt := z_add (by omega) (by omega)
      have zs : (s + x).toInt = s.toInt + x.toInt := z_add (by omega) (by omega)
      have := ih (s + x) (g + 1) (by omega) (by omega) (by omega) (by omega) (by omega)
      omega
/-- a stone is found just when so much is felt in all -/
theorem stone_found {f : Nat → Int32} (hf : gR f) {w : Int32} (hk : 0 ≤ (f (24 + w).toNatClampNeg).toInt ∧ (f (24 + w).toNatClampNeg).toInt ≤ 3) (hb : 1 ≤ (f (30 + w).toNatClampNeg).toInt ∧ (f (30 + w).toNatClampNeg).toInt ≤ 9) (k mile : Int32) (hkm : 1 ≤ (k * mile).toInt) : ∀ (n : Nat) (s g : Int32), 1 ≤ g.toInt → g.toInt ≤ 21 → 21 - g.toInt < (n : Int) → 0 ≤ s.toInt → s.toInt ≤ 30 * (g.toInt - 1) → (s.toInt < (k * mile).toInt) → (fX9_stoneBy_6 (f (24 + w).toNatClampNeg) (f (30 + w).toNatClampNeg) k mile f n s g = -1 ↔ (fX9_feltInAll_4 w f n s g).toInt < (k * mile).toInt) := by
  have e1 : (1 : Int32).toInt = 1 := by decide
  have em : ((-1) : Int32).toInt = -1 := by decide
  have h20 := hf.1.2
  intro n
  induction n with
  | zero => intro s g h0 h1 h2; omega
  | succ n ih =>
    intro s g h0 h1 h2 h3 h4 h5
    rw [fX9_feltInAll_4, fX9_stoneBy_6]
    by_cases c : f 0 < g
    · rw [if_pos c, if_pos c]
      exact ⟨fun _ => h5, fun _ => rfl⟩
    · rw [if_neg c, if_neg c]
      have kc := t_nlt c
      have hfb := feltAt_b hf hk hb ⟨h0, kc⟩
      generalize fX9_feltAt (f (24 + w).toNatClampNeg) (f (30 + w).toNatClampNeg) g f = x at hfb ⊢
      have zg : (g + 1).toInt = g.toInt + (1 : Int32).toInt := z_add (by omega) (by omega)
      have zs : (s + x).toInt = s.toInt + x.toInt := z_add (by omega) (by omega)
      by_cases c2 : s + x < k * mile
      · rw [if_pos c2]
        have k2 := t_lt c2
        exact ih (s + x) (g + 1) (by omega) (by omega) (by omega) (by omega) (by omega) k2
      · rw [if_neg c2]
        have k2 := t_nlt c2
        have hall := felt_4_b hf hk hb n (s + x) (g + 1) (by omega) (by omega) (by omega) (by omega) (by omega)
        simp only [xlet_eq]
        constructor
        · intro h
          exfalso
          by_cases c3 : f (24 + w).toNatClampNeg = 3
          · rw [if_pos c3] at h
            have zn : (f 0 - g).toInt = (f 0).toInt - g.toInt := z_sub (by omega) (by omega)
            have := congrArg Int32.toInt h
            omega
          · rw [if_neg c3] at h
            have := congrArg Int32.toInt h
            omega
        · intro h; omega
theorem walker_86 {f : Nat → Int32} (hf : gR f) {w : Int32} (h0 : 0 ≤ w.toInt) (h1 : w.toInt < (f 2).toInt) : ∀ (n : Nat) (c k : Int32), 1 ≤ k.toInt → k.toInt ≤ 9 → 9 - k.toInt < (n : Int) → 0 ≤ c.toInt → c.toInt ≤ 8 → (∀ q : Int, q = (fX9_feltInAll w f).toInt / (f 1).toInt → c.toInt = min (k.toInt - 1) q) → (fX9_walker_86 w f n c k).toInt = min 8 ((fX9_feltInAll w f).toInt / (f 1).toInt) := by
  have e1 : (1 : Int32).toInt = 1 := by decide
  have e0 : (0 : Int32).toInt = 0 := by decide
  have e9 : (9 : Int32).toInt = 9 := by decide
  obtain ⟨⟨n0, n1⟩, ⟨m0, m1⟩, ⟨v0, v6⟩, -, -, hg⟩ := id hf
  have hgw := hg w.toInt.toNat (by omega)
  rw [← ix_add 24 24 (by decide) (by decide) h0 (by omega), ← ix_add 30 30 (by decide) (by decide) h0 (by omega)] at hgw
  have hA := felt_4_b hf hgw.1 hgw.2 1000 0 1 (by decide) (by decide) (by decide) (by decide) (by decide)
  have hA0 : 0 ≤ (fX9_feltInAll w f).toInt := by have := hA.1; rw [e0] at this; exact this
  have hA1 : (fX9_feltInAll w f).toInt ≤ 600 := hA.2
  intro n
  induction n with
  | zero => intro c k a1 a2 a3; omega
  | succ n ih =>
    intro c k a1 a2 a3 a4 a5 hc
    rw [fX9_walker_86]
    by_cases c1 : (9 : Int32) ≤ k
    · rw [if_pos c1]
      have := t_le c1
      rw [hc _ rfl]
      have : k.toInt - 1 = 8 := by omega
      rw [this]
    · rw [if_neg c1]
      have k1 := t_nle c1
      have zk : (k + 1).toInt = k.toInt + (1 : Int32).toInt := z_add (by omega) (by omega)
      have hkm : (k * f 1).toInt = k.toInt * (f 1).toInt := by
        have h1 : 0 ≤ k.toInt * (f 1).toInt := Int.mul_nonneg (by omega) (by omega)
        have h2 : k.toInt * (f 1).toInt ≤ 9 * 40 := Int.mul_le_mul (by omega) m1 (by omega) (by omega)
        rw [Int32.toInt_mul]; exact z_bm (by omega) (by omega)
      have hkm1 : 1 ≤ (k * f 1).toInt := by
        rw [hkm]
        have : 1 * 1 ≤ k.toInt * (f 1).toInt := Int.mul_le_mul a1 m0 (by omega) (by omega)
        omega
      have hs := stone_found hf hgw.1 hgw.2 k (f 1) hkm1 1000 0 1 (by decide) (by decide) (by decide) (by decide) (by decide) (by rw [e0]; omega)
      have hs : fX9_stoneOf w k f = -1 ↔ (fX9_feltInAll w f).toInt < k.toInt * (f 1).toInt := by rw [← hkm]; exact hs
      have hdv : (fX9_feltInAll w f).toInt < k.toInt * (f 1).toInt ↔ (fX9_feltInAll w f).toInt / (f 1).toInt < k.toInt := (Int.ediv_lt_iff_lt_mul (by omega)).symm
      have hcv := hc _ rfl
      generalize (fX9_feltInAll w f).toInt / (f 1).toInt = q at *
      simp only [xlet_eq]
      by_cases c2 : fX9_stoneOf w k f = -1
      · rw [if_pos c2]
        have hq := hdv.mp (hs.mp c2)
        have zc : (c + 0).toInt = c.toInt := by rw [Int32.add_zero]
        exact ih (c + 0) (k + 1) (by omega) (by omega) (by omega) (by omega) (by omega) (fun q9 h9 => by subst h9; rw [zc]; omega)
      · rw [if_neg c2]
        have hq : k.toInt ≤ q := by
          have := mt hs.mpr c2
          omega
        have zc : (c + 1).toInt = c.toInt + (1 : Int32).toInt := z_add (by omega) (by omega)
        exact ih (c + 1) (k + 1) (by omega) (by omega) (by omega) (by omega) (by omega) (fun q9 h9 => by subst h9; rw [zc]; omega)
theorem m_walker {f : Nat → Int32} {st mi wk wd : Int32} {ha ki hb : Nat → Int32} (h : rN f st mi wk wd ha ki hb) (a k : Int32) : fX8_walker a k st mi wk wd ki hb ha = fX9_walker a k f := by
  obtain ⟨hf, rfl, rfl, rfl, rfl, hh, hw⟩ := h
  unfold fX8_walker fX9_walker
  rw [has_eq a (f 2) f rfl]
  by_cases c1 : fX9_isWalker a f = 0
  · rw [if_pos c1, if_pos c1]
  · rw [if_neg c1, if_neg c1]
    obtain ⟨b0, b1⟩ := isWalker_b c1 hf.2.2.1.1 hf.2.2.1.2
    obtain ⟨q1, q2, q3, q4⟩ := wk_eq hf hw b0 b1
    rw [q1, q2, allFelt_eq hf hh hw b0 b1]
    have e : fX3_stonesOf a (f 0) (f 1) ki hb ha = fX9_walker_86 a f 1000 0 1 := by
      have e0 : (0 : Int32).toInt = 0 := by decide
      have e8 : (8 : Int32).toInt = 8 := by decide
      have m0 := hf.2.1
      have hA := felt_4_b hf q3 q4 1000 0 1 (by decide) (by decide) (by decide) (by decide) (by decide)
      have hA0 : 0 ≤ (fX9_feltInAll a f).toInt := by have := hA.1; rw [e0] at this; exact this
      have hA1 : (fX9_feltInAll a f).toInt ≤ 600 := hA.2
      have hR := walker_86 hf b0 b1 1000 0 1 (by decide) (by decide) (by decide) (by decide) (by decide) (fun q hq => by
        have : 0 ≤ q := by rw [hq]; exact Int.ediv_nonneg hA0 (by omega)
        have e1 : (1 : Int32).toInt = 1 := by decide
        rw [e0, e1]; omega)
      have hd : (fX9_feltInAll a f / f 1).toInt = (fX9_feltInAll a f).toInt / (f 1).toInt := by
        obtain ⟨x, hx, ex, tx⟩ := i32_nat hA0
        obtain ⟨y, hy, ey, ty⟩ := i32_nat (x := f 1) (by omega)
        have hq : x / y ≤ x := Nat.div_le_self x y
        rw [← tx, ← ty, ex, ey, i32_div hx hy, nI_toInt (by omega)]
        rfl
      unfold fX3_stonesOf
      simp only [xlet_eq]
      rw [allFelt_eq hf hh hw b0 b1, if_pos (show (0 : Int32) < f 1 from Int32.lt_iff_toInt_lt.mpr (by omega))]
      apply Int32.toInt_inj.mp
      rw [hR, ← hd]
      by_cases c : fX9_feltInAll a f / f 1 < 8
      · rw [if_pos c]; have := t_lt c; omega
      · rw [if_neg c]; have := t_nlt c; omega
    rw [e]
    rfl
