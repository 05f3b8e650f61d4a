-- TOKENS: sorts of letters, values of words and numbers
def sm (x : Int32) : Prop := 97 ≤ x.toInt ∧ x.toInt ≤ 122
def dt (x : Int32) : Prop := 48 ≤ x.toInt ∧ x.toInt ≤ 57
theorem in_iff {a : Int32} {lo hi : Int64} {l h : Int} (hl : lo.toInt = l) (hh : hi.toInt = h) : (fX9_in a.toInt64 lo hi = 0) ↔ ¬ (l ≤ a.toInt ∧ a.toInt ≤ h) := by
  constructor
  · intro q ⟨h1, h2⟩
    unfold fX9_in at q
    rw [xlet_eq] at q
    rw [if_neg (by rw [lg_cmp_lt, Int64.lt_iff_toInt_lt, Int32.toInt_toInt64]; omega), if_neg (by rw [lg_cmp_gt, Int64.lt_iff_toInt_lt, Int32.toInt_toInt64]; omega)] at q
    exact absurd q (by decide)
  · intro q
    by_cases c : fX9_in a.toInt64 lo hi = 0
    · exact c
    · exact absurd (in_b c hl hh) q
theorem small_iff (x : Int32) : fX9_isSmall x = 0 ↔ ¬ sm x := in_iff (by decide) (by decide)
theorem digit_iff (x : Int32) : fX9_isDigit x = 0 ↔ ¬ dt x := in_iff (by decide) (by decide)
theorem sort_f (x : Int32) : (sm x → fX7_sortOf x = 1) ∧ (dt x → fX7_sortOf x = 2) ∧ (¬ sm x → ¬ dt x → fX7_sortOf x = 0) := by
  have e97 : (97 : Int32).toInt = 97 := by decide
  have e122 : (122 : Int32).toInt = 122 := by decide
  have e48 : (48 : Int32).toInt = 48 := by decide
  have e57 : (57 : Int32).toInt = 57 := by decide
  unfold sm dt fX7_sortOf
  rw [xlet_eq]
  by_cases c1 : x < 97
  · have k1 := t_lt c1
    rw [if_pos c1]
    by_cases c2 : x < 48
    · have k2 := t_lt c2
      rw [if_pos c2]
      exact ⟨fun h => by omega, fun h => by omega, fun _ _ => rfl⟩
    · have k2 := t_nlt c2
      rw [if_neg c2]
      by_cases c3 : (57 : Int32) < x
      · have k3 := t_lt c3
        rw [if_pos c3]
        exact ⟨fun h => by omega, fun h => by omega, fun _ _ => rfl⟩
      · have k3 := t_nlt c3
        rw [if_neg c3]
        exact ⟨fun h => by omega, fun _ => rfl, fun _ h => absurd ⟨by omega, by omega⟩ h⟩
  · have k1 := t_nlt c1
    rw [if_neg c1]
    by_cases c2 : (122 : Int32) < x
    · have k2 := t_lt c2
      rw [if_pos c2, if_neg (show ¬ x < 48 from fun q => by have := t_lt q; omega), if_pos (show (57 : Int32) < x from Int32.lt_iff_toInt_lt.mpr (by omega))]
      exact ⟨fun h => by omega, fun h => by omega, fun _ _ => rfl⟩
    · have k2 := t_nlt c2
      rw [if_neg c2]
      exact ⟨fun _ => rfl, fun h => by omega, fun h _ => absurd ⟨by omega, by omega⟩ h⟩
def dg (x : Int32) : Nat := x.toInt.toNat - 96
def rl (te : Nat → Int32) (b : Nat) : Nat → List Nat
  | 0 => []
  | k + 1 => dg (te (b + k)) :: rl te b k
def Hr : List Nat → Nat
  | [] => 0
  | d :: l => 32 * Hr l + d
def wv (te : Nat → Int32) (b k : Nat) : Int64 := if k ≤ 8 then lN (Hr (rl te b k)) else 1
def nd (te : Nat → Int32) (b : Nat) : Nat → Nat
  | 0 => 0
  | k + 1 => 10 * nd te b k + ((te (b + k)).toInt.toNat - 48)
def nv (te : Nat → Int32) (b k : Nat) : Int64 := if k ≤ 2 then lN (nd te b k) else 100
def TR (le : Int32) (te : Nat → Int32) (b e c tk st : Int32) (va : Int64) : Prop := st = b ∧ c = e ∧ (0 ≤ b.toInt ∧ b.toInt ≤ e.toInt ∧ e.toInt ≤ le.toInt) ∧ ((tk = 0 ∧ b = le ∧ e = le) ∨ (tk = 1 ∧ b.toInt < e.toInt ∧ (∀ i : Nat, b.toInt ≤ (i : Int) → (i : Int) < e.toInt → sm (te i)) ∧ va = wv te b.toInt.toNat (e.toInt.toNat - b.toInt.toNat)) ∨ (tk = 2 ∧ b.toInt < e.toInt ∧ (∀ i : Nat, b.toInt ≤ (i : Int) → (i : Int) < e.toInt → dt (te i)) ∧ va = nv te b.toInt.toNat (e.toInt.toNat - b.toInt.toNat)) ∨ (tk = 3 ∧ e.toInt = b.toInt + 1 ∧ ¬ sm (te b.toInt.toNat) ∧ ¬ dt (te b.toInt.toNat) ∧ va = (te b.toInt.toNat).toInt64))
theorem sub_l {x : Int32} {c d : Int32} {k : Nat} (hk : c.toInt = (k : Int)) (h0 : (k : Int) ≤ x.toInt) (h1 : x.toInt ≤ 255) : (x - c).toInt64 = lN (x.toInt.toNat - k) := by
  have z : (x - c).toInt = x.toInt - c.toInt := z_sub (by omega) (by omega)
  apply Int64.toInt_inj.mp
  rw [Int32.toInt_toInt64, lN_toInt (by omega), z]
  omega
theorem wv_step {te : Nat → Int32} {b k : Nat} {c b9 : Int32} (hc : c.toInt = (b + k : Nat)) (hb : b9.toInt = (b : Nat)) (hk : b + k ≤ 160) (h : sm (te (b + k))) : (if 8 ≤ (c - b9) then (1 : Int64) else ((32 * wv te b k) + ((te (b + k)) - 96).toInt64)) = wv te b (k + 1) := by
  have e8 : (8 : Int32).toInt = 8 := by decide
  have z : (c - b9).toInt = c.toInt - b9.toInt := z_sub (by omega) (by omega)
  unfold sm at h
  unfold wv
  by_cases q : 8 ≤ k
  · rw [if_pos (show (8 : Int32) ≤ c - b9 from Int32.le_iff_toInt_le.mpr (by omega)), if_neg (show ¬ k + 1 ≤ 8 by omega)]
  · rw [if_neg (show ¬ (8 : Int32) ≤ c - b9 from fun w => by have := t_le w; omega), if_pos (show k ≤ 8 by omega), if_pos (show k + 1 ≤ 8 by omega), sub_l (d := 0) (k := 96) (by decide) (by omega) (by omega)]
    show lN 32 * lN (Hr (rl te b k)) + lN _ = lN (32 * Hr (rl te b k) + dg (te (b + k)))
    rw [lN_mul, lN_add]
    rfl
theorem nv_step {te : Nat → Int32} {b k : Nat} {c b9 : Int32} (hc : c.toInt = (b + k : Nat)) (hb : b9.toInt = (b : Nat)) (hk : b + k ≤ 160) (h : dt (te (b + k))) : (if 2 ≤ (c - b9) then (100 : Int64) else ((10 * nv te b k) + ((te (b + k)) - 48).toInt64)) = nv te b (k + 1) := by
  have e2 : (2 : Int32).toInt = 2 := by decide
  have z : (c - b9).toInt = c.toInt - b9.toInt := z_sub (by omega) (by omega)
  unfold dt at h
  unfold nv
  by_cases q : 2 ≤ k
  · rw [if_pos (show (2 : Int32) ≤ c - b9 from Int32.le_iff_toInt_le.mpr (by omega)), if_neg (show ¬ k + 1 ≤ 2 by omega)]
  · rw [if_neg (show ¬ (2 : Int32) ≤ c - b9 from fun w => by have := t_le w; omega), if_pos (show k ≤ 2 by omega), if_pos (show k + 1 ≤ 2 by omega), sub_l (d := 0) (k := 48) (by decide) (by omega) (by omega)]
    show lN 10 * lN (nd te b k) + lN _ = lN (10 * nd te b k + ((te (b + k)).toInt.toNat - 48))
    rw [lN_mul, lN_add]
/-- a word runs on as long on both sides -/
theorem run_w {le b : Int32} {te te8 : Nat → Int32} (hT : rT le te le te8) (hb0 : 0 ≤ b.toInt) (hb1 : b.toInt < le.toInt) (hs : sm (te b.toInt.toNat)) : ∀ (r n m : Nat) (e : Int32) (v : Int64), r < n → r < m → b.toInt < e.toInt → e.toInt + (r : Int) = le.toInt → (∀ i : Nat, b.toInt ≤ (i : Int) → (i : Int) < e.toInt → sm (te i)) → v = wv te b.toInt.toNat (e.toInt.toNat - b.toInt.toNat) → ∃ E : Int32, fX7_readNext_80 le te8 b n e = (b, E) ∧ fX9_next_90 le te b m e v = (E, 1, b, wv te b.toInt.toNat (E.toInt.toNat - b.toInt.toNat)) ∧ e.toInt ≤ E.toInt ∧ E.toInt ≤ le.toInt ∧ ∀ i : Nat, b.toInt ≤ (i : Int) → (i : Int) < E.toInt → sm (te i) := by
  obtain ⟨-, ⟨l0, l1⟩, ht⟩ := hT
  have e1 : (1 : Int32).toInt = 1 := by decide
  have hb8 : fX4_at b te8 160 = te b.toInt.toNat := by rw [at_in (by decide) hb0 (by omega)]; exact (ht _ (by omega)).1
  have n10 : ¬ (1 : Int32) = 0 := by decide
  intro r
  induction r with
  | zero =>
    intro n m e v hn hm g0 g1 g2 g3
    obtain ⟨n, rfl⟩ : ∃ q, n = q + 1 := ⟨n - 1, by omega⟩
    obtain ⟨m, rfl⟩ : ∃ q, m = q + 1 := ⟨m - 1, by omega⟩
    have hle : le ≤ e := Int32.le_iff_toInt_le.mpr (by omega)
    refine ⟨e, ?_, ?_, by omega, by omega, g2⟩
    · rw [fX7_readNext_80, hb8, (sort_f _).1 hs, if_neg n10, if_pos hle]
    · rw [fX9_next_90, if_pos hle, g3]
  | succ r ih =>
    intro n m e v hn hm g0 g1 g2 g3
    obtain ⟨n, rfl⟩ : ∃ q, n = q + 1 := ⟨n - 1, by omega⟩
    obtain ⟨m, rfl⟩ : ∃ q, m = q + 1 := ⟨m - 1, by omega⟩
    have hle : ¬ le ≤ e := fun q => by have := t_le q; omega
    have ze : (e + 1).toInt = e.toInt + (1 : Int32).toInt := z_add (by omega) (by omega)
    have he8 : fX4_at e te8 160 = te e.toInt.toNat := by rw [at_in (by decide) (by omega) (by omega)]; exact (ht _ (by omega)).1
    by_cases c : sm (te e.toInt.toNat)
    · have hk : e.toInt.toNat = b.toInt.toNat + (e.toInt.toNat - b.toInt.toNat) := by omega
      have hst := wv_step (te := te) (b := b.toInt.toNat) (k := e.toInt.toNat - b.toInt.toNat) (c := e) (b9 := b) (by omega) (by omega) (by omega) (by rw [← hk]; exact c)
      rw [← hk, show e.toInt.toNat - b.toInt.toNat + 1 = (e + 1).toInt.toNat - b.toInt.toNat by omega] at hst
      have g2' : ∀ i : Nat, b.toInt ≤ (i : Int) → (i : Int) < (e + 1).toInt → sm (te i) := fun i h1 h2 => by
        by_cases q : i = e.toInt.toNat
        · rw [q]; exact c
        · exact g2 i h1 (by omega)
      obtain ⟨E, x1, x2, x3, x4, x5⟩ := ih n m (e + 1) (wv te b.toInt.toNat ((e + 1).toInt.toNat - b.toInt.toNat)) (by omega) (by omega) (by omega) (by omega) g2' rfl
      refine ⟨E, ?_, ?_, by omega, x4, x5⟩
      · rw [fX7_readNext_80, hb8, (sort_f _).1 hs, if_neg n10, if_neg hle, he8, (sort_f _).1 c, if_pos rfl, x1]
      · rw [fX9_next_90, if_neg hle, cn_of, if_neg (fun q => (small_iff _).mp q c), g3, hst, xlet_eq, x2]
    · have hso : ¬ fX7_sortOf (te e.toInt.toNat) = 1 := by
        by_cases d : dt (te e.toInt.toNat)
        · rw [(sort_f _).2.1 d]; decide
        · rw [(sort_f _).2.2 c d]; decide
      refine ⟨e, ?_, ?_, by omega, by omega, g2⟩
      · rw [fX7_readNext_80, hb8, (sort_f _).1 hs, if_neg n10, if_neg hle, he8, if_neg hso]
      · rw [fX9_next_90, if_neg hle, cn_of, if_pos ((small_iff _).mpr c), g3]
theorem run_n {le b : Int32} {te te8 : Nat → Int32} (hT : rT le te le te8) (hb0 : 0 ≤ b.toInt) (hb1 : b.toInt < le.toInt) (hs : dt (te b.toInt.toNat)) : ∀ (r n m : Nat) (e : Int32) (v : Int64), r < n → r < m → b.toInt < e.toInt → e.toInt + (r : Int) = le.toInt → (∀ i : Nat, b.toInt ≤ (i : Int) → (i : Int) < e.toInt → dt (te i)) → v = nv te b.toInt.toNat (e.toInt.toNat - b.toInt.toNat) → ∃ E : Int32, fX7_readNext_80 le te8 b n e = (b, E) ∧ fX9_next_193 le te b m e v = (E, 2, b, nv te b.toInt.toNat (E.toInt.toNat - b.toInt.toNat)) ∧ e.toInt ≤ E.toInt ∧ E.toInt ≤ le.toInt ∧ ∀ i : Nat, b.toInt ≤ (i : Int) → (i : Int) < E.toInt → dt (te i) := by
  obtain ⟨-, ⟨l0, l1⟩, ht⟩ := hT
  have e1 : (1 : Int32).toInt = 1 := by decide
  have hb8 : fX4_at b te8 160 = te b.toInt.toNat := by rw [at_in (by decide) hb0 (by omega)]; exact (ht _ (by omega)).1
  have n20 : ¬ (2 : Int32) = 0 := by decide
  intro r
  induction r with
  | zero =>
    intro n m e v hn hm g0 g1 g2 g3
    obtain ⟨n, rfl⟩ : ∃ q, n = q + 1 := ⟨n - 1, by omega⟩
    obtain ⟨m, rfl⟩ : ∃ q, m = q + 1 := ⟨m - 1, by omega⟩
    have hle : le ≤ e := Int32.le_iff_toInt_le.mpr (by omega)
    refine ⟨e, ?_, ?_, by omega, by omega, g2⟩
    · rw [fX7_readNext_80, hb8, (sort_f _).2.1 hs, if_neg n20, if_pos hle]
    · rw [fX9_next_193, if_pos hle, g3]
  | succ r ih =>
    intro n m e v hn hm g0 g1 g2 g3
    obtain ⟨n, rfl⟩ : ∃ q, n = q + 1 := ⟨n - 1, by omega⟩
    obtain ⟨m, rfl⟩ : ∃ q, m = q + 1 := ⟨m - 1, by omega⟩
    have hle : ¬ le ≤ e := fun q => by have := t_le q; omega
    have ze : (e + 1).toInt = e.toInt + (1 : Int32).toInt := z_add (by omega) (by omega)
    have he8 : fX4_at e te8 160 = te e.toInt.toNat := by rw [at_in (by decide) (by omega) (by omega)]; exact (ht _ (by omega)).1
    by_cases c : dt (te e.toInt.toNat)
    · have hk : e.toInt.toNat = b.toInt.toNat + (e.toInt.toNat - b.toInt.toNat) := by omega
      have hst := nv_step (te := te) (b := b.toInt.toNat) (k := e.toInt.toNat - b.toInt.toNat) (c := e) (b9 := b) (by omega) (by omega) (by omega) (by rw [← hk]; exact c)
      rw [← hk, show e.toInt.toNat - b.toInt.toNat + 1 = (e + 1).toInt.toNat - b.toInt.toNat by omega] at hst
      have g2' : ∀ i : Nat, b.toInt ≤ (i : Int) → (i : Int) < (e + 1).toInt → dt (te i) := fun i h1 h2 => by
        by_cases q : i = e.toInt.toNat
        · rw [q]; exact c
        · exact g2 i h1 (by omega)
      obtain ⟨E, x1, x2, x3, x4, x5⟩ := ih n m (e + 1) (nv te b.toInt.toNat ((e + 1).toInt.toNat - b.toInt.toNat)) (by omega) (by omega) (by omega) (by omega) g2' rfl
      refine ⟨E, ?_, ?_, by omega, x4, x5⟩
      · rw [fX7_readNext_80, hb8, (sort_f _).2.1 hs, if_neg n20, if_neg hle, he8, (sort_f _).2.1 c, if_pos rfl, x1]
      · rw [fX9_next_193, if_neg hle, cn_of, if_neg (fun q => (digit_iff _).mp q c), g3, hst, xlet_eq, x2]
    · have hso : ¬ fX7_sortOf (te e.toInt.toNat) = 2 := by
        by_cases d : sm (te e.toInt.toNat)
        · rw [(sort_f _).1 d]; decide
        · rw [(sort_f _).2.2 d c]; decide
      refine ⟨e, ?_, ?_, by omega, by omega, g2⟩
      · rw [fX7_readNext_80, hb8, (sort_f _).2.1 hs, if_neg n20, if_neg hle, he8, if_neg hso]
      · rw [fX9_next_193, if_neg hle, cn_of, if_pos ((digit_iff _).mpr c), g3]
/-- at a letter that is no blank, or at the end -/
theorem tok_at {le b : Int32} {te te8 : Nat → Int32} (hT : rT le te le te8) (hb0 : 0 ≤ b.toInt) (hb1 : b.toInt ≤ le.toInt) : ∃ (E c tk st : Int32) (va : Int64), fX7_readNext_80 le te8 b 1000 (if le < (b + 1) then le else (b + 1)) = (b, E) ∧ nxt le b te = (c, tk, st, va) ∧ TR le te b E c tk st va := by
  obtain ⟨-, ⟨l0, l1⟩, ht⟩ := id hT
  have e1 : (1 : Int32).toInt = 1 := by decide
  have zb : (b + 1).toInt = b.toInt + (1 : Int32).toInt := z_add (by omega) (by omega)
  by_cases c : b = le
  · subst c
    rw [if_pos (show b < b + 1 from Int32.lt_iff_toInt_lt.mpr (by omega))]
    refine ⟨b, b, 0, b, 0, ?_, ?_, rfl, rfl, ⟨hb0, Int.le_refl _, Int.le_refl _⟩, Or.inl ⟨rfl, rfl, rfl⟩⟩
    · rw [fX7_readNext_80]
      by_cases q : fX7_sortOf (fX4_at b te8 160) = 0
      · rw [if_pos q]
      · rw [if_neg q, if_pos (show b ≤ b from Int32.le_iff_toInt_le.mpr (Int.le_refl _))]
    · unfold nxt
      rw [if_pos rfl]
  · have k := t_neq c
    rw [if_neg (show ¬ le < b + 1 from fun q => by have := t_lt q; omega)]
    have hb8 : fX4_at b te8 160 = te b.toInt.toNat := by rw [at_in (by decide) hb0 (by omega)]; exact (ht _ (by omega)).1
    unfold nxt
    rw [if_neg c, cn_of]
    by_cases s1 : sm (te b.toInt.toNat)
    · rw [if_neg (fun q => (small_iff _).mp q s1)]
      have hst := wv_step (te := te) (b := b.toInt.toNat) (k := 0) (c := b) (b9 := b) (by omega) (by omega) (by omega) s1
      obtain ⟨E, x1, x2, x3, x4, x5⟩ := run_w hT hb0 (by omega) s1 (le.toInt - (b + 1).toInt).toNat 1000 999 (b + 1) (wv te b.toInt.toNat (0 + 1)) (by omega) (by omega) (by omega) (by omega) (fun i h1 h2 => by rw [show i = b.toInt.toNat by omega]; exact s1) (by rw [show (b + 1).toInt.toNat - b.toInt.toNat = 0 + 1 by omega])
      refine ⟨E, E, 1, b, _, x1, ?_, rfl, rfl, ⟨hb0, by omega, x4⟩, Or.inr (Or.inl ⟨rfl, by omega, x5, rfl⟩)⟩
      rw [fX9_next_90, if_neg (show ¬ le ≤ b from fun q => by have := t_le q; omega), cn_of, if_neg (fun q => (small_iff _).mp q s1)]
      have h0 : wv te b.toInt.toNat 0 = 0 := rfl
      rw [h0, Nat.add_zero] at hst
      rw [hst, xlet_eq, x2]
    · rw [if_pos ((small_iff _).mpr s1)]
      by_cases d1 : dt (te b.toInt.toNat)
      · rw [if_neg (fun q => (digit_iff _).mp q d1)]
        have hst := nv_step (te := te) (b := b.toInt.toNat) (k := 0) (c := b) (b9 := b) (by omega) (by omega) (by omega) d1
        obtain ⟨E, x1, x2, x3, x4, x5⟩ := run_n hT hb0 (by omega) d1 (le.toInt - (b + 1).toInt).toNat 1000 999 (b + 1) (nv te b.toInt.toNat (0 + 1)) (by omega) (by omega) (by omega) (by omega) (fun i h1 h2 => by rw [show i = b.toInt.toNat by omega]; exact d1) (by rw [show (b + 1).toInt.toNat - b.toInt.toNat = 0 + 1 by omega])
        refine ⟨E, E, 2, b, _, x1, ?_, rfl, rfl, ⟨hb0, by omega, x4⟩, Or.inr (Or.inr (Or.inl ⟨rfl, by omega, x5, rfl⟩))⟩
        rw [fX9_next_193, if_neg (show ¬ le ≤ b from fun q => by have := t_le q; omega), cn_of, if_neg (fun q => (digit_iff _).mp q d1)]
        have h0 : nv te b.toInt.toNat 0 = 0 := rfl
        rw [h0, Nat.add_zero] at hst
        rw [hst, xlet_eq, x2]
      · rw [if_pos ((digit_iff _).mpr d1)]
        refine ⟨b + 1, b + 1, 3, b, (te b.toInt.toNat).toInt64, ?_, rfl, rfl, rfl, ⟨hb0, by omega, by omega⟩, Or.inr (Or.inr (Or.inr ⟨rfl, by omega, s1, d1, rfl⟩))⟩
        rw [fX7_readNext_80, hb8, (sort_f _).2.2 s1 d1, if_pos rfl]
theorem tok_0 {le : Int32} {te te8 : Nat → Int32} (hT : rT le te le te8) : ∀ (n m : Nat) (b : Int32), 0 ≤ b.toInt → b.toInt ≤ le.toInt → le.toInt - b.toInt < (n : Int) → le.toInt - b.toInt < (m : Int) → ∃ (B E c tk st : Int32) (va : Int64), fX7_readNext_8 le te8 n b = (B, E) ∧ fX9_next_0 le te m b = (c, tk, st, va) ∧ TR le te B E c tk st va := by
  obtain ⟨-, ⟨l0, l1⟩, ht⟩ := id hT
  have e1 : (1 : Int32).toInt = 1 := by decide
  intro n
  induction n with
  | zero => intro m b h0 h1 h2; omega
  | succ n ih =>
    intro m b h0 h1 h2 h3
    obtain ⟨m, rfl⟩ : ∃ q, m = q + 1 := ⟨m - 1, by omega⟩
    have zb : (b + 1).toInt = b.toInt + (1 : Int32).toInt := z_add (by omega) (by omega)
    obtain ⟨E, c, tk, st, va, x1, x2, x3⟩ := tok_at hT h0 h1
    rw [rn_8_eq, next_0_eq]
    by_cases c1 : le ≤ b
    · rw [if_pos c1, if_pos c1]
      exact ⟨b, E, c, tk, st, va, x1, x2, x3⟩
    · have k1 := t_nle c1
      have hb8 : fX4_at b te8 160 = te b.toInt.toNat := by rw [at_in (by decide) h0 (by omega)]; exact (ht _ (by omega)).1
      rw [if_neg c1, if_neg c1, hb8, cn_of]
      by_cases c2 : te b.toInt.toNat = 32
      · rw [if_pos c2, if_pos c2]
        exact ih m (b + 1) (by omega) (by omega) (by omega) (by omega)
      · rw [if_neg c2, if_neg c2]
        exact ⟨b, E, c, tk, st, va, x1, x2, x3⟩
theorem tok {le e : Int32} {te te8 : Nat → Int32} (hT : rT le te le te8) (h0 : 0 ≤ e.toInt) (h1 : e.toInt ≤ le.toInt) : ∃ (B E c tk st : Int32) (va : Int64), fX7_readNext le e te8 = (B, E) ∧ fX9_next le e te = (c, tk, st, va) ∧ TR le te B E c tk st va :=
  tok_0 hT 1000 1000 e h0 h1 (by have := hT.2.1.2; omega) (by have := hT.2.1.2; omega)
