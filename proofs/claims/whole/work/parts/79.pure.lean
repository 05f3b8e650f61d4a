-- what is SEEN
def rG (many : Int32) (sg : Nat → Int32) (held : Int32) (sw sk sp : Nat → Int32) (f : Nat → Int32) : Prop := held = many ∧ (0 ≤ many.toInt ∧ many.toInt ≤ 6) ∧ ∀ i : Nat, (i : Int) < many.toInt → (sw i = sg (3 * i) ∧ sk i = sg (3 * i + 1) ∧ sp i = sg (3 * i + 2)) ∧ 0 ≤ (sg (3 * i)).toInt ∧ (sg (3 * i)).toInt < (f 2).toInt
theorem ix3 {m : Int32} (h0 : 0 ≤ m.toInt) (h6 : m.toInt ≤ 6) : (3 * m).toNatClampNeg = 3 * m.toInt.toNat ∧ ((3 * m) + 1).toNatClampNeg = 3 * m.toInt.toNat + 1 ∧ ((3 * m) + 2).toNatClampNeg = 3 * m.toInt.toNat + 2 := by
  have e1 : (1 : Int32).toInt = 1 := by decide
  have e2 : (2 : Int32).toInt = 2 := by decide
  have z3 : (3 * m).toInt = 3 * m.toInt := z_mul 3 rfl (by omega) (by omega)
  have z4 : ((3 * m) + 1).toInt = (3 * m).toInt + (1 : Int32).toInt := z_add (by omega) (by omega)
  have z5 : ((3 * m) + 2).toInt = (3 * m).toInt + (2 : Int32).toInt := z_add (by omega) (by omega)
  refine ⟨?_, ?_, ?_⟩
  · rw [cn_of, z3]; omega
  · rw [cn_of, z4, z3, e1]; omega
  · rw [cn_of, z5, z3, e2]; omega
theorem m_seen {f : Nat → Int32} {st mi wk wd : Int32} {ha ki hb : Nat → Int32} (h : rN f st mi wk wd ha ki hb) {many held : Int32} {sg sw sk sp : Nat → Int32} (hg : rG many sg held sw sk sp f) (a k p : Int32) : (fX8_seen a k p st wk held sw sk sp).1 = (fX9_seen a k p many f sg).1 ∧ rG (fX9_seen a k p many f sg).2.1 (fX9_seen a k p many f sg).2.2 (fX8_seen a k p st wk held sw sk sp).2.1 (fX8_seen a k p st wk held sw sk sp).2.2.1 (fX8_seen a k p st wk held sw sk sp).2.2.2.1 (fX8_seen a k p st wk held sw sk sp).2.2.2.2 f := by
  obtain ⟨hf, rfl, rfl, rfl, rfl, hh, hw⟩ := h
  obtain ⟨rfl, ⟨m0, m6⟩, hs⟩ := id hg
  have ek : fX8_within k 1 8 = fX9_in k.toInt64 1 8 := within_in (by decide) (by decide)
  have ep : fX8_within p 0 (f 0) = fX9_in p.toInt64 0 (f 0).toInt64 := within_in (by decide) rfl
  unfold fX8_seen fX9_seen
  rw [has_eq a (f 2) f rfl, ek, ep]
  by_cases c1 : fX9_isWalker a f = 0
  · rw [if_pos c1, if_pos c1]; exact ⟨rfl, hg⟩
  · rw [if_neg c1, if_neg c1]
    obtain ⟨b0, b1⟩ := isWalker_b c1 hf.2.2.1.1 hf.2.2.1.2
    by_cases c2 : fX9_in k.toInt64 1 8 = 0
    · rw [if_pos c2, if_pos c2]; exact ⟨rfl, hg⟩
    · rw [if_neg c2, if_neg c2]
      by_cases c3 : fX9_in p.toInt64 0 (f 0).toInt64 = 0
      · rw [if_pos c3, if_pos c3]; exact ⟨rfl, hg⟩
      · rw [if_neg c3, if_neg c3]
        have e6 : (6 : Int32).toInt = 6 := by decide
        have e1 : (1 : Int32).toInt = 1 := by decide
        by_cases c4 : held = 6
        · rw [if_pos c4, if_neg (show ¬ held < 6 by rw [c4]; decide)]
          exact ⟨rfl, hg⟩
        · have k4 := t_neq c4
          rw [if_neg c4, if_pos (show held < 6 from Int32.lt_iff_toInt_lt.mpr (by omega))]
          have zh : (held + 1).toInt = held.toInt + (1 : Int32).toInt := z_add (by omega) (by omega)
          obtain ⟨j0, j1, j2⟩ := ix3 m0 m6
          have ea : fX5_add a k p held sw sk sp = (upd sw held.toInt.toNat a, upd sk held.toInt.toNat k, upd sp held.toInt.toNat p) := by
            unfold fX5_add
            rw [put_in (by decide) m0 (by omega), put_in (by decide) m0 (by omega), put_in (by decide) m0 (by omega), xlet_eq, xlet_eq, xlet_eq]
          rw [ea, j0, j1, j2]
          refine ⟨rfl, rfl, ⟨by show 0 ≤ (held + 1).toInt; omega, by show (held + 1).toInt ≤ 6; omega⟩, fun i hi => ?_⟩
          have hi : (i : Int) < (held + 1).toInt := hi
          show (upd sw held.toInt.toNat a i = upd (upd (upd sg (3 * held.toInt.toNat) a) (3 * held.toInt.toNat + 1) k) (3 * held.toInt.toNat + 2) p (3 * i) ∧ upd sk held.toInt.toNat k i = upd (upd (upd sg (3 * held.toInt.toNat) a) (3 * held.toInt.toNat + 1) k) (3 * held.toInt.toNat + 2) p (3 * i + 1) ∧ upd sp held.toInt.toNat p i = upd (upd (upd sg (3 * held.toInt.toNat) a) (3 * held.toInt.toNat + 1) k) (3 * held.toInt.toNat + 2) p (3 * i + 2)) ∧ 0 ≤ (upd (upd (upd sg (3 * held.toInt.toNat) a) (3 * held.toInt.toNat + 1) k) (3 * held.toInt.toNat + 2) p (3 * i)).toInt ∧ (upd (upd (upd sg (3 * held.toInt.toNat) a) (3 * held.toInt.toNat + 1) k) (3 * held.toInt.toNat + 2) p (3 * i)).toInt < (f 2).toInt
          have hq : (held.toInt.toNat : Int) = held.toInt := by omega
          have hi2 : (i : Int) < held.toInt + 1 := by omega
          generalize held.toInt.toNat = q at hq ⊢
          by_cases e : i = q
          · subst e
            rw [upd_at, upd_at, upd_at, upd_ne _ _ (show 3 * i ≠ 3 * i + 2 by omega), upd_ne _ _ (show 3 * i ≠ 3 * i + 1 by omega), upd_at, upd_ne _ _ (show 3 * i + 1 ≠ 3 * i + 2 by omega), upd_at, upd_at]
            exact ⟨⟨rfl, rfl, rfl⟩, b0, b1⟩
          · rw [upd_ne _ _ e, upd_ne _ _ e, upd_ne _ _ e, upd_ne _ _ (show 3 * i ≠ 3 * q + 2 by omega), upd_ne _ _ (show 3 * i ≠ 3 * q + 1 by omega), upd_ne _ _ (show 3 * i ≠ 3 * q by omega), upd_ne _ _ (show 3 * i + 1 ≠ 3 * q + 2 by omega), upd_ne _ _ (show 3 * i + 1 ≠ 3 * q + 1 by omega), upd_ne _ _ (show 3 * i + 1 ≠ 3 * q by omega), upd_ne _ _ (show 3 * i + 2 ≠ 3 * q + 2 by omega), upd_ne _ _ (show 3 * i + 2 ≠ 3 * q + 1 by omega), upd_ne _ _ (show 3 * i + 2 ≠ 3 * q by omega)]
            exact hs i (by omega)
theorem rG_0 {sg sw sk sp f : Nat → Int32} : rG 0 sg 0 sw sk sp f := ⟨rfl, ⟨by decide, by decide⟩, fun i hi => absurd hi (by rw [show (0 : Int32).toInt = 0 by decide]; omega)⟩
theorem rG_f {many held : Int32} {sg sw sk sp f f2 : Nat → Int32} (h : rG many sg held sw sk sp f) (e : f2 2 = f 2) : rG many sg held sw sk sp f2 := by
  unfold rG
  rw [e]
  exact h
/-- one sight, read on both sides -/
theorem sight {many held : Int32} {sg sw sk sp f : Nat → Int32} (hg : rG many sg held sw sk sp f) {v : Int32} (h0 : 0 ≤ v.toInt) (h1 : v.toInt < many.toInt) : fX4_at v sw 6 = sg (3 * v).toNatClampNeg ∧ fX4_at v sk 6 = sg ((3 * v) + 1).toNatClampNeg ∧ fX4_at v sp 6 = sg ((3 * v) + 2).toNatClampNeg ∧ 0 ≤ (sg (3 * v).toNatClampNeg).toInt ∧ (sg (3 * v).toNatClampNeg).toInt < (f 2).toInt := by
  obtain ⟨-, ⟨m0, m6⟩, hs⟩ := hg
  obtain ⟨j0, j1, j2⟩ := ix3 (m := v) h0 (by omega)
  have h := hs v.toInt.toNat (by omega)
  rw [at_in (by decide) h0 (by omega), at_in (by decide) h0 (by omega), at_in (by decide) h0 (by omega), j0, j1, j2]
  exact ⟨h.1.1, h.1.2.1, h.1.2.2, h.2⟩
theorem fits_eq {f ha hb : Nat → Int32} (hf : gR f) (hh : ∀ i : Nat, i < (f 0).toInt.toNat → ha (i + 1) = f (4 + i)) (hw : ∀ i : Nat, i < (f 2).toInt.toNat → hb i = f (30 + i)) {many held : Int32} {sg sw sk sp : Nat → Int32} (hg : rG many sg held sw sk sp f) {v kind mile : Int32} (h0 : 0 ≤ v.toInt) (h1 : v.toInt < many.toInt) (hk : 0 ≤ kind.toInt ∧ kind.toInt ≤ 3) : fX5_fits v kind mile (f 0) sw hb sk ha sp = if fX9_stoneBy kind (f (30 + (sg (3 * v).toNatClampNeg)).toNatClampNeg) (sg ((3 * v) + 1).toNatClampNeg) mile f = sg ((3 * v) + 2).toNatClampNeg then 1 else 0 := by
  obtain ⟨s1, s2, s3, s4, s5⟩ := sight hg h0 h1
  have h6 := hf.2.2.1.2
  have gb := hf.2.2.2.2.2 (sg (3 * v).toNatClampNeg).toInt.toNat (by omega)
  have ehb : fX4_at (sg (3 * v).toNatClampNeg) hb 6 = f (30 + (sg (3 * v).toNatClampNeg)).toNatClampNeg := by
    rw [at_in (by decide) s4 (by omega), ix_add 30 30 (by decide) (by decide) s4 (by omega)]
    exact hw _ (by omega)
  rw [← ix_add 30 30 (by decide) (by decide) s4 (by omega)] at gb
  unfold fX5_fits
  rw [s1, s2, s3, ehb, place_eq hf hh _ mile hk gb.2.1, xlet_eq]
theorem what_31 {f ha hb : Nat → Int32} (hf : gR f) (hh : ∀ i : Nat, i < (f 0).toInt.toNat → ha (i + 1) = f (4 + i)) (hw : ∀ i : Nat, i < (f 2).toInt.toNat → hb i = f (30 + i)) {many held : Int32} {sg sw sk sp : Nat → Int32} (hg : rG many sg held sw sk sp f) (a kind v2 : Int32) (k20 : Int32 → Int32 → Int32) (hk : 0 ≤ kind.toInt ∧ kind.toInt ≤ 3) : ∀ (n : Nat) (is v : Int32), 0 ≤ v.toInt → v.toInt ≤ many.toInt → many.toInt - v.toInt < (n : Int) → fX9_what_31 a many f sg kind v2 k20 n is v = k20 (v2 ||| (if (if is = 0 then (0 : Int32) else fX5_fitKind_3 a kind held sw (f 0) (f 1) hb sk ha sp n v) = 0 then 0 else ((1 : Int32) <<< (kind &&& 31)))) (kind + 1) := by
  obtain ⟨rfl, ⟨m0, m6⟩, hs⟩ := id hg
  have e1 : (1 : Int32).toInt = 1 := by decide
  have n10 : ¬ (1 : Int32) = 0 := by decide
  intro n
  induction n with
  | zero => intro is v h0 h1 h2; omega
  | succ n ih =>
    intro is v h0 h1 h2
    rw [fX9_what_31, fX5_fitKind_3]
    by_cases c1 : held ≤ v
    · rw [if_pos c1, if_pos c1, xlet_eq]
      by_cases c2 : is = 0
      · rw [if_pos c2, if_pos c2, if_pos rfl]
      · rw [if_neg c2, if_neg c2, if_neg n10]
    · rw [if_neg c1, if_neg c1]
      have k1 := t_nle c1
      have zv : (v + 1).toInt = v.toInt + (1 : Int32).toInt := z_add (by omega) (by omega)
      obtain ⟨s1, s2, s3, s4, s5⟩ := sight hg h0 k1
      have hft := fits_eq hf hh hw hg (v := v) (kind := kind) (mile := f 1) h0 k1 hk
      rw [s1, xlet_eq, ih _ (v + 1) (by omega) (by omega) (by omega)]
      by_cases c2 : is = 0
      · rw [if_pos c2, if_pos rfl, if_pos c2]
      · rw [if_neg c2, if_neg c2]
        by_cases c3 : sg (3 * v).toNatClampNeg = a
        · rw [if_pos c3, if_pos c3, hft, c3]
        · rw [if_neg c3, if_neg c3, if_neg n10]
theorem what_20 {f ha hb : Nat → Int32} (hf : gR f) (hh : ∀ i : Nat, i < (f 0).toInt.toNat → ha (i + 1) = f (4 + i)) (hw : ∀ i : Nat, i < (f 2).toInt.toNat → hb i = f (30 + i)) {many held : Int32} {sg sw sk sp : Nat → Int32} (hg : rG many sg held sw sk sp f) (a : Int32) : ∀ (n : Nat) (v2 kind : Int32), 0 ≤ kind.toInt → kind.toInt ≤ 4 → fX8_what_18 a (f 0) (f 1) held sw hb sk ha sp n v2 kind = fX9_what_20 a many f sg n v2 kind := by
  have e1 : (1 : Int32).toInt = 1 := by decide
  have e3 : (3 : Int32).toInt = 3 := by decide
  have n10 : ¬ (1 : Int32) = 0 := by decide
  intro n
  induction n with
  | zero => intro v2 kind h0 h1; rfl
  | succ n ih =>
    intro v2 kind h0 h1
    rw [fX8_what_18, fX9_what_20]
    by_cases c1 : (3 : Int32) < kind
    · rw [if_pos c1, if_pos c1]
    · rw [if_neg c1, if_neg c1]
      have k1 := t_nlt c1
      have zk : (kind + 1).toInt = kind.toInt + (1 : Int32).toInt := z_add (by omega) (by omega)
      have hm := hg.2.1
      rw [what_31 hf hh hw hg a kind v2 _ ⟨h0, by omega⟩ 1000 1 0 (by decide) (by rw [show (0 : Int32).toInt = 0 by decide]; omega) (by rw [show (0 : Int32).toInt = 0 by decide]; omega), if_neg n10]
      show (if fX5_fitKind_3 a kind held sw (f 0) (f 1) hb sk ha sp 1000 0 = 0 then fX8_what_18 a (f 0) (f 1) held sw hb sk ha sp n v2 (kind + 1) else fX8_what_18 a (f 0) (f 1) held sw hb sk ha sp n (v2 ||| ((1 : Int32) <<< (kind &&& 31))) (kind + 1)) = fX9_what_20 a many f sg n (v2 ||| (if fX5_fitKind_3 a kind held sw (f 0) (f 1) hb sk ha sp 1000 0 = 0 then 0 else ((1 : Int32) <<< (kind &&& 31)))) (kind + 1)
      by_cases c2 : fX5_fitKind_3 a kind held sw (f 0) (f 1) hb sk ha sp 1000 0 = 0
      · rw [if_pos c2, if_pos c2, Int32.or_zero]
        exact ih _ _ (by omega) (by omega)
      · rw [if_neg c2, if_neg c2]
        exact ih _ _ (by omega) (by omega)
theorem m_what {f : Nat → Int32} {st mi wk wd : Int32} {ha ki hb : Nat → Int32} (h : rN f st mi wk wd ha ki hb) {many held : Int32} {sg sw sk sp : Nat → Int32} (hg : rG many sg held sw sk sp f) (a : Int32) : fX8_what a st mi wk held sw hb sk ha sp = fX9_what a many f sg := by
  obtain ⟨hf, rfl, rfl, rfl, rfl, hh, hw⟩ := h
  unfold fX8_what fX9_what
  rw [has_eq a (f 2) f rfl]
  by_cases c1 : fX9_isWalker a f = 0
  · rw [if_pos c1, if_pos c1]
  · rw [if_neg c1, if_neg c1]
    exact what_20 hf hh (fun i hi => (hw i hi).2) hg a 1000 0 0 (by decide) (by decide)
-- MILES
theorem miles_37 {f ha ki hb : Nat → Int32} (hf : gR f) (hh : ∀ i : Nat, i < (f 0).toInt.toNat → ha (i + 1) = f (4 + i)) (hw : ∀ i : Nat, i < (f 2).toInt.toNat → ki i = f (24 + i) ∧ hb i = f (30 + i)) {many held : Int32} {sg sw sk sp : Nat → Int32} (hg : rG many sg held sw sk sp f) (m v3 v2 : Int32) (k26 : Int32 → Int32 → Int32 → Int32) : ∀ (n : Nat) (is v : Int32), 0 ≤ v.toInt → v.toInt ≤ many.toInt → many.toInt - v.toInt < (n : Int) → fX9_miles_37 many sg f m v3 v2 k26 n is v = (if (if is = 0 then (0 : Int32) else fX5_fitMile_2 m held (f 0) sw ki hb sk ha sp n v) = 0 then k26 (v2 + 0) v3 (m + (-1)) else k26 (v2 + 1) m (m + (-1))) := by
  obtain ⟨rfl, ⟨m0, m6⟩, hs⟩ := id hg
  have e1 : (1 : Int32).toInt = 1 := by decide
  have n10 : ¬ (1 : Int32) = 0 := by decide
  intro n
  induction n with
  | zero => intro is v h0 h1 h2; omega
  | succ n ih =>
    intro is v h0 h1 h2
    rw [fX9_miles_37, fX5_fitMile_2]
    by_cases c1 : held ≤ v
    · rw [if_pos c1, if_pos c1, xlet_eq, xlet_eq]
      by_cases c2 : is = 0
      · rw [if_pos c2, if_pos c2, if_pos rfl]
      · rw [if_neg c2, if_neg c2, if_neg n10]
    · rw [if_neg c1, if_neg c1]
      have k1 := t_nle c1
      have zv : (v + 1).toInt = v.toInt + (1 : Int32).toInt := z_add (by omega) (by omega)
      obtain ⟨s1, s2, s3, s4, s5⟩ := sight hg h0 k1
      obtain ⟨q1, q2, q3, q4⟩ := wk_eq hf hw s4 s5
      have hft := fits_eq hf hh (fun i hi => (hw i hi).2) hg (v := v) (kind := f (24 + (sg (3 * v).toNatClampNeg)).toNatClampNeg) (mile := m) h0 k1 q3
      rw [s1, q1, hft, xlet_eq, ih _ (v + 1) (by omega) (by omega) (by omega)]
      by_cases c2 : is = 0
      · rw [if_pos c2, if_pos rfl, if_pos c2]
      · rw [if_neg c2, if_neg c2]
theorem miles_26 {f ha ki hb : Nat → Int32} (hf : gR f) (hh : ∀ i : Nat, i < (f 0).toInt.toNat → ha (i + 1) = f (4 + i)) (hw : ∀ i : Nat, i < (f 2).toInt.toNat → ki i = f (24 + i) ∧ hb i = f (30 + i)) {many held : Int32} {sg sw sk sp : Nat → Int32} (hg : rG many sg held sw sk sp f) (a : Int32) : ∀ (n : Nat) (v2 v3 m : Int32), fX8_miles_20 a held (f 0) sw ki hb sk ha sp n v2 v3 m = fX9_miles_26 a many sg f n v2 v3 m := by
  have e1 : (1 : Int32).toInt = 1 := by decide
  have e0 : (0 : Int32).toInt = 0 := by decide
  have n10 : ¬ (1 : Int32) = 0 := by decide
  intro n
  induction n with
  | zero => intro v2 v3 m; rfl
  | succ n ih =>
    intro v2 v3 m
    rw [fX8_miles_20, fX9_miles_26]
    by_cases c1 : m < 1
    · rw [if_pos c1, if_pos (show m ≤ 0 from Int32.le_iff_toInt_le.mpr (by have := t_lt c1; omega))]
    · rw [if_neg c1, if_neg (show ¬ m ≤ 0 from fun q => by have := t_le q; have := t_nlt c1; omega)]
      have hm := hg.2.1
      rw [miles_37 hf hh hw hg m v3 v2 _ 1000 1 0 (by decide) (by rw [e0]; omega) (by rw [e0]; omega), if_neg n10, Int32.add_zero]
      show (if fX5_fitMile_2 m held (f 0) sw ki hb sk ha sp 1000 0 = 0 then fX8_miles_20 a held (f 0) sw ki hb sk ha sp n v2 v3 (m + (-1)) else fX8_miles_20 a held (f 0) sw ki hb sk ha sp n (v2 + 1) m (m + (-1))) = _
      rw [ih, ih]
theorem m_miles {f : Nat → Int32} {st mi wk wd : Int32} {ha ki hb : Nat → Int32} (h : rN f st mi wk wd ha ki hb) {many held : Int32} {sg sw sk sp : Nat → Int32} (hg : rG many sg held sw sk sp f) (a : Int32) : fX8_miles a held st sw ki hb sk ha sp = fX9_miles a many sg f := by
  obtain ⟨hf, rfl, rfl, rfl, rfl, hh, hw⟩ := h
  have ea : fX8_within a 0 1 = fX9_in a.toInt64 0 1 := within_in (by decide) (by decide)
  unfold fX8_miles fX9_miles
  rw [ea]
  by_cases c1 : fX9_in a.toInt64 0 1 = 0
  · rw [if_pos c1, if_pos c1]
  · rw [if_neg c1, if_neg c1]
    exact miles_26 hf hh hw hg a 1000 0 (-1) 40
