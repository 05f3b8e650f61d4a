-- THE PAST: what can be undone
def sq (was f : Nat → Int32) (n i j : Nat) : Int32 := if i = n then f j else was (36 * i + j)
def UR (d p o : Int32) (cur prev : Nat → Int32) : Prop := (d = 0 ∧ (0 ≤ p.toInt ∧ p.toInt < (cur 2).toInt) ∧ prev 3 = fX3_setWalked p o (cur 3) ∧ ∀ j : Nat, j < 36 → j ≠ 3 → prev j = cur j) ∨ (d = 1 ∧ (1 ≤ p.toInt ∧ p.toInt ≤ (cur 0).toInt ∧ p.toInt ≤ 20) ∧ prev (3 + p.toInt.toNat) = o ∧ ∀ j : Nat, j < 36 → j ≠ 3 + p.toInt.toNat → prev j = cur j) ∨ (d = 2 ∧ prev 1 = o ∧ ∀ j : Nat, j < 36 → j ≠ 1 → prev j = cur j)
def rP (acts : Int32) (was f : Nat → Int32) (held : Int32) (de pl ol : Nat → Int32) : Prop := held = acts ∧ (0 ≤ acts.toInt ∧ acts.toInt ≤ 8) ∧ ∀ i : Nat, (i : Int) < acts.toInt → UR (de i) (pl i) (ol i) (sq was f acts.toInt.toNat (i + 1)) (sq was f acts.toInt.toNat i) ∧ gR (sq was f acts.toInt.toNat i)
theorem gR_cong {f g : Nat → Int32} (h : ∀ j : Nat, j < 36 → g j = f j) (hf : gR f) : gR g := by
  obtain ⟨a, b, c, d, e, k⟩ := hf
  have g0 := h 0 (by decide)
  have g1 := h 1 (by decide)
  have g2 := h 2 (by decide)
  have g3 := h 3 (by decide)
  unfold gR
  rw [g0, g1, g2, g3]
  refine ⟨a, b, c, d, fun i hi => ?_, fun i hi => ?_⟩
  · rw [h (4 + i) (by omega)]; exact e i hi
  · rw [h (24 + i) (by omega), h (30 + i) (by omega)]; exact k i hi
theorem UR_cong {d p o : Int32} {c c2 q q2 : Nat → Int32} (hc : ∀ j : Nat, j < 36 → c2 j = c j) (hq : ∀ j : Nat, j < 36 → q2 j = q j) (h : UR d p o c q) : UR d p o c2 q2 := by
  have c0 := hc 0 (by decide)
  have cc2 := hc 2 (by decide)
  have c3 := hc 3 (by decide)
  rcases h with ⟨h1, h2, h3, h4⟩ | ⟨h1, h2, h3, h4⟩ | ⟨h1, h3, h4⟩
  · exact Or.inl ⟨h1, by rw [cc2]; exact h2, by rw [hq 3 (by decide), c3]; exact h3, fun j hj hn => by rw [hq j hj, hc j hj]; exact h4 j hj hn⟩
  · exact Or.inr (Or.inl ⟨h1, by rw [c0]; exact h2, by rw [hq _ (by omega)]; exact h3, fun j hj hn => by rw [hq j hj, hc j hj]; exact h4 j hj hn⟩)
  · exact Or.inr (Or.inr ⟨h1, by rw [hq 1 (by decide)]; exact h3, fun j hj hn => by rw [hq j hj, hc j hj]; exact h4 j hj hn⟩)
-- the reference keeps a slice
theorem ix36 {n v : Int32} (h0 : 0 ≤ n.toInt) (h8 : n.toInt ≤ 8) (v0 : 0 ≤ v.toInt) (v1 : v.toInt ≤ 300) : ((36 * n) + v).toNatClampNeg = 36 * n.toInt.toNat + v.toInt.toNat := by
  have z3 : (36 * n).toInt = 36 * n.toInt := z_mul 36 rfl (by omega) (by omega)
  have z4 : ((36 * n) + v).toInt = (36 * n).toInt + v.toInt := z_add (by omega) (by omega)
  rw [cn_of, z4, z3]; omega
theorem ka_51 (f : Nat → Int32) (n : Int32) (h0 : 0 ≤ n.toInt) (h7 : n.toInt ≤ 7) : ∀ (r k : Nat) (was : Nat → Int32) (v : Int32), r < k → 0 ≤ v.toInt → v.toInt + (r : Int) = 36 → (fX9_keepAct_51 f k was v n).1 = n + 1 ∧ ∀ i : Nat, (fX9_keepAct_51 f k was v n).2 i = if 36 * n.toInt.toNat + v.toInt.toNat ≤ i ∧ i < 36 * n.toInt.toNat + 36 then f (i - 36 * n.toInt.toNat) else was i := by
  have e1 : (1 : Int32).toInt = 1 := by decide
  have e36 : (36 : Int32).toInt = 36 := by decide
  intro r
  induction r with
  | zero =>
    intro k was v hr g0 g1
    obtain ⟨k, rfl⟩ : ∃ q, k = q + 1 := ⟨k - 1, by omega⟩
    rw [fX9_keepAct_51, if_pos (show (36 : Int32) ≤ v from Int32.le_iff_toInt_le.mpr (by omega))]
    exact ⟨rfl, fun i => by rw [if_neg (by omega)]⟩
  | succ r ih =>
    intro k was v hr g0 g1
    obtain ⟨k, rfl⟩ : ∃ q, k = q + 1 := ⟨k - 1, by omega⟩
    have zv : (v + 1).toInt = v.toInt + (1 : Int32).toInt := z_add (by omega) (by omega)
    rw [fX9_keepAct_51, if_neg (show ¬ (36 : Int32) ≤ v from fun q => by have := t_le q; omega)]
    obtain ⟨a, b⟩ := ih k (upd was ((36 * n) + v).toNatClampNeg (f v.toNatClampNeg)) (v + 1) (by omega) (by omega) (by omega)
    refine ⟨a, fun i => ?_⟩
    rw [b i, ix36 h0 (by omega) g0 (by omega), cn_of]
    by_cases q : i = 36 * n.toInt.toNat + v.toInt.toNat
    · rw [if_neg (by omega), if_pos (by omega), q, upd_at]
      congr 1
      omega
    · rw [upd_ne _ _ q]
      by_cases q2 : 36 * n.toInt.toNat + (v + 1).toInt.toNat ≤ i ∧ i < 36 * n.toInt.toNat + 36
      · rw [if_pos q2, if_pos (by omega)]
      · rw [if_neg q2, if_neg (by omega)]
theorem ka_11 (f : Nat → Int32) (n : Int32) : ∀ (r k : Nat) (was : Nat → Int32) (v : Int32), r < k → 0 ≤ v.toInt → v.toInt + (r : Int) = 252 → ∃ was2 : Nat → Int32, fX9_keepAct_11 n f k was v = fX9_keepAct_51 f 1000 was2 0 (n - 1) ∧ ∀ i : Nat, was2 i = if v.toInt.toNat ≤ i ∧ i < 252 then was (i + 36) else was i := by
  have e1 : (1 : Int32).toInt = 1 := by decide
  have e36 : (36 : Int32).toInt = 36 := by decide
  have e252 : (252 : Int32).toInt = 252 := by decide
  intro r
  induction r with
  | zero =>
    intro k was v hr g0 g1
    obtain ⟨k, rfl⟩ : ∃ q, k = q + 1 := ⟨k - 1, by omega⟩
    rw [fX9_keepAct_11, if_pos (show (252 : Int32) ≤ v from Int32.le_iff_toInt_le.mpr (by omega))]
    exact ⟨was, rfl, fun i => by rw [if_neg (by omega)]⟩
  | succ r ih =>
    intro k was v hr g0 g1
    obtain ⟨k, rfl⟩ : ∃ q, k = q + 1 := ⟨k - 1, by omega⟩
    have zv : (v + 1).toInt = v.toInt + (1 : Int32).toInt := z_add (by omega) (by omega)
    have zw : (v + 36).toInt = v.toInt + (36 : Int32).toInt := z_add (by omega) (by omega)
    have zc : (v + 36).toNatClampNeg = v.toInt.toNat + 36 := by rw [cn_of, zw, e36]; omega
    rw [fX9_keepAct_11, if_neg (show ¬ (252 : Int32) ≤ v from fun q => by have := t_le q; omega)]
    obtain ⟨w2, a, b⟩ := ih k (upd was v.toNatClampNeg (was (v + 36).toNatClampNeg)) (v + 1) (by omega) (by omega) (by omega)
    refine ⟨w2, a, fun i => ?_⟩
    rw [b i, zc, cn_of]
    by_cases q : i = v.toInt.toNat
    · rw [if_neg (by omega), if_pos (by omega), q, upd_at]
    · rw [upd_ne _ _ q]
      by_cases q2 : (v + 1).toInt.toNat ≤ i ∧ i < 252
      · rw [if_pos q2, if_pos (by omega), upd_ne _ _ (by omega)]
      · rw [if_neg q2, if_neg (by omega)]
/-- behind keepAct: so many slices, each the old one (shifted, if all were full), the last one is the road -/
theorem keepAct_sq {acts : Int32} (was f f2 : Nat → Int32) (h0 : 0 ≤ acts.toInt) (h8 : acts.toInt ≤ 8) : ∃ n s : Nat, (fX9_keepAct acts was f).1.toInt = (n : Int) ∧ n + s = acts.toInt.toNat + 1 ∧ n ≤ 8 ∧ (s = 0 ∧ acts.toInt < 8 ∨ s = 1 ∧ acts.toInt = 8) ∧ ∀ i j : Nat, i < n → j < 36 → sq (fX9_keepAct acts was f).2 f2 n i j = sq was f acts.toInt.toNat (i + s) j := by
  have e1 : (1 : Int32).toInt = 1 := by decide
  have e0 : (0 : Int32).toInt = 0 := by decide
  have e8 : (8 : Int32).toInt = 8 := by decide
  unfold fX9_keepAct
  by_cases c : acts = 8
  · rw [if_pos c]
    have ha : acts.toInt = 8 := by rw [c]; decide
    have zm : (acts - 1).toInt = acts.toInt - (1 : Int32).toInt := z_sub (by omega) (by omega)
    have zp : (acts - 1 + 1).toInt = (acts - 1).toInt + (1 : Int32).toInt := z_add (by omega) (by omega)
    obtain ⟨w2, e, hw⟩ := ka_11 f acts 252 1000 was 0 (by omega) (by decide) (by decide)
    rw [e]
    obtain ⟨a, b⟩ := ka_51 f (acts - 1) (by omega) (by omega) 36 1000 w2 0 (by omega) (by decide) (by decide)
    refine ⟨8, 1, by rw [a]; omega, by omega, by omega, Or.inr ⟨rfl, ha⟩, fun i j hi hj => ?_⟩
    unfold sq
    rw [if_neg (by omega), b, hw]
    by_cases q : i = 7
    · rw [if_pos (by omega), if_pos (by omega)]
      exact congrArg f (by omega)
    · rw [if_neg (by omega), if_pos (by omega), if_neg (by omega)]
      exact congrArg was (by omega)
  · have k := t_neq c
    rw [if_neg c]
    have zp : (acts + 1).toInt = acts.toInt + (1 : Int32).toInt := z_add (by omega) (by omega)
    obtain ⟨a, b⟩ := ka_51 f acts (by omega) (by omega) 36 1000 was 0 (by omega) (by decide) (by decide)
    refine ⟨acts.toInt.toNat + 1, 0, by rw [a]; omega, by omega, by omega, Or.inl ⟨rfl, by omega⟩, fun i j hi hj => ?_⟩
    unfold sq
    rw [if_neg (by omega), b]
    by_cases q : i = acts.toInt.toNat
    · rw [if_pos (by omega), if_pos (by omega)]
      exact congrArg f (by omega)
    · rw [if_neg (by omega), if_neg (by omega), Nat.add_zero]
-- the class's rows of deeds
theorem shift_2 : ∀ (r k : Nat) (g : Nat → Int32) (v : Int32), r < k → 1 ≤ v.toInt → v.toInt + (r : Int) = 8 → ∀ i : Nat, fX4_shift_2 8 k g v i = if v.toInt.toNat ≤ i + 1 ∧ i < 7 then g (i + 1) else g i := by
  have e1 : (1 : Int32).toInt = 1 := by decide
  have e8 : (Int32.ofNat 8).toInt = 8 := by decide
  intro r
  induction r with
  | zero =>
    intro k g v hr g0 g1 i
    obtain ⟨k, rfl⟩ : ∃ q, k = q + 1 := ⟨k - 1, by omega⟩
    rw [fX4_shift_2, if_pos (show Int32.ofNat 8 ≤ v from Int32.le_iff_toInt_le.mpr (by omega)), if_neg (by omega)]
  | succ r ih =>
    intro k g v hr g0 g1 i
    obtain ⟨k, rfl⟩ : ∃ q, k = q + 1 := ⟨k - 1, by omega⟩
    have zv : (v + 1).toInt = v.toInt + (1 : Int32).toInt := z_add (by omega) (by omega)
    have zm : (v - 1).toInt = v.toInt - (1 : Int32).toInt := z_sub (by omega) (by omega)
    rw [fX4_shift_2, if_neg (show ¬ Int32.ofNat 8 ≤ v from fun q => by have := t_le q; omega), ih k _ (v + 1) (by omega) (by omega) (by omega) i, cn_of, cn_of, zm]
    by_cases q : i + 1 = v.toInt.toNat
    · rw [if_neg (by omega), if_pos (by omega), show (v.toInt - (1 : Int32).toInt).toNat = i by omega, upd_at, q]
    · by_cases q2 : (v + 1).toInt.toNat ≤ i + 1 ∧ i < 7
      · rw [if_pos q2, if_pos (by omega), upd_ne _ _ (by omega)]
      · rw [if_neg q2, if_neg (by omega), upd_ne _ _ (by omega)]
theorem shift_f (g : Nat → Int32) (i : Nat) (hi : i < 7) : fX4_shift g 8 i = g (i + 1) := by
  have h := shift_2 7 1000 g 1 (by omega) (by decide) (by decide) i
  rw [if_pos ⟨by rw [show (1 : Int32).toInt.toNat = 1 by decide]; omega, hi⟩] at h
  exact h
theorem add_f {held d p o : Int32} (de pl ol : Nat → Int32) (h0 : 0 ≤ held.toInt) (h8 : held.toInt ≤ 8) : ∃ n s : Nat, (fX1_add d p o held de pl ol).1.toInt = (n : Int) ∧ n + s = held.toInt.toNat + 1 ∧ n ≤ 8 ∧ (s = 0 ∧ held.toInt < 8 ∨ s = 1 ∧ held.toInt = 8) ∧ ∀ i : Nat, i < n → (fX1_add d p o held de pl ol).2.1 i = (if i + 1 = n then d else de (i + s)) ∧ (fX1_add d p o held de pl ol).2.2.1 i = (if i + 1 = n then p else pl (i + s)) ∧ (fX1_add d p o held de pl ol).2.2.2 i = (if i + 1 = n then o else ol (i + s)) := by
  have e1 : (1 : Int32).toInt = 1 := by decide
  have e8 : (8 : Int32).toInt = 8 := by decide
  unfold fX1_add
  by_cases c : held < 8
  · rw [if_pos c]
    have k := t_lt c
    rw [put_in (by decide) h0 (by omega), put_in (by decide) h0 (by omega), put_in (by decide) h0 (by omega), xlet_eq, xlet_eq, xlet_eq]
    have zp : (held + 1).toInt = held.toInt + (1 : Int32).toInt := z_add (by omega) (by omega)
    refine ⟨held.toInt.toNat + 1, 0, by show (held + 1).toInt = _; omega, by omega, by omega, Or.inl ⟨rfl, by omega⟩, fun i hi => ?_⟩
    show upd de held.toInt.toNat d i = _ ∧ upd pl held.toInt.toNat p i = _ ∧ upd ol held.toInt.toNat o i = _
    by_cases q : i = held.toInt.toNat
    · subst q
      rw [upd_at, upd_at, upd_at, if_pos rfl, if_pos rfl, if_pos rfl]
      exact ⟨rfl, rfl, rfl⟩
    · rw [upd_ne _ _ q, upd_ne _ _ q, upd_ne _ _ q, if_neg (by omega), if_neg (by omega), if_neg (by omega)]
      exact ⟨rfl, rfl, rfl⟩
  · rw [if_neg c]
    have k := t_nlt c
    have p7 : ∀ (x : Int32) (g : Nat → Int32), fX4_put 7 x g 8 = upd g 7 x := fun x g => put_in (v := 7) (by decide) (by decide) (by decide)
    rw [xlet_eq, xlet_eq, xlet_eq, xlet_eq, xlet_eq, xlet_eq, p7, p7, p7]
    refine ⟨8, 1, by show ((7 : Int32) + 1).toInt = _; decide, by omega, by omega, Or.inr ⟨rfl, by omega⟩, fun i hi => ?_⟩
    show upd (fX4_shift de 8) 7 d i = _ ∧ upd (fX4_shift pl 8) 7 p i = _ ∧ upd (fX4_shift ol 8) 7 o i = _
    by_cases q : i = 7
    · subst q
      rw [upd_at, upd_at, upd_at, if_pos rfl, if_pos rfl, if_pos rfl]
      exact ⟨rfl, rfl, rfl⟩
    · rw [upd_ne _ _ q, upd_ne _ _ q, upd_ne _ _ q, if_neg (by omega), if_neg (by omega), if_neg (by omega), shift_f _ _ (by omega), shift_f _ _ (by omega), shift_f _ _ (by omega)]
      exact ⟨rfl, rfl, rfl⟩
theorem rP_push {acts held d p o : Int32} {was f f2 de pl ol : Nat → Int32} (h : rP acts was f held de pl ol) (hf : gR f) (hu : UR d p o f2 f) : rP (fX9_keepAct acts was f).1 (fX9_keepAct acts was f).2 f2 (fX1_add d p o held de pl ol).1 (fX1_add d p o held de pl ol).2.1 (fX1_add d p o held de pl ol).2.2.1 (fX1_add d p o held de pl ol).2.2.2 := by
  obtain ⟨rfl, ⟨h0, h8⟩, hs⟩ := h
  obtain ⟨n, s, a1, a2, a3, a4, a5⟩ := keepAct_sq was f f2 h0 h8
  obtain ⟨n2, s2, b1, b2, b3, b4, b5⟩ := add_f (d := d) (p := p) (o := o) de pl ol h0 h8
  have es : s2 = s := by omega
  subst es
  have en : n2 = n := by omega
  subst en
  refine ⟨Int32.toInt_inj.mp (by omega), ⟨by omega, by omega⟩, fun i hi => ?_⟩
  have hn : (fX9_keepAct held was f).1.toInt.toNat = n2 := by omega
  rw [hn]
  have hi2 : i < n2 := by omega
  obtain ⟨c1, c2, c3⟩ := b5 i hi2
  rw [c1, c2, c3]
  have hlow : ∀ j : Nat, j < 36 → sq (fX9_keepAct held was f).2 f2 n2 i j = sq was f held.toInt.toNat (i + s2) j := fun j hj => a5 i j hi2 hj
  by_cases q : i + 1 = n2
  · rw [if_pos q, if_pos q, if_pos q]
    have ef : ∀ j : Nat, sq was f held.toInt.toNat (i + s2) j = f j := fun j => by unfold sq; rw [if_pos (by omega)]
    refine ⟨UR_cong (c := f2) (q := f) (fun j hj => by unfold sq; rw [if_pos q]) (fun j hj => by rw [hlow j hj, ef]) hu, gR_cong (fun j hj => by rw [hlow j hj, ef]) hf⟩
  · rw [if_neg q, if_neg q, if_neg q]
    obtain ⟨g1, g2⟩ := hs (i + s2) (by omega)
    have hup : ∀ j : Nat, j < 36 → sq (fX9_keepAct held was f).2 f2 n2 (i + 1) j = sq was f held.toInt.toNat (i + s2 + 1) j := fun j hj => by
      rw [a5 (i + 1) j (by omega) hj, show i + 1 + s2 = i + s2 + 1 by omega]
    exact ⟨UR_cong hup hlow g1, gR_cong hlow g2⟩
theorem rP_0 {was f de pl ol : Nat → Int32} : rP 0 was f 0 de pl ol := ⟨rfl, ⟨by decide, by decide⟩, fun i hi => absurd hi (by rw [show (0 : Int32).toInt = 0 by decide]; omega)⟩
-- walks, flatten, mile
theorem sw_tab1 : ∀ m, m < 7 → ∀ a, a < m → ∀ s, s < 2 ^ m → fX3_setWalked (nI a) 0 (nI s) = (((nI s &&& (((1 : Int32) <<< (nI a &&& 31)) ^^^ (-1))) ||| ((0 : Int32) <<< (nI a &&& 31)))) ∧ fX3_setWalked (nI a) 1 (nI s) = (((nI s &&& (((1 : Int32) <<< (nI a &&& 31)) ^^^ (-1))) ||| ((1 : Int32) <<< (nI a &&& 31)))) := by decide +kernel
theorem sw_tab2 : ∀ m, m < 7 → ∀ a, a < m → ∀ s, s < 2 ^ m → fX3_setWalked (nI a) (fX3_hasWalked (nI a) (nI s)) (fX3_setWalked (nI a) 0 (nI s)) = nI s ∧ fX3_setWalked (nI a) (fX3_hasWalked (nI a) (nI s)) (fX3_setWalked (nI a) 1 (nI s)) = nI s := by decide +kernel
theorem sw_tab3 : ∀ m, m < 7 → ∀ a, a < m → ∀ s, s < 2 ^ m → 0 ≤ (fX3_setWalked (nI a) 0 (nI s)).toInt ∧ (fX3_setWalked (nI a) 0 (nI s)).toInt < 2 ^ m := by decide +kernel
theorem sw_tab4 : ∀ m, m < 7 → ∀ a, a < m → ∀ s, s < 2 ^ m → 0 ≤ (fX3_setWalked (nI a) 1 (nI s)).toInt ∧ (fX3_setWalked (nI a) 1 (nI s)).toInt < 2 ^ m := by decide +kernel
theorem sw_f {m a s on : Int32} (m6 : m.toInt ≤ 6) (a0 : 0 ≤ a.toInt) (a1 : a.toInt < m.toInt) (s0 : 0 ≤ s.toInt) (s1 : s.toInt < ((1 : Int32) <<< (m &&& 31)).toInt) (hon : on = 0 ∨ on = 1) : fX3_setWalked a on s = ((s &&& (((1 : Int32) <<< (a &&& 31)) ^^^ (-1))) ||| (on <<< (a &&& 31))) ∧ fX3_setWalked a (fX3_hasWalked a s) (fX3_setWalked a on s) = s ∧ 0 ≤ (fX3_setWalked a on s).toInt ∧ (fX3_setWalked a on s).toInt < ((1 : Int32) <<< (m &&& 31)).toInt := by
  have hz := t_shl (w := m) (by omega) m6
  obtain ⟨m, hm', rfl⟩ := t_small (k := 6) (x := m) (by decide) (by omega) (by omega)
  obtain ⟨a, ha', rfl⟩ := t_small (k := 6) (x := a) (by decide) (by omega) (by omega)
  rw [shl_tab m (by omega)] at s1 hz ⊢
  obtain ⟨s, hs', rfl⟩ := t_small (k := 64) (x := s) (by decide) (by omega) (by omega)
  rw [nI_toInt (by omega)] at s1
  rw [nI_toInt (by omega), nI_toInt (by omega)] at a1
  have e : ((2 ^ m : Nat) : Int) = (2 : Int) ^ m := by simp
  have h1 := sw_tab1 m (by omega) a (by omega) s (by omega)
  have h2 := sw_tab2 m (by omega) a (by omega) s (by omega)
  have h3 := sw_tab3 m (by omega) a (by omega) s (by omega)
  have h4 := sw_tab4 m (by omega) a (by omega) s (by omega)
  rcases hon with rfl | rfl
  · exact ⟨h1.1, h2.1, h3⟩
  · exact ⟨h1.2, h2.2, h4⟩
theorem in01 {a : Int32} (c : ¬ fX9_in a.toInt64 0 1 = 0) : a = 0 ∨ a = 1 := by
  have hfb := in_b (l := 0) (h := 1) c (by decide) (by decide)
  rcases k4 hfb.1 (by omega) with q | q | q | q
  · exact Or.inl q
  · exact Or.inr q
  · exfalso; rw [q] at hfb; exact absurd hfb.2 (by decide)
  · exfalso; rw [q] at hfb; exact absurd hfb.2 (by decide)
theorem m_walks {f : Nat → Int32} {st mi wk wd : Int32} {ha ki hb : Nat → Int32} (h : rN f st mi wk wd ha ki hb) {acts held : Int32} {was de pl ol : Nat → Int32} (hp : rP acts was f held de pl ol) (a on : Int32) : (fX8_walks a on wk wd held de pl ol).1 = (fX9_walks a on acts f was).1 ∧ rN (fX9_walks a on acts f was).2.2.1 st mi wk (fX8_walks a on wk wd held de pl ol).2.1 ha ki hb ∧ rP (fX9_walks a on acts f was).2.1 (fX9_walks a on acts f was).2.2.2 (fX9_walks a on acts f was).2.2.1 (fX8_walks a on wk wd held de pl ol).2.2.1 (fX8_walks a on wk wd held de pl ol).2.2.2.1 (fX8_walks a on wk wd held de pl ol).2.2.2.2.1 (fX8_walks a on wk wd held de pl ol).2.2.2.2.2 ∧ (fX9_walks a on acts f was).2.2.1 2 = f 2 := by
  obtain ⟨hf, rfl, rfl, rfl, rfl, hh, hw⟩ := id h
  have e1 : fX8_within on 0 1 = fX9_in on.toInt64 0 1 := within_in (by decide) (by decide)
  unfold fX8_walks fX9_walks
  rw [has_eq a (f 2) f rfl, e1]
  by_cases c1 : fX9_isWalker a f = 0
  · rw [if_pos c1, if_pos c1]; exact ⟨rfl, h, hp, rfl⟩
  · rw [if_neg c1, if_neg c1]
    obtain ⟨b0, b1⟩ := isWalker_b c1 hf.2.2.1.1 hf.2.2.1.2
    by_cases c2 : fX9_in on.toInt64 0 1 = 0
    · rw [if_pos c2, if_pos c2]; exact ⟨rfl, h, hp, rfl⟩
    · rw [if_neg c2, if_neg c2]
      obtain ⟨s1, s2, s3, s4⟩ := sw_f hf.2.2.1.2 b0 b1 hf.2.2.2.1.1 hf.2.2.2.1.2 (in01 c2)
      obtain ⟨f2, ef2⟩ : ∃ f2, f2 = upd f 3 (fX3_setWalked a on (f 3)) := ⟨_, rfl⟩
      have f20 : ∀ j : Nat, j ≠ 3 → f2 j = f j := fun j hj => by rw [ef2]; exact upd_ne _ _ hj
      have f23 : f2 3 = fX3_setWalked a on (f 3) := by rw [ef2]; exact upd_at _ _ _
      have hu : UR 0 a (fX3_hasWalked a (f 3)) f2 f := Or.inl ⟨rfl, ⟨b0, by rw [f20 2 (by decide)]; exact b1⟩, by rw [f23]; exact s2.symm, fun j hj hn => (f20 j hn).symm⟩
      have hpp := rP_push hp hf hu
      rw [← s1, ← ef2]
      rcases e8 : fX1_add 0 a (fX3_hasWalked a (f 3)) held de pl ol with ⟨u1, u2, u3, u4⟩
      rcases e9 : fX9_keepAct acts was f with ⟨v1, v2⟩
      rw [e8, e9] at hpp
      dsimp only at hpp ⊢
      rw [xlet_eq]
      refine ⟨rfl, ⟨?_, ?_⟩, hpp, f20 2 (by decide)⟩
      · obtain ⟨g1, g2, g3, g4, g5, g6⟩ := hf
        unfold gR
        rw [f20 0 (by decide), f20 1 (by decide), f20 2 (by decide), f23]
        refine ⟨g1, g2, g3, ⟨s3, s4⟩, fun i hi => ?_, fun i hi => ?_⟩
        · rw [f20 _ (by omega)]; exact g5 i hi
        · rw [f20 _ (by omega), f20 _ (by omega)]; exact g6 i hi
      · refine ⟨(f20 0 (by decide)).symm, (f20 1 (by decide)).symm, (f20 2 (by decide)).symm, f23.symm, fun i hi => ?_, fun i hi => ?_⟩
        · rw [f20 _ (by omega)]; rw [f20 0 (by decide)] at hi; exact hh i hi
        · rw [f20 _ (by omega), f20 _ (by omega)]; rw [f20 2 (by decide)] at hi; exact hw i hi
theorem m_flatten {f : Nat → Int32} {st mi wk wd : Int32} {ha ki hb : Nat → Int32} (h : rN f st mi wk wd ha ki hb) {acts held : Int32} {was de pl ol : Nat → Int32} (hp : rP acts was f held de pl ol) (a x : Int32) : (fX8_flatten a x st ha held de pl ol).1 = (fX9_flatten a x acts f was).1 ∧ rN (fX9_flatten a x acts f was).2.2.1 st mi wk wd (fX8_flatten a x st ha held de pl ol).2.1 ki hb ∧ rP (fX9_flatten a x acts f was).2.1 (fX9_flatten a x acts f was).2.2.2 (fX9_flatten a x acts f was).2.2.1 (fX8_flatten a x st ha held de pl ol).2.2.1 (fX8_flatten a x st ha held de pl ol).2.2.2.1 (fX8_flatten a x st ha held de pl ol).2.2.2.2.1 (fX8_flatten a x st ha held de pl ol).2.2.2.2.2 ∧ (fX9_flatten a x acts f was).2.2.1 2 = f 2 := by
  obtain ⟨hf, rfl, rfl, rfl, rfl, hh, hw⟩ := id h
  have ea : fX8_within a 1 (f 0) = fX9_in a.toInt64 1 (f 0).toInt64 := within_in (by decide) rfl
  have ex : fX8_within x 1 9 = fX9_in x.toInt64 1 9 := within_in (by decide) (by decide)
  unfold fX8_flatten fX9_flatten
  rw [ea, ex]
  by_cases c1 : fX9_in a.toInt64 1 (f 0).toInt64 = 0
  · rw [if_pos c1, if_pos c1]; exact ⟨rfl, h, hp, rfl⟩
  · rw [if_neg c1, if_neg c1]
    have hb := in_b (l := 1) c1 (by decide) (Int32.toInt_toInt64 _)
    by_cases c2 : fX9_in x.toInt64 1 9 = 0
    · rw [if_pos c2, if_pos c2]; exact ⟨rfl, h, hp, rfl⟩
    · rw [if_neg c2, if_neg c2]
      have hx := in_b (l := 1) (h := 9) c2 (by decide) (by decide)
      have h20 := hf.1.2
      have e1 : (1 : Int32).toInt = 1 := by decide
      have e4 : (4 : Int32).toInt = 4 := by decide
      have z4 : (4 + a).toInt = (4 : Int32).toInt + a.toInt := z_add (by omega) (by omega)
      have z5 : ((4 + a) - 1).toInt = (4 + a).toInt - (1 : Int32).toInt := z_sub (by omega) (by omega)
      have zi : ((4 + a) - 1).toNatClampNeg = 3 + a.toInt.toNat := by rw [cn_of, z5, z4, e1, e4]; omega
      have hav : fX4_at a ha 21 = f (3 + a.toInt.toNat) := by
        have := hh (a.toInt.toNat - 1) (by omega)
        rw [at_in (by decide) (by omega) (by omega)]
        rw [show a.toInt.toNat - 1 + 1 = a.toInt.toNat by omega, show 4 + (a.toInt.toNat - 1) = 3 + a.toInt.toNat by omega] at this
        exact this
      rw [hav, zi, put_in (by decide) (by omega) (by omega)]
      obtain ⟨f2, ef2⟩ : ∃ f2, f2 = upd f (3 + a.toInt.toNat) x := ⟨_, rfl⟩
      have f20 : ∀ j : Nat, j ≠ 3 + a.toInt.toNat → f2 j = f j := fun j hj => by rw [ef2]; exact upd_ne _ _ hj
      have f2a : f2 (3 + a.toInt.toNat) = x := by rw [ef2]; exact upd_at _ _ _
      have hu : UR 1 a (f (3 + a.toInt.toNat)) f2 f := Or.inr (Or.inl ⟨rfl, ⟨hb.1, by rw [f20 0 (by omega)]; exact hb.2, by omega⟩, rfl, fun j hj hn => (f20 j hn).symm⟩)
      have hpp := rP_push hp hf hu
      rw [← ef2]
      rcases e8 : fX1_add 1 a (f (3 + a.toInt.toNat)) held de pl ol with ⟨u1, u2, u3, u4⟩
      rcases e9 : fX9_keepAct acts was f with ⟨v1, v2⟩
      rw [e8, e9] at hpp
      dsimp only at hpp ⊢
      rw [xlet_eq]
      refine ⟨rfl, ⟨?_, ?_⟩, hpp, f20 2 (by omega)⟩
      · obtain ⟨g1, g2, g3, g4, g5, g6⟩ := hf
        unfold gR
        rw [f20 0 (by omega), f20 1 (by omega), f20 2 (by omega), f20 3 (by omega)]
        refine ⟨g1, g2, g3, g4, fun i hi => ?_, fun i hi => ?_⟩
        · by_cases q : 4 + i = 3 + a.toInt.toNat
          · rw [q, f2a]; exact hx
          · rw [f20 _ q]; exact g5 i hi
        · rw [f20 _ (by omega), f20 _ (by omega)]; exact g6 i hi
      · refine ⟨(f20 0 (by omega)).symm, (f20 1 (by omega)).symm, (f20 2 (by omega)).symm, (f20 3 (by omega)).symm, fun i hi => ?_, fun i hi => ?_⟩
        · rw [f20 0 (by omega)] at hi
          show upd ha a.toInt.toNat x (i + 1) = f2 (4 + i)
          by_cases q : i + 1 = a.toInt.toNat
          · rw [q, upd_at, show 4 + i = 3 + a.toInt.toNat by omega, f2a]
          · rw [upd_ne _ _ q, f20 _ (by omega)]; exact hh i hi
        · rw [f20 _ (by omega), f20 _ (by omega)]; rw [f20 2 (by omega)] at hi; exact hw i hi
theorem m_mile {f : Nat → Int32} {st mi wk wd : Int32} {ha ki hb : Nat → Int32} (h : rN f st mi wk wd ha ki hb) {acts held : Int32} {was de pl ol : Nat → Int32} (hp : rP acts was f held de pl ol) (x : Int32) : (fX8_mile x mi held de pl ol).1 = (fX9_mile x acts was f).1 ∧ rN (fX9_mile x acts was f).2.2.2 st (fX8_mile x mi held de pl ol).2.1 wk wd ha ki hb ∧ rP (fX9_mile x acts was f).2.1 (fX9_mile x acts was f).2.2.1 (fX9_mile x acts was f).2.2.2 (fX8_mile x mi held de pl ol).2.2.1 (fX8_mile x mi held de pl ol).2.2.2.1 (fX8_mile x mi held de pl ol).2.2.2.2.1 (fX8_mile x mi held de pl ol).2.2.2.2.2 ∧ (fX9_mile x acts was f).2.2.2 2 = f 2 := by
  obtain ⟨hf, rfl, rfl, rfl, rfl, hh, hw⟩ := id h
  have ex : fX8_within x 1 40 = fX9_in x.toInt64 1 40 := within_in (by decide) (by decide)
  unfold fX8_mile fX9_mile
  rw [ex]
  by_cases c2 : fX9_in x.toInt64 1 40 = 0
  · rw [if_pos c2, if_pos c2]; exact ⟨rfl, h, hp, rfl⟩
  · rw [if_neg c2, if_neg c2]
    have hx := in_b (l := 1) (h := 40) c2 (by decide) (by decide)
    obtain ⟨f2, ef2⟩ : ∃ f2, f2 = upd f 1 x := ⟨_, rfl⟩
    have f20 : ∀ j : Nat, j ≠ 1 → f2 j = f j := fun j hj => by rw [ef2]; exact upd_ne _ _ hj
    have f21 : f2 1 = x := by rw [ef2]; exact upd_at _ _ _
    have hu : UR 2 0 (f 1) f2 f := Or.inr (Or.inr ⟨rfl, rfl, fun j hj hn => (f20 j hn).symm⟩)
    have hpp := rP_push hp hf hu
    rw [← ef2]
    rcases e8 : fX1_add 2 0 (f 1) held de pl ol with ⟨u1, u2, u3, u4⟩
    rcases e9 : fX9_keepAct acts was f with ⟨v1, v2⟩
    rw [e8, e9] at hpp
    dsimp only at hpp ⊢
    refine ⟨rfl, ⟨?_, ?_⟩, hpp, f20 2 (by decide)⟩
    · obtain ⟨g1, g2, g3, g4, g5, g6⟩ := hf
      unfold gR
      rw [f20 0 (by decide), f21, f20 2 (by decide), f20 3 (by decide)]
      refine ⟨g1, hx, g3, g4, fun i hi => ?_, fun i hi => ?_⟩
      · rw [f20 _ (by omega)]; exact g5 i hi
      · rw [f20 _ (by omega), f20 _ (by omega)]; exact g6 i hi
    · refine ⟨(f20 0 (by decide)).symm, f21.symm, (f20 2 (by decide)).symm, (f20 3 (by decide)).symm, fun i hi => ?_, fun i hi => ?_⟩
      · rw [f20 _ (by omega)]; rw [f20 0 (by decide)] at hi; exact hh i hi
      · rw [f20 _ (by omega), f20 _ (by omega)]; rw [f20 2 (by decide)] at hi; exact hw i hi
