-- numbers and words at a token
theorem nd_b {te : Nat → Int32} {b : Nat} : ∀ k : Nat, (∀ j : Nat, j < k → dt (te (b + j))) → nd te b k < 10 ^ k := by
  intro k
  induction k with
  | zero => intro h; show 0 < 10 ^ 0; decide
  | succ k ih =>
    intro h
    have h1 := ih (fun j hj => h j (by omega))
    have h2 := h k (by omega)
    unfold dt at h2
    rw [nd, Nat.pow_succ]
    omega
theorem num_47 {le b e : Int32} {te te8 : Nat → Int32} (hT : rT le te le te8) (hb0 : 0 ≤ b.toInt) (he : e.toInt ≤ le.toInt) (hbe : b.toInt ≤ e.toInt) (h2 : e.toInt - b.toInt ≤ 2) (hd : ∀ i : Nat, b.toInt ≤ (i : Int) → (i : Int) < e.toInt → dt (te i)) : ∀ (r n k : Nat) (i v : Int32), r < n → i.toInt = b.toInt + (k : Int) → i.toInt + (r : Int) = e.toInt → v = nI (nd te b.toInt.toNat k) → fX7_number_47 e te8 n v i = nI (nd te b.toInt.toNat (e.toInt.toNat - b.toInt.toNat)) := by
  obtain ⟨-, ⟨l0, l1⟩, ht⟩ := hT
  have e1 : (1 : Int32).toInt = 1 := by decide
  have e48 : (48 : Int32).toInt = 48 := by decide
  intro r
  induction r with
  | zero =>
    intro n k i v hn hi hr hv
    obtain ⟨n, rfl⟩ : ∃ q, n = q + 1 := ⟨n - 1, by omega⟩
    rw [fX7_number_47, if_pos (show e ≤ i from Int32.le_iff_toInt_le.mpr (by omega)), hv]
    congr 2
    omega
  | succ r ih =>
    intro n k i v hn hi hr hv
    obtain ⟨n, rfl⟩ : ∃ q, n = q + 1 := ⟨n - 1, by omega⟩
    have zi : (i + 1).toInt = i.toInt + (1 : Int32).toInt := z_add (by omega) (by omega)
    have hat : fX4_at i te8 160 = te i.toInt.toNat := by rw [at_in (by decide) (by omega) (by omega)]; exact (ht _ (by omega)).1
    have hdk := hd i.toInt.toNat (by omega) (by omega)
    have hik : i.toInt.toNat = b.toInt.toNat + k := by omega
    have hnb := nd_b (te := te) (b := b.toInt.toNat) k (fun j hj => hd _ (by omega) (by omega))
    have hk2 : k ≤ 1 := by omega
    have hN : nd te b.toInt.toNat k < 100 := by
      rcases (show k = 0 ∨ k = 1 by omega) with rfl | rfl <;> omega
    rw [fX7_number_47, if_neg (show ¬ e ≤ i from fun q => by have := t_le q; omega), hat]
    unfold dt at hdk
    refine ih n (k + 1) (i + 1) _ (by omega) (by omega) (by omega) ?_
    rw [hv, nd, ← hik]
    have tN := nI_toInt (n := nd te b.toInt.toNat k) (by omega)
    have z1 : (nI (nd te b.toInt.toNat k) * 10).toInt = 10 * (nI (nd te b.toInt.toNat k)).toInt := by
      rw [Int32.mul_comm]; exact z_mul 10 rfl (by omega) (by omega)
    have z2 : (nI (nd te b.toInt.toNat k) * 10 + te i.toInt.toNat).toInt = (nI (nd te b.toInt.toNat k) * 10).toInt + (te i.toInt.toNat).toInt := z_add (by omega) (by omega)
    have z3 : (nI (nd te b.toInt.toNat k) * 10 + te i.toInt.toNat - 48).toInt = (nI (nd te b.toInt.toNat k) * 10 + te i.toInt.toNat).toInt - (48 : Int32).toInt := z_sub (by omega) (by omega)
    apply Int32.toInt_inj.mp
    rw [z3, z2, z1, tN, e48, nI_toInt (by omega)]
    omega
theorem in64_iff {a : Int64} {lo hi : Int32} : (fX9_in a lo.toInt64 hi.toInt64 = 0) ↔ ¬ (lo.toInt ≤ a.toInt ∧ a.toInt ≤ hi.toInt) := by
  unfold fX9_in
  rw [xlet_eq]
  by_cases c1 : lg_cmp a lo.toInt64 < 0
  · rw [if_pos c1]
    rw [lg_cmp_lt, Int64.lt_iff_toInt_lt, Int32.toInt_toInt64] at c1
    exact ⟨fun _ => by omega, fun _ => rfl⟩
  · rw [if_neg c1]
    rw [lg_cmp_lt, Int64.lt_iff_toInt_lt, Int32.toInt_toInt64] at c1
    by_cases c2 : 0 < lg_cmp a hi.toInt64
    · rw [if_pos c2]
      rw [lg_cmp_gt, Int64.lt_iff_toInt_lt, Int32.toInt_toInt64] at c2
      exact ⟨fun _ => by omega, fun _ => rfl⟩
    · rw [if_neg c2]
      rw [lg_cmp_gt, Int64.lt_iff_toInt_lt, Int32.toInt_toInt64] at c2
      exact ⟨fun h => absurd h (by decide), fun h => by omega⟩
theorem within_iff {a lo hi : Int32} : (fX8_within a lo hi = 0) ↔ ¬ (lo.toInt ≤ a.toInt ∧ a.toInt ≤ hi.toInt) := by
  rw [within_in rfl rfl, in64_iff, Int32.toInt_toInt64]
theorem num_tok {le b e c tk st : Int32} {va : Int64} {te te8 : Nat → Int32} (hT : rT le te le te8) (h : TR le te b e c tk st va) (lo hi : Int32) (hlo : 1 ≤ lo.toInt) (hhi : hi.toInt ≤ 40) : (fX8_within (fX7_number le b e te8) lo hi = 0 ↔ (¬ tk = 2 ∨ fX9_in va lo.toInt64 hi.toInt64 = 0)) ∧ (¬ fX8_within (fX7_number le b e te8) lo hi = 0 → fX7_number le b e te8 = va.toInt32) := by
  obtain ⟨-, ⟨l0, l1⟩, ht⟩ := id hT
  obtain ⟨h1, h2, ⟨b0, be, el⟩, h3⟩ := h
  have em : ((-1) : Int32).toInt = -1 := by decide
  have e2 : (2 : Int32).toInt = 2 := by decide
  have ze : (e - b).toInt = e.toInt - b.toInt := z_sub (by omega) (by omega)
  have n10 : ¬ (1 : Int32) = 0 := by decide
  have nm : fX8_within (-1) lo hi = 0 := within_iff.mpr (by omega)
  have hat : b.toInt < le.toInt → fX4_at b te8 160 = te b.toInt.toNat := fun hb => by rw [at_in (by decide) b0 (by omega)]; exact (ht _ (by omega)).1
  have hend : fX7_isAtEnd le b = if b < le then (0 : Int32) else 1 := by unfold fX7_isAtEnd; rw [xlet_eq]
  rcases h3 with ⟨rfl, rfl, rfl⟩ | ⟨rfl, lt, hs, hv⟩ | ⟨rfl, lt, hs, hv⟩ | ⟨rfl, lt, s1, d1, hv⟩
  · have hx : fX7_number e e e te8 = -1 := by
      unfold fX7_number
      rw [hend, if_neg (show ¬ e < e from fun q => by have := t_lt q; omega), if_neg n10]
    rw [hx]
    exact ⟨⟨fun _ => Or.inl (by decide), fun _ => nm⟩, fun q => absurd nm q⟩
  · have hx : fX7_number le b e te8 = -1 := by
      unfold fX7_number
      rw [hend, if_pos (show b < le from Int32.lt_iff_toInt_lt.mpr (by omega)), if_pos rfl, hat (by omega), (sort_f _).1 (hs _ (by omega) (by omega)), if_neg (show ¬ (1 : Int32) = 2 by decide)]
    rw [hx]
    exact ⟨⟨fun _ => Or.inl (by decide), fun _ => nm⟩, fun q => absurd nm q⟩
  · by_cases k2 : e.toInt - b.toInt ≤ 2
    · have hx : fX7_number le b e te8 = nI (nd te b.toInt.toNat (e.toInt.toNat - b.toInt.toNat)) := by
        unfold fX7_number
        rw [hend, if_pos (show b < le from Int32.lt_iff_toInt_lt.mpr (by omega)), if_pos rfl, hat (by omega), (sort_f _).2.1 (hs _ (by omega) (by omega)), if_pos rfl, if_pos (show e - b ≤ 2 from Int32.le_iff_toInt_le.mpr (by omega))]
        exact num_47 hT b0 el be k2 hs (e.toInt - b.toInt).toNat 1000 0 b 0 (by omega) (by omega) (by omega) rfl
      have hnb := nd_b (te := te) (b := b.toInt.toNat) (e.toInt.toNat - b.toInt.toNat) (fun j hj => hs _ (by omega) (by omega))
      have hN : nd te b.toInt.toNat (e.toInt.toNat - b.toInt.toNat) < 100 := by
        rcases (show e.toInt.toNat - b.toInt.toNat = 1 ∨ e.toInt.toNat - b.toInt.toNat = 2 by omega) with q | q <;> rw [q] at hnb ⊢ <;> omega
      have hva : va = lN (nd te b.toInt.toNat (e.toInt.toNat - b.toInt.toNat)) := by rw [hv]; unfold nv; rw [if_pos (by omega)]
      rw [hx, hva, within_iff, in64_iff, lN_toInt (by omega), nI_toInt (by omega), lN_i]
      exact ⟨⟨fun q => Or.inr q, fun q => q.elim (fun z => absurd rfl z) id⟩, fun _ => rfl⟩
    · have hx : fX7_number le b e te8 = -1 := by
        unfold fX7_number
        rw [hend, if_pos (show b < le from Int32.lt_iff_toInt_lt.mpr (by omega)), if_pos rfl, hat (by omega), (sort_f _).2.1 (hs _ (by omega) (by omega)), if_pos rfl, if_neg (show ¬ e - b ≤ 2 from fun q => by have := t_le q; omega)]
      have hva : va = 100 := by rw [hv]; unfold nv; rw [if_neg (by omega)]
      rw [hx, hva, in64_iff]
      exact ⟨⟨fun _ => Or.inr (by rw [show (100 : Int64).toInt = 100 by decide]; omega), fun _ => nm⟩, fun q => absurd nm q⟩
  · have hx : fX7_number le b e te8 = -1 := by
      unfold fX7_number
      rw [hend, if_pos (show b < le from Int32.lt_iff_toInt_lt.mpr (by omega)), if_pos rfl, hat (by omega), (sort_f _).2.2 s1 d1, if_neg (show ¬ (0 : Int32) = 2 by decide)]
    rw [hx]
    exact ⟨⟨fun _ => Or.inl (by decide), fun _ => nm⟩, fun q => absurd nm q⟩
/-- a number is passed, or a fault lies at the token -/
theorem rnum {le b e c tk st : Int32} {va : Int64} {te te8 : Nat → Int32} (hT : rT le te le te8) (h : TR le te b e c tk st va) (lo hi fp fa : Int32) (hlo : 1 ≤ lo.toInt) (hhi : hi.toInt ≤ 40) : (∃ (r b2 e2 c2 tk2 st2 : Int32) (va2 : Int64), fX2_readNumber lo hi fp le b e te8 = (r, fp, b2, e2) ∧ fX9_number lo hi le c tk st va 0 fa te = (r, c2, tk2, st2, va2, 0, fa) ∧ TR le te b2 e2 c2 tk2 st2 va2 ∧ ¬ r = -1 ∧ lo.toInt ≤ r.toInt ∧ r.toInt ≤ hi.toInt) ∨ (∃ r9 : Int32, fX2_readNumber lo hi fp le b e te8 = (-1, b, b, e) ∧ fX9_number lo hi le c tk st va 0 fa te = (r9, c, tk, st, va, 1, b)) := by
  obtain ⟨n1, n2⟩ := num_tok hT h lo hi hlo hhi
  obtain ⟨h1, h2, ⟨b0, be, el⟩, h3⟩ := id h
  have n10 : ¬ (1 : Int32) = 0 := by decide
  have em : ((-1) : Int32).toInt = -1 := by decide
  have hbad : fX9_bad st 0 fa = b := by unfold fX9_bad; rw [xlet_eq, if_pos rfl, h1]
  by_cases c1 : fX8_within (fX7_number le b e te8) lo hi = 0
  · refine Or.inr ⟨va.toInt32, ?_, ?_⟩
    · unfold fX2_readNumber; rw [if_pos c1]
    · unfold fX9_number
      rcases n1.mp c1 with q | q
      · rw [if_neg q, hbad, xlet_eq, if_neg n10]
      · by_cases q2 : tk = 2
        · rw [if_pos q2, if_pos q, hbad, xlet_eq, if_neg n10]
        · rw [if_neg q2, hbad, xlet_eq, if_neg n10]
  · have hr := within_b c1
    have hq := n2 c1
    obtain ⟨B, E, c2, tk2, st2, va2, x1, x2, x3⟩ := tok hT (e := e) (by omega) el
    have q2 : tk = 2 := Decidable.not_not.mp (fun z => c1 (n1.mpr (Or.inl z)))
    have q3 : ¬ fX9_in va lo.toInt64 hi.toInt64 = 0 := fun z => c1 (n1.mpr (Or.inr z))
    refine Or.inl ⟨fX7_number le b e te8, B, E, c2, tk2, st2, va2, ?_, ?_, x3, fun z => by rw [z] at hr; omega, hr⟩
    · unfold fX2_readNumber; rw [if_neg c1, x1]
    · unfold fX9_number
      rw [if_pos q2, if_neg q3, if_pos rfl, h2, x2, hq]
-- words
theorem rl_len (te : Nat → Int32) (b : Nat) : ∀ k, (rl te b k).length = k := by
  intro k
  induction k with
  | zero => rfl
  | succ k ih => rw [rl, List.length_cons, ih]
theorem rl_eq (te te2 : Nat → Int32) (b b2 : Nat) : ∀ k, rl te b k = rl te2 b2 k ↔ ∀ j, j < k → dg (te (b + j)) = dg (te2 (b2 + j)) := by
  intro k
  induction k with
  | zero => exact ⟨fun _ j hj => absurd hj (by omega), fun _ => rfl⟩
  | succ k ih =>
    rw [rl, rl, List.cons.injEq, ih]
    constructor
    · intro ⟨h1, h2⟩ j hj
      by_cases q : j = k
      · rw [q]; exact h1
      · exact h2 j (by omega)
    · intro h
      exact ⟨h k (by omega), fun j hj => h j (by omega)⟩
def lets (l : List Nat) : Prop := ∀ d ∈ l, 1 ≤ d ∧ d ≤ 26
theorem Hr_inj : ∀ l l2 : List Nat, lets l → lets l2 → Hr l = Hr l2 → l = l2 := by
  intro l
  induction l with
  | nil =>
    intro l2 h1 h2 e
    cases l2 with
    | nil => rfl
    | cons d l2 => have := h2 d List.mem_cons_self; unfold Hr at e; omega
  | cons a l ih =>
    intro l2 h1 h2 e
    have ha := h1 a List.mem_cons_self
    cases l2 with
    | nil => unfold Hr at e; omega
    | cons d l2 =>
      have hd := h2 d List.mem_cons_self
      rw [Hr, Hr] at e
      have : a = d := by omega
      subst this
      rw [ih l2 (fun x hx => h1 x (List.mem_cons_of_mem _ hx)) (fun x hx => h2 x (List.mem_cons_of_mem _ hx)) (by omega)]
theorem Hr_b : ∀ l : List Nat, lets l → Hr l < 32 ^ l.length := by
  intro l
  induction l with
  | nil => intro h; decide
  | cons a l ih =>
    intro h
    have h1 := ih (fun x hx => h x (List.mem_cons_of_mem _ hx))
    have h2 := h a List.mem_cons_self
    rw [Hr, List.length_cons, Nat.pow_succ]
    omega
theorem rl_lets {te : Nat → Int32} {b : Nat} : ∀ k : Nat, (∀ j : Nat, j < k → sm (te (b + j))) → lets (rl te b k) := by
  intro k
  induction k with
  | zero => intro h d hd; exact absurd hd (by rw [rl]; exact List.not_mem_nil)
  | succ k ih =>
    intro h d hd
    rw [rl] at hd
    rcases List.mem_cons.mp hd with q | q
    · have h2 := h k (by omega)
      unfold sm at h2
      subst q
      unfold dg
      omega
    · exact ih (fun j hj => h j (by omega)) d q
def kr (i : Nat) : List Nat := rl (xb i) 0 (xLen.getD i 0)
theorem kr_tab : ∀ i, i < 9 → 1 ≤ i → (∀ j, j < xLen.getD i 0 → 97 ≤ (xb i j).toInt ∧ (xb i j).toInt ≤ 122) ∧ ¬ lN (Hr (kr i)) = 1 ∧ Hr (kr i) < 2 ^ 40 ∧ xLen.getD i 0 ≤ 6 ∧ 1 ≤ xLen.getD i 0 := by decide +kernel
theorem isAt_20 {le b : Int32} {te te8 : Nat → Int32} (hT : rT le te le te8) (i : Nat) (hi : i < 9) (hb0 : 0 ≤ b.toInt) (hb1 : b.toInt + (xl i).toInt ≤ le.toInt) : ∀ (r n : Nat) (v : Int32), r < n → 0 ≤ v.toInt → v.toInt + (r : Int) = (xl i).toInt → (¬ fX7_isAt_20 i b te8 n v = 0 ↔ ∀ j : Nat, v.toInt ≤ (j : Int) → (j : Int) < (xl i).toInt → te (b.toInt.toNat + j) = xb i j) := by
  obtain ⟨-, ⟨l0, l1⟩, ht⟩ := hT
  have hlb := xl_b i hi
  have e1 : (1 : Int32).toInt = 1 := by decide
  have n10 : ¬ (1 : Int32) = 0 := by decide
  intro r
  induction r with
  | zero =>
    intro n v hn h0 h1
    obtain ⟨n, rfl⟩ : ∃ q, n = q + 1 := ⟨n - 1, by omega⟩
    rw [fX7_isAt_20, if_pos (show xl i ≤ v from Int32.le_iff_toInt_le.mpr (by omega))]
    exact ⟨fun _ j g1 g2 => by omega, fun _ => n10⟩
  | succ r ih =>
    intro n v hn h0 h1
    obtain ⟨n, rfl⟩ : ∃ q, n = q + 1 := ⟨n - 1, by omega⟩
    have zv : (v + 1).toInt = v.toInt + (1 : Int32).toInt := z_add (by omega) (by omega)
    have zb : (b + v).toInt = b.toInt + v.toInt := z_add (by omega) (by omega)
    have hat : fX4_at (b + v) te8 160 = te (b.toInt.toNat + v.toInt.toNat) := by
      rw [at_in (by decide) (by omega) (by omega), (ht _ (by omega)).1]
      congr 1
      omega
    rw [fX7_isAt_20, if_neg (show ¬ xl i ≤ v from fun q => by have := t_le q; omega), hat, cn_of]
    by_cases c : te (b.toInt.toNat + v.toInt.toNat) = xb i v.toInt.toNat
    · rw [if_pos c, ih n (v + 1) (by omega) (by omega) (by omega)]
      constructor
      · intro h j g1 g2
        by_cases q : j = v.toInt.toNat
        · rw [q]; exact c
        · exact h j (by omega) g2
      · intro h j g1 g2
        exact h j (by omega) g2
    · rw [if_neg c]
      exact ⟨fun h => absurd rfl h, fun h => absurd (h v.toInt.toNat (by omega) (by omega)) c⟩
theorem isAt_iff {le b e c tk st : Int32} {va : Int64} {te te8 : Nat → Int32} (hT : rT le te le te8) (h : TR le te b e c tk st va) (i : Nat) (hi : i < 9) : (¬ fX7_isAt i b e te8 = 0 ↔ (e.toInt - b.toInt = (xl i).toInt ∧ ∀ j : Nat, (j : Int) < (xl i).toInt → te (b.toInt.toNat + j) = xb i j)) := by
  obtain ⟨h1, h2, ⟨b0, be, el⟩, h3⟩ := h
  have l1 := hT.2.1.2
  have hlb := xl_b i hi
  have ze : (e - b).toInt = e.toInt - b.toInt := z_sub (by omega) (by omega)
  unfold fX7_isAt
  by_cases c1 : (e - b) = xl i
  · have k1 := t_eq c1
    rw [if_pos c1, isAt_20 hT i hi b0 (by omega) (xl i).toInt.toNat 1000 0 (by omega) (by decide) (by rw [show (0 : Int32).toInt = 0 by decide]; omega)]
    exact ⟨fun h => ⟨by omega, fun j hj => h j (by rw [show (0 : Int32).toInt = 0 by decide]; omega) hj⟩, fun h j _ hj => h.2 j hj⟩
  · rw [if_neg c1]
    exact ⟨fun h => absurd rfl h, fun h => absurd (Int32.toInt_inj.mp (by omega)) c1⟩
/-- a word of the document's stands there: on both sides -/
theorem kw {le b e c tk st : Int32} {va : Int64} {te te8 : Nat → Int32} (hT : rT le te le te8) (h : TR le te b e c tk st va) (i : Nat) (hi : i < 9) (hi1 : 1 ≤ i) : (fX7_isAt i b e te8 = 0 ↔ ¬ (tk = 1 ∧ va = lN (Hr (kr i)))) := by
  have hia := isAt_iff hT h i hi
  obtain ⟨k1, k2, k3, k4, k5⟩ := kr_tab i hi hi1
  have hlb := xl_b i hi
  obtain ⟨h1, h2, ⟨b0, be, el⟩, h3⟩ := h
  have key : (tk = 1 ∧ va = lN (Hr (kr i))) ↔ (e.toInt - b.toInt = (xl i).toInt ∧ ∀ j : Nat, (j : Int) < (xl i).toInt → te (b.toInt.toNat + j) = xb i j) := by
    constructor
    · intro ⟨q1, q2⟩
      rcases h3 with ⟨z, -, -⟩ | ⟨-, lt, hs, hv⟩ | ⟨z, -, -, -⟩ | ⟨z, -, -, -, -⟩
      · rw [q1] at z; exact absurd z (by decide)
      · rw [hv] at q2
        unfold wv at q2
        by_cases q8 : e.toInt.toNat - b.toInt.toNat ≤ 8
        · rw [if_pos q8] at q2
          have hl := rl_lets (te := te) (b := b.toInt.toNat) (e.toInt.toNat - b.toInt.toNat) (fun j hj => hs _ (by omega) (by omega))
          have hb := Hr_b _ hl
          rw [rl_len] at hb
          have hp : 32 ^ (e.toInt.toNat - b.toInt.toNat) ≤ 32 ^ 8 := Nat.pow_le_pow_right (by omega) q8
          have h40 : 32 ^ 8 = 2 ^ 40 := by decide
          have e2 := (pk_lEQ (a := Hr (rl te b.toInt.toNat (e.toInt.toNat - b.toInt.toNat))) (b := Hr (kr i)) (by omega) (by omega)).mp q2
          have hkl : lets (kr i) := rl_lets _ (fun j hj => by
            have := k1 j hj
            rw [Nat.zero_add]
            exact this)
          have e3 := Hr_inj _ _ hl hkl e2
          have e4 : e.toInt.toNat - b.toInt.toNat = xLen.getD i 0 := by
            have := congrArg List.length e3
            unfold kr at this
            rw [rl_len, rl_len] at this
            exact this
          unfold kr at e3
          rw [e4, rl_eq] at e3
          refine ⟨by omega, fun j hj => ?_⟩
          have hj2 : j < xLen.getD i 0 := by omega
          have e5 := e3 j hj2
          rw [Nat.zero_add] at e5
          have s1 := hs (b.toInt.toNat + j) (by omega) (by omega)
          have s2 := k1 j hj2
          unfold sm at s1
          unfold dg at e5
          exact Int32.toInt_inj.mp (by omega)
        · rw [if_neg q8] at q2
          exact absurd q2.symm k2
      · rw [q1] at z; exact absurd z (by decide)
      · rw [q1] at z; exact absurd z (by decide)
    · intro ⟨q1, q2⟩
      have f0 := q2 0 (by omega)
      rw [Nat.add_zero] at f0
      have s0 := k1 0 (by omega)
      rcases h3 with ⟨z, z2, z3⟩ | ⟨z, lt, hs, hv⟩ | ⟨z, lt, hs, hv⟩ | ⟨z, lt, s1, d1, hv⟩
      · rw [z2, z3] at q1; omega
      · refine ⟨z, ?_⟩
        have e4 : e.toInt.toNat - b.toInt.toNat = xLen.getD i 0 := by omega
        rw [hv]
        unfold wv
        rw [e4, if_pos (by omega)]
        have : rl te b.toInt.toNat (xLen.getD i 0) = kr i := by
          unfold kr
          rw [rl_eq]
          intro j hj
          rw [Nat.zero_add, q2 j (by omega)]
        rw [this]
      · have := hs b.toInt.toNat (by omega) (by omega)
        unfold dt at this
        rw [f0] at this
        omega
      · exfalso
        apply s1
        rw [f0]
        exact s0
  rw [key, ← hia]
  exact ⟨fun q z => z q, fun q => Decidable.not_not.mp q⟩
theorem kw0 {le b e c tk st : Int32} {va : Int64} {te te8 : Nat → Int32} (hT : rT le te le te8) (h : TR le te b e c tk st va) : (fX7_isAt 0 b e te8 = 0 ↔ ¬ (tk = 3 ∧ va = 59)) := by
  have hia := isAt_iff hT h 0 (by decide)
  obtain ⟨h1, h2, ⟨b0, be, el⟩, h3⟩ := h
  have hx : (xl 0).toInt = 1 := by decide
  have hxb : xb 0 0 = 59 := by decide
  have e59 : (59 : Int32).toInt = 59 := by decide
  have key : (tk = 3 ∧ va = 59) ↔ (e.toInt - b.toInt = (xl 0).toInt ∧ ∀ j : Nat, (j : Int) < (xl 0).toInt → te (b.toInt.toNat + j) = xb 0 j) := by
    rw [hx]
    constructor
    · intro ⟨q1, q2⟩
      rcases h3 with ⟨z, -, -⟩ | ⟨z, -, -, -⟩ | ⟨z, -, -, -⟩ | ⟨-, lt, s1, d1, hv⟩
      · rw [q1] at z; exact absurd z (by decide)
      · rw [q1] at z; exact absurd z (by decide)
      · rw [q1] at z; exact absurd z (by decide)
      · refine ⟨by omega, fun j hj => ?_⟩
        have : j = 0 := by omega
        subst this
        rw [Nat.add_zero, hxb]
        rw [q2] at hv
        have := congrArg Int64.toInt hv
        rw [Int32.toInt_toInt64, show (59 : Int64).toInt = 59 by decide] at this
        exact Int32.toInt_inj.mp (by omega)
    · intro ⟨q1, q2⟩
      have f0 := q2 0 (by omega)
      rw [Nat.add_zero, hxb] at f0
      rcases h3 with ⟨z, z2, z3⟩ | ⟨z, lt, hs, hv⟩ | ⟨z, lt, hs, hv⟩ | ⟨z, lt, s1, d1, hv⟩
      · rw [z2, z3] at q1; omega
      · have := hs b.toInt.toNat (by omega) (by omega)
        unfold sm at this
        rw [f0] at this
        omega
      · have := hs b.toInt.toNat (by omega) (by omega)
        unfold dt at this
        rw [f0] at this
        omega
      · exact ⟨z, by rw [hv, f0]; decide⟩
  rw [key, ← hia]
  exact ⟨fun q z => z q, fun q => Decidable.not_not.mp q⟩
theorem W1 : fX9_word 18 15 1 4 0 0 = lN (Hr (kr 1)) := by decide +kernel
theorem W2 : fX9_word 8 9 12 12 0 0 = lN (Hr (kr 2)) := by decide +kernel
theorem W3 : fX9_word 13 9 12 5 0 0 = lN (Hr (kr 3)) := by decide +kernel
theorem W4 : fX9_word 14 15 2 15 4 25 = lN (Hr (kr 4)) := by decide +kernel
theorem W5 : fX9_word 19 20 5 1 4 25 = lN (Hr (kr 5)) := by decide +kernel
theorem W6 : fX9_word 15 12 4 0 0 0 = lN (Hr (kr 6)) := by decide +kernel
theorem W7 : fX9_word 4 18 21 14 11 0 = lN (Hr (kr 7)) := by decide +kernel
theorem W8 : fX9_word 2 1 3 11 0 0 = lN (Hr (kr 8)) := by decide +kernel
theorem kind_eq {le b e c tk st : Int32} {va : Int64} {te te8 : Nat → Int32} (hT : rT le te le te8) (h : TR le te b e c tk st va) : fX2_kindAtToken b e te8 = fX9_kindBy tk va := by
  have k5 := kw hT h 5 (by decide) (by decide)
  have k6 := kw hT h 6 (by decide) (by decide)
  have k7 := kw hT h 7 (by decide) (by decide)
  have k8 := kw hT h 8 (by decide) (by decide)
  unfold fX2_kindAtToken fX9_kindBy
  rw [xlet_eq, xlet_eq, W5, W6, W7, W8]
  by_cases c1 : tk = 1
  · rw [if_pos c1]
    by_cases q5 : va = lN (Hr (kr 5))
    · rw [if_neg (fun z => k5.mp z ⟨c1, q5⟩), if_pos ((lg_cmp_eq _ _).mpr q5)]
    · rw [if_pos (k5.mpr (fun z => q5 z.2)), if_neg (fun z => q5 ((lg_cmp_eq _ _).mp z))]
      by_cases q6 : va = lN (Hr (kr 6))
      · rw [if_neg (fun z => k6.mp z ⟨c1, q6⟩), if_pos ((lg_cmp_eq _ _).mpr q6)]
      · rw [if_pos (k6.mpr (fun z => q6 z.2)), if_neg (fun z => q6 ((lg_cmp_eq _ _).mp z))]
        by_cases q7 : va = lN (Hr (kr 7))
        · rw [if_neg (fun z => k7.mp z ⟨c1, q7⟩), if_pos ((lg_cmp_eq _ _).mpr q7)]
        · rw [if_pos (k7.mpr (fun z => q7 z.2)), if_neg (fun z => q7 ((lg_cmp_eq _ _).mp z))]
          by_cases q8 : va = lN (Hr (kr 8))
          · rw [if_neg (fun z => k8.mp z ⟨c1, q8⟩), if_pos ((lg_cmp_eq _ _).mpr q8)]
          · rw [if_pos (k8.mpr (fun z => q8 z.2)), if_neg (fun z => q8 ((lg_cmp_eq _ _).mp z))]
  · rw [if_neg c1, if_pos (k5.mpr (fun z => c1 z.1)), if_pos (k6.mpr (fun z => c1 z.1)), if_pos (k7.mpr (fun z => c1 z.1)), if_pos (k8.mpr (fun z => c1 z.1))]
