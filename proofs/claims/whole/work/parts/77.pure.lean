-- the greatest common divisor of the class
/-- so many rounds are enough: the smaller one is halved in two rounds -/
theorem cd_7 : ∀ (j n a b i : Nat), b < 2 ^ j → i + 2 * j + 1 ≤ 64 → 2 * j + 1 < n → a < 2 ^ 31 → b < 2 ^ 31 → fX8_commonDivisor_7 n (nI a) (nI b) (nI i) = nI (Nat.gcd a b) := by
  intro j
  induction j with
  | zero =>
    intro n a b i hb hi hn ha hb2
    have : b = 0 := by omega
    subst this
    obtain ⟨n, rfl⟩ : ∃ q, n = q + 1 := ⟨n - 1, by omega⟩
    rw [fX8_commonDivisor_7, if_neg (show ¬ (64 : Int32) ≤ nI i from fun q => by have := t_le q; rw [nI_toInt (by omega), show (64 : Int32).toInt = 64 by decide] at this; omega), if_pos (show nI 0 = 0 by decide), Nat.gcd_zero_right]
  | succ j ih =>
    intro n a b i hb hi hn ha hb2
    obtain ⟨n, rfl⟩ : ∃ q, n = q + 2 := ⟨n - 2, by omega⟩
    have e64 : (64 : Int32).toInt = 64 := by decide
    have h64 : ∀ k : Nat, k < 64 → ¬ (64 : Int32) ≤ nI k := fun k hk q => by have := t_le q; rw [nI_toInt (by omega), e64] at this; omega
    rw [fX8_commonDivisor_7, if_neg (h64 i (by omega))]
    by_cases c0 : b = 0
    · subst c0
      rw [if_pos (show nI 0 = 0 by decide), Nat.gcd_zero_right]
    · have hbp : 0 < b := Nat.pos_of_ne_zero c0
      rw [if_neg (nI_ne0 hbp hb2), i32_rem ha hbp hb2, nI_1]
      have hm := Nat.mod_lt a hbp
      have g1 : Nat.gcd a b = Nat.gcd b (a % b) := by rw [Nat.gcd_comm b (a % b), ← Nat.gcd_rec b a, Nat.gcd_comm]
      rw [fX8_commonDivisor_7, if_neg (h64 (i + 1) (by omega))]
      by_cases c1 : a % b = 0
      · rw [c1, if_pos (show nI 0 = 0 by decide), g1, c1, Nat.gcd_zero_right]
      · have hrp : 0 < a % b := Nat.pos_of_ne_zero c1
        rw [if_neg (nI_ne0 hrp (by omega)), i32_rem hb2 hrp (by omega), nI_1]
        have hm2 := Nat.mod_lt b hrp
        have hh : b % (a % b) < 2 ^ j := by
          have hp : 2 ^ (j + 1) = 2 * 2 ^ j := by rw [Nat.pow_succ, Nat.mul_comm]
          rcases Nat.lt_or_ge (2 * (a % b)) (b + 1) with q | q
          · omega
          · have : b % (a % b) = b - a % b := by
              rw [Nat.mod_eq_sub_mod (by omega), Nat.mod_eq_of_lt (by omega)]
            omega
        have g2 : Nat.gcd b (a % b) = Nat.gcd (a % b) (b % (a % b)) := by rw [Nat.gcd_comm (a % b) (b % (a % b)), ← Nat.gcd_rec (a % b) b, Nat.gcd_comm]
        rw [g1, g2]
        exact ih n (a % b) (b % (a % b)) (i + 2) hh (by omega) (by omega) (by omega) (by omega)
theorem cd_gcd {a b : Nat} (ha : a < 2 ^ 31) (hb : b < 2 ^ 20) : fX8_commonDivisor (nI a) (nI b) = nI (Nat.gcd a b) := cd_7 20 1000 a b 0 hb (by omega) (by omega) ha (by omega)
/-- lowest terms, on both sides -/
theorem part_eq {x y p : Int32} (hx : 0 ≤ x.toInt) (hy : 1 ≤ y.toInt) (hy2 : y.toInt ≤ 1000000) : fX8_partOf x y p = (if p = 0 then x else y) / (fX9_common x.toInt64 y.toInt64).toInt32 := by
  obtain ⟨a, ha, rfl, ta⟩ := i32_nat hx
  obtain ⟨b, hb, rfl, tb⟩ := i32_nat (x := y) (by omega)
  have hb20 : b < 2 ^ 20 := by omega
  have hg : 0 < Nat.gcd a b := Nat.gcd_pos_of_pos_right a (by omega)
  have hl : Nat.gcd a b ≤ b := Nat.le_of_dvd (by omega) (Nat.gcd_dvd_right a b)
  unfold fX8_partOf
  simp only [xlet_eq]
  rw [cd_gcd ha hb20, nI_l ha, nI_l hb, common_gcd (by omega) (by omega), lN_i, if_neg (nI_ne0 hg (by omega))]
theorem m_law {f : Nat → Int32} {st mi wk wd : Int32} {ha ki hb : Nat → Int32} (h : rN f st mi wk wd ha ki hb) (k p sw ss ab be : Int32) (u : Nat → Int32) : (fX8_law k p st mi wk wd sw ss ki hb ha u).1 = (fX9_law k p ab be f).1 := by
  obtain ⟨hf, rfl, rfl, rfl, rfl, hh, hw⟩ := h
  have ek : fX8_within k 1 8 = fX9_in k.toInt64 1 8 := within_in (by decide) (by decide)
  have ep : fX8_within p 0 1 = fX9_in p.toInt64 0 1 := within_in (by decide) (by decide)
  unfold fX8_law fX9_law
  rw [ek, ep]
  by_cases c1 : fX9_in k.toInt64 1 8 = 0
  · rw [if_pos c1, if_pos c1]
  · rw [if_neg c1, if_neg c1]
    by_cases c2 : fX9_in p.toInt64 0 1 = 0
    · rw [if_pos c2, if_pos c2]
    · rw [if_neg c2, if_neg c2]
      have h1 : hU f k (fX6_find k (f 0) (f 1) (f 2) ki hb ha u) := find_eq hf hh hw k
      have hb1 := mean_b hf k (f 3) h1
      rw [mean_eq hf k (f 3) h1]
      simp only [xlet_eq]
      generalize fX6_find k (f 0) (f 1) (f 2) ki hb ha u = u1 at h1 hb1 ⊢
      try dsimp only
      generalize fX6_numberOf (f 3) (f 2) u1 = n1 at hb1 ⊢
      generalize fX6_sumOf (f 3) (f 2) u1 = s1 at hb1 ⊢
      by_cases c3 : n1 = 0
      · rw [if_pos c3, if_pos (b01.mpr ((num_0 hb1.2.1).mp c3))]
      · have k3 := t_neq c3
        have e0 : (0 : Int32).toInt = 0 := by decide
        rw [if_neg c3, if_neg (fun q => c3 ((num_0 hb1.2.1).mpr (b01.mp q)))]
        exact part_eq hb1.1.1 (by omega) (by omega)
-- SEND
theorem bits_tab : ∀ s, s < 64 → fJ6_bitCount_0f7a4 (nI s) = fX9_bits (nI s) := by decide +kernel
theorem bits_eq {s : Int32} (h0 : 0 ≤ s.toInt) (h1 : s.toInt ≤ 63) : fJ6_bitCount_0f7a4 s = fX9_bits s := by
  obtain ⟨a, ha, rfl⟩ := t_small (k := 63) (by decide) h0 (by omega)
  exact bits_tab a (by omega)
theorem send_5 {f u : Nat → Int32} (hf : gR f) (k p far : Int32) (hu : hU f k u) (hfar : far = 0 ∨ far = 1) : ∀ (n : Nat) (best s ab be : Int32), 0 ≤ s.toInt → (best = -1 ∨ (0 ≤ best.toInt ∧ best.toInt ≤ 63)) → fX8_fewestToSend_5 p far (f 2) (f 3) (f 2) u n best s = (fX9_send_52 k p far f n best s ab be).1 := by
  have e1 : (1 : Int32).toInt = 1 := by decide
  have n10 : ¬ (1 : Int32) = 0 := by decide
  have hz := t_shl hf.2.2.1.1 hf.2.2.1.2
  intro n
  induction n with
  | zero => intro best s ab be h0 hb; rfl
  | succ n ih =>
    intro best s ab be h0 hb
    rw [fX8_fewestToSend_5, fX9_send_52]
    by_cases c0 : ((1 : Int32) <<< ((f 2) &&& 31)) ≤ s
    · rw [if_pos c0, if_pos c0]
    · have k0 := t_nle c0
      rw [if_neg c0, if_neg c0]
      have zs : (s + 1).toInt = s.toInt + (1 : Int32).toInt := z_add (by omega) (by omega)
      have hs63 : s.toInt ≤ 63 := by omega
      have hbs := bits_eq h0 hs63
      have hm := mean_b hf k (s ||| f 3) hu
      have hl : fX9_layMean (s ||| f 3) k f = _ := mean_eq hf k (s ||| f 3) hu
      unfold fX8_standsAsWished
      simp only [xlet_eq]
      rw [hl, hbs]
      try dsimp only
      generalize fX6_numberOf (s ||| f 3) (f 2) u = n1 at hm ⊢
      generalize fX6_sumOf (s ||| f 3) (f 2) u = s1 at hm ⊢
      have hbb : ¬ best = -1 → fJ6_bitCount_0f7a4 best = fX9_bits best := fun q => by
        rcases hb with h | h
        · exact absurd h q
        · exact bits_eq h.1 h.2
      have i0 := fun ab be => ih best (s + 1) ab be (by omega) hb
      have i1 := fun ab be => ih s (s + 1) ab be (by omega) (Or.inr ⟨h0, hs63⟩)
      by_cases c1 : (s &&& f 3) = 0
      · by_cases c2 : best = -1
        · by_cases c3 : n1 = 0
          · have c4 : n1 ≤ 0 := (num_0 hm.2.1).mp c3
            simp only [if_pos c1, if_pos c2, if_neg n10, if_pos c3, if_pos c4, if_true, eq_self]
            exact i0 _ _
          · have c4 : ¬ n1 ≤ 0 := fun q => c3 ((num_0 hm.2.1).mpr q)
            simp only [if_pos c1, if_pos c2, if_neg n10, if_neg c3, if_neg c4]
            rcases hfar with rfl | rfl
            · by_cases c5 : p * n1 < s1
              · simp only [if_pos c5, if_true, eq_self]; exact i0 _ _
              · simp only [if_neg c5, if_neg n10, if_true, eq_self]; exact i1 _ _
            · by_cases c5 : s1 < p * n1
              · simp only [if_pos c5, if_neg n10, if_true, eq_self]; exact i0 _ _
              · simp only [if_neg c5, if_neg n10]; exact i1 _ _
        · rw [hbb c2]
          by_cases c6 : fX9_bits best ≤ fX9_bits s
          · simp only [if_pos c1, if_neg c2, if_pos c6, if_neg n10, if_true, eq_self]
            exact i0 _ _
          · by_cases c3 : n1 = 0
            · have c4 : n1 ≤ 0 := (num_0 hm.2.1).mp c3
              simp only [if_pos c1, if_neg c2, if_neg c6, if_neg n10, if_pos c3, if_pos c4, if_true, eq_self]
              exact i0 _ _
            · have c4 : ¬ n1 ≤ 0 := fun q => c3 ((num_0 hm.2.1).mpr q)
              simp only [if_pos c1, if_neg c2, if_neg c6, if_neg n10, if_neg c3, if_neg c4]
              rcases hfar with rfl | rfl
              · by_cases c5 : p * n1 < s1
                · simp only [if_pos c5, if_true, eq_self]; exact i0 _ _
                · simp only [if_neg c5, if_neg n10, if_true, eq_self]; exact i1 _ _
              · by_cases c5 : s1 < p * n1
                · simp only [if_pos c5, if_neg n10, if_true, eq_self]; exact i0 _ _
                · simp only [if_neg c5, if_neg n10]; exact i1 _ _
      · simp only [if_neg c1, if_true, eq_self]
        exact i0 _ _
theorem m_send {f : Nat → Int32} {st mi wk wd : Int32} {ha ki hb : Nat → Int32} (h : rN f st mi wk wd ha ki hb) (k p far sw ss ab be : Int32) (u : Nat → Int32) : (fX8_send k p far st mi wk wd sw ss ki hb ha u).1 = (fX9_send k p far ab be f).1 := by
  obtain ⟨hf, rfl, rfl, rfl, rfl, hh, hw⟩ := h
  have ek : fX8_within k 1 8 = fX9_in k.toInt64 1 8 := within_in (by decide) (by decide)
  have ep : fX8_within p 0 (f 0) = fX9_in p.toInt64 0 (f 0).toInt64 := within_in (by decide) rfl
  have ef : fX8_within far 0 1 = fX9_in far.toInt64 0 1 := within_in (by decide) (by decide)
  unfold fX8_send fX9_send
  rw [ek, ep, ef]
  by_cases c1 : fX9_in k.toInt64 1 8 = 0
  · rw [if_pos c1, if_pos c1]
  · rw [if_neg c1, if_neg c1]
    by_cases c2 : fX9_in p.toInt64 0 (f 0).toInt64 = 0
    · rw [if_pos c2, if_pos c2]
    · rw [if_neg c2, if_neg c2]
      by_cases c3 : fX9_in far.toInt64 0 1 = 0
      · rw [if_pos c3, if_pos c3]
      · rw [if_neg c3, if_neg c3]
        have hfb := in_b (l := 0) (h := 1) c3 (by decide) (by decide)
        have hfar : far = 0 ∨ far = 1 := by
          rcases k4 hfb.1 (by omega) with q | q | q | q
          · exact Or.inl q
          · exact Or.inr q
          · exfalso; rw [q] at hfb; exact absurd hfb.2 (by decide)
          · exfalso; rw [q] at hfb; exact absurd hfb.2 (by decide)
        have hy : (if far = 1 then (1 : Int32) else 0) = far := by
          rcases hfar with rfl | rfl
          · decide
          · decide
        simp only [xlet_eq]
        rw [hy]
        exact send_5 hf k p far (find_eq hf hh hw k) hfar 1000 (-1) 0 ab be (by decide) (Or.inl rfl)
