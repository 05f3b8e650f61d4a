-- CIDER
theorem ciW_tab : ∀ q, q < 11 → ∀ m, m < 7 → ∀ s, s < 2 ^ m → ((fX8_power (nI q) (fJ6_bitCount_0f7a4 (nI s))) * (fX8_power (10 - nI q) (nI m - fJ6_bitCount_0f7a4 (nI s)))).toInt64 = ciT (nI q) (nI m) (nI s) := by decide +kernel
theorem pw_tab : ∀ m, m < 7 → fX8_power 10 (nI m) = nI (10 ^ m) := by decide +kernel
theorem ciW_eq {q m s : Int32} (hq : 0 ≤ q.toInt ∧ q.toInt ≤ 10) (hm0 : 0 ≤ m.toInt) (hm6 : m.toInt ≤ 6) (h0 : 0 ≤ s.toInt) (h1 : s.toInt < ((1 : Int32) <<< (m &&& 31)).toInt) : ((fX8_power q (fJ6_bitCount_0f7a4 s)) * (fX8_power (10 - q) (m - fJ6_bitCount_0f7a4 s))).toInt64 = ciT q m s := by
  obtain ⟨q, hq', rfl⟩ := t_small (k := 10) (x := q) (by decide) (by omega) (by omega)
  obtain ⟨m, hm', rfl⟩ := t_small (k := 6) (x := m) (by decide) (by omega) (by omega)
  have hz := t_shl hm0 hm6
  rw [shl_tab m (by omega)] at h1
  obtain ⟨s, hs', rfl⟩ := t_small (k := 64) (x := s) (by decide) (by omega) (by rw [shl_tab m (by omega)] at hz; omega)
  rw [nI_toInt (by omega)] at h1
  refine ciW_tab q (by omega) m (by omega) s ?_
  have e : ((2 ^ m : Nat) : Int) = (2 : Int) ^ m := by simp
  omega
theorem ci87 (f : Nat → Int32) (k p q s : Int32) (al od : Int64) (k68 : Int64 → Int64 → Int32 → Int32 → Int32 → Int32 × Int32 × Int32) (hv : 0 ≤ (f 2).toInt) (h6 : (f 2).toInt ≤ 6) : ∀ (r n : Nat) (a : Int64) (w : Int32), r < n → 0 ≤ w.toInt → w.toInt + (r : Int) = (f 2).toInt → fX9_cider_87 k p q f s al od k68 n a w = k68 (od + (if (fX9_layPlace s k f).1 < p * (fX9_layPlace s k f).2 then 0 else ciWt q s r a w)) (al + ciWt q s r a w) (s + 1) (fX9_layPlace s k f).1 (fX9_layPlace s k f).2 := by
  have e1 : (1 : Int32).toInt = 1 := by decide
  intro r
  induction r with
  | zero =>
    intro n a w hr h0 h1
    obtain ⟨n, rfl⟩ : ∃ z, n = z + 1 := ⟨n - 1, by omega⟩
    rw [fX9_cider_87, if_pos (show f 2 ≤ w from Int32.le_iff_toInt_le.mpr (by omega))]
    rcases fX9_layPlace s k f with ⟨u6, u7⟩
    dsimp only
    rw [xlet_eq]
    rfl
  | succ r ih =>
    intro n a w hr h0 h1
    obtain ⟨n, rfl⟩ : ∃ z, n = z + 1 := ⟨n - 1, by omega⟩
    have zw : (w + 1).toInt = w.toInt + (1 : Int32).toInt := z_add (by omega) (by omega)
    rw [fX9_cider_87, if_neg (show ¬ f 2 ≤ w from fun q => by have := t_le q; omega), xlet_eq, ih n _ (w + 1) (by omega) (by omega) (by omega)]
    rfl
theorem i64_add {a b : Int32} (h0 : -2147483648 ≤ a.toInt + b.toInt) (h1 : a.toInt + b.toInt ≤ 2147483647) : (a + b).toInt64 = a.toInt64 + b.toInt64 := by
  apply Int64.toInt_inj.mp
  have ha := z_rng a
  have hb := z_rng b
  rw [z64_add (by rw [Int32.toInt_toInt64, Int32.toInt_toInt64]; omega) (by rw [Int32.toInt_toInt64, Int32.toInt_toInt64]; omega), Int32.toInt_toInt64, Int32.toInt_toInt64, Int32.toInt_toInt64, z_add h0 h1]
theorem cider_68 {f u : Nat → Int32} (hf : gR f) (k p q part : Int32) (hu : hU f k u) (hq : 0 ≤ q.toInt ∧ q.toInt ≤ 10) (hp0 : 0 ≤ p.toInt) (hp : p.toInt ≤ (f 0).toInt) : ∀ (n : Nat) (acc s : Int32) (al : Int64) (ab be : Int32), 0 ≤ s.toInt → s.toInt ≤ ((1 : Int32) <<< ((f 2) &&& 31)).toInt → 64 - s.toInt < (n : Int) → al = ciAl q (f 2) s.toInt.toNat → 0 ≤ acc.toInt → acc.toInt ≤ 1000000 * s.toInt → (fX9_cider_68 k p q part f n acc.toInt64 al s ab be).1 = fX8_partOf (fX8_waysNotShortOf_5 p q (f 2) (f 2) u n acc s) (fX8_power 10 (f 2)) part := by
  have e1 : (1 : Int32).toInt = 1 := by decide
  have e0 : (0 : Int32).toInt = 0 := by decide
  have n10 : ¬ (1 : Int32) = 0 := by decide
  obtain ⟨⟨n0, n1⟩, -, ⟨v0, v6⟩, -⟩ := id hf
  have hz := t_shl v0 v6
  intro n
  induction n with
  | zero => intro acc s al ab be h0 h1 h2; omega
  | succ n ih =>
    intro acc s al ab be h0 h1 h2 h3 h4 h5
    rw [fX9_cider_68, fX8_waysNotShortOf_5]
    by_cases c0 : ((1 : Int32) <<< ((f 2) &&& 31)) ≤ s
    · rw [if_pos c0, if_pos c0]
      obtain ⟨g1, g2, g3⟩ := ci_end hq v0 v6 h1 (t_le c0) h3
      obtain ⟨m, hm, em⟩ := t_small (k := 6) (x := f 2) (by decide) v0 (by omega)
      have hpw : fX8_power 10 (f 2) = nI (10 ^ m) := by rw [em]; exact pw_tab m (by omega)
      have tm : (f 2).toInt.toNat = m := by rw [em, nI_toInt (by omega)]; rfl
      have h10 : 1 ≤ 10 ^ m ∧ 10 ^ m ≤ 1000000 := by
        rcases (show m = 0 ∨ m = 1 ∨ m = 2 ∨ m = 3 ∨ m = 4 ∨ m = 5 ∨ m = 6 by omega) with rfl | rfl | rfl | rfl | rfl | rfl | rfl <;> decide
      rw [tm] at g3
      rw [hpw, g3]
      generalize 10 ^ m = t at h10 ⊢
      obtain ⟨a, ha, rfl, ta⟩ := i32_nat h4
      rw [part_eq h4 (by rw [nI_toInt (by omega)]; omega) (by rw [nI_toInt (by omega)]; omega), xlet_eq, nI_l ha, nI_l (show t < 2 ^ 31 by omega), common_gcd (by omega) (by omega), lN_i]
      have hg : 0 < Nat.gcd a t := Nat.gcd_pos_of_pos_right a (by omega)
      have hl : Nat.gcd a t ≤ t := Nat.le_of_dvd (by omega) (Nat.gcd_dvd_right a t)
      generalize Nat.gcd a t = g at hg hl ⊢
      show ((if part = 0 then lN a else lN t) / lN g).toInt32 = (if part = 0 then nI a else nI t) / nI g
      by_cases c1 : part = 0
      · rw [if_pos c1, if_pos c1, pk_lDiv (by omega) hg (by omega), lN_i, i32_div ha (by omega)]
      · rw [if_neg c1, if_neg c1, pk_lDiv (by omega) hg (by omega), lN_i, i32_div (by omega) (by omega)]
    · rw [if_neg c0, if_neg c0]
      have k0 := t_nle c0
      have zs : (s + 1).toInt = s.toInt + (1 : Int32).toInt := z_add (by omega) (by omega)
      have hT : ciWt q s (f 2).toInt.toNat 1 0 = ciT q (f 2) s := rfl
      have hcw := ciW_eq hq v0 v6 h0 k0
      have hcb := ciT_b hq v0 v6 h0 k0
      rw [ci87 f k p q s al acc.toInt64 _ v0 v6 (f 2).toInt.toNat 1000 1 0 (by omega) (by decide) (by rw [e0]; omega), hT, ← hcw]
      rw [← hcw, Int32.toInt_toInt64] at hcb
      have hal : al + ((fX8_power q (fJ6_bitCount_0f7a4 s)) * (fX8_power (10 - q) (f 2 - fJ6_bitCount_0f7a4 s))).toInt64 = ciAl q (f 2) (s + 1).toInt.toNat := by
        have es : (s + 1).toInt.toNat = s.toInt.toNat + 1 := by omega
        rw [es, ciAl, nI_of_toNat h0, ← h3, hcw]
      generalize (fX8_power q (fJ6_bitCount_0f7a4 s)) * (fX8_power (10 - q) (f 2 - fJ6_bitCount_0f7a4 s)) = x at hcb hal ⊢
      have hm := mean_b hf k s hu
      rw [place_pair hf k s hu]
      unfold fX8_standsAsWished
      have hx0 : acc.toInt64 + (0 : Int64) = acc.toInt64 := Int64.add_zero _
      have hxx : acc.toInt64 + x.toInt64 = (acc + x).toInt64 := (i64_add (by omega) (by omega)).symm
      have zax : (acc + x).toInt = acc.toInt + x.toInt := z_add (by omega) (by omega)
      have i0 := fun ab be => ih acc (s + 1) (al + x.toInt64) ab be (by omega) (by omega) (by omega) hal h4 (by omega)
      have i1 := fun ab be => ih (acc + x) (s + 1) (al + x.toInt64) ab be (by omega) (by omega) (by omega) hal (by omega) (by omega)
      generalize fX6_numberOf s (f 2) u = c at hm ⊢
      generalize fX6_sumOf s (f 2) u = d at hm ⊢
      by_cases c1 : c = 0
      · rw [if_pos c1, if_pos c1]
        have hp1 : ¬ (f 0, (1 : Int32)).1 < p * (f 0, (1 : Int32)).2 := fun w => by
          have w : f 0 < p * 1 := w
          rw [Int32.mul_one] at w
          have := t_lt w; omega
        rw [if_neg hp1, hxx]
        exact i1 _ _
      · rw [if_neg c1, if_neg c1, if_neg c1, xlet_eq, if_neg n10]
        by_cases c2 : d < p * c
        · rw [if_pos c2, if_pos (show (d, c).1 < p * (d, c).2 from c2), if_pos rfl, hx0]
          exact i0 _ _
        · rw [if_neg c2, if_neg (show ¬ (d, c).1 < p * (d, c).2 from c2), if_neg n10, hxx]
          exact i1 _ _
theorem m_cider {f : Nat → Int32} {st mi wk wd : Int32} {ha ki hb : Nat → Int32} (h : rN f st mi wk wd ha ki hb) (k p q part sw ss ab be : Int32) (u : Nat → Int32) : (fX8_cider k p q part st mi wk sw ss ki hb ha u).1 = (fX9_cider k p q part ab be f).1 := by
  obtain ⟨hf, rfl, rfl, rfl, rfl, hh, hw⟩ := h
  have ek : fX8_within k 1 8 = fX9_in k.toInt64 1 8 := within_in (by decide) (by decide)
  have ep : fX8_within p 0 (f 0) = fX9_in p.toInt64 0 (f 0).toInt64 := within_in (by decide) rfl
  have eq : fX8_within q 0 10 = fX9_in q.toInt64 0 10 := within_in (by decide) (by decide)
  have er : fX8_within part 0 1 = fX9_in part.toInt64 0 1 := within_in (by decide) (by decide)
  unfold fX8_cider fX9_cider
  rw [ek, ep, eq, er]
  by_cases c1 : fX9_in k.toInt64 1 8 = 0
  · rw [if_pos c1, if_pos c1]
  · rw [if_neg c1, if_neg c1]
    by_cases c2 : fX9_in p.toInt64 0 (f 0).toInt64 = 0
    · rw [if_pos c2, if_pos c2]
    · rw [if_neg c2, if_neg c2]
      by_cases c3 : fX9_in q.toInt64 0 10 = 0
      · rw [if_pos c3, if_pos c3]
      · rw [if_neg c3, if_neg c3]
        by_cases c4 : fX9_in part.toInt64 0 1 = 0
        · rw [if_pos c4, if_pos c4]
        · rw [if_neg c4, if_neg c4]
          have bp := in_b (l := 0) c2 (by decide) (Int32.toInt_toInt64 _)
          have bq := in_b (l := 0) (h := 10) c3 (by decide) (by decide)
          have hz := t_shl hf.2.2.1.1 hf.2.2.1.2
          have hfin := cider_68 hf k p q part (find_eq (u := u) hf hh hw k) bq bp.1 bp.2 1000 0 0 0 ab be (by decide) (by rw [show (0 : Int32).toInt = 0 by decide]; omega) (by decide) (ci_z q (f 2)) (by decide) (by decide)
          rw [xlet_eq]
          exact hfin.symm
