theorem upd_upd (g : Nat → Int32) (i : Nat) (x y : Int32) : upd (upd g i x) i y = upd g i y := by
  funext j
  by_cases q : j = i
  · subst q; rw [upd_at, upd_at]
  · rw [upd_ne _ _ q, upd_ne _ _ q, upd_ne _ _ q]
theorem at_upd {st x : Int32} {g : Nat → Int32} (h0 : 0 ≤ st.toInt) (h1 : st.toInt ≤ 63) : fX4_at st (upd g st.toInt.toNat x) 64 = x := by
  rw [at_in (by decide) h0 (by omega), upd_at]
theorem isBetter_eq {x y st near a b : Int32} {A B : Nat → Int32} (h0 : 0 ≤ st.toInt) (h1 : st.toInt ≤ 63) : fX0_isBetter x y st near (upd B st.toInt.toNat b) (upd A st.toInt.toNat a) = isb near x y a b := by
  unfold fX0_isBetter
  rw [at_upd h0 h1, at_upd h0 h1, xlet_eq]
  rfl
theorem settle_eq {st w a b x y z : Int32} {A B S : Nat → Int32} (h0 : 0 ≤ st.toInt) (h1 : st.toInt ≤ 63) : fX0_settle st w a b (upd S st.toInt.toNat x) (upd A st.toInt.toNat y) (upd B st.toInt.toNat z) = (upd S st.toInt.toNat w, upd A st.toInt.toNat a, upd B st.toInt.toNat b) := by
  unfold fX0_settle
  rw [put_in (by decide) h0 (by omega), put_in (by decide) h0 (by omega), put_in (by decide) h0 (by omega), upd_upd, upd_upd, upd_upd, xlet_eq, xlet_eq, xlet_eq]
theorem c11 (st near m steps : Int32) (pl A B S : Nat → Int32) (h0 : 0 ≤ st.toInt) (h1 : st.toInt ≤ 63) (h6 : m.toInt ≤ 6) (pa pb : Int32) (ha : (if (fX6_numberOf st m pl) = 0 then steps else (fX6_sumOf st m pl)) = pa) (hb : (if (fX6_numberOf st m pl) = 0 then 1 else (fX6_numberOf st m pl)) = pb) : ∀ (r n : Nat) (w a b c : Int32), r < n → 0 ≤ w.toInt → w.toInt + (r : Int) = m.toInt → fX0_chooseBest_11 st near m steps pl n (upd A st.toInt.toNat a) (upd B st.toInt.toNat b) (upd S st.toInt.toNat c) w = (upd S st.toInt.toNat (csc near pa pb st A B r w a b c).2.2, upd A st.toInt.toNat (csc near pa pb st A B r w a b c).1, upd B st.toInt.toNat (csc near pa pb st A B r w a b c).2.1) := by
  have e1 : (1 : Int32).toInt = 1 := by decide
  intro r
  induction r with
  | zero =>
    intro n w a b c hr g0 g1
    obtain ⟨n, rfl⟩ : ∃ z, n = z + 1 := ⟨n - 1, by omega⟩
    rw [fX0_chooseBest_11, if_pos (show m ≤ w from Int32.le_iff_toInt_le.mpr (by omega)), ha, xlet_eq, hb, xlet_eq, isBetter_eq h0 h1, settle_eq h0 h1, csc]
    by_cases c1 : isb near pa pb a b = 0
    · rw [if_pos c1, if_pos c1]
    · rw [if_neg c1, if_neg c1]
  | succ r ih =>
    intro n w a b c hr g0 g1
    obtain ⟨n, rfl⟩ : ∃ z, n = z + 1 := ⟨n - 1, by omega⟩
    have zw : (w + 1).toInt = w.toInt + (1 : Int32).toInt := z_add (by omega) (by omega)
    have g := fun a b c => ih n (w + 1) a b c (by omega) (by omega) (by omega)
    have ho := or_b h0 h1 g0 (by omega)
    rw [fX0_chooseBest_11, if_neg (show ¬ m ≤ w from fun q => by have := t_le q; omega), csc]
    by_cases c1 : (st ||| ((1 : Int32) <<< (w &&& 31))) = st
    · rw [if_pos c1, if_pos c1, g]
    · rw [if_neg c1, if_neg c1]
      have hne : (st ||| ((1 : Int32) <<< (w &&& 31))).toInt.toNat ≠ st.toInt.toNat := fun q => c1 (Int32.toInt_inj.mp (by omega))
      have hA : ∀ (G : Nat → Int32) (x : Int32), fX4_at (st ||| ((1 : Int32) <<< (w &&& 31))) (upd G st.toInt.toNat x) 64 = G (st ||| ((1 : Int32) <<< (w &&& 31))).toInt.toNat := fun G x => by
        rw [at_in (by decide) ho.1 (by omega), upd_ne _ _ hne]
      rw [hA, hA, isBetter_eq h0 h1, settle_eq h0 h1]
      by_cases c2 : isb near (A (st ||| ((1 : Int32) <<< (w &&& 31))).toInt.toNat) (B (st ||| ((1 : Int32) <<< (w &&& 31))).toInt.toNat) a b = 0
      · rw [if_pos c2, if_pos c2, g]
      · rw [if_neg c2, if_neg c2]
        exact g _ _ _
/-- what the class's three rows get at the set st -/
def cset (near m steps : Int32) (pl : Nat → Int32) (st : Int32) (A B : Nat → Int32) : Int32 × Int32 × Int32 := csc near (if (fX6_numberOf st m pl) = 0 then steps else (fX6_sumOf st m pl)) (if (fX6_numberOf st m pl) = 0 then 1 else (fX6_numberOf st m pl)) st A B m.toInt.toNat 0 0 0 (-1)
theorem choose_eq (st near m steps : Int32) (pl A B S : Nat → Int32) (h0 : 0 ≤ st.toInt) (h1 : st.toInt ≤ 63) (m0 : 0 ≤ m.toInt) (h6 : m.toInt ≤ 6) : fX0_chooseBest st near S A B m steps pl = (upd S st.toInt.toNat (cset near m steps pl st A B).2.2, upd A st.toInt.toNat (cset near m steps pl st A B).1, upd B st.toInt.toNat (cset near m steps pl st A B).2.1) := by
  have e0 : (0 : Int32).toInt = 0 := by decide
  unfold fX0_chooseBest
  have hs : fX0_settle st (-1) 0 0 S A B = (upd S st.toInt.toNat (-1), upd A st.toInt.toNat 0, upd B st.toInt.toNat 0) := by
    unfold fX0_settle
    rw [put_in (by decide) h0 (by omega), put_in (by decide) h0 (by omega), put_in (by decide) h0 (by omega), xlet_eq, xlet_eq, xlet_eq]
  rw [hs]
  exact c11 st near m steps pl A B S h0 h1 h6 _ _ rfl rfl m.toInt.toNat 1000 0 0 0 (-1) (by omega) (by decide) (by rw [e0]; omega)
/-- the scan looks at larger sets alone -/
theorem csc_cong (near pa pb st m : Int32) (A B A2 B2 : Nat → Int32) (h0 : 0 ≤ st.toInt) (h1 : st.toInt ≤ 63) (h6 : m.toInt ≤ 6) (h : ∀ i : Nat, st.toInt.toNat < i → A i = A2 i ∧ B i = B2 i) : ∀ (r : Nat) (w a b c : Int32), 0 ≤ w.toInt → w.toInt + (r : Int) = m.toInt → csc near pa pb st A B r w a b c = csc near pa pb st A2 B2 r w a b c := by
  have e1 : (1 : Int32).toInt = 1 := by decide
  intro r
  induction r with
  | zero => intro w a b c g0 g1; rfl
  | succ r ih =>
    intro w a b c g0 g1
    have zw : (w + 1).toInt = w.toInt + (1 : Int32).toInt := z_add (by omega) (by omega)
    have g := fun a b c => ih (w + 1) a b c (by omega) (by omega)
    rw [csc, csc]
    by_cases c1 : (st ||| ((1 : Int32) <<< (w &&& 31))) = st
    · rw [if_pos c1, if_pos c1, g]
    · rw [if_neg c1, if_neg c1]
      have hu := st_up h0 h1 g0 (by omega) ((mem_iff h0 h1 g0 (by omega)).mpr c1)
      obtain ⟨k1, k2⟩ := h (st ||| ((1 : Int32) <<< (w &&& 31))).toInt.toNat (by omega)
      rw [k1, k2, g, g]
def nearOf (s wd : Int32) : Int32 := if (((fJ6_bitCount_0f7a4 s) - (fJ6_bitCount_0f7a4 wd)) - ((fJ6_bitCount_0f7a4 s) - (fJ6_bitCount_0f7a4 wd)) / 2 * 2) = 0 then (1 : Int32) else 0
def FPc (m steps wd : Int32) (pl : Nat → Int32) (lo : Int) (A B S : Nat → Int32) : Prop := ∀ s : Int32, lo ≤ s.toInt → 0 ≤ s.toInt → s.toInt < ((1 : Int32) <<< (m &&& 31)).toInt → (s &&& wd) = wd → A s.toInt.toNat = (cset (nearOf s wd) m steps pl s A B).1 ∧ B s.toInt.toNat = (cset (nearOf s wd) m steps pl s A B).2.1 ∧ S s.toInt.toNat = (cset (nearOf s wd) m steps pl s A B).2.2
theorem cset_cong (near m steps : Int32) (pl : Nat → Int32) (st : Int32) (A B A2 B2 : Nat → Int32) (h0 : 0 ≤ st.toInt) (h1 : st.toInt ≤ 63) (m0 : 0 ≤ m.toInt) (h6 : m.toInt ≤ 6) (h : ∀ i : Nat, st.toInt.toNat < i → A i = A2 i ∧ B i = B2 i) : cset near m steps pl st A B = cset near m steps pl st A2 B2 :=
  csc_cong near _ _ st m A B A2 B2 h0 h1 h6 h _ _ _ _ _ (by decide) (by rw [show (0 : Int32).toInt = 0 by decide]; omega)
theorem play_15 (wd m steps : Int32) (pl : Nat → Int32) (m0 : 0 ≤ m.toInt) (h6 : m.toInt ≤ 6) : ∀ (n : Nat) (A B S : Nat → Int32) (v : Int32), -1 ≤ v.toInt → v.toInt < ((1 : Int32) <<< (m &&& 31)).toInt → v.toInt + 1 < (n : Int) → FPc m steps wd pl (v.toInt + 1) A B S → FPc m steps wd pl 0 (fX0_play_15 wd m steps pl n A B S v).2.1 (fX0_play_15 wd m steps pl n A B S v).2.2 (fX0_play_15 wd m steps pl n A B S v).1 := by
  have e0 : (0 : Int32).toInt = 0 := by decide
  have hz := t_shl m0 h6
  intro n
  induction n with
  | zero => intro A B S v h1 h2 h3; omega
  | succ n ih =>
    intro A B S v h1 h2 h3 hF
    rw [fX0_play_15]
    by_cases c : v < 0
    · rw [if_pos c]
      have := t_lt c
      have e : v.toInt + 1 = 0 := by omega
      rw [e] at hF
      exact hF
    · rw [if_neg c]
      have kc := t_nlt c
      obtain ⟨d1, d2, d3⟩ := dec0_b (v := v) (by omega) (by omega)
      by_cases c2 : (v &&& wd) = wd
      · rw [if_pos c2, xlet_eq]
        have hc := choose_eq v (nearOf v wd) m steps pl A B S (by omega) (by omega) m0 h6
        unfold nearOf at hc
        rw [hc]
        refine ih _ _ _ _ (by omega) (by omega) (by omega) ?_
        rw [d3]
        intro s hs hs0 hs1 hsw
        generalize er : cset (if (((fJ6_bitCount_0f7a4 v) - (fJ6_bitCount_0f7a4 wd)) - ((fJ6_bitCount_0f7a4 v) - (fJ6_bitCount_0f7a4 wd)) / 2 * 2) = 0 then (1 : Int32) else 0) m steps pl v A B = r0
        have hcg : ∀ near, cset near m steps pl s (upd A v.toInt.toNat r0.1) (upd B v.toInt.toNat r0.2.1) = cset near m steps pl s A B := fun near => cset_cong near m steps pl s _ _ _ _ hs0 (by omega) m0 h6 (fun i hi => ⟨upd_ne _ _ (by omega), upd_ne _ _ (by omega)⟩)
        rw [hcg]
        rcases Int.lt_or_eq_of_le hs with q | q
        · rw [upd_ne _ _ (by omega), upd_ne _ _ (by omega), upd_ne _ _ (by omega)]
          exact hF s (by omega) hs0 hs1 hsw
        · have hss : s = v := Int32.toInt_inj.mp q.symm
          subst hss
          rw [upd_at, upd_at, upd_at]
          unfold nearOf
          rw [er]
          exact ⟨rfl, rfl, rfl⟩
      · rw [if_neg c2]
        refine ih _ _ _ _ (by omega) (by omega) (by omega) ?_
        rw [d3]
        intro s hs hs0 hs1 hsw
        rcases Int.lt_or_eq_of_le hs with q | q
        · exact hF s (by omega) hs0 hs1 hsw
        · have hss : s = v := Int32.toInt_inj.mp q.symm
          subst hss
          exact absurd hsw c2
theorem play_fp (wd m steps : Int32) (pl A B S : Nat → Int32) (m0 : 0 ≤ m.toInt) (h6 : m.toInt ≤ 6) : FPc m steps wd pl 0 (fX0_play wd m steps S A B pl).2.1 (fX0_play wd m steps S A B pl).2.2 (fX0_play wd m steps S A B pl).1 := by
  have hz := t_shl m0 h6
  have e1 : (1 : Int32).toInt = 1 := by decide
  have z : (((1 : Int32) <<< (m &&& 31)) - 1).toInt = ((1 : Int32) <<< (m &&& 31)).toInt - (1 : Int32).toInt := z_sub (by omega) (by omega)
  refine play_15 wd m steps pl m0 h6 1000 A B S _ (by omega) (by omega) (by omega) ?_
  intro s hs hs0 hs1
  omega
-- by turns: parity
theorem par_tab : ∀ s, s < 64 → ∀ w, w < 6 → ((nI s >>> (nI w &&& 31)) &&& 1) = 0 → fJ6_bitCount_0f7a4 (nI s ||| ((1 : Int32) <<< (nI w &&& 31))) = fJ6_bitCount_0f7a4 (nI s) + 1 := by decide +kernel
theorem par_tab2 : ∀ a, a < 7 → ∀ b, b < 7 → ((((nI a + 1) - nI b) - ((nI a + 1) - nI b) / 2 * 2) = 0 ↔ ¬ ((nI a - nI b) - (nI a - nI b) / 2 * 2) = 0) := by decide +kernel
theorem bv_absorb (x y : BitVec 32) : x ||| (y &&& x) = x := by
  apply BitVec.eq_of_getLsbD_eq
  intro i hi
  simp only [BitVec.getLsbD_or, BitVec.getLsbD_and]
  cases x.getLsbD i <;> cases y.getLsbD i <;> rfl
theorem sup_up {s b wd : Int32} (h : (s &&& wd) = wd) : ((s ||| b) &&& wd) = wd := by
  have e : (s ||| b) &&& wd = (s &&& wd) ||| (b &&& wd) := Int32.toBitVec_inj.1 BitVec.and_or_distrib_right
  rw [e, h]
  exact Int32.toBitVec_inj.1 (bv_absorb _ _)
/-- both games hold the same at every set that the road's own is within -/
theorem games {f u : Nat → Int32} (hf : gR f) (k wd : Int32) (hu : hU f k u) (w0 : 0 ≤ wd.toInt) (w63 : wd.toInt ≤ 63) {A B S T P U : Nat → Int32} (h8 : FPc (f 2) (f 0) wd u 0 A B S) (h9 : FP f k 0 T P U) : ∀ (n : Nat) (s : Int32), 0 ≤ s.toInt → s.toInt < ((1 : Int32) <<< ((f 2) &&& 31)).toInt → (s &&& wd) = wd → 64 - s.toInt < (n : Int) → ∀ t : Int32, (t = 0 ∧ nearOf s wd = 1) ∨ (t = 1 ∧ nearOf s wd = 0) → A s.toInt.toNat = T ((2 * s) + t).toNatClampNeg ∧ B s.toInt.toNat = P ((2 * s) + t).toNatClampNeg ∧ S s.toInt.toNat = U ((2 * s) + t).toNatClampNeg := by
  have e0 : (0 : Int32).toInt = 0 := by decide
  have e1 : (1 : Int32).toInt = 1 := by decide
  have n10 : ¬ (1 : Int32) = 0 := by decide
  obtain ⟨v0, v6⟩ := hf.2.2.1
  have hz := t_shl v0 v6
  intro n
  induction n with
  | zero => intro s a1 a2 a3 a4; omega
  | succ n ih =>
    intro s a1 a2 a3 a4 t ht
    have h63 : s.toInt ≤ 63 := by omega
    have ht' : t = 0 ∨ t = 1 := ht.imp And.left And.left
    obtain ⟨p1, p2, p3⟩ := h8 s a1 a1 a2 a3
    obtain ⟨q1, q2, q3⟩ := h9 s a1 a1 a2 t ht'
    have hpl := layPlace_b (st := s) (k := k) hf.1.1 hf.1.2 v6
    have hpp := place_pair hf k s hu
    have key : cset (nearOf s wd) (f 2) (f 0) u s A B = ltr f k s t T P := by
      unfold cset ltr
      have ea : (if (fX6_numberOf s (f 2) u) = 0 then (f 0) else (fX6_sumOf s (f 2) u)) = (fX9_layPlace s k f).1 := by
        rw [hpp]
        by_cases c : fX6_numberOf s (f 2) u = 0
        · rw [if_pos c, if_pos c]
        · rw [if_neg c, if_neg c]
      have eb : (if (fX6_numberOf s (f 2) u) = 0 then 1 else (fX6_numberOf s (f 2) u)) = (fX9_layPlace s k f).2 := by
        rw [hpp]
        by_cases c : fX6_numberOf s (f 2) u = 0
        · rw [if_pos c, if_pos c]
        · rw [if_neg c, if_neg c]
      rw [ea, eb]
      refine sim (m := f 2) ht a1 h63 v6 ⟨⟨hpl.1, hpl.2.1⟩, hpl.2.2⟩ (fun w g0 g1 c => ?_) _ _ _ _ _ _ _ _ (by decide) (by rw [e0]; omega) (Or.inl ⟨rfl, rfl, rfl, Or.inl rfl⟩)
      have hu2 := st_up a1 h63 g0 (by omega) c
      have hi := st_in v6 a1 a2 g0 g1
      have ho := or_b a1 h63 g0 (by omega)
      have hpar : fJ6_bitCount_0f7a4 (s ||| ((1 : Int32) <<< (w &&& 31))) = fJ6_bitCount_0f7a4 s + 1 := by
        obtain ⟨a, ha, ea⟩ := t_small (k := 63) (x := s) (by decide) a1 (by omega)
        obtain ⟨b, hb, eb⟩ := t_small (k := 5) (x := w) (by decide) g0 (by omega)
        rw [ea, eb] at c ⊢
        exact par_tab a (by omega) b (by omega) c
      have bs := bc_b (x := s) a1 (by omega)
      have bw := bc_b (x := wd) w0 (by omega)
      have hnr : (t = 0 → nearOf (s ||| ((1 : Int32) <<< (w &&& 31))) wd = 0) ∧ (t = 1 → nearOf (s ||| ((1 : Int32) <<< (w &&& 31))) wd = 1) := by
        obtain ⟨a, ha, ea⟩ := t_small (k := 6) (x := fJ6_bitCount_0f7a4 s) (by decide) bs.1 (by omega)
        obtain ⟨b, hb, eb⟩ := t_small (k := 6) (x := fJ6_bitCount_0f7a4 wd) (by decide) bw.1 (by omega)
        have ht2 := par_tab2 a (by omega) b (by omega)
        unfold nearOf at ht ⊢
        rw [hpar, ea, eb]
        rw [ea, eb] at ht
        refine ⟨fun q => ?_, fun q => ?_⟩
        · rcases ht with ⟨-, h⟩ | ⟨h, -⟩
          · by_cases c9 : ((nI a - nI b) - (nI a - nI b) / 2 * 2) = 0
            · rw [if_neg (fun z => ht2.mp z c9)]
            · rw [if_neg c9] at h; exact absurd h.symm n10
          · rw [h] at q; exact absurd q n10
        · rcases ht with ⟨h, -⟩ | ⟨-, h⟩
          · rw [h] at q; exact absurd q.symm n10
          · by_cases c9 : ((nI a - nI b) - (nI a - nI b) / 2 * 2) = 0
            · rw [if_pos c9] at h; exact absurd h n10
            · rw [if_pos (ht2.mpr c9)]
      have hfb := fp_b f k T P U hf.1.1 hf.1.2 v0 v6 h9 100 (s ||| ((1 : Int32) <<< (w &&& 31))) ho.1 hi (by omega)
      have hrec := ih (s ||| ((1 : Int32) <<< (w &&& 31))) ho.1 hi (sup_up a3) (by omega)
      rcases ht' with rfl | rfl
      · have r1 := hrec 1 (Or.inr ⟨rfl, hnr.1 rfl⟩)
        have b1 := hfb 1 (Or.inr rfl)
        have ex : ((2 * (s ||| ((1 : Int32) <<< (w &&& 31)))) + 1).toNatClampNeg = tnx s 0 w := by rw [ix_val ho.1 ho.2 (Or.inr rfl), tnx_val a1 h63 g0 (by omega) (Or.inl rfl), e1, e0]; rfl
        rw [ex] at r1 b1
        exact ⟨r1.1, r1.2.1, b1⟩
      · have r1 := hrec 0 (Or.inl ⟨rfl, hnr.2 rfl⟩)
        have b1 := hfb 0 (Or.inl rfl)
        have ex : ((2 * (s ||| ((1 : Int32) <<< (w &&& 31)))) + 0).toNatClampNeg = tnx s 1 w := by rw [ix_val ho.1 ho.2 (Or.inl rfl), tnx_val a1 h63 g0 (by omega) (Or.inr rfl), e1, e0]; rfl
        rw [ex] at r1 b1
        exact ⟨r1.1, r1.2.1, b1⟩
    rw [p1, p2, p3, q1, q2, q3, key]
    exact ⟨rfl, rfl, rfl⟩
theorem m_turns {f : Nat → Int32} {st mi wk wd : Int32} {ha ki hb : Nat → Int32} (h : rN f st mi wk wd ha ki hb) (k p sw ss ab be : Int32) (u gS gA gB T P U : Nat → Int32) : (fX8_turns k p st mi wk wd sw ss ki hb ha u gS gA gB).1 = (fX9_turns k p ab be f T P U).1 := by
  obtain ⟨hf, rfl, rfl, rfl, rfl, hh, hw⟩ := h
  have ek : fX8_within k 1 8 = fX9_in k.toInt64 1 8 := within_in (by decide) (by decide)
  have ep : fX8_within p 0 2 = fX9_in p.toInt64 0 2 := within_in (by decide) (by decide)
  unfold fX8_turns fX9_turns
  rw [ek, ep]
  by_cases c1 : fX9_in k.toInt64 1 8 = 0
  · rw [if_pos c1, if_pos c1]
  · rw [if_neg c1, if_neg c1]
    by_cases c2 : fX9_in p.toInt64 0 2 = 0
    · rw [if_pos c2, if_pos c2]
    · rw [if_neg c2, if_neg c2]
      obtain ⟨v0, v6⟩ := hf.2.2.1
      obtain ⟨w0, w1⟩ := hf.2.2.2.1
      have hz := t_shl v0 v6
      have h1 : hU f k (fX6_find k (f 0) (f 1) (f 2) ki hb ha u) := find_eq hf hh hw k
      have h8 := play_fp (f 3) (f 2) (f 0) (fX6_find k (f 0) (f 1) (f 2) ki hb ha u) gA gB gS v0 v6
      have h9 := layTurns_fp f k ab be T P U v0 v6
      have hb9 := layTurns_b f k ab be T P U hf.1.1 hf.1.2 v0 v6 w0 w1
      have hg := games hf k (f 3) h1 w0 (by omega) h8 h9 100 (f 3) w0 w1 (Int32.and_self) (by omega) 0 (Or.inl ⟨rfl, by
        unfold nearOf
        rw [Int32.sub_self]
        decide⟩)
      have e20 : (2 * (f 3)) + 0 = 2 * (f 3) := Int32.add_zero _
      rw [e20] at hg
      rw [xlet_eq]
      rcases e8 : fX0_play (f 3) (f 2) (f 0) gS gA gB (fX6_find k (f 0) (f 1) (f 2) ki hb ha u) with ⟨g1, g2, g3⟩
      rcases e9 : fX9_layTurns k ab be f T P U with ⟨l1, l2, l3, l4, l5⟩
      rw [e8, e9] at hg
      rw [e9] at hb9
      dsimp only at hg hb9 ⊢
      have a1 : fX4_at (f 3) g1 64 = l5 (2 * (f 3)).toNatClampNeg := by rw [at_in (by decide) w0 (by omega)]; exact hg.2.2
      have a2 : fX4_at (f 3) g2 64 = l3 (2 * (f 3)).toNatClampNeg := by rw [at_in (by decide) w0 (by omega)]; exact hg.1
      have a3 : fX4_at (f 3) g3 64 = l4 (2 * (f 3)).toNatClampNeg := by rw [at_in (by decide) w0 (by omega)]; exact hg.2.1
      unfold fX0_sentFrom fX0_aboveFrom fX0_belowFrom
      rw [a1, a2, a3]
      by_cases c3 : p = 2
      · rw [if_pos c3, if_pos c3]
      · rw [if_neg c3, if_neg c3, xlet_eq]
        exact part_eq hb9.1.1 hb9.2.1 (by omega)
