-- TURNS in the reference: one scan over the walkers; what the arrays hold behind all
def tnx (st t w : Int32) : Nat := (((2 * (st ||| ((1 : Int32) <<< (w &&& 31)))) + 1) - t).toNatClampNeg
def tsc (m st t : Int32) (T P : Nat → Int32) : Nat → Int32 → Int32 → Int32 → Int32 → Int32 × Int32 × Int32
  | 0, _, a, b, c => (a, b, c)
  | r + 1, w, a, b, c => if ((st >>> (w &&& 31)) &&& 1) = 0 then (if (if t = 0 then (if 0 ≤ (((T (((2 * (st ||| ((1 : Int32) <<< (w &&& 31)))) + 1) - t).toNatClampNeg) * b) - (a * (P (((2 * (st ||| ((1 : Int32) <<< (w &&& 31)))) + 1) - t).toNatClampNeg))) then (0 : Int32) else 1) else (if (((T (((2 * (st ||| ((1 : Int32) <<< (w &&& 31)))) + 1) - t).toNatClampNeg) * b) - (a * (P (((2 * (st ||| ((1 : Int32) <<< (w &&& 31)))) + 1) - t).toNatClampNeg))) ≤ 0 then 0 else 1)) = 0 then (if (((T (((2 * (st ||| ((1 : Int32) <<< (w &&& 31)))) + 1) - t).toNatClampNeg) * b) - (a * (P (((2 * (st ||| ((1 : Int32) <<< (w &&& 31)))) + 1) - t).toNatClampNeg))) = 0 then (if c = (-1) then tsc m st t T P r (w + 1) (T (((2 * (st ||| ((1 : Int32) <<< (w &&& 31)))) + 1) - t).toNatClampNeg) (P (((2 * (st ||| ((1 : Int32) <<< (w &&& 31)))) + 1) - t).toNatClampNeg) w else tsc m st t T P r (w + 1) a b c) else tsc m st t T P r (w + 1) a b c) else tsc m st t T P r (w + 1) (T (((2 * (st ||| ((1 : Int32) <<< (w &&& 31)))) + 1) - t).toNatClampNeg) (P (((2 * (st ||| ((1 : Int32) <<< (w &&& 31)))) + 1) - t).toNatClampNeg) w) else tsc m st t T P r (w + 1) a b c
theorem lt46 (f : Nat → Int32) (st t : Int32) (T P S : Nat → Int32) (k : (Nat → Int32) → (Nat → Int32) → (Nat → Int32) → Int32 → Int32 → Int32 → Int32 × Int32 × (Nat → Int32) × (Nat → Int32) × (Nat → Int32)) (h6 : (f 2).toInt ≤ 6) : ∀ (r n : Nat) (a b c w ab be : Int32), r < n → 0 ≤ w.toInt → w.toInt + (r : Int) = (f 2).toInt → fX9_layTurns_46 f st t T P S k n a b c w ab be = k (upd P ((2 * st) + t).toNatClampNeg (tsc (f 2) st t T P r w a b c).2.1) (upd S ((2 * st) + t).toNatClampNeg (tsc (f 2) st t T P r w a b c).2.2) (upd T ((2 * st) + t).toNatClampNeg (tsc (f 2) st t T P r w a b c).1) (t + 1) ab be := by
  have e1 : (1 : Int32).toInt = 1 := by decide
  intro r
  induction r with
  | zero =>
    intro n a b c w ab be hr h0 h1
    obtain ⟨n, rfl⟩ : ∃ q, n = q + 1 := ⟨n - 1, by omega⟩
    rw [fX9_layTurns_46, if_pos (show f 2 ≤ w from Int32.le_iff_toInt_le.mpr (by omega))]
    rfl
  | succ r ih =>
    intro n a b c w ab be hr h0 h1
    obtain ⟨n, rfl⟩ : ∃ q, n = q + 1 := ⟨n - 1, by omega⟩
    have zw : (w + 1).toInt = w.toInt + (1 : Int32).toInt := z_add (by omega) (by omega)
    have g := fun a b c ab be => ih n a b c (w + 1) ab be (by omega) (by omega) (by omega)
    rw [fX9_layTurns_46, if_neg (show ¬ f 2 ≤ w from fun q => by have := Int32.le_iff_toInt_le.mp q; omega), tsc]
    simp only [xlet, g]
    (repeat' split) <;> first | rfl | contradiction | (exfalso; simp_all; done)
/-- the scan looks at larger sets alone -/
theorem tsc_cong (m st t : Int32) (T P T2 P2 : Nat → Int32) (h : ∀ w : Int32, 0 ≤ w.toInt → w.toInt < m.toInt → ((st >>> (w &&& 31)) &&& 1) = 0 → T (tnx st t w) = T2 (tnx st t w) ∧ P (tnx st t w) = P2 (tnx st t w)) (h6 : m.toInt ≤ 6) : ∀ (r : Nat) (w a b c : Int32), 0 ≤ w.toInt → w.toInt + (r : Int) = m.toInt → tsc m st t T P r w a b c = tsc m st t T2 P2 r w a b c := by
  have e1 : (1 : Int32).toInt = 1 := by decide
  intro r
  induction r with
  | zero => intro w a b c h0 h1; rfl
  | succ r ih =>
    intro w a b c h0 h1
    have zw : (w + 1).toInt = w.toInt + (1 : Int32).toInt := z_add (by omega) (by omega)
    have g := fun a b c => ih (w + 1) a b c (by omega) (by omega)
    rw [tsc, tsc]
    by_cases c1 : ((st >>> (w &&& 31)) &&& 1) = 0
    · obtain ⟨k1, k2⟩ := h w h0 (by omega) c1
      unfold tnx at k1 k2
      rw [if_pos c1, if_pos c1]
      simp only [g, k1, k2]
    · rw [if_neg c1, if_neg c1, g]
-- sets and bits: tables
theorem st_tab : ∀ s, s < 64 → ∀ w, w < 6 → ((nI s >>> (nI w &&& 31)) &&& 1) = 0 → (nI s).toInt < (nI s ||| ((1 : Int32) <<< (nI w &&& 31))).toInt := by decide +kernel
theorem st_tab2 : ∀ m, m < 7 → ∀ s, s < 64 → (nI s).toInt < ((1 : Int32) <<< (nI m &&& 31)).toInt → ∀ w, w < m → (nI s ||| ((1 : Int32) <<< (nI w &&& 31))).toInt < ((1 : Int32) <<< (nI m &&& 31)).toInt := by decide +kernel
theorem st_up {s w : Int32} (h0 : 0 ≤ s.toInt) (h1 : s.toInt ≤ 63) (g0 : 0 ≤ w.toInt) (g1 : w.toInt ≤ 5) (c : ((s >>> (w &&& 31)) &&& 1) = 0) : s.toInt < (s ||| ((1 : Int32) <<< (w &&& 31))).toInt := by
  obtain ⟨a, ha, rfl⟩ := t_small (k := 63) (by decide) h0 (by omega)
  obtain ⟨b, hb, rfl⟩ := t_small (k := 5) (by decide) g0 (by omega)
  exact st_tab a (by omega) b (by omega) c
theorem st_in {m s w : Int32} (hm : m.toInt ≤ 6) (h0 : 0 ≤ s.toInt) (h1 : s.toInt < ((1 : Int32) <<< (m &&& 31)).toInt) (g0 : 0 ≤ w.toInt) (g1 : w.toInt < m.toInt) : (s ||| ((1 : Int32) <<< (w &&& 31))).toInt < ((1 : Int32) <<< (m &&& 31)).toInt := by
  have hz := t_shl (w := m) (by omega) hm
  obtain ⟨q, hq, rfl⟩ := t_small (k := 6) (x := m) (by decide) (by omega) (by omega)
  obtain ⟨a, ha, rfl⟩ := t_small (k := 63) (by decide) h0 (by omega)
  obtain ⟨b, hb, rfl⟩ := t_small (k := 5) (by decide) g0 (by omega)
  rw [nI_toInt (by omega), nI_toInt (by omega)] at g1
  exact st_tab2 q (by omega) a (by omega) h1 b (by omega)
theorem cn_of {x : Int32} : x.toNatClampNeg = x.toInt.toNat := rfl
theorem ix_val {s t : Int32} (h0 : 0 ≤ s.toInt) (h1 : s.toInt ≤ 63) (ht : t = 0 ∨ t = 1) : ((2 * s) + t).toNatClampNeg = 2 * s.toInt.toNat + t.toInt.toNat := by
  have z2 : (2 * s).toInt = 2 * s.toInt := z_mul 2 rfl (by omega) (by omega)
  have e1 : (1 : Int32).toInt = 1 := by decide
  have e0 : (0 : Int32).toInt = 0 := by decide
  rcases ht with rfl | rfl
  · have z : ((2 * s) + 0).toInt = (2 * s).toInt + (0 : Int32).toInt := z_add (by omega) (by omega)
    rw [cn_of, z, z2, e0]; omega
  · have z : ((2 * s) + 1).toInt = (2 * s).toInt + (1 : Int32).toInt := z_add (by omega) (by omega)
    rw [cn_of, z, z2, e1]; omega
theorem tnx_val {s t w : Int32} (h0 : 0 ≤ s.toInt) (h1 : s.toInt ≤ 63) (g0 : 0 ≤ w.toInt) (g1 : w.toInt ≤ 5) (ht : t = 0 ∨ t = 1) : tnx s t w = 2 * (s ||| ((1 : Int32) <<< (w &&& 31))).toInt.toNat + (1 - t.toInt.toNat) := by
  obtain ⟨q0, q1⟩ := or_b h0 h1 g0 g1
  unfold tnx
  generalize (s ||| ((1 : Int32) <<< (w &&& 31))) = x at q0 q1 ⊢
  have z2 : (2 * x).toInt = 2 * x.toInt := z_mul 2 rfl (by omega) (by omega)
  have e1 : (1 : Int32).toInt = 1 := by decide
  have e0 : (0 : Int32).toInt = 0 := by decide
  have z3 : ((2 * x) + 1).toInt = (2 * x).toInt + (1 : Int32).toInt := z_add (by omega) (by omega)
  rcases ht with rfl | rfl
  · have z : (((2 * x) + 1) - 0).toInt = ((2 * x) + 1).toInt - (0 : Int32).toInt := z_sub (by omega) (by omega)
    rw [cn_of, z, z3, z2, e1, e0]; omega
  · have z : (((2 * x) + 1) - 1).toInt = ((2 * x) + 1).toInt - (1 : Int32).toInt := z_sub (by omega) (by omega)
    rw [cn_of, z, z3, z2, e1]; omega
def ltr (f : Nat → Int32) (k st t : Int32) (T P : Nat → Int32) : Int32 × Int32 × Int32 := tsc (f 2) st t T P (f 2).toInt.toNat 0 (fX9_layPlace st k f).1 (fX9_layPlace st k f).2 (-1)
theorem ltr_cong (f : Nat → Int32) (k st t : Int32) (T P T2 P2 : Nat → Int32) (hv : 0 ≤ (f 2).toInt) (h6 : (f 2).toInt ≤ 6) (h0 : 0 ≤ st.toInt) (h1 : st.toInt ≤ 63) (ht : t = 0 ∨ t = 1) (h : ∀ i : Nat, 2 * st.toInt.toNat + 2 ≤ i → T i = T2 i ∧ P i = P2 i) : ltr f k st t T P = ltr f k st t T2 P2 := by
  refine tsc_cong (f 2) st t T P T2 P2 (fun w g0 g1 c => ?_) h6 _ _ _ _ _ (by decide) ?_
  · have hu := st_up h0 h1 g0 (by omega) c
    refine h _ ?_
    rw [tnx_val h0 h1 g0 (by omega) ht]
    omega
  · have e0 : (0 : Int32).toInt = 0 := by decide
    rw [e0]; omega
theorem lt17 (k : Int32) (f : Nat → Int32) (st : Int32) (k11 : (Nat → Int32) → (Nat → Int32) → (Nat → Int32) → Int32 → Int32 → Int32 → Int32 × Int32 × (Nat → Int32) × (Nat → Int32) × (Nat → Int32)) (hv : 0 ≤ (f 2).toInt) (h6 : (f 2).toInt ≤ 6) (n : Nat) (P S T : Nat → Int32) (ab be : Int32) : ∃ ab2 be2, fX9_layTurns_17 k f st k11 (n + 3) P S T 0 ab be = k11 (upd (upd P ((2 * st) + 0).toNatClampNeg (ltr f k st 0 T P).2.1) ((2 * st) + 1).toNatClampNeg (ltr f k st 1 (upd T ((2 * st) + 0).toNatClampNeg (ltr f k st 0 T P).1) (upd P ((2 * st) + 0).toNatClampNeg (ltr f k st 0 T P).2.1)).2.1) (upd (upd S ((2 * st) + 0).toNatClampNeg (ltr f k st 0 T P).2.2) ((2 * st) + 1).toNatClampNeg (ltr f k st 1 (upd T ((2 * st) + 0).toNatClampNeg (ltr f k st 0 T P).1) (upd P ((2 * st) + 0).toNatClampNeg (ltr f k st 0 T P).2.1)).2.2) (upd (upd T ((2 * st) + 0).toNatClampNeg (ltr f k st 0 T P).1) ((2 * st) + 1).toNatClampNeg (ltr f k st 1 (upd T ((2 * st) + 0).toNatClampNeg (ltr f k st 0 T P).1) (upd P ((2 * st) + 0).toNatClampNeg (ltr f k st 0 T P).2.1)).1) (st + (-1)) ab2 be2 := by
  have e0 : (0 : Int32).toInt = 0 := by decide
  have ez : (0 : Int32) + 1 = 1 := by decide
  have eo : (1 : Int32) + 1 = 2 := by decide
  refine ⟨(fX9_layPlace st k f).1, (fX9_layPlace st k f).2, ?_⟩
  rw [fX9_layTurns_17, if_neg (by decide)]
  show fX9_layTurns_46 f st 0 T P S (fun P S T t ab be => fX9_layTurns_17 k f st k11 (n + 2) P S T t ab be) 1000 (fX9_layPlace st k f).1 (fX9_layPlace st k f).2 (-1) 0 (fX9_layPlace st k f).1 (fX9_layPlace st k f).2 = _
  rw [lt46 f st 0 T P S _ h6 (f 2).toInt.toNat 1000 _ _ _ 0 _ _ (by omega) (by decide) (by rw [e0]; omega)]
  show fX9_layTurns_17 k f st k11 (n + 2) (upd P ((2 * st) + 0).toNatClampNeg (ltr f k st 0 T P).2.1) (upd S ((2 * st) + 0).toNatClampNeg (ltr f k st 0 T P).2.2) (upd T ((2 * st) + 0).toNatClampNeg (ltr f k st 0 T P).1) (0 + 1) (fX9_layPlace st k f).1 (fX9_layPlace st k f).2 = _
  generalize (upd P ((2 * st) + 0).toNatClampNeg (ltr f k st 0 T P).2.1) = P1
  generalize (upd S ((2 * st) + 0).toNatClampNeg (ltr f k st 0 T P).2.2) = S1
  generalize (upd T ((2 * st) + 0).toNatClampNeg (ltr f k st 0 T P).1) = T1
  rw [ez, fX9_layTurns_17, if_neg (by decide)]
  show fX9_layTurns_46 f st 1 T1 P1 S1 (fun P S T t ab be => fX9_layTurns_17 k f st k11 (n + 1) P S T t ab be) 1000 (fX9_layPlace st k f).1 (fX9_layPlace st k f).2 (-1) 0 (fX9_layPlace st k f).1 (fX9_layPlace st k f).2 = _
  rw [lt46 f st 1 T1 P1 S1 _ h6 (f 2).toInt.toNat 1000 _ _ _ 0 _ _ (by omega) (by decide) (by rw [e0]; omega)]
  show fX9_layTurns_17 k f st k11 (n + 1) (upd P1 ((2 * st) + 1).toNatClampNeg (ltr f k st 1 T1 P1).2.1) (upd S1 ((2 * st) + 1).toNatClampNeg (ltr f k st 1 T1 P1).2.2) (upd T1 ((2 * st) + 1).toNatClampNeg (ltr f k st 1 T1 P1).1) (1 + 1) (fX9_layPlace st k f).1 (fX9_layPlace st k f).2 = _
  rw [eo, fX9_layTurns_17, if_pos (by decide)]
/-- from the set lo on, each entry is what its scan gives -/
def FP (f : Nat → Int32) (k : Int32) (lo : Int) (T P S : Nat → Int32) : Prop := ∀ s : Int32, lo ≤ s.toInt → 0 ≤ s.toInt → s.toInt < ((1 : Int32) <<< ((f 2) &&& 31)).toInt → ∀ t : Int32, t = 0 ∨ t = 1 → T ((2 * s) + t).toNatClampNeg = (ltr f k s t T P).1 ∧ P ((2 * s) + t).toNatClampNeg = (ltr f k s t T P).2.1 ∧ S ((2 * s) + t).toNatClampNeg = (ltr f k s t T P).2.2
theorem upd_at (g : Nat → Int32) (i : Nat) (x : Int32) : upd g i x i = x := if_pos rfl
theorem upd_ne (g : Nat → Int32) {i j : Nat} (x : Int32) (h : j ≠ i) : upd g i x j = g j := if_neg h
theorem lt_step (f : Nat → Int32) (k st : Int32) (hv : 0 ≤ (f 2).toInt) (h6 : (f 2).toInt ≤ 6) (h0 : 0 ≤ st.toInt) (h1 : st.toInt < ((1 : Int32) <<< ((f 2) &&& 31)).toInt) (T P S : Nat → Int32) (h : FP f k (st.toInt + 1) T P S) : FP f k st.toInt (upd (upd T ((2 * st) + 0).toNatClampNeg (ltr f k st 0 T P).1) ((2 * st) + 1).toNatClampNeg (ltr f k st 1 (upd T ((2 * st) + 0).toNatClampNeg (ltr f k st 0 T P).1) (upd P ((2 * st) + 0).toNatClampNeg (ltr f k st 0 T P).2.1)).1) (upd (upd P ((2 * st) + 0).toNatClampNeg (ltr f k st 0 T P).2.1) ((2 * st) + 1).toNatClampNeg (ltr f k st 1 (upd T ((2 * st) + 0).toNatClampNeg (ltr f k st 0 T P).1) (upd P ((2 * st) + 0).toNatClampNeg (ltr f k st 0 T P).2.1)).2.1) (upd (upd S ((2 * st) + 0).toNatClampNeg (ltr f k st 0 T P).2.2) ((2 * st) + 1).toNatClampNeg (ltr f k st 1 (upd T ((2 * st) + 0).toNatClampNeg (ltr f k st 0 T P).1) (upd P ((2 * st) + 0).toNatClampNeg (ltr f k st 0 T P).2.1)).2.2) := by
  have hz := t_shl hv h6
  have hst : st.toInt ≤ 63 := by omega
  have i0 := ix_val h0 hst (t := 0) (Or.inl rfl)
  have i1 := ix_val h0 hst (t := 1) (Or.inr rfl)
  have e0 : (0 : Int32).toInt = 0 := by decide
  have e1 : (1 : Int32).toInt = 1 := by decide
  rw [e0] at i0
  rw [e1] at i1
  rw [i0, i1]
  have hc : ltr f k st 1 (upd T (2 * st.toInt.toNat + Int.toNat 0) (ltr f k st 0 T P).1) (upd P (2 * st.toInt.toNat + Int.toNat 0) (ltr f k st 0 T P).2.1) = ltr f k st 1 T P := ltr_cong f k st 1 _ _ _ _ hv h6 h0 hst (Or.inr rfl) (fun i hi => ⟨upd_ne _ _ (by omega), upd_ne _ _ (by omega)⟩)
  rw [hc]
  generalize e9 : ltr f k st 0 T P = r0
  generalize e8 : ltr f k st 1 T P = r1
  have hi : ∀ i : Nat, 2 * st.toInt.toNat + 2 ≤ i → ∀ (g : Nat → Int32) (x y : Int32), upd (upd g (2 * st.toInt.toNat + Int.toNat 0) x) (2 * st.toInt.toNat + Int.toNat 1) y i = g i := fun i hi g x y => by
    rw [upd_ne _ _ (by omega), upd_ne _ _ (by omega)]
  intro s hs hs0 hs1 t ht
  have hs63 : s.toInt ≤ 63 := by omega
  have hcg : ltr f k s t (upd (upd T (2 * st.toInt.toNat + Int.toNat 0) r0.1) (2 * st.toInt.toNat + Int.toNat 1) r1.1) (upd (upd P (2 * st.toInt.toNat + Int.toNat 0) r0.2.1) (2 * st.toInt.toNat + Int.toNat 1) r1.2.1) = ltr f k s t T P := ltr_cong f k s t _ _ _ _ hv h6 hs0 hs63 ht (fun i hi2 => ⟨hi i (by omega) _ _ _, hi i (by omega) _ _ _⟩)
  rw [hcg]
  have hix := ix_val hs0 hs63 ht
  rw [hix]
  rcases Int.lt_or_eq_of_le hs with q | q
  · have h9 := h s (by omega) hs0 hs1 t ht
    rw [hix] at h9
    rw [hi _ (by omega), hi _ (by omega), hi _ (by omega)]
    exact h9
  · have hss : s = st := Int32.toInt_inj.mp q.symm
    subst hss
    rcases ht with rfl | rfl
    · rw [e9, e0]
      have hne : 2 * s.toInt.toNat + Int.toNat 0 ≠ 2 * s.toInt.toNat + Int.toNat 1 := by simp
      exact ⟨by rw [upd_ne _ _ hne, upd_at], by rw [upd_ne _ _ hne, upd_at], by rw [upd_ne _ _ hne, upd_at]⟩
    · rw [e8, e1]
      exact ⟨upd_at _ _ _, upd_at _ _ _, upd_at _ _ _⟩
theorem lt11 (f : Nat → Int32) (k : Int32) (hv : 0 ≤ (f 2).toInt) (h6 : (f 2).toInt ≤ 6) : ∀ (n : Nat) (P S T : Nat → Int32) (v ab be : Int32), -1 ≤ v.toInt → v.toInt < ((1 : Int32) <<< ((f 2) &&& 31)).toInt → v.toInt + 1 < (n : Int) → FP f k (v.toInt + 1) T P S → FP f k 0 (fX9_layTurns_11 k f n P S T v ab be).2.2.1 (fX9_layTurns_11 k f n P S T v ab be).2.2.2.1 (fX9_layTurns_11 k f n P S T v ab be).2.2.2.2 := by
  have e0 : (0 : Int32).toInt = 0 := by decide
  intro n
  induction n with
  | zero => intro P S T v ab be h1 h2 h3; omega
  | succ n ih =>
    intro P S T v ab be h1 h2 h3 hF
    rw [fX9_layTurns_11]
    by_cases c : v < 0
    · rw [if_pos c]
      have := t_lt c
      have e : v.toInt + 1 = 0 := by omega
      rw [e] at hF
      exact hF
    · rw [if_neg c]
      have kc := t_nlt c
      have hz := t_shl hv h6
      obtain ⟨d1, d2, d3⟩ := dec0_b (v := v) (by omega) (by omega)
      obtain ⟨ab2, be2, e⟩ := lt17 k f v (fun P S T v ab be => fX9_layTurns_11 k f n P S T v ab be) hv h6 997 P S T ab be
      rw [e]
      refine ih _ _ _ _ _ _ (by omega) (by omega) (by omega) ?_
      rw [d3]
      exact lt_step f k v hv h6 (by omega) h2 T P S hF
theorem layTurns_fp (f : Nat → Int32) (k ab be : Int32) (T P S : Nat → Int32) (hv : 0 ≤ (f 2).toInt) (h6 : (f 2).toInt ≤ 6) : FP f k 0 (fX9_layTurns k ab be f T P S).2.2.1 (fX9_layTurns k ab be f T P S).2.2.2.1 (fX9_layTurns k ab be f T P S).2.2.2.2 := by
  have hz := t_shl hv h6
  have e1 : (1 : Int32).toInt = 1 := by decide
  have z : (((1 : Int32) <<< ((f 2) &&& 31)) - 1).toInt = ((1 : Int32) <<< ((f 2) &&& 31)).toInt - (1 : Int32).toInt := z_sub (by omega) (by omega)
  refine lt11 f k hv h6 1000 P S T _ ab be (by omega) (by omega) (by omega) ?_
  intro s hs hs0 hs1
  omega
-- the bounds of what the arrays hold
theorem layPlace_b {st k : Int32} {f : Nat → Int32} (h0 : 4 ≤ (f 0).toInt) (h1 : (f 0).toInt ≤ 20) (hv : (f 2).toInt ≤ 6) : 0 ≤ (fX9_layPlace st k f).1.toInt ∧ (fX9_layPlace st k f).1.toInt ≤ 120 ∧ 1 ≤ (fX9_layPlace st k f).2.toInt ∧ (fX9_layPlace st k f).2.toInt ≤ 6 := by
  have h := layMean_b (st := st) (k := k) h0 h1 hv
  unfold fX9_layPlace
  rcases e : fX9_layMean st k f with ⟨r, u, v⟩
  rw [e] at h
  dsimp only at h ⊢
  by_cases c : r = 0
  · rw [if_pos c]
    dsimp only
    exact ⟨by omega, by omega, by decide, by decide⟩
  · rw [if_neg c]
    exact ⟨h.1, h.2.1, h.2.2.2.2 c, h.2.2.2.1⟩
theorem tsc_b (m st t : Int32) (T P : Nat → Int32) (h : ∀ w : Int32, 0 ≤ w.toInt → w.toInt < m.toInt → ((st >>> (w &&& 31)) &&& 1) = 0 → (0 ≤ (T (tnx st t w)).toInt ∧ (T (tnx st t w)).toInt ≤ 120) ∧ 1 ≤ (P (tnx st t w)).toInt ∧ (P (tnx st t w)).toInt ≤ 6) (h6 : m.toInt ≤ 6) : ∀ (r : Nat) (w a b c : Int32), 0 ≤ w.toInt → w.toInt + (r : Int) = m.toInt → (0 ≤ a.toInt ∧ a.toInt ≤ 120) ∧ 1 ≤ b.toInt ∧ b.toInt ≤ 6 → (0 ≤ (tsc m st t T P r w a b c).1.toInt ∧ (tsc m st t T P r w a b c).1.toInt ≤ 120) ∧ 1 ≤ (tsc m st t T P r w a b c).2.1.toInt ∧ (tsc m st t T P r w a b c).2.1.toInt ≤ 6 := by
  have e1 : (1 : Int32).toInt = 1 := by decide
  intro r
  induction r with
  | zero => intro w a b c h0 h1 hb; exact hb
  | succ r ih =>
    intro w a b c h0 h1 hb
    have zw : (w + 1).toInt = w.toInt + (1 : Int32).toInt := z_add (by omega) (by omega)
    have g := fun a b c => ih (w + 1) a b c (by omega) (by omega)
    rw [tsc]
    by_cases c1 : ((st >>> (w &&& 31)) &&& 1) = 0
    · have k1 := h w h0 (by omega) c1
      unfold tnx at k1
      rw [if_pos c1]
      (repeat' split) <;> first | exact g _ _ _ k1 | exact g _ _ _ hb
    · rw [if_neg c1]
      exact g _ _ _ hb
theorem fp_b (f : Nat → Int32) (k : Int32) (T P S : Nat → Int32) (h0 : 4 ≤ (f 0).toInt) (h1 : (f 0).toInt ≤ 20) (hv : 0 ≤ (f 2).toInt) (h6 : (f 2).toInt ≤ 6) (hF : FP f k 0 T P S) : ∀ (n : Nat) (s : Int32), 0 ≤ s.toInt → s.toInt < ((1 : Int32) <<< ((f 2) &&& 31)).toInt → 64 - s.toInt < (n : Int) → ∀ t : Int32, t = 0 ∨ t = 1 → (0 ≤ (T ((2 * s) + t).toNatClampNeg).toInt ∧ (T ((2 * s) + t).toNatClampNeg).toInt ≤ 120) ∧ 1 ≤ (P ((2 * s) + t).toNatClampNeg).toInt ∧ (P ((2 * s) + t).toNatClampNeg).toInt ≤ 6 := by
  have e0 : (0 : Int32).toInt = 0 := by decide
  have e1 : (1 : Int32).toInt = 1 := by decide
  intro n
  induction n with
  | zero =>
    intro s a1 a2 a3
    have hz := t_shl hv h6
    omega
  | succ n ih =>
    intro s a1 a2 a3 t ht
    have hz := t_shl hv h6
    have h63 : s.toInt ≤ 63 := by omega
    obtain ⟨q1, q2, -⟩ := hF s a1 a1 a2 t ht
    rw [q1, q2]
    have hp := layPlace_b (st := s) (k := k) h0 h1 h6
    refine tsc_b (f 2) s t T P (fun w g0 g1 c => ?_) h6 _ 0 _ _ _ (by decide) (by rw [e0]; omega) ⟨⟨hp.1, hp.2.1⟩, hp.2.2⟩
    have hu := st_up a1 h63 g0 (by omega) c
    have hi := st_in h6 a1 a2 g0 g1
    have ho := or_b a1 h63 g0 (by omega)
    rw [tnx_val a1 h63 g0 (by omega) ht]
    have r0 := ih (s ||| ((1 : Int32) <<< (w &&& 31))) (by omega) hi (by omega) 0 (Or.inl rfl)
    have r1 := ih (s ||| ((1 : Int32) <<< (w &&& 31))) (by omega) hi (by omega) 1 (Or.inr rfl)
    rw [ix_val ho.1 ho.2 (Or.inl rfl), e0] at r0
    rw [ix_val ho.1 ho.2 (Or.inr rfl), e1] at r1
    rcases ht with rfl | rfl
    · rw [e0]; exact r1
    · rw [e1]; exact r0
theorem layTurns_b (f : Nat → Int32) (k ab be : Int32) (T P S : Nat → Int32) (h0 : 4 ≤ (f 0).toInt) (h1 : (f 0).toInt ≤ 20) (hv : 0 ≤ (f 2).toInt) (h6 : (f 2).toInt ≤ 6) (g0 : 0 ≤ (f 3).toInt) (g1 : (f 3).toInt < ((1 : Int32) <<< ((f 2) &&& 31)).toInt) : (0 ≤ ((fX9_layTurns k ab be f T P S).2.2.1 (2 * (f 3)).toNatClampNeg).toInt ∧ ((fX9_layTurns k ab be f T P S).2.2.1 (2 * (f 3)).toNatClampNeg).toInt ≤ 120) ∧ 1 ≤ ((fX9_layTurns k ab be f T P S).2.2.2.1 (2 * (f 3)).toNatClampNeg).toInt ∧ ((fX9_layTurns k ab be f T P S).2.2.2.1 (2 * (f 3)).toNatClampNeg).toInt ≤ 6 := by
  have h := fp_b f k _ _ _ h0 h1 hv h6 (layTurns_fp f k ab be T P S hv h6) 100 (f 3) g0 g1 (by omega) 0 (Or.inl rfl)
  have e : (2 * (f 3)) + 0 = 2 * (f 3) := Int32.add_zero _
  rw [e] at h
  exact h
