-- CLAUSES
def rD (fr : Nat → Int32) (ds dm dw dd : Int32) (hd ki ha : Nat → Int32) : Prop := rN fr ds dm dw dd hd ki ha ∧ fr 3 = 0
theorem raise_3 (a2 a3 : Int32) (h2 : a2.toInt ≤ 20) : ∀ (r n : Nat) (g : Nat → Int32) (v : Int32), r < n → 0 ≤ v.toInt → v.toInt + (r : Int) = a2.toInt + 1 → ∀ i : Nat, i < 21 → fX3_raise_3 a2 a3 n g v i = if v.toInt ≤ (i : Int) ∧ (i : Int) ≤ a2.toInt then a3 else g i := by
  have e1 : (1 : Int32).toInt = 1 := by decide
  intro r
  induction r with
  | zero =>
    intro n g v hn h0 h1 i hi
    obtain ⟨n, rfl⟩ : ∃ q, n = q + 1 := ⟨n - 1, by omega⟩
    rw [fX3_raise_3, if_pos (show a2 < v from Int32.lt_iff_toInt_lt.mpr (by omega)), if_neg (by omega)]
  | succ r ih =>
    intro n g v hn h0 h1 i hi
    obtain ⟨n, rfl⟩ : ∃ q, n = q + 1 := ⟨n - 1, by omega⟩
    have zv : (v + 1).toInt = v.toInt + (1 : Int32).toInt := z_add (by omega) (by omega)
    rw [fX3_raise_3, if_neg (show ¬ a2 < v from fun q => by have := t_lt q; omega), put_in (by decide) h0 (by omega), xlet_eq, ih n _ (v + 1) (by omega) (by omega) (by omega) i hi]
    by_cases q : i = v.toInt.toNat
    · rw [if_neg (by omega), if_pos (by omega), q, upd_at]
    · rw [upd_ne _ _ q]
      by_cases q2 : (v + 1).toInt ≤ (i : Int) ∧ (i : Int) ≤ a2.toInt
      · rw [if_pos q2, if_pos (by omega)]
      · rw [if_neg q2, if_neg (by omega)]
theorem raise_f {a1 a2 a3 : Int32} (g : Nat → Int32) (h1 : 1 ≤ a1.toInt) (h12 : a1.toInt ≤ a2.toInt + 1) (h2 : a2.toInt ≤ 20) (i : Nat) (hi : i < 21) : fX3_raise a1 a2 a3 g i = if a1.toInt ≤ (i : Int) ∧ (i : Int) ≤ a2.toInt then a3 else g i :=
  raise_3 a2 a3 h2 (a2.toInt + 1 - a1.toInt).toNat 1000 g a1 (by omega) (by omega) (by omega) i hi
theorem lay_f {r : Int32} (g : Nat → Int32) (h1 : 1 ≤ r.toInt) (h2 : r.toInt ≤ 20) (i : Nat) (hi : i < r.toInt.toNat) : fX3_lay r g (i + 1) = 3 := by
  have e1 : (1 : Int32).toInt = 1 := by decide
  unfold fX3_lay
  rw [xlet_eq, raise_f g (by decide) (by rw [e1]; omega) h2 (i + 1) (by omega), if_pos (by rw [e1]; omega)]
theorem clause_236_f (a b h : Int32) (hb : b.toInt ≤ 20) : ∀ (r n : Nat) (g : Nat → Int32) (k cu tk st : Int32) (va : Int64) (fa : Int32), r < n → 1 ≤ k.toInt → k.toInt + (r : Int) = b.toInt + 1 → ∃ g2 : Nat → Int32, fX9_readClause_236 n g a b h k cu tk st va 0 fa = (cu, tk, st, va, 0, fa, g2) ∧ ∀ i : Nat, g2 i = if 3 + k.toInt ≤ (i : Int) ∧ (i : Int) ≤ 3 + b.toInt then h else g i := by
  have e1 : (1 : Int32).toInt = 1 := by decide
  have e4 : (4 : Int32).toInt = 4 := by decide
  intro r
  induction r with
  | zero =>
    intro n g k cu tk st va fa hn h0 h1
    obtain ⟨n, rfl⟩ : ∃ q, n = q + 1 := ⟨n - 1, by omega⟩
    rw [fX9_readClause_236, if_pos (show b < k from Int32.lt_iff_toInt_lt.mpr (by omega))]
    exact ⟨g, rfl, fun i => by rw [if_neg (by omega)]⟩
  | succ r ih =>
    intro n g k cu tk st va fa hn h0 h1
    obtain ⟨n, rfl⟩ : ∃ q, n = q + 1 := ⟨n - 1, by omega⟩
    have zk : (k + 1).toInt = k.toInt + (1 : Int32).toInt := z_add (by omega) (by omega)
    have z4 : (4 + k).toInt = (4 : Int32).toInt + k.toInt := z_add (by omega) (by omega)
    have z5 : ((4 + k) - 1).toInt = (4 + k).toInt - (1 : Int32).toInt := z_sub (by omega) (by omega)
    have zi : ((4 + k) - 1).toNatClampNeg = 3 + k.toInt.toNat := by rw [cn_of, z5, z4, e1, e4]; omega
    rw [fX9_readClause_236, if_neg (show ¬ b < k from fun q => by have := t_lt q; omega), if_pos rfl, zi]
    obtain ⟨g2, x1, x2⟩ := ih n (upd g (3 + k.toInt.toNat) h) (k + 1) cu tk st va fa (by omega) (by omega) (by omega)
    refine ⟨g2, x1, fun i => ?_⟩
    rw [x2 i]
    by_cases q : i = 3 + k.toInt.toNat
    · rw [if_neg (by omega), if_pos (by omega), q, upd_at]
    · rw [upd_ne _ _ q]
      by_cases q2 : 3 + (k + 1).toInt ≤ (i : Int) ∧ (i : Int) ≤ 3 + b.toInt
      · rw [if_pos q2, if_pos (by omega)]
      · rw [if_neg q2, if_neg (by omega)]
theorem clause_236_x (n : Nat) (a b h k cu tk st : Int32) (va : Int64) (fa : Int32) (g : Nat → Int32) : fX9_readClause_236 (n + 1) g a b h k cu tk st va 1 fa = (cu, tk, st, va, 1, fa, g) := by
  rw [fX9_readClause_236]
  by_cases c : b < k
  · rw [if_pos c]
  · rw [if_neg c, if_neg (by decide)]
theorem kb_tab : fX9_kindBy 1 (lN (Hr (kr 1))) = -1 ∧ fX9_kindBy 1 (lN (Hr (kr 2))) = -1 ∧ fX9_kindBy 1 (lN (Hr (kr 3))) = -1 ∧ fX9_kindBy 1 (lN (Hr (kr 4))) = -1 := by decide +kernel
theorem wd_tab : ¬ lN (Hr (kr 2)) = lN (Hr (kr 1)) ∧ ¬ lN (Hr (kr 3)) = lN (Hr (kr 1)) ∧ ¬ lN (Hr (kr 3)) = lN (Hr (kr 2)) ∧ ¬ lN (Hr (kr 4)) = lN (Hr (kr 1)) ∧ ¬ lN (Hr (kr 4)) = lN (Hr (kr 2)) ∧ ¬ lN (Hr (kr 4)) = lN (Hr (kr 3)) := by decide +kernel
theorem kindBy_b (tk : Int32) (va : Int64) : fX9_kindBy tk va = -1 ∨ fX9_kindBy tk va = 0 ∨ fX9_kindBy tk va = 1 ∨ fX9_kindBy tk va = 2 ∨ fX9_kindBy tk va = 3 := by
  unfold fX9_kindBy
  rw [xlet_eq]
  (repeat' split) <;> simp
/-- a clause: both sides come to the same fault, or go on alike -/
def cRel (le : Int32) (te te8 : Nat → Int32) (C : Int32 × Int32 × Int32 × Int32 × Int32 × Int32 × Int32 × (Nat → Int32) × (Nat → Int32) × (Nat → Int32)) (R : Int32 × Int32 × Int32 × Int64 × Int32 × Int32 × (Nat → Int32)) : Prop := (∃ (b2 e2 c2 tk2 st2 : Int32) (va2 : Int64) (ds dm dw dd : Int32) (ki ha hd : Nat → Int32) (fa2 : Int32) (fr2 : Nat → Int32), C = (-1, b2, e2, ds, dm, dw, dd, ki, ha, hd) ∧ R = (c2, tk2, st2, va2, 0, fa2, fr2) ∧ TR le te b2 e2 c2 tk2 st2 va2 ∧ rD fr2 ds dm dw dd hd ki ha) ∨ (0 ≤ C.1.toInt ∧ R.2.2.2.2.1 = 1 ∧ R.2.2.2.2.2.1 = C.1)
theorem clause_rel {le b e c tk st : Int32} {va : Int64} {te te8 : Nat → Int32} (hT : rT le te le te8) (h : TR le te b e c tk st va) {fr : Nat → Int32} {ds dm dw dd : Int32} {hd ki ha : Nat → Int32} (hD : rD fr ds dm dw dd hd ki ha) (fa : Int32) : cRel le te te8 (fX2_readClause (-1) le b e te8 ds dm dw dd ki ha hd) (fX9_readClause le c tk st va 0 fa te fr) := by
  obtain ⟨⟨hf, rfl, rfl, rfl, rfl, hh, hw⟩, f30⟩ := id hD
  obtain ⟨g1, g2, g3, g4, g5, g6⟩ := id hf
  have e1 : (1 : Int32).toInt = 1 := by decide
  have e0 : (0 : Int32).toInt = 0 := by decide
  have n10 : ¬ (1 : Int32) = 0 := by decide
  have hbad : fX9_bad st 0 fa = b := by unfold fX9_bad; rw [xlet_eq, if_pos rfl, h.1]
  have hb0 := h.2.2.1.1
  have hec : c = e := h.2.1
  have k1 := kw hT h 1 (by decide) (by decide)
  have k2 := kw hT h 2 (by decide) (by decide)
  have k3 := kw hT h 3 (by decide) (by decide)
  have k4 := kw hT h 4 (by decide) (by decide)
  obtain ⟨t1, t2, t3, t4⟩ := kb_tab
  obtain ⟨d21, d31, d32, d41, d42, d43⟩ := wd_tab
  have hlc : ∀ x y : Int64, ¬ x = y → ¬ lg_cmp x y = 0 := fun x y q z => q ((lg_cmp_eq _ _).mp z)
  have hlr : ∀ x : Int64, lg_cmp x x = 0 := fun x => (lg_cmp_eq _ _).mpr rfl
  obtain ⟨B, E, c9, tk9, st9, va9, x1, x2, x3⟩ := tok hT (e := e) (by have := h.2.2.1.2.1; omega) h.2.2.1.2.2
  unfold fX2_readClause fX9_readClause
  rw [W1, W2, W3, W4, hec]
  by_cases c1 : fX7_isAt 1 b e te8 = 0
  · rw [if_pos c1]
    have q1 := k1.mp c1
    by_cases c2 : fX7_isAt 2 b e te8 = 0
    · rw [if_pos c2]
      have q2 := k2.mp c2
      by_cases c3 : fX7_isAt 3 b e te8 = 0
      · rw [if_pos c3]
        have q3 := k3.mp c3
        by_cases c4 : fX7_isAt 4 b e te8 = 0
        · rw [if_pos c4]
          have q4 := k4.mp c4
          rw [kind_eq hT h]
          -- a walker, or a fault
          have hkb := kindBy_b tk va
          unfold fX2_readWalker
          by_cases c5 : fX9_kindBy tk va = -1
          · rw [if_pos c5, if_pos c5]
            refine Or.inr ?_
            by_cases c6 : tk = 1
            · rw [if_pos c6, if_neg (hlc _ _ (fun z => q1 ⟨c6, z⟩)), if_neg (hlc _ _ (fun z => q2 ⟨c6, z⟩)), if_neg (hlc _ _ (fun z => q3 ⟨c6, z⟩)), if_neg (hlc _ _ (fun z => q4 ⟨c6, z⟩)), hbad, xlet_eq]
              exact ⟨hb0, rfl, rfl⟩
            · rw [if_neg c6, hbad, xlet_eq]
              exact ⟨hb0, rfl, rfl⟩
          · rw [if_neg c5, if_neg c5]
            by_cases c6 : fr 2 = 6
            · rw [if_pos c6, if_neg (show ¬ fr 2 < 6 by rw [c6]; decide), hbad, xlet_eq]
              exact Or.inr ⟨hb0, rfl, rfl⟩
            · have k6 := t_neq c6
              have e6 : (6 : Int32).toInt = 6 := by decide
              rw [if_neg c6, if_pos (show fr 2 < 6 from Int32.lt_iff_toInt_lt.mpr (by omega)), x1, x2]
              dsimp only
              rcases rnum hT x3 1 9 (-1) fa (by decide) (by decide) with ⟨r, b2, e2, c2', tk2, st2, va2, y1, y2, y3, y4, y5, y6⟩ | ⟨r9, y1, y2⟩
              · rw [y1, y2]
                dsimp only
                rw [if_neg y4, if_pos rfl]
                have z24 : (24 + (fr 2)).toNatClampNeg = 24 + (fr 2).toInt.toNat := ix_add 24 24 (by decide) (by decide) g3.1 (by omega)
                have z30 : (30 + (fr 2)).toNatClampNeg = 30 + (fr 2).toInt.toNat := ix_add 30 30 (by decide) (by decide) g3.1 (by omega)
                have za : (fr 2 + 1).toInt = (fr 2).toInt + (1 : Int32).toInt := z_add (by omega) (by omega)
                generalize fX9_kindBy tk va = kd at hkb c5 ⊢
                have hkd : 0 ≤ kd.toInt ∧ kd.toInt ≤ 3 := by
                  rcases hkb with q | q | q | q | q
                  · exact absurd q c5
                  all_goals (rw [q]; decide)
                have u2 : ∀ x, upd fr (24 + (fr 2)).toNatClampNeg x 2 = fr 2 := fun x => upd_ne _ _ (by rw [z24]; omega)
                have v2 : ∀ x y, upd (upd fr (24 + (fr 2)).toNatClampNeg x) (30 + (fr 2)).toNatClampNeg y 2 = fr 2 := fun x y => by rw [upd_ne _ _ (by rw [z30]; omega), u2]
                have hfr : ∃ fr2, fr2 = upd (upd (upd fr (24 + (fr 2).toInt.toNat) kd) (30 + (fr 2).toInt.toNat) r) 2 (fr 2 + 1) := ⟨_, rfl⟩
                obtain ⟨fr2, efr⟩ := hfr
                rw [u2, v2, z24, z30, ← efr]
                have p2 : fr2 2 = fr 2 + 1 := by rw [efr, upd_at]
                have pn : ∀ j : Nat, j ≠ 2 → j ≠ 30 + (fr 2).toInt.toNat → j ≠ 24 + (fr 2).toInt.toNat → fr2 j = fr j := fun j a1 a2 a3 => by rw [efr, upd_ne _ _ a1, upd_ne _ _ a2, upd_ne _ _ a3]
                have pk : fr2 (24 + (fr 2).toInt.toNat) = kd := by rw [efr, upd_ne _ _ (by omega), upd_ne _ _ (by omega), upd_at]
                have ph : fr2 (30 + (fr 2).toInt.toNat) = r := by rw [efr, upd_ne _ _ (by omega), upd_at]
                have hhi : fX3_hire kd r (fr 2) ki ha = (upd ki (fr 2).toInt.toNat kd, upd ha (fr 2).toInt.toNat r) := by
                  unfold fX3_hire
                  rw [put_in (by decide) g3.1 (by omega), put_in (by decide) g3.1 (by omega), xlet_eq, xlet_eq]
                rw [hhi]
                have hzs := t_shl (w := fr 2 + 1) (by omega) (by omega)
                refine Or.inl ⟨b2, e2, c2', tk2, st2, va2, fr 0, fr 1, fr 2 + 1, fr 3, upd ki (fr 2).toInt.toNat kd, upd ha (fr 2).toInt.toNat r, hd, fa, fr2, rfl, rfl, y3, ⟨⟨?_, ?_⟩, by rw [pn 3 (by decide) (by omega) (by omega)]; exact f30⟩⟩
                · unfold gR
                  rw [pn 0 (by decide) (by omega) (by omega), pn 1 (by decide) (by omega) (by omega), pn 3 (by decide) (by omega) (by omega), p2]
                  refine ⟨g1, g2, ⟨by omega, by omega⟩, ⟨g4.1, by rw [f30, e0]; omega⟩, fun i hi => ?_, fun i hi => ?_⟩
                  · rw [pn _ (by omega) (by omega) (by omega)]; exact g5 i hi
                  · by_cases q : i = (fr 2).toInt.toNat
                    · rw [q, pk, ph]
                      exact ⟨hkd, by omega, by rw [show (9 : Int32).toInt = 9 by decide] at y6; exact y6⟩
                    · rw [pn _ (by omega) (by omega) (by omega), pn _ (by omega) (by omega) (by omega)]; exact g6 i (by omega)
                · refine ⟨(pn 0 (by decide) (by omega) (by omega)).symm, (pn 1 (by decide) (by omega) (by omega)).symm, p2.symm, (pn 3 (by decide) (by omega) (by omega)).symm, fun i hi => ?_, fun i hi => ?_⟩
                  · rw [pn 0 (by decide) (by omega) (by omega)] at hi
                    rw [pn _ (by omega) (by omega) (by omega)]; exact hh i hi
                  · rw [p2] at hi
                    by_cases q : i = (fr 2).toInt.toNat
                    · rw [q, pk, ph, upd_at, upd_at]; exact ⟨rfl, rfl⟩
                    · rw [upd_ne _ _ q, upd_ne _ _ q, pn _ (by omega) (by omega) (by omega), pn _ (by omega) (by omega) (by omega)]; exact hw i (by omega)
              · rw [y1, y2]
                dsimp only
                rw [if_pos rfl, if_neg n10]
                exact Or.inr ⟨x3.2.2.1.1, rfl, rfl⟩
        · -- nobody
          obtain ⟨q1', q2'⟩ := Decidable.not_not.mp (fun z => c4 (k4.mpr z))
          subst q1'; subst q2'
          rw [if_neg c4, if_pos t4, if_pos rfl, if_neg (hlc _ _ d41), if_neg (hlc _ _ d42), if_neg (hlc _ _ d43), if_pos (hlr _), x1, x2]
          have p2 : upd fr 2 0 2 = 0 := upd_at _ _ _
          have pn : ∀ j : Nat, j ≠ 2 → upd fr 2 0 j = fr j := fun j hj => upd_ne _ _ hj
          refine Or.inl ⟨B, E, c9, tk9, st9, va9, fr 0, fr 1, 0, 0, ki, ha, hd, fa, upd fr 2 0, rfl, rfl, x3, ⟨⟨?_, ?_⟩, by rw [pn 3 (by decide)]; exact f30⟩⟩
          · unfold gR
            rw [pn 0 (by decide), pn 1 (by decide), pn 3 (by decide), p2]
            refine ⟨g1, g2, ⟨by decide, by decide⟩, ⟨g4.1, by rw [f30]; decide⟩, fun i hi => ?_, fun i hi => absurd hi (by rw [e0]; omega)⟩
            rw [pn _ (by omega)]; exact g5 i hi
          · refine ⟨(pn 0 (by decide)).symm, (pn 1 (by decide)).symm, p2.symm, by rw [pn 3 (by decide), f30], fun i hi => ?_, fun i hi => absurd hi (by rw [p2, e0]; omega)⟩
            rw [pn 0 (by decide)] at hi
            rw [pn _ (by omega)]; exact hh i hi
      · -- mile
        obtain ⟨q1', q2'⟩ := Decidable.not_not.mp (fun z => c3 (k3.mpr z))
        subst q1'; subst q2'
        rw [if_neg c3, if_pos t3, if_pos rfl, if_neg (hlc _ _ d31), if_neg (hlc _ _ d32), if_pos (hlr _), x2]
        unfold fX2_readMile
        rw [x1]
        dsimp only
        rcases rnum hT x3 1 40 (-1) fa (by decide) (by decide) with ⟨r, b2, e2, c2', tk2, st2, va2, y1, y2, y3, y4, y5, y6⟩ | ⟨r9, y1, y2⟩
        · rw [y1, y2]
          dsimp only
          rw [if_neg y4, if_pos rfl, xlet_eq]
          have p1 : upd fr 1 r 1 = r := upd_at _ _ _
          have pn : ∀ j : Nat, j ≠ 1 → upd fr 1 r j = fr j := fun j hj => upd_ne _ _ hj
          refine Or.inl ⟨b2, e2, c2', tk2, st2, va2, fr 0, r, fr 2, fr 3, ki, ha, hd, fa, upd fr 1 r, rfl, rfl, y3, ⟨⟨?_, ?_⟩, by rw [pn 3 (by decide)]; exact f30⟩⟩
          · unfold gR
            rw [pn 0 (by decide), pn 2 (by decide), pn 3 (by decide), p1]
            refine ⟨g1, ⟨by omega, by rw [show (40 : Int32).toInt = 40 by decide] at y6; exact y6⟩, g3, g4, fun i hi => ?_, fun i hi => ?_⟩
            · rw [pn _ (by omega)]; exact g5 i hi
            · rw [pn _ (by omega), pn _ (by omega)]; exact g6 i hi
          · refine ⟨(pn 0 (by decide)).symm, p1.symm, (pn 2 (by decide)).symm, (pn 3 (by decide)).symm, fun i hi => ?_, fun i hi => ?_⟩
            · rw [pn 0 (by decide)] at hi
              rw [pn _ (by omega)]; exact hh i hi
            · rw [pn 2 (by decide)] at hi
              rw [pn _ (by omega), pn _ (by omega)]; exact hw i hi
        · rw [y1, y2]
          dsimp only
          rw [if_pos rfl, xlet_eq]
          exact Or.inr ⟨x3.2.2.1.1, rfl, rfl⟩
    · -- hill
      obtain ⟨q1', q2'⟩ := Decidable.not_not.mp (fun z => c2 (k2.mpr z))
      subst q1'; subst q2'
      rw [if_neg c2, if_pos t2, if_pos rfl, if_neg (hlc _ _ d21), if_pos (hlr _), x2]
      unfold fX2_readHill
      rw [x1]
      dsimp only
      rcases rnum hT x3 1 (fr 0) (-1) fa (by decide) (by omega) with ⟨r, b2, e2, c2', tk2, st2, va2, y1, y2, y3, y4, y5, y6⟩ | ⟨r9, y1, y2⟩
      · rw [y1, y2]
        dsimp only
        rw [if_neg y4, if_pos rfl]
        rcases rnum hT y3 r (fr 0) (-1) fa (by omega) (by omega) with ⟨r', b3, e3, c3', tk3, st3, va3, w1, w2, w3, w4, w5, w6⟩ | ⟨r9, w1, w2⟩
        · rw [w1, w2]
          dsimp only
          rw [if_neg w4, if_pos rfl]
          rcases rnum hT w3 1 9 (-1) fa (by decide) (by decide) with ⟨rh, b4, e4, c4', tk4, st4, va4, v1, v2, v3, v4, v5, v6⟩ | ⟨r9, v1, v2⟩
          · rw [v1, v2]
            dsimp only
            rw [if_neg v4, xlet_eq]
            obtain ⟨fr2, z1, z2⟩ := clause_236_f r r' rh (by omega) (r'.toInt + 1 - r.toInt).toNat 1000 fr r c4' tk4 st4 va4 fa (by omega) (by omega) (by omega)
            rw [z1]
            have e9 : (9 : Int32).toInt = 9 := by decide
            have pn : ∀ j : Nat, j < 4 ∨ 24 ≤ j → fr2 j = fr j := fun j hj => by rw [z2 j, if_neg (by omega)]
            refine Or.inl ⟨b4, e4, c4', tk4, st4, va4, fr 0, fr 1, fr 2, fr 3, ki, ha, fX3_raise r r' rh hd, fa, fr2, rfl, rfl, v3, ⟨⟨?_, ?_⟩, by rw [pn 3 (Or.inl (by decide))]; exact f30⟩⟩
            · unfold gR
              rw [pn 0 (Or.inl (by decide)), pn 1 (Or.inl (by decide)), pn 2 (Or.inl (by decide)), pn 3 (Or.inl (by decide))]
              refine ⟨g1, g2, g3, g4, fun i hi => ?_, fun i hi => ?_⟩
              · rw [z2]
                by_cases q : 3 + r.toInt ≤ ((4 + i : Nat) : Int) ∧ ((4 + i : Nat) : Int) ≤ 3 + r'.toInt
                · rw [if_pos q]; omega
                · rw [if_neg q]; exact g5 i hi
              · rw [pn _ (Or.inr (by omega)), pn _ (Or.inr (by omega))]; exact g6 i hi
            · refine ⟨(pn 0 (Or.inl (by decide))).symm, (pn 1 (Or.inl (by decide))).symm, (pn 2 (Or.inl (by decide))).symm, (pn 3 (Or.inl (by decide))).symm, fun i hi => ?_, fun i hi => ?_⟩
              · rw [pn 0 (Or.inl (by decide))] at hi
                rw [z2, raise_f hd (by omega) (by omega) (by omega) (i + 1) (by omega)]
                by_cases q : r.toInt ≤ ((i + 1 : Nat) : Int) ∧ ((i + 1 : Nat) : Int) ≤ r'.toInt
                · rw [if_pos q, if_pos (by omega)]
                · rw [if_neg q, if_neg (by omega)]; exact hh i hi
              · rw [pn 2 (Or.inl (by decide))] at hi
                rw [pn _ (Or.inr (by omega)), pn _ (Or.inr (by omega))]; exact hw i hi
          · rw [v1, v2]
            dsimp only
            rw [if_pos rfl, clause_236_x 999]
            exact Or.inr ⟨w3.2.2.1.1, rfl, rfl⟩
        · rw [w1, w2]
          dsimp only
          rw [if_pos rfl, if_neg n10, clause_236_x 999]
          exact Or.inr ⟨y3.2.2.1.1, rfl, rfl⟩
      · rw [y1, y2]
        dsimp only
        rw [if_pos rfl, if_neg n10, clause_236_x 999]
        exact Or.inr ⟨x3.2.2.1.1, rfl, rfl⟩
  · -- road
    obtain ⟨q1', q2'⟩ := Decidable.not_not.mp (fun z => c1 (k1.mpr z))
    subst q1'; subst q2'
    rw [if_neg c1, if_pos t1, if_pos rfl, if_pos (hlr _), x2]
    unfold fX2_readRoad
    rw [x1]
    dsimp only
    rcases rnum hT x3 4 20 (-1) fa (by decide) (by decide) with ⟨r, b2, e2, c2', tk2, st2, va2, y1, y2, y3, y4, y5, y6⟩ | ⟨r9, y1, y2⟩
    · rw [y1, y2]
      dsimp only
      rw [if_neg y4, if_pos rfl, xlet_eq, xlet_eq]
      rw [show (4 : Int32).toInt = 4 by decide] at y5
      rw [show (20 : Int32).toInt = 20 by decide] at y6
      obtain ⟨l0, l1, l2, l3, l4, -⟩ := layRoad_f fr (n := r) (by omega) (by omega)
      refine Or.inl ⟨b2, e2, c2', tk2, st2, va2, r, 10, 0, 0, ki, ha, fX3_lay r hd, fa, fX9_layRoad r fr, rfl, rfl, y3, ⟨⟨?_, ?_⟩, l3⟩⟩
      · unfold gR
        rw [l0, l1, l2, l3]
        refine ⟨⟨y5, y6⟩, ⟨by decide, by decide⟩, ⟨by decide, by decide⟩, ⟨by decide, by decide⟩, fun i hi => ?_, fun i hi => absurd hi (by rw [e0]; omega)⟩
        rw [l4 i hi]; decide
      · refine ⟨l0.symm, l1.symm, l2.symm, l3.symm, fun i hi => ?_, fun i hi => absurd hi (by rw [l2, e0]; omega)⟩
        rw [l0] at hi
        rw [l4 i hi]
        exact lay_f hd (by omega) y6 i hi
    · rw [y1, y2]
      dsimp only
      rw [if_pos rfl, if_neg n10]
      exact Or.inr ⟨x3.2.2.1.1, rfl, rfl⟩
