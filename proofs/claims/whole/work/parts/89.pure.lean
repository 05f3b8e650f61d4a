-- THE TEXT READ, on both sides
theorem end_iff {le b e c tk st : Int32} {va : Int64} {te : Nat → Int32} (h : TR le te b e c tk st va) : fX7_isAtEnd le b = 0 ↔ ¬ tk = 0 := by
  obtain ⟨h1, h2, ⟨b0, be, el⟩, h3⟩ := h
  unfold fX7_isAtEnd
  rw [xlet_eq, b01]
  constructor
  · intro q z
    have := t_lt q
    rcases h3 with ⟨-, y, -⟩ | ⟨y, -⟩ | ⟨y, -⟩ | ⟨y, -⟩
    · rw [y] at this; omega
    · rw [z] at y; exact absurd y (by decide)
    · rw [z] at y; exact absurd y (by decide)
    · rw [z] at y; exact absurd y (by decide)
  · intro q
    rcases h3 with ⟨y, -, -⟩ | ⟨-, y, -⟩ | ⟨-, y, -⟩ | ⟨-, y, -⟩
    · exact absurd y q
    · exact Int32.lt_iff_toInt_lt.mpr (by omega)
    · exact Int32.lt_iff_toInt_lt.mpr (by omega)
    · exact Int32.lt_iff_toInt_lt.mpr (by omega)
/-- what a reading comes to: the same fault, or as many clauses and the same road -/
def rdRel (C : Int32 × Int32 × Int32 × Int32 × Int32 × Int32 × (Nat → Int32) × (Nat → Int32) × (Nat → Int32) × Int32 × Int32) (R : Int32 × Int32 × Int32 × Int32 × Int64 × Int32 × Int32 × (Nat → Int32)) : Prop := (C.2.1 = -1 ∧ R.2.2.2.2.2.1 = 0 ∧ C.1 = R.1 ∧ rD R.2.2.2.2.2.2.2 C.2.2.1 C.2.2.2.1 C.2.2.2.2.1 C.2.2.2.2.2.1 C.2.2.2.2.2.2.1 C.2.2.2.2.2.2.2.1 C.2.2.2.2.2.2.2.2.1) ∨ (0 ≤ C.2.1.toInt ∧ R.2.2.2.2.2.1 = 1 ∧ R.2.2.2.2.2.2.1 = C.2.1)
theorem read_44 {le : Int32} {te te8 : Nat → Int32} (hT : rT le te le te8) : ∀ (n m : Nat) (cl b e c tk st : Int32) (va : Int64) (fa : Int32) (fr : Nat → Int32) (ds dm dw dd : Int32) (hd ki ha : Nat → Int32), 0 ≤ cl.toInt → cl.toInt ≤ 13 → 14 - cl.toInt < (n : Int) → 15 - cl.toInt < (m : Int) → TR le te b e c tk st va → rD fr ds dm dw dd hd ki ha → rdRel (fX2_read_25 le te8 n ha hd ki cl (-1) ds dm dw dd b e) (fX9_read_44 le te m fr cl 1 c tk st va 0 fa) := by
  have e1 : (1 : Int32).toInt = 1 := by decide
  have e14 : (14 : Int32).toInt = 14 := by decide
  have n10 : ¬ (1 : Int32) = 0 := by decide
  intro n
  induction n with
  | zero => intro m cl b e c tk st va fa fr ds dm dw dd hd ki ha h0 h1 h2; omega
  | succ n ih =>
    intro m cl b e c tk st va fa fr ds dm dw dd hd ki ha h0 h1 h2 h3 h4 h5
    obtain ⟨m, rfl⟩ : ∃ q, m = q + 2 := ⟨m - 2, by omega⟩
    have zc : (cl + 1).toInt = cl.toInt + (1 : Int32).toInt := z_add (by omega) (by omega)
    rw [fX2_read_25, fX9_read_44, if_neg (show ¬ (14 : Int32) ≤ cl from fun q => by have := t_le q; omega), if_neg n10]
    have hcl := clause_rel hT h4 h5 fa
    have stop : ∀ (g : Nat → Int32) (c2 t2 s2 : Int32) (v2 : Int64) (f2 a2 : Int32), fX9_read_44 le te (m + 1) g (cl + 1) 0 c2 t2 s2 v2 f2 a2 = (cl + 1, c2, t2, s2, v2, f2, a2, g) := fun g c2 t2 s2 v2 f2 a2 => by rw [fX9_read_44, if_pos rfl]
    rcases hcl with ⟨b2, e2, c2, tk2, st2, va2, ds2, dm2, dw2, dd2, ki2, ha2, hd2, fa2, fr2, y1, y2, y3, y4⟩ | ⟨y1, y2, y3⟩
    · rw [y1, y2]
      dsimp only
      rw [if_pos rfl, if_pos rfl]
      have hen := end_iff y3
      have hk0 := kw0 hT y3
      by_cases c1 : tk2 = 0
      · rw [if_neg (fun q => hen.mp q c1), if_pos c1, stop]
        exact Or.inl ⟨rfl, rfl, rfl, y4⟩
      · rw [if_pos (hen.mpr c1), if_neg c1]
        have hbad : fX9_bad st2 0 fa2 = b2 := by unfold fX9_bad; rw [xlet_eq, if_pos rfl, y3.1]
        have hfl : rdRel (cl + 1, b2, ds2, dm2, dw2, dd2, hd2, ki2, ha2, b2, e2) (cl + 1, c2, tk2, st2, va2, 1, b2, fr2) := Or.inr ⟨y3.2.2.1.1, rfl, rfl⟩
        by_cases c2' : (cl + 1) = 14
        · rw [if_pos c2']
          have hy : (if tk2 = 3 then (if (lg_cmp va2 59) = 0 then (if 14 ≤ (cl + 1) then (0 : Int32) else 1) else 0) else 0) = 0 := by
            rw [if_pos (show (14 : Int32) ≤ cl + 1 by rw [c2']; decide)]
            by_cases z1 : tk2 = 3
            · rw [if_pos z1]
              by_cases z2 : lg_cmp va2 59 = 0
              · rw [if_pos z2]
              · rw [if_neg z2]
            · rw [if_neg z1]
          rw [hy, xlet_eq, if_pos rfl, hbad, xlet_eq, stop]
          exact hfl
        · have k2 := t_neq c2'
          rw [if_neg c2']
          by_cases c3 : fX7_isAt 0 b2 e2 te8 = 0
          · rw [if_pos c3]
            have hz := hk0.mp c3
            have hy : (if tk2 = 3 then (if (lg_cmp va2 59) = 0 then (if 14 ≤ (cl + 1) then (0 : Int32) else 1) else 0) else 0) = 0 := by
              by_cases z1 : tk2 = 3
              · rw [if_pos z1, if_neg (fun q => hz ⟨z1, (lg_cmp_eq _ _).mp q⟩)]
              · rw [if_neg z1]
            rw [hy, xlet_eq, if_pos rfl, hbad, xlet_eq, stop]
            exact hfl
          · rw [if_neg c3]
            obtain ⟨z1, z2⟩ := Decidable.not_not.mp (fun z => c3 (hk0.mpr z))
            have hy : (if tk2 = 3 then (if (lg_cmp va2 59) = 0 then (if 14 ≤ (cl + 1) then (0 : Int32) else 1) else 0) else 0) = 1 := by
              rw [if_pos z1, if_pos ((lg_cmp_eq _ _).mpr z2), if_neg (show ¬ (14 : Int32) ≤ cl + 1 from fun q => by have := t_le q; omega)]
            rw [hy, xlet_eq, if_neg n10]
            obtain ⟨B, E, c9, tk9, st9, va9, x1, x2, x3⟩ := tok hT (e := e2) (by have := y3.2.2.1; omega) y3.2.2.1.2.2
            rw [y3.2.1, x1, x2]
            exact ih (m + 1) (cl + 1) B E c9 tk9 st9 va9 fa2 fr2 ds2 dm2 dw2 dd2 hd2 ki2 ha2 (by omega) (by omega) (by omega) (by omega) x3 y4
    · rcases eC : fX2_readClause (-1) le b e te8 ds dm dw dd ki ha hd with ⟨a1, a2, a3, a4, a5, a6, a7, a8, a9, a10⟩
      rcases eR : fX9_readClause le c tk st va 0 fa te fr with ⟨r1, r2, r3, r4, r5, r6, r7⟩
      rw [eC] at y1 y3
      rw [eR] at y2 y3
      dsimp only at y1 y2 y3 ⊢
      subst y2; subst y3
      have em : ((-1) : Int32).toInt = -1 := by decide
      rw [if_neg (show ¬ r6 = -1 from fun q => by rw [q] at y1; omega), if_neg n10, stop]
      exact Or.inr ⟨y1, rfl, rfl⟩
theorem read_2 {le fa : Int32} {to te : Nat → Int32} : ∀ (r n : Nat) (fr : Nat → Int32) (v : Int32), r < n → 0 ≤ v.toInt → v.toInt + (r : Int) = 36 → ∃ g : Nat → Int32, (fX9_read_2 le fa to te n fr v = (match fX9_next le 0 te with | (u1, u2, u3, u4) => fX9_read_44 le te 1000 g 0 1 u1 u2 u3 u4 0 fa)) ∧ ∀ i : Nat, g i = if v.toInt.toNat ≤ i ∧ i < 36 then to i else fr i := by
  have e1 : (1 : Int32).toInt = 1 := by decide
  have e36 : (36 : Int32).toInt = 36 := by decide
  intro r
  induction r with
  | zero =>
    intro n fr v hn h0 h1
    obtain ⟨n, rfl⟩ : ∃ q, n = q + 1 := ⟨n - 1, by omega⟩
    rw [fX9_read_2, if_pos (show (36 : Int32) ≤ v from Int32.le_iff_toInt_le.mpr (by omega))]
    exact ⟨fr, rfl, fun i => by rw [if_neg (by omega)]⟩
  | succ r ih =>
    intro n fr v hn h0 h1
    obtain ⟨n, rfl⟩ : ∃ q, n = q + 1 := ⟨n - 1, by omega⟩
    have zv : (v + 1).toInt = v.toInt + (1 : Int32).toInt := z_add (by omega) (by omega)
    rw [fX9_read_2, if_neg (show ¬ (36 : Int32) ≤ v from fun q => by have := t_le q; omega)]
    obtain ⟨g, x1, x2⟩ := ih n (upd fr v.toNatClampNeg (to v.toNatClampNeg)) (v + 1) (by omega) (by omega) (by omega)
    refine ⟨g, x1, fun i => ?_⟩
    rw [x2 i, cn_of]
    by_cases q : i = v.toInt.toNat
    · rw [if_neg (by omega), if_pos (by omega), q, upd_at]
    · rw [upd_ne _ _ q]
      by_cases q2 : (v + 1).toInt.toNat ≤ i ∧ i < 36
      · rw [if_pos q2, if_pos (by omega)]
      · rw [if_neg q2, if_neg (by omega)]
theorem rD_cong {f g : Nat → Int32} {st mi wk wd : Int32} {ha ki hb : Nat → Int32} (h : ∀ j : Nat, j < 36 → g j = f j) (hn : rD f st mi wk wd ha ki hb) : rD g st mi wk wd ha ki hb := ⟨rN_cong h hn.1, by rw [h 3 (by decide)]; exact hn.2⟩
theorem read_rel {le : Int32} {te te8 to : Nat → Int32} {st mi wk wd : Int32} {ha ki hb dh dk db : Nat → Int32} (hT : rT le te le te8) (hO : rD to st mi wk wd ha ki hb) (fa : Int32) (fr : Nat → Int32) : rdRel (fX2_read st mi wk wd dh ha dk ki db hb le te8) (fX9_read le fa to fr te) := by
  obtain ⟨g, x1, x2⟩ := read_2 (le := le) (fa := fa) (to := to) (te := te) 36 1000 fr 0 (by omega) (by decide) (by decide)
  obtain ⟨h2, k2, b2, et, hn⟩ := take_rr (h2 := dh) (k2 := dk) (b2 := db) hO.1
  obtain ⟨B, E, c9, tk9, st9, va9, y1, y2, y3⟩ := tok hT (e := 0) (by decide) (by rw [show (0 : Int32).toInt = 0 by decide]; exact hT.2.1.1)
  have hfst : fX7_readFirst le te8 = (B, E) := by unfold fX7_readFirst; rw [y1]
  have hg : ∀ j : Nat, j < 36 → g j = to j := fun j hj => by rw [x2 j, if_pos (by rw [show (0 : Int32).toInt.toNat = 0 by decide]; omega)]
  unfold fX2_read fX9_read
  rw [et, hfst, x1, y2]
  exact read_44 hT 1000 1000 0 B E c9 tk9 st9 va9 fa g st mi wk wd h2 k2 b2 (by decide) (by decide) (by decide) (by decide) y3 (rD_cong hg ⟨hn, hO.2⟩)
theorem m_fault {le : Int32} {te te8 to : Nat → Int32} {st mi wk wd : Int32} {ha ki hb dh dk db : Nat → Int32} (hT : rT le te le te8) (hO : rD to st mi wk wd ha ki hb) (fa : Int32) (fr : Nat → Int32) : (fX8_fault st mi wk wd dh ha dk ki db hb le te8).1 = (fX9_fault le fa to fr te).1 := by
  have h := read_rel (dh := dh) (dk := dk) (db := db) hT hO fa fr
  unfold fX8_fault fX9_fault
  rcases e8 : fX2_read st mi wk wd dh ha dk ki db hb le te8 with ⟨a1, a2, a3, a4, a5, a6, a7, a8, a9, a10, a11⟩
  rcases e9 : fX9_read le fa to fr te with ⟨r1, r2, r3, r4, r5, r6, r7, r8⟩
  rw [e8, e9] at h
  dsimp only
  rw [xlet_eq]
  rcases h with ⟨h1, h2, -, -⟩ | ⟨h1, h2, h3⟩
  · have h1 : a2 = -1 := h1
    have h2 : r6 = 0 := h2
    subst h1; subst h2
    show (-1 : Int32) = if (0 : Int32) = 0 then -1 else r7
    rw [if_pos rfl]
  · have h2 : r6 = 1 := h2
    have h3 : r7 = a2 := h3
    subst h2; subst h3
    show r7 = if (1 : Int32) = 0 then -1 else r7
    rw [if_neg (by decide)]
theorem road_22 (isK g : Nat → Int32) (c tk st : Int32) (va : Int64) (fl fa v1 : Int32) : ∀ (r n : Nat) (ro to : Nat → Int32) (v : Int32), r < n → 0 ≤ v.toInt → v.toInt + (r : Int) = 36 → ∃ ro2 to2 : Nat → Int32, fX9_road_22 isK n g ro to v1 v c tk st va fl fa = (v1, 0, 0, 0, c, tk, st, va, fl, fa, to2, g, ro2, upd (upd isK 0 0) 1 0) ∧ (∀ i : Nat, ro2 i = if v.toInt.toNat ≤ i ∧ i < 36 then g i else ro i) ∧ ∀ i : Nat, to2 i = if v.toInt.toNat ≤ i ∧ i < 36 then g i else to i := by
  have e1 : (1 : Int32).toInt = 1 := by decide
  have e36 : (36 : Int32).toInt = 36 := by decide
  intro r
  induction r with
  | zero =>
    intro n ro to v hn h0 h1
    obtain ⟨n, rfl⟩ : ∃ q, n = q + 1 := ⟨n - 1, by omega⟩
    rw [fX9_road_22, if_pos (show (36 : Int32) ≤ v from Int32.le_iff_toInt_le.mpr (by omega))]
    exact ⟨ro, to, rfl, fun i => by rw [if_neg (by omega)], fun i => by rw [if_neg (by omega)]⟩
  | succ r ih =>
    intro n ro to v hn h0 h1
    obtain ⟨n, rfl⟩ : ∃ q, n = q + 1 := ⟨n - 1, by omega⟩
    have zv : (v + 1).toInt = v.toInt + (1 : Int32).toInt := z_add (by omega) (by omega)
    rw [fX9_road_22, if_neg (show ¬ (36 : Int32) ≤ v from fun q => by have := t_le q; omega)]
    obtain ⟨ro2, to2, x1, x2, x3⟩ := ih n (upd ro v.toNatClampNeg (g v.toNatClampNeg)) (upd to v.toNatClampNeg (g v.toNatClampNeg)) (v + 1) (by omega) (by omega) (by omega)
    have key : ∀ (w w2 : Nat → Int32), (∀ i : Nat, w2 i = if (v + 1).toInt.toNat ≤ i ∧ i < 36 then g i else upd w v.toNatClampNeg (g v.toNatClampNeg) i) → ∀ i : Nat, w2 i = if v.toInt.toNat ≤ i ∧ i < 36 then g i else w i := fun w w2 hx i => by
      rw [hx i, cn_of]
      by_cases q : i = v.toInt.toNat
      · rw [if_neg (by omega), if_pos (by omega), q, upd_at]
      · rw [upd_ne _ _ q]
        by_cases q2 : (v + 1).toInt.toNat ≤ i ∧ i < 36
        · rw [if_pos q2, if_pos (by omega)]
        · rw [if_neg q2, if_neg (by omega)]
    exact ⟨ro2, to2, x1, key ro ro2 x2, key to to2 x3⟩
theorem m_road {le : Int32} {te te8 to ro fr isK kept sg was : Nat → Int32} {st mi wk wd n1 n2 n3 n4 bits held pa acts many fa : Int32} {ha ki hb dh dk db nh nk nb sw sk sp de pl ol : Nat → Int32} {s1 m1 w1 d1 s2 m2 w2 d2 : Int32} {h1 k1 b1 h2 k2 b2 : Nat → Int32} (hT : rT le te le te8) (hO : rD to st mi wk wd ha ki hb) (hN : rN ro n1 n2 n3 n4 nh nk nb) (hP : rP acts was ro pa de pl ol) (hG : rG many sg held sw sk sp ro) (hK : rK bits s1 m1 w1 d1 h1 k1 b1 s2 m2 w2 d2 h2 k2 b2 isK kept ro) : (fX8_road bits st mi wk wd dh ha dk ki db hb le te8 n1 n2 n3 n4 nh nk nb held pa).1 = (fX9_road acts many le fa to fr te ro isK).1 ∧ rT (fX9_road acts many le fa to fr te ro isK).2.2.2.1 te (fX8_road bits st mi wk wd dh ha dk ki db hb le te8 n1 n2 n3 n4 nh nk nb held pa).2.2.2.2.2.2.2.2.2.2.2.2.2.2.2.2.2.2.1 te8 ∧ rD (fX9_road acts many le fa to fr te ro isK).2.2.2.2.2.2.2.2.2.2.1 (fX8_road bits st mi wk wd dh ha dk ki db hb le te8 n1 n2 n3 n4 nh nk nb held pa).2.2.2.2.1 (fX8_road bits st mi wk wd dh ha dk ki db hb le te8 n1 n2 n3 n4 nh nk nb held pa).2.2.2.2.2.1 (fX8_road bits st mi wk wd dh ha dk ki db hb le te8 n1 n2 n3 n4 nh nk nb held pa).2.2.2.2.2.2.1 (fX8_road bits st mi wk wd dh ha dk ki db hb le te8 n1 n2 n3 n4 nh nk nb held pa).2.2.2.2.2.2.2.1 (fX8_road bits st mi wk wd dh ha dk ki db hb le te8 n1 n2 n3 n4 nh nk nb held pa).2.2.2.2.2.2.2.2.2.2.2.2.2.1 (fX8_road bits st mi wk wd dh ha dk ki db hb le te8 n1 n2 n3 n4 nh nk nb held pa).2.2.2.2.2.2.2.2.2.2.2.2.2.2.2.1 (fX8_road bits st mi wk wd dh ha dk ki db hb le te8 n1 n2 n3 n4 nh nk nb held pa).2.2.2.2.2.2.2.2.2.2.2.2.2.2.2.2.2.1 ∧ rN (fX9_road acts many le fa to fr te ro isK).2.2.2.2.2.2.2.2.2.2.2.2.1 (fX8_road bits st mi wk wd dh ha dk ki db hb le te8 n1 n2 n3 n4 nh nk nb held pa).2.2.2.2.2.2.2.2.2.2.2.2.2.2.2.2.2.2.2.2.2.1 (fX8_road bits st mi wk wd dh ha dk ki db hb le te8 n1 n2 n3 n4 nh nk nb held pa).2.2.2.2.2.2.2.2.2.2.2.2.2.2.2.2.2.2.2.2.2.2.1 (fX8_road bits st mi wk wd dh ha dk ki db hb le te8 n1 n2 n3 n4 nh nk nb held pa).2.2.2.2.2.2.2.2.2.2.2.2.2.2.2.2.2.2.2.2.2.2.2.1 (fX8_road bits st mi wk wd dh ha dk ki db hb le te8 n1 n2 n3 n4 nh nk nb held pa).2.2.2.2.2.2.2.2.2.2.2.2.2.2.2.2.2.2.2.2.2.2.2.2.1 (fX8_road bits st mi wk wd dh ha dk ki db hb le te8 n1 n2 n3 n4 nh nk nb held pa).2.2.2.2.2.2.2.2.2.2.2.2.2.2.2.2.2.2.2.2.2.2.2.2.2.1 (fX8_road bits st mi wk wd dh ha dk ki db hb le te8 n1 n2 n3 n4 nh nk nb held pa).2.2.2.2.2.2.2.2.2.2.2.2.2.2.2.2.2.2.2.2.2.2.2.2.2.2.1 (fX8_road bits st mi wk wd dh ha dk ki db hb le te8 n1 n2 n3 n4 nh nk nb held pa).2.2.2.2.2.2.2.2.2.2.2.2.2.2.2.2.2.2.2.2.2.2.2.2.2.2.2.1 ∧ rP (fX9_road acts many le fa to fr te ro isK).2.1 was (fX9_road acts many le fa to fr te ro isK).2.2.2.2.2.2.2.2.2.2.2.2.1 (fX8_road bits st mi wk wd dh ha dk ki db hb le te8 n1 n2 n3 n4 nh nk nb held pa).2.2.2.2.2.2.2.2.2.2.2.2.2.2.2.2.2.2.2.2.2.2.2.2.2.2.2.2.2 de pl ol ∧ rG (fX9_road acts many le fa to fr te ro isK).2.2.1 sg (fX8_road bits st mi wk wd dh ha dk ki db hb le te8 n1 n2 n3 n4 nh nk nb held pa).2.2.2.2.2.2.2.2.2.2.2.2.2.2.2.2.2.2.2.2.2.2.2.2.2.2.2.2.1 sw sk sp (fX9_road acts many le fa to fr te ro isK).2.2.2.2.2.2.2.2.2.2.2.2.1 ∧ rK (fX8_road bits st mi wk wd dh ha dk ki db hb le te8 n1 n2 n3 n4 nh nk nb held pa).2.1 s1 m1 w1 d1 h1 k1 b1 s2 m2 w2 d2 h2 k2 b2 (fX9_road acts many le fa to fr te ro isK).2.2.2.2.2.2.2.2.2.2.2.2.2 kept (fX9_road acts many le fa to fr te ro isK).2.2.2.2.2.2.2.2.2.2.2.2.1 := by
  have h := read_rel (dh := dh) (dk := dk) (db := db) hT hO fa fr
  unfold fX8_road fX9_road
  rcases e8 : fX2_read st mi wk wd dh ha dk ki db hb le te8 with ⟨a1, a2, a3, a4, a5, a6, a7, a8, a9, a10, a11⟩
  rcases e9 : fX9_read le fa to fr te with ⟨r1, r2, r3, r4, r5, r6, r7, r8⟩
  rw [e8, e9] at h
  dsimp only
  rcases h with ⟨q1, q2, q3, q4⟩ | ⟨q1, q2, q3⟩
  · have q1 : a2 = -1 := q1
    have q2 : r6 = 0 := q2
    have q3 : a1 = r1 := q3
    have q4 : rD r8 a3 a4 a5 a6 a7 a8 a9 := q4
    subst q1; subst q2; subst q3
    rw [if_pos rfl, if_pos rfl]
    obtain ⟨t1, t2, t3, et, ht⟩ := take_rr (h2 := ha) (k2 := ki) (b2 := hb) q4.1
    rw [et]
    dsimp only
    obtain ⟨u1, u2, u3, eu, hu⟩ := take_rr (h2 := nh) (k2 := nk) (b2 := nb) ht
    rw [eu]
    obtain ⟨ro2, to2, x1, x2, x3⟩ := road_22 isK r8 r2 r3 r4 r5 0 r7 a1 36 1000 ro to 0 (by omega) (by decide) (by decide)
    rw [x1]
    dsimp only
    have y2 : ∀ j : Nat, j < 36 → ro2 j = r8 j := fun j hj => by rw [x2 j, if_pos (by rw [show (0 : Int32).toInt.toNat = 0 by decide]; omega)]
    have y3 : ∀ j : Nat, j < 36 → to2 j = r8 j := fun j hj => by rw [x3 j, if_pos (by rw [show (0 : Int32).toInt.toNat = 0 by decide]; omega)]
    exact ⟨rfl, rT_0, rD_cong y3 ⟨ht, q4.2⟩, rN_cong y2 hu, rP_0, rG_0, rK_0⟩
  · have q1 : 0 ≤ a2.toInt := q1
    have q2 : r6 = 1 := q2
    subst q2
    have em : ((-1) : Int32).toInt = -1 := by decide
    rw [if_neg (show ¬ a2 = -1 from fun q => by rw [q] at q1; omega), if_neg (show ¬ (1 : Int32) = 0 by decide)]
    exact ⟨rfl, hT, hO, hN, hP, hG, hK⟩
