theorem m_keep {f : Nat → Int32} {st mi wk wd : Int32} {ha ki hb : Nat → Int32} (h : rN f st mi wk wd ha ki hb) {bits s1 m1 w1 d1 s2 m2 w2 d2 : Int32} {h1 k1 b1 h2 k2 b2 isK kept : Nat → Int32} (hk : rK bits s1 m1 w1 d1 h1 k1 b1 s2 m2 w2 d2 h2 k2 b2 isK kept f) (a : Int32) : (fX8_keep a bits st mi wk wd s1 m1 w1 d1 h1 ha k1 ki b1 hb s2 m2 w2 d2 h2 k2 b2).1 = (fX9_keep a f kept isK).1 ∧ rK (fX8_keep a bits st mi wk wd s1 m1 w1 d1 h1 ha k1 ki b1 hb s2 m2 w2 d2 h2 k2 b2).2.1 (fX8_keep a bits st mi wk wd s1 m1 w1 d1 h1 ha k1 ki b1 hb s2 m2 w2 d2 h2 k2 b2).2.2.1 (fX8_keep a bits st mi wk wd s1 m1 w1 d1 h1 ha k1 ki b1 hb s2 m2 w2 d2 h2 k2 b2).2.2.2.1 (fX8_keep a bits st mi wk wd s1 m1 w1 d1 h1 ha k1 ki b1 hb s2 m2 w2 d2 h2 k2 b2).2.2.2.2.1 (fX8_keep a bits st mi wk wd s1 m1 w1 d1 h1 ha k1 ki b1 hb s2 m2 w2 d2 h2 k2 b2).2.2.2.2.2.1 (fX8_keep a bits st mi wk wd s1 m1 w1 d1 h1 ha k1 ki b1 hb s2 m2 w2 d2 h2 k2 b2).2.2.2.2.2.2.1 (fX8_keep a bits st mi wk wd s1 m1 w1 d1 h1 ha k1 ki b1 hb s2 m2 w2 d2 h2 k2 b2).2.2.2.2.2.2.2.1 (fX8_keep a bits st mi wk wd s1 m1 w1 d1 h1 ha k1 ki b1 hb s2 m2 w2 d2 h2 k2 b2).2.2.2.2.2.2.2.2.1 (fX8_keep a bits st mi wk wd s1 m1 w1 d1 h1 ha k1 ki b1 hb s2 m2 w2 d2 h2 k2 b2).2.2.2.2.2.2.2.2.2.1 (fX8_keep a bits st mi wk wd s1 m1 w1 d1 h1 ha k1 ki b1 hb s2 m2 w2 d2 h2 k2 b2).2.2.2.2.2.2.2.2.2.2.1 (fX8_keep a bits st mi wk wd s1 m1 w1 d1 h1 ha k1 ki b1 hb s2 m2 w2 d2 h2 k2 b2).2.2.2.2.2.2.2.2.2.2.2.1 (fX8_keep a bits st mi wk wd s1 m1 w1 d1 h1 ha k1 ki b1 hb s2 m2 w2 d2 h2 k2 b2).2.2.2.2.2.2.2.2.2.2.2.2.1 (fX8_keep a bits st mi wk wd s1 m1 w1 d1 h1 ha k1 ki b1 hb s2 m2 w2 d2 h2 k2 b2).2.2.2.2.2.2.2.2.2.2.2.2.2.1 (fX8_keep a bits st mi wk wd s1 m1 w1 d1 h1 ha k1 ki b1 hb s2 m2 w2 d2 h2 k2 b2).2.2.2.2.2.2.2.2.2.2.2.2.2.2.1 (fX8_keep a bits st mi wk wd s1 m1 w1 d1 h1 ha k1 ki b1 hb s2 m2 w2 d2 h2 k2 b2).2.2.2.2.2.2.2.2.2.2.2.2.2.2.2 (fX9_keep a f kept isK).2.2 (fX9_keep a f kept isK).2.1 f := by
  obtain ⟨hf, rfl, rfl, rfl, rfl, hh, hw⟩ := id h
  have ea : fX8_within a 0 1 = fX9_in a.toInt64 0 1 := within_in (by decide) (by decide)
  have hz := t_shl hf.2.2.1.1 hf.2.2.1.2
  have hbits : fJ6_bitCount_0f7a4 (f 3) = fX9_bits (f 3) := bits_eq hf.2.2.2.1.1 (by have := hf.2.2.2.1.2; omega)
  unfold fX8_keep fX9_keep
  rw [ea]
  by_cases c1 : fX9_in a.toInt64 0 1 = 0
  · rw [if_pos c1, if_pos c1]; exact ⟨rfl, hk⟩
  · rw [if_neg c1, if_neg c1]
    obtain ⟨q1, q2, q3, q4, q5⟩ := hk
    obtain ⟨g1, g2, g3, g4, g5, g6⟩ := bits4 bits q1
    have n10 : ¬ (1 : Int32) = 0 := by decide
    rcases in01 c1 with rfl | rfl
    · rw [if_pos rfl]
      obtain ⟨ha2, ki2, hb2, et, hn⟩ := take_rr (h2 := h1) (k2 := k1) (b2 := b1) h
      rw [et]
      obtain ⟨x1, x2, x3⟩ := keep_20 0 f isK (by decide) (by decide) 36 1000 kept 0 (by omega) (by decide) (by decide)
      rcases e9 : fX9_keep_20 0 f isK 1000 kept 0 with ⟨r, kept2, isK2⟩
      rw [e9] at x1 x2 x3
      dsimp only at x1 x2 x3 ⊢
      subst x1; subst x2
      have k0 : ∀ j : Nat, j < 36 → kept2 j = f j := fun j hj => by
        rw [x3 j, if_pos (by rw [show (0 : Int32).toInt.toNat = 0 by decide]; omega)]
        exact congrArg f (by rw [show (0 : Int32).toInt.toNat = 0 by decide]; omega)
      have k9 : ∀ j : Nat, kept2 (36 + j) = kept (36 + j) := fun j => by
        rw [x3 (36 + j), if_neg (by rw [show (0 : Int32).toInt.toNat = 0 by decide]; omega)]
      have i0 : upd isK (0 : Int32).toNatClampNeg 1 0 = 1 := upd_at _ _ _
      have i1 : upd isK (0 : Int32).toNatClampNeg 1 1 = isK 1 := upd_ne _ _ (by decide)
      refine ⟨hbits, g1, ?_, ?_, fun _ => ⟨rN_cong k0 hn, k0 2 (by decide)⟩, fun hi => ?_⟩
      · rw [i0]; exact ⟨fun z => absurd z g3, fun z => absurd z n10⟩
      · rw [i1, g5]; exact q3
      · rw [i1] at hi
        obtain ⟨y1, y2⟩ := q5 hi
        exact ⟨rN_cong (fun j _ => k9 j) y1, (k9 2).trans y2⟩
    · rw [if_neg n10]
      obtain ⟨ha2, ki2, hb2, et, hn⟩ := take_rr (h2 := h2) (k2 := k2) (b2 := b2) h
      rw [et]
      obtain ⟨x1, x2, x3⟩ := keep_20 1 f isK (by decide) (by decide) 36 1000 kept 0 (by omega) (by decide) (by decide)
      rcases e9 : fX9_keep_20 1 f isK 1000 kept 0 with ⟨r, kept2, isK2⟩
      rw [e9] at x1 x2 x3
      dsimp only at x1 x2 x3 ⊢
      subst x1; subst x2
      have k9 : ∀ j : Nat, j < 36 → kept2 (36 + j) = f j := fun j hj => by
        rw [x3 (36 + j), if_pos (by rw [show (0 : Int32).toInt.toNat = 0 by decide, show (1 : Int32).toInt.toNat = 1 by decide]; omega)]
        exact congrArg f (by rw [show (1 : Int32).toInt.toNat = 1 by decide]; omega)
      have k0 : ∀ j : Nat, j < 36 → kept2 j = kept j := fun j hj => by
        rw [x3 j, if_neg (by rw [show (1 : Int32).toInt.toNat = 1 by decide]; omega)]
      have i1 : upd isK (1 : Int32).toNatClampNeg 1 1 = 1 := upd_at _ _ _
      have i0 : upd isK (1 : Int32).toNatClampNeg 1 0 = isK 0 := upd_ne _ _ (by decide)
      refine ⟨hbits, g2, ?_, ?_, fun hi => ?_, fun _ => ⟨rN_cong k9 hn, k9 2 (by decide)⟩⟩
      · rw [i0, g6]; exact q2
      · rw [i1]; exact ⟨fun z => absurd z g4, fun z => absurd z n10⟩
      · rw [i0] at hi
        obtain ⟨y1, y2⟩ := q4 hi
        exact ⟨rN_cong k0 y1, (k0 2 (by decide)).trans y2⟩
theorem m_back {f : Nat → Int32} {st mi wk wd : Int32} {ha ki hb : Nat → Int32} (h : rN f st mi wk wd ha ki hb) {bits s1 m1 w1 d1 s2 m2 w2 d2 : Int32} {h1 k1 b1 h2 k2 b2 isK kept : Nat → Int32} (hk : rK bits s1 m1 w1 d1 h1 k1 b1 s2 m2 w2 d2 h2 k2 b2 isK kept f) {acts held : Int32} {was de pl ol : Nat → Int32} (hp : rP acts was f held de pl ol) (a : Int32) : (fX8_back a bits s1 m1 w1 d1 st mi wk wd ha h1 ki k1 hb b1 held s2 m2 w2 d2 h2 k2 b2).1 = (fX9_back a acts isK kept f).1 ∧ rN (fX9_back a acts isK kept f).2.2 (fX8_back a bits s1 m1 w1 d1 st mi wk wd ha h1 ki k1 hb b1 held s2 m2 w2 d2 h2 k2 b2).2.1 (fX8_back a bits s1 m1 w1 d1 st mi wk wd ha h1 ki k1 hb b1 held s2 m2 w2 d2 h2 k2 b2).2.2.1 (fX8_back a bits s1 m1 w1 d1 st mi wk wd ha h1 ki k1 hb b1 held s2 m2 w2 d2 h2 k2 b2).2.2.2.1 (fX8_back a bits s1 m1 w1 d1 st mi wk wd ha h1 ki k1 hb b1 held s2 m2 w2 d2 h2 k2 b2).2.2.2.2.1 (fX8_back a bits s1 m1 w1 d1 st mi wk wd ha h1 ki k1 hb b1 held s2 m2 w2 d2 h2 k2 b2).2.2.2.2.2.1 (fX8_back a bits s1 m1 w1 d1 st mi wk wd ha h1 ki k1 hb b1 held s2 m2 w2 d2 h2 k2 b2).2.2.2.2.2.2.1 (fX8_back a bits s1 m1 w1 d1 st mi wk wd ha h1 ki k1 hb b1 held s2 m2 w2 d2 h2 k2 b2).2.2.2.2.2.2.2.1 ∧ rP (fX9_back a acts isK kept f).2.1 was (fX9_back a acts isK kept f).2.2 (fX8_back a bits s1 m1 w1 d1 st mi wk wd ha h1 ki k1 hb b1 held s2 m2 w2 d2 h2 k2 b2).2.2.2.2.2.2.2.2 de pl ol ∧ (fX9_back a acts isK kept f).2.2 2 = f 2 := by
  obtain ⟨hf, rfl, rfl, rfl, rfl, hh, hw⟩ := id h
  have ea : fX8_within a 0 1 = fX9_in a.toInt64 0 1 := within_in (by decide) (by decide)
  unfold fX8_back fX9_back
  rw [ea]
  by_cases c1 : fX9_in a.toInt64 0 1 = 0
  · rw [if_pos c1, if_pos c1]; exact ⟨rfl, h, hp, rfl⟩
  · rw [if_neg c1, if_neg c1]
    obtain ⟨q1, q2, q3, q4, q5⟩ := hk
    have n10 : ¬ (1 : Int32) = 0 := by decide
    rcases in01 c1 with rfl | rfl
    · by_cases c2 : isK 0 = 0
      · rw [if_pos (q2.mpr c2), if_pos (show isK (0 : Int32).toNatClampNeg = 0 from c2)]; exact ⟨rfl, h, hp, rfl⟩
      · rw [if_neg (fun z => c2 (q2.mp z)), if_neg (show ¬ isK (0 : Int32).toNatClampNeg = 0 from c2), if_pos rfl]
        obtain ⟨y1, y2⟩ := q4 c2
        obtain ⟨ha2, ki2, hb2, et, hn⟩ := take_rr (h2 := ha) (k2 := ki) (b2 := hb) y1
        rw [et]
        obtain ⟨x1, x2, x3⟩ := back_32 0 kept (by decide) (by decide) 36 1000 f 0 (by omega) (by decide) (by decide)
        rcases e9 : fX9_back_32 0 kept 1000 f 0 with ⟨r, ac2, f2⟩
        rw [e9] at x1 x2 x3
        dsimp only at x1 x2 x3 ⊢
        subst x1; subst x2
        have k0 : ∀ j : Nat, j < 36 → f2 j = kept j := fun j hj => by
          rw [x3 j, if_pos (by rw [show (0 : Int32).toInt.toNat = 0 by decide]; omega)]
          exact congrArg kept (by rw [show (0 : Int32).toInt.toNat = 0 by decide]; omega)
        have hn2 := rN_cong k0 hn
        have hg2 := hn2.1
        have hz := t_shl hg2.2.2.1.1 hg2.2.2.1.2
        have hbits : fJ6_bitCount_0f7a4 (f2 3) = fX9_bits (f2 3) := bits_eq hg2.2.2.2.1.1 (by have := hg2.2.2.2.1.2; omega)
        refine ⟨?_, hn2, rP_0, (k0 2 (by decide)).trans y2⟩
        rw [hn2.2.2.2.2.1]; exact hbits
    · by_cases c2 : isK 1 = 0
      · rw [if_pos (q3.mpr c2), if_pos (show isK (1 : Int32).toNatClampNeg = 0 from c2)]; exact ⟨rfl, h, hp, rfl⟩
      · rw [if_neg (fun z => c2 (q3.mp z)), if_neg (show ¬ isK (1 : Int32).toNatClampNeg = 0 from c2), if_neg n10]
        obtain ⟨y1, y2⟩ := q5 c2
        obtain ⟨ha2, ki2, hb2, et, hn⟩ := take_rr (h2 := ha) (k2 := ki) (b2 := hb) y1
        rw [et]
        obtain ⟨x1, x2, x3⟩ := back_32 1 kept (by decide) (by decide) 36 1000 f 0 (by omega) (by decide) (by decide)
        rcases e9 : fX9_back_32 1 kept 1000 f 0 with ⟨r, ac2, f2⟩
        rw [e9] at x1 x2 x3
        dsimp only at x1 x2 x3 ⊢
        subst x1; subst x2
        have k0 : ∀ j : Nat, j < 36 → f2 j = kept (36 + j) := fun j hj => by
          rw [x3 j, if_pos (by rw [show (0 : Int32).toInt.toNat = 0 by decide]; omega)]
          exact congrArg kept (by rw [show (1 : Int32).toInt.toNat = 1 by decide])
        have hn2 := rN_cong k0 hn
        have hg2 := hn2.1
        have hz := t_shl hg2.2.2.1.1 hg2.2.2.1.2
        have hbits : fJ6_bitCount_0f7a4 (f2 3) = fX9_bits (f2 3) := bits_eq hg2.2.2.2.1.1 (by have := hg2.2.2.2.1.2; omega)
        refine ⟨?_, hn2, rP_0, (k0 2 (by decide)).trans y2⟩
        rw [hn2.2.2.2.2.1]; exact hbits
