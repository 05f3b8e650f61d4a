-- what a clause leaves in the class: the token in the row, the draft's steps
theorem readRoad_b (fa le e : Int32) (te : Nat → Int32) (ds dm dw dd : Int32) (hd : Nat → Int32) (hl0 : 0 ≤ le.toInt) (hl1 : le.toInt ≤ 160) (he0 : 0 ≤ e.toInt) (he1 : e.toInt ≤ 160) (hds : ds.toInt ≤ 20) : ((0 ≤ (fX2_readRoad fa le e te ds dm dw dd hd).2.1.toInt ∧ (fX2_readRoad fa le e te ds dm dw dd hd).2.1.toInt ≤ 160) ∧ 0 ≤ (fX2_readRoad fa le e te ds dm dw dd hd).2.2.1.toInt ∧ (fX2_readRoad fa le e te ds dm dw dd hd).2.2.1.toInt ≤ 160) ∧ (fX2_readRoad fa le e te ds dm dw dd hd).2.2.2.1.toInt ≤ 20 := by
  have e20 : (20 : Int32).toInt = 20 := by decide
  have hn := readNext_b le e te hl0 hl1 he0 he1
  unfold fX2_readRoad
  rcases en : fX7_readNext le e te with ⟨u, v⟩
  rw [en] at hn
  dsimp only at hn ⊢
  have hq := readNumber_b 4 20 fa le u v te hn.1.1 hn.1.2 hn.2.2 hl0 hl1 hn.2.1
  rcases eq : fX2_readNumber 4 20 fa le u v te with ⟨r, a, b, c⟩
  rw [eq] at hq
  dsimp only at hq ⊢
  by_cases c1 : r = -1
  · rw [if_pos c1]; exact ⟨hq.1, hds⟩
  · rw [if_neg c1]
    have h2 := (hq.2 c1).2
    unfold xlet
    exact ⟨hq.1, by rw [e20] at h2; exact h2⟩
theorem readHill_b (fa le e : Int32) (te : Nat → Int32) (ds : Int32) (hd : Nat → Int32) (hl0 : 0 ≤ le.toInt) (hl1 : le.toInt ≤ 160) (he0 : 0 ≤ e.toInt) (he1 : e.toInt ≤ 160) : (0 ≤ (fX2_readHill fa le e te ds hd).2.1.toInt ∧ (fX2_readHill fa le e te ds hd).2.1.toInt ≤ 160) ∧ 0 ≤ (fX2_readHill fa le e te ds hd).2.2.1.toInt ∧ (fX2_readHill fa le e te ds hd).2.2.1.toInt ≤ 160 := by
  have hn := readNext_b le e te hl0 hl1 he0 he1
  unfold fX2_readHill
  rcases en : fX7_readNext le e te with ⟨u, v⟩
  rw [en] at hn
  dsimp only at hn ⊢
  have hq := readNumber_b 1 ds fa le u v te hn.1.1 hn.1.2 hn.2.2 hl0 hl1 hn.2.1
  rcases eq : fX2_readNumber 1 ds fa le u v te with ⟨r, a, b, c⟩
  rw [eq] at hq
  dsimp only at hq ⊢
  by_cases c1 : r = -1
  · rw [if_pos c1]; exact hq.1
  · rw [if_neg c1]
    have hq2 := readNumber_b r ds a le b c te hq.1.1.1 hq.1.1.2 hq.1.2.2 hl0 hl1 hq.1.2.1
    rcases eq2 : fX2_readNumber r ds a le b c te with ⟨r2, a2, b2, c2⟩
    rw [eq2] at hq2
    dsimp only at hq2 ⊢
    by_cases d1 : r2 = -1
    · rw [if_pos d1]; exact hq2.1
    · rw [if_neg d1]
      have hq3 := readNumber_b 1 9 a2 le b2 c2 te hq2.1.1.1 hq2.1.1.2 hq2.1.2.2 hl0 hl1 hq2.1.2.1
      rcases eq3 : fX2_readNumber 1 9 a2 le b2 c2 te with ⟨r3, a3, b3, c3⟩
      rw [eq3] at hq3
      dsimp only at hq3 ⊢
      by_cases f1 : r3 = -1
      · rw [if_pos f1]; exact hq3.1
      · rw [if_neg f1]; unfold xlet; exact hq3.1
theorem readMile_b (fa le e : Int32) (te : Nat → Int32) (dm : Int32) (hl0 : 0 ≤ le.toInt) (hl1 : le.toInt ≤ 160) (he0 : 0 ≤ e.toInt) (he1 : e.toInt ≤ 160) : (0 ≤ (fX2_readMile fa le e te dm).2.1.toInt ∧ (fX2_readMile fa le e te dm).2.1.toInt ≤ 160) ∧ 0 ≤ (fX2_readMile fa le e te dm).2.2.1.toInt ∧ (fX2_readMile fa le e te dm).2.2.1.toInt ≤ 160 := by
  have hn := readNext_b le e te hl0 hl1 he0 he1
  unfold fX2_readMile
  rcases en : fX7_readNext le e te with ⟨u, v⟩
  rw [en] at hn
  dsimp only at hn ⊢
  have hq := readNumber_b 1 40 fa le u v te hn.1.1 hn.1.2 hn.2.2 hl0 hl1 hn.2.1
  rcases eq : fX2_readNumber 1 40 fa le u v te with ⟨r, a, b, c⟩
  rw [eq] at hq
  dsimp only at hq ⊢
  by_cases c1 : r = -1
  · rw [if_pos c1]; exact hq.1
  · rw [if_neg c1]; exact hq.1
theorem readWalker_b (k fa le b0 e dw : Int32) (te ki ha : Nat → Int32) (hl0 : 0 ≤ le.toInt) (hl1 : le.toInt ≤ 160) (hb0 : 0 ≤ b0.toInt) (hb1 : b0.toInt ≤ 160) (he0 : 0 ≤ e.toInt) (he1 : e.toInt ≤ 160) : (0 ≤ (fX2_readWalker k fa le b0 e dw te ki ha).2.1.toInt ∧ (fX2_readWalker k fa le b0 e dw te ki ha).2.1.toInt ≤ 160) ∧ 0 ≤ (fX2_readWalker k fa le b0 e dw te ki ha).2.2.1.toInt ∧ (fX2_readWalker k fa le b0 e dw te ki ha).2.2.1.toInt ≤ 160 := by
  have hn := readNext_b le e te hl0 hl1 he0 he1
  unfold fX2_readWalker
  by_cases k1 : k = -1
  · rw [if_pos k1]; exact ⟨⟨hb0, hb1⟩, he0, he1⟩
  · rw [if_neg k1]
    by_cases k2 : dw < 6
    · rw [if_pos k2]
      rcases en : fX7_readNext le e te with ⟨u, v⟩
      rw [en] at hn
      dsimp only at hn ⊢
      have hq := readNumber_b 1 9 fa le u v te hn.1.1 hn.1.2 hn.2.2 hl0 hl1 hn.2.1
      rcases eq : fX2_readNumber 1 9 fa le u v te with ⟨r, a, b, c⟩
      rw [eq] at hq
      dsimp only at hq ⊢
      by_cases c1 : r = -1
      · rw [if_pos c1]; exact hq.1
      · rw [if_neg c1]
        rcases fX3_hire k r dw ki ha with ⟨x, y⟩
        exact hq.1
    · rw [if_neg k2]; exact ⟨⟨hb0, hb1⟩, he0, he1⟩
theorem xclause_b (fa le b0 e : Int32) (te : Nat → Int32) (ds dm dw dd : Int32) (ki ha hd : Nat → Int32) (hl0 : 0 ≤ le.toInt) (hl1 : le.toInt ≤ 160) (hb0 : 0 ≤ b0.toInt) (hb1 : b0.toInt ≤ 160) (he0 : 0 ≤ e.toInt) (he1 : e.toInt ≤ 160) (hds : ds.toInt ≤ 20) : ((0 ≤ (fX2_readClause fa le b0 e te ds dm dw dd ki ha hd).2.1.toInt ∧ (fX2_readClause fa le b0 e te ds dm dw dd ki ha hd).2.1.toInt ≤ 160) ∧ 0 ≤ (fX2_readClause fa le b0 e te ds dm dw dd ki ha hd).2.2.1.toInt ∧ (fX2_readClause fa le b0 e te ds dm dw dd ki ha hd).2.2.1.toInt ≤ 160) ∧ (fX2_readClause fa le b0 e te ds dm dw dd ki ha hd).2.2.2.1.toInt ≤ 20 := by
  unfold fX2_readClause
  by_cases c1 : fX7_isAt 1 b0 e te = 0
  · rw [if_pos c1]
    by_cases c2 : fX7_isAt 2 b0 e te = 0
    · rw [if_pos c2]
      by_cases c3 : fX7_isAt 3 b0 e te = 0
      · rw [if_pos c3]
        by_cases c4 : fX7_isAt 4 b0 e te = 0
        · rw [if_pos c4]
          have h := readWalker_b (fX2_kindAtToken b0 e te) fa le b0 e dw te ki ha hl0 hl1 hb0 hb1 he0 he1
          rcases eq : fX2_readWalker (fX2_kindAtToken b0 e te) fa le b0 e dw te ki ha with ⟨x1, x2, x3, x4, x5, x6⟩
          rw [eq] at h
          exact ⟨h, hds⟩
        · rw [if_neg c4]
          have h := readNext_b le e te hl0 hl1 he0 he1
          rcases eq : fX7_readNext le e te with ⟨x1, x2⟩
          rw [eq] at h
          exact ⟨h, hds⟩
      · rw [if_neg c3]
        have h := readMile_b fa le e te dm hl0 hl1 he0 he1
        rcases eq : fX2_readMile fa le e te dm with ⟨x1, x2, x3, x4⟩
        rw [eq] at h
        exact ⟨h, hds⟩
    · rw [if_neg c2]
      have h := readHill_b fa le e te ds hd hl0 hl1 he0 he1
      rcases eq : fX2_readHill fa le e te ds hd with ⟨x1, x2, x3, x4⟩
      rw [eq] at h
      exact ⟨h, hds⟩
  · rw [if_neg c1]
    have h := readRoad_b fa le e te ds dm dw dd hd hl0 hl1 he0 he1 hds
    rcases eq : fX2_readRoad fa le e te ds dm dw dd hd with ⟨x1, x2, x3, x4, x5, x6, x7, x8⟩
    rw [eq] at h
    exact h
