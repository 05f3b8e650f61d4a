theorem xlet_of {α : Type} {a y : α} (h : a = y) {β : Type} (k : α → β) : xlet a k = k y := by
  subst h
  unfold xlet
  exact Eq.refl _
