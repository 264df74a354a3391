set_option maxRecDepth 100000 in
theorem pm_ce59 {gi gi' : Nat → Int32} {ga ga' : Nat → List Int32} {o : Option pm_C} (hi : ∀ i ∈ pm_dI 59, gi' i = gi i) (ha : ∀ i ∈ pm_dA 59, ga' i = ga i) (h : pm_cell gi ga 59 o) : pm_cell gi' ga' 59 o := by
  unfold pm_cell at h ⊢
  rw [hi 0 (by decide), hi 1 (by decide), hi 2 (by decide), hi 3 (by decide), hi 4 (by decide), hi 5 (by decide), hi 6 (by decide), hi 7 (by decide), hi 8 (by decide), hi 9 (by decide), hi 12 (by decide), hi 13 (by decide)]
  exact h
