set_option maxRecDepth 100000 in
theorem pm_ce1 {gi gi' : Nat → Int32} {ga ga' : Nat → List Int32} {o : Option pm_C} (hi : ∀ i ∈ pm_dI 1, gi' i = gi i) (ha : ∀ i ∈ pm_dA 1, ga' i = ga i) (h : pm_cell gi ga 1 o) : pm_cell gi' ga' 1 o := by
  unfold pm_cell at h ⊢
  rw [hi 0 (by decide), hi 1 (by decide)]
  exact h
