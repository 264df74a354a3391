set_option maxRecDepth 100000 in
theorem pm_ce14 {gi gi' : Nat → Int32} {ga ga' : Nat → List Int32} {o : Option pm_C} (hi : ∀ i ∈ pm_dI 14, gi' i = gi i) (ha : ∀ i ∈ pm_dA 14, ga' i = ga i) (h : pm_cell gi ga 14 o) : pm_cell gi' ga' 14 o := by
  unfold pm_cell at h ⊢
  rw [hi 10 (by decide), hi 11 (by decide)]
  exact h
