set_option maxRecDepth 100000 in
theorem pm_ce17 {gi gi' : Nat → Int32} {ga ga' : Nat → List Int32} {o : Option pm_C} (hi : ∀ i ∈ pm_dI 17, gi' i = gi i) (ha : ∀ i ∈ pm_dA 17, ga' i = ga i) (h : pm_cell gi ga 17 o) : pm_cell gi' ga' 17 o := by
  unfold pm_cell at h ⊢
  rw [ha 21 (by decide)]
  exact h
