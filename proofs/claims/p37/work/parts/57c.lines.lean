noncomputable def pm_colf (ds : List Int32) (x : Nat) : Nat → Nat := fun y => (ds.getD (20 * y + x) 0).toInt.toNat
theorem sq_cl.col {ds : List Int32} (h : sq_cl ds) (x i : Nat) : pm_colf ds x i < 4 := by
  have := h.at (20 * i + x)
  unfold pm_colf
  omega
