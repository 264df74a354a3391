theorem pm_fr_or : ∀ t, t < 128 → ∀ a, a < 7 → (nI t ||| ((1 : Int32) <<< (nI a &&& 31))) = nI (t ||| 2 ^ a) ∧ (t ||| 2 ^ a) < 128 := fun t ht a ha => by
  rw [pm_sh1 a (by omega), nI_or]
  exact ⟨rfl, Nat.or_lt_two_pow (n := 7) ht (Nat.pow_lt_pow_right (by decide) ha)⟩
theorem pm_fr_set : ∀ t, t < 128 → ∀ a, a < 7 → (nI t ||| ((1 : Int32) <<< (nI a &&& 31))) = nI (t ||| 2 ^ a) ∧ (t ||| 2 ^ a) < 128 ∧ ∀ m, m < 8 → pm_fr t 0 m ≤ pm_fr (t ||| 2 ^ a) 0 m + 1 := fun t ht a ha => ⟨(pm_fr_or t ht a ha).1, (pm_fr_or t ht a ha).2, fun m _ => by have := pm_fr_D (t := t) (a := a) m; split at this <;> omega⟩

