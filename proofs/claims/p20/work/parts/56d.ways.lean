def pm_tk (x : Int32) (a m r : Int) : Prop := ∃ t, t < 128 ∧ x = nI t ∧ r ≤ pm_fr t a.toNat m.toNat
theorem pm_tk.at {x : Int32} {a m r : Int} (h : pm_tk x a m r) (ha : 0 ≤ a) (ha2 : a ≤ 7) (hm : 0 ≤ m) (hm2 : m ≤ 7) (hr : 1 ≤ r) : a < m := by
  obtain ⟨t, ht, -, hf⟩ := h
  have := (pm_fr_step t ht a.toNat (by omega) m.toNat (by omega)).2.2 (by omega)
  omega
theorem pm_tk.bit {x y z : Int32} {m r : Int} (h : pm_tk x y.toInt m r) (hz : z = (x >>> (y &&& 31)) &&& 1) (ha : 0 ≤ y.toInt) (ha2 : y.toInt ≤ 7) (hm : 0 ≤ m) (hm2 : m ≤ 7) : (z.toInt = 1 → pm_tk x (y.toInt + 1) m r) ∧ pm_tk x (y.toInt + 1) m (r - 1) ∧ (z.toInt = 0 ∨ z.toInt = 1) := by
  obtain ⟨t, ht, hx, hf⟩ := h
  have hs := pm_fr_step t ht y.toInt.toNat (by omega) m.toNat (by omega)
  have e : (y.toInt + 1).toNat = y.toInt.toNat + 1 := by omega
  have hb := pm_fr_bit t ht y.toInt.toNat (by omega)
  rw [← i_nI ha, ← hx, ← hz] at hb
  refine ⟨fun h1 => ⟨t, ht, hx, ?_⟩, ⟨t, ht, hx, ?_⟩, ?_⟩
  · rw [e]
    have : t.testBit y.toInt.toNat = true := by
      cases hc : t.testBit y.toInt.toNat with
      | true => rfl
      | false => rw [hc] at hb; rw [hb] at h1; exact absurd h1 (by decide)
    have := hs.1 this
    omega
  · rw [e]
    have := hs.2.1
    omega
  · rw [hb]; split <;> decide
theorem pm_tk.set {x y : Int32} {m r : Int} (h : pm_tk x 0 m r) (ha : 0 ≤ y.toInt) (ha2 : y.toInt ≤ 6) (hm : 0 ≤ m) (hm2 : m ≤ 7) : pm_tk (x ||| ((1 : Int32) <<< (y &&& 31))) 0 m (r - 1) := by
  obtain ⟨t, ht, hx, hf⟩ := h
  obtain ⟨h1, h2, h3⟩ := pm_fr_set t ht y.toInt.toNat (by omega)
  rw [← i_nI ha, ← hx] at h1
  have := h3 m.toNat (by omega)
  exact ⟨t ||| 2 ^ y.toInt.toNat, h2, h1, by rw [show (0 : Int).toNat = 0 from rfl] at *; omega⟩
theorem pm_tk.zero {m : Int} (hm : 0 ≤ m) (hm2 : m ≤ 7) : pm_tk 0 0 m m := ⟨0, by decide, rfl, by have := pm_fr_0 m.toNat (by omega); rw [show (0 : Int).toNat = 0 from rfl]; omega⟩
theorem pm_tk.le {x : Int32} {a m r q : Int} (h : pm_tk x a m r) (hq : q ≤ r) : pm_tk x a m q := by
  obtain ⟨t, ht, hx, hf⟩ := h
  exact ⟨t, ht, hx, by omega⟩

