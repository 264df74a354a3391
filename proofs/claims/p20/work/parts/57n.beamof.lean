/-- in how many places two rows differ, m places from x on -/
noncomputable def cf (a b : List Int32) : Nat → Nat → Nat
  | _, 0 => 0
  | x, m + 1 => (if a.getD x 0 = b.getD x 0 then 0 else 1) + cf a b (x + 1) m
theorem cf_s (a b : List Int32) (x m : Nat) : cf a b x (m + 1) = (if a.getD x 0 = b.getD x 0 then 0 else 1) + cf a b (x + 1) m := rfl
theorem cf_add {a b : List Int32} {m n : Nat} : ∀ {x : Nat}, cf a b x (m + n) = cf a b x m + cf a b (x + m) n := by
  induction m with
  | zero =>
    intro x
    rw [Nat.zero_add, Nat.add_zero]
    show _ = 0 + _
    rw [Nat.zero_add]
  | succ m ih =>
    intro x
    rw [show m + 1 + n = (m + n) + 1 by omega, cf_s, cf_s, ih, show x + 1 + m = x + (m + 1) by omega]
    omega
/-- by rows -/
noncomputable def cd (a b : List Int32) (A : Nat) : Nat → Nat → Nat
  | _, 0 => 0
  | y, m + 1 => cf a b (20 * y) A + cd a b A (y + 1) m
theorem cd_s (a b : List Int32) (A y m : Nat) : cd a b A y (m + 1) = cf a b (20 * y) A + cd a b A (y + 1) m := rfl
theorem cf_dx {a b : List Int32} (ha : sq_cl a) (hb : sq_cl b) {y m : Nat} (hy : y < 20) : ∀ {x c : Nat}, x + m ≤ 20 → pm_dx (pm_enc a) (pm_enc b) (nI y) m x (nI c) = nI (c + cf a b (20 * y + x) m) := by
  induction m with
  | zero => intro x c _; rfl
  | succ m ih =>
    intro x c hx
    have ex := nI_toInt (n := x) (by omega)
    have ey := nI_toInt (n := y) (by omega)
    have e1 := pm_col_enc ha (x := nI x) (y := nI y) (by omega) (by omega) (by omega) (by omega)
    have e2 := pm_col_enc hb (x := nI x) (y := nI y) (by omega) (by omega) (by omega) (by omega)
    rw [show (nI y).toInt.toNat = y by omega, show (nI x).toInt.toNat = x by omega] at e1 e2
    show pm_dx (pm_enc a) (pm_enc b) (nI y) m (x + 1) (if pm_col (pm_enc a) (nI x) (nI y) = pm_col (pm_enc b) (nI x) (nI y) then nI c else nI c + 1) = _
    rw [e1, e2, cf_s]
    by_cases q : a.getD (20 * y + x) 0 = b.getD (20 * y + x) 0
    · rw [if_pos q, if_pos q, ih (by omega), Nat.zero_add, show 20 * y + (x + 1) = 20 * y + x + 1 by omega]
    · rw [if_neg q, if_neg q, show nI c + 1 = nI (c + 1) from nI_add c 1, ih (by omega), show 20 * y + (x + 1) = 20 * y + x + 1 by omega, show c + 1 + cf a b (20 * y + x + 1) m = c + (1 + cf a b (20 * y + x + 1) m) by omega]
theorem cf_dy {a b : List Int32} (ha : sq_cl a) (hb : sq_cl b) {A m : Nat} (hA : A ≤ 20) : ∀ {y c : Nat}, y + m ≤ 20 → pm_dy (pm_enc a) (pm_enc b) A m y (nI c) = nI (c + cd a b A y m) := by
  induction m with
  | zero => intro y c _; rfl
  | succ m ih =>
    intro y c hy
    show pm_dy (pm_enc a) (pm_enc b) A m (y + 1) (pm_dx (pm_enc a) (pm_enc b) (nI y) A 0 (nI c)) = _
    rw [cf_dx ha hb (by omega) (by omega), ih (by omega), cd_s, Nat.add_zero, Nat.add_assoc]
section PmBo
variable {gi : Nat → Int32} {ga : Nat → List Int32} {b k : Int32}
end PmBo
