section PmCalls
variable {sc : pm_S} {d mi pc nx mj b ci mL k0 q i : Nat} {ls st vs r fs : List Value} {w : pm_W} {Q Q' : Option Value → pm_W → Prop}
theorem pm_take_rev {vs r : List Value} {b : Nat} (hb : vs.length = b) : (vs.reverse ++ r).take b = vs.reverse ∧ (vs.reverse ++ r).drop b = r := by
  subst hb
  rw [show vs.length = vs.reverse.length from (List.length_reverse).symm]
  exact ⟨List.take_left, List.drop_left⟩
theorem pm_blt_n {a b : Nat} (h : ¬ a < b) : Nat.blt a b = false := pm_nblt (Nat.not_lt.mp h)
theorem v_callV (hc : pm_code mi pc = some (.invokevirtual i, nx, mj, b, ci, mL)) (m : pm_Mt sc k0 mj mL (.ref q :: vs) w Q') (hs : st = vs.reverse ++ .ref q :: r) (hb : vs.length = b) (hw : w[q]? = some (.inr (ci, fs))) (hcat : Nat.ble (pm_cat r) 8 = true) (hl : Nat.blt mL (pm_arg (.ref q :: vs)).length = false) (hd : k0 + 1 ≤ d) (k : ∀ rv w', Q' rv w' → pm_V sc d mi nx ls (pm_rv rv r) w' Q) : pm_V sc d mi pc ls st w Q := by
  refine v_call hc ?_ hl hd m k
  obtain ⟨h1, h2⟩ := pm_take_rev (r := .ref q :: r) hb
  show pm_callV mj b ci mL st w = _
  unfold pm_callV
  rw [hs, h1, h2, pm_blt_n (by rw [List.length_reverse, hb]; omega), cond_false]
  dsimp only
  rw [hw]
  dsimp only
  rw [Nat.beq_refl, hcat, List.reverse_reverse]
  rfl
theorem v_callS (hc : pm_code mi pc = some (.invokestatic i, nx, mj, b, ci, mL)) (m : pm_Mt sc k0 mj mL vs w Q') (hs : st = vs.reverse ++ r) (hb : vs.length = b) (hcat : Nat.ble (pm_cat r) 8 = true) (hl : Nat.blt mL (pm_arg vs).length = false) (hj : Nat.blt mj 900 = true) (hd : k0 + 1 ≤ d) (k : ∀ rv w', Q' rv w' → pm_V sc d mi nx ls (pm_rv rv r) w' Q) : pm_V sc d mi pc ls st w Q := by
  refine v_call hc ?_ hl hd m k
  obtain ⟨h1, h2⟩ := pm_take_rev (r := r) hb
  have hj := pm_blt hj
  have nb : ∀ y, 900 < y → Nat.beq mj y = false := fun y hy => by
    cases h : Nat.beq mj y with
    | false => rfl
    | true => have := Nat.eq_of_beq_eq_true h; omega
  show (bif Nat.beq mj 999 then (bif Nat.beq d 0 then none else pm_copy nx ls st w)
      else bif Nat.beq mj 997 then pm_ii st (fun x y r => bif Nat.beq d 0 || Nat.blt 8 (pm_cat r) then none else pm_gi nx ls (if x < y then y else x) r w)
      else bif Nat.beq mj 996 then pm_ii st (fun x y r => bif Nat.beq d 0 || Nat.blt 8 (pm_cat r) then none else pm_gi nx ls (if y < x then y else x) r w)
      else pm_callS mj b mL st) = _
  rw [nb 999 (by omega), cond_false, nb 997 (by omega), cond_false, nb 996 (by omega), cond_false]
  unfold pm_callS
  rw [hs, h1, h2, pm_blt_n (by rw [List.length_reverse, hb]; omega), cond_false, hcat, List.reverse_reverse]
  rfl
set_option maxRecDepth 100000 in
theorem v_max {x y : Int32} (hc : pm_code mi pc = some (.invokestatic i, nx, 997, b, ci, mL)) (hd : 1 ≤ d) (hcat : Nat.blt 8 (pm_cat st) = false) (k : pm_V sc d mi nx ls (.int (if x < y then y else x) :: st) w Q) : pm_V sc d mi pc ls (.int y :: .int x :: st) w Q := v_go hc (by
  show (bif Nat.beq d 0 || Nat.blt 8 (pm_cat st) then none else pm_gi nx ls (if x < y then y else x) st w) = _
  rw [hcat, show Nat.beq d 0 = false by cases d with | zero => omega | succ n => rfl]
  exact pm_gi_eq) k
set_option maxRecDepth 100000 in
theorem v_min {x y : Int32} (hc : pm_code mi pc = some (.invokestatic i, nx, 996, b, ci, mL)) (hd : 1 ≤ d) (hcat : Nat.blt 8 (pm_cat st) = false) (k : pm_V sc d mi nx ls (.int (if y < x then y else x) :: st) w Q) : pm_V sc d mi pc ls (.int y :: .int x :: st) w Q := v_go hc (by
  show (bif Nat.beq d 0 || Nat.blt 8 (pm_cat st) then none else pm_gi nx ls (if y < x then y else x) st w) = _
  rw [hcat, show Nat.beq d 0 = false by cases d with | zero => omega | succ n => rfl]
  exact pm_gi_eq) k
set_option maxRecDepth 100000 in
theorem v_copyl {n dp sp : Int32} {q0 p0 : Nat} {xs ys : List Int64} (hc : pm_code mi pc = some (.invokestatic i, nx, 999, b, ci, mL)) (hd : 1 ≤ d) (hn : ¬ n < 0) (hdp : ¬ dp < 0) (hsp : ¬ sp < 0) (hne : Nat.beq p0 q0 = false) (hcat : Nat.blt 8 (pm_cat st) = false) (hp : w[p0]? = some (.inl (2, .inr (.inl xs)))) (hq : w[q0]? = some (.inl (2, .inr (.inl ys)))) (h1 : sp.toNatClampNeg + n.toNatClampNeg ≤ xs.length) (h2 : dp.toNatClampNeg + n.toNatClampNeg ≤ ys.length)
    (k : pm_V sc d mi nx ls st (w.set q0 (.inl (2, .inr (.inl (pm_cpy xs ys sp.toNatClampNeg dp.toNatClampNeg n.toNatClampNeg))))) Q) : pm_V sc d mi pc ls (.int n :: .int dp :: .ref q0 :: .int sp :: .ref p0 :: st) w Q := v_go hc (by
  show (bif Nat.beq d 0 then none else pm_copy nx ls (.int n :: .int dp :: .ref q0 :: .int sp :: .ref p0 :: st) w) = _
  rw [show Nat.beq d 0 = false by cases d with | zero => omega | succ n => rfl, cond_false]
  unfold pm_copy
  dsimp only
  rw [decide_eq_false hn, decide_eq_false hdp, decide_eq_false hsp, hne, show Nat.blt 8 ((st.map fun v => v.category).sum) = false from hcat]
  rw [show (false || false || false || false || false) = false from rfl, cond_false, hp, hq]
  dsimp only
  rw [Nat.ble_eq_true_of_le h1, Nat.ble_eq_true_of_le h2]
  rfl) k
set_option maxRecDepth 100000 in
theorem v_copyi {n dp sp : Int32} {q0 p0 : Nat} {xs ys : List Int32} (hc : pm_code mi pc = some (.invokestatic i, nx, 999, b, ci, mL)) (hd : 1 ≤ d) (hn : ¬ n < 0) (hdp : ¬ dp < 0) (hsp : ¬ sp < 0) (hne : Nat.beq p0 q0 = false) (hcat : Nat.blt 8 (pm_cat st) = false) (hp : w[p0]? = some (.inl (0, .inl xs))) (hq : w[q0]? = some (.inl (0, .inl ys))) (h1 : sp.toNatClampNeg + n.toNatClampNeg ≤ xs.length) (h2 : dp.toNatClampNeg + n.toNatClampNeg ≤ ys.length)
    (k : pm_V sc d mi nx ls st (w.set q0 (.inl (0, .inl (pm_cpy xs ys sp.toNatClampNeg dp.toNatClampNeg n.toNatClampNeg)))) Q) : pm_V sc d mi pc ls (.int n :: .int dp :: .ref q0 :: .int sp :: .ref p0 :: st) w Q := v_go hc (by
  show (bif Nat.beq d 0 then none else pm_copy nx ls (.int n :: .int dp :: .ref q0 :: .int sp :: .ref p0 :: st) w) = _
  rw [show Nat.beq d 0 = false by cases d with | zero => omega | succ n => rfl, cond_false]
  unfold pm_copy
  dsimp only
  rw [decide_eq_false hn, decide_eq_false hdp, decide_eq_false hsp, hne, show Nat.blt 8 ((st.map fun v => v.category).sum) = false from hcat]
  rw [show (false || false || false || false || false) = false from rfl, cond_false, hp, hq]
  dsimp only
  rw [Nat.ble_eq_true_of_le h1, Nat.ble_eq_true_of_le h2]
  rfl) k
end PmCalls
