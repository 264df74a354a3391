/-! CARDS. -/
theorem pm_IX.sheet {gi : Nat → Int32} {ga : Nat → List Int32} {w : pm_W} (h : pm_IX gi ga w) {j : Nat} (hj : j < 4) : w[47 + 3 * j]? = some (.inr (10, [.int ((ga 13).getD j 0), .int ((ga 14).getD j 0), .ref (48 + 3 * j)])) := by
  match j, hj with
  | 0, _ => exact h.2 47 (by decide)
  | 1, _ => exact h.2 50 (by decide)
  | 2, _ => exact h.2 53 (by decide)
  | 3, _ => exact h.2 56 (by decide)
theorem pm_IX.usheet {gi : Nat → Int32} {ga : Nat → List Int32} {w : pm_W} (hI : pm_IX gi ga w) (hR : pm_Rg gi ga) {j : Nat} (hj : j < 4) (h e : Int32) : pm_IX gi (pm_uA (pm_uA ga 13 ((ga 13).set j h)) 14 ((ga 14).set j e)) (w.set (47 + 3 * j) (.inr (10, [.int h, .int e, .ref (48 + 3 * j)]))) := by
  have l7 := hR.l13
  have l8 := hR.l14
  refine ⟨by rw [List.length_set]; exact hI.1, fun k hk => ?_⟩
  have key : ∀ i, i < 4 → pm_cell gi (pm_uA (pm_uA ga 13 ((ga 13).set j h)) 14 ((ga 14).set j e)) (47 + 3 * i) (w.set (47 + 3 * j) (.inr (10, [.int h, .int e, .ref (48 + 3 * j)])))[47 + 3 * i]? := fun i hi => by
    have c : (w.set (47 + 3 * j) (.inr (10, [.int h, .int e, .ref (48 + 3 * j)])) : pm_W)[47 + 3 * i]? = some (.inr (10, [.int (((ga 13).set j h).getD i 0), .int (((ga 14).set j e).getD i 0), .ref (48 + 3 * i)])) := by
      rw [pm_getD_set (by omega), pm_getD_set (by omega)]
      by_cases e1 : j = i
      · subst e1
        rw [List.getElem?_set_self (by rw [hI.1]; omega), if_pos rfl, if_pos rfl]
      · rw [List.getElem?_set_ne (by omega), if_neg e1, if_neg e1]
        exact hI.sheet hi
    match i, hi, c with
    | 0, _, c => exact c
    | 1, _, c => exact c
    | 2, _, c => exact c
    | 3, _, c => exact c
  by_cases h47 : k = 47
  · subst h47; exact key 0 (by omega)
  by_cases h50 : k = 50
  · subst h50; exact key 1 (by omega)
  by_cases h53 : k = 53
  · subst h53; exact key 2 (by omega)
  by_cases h56 : k = 56
  · subst h56; exact key 3 (by omega)
  rw [List.getElem?_set_ne (by omega)]
  have hd : ∀ k, k < 59 → (k = 47 ∨ k = 50 ∨ k = 53 ∨ k = 56 ∨ (¬ 13 ∈ pm_dA k ∧ ¬ 14 ∈ pm_dA k)) := by decide
  have h1 : ¬ 13 ∈ pm_dA k ∧ ¬ 14 ∈ pm_dA k := by
    rcases hd k hk with h | h | h | h | h
    · exact absurd h h47
    · exact absurd h h50
    · exact absurd h h53
    · exact absurd h h56
    · exact h
  refine pm_cell_eq (fun _ _ => rfl) (fun i hi => ?_) (hI.2 k hk)
  have n8 : i ≠ 14 := fun e2 => h1.2 (e2 ▸ hi)
  have n7 : i ≠ 13 := fun e2 => h1.1 (e2 ▸ hi)
  rw [pm_uA_ne n8, pm_uA_ne n7]
set_option maxRecDepth 100000 in
theorem c_become {sc : pm_S} {w : pm_W} {p r q s : Nat} {a b c d0 : Int32} {xs ys : List Int64} (hp : w[p]? = some (.inr (10, [.int a, .int b, .ref r]))) (hr : w[r]? = some (.inl (2, .inr (.inl xs)))) (hq : w[q]? = some (.inr (10, [.int c, .int d0, .ref s]))) (hs : w[s]? = some (.inl (2, .inr (.inl ys)))) (lx : xs.length = 20) (ly : ys.length = 20) (npq : p ≠ q) (npr : p ≠ r) (nps : p ≠ s) (nsr : s ≠ r) : pm_Mt sc 1 66 2 [.ref p, .ref q] w (fun rv w' => rv = none ∧ w' = (w.set p (.inr (10, [.int c, .int d0, .ref r]))).set r (.inl (2, .inr (.inl (pm_cpy ys xs 0 0 20))))) := by
  intro d hd
  show pm_V sc d 66 0 _ [] w _
  refine v_aload_n rfl rfl ?_
  refine v_aload_n rfl rfl ?_
  refine v_get rfl hq rfl ?_
  refine v_put rfl hp rfl (Nat.le_of_ble_eq_true rfl) ?_
  have hp1 : (w.set p (.inr (10, [.int c, .int b, .ref r])) : pm_W)[p]? = some (.inr (10, [.int c, .int b, .ref r])) := List.getElem?_set_self (List.getElem?_eq_some_iff.mp hp).1
  have hq1 : (w.set p (.inr (10, [.int c, .int b, .ref r])) : pm_W)[q]? = _ := (List.getElem?_set_ne npq).trans hq
  show pm_V _ _ _ _ _ _ (w.set p (.inr (10, [.int c, .int b, .ref r])) : pm_W) _
  refine v_aload_n rfl rfl ?_
  refine v_aload_n rfl rfl ?_
  refine v_get rfl hq1 rfl ?_
  refine v_put rfl hp1 rfl (Nat.le_of_ble_eq_true rfl) ?_
  rw [List.set_set]
  have hp2 : (w.set p (.inr (10, [.int c, .int d0, .ref r])) : pm_W)[p]? = some (.inr (10, [.int c, .int d0, .ref r])) := List.getElem?_set_self (List.getElem?_eq_some_iff.mp hp).1
  have hq2 : (w.set p (.inr (10, [.int c, .int d0, .ref r])) : pm_W)[q]? = _ := (List.getElem?_set_ne npq).trans hq
  have hr2 : (w.set p (.inr (10, [.int c, .int d0, .ref r])) : pm_W)[r]? = _ := (List.getElem?_set_ne npr).trans hr
  have hs2 : (w.set p (.inr (10, [.int c, .int d0, .ref r])) : pm_W)[s]? = _ := (List.getElem?_set_ne nps).trans hs
  show pm_V _ _ _ _ _ _ (w.set p (.inr (10, [.int c, .int d0, .ref r])) : pm_W) _
  refine v_aload_n rfl rfl ?_
  refine v_get rfl hq2 rfl ?_
  refine v_iconst (v := 0) rfl (by decide) ?_
  refine v_aload_n rfl rfl ?_
  refine v_get rfl hp2 rfl ?_
  refine v_iconst (v := 0) rfl (by decide) ?_
  refine v_bipush (v := 20) rfl (by decide) ?_
  refine v_copyl rfl hd (by decide) (by decide) (by decide) (by cases hx : Nat.beq s r with | false => rfl | true => exact absurd (Nat.eq_of_beq_eq_true hx) nsr) rfl hs2 hr2 (by rw [ly]; decide) (by rw [lx]; decide) ?_
  exact v_ret rfl ⟨rfl, rfl⟩
