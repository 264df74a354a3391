theorem pm_gD {α : Type} {xs : List α} {k : Nat} {d : α} (h : k < xs.length) : xs[k]? = some (xs.getD k d) := by simp [List.getD, h]
/-- refusals are not shared: a refused call changes nothing that is -/
noncomputable def pm_rf (ga : Nat → List Int32) (_ : Int32) : Nat → List Int32 := ga
def pm_isR (r : Int32) : Prop := r = -1 ∨ r = -2 ∨ r = -3 ∨ r = -4 ∨ r = -5 ∨ r = -6
theorem pm_isR_q {r : Int32} (h : pm_isR r) : ¬ -r < 0 ∧ (-r).toNatClampNeg < 7 ∧ (0 ≤ (-r).toInt ∧ (-r).toInt < (Int32.ofNat 7).toInt) := by
  rcases h with rfl | rfl | rfl | rfl | rfl | rfl <;> decide
set_option maxRecDepth 100000 in
theorem c_X_refuse {sc : pm_S} {w : pm_W} {gi : Nat → Int32} {ga : Nat → List Int32} (r : Int32) (hr : pm_isR r) (hR : pm_Rg gi ga) (hI : pm_IX gi ga w) : pm_Mt sc 1 108 2 [.ref 0, .int r] w (fun rv w' => rv = some (.int r) ∧ pm_IX gi (pm_rf ga r) w' ∧ pm_hi w w') := by
  intro d hd
  show pm_V sc d 108 0 _ [] w _
  obtain ⟨q1, q2, q3⟩ := pm_isR_q hr
  obtain ⟨v6, c6, h0⟩ := hI.2 0 (by decide)
  obtain ⟨xs58, l58, h58⟩ := hI.2 58 (by decide)
  refine v_iload_n rfl rfl ?_
  refine v_ineg rfl ?_
  refine v_aload_n rfl rfl ?_
  refine v_get rfl h0 rfl ?_
  refine v_leni rfl h58 (by decide) ?_
  rw [l58]
  refine v_callS rfl (c_isPlace (-r) (Int32.ofNat 7) w) rfl rfl rfl rfl rfl (by omega) (fun rv w1 hq => ?_)
  obtain ⟨rfl, rfl⟩ := hq
  rw [show pm_b (0 ≤ (-r).toInt ∧ (-r).toInt < (Int32.ofNat 7).toInt) = some (.int 1) from (pm_b1 q3).symm]
  refine v_if_eq rfl (fun h => absurd h (by decide)) (fun _ => ?_)
  refine v_aload_n rfl rfl ?_
  refine v_get rfl h0 rfl ?_
  refine v_iload_n rfl rfl ?_
  refine v_ineg rfl ?_
  refine v_dup2 rfl rfl ?_
  refine v_iaload rfl h58 q1 (pm_gD (d := 0) (by rw [l58]; exact q2)) ?_
  refine v_iconst (v := 1) rfl (by decide) ?_
  refine v_iadd rfl ?_
  refine v_iastore rfl h58 q1 (by rw [l58]; exact q2) ?_
  refine v_iload_n rfl rfl ?_
  exact v_iret rfl ⟨rfl, hI.set 58 (by decide) ⟨_, by rw [List.length_set]; exact l58, rfl⟩, pm_hi.rf.set (by decide) _⟩
set_option maxRecDepth 100000 in
theorem c_M_refuse {sc : pm_S} {w : pm_W} {gi : Nat → Int32} {ga : Nat → List Int32} (r : Int32) (hr : pm_isR r) (hR : pm_Rg gi ga) (hI : pm_IM gi ga w) : pm_Mt sc 0 118 2 [.ref 59, .int r] w (fun rv w' => rv = some (.int r) ∧ pm_IM gi (pm_rf ga r) w' ∧ pm_lo w w') := by
  intro d hd
  show pm_V sc d 118 0 _ [] w _
  obtain ⟨q1, q2, q3⟩ := pm_isR_q hr
  obtain ⟨v4, v5, v6, v14, v35, v39, v40, v42, c4, c5, c6, c35, c42, h59⟩ := hI.2.1 59 (by decide) (by decide)
  obtain ⟨xs79, l79, h79⟩ := hI.2.1 79 (by decide) (by decide)
  refine v_aload_n rfl rfl ?_
  refine v_get rfl h59 rfl ?_
  refine v_iload_n rfl rfl ?_
  refine v_ineg rfl ?_
  refine v_dup2 rfl rfl ?_
  refine v_iaload rfl h79 q1 (pm_gD (d := 0) (by rw [l79]; exact q2)) ?_
  refine v_iconst (v := 1) rfl (by decide) ?_
  refine v_iadd rfl ?_
  refine v_iastore rfl h79 q1 (by rw [l79]; exact q2) ?_
  refine v_iload_n rfl rfl ?_
  exact v_iret rfl ⟨rfl, hI.set 79 (by decide) (by decide) (by decide) (by decide) ⟨_, by rw [List.length_set]; exact l79, rfl⟩, pm_lo.rf.set (by decide) _⟩

