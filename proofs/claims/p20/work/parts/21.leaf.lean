theorem i_lt {x y : Int32} : x < y ↔ x.toInt < y.toInt := Int32.lt_iff_toInt_lt
theorem i_le {x y : Int32} : x ≤ y ↔ x.toInt ≤ y.toInt := Int32.le_iff_toInt_le
theorem i_0 : (0 : Int32).toInt = 0 := rfl
theorem i_eq {x y : Int32} : x = y ↔ x.toInt = y.toInt := ⟨fun h => by rw [h], Int32.toInt_inj.mp⟩
/-- a boolean answer -/
noncomputable def pm_b (p : Prop) [Decidable p] : Option Value := some (.int (if p then 1 else 0))
theorem pm_b1 {p : Prop} [Decidable p] (h : p) : some (Value.int 1) = pm_b p := by unfold pm_b; rw [if_pos h]
theorem pm_b0 {p : Prop} [Decidable p] (h : ¬ p) : some (Value.int 0) = pm_b p := by unfold pm_b; rw [if_neg h]
set_option maxRecDepth 100000 in
theorem c_isPlace {sc : pm_S} (i n : Int32) (w : pm_W) : pm_Mt sc 0 113 2 [.int i, .int n] w (fun rv w' => w = w' ∧ rv = pm_b (0 ≤ i.toInt ∧ i.toInt < n.toInt)) := by
  intro d hd
  show pm_V sc d 113 0 _ [] w _
  refine v_iload_n rfl rfl ?_
  refine v_if_lt rfl (fun t1 => ?_) (fun t1 => ?_)
  · refine v_iconst (v := 0) rfl (by decide) ?_
    exact v_zret rfl (by decide) ⟨rfl, by first | exact pm_b1 (by simp only [i_lt, i_le, i_0] at *; omega) | exact pm_b0 (by simp only [i_lt, i_le, i_0] at *; omega)⟩
  · refine v_iload_n rfl rfl ?_
    refine v_iload_n rfl rfl ?_
    refine v_icmp_ge rfl (fun t6 => ?_) (fun t6 => ?_)
    · refine v_iconst (v := 0) rfl (by decide) ?_
      exact v_zret rfl (by decide) ⟨rfl, by first | exact pm_b1 (by simp only [i_lt, i_le, i_0] at *; omega) | exact pm_b0 (by simp only [i_lt, i_le, i_0] at *; omega)⟩
    · refine v_iconst (v := 1) rfl (by decide) ?_
      refine v_goto rfl ?_
      exact v_zret rfl (by decide) ⟨rfl, by first | exact pm_b1 (by simp only [i_lt, i_le, i_0] at *; omega) | exact pm_b0 (by simp only [i_lt, i_le, i_0] at *; omega)⟩
set_option maxRecDepth 100000 in
theorem c_in {sc : pm_S} (v lo hi : Int32) (w : pm_W) : pm_Mt sc 0 117 3 [.int v, .int lo, .int hi] w (fun rv w' => w = w' ∧ rv = pm_b (lo.toInt ≤ v.toInt ∧ v.toInt ≤ hi.toInt)) := by
  intro d hd
  show pm_V sc d 117 0 _ [] w _
  refine v_iload_n rfl rfl ?_
  refine v_iload_n rfl rfl ?_
  refine v_icmp_lt rfl (fun t2 => ?_) (fun t2 => ?_)
  · refine v_iconst (v := 0) rfl (by decide) ?_
    exact v_zret rfl (by decide) ⟨rfl, by first | exact pm_b1 (by simp only [i_lt, i_le, i_0] at *; omega) | exact pm_b0 (by simp only [i_lt, i_le, i_0] at *; omega)⟩
  · refine v_iload_n rfl rfl ?_
    refine v_iload_n rfl rfl ?_
    refine v_icmp_gt rfl (fun t7 => ?_) (fun t7 => ?_)
    · refine v_iconst (v := 0) rfl (by decide) ?_
      exact v_zret rfl (by decide) ⟨rfl, by first | exact pm_b1 (by simp only [i_lt, i_le, i_0] at *; omega) | exact pm_b0 (by simp only [i_lt, i_le, i_0] at *; omega)⟩
    · refine v_iconst (v := 1) rfl (by decide) ?_
      refine v_goto rfl ?_
      exact v_zret rfl (by decide) ⟨rfl, by first | exact pm_b1 (by simp only [i_lt, i_le, i_0] at *; omega) | exact pm_b0 (by simp only [i_lt, i_le, i_0] at *; omega)⟩

