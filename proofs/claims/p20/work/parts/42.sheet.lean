noncomputable def pm_col (rs : List Int64) (x y : Int32) : Int32 := (((rs.getD y.toNatClampNeg 0).toUInt64 >>> ((2 * x).toInt64.toUInt64 &&& Int64.toUInt64 63)).toInt64 &&& 3).toInt32
set_option maxRecDepth 100000 in
theorem c_colourAt {sc : pm_S} {w : pm_W} {p r : Nat} {a b : Int32} {rs : List Int64} (hp : w[p]? = some (.inr (10, [.int a, .int b, .ref r]))) (hr : w[r]? = some (.inl (2, .inr (.inl rs)))) (lr : rs.length = 20) (x y : Int32) (y0 : 0 ≤ y.toInt) (y1 : y.toInt < 20) : pm_Mt sc 0 63 3 [.ref p, .int x, .int y] w (fun rv w' => w = w' ∧ rv = some (.int (pm_col rs x y))) := by
  intro d hd
  show pm_V sc d 63 0 _ [] w _
  refine v_aload_n rfl rfl ?_
  refine v_get rfl hp rfl ?_
  refine v_iload_n rfl rfl ?_
  refine v_laload rfl hr (by rw [i_lt, i_0]; omega) (pm_gD (d := 0) (by rw [i_cl, lr]; omega)) ?_
  refine v_iconst (v := 2) rfl (by decide) ?_
  refine v_iload_n rfl rfl ?_
  refine v_imul rfl ?_
  refine v_lushr rfl ?_
  refine v_ldc2_w (v := 3) rfl (by decide) ?_
  refine v_land rfl ?_
  refine v_l2i rfl ?_
  exact v_iret rfl ⟨rfl, rfl⟩
set_option maxRecDepth 100000 in
theorem c_isAsLargeAs {sc : pm_S} {w : pm_W} {p r q s : Nat} {a b c e : Int32} (hp : w[p]? = some (.inr (10, [.int a, .int b, .ref r]))) (hq : w[q]? = some (.inr (10, [.int c, .int e, .ref s]))) : pm_Mt sc 0 67 2 [.ref p, .ref q] w (fun rv w' => w = w' ∧ rv = pm_b (a = c ∧ b = e)) := by
  intro d hd
  show pm_V sc d 67 0 _ [] w _
  refine v_aload_n rfl rfl ?_
  refine v_get rfl hp rfl ?_
  refine v_aload_n rfl rfl ?_
  refine v_get rfl hq rfl ?_
  refine v_icmp_ne rfl (fun t8 => ?_) (fun t8 => ?_)
  · refine v_iconst (v := 0) rfl (by decide) ?_
    exact v_zret rfl (by decide) ⟨rfl, by first | exact pm_b1 ⟨t8, t19⟩ | exact pm_b1 ⟨Decidable.not_not.mp t8, Decidable.not_not.mp t19⟩ | exact pm_b0 (fun h => t19 h.2) | exact pm_b0 (fun h => t8 h.1)⟩
  · refine v_aload_n rfl rfl ?_
    refine v_get rfl hp rfl ?_
    refine v_aload_n rfl rfl ?_
    refine v_get rfl hq rfl ?_
    refine v_icmp_ne rfl (fun t19 => ?_) (fun t19 => ?_)
    · refine v_iconst (v := 0) rfl (by decide) ?_
      exact v_zret rfl (by decide) ⟨rfl, by first | exact pm_b1 ⟨t8, t19⟩ | exact pm_b1 ⟨Decidable.not_not.mp t8, Decidable.not_not.mp t19⟩ | exact pm_b0 (fun h => t19 h.2) | exact pm_b0 (fun h => t8 h.1)⟩
    · refine v_iconst (v := 1) rfl (by decide) ?_
      refine v_goto rfl ?_
      exact v_zret rfl (by decide) ⟨rfl, by first | exact pm_b1 ⟨t8, t19⟩ | exact pm_b1 ⟨Decidable.not_not.mp t8, Decidable.not_not.mp t19⟩ | exact pm_b0 (fun h => t19 h.2) | exact pm_b0 (fun h => t8 h.1)⟩

