set_option maxRecDepth 100000 in
theorem W_X12_colour_59_x {sc : pm_S} {w : pm_W} {gi : Nat → Int32} {ga : Nat → List Int32} (x : Int32) (y : Int32) (c60 : List Int32) (p0 : y.toInt ≤ 19) (p1 : 0 ≤ y.toInt) (p2 : x.toInt ≤ 19) (p3 : 0 ≤ x.toInt) (hc60 : w[60]? = some (.inl (0, .inl c60))) (hl60 : c60.length = 400) (hR : pm_Rg gi ga) (hI : pm_IM gi ga w) : pm_Mt sc 0 119 3 [.ref 59, .int x, .int y] w (fun rv w' => pm_wI (fun v => v.toInt = (c60.getD (20 * y.toInt + x.toInt).toNat 0).toInt) rv ∧ w = w') := by
  intro d hd
  obtain ⟨g0a, g0b⟩ := hR.n0
  obtain ⟨g1a, g1b⟩ := hR.n1
  obtain ⟨g2a, g2b⟩ := hR.n2
  obtain ⟨g3a, g3b⟩ := hR.n3
  obtain ⟨g4a, g4b⟩ := hR.n4
  obtain ⟨g5a, g5b⟩ := hR.n5
  obtain ⟨g6a, g6b⟩ := hR.n6
  obtain ⟨g7a, g7b⟩ := hR.n7
  obtain ⟨g8a, g8b⟩ := hR.n8
  have k20 : (20 : Int32).toInt = 20 := by decide
  show pm_V sc d 119 0 [.ref 59, .int x, .int y] [] w _
  refine v_aload_n rfl rfl ?_
  obtain ⟨v2, v3, v4, v5, v6, v7, v8, v9, ⟨v2z, v2e⟩, ⟨⟨v3a, v3b⟩, v3e⟩, ⟨⟨v4a, v4b⟩, v4e⟩, ⟨v6a, v6b⟩, ⟨v9a, v9b⟩, h1⟩ := hI.2.1 59 (by decide) (by decide)
  have v2z := v2z.imp i_eq.mp i_eq.mp
  rw [i_0, i_1] at v2z
  refine v_get rfl h1 rfl ?_
  refine v_bipush (v := 20) rfl (by decide) ?_
  refine v_iload_n rfl rfl ?_
  refine r_imulL 20 rfl rfl (by omega) (by omega) (fun z10 z10e => ?_)
  refine v_iload_n rfl rfl ?_
  refine r_iadd rfl (by omega) (by omega) (fun z11 z11e => ?_)
  refine r_iaload rfl hc60 hl60 (by omega) (by omega) (fun z12 z12m z12g => ?_)
  have zt10 := congrArg Int32.toInt z12g
  rw [show z11.toInt = 20 * y.toInt + x.toInt by omega] at zt10
  exact v_iret rfl ⟨⟨_, rfl, (by omega)⟩, rfl⟩
