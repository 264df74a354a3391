/-! WEAK CONTRACTS, the class: leaves, the sheet, square, fill, at. -/
set_option maxRecDepth 100000 in
theorem W_X11_isPlace {sc : pm_S} {w : pm_W} {gi : Nat → Int32} {ga : Nat → List Int32} (i : Int32) (n : Int32)  (hR : pm_Rg gi ga) (hI : pm_IX gi ga w) : pm_Mt sc 0 113 2 [.int i, .int n] w (fun rv w' => pm_wI (fun v => ((v.toInt = 1 ∧ 0 ≤ i.toInt ∧ i.toInt < n.toInt) ∨ (v.toInt = 0 ∧ (i.toInt < 0 ∨ n.toInt ≤ i.toInt)))) rv ∧ w = w') := by
  intro d hd
  obtain ⟨g0a, g0b⟩ := hR.n0
  obtain ⟨g1a, g1b⟩ := hR.n1
  obtain ⟨g2a, g2b⟩ := hR.n2
  obtain ⟨g3a, g3b⟩ := hR.n3
  obtain ⟨g4a, g4b⟩ := hR.n4
  obtain ⟨g5a, g5b⟩ := hR.n5
  obtain ⟨g6a, g6b⟩ := hR.n6
  obtain ⟨g7a, g7b⟩ := hR.n7
  obtain ⟨g8a, g8b⟩ := hR.n8
  have k0 : (0 : Int32).toInt = 0 := by decide
  have k1 : (1 : Int32).toInt = 1 := by decide
  show pm_V sc d 113 0 [.int i, .int n] [] w _
  refine v_iload_n rfl rfl ?_
  refine r_if_lt rfl (fun t1 => ?_) (fun t1 => ?_)
  · refine v_iconst (v := 0) rfl (by decide) ?_
    exact r_zret rfl (by omega) ⟨⟨_, rfl, (by omega)⟩, rfl⟩
  · refine v_iload_n rfl rfl ?_
    refine v_iload_n rfl rfl ?_
    refine r_icmp_ge rfl (fun t2 => ?_) (fun t2 => ?_)
    · refine v_iconst (v := 0) rfl (by decide) ?_
      exact r_zret rfl (by omega) ⟨⟨_, rfl, (by omega)⟩, rfl⟩
    · refine v_iconst (v := 1) rfl (by decide) ?_
      refine v_goto rfl ?_
      exact r_zret rfl (by omega) ⟨⟨_, rfl, (by omega)⟩, rfl⟩
set_option maxRecDepth 100000 in
theorem W_X11_isColour {sc : pm_S} {w : pm_W} {gi : Nat → Int32} {ga : Nat → List Int32} (i : Int32)  (hR : pm_Rg gi ga) (hI : pm_IX gi ga w) : pm_Mt sc 1 114 1 [.int i] w (fun rv w' => pm_wI (fun v => ((v.toInt = 1 ∧ 0 ≤ i.toInt ∧ i.toInt < 4) ∨ (v.toInt = 0 ∧ (i.toInt < 0 ∨ 4 ≤ i.toInt)))) rv ∧ w = w') := by
  intro d hd
  obtain ⟨g0a, g0b⟩ := hR.n0
  obtain ⟨g1a, g1b⟩ := hR.n1
  obtain ⟨g2a, g2b⟩ := hR.n2
  obtain ⟨g3a, g3b⟩ := hR.n3
  obtain ⟨g4a, g4b⟩ := hR.n4
  obtain ⟨g5a, g5b⟩ := hR.n5
  obtain ⟨g6a, g6b⟩ := hR.n6
  obtain ⟨g7a, g7b⟩ := hR.n7
  obtain ⟨g8a, g8b⟩ := hR.n8
  have k4 : (4 : Int32).toInt = 4 := by decide
  show pm_V sc d 114 0 [.int i] [] w _
  refine v_iload_n rfl rfl ?_
  refine v_iconst (v := 4) rfl (by decide) ?_
  refine v_callS rfl (W_X11_isPlace i (4 : Int32) hR hI) rfl rfl rfl rfl rfl (by omega) (fun rv w1 hq2 => ?_)
  obtain ⟨⟨z3, rfl, z3p0⟩, rfl⟩ := hq2
  exact r_zret rfl (by omega) ⟨⟨_, rfl, (by omega)⟩, rfl⟩
set_option maxRecDepth 100000 in
theorem W_X11_around {sc : pm_S} {w : pm_W} {gi : Nat → Int32} {ga : Nat → List Int32} (i : Int32) (n : Int32) (p0 : n.toInt ≤ 20) (p1 : 0 ≤ n.toInt) (p2 : i.toInt ≤ 40) (p3 : (-40) ≤ i.toInt) (p4 : -n.toInt ≤ i.toInt) (p5 : i.toInt < 2 * n.toInt) (hR : pm_Rg gi ga) (hI : pm_IX gi ga w) : pm_Mt sc 0 115 2 [.int i, .int n] w (fun rv w' => pm_wI (fun v => 0 ≤ v.toInt ∧ v.toInt < n.toInt) rv ∧ w = w') := by
  intro d hd
  obtain ⟨g0a, g0b⟩ := hR.n0
  obtain ⟨g1a, g1b⟩ := hR.n1
  obtain ⟨g2a, g2b⟩ := hR.n2
  obtain ⟨g3a, g3b⟩ := hR.n3
  obtain ⟨g4a, g4b⟩ := hR.n4
  obtain ⟨g5a, g5b⟩ := hR.n5
  obtain ⟨g6a, g6b⟩ := hR.n6
  obtain ⟨g7a, g7b⟩ := hR.n7
  obtain ⟨g8a, g8b⟩ := hR.n8
  show pm_V sc d 115 0 [.int i, .int n] [] w _
  refine v_iload_n rfl rfl ?_
  refine r_if_ge rfl (fun t1 => ?_) (fun t1 => ?_)
  · refine v_iload_n rfl rfl ?_
    refine v_iload_n rfl rfl ?_
    refine r_icmp_ge rfl (fun t2 => ?_) (fun t2 => ?_)
    · refine v_iload_n rfl rfl ?_
      refine v_iload_n rfl rfl ?_
      refine r_isub rfl (by omega) (by omega) (fun z3 z3e => ?_)
      exact v_iret rfl ⟨⟨_, rfl, (by omega), (by omega)⟩, rfl⟩
    · refine v_iload_n rfl rfl ?_
      refine v_goto rfl ?_
      exact v_iret rfl ⟨⟨_, rfl, (by omega), (by omega)⟩, rfl⟩
  · refine v_iload_n rfl rfl ?_
    refine v_iload_n rfl rfl ?_
    refine r_iadd rfl (by omega) (by omega) (fun z4 z4e => ?_)
    exact v_iret rfl ⟨⟨_, rfl, (by omega), (by omega)⟩, rfl⟩
set_option maxRecDepth 100000 in
theorem W_X10_has_1 {sc : pm_S} {w : pm_W} {gi : Nat → Int32} {ga : Nat → List Int32} (x : Int32) (y : Int32)  (hR : pm_Rg gi ga) (hI : pm_IX gi ga w) : pm_Mt sc 1 62 3 [.ref 1, .int x, .int y] w (fun rv w' => pm_wI (fun v => ((v.toInt = 1 ∧ 0 ≤ x.toInt ∧ x.toInt < (gi 0).toInt ∧ 0 ≤ y.toInt ∧ y.toInt < (gi 1).toInt) ∨ (v.toInt = 0 ∧ (x.toInt < 0 ∨ y.toInt < 0 ∨ (gi 0).toInt ≤ x.toInt ∨ (gi 1).toInt ≤ y.toInt)))) rv ∧ w = w') := by
  intro d hd
  obtain ⟨g0a, g0b⟩ := hR.n0
  obtain ⟨g1a, g1b⟩ := hR.n1
  obtain ⟨g2a, g2b⟩ := hR.n2
  obtain ⟨g3a, g3b⟩ := hR.n3
  obtain ⟨g4a, g4b⟩ := hR.n4
  obtain ⟨g5a, g5b⟩ := hR.n5
  obtain ⟨g6a, g6b⟩ := hR.n6
  obtain ⟨g7a, g7b⟩ := hR.n7
  obtain ⟨g8a, g8b⟩ := hR.n8
  have k0 : (0 : Int32).toInt = 0 := by decide
  have k1 : (1 : Int32).toInt = 1 := by decide
  show pm_V sc d 62 0 [.ref 1, .int x, .int y] [] w _
  refine v_iload_n rfl rfl ?_
  refine v_aload_n rfl rfl ?_
  have h1 : _ = some _ := hI.2 1 (by decide)
  refine v_get rfl h1 rfl ?_
  refine v_callS rfl (W_X11_isPlace x (gi 0) hR hI) rfl rfl rfl rfl rfl (by omega) (fun rv w2 hq3 => ?_)
  obtain ⟨⟨z4, rfl, z4p0⟩, rfl⟩ := hq3
  refine r_if_eq rfl (fun t5 => ?_) (fun t5 => ?_)
  · refine v_iconst (v := 0) rfl (by decide) ?_
    exact r_zret rfl (by omega) ⟨⟨_, rfl, (by omega)⟩, rfl⟩
  · refine v_iload_n rfl rfl ?_
    refine v_aload_n rfl rfl ?_
    refine v_get rfl h1 rfl ?_
    refine v_callS rfl (W_X11_isPlace y (gi 1) hR hI) rfl rfl rfl rfl rfl (by omega) (fun rv w6 hq7 => ?_)
    obtain ⟨⟨z8, rfl, z8p0⟩, rfl⟩ := hq7
    refine r_if_eq rfl (fun t9 => ?_) (fun t9 => ?_)
    · refine v_iconst (v := 0) rfl (by decide) ?_
      exact r_zret rfl (by omega) ⟨⟨_, rfl, (by omega)⟩, rfl⟩
    · refine v_iconst (v := 1) rfl (by decide) ?_
      refine v_goto rfl ?_
      exact r_zret rfl (by omega) ⟨⟨_, rfl, (by omega)⟩, rfl⟩
set_option maxRecDepth 100000 in
theorem W_X10_colourAt_1 {sc : pm_S} {w : pm_W} {gi : Nat → Int32} {ga : Nat → List Int32} (x : Int32) (y : Int32) (p0 : y.toInt ≤ 19) (p1 : 0 ≤ y.toInt) (hR : pm_Rg gi ga) (hI : pm_IX gi ga w) : pm_Mt sc 0 63 3 [.ref 1, .int x, .int y] w (fun rv w' => pm_wI (fun v => True) rv ∧ w = w') := by
  intro d hd
  obtain ⟨g0a, g0b⟩ := hR.n0
  obtain ⟨g1a, g1b⟩ := hR.n1
  obtain ⟨g2a, g2b⟩ := hR.n2
  obtain ⟨g3a, g3b⟩ := hR.n3
  obtain ⟨g4a, g4b⟩ := hR.n4
  obtain ⟨g5a, g5b⟩ := hR.n5
  obtain ⟨g6a, g6b⟩ := hR.n6
  obtain ⟨g7a, g7b⟩ := hR.n7
  obtain ⟨g8a, g8b⟩ := hR.n8
  have k2 : (2 : Int32).toInt = 2 := by decide
  show pm_V sc d 63 0 [.ref 1, .int x, .int y] [] w _
  refine v_aload_n rfl rfl ?_
  have h1 : _ = some _ := hI.2 1 (by decide)
  refine v_get rfl h1 rfl ?_
  refine v_iload_n rfl rfl ?_
  obtain ⟨xs3, xs3l, h2⟩ := hI.2 2 (by decide)
  refine r_laload rfl h2 xs3l (by omega) (by omega) (fun z4 => ?_)
  refine v_iconst (v := 2) rfl (by decide) ?_
  refine v_iload_n rfl rfl ?_
  refine u_imul rfl (fun z5 => ?_)
  refine u_lushr rfl (fun z6 => ?_)
  refine v_ldc2_w (v := 3) rfl (by decide) ?_
  refine u_land rfl (fun z7 => ?_)
  refine u_l2i rfl (fun z8 => ?_)
  exact v_iret rfl ⟨⟨_, rfl, trivial⟩, rfl⟩
set_option maxRecDepth 100000 in
theorem W_X10_paint_1 {sc : pm_S} {w w0 : pm_W} {gi : Nat → Int32} {ga : Nat → List Int32} (x : Int32) (y : Int32) (c : Int32) (p0 : y.toInt ≤ 19) (p1 : 0 ≤ y.toInt) (hR : pm_Rg gi ga) (hI : pm_IX gi ga w) (hh : pm_hi w0 w) : pm_Mt sc 1 64 5 [.ref 1, .int x, .int y, .int c] w (fun rv w' => pm_wI (fun v => True) rv ∧ pm_IX gi ga w' ∧ pm_hi w0 w') := by
  intro d hd
  obtain ⟨g0a, g0b⟩ := hR.n0
  obtain ⟨g1a, g1b⟩ := hR.n1
  obtain ⟨g2a, g2b⟩ := hR.n2
  obtain ⟨g3a, g3b⟩ := hR.n3
  obtain ⟨g4a, g4b⟩ := hR.n4
  obtain ⟨g5a, g5b⟩ := hR.n5
  obtain ⟨g6a, g6b⟩ := hR.n6
  obtain ⟨g7a, g7b⟩ := hR.n7
  obtain ⟨g8a, g8b⟩ := hR.n8
  have k2 : (2 : Int32).toInt = 2 := by decide
  show pm_V sc d 64 0 [.ref 1, .int x, .int y, .int c, .null] [] w _
  refine v_aload_n rfl rfl ?_
  refine v_iload_n rfl rfl ?_
  refine v_iload_n rfl rfl ?_
  have h1 : _ = some _ := hI.2 1 (by decide)
  refine v_callV rfl (W_X10_colourAt_1 x y (by omega) (by omega) hR hI) rfl rfl h1 rfl rfl (by omega) (fun rv w2 hq3 => ?_)
  obtain ⟨⟨z4, rfl, -⟩, rfl⟩ := hq3
  refine v_istore rfl (Nat.le_of_ble_eq_true rfl) ?_
  refine v_aload_n rfl rfl ?_
  refine v_get rfl h1 rfl ?_
  refine v_iload_n rfl rfl ?_
  refine v_dup2 rfl rfl ?_
  obtain ⟨xs6, xs6l, h5⟩ := hI.2 2 (by decide)
  refine r_laload rfl h5 xs6l (by omega) (by omega) (fun z7 => ?_)
  refine v_iload rfl rfl ?_
  refine v_iload_n rfl rfl ?_
  refine u_ixor rfl (fun z8 => ?_)
  refine u_i2l rfl (fun z9 => ?_)
  refine v_iconst (v := 2) rfl (by decide) ?_
  refine v_iload_n rfl rfl ?_
  refine u_imul rfl (fun z10 => ?_)
  refine u_lshl rfl (fun z11 => ?_)
  refine u_lxor rfl (fun z12 => ?_)
  refine r_lastore rfl h5 xs6l (by omega) (by omega) (fun ys13 ys13l => ?_)
  refine r_gen (w' := w.set 2 (.inl (2, .inr (.inl ys13)))) (fun w14 e15 => ?_)
  have hI16 : pm_IX gi ga w14 := by rw [e15]; exact hI.set 2 (by decide) ⟨ys13, ys13l, rfl⟩
  have hh17 : pm_hi w0 w14 := by rw [e15]; exact hh.set (by decide) _
  have h18 := r_get_ne e15 (show 2 ≠ 1 by decide) h1
  have h19 := r_get_eq e15 h5
  refine v_iload rfl rfl ?_
  exact v_iret rfl ⟨⟨_, rfl, trivial⟩, hI16, hh17⟩
set_option maxRecDepth 100000 in
theorem W_X10_has_14 {sc : pm_S} {w : pm_W} {gi : Nat → Int32} {ga : Nat → List Int32} (x : Int32) (y : Int32) (c14_0 : Int32) (c14_1 : Int32) (p0 : 1 ≤ c14_0.toInt) (p1 : c14_0.toInt ≤ 20) (p2 : 1 ≤ c14_1.toInt) (p3 : c14_1.toInt ≤ 20) (hc14 : w[14]? = some (.inr (10, [.int c14_0, .int c14_1, .ref 15]))) (hR : pm_Rg gi ga) (hI : pm_IX gi ga w) : pm_Mt sc 1 62 3 [.ref 14, .int x, .int y] w (fun rv w' => pm_wI (fun v => ((v.toInt = 1 ∧ 0 ≤ x.toInt ∧ x.toInt < c14_0.toInt ∧ 0 ≤ y.toInt ∧ y.toInt < c14_1.toInt) ∨ (v.toInt = 0 ∧ (x.toInt < 0 ∨ y.toInt < 0 ∨ c14_0.toInt ≤ x.toInt ∨ c14_1.toInt ≤ y.toInt)))) rv ∧ w = w') := by
  intro d hd
  obtain ⟨g0a, g0b⟩ := hR.n0
  obtain ⟨g1a, g1b⟩ := hR.n1
  obtain ⟨g2a, g2b⟩ := hR.n2
  obtain ⟨g3a, g3b⟩ := hR.n3
  obtain ⟨g4a, g4b⟩ := hR.n4
  obtain ⟨g5a, g5b⟩ := hR.n5
  obtain ⟨g6a, g6b⟩ := hR.n6
  obtain ⟨g7a, g7b⟩ := hR.n7
  obtain ⟨g8a, g8b⟩ := hR.n8
  have k0 : (0 : Int32).toInt = 0 := by decide
  have k1 : (1 : Int32).toInt = 1 := by decide
  show pm_V sc d 62 0 [.ref 14, .int x, .int y] [] w _
  refine v_iload_n rfl rfl ?_
  refine v_aload_n rfl rfl ?_
  refine v_get rfl hc14 rfl ?_
  refine v_callS rfl (W_X11_isPlace x c14_0 hR hI) rfl rfl rfl rfl rfl (by omega) (fun rv w1 hq2 => ?_)
  obtain ⟨⟨z3, rfl, z3p0⟩, rfl⟩ := hq2
  refine r_if_eq rfl (fun t4 => ?_) (fun t4 => ?_)
  · refine v_iconst (v := 0) rfl (by decide) ?_
    exact r_zret rfl (by omega) ⟨⟨_, rfl, (by omega)⟩, rfl⟩
  · refine v_iload_n rfl rfl ?_
    refine v_aload_n rfl rfl ?_
    refine v_get rfl hc14 rfl ?_
    refine v_callS rfl (W_X11_isPlace y c14_1 hR hI) rfl rfl rfl rfl rfl (by omega) (fun rv w5 hq6 => ?_)
    obtain ⟨⟨z7, rfl, z7p0⟩, rfl⟩ := hq6
    refine r_if_eq rfl (fun t8 => ?_) (fun t8 => ?_)
    · refine v_iconst (v := 0) rfl (by decide) ?_
      exact r_zret rfl (by omega) ⟨⟨_, rfl, (by omega)⟩, rfl⟩
    · refine v_iconst (v := 1) rfl (by decide) ?_
      refine v_goto rfl ?_
      exact r_zret rfl (by omega) ⟨⟨_, rfl, (by omega)⟩, rfl⟩
set_option maxRecDepth 100000 in
theorem W_X10_colourAt_14 {sc : pm_S} {w : pm_W} {gi : Nat → Int32} {ga : Nat → List Int32} (x : Int32) (y : Int32) (p0 : y.toInt ≤ 19) (p1 : 0 ≤ y.toInt) (hR : pm_Rg gi ga) (hI : pm_IX gi ga w) : pm_Mt sc 0 63 3 [.ref 14, .int x, .int y] w (fun rv w' => pm_wI (fun v => True) rv ∧ w = w') := by
  intro d hd
  obtain ⟨g0a, g0b⟩ := hR.n0
  obtain ⟨g1a, g1b⟩ := hR.n1
  obtain ⟨g2a, g2b⟩ := hR.n2
  obtain ⟨g3a, g3b⟩ := hR.n3
  obtain ⟨g4a, g4b⟩ := hR.n4
  obtain ⟨g5a, g5b⟩ := hR.n5
  obtain ⟨g6a, g6b⟩ := hR.n6
  obtain ⟨g7a, g7b⟩ := hR.n7
  obtain ⟨g8a, g8b⟩ := hR.n8
  have k2 : (2 : Int32).toInt = 2 := by decide
  show pm_V sc d 63 0 [.ref 14, .int x, .int y] [] w _
  refine v_aload_n rfl rfl ?_
  obtain ⟨v2, v3, ⟨v2a, v2b⟩, ⟨v3a, v3b⟩, h1⟩ := hI.2 14 (by decide)
  refine v_get rfl h1 rfl ?_
  refine v_iload_n rfl rfl ?_
  obtain ⟨xs5, xs5l, h4⟩ := hI.2 15 (by decide)
  refine r_laload rfl h4 xs5l (by omega) (by omega) (fun z6 => ?_)
  refine v_iconst (v := 2) rfl (by decide) ?_
  refine v_iload_n rfl rfl ?_
  refine u_imul rfl (fun z7 => ?_)
  refine u_lushr rfl (fun z8 => ?_)
  refine v_ldc2_w (v := 3) rfl (by decide) ?_
  refine u_land rfl (fun z9 => ?_)
  refine u_l2i rfl (fun z10 => ?_)
  exact v_iret rfl ⟨⟨_, rfl, trivial⟩, rfl⟩
set_option maxRecDepth 100000 in
theorem W_X10_paint_14 {sc : pm_S} {w w0 : pm_W} {gi : Nat → Int32} {ga : Nat → List Int32} (x : Int32) (y : Int32) (c : Int32) (p0 : y.toInt ≤ 19) (p1 : 0 ≤ y.toInt) (hR : pm_Rg gi ga) (hI : pm_IX gi ga w) (hh : pm_hi w0 w) : pm_Mt sc 1 64 5 [.ref 14, .int x, .int y, .int c] w (fun rv w' => pm_wI (fun v => True) rv ∧ pm_IX gi ga w' ∧ pm_hi w0 w') := by
  intro d hd
  obtain ⟨g0a, g0b⟩ := hR.n0
  obtain ⟨g1a, g1b⟩ := hR.n1
  obtain ⟨g2a, g2b⟩ := hR.n2
  obtain ⟨g3a, g3b⟩ := hR.n3
  obtain ⟨g4a, g4b⟩ := hR.n4
  obtain ⟨g5a, g5b⟩ := hR.n5
  obtain ⟨g6a, g6b⟩ := hR.n6
  obtain ⟨g7a, g7b⟩ := hR.n7
  obtain ⟨g8a, g8b⟩ := hR.n8
  have k2 : (2 : Int32).toInt = 2 := by decide
  show pm_V sc d 64 0 [.ref 14, .int x, .int y, .int c, .null] [] w _
  refine v_aload_n rfl rfl ?_
  refine v_iload_n rfl rfl ?_
  refine v_iload_n rfl rfl ?_
  obtain ⟨v2, v3, ⟨v2a, v2b⟩, ⟨v3a, v3b⟩, h1⟩ := hI.2 14 (by decide)
  refine v_callV rfl (W_X10_colourAt_14 x y (by omega) (by omega) hR hI) rfl rfl h1 rfl rfl (by omega) (fun rv w4 hq5 => ?_)
  obtain ⟨⟨z6, rfl, -⟩, rfl⟩ := hq5
  refine v_istore rfl (Nat.le_of_ble_eq_true rfl) ?_
  refine v_aload_n rfl rfl ?_
  refine v_get rfl h1 rfl ?_
  refine v_iload_n rfl rfl ?_
  refine v_dup2 rfl rfl ?_
  obtain ⟨xs8, xs8l, h7⟩ := hI.2 15 (by decide)
  refine r_laload rfl h7 xs8l (by omega) (by omega) (fun z9 => ?_)
  refine v_iload rfl rfl ?_
  refine v_iload_n rfl rfl ?_
  refine u_ixor rfl (fun z10 => ?_)
  refine u_i2l rfl (fun z11 => ?_)
  refine v_iconst (v := 2) rfl (by decide) ?_
  refine v_iload_n rfl rfl ?_
  refine u_imul rfl (fun z12 => ?_)
  refine u_lshl rfl (fun z13 => ?_)
  refine u_lxor rfl (fun z14 => ?_)
  refine r_lastore rfl h7 xs8l (by omega) (by omega) (fun ys15 ys15l => ?_)
  refine r_gen (w' := w.set 15 (.inl (2, .inr (.inl ys15)))) (fun w16 e17 => ?_)
  have hI18 : pm_IX gi ga w16 := by rw [e17]; exact hI.set 15 (by decide) ⟨ys15, ys15l, rfl⟩
  have hh19 : pm_hi w0 w16 := by rw [e17]; exact hh.set (by decide) _
  have h20 := r_get_ne e17 (show 15 ≠ 14 by decide) h1
  have h21 := r_get_eq e17 h7
  refine v_iload rfl rfl ?_
  exact v_iret rfl ⟨⟨_, rfl, trivial⟩, hI18, hh19⟩
set_option maxRecDepth 100000 in
theorem W_X11_square_0 {sc : pm_S} {w w0 : pm_W} {gi : Nat → Int32} {ga : Nat → List Int32} (x : Int32) (y : Int32) (c : Int32)  (hR : pm_Rg gi ga) (hI : pm_IX gi ga w) (hh : pm_hi w0 w) : pm_Mt sc 2 72 4 [.ref 0, .int x, .int y, .int c] w (fun rv w' => pm_wI (fun v => True) rv ∧ pm_IX gi ga w' ∧ pm_hi w0 w') := by
  intro d hd
  obtain ⟨g0a, g0b⟩ := hR.n0
  obtain ⟨g1a, g1b⟩ := hR.n1
  obtain ⟨g2a, g2b⟩ := hR.n2
  obtain ⟨g3a, g3b⟩ := hR.n3
  obtain ⟨g4a, g4b⟩ := hR.n4
  obtain ⟨g5a, g5b⟩ := hR.n5
  obtain ⟨g6a, g6b⟩ := hR.n6
  obtain ⟨g7a, g7b⟩ := hR.n7
  obtain ⟨g8a, g8b⟩ := hR.n8
  have km1 : (-1 : Int32).toInt = -1 := by decide
  show pm_V sc d 72 0 [.ref 0, .int x, .int y, .int c] [] w _
  refine v_aload_n rfl rfl ?_
  obtain ⟨v2, v2z, h1⟩ := hI.2 0 (by decide)
  have v2z := v2z.imp i_eq.mp i_eq.mp
  rw [i_0, i_1] at v2z
  refine v_get rfl h1 rfl ?_
  refine v_iload_n rfl rfl ?_
  refine v_iload_n rfl rfl ?_
  have h3 : _ = some _ := hI.2 1 (by decide)
  refine v_callV rfl (W_X10_has_1 x y hR hI) rfl rfl h3 rfl rfl (by omega) (fun rv w4 hq5 => ?_)
  obtain ⟨⟨z6, rfl, z6p0⟩, rfl⟩ := hq5
  refine r_if_eq rfl (fun t7 => ?_) (fun t7 => ?_)
  · refine v_aload_n rfl rfl ?_
    refine v_iconst (v := (-1)) rfl (by decide) ?_
    refine v_callV rfl (c_X_refuse (-1 : Int32) (by unfold pm_isR; first | decide | exact Or.inl rfl) hR hI) rfl rfl h1 rfl rfl (by omega) (fun rv w8 hq9 => ?_)
    obtain ⟨rfl, hI10, hh11x⟩ := hq9
    have hI10 : pm_IX gi ga w8 := hI10
    have hh11 := hh.tr hh11x
    exact v_iret rfl ⟨⟨_, rfl, trivial⟩, hI10, hh11⟩
  · refine v_iload_n rfl rfl ?_
    refine v_callS rfl (W_X11_isColour c hR hI) rfl rfl rfl rfl rfl (by omega) (fun rv w12 hq13 => ?_)
    obtain ⟨⟨z14, rfl, z14p0⟩, rfl⟩ := hq13
    refine r_if_ne rfl (fun t15 => ?_) (fun t15 => ?_)
    · refine v_aload_n rfl rfl ?_
      refine v_get rfl h1 rfl ?_
      refine v_iload_n rfl rfl ?_
      refine v_iload_n rfl rfl ?_
      refine v_iload_n rfl rfl ?_
      refine v_callV rfl (W_X10_paint_1 x y c (by omega) (by omega) hR hI hh) rfl rfl h3 rfl rfl (by omega) (fun rv w16 hq17 => ?_)
      obtain ⟨⟨z18, rfl, -⟩, hI19, hh20⟩ := hq17
      exact v_iret rfl ⟨⟨_, rfl, trivial⟩, hI19, hh20⟩
    · refine v_aload_n rfl rfl ?_
      refine v_iconst (v := (-1)) rfl (by decide) ?_
      refine v_callV rfl (c_X_refuse (-1 : Int32) (by unfold pm_isR; first | decide | exact Or.inl rfl) hR hI) rfl rfl h1 rfl rfl (by omega) (fun rv w21 hq22 => ?_)
      obtain ⟨rfl, hI23, hh24x⟩ := hq22
      have hI23 : pm_IX gi ga w21 := hI23
      have hh24 := hh.tr hh24x
      exact v_iret rfl ⟨⟨_, rfl, trivial⟩, hI23, hh24⟩
set_option maxRecDepth 100000 in
theorem W_X11_at_0 {sc : pm_S} {w w0 : pm_W} {gi : Nat → Int32} {ga : Nat → List Int32} (x : Int32) (y : Int32)  (hR : pm_Rg gi ga) (hI : pm_IX gi ga w) (hh : pm_hi w0 w) : pm_Mt sc 2 74 3 [.ref 0, .int x, .int y] w (fun rv w' => pm_wI (fun v => True) rv ∧ pm_IX gi ga w' ∧ pm_hi w0 w') := by
  intro d hd
  obtain ⟨g0a, g0b⟩ := hR.n0
  obtain ⟨g1a, g1b⟩ := hR.n1
  obtain ⟨g2a, g2b⟩ := hR.n2
  obtain ⟨g3a, g3b⟩ := hR.n3
  obtain ⟨g4a, g4b⟩ := hR.n4
  obtain ⟨g5a, g5b⟩ := hR.n5
  obtain ⟨g6a, g6b⟩ := hR.n6
  obtain ⟨g7a, g7b⟩ := hR.n7
  obtain ⟨g8a, g8b⟩ := hR.n8
  have km1 : (-1 : Int32).toInt = -1 := by decide
  show pm_V sc d 74 0 [.ref 0, .int x, .int y] [] w _
  refine v_aload_n rfl rfl ?_
  obtain ⟨v2, v2z, h1⟩ := hI.2 0 (by decide)
  have v2z := v2z.imp i_eq.mp i_eq.mp
  rw [i_0, i_1] at v2z
  refine v_get rfl h1 rfl ?_
  refine v_iload_n rfl rfl ?_
  refine v_iload_n rfl rfl ?_
  have h3 : _ = some _ := hI.2 1 (by decide)
  refine v_callV rfl (W_X10_has_1 x y hR hI) rfl rfl h3 rfl rfl (by omega) (fun rv w4 hq5 => ?_)
  obtain ⟨⟨z6, rfl, z6p0⟩, rfl⟩ := hq5
  refine r_if_ne rfl (fun t7 => ?_) (fun t7 => ?_)
  · refine v_aload_n rfl rfl ?_
    refine v_get rfl h1 rfl ?_
    refine v_iload_n rfl rfl ?_
    refine v_iload_n rfl rfl ?_
    refine v_callV rfl (W_X10_colourAt_1 x y (by omega) (by omega) hR hI) rfl rfl h3 rfl rfl (by omega) (fun rv w8 hq9 => ?_)
    obtain ⟨⟨z10, rfl, -⟩, rfl⟩ := hq9
    exact v_iret rfl ⟨⟨_, rfl, trivial⟩, hI, hh⟩
  · refine v_aload_n rfl rfl ?_
    refine v_iconst (v := (-1)) rfl (by decide) ?_
    refine v_callV rfl (c_X_refuse (-1 : Int32) (by unfold pm_isR; first | decide | exact Or.inl rfl) hR hI) rfl rfl h1 rfl rfl (by omega) (fun rv w11 hq12 => ?_)
    obtain ⟨rfl, hI13, hh14x⟩ := hq12
    have hI13 : pm_IX gi ga w11 := hI13
    have hh14 := hh.tr hh14x
    exact v_iret rfl ⟨⟨_, rfl, trivial⟩, hI13, hh14⟩
set_option maxRecDepth 100000 in
theorem W_X11_fill_0 {sc : pm_S} {w w0 : pm_W} {gi : Nat → Int32} {ga : Nat → List Int32} (x : Int32) (y : Int32) (n : Int32) (c : Int32)  (hR : pm_Rg gi ga) (hI : pm_IX gi ga w) (hh : pm_hi w0 w) : pm_Mt sc 2 73 6 [.ref 0, .int x, .int y, .int n, .int c] w (fun rv w' => pm_wI (fun v => True) rv ∧ pm_IX gi ga w' ∧ pm_hi w0 w') := by
  intro d hd
  obtain ⟨g0a, g0b⟩ := hR.n0
  obtain ⟨g1a, g1b⟩ := hR.n1
  obtain ⟨g2a, g2b⟩ := hR.n2
  obtain ⟨g3a, g3b⟩ := hR.n3
  obtain ⟨g4a, g4b⟩ := hR.n4
  obtain ⟨g5a, g5b⟩ := hR.n5
  obtain ⟨g6a, g6b⟩ := hR.n6
  obtain ⟨g7a, g7b⟩ := hR.n7
  obtain ⟨g8a, g8b⟩ := hR.n8
  have km6 : (-6 : Int32).toInt = -6 := by decide
  have km4 : (-4 : Int32).toInt = -4 := by decide
  have km1 : (-1 : Int32).toInt = -1 := by decide
  have k0 : (0 : Int32).toInt = 0 := by decide
  show pm_V sc d 73 0 [.ref 0, .int x, .int y, .int n, .int c, .null] [] w _
  refine v_aload_n rfl rfl ?_
  obtain ⟨v2, v2z, h1⟩ := hI.2 0 (by decide)
  have v2z := v2z.imp i_eq.mp i_eq.mp
  rw [i_0, i_1] at v2z
  refine v_get rfl h1 rfl ?_
  refine v_iload_n rfl rfl ?_
  refine v_iload_n rfl rfl ?_
  have h3 : _ = some _ := hI.2 1 (by decide)
  refine v_callV rfl (W_X10_has_1 x y hR hI) rfl rfl h3 rfl rfl (by omega) (fun rv w4 hq5 => ?_)
  obtain ⟨⟨z6, rfl, z6p0⟩, rfl⟩ := hq5
  refine r_if_eq rfl (fun t7 => ?_) (fun t7 => ?_)
  · refine v_aload_n rfl rfl ?_
    refine v_iconst (v := (-1)) rfl (by decide) ?_
    refine v_callV rfl (c_X_refuse (-1 : Int32) (by unfold pm_isR; first | decide | exact Or.inl rfl) hR hI) rfl rfl h1 rfl rfl (by omega) (fun rv w8 hq9 => ?_)
    obtain ⟨rfl, hI10, hh11x⟩ := hq9
    have hI10 : pm_IX gi ga w8 := hI10
    have hh11 := hh.tr hh11x
    exact v_iret rfl ⟨⟨_, rfl, trivial⟩, hI10, hh11⟩
  · refine v_iload rfl rfl ?_
    refine v_callS rfl (W_X11_isColour c hR hI) rfl rfl rfl rfl rfl (by omega) (fun rv w12 hq13 => ?_)
    obtain ⟨⟨z14, rfl, z14p0⟩, rfl⟩ := hq13
    refine r_if_ne rfl (fun t15 => ?_) (fun t15 => ?_)
    · refine v_iload_n rfl rfl ?_
      refine r_if_ge rfl (fun t16 => ?_) (fun t16 => ?_)
      · refine v_iload_n rfl rfl ?_
        refine v_aload_n rfl rfl ?_
        refine v_get rfl h1 rfl ?_
        refine v_get rfl h3 rfl ?_
        refine r_icmp_le rfl (fun t17 => ?_) (fun t17 => ?_)
        · refine v_iconst (v := 0) rfl (by decide) ?_
          refine v_istore rfl (Nat.le_of_ble_eq_true rfl) ?_
          have L22 : ∀ (n22 : Nat) (l18 : Int32) (w19 : pm_W), pm_IX gi ga w19 → pm_hi w0 w19 → 0 ≤ l18.toInt → l18.toInt ≤ 20 → (l18.toInt ≤ n.toInt) → (n.toInt - l18.toInt).toNat < n22 → pm_V sc d 73 58 [.ref 0, .int x, .int y, .int n, .int c, .int l18] [] w19 (fun rv w' => pm_wI (fun v => True) rv ∧ pm_IX gi ga w' ∧ pm_hi w0 w') := by
            intro n22
            induction n22 with
            | zero => intro l18 w19 hI20 hh21 t24 t25 t26 hm23; exact absurd hm23 (Nat.not_lt_zero _)
            | succ n22 ih58_22 =>
              intro l18 w19 hI20 hh21 t24 t25 t26 hm23
              refine v_iload rfl rfl ?_
              refine v_iload_n rfl rfl ?_
              refine r_icmp_ge rfl (fun t27 => ?_) (fun t27 => ?_)
              · refine v_iload_n rfl rfl ?_
                exact v_iret rfl ⟨⟨_, rfl, trivial⟩, hI20, hh21⟩
              · refine v_aload_n rfl rfl ?_
                obtain ⟨v29, v29z, h28⟩ := hI20.2 0 (by decide)
                have v29z := v29z.imp i_eq.mp i_eq.mp
                rw [i_0, i_1] at v29z
                refine v_get rfl h28 rfl ?_
                refine v_iload_n rfl rfl ?_
                refine v_iload rfl rfl ?_
                refine r_iadd rfl (by omega) (by omega) (fun z30 z30e => ?_)
                refine v_aload_n rfl rfl ?_
                refine v_get rfl h28 rfl ?_
                have h31 : _ = some _ := hI20.2 1 (by decide)
                refine v_get rfl h31 rfl ?_
                refine v_callS rfl (W_X11_around z30 (gi 0) (by omega) (by omega) (by omega) (by omega) (by omega) (by omega) hR hI20) rfl rfl rfl rfl rfl (by omega) (fun rv w32 hq33 => ?_)
                obtain ⟨⟨z34, rfl, z34p0, z34p1⟩, rfl⟩ := hq33
                refine v_iload_n rfl rfl ?_
                refine v_iload rfl rfl ?_
                refine v_callV rfl (W_X10_paint_1 z34 y c (by omega) (by omega) hR hI20 hh21) rfl rfl h31 rfl rfl (by omega) (fun rv w35 hq36 => ?_)
                obtain ⟨⟨z37, rfl, -⟩, hI38, hh39⟩ := hq36
                refine v_pop rfl rfl ?_
                refine r_iinc rfl rfl (by decide) (by omega) (by omega) (fun z40 z40e => ?_)
                refine v_goto rfl ?_
                exact ih58_22 z40 w35 hI38 hh39 (by omega) (by omega) (by omega) (by omega)
          exact L22 _ (0 : Int32) w hI hh (by omega) (by omega) (by omega) (Nat.lt_add_one _)
        · refine v_aload_n rfl rfl ?_
          refine v_bipush (v := (-6)) rfl (by decide) ?_
          refine v_callV rfl (c_X_refuse (-6 : Int32) (by unfold pm_isR; first | decide | exact Or.inl rfl) hR hI) rfl rfl h1 rfl rfl (by omega) (fun rv w41 hq42 => ?_)
          obtain ⟨rfl, hI43, hh44x⟩ := hq42
          have hI43 : pm_IX gi ga w41 := hI43
          have hh44 := hh.tr hh44x
          exact v_iret rfl ⟨⟨_, rfl, trivial⟩, hI43, hh44⟩
      · refine v_aload_n rfl rfl ?_
        refine v_bipush (v := (-4)) rfl (by decide) ?_
        refine v_callV rfl (c_X_refuse (-4 : Int32) (by unfold pm_isR; first | decide | exact Or.inl rfl) hR hI) rfl rfl h1 rfl rfl (by omega) (fun rv w45 hq46 => ?_)
        obtain ⟨rfl, hI47, hh48x⟩ := hq46
        have hI47 : pm_IX gi ga w45 := hI47
        have hh48 := hh.tr hh48x
        exact v_iret rfl ⟨⟨_, rfl, trivial⟩, hI47, hh48⟩
    · refine v_aload_n rfl rfl ?_
      refine v_iconst (v := (-1)) rfl (by decide) ?_
      refine v_callV rfl (c_X_refuse (-1 : Int32) (by unfold pm_isR; first | decide | exact Or.inl rfl) hR hI) rfl rfl h1 rfl rfl (by omega) (fun rv w49 hq50 => ?_)
      obtain ⟨rfl, hI51, hh52x⟩ := hq50
      have hI51 : pm_IX gi ga w49 := hI51
      have hh52 := hh.tr hh52x
      exact v_iret rfl ⟨⟨_, rfl, trivial⟩, hI51, hh52⟩
