set_option maxRecDepth 100000 in
theorem W_X11_isPlace {sc : pm_S} {w : pm_W} {gi : Nat → Int32} {ga : Nat → List Int32} (i : Int32) (n : Int32)  (hR : pm_Rg gi ga) (hI : pm_IX gi ga w) : pm_Mt sc 0 113 2 [.int i, .int n] w (fun rv w' => pm_wI (fun v => ((v.toInt = 1 ∧ 0 ≤ i.toInt ∧ i.toInt < n.toInt) ∨ (v.toInt = 0 ∧ (i.toInt < 0 ∨ n.toInt ≤ i.toInt)))) rv ∧ w = w') := by
  intro d hd
  obtain ⟨g0a, g0b⟩ := hR.n0
  obtain ⟨g1a, g1b⟩ := hR.n1
  obtain ⟨g2a, g2b⟩ := hR.n2
  obtain ⟨g3a, g3b⟩ := hR.n3
  obtain ⟨g4a, g4b⟩ := hR.n4
  obtain ⟨g5a, g5b⟩ := hR.n5
  obtain ⟨g6a, g6b⟩ := hR.n6
  obtain ⟨g7a, g7b⟩ := hR.n7
  obtain ⟨g8a, g8b⟩ := hR.n8
  have k0 : (0 : Int32).toInt = 0 := by decide
  have k1 : (1 : Int32).toInt = 1 := by decide
  show pm_V sc d 113 0 [.int i, .int n] [] w _
  refine v_iload_n rfl rfl ?_
  refine r_if_lt rfl (fun t1 => ?_) (fun t1 => ?_)
  · refine v_iconst (v := 0) rfl (by decide) ?_
    exact r_zret rfl (by omega) ⟨⟨_, rfl, (by omega)⟩, rfl⟩
  · refine v_iload_n rfl rfl ?_
    refine v_iload_n rfl rfl ?_
    refine r_icmp_ge rfl (fun t2 => ?_) (fun t2 => ?_)
    · refine v_iconst (v := 0) rfl (by decide) ?_
      exact r_zret rfl (by omega) ⟨⟨_, rfl, (by omega)⟩, rfl⟩
    · refine v_iconst (v := 1) rfl (by decide) ?_
      refine v_goto rfl ?_
      exact r_zret rfl (by omega) ⟨⟨_, rfl, (by omega)⟩, rfl⟩
set_option maxRecDepth 100000 in
theorem W_X11_isColour {sc : pm_S} {w : pm_W} {gi : Nat → Int32} {ga : Nat → List Int32} (i : Int32)  (hR : pm_Rg gi ga) (hI : pm_IX gi ga w) : pm_Mt sc 1 114 1 [.int i] w (fun rv w' => pm_wI (fun v => ((v.toInt = 1 ∧ 0 ≤ i.toInt ∧ i.toInt < 4) ∨ (v.toInt = 0 ∧ (i.toInt < 0 ∨ 4 ≤ i.toInt)))) rv ∧ w = w') := by
  intro d hd
  obtain ⟨g0a, g0b⟩ := hR.n0
  obtain ⟨g1a, g1b⟩ := hR.n1
  obtain ⟨g2a, g2b⟩ := hR.n2
  obtain ⟨g3a, g3b⟩ := hR.n3
  obtain ⟨g4a, g4b⟩ := hR.n4
  obtain ⟨g5a, g5b⟩ := hR.n5
  obtain ⟨g6a, g6b⟩ := hR.n6
  obtain ⟨g7a, g7b⟩ := hR.n7
  obtain ⟨g8a, g8b⟩ := hR.n8
  have k4 : (4 : Int32).toInt = 4 := by decide
  show pm_V sc d 114 0 [.int i] [] w _
  refine v_iload_n rfl rfl ?_
  refine v_iconst (v := 4) rfl (by decide) ?_
  refine v_callS rfl (W_X11_isPlace i (4 : Int32) hR hI) rfl rfl rfl rfl rfl (by omega) (fun rv w1 hq2 => ?_)
  obtain ⟨⟨z3, rfl, z3p0⟩, rfl⟩ := hq2
  exact r_zret rfl (by omega) ⟨⟨_, rfl, (by omega)⟩, rfl⟩
set_option maxRecDepth 100000 in
theorem W_X11_around {sc : pm_S} {w : pm_W} {gi : Nat → Int32} {ga : Nat → List Int32} (i : Int32) (n : Int32) (p0 : n.toInt ≤ 20) (p1 : 0 ≤ n.toInt) (p2 : i.toInt ≤ 40) (p3 : (-40) ≤ i.toInt) (p4 : -n.toInt ≤ i.toInt) (p5 : i.toInt < 2 * n.toInt) (hR : pm_Rg gi ga) (hI : pm_IX gi ga w) : pm_Mt sc 0 115 2 [.int i, .int n] w (fun rv w' => pm_wI (fun v => 0 ≤ v.toInt ∧ v.toInt < n.toInt) rv ∧ w = w') := by
  intro d hd
  obtain ⟨g0a, g0b⟩ := hR.n0
  obtain ⟨g1a, g1b⟩ := hR.n1
  obtain ⟨g2a, g2b⟩ := hR.n2
  obtain ⟨g3a, g3b⟩ := hR.n3
  obtain ⟨g4a, g4b⟩ := hR.n4
  obtain ⟨g5a, g5b⟩ := hR.n5
  obtain ⟨g6a, g6b⟩ := hR.n6
  obtain ⟨g7a, g7b⟩ := hR.n7
  obtain ⟨g8a, g8b⟩ := hR.n8
  show pm_V sc d 115 0 [.int i, .int n] [] w _
  refine v_iload_n rfl rfl ?_
  refine r_if_ge rfl (fun t1 => ?_) (fun t1 => ?_)
  · refine v_iload_n rfl rfl ?_
    refine v_iload_n rfl rfl ?_
    refine r_icmp_ge rfl (fun t2 => ?_) (fun t2 => ?_)
    · refine v_iload_n rfl rfl ?_
      refine v_iload_n rfl rfl ?_
      refine r_isub rfl (by omega) (by omega) (fun z3 z3e => ?_)
      exact v_iret rfl ⟨⟨_, rfl, (by omega), (by omega)⟩, rfl⟩
    · refine v_iload_n rfl rfl ?_
      refine v_goto rfl ?_
      exact v_iret rfl ⟨⟨_, rfl, (by omega), (by omega)⟩, rfl⟩
  · refine v_iload_n rfl rfl ?_
    refine v_iload_n rfl rfl ?_
    refine r_iadd rfl (by omega) (by omega) (fun z4 z4e => ?_)
    exact v_iret rfl ⟨⟨_, rfl, (by omega), (by omega)⟩, rfl⟩
set_option maxRecDepth 100000 in
theorem W_X10_has_1 {sc : pm_S} {w : pm_W} {gi : Nat → Int32} {ga : Nat → List Int32} (x : Int32) (y : Int32)  (hR : pm_Rg gi ga) (hI : pm_IX gi ga w) : pm_Mt sc 1 62 3 [.ref 1, .int x, .int y] w (fun rv w' => pm_wI (fun v => ((v.toInt = 1 ∧ 0 ≤ x.toInt ∧ x.toInt < (gi 0).toInt ∧ 0 ≤ y.toInt ∧ y.toInt < (gi 1).toInt) ∨ (v.toInt = 0 ∧ (x.toInt < 0 ∨ y.toInt < 0 ∨ (gi 0).toInt ≤ x.toInt ∨ (gi 1).toInt ≤ y.toInt)))) rv ∧ w = w') := by
  intro d hd
  obtain ⟨g0a, g0b⟩ := hR.n0
  obtain ⟨g1a, g1b⟩ := hR.n1
  obtain ⟨g2a, g2b⟩ := hR.n2
  obtain ⟨g3a, g3b⟩ := hR.n3
  obtain ⟨g4a, g4b⟩ := hR.n4
  obtain ⟨g5a, g5b⟩ := hR.n5
  obtain ⟨g6a, g6b⟩ := hR.n6
  obtain ⟨g7a, g7b⟩ := hR.n7
  obtain ⟨g8a, g8b⟩ := hR.n8
  have k0 : (0 : Int32).toInt = 0 := by decide
  have k1 : (1 : Int32).toInt = 1 := by decide
  show pm_V sc d 62 0 [.ref 1, .int x, .int y] [] w _
  refine v_iload_n rfl rfl ?_
  refine v_aload_n rfl rfl ?_
  have h1 : _ = some _ := hI.2 1 (by decide)
  refine v_get rfl h1 rfl ?_
  refine v_callS rfl (W_X11_isPlace x (gi 0) hR hI) rfl rfl rfl rfl rfl (by omega) (fun rv w2 hq3 => ?_)
  obtain ⟨⟨z4, rfl, z4p0⟩, rfl⟩ := hq3
  refine r_if_eq rfl (fun t5 => ?_) (fun t5 => ?_)
  · refine v_iconst (v := 0) rfl (by decide) ?_
    exact r_zret rfl (by omega) ⟨⟨_, rfl, (by omega)⟩, rfl⟩
  · refine v_iload_n rfl rfl ?_
    refine v_aload_n rfl rfl ?_
    refine v_get rfl h1 rfl ?_
    refine v_callS rfl (W_X11_isPlace y (gi 1) hR hI) rfl rfl rfl rfl rfl (by omega) (fun rv w6 hq7 => ?_)
    obtain ⟨⟨z8, rfl, z8p0⟩, rfl⟩ := hq7
    refine r_if_eq rfl (fun t9 => ?_) (fun t9 => ?_)
    · refine v_iconst (v := 0) rfl (by decide) ?_
      exact r_zret rfl (by omega) ⟨⟨_, rfl, (by omega)⟩, rfl⟩
    · refine v_iconst (v := 1) rfl (by decide) ?_
      refine v_goto rfl ?_
      exact r_zret rfl (by omega) ⟨⟨_, rfl, (by omega)⟩, rfl⟩
set_option maxRecDepth 100000 in
theorem W_X10_colourAt_1 {sc : pm_S} {w : pm_W} {gi : Nat → Int32} {ga : Nat → List Int32} (x : Int32) (y : Int32) (p0 : y.toInt ≤ 19) (p1 : 0 ≤ y.toInt) (hR : pm_Rg gi ga) (hI : pm_IX gi ga w) : pm_Mt sc 0 63 3 [.ref 1, .int x, .int y] w (fun rv w' => pm_wI (fun v => True) rv ∧ w = w') := by
  intro d hd
  obtain ⟨g0a, g0b⟩ := hR.n0
  obtain ⟨g1a, g1b⟩ := hR.n1
  obtain ⟨g2a, g2b⟩ := hR.n2
  obtain ⟨g3a, g3b⟩ := hR.n3
  obtain ⟨g4a, g4b⟩ := hR.n4
  obtain ⟨g5a, g5b⟩ := hR.n5
  obtain ⟨g6a, g6b⟩ := hR.n6
  obtain ⟨g7a, g7b⟩ := hR.n7
  obtain ⟨g8a, g8b⟩ := hR.n8
  have k2 : (2 : Int32).toInt = 2 := by decide
  show pm_V sc d 63 0 [.ref 1, .int x, .int y] [] w _
  refine v_aload_n rfl rfl ?_
  have h1 : _ = some _ := hI.2 1 (by decide)
  refine v_get rfl h1 rfl ?_
  refine v_iload_n rfl rfl ?_
  obtain ⟨sq3l, sq3r, h2⟩ := hI.2 2 (by decide)
  refine r_laload rfl h2 pm_enc_len (by omega) (by omega) (fun z4 => ?_)
  refine v_iconst (v := 2) rfl (by decide) ?_
  refine v_iload_n rfl rfl ?_
  refine u_imul rfl (fun z5 => ?_)
  refine u_lushr rfl (fun z6 => ?_)
  refine v_ldc2_w (v := 3) rfl (by decide) ?_
  refine u_land rfl (fun z7 => ?_)
  refine u_l2i rfl (fun z8 => ?_)
  exact v_iret rfl ⟨⟨_, rfl, trivial⟩, rfl⟩
set_option maxRecDepth 100000 in
theorem W_X10_has_14 {sc : pm_S} {w : pm_W} {gi : Nat → Int32} {ga : Nat → List Int32} (x : Int32) (y : Int32) (c14_0 : Int32) (c14_1 : Int32) (p0 : 1 ≤ c14_0.toInt) (p1 : c14_0.toInt ≤ 20) (p2 : 1 ≤ c14_1.toInt) (p3 : c14_1.toInt ≤ 20) (hc14 : w[14]? = some (.inr (10, [.int c14_0, .int c14_1, .ref 15]))) (hR : pm_Rg gi ga) (hI : pm_IX gi ga w) : pm_Mt sc 1 62 3 [.ref 14, .int x, .int y] w (fun rv w' => pm_wI (fun v => ((v.toInt = 1 ∧ 0 ≤ x.toInt ∧ x.toInt < c14_0.toInt ∧ 0 ≤ y.toInt ∧ y.toInt < c14_1.toInt) ∨ (v.toInt = 0 ∧ (x.toInt < 0 ∨ y.toInt < 0 ∨ c14_0.toInt ≤ x.toInt ∨ c14_1.toInt ≤ y.toInt)))) rv ∧ w = w') := by
  intro d hd
  obtain ⟨g0a, g0b⟩ := hR.n0
  obtain ⟨g1a, g1b⟩ := hR.n1
  obtain ⟨g2a, g2b⟩ := hR.n2
  obtain ⟨g3a, g3b⟩ := hR.n3
  obtain ⟨g4a, g4b⟩ := hR.n4
  obtain ⟨g5a, g5b⟩ := hR.n5
  obtain ⟨g6a, g6b⟩ := hR.n6
  obtain ⟨g7a, g7b⟩ := hR.n7
  obtain ⟨g8a, g8b⟩ := hR.n8
  have k0 : (0 : Int32).toInt = 0 := by decide
  have k1 : (1 : Int32).toInt = 1 := by decide
  show pm_V sc d 62 0 [.ref 14, .int x, .int y] [] w _
  refine v_iload_n rfl rfl ?_
  refine v_aload_n rfl rfl ?_
  refine v_get rfl hc14 rfl ?_
  refine v_callS rfl (W_X11_isPlace x c14_0 hR hI) rfl rfl rfl rfl rfl (by omega) (fun rv w1 hq2 => ?_)
  obtain ⟨⟨z3, rfl, z3p0⟩, rfl⟩ := hq2
  refine r_if_eq rfl (fun t4 => ?_) (fun t4 => ?_)
  · refine v_iconst (v := 0) rfl (by decide) ?_
    exact r_zret rfl (by omega) ⟨⟨_, rfl, (by omega)⟩, rfl⟩
  · refine v_iload_n rfl rfl ?_
    refine v_aload_n rfl rfl ?_
    refine v_get rfl hc14 rfl ?_
    refine v_callS rfl (W_X11_isPlace y c14_1 hR hI) rfl rfl rfl rfl rfl (by omega) (fun rv w5 hq6 => ?_)
    obtain ⟨⟨z7, rfl, z7p0⟩, rfl⟩ := hq6
    refine r_if_eq rfl (fun t8 => ?_) (fun t8 => ?_)
    · refine v_iconst (v := 0) rfl (by decide) ?_
      exact r_zret rfl (by omega) ⟨⟨_, rfl, (by omega)⟩, rfl⟩
    · refine v_iconst (v := 1) rfl (by decide) ?_
      refine v_goto rfl ?_
      exact r_zret rfl (by omega) ⟨⟨_, rfl, (by omega)⟩, rfl⟩
set_option maxRecDepth 100000 in
theorem W_X10_colourAt_14 {sc : pm_S} {w : pm_W} {gi : Nat → Int32} {ga : Nat → List Int32} (x : Int32) (y : Int32) (p0 : y.toInt ≤ 19) (p1 : 0 ≤ y.toInt) (hR : pm_Rg gi ga) (hI : pm_IX gi ga w) : pm_Mt sc 0 63 3 [.ref 14, .int x, .int y] w (fun rv w' => pm_wI (fun v => True) rv ∧ w = w') := by
  intro d hd
  obtain ⟨g0a, g0b⟩ := hR.n0
  obtain ⟨g1a, g1b⟩ := hR.n1
  obtain ⟨g2a, g2b⟩ := hR.n2
  obtain ⟨g3a, g3b⟩ := hR.n3
  obtain ⟨g4a, g4b⟩ := hR.n4
  obtain ⟨g5a, g5b⟩ := hR.n5
  obtain ⟨g6a, g6b⟩ := hR.n6
  obtain ⟨g7a, g7b⟩ := hR.n7
  obtain ⟨g8a, g8b⟩ := hR.n8
  have k2 : (2 : Int32).toInt = 2 := by decide
  show pm_V sc d 63 0 [.ref 14, .int x, .int y] [] w _
  refine v_aload_n rfl rfl ?_
  obtain ⟨v2, v3, ⟨⟨v2a, v2b⟩, v2e⟩, ⟨⟨v3a, v3b⟩, v3e⟩, h1⟩ := hI.2 14 (by decide)
  refine v_get rfl h1 rfl ?_
  refine v_iload_n rfl rfl ?_
  obtain ⟨xs5, xs5l, ⟨xs5e, xs5q⟩, h4⟩ := hI.2 15 (by decide)
  have xs5e : xs5 = (pm_enc (ga 24)) := xs5e
  subst xs5e
  refine r_laload rfl h4 xs5l (by omega) (by omega) (fun z6 => ?_)
  refine v_iconst (v := 2) rfl (by decide) ?_
  refine v_iload_n rfl rfl ?_
  refine u_imul rfl (fun z7 => ?_)
  refine u_lushr rfl (fun z8 => ?_)
  refine v_ldc2_w (v := 3) rfl (by decide) ?_
  refine u_land rfl (fun z9 => ?_)
  refine u_l2i rfl (fun z10 => ?_)
  exact v_iret rfl ⟨⟨_, rfl, trivial⟩, rfl⟩

