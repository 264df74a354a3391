set_option maxRecDepth 100000 in
theorem c_paint {sc : pm_S} {w : pm_W} {gi : Nat → Int32} {ga : Nat → List Int32} (x y c : Int32) (x0 : 0 ≤ x.toInt) (x1 : x.toInt < 20) (y0 : 0 ≤ y.toInt) (y1 : y.toInt < 20) (c0 : 0 ≤ c.toInt) (c1 : c.toInt < 4) (hI : pm_IX gi ga w) : pm_Mt sc 1 64 5 [.ref 1, .int x, .int y, .int c] w (fun rv w' => rv = some (.int ((ga 15).getD (20 * y.toInt.toNat + x.toInt.toNat) 0)) ∧ pm_IX gi (pm_uA ga 15 ((ga 15).set (20 * y.toInt.toNat + x.toInt.toNat) c)) w' ∧ pm_hi w w') := by
  intro d hd
  show pm_V sc d 64 0 _ [] w _
  have h1 : _ = some _ := hI.2 1 (by decide)
  obtain ⟨l2, r2, h2⟩ := hI.2 2 (by decide)
  have hcl : sq_cl (ga 15) := ⟨l2, r2⟩
  refine v_aload_n rfl rfl ?_
  refine v_iload_n rfl rfl ?_
  refine v_iload_n rfl rfl ?_
  refine v_callV rfl (c_colourAt h1 h2 pm_enc_len x y y0 y1) rfl rfl h1 rfl rfl (by omega) (fun rv w1 hq => ?_)
  obtain ⟨rfl, rfl⟩ := hq
  rw [pm_col_enc hcl x0 x1 y0 y1]
  refine v_istore rfl (Nat.le_of_ble_eq_true rfl) ?_
  refine v_aload_n rfl rfl ?_
  refine v_get rfl h1 rfl ?_
  refine v_iload_n rfl rfl ?_
  refine v_dup2 rfl rfl ?_
  obtain ⟨z, hz⟩ : ∃ z, (pm_enc (ga 15))[y.toNatClampNeg]? = some z := ⟨_, List.getElem?_eq_getElem (by rw [pm_enc_len, i_cl]; omega)⟩
  refine v_laload rfl h2 (r_nn y0) hz ?_
  refine v_iload rfl rfl ?_
  refine v_iload_n rfl rfl ?_
  refine v_ixor rfl ?_
  refine v_i2l rfl ?_
  refine v_iconst (v := 2) rfl (by decide) ?_
  refine v_iload_n rfl rfl ?_
  refine v_imul rfl ?_
  refine v_lshl rfl ?_
  refine v_lxor rfl ?_
  refine v_lastore rfl h2 (r_nn y0) (by rw [pm_enc_len, i_cl]; omega) ?_
  rw [pm_paint_enc hcl x0 x1 y0 y1 c0 c1 hz]
  refine v_iload rfl rfl ?_
  have hs := hcl.set (k := (20 * y.toInt.toNat + x.toInt.toNat)) c0 (show c.toInt ≤ 3 by omega)
  exact v_iret rfl ⟨rfl, hI.usq hs.1 hs.2, pm_hi.rf.set (by decide) _⟩
noncomputable def sp_at (gi : Nat → Int32) (ga : Nat → List Int32) (x y : Int32) : pm_G := if 0 ≤ x.toInt ∧ x.toInt < (gi 0).toInt ∧ 0 ≤ y.toInt ∧ y.toInt < (gi 1).toInt then ((ga 15).getD (20 * y.toInt.toNat + x.toInt.toNat) 0, gi, ga) else pm_no gi ga (-1)
noncomputable def sp_square (gi : Nat → Int32) (ga : Nat → List Int32) (x y c : Int32) : pm_G := if 0 ≤ x.toInt ∧ x.toInt < (gi 0).toInt ∧ 0 ≤ y.toInt ∧ y.toInt < (gi 1).toInt ∧ 0 ≤ c.toInt ∧ c.toInt < 4 then ((ga 15).getD (20 * y.toInt.toNat + x.toInt.toNat) 0, gi, pm_uA ga 15 ((ga 15).set (20 * y.toInt.toNat + x.toInt.toNat) c)) else pm_no gi ga (-1)
noncomputable def sq_fl (ds : List Int32) (W X Y : Nat) (c : Int32) : Nat → List Int32
  | 0 => ds
  | k + 1 => (sq_fl ds W X Y c k).set (20 * Y + (X + k) % W) c
noncomputable def sp_fill (gi : Nat → Int32) (ga : Nat → List Int32) (x y n c : Int32) : pm_G := if ¬ (0 ≤ x.toInt ∧ x.toInt < (gi 0).toInt ∧ 0 ≤ y.toInt ∧ y.toInt < (gi 1).toInt ∧ 0 ≤ c.toInt ∧ c.toInt < 4) then pm_no gi ga (-1) else if n.toInt < 0 then pm_no gi ga (-4) else if (gi 0).toInt < n.toInt then pm_no gi ga (-6) else (n, gi, pm_uA ga 15 (sq_fl (ga 15) (gi 0).toInt.toNat x.toInt.toNat y.toInt.toNat c n.toInt.toNat))
set_option maxRecDepth 100000 in
theorem c_X_at {sc : pm_S} {w : pm_W} {gi : Nat → Int32} {ga : Nat → List Int32} (x : Int32) (y : Int32)  (hR : pm_Rg gi ga) (hI : pm_IX gi ga w) : pm_Mt sc 2 74 3 [.ref 0, .int x, .int y] w (pm_PX w (sp_at gi ga x y)) := by
  intro d hd
  obtain ⟨g0a, g0b⟩ := hR.n0
  obtain ⟨g1a, g1b⟩ := hR.n1
  obtain ⟨g2a, g2b⟩ := hR.n2
  obtain ⟨g3a, g3b⟩ := hR.n3
  obtain ⟨g4a, g4b⟩ := hR.n4
  obtain ⟨g5a, g5b⟩ := hR.n5
  obtain ⟨g6a, g6b⟩ := hR.n6
  obtain ⟨g7a, g7b⟩ := hR.n7
  obtain ⟨g8a, g8b⟩ := hR.n8
  have km1 : (-1 : Int32).toInt = -1 := by decide
  show pm_V sc d 74 0 [.ref 0, .int x, .int y] [] w _
  have hh : pm_hi w w := pm_hi.rf
  refine v_aload_n rfl rfl ?_
  obtain ⟨v2, ⟨v2z, v2e⟩, h1⟩ := hI.2 0 (by decide)
  have v2z := v2z.imp i_eq.mp i_eq.mp
  rw [i_0, i_1] at v2z
  refine v_get rfl h1 rfl ?_
  refine v_iload_n rfl rfl ?_
  refine v_iload_n rfl rfl ?_
  have h3 : _ = some _ := hI.2 1 (by decide)
  refine v_callV rfl (W_X10_has_1 x y hR hI) rfl rfl h3 rfl rfl (by omega) (fun rv w4 hq5 => ?_)
  obtain ⟨⟨z6, rfl, z6p0⟩, rfl⟩ := hq5
  refine r_if_ne rfl (fun t7 => ?_) (fun t7 => ?_)
  · refine v_aload_n rfl rfl ?_
    refine v_get rfl h1 rfl ?_
    refine v_iload_n rfl rfl ?_
    refine v_iload_n rfl rfl ?_
    obtain ⟨sq9l, sq9r, h8⟩ := hI.2 2 (by decide)
    have cl12 : sq_cl (ga 15) := by obtain ⟨l2, r2, -⟩ := hI.2 2 (by decide); exact ⟨l2, r2⟩
    refine v_callV rfl (c_colourAt h3 h8 pm_enc_len x y (by omega) (by omega)) rfl rfl h3 rfl rfl (by omega) (fun rv w10 hq11 => ?_)
    obtain ⟨rfl, rfl⟩ := hq11
    rw [pm_col_enc cl12 (by omega) (by omega) (by omega) (by omega)]
    refine v_iret rfl ?_
    show pm_PX _ _ _ _
    unfold sp_at
    repeat' split
    all_goals first | exact ⟨rfl, hI, hh⟩ | (exfalso; omega)
  · refine v_aload_n rfl rfl ?_
    refine v_iconst (v := (-1)) rfl (by decide) ?_
    refine v_callV rfl (c_X_refuse (-1 : Int32) (by unfold pm_isR; first | decide | exact Or.inl rfl) hR hI) rfl rfl h1 rfl rfl (by omega) (fun rv w13 hq14 => ?_)
    obtain ⟨rfl, hI15, hh16x⟩ := hq14
    have hI15 : pm_IX gi ga w13 := hI15
    have hh16 := hh.tr hh16x
    refine v_iret rfl ?_
    show pm_PX _ _ _ _
    unfold sp_at
    repeat' split
    all_goals first | exact ⟨rfl, hI15, hh16⟩ | (exfalso; omega)
set_option maxRecDepth 100000 in
theorem c_X_square {sc : pm_S} {w : pm_W} {gi : Nat → Int32} {ga : Nat → List Int32} (x : Int32) (y : Int32) (c : Int32)  (hR : pm_Rg gi ga) (hI : pm_IX gi ga w) : pm_Mt sc 2 72 4 [.ref 0, .int x, .int y, .int c] w (pm_PX w (sp_square gi ga x y c)) := by
  intro d hd
  obtain ⟨g0a, g0b⟩ := hR.n0
  obtain ⟨g1a, g1b⟩ := hR.n1
  obtain ⟨g2a, g2b⟩ := hR.n2
  obtain ⟨g3a, g3b⟩ := hR.n3
  obtain ⟨g4a, g4b⟩ := hR.n4
  obtain ⟨g5a, g5b⟩ := hR.n5
  obtain ⟨g6a, g6b⟩ := hR.n6
  obtain ⟨g7a, g7b⟩ := hR.n7
  obtain ⟨g8a, g8b⟩ := hR.n8
  have km1 : (-1 : Int32).toInt = -1 := by decide
  show pm_V sc d 72 0 [.ref 0, .int x, .int y, .int c] [] w _
  have hh : pm_hi w w := pm_hi.rf
  refine v_aload_n rfl rfl ?_
  obtain ⟨v2, ⟨v2z, v2e⟩, h1⟩ := hI.2 0 (by decide)
  have v2z := v2z.imp i_eq.mp i_eq.mp
  rw [i_0, i_1] at v2z
  refine v_get rfl h1 rfl ?_
  refine v_iload_n rfl rfl ?_
  refine v_iload_n rfl rfl ?_
  have h3 : _ = some _ := hI.2 1 (by decide)
  refine v_callV rfl (W_X10_has_1 x y hR hI) rfl rfl h3 rfl rfl (by omega) (fun rv w4 hq5 => ?_)
  obtain ⟨⟨z6, rfl, z6p0⟩, rfl⟩ := hq5
  refine r_if_eq rfl (fun t7 => ?_) (fun t7 => ?_)
  · refine v_aload_n rfl rfl ?_
    refine v_iconst (v := (-1)) rfl (by decide) ?_
    refine v_callV rfl (c_X_refuse (-1 : Int32) (by unfold pm_isR; first | decide | exact Or.inl rfl) hR hI) rfl rfl h1 rfl rfl (by omega) (fun rv w8 hq9 => ?_)
    obtain ⟨rfl, hI10, hh11x⟩ := hq9
    have hI10 : pm_IX gi ga w8 := hI10
    have hh11 := hh.tr hh11x
    refine v_iret rfl ?_
    show pm_PX _ _ _ _
    unfold sp_square
    repeat' split
    all_goals first | exact ⟨rfl, hI10, hh11⟩ | (exfalso; omega)
  · refine v_iload_n rfl rfl ?_
    refine v_callS rfl (W_X11_isColour c hR hI) rfl rfl rfl rfl rfl (by omega) (fun rv w12 hq13 => ?_)
    obtain ⟨⟨z14, rfl, z14p0⟩, rfl⟩ := hq13
    refine r_if_ne rfl (fun t15 => ?_) (fun t15 => ?_)
    · refine v_aload_n rfl rfl ?_
      refine v_get rfl h1 rfl ?_
      refine v_iload_n rfl rfl ?_
      refine v_iload_n rfl rfl ?_
      refine v_iload_n rfl rfl ?_
      refine v_callV rfl (c_paint x y c (by omega) (by omega) (by omega) (by omega) (by omega) (by omega) hI) rfl rfl h3 rfl rfl (by omega) (fun rv w16 hq17 => ?_)
      obtain ⟨rfl, hI18, hh19x⟩ := hq17
      have hh19 := hh.tr hh19x
      refine v_iret rfl ?_
      show pm_PX _ _ _ _
      unfold sp_square
      repeat' split
      all_goals first | exact ⟨rfl, hI18, hh19⟩ | (exfalso; omega)
    · refine v_aload_n rfl rfl ?_
      refine v_iconst (v := (-1)) rfl (by decide) ?_
      refine v_callV rfl (c_X_refuse (-1 : Int32) (by unfold pm_isR; first | decide | exact Or.inl rfl) hR hI) rfl rfl h1 rfl rfl (by omega) (fun rv w20 hq21 => ?_)
      obtain ⟨rfl, hI22, hh23x⟩ := hq21
      have hI22 : pm_IX gi ga w20 := hI22
      have hh23 := hh.tr hh23x
      refine v_iret rfl ?_
      show pm_PX _ _ _ _
      unfold sp_square
      repeat' split
      all_goals first | exact ⟨rfl, hI22, hh23⟩ | (exfalso; omega)
set_option maxRecDepth 100000 in
theorem c_M_at {sc : pm_S} {w : pm_W} {gi : Nat → Int32} {ga : Nat → List Int32} (x : Int32) (y : Int32)  (hR : pm_Rg gi ga) (hI : pm_IM gi ga w) : pm_Mt sc 2 124 3 [.ref 59, .int x, .int y] w (pm_PM w (sp_at gi ga x y)) := by
  intro d hd
  obtain ⟨g0a, g0b⟩ := hR.n0
  obtain ⟨g1a, g1b⟩ := hR.n1
  obtain ⟨g2a, g2b⟩ := hR.n2
  obtain ⟨g3a, g3b⟩ := hR.n3
  obtain ⟨g4a, g4b⟩ := hR.n4
  obtain ⟨g5a, g5b⟩ := hR.n5
  obtain ⟨g6a, g6b⟩ := hR.n6
  obtain ⟨g7a, g7b⟩ := hR.n7
  obtain ⟨g8a, g8b⟩ := hR.n8
  have km1 : (-1 : Int32).toInt = -1 := by decide
  show pm_V sc d 124 0 [.ref 59, .int x, .int y] [] w _
  have hh : pm_lo w w := pm_lo.rf
  refine v_aload_n rfl rfl ?_
  refine v_iload_n rfl rfl ?_
  refine v_iload_n rfl rfl ?_
  obtain ⟨v2, v3, v4, v5, v6, v7, v8, v9, ⟨v2z, v2e⟩, ⟨⟨v3a, v3b⟩, v3e⟩, ⟨⟨v4a, v4b⟩, v4e⟩, ⟨v6a, v6b⟩, ⟨v9a, v9b⟩, h1⟩ := hI.2.1 59 (by decide) (by decide)
  have v2z := v2z.imp i_eq.mp i_eq.mp
  rw [i_0, i_1] at v2z
  refine v_callV rfl (W_X12_isSquare_59 x y hR hI) rfl rfl h1 rfl rfl (by omega) (fun rv w10 hq11 => ?_)
  obtain ⟨⟨z12, rfl, z12p0⟩, rfl⟩ := hq11
  refine r_if_eq rfl (fun t13 => ?_) (fun t13 => ?_)
  · refine v_aload_n rfl rfl ?_
    refine v_iconst (v := (-1)) rfl (by decide) ?_
    refine v_callV rfl (c_M_refuse (-1 : Int32) (by unfold pm_isR; first | decide | exact Or.inl rfl) hR hI) rfl rfl h1 rfl rfl (by omega) (fun rv w14 hq15 => ?_)
    obtain ⟨rfl, hI16, hh17x⟩ := hq15
    have hI16 : pm_IM gi ga w14 := hI16
    have hh17 := hh.tr hh17x
    refine v_iret rfl ?_
    show pm_PM _ _ _ _
    unfold sp_at
    repeat' split
    all_goals first | exact ⟨rfl, hI16, hh17⟩ | (exfalso; omega)
  · refine v_aload_n rfl rfl ?_
    refine v_iload_n rfl rfl ?_
    refine v_iload_n rfl rfl ?_
    obtain ⟨sq19l, sq19r, h18⟩ := hI.2.1 60 (by decide) (by decide)
    refine v_callV rfl (W_X12_colour_59_x x y (ga 15) (by omega) (by omega) (by omega) (by omega) h18 sq19l hR hI) rfl rfl h1 rfl rfl (by omega) (fun rv w20 hq21 => ?_)
    obtain ⟨⟨z22, rfl, z22p0⟩, rfl⟩ := hq21
    have z22q : z22 = (ga 15).getD (20 * y.toInt.toNat + x.toInt.toNat) 0 := i_eq.mpr (by rw [z22p0, show (20 * y.toInt + x.toInt).toNat = (20 * y.toInt.toNat + x.toInt.toNat) by omega])
    subst z22q
    refine v_goto rfl ?_
    refine v_iret rfl ?_
    show pm_PM _ _ _ _
    unfold sp_at
    repeat' split
    all_goals first | exact ⟨rfl, hI, hh⟩ | (exfalso; omega)
set_option maxRecDepth 100000 in
theorem c_M_square {sc : pm_S} {w : pm_W} {gi : Nat → Int32} {ga : Nat → List Int32} (x : Int32) (y : Int32) (c : Int32)  (hR : pm_Rg gi ga) (hI : pm_IM gi ga w) : pm_Mt sc 2 122 5 [.ref 59, .int x, .int y, .int c] w (pm_PM w (sp_square gi ga x y c)) := by
  intro d hd
  obtain ⟨g0a, g0b⟩ := hR.n0
  obtain ⟨g1a, g1b⟩ := hR.n1
  obtain ⟨g2a, g2b⟩ := hR.n2
  obtain ⟨g3a, g3b⟩ := hR.n3
  obtain ⟨g4a, g4b⟩ := hR.n4
  obtain ⟨g5a, g5b⟩ := hR.n5
  obtain ⟨g6a, g6b⟩ := hR.n6
  obtain ⟨g7a, g7b⟩ := hR.n7
  obtain ⟨g8a, g8b⟩ := hR.n8
  have km1 : (-1 : Int32).toInt = -1 := by decide
  have k0 : (0 : Int32).toInt = 0 := by decide
  have k3 : (3 : Int32).toInt = 3 := by decide
  have k20 : (20 : Int32).toInt = 20 := by decide
  show pm_V sc d 122 0 [.ref 59, .int x, .int y, .int c, .null] [] w _
  have hh : pm_lo w w := pm_lo.rf
  refine v_aload_n rfl rfl ?_
  refine v_iload_n rfl rfl ?_
  refine v_iload_n rfl rfl ?_
  obtain ⟨v2, v3, v4, v5, v6, v7, v8, v9, ⟨v2z, v2e⟩, ⟨⟨v3a, v3b⟩, v3e⟩, ⟨⟨v4a, v4b⟩, v4e⟩, ⟨v6a, v6b⟩, ⟨v9a, v9b⟩, h1⟩ := hI.2.1 59 (by decide) (by decide)
  have v2z := v2z.imp i_eq.mp i_eq.mp
  rw [i_0, i_1] at v2z
  refine v_callV rfl (W_X12_isSquare_59 x y hR hI) rfl rfl h1 rfl rfl (by omega) (fun rv w10 hq11 => ?_)
  obtain ⟨⟨z12, rfl, z12p0⟩, rfl⟩ := hq11
  refine r_if_eq rfl (fun t13 => ?_) (fun t13 => ?_)
  · refine v_aload_n rfl rfl ?_
    refine v_iconst (v := (-1)) rfl (by decide) ?_
    refine v_callV rfl (c_M_refuse (-1 : Int32) (by unfold pm_isR; first | decide | exact Or.inl rfl) hR hI) rfl rfl h1 rfl rfl (by omega) (fun rv w14 hq15 => ?_)
    obtain ⟨rfl, hI16, hh17x⟩ := hq15
    have hI16 : pm_IM gi ga w14 := hI16
    have hh17 := hh.tr hh17x
    refine v_iret rfl ?_
    show pm_PM _ _ _ _
    unfold sp_square
    repeat' split
    all_goals first | exact ⟨rfl, hI16, hh17⟩ | (exfalso; omega)
  · refine v_iload_n rfl rfl ?_
    refine v_iconst (v := 0) rfl (by decide) ?_
    refine v_iconst (v := 3) rfl (by decide) ?_
    refine v_callS rfl (W_X12_in c (0 : Int32) (3 : Int32) hR hI) rfl rfl rfl rfl rfl (by omega) (fun rv w18 hq19 => ?_)
    obtain ⟨⟨z20, rfl, z20p0⟩, rfl⟩ := hq19
    refine r_if_ne rfl (fun t21 => ?_) (fun t21 => ?_)
    · refine v_aload_n rfl rfl ?_
      refine v_iload_n rfl rfl ?_
      refine v_iload_n rfl rfl ?_
      obtain ⟨sq23l, sq23r, h22⟩ := hI.2.1 60 (by decide) (by decide)
      refine v_callV rfl (W_X12_colour_59_x x y (ga 15) (by omega) (by omega) (by omega) (by omega) h22 sq23l hR hI) rfl rfl h1 rfl rfl (by omega) (fun rv w24 hq25 => ?_)
      obtain ⟨⟨z26, rfl, z26p0⟩, rfl⟩ := hq25
      have z26q : z26 = (ga 15).getD (20 * y.toInt.toNat + x.toInt.toNat) 0 := i_eq.mpr (by rw [z26p0, show (20 * y.toInt + x.toInt).toNat = (20 * y.toInt.toNat + x.toInt.toNat) by omega])
      subst z26q
      refine v_istore rfl (Nat.le_of_ble_eq_true rfl) ?_
      refine v_aload_n rfl rfl ?_
      refine v_get rfl h1 rfl ?_
      refine v_bipush (v := 20) rfl (by decide) ?_
      refine v_iload_n rfl rfl ?_
      refine r_imulL 20 rfl rfl (by omega) (by omega) (fun z27 z27e => ?_)
      refine v_iload_n rfl rfl ?_
      refine r_iadd rfl (by omega) (by omega) (fun z28 z28e => ?_)
      refine v_iload_n rfl rfl ?_
      have cl29 : sq_cl (ga 15) := ⟨sq23l, sq23r⟩
      refine v_iastore rfl h22 (r_nn (by omega)) (r_ix sq23l (by omega) (by omega)) ?_
      rw [show z28.toNatClampNeg = (20 * y.toInt.toNat + x.toInt.toNat) by rw [i_cl]; omega]
      have cl29s := cl29.set (k := (20 * y.toInt.toNat + x.toInt.toNat)) (c := c) (by omega) (by omega)
      have hI30 := hI.usq cl29s.1 cl29s.2
      have hh31 := hh.set (show 59 ≤ 60 by decide) (.inl (0, .inl ((ga 15).set (20 * y.toInt.toNat + x.toInt.toNat) c)))
      refine v_iload rfl rfl ?_
      refine v_iret rfl ?_
      show pm_PM _ _ _ _
      unfold sp_square
      repeat' split
      all_goals first | exact ⟨rfl, hI30, hh31⟩ | (exfalso; omega)
    · refine v_aload_n rfl rfl ?_
      refine v_iconst (v := (-1)) rfl (by decide) ?_
      refine v_callV rfl (c_M_refuse (-1 : Int32) (by unfold pm_isR; first | decide | exact Or.inl rfl) hR hI) rfl rfl h1 rfl rfl (by omega) (fun rv w32 hq33 => ?_)
      obtain ⟨rfl, hI34, hh35x⟩ := hq33
      have hI34 : pm_IM gi ga w32 := hI34
      have hh35 := hh.tr hh35x
      refine v_iret rfl ?_
      show pm_PM _ _ _ _
      unfold sp_square
      repeat' split
      all_goals first | exact ⟨rfl, hI34, hh35⟩ | (exfalso; omega)

