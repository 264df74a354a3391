theorem pm_IX.u15 {gi : Nat → Int32} {ga : Nat → List Int32} {w : pm_W} (h : pm_IX gi ga w) {ds : List Int32} (l : ds.length = 400) (r : ∀ x ∈ ds, pm_rng x 0 3) : pm_IX gi (pm_uA ga 24 ds) (w.set 15 (.inl (2, .inr (.inl (pm_enc ds))))) := h.uA 15 24 (by decide +kernel) (by decide +kernel) ⟨_, pm_enc_len, ⟨by rw [pm_uA_self], by rw [pm_uA_self]; exact l, by rw [pm_uA_self]; exact r⟩, rfl⟩
set_option maxRecDepth 100000 in
theorem c_paint14 {sc : pm_S} {w : pm_W} {gi : Nat → Int32} {ga : Nat → List Int32} (x y c : Int32) (x0 : 0 ≤ x.toInt) (x1 : x.toInt < 20) (y0 : 0 ≤ y.toInt) (y1 : y.toInt < 20) (c0 : 0 ≤ c.toInt) (c1 : c.toInt < 4) (hI : pm_IX gi ga w) : pm_Mt sc 1 64 5 [.ref 14, .int x, .int y, .int c] w (fun rv w' => rv = some (.int ((ga 24).getD (20 * y.toInt.toNat + x.toInt.toNat) 0)) ∧ pm_IX gi (pm_uA ga 24 ((ga 24).set (20 * y.toInt.toNat + x.toInt.toNat) c)) w' ∧ pm_hi w w' ∧ ∀ k, k ≠ 15 → w'[k]? = w[k]?) := by
  intro d hd
  show pm_V sc d 64 0 _ [] w _
  obtain ⟨v0, v1, -, -, h1⟩ := hI.2 14 (by decide)
  obtain ⟨xs, -, ⟨e2, l2, r2⟩, h2⟩ := hI.2 15 (by decide)
  subst e2
  have hcl : sq_cl (ga 24) := ⟨l2, r2⟩
  refine v_aload_n rfl rfl ?_
  refine v_iload_n rfl rfl ?_
  refine v_iload_n rfl rfl ?_
  refine v_callV rfl (c_colourAt h1 h2 pm_enc_len x y y0 y1) rfl rfl h1 rfl rfl (by omega) (fun rv w1 hq => ?_)
  obtain ⟨rfl, rfl⟩ := hq
  rw [pm_col_enc hcl x0 x1 y0 y1]
  refine v_istore rfl (Nat.le_of_ble_eq_true rfl) ?_
  refine v_aload_n rfl rfl ?_
  refine v_get rfl h1 rfl ?_
  refine v_iload_n rfl rfl ?_
  refine v_dup2 rfl rfl ?_
  obtain ⟨z, hz⟩ : ∃ z, (pm_enc (ga 24))[y.toNatClampNeg]? = some z := ⟨_, List.getElem?_eq_getElem (by rw [pm_enc_len, i_cl]; omega)⟩
  refine v_laload rfl h2 (r_nn y0) hz ?_
  refine v_iload rfl rfl ?_
  refine v_iload_n rfl rfl ?_
  refine v_ixor rfl ?_
  refine v_i2l rfl ?_
  refine v_iconst (v := 2) rfl (by decide) ?_
  refine v_iload_n rfl rfl ?_
  refine v_imul rfl ?_
  refine v_lshl rfl ?_
  refine v_lxor rfl ?_
  refine v_lastore rfl h2 (r_nn y0) (by rw [pm_enc_len, i_cl]; omega) ?_
  rw [pm_paint_enc hcl x0 x1 y0 y1 c0 c1 hz]
  refine v_iload rfl rfl ?_
  have hs := hcl.set (k := (20 * y.toInt.toNat + x.toInt.toNat)) c0 (show c.toInt ≤ 3 by omega)
  exact v_iret rfl ⟨rfl, hI.u15 hs.1 hs.2, pm_hi.rf.set (by decide) _, fun k hk => List.getElem?_set_ne (Ne.symm hk)⟩
def se_P (gi : Nat → Int32) (ga ga' : Nat → List Int32) (n : Nat) (W H x y c v : Int32) : Prop := (¬ (gi 9).toInt = 1 ∧ v = -3 ∧ ga' = ga) ∨ ((gi 9).toInt = 1 ∧ ¬ (0 ≤ x.toInt ∧ x.toInt < W.toInt ∧ 0 ≤ y.toInt ∧ y.toInt < H.toInt ∧ 0 ≤ c.toInt ∧ c.toInt < 4) ∧ v = -1 ∧ ga' = ga) ∨ ((gi 9).toInt = 1 ∧ (0 ≤ x.toInt ∧ x.toInt < W.toInt ∧ 0 ≤ y.toInt ∧ y.toInt < H.toInt ∧ 0 ≤ c.toInt ∧ c.toInt < 4) ∧ v = (ga n).getD (20 * y.toInt.toNat + x.toInt.toNat) 0 ∧ ga' = pm_uA ga n ((ga n).set (20 * y.toInt.toNat + x.toInt.toNat) c))
set_option maxRecDepth 100000 in
theorem W_X11_see_0_x {sc : pm_S} {w w0 : pm_W} {gi : Nat → Int32} {ga : Nat → List Int32} (x : Int32) (y : Int32) (c : Int32)  (hR : pm_Rg gi ga) (hI : pm_IX gi ga w) (hh : pm_hi w0 w) : pm_Mt sc 2 89 4 [.ref 0, .int x, .int y, .int c] w (fun rv w' => ∃ v ga', rv = some (.int v) ∧ se_P gi ga ga' 24 (gi 10) (gi 11) x y c v ∧ pm_IX gi ga' w' ∧ pm_hi w0 w') := by
  intro d hd
  obtain ⟨g0a, g0b⟩ := hR.n0
  obtain ⟨g1a, g1b⟩ := hR.n1
  obtain ⟨g2a, g2b⟩ := hR.n2
  obtain ⟨g3a, g3b⟩ := hR.n3
  obtain ⟨g4a, g4b⟩ := hR.n4
  obtain ⟨g5a, g5b⟩ := hR.n5
  obtain ⟨g6a, g6b⟩ := hR.n6
  obtain ⟨g7a, g7b⟩ := hR.n7
  obtain ⟨g8a, g8b⟩ := hR.n8
  have km3 : (-3 : Int32).toInt = -3 := by decide
  have km1 : (-1 : Int32).toInt = -1 := by decide
  show pm_V sc d 89 0 [.ref 0, .int x, .int y, .int c] [] w _
  refine v_aload_n rfl rfl ?_
  obtain ⟨v2, ⟨v2z, v2e⟩, h1⟩ := hI.2 0 (by decide)
  have v2z := v2z.imp i_eq.mp i_eq.mp
  rw [i_0, i_1] at v2z
  refine v_get rfl h1 rfl ?_
  have hv9 := congrArg Int32.toInt v2e
  refine r_if_ne rfl (fun t3 => ?_) (fun t3 => ?_)
  · refine v_aload_n rfl rfl ?_
    refine v_get rfl h1 rfl ?_
    refine v_iload_n rfl rfl ?_
    refine v_iload_n rfl rfl ?_
    obtain ⟨v5, v6, ⟨⟨v5a, v5b⟩, v5e⟩, ⟨⟨v6a, v6b⟩, v6e⟩, h4⟩ := hI.2 14 (by decide)
    refine v_callV rfl (W_X10_has_14 x y v5 v6 (by omega) (by omega) (by omega) (by omega) h4 hR hI) rfl rfl h4 rfl rfl (by omega) (fun rv w7 hq8 => ?_)
    obtain ⟨⟨z9, rfl, z9p0⟩, rfl⟩ := hq8
    have hv0 := congrArg Int32.toInt v5e
    have hv1 := congrArg Int32.toInt v6e
    refine r_if_eq rfl (fun t10 => ?_) (fun t10 => ?_)
    · refine v_aload_n rfl rfl ?_
      refine v_iconst (v := (-1)) rfl (by decide) ?_
      refine v_callV rfl (c_X_refuse (-1 : Int32) (by unfold pm_isR; first | decide | exact Or.inl rfl) hR hI) rfl rfl h1 rfl rfl (by omega) (fun rv w11 hq12 => ?_)
      obtain ⟨rfl, hI13, hh14x⟩ := hq12
      have hI13 : pm_IX gi ga w11 := hI13
      have hh14 := hh.tr hh14x
      exact v_iret rfl ⟨_, ga, rfl, Or.inr (Or.inl ⟨by omega, by omega, rfl, rfl⟩), hI13, hh14⟩
    · refine v_iload_n rfl rfl ?_
      refine v_callS rfl (W_X11_isColour c hR hI) rfl rfl rfl rfl rfl (by omega) (fun rv w15 hq16 => ?_)
      obtain ⟨⟨z17, rfl, z17p0⟩, rfl⟩ := hq16
      refine r_if_ne rfl (fun t18 => ?_) (fun t18 => ?_)
      · refine v_aload_n rfl rfl ?_
        refine v_get rfl h1 rfl ?_
        refine v_iload_n rfl rfl ?_
        refine v_iload_n rfl rfl ?_
        refine v_iload_n rfl rfl ?_
        refine v_callV rfl (c_paint14 x y c (by omega) (by omega) (by omega) (by omega) (by omega) (by omega) hI) rfl rfl h4 rfl rfl (by omega) (fun rv w19 hq20 => ?_)
        obtain ⟨rfl, hI9, hx9, -⟩ := hq20
        have hh9 := hh.tr hx9
        exact v_iret rfl ⟨_, _, rfl, Or.inr (Or.inr ⟨by omega, by omega, rfl, rfl⟩), hI9, hh9⟩
      · refine v_aload_n rfl rfl ?_
        refine v_iconst (v := (-1)) rfl (by decide) ?_
        refine v_callV rfl (c_X_refuse (-1 : Int32) (by unfold pm_isR; first | decide | exact Or.inl rfl) hR hI) rfl rfl h1 rfl rfl (by omega) (fun rv w21 hq22 => ?_)
        obtain ⟨rfl, hI23, hh24x⟩ := hq22
        have hI23 : pm_IX gi ga w21 := hI23
        have hh24 := hh.tr hh24x
        exact v_iret rfl ⟨_, ga, rfl, Or.inr (Or.inl ⟨by omega, by omega, rfl, rfl⟩), hI23, hh24⟩
  · refine v_aload_n rfl rfl ?_
    refine v_bipush (v := (-3)) rfl (by decide) ?_
    refine v_callV rfl (c_X_refuse (-3 : Int32) (by unfold pm_isR; first | decide | exact Or.inl rfl) hR hI) rfl rfl h1 rfl rfl (by omega) (fun rv w25 hq26 => ?_)
    obtain ⟨rfl, hI27, hh28x⟩ := hq26
    have hI27 : pm_IX gi ga w25 := hI27
    have hh28 := hh.tr hh28x
    exact v_iret rfl ⟨_, ga, rfl, Or.inl ⟨by omega, rfl, rfl⟩, hI27, hh28⟩
set_option maxRecDepth 100000 in
theorem W_X12_see_59_x {sc : pm_S} {w w0 : pm_W} {gi : Nat → Int32} {ga : Nat → List Int32} (x : Int32) (y : Int32) (c : Int32)  (hR : pm_Rg gi ga) (hI : pm_IM gi ga w) (hh : pm_lo w0 w) : pm_Mt sc 2 156 5 [.ref 59, .int x, .int y, .int c] w (fun rv w' => ∃ v ga', rv = some (.int v) ∧ se_P gi ga ga' 27 (gi 12) (gi 13) x y c v ∧ pm_IM gi ga' w' ∧ pm_lo w0 w') := by
  intro d hd
  obtain ⟨g0a, g0b⟩ := hR.n0
  obtain ⟨g1a, g1b⟩ := hR.n1
  obtain ⟨g2a, g2b⟩ := hR.n2
  obtain ⟨g3a, g3b⟩ := hR.n3
  obtain ⟨g4a, g4b⟩ := hR.n4
  obtain ⟨g5a, g5b⟩ := hR.n5
  obtain ⟨g6a, g6b⟩ := hR.n6
  obtain ⟨g7a, g7b⟩ := hR.n7
  obtain ⟨g8a, g8b⟩ := hR.n8
  have km3 : (-3 : Int32).toInt = -3 := by decide
  have km1 : (-1 : Int32).toInt = -1 := by decide
  have k0 : (0 : Int32).toInt = 0 := by decide
  have k3 : (3 : Int32).toInt = 3 := by decide
  have k20 : (20 : Int32).toInt = 20 := by decide
  show pm_V sc d 156 0 [.ref 59, .int x, .int y, .int c, .null] [] w _
  refine v_aload_n rfl rfl ?_
  obtain ⟨v2, v3, v4, v5, v6, v7, v8, v9, ⟨v2z, v2e⟩, ⟨⟨v3a, v3b⟩, v3e⟩, ⟨⟨v4a, v4b⟩, v4e⟩, ⟨v6a, v6b⟩, ⟨v9a, v9b⟩, h1⟩ := hI.2.1 59 (by decide) (by decide)
  have v2z := v2z.imp i_eq.mp i_eq.mp
  rw [i_0, i_1] at v2z
  refine v_get rfl h1 rfl ?_
  have hv9 := congrArg Int32.toInt v2e
  refine r_if_ne rfl (fun t10 => ?_) (fun t10 => ?_)
  · refine v_aload_n rfl rfl ?_
    refine v_iload_n rfl rfl ?_
    refine v_iload_n rfl rfl ?_
    refine v_callV rfl (W_X12_isCloth_59 x y v2 v3 v4 v5 v6 v7 v8 v9 (by omega) (by omega) (by omega) (by omega) (by omega) (by omega) (by omega) (by omega) (by omega) (by omega) h1 hR hI) rfl rfl h1 rfl rfl (by omega) (fun rv w11 hq12 => ?_)
    obtain ⟨⟨z13, rfl, z13p0⟩, rfl⟩ := hq12
    have hv0 := congrArg Int32.toInt v3e
    have hv1 := congrArg Int32.toInt v4e
    refine r_if_eq rfl (fun t14 => ?_) (fun t14 => ?_)
    · refine v_aload_n rfl rfl ?_
      refine v_iconst (v := (-1)) rfl (by decide) ?_
      refine v_callV rfl (c_M_refuse (-1 : Int32) (by unfold pm_isR; first | decide | exact Or.inl rfl) hR hI) rfl rfl h1 rfl rfl (by omega) (fun rv w15 hq16 => ?_)
      obtain ⟨rfl, hI17, hh18x⟩ := hq16
      have hI17 : pm_IM gi ga w15 := hI17
      have hh18 := hh.tr hh18x
      exact v_iret rfl ⟨_, ga, rfl, Or.inr (Or.inl ⟨by omega, by omega, rfl, rfl⟩), hI17, hh18⟩
    · refine v_iload_n rfl rfl ?_
      refine v_iconst (v := 0) rfl (by decide) ?_
      refine v_iconst (v := 3) rfl (by decide) ?_
      refine v_callS rfl (W_X12_in c (0 : Int32) (3 : Int32) hR hI) rfl rfl rfl rfl rfl (by omega) (fun rv w19 hq20 => ?_)
      obtain ⟨⟨z21, rfl, z21p0⟩, rfl⟩ := hq20
      refine r_if_ne rfl (fun t22 => ?_) (fun t22 => ?_)
      · refine v_aload_n rfl rfl ?_
        refine v_get rfl h1 rfl ?_
        refine v_bipush (v := 20) rfl (by decide) ?_
        refine v_iload_n rfl rfl ?_
        refine r_imulL 20 rfl rfl (by omega) (by omega) (fun z23 z23e => ?_)
        refine v_iload_n rfl rfl ?_
        refine r_iadd rfl (by omega) (by omega) (fun z24 z24e => ?_)
        obtain ⟨xs26, xs26l, xs26e, h25⟩ := hI.2.1 61 (by decide) (by decide)
        have xs26e : xs26 = (ga 27) := xs26e
        subst xs26e
        refine r_iaload rfl h25 xs26l (by omega) (by omega) (fun z27 z27m z27g => ?_)
        have hz48 : z27 = (ga 27).getD (20 * y.toInt.toNat + x.toInt.toNat) 0 := by rw [z27g, show z24.toInt.toNat = (20 * y.toInt.toNat + x.toInt.toNat) by omega]
        refine v_istore rfl (Nat.le_of_ble_eq_true rfl) ?_
        refine v_aload_n rfl rfl ?_
        refine v_get rfl h1 rfl ?_
        refine v_bipush (v := 20) rfl (by decide) ?_
        refine v_iload_n rfl rfl ?_
        refine r_imulL 20 rfl rfl (by omega) (by omega) (fun z28 z28e => ?_)
        refine v_iload_n rfl rfl ?_
        refine r_iadd rfl (by omega) (by omega) (fun z29 z29e => ?_)
        refine v_iload_n rfl rfl ?_
        refine v_iastore rfl h25 (r_nn (by omega)) (r_ix xs26l (by omega) (by omega)) ?_
        rw [show z29.toNatClampNeg = (20 * y.toInt.toNat + x.toInt.toNat) by rw [i_cl]; omega]
        refine r_gen (fun w30 e31 => ?_)
        have hI9 : pm_IM gi (pm_uA ga 27 ((ga 27).set (20 * y.toInt.toNat + x.toInt.toNat) c)) w30 := by rw [e31]; exact hI.uA 61 27 (by decide +kernel) (by decide +kernel) (by decide +kernel) (by decide +kernel) (by decide +kernel) ⟨_, by rw [List.length_set]; exact xs26l, pm_uA_self.symm, rfl⟩
        have hh9 : pm_lo w0 w30 := by rw [e31]; exact hh.set (by decide) _
        refine v_iload rfl rfl ?_
        exact v_iret rfl ⟨_, _, rfl, Or.inr (Or.inr ⟨by omega, by omega, hz48, rfl⟩), hI9, hh9⟩
      · refine v_aload_n rfl rfl ?_
        refine v_iconst (v := (-1)) rfl (by decide) ?_
        refine v_callV rfl (c_M_refuse (-1 : Int32) (by unfold pm_isR; first | decide | exact Or.inl rfl) hR hI) rfl rfl h1 rfl rfl (by omega) (fun rv w32 hq33 => ?_)
        obtain ⟨rfl, hI34, hh35x⟩ := hq33
        have hI34 : pm_IM gi ga w32 := hI34
        have hh35 := hh.tr hh35x
        exact v_iret rfl ⟨_, ga, rfl, Or.inr (Or.inl ⟨by omega, by omega, rfl, rfl⟩), hI34, hh35⟩
  · refine v_aload_n rfl rfl ?_
    refine v_bipush (v := (-3)) rfl (by decide) ?_
    refine v_callV rfl (c_M_refuse (-3 : Int32) (by unfold pm_isR; first | decide | exact Or.inl rfl) hR hI) rfl rfl h1 rfl rfl (by omega) (fun rv w36 hq37 => ?_)
    obtain ⟨rfl, hI38, hh39x⟩ := hq37
    have hI38 : pm_IM gi ga w36 := hI38
    have hh39 := hh.tr hh39x
    exact v_iret rfl ⟨_, ga, rfl, Or.inl ⟨by omega, rfl, rfl⟩, hI38, hh39⟩
