set_option maxRecDepth 100000 in
theorem W_X11_explained_0_x {sc : pm_S} {w w0 : pm_W} {gi : Nat → Int32} {ga : Nat → List Int32} (q : Int32)  (hR : pm_Rg gi ga) (hI : pm_IX gi ga w) (hh : pm_hi w0 w) (hO : sq_Oz (ga 15) (gi 0).toInt.toNat (gi 1).toInt.toNat) (hOc : sq_Oz (ga 24) (gi 10).toInt.toNat (gi 11).toInt.toNat) : pm_Mt sc 5 90 2 [.ref 0, .int q] w (fun rv w' => ∃ v : Int32, rv = some (.int v) ∧ ex_P gi ga (gi 10) (gi 11) (ga 24) q v ∧ pm_IX gi ga w' ∧ pm_hi w0 w') := by
  intro d hd
  obtain ⟨g0a, g0b⟩ := hR.n0
  obtain ⟨g1a, g1b⟩ := hR.n1
  obtain ⟨g2a, g2b⟩ := hR.n2
  obtain ⟨g3a, g3b⟩ := hR.n3
  obtain ⟨g4a, g4b⟩ := hR.n4
  obtain ⟨g5a, g5b⟩ := hR.n5
  obtain ⟨g6a, g6b⟩ := hR.n6
  obtain ⟨g7a, g7b⟩ := hR.n7
  obtain ⟨g8a, g8b⟩ := hR.n8
  have km3 : (-3 : Int32).toInt = -3 := by decide
  have km2 : (-2 : Int32).toInt = -2 := by decide
  have k3 : (3 : Int32).toInt = 3 := by decide
  show pm_V sc d 90 0 [.ref 0, .int q] [] w _
  have hcl : sq_cl (ga 15) := by obtain ⟨l2, r2, -⟩ := hI.2 2 (by decide); exact ⟨l2, r2⟩
  have hcl24 : sq_cl (ga 24) := by
    obtain ⟨xs15, -, ⟨-, l15, r15⟩, -⟩ := hI.2 15 (by decide)
    exact ⟨l15, r15⟩
  refine v_iload_n rfl rfl ?_
  refine v_iconst (v := 3) rfl (by decide) ?_
  refine v_callS rfl (W_X11_isPlace q (3 : Int32) hR hI) rfl rfl rfl rfl rfl (by omega) (fun rv w1 hq2 => ?_)
  obtain ⟨⟨z3, rfl, z3p0⟩, rfl⟩ := hq2
  refine r_if_ne rfl (fun t4 => ?_) (fun t4 => ?_)
  · refine v_aload_n rfl rfl ?_
    obtain ⟨v6, ⟨v6z, v6e⟩, h5⟩ := hI.2 0 (by decide)
    have v6z := v6z.imp i_eq.mp i_eq.mp
    rw [i_0, i_1] at v6z
    refine v_get rfl h5 rfl ?_
    have hv9 := congrArg Int32.toInt v6e
    refine r_if_eq rfl (fun t7 => ?_) (fun t7 => ?_)
    · refine v_aload_n rfl rfl ?_
      refine v_bipush (v := (-3)) rfl (by decide) ?_
      refine v_callV rfl (c_X_refuse (-3 : Int32) (by unfold pm_isR; first | decide | exact Or.inl rfl) hR hI) rfl rfl h5 rfl rfl (by omega) (fun rv w8 hq9 => ?_)
      obtain ⟨rfl, hI10, hh11x⟩ := hq9
      have hI10 : pm_IX gi ga w8 := hI10
      have hh11 := hh.tr hh11x
      exact v_iret rfl ⟨_, rfl, Or.inr (Or.inl ⟨by omega, by omega, by omega⟩), hI10, hh11⟩
    · refine v_aload_n rfl rfl ?_
      refine v_get rfl h5 rfl ?_
      refine v_aload_n rfl rfl ?_
      refine v_get rfl h5 rfl ?_
      obtain ⟨v13, v14, ⟨⟨v13a, v13b⟩, v13e⟩, ⟨⟨v14a, v14b⟩, v14e⟩, h12⟩ := hI.2 14 (by decide)
      refine v_callV rfl (W_X10_isAsLargeAs_14_1_e  hR hI) rfl rfl h12 rfl rfl (by omega) (fun rv w15 hq16 => ?_)
      obtain ⟨⟨z17, rfl, z17p0, z17p1, z17p2⟩, rfl⟩ := hq16
      skip
      refine r_if_ne rfl (fun t18 => ?_) (fun t18 => ?_)
      · refine v_aload_n rfl rfl ?_
        refine v_get rfl h5 rfl ?_
        refine v_aload_n rfl rfl ?_
        refine v_get rfl h5 rfl ?_
        obtain ⟨v20, ⟨v20a, v20b⟩, h19⟩ := hI.2 5 (by decide)
        refine v_callV rfl (W_X3_readFrom_5_1_x  hR hI hh) rfl rfl h19 rfl rfl (by omega) (fun rv w21 hq22 => ?_)
        obtain ⟨rfl, hI24, hh25, ⟨m26, fs27, os28, h29, h30, h31, fs27l, os28l, fs27r, os28r, m26a, m26b, m26k, cs32, h33, h34, cs32l, cs32e⟩⟩ := hq22
        refine v_aload_n rfl rfl ?_
        obtain ⟨v36, ⟨v36z, v36e⟩, h35⟩ := hI24.2 0 (by decide)
        have v36z := v36z.imp i_eq.mp i_eq.mp
        rw [i_0, i_1] at v36z
        refine v_get rfl h35 rfl ?_
        refine v_aload_n rfl rfl ?_
        refine v_get rfl h35 rfl ?_
        refine v_aload_n rfl rfl ?_
        refine v_get rfl h35 rfl ?_
        refine v_aload_n rfl rfl ?_
        refine v_get rfl h35 rfl ?_
        obtain ⟨v38, v39, v40, h37⟩ := hI24.2 20 (by decide)
        refine v_callV rfl (W_X4_find_20_1_5_14_e m26 cs32 os28 fs27 (by omega) (by omega) h29 h34 cs32l h31 os28l os28r h30 fs27l fs27r hR hI24 hh25 (by omega) (by omega)) rfl rfl h37 rfl rfl (by omega) (fun rv w41 hq42 => ?_)
        obtain ⟨rfl, hI9, hh9, ss9, k9, a9, b9, c9e, r9e, h9e⟩ := hq42
        refine v_iload_n rfl rfl ?_
        by_cases t43 : q.toInt = 0
        · refine v_look (t := 100) rfl (by rw [t43]; rfl) ?_
          refine v_aload_n rfl rfl ?_
          obtain ⟨v45, ⟨v45z, v45e⟩, h44⟩ := hI9.2 0 (by decide)
          have v45z := v45z.imp i_eq.mp i_eq.mp
          rw [i_0, i_1] at v45z
          refine v_get rfl h44 rfl ?_
          refine v_get rfl h9e rfl ?_
          exact v_iret rfl ⟨_, rfl, Or.inr (Or.inr ⟨by omega, by omega, fs27, os28, _, k9.toInt, a9.toInt, b9.toInt, m26k, ex_conv hcl hcl24 (by omega) (by omega) cs32e c9e hO (by rw [show (gi 0).toInt.toNat = (gi 10).toInt.toNat by omega, show (gi 1).toInt.toNat = (gi 11).toInt.toNat by omega]; exact hOc) (fun c hc => by have := (ck.bd m26k).2.1 c hc; omega) r9e, (by unfold ex_pick; rw [if_pos (by omega)])⟩), hI9, hh9⟩
        by_cases t46 : q.toInt = 1
        · refine v_look (t := 108) rfl (by rw [t46]; rfl) ?_
          refine v_aload_n rfl rfl ?_
          obtain ⟨v48, ⟨v48z, v48e⟩, h47⟩ := hI9.2 0 (by decide)
          have v48z := v48z.imp i_eq.mp i_eq.mp
          rw [i_0, i_1] at v48z
          refine v_get rfl h47 rfl ?_
          refine v_get rfl h9e rfl ?_
          exact v_iret rfl ⟨_, rfl, Or.inr (Or.inr ⟨by omega, by omega, fs27, os28, _, k9.toInt, a9.toInt, b9.toInt, m26k, ex_conv hcl hcl24 (by omega) (by omega) cs32e c9e hO (by rw [show (gi 0).toInt.toNat = (gi 10).toInt.toNat by omega, show (gi 1).toInt.toNat = (gi 11).toInt.toNat by omega]; exact hOc) (fun c hc => by have := (ck.bd m26k).2.1 c hc; omega) r9e, (by unfold ex_pick; rw [if_neg (by omega), if_pos (by omega)])⟩), hI9, hh9⟩
        refine v_look (t := 116) rfl (by rw [show q.toInt = 2 by omega]; rfl) ?_
        refine v_aload_n rfl rfl ?_
        obtain ⟨v50, ⟨v50z, v50e⟩, h49⟩ := hI9.2 0 (by decide)
        have v50z := v50z.imp i_eq.mp i_eq.mp
        rw [i_0, i_1] at v50z
        refine v_get rfl h49 rfl ?_
        refine v_get rfl h9e rfl ?_
        exact v_iret rfl ⟨_, rfl, Or.inr (Or.inr ⟨by omega, by omega, fs27, os28, _, k9.toInt, a9.toInt, b9.toInt, m26k, ex_conv hcl hcl24 (by omega) (by omega) cs32e c9e hO (by rw [show (gi 0).toInt.toNat = (gi 10).toInt.toNat by omega, show (gi 1).toInt.toNat = (gi 11).toInt.toNat by omega]; exact hOc) (fun c hc => by have := (ck.bd m26k).2.1 c hc; omega) r9e, (by unfold ex_pick; rw [if_neg (by omega), if_neg (by omega)])⟩), hI9, hh9⟩
      · refine v_aload_n rfl rfl ?_
        refine v_bipush (v := (-3)) rfl (by decide) ?_
        refine v_callV rfl (c_X_refuse (-3 : Int32) (by unfold pm_isR; first | decide | exact Or.inl rfl) hR hI) rfl rfl h5 rfl rfl (by omega) (fun rv w51 hq52 => ?_)
        obtain ⟨rfl, hI53, hh54x⟩ := hq52
        have hI53 : pm_IX gi ga w51 := hI53
        have hh54 := hh.tr hh54x
        exact v_iret rfl ⟨_, rfl, Or.inr (Or.inl ⟨by omega, by omega, by omega⟩), hI53, hh54⟩
  · refine v_aload_n rfl rfl ?_
    refine v_bipush (v := (-2)) rfl (by decide) ?_
    obtain ⟨v56, ⟨v56z, v56e⟩, h55⟩ := hI.2 0 (by decide)
    have v56z := v56z.imp i_eq.mp i_eq.mp
    rw [i_0, i_1] at v56z
    refine v_callV rfl (c_X_refuse (-2 : Int32) (by unfold pm_isR; first | decide | exact Or.inl rfl) hR hI) rfl rfl h55 rfl rfl (by omega) (fun rv w57 hq58 => ?_)
    obtain ⟨rfl, hI59, hh60x⟩ := hq58
    have hI59 : pm_IX gi ga w57 := hI59
    have hh60 := hh.tr hh60x
    exact v_iret rfl ⟨_, rfl, Or.inl ⟨by omega, by omega⟩, hI59, hh60⟩

