set_option maxRecDepth 100000 in
theorem W_X12_faultMany_59 {sc : pm_S} {w : pm_W} {gi : Nat → Int32} {ga : Nat → List Int32}   (hR : pm_Rg gi ga) (hI : pm_IM gi ga w) : pm_Mt sc 0 147 3 [.ref 59] w (fun rv w' => pm_wI (fun v => True) rv ∧ w = w') := by
  intro d hd
  obtain ⟨g0a, g0b⟩ := hR.n0
  obtain ⟨g1a, g1b⟩ := hR.n1
  obtain ⟨g2a, g2b⟩ := hR.n2
  obtain ⟨g3a, g3b⟩ := hR.n3
  obtain ⟨g4a, g4b⟩ := hR.n4
  obtain ⟨g5a, g5b⟩ := hR.n5
  obtain ⟨g6a, g6b⟩ := hR.n6
  obtain ⟨g7a, g7b⟩ := hR.n7
  obtain ⟨g8a, g8b⟩ := hR.n8
  have k0 : (0 : Int32).toInt = 0 := by decide
  have k1 : (1 : Int32).toInt = 1 := by decide
  have k4 : (4 : Int32).toInt = 4 := by decide
  show pm_V sc d 147 0 [.ref 59, .null, .null] [] w _
  refine v_iconst (v := 0) rfl (by decide) ?_
  refine v_istore_n rfl (Nat.le_of_ble_eq_true rfl) ?_
  refine v_iconst (v := 1) rfl (by decide) ?_
  refine v_istore_n rfl (Nat.le_of_ble_eq_true rfl) ?_
  have L3 : ∀ (n3 : Nat) (l1 : Int32) (l2 : Int32), 1 ≤ l2.toInt → l2.toInt ≤ 4 → (4 - l2.toInt).toNat < n3 → pm_V sc d 147 4 [.ref 59, .int l1, .int l2] [] w (fun rv w' => pm_wI (fun v => True) rv ∧ w = w') := by
    intro n3
    induction n3 with
    | zero => intro l1 l2 t5 t6 hm4; exact absurd hm4 (Nat.not_lt_zero _)
    | succ n3 ih4_3 =>
      intro l1 l2 t5 t6 hm4
      refine v_iload_n rfl rfl ?_
      refine v_iconst (v := 4) rfl (by decide) ?_
      refine r_icmp_ge rfl (fun t7 => ?_) (fun t7 => ?_)
      · refine v_iload_n rfl rfl ?_
        exact v_iret rfl ⟨⟨_, rfl, trivial⟩, rfl⟩
      · refine v_iload_n rfl rfl ?_
        refine v_aload_n rfl rfl ?_
        obtain ⟨v9, v10, v11, v12, v13, v14, v15, v16, ⟨v9z, v9e⟩, ⟨⟨v10a, v10b⟩, v10e⟩, ⟨⟨v11a, v11b⟩, v11e⟩, ⟨v13a, v13b⟩, ⟨v16a, v16b⟩, h8⟩ := hI.2.1 59 (by decide) (by decide)
        have v9z := v9z.imp i_eq.mp i_eq.mp
        rw [i_0, i_1] at v9z
        refine v_get rfl h8 rfl ?_
        refine v_iload_n rfl rfl ?_
        obtain ⟨h17A, h17B, h17C, h17D, h17F⟩ := hI.flt
        have h17A : w[62]? = some (.inl (0, .inl (ga 25))) := h17A
        have h17C : List.length (ga 25) = 4 := h17C
        have h17B : w[63]? = some (.inl (0, .inl (ga 26))) := h17B
        have h17D : List.length (ga 26) = 4 := h17D
        refine r_iaload rfl h17A h17C (by omega) (by omega) (fun z18 z18m z18g => ?_)
        refine r_if_lt rfl (fun t19 => ?_) (fun t19 => ?_)
        · refine v_iconst (v := 0) rfl (by decide) ?_
          refine u_iadd rfl (fun z20 => ?_)
          refine v_istore_n rfl (Nat.le_of_ble_eq_true rfl) ?_
          refine r_iinc rfl rfl (by decide) (by omega) (by omega) (fun z21 z21e => ?_)
          refine v_goto rfl ?_
          exact ih4_3 z20 z21 (by omega) (by omega) (by omega)
        · refine v_iconst (v := 1) rfl (by decide) ?_
          refine v_goto rfl ?_
          refine u_iadd rfl (fun z22 => ?_)
          refine v_istore_n rfl (Nat.le_of_ble_eq_true rfl) ?_
          refine r_iinc rfl rfl (by decide) (by omega) (by omega) (fun z23 z23e => ?_)
          refine v_goto rfl ?_
          exact ih4_3 z22 z23 (by omega) (by omega) (by omega)
  exact L3 _ (0 : Int32) (1 : Int32) (by omega) (by omega) (Nat.lt_add_one _)
set_option maxRecDepth 100000 in
theorem W_X12_isCloth_59 {sc : pm_S} {w : pm_W} {gi : Nat → Int32} {ga : Nat → List Int32} (x : Int32) (y : Int32) (c59_4 : Int32) (c59_5 : Int32) (c59_6 : Int32) (c59_14 : Int32) (c59_35 : Int32) (c59_39 : Int32) (c59_40 : Int32) (c59_42 : Int32) (p0 : 0 ≤ c59_4.toInt) (p1 : c59_4.toInt ≤ 1) (p2 : 0 ≤ c59_5.toInt) (p3 : c59_5.toInt ≤ 20) (p4 : 0 ≤ c59_6.toInt) (p5 : c59_6.toInt ≤ 20) (p6 : 0 ≤ c59_35.toInt) (p7 : c59_35.toInt ≤ 20) (p8 : 0 ≤ c59_42.toInt) (p9 : c59_42.toInt ≤ 12) (hc59 : w[59]? = some (.inr (12, [.int (gi 0), .int (gi 1), .ref 60, .int (gi 2), .int c59_4, .int c59_5, .int c59_6, .ref 61, .ref 62, .ref 63, .int (gi 5), .int (gi 3), .int (gi 4), .int (gi 6), .int c59_14, .int (gi 7), .ref 64, .ref 65, .ref 66, .ref 67, .int (gi 8), .ref 68, .ref 69, .ref 70, .ref 71, .ref 72, .ref 73, .ref 74, .ref 75, .ref 76, .ref 77, .ref 78, .ref 79, .ref 80, .ref 81, .int c59_35, .ref 82, .ref 83, .ref 84, .int c59_39, .int c59_40, .ref 85, .int c59_42, .ref 86, .ref 87]))) (hR : pm_Rg gi ga) (hI : pm_IM gi ga w) : pm_Mt sc 1 154 3 [.ref 59, .int x, .int y] w (fun rv w' => pm_wI (fun v => ((v.toInt = 1 ∧ 0 ≤ x.toInt ∧ x.toInt < c59_5.toInt ∧ 0 ≤ y.toInt ∧ y.toInt < c59_6.toInt) ∨ (v.toInt = 0 ∧ (x.toInt < 0 ∨ y.toInt < 0 ∨ c59_5.toInt ≤ x.toInt ∨ c59_6.toInt ≤ y.toInt)))) rv ∧ w = w') := by
  intro d hd
  obtain ⟨g0a, g0b⟩ := hR.n0
  obtain ⟨g1a, g1b⟩ := hR.n1
  obtain ⟨g2a, g2b⟩ := hR.n2
  obtain ⟨g3a, g3b⟩ := hR.n3
  obtain ⟨g4a, g4b⟩ := hR.n4
  obtain ⟨g5a, g5b⟩ := hR.n5
  obtain ⟨g6a, g6b⟩ := hR.n6
  obtain ⟨g7a, g7b⟩ := hR.n7
  obtain ⟨g8a, g8b⟩ := hR.n8
  have k0 : (0 : Int32).toInt = 0 := by decide
  have k1 : (1 : Int32).toInt = 1 := by decide
  show pm_V sc d 154 0 [.ref 59, .int x, .int y] [] w _
  refine v_iload_n rfl rfl ?_
  refine v_iconst (v := 0) rfl (by decide) ?_
  refine v_aload_n rfl rfl ?_
  refine v_get rfl hc59 rfl ?_
  refine v_iconst (v := 1) rfl (by decide) ?_
  refine r_isub rfl (by omega) (by omega) (fun z1 z1e => ?_)
  refine v_callS rfl (W_X12_in x (0 : Int32) z1 hR hI) rfl rfl rfl rfl rfl (by omega) (fun rv w2 hq3 => ?_)
  obtain ⟨⟨z4, rfl, z4p0⟩, rfl⟩ := hq3
  refine r_if_eq rfl (fun t5 => ?_) (fun t5 => ?_)
  · refine v_iconst (v := 0) rfl (by decide) ?_
    exact r_zret rfl (by omega) ⟨⟨_, rfl, (by omega)⟩, rfl⟩
  · refine v_iload_n rfl rfl ?_
    refine v_iconst (v := 0) rfl (by decide) ?_
    refine v_aload_n rfl rfl ?_
    refine v_get rfl hc59 rfl ?_
    refine v_iconst (v := 1) rfl (by decide) ?_
    refine r_isub rfl (by omega) (by omega) (fun z6 z6e => ?_)
    refine v_callS rfl (W_X12_in y (0 : Int32) z6 hR hI) rfl rfl rfl rfl rfl (by omega) (fun rv w7 hq8 => ?_)
    obtain ⟨⟨z9, rfl, z9p0⟩, rfl⟩ := hq8
    refine r_if_eq rfl (fun t10 => ?_) (fun t10 => ?_)
    · refine v_iconst (v := 0) rfl (by decide) ?_
      exact r_zret rfl (by omega) ⟨⟨_, rfl, (by omega)⟩, rfl⟩
    · refine v_iconst (v := 1) rfl (by decide) ?_
      refine v_goto rfl ?_
      exact r_zret rfl (by omega) ⟨⟨_, rfl, (by omega)⟩, rfl⟩
set_option maxRecDepth 100000 in
theorem W_X12_cloth_59 {sc : pm_S} {w w0 : pm_W} {gi : Nat → Int32} {ga : Nat → List Int32} (x : Int32) (y : Int32)  (hR : pm_Rg gi ga) (hI : pm_IM gi ga w) (hh : pm_lo w0 w) : pm_Mt sc 2 155 3 [.ref 59, .int x, .int y] w (fun rv w' => pm_wI (fun v => True) rv ∧ pm_IM gi ga w' ∧ pm_lo w0 w') := by
  intro d hd
  obtain ⟨g0a, g0b⟩ := hR.n0
  obtain ⟨g1a, g1b⟩ := hR.n1
  obtain ⟨g2a, g2b⟩ := hR.n2
  obtain ⟨g3a, g3b⟩ := hR.n3
  obtain ⟨g4a, g4b⟩ := hR.n4
  obtain ⟨g5a, g5b⟩ := hR.n5
  obtain ⟨g6a, g6b⟩ := hR.n6
  obtain ⟨g7a, g7b⟩ := hR.n7
  obtain ⟨g8a, g8b⟩ := hR.n8
  have km3 : (-3 : Int32).toInt = -3 := by decide
  have km1 : (-1 : Int32).toInt = -1 := by decide
  have k20 : (20 : Int32).toInt = 20 := by decide
  show pm_V sc d 155 0 [.ref 59, .int x, .int y] [] w _
  refine v_aload_n rfl rfl ?_
  obtain ⟨v2, v3, v4, v5, v6, v7, v8, v9, ⟨v2z, v2e⟩, ⟨⟨v3a, v3b⟩, v3e⟩, ⟨⟨v4a, v4b⟩, v4e⟩, ⟨v6a, v6b⟩, ⟨v9a, v9b⟩, h1⟩ := hI.2.1 59 (by decide) (by decide)
  have v2z := v2z.imp i_eq.mp i_eq.mp
  rw [i_0, i_1] at v2z
  refine v_get rfl h1 rfl ?_
  refine r_if_ne rfl (fun t10 => ?_) (fun t10 => ?_)
  · refine v_aload_n rfl rfl ?_
    refine v_iload_n rfl rfl ?_
    refine v_iload_n rfl rfl ?_
    refine v_callV rfl (W_X12_isCloth_59 x y v2 v3 v4 v5 v6 v7 v8 v9 (by omega) (by omega) (by omega) (by omega) (by omega) (by omega) (by omega) (by omega) (by omega) (by omega) h1 hR hI) rfl rfl h1 rfl rfl (by omega) (fun rv w11 hq12 => ?_)
    obtain ⟨⟨z13, rfl, z13p0⟩, rfl⟩ := hq12
    refine r_if_eq rfl (fun t14 => ?_) (fun t14 => ?_)
    · refine v_aload_n rfl rfl ?_
      refine v_iconst (v := (-1)) rfl (by decide) ?_
      refine v_callV rfl (c_M_refuse (-1 : Int32) (by unfold pm_isR; first | decide | exact Or.inl rfl) hR hI) rfl rfl h1 rfl rfl (by omega) (fun rv w15 hq16 => ?_)
      obtain ⟨rfl, hI17, hh18x⟩ := hq16
      have hI17 : pm_IM gi ga w15 := hI17
      have hh18 := hh.tr hh18x
      exact v_iret rfl ⟨⟨_, rfl, trivial⟩, hI17, hh18⟩
    · refine v_aload_n rfl rfl ?_
      refine v_get rfl h1 rfl ?_
      refine v_bipush (v := 20) rfl (by decide) ?_
      refine v_iload_n rfl rfl ?_
      refine r_imulL 20 rfl rfl (by omega) (by omega) (fun z19 z19e => ?_)
      refine v_iload_n rfl rfl ?_
      refine r_iadd rfl (by omega) (by omega) (fun z20 z20e => ?_)
      obtain ⟨xs22, xs22l, xs22e, h21⟩ := hI.2.1 61 (by decide) (by decide)
      have xs22e : xs22 = (ga 27) := xs22e
      subst xs22e
      refine r_iaload rfl h21 xs22l (by omega) (by omega) (fun z23 z23m z23g => ?_)
      refine v_goto rfl ?_
      exact v_iret rfl ⟨⟨_, rfl, trivial⟩, hI, hh⟩
  · refine v_aload_n rfl rfl ?_
    refine v_bipush (v := (-3)) rfl (by decide) ?_
    refine v_callV rfl (c_M_refuse (-3 : Int32) (by unfold pm_isR; first | decide | exact Or.inl rfl) hR hI) rfl rfl h1 rfl rfl (by omega) (fun rv w24 hq25 => ?_)
    obtain ⟨rfl, hI26, hh27x⟩ := hq25
    have hI26 : pm_IM gi ga w24 := hI26
    have hh27 := hh.tr hh27x
    exact v_iret rfl ⟨⟨_, rfl, trivial⟩, hI26, hh27⟩
set_option maxRecDepth 100000 in
theorem W_X12_count_59 {sc : pm_S} {w w0 : pm_W} {gi : Nat → Int32} {ga : Nat → List Int32} (k : Int32)  (hR : pm_Rg gi ga) (hI : pm_IM gi ga w) (hh : pm_lo w0 w) : pm_Mt sc 1 183 4 [.ref 59, .int k] w (fun rv w' => pm_wI (fun v => True) rv ∧ pm_IM gi ga w' ∧ pm_lo w0 w') := by
  intro d hd
  obtain ⟨g0a, g0b⟩ := hR.n0
  obtain ⟨g1a, g1b⟩ := hR.n1
  obtain ⟨g2a, g2b⟩ := hR.n2
  obtain ⟨g3a, g3b⟩ := hR.n3
  obtain ⟨g4a, g4b⟩ := hR.n4
  obtain ⟨g5a, g5b⟩ := hR.n5
  obtain ⟨g6a, g6b⟩ := hR.n6
  obtain ⟨g7a, g7b⟩ := hR.n7
  obtain ⟨g8a, g8b⟩ := hR.n8
  have km9 : (-9 : Int32).toInt = -9 := by decide
  have k0 : (0 : Int32).toInt = 0 := by decide
  have k1 : (1 : Int32).toInt = 1 := by decide
  have k10 : (10 : Int32).toInt = 10 := by decide
  have k11 : (11 : Int32).toInt = 11 := by decide
  have k16 : (16 : Int32).toInt = 16 := by decide
  show pm_V sc d 183 0 [.ref 59, .int k, .null, .null] [] w _
  refine v_iconst (v := 0) rfl (by decide) ?_
  refine v_istore_n rfl (Nat.le_of_ble_eq_true rfl) ?_
  refine v_iload_n rfl rfl ?_
  by_cases t1 : k.toInt = 0
  · refine v_tabIn (t := 52) rfl (by omega) (by omega) (by rw [t1]; rfl) rfl ?_
    refine v_aload_n rfl rfl ?_
    obtain ⟨v3, v4, v5, v6, v7, v8, v9, v10, ⟨v3z, v3e⟩, ⟨⟨v4a, v4b⟩, v4e⟩, ⟨⟨v5a, v5b⟩, v5e⟩, ⟨v7a, v7b⟩, ⟨v10a, v10b⟩, h2⟩ := hI.2.1 59 (by decide) (by decide)
    have v3z := v3z.imp i_eq.mp i_eq.mp
    rw [i_0, i_1] at v3z
    refine v_get rfl h2 rfl ?_
    exact v_iret rfl ⟨⟨_, rfl, trivial⟩, hI, hh⟩
  by_cases t11 : k.toInt = 1
  · refine v_tabIn (t := 57) rfl (by omega) (by omega) (by rw [t11]; rfl) rfl ?_
    refine v_aload_n rfl rfl ?_
    obtain ⟨v13, v14, v15, v16, v17, v18, v19, v20, ⟨v13z, v13e⟩, ⟨⟨v14a, v14b⟩, v14e⟩, ⟨⟨v15a, v15b⟩, v15e⟩, ⟨v17a, v17b⟩, ⟨v20a, v20b⟩, h12⟩ := hI.2.1 59 (by decide) (by decide)
    have v13z := v13z.imp i_eq.mp i_eq.mp
    rw [i_0, i_1] at v13z
    refine v_get rfl h12 rfl ?_
    exact v_iret rfl ⟨⟨_, rfl, trivial⟩, hI, hh⟩
  by_cases t21 : k.toInt = 2
  · refine v_tabIn (t := 62) rfl (by omega) (by omega) (by rw [t21]; rfl) rfl ?_
    refine v_aload_n rfl rfl ?_
    obtain ⟨v23, v24, v25, v26, v27, v28, v29, v30, ⟨v23z, v23e⟩, ⟨⟨v24a, v24b⟩, v24e⟩, ⟨⟨v25a, v25b⟩, v25e⟩, ⟨v27a, v27b⟩, ⟨v30a, v30b⟩, h22⟩ := hI.2.1 59 (by decide) (by decide)
    have v23z := v23z.imp i_eq.mp i_eq.mp
    rw [i_0, i_1] at v23z
    refine v_get rfl h22 rfl ?_
    exact v_iret rfl ⟨⟨_, rfl, trivial⟩, hI, hh⟩
  by_cases t31 : k.toInt = 3
  · refine v_tabIn (t := 67) rfl (by omega) (by omega) (by rw [t31]; rfl) rfl ?_
    refine v_aload_n rfl rfl ?_
    obtain ⟨v33, v34, v35, v36, v37, v38, v39, v40, ⟨v33z, v33e⟩, ⟨⟨v34a, v34b⟩, v34e⟩, ⟨⟨v35a, v35b⟩, v35e⟩, ⟨v37a, v37b⟩, ⟨v40a, v40b⟩, h32⟩ := hI.2.1 59 (by decide) (by decide)
    have v33z := v33z.imp i_eq.mp i_eq.mp
    rw [i_0, i_1] at v33z
    refine v_get rfl h32 rfl ?_
    exact v_iret rfl ⟨⟨_, rfl, trivial⟩, hI, hh⟩
  by_cases t41 : k.toInt = 4
  · refine v_tabIn (t := 72) rfl (by omega) (by omega) (by rw [t41]; rfl) rfl ?_
    refine v_iconst (v := 0) rfl (by decide) ?_
    refine v_istore_n rfl (Nat.le_of_ble_eq_true rfl) ?_
    have L44 : ∀ (n44 : Nat) (l42 : Int32) (l43 : Int32), 0 ≤ l43.toInt → l43.toInt ≤ 12 → (12 - l43.toInt).toNat < n44 → pm_V sc d 183 74 [.ref 59, .int k, .int l42, .int l43] [] w (fun rv w' => pm_wI (fun v => True) rv ∧ pm_IM gi ga w' ∧ pm_lo w0 w') := by
      intro n44
      induction n44 with
      | zero => intro l42 l43 t46 t47 hm45; exact absurd hm45 (Nat.not_lt_zero _)
      | succ n44 ih74_44 =>
        intro l42 l43 t46 t47 hm45
        refine v_iload_n rfl rfl ?_
        refine v_aload_n rfl rfl ?_
        obtain ⟨v49, v50, v51, v52, v53, v54, v55, v56, ⟨v49z, v49e⟩, ⟨⟨v50a, v50b⟩, v50e⟩, ⟨⟨v51a, v51b⟩, v51e⟩, ⟨v53a, v53b⟩, ⟨v56a, v56b⟩, h48⟩ := hI.2.1 59 (by decide) (by decide)
        have v49z := v49z.imp i_eq.mp i_eq.mp
        rw [i_0, i_1] at v49z
        refine v_get rfl h48 rfl ?_
        refine r_icmp_ge rfl (fun t57 => ?_) (fun t57 => ?_)
        · refine v_iload_n rfl rfl ?_
          exact v_iret rfl ⟨⟨_, rfl, trivial⟩, hI, hh⟩
        · refine v_iload_n rfl rfl ?_
          refine v_aload_n rfl rfl ?_
          refine v_get rfl h48 rfl ?_
          refine v_iload_n rfl rfl ?_
          have h58 : _ = some _ := hI.2.1 67 (by decide) (by decide)
          refine r_iaload rfl h58 hR.l3 (by omega) (by omega) (fun z59 z59m z59g => ?_)
          obtain ⟨z59a, z59b⟩ := hR.r3 z59 z59m
          refine r_if_ge rfl (fun t60 => ?_) (fun t60 => ?_)
          · refine v_iconst (v := 0) rfl (by decide) ?_
            refine u_iadd rfl (fun z61 => ?_)
            refine v_istore_n rfl (Nat.le_of_ble_eq_true rfl) ?_
            refine r_iinc rfl rfl (by decide) (by omega) (by omega) (fun z62 z62e => ?_)
            refine v_goto rfl ?_
            exact ih74_44 z61 z62 (by omega) (by omega) (by omega)
          · refine v_iconst (v := 1) rfl (by decide) ?_
            refine v_goto rfl ?_
            refine u_iadd rfl (fun z63 => ?_)
            refine v_istore_n rfl (Nat.le_of_ble_eq_true rfl) ?_
            refine r_iinc rfl rfl (by decide) (by omega) (by omega) (fun z64 z64e => ?_)
            refine v_goto rfl ?_
            exact ih74_44 z63 z64 (by omega) (by omega) (by omega)
    exact L44 _ (0 : Int32) (0 : Int32) (by omega) (by omega) (Nat.lt_add_one _)
  by_cases t65 : k.toInt = 5
  · refine v_tabIn (t := 107) rfl (by omega) (by omega) (by rw [t65]; rfl) rfl ?_
    refine v_aload_n rfl rfl ?_
    obtain ⟨v67, v68, v69, v70, v71, v72, v73, v74, ⟨v67z, v67e⟩, ⟨⟨v68a, v68b⟩, v68e⟩, ⟨⟨v69a, v69b⟩, v69e⟩, ⟨v71a, v71b⟩, ⟨v74a, v74b⟩, h66⟩ := hI.2.1 59 (by decide) (by decide)
    have v67z := v67z.imp i_eq.mp i_eq.mp
    rw [i_0, i_1] at v67z
    refine v_get rfl h66 rfl ?_
    exact v_iret rfl ⟨⟨_, rfl, trivial⟩, hI, hh⟩
  by_cases t75 : k.toInt = 6
  · refine v_tabIn (t := 112) rfl (by omega) (by omega) (by rw [t75]; rfl) rfl ?_
    refine v_aload_n rfl rfl ?_
    obtain ⟨v77, v78, v79, v80, v81, v82, v83, v84, ⟨v77z, v77e⟩, ⟨⟨v78a, v78b⟩, v78e⟩, ⟨⟨v79a, v79b⟩, v79e⟩, ⟨v81a, v81b⟩, ⟨v84a, v84b⟩, h76⟩ := hI.2.1 59 (by decide) (by decide)
    have v77z := v77z.imp i_eq.mp i_eq.mp
    rw [i_0, i_1] at v77z
    refine v_get rfl h76 rfl ?_
    exact v_iret rfl ⟨⟨_, rfl, trivial⟩, hI, hh⟩
  by_cases t85 : k.toInt = 7
  · refine v_tabIn (t := 117) rfl (by omega) (by omega) (by rw [t85]; rfl) rfl ?_
    refine v_aload_n rfl rfl ?_
    obtain ⟨v87, v88, v89, v90, v91, v92, v93, v94, ⟨v87z, v87e⟩, ⟨⟨v88a, v88b⟩, v88e⟩, ⟨⟨v89a, v89b⟩, v89e⟩, ⟨v91a, v91b⟩, ⟨v94a, v94b⟩, h86⟩ := hI.2.1 59 (by decide) (by decide)
    have v87z := v87z.imp i_eq.mp i_eq.mp
    rw [i_0, i_1] at v87z
    refine v_get rfl h86 rfl ?_
    exact v_iret rfl ⟨⟨_, rfl, trivial⟩, hI, hh⟩
  by_cases t95 : k.toInt = 8
  · refine v_tabIn (t := 122) rfl (by omega) (by omega) (by rw [t95]; rfl) rfl ?_
    refine v_aload_n rfl rfl ?_
    obtain ⟨v97, v98, v99, v100, v101, v102, v103, v104, ⟨v97z, v97e⟩, ⟨⟨v98a, v98b⟩, v98e⟩, ⟨⟨v99a, v99b⟩, v99e⟩, ⟨v101a, v101b⟩, ⟨v104a, v104b⟩, h96⟩ := hI.2.1 59 (by decide) (by decide)
    have v97z := v97z.imp i_eq.mp i_eq.mp
    rw [i_0, i_1] at v97z
    refine v_callV rfl (W_X12_faultMany_59  hR hI) rfl rfl h96 rfl rfl (by omega) (fun rv w105 hq106 => ?_)
    obtain ⟨⟨z107, rfl, -⟩, rfl⟩ := hq106
    exact v_iret rfl ⟨⟨_, rfl, trivial⟩, hI, hh⟩
  refine v_tabOut (t := 127) rfl (by omega) rfl ?_
  refine v_iload_n rfl rfl ?_
  refine v_bipush (v := 11) rfl (by decide) ?_
  refine v_bipush (v := 16) rfl (by decide) ?_
  refine v_callS rfl (W_X12_in k (11 : Int32) (16 : Int32) hR hI) rfl rfl rfl rfl rfl (by omega) (fun rv w108 hq109 => ?_)
  obtain ⟨⟨z110, rfl, z110p0⟩, rfl⟩ := hq109
  refine r_if_eq rfl (fun t111 => ?_) (fun t111 => ?_)
  · refine v_bipush (v := (-9)) rfl (by decide) ?_
    exact v_iret rfl ⟨⟨_, rfl, trivial⟩, hI, hh⟩
  · refine v_aload_n rfl rfl ?_
    obtain ⟨v113, v114, v115, v116, v117, v118, v119, v120, ⟨v113z, v113e⟩, ⟨⟨v114a, v114b⟩, v114e⟩, ⟨⟨v115a, v115b⟩, v115e⟩, ⟨v117a, v117b⟩, ⟨v120a, v120b⟩, h112⟩ := hI.2.1 59 (by decide) (by decide)
    have v113z := v113z.imp i_eq.mp i_eq.mp
    rw [i_0, i_1] at v113z
    refine v_get rfl h112 rfl ?_
    refine v_iload_n rfl rfl ?_
    refine v_bipush (v := 10) rfl (by decide) ?_
    refine r_isub rfl (by omega) (by omega) (fun z121 z121e => ?_)
    obtain ⟨xs123, xs123l, h122⟩ := hI.2.1 79 (by decide) (by decide)
    refine r_iaload rfl h122 xs123l (by omega) (by omega) (fun z124 z124m z124g => ?_)
    refine v_goto rfl ?_
    exact v_iret rfl ⟨⟨_, rfl, trivial⟩, hI, hh⟩

