set_option maxRecDepth 100000 in
theorem W_X12_in {sc : pm_S} {w : pm_W} {gi : Nat → Int32} {ga : Nat → List Int32} (i : Int32) (a : Int32) (b : Int32)  (hR : pm_Rg gi ga) (hI : pm_IM gi ga w) : pm_Mt sc 0 117 3 [.int i, .int a, .int b] w (fun rv w' => pm_wI (fun v => ((v.toInt = 1 ∧ a.toInt ≤ i.toInt ∧ i.toInt ≤ b.toInt) ∨ (v.toInt = 0 ∧ (i.toInt < a.toInt ∨ b.toInt < i.toInt)))) rv ∧ w = w') := by
  intro d hd
  obtain ⟨g0a, g0b⟩ := hR.n0
  obtain ⟨g1a, g1b⟩ := hR.n1
  obtain ⟨g2a, g2b⟩ := hR.n2
  obtain ⟨g3a, g3b⟩ := hR.n3
  obtain ⟨g4a, g4b⟩ := hR.n4
  obtain ⟨g5a, g5b⟩ := hR.n5
  obtain ⟨g6a, g6b⟩ := hR.n6
  obtain ⟨g7a, g7b⟩ := hR.n7
  obtain ⟨g8a, g8b⟩ := hR.n8
  have k0 : (0 : Int32).toInt = 0 := by decide
  have k1 : (1 : Int32).toInt = 1 := by decide
  show pm_V sc d 117 0 [.int i, .int a, .int b] [] w _
  refine v_iload_n rfl rfl ?_
  refine v_iload_n rfl rfl ?_
  refine r_icmp_lt rfl (fun t1 => ?_) (fun t1 => ?_)
  · refine v_iconst (v := 0) rfl (by decide) ?_
    exact r_zret rfl (by omega) ⟨⟨_, rfl, (by omega)⟩, rfl⟩
  · refine v_iload_n rfl rfl ?_
    refine v_iload_n rfl rfl ?_
    refine r_icmp_gt rfl (fun t2 => ?_) (fun t2 => ?_)
    · refine v_iconst (v := 0) rfl (by decide) ?_
      exact r_zret rfl (by omega) ⟨⟨_, rfl, (by omega)⟩, rfl⟩
    · refine v_iconst (v := 1) rfl (by decide) ?_
      refine v_goto rfl ?_
      exact r_zret rfl (by omega) ⟨⟨_, rfl, (by omega)⟩, rfl⟩
set_option maxRecDepth 100000 in
theorem W_X12_colour_59 {sc : pm_S} {w : pm_W} {gi : Nat → Int32} {ga : Nat → List Int32} (x : Int32) (y : Int32) (p0 : y.toInt ≤ 19) (p1 : 0 ≤ y.toInt) (p2 : x.toInt ≤ 19) (p3 : 0 ≤ x.toInt) (hR : pm_Rg gi ga) (hI : pm_IM gi ga w) : pm_Mt sc 0 119 3 [.ref 59, .int x, .int y] w (fun rv w' => pm_wI (fun v => True) rv ∧ w = w') := by
  intro d hd
  obtain ⟨g0a, g0b⟩ := hR.n0
  obtain ⟨g1a, g1b⟩ := hR.n1
  obtain ⟨g2a, g2b⟩ := hR.n2
  obtain ⟨g3a, g3b⟩ := hR.n3
  obtain ⟨g4a, g4b⟩ := hR.n4
  obtain ⟨g5a, g5b⟩ := hR.n5
  obtain ⟨g6a, g6b⟩ := hR.n6
  obtain ⟨g7a, g7b⟩ := hR.n7
  obtain ⟨g8a, g8b⟩ := hR.n8
  have k20 : (20 : Int32).toInt = 20 := by decide
  show pm_V sc d 119 0 [.ref 59, .int x, .int y] [] w _
  refine v_aload_n rfl rfl ?_
  obtain ⟨v2, v3, v4, v5, v6, v7, v8, v9, ⟨v2z, v2e⟩, ⟨⟨v3a, v3b⟩, v3e⟩, ⟨⟨v4a, v4b⟩, v4e⟩, ⟨v6a, v6b⟩, ⟨v9a, v9b⟩, h1⟩ := hI.2.1 59 (by decide) (by decide)
  have v2z := v2z.imp i_eq.mp i_eq.mp
  rw [i_0, i_1] at v2z
  refine v_get rfl h1 rfl ?_
  refine v_bipush (v := 20) rfl (by decide) ?_
  refine v_iload_n rfl rfl ?_
  refine r_imulL 20 rfl rfl (by omega) (by omega) (fun z10 z10e => ?_)
  refine v_iload_n rfl rfl ?_
  refine r_iadd rfl (by omega) (by omega) (fun z11 z11e => ?_)
  obtain ⟨sq13l, sq13r, h12⟩ := hI.2.1 60 (by decide) (by decide)
  refine r_iaload rfl h12 sq13l (by omega) (by omega) (fun z14 z14m z14g => ?_)
  obtain ⟨z14a, z14b⟩ := sq13r z14 z14m
  exact v_iret rfl ⟨⟨_, rfl, trivial⟩, rfl⟩
set_option maxRecDepth 100000 in
theorem W_X12_isSquare_59 {sc : pm_S} {w : pm_W} {gi : Nat → Int32} {ga : Nat → List Int32} (x : Int32) (y : Int32)  (hR : pm_Rg gi ga) (hI : pm_IM gi ga w) : pm_Mt sc 1 120 3 [.ref 59, .int x, .int y] w (fun rv w' => pm_wI (fun v => ((v.toInt = 1 ∧ 0 ≤ x.toInt ∧ x.toInt < (gi 0).toInt ∧ 0 ≤ y.toInt ∧ y.toInt < (gi 1).toInt) ∨ (v.toInt = 0 ∧ (x.toInt < 0 ∨ y.toInt < 0 ∨ (gi 0).toInt ≤ x.toInt ∨ (gi 1).toInt ≤ y.toInt)))) rv ∧ w = w') := by
  intro d hd
  obtain ⟨g0a, g0b⟩ := hR.n0
  obtain ⟨g1a, g1b⟩ := hR.n1
  obtain ⟨g2a, g2b⟩ := hR.n2
  obtain ⟨g3a, g3b⟩ := hR.n3
  obtain ⟨g4a, g4b⟩ := hR.n4
  obtain ⟨g5a, g5b⟩ := hR.n5
  obtain ⟨g6a, g6b⟩ := hR.n6
  obtain ⟨g7a, g7b⟩ := hR.n7
  obtain ⟨g8a, g8b⟩ := hR.n8
  have k0 : (0 : Int32).toInt = 0 := by decide
  have k1 : (1 : Int32).toInt = 1 := by decide
  show pm_V sc d 120 0 [.ref 59, .int x, .int y] [] w _
  refine v_iload_n rfl rfl ?_
  refine v_iconst (v := 0) rfl (by decide) ?_
  refine v_aload_n rfl rfl ?_
  obtain ⟨v2, v3, v4, v5, v6, v7, v8, v9, ⟨v2z, v2e⟩, ⟨⟨v3a, v3b⟩, v3e⟩, ⟨⟨v4a, v4b⟩, v4e⟩, ⟨v6a, v6b⟩, ⟨v9a, v9b⟩, h1⟩ := hI.2.1 59 (by decide) (by decide)
  have v2z := v2z.imp i_eq.mp i_eq.mp
  rw [i_0, i_1] at v2z
  refine v_get rfl h1 rfl ?_
  refine v_iconst (v := 1) rfl (by decide) ?_
  refine r_isub rfl (by omega) (by omega) (fun z10 z10e => ?_)
  refine v_callS rfl (W_X12_in x (0 : Int32) z10 hR hI) rfl rfl rfl rfl rfl (by omega) (fun rv w11 hq12 => ?_)
  obtain ⟨⟨z13, rfl, z13p0⟩, rfl⟩ := hq12
  refine r_if_eq rfl (fun t14 => ?_) (fun t14 => ?_)
  · refine v_iconst (v := 0) rfl (by decide) ?_
    exact r_zret rfl (by omega) ⟨⟨_, rfl, (by omega)⟩, rfl⟩
  · refine v_iload_n rfl rfl ?_
    refine v_iconst (v := 0) rfl (by decide) ?_
    refine v_aload_n rfl rfl ?_
    refine v_get rfl h1 rfl ?_
    refine v_iconst (v := 1) rfl (by decide) ?_
    refine r_isub rfl (by omega) (by omega) (fun z15 z15e => ?_)
    refine v_callS rfl (W_X12_in y (0 : Int32) z15 hR hI) rfl rfl rfl rfl rfl (by omega) (fun rv w16 hq17 => ?_)
    obtain ⟨⟨z18, rfl, z18p0⟩, rfl⟩ := hq17
    refine r_if_eq rfl (fun t19 => ?_) (fun t19 => ?_)
    · refine v_iconst (v := 0) rfl (by decide) ?_
      exact r_zret rfl (by omega) ⟨⟨_, rfl, (by omega)⟩, rfl⟩
    · refine v_iconst (v := 1) rfl (by decide) ?_
      refine v_goto rfl ?_
      exact r_zret rfl (by omega) ⟨⟨_, rfl, (by omega)⟩, rfl⟩
set_option maxRecDepth 100000 in
theorem W_X12_isMirror_59 {sc : pm_S} {w : pm_W} {gi : Nat → Int32} {ga : Nat → List Int32} (m : Int32) (r : Int32) (p0 : m.toInt ≤ 19) (p1 : 0 ≤ m.toInt) (hR : pm_Rg gi ga) (hI : pm_IM gi ga w) : pm_Mt sc 1 127 10 [.ref 59, .int m, .int r] w (fun rv w' => pm_wI (fun v => 0 ≤ v.toInt ∧ v.toInt ≤ 1) rv ∧ w = w') := by
  intro d hd
  obtain ⟨g0a, g0b⟩ := hR.n0
  obtain ⟨g1a, g1b⟩ := hR.n1
  obtain ⟨g2a, g2b⟩ := hR.n2
  obtain ⟨g3a, g3b⟩ := hR.n3
  obtain ⟨g4a, g4b⟩ := hR.n4
  obtain ⟨g5a, g5b⟩ := hR.n5
  obtain ⟨g6a, g6b⟩ := hR.n6
  obtain ⟨g7a, g7b⟩ := hR.n7
  obtain ⟨g8a, g8b⟩ := hR.n8
  have k0 : (0 : Int32).toInt = 0 := by decide
  have k1 : (1 : Int32).toInt = 1 := by decide
  show pm_V sc d 127 0 [.ref 59, .int m, .int r, .null, .null, .null, .null, .null, .null, .null] [] w _
  refine v_iload_n rfl rfl ?_
  refine r_if_eq rfl (fun t1 => ?_) (fun t1 => ?_)
  · refine v_aload_n rfl rfl ?_
    obtain ⟨v3, v4, v5, v6, v7, v8, v9, v10, ⟨v3z, v3e⟩, ⟨⟨v4a, v4b⟩, v4e⟩, ⟨⟨v5a, v5b⟩, v5e⟩, ⟨v7a, v7b⟩, ⟨v10a, v10b⟩, h2⟩ := hI.2.1 59 (by decide) (by decide)
    have v3z := v3z.imp i_eq.mp i_eq.mp
    rw [i_0, i_1] at v3z
    refine v_get rfl h2 rfl ?_
    refine v_istore_n rfl (Nat.le_of_ble_eq_true rfl) ?_
    refine v_iload_n rfl rfl ?_
    refine r_if_eq rfl (fun t11 => ?_) (fun t11 => ?_)
    · refine v_aload_n rfl rfl ?_
      refine v_get rfl h2 rfl ?_
      refine v_istore rfl (Nat.le_of_ble_eq_true rfl) ?_
      refine v_iconst (v := 1) rfl (by decide) ?_
      refine v_istore rfl (Nat.le_of_ble_eq_true rfl) ?_
      refine v_iconst (v := 0) rfl (by decide) ?_
      refine v_istore rfl (Nat.le_of_ble_eq_true rfl) ?_
      have L17 : ∀ (n17 : Nat) (l12 : Int32) (l13 : Int32) (u14 : Value) (u15 : Value) (u16 : Value), 0 ≤ l12.toInt → l12.toInt ≤ 1 → 0 ≤ l13.toInt → l13.toInt ≤ 20 → (20 - l13.toInt).toNat < n17 → pm_V sc d 127 39 [.ref 59, .int m, .int r, .int (gi 0), .int (gi 1), .int l12, .int l13, u14, u15, u16] [] w (fun rv w' => pm_wI (fun v => 0 ≤ v.toInt ∧ v.toInt ≤ 1) rv ∧ w = w') := by
        intro n17
        induction n17 with
        | zero => intro l12 l13 u14 u15 u16 t19 t20 t21 t22 hm18; exact absurd hm18 (Nat.not_lt_zero _)
        | succ n17 ih39_17 =>
          intro l12 l13 u14 u15 u16 t19 t20 t21 t22 hm18
          refine v_iload rfl rfl ?_
          refine v_iload_n rfl rfl ?_
          refine r_icmp_ge rfl (fun t23 => ?_) (fun t23 => ?_)
          · refine v_iload rfl rfl ?_
            exact r_zret rfl (by omega) ⟨⟨_, rfl, (by omega), (by omega)⟩, rfl⟩
          · refine v_iload_n rfl rfl ?_
            refine v_iload rfl rfl ?_
            refine r_isub rfl (by omega) (by omega) (fun z24 z24e => ?_)
            refine v_iload_n rfl rfl ?_
            refine r_iadd rfl (by omega) (by omega) (fun z25 z25e => ?_)
            refine v_iload_n rfl rfl ?_
            refine r_irem rfl (by omega) (by omega) (fun z26 z26m z26a z26b z26c => ?_)
            clear z26m
            refine v_istore rfl (Nat.le_of_ble_eq_true rfl) ?_
            refine v_iload_n rfl rfl ?_
            refine v_iload rfl rfl ?_
            refine r_iadd rfl (by omega) (by omega) (fun z27 z27e => ?_)
            refine v_iload_n rfl rfl ?_
            refine r_irem rfl (by omega) (by omega) (fun z28 z28m z28a z28b z28c => ?_)
            clear z28m
            refine v_istore rfl (Nat.le_of_ble_eq_true rfl) ?_
            refine v_iconst (v := 0) rfl (by decide) ?_
            refine v_istore rfl (Nat.le_of_ble_eq_true rfl) ?_
            have L31 : ∀ (n31 : Nat) (l29 : Int32) (l30 : Int32), 0 ≤ l29.toInt → l29.toInt ≤ 1 → 0 ≤ l30.toInt → l30.toInt ≤ 20 → (20 - l30.toInt).toNat < n31 → pm_V sc d 127 66 [.ref 59, .int m, .int r, .int (gi 0), .int (gi 1), .int l29, .int l13, .int z26, .int z28, .int l30] [] w (fun rv w' => pm_wI (fun v => 0 ≤ v.toInt ∧ v.toInt ≤ 1) rv ∧ w = w') := by
              intro n31
              induction n31 with
              | zero => intro l29 l30 t33 t34 t35 t36 hm32; exact absurd hm32 (Nat.not_lt_zero _)
              | succ n31 ih66_31 =>
                intro l29 l30 t33 t34 t35 t36 hm32
                refine v_iload rfl rfl ?_
                refine v_iload rfl rfl ?_
                refine r_icmp_ge rfl (fun t37 => ?_) (fun t37 => ?_)
                · refine r_iinc rfl rfl (by decide) (by omega) (by omega) (fun z38 z38e => ?_)
                  refine v_goto rfl ?_
                  exact ih39_17 l29 z38 (.int z26) (.int z28) (.int l30) (by omega) (by omega) (by omega) (by omega) (by omega)
                · refine v_iload rfl rfl ?_
                  refine r_if_eq rfl (fun t39 => ?_) (fun t39 => ?_)
                  · refine v_iconst (v := 0) rfl (by decide) ?_
                    refine v_istore rfl (Nat.le_of_ble_eq_true rfl) ?_
                    refine r_iinc rfl rfl (by decide) (by omega) (by omega) (fun z40 z40e => ?_)
                    refine v_goto rfl ?_
                    exact ih66_31 (0 : Int32) z40 (by omega) (by omega) (by omega) (by omega) (by omega)
                  · refine v_iload_n rfl rfl ?_
                    refine r_if_eq rfl (fun t41 => ?_) (fun t41 => ?_)
                    · refine v_aload_n rfl rfl ?_
                      refine v_iload rfl rfl ?_
                      refine v_iload rfl rfl ?_
                      refine v_callV rfl (W_X12_colour_59 z26 l30 (by omega) (by omega) (by omega) (by omega) hR hI) rfl rfl h2 rfl rfl (by omega) (fun rv w42 hq43 => ?_)
                      obtain ⟨⟨z44, rfl, -⟩, rfl⟩ := hq43
                      refine v_aload_n rfl rfl ?_
                      refine v_iload rfl rfl ?_
                      refine v_iload rfl rfl ?_
                      refine v_callV rfl (W_X12_colour_59 z28 l30 (by omega) (by omega) (by omega) (by omega) hR hI) rfl rfl h2 rfl rfl (by omega) (fun rv w45 hq46 => ?_)
                      obtain ⟨⟨z47, rfl, -⟩, rfl⟩ := hq46
                      refine r_icmp_ne rfl (fun t48 => ?_) (fun t48 => ?_)
                      · refine v_iconst (v := 0) rfl (by decide) ?_
                        refine v_istore rfl (Nat.le_of_ble_eq_true rfl) ?_
                        refine r_iinc rfl rfl (by decide) (by omega) (by omega) (fun z49 z49e => ?_)
                        refine v_goto rfl ?_
                        exact ih66_31 (0 : Int32) z49 (by omega) (by omega) (by omega) (by omega) (by omega)
                      · refine v_iconst (v := 1) rfl (by decide) ?_
                        refine v_goto rfl ?_
                        refine v_istore rfl (Nat.le_of_ble_eq_true rfl) ?_
                        refine r_iinc rfl rfl (by decide) (by omega) (by omega) (fun z50 z50e => ?_)
                        refine v_goto rfl ?_
                        exact ih66_31 (1 : Int32) z50 (by omega) (by omega) (by omega) (by omega) (by omega)
                    · refine v_aload_n rfl rfl ?_
                      refine v_iload rfl rfl ?_
                      refine v_iload rfl rfl ?_
                      refine v_callV rfl (W_X12_colour_59 l30 z26 (by omega) (by omega) (by omega) (by omega) hR hI) rfl rfl h2 rfl rfl (by omega) (fun rv w51 hq52 => ?_)
                      obtain ⟨⟨z53, rfl, -⟩, rfl⟩ := hq52
                      refine v_aload_n rfl rfl ?_
                      refine v_iload rfl rfl ?_
                      refine v_iload rfl rfl ?_
                      refine v_callV rfl (W_X12_colour_59 l30 z28 (by omega) (by omega) (by omega) (by omega) hR hI) rfl rfl h2 rfl rfl (by omega) (fun rv w54 hq55 => ?_)
                      obtain ⟨⟨z56, rfl, -⟩, rfl⟩ := hq55
                      refine r_icmp_ne rfl (fun t57 => ?_) (fun t57 => ?_)
                      · refine v_iconst (v := 0) rfl (by decide) ?_
                        refine v_istore rfl (Nat.le_of_ble_eq_true rfl) ?_
                        refine r_iinc rfl rfl (by decide) (by omega) (by omega) (fun z58 z58e => ?_)
                        refine v_goto rfl ?_
                        exact ih66_31 (0 : Int32) z58 (by omega) (by omega) (by omega) (by omega) (by omega)
                      · refine v_goto rfl ?_
                        refine v_iconst (v := 1) rfl (by decide) ?_
                        refine v_goto rfl ?_
                        refine v_istore rfl (Nat.le_of_ble_eq_true rfl) ?_
                        refine r_iinc rfl rfl (by decide) (by omega) (by omega) (fun z59 z59e => ?_)
                        refine v_goto rfl ?_
                        exact ih66_31 (1 : Int32) z59 (by omega) (by omega) (by omega) (by omega) (by omega)
            exact L31 _ l12 (0 : Int32) (by omega) (by omega) (by omega) (by omega) (Nat.lt_add_one _)
      exact L17 _ (1 : Int32) (0 : Int32) (.null) (.null) (.null) (by omega) (by omega) (by omega) (by omega) (Nat.lt_add_one _)
    · refine v_aload_n rfl rfl ?_
      refine v_get rfl h2 rfl ?_
      refine v_goto rfl ?_
      refine v_istore rfl (Nat.le_of_ble_eq_true rfl) ?_
      refine v_iconst (v := 1) rfl (by decide) ?_
      refine v_istore rfl (Nat.le_of_ble_eq_true rfl) ?_
      refine v_iconst (v := 0) rfl (by decide) ?_
      refine v_istore rfl (Nat.le_of_ble_eq_true rfl) ?_
      have L65 : ∀ (n65 : Nat) (l60 : Int32) (l61 : Int32) (u62 : Value) (u63 : Value) (u64 : Value), 0 ≤ l60.toInt → l60.toInt ≤ 1 → 0 ≤ l61.toInt → l61.toInt ≤ 20 → (20 - l61.toInt).toNat < n65 → pm_V sc d 127 39 [.ref 59, .int m, .int r, .int (gi 0), .int (gi 0), .int l60, .int l61, u62, u63, u64] [] w (fun rv w' => pm_wI (fun v => 0 ≤ v.toInt ∧ v.toInt ≤ 1) rv ∧ w = w') := by
        intro n65
        induction n65 with
        | zero => intro l60 l61 u62 u63 u64 t67 t68 t69 t70 hm66; exact absurd hm66 (Nat.not_lt_zero _)
        | succ n65 ih39_65 =>
          intro l60 l61 u62 u63 u64 t67 t68 t69 t70 hm66
          refine v_iload rfl rfl ?_
          refine v_iload_n rfl rfl ?_
          refine r_icmp_ge rfl (fun t71 => ?_) (fun t71 => ?_)
          · refine v_iload rfl rfl ?_
            exact r_zret rfl (by omega) ⟨⟨_, rfl, (by omega), (by omega)⟩, rfl⟩
          · refine v_iload_n rfl rfl ?_
            refine v_iload rfl rfl ?_
            refine r_isub rfl (by omega) (by omega) (fun z72 z72e => ?_)
            refine v_iload_n rfl rfl ?_
            refine r_iadd rfl (by omega) (by omega) (fun z73 z73e => ?_)
            refine v_iload_n rfl rfl ?_
            refine r_irem rfl (by omega) (by omega) (fun z74 z74m z74a z74b z74c => ?_)
            clear z74m
            refine v_istore rfl (Nat.le_of_ble_eq_true rfl) ?_
            refine v_iload_n rfl rfl ?_
            refine v_iload rfl rfl ?_
            refine r_iadd rfl (by omega) (by omega) (fun z75 z75e => ?_)
            refine v_iload_n rfl rfl ?_
            refine r_irem rfl (by omega) (by omega) (fun z76 z76m z76a z76b z76c => ?_)
            clear z76m
            refine v_istore rfl (Nat.le_of_ble_eq_true rfl) ?_
            refine v_iconst (v := 0) rfl (by decide) ?_
            refine v_istore rfl (Nat.le_of_ble_eq_true rfl) ?_
            have L79 : ∀ (n79 : Nat) (l77 : Int32) (l78 : Int32), 0 ≤ l77.toInt → l77.toInt ≤ 1 → 0 ≤ l78.toInt → l78.toInt ≤ 20 → (20 - l78.toInt).toNat < n79 → pm_V sc d 127 66 [.ref 59, .int m, .int r, .int (gi 0), .int (gi 0), .int l77, .int l61, .int z74, .int z76, .int l78] [] w (fun rv w' => pm_wI (fun v => 0 ≤ v.toInt ∧ v.toInt ≤ 1) rv ∧ w = w') := by
              intro n79
              induction n79 with
              | zero => intro l77 l78 t81 t82 t83 t84 hm80; exact absurd hm80 (Nat.not_lt_zero _)
              | succ n79 ih66_79 =>
                intro l77 l78 t81 t82 t83 t84 hm80
                refine v_iload rfl rfl ?_
                refine v_iload rfl rfl ?_
                refine r_icmp_ge rfl (fun t85 => ?_) (fun t85 => ?_)
                · refine r_iinc rfl rfl (by decide) (by omega) (by omega) (fun z86 z86e => ?_)
                  refine v_goto rfl ?_
                  exact ih39_65 l77 z86 (.int z74) (.int z76) (.int l78) (by omega) (by omega) (by omega) (by omega) (by omega)
                · refine v_iload rfl rfl ?_
                  refine r_if_eq rfl (fun t87 => ?_) (fun t87 => ?_)
                  · refine v_iconst (v := 0) rfl (by decide) ?_
                    refine v_istore rfl (Nat.le_of_ble_eq_true rfl) ?_
                    refine r_iinc rfl rfl (by decide) (by omega) (by omega) (fun z88 z88e => ?_)
                    refine v_goto rfl ?_
                    exact ih66_79 (0 : Int32) z88 (by omega) (by omega) (by omega) (by omega) (by omega)
                  · refine v_iload_n rfl rfl ?_
                    refine r_if_eq rfl (fun t89 => ?_) (fun t89 => ?_)
                    · refine v_aload_n rfl rfl ?_
                      refine v_iload rfl rfl ?_
                      refine v_iload rfl rfl ?_
                      refine v_callV rfl (W_X12_colour_59 z74 l78 (by omega) (by omega) (by omega) (by omega) hR hI) rfl rfl h2 rfl rfl (by omega) (fun rv w90 hq91 => ?_)
                      obtain ⟨⟨z92, rfl, -⟩, rfl⟩ := hq91
                      refine v_aload_n rfl rfl ?_
                      refine v_iload rfl rfl ?_
                      refine v_iload rfl rfl ?_
                      refine v_callV rfl (W_X12_colour_59 z76 l78 (by omega) (by omega) (by omega) (by omega) hR hI) rfl rfl h2 rfl rfl (by omega) (fun rv w93 hq94 => ?_)
                      obtain ⟨⟨z95, rfl, -⟩, rfl⟩ := hq94
                      refine r_icmp_ne rfl (fun t96 => ?_) (fun t96 => ?_)
                      · refine v_iconst (v := 0) rfl (by decide) ?_
                        refine v_istore rfl (Nat.le_of_ble_eq_true rfl) ?_
                        refine r_iinc rfl rfl (by decide) (by omega) (by omega) (fun z97 z97e => ?_)
                        refine v_goto rfl ?_
                        exact ih66_79 (0 : Int32) z97 (by omega) (by omega) (by omega) (by omega) (by omega)
                      · refine v_iconst (v := 1) rfl (by decide) ?_
                        refine v_goto rfl ?_
                        refine v_istore rfl (Nat.le_of_ble_eq_true rfl) ?_
                        refine r_iinc rfl rfl (by decide) (by omega) (by omega) (fun z98 z98e => ?_)
                        refine v_goto rfl ?_
                        exact ih66_79 (1 : Int32) z98 (by omega) (by omega) (by omega) (by omega) (by omega)
                    · refine v_aload_n rfl rfl ?_
                      refine v_iload rfl rfl ?_
                      refine v_iload rfl rfl ?_
                      refine v_callV rfl (W_X12_colour_59 l78 z74 (by omega) (by omega) (by omega) (by omega) hR hI) rfl rfl h2 rfl rfl (by omega) (fun rv w99 hq100 => ?_)
                      obtain ⟨⟨z101, rfl, -⟩, rfl⟩ := hq100
                      refine v_aload_n rfl rfl ?_
                      refine v_iload rfl rfl ?_
                      refine v_iload rfl rfl ?_
                      refine v_callV rfl (W_X12_colour_59 l78 z76 (by omega) (by omega) (by omega) (by omega) hR hI) rfl rfl h2 rfl rfl (by omega) (fun rv w102 hq103 => ?_)
                      obtain ⟨⟨z104, rfl, -⟩, rfl⟩ := hq103
                      refine r_icmp_ne rfl (fun t105 => ?_) (fun t105 => ?_)
                      · refine v_iconst (v := 0) rfl (by decide) ?_
                        refine v_istore rfl (Nat.le_of_ble_eq_true rfl) ?_
                        refine r_iinc rfl rfl (by decide) (by omega) (by omega) (fun z106 z106e => ?_)
                        refine v_goto rfl ?_
                        exact ih66_79 (0 : Int32) z106 (by omega) (by omega) (by omega) (by omega) (by omega)
                      · refine v_goto rfl ?_
                        refine v_iconst (v := 1) rfl (by decide) ?_
                        refine v_goto rfl ?_
                        refine v_istore rfl (Nat.le_of_ble_eq_true rfl) ?_
                        refine r_iinc rfl rfl (by decide) (by omega) (by omega) (fun z107 z107e => ?_)
                        refine v_goto rfl ?_
                        exact ih66_79 (1 : Int32) z107 (by omega) (by omega) (by omega) (by omega) (by omega)
            exact L79 _ l60 (0 : Int32) (by omega) (by omega) (by omega) (by omega) (Nat.lt_add_one _)
      exact L65 _ (1 : Int32) (0 : Int32) (.null) (.null) (.null) (by omega) (by omega) (by omega) (by omega) (Nat.lt_add_one _)
  · refine v_aload_n rfl rfl ?_
    obtain ⟨v109, v110, v111, v112, v113, v114, v115, v116, ⟨v109z, v109e⟩, ⟨⟨v110a, v110b⟩, v110e⟩, ⟨⟨v111a, v111b⟩, v111e⟩, ⟨v113a, v113b⟩, ⟨v116a, v116b⟩, h108⟩ := hI.2.1 59 (by decide) (by decide)
    have v109z := v109z.imp i_eq.mp i_eq.mp
    rw [i_0, i_1] at v109z
    refine v_get rfl h108 rfl ?_
    refine v_goto rfl ?_
    refine v_istore_n rfl (Nat.le_of_ble_eq_true rfl) ?_
    refine v_iload_n rfl rfl ?_
    refine r_if_eq rfl (fun t117 => ?_) (fun t117 => ?_)
    · refine v_aload_n rfl rfl ?_
      refine v_get rfl h108 rfl ?_
      refine v_istore rfl (Nat.le_of_ble_eq_true rfl) ?_
      refine v_iconst (v := 1) rfl (by decide) ?_
      refine v_istore rfl (Nat.le_of_ble_eq_true rfl) ?_
      refine v_iconst (v := 0) rfl (by decide) ?_
      refine v_istore rfl (Nat.le_of_ble_eq_true rfl) ?_
      have L123 : ∀ (n123 : Nat) (l118 : Int32) (l119 : Int32) (u120 : Value) (u121 : Value) (u122 : Value), 0 ≤ l118.toInt → l118.toInt ≤ 1 → 0 ≤ l119.toInt → l119.toInt ≤ 20 → (20 - l119.toInt).toNat < n123 → pm_V sc d 127 39 [.ref 59, .int m, .int r, .int (gi 1), .int (gi 1), .int l118, .int l119, u120, u121, u122] [] w (fun rv w' => pm_wI (fun v => 0 ≤ v.toInt ∧ v.toInt ≤ 1) rv ∧ w = w') := by
        intro n123
        induction n123 with
        | zero => intro l118 l119 u120 u121 u122 t125 t126 t127 t128 hm124; exact absurd hm124 (Nat.not_lt_zero _)
        | succ n123 ih39_123 =>
          intro l118 l119 u120 u121 u122 t125 t126 t127 t128 hm124
          refine v_iload rfl rfl ?_
          refine v_iload_n rfl rfl ?_
          refine r_icmp_ge rfl (fun t129 => ?_) (fun t129 => ?_)
          · refine v_iload rfl rfl ?_
            exact r_zret rfl (by omega) ⟨⟨_, rfl, (by omega), (by omega)⟩, rfl⟩
          · refine v_iload_n rfl rfl ?_
            refine v_iload rfl rfl ?_
            refine r_isub rfl (by omega) (by omega) (fun z130 z130e => ?_)
            refine v_iload_n rfl rfl ?_
            refine r_iadd rfl (by omega) (by omega) (fun z131 z131e => ?_)
            refine v_iload_n rfl rfl ?_
            refine r_irem rfl (by omega) (by omega) (fun z132 z132m z132a z132b z132c => ?_)
            clear z132m
            refine v_istore rfl (Nat.le_of_ble_eq_true rfl) ?_
            refine v_iload_n rfl rfl ?_
            refine v_iload rfl rfl ?_
            refine r_iadd rfl (by omega) (by omega) (fun z133 z133e => ?_)
            refine v_iload_n rfl rfl ?_
            refine r_irem rfl (by omega) (by omega) (fun z134 z134m z134a z134b z134c => ?_)
            clear z134m
            refine v_istore rfl (Nat.le_of_ble_eq_true rfl) ?_
            refine v_iconst (v := 0) rfl (by decide) ?_
            refine v_istore rfl (Nat.le_of_ble_eq_true rfl) ?_
            have L137 : ∀ (n137 : Nat) (l135 : Int32) (l136 : Int32), 0 ≤ l135.toInt → l135.toInt ≤ 1 → 0 ≤ l136.toInt → l136.toInt ≤ 20 → (20 - l136.toInt).toNat < n137 → pm_V sc d 127 66 [.ref 59, .int m, .int r, .int (gi 1), .int (gi 1), .int l135, .int l119, .int z132, .int z134, .int l136] [] w (fun rv w' => pm_wI (fun v => 0 ≤ v.toInt ∧ v.toInt ≤ 1) rv ∧ w = w') := by
              intro n137
              induction n137 with
              | zero => intro l135 l136 t139 t140 t141 t142 hm138; exact absurd hm138 (Nat.not_lt_zero _)
              | succ n137 ih66_137 =>
                intro l135 l136 t139 t140 t141 t142 hm138
                refine v_iload rfl rfl ?_
                refine v_iload rfl rfl ?_
                refine r_icmp_ge rfl (fun t143 => ?_) (fun t143 => ?_)
                · refine r_iinc rfl rfl (by decide) (by omega) (by omega) (fun z144 z144e => ?_)
                  refine v_goto rfl ?_
                  exact ih39_123 l135 z144 (.int z132) (.int z134) (.int l136) (by omega) (by omega) (by omega) (by omega) (by omega)
                · refine v_iload rfl rfl ?_
                  refine r_if_eq rfl (fun t145 => ?_) (fun t145 => ?_)
                  · refine v_iconst (v := 0) rfl (by decide) ?_
                    refine v_istore rfl (Nat.le_of_ble_eq_true rfl) ?_
                    refine r_iinc rfl rfl (by decide) (by omega) (by omega) (fun z146 z146e => ?_)
                    refine v_goto rfl ?_
                    exact ih66_137 (0 : Int32) z146 (by omega) (by omega) (by omega) (by omega) (by omega)
                  · refine v_iload_n rfl rfl ?_
                    refine r_if_eq rfl (fun t147 => ?_) (fun t147 => ?_)
                    · refine v_aload_n rfl rfl ?_
                      refine v_iload rfl rfl ?_
                      refine v_iload rfl rfl ?_
                      refine v_callV rfl (W_X12_colour_59 z132 l136 (by omega) (by omega) (by omega) (by omega) hR hI) rfl rfl h108 rfl rfl (by omega) (fun rv w148 hq149 => ?_)
                      obtain ⟨⟨z150, rfl, -⟩, rfl⟩ := hq149
                      refine v_aload_n rfl rfl ?_
                      refine v_iload rfl rfl ?_
                      refine v_iload rfl rfl ?_
                      refine v_callV rfl (W_X12_colour_59 z134 l136 (by omega) (by omega) (by omega) (by omega) hR hI) rfl rfl h108 rfl rfl (by omega) (fun rv w151 hq152 => ?_)
                      obtain ⟨⟨z153, rfl, -⟩, rfl⟩ := hq152
                      refine r_icmp_ne rfl (fun t154 => ?_) (fun t154 => ?_)
                      · refine v_iconst (v := 0) rfl (by decide) ?_
                        refine v_istore rfl (Nat.le_of_ble_eq_true rfl) ?_
                        refine r_iinc rfl rfl (by decide) (by omega) (by omega) (fun z155 z155e => ?_)
                        refine v_goto rfl ?_
                        exact ih66_137 (0 : Int32) z155 (by omega) (by omega) (by omega) (by omega) (by omega)
                      · refine v_iconst (v := 1) rfl (by decide) ?_
                        refine v_goto rfl ?_
                        refine v_istore rfl (Nat.le_of_ble_eq_true rfl) ?_
                        refine r_iinc rfl rfl (by decide) (by omega) (by omega) (fun z156 z156e => ?_)
                        refine v_goto rfl ?_
                        exact ih66_137 (1 : Int32) z156 (by omega) (by omega) (by omega) (by omega) (by omega)
                    · refine v_aload_n rfl rfl ?_
                      refine v_iload rfl rfl ?_
                      refine v_iload rfl rfl ?_
                      refine v_callV rfl (W_X12_colour_59 l136 z132 (by omega) (by omega) (by omega) (by omega) hR hI) rfl rfl h108 rfl rfl (by omega) (fun rv w157 hq158 => ?_)
                      obtain ⟨⟨z159, rfl, -⟩, rfl⟩ := hq158
                      refine v_aload_n rfl rfl ?_
                      refine v_iload rfl rfl ?_
                      refine v_iload rfl rfl ?_
                      refine v_callV rfl (W_X12_colour_59 l136 z134 (by omega) (by omega) (by omega) (by omega) hR hI) rfl rfl h108 rfl rfl (by omega) (fun rv w160 hq161 => ?_)
                      obtain ⟨⟨z162, rfl, -⟩, rfl⟩ := hq161
                      refine r_icmp_ne rfl (fun t163 => ?_) (fun t163 => ?_)
                      · refine v_iconst (v := 0) rfl (by decide) ?_
                        refine v_istore rfl (Nat.le_of_ble_eq_true rfl) ?_
                        refine r_iinc rfl rfl (by decide) (by omega) (by omega) (fun z164 z164e => ?_)
                        refine v_goto rfl ?_
                        exact ih66_137 (0 : Int32) z164 (by omega) (by omega) (by omega) (by omega) (by omega)
                      · refine v_goto rfl ?_
                        refine v_iconst (v := 1) rfl (by decide) ?_
                        refine v_goto rfl ?_
                        refine v_istore rfl (Nat.le_of_ble_eq_true rfl) ?_
                        refine r_iinc rfl rfl (by decide) (by omega) (by omega) (fun z165 z165e => ?_)
                        refine v_goto rfl ?_
                        exact ih66_137 (1 : Int32) z165 (by omega) (by omega) (by omega) (by omega) (by omega)
            exact L137 _ l118 (0 : Int32) (by omega) (by omega) (by omega) (by omega) (Nat.lt_add_one _)
      exact L123 _ (1 : Int32) (0 : Int32) (.null) (.null) (.null) (by omega) (by omega) (by omega) (by omega) (Nat.lt_add_one _)
    · refine v_aload_n rfl rfl ?_
      refine v_get rfl h108 rfl ?_
      refine v_goto rfl ?_
      refine v_istore rfl (Nat.le_of_ble_eq_true rfl) ?_
      refine v_iconst (v := 1) rfl (by decide) ?_
      refine v_istore rfl (Nat.le_of_ble_eq_true rfl) ?_
      refine v_iconst (v := 0) rfl (by decide) ?_
      refine v_istore rfl (Nat.le_of_ble_eq_true rfl) ?_
      have L171 : ∀ (n171 : Nat) (l166 : Int32) (l167 : Int32) (u168 : Value) (u169 : Value) (u170 : Value), 0 ≤ l166.toInt → l166.toInt ≤ 1 → 0 ≤ l167.toInt → l167.toInt ≤ 20 → (20 - l167.toInt).toNat < n171 → pm_V sc d 127 39 [.ref 59, .int m, .int r, .int (gi 1), .int (gi 0), .int l166, .int l167, u168, u169, u170] [] w (fun rv w' => pm_wI (fun v => 0 ≤ v.toInt ∧ v.toInt ≤ 1) rv ∧ w = w') := by
        intro n171
        induction n171 with
        | zero => intro l166 l167 u168 u169 u170 t173 t174 t175 t176 hm172; exact absurd hm172 (Nat.not_lt_zero _)
        | succ n171 ih39_171 =>
          intro l166 l167 u168 u169 u170 t173 t174 t175 t176 hm172
          refine v_iload rfl rfl ?_
          refine v_iload_n rfl rfl ?_
          refine r_icmp_ge rfl (fun t177 => ?_) (fun t177 => ?_)
          · refine v_iload rfl rfl ?_
            exact r_zret rfl (by omega) ⟨⟨_, rfl, (by omega), (by omega)⟩, rfl⟩
          · refine v_iload_n rfl rfl ?_
            refine v_iload rfl rfl ?_
            refine r_isub rfl (by omega) (by omega) (fun z178 z178e => ?_)
            refine v_iload_n rfl rfl ?_
            refine r_iadd rfl (by omega) (by omega) (fun z179 z179e => ?_)
            refine v_iload_n rfl rfl ?_
            refine r_irem rfl (by omega) (by omega) (fun z180 z180m z180a z180b z180c => ?_)
            clear z180m
            refine v_istore rfl (Nat.le_of_ble_eq_true rfl) ?_
            refine v_iload_n rfl rfl ?_
            refine v_iload rfl rfl ?_
            refine r_iadd rfl (by omega) (by omega) (fun z181 z181e => ?_)
            refine v_iload_n rfl rfl ?_
            refine r_irem rfl (by omega) (by omega) (fun z182 z182m z182a z182b z182c => ?_)
            clear z182m
            refine v_istore rfl (Nat.le_of_ble_eq_true rfl) ?_
            refine v_iconst (v := 0) rfl (by decide) ?_
            refine v_istore rfl (Nat.le_of_ble_eq_true rfl) ?_
            have L185 : ∀ (n185 : Nat) (l183 : Int32) (l184 : Int32), 0 ≤ l183.toInt → l183.toInt ≤ 1 → 0 ≤ l184.toInt → l184.toInt ≤ 20 → (20 - l184.toInt).toNat < n185 → pm_V sc d 127 66 [.ref 59, .int m, .int r, .int (gi 1), .int (gi 0), .int l183, .int l167, .int z180, .int z182, .int l184] [] w (fun rv w' => pm_wI (fun v => 0 ≤ v.toInt ∧ v.toInt ≤ 1) rv ∧ w = w') := by
              intro n185
              induction n185 with
              | zero => intro l183 l184 t187 t188 t189 t190 hm186; exact absurd hm186 (Nat.not_lt_zero _)
              | succ n185 ih66_185 =>
                intro l183 l184 t187 t188 t189 t190 hm186
                refine v_iload rfl rfl ?_
                refine v_iload rfl rfl ?_
                refine r_icmp_ge rfl (fun t191 => ?_) (fun t191 => ?_)
                · refine r_iinc rfl rfl (by decide) (by omega) (by omega) (fun z192 z192e => ?_)
                  refine v_goto rfl ?_
                  exact ih39_171 l183 z192 (.int z180) (.int z182) (.int l184) (by omega) (by omega) (by omega) (by omega) (by omega)
                · refine v_iload rfl rfl ?_
                  refine r_if_eq rfl (fun t193 => ?_) (fun t193 => ?_)
                  · refine v_iconst (v := 0) rfl (by decide) ?_
                    refine v_istore rfl (Nat.le_of_ble_eq_true rfl) ?_
                    refine r_iinc rfl rfl (by decide) (by omega) (by omega) (fun z194 z194e => ?_)
                    refine v_goto rfl ?_
                    exact ih66_185 (0 : Int32) z194 (by omega) (by omega) (by omega) (by omega) (by omega)
                  · refine v_iload_n rfl rfl ?_
                    refine r_if_eq rfl (fun t195 => ?_) (fun t195 => ?_)
                    · refine v_aload_n rfl rfl ?_
                      refine v_iload rfl rfl ?_
                      refine v_iload rfl rfl ?_
                      refine v_callV rfl (W_X12_colour_59 z180 l184 (by omega) (by omega) (by omega) (by omega) hR hI) rfl rfl h108 rfl rfl (by omega) (fun rv w196 hq197 => ?_)
                      obtain ⟨⟨z198, rfl, -⟩, rfl⟩ := hq197
                      refine v_aload_n rfl rfl ?_
                      refine v_iload rfl rfl ?_
                      refine v_iload rfl rfl ?_
                      refine v_callV rfl (W_X12_colour_59 z182 l184 (by omega) (by omega) (by omega) (by omega) hR hI) rfl rfl h108 rfl rfl (by omega) (fun rv w199 hq200 => ?_)
                      obtain ⟨⟨z201, rfl, -⟩, rfl⟩ := hq200
                      refine r_icmp_ne rfl (fun t202 => ?_) (fun t202 => ?_)
                      · refine v_iconst (v := 0) rfl (by decide) ?_
                        refine v_istore rfl (Nat.le_of_ble_eq_true rfl) ?_
                        refine r_iinc rfl rfl (by decide) (by omega) (by omega) (fun z203 z203e => ?_)
                        refine v_goto rfl ?_
                        exact ih66_185 (0 : Int32) z203 (by omega) (by omega) (by omega) (by omega) (by omega)
                      · refine v_iconst (v := 1) rfl (by decide) ?_
                        refine v_goto rfl ?_
                        refine v_istore rfl (Nat.le_of_ble_eq_true rfl) ?_
                        refine r_iinc rfl rfl (by decide) (by omega) (by omega) (fun z204 z204e => ?_)
                        refine v_goto rfl ?_
                        exact ih66_185 (1 : Int32) z204 (by omega) (by omega) (by omega) (by omega) (by omega)
                    · refine v_aload_n rfl rfl ?_
                      refine v_iload rfl rfl ?_
                      refine v_iload rfl rfl ?_
                      refine v_callV rfl (W_X12_colour_59 l184 z180 (by omega) (by omega) (by omega) (by omega) hR hI) rfl rfl h108 rfl rfl (by omega) (fun rv w205 hq206 => ?_)
                      obtain ⟨⟨z207, rfl, -⟩, rfl⟩ := hq206
                      refine v_aload_n rfl rfl ?_
                      refine v_iload rfl rfl ?_
                      refine v_iload rfl rfl ?_
                      refine v_callV rfl (W_X12_colour_59 l184 z182 (by omega) (by omega) (by omega) (by omega) hR hI) rfl rfl h108 rfl rfl (by omega) (fun rv w208 hq209 => ?_)
                      obtain ⟨⟨z210, rfl, -⟩, rfl⟩ := hq209
                      refine r_icmp_ne rfl (fun t211 => ?_) (fun t211 => ?_)
                      · refine v_iconst (v := 0) rfl (by decide) ?_
                        refine v_istore rfl (Nat.le_of_ble_eq_true rfl) ?_
                        refine r_iinc rfl rfl (by decide) (by omega) (by omega) (fun z212 z212e => ?_)
                        refine v_goto rfl ?_
                        exact ih66_185 (0 : Int32) z212 (by omega) (by omega) (by omega) (by omega) (by omega)
                      · refine v_goto rfl ?_
                        refine v_iconst (v := 1) rfl (by decide) ?_
                        refine v_goto rfl ?_
                        refine v_istore rfl (Nat.le_of_ble_eq_true rfl) ?_
                        refine r_iinc rfl rfl (by decide) (by omega) (by omega) (fun z213 z213e => ?_)
                        refine v_goto rfl ?_
                        exact ih66_185 (1 : Int32) z213 (by omega) (by omega) (by omega) (by omega) (by omega)
            exact L185 _ l166 (0 : Int32) (by omega) (by omega) (by omega) (by omega) (Nat.lt_add_one _)
      exact L171 _ (1 : Int32) (0 : Int32) (.null) (.null) (.null) (by omega) (by omega) (by omega) (by omega) (Nat.lt_add_one _)
set_option maxRecDepth 100000 in
theorem W_X12_mirror_59 {sc : pm_S} {w w0 : pm_W} {gi : Nat → Int32} {ga : Nat → List Int32} (k : Int32)  (hR : pm_Rg gi ga) (hI : pm_IM gi ga w) (hh : pm_lo w0 w) : pm_Mt sc 2 128 3 [.ref 59, .int k] w (fun rv w' => pm_wI (fun v => True) rv ∧ pm_IM gi ga w' ∧ pm_lo w0 w') := by
  intro d hd
  obtain ⟨g0a, g0b⟩ := hR.n0
  obtain ⟨g1a, g1b⟩ := hR.n1
  obtain ⟨g2a, g2b⟩ := hR.n2
  obtain ⟨g3a, g3b⟩ := hR.n3
  obtain ⟨g4a, g4b⟩ := hR.n4
  obtain ⟨g5a, g5b⟩ := hR.n5
  obtain ⟨g6a, g6b⟩ := hR.n6
  obtain ⟨g7a, g7b⟩ := hR.n7
  obtain ⟨g8a, g8b⟩ := hR.n8
  have km9 : (-9 : Int32).toInt = -9 := by decide
  have km2 : (-2 : Int32).toInt = -2 := by decide
  have k0 : (0 : Int32).toInt = 0 := by decide
  have k1 : (1 : Int32).toInt = 1 := by decide
  show pm_V sc d 128 0 [.ref 59, .int k, .null] [] w _
  refine v_iload_n rfl rfl ?_
  refine v_iconst (v := 0) rfl (by decide) ?_
  refine v_iconst (v := 1) rfl (by decide) ?_
  refine v_callS rfl (W_X12_in k (0 : Int32) (1 : Int32) hR hI) rfl rfl rfl rfl rfl (by omega) (fun rv w1 hq2 => ?_)
  obtain ⟨⟨z3, rfl, z3p0⟩, rfl⟩ := hq2
  refine r_if_ne rfl (fun t4 => ?_) (fun t4 => ?_)
  · refine v_iconst (v := 0) rfl (by decide) ?_
    refine v_istore_n rfl (Nat.le_of_ble_eq_true rfl) ?_
    have L6 : ∀ (n6 : Nat) (l5 : Int32), 0 ≤ l5.toInt → l5.toInt ≤ 20 → (20 - l5.toInt).toNat < n6 → pm_V sc d 128 18 [.ref 59, .int k, .int l5] [] w (fun rv w' => pm_wI (fun v => True) rv ∧ pm_IM gi ga w' ∧ pm_lo w0 w') := by
      intro n6
      induction n6 with
      | zero => intro l5 t8 t9 hm7; exact absurd hm7 (Nat.not_lt_zero _)
      | succ n6 ih18_6 =>
        intro l5 t8 t9 hm7
        refine v_iload_n rfl rfl ?_
        refine v_iload_n rfl rfl ?_
        refine r_if_ne rfl (fun t10 => ?_) (fun t10 => ?_)
        · refine v_aload_n rfl rfl ?_
          obtain ⟨v12, v13, v14, v15, v16, v17, v18, v19, ⟨v12z, v12e⟩, ⟨⟨v13a, v13b⟩, v13e⟩, ⟨⟨v14a, v14b⟩, v14e⟩, ⟨v16a, v16b⟩, ⟨v19a, v19b⟩, h11⟩ := hI.2.1 59 (by decide) (by decide)
          have v12z := v12z.imp i_eq.mp i_eq.mp
          rw [i_0, i_1] at v12z
          refine v_get rfl h11 rfl ?_
          refine r_icmp_ge rfl (fun t20 => ?_) (fun t20 => ?_)
          · refine v_bipush (v := (-9)) rfl (by decide) ?_
            exact v_iret rfl ⟨⟨_, rfl, trivial⟩, hI, hh⟩
          · refine v_aload_n rfl rfl ?_
            refine v_iload_n rfl rfl ?_
            refine v_iload_n rfl rfl ?_
            refine v_iconst (v := 1) rfl (by decide) ?_
            refine r_icmp_ne rfl (fun t21 => ?_) (fun t21 => ?_)
            · refine v_iconst (v := 0) rfl (by decide) ?_
              refine v_callV rfl (W_X12_isMirror_59 l5 (0 : Int32) (by omega) (by omega) hR hI) rfl rfl h11 rfl rfl (by omega) (fun rv w22 hq23 => ?_)
              obtain ⟨⟨z24, rfl, z24p0, z24p1⟩, rfl⟩ := hq23
              refine r_if_eq rfl (fun t25 => ?_) (fun t25 => ?_)
              · refine r_iinc rfl rfl (by decide) (by omega) (by omega) (fun z26 z26e => ?_)
                refine v_goto rfl ?_
                exact ih18_6 z26 (by omega) (by omega) (by omega)
              · refine v_iload_n rfl rfl ?_
                exact v_iret rfl ⟨⟨_, rfl, trivial⟩, hI, hh⟩
            · refine v_iconst (v := 1) rfl (by decide) ?_
              refine v_goto rfl ?_
              refine v_callV rfl (W_X12_isMirror_59 l5 (1 : Int32) (by omega) (by omega) hR hI) rfl rfl h11 rfl rfl (by omega) (fun rv w27 hq28 => ?_)
              obtain ⟨⟨z29, rfl, z29p0, z29p1⟩, rfl⟩ := hq28
              refine r_if_eq rfl (fun t30 => ?_) (fun t30 => ?_)
              · refine r_iinc rfl rfl (by decide) (by omega) (by omega) (fun z31 z31e => ?_)
                refine v_goto rfl ?_
                exact ih18_6 z31 (by omega) (by omega) (by omega)
              · refine v_iload_n rfl rfl ?_
                exact v_iret rfl ⟨⟨_, rfl, trivial⟩, hI, hh⟩
        · refine v_aload_n rfl rfl ?_
          obtain ⟨v33, v34, v35, v36, v37, v38, v39, v40, ⟨v33z, v33e⟩, ⟨⟨v34a, v34b⟩, v34e⟩, ⟨⟨v35a, v35b⟩, v35e⟩, ⟨v37a, v37b⟩, ⟨v40a, v40b⟩, h32⟩ := hI.2.1 59 (by decide) (by decide)
          have v33z := v33z.imp i_eq.mp i_eq.mp
          rw [i_0, i_1] at v33z
          refine v_get rfl h32 rfl ?_
          refine v_goto rfl ?_
          refine r_icmp_ge rfl (fun t41 => ?_) (fun t41 => ?_)
          · refine v_bipush (v := (-9)) rfl (by decide) ?_
            exact v_iret rfl ⟨⟨_, rfl, trivial⟩, hI, hh⟩
          · refine v_aload_n rfl rfl ?_
            refine v_iload_n rfl rfl ?_
            refine v_iload_n rfl rfl ?_
            refine v_iconst (v := 1) rfl (by decide) ?_
            refine r_icmp_ne rfl (fun t42 => ?_) (fun t42 => ?_)
            · refine v_iconst (v := 0) rfl (by decide) ?_
              refine v_callV rfl (W_X12_isMirror_59 l5 (0 : Int32) (by omega) (by omega) hR hI) rfl rfl h32 rfl rfl (by omega) (fun rv w43 hq44 => ?_)
              obtain ⟨⟨z45, rfl, z45p0, z45p1⟩, rfl⟩ := hq44
              refine r_if_eq rfl (fun t46 => ?_) (fun t46 => ?_)
              · refine r_iinc rfl rfl (by decide) (by omega) (by omega) (fun z47 z47e => ?_)
                refine v_goto rfl ?_
                exact ih18_6 z47 (by omega) (by omega) (by omega)
              · refine v_iload_n rfl rfl ?_
                exact v_iret rfl ⟨⟨_, rfl, trivial⟩, hI, hh⟩
            · refine v_iconst (v := 1) rfl (by decide) ?_
              refine v_goto rfl ?_
              refine v_callV rfl (W_X12_isMirror_59 l5 (1 : Int32) (by omega) (by omega) hR hI) rfl rfl h32 rfl rfl (by omega) (fun rv w48 hq49 => ?_)
              obtain ⟨⟨z50, rfl, z50p0, z50p1⟩, rfl⟩ := hq49
              refine r_if_eq rfl (fun t51 => ?_) (fun t51 => ?_)
              · refine r_iinc rfl rfl (by decide) (by omega) (by omega) (fun z52 z52e => ?_)
                refine v_goto rfl ?_
                exact ih18_6 z52 (by omega) (by omega) (by omega)
              · refine v_iload_n rfl rfl ?_
                exact v_iret rfl ⟨⟨_, rfl, trivial⟩, hI, hh⟩
    exact L6 _ (0 : Int32) (by omega) (by omega) (Nat.lt_add_one _)
  · refine v_aload_n rfl rfl ?_
    refine v_bipush (v := (-2)) rfl (by decide) ?_
    obtain ⟨v54, v55, v56, v57, v58, v59, v60, v61, ⟨v54z, v54e⟩, ⟨⟨v55a, v55b⟩, v55e⟩, ⟨⟨v56a, v56b⟩, v56e⟩, ⟨v58a, v58b⟩, ⟨v61a, v61b⟩, h53⟩ := hI.2.1 59 (by decide) (by decide)
    have v54z := v54z.imp i_eq.mp i_eq.mp
    rw [i_0, i_1] at v54z
    refine v_callV rfl (c_M_refuse (-2 : Int32) (by unfold pm_isR; first | decide | exact Or.inl rfl) hR hI) rfl rfl h53 rfl rfl (by omega) (fun rv w62 hq63 => ?_)
    obtain ⟨rfl, hI64, hh65x⟩ := hq63
    have hI64 : pm_IM gi ga w62 := hI64
    have hh65 := hh.tr hh65x
    exact v_iret rfl ⟨⟨_, rfl, trivial⟩, hI64, hh65⟩
set_option maxRecDepth 100000 in
theorem W_X12_areAlike_59 {sc : pm_S} {w : pm_W} {gi : Nat → Int32} {ga : Nat → List Int32} (a : Int32) (b : Int32) (p0 : b.toInt ≤ 19) (p1 : 0 ≤ b.toInt) (p2 : a.toInt ≤ 19) (p3 : 0 ≤ a.toInt) (hR : pm_Rg gi ga) (hI : pm_IM gi ga w) : pm_Mt sc 1 129 5 [.ref 59, .int a, .int b] w (fun rv w' => pm_wI (fun v => 0 ≤ v.toInt ∧ v.toInt ≤ 1) rv ∧ w = w') := by
  intro d hd
  obtain ⟨g0a, g0b⟩ := hR.n0
  obtain ⟨g1a, g1b⟩ := hR.n1
  obtain ⟨g2a, g2b⟩ := hR.n2
  obtain ⟨g3a, g3b⟩ := hR.n3
  obtain ⟨g4a, g4b⟩ := hR.n4
  obtain ⟨g5a, g5b⟩ := hR.n5
  obtain ⟨g6a, g6b⟩ := hR.n6
  obtain ⟨g7a, g7b⟩ := hR.n7
  obtain ⟨g8a, g8b⟩ := hR.n8
  have k0 : (0 : Int32).toInt = 0 := by decide
  have k1 : (1 : Int32).toInt = 1 := by decide
  show pm_V sc d 129 0 [.ref 59, .int a, .int b, .null, .null] [] w _
  refine v_iconst (v := 1) rfl (by decide) ?_
  refine v_istore_n rfl (Nat.le_of_ble_eq_true rfl) ?_
  refine v_iconst (v := 0) rfl (by decide) ?_
  refine v_istore rfl (Nat.le_of_ble_eq_true rfl) ?_
  have L3 : ∀ (n3 : Nat) (l1 : Int32) (l2 : Int32), 0 ≤ l1.toInt → l1.toInt ≤ 1 → 0 ≤ l2.toInt → l2.toInt ≤ 20 → (20 - l2.toInt).toNat < n3 → pm_V sc d 129 5 [.ref 59, .int a, .int b, .int l1, .int l2] [] w (fun rv w' => pm_wI (fun v => 0 ≤ v.toInt ∧ v.toInt ≤ 1) rv ∧ w = w') := by
    intro n3
    induction n3 with
    | zero => intro l1 l2 t5 t6 t7 t8 hm4; exact absurd hm4 (Nat.not_lt_zero _)
    | succ n3 ih5_3 =>
      intro l1 l2 t5 t6 t7 t8 hm4
      refine v_iload rfl rfl ?_
      refine v_aload_n rfl rfl ?_
      obtain ⟨v10, v11, v12, v13, v14, v15, v16, v17, ⟨v10z, v10e⟩, ⟨⟨v11a, v11b⟩, v11e⟩, ⟨⟨v12a, v12b⟩, v12e⟩, ⟨v14a, v14b⟩, ⟨v17a, v17b⟩, h9⟩ := hI.2.1 59 (by decide) (by decide)
      have v10z := v10z.imp i_eq.mp i_eq.mp
      rw [i_0, i_1] at v10z
      refine v_get rfl h9 rfl ?_
      refine r_icmp_ge rfl (fun t18 => ?_) (fun t18 => ?_)
      · refine v_iload_n rfl rfl ?_
        exact r_zret rfl (by omega) ⟨⟨_, rfl, (by omega), (by omega)⟩, rfl⟩
      · refine v_iload_n rfl rfl ?_
        refine r_if_eq rfl (fun t19 => ?_) (fun t19 => ?_)
        · refine v_iconst (v := 0) rfl (by decide) ?_
          refine v_istore_n rfl (Nat.le_of_ble_eq_true rfl) ?_
          refine r_iinc rfl rfl (by decide) (by omega) (by omega) (fun z20 z20e => ?_)
          refine v_goto rfl ?_
          exact ih5_3 (0 : Int32) z20 (by omega) (by omega) (by omega) (by omega) (by omega)
        · refine v_aload_n rfl rfl ?_
          refine v_iload_n rfl rfl ?_
          refine v_iload rfl rfl ?_
          refine v_callV rfl (W_X12_colour_59 a l2 (by omega) (by omega) (by omega) (by omega) hR hI) rfl rfl h9 rfl rfl (by omega) (fun rv w21 hq22 => ?_)
          obtain ⟨⟨z23, rfl, -⟩, rfl⟩ := hq22
          refine v_aload_n rfl rfl ?_
          refine v_iload_n rfl rfl ?_
          refine v_iload rfl rfl ?_
          refine v_callV rfl (W_X12_colour_59 b l2 (by omega) (by omega) (by omega) (by omega) hR hI) rfl rfl h9 rfl rfl (by omega) (fun rv w24 hq25 => ?_)
          obtain ⟨⟨z26, rfl, -⟩, rfl⟩ := hq25
          refine r_icmp_ne rfl (fun t27 => ?_) (fun t27 => ?_)
          · refine v_iconst (v := 0) rfl (by decide) ?_
            refine v_istore_n rfl (Nat.le_of_ble_eq_true rfl) ?_
            refine r_iinc rfl rfl (by decide) (by omega) (by omega) (fun z28 z28e => ?_)
            refine v_goto rfl ?_
            exact ih5_3 (0 : Int32) z28 (by omega) (by omega) (by omega) (by omega) (by omega)
          · refine v_iconst (v := 1) rfl (by decide) ?_
            refine v_goto rfl ?_
            refine v_istore_n rfl (Nat.le_of_ble_eq_true rfl) ?_
            refine r_iinc rfl rfl (by decide) (by omega) (by omega) (fun z29 z29e => ?_)
            refine v_goto rfl ?_
            exact ih5_3 (1 : Int32) z29 (by omega) (by omega) (by omega) (by omega) (by omega)
  exact L3 _ (1 : Int32) (0 : Int32) (by omega) (by omega) (by omega) (by omega) (Nat.lt_add_one _)
set_option maxRecDepth 100000 in
theorem W_X12_findCords_59 {sc : pm_S} {w w0 : pm_W} {gi : Nat → Int32} {ga : Nat → List Int32}   (hR : pm_Rg gi ga) (hI : pm_IM gi ga w) (hh : pm_lo w0 w) : pm_Mt sc 2 130 3 [.ref 59] w (fun rv w' => rv = none ∧ pm_IM gi ga w' ∧ pm_lo w0 w') := by
  intro d hd
  obtain ⟨g0a, g0b⟩ := hR.n0
  obtain ⟨g1a, g1b⟩ := hR.n1
  obtain ⟨g2a, g2b⟩ := hR.n2
  obtain ⟨g3a, g3b⟩ := hR.n3
  obtain ⟨g4a, g4b⟩ := hR.n4
  obtain ⟨g5a, g5b⟩ := hR.n5
  obtain ⟨g6a, g6b⟩ := hR.n6
  obtain ⟨g7a, g7b⟩ := hR.n7
  obtain ⟨g8a, g8b⟩ := hR.n8
  have km1 : (-1 : Int32).toInt = -1 := by decide
  have k0 : (0 : Int32).toInt = 0 := by decide
  have k1 : (1 : Int32).toInt = 1 := by decide
  show pm_V sc d 130 0 [.ref 59, .null, .null] [] w _
  refine v_aload_n rfl rfl ?_
  refine v_iconst (v := 0) rfl (by decide) ?_
  obtain ⟨v2, v3, v4, v5, v6, v7, v8, v9, ⟨v2z, v2e⟩, ⟨⟨v3a, v3b⟩, v3e⟩, ⟨⟨v4a, v4b⟩, v4e⟩, ⟨v6a, v6b⟩, ⟨v9a, v9b⟩, h1⟩ := hI.2.1 59 (by decide) (by decide)
  have v2z := v2z.imp i_eq.mp i_eq.mp
  rw [i_0, i_1] at v2z
  refine v_put rfl h1 rfl (Nat.le_of_ble_eq_true rfl) ?_
  refine r_gen (w' := w.set 59 (.inr (12, [.int (gi 0), .int (gi 1), .ref 60, .int (gi 2), .int v2, .int v3, .int v4, .ref 61, .ref 62, .ref 63, .int (gi 5), .int (gi 3), .int (gi 4), .int (gi 6), .int v5, .int (gi 7), .ref 64, .ref 65, .ref 66, .ref 67, .int (gi 8), .ref 68, .ref 69, .ref 70, .ref 71, .ref 72, .ref 73, .ref 74, .ref 75, .ref 76, .ref 77, .ref 78, .ref 79, .ref 80, .ref 81, .int (0 : Int32), .ref 82, .ref 83, .ref 84, .int v7, .int v8, .ref 85, .int v9, .ref 86, .ref 87]))) (fun w10 e11 => ?_)
  have hI12 : pm_IM gi ga w10 := by rw [e11]; exact hI.set 59 (by decide) (by decide) (by decide) (by decide) ⟨v2, v3, v4, v5, (0 : Int32), v7, v8, v9, ⟨((show v2.toInt = 0 ∨ v2.toInt = 1 by omega).imp i_eq.mpr i_eq.mpr), v2e⟩, ⟨⟨by omega, by omega⟩, v3e⟩, ⟨⟨by omega, by omega⟩, v4e⟩, ⟨by omega, by omega⟩, ⟨by omega, by omega⟩, rfl⟩
  have hh13 : pm_lo w0 w10 := by rw [e11]; exact hh.set (by decide) _
  have h14 := r_get_eq e11 h1
  refine v_iconst (v := 0) rfl (by decide) ?_
  refine v_istore_n rfl (Nat.le_of_ble_eq_true rfl) ?_
  have L26 : ∀ (n26 : Nat) (l15 : Int32) (u16 : Value) (w17 : pm_W) (v21 : Int32) (v22 : Int32) (v23 : Int32) (v24 : Int32) (v25 : Int32), pm_IM gi ga w17 → pm_lo w0 w17 → w17[59]? = some (.inr (12, [.int (gi 0), .int (gi 1), .ref 60, .int (gi 2), .int v2, .int v3, .int v4, .ref 61, .ref 62, .ref 63, .int (gi 5), .int (gi 3), .int (gi 4), .int (gi 6), .int v21, .int (gi 7), .ref 64, .ref 65, .ref 66, .ref 67, .int (gi 8), .ref 68, .ref 69, .ref 70, .ref 71, .ref 72, .ref 73, .ref 74, .ref 75, .ref 76, .ref 77, .ref 78, .ref 79, .ref 80, .ref 81, .int v22, .ref 82, .ref 83, .ref 84, .int v23, .int v24, .ref 85, .int v25, .ref 86, .ref 87])) → 0 ≤ l15.toInt → l15.toInt ≤ 20 → 0 ≤ v22.toInt → v22.toInt ≤ 20 → 0 ≤ v25.toInt → v25.toInt ≤ 12 → (v22.toInt ≤ l15.toInt) → (20 - l15.toInt).toNat < n26 → pm_V sc d 130 7 [.ref 59, .int l15, u16] [] w17 (fun rv w' => rv = none ∧ pm_IM gi ga w' ∧ pm_lo w0 w') := by
    intro n26
    induction n26 with
    | zero => intro l15 u16 w17 v21 v22 v23 v24 v25 hI18 hh19 h20 t28 t29 t30 t31 t32 t33 t34 hm27; exact absurd hm27 (Nat.not_lt_zero _)
    | succ n26 ih7_26 =>
      intro l15 u16 w17 v21 v22 v23 v24 v25 hI18 hh19 h20 t28 t29 t30 t31 t32 t33 t34 hm27
      refine v_iload_n rfl rfl ?_
      refine v_aload_n rfl rfl ?_
      refine v_get rfl h20 rfl ?_
      refine r_icmp_ge rfl (fun t35 => ?_) (fun t35 => ?_)
      · exact v_ret rfl ⟨rfl, hI18, hh19⟩
      · refine v_aload_n rfl rfl ?_
        refine v_get rfl h20 rfl ?_
        refine v_iload_n rfl rfl ?_
        refine v_iconst (v := (-1)) rfl (by decide) ?_
        obtain ⟨xs37, xs37l, xs37r, h36⟩ := hI18.2.1 80 (by decide) (by decide)
        refine r_iastore rfl h36 xs37l (by omega) (by omega) (fun ys38 ys38l ys38m ys38g => ?_)
        have ys38r := r_rng ys38m xs37r (by omega) (by omega)
        refine r_gen (w' := w17.set 80 (.inl (0, .inl ys38))) (fun w39 e40 => ?_)
        have hI41 : pm_IM gi ga w39 := by rw [e40]; exact hI18.set 80 (by decide) (by decide) (by decide) (by decide) ⟨ys38, ys38l, ys38r, rfl⟩
        have hh42 : pm_lo w0 w39 := by rw [e40]; exact hh19.set (by decide) _
        have h43 := r_get_ne e40 (show 80 ≠ 59 by decide) h20
        have h44 := r_get_eq e40 h36
        refine v_iconst (v := 0) rfl (by decide) ?_
        refine v_istore_n rfl (Nat.le_of_ble_eq_true rfl) ?_
        have L55 : ∀ (n55 : Nat) (l45 : Int32) (w46 : pm_W) (v50 : Int32) (v51 : Int32) (v52 : Int32) (v53 : Int32) (v54 : Int32), pm_IM gi ga w46 → pm_lo w0 w46 → w46[59]? = some (.inr (12, [.int (gi 0), .int (gi 1), .ref 60, .int (gi 2), .int v2, .int v3, .int v4, .ref 61, .ref 62, .ref 63, .int (gi 5), .int (gi 3), .int (gi 4), .int (gi 6), .int v50, .int (gi 7), .ref 64, .ref 65, .ref 66, .ref 67, .int (gi 8), .ref 68, .ref 69, .ref 70, .ref 71, .ref 72, .ref 73, .ref 74, .ref 75, .ref 76, .ref 77, .ref 78, .ref 79, .ref 80, .ref 81, .int v51, .ref 82, .ref 83, .ref 84, .int v52, .int v53, .ref 85, .int v54, .ref 86, .ref 87])) → 0 ≤ l45.toInt → l45.toInt ≤ 20 → 0 ≤ v51.toInt → v51.toInt ≤ 20 → 0 ≤ v54.toInt → v54.toInt ≤ 12 → (v51.toInt ≤ l15.toInt) → (20 - l45.toInt).toNat < n55 → pm_V sc d 130 24 [.ref 59, .int l15, .int l45] [] w46 (fun rv w' => rv = none ∧ pm_IM gi ga w' ∧ pm_lo w0 w') := by
          intro n55
          induction n55 with
          | zero => intro l45 w46 v50 v51 v52 v53 v54 hI47 hh48 h49 t57 t58 t59 t60 t61 t62 t63 hm56; exact absurd hm56 (Nat.not_lt_zero _)
          | succ n55 ih24_55 =>
            intro l45 w46 v50 v51 v52 v53 v54 hI47 hh48 h49 t57 t58 t59 t60 t61 t62 t63 hm56
            refine v_iload_n rfl rfl ?_
            refine v_aload_n rfl rfl ?_
            refine v_get rfl h49 rfl ?_
            refine r_icmp_ge rfl (fun t64 => ?_) (fun t64 => ?_)
            · refine v_aload_n rfl rfl ?_
              refine v_get rfl h49 rfl ?_
              refine v_iload_n rfl rfl ?_
              obtain ⟨xs66, xs66l, xs66r, h65⟩ := hI47.2.1 80 (by decide) (by decide)
              refine r_iaload rfl h65 xs66l (by omega) (by omega) (fun z67 z67m z67g => ?_)
              obtain ⟨z67a, z67b⟩ := xs66r z67 z67m
              refine r_if_ge rfl (fun t68 => ?_) (fun t68 => ?_)
              · refine r_iinc rfl rfl (by decide) (by omega) (by omega) (fun z69 z69e => ?_)
                refine v_goto rfl ?_
                exact ih7_26 z69 (.int l45) w46 v50 v51 v52 v53 v54 hI47 hh48 h49 (by omega) (by omega) (by omega) (by omega) (by omega) (by omega) (by omega) (by omega)
              · refine v_aload_n rfl rfl ?_
                refine v_get rfl h49 rfl ?_
                refine v_aload_n rfl rfl ?_
                refine v_get rfl h49 rfl ?_
                refine v_iload_n rfl rfl ?_
                obtain ⟨xs71, xs71l, xs71r, h70⟩ := hI47.2.1 81 (by decide) (by decide)
                refine r_iastore rfl h70 xs71l (by omega) (by omega) (fun ys72 ys72l ys72m ys72g => ?_)
                have ys72r := r_rng ys72m xs71r (by omega) (by omega)
                refine r_gen (w' := w46.set 81 (.inl (0, .inl ys72))) (fun w73 e74 => ?_)
                have hI75 : pm_IM gi ga w73 := by rw [e74]; exact hI47.set 81 (by decide) (by decide) (by decide) (by decide) ⟨ys72, ys72l, ys72r, rfl⟩
                have hh76 : pm_lo w0 w73 := by rw [e74]; exact hh48.set (by decide) _
                have h77 := r_get_ne e74 (show 81 ≠ 59 by decide) h49
                have h78 := r_get_ne e74 (show 81 ≠ 80 by decide) h65
                have h79 := r_get_eq e74 h70
                refine v_aload_n rfl rfl ?_
                refine v_get rfl h77 rfl ?_
                refine v_iload_n rfl rfl ?_
                refine v_aload_n rfl rfl ?_
                refine v_get rfl h77 rfl ?_
                refine r_iastore rfl h78 xs66l (by omega) (by omega) (fun ys80 ys80l ys80m ys80g => ?_)
                have ys80r := r_rng ys80m xs66r (by omega) (by omega)
                refine r_gen (w' := w73.set 80 (.inl (0, .inl ys80))) (fun w81 e82 => ?_)
                have hI83 : pm_IM gi ga w81 := by rw [e82]; exact hI75.set 80 (by decide) (by decide) (by decide) (by decide) ⟨ys80, ys80l, ys80r, rfl⟩
                have hh84 : pm_lo w0 w81 := by rw [e82]; exact hh76.set (by decide) _
                have h85 := r_get_ne e82 (show 80 ≠ 59 by decide) h77
                have h86 := r_get_ne e82 (show 80 ≠ 81 by decide) h79
                have h87 := r_get_eq e82 h78
                refine v_aload_n rfl rfl ?_
                refine v_dup rfl rfl ?_
                refine v_get rfl h85 rfl ?_
                refine v_iconst (v := 1) rfl (by decide) ?_
                refine r_iadd rfl (by omega) (by omega) (fun z88 z88e => ?_)
                refine v_put rfl h85 rfl (Nat.le_of_ble_eq_true rfl) ?_
                refine r_gen (w' := w81.set 59 (.inr (12, [.int (gi 0), .int (gi 1), .ref 60, .int (gi 2), .int v2, .int v3, .int v4, .ref 61, .ref 62, .ref 63, .int (gi 5), .int (gi 3), .int (gi 4), .int (gi 6), .int v50, .int (gi 7), .ref 64, .ref 65, .ref 66, .ref 67, .int (gi 8), .ref 68, .ref 69, .ref 70, .ref 71, .ref 72, .ref 73, .ref 74, .ref 75, .ref 76, .ref 77, .ref 78, .ref 79, .ref 80, .ref 81, .int z88, .ref 82, .ref 83, .ref 84, .int v52, .int v53, .ref 85, .int v54, .ref 86, .ref 87]))) (fun w89 e90 => ?_)
                have hI91 : pm_IM gi ga w89 := by rw [e90]; exact hI83.set 59 (by decide) (by decide) (by decide) (by decide) ⟨v2, v3, v4, v50, z88, v52, v53, v54, ⟨((show v2.toInt = 0 ∨ v2.toInt = 1 by omega).imp i_eq.mpr i_eq.mpr), v2e⟩, ⟨⟨by omega, by omega⟩, v3e⟩, ⟨⟨by omega, by omega⟩, v4e⟩, ⟨by omega, by omega⟩, ⟨by omega, by omega⟩, rfl⟩
                have hh92 : pm_lo w0 w89 := by rw [e90]; exact hh84.set (by decide) _
                have h93 := r_get_ne e90 (show 59 ≠ 81 by decide) h86
                have h94 := r_get_ne e90 (show 59 ≠ 80 by decide) h87
                have h95 := r_get_eq e90 h85
                refine r_iinc rfl rfl (by decide) (by omega) (by omega) (fun z96 z96e => ?_)
                refine v_goto rfl ?_
                exact ih7_26 z96 (.int l45) w89 v50 z88 v52 v53 v54 hI91 hh92 h95 (by omega) (by omega) (by omega) (by omega) (by omega) (by omega) (by omega) (by omega)
            · refine v_aload_n rfl rfl ?_
              refine v_get rfl h49 rfl ?_
              refine v_iload_n rfl rfl ?_
              obtain ⟨xs98, xs98l, xs98r, h97⟩ := hI47.2.1 80 (by decide) (by decide)
              refine r_iaload rfl h97 xs98l (by omega) (by omega) (fun z99 z99m z99g => ?_)
              obtain ⟨z99a, z99b⟩ := xs98r z99 z99m
              refine r_if_ge rfl (fun t100 => ?_) (fun t100 => ?_)
              · refine v_aload_n rfl rfl ?_
                refine v_get rfl h49 rfl ?_
                refine v_iload_n rfl rfl ?_
                refine r_iaload rfl h97 xs98l (by omega) (by omega) (fun z101 z101m z101g => ?_)
                obtain ⟨z101a, z101b⟩ := xs98r z101 z101m
                refine r_if_ge rfl (fun t102 => ?_) (fun t102 => ?_)
                · refine r_iinc rfl rfl (by decide) (by omega) (by omega) (fun z103 z103e => ?_)
                  refine v_goto rfl ?_
                  exact ih7_26 z103 (.int l45) w46 v50 v51 v52 v53 v54 hI47 hh48 h49 (by omega) (by omega) (by omega) (by omega) (by omega) (by omega) (by omega) (by omega)
                · refine v_aload_n rfl rfl ?_
                  refine v_get rfl h49 rfl ?_
                  refine v_aload_n rfl rfl ?_
                  refine v_get rfl h49 rfl ?_
                  refine v_iload_n rfl rfl ?_
                  obtain ⟨xs105, xs105l, xs105r, h104⟩ := hI47.2.1 81 (by decide) (by decide)
                  refine r_iastore rfl h104 xs105l (by omega) (by omega) (fun ys106 ys106l ys106m ys106g => ?_)
                  have ys106r := r_rng ys106m xs105r (by omega) (by omega)
                  refine r_gen (w' := w46.set 81 (.inl (0, .inl ys106))) (fun w107 e108 => ?_)
                  have hI109 : pm_IM gi ga w107 := by rw [e108]; exact hI47.set 81 (by decide) (by decide) (by decide) (by decide) ⟨ys106, ys106l, ys106r, rfl⟩
                  have hh110 : pm_lo w0 w107 := by rw [e108]; exact hh48.set (by decide) _
                  have h111 := r_get_ne e108 (show 81 ≠ 59 by decide) h49
                  have h112 := r_get_ne e108 (show 81 ≠ 80 by decide) h97
                  have h113 := r_get_eq e108 h104
                  refine v_aload_n rfl rfl ?_
                  refine v_get rfl h111 rfl ?_
                  refine v_iload_n rfl rfl ?_
                  refine v_aload_n rfl rfl ?_
                  refine v_get rfl h111 rfl ?_
                  refine r_iastore rfl h112 xs98l (by omega) (by omega) (fun ys114 ys114l ys114m ys114g => ?_)
                  have ys114r := r_rng ys114m xs98r (by omega) (by omega)
                  refine r_gen (w' := w107.set 80 (.inl (0, .inl ys114))) (fun w115 e116 => ?_)
                  have hI117 : pm_IM gi ga w115 := by rw [e116]; exact hI109.set 80 (by decide) (by decide) (by decide) (by decide) ⟨ys114, ys114l, ys114r, rfl⟩
                  have hh118 : pm_lo w0 w115 := by rw [e116]; exact hh110.set (by decide) _
                  have h119 := r_get_ne e116 (show 80 ≠ 59 by decide) h111
                  have h120 := r_get_ne e116 (show 80 ≠ 81 by decide) h113
                  have h121 := r_get_eq e116 h112
                  refine v_aload_n rfl rfl ?_
                  refine v_dup rfl rfl ?_
                  refine v_get rfl h119 rfl ?_
                  refine v_iconst (v := 1) rfl (by decide) ?_
                  refine r_iadd rfl (by omega) (by omega) (fun z122 z122e => ?_)
                  refine v_put rfl h119 rfl (Nat.le_of_ble_eq_true rfl) ?_
                  refine r_gen (w' := w115.set 59 (.inr (12, [.int (gi 0), .int (gi 1), .ref 60, .int (gi 2), .int v2, .int v3, .int v4, .ref 61, .ref 62, .ref 63, .int (gi 5), .int (gi 3), .int (gi 4), .int (gi 6), .int v50, .int (gi 7), .ref 64, .ref 65, .ref 66, .ref 67, .int (gi 8), .ref 68, .ref 69, .ref 70, .ref 71, .ref 72, .ref 73, .ref 74, .ref 75, .ref 76, .ref 77, .ref 78, .ref 79, .ref 80, .ref 81, .int z122, .ref 82, .ref 83, .ref 84, .int v52, .int v53, .ref 85, .int v54, .ref 86, .ref 87]))) (fun w123 e124 => ?_)
                  have hI125 : pm_IM gi ga w123 := by rw [e124]; exact hI117.set 59 (by decide) (by decide) (by decide) (by decide) ⟨v2, v3, v4, v50, z122, v52, v53, v54, ⟨((show v2.toInt = 0 ∨ v2.toInt = 1 by omega).imp i_eq.mpr i_eq.mpr), v2e⟩, ⟨⟨by omega, by omega⟩, v3e⟩, ⟨⟨by omega, by omega⟩, v4e⟩, ⟨by omega, by omega⟩, ⟨by omega, by omega⟩, rfl⟩
                  have hh126 : pm_lo w0 w123 := by rw [e124]; exact hh118.set (by decide) _
                  have h127 := r_get_ne e124 (show 59 ≠ 81 by decide) h120
                  have h128 := r_get_ne e124 (show 59 ≠ 80 by decide) h121
                  have h129 := r_get_eq e124 h119
                  refine r_iinc rfl rfl (by decide) (by omega) (by omega) (fun z130 z130e => ?_)
                  refine v_goto rfl ?_
                  exact ih7_26 z130 (.int l45) w123 v50 z122 v52 v53 v54 hI125 hh126 h129 (by omega) (by omega) (by omega) (by omega) (by omega) (by omega) (by omega) (by omega)
              · refine v_aload_n rfl rfl ?_
                refine v_get rfl h49 rfl ?_
                refine v_iload_n rfl rfl ?_
                refine v_aload_n rfl rfl ?_
                refine v_aload_n rfl rfl ?_
                refine v_get rfl h49 rfl ?_
                refine v_iload_n rfl rfl ?_
                obtain ⟨xs132, xs132l, xs132r, h131⟩ := hI47.2.1 81 (by decide) (by decide)
                refine r_iaload rfl h131 xs132l (by omega) (by omega) (fun z133 z133m z133g => ?_)
                obtain ⟨z133a, z133b⟩ := xs132r z133 z133m
                refine v_iload_n rfl rfl ?_
                refine v_callV rfl (W_X12_areAlike_59 z133 l15 (by omega) (by omega) (by omega) (by omega) hR hI47) rfl rfl h49 rfl rfl (by omega) (fun rv w134 hq135 => ?_)
                obtain ⟨⟨z136, rfl, z136p0, z136p1⟩, rfl⟩ := hq135
                refine r_if_eq rfl (fun t137 => ?_) (fun t137 => ?_)
                · refine v_iconst (v := (-1)) rfl (by decide) ?_
                  refine r_iastore rfl h97 xs98l (by omega) (by omega) (fun ys138 ys138l ys138m ys138g => ?_)
                  have ys138r := r_rng ys138m xs98r (by omega) (by omega)
                  refine r_gen (w' := w46.set 80 (.inl (0, .inl ys138))) (fun w139 e140 => ?_)
                  have hI141 : pm_IM gi ga w139 := by rw [e140]; exact hI47.set 80 (by decide) (by decide) (by decide) (by decide) ⟨ys138, ys138l, ys138r, rfl⟩
                  have hh142 : pm_lo w0 w139 := by rw [e140]; exact hh48.set (by decide) _
                  have h143 := r_get_ne e140 (show 80 ≠ 59 by decide) h49
                  have h144 := r_get_ne e140 (show 80 ≠ 81 by decide) h131
                  have h145 := r_get_eq e140 h97
                  refine r_iinc rfl rfl (by decide) (by omega) (by omega) (fun z146 z146e => ?_)
                  refine v_goto rfl ?_
                  exact ih24_55 z146 w139 v50 v51 v52 v53 v54 hI141 hh142 h143 (by omega) (by omega) (by omega) (by omega) (by omega) (by omega) (by omega) (by omega)
                · refine v_iload_n rfl rfl ?_
                  refine v_goto rfl ?_
                  refine r_iastore rfl h97 xs98l (by omega) (by omega) (fun ys147 ys147l ys147m ys147g => ?_)
                  have ys147r := r_rng ys147m xs98r (by omega) (by omega)
                  refine r_gen (w' := w46.set 80 (.inl (0, .inl ys147))) (fun w148 e149 => ?_)
                  have hI150 : pm_IM gi ga w148 := by rw [e149]; exact hI47.set 80 (by decide) (by decide) (by decide) (by decide) ⟨ys147, ys147l, ys147r, rfl⟩
                  have hh151 : pm_lo w0 w148 := by rw [e149]; exact hh48.set (by decide) _
                  have h152 := r_get_ne e149 (show 80 ≠ 59 by decide) h49
                  have h153 := r_get_ne e149 (show 80 ≠ 81 by decide) h131
                  have h154 := r_get_eq e149 h97
                  refine r_iinc rfl rfl (by decide) (by omega) (by omega) (fun z155 z155e => ?_)
                  refine v_goto rfl ?_
                  exact ih24_55 z155 w148 v50 v51 v52 v53 v54 hI150 hh151 h152 (by omega) (by omega) (by omega) (by omega) (by omega) (by omega) (by omega) (by omega)
        exact L55 _ (0 : Int32) w39 v21 v22 v23 v24 v25 hI41 hh42 h43 (by omega) (by omega) (by omega) (by omega) (by omega) (by omega) (by omega) (Nat.lt_add_one _)
  exact L26 _ (0 : Int32) (.null) w10 v5 (0 : Int32) v7 v8 v9 hI12 hh13 h14 (by omega) (by omega) (by omega) (by omega) (by omega) (by omega) (by omega) (Nat.lt_add_one _)
set_option maxRecDepth 100000 in
theorem W_X12_cords_59 {sc : pm_S} {w w0 : pm_W} {gi : Nat → Int32} {ga : Nat → List Int32}   (hR : pm_Rg gi ga) (hI : pm_IM gi ga w) (hh : pm_lo w0 w) : pm_Mt sc 3 131 1 [.ref 59] w (fun rv w' => pm_wI (fun v => True) rv ∧ pm_IM gi ga w' ∧ pm_lo w0 w') := by
  intro d hd
  obtain ⟨g0a, g0b⟩ := hR.n0
  obtain ⟨g1a, g1b⟩ := hR.n1
  obtain ⟨g2a, g2b⟩ := hR.n2
  obtain ⟨g3a, g3b⟩ := hR.n3
  obtain ⟨g4a, g4b⟩ := hR.n4
  obtain ⟨g5a, g5b⟩ := hR.n5
  obtain ⟨g6a, g6b⟩ := hR.n6
  obtain ⟨g7a, g7b⟩ := hR.n7
  obtain ⟨g8a, g8b⟩ := hR.n8
  show pm_V sc d 131 0 [.ref 59] [] w _
  refine v_aload_n rfl rfl ?_
  obtain ⟨v2, v3, v4, v5, v6, v7, v8, v9, ⟨v2z, v2e⟩, ⟨⟨v3a, v3b⟩, v3e⟩, ⟨⟨v4a, v4b⟩, v4e⟩, ⟨v6a, v6b⟩, ⟨v9a, v9b⟩, h1⟩ := hI.2.1 59 (by decide) (by decide)
  have v2z := v2z.imp i_eq.mp i_eq.mp
  rw [i_0, i_1] at v2z
  refine v_callV rfl (W_X12_findCords_59  hR hI hh) rfl rfl h1 rfl rfl (by omega) (fun rv w10 hq11 => ?_)
  obtain ⟨rfl, hI13, hh14⟩ := hq11
  refine v_aload_n rfl rfl ?_
  obtain ⟨v16, v17, v18, v19, v20, v21, v22, v23, ⟨v16z, v16e⟩, ⟨⟨v17a, v17b⟩, v17e⟩, ⟨⟨v18a, v18b⟩, v18e⟩, ⟨v20a, v20b⟩, ⟨v23a, v23b⟩, h15⟩ := hI13.2.1 59 (by decide) (by decide)
  have v16z := v16z.imp i_eq.mp i_eq.mp
  rw [i_0, i_1] at v16z
  refine v_get rfl h15 rfl ?_
  exact v_iret rfl ⟨⟨_, rfl, trivial⟩, hI13, hh14⟩
set_option maxRecDepth 100000 in
theorem W_X12_cord_59 {sc : pm_S} {w w0 : pm_W} {gi : Nat → Int32} {ga : Nat → List Int32} (x : Int32)  (hR : pm_Rg gi ga) (hI : pm_IM gi ga w) (hh : pm_lo w0 w) : pm_Mt sc 3 132 2 [.ref 59, .int x] w (fun rv w' => pm_wI (fun v => True) rv ∧ pm_IM gi ga w' ∧ pm_lo w0 w') := by
  intro d hd
  obtain ⟨g0a, g0b⟩ := hR.n0
  obtain ⟨g1a, g1b⟩ := hR.n1
  obtain ⟨g2a, g2b⟩ := hR.n2
  obtain ⟨g3a, g3b⟩ := hR.n3
  obtain ⟨g4a, g4b⟩ := hR.n4
  obtain ⟨g5a, g5b⟩ := hR.n5
  obtain ⟨g6a, g6b⟩ := hR.n6
  obtain ⟨g7a, g7b⟩ := hR.n7
  obtain ⟨g8a, g8b⟩ := hR.n8
  have km1 : (-1 : Int32).toInt = -1 := by decide
  have k0 : (0 : Int32).toInt = 0 := by decide
  have k1 : (1 : Int32).toInt = 1 := by decide
  show pm_V sc d 132 0 [.ref 59, .int x] [] w _
  refine v_iload_n rfl rfl ?_
  refine v_iconst (v := 0) rfl (by decide) ?_
  refine v_aload_n rfl rfl ?_
  obtain ⟨v2, v3, v4, v5, v6, v7, v8, v9, ⟨v2z, v2e⟩, ⟨⟨v3a, v3b⟩, v3e⟩, ⟨⟨v4a, v4b⟩, v4e⟩, ⟨v6a, v6b⟩, ⟨v9a, v9b⟩, h1⟩ := hI.2.1 59 (by decide) (by decide)
  have v2z := v2z.imp i_eq.mp i_eq.mp
  rw [i_0, i_1] at v2z
  refine v_get rfl h1 rfl ?_
  refine v_iconst (v := 1) rfl (by decide) ?_
  refine r_isub rfl (by omega) (by omega) (fun z10 z10e => ?_)
  refine v_callS rfl (W_X12_in x (0 : Int32) z10 hR hI) rfl rfl rfl rfl rfl (by omega) (fun rv w11 hq12 => ?_)
  obtain ⟨⟨z13, rfl, z13p0⟩, rfl⟩ := hq12
  refine r_if_ne rfl (fun t14 => ?_) (fun t14 => ?_)
  · refine v_aload_n rfl rfl ?_
    refine v_callV rfl (W_X12_findCords_59  hR hI hh) rfl rfl h1 rfl rfl (by omega) (fun rv w15 hq16 => ?_)
    obtain ⟨rfl, hI18, hh19⟩ := hq16
    refine v_aload_n rfl rfl ?_
    obtain ⟨v21, v22, v23, v24, v25, v26, v27, v28, ⟨v21z, v21e⟩, ⟨⟨v22a, v22b⟩, v22e⟩, ⟨⟨v23a, v23b⟩, v23e⟩, ⟨v25a, v25b⟩, ⟨v28a, v28b⟩, h20⟩ := hI18.2.1 59 (by decide) (by decide)
    have v21z := v21z.imp i_eq.mp i_eq.mp
    rw [i_0, i_1] at v21z
    refine v_get rfl h20 rfl ?_
    refine v_iload_n rfl rfl ?_
    obtain ⟨xs30, xs30l, xs30r, h29⟩ := hI18.2.1 80 (by decide) (by decide)
    refine r_iaload rfl h29 xs30l (by omega) (by omega) (fun z31 z31m z31g => ?_)
    obtain ⟨z31a, z31b⟩ := xs30r z31 z31m
    exact v_iret rfl ⟨⟨_, rfl, trivial⟩, hI18, hh19⟩
  · refine v_aload_n rfl rfl ?_
    refine v_iconst (v := (-1)) rfl (by decide) ?_
    refine v_callV rfl (c_M_refuse (-1 : Int32) (by unfold pm_isR; first | decide | exact Or.inl rfl) hR hI) rfl rfl h1 rfl rfl (by omega) (fun rv w32 hq33 => ?_)
    obtain ⟨rfl, hI34, hh35x⟩ := hq33
    have hI34 : pm_IM gi ga w32 := hI34
    have hh35 := hh.tr hh35x
    exact v_iret rfl ⟨⟨_, rfl, trivial⟩, hI34, hh35⟩
set_option maxRecDepth 100000 in
theorem W_X12_pullOfPick_59 {sc : pm_S} {w : pm_W} {gi : Nat → Int32} {ga : Nat → List Int32} (y : Int32) (c : Int32) (p0 : y.toInt ≤ 19) (p1 : 0 ≤ y.toInt) (hR : pm_Rg gi ga) (hI : pm_IM gi ga w) : pm_Mt sc 1 133 5 [.ref 59, .int y, .int c] w (fun rv w' => pm_wI (fun v => True) rv ∧ w = w') := by
  intro d hd
  obtain ⟨g0a, g0b⟩ := hR.n0
  obtain ⟨g1a, g1b⟩ := hR.n1
  obtain ⟨g2a, g2b⟩ := hR.n2
  obtain ⟨g3a, g3b⟩ := hR.n3
  obtain ⟨g4a, g4b⟩ := hR.n4
  obtain ⟨g5a, g5b⟩ := hR.n5
  obtain ⟨g6a, g6b⟩ := hR.n6
  obtain ⟨g7a, g7b⟩ := hR.n7
  obtain ⟨g8a, g8b⟩ := hR.n8
  have k0 : (0 : Int32).toInt = 0 := by decide
  have k1 : (1 : Int32).toInt = 1 := by decide
  show pm_V sc d 133 0 [.ref 59, .int y, .int c, .null, .null] [] w _
  refine v_iconst (v := 0) rfl (by decide) ?_
  refine v_istore_n rfl (Nat.le_of_ble_eq_true rfl) ?_
  refine v_iconst (v := 0) rfl (by decide) ?_
  refine v_istore rfl (Nat.le_of_ble_eq_true rfl) ?_
  have L3 : ∀ (n3 : Nat) (l1 : Int32) (l2 : Int32), 0 ≤ l2.toInt → l2.toInt ≤ 20 → (20 - l2.toInt).toNat < n3 → pm_V sc d 133 5 [.ref 59, .int y, .int c, .int l1, .int l2] [] w (fun rv w' => pm_wI (fun v => True) rv ∧ w = w') := by
    intro n3
    induction n3 with
    | zero => intro l1 l2 t5 t6 hm4; exact absurd hm4 (Nat.not_lt_zero _)
    | succ n3 ih5_3 =>
      intro l1 l2 t5 t6 hm4
      refine v_iload rfl rfl ?_
      refine v_aload_n rfl rfl ?_
      obtain ⟨v8, v9, v10, v11, v12, v13, v14, v15, ⟨v8z, v8e⟩, ⟨⟨v9a, v9b⟩, v9e⟩, ⟨⟨v10a, v10b⟩, v10e⟩, ⟨v12a, v12b⟩, ⟨v15a, v15b⟩, h7⟩ := hI.2.1 59 (by decide) (by decide)
      have v8z := v8z.imp i_eq.mp i_eq.mp
      rw [i_0, i_1] at v8z
      refine v_get rfl h7 rfl ?_
      refine r_icmp_ge rfl (fun t16 => ?_) (fun t16 => ?_)
      · refine v_iload_n rfl rfl ?_
        exact v_iret rfl ⟨⟨_, rfl, trivial⟩, rfl⟩
      · refine v_iload_n rfl rfl ?_
        refine v_aload_n rfl rfl ?_
        refine v_aload_n rfl rfl ?_
        refine v_get rfl h7 rfl ?_
        refine v_iload rfl rfl ?_
        obtain ⟨xs18, xs18l, xs18r, h17⟩ := hI.2.1 81 (by decide) (by decide)
        refine r_iaload rfl h17 xs18l (by omega) (by omega) (fun z19 z19m z19g => ?_)
        obtain ⟨z19a, z19b⟩ := xs18r z19 z19m
        refine v_iload_n rfl rfl ?_
        refine v_callV rfl (W_X12_colour_59 z19 y (by omega) (by omega) (by omega) (by omega) hR hI) rfl rfl h7 rfl rfl (by omega) (fun rv w20 hq21 => ?_)
        obtain ⟨⟨z22, rfl, -⟩, rfl⟩ := hq21
        refine v_iload_n rfl rfl ?_
        refine r_icmp_ne rfl (fun t23 => ?_) (fun t23 => ?_)
        · refine v_iconst (v := 0) rfl (by decide) ?_
          refine u_ior rfl (fun z24 => ?_)
          refine v_istore_n rfl (Nat.le_of_ble_eq_true rfl) ?_
          refine r_iinc rfl rfl (by decide) (by omega) (by omega) (fun z25 z25e => ?_)
          refine v_goto rfl ?_
          exact ih5_3 z24 z25 (by omega) (by omega) (by omega)
        · refine v_iconst (v := 1) rfl (by decide) ?_
          refine v_iload rfl rfl ?_
          refine u_ishl rfl (fun z26 => ?_)
          refine v_goto rfl ?_
          refine u_ior rfl (fun z27 => ?_)
          refine v_istore_n rfl (Nat.le_of_ble_eq_true rfl) ?_
          refine r_iinc rfl rfl (by decide) (by omega) (by omega) (fun z28 z28e => ?_)
          refine v_goto rfl ?_
          exact ih5_3 z27 z28 (by omega) (by omega) (by omega)
  exact L3 _ (0 : Int32) (0 : Int32) (by omega) (by omega) (Nat.lt_add_one _)
set_option maxRecDepth 100000 in
theorem W_X12_pull_59 {sc : pm_S} {w w0 : pm_W} {gi : Nat → Int32} {ga : Nat → List Int32} (y : Int32) (c : Int32)  (hR : pm_Rg gi ga) (hI : pm_IM gi ga w) (hh : pm_lo w0 w) : pm_Mt sc 3 134 3 [.ref 59, .int y, .int c] w (fun rv w' => pm_wI (fun v => True) rv ∧ pm_IM gi ga w' ∧ pm_lo w0 w') := by
  intro d hd
  obtain ⟨g0a, g0b⟩ := hR.n0
  obtain ⟨g1a, g1b⟩ := hR.n1
  obtain ⟨g2a, g2b⟩ := hR.n2
  obtain ⟨g3a, g3b⟩ := hR.n3
  obtain ⟨g4a, g4b⟩ := hR.n4
  obtain ⟨g5a, g5b⟩ := hR.n5
  obtain ⟨g6a, g6b⟩ := hR.n6
  obtain ⟨g7a, g7b⟩ := hR.n7
  obtain ⟨g8a, g8b⟩ := hR.n8
  have km1 : (-1 : Int32).toInt = -1 := by decide
  have k0 : (0 : Int32).toInt = 0 := by decide
  have k1 : (1 : Int32).toInt = 1 := by decide
  have k3 : (3 : Int32).toInt = 3 := by decide
  show pm_V sc d 134 0 [.ref 59, .int y, .int c] [] w _
  refine v_iload_n rfl rfl ?_
  refine v_iconst (v := 0) rfl (by decide) ?_
  refine v_aload_n rfl rfl ?_
  obtain ⟨v2, v3, v4, v5, v6, v7, v8, v9, ⟨v2z, v2e⟩, ⟨⟨v3a, v3b⟩, v3e⟩, ⟨⟨v4a, v4b⟩, v4e⟩, ⟨v6a, v6b⟩, ⟨v9a, v9b⟩, h1⟩ := hI.2.1 59 (by decide) (by decide)
  have v2z := v2z.imp i_eq.mp i_eq.mp
  rw [i_0, i_1] at v2z
  refine v_get rfl h1 rfl ?_
  refine v_iconst (v := 1) rfl (by decide) ?_
  refine r_isub rfl (by omega) (by omega) (fun z10 z10e => ?_)
  refine v_callS rfl (W_X12_in y (0 : Int32) z10 hR hI) rfl rfl rfl rfl rfl (by omega) (fun rv w11 hq12 => ?_)
  obtain ⟨⟨z13, rfl, z13p0⟩, rfl⟩ := hq12
  refine r_if_eq rfl (fun t14 => ?_) (fun t14 => ?_)
  · refine v_aload_n rfl rfl ?_
    refine v_iconst (v := (-1)) rfl (by decide) ?_
    refine v_callV rfl (c_M_refuse (-1 : Int32) (by unfold pm_isR; first | decide | exact Or.inl rfl) hR hI) rfl rfl h1 rfl rfl (by omega) (fun rv w15 hq16 => ?_)
    obtain ⟨rfl, hI17, hh18x⟩ := hq16
    have hI17 : pm_IM gi ga w15 := hI17
    have hh18 := hh.tr hh18x
    exact v_iret rfl ⟨⟨_, rfl, trivial⟩, hI17, hh18⟩
  · refine v_iload_n rfl rfl ?_
    refine v_iconst (v := 0) rfl (by decide) ?_
    refine v_iconst (v := 3) rfl (by decide) ?_
    refine v_callS rfl (W_X12_in c (0 : Int32) (3 : Int32) hR hI) rfl rfl rfl rfl rfl (by omega) (fun rv w19 hq20 => ?_)
    obtain ⟨⟨z21, rfl, z21p0⟩, rfl⟩ := hq20
    refine r_if_ne rfl (fun t22 => ?_) (fun t22 => ?_)
    · refine v_aload_n rfl rfl ?_
      refine v_callV rfl (W_X12_findCords_59  hR hI hh) rfl rfl h1 rfl rfl (by omega) (fun rv w23 hq24 => ?_)
      obtain ⟨rfl, hI26, hh27⟩ := hq24
      refine v_aload_n rfl rfl ?_
      refine v_iload_n rfl rfl ?_
      refine v_iload_n rfl rfl ?_
      obtain ⟨v29, v30, v31, v32, v33, v34, v35, v36, ⟨v29z, v29e⟩, ⟨⟨v30a, v30b⟩, v30e⟩, ⟨⟨v31a, v31b⟩, v31e⟩, ⟨v33a, v33b⟩, ⟨v36a, v36b⟩, h28⟩ := hI26.2.1 59 (by decide) (by decide)
      have v29z := v29z.imp i_eq.mp i_eq.mp
      rw [i_0, i_1] at v29z
      refine v_callV rfl (W_X12_pullOfPick_59 y c (by omega) (by omega) hR hI26) rfl rfl h28 rfl rfl (by omega) (fun rv w37 hq38 => ?_)
      obtain ⟨⟨z39, rfl, -⟩, rfl⟩ := hq38
      exact v_iret rfl ⟨⟨_, rfl, trivial⟩, hI26, hh27⟩
    · refine v_aload_n rfl rfl ?_
      refine v_iconst (v := (-1)) rfl (by decide) ?_
      refine v_callV rfl (c_M_refuse (-1 : Int32) (by unfold pm_isR; first | decide | exact Or.inl rfl) hR hI) rfl rfl h1 rfl rfl (by omega) (fun rv w40 hq41 => ?_)
      obtain ⟨rfl, hI42, hh43x⟩ := hq41
      have hI42 : pm_IM gi ga w40 := hI42
      have hh43 := hh.tr hh43x
      exact v_iret rfl ⟨⟨_, rfl, trivial⟩, hI42, hh43⟩
set_option maxRecDepth 100000 in
theorem W_X12_pullAt_59 {sc : pm_S} {w w0 : pm_W} {gi : Nat → Int32} {ga : Nat → List Int32} (i : Int32)  (hR : pm_Rg gi ga) (hI : pm_IM gi ga w) (hh : pm_lo w0 w) : pm_Mt sc 3 135 5 [.ref 59, .int i] w (fun rv w' => pm_wI (fun v => True) rv ∧ pm_IM gi ga w' ∧ pm_lo w0 w') := by
  intro d hd
  obtain ⟨g0a, g0b⟩ := hR.n0
  obtain ⟨g1a, g1b⟩ := hR.n1
  obtain ⟨g2a, g2b⟩ := hR.n2
  obtain ⟨g3a, g3b⟩ := hR.n3
  obtain ⟨g4a, g4b⟩ := hR.n4
  obtain ⟨g5a, g5b⟩ := hR.n5
  obtain ⟨g6a, g6b⟩ := hR.n6
  obtain ⟨g7a, g7b⟩ := hR.n7
  obtain ⟨g8a, g8b⟩ := hR.n8
  have km1 : (-1 : Int32).toInt = -1 := by decide
  have k0 : (0 : Int32).toInt = 0 := by decide
  have k4 : (4 : Int32).toInt = 4 := by decide
  show pm_V sc d 135 0 [.ref 59, .int i, .null, .null, .null] [] w _
  refine v_aload_n rfl rfl ?_
  obtain ⟨v2, v3, v4, v5, v6, v7, v8, v9, ⟨v2z, v2e⟩, ⟨⟨v3a, v3b⟩, v3e⟩, ⟨⟨v4a, v4b⟩, v4e⟩, ⟨v6a, v6b⟩, ⟨v9a, v9b⟩, h1⟩ := hI.2.1 59 (by decide) (by decide)
  have v2z := v2z.imp i_eq.mp i_eq.mp
  rw [i_0, i_1] at v2z
  refine v_callV rfl (W_X12_findCords_59  hR hI hh) rfl rfl h1 rfl rfl (by omega) (fun rv w10 hq11 => ?_)
  obtain ⟨rfl, hI13, hh14⟩ := hq11
  refine v_iconst (v := 0) rfl (by decide) ?_
  refine v_istore_n rfl (Nat.le_of_ble_eq_true rfl) ?_
  refine v_iconst (v := 0) rfl (by decide) ?_
  refine v_istore_n rfl (Nat.le_of_ble_eq_true rfl) ?_
  have L18 : ∀ (n18 : Nat) (l15 : Int32) (l16 : Int32) (u17 : Value), 0 ≤ l16.toInt → l16.toInt ≤ 20 → (20 - l16.toInt).toNat < n18 → pm_V sc d 135 8 [.ref 59, .int i, .int l15, .int l16, u17] [] w10 (fun rv w' => pm_wI (fun v => True) rv ∧ pm_IM gi ga w' ∧ pm_lo w0 w') := by
    intro n18
    induction n18 with
    | zero => intro l15 l16 u17 t20 t21 hm19; exact absurd hm19 (Nat.not_lt_zero _)
    | succ n18 ih8_18 =>
      intro l15 l16 u17 t20 t21 hm19
      refine v_iload_n rfl rfl ?_
      refine v_aload_n rfl rfl ?_
      obtain ⟨v23, v24, v25, v26, v27, v28, v29, v30, ⟨v23z, v23e⟩, ⟨⟨v24a, v24b⟩, v24e⟩, ⟨⟨v25a, v25b⟩, v25e⟩, ⟨v27a, v27b⟩, ⟨v30a, v30b⟩, h22⟩ := hI13.2.1 59 (by decide) (by decide)
      have v23z := v23z.imp i_eq.mp i_eq.mp
      rw [i_0, i_1] at v23z
      refine v_get rfl h22 rfl ?_
      refine r_icmp_ge rfl (fun t31 => ?_) (fun t31 => ?_)
      · refine v_iconst (v := (-1)) rfl (by decide) ?_
        refine v_iload_n rfl rfl ?_
        refine u_isub rfl (fun z32 => ?_)
        exact v_iret rfl ⟨⟨_, rfl, trivial⟩, hI13, hh14⟩
      · refine v_iconst (v := 0) rfl (by decide) ?_
        refine v_istore rfl (Nat.le_of_ble_eq_true rfl) ?_
        have L35 : ∀ (n35 : Nat) (l33 : Int32) (l34 : Int32), 0 ≤ l34.toInt → l34.toInt ≤ 4 → (4 - l34.toInt).toNat < n35 → pm_V sc d 135 19 [.ref 59, .int i, .int l33, .int l16, .int l34] [] w10 (fun rv w' => pm_wI (fun v => True) rv ∧ pm_IM gi ga w' ∧ pm_lo w0 w') := by
          intro n35
          induction n35 with
          | zero => intro l33 l34 t37 t38 hm36; exact absurd hm36 (Nat.not_lt_zero _)
          | succ n35 ih19_35 =>
            intro l33 l34 t37 t38 hm36
            refine v_iload rfl rfl ?_
            refine v_iconst (v := 4) rfl (by decide) ?_
            refine r_icmp_ge rfl (fun t39 => ?_) (fun t39 => ?_)
            · refine r_iinc rfl rfl (by decide) (by omega) (by omega) (fun z40 z40e => ?_)
              refine v_goto rfl ?_
              exact ih8_18 l33 z40 (.int l34) (by omega) (by omega) (by omega)
            · refine v_aload_n rfl rfl ?_
              refine v_iload_n rfl rfl ?_
              refine v_iload rfl rfl ?_
              refine v_callV rfl (W_X12_pullOfPick_59 l16 l34 (by omega) (by omega) hR hI13) rfl rfl h22 rfl rfl (by omega) (fun rv w41 hq42 => ?_)
              obtain ⟨⟨z43, rfl, -⟩, rfl⟩ := hq42
              refine r_if_eq rfl (fun t44 => ?_) (fun t44 => ?_)
              · refine r_iinc rfl rfl (by decide) (by omega) (by omega) (fun z45 z45e => ?_)
                refine v_goto rfl ?_
                exact ih19_35 l33 z45 (by omega) (by omega) (by omega)
              · refine v_iload_n rfl rfl ?_
                refine v_iload_n rfl rfl ?_
                refine r_icmp_ne rfl (fun t46 => ?_) (fun t46 => ?_)
                · refine u_iinc rfl rfl (fun z47 => ?_)
                  refine r_iinc rfl rfl (by decide) (by omega) (by omega) (fun z48 z48e => ?_)
                  refine v_goto rfl ?_
                  exact ih19_35 z47 z48 (by omega) (by omega) (by omega)
                · refine v_iconst (v := 4) rfl (by decide) ?_
                  refine v_iload_n rfl rfl ?_
                  refine r_imulL 4 rfl rfl (by omega) (by omega) (fun z49 z49e => ?_)
                  refine v_iload rfl rfl ?_
                  refine r_iadd rfl (by omega) (by omega) (fun z50 z50e => ?_)
                  exact v_iret rfl ⟨⟨_, rfl, trivial⟩, hI13, hh14⟩
        exact L35 _ l15 (0 : Int32) (by omega) (by omega) (Nat.lt_add_one _)
  exact L18 _ (0 : Int32) (0 : Int32) (.null) (by omega) (by omega) (Nat.lt_add_one _)
set_option maxRecDepth 100000 in
theorem W_X12_pulls_59 {sc : pm_S} {w w0 : pm_W} {gi : Nat → Int32} {ga : Nat → List Int32}   (hR : pm_Rg gi ga) (hI : pm_IM gi ga w) (hh : pm_lo w0 w) : pm_Mt sc 4 136 1 [.ref 59] w (fun rv w' => pm_wI (fun v => True) rv ∧ pm_IM gi ga w' ∧ pm_lo w0 w') := by
  intro d hd
  obtain ⟨g0a, g0b⟩ := hR.n0
  obtain ⟨g1a, g1b⟩ := hR.n1
  obtain ⟨g2a, g2b⟩ := hR.n2
  obtain ⟨g3a, g3b⟩ := hR.n3
  obtain ⟨g4a, g4b⟩ := hR.n4
  obtain ⟨g5a, g5b⟩ := hR.n5
  obtain ⟨g6a, g6b⟩ := hR.n6
  obtain ⟨g7a, g7b⟩ := hR.n7
  obtain ⟨g8a, g8b⟩ := hR.n8
  have km1 : (-1 : Int32).toInt = -1 := by decide
  show pm_V sc d 136 0 [.ref 59] [] w _
  refine v_iconst (v := (-1)) rfl (by decide) ?_
  refine v_aload_n rfl rfl ?_
  refine v_iconst (v := (-1)) rfl (by decide) ?_
  obtain ⟨v2, v3, v4, v5, v6, v7, v8, v9, ⟨v2z, v2e⟩, ⟨⟨v3a, v3b⟩, v3e⟩, ⟨⟨v4a, v4b⟩, v4e⟩, ⟨v6a, v6b⟩, ⟨v9a, v9b⟩, h1⟩ := hI.2.1 59 (by decide) (by decide)
  have v2z := v2z.imp i_eq.mp i_eq.mp
  rw [i_0, i_1] at v2z
  refine v_callV rfl (W_X12_pullAt_59 (-1 : Int32) hR hI hh) rfl rfl h1 rfl rfl (by omega) (fun rv w10 hq11 => ?_)
  obtain ⟨⟨z12, rfl, -⟩, hI13, hh14⟩ := hq11
  refine u_isub rfl (fun z15 => ?_)
  exact v_iret rfl ⟨⟨_, rfl, trivial⟩, hI13, hh14⟩
set_option maxRecDepth 100000 in
theorem W_X12_pullOf_59 {sc : pm_S} {w w0 : pm_W} {gi : Nat → Int32} {ga : Nat → List Int32} (i : Int32) (k : Int32)  (hR : pm_Rg gi ga) (hI : pm_IM gi ga w) (hh : pm_lo w0 w) : pm_Mt sc 4 137 4 [.ref 59, .int i, .int k] w (fun rv w' => pm_wI (fun v => True) rv ∧ pm_IM gi ga w' ∧ pm_lo w0 w') := by
  intro d hd
  obtain ⟨g0a, g0b⟩ := hR.n0
  obtain ⟨g1a, g1b⟩ := hR.n1
  obtain ⟨g2a, g2b⟩ := hR.n2
  obtain ⟨g3a, g3b⟩ := hR.n3
  obtain ⟨g4a, g4b⟩ := hR.n4
  obtain ⟨g5a, g5b⟩ := hR.n5
  obtain ⟨g6a, g6b⟩ := hR.n6
  obtain ⟨g7a, g7b⟩ := hR.n7
  obtain ⟨g8a, g8b⟩ := hR.n8
  have km2 : (-2 : Int32).toInt = -2 := by decide
  have km1 : (-1 : Int32).toInt = -1 := by decide
  have k0 : (0 : Int32).toInt = 0 := by decide
  have k1 : (1 : Int32).toInt = 1 := by decide
  have k4 : (4 : Int32).toInt = 4 := by decide
  show pm_V sc d 137 0 [.ref 59, .int i, .int k, .null] [] w _
  refine v_iload_n rfl rfl ?_
  refine r_if_ge rfl (fun t1 => ?_) (fun t1 => ?_)
  · refine v_aload_n rfl rfl ?_
    refine v_iload_n rfl rfl ?_
    obtain ⟨v3, v4, v5, v6, v7, v8, v9, v10, ⟨v3z, v3e⟩, ⟨⟨v4a, v4b⟩, v4e⟩, ⟨⟨v5a, v5b⟩, v5e⟩, ⟨v7a, v7b⟩, ⟨v10a, v10b⟩, h2⟩ := hI.2.1 59 (by decide) (by decide)
    have v3z := v3z.imp i_eq.mp i_eq.mp
    rw [i_0, i_1] at v3z
    refine v_callV rfl (W_X12_pullAt_59 i hR hI hh) rfl rfl h2 rfl rfl (by omega) (fun rv w11 hq12 => ?_)
    obtain ⟨⟨z13, rfl, -⟩, hI14, hh15⟩ := hq12
    refine v_istore_n rfl (Nat.le_of_ble_eq_true rfl) ?_
    refine v_iload_n rfl rfl ?_
    refine r_if_ge rfl (fun t16 => ?_) (fun t16 => ?_)
    · refine v_iload_n rfl rfl ?_
      refine v_iconst (v := 0) rfl (by decide) ?_
      refine v_iconst (v := 1) rfl (by decide) ?_
      refine v_callS rfl (W_X12_in k (0 : Int32) (1 : Int32) hR hI14) rfl rfl rfl rfl rfl (by omega) (fun rv w17 hq18 => ?_)
      obtain ⟨⟨z19, rfl, z19p0⟩, rfl⟩ := hq18
      refine r_if_ne rfl (fun t20 => ?_) (fun t20 => ?_)
      · refine v_iload_n rfl rfl ?_
        refine r_if_ne rfl (fun t21 => ?_) (fun t21 => ?_)
        · refine v_iload_n rfl rfl ?_
          refine v_iconst (v := 4) rfl (by decide) ?_
          refine r_irem rfl (by omega) (by omega) (fun z22 z22m z22a z22b z22c => ?_)
          clear z22m
          exact v_iret rfl ⟨⟨_, rfl, trivial⟩, hI14, hh15⟩
        · refine v_iload_n rfl rfl ?_
          refine v_iconst (v := 4) rfl (by decide) ?_
          refine r_idiv rfl (by omega) (by omega) (fun z23 z23m z23a z23b => ?_)
          rw [show (4 : Int32).toInt = 4 from rfl] at z23m
          refine v_goto rfl ?_
          exact v_iret rfl ⟨⟨_, rfl, trivial⟩, hI14, hh15⟩
      · refine v_aload_n rfl rfl ?_
        refine v_bipush (v := (-2)) rfl (by decide) ?_
        obtain ⟨v25, v26, v27, v28, v29, v30, v31, v32, ⟨v25z, v25e⟩, ⟨⟨v26a, v26b⟩, v26e⟩, ⟨⟨v27a, v27b⟩, v27e⟩, ⟨v29a, v29b⟩, ⟨v32a, v32b⟩, h24⟩ := hI14.2.1 59 (by decide) (by decide)
        have v25z := v25z.imp i_eq.mp i_eq.mp
        rw [i_0, i_1] at v25z
        refine v_callV rfl (c_M_refuse (-2 : Int32) (by unfold pm_isR; first | decide | exact Or.inl rfl) hR hI14) rfl rfl h24 rfl rfl (by omega) (fun rv w33 hq34 => ?_)
        obtain ⟨rfl, hI35, hh36x⟩ := hq34
        have hI35 : pm_IM gi ga w33 := hI35
        have hh36 := hh15.tr hh36x
        exact v_iret rfl ⟨⟨_, rfl, trivial⟩, hI35, hh36⟩
    · refine v_aload_n rfl rfl ?_
      refine v_iconst (v := (-1)) rfl (by decide) ?_
      obtain ⟨v38, v39, v40, v41, v42, v43, v44, v45, ⟨v38z, v38e⟩, ⟨⟨v39a, v39b⟩, v39e⟩, ⟨⟨v40a, v40b⟩, v40e⟩, ⟨v42a, v42b⟩, ⟨v45a, v45b⟩, h37⟩ := hI14.2.1 59 (by decide) (by decide)
      have v38z := v38z.imp i_eq.mp i_eq.mp
      rw [i_0, i_1] at v38z
      refine v_callV rfl (c_M_refuse (-1 : Int32) (by unfold pm_isR; first | decide | exact Or.inl rfl) hR hI14) rfl rfl h37 rfl rfl (by omega) (fun rv w46 hq47 => ?_)
      obtain ⟨rfl, hI48, hh49x⟩ := hq47
      have hI48 : pm_IM gi ga w46 := hI48
      have hh49 := hh15.tr hh49x
      exact v_iret rfl ⟨⟨_, rfl, trivial⟩, hI48, hh49⟩
  · refine v_iconst (v := (-1)) rfl (by decide) ?_
    refine v_goto rfl ?_
    refine v_istore_n rfl (Nat.le_of_ble_eq_true rfl) ?_
    refine v_iload_n rfl rfl ?_
    refine r_if_ge rfl (fun hx => absurd hx (by omega)) (fun _ => ?_)
    refine v_aload_n rfl rfl ?_
    refine v_iconst (v := (-1)) rfl (by decide) ?_
    obtain ⟨v51, v52, v53, v54, v55, v56, v57, v58, ⟨v51z, v51e⟩, ⟨⟨v52a, v52b⟩, v52e⟩, ⟨⟨v53a, v53b⟩, v53e⟩, ⟨v55a, v55b⟩, ⟨v58a, v58b⟩, h50⟩ := hI.2.1 59 (by decide) (by decide)
    have v51z := v51z.imp i_eq.mp i_eq.mp
    rw [i_0, i_1] at v51z
    refine v_callV rfl (c_M_refuse (-1 : Int32) (by unfold pm_isR; first | decide | exact Or.inl rfl) hR hI) rfl rfl h50 rfl rfl (by omega) (fun rv w59 hq60 => ?_)
    obtain ⟨rfl, hI61, hh62x⟩ := hq60
    have hI61 : pm_IM gi ga w59 := hI61
    have hh62 := hh.tr hh62x
    exact v_iret rfl ⟨⟨_, rfl, trivial⟩, hI61, hh62⟩
set_option maxRecDepth 100000 in
theorem W_X12_begins_59 {sc : pm_S} {w : pm_W} {gi : Nat → Int32} {ga : Nat → List Int32} (x : Int32) (y : Int32) (p0 : y.toInt ≤ 19) (p1 : 0 ≤ y.toInt) (p2 : x.toInt ≤ 19) (p3 : 0 ≤ x.toInt) (hR : pm_Rg gi ga) (hI : pm_IM gi ga w) : pm_Mt sc 1 139 3 [.ref 59, .int x, .int y] w (fun rv w' => pm_wI (fun v => 0 ≤ v.toInt ∧ v.toInt ≤ 1) rv ∧ w = w') := by
  intro d hd
  obtain ⟨g0a, g0b⟩ := hR.n0
  obtain ⟨g1a, g1b⟩ := hR.n1
  obtain ⟨g2a, g2b⟩ := hR.n2
  obtain ⟨g3a, g3b⟩ := hR.n3
  obtain ⟨g4a, g4b⟩ := hR.n4
  obtain ⟨g5a, g5b⟩ := hR.n5
  obtain ⟨g6a, g6b⟩ := hR.n6
  obtain ⟨g7a, g7b⟩ := hR.n7
  obtain ⟨g8a, g8b⟩ := hR.n8
  have k0 : (0 : Int32).toInt = 0 := by decide
  have k1 : (1 : Int32).toInt = 1 := by decide
  show pm_V sc d 139 0 [.ref 59, .int x, .int y] [] w _
  refine v_aload_n rfl rfl ?_
  refine v_iload_n rfl rfl ?_
  refine v_aload_n rfl rfl ?_
  obtain ⟨v2, v3, v4, v5, v6, v7, v8, v9, ⟨v2z, v2e⟩, ⟨⟨v3a, v3b⟩, v3e⟩, ⟨⟨v4a, v4b⟩, v4e⟩, ⟨v6a, v6b⟩, ⟨v9a, v9b⟩, h1⟩ := hI.2.1 59 (by decide) (by decide)
  have v2z := v2z.imp i_eq.mp i_eq.mp
  rw [i_0, i_1] at v2z
  refine v_get rfl h1 rfl ?_
  refine r_iadd rfl (by omega) (by omega) (fun z10 z10e => ?_)
  refine v_iconst (v := 1) rfl (by decide) ?_
  refine r_isub rfl (by omega) (by omega) (fun z11 z11e => ?_)
  refine v_aload_n rfl rfl ?_
  refine v_get rfl h1 rfl ?_
  refine r_irem rfl (by omega) (by omega) (fun z12 z12m z12a z12b z12c => ?_)
  clear z12m
  refine v_iload_n rfl rfl ?_
  refine v_callV rfl (W_X12_colour_59 z12 y (by omega) (by omega) (by omega) (by omega) hR hI) rfl rfl h1 rfl rfl (by omega) (fun rv w13 hq14 => ?_)
  obtain ⟨⟨z15, rfl, -⟩, rfl⟩ := hq14
  refine v_aload_n rfl rfl ?_
  refine v_iload_n rfl rfl ?_
  refine v_iload_n rfl rfl ?_
  refine v_callV rfl (W_X12_colour_59 x y (by omega) (by omega) (by omega) (by omega) hR hI) rfl rfl h1 rfl rfl (by omega) (fun rv w16 hq17 => ?_)
  obtain ⟨⟨z18, rfl, -⟩, rfl⟩ := hq17
  refine r_icmp_eq rfl (fun t19 => ?_) (fun t19 => ?_)
  · refine v_iconst (v := 0) rfl (by decide) ?_
    exact r_zret rfl (by omega) ⟨⟨_, rfl, (by omega), (by omega)⟩, rfl⟩
  · refine v_iconst (v := 1) rfl (by decide) ?_
    refine v_goto rfl ?_
    exact r_zret rfl (by omega) ⟨⟨_, rfl, (by omega), (by omega)⟩, rfl⟩
set_option maxRecDepth 100000 in
theorem W_X12_runFrom_59 {sc : pm_S} {w : pm_W} {gi : Nat → Int32} {ga : Nat → List Int32} (x : Int32) (y : Int32) (p0 : y.toInt ≤ 19) (p1 : 0 ≤ y.toInt) (p2 : x.toInt ≤ 19) (p3 : 0 ≤ x.toInt) (hR : pm_Rg gi ga) (hI : pm_IM gi ga w) : pm_Mt sc 1 140 4 [.ref 59, .int x, .int y] w (fun rv w' => pm_wI (fun v => True) rv ∧ w = w') := by
  intro d hd
  obtain ⟨g0a, g0b⟩ := hR.n0
  obtain ⟨g1a, g1b⟩ := hR.n1
  obtain ⟨g2a, g2b⟩ := hR.n2
  obtain ⟨g3a, g3b⟩ := hR.n3
  obtain ⟨g4a, g4b⟩ := hR.n4
  obtain ⟨g5a, g5b⟩ := hR.n5
  obtain ⟨g6a, g6b⟩ := hR.n6
  obtain ⟨g7a, g7b⟩ := hR.n7
  obtain ⟨g8a, g8b⟩ := hR.n8
  have k1 : (1 : Int32).toInt = 1 := by decide
  show pm_V sc d 140 0 [.ref 59, .int x, .int y, .null] [] w _
  refine v_iconst (v := 1) rfl (by decide) ?_
  refine v_istore_n rfl (Nat.le_of_ble_eq_true rfl) ?_
  have L2 : ∀ (n2 : Nat) (l1 : Int32), 0 ≤ l1.toInt → l1.toInt ≤ 20 → (20 - l1.toInt).toNat < n2 → pm_V sc d 140 2 [.ref 59, .int x, .int y, .int l1] [] w (fun rv w' => pm_wI (fun v => True) rv ∧ w = w') := by
    intro n2
    induction n2 with
    | zero => intro l1 t4 t5 hm3; exact absurd hm3 (Nat.not_lt_zero _)
    | succ n2 ih2_2 =>
      intro l1 t4 t5 hm3
      refine v_iload_n rfl rfl ?_
      refine v_aload_n rfl rfl ?_
      obtain ⟨v7, v8, v9, v10, v11, v12, v13, v14, ⟨v7z, v7e⟩, ⟨⟨v8a, v8b⟩, v8e⟩, ⟨⟨v9a, v9b⟩, v9e⟩, ⟨v11a, v11b⟩, ⟨v14a, v14b⟩, h6⟩ := hI.2.1 59 (by decide) (by decide)
      have v7z := v7z.imp i_eq.mp i_eq.mp
      rw [i_0, i_1] at v7z
      refine v_get rfl h6 rfl ?_
      refine r_icmp_ge rfl (fun t15 => ?_) (fun t15 => ?_)
      · refine v_iload_n rfl rfl ?_
        exact v_iret rfl ⟨⟨_, rfl, trivial⟩, rfl⟩
      · refine v_aload_n rfl rfl ?_
        refine v_iload_n rfl rfl ?_
        refine v_iload_n rfl rfl ?_
        refine r_iadd rfl (by omega) (by omega) (fun z16 z16e => ?_)
        refine v_aload_n rfl rfl ?_
        refine v_get rfl h6 rfl ?_
        refine r_irem rfl (by omega) (by omega) (fun z17 z17m z17a z17b z17c => ?_)
        clear z17m
        refine v_iload_n rfl rfl ?_
        refine v_callV rfl (W_X12_colour_59 z17 y (by omega) (by omega) (by omega) (by omega) hR hI) rfl rfl h6 rfl rfl (by omega) (fun rv w18 hq19 => ?_)
        obtain ⟨⟨z20, rfl, -⟩, rfl⟩ := hq19
        refine v_aload_n rfl rfl ?_
        refine v_iload_n rfl rfl ?_
        refine v_iload_n rfl rfl ?_
        refine v_callV rfl (W_X12_colour_59 x y (by omega) (by omega) (by omega) (by omega) hR hI) rfl rfl h6 rfl rfl (by omega) (fun rv w21 hq22 => ?_)
        obtain ⟨⟨z23, rfl, -⟩, rfl⟩ := hq22
        refine r_icmp_ne rfl (fun t24 => ?_) (fun t24 => ?_)
        · refine v_iload_n rfl rfl ?_
          exact v_iret rfl ⟨⟨_, rfl, trivial⟩, rfl⟩
        · refine r_iinc rfl rfl (by decide) (by omega) (by omega) (fun z25 z25e => ?_)
          refine v_goto rfl ?_
          exact ih2_2 z25 (by omega) (by omega) (by omega)
  exact L2 _ (1 : Int32) (by omega) (by omega) (Nat.lt_add_one _)
set_option maxRecDepth 100000 in
theorem W_X12_isPlain_59 {sc : pm_S} {w : pm_W} {gi : Nat → Int32} {ga : Nat → List Int32} (y : Int32) (p0 : y.toInt ≤ 19) (p1 : 0 ≤ y.toInt) (hR : pm_Rg gi ga) (hI : pm_IM gi ga w) : pm_Mt sc 1 141 4 [.ref 59, .int y] w (fun rv w' => pm_wI (fun v => 0 ≤ v.toInt ∧ v.toInt ≤ 1) rv ∧ w = w') := by
  intro d hd
  obtain ⟨g0a, g0b⟩ := hR.n0
  obtain ⟨g1a, g1b⟩ := hR.n1
  obtain ⟨g2a, g2b⟩ := hR.n2
  obtain ⟨g3a, g3b⟩ := hR.n3
  obtain ⟨g4a, g4b⟩ := hR.n4
  obtain ⟨g5a, g5b⟩ := hR.n5
  obtain ⟨g6a, g6b⟩ := hR.n6
  obtain ⟨g7a, g7b⟩ := hR.n7
  obtain ⟨g8a, g8b⟩ := hR.n8
  have k0 : (0 : Int32).toInt = 0 := by decide
  have k1 : (1 : Int32).toInt = 1 := by decide
  show pm_V sc d 141 0 [.ref 59, .int y, .null, .null] [] w _
  refine v_iconst (v := 1) rfl (by decide) ?_
  refine v_istore_n rfl (Nat.le_of_ble_eq_true rfl) ?_
  refine v_iconst (v := 0) rfl (by decide) ?_
  refine v_istore_n rfl (Nat.le_of_ble_eq_true rfl) ?_
  have L3 : ∀ (n3 : Nat) (l1 : Int32) (l2 : Int32), 0 ≤ l1.toInt → l1.toInt ≤ 1 → 0 ≤ l2.toInt → l2.toInt ≤ 20 → (20 - l2.toInt).toNat < n3 → pm_V sc d 141 4 [.ref 59, .int y, .int l1, .int l2] [] w (fun rv w' => pm_wI (fun v => 0 ≤ v.toInt ∧ v.toInt ≤ 1) rv ∧ w = w') := by
    intro n3
    induction n3 with
    | zero => intro l1 l2 t5 t6 t7 t8 hm4; exact absurd hm4 (Nat.not_lt_zero _)
    | succ n3 ih4_3 =>
      intro l1 l2 t5 t6 t7 t8 hm4
      refine v_iload_n rfl rfl ?_
      refine v_aload_n rfl rfl ?_
      obtain ⟨v10, v11, v12, v13, v14, v15, v16, v17, ⟨v10z, v10e⟩, ⟨⟨v11a, v11b⟩, v11e⟩, ⟨⟨v12a, v12b⟩, v12e⟩, ⟨v14a, v14b⟩, ⟨v17a, v17b⟩, h9⟩ := hI.2.1 59 (by decide) (by decide)
      have v10z := v10z.imp i_eq.mp i_eq.mp
      rw [i_0, i_1] at v10z
      refine v_get rfl h9 rfl ?_
      refine r_icmp_ge rfl (fun t18 => ?_) (fun t18 => ?_)
      · refine v_iload_n rfl rfl ?_
        exact r_zret rfl (by omega) ⟨⟨_, rfl, (by omega), (by omega)⟩, rfl⟩
      · refine v_iload_n rfl rfl ?_
        refine r_if_eq rfl (fun t19 => ?_) (fun t19 => ?_)
        · refine v_iconst (v := 0) rfl (by decide) ?_
          refine v_istore_n rfl (Nat.le_of_ble_eq_true rfl) ?_
          refine r_iinc rfl rfl (by decide) (by omega) (by omega) (fun z20 z20e => ?_)
          refine v_goto rfl ?_
          exact ih4_3 (0 : Int32) z20 (by omega) (by omega) (by omega) (by omega) (by omega)
        · refine v_aload_n rfl rfl ?_
          refine v_iload_n rfl rfl ?_
          refine v_iload_n rfl rfl ?_
          refine v_callV rfl (W_X12_colour_59 l2 y (by omega) (by omega) (by omega) (by omega) hR hI) rfl rfl h9 rfl rfl (by omega) (fun rv w21 hq22 => ?_)
          obtain ⟨⟨z23, rfl, -⟩, rfl⟩ := hq22
          refine v_aload_n rfl rfl ?_
          refine v_iconst (v := 0) rfl (by decide) ?_
          refine v_iload_n rfl rfl ?_
          refine v_callV rfl (W_X12_colour_59 (0 : Int32) y (by omega) (by omega) (by omega) (by omega) hR hI) rfl rfl h9 rfl rfl (by omega) (fun rv w24 hq25 => ?_)
          obtain ⟨⟨z26, rfl, -⟩, rfl⟩ := hq25
          refine r_icmp_ne rfl (fun t27 => ?_) (fun t27 => ?_)
          · refine v_iconst (v := 0) rfl (by decide) ?_
            refine v_istore_n rfl (Nat.le_of_ble_eq_true rfl) ?_
            refine r_iinc rfl rfl (by decide) (by omega) (by omega) (fun z28 z28e => ?_)
            refine v_goto rfl ?_
            exact ih4_3 (0 : Int32) z28 (by omega) (by omega) (by omega) (by omega) (by omega)
          · refine v_iconst (v := 1) rfl (by decide) ?_
            refine v_goto rfl ?_
            refine v_istore_n rfl (Nat.le_of_ble_eq_true rfl) ?_
            refine r_iinc rfl rfl (by decide) (by omega) (by omega) (fun z29 z29e => ?_)
            refine v_goto rfl ?_
            exact ih4_3 (1 : Int32) z29 (by omega) (by omega) (by omega) (by omega) (by omega)
  exact L3 _ (1 : Int32) (0 : Int32) (by omega) (by omega) (by omega) (by omega) (Nat.lt_add_one _)
set_option maxRecDepth 100000 in
theorem W_X12_floats_59 {sc : pm_S} {w w0 : pm_W} {gi : Nat → Int32} {ga : Nat → List Int32} (y : Int32) (k : Int32)  (hR : pm_Rg gi ga) (hI : pm_IM gi ga w) (hh : pm_lo w0 w) : pm_Mt sc 2 142 8 [.ref 59, .int y, .int k] w (fun rv w' => pm_wI (fun v => True) rv ∧ pm_IM gi ga w' ∧ pm_lo w0 w') := by
  intro d hd
  obtain ⟨g0a, g0b⟩ := hR.n0
  obtain ⟨g1a, g1b⟩ := hR.n1
  obtain ⟨g2a, g2b⟩ := hR.n2
  obtain ⟨g3a, g3b⟩ := hR.n3
  obtain ⟨g4a, g4b⟩ := hR.n4
  obtain ⟨g5a, g5b⟩ := hR.n5
  obtain ⟨g6a, g6b⟩ := hR.n6
  obtain ⟨g7a, g7b⟩ := hR.n7
  obtain ⟨g8a, g8b⟩ := hR.n8
  have km2 : (-2 : Int32).toInt = -2 := by decide
  have km1 : (-1 : Int32).toInt = -1 := by decide
  have k0 : (0 : Int32).toInt = 0 := by decide
  have k1 : (1 : Int32).toInt = 1 := by decide
  show pm_V sc d 142 0 [.ref 59, .int y, .int k, .null, .null, .null, .null, .null] [] w _
  refine v_iload_n rfl rfl ?_
  refine v_iconst (v := 0) rfl (by decide) ?_
  refine v_aload_n rfl rfl ?_
  obtain ⟨v2, v3, v4, v5, v6, v7, v8, v9, ⟨v2z, v2e⟩, ⟨⟨v3a, v3b⟩, v3e⟩, ⟨⟨v4a, v4b⟩, v4e⟩, ⟨v6a, v6b⟩, ⟨v9a, v9b⟩, h1⟩ := hI.2.1 59 (by decide) (by decide)
  have v2z := v2z.imp i_eq.mp i_eq.mp
  rw [i_0, i_1] at v2z
  refine v_get rfl h1 rfl ?_
  refine v_iconst (v := 1) rfl (by decide) ?_
  refine r_isub rfl (by omega) (by omega) (fun z10 z10e => ?_)
  refine v_callS rfl (W_X12_in y (0 : Int32) z10 hR hI) rfl rfl rfl rfl rfl (by omega) (fun rv w11 hq12 => ?_)
  obtain ⟨⟨z13, rfl, z13p0⟩, rfl⟩ := hq12
  refine r_if_ne rfl (fun t14 => ?_) (fun t14 => ?_)
  · refine v_iload_n rfl rfl ?_
    refine v_iconst (v := 0) rfl (by decide) ?_
    refine v_iconst (v := 1) rfl (by decide) ?_
    refine v_callS rfl (W_X12_in k (0 : Int32) (1 : Int32) hR hI) rfl rfl rfl rfl rfl (by omega) (fun rv w15 hq16 => ?_)
    obtain ⟨⟨z17, rfl, z17p0⟩, rfl⟩ := hq16
    refine r_if_ne rfl (fun t18 => ?_) (fun t18 => ?_)
    · refine v_iconst (v := 0) rfl (by decide) ?_
      refine v_istore_n rfl (Nat.le_of_ble_eq_true rfl) ?_
      refine v_iconst (v := 0) rfl (by decide) ?_
      refine v_istore rfl (Nat.le_of_ble_eq_true rfl) ?_
      refine v_aload_n rfl rfl ?_
      refine v_iload_n rfl rfl ?_
      refine v_callV rfl (W_X12_isPlain_59 y (by omega) (by omega) hR hI) rfl rfl h1 rfl rfl (by omega) (fun rv w19 hq20 => ?_)
      obtain ⟨⟨z21, rfl, z21p0, z21p1⟩, rfl⟩ := hq20
      refine v_istore rfl (Nat.le_of_ble_eq_true rfl) ?_
      refine v_iconst (v := 0) rfl (by decide) ?_
      refine v_istore rfl (Nat.le_of_ble_eq_true rfl) ?_
      have L26 : ∀ (n26 : Nat) (l22 : Int32) (l23 : Int32) (l24 : Int32) (u25 : Value), 0 ≤ l24.toInt → l24.toInt ≤ 20 → (20 - l24.toInt).toNat < n26 → pm_V sc d 142 51 [.ref 59, .int y, .int k, .int l22, .int l23, .int z21, .int l24, u25] [] w (fun rv w' => pm_wI (fun v => True) rv ∧ pm_IM gi ga w' ∧ pm_lo w0 w') := by
        intro n26
        induction n26 with
        | zero => intro l22 l23 l24 u25 t28 t29 hm27; exact absurd hm27 (Nat.not_lt_zero _)
        | succ n26 ih51_26 =>
          intro l22 l23 l24 u25 t28 t29 hm27
          refine v_iload rfl rfl ?_
          refine v_aload_n rfl rfl ?_
          refine v_get rfl h1 rfl ?_
          refine r_icmp_ge rfl (fun t30 => ?_) (fun t30 => ?_)
          · refine v_iload_n rfl rfl ?_
            refine r_if_ne rfl (fun t31 => ?_) (fun t31 => ?_)
            · refine v_iload rfl rfl ?_
              exact v_iret rfl ⟨⟨_, rfl, trivial⟩, hI, hh⟩
            · refine v_iload_n rfl rfl ?_
              refine v_goto rfl ?_
              exact v_iret rfl ⟨⟨_, rfl, trivial⟩, hI, hh⟩
          · refine v_iload rfl rfl ?_
            refine r_if_eq rfl (fun t32 => ?_) (fun t32 => ?_)
            · refine v_aload_n rfl rfl ?_
              refine v_iload rfl rfl ?_
              refine v_iload_n rfl rfl ?_
              refine v_callV rfl (W_X12_begins_59 l24 y (by omega) (by omega) (by omega) (by omega) hR hI) rfl rfl h1 rfl rfl (by omega) (fun rv w33 hq34 => ?_)
              obtain ⟨⟨z35, rfl, z35p0, z35p1⟩, rfl⟩ := hq34
              refine r_if_eq rfl (fun t36 => ?_) (fun t36 => ?_)
              · refine r_iinc rfl rfl (by decide) (by omega) (by omega) (fun z37 z37e => ?_)
                refine v_goto rfl ?_
                exact ih51_26 l22 l23 z37 (u25) (by omega) (by omega) (by omega)
              · refine v_aload_n rfl rfl ?_
                refine v_iload rfl rfl ?_
                refine v_iload_n rfl rfl ?_
                refine v_callV rfl (W_X12_runFrom_59 l24 y (by omega) (by omega) (by omega) (by omega) hR hI) rfl rfl h1 rfl rfl (by omega) (fun rv w38 hq39 => ?_)
                obtain ⟨⟨z40, rfl, -⟩, rfl⟩ := hq39
                refine v_istore rfl (Nat.le_of_ble_eq_true rfl) ?_
                refine v_iload_n rfl rfl ?_
                refine v_iload rfl rfl ?_
                refine v_aload_n rfl rfl ?_
                refine v_get rfl h1 rfl ?_
                refine r_icmp_le rfl (fun t41 => ?_) (fun t41 => ?_)
                · refine v_iconst (v := 0) rfl (by decide) ?_
                  refine u_iadd rfl (fun z42 => ?_)
                  refine v_istore_n rfl (Nat.le_of_ble_eq_true rfl) ?_
                  refine v_iload rfl rfl ?_
                  refine v_iload rfl rfl ?_
                  refine r_icmp_le rfl (fun t43 => ?_) (fun t43 => ?_)
                  · refine v_iload rfl rfl ?_
                    refine v_istore rfl (Nat.le_of_ble_eq_true rfl) ?_
                    refine r_iinc rfl rfl (by decide) (by omega) (by omega) (fun z44 z44e => ?_)
                    refine v_goto rfl ?_
                    exact ih51_26 z42 l23 z44 (.int z40) (by omega) (by omega) (by omega)
                  · refine v_iload rfl rfl ?_
                    refine v_goto rfl ?_
                    refine v_istore rfl (Nat.le_of_ble_eq_true rfl) ?_
                    refine r_iinc rfl rfl (by decide) (by omega) (by omega) (fun z45 z45e => ?_)
                    refine v_goto rfl ?_
                    exact ih51_26 z42 z40 z45 (.int z40) (by omega) (by omega) (by omega)
                · refine v_iconst (v := 1) rfl (by decide) ?_
                  refine v_goto rfl ?_
                  refine u_iadd rfl (fun z46 => ?_)
                  refine v_istore_n rfl (Nat.le_of_ble_eq_true rfl) ?_
                  refine v_iload rfl rfl ?_
                  refine v_iload rfl rfl ?_
                  refine r_icmp_le rfl (fun t47 => ?_) (fun t47 => ?_)
                  · refine v_iload rfl rfl ?_
                    refine v_istore rfl (Nat.le_of_ble_eq_true rfl) ?_
                    refine r_iinc rfl rfl (by decide) (by omega) (by omega) (fun z48 z48e => ?_)
                    refine v_goto rfl ?_
                    exact ih51_26 z46 l23 z48 (.int z40) (by omega) (by omega) (by omega)
                  · refine v_iload rfl rfl ?_
                    refine v_goto rfl ?_
                    refine v_istore rfl (Nat.le_of_ble_eq_true rfl) ?_
                    refine r_iinc rfl rfl (by decide) (by omega) (by omega) (fun z49 z49e => ?_)
                    refine v_goto rfl ?_
                    exact ih51_26 z46 z40 z49 (.int z40) (by omega) (by omega) (by omega)
            · refine v_iload rfl rfl ?_
              refine r_if_ne rfl (fun t50 => ?_) (fun t50 => ?_)
              · refine r_iinc rfl rfl (by decide) (by omega) (by omega) (fun z51 z51e => ?_)
                refine v_goto rfl ?_
                exact ih51_26 l22 l23 z51 (u25) (by omega) (by omega) (by omega)
              · refine v_goto rfl ?_
                refine v_aload_n rfl rfl ?_
                refine v_iload rfl rfl ?_
                refine v_iload_n rfl rfl ?_
                refine v_callV rfl (W_X12_runFrom_59 l24 y (by omega) (by omega) (by omega) (by omega) hR hI) rfl rfl h1 rfl rfl (by omega) (fun rv w52 hq53 => ?_)
                obtain ⟨⟨z54, rfl, -⟩, rfl⟩ := hq53
                refine v_istore rfl (Nat.le_of_ble_eq_true rfl) ?_
                refine v_iload_n rfl rfl ?_
                refine v_iload rfl rfl ?_
                refine v_aload_n rfl rfl ?_
                refine v_get rfl h1 rfl ?_
                refine r_icmp_le rfl (fun t55 => ?_) (fun t55 => ?_)
                · refine v_iconst (v := 0) rfl (by decide) ?_
                  refine u_iadd rfl (fun z56 => ?_)
                  refine v_istore_n rfl (Nat.le_of_ble_eq_true rfl) ?_
                  refine v_iload rfl rfl ?_
                  refine v_iload rfl rfl ?_
                  refine r_icmp_le rfl (fun t57 => ?_) (fun t57 => ?_)
                  · refine v_iload rfl rfl ?_
                    refine v_istore rfl (Nat.le_of_ble_eq_true rfl) ?_
                    refine r_iinc rfl rfl (by decide) (by omega) (by omega) (fun z58 z58e => ?_)
                    refine v_goto rfl ?_
                    exact ih51_26 z56 l23 z58 (.int z54) (by omega) (by omega) (by omega)
                  · refine v_iload rfl rfl ?_
                    refine v_goto rfl ?_
                    refine v_istore rfl (Nat.le_of_ble_eq_true rfl) ?_
                    refine r_iinc rfl rfl (by decide) (by omega) (by omega) (fun z59 z59e => ?_)
                    refine v_goto rfl ?_
                    exact ih51_26 z56 z54 z59 (.int z54) (by omega) (by omega) (by omega)
                · refine v_iconst (v := 1) rfl (by decide) ?_
                  refine v_goto rfl ?_
                  refine u_iadd rfl (fun z60 => ?_)
                  refine v_istore_n rfl (Nat.le_of_ble_eq_true rfl) ?_
                  refine v_iload rfl rfl ?_
                  refine v_iload rfl rfl ?_
                  refine r_icmp_le rfl (fun t61 => ?_) (fun t61 => ?_)
                  · refine v_iload rfl rfl ?_
                    refine v_istore rfl (Nat.le_of_ble_eq_true rfl) ?_
                    refine r_iinc rfl rfl (by decide) (by omega) (by omega) (fun z62 z62e => ?_)
                    refine v_goto rfl ?_
                    exact ih51_26 z60 l23 z62 (.int z54) (by omega) (by omega) (by omega)
                  · refine v_iload rfl rfl ?_
                    refine v_goto rfl ?_
                    refine v_istore rfl (Nat.le_of_ble_eq_true rfl) ?_
                    refine r_iinc rfl rfl (by decide) (by omega) (by omega) (fun z63 z63e => ?_)
                    refine v_goto rfl ?_
                    exact ih51_26 z60 z54 z63 (.int z54) (by omega) (by omega) (by omega)
      exact L26 _ (0 : Int32) (0 : Int32) (0 : Int32) (.null) (by omega) (by omega) (Nat.lt_add_one _)
    · refine v_aload_n rfl rfl ?_
      refine v_bipush (v := (-2)) rfl (by decide) ?_
      refine v_callV rfl (c_M_refuse (-2 : Int32) (by unfold pm_isR; first | decide | exact Or.inl rfl) hR hI) rfl rfl h1 rfl rfl (by omega) (fun rv w64 hq65 => ?_)
      obtain ⟨rfl, hI66, hh67x⟩ := hq65
      have hI66 : pm_IM gi ga w64 := hI66
      have hh67 := hh.tr hh67x
      exact v_iret rfl ⟨⟨_, rfl, trivial⟩, hI66, hh67⟩
  · refine v_aload_n rfl rfl ?_
    refine v_iconst (v := (-1)) rfl (by decide) ?_
    refine v_callV rfl (c_M_refuse (-1 : Int32) (by unfold pm_isR; first | decide | exact Or.inl rfl) hR hI) rfl rfl h1 rfl rfl (by omega) (fun rv w68 hq69 => ?_)
    obtain ⟨rfl, hI70, hh71x⟩ := hq69
    have hI70 : pm_IM gi ga w68 := hI70
    have hh71 := hh.tr hh71x
    exact v_iret rfl ⟨⟨_, rfl, trivial⟩, hI70, hh71⟩

