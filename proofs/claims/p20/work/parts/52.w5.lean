set_option maxRecDepth 100000 in
theorem W_X9_isOpen_27 {sc : pm_S} {w : pm_W} {gi : Nat → Int32} {ga : Nat → List Int32} (o : Int32) (p0 : o.toInt ≤ 11) (p1 : 0 ≤ o.toInt) (hR : pm_Rg gi ga) (hI : pm_IX gi ga w) : pm_Mt sc 0 55 2 [.ref 27, .int o] w (fun rv w' => pm_wI (fun v => True) rv ∧ w = w') := by
  intro d hd
  obtain ⟨g0a, g0b⟩ := hR.n0
  obtain ⟨g1a, g1b⟩ := hR.n1
  obtain ⟨g2a, g2b⟩ := hR.n2
  obtain ⟨g3a, g3b⟩ := hR.n3
  obtain ⟨g4a, g4b⟩ := hR.n4
  obtain ⟨g5a, g5b⟩ := hR.n5
  obtain ⟨g6a, g6b⟩ := hR.n6
  obtain ⟨g7a, g7b⟩ := hR.n7
  obtain ⟨g8a, g8b⟩ := hR.n8
  have k0 : (0 : Int32).toInt = 0 := by decide
  have k1 : (1 : Int32).toInt = 1 := by decide
  show pm_V sc d 55 0 [.ref 27, .int o] [] w _
  refine v_aload_n rfl rfl ?_
  have h1 : _ = some _ := hI.2 27 (by decide)
  refine v_get rfl h1 rfl ?_
  refine v_iload_n rfl rfl ?_
  have h2 : _ = some _ := hI.2 31 (by decide)
  refine r_iaload rfl h2 hR.l3 (by omega) (by omega) (fun z3 z3m z3g => ?_)
  obtain ⟨z3a, z3b⟩ := hR.r3 z3 z3m
  refine r_if_ge rfl (fun t4 => ?_) (fun t4 => ?_)
  · refine v_iconst (v := 0) rfl (by decide) ?_
    exact r_zret rfl (by omega) ⟨⟨_, rfl, trivial⟩, rfl⟩
  · refine v_iconst (v := 1) rfl (by decide) ?_
    refine v_goto rfl ?_
    exact r_zret rfl (by omega) ⟨⟨_, rfl, trivial⟩, rfl⟩
set_option maxRecDepth 100000 in
theorem W_X9_openOrders_27 {sc : pm_S} {w : pm_W} {gi : Nat → Int32} {ga : Nat → List Int32}   (hR : pm_Rg gi ga) (hI : pm_IX gi ga w) : pm_Mt sc 1 56 3 [.ref 27] w (fun rv w' => pm_wI (fun v => True) rv ∧ w = w') := by
  intro d hd
  obtain ⟨g0a, g0b⟩ := hR.n0
  obtain ⟨g1a, g1b⟩ := hR.n1
  obtain ⟨g2a, g2b⟩ := hR.n2
  obtain ⟨g3a, g3b⟩ := hR.n3
  obtain ⟨g4a, g4b⟩ := hR.n4
  obtain ⟨g5a, g5b⟩ := hR.n5
  obtain ⟨g6a, g6b⟩ := hR.n6
  obtain ⟨g7a, g7b⟩ := hR.n7
  obtain ⟨g8a, g8b⟩ := hR.n8
  have k0 : (0 : Int32).toInt = 0 := by decide
  show pm_V sc d 56 0 [.ref 27, .null, .null] [] w _
  refine v_iconst (v := 0) rfl (by decide) ?_
  refine v_istore_n rfl (Nat.le_of_ble_eq_true rfl) ?_
  refine v_iconst (v := 0) rfl (by decide) ?_
  refine v_istore_n rfl (Nat.le_of_ble_eq_true rfl) ?_
  have L3 : ∀ (n3 : Nat) (l1 : Int32) (l2 : Int32), 0 ≤ l2.toInt → l2.toInt ≤ 12 → (12 - l2.toInt).toNat < n3 → pm_V sc d 56 4 [.ref 27, .int l1, .int l2] [] w (fun rv w' => pm_wI (fun v => True) rv ∧ w = w') := by
    intro n3
    induction n3 with
    | zero => intro l1 l2 t5 t6 hm4; exact absurd hm4 (Nat.not_lt_zero _)
    | succ n3 ih4_3 =>
      intro l1 l2 t5 t6 hm4
      refine v_iload_n rfl rfl ?_
      refine v_aload_n rfl rfl ?_
      have h7 : _ = some _ := hI.2 27 (by decide)
      refine v_get rfl h7 rfl ?_
      refine r_icmp_ge rfl (fun t8 => ?_) (fun t8 => ?_)
      · refine v_iload_n rfl rfl ?_
        exact v_iret rfl ⟨⟨_, rfl, trivial⟩, rfl⟩
      · refine v_aload_n rfl rfl ?_
        refine v_iload_n rfl rfl ?_
        refine v_callV rfl (W_X9_isOpen_27 l2 (by omega) (by omega) hR hI) rfl rfl h7 rfl rfl (by omega) (fun rv w9 hq10 => ?_)
        obtain ⟨⟨z11, rfl, -⟩, rfl⟩ := hq10
        refine r_if_eq rfl (fun t12 => ?_) (fun t12 => ?_)
        · refine r_iinc rfl rfl (by decide) (by omega) (by omega) (fun z13 z13e => ?_)
          refine v_goto rfl ?_
          exact ih4_3 l1 z13 (by omega) (by omega) (by omega)
        · refine u_iinc rfl rfl (fun z14 => ?_)
          refine r_iinc rfl rfl (by decide) (by omega) (by omega) (fun z15 z15e => ?_)
          refine v_goto rfl ?_
          exact ih4_3 z14 z15 (by omega) (by omega) (by omega)
  exact L3 _ (0 : Int32) (0 : Int32) (by omega) (by omega) (Nat.lt_add_one _)
set_option maxRecDepth 100000 in
theorem W_X9_daysFor_27 {sc : pm_S} {w : pm_W} {gi : Nat → Int32} {ga : Nat → List Int32} (o : Int32) (l : Int32) (p0 : o.toInt ≤ 11) (p1 : 0 ≤ o.toInt) (hR : pm_Rg gi ga) (hI : pm_IX gi ga w) : pm_Mt sc 0 57 4 [.ref 27, .int o, .int l] w (fun rv w' => pm_wI (fun v => True) rv ∧ w = w') := by
  intro d hd
  obtain ⟨g0a, g0b⟩ := hR.n0
  obtain ⟨g1a, g1b⟩ := hR.n1
  obtain ⟨g2a, g2b⟩ := hR.n2
  obtain ⟨g3a, g3b⟩ := hR.n3
  obtain ⟨g4a, g4b⟩ := hR.n4
  obtain ⟨g5a, g5b⟩ := hR.n5
  obtain ⟨g6a, g6b⟩ := hR.n6
  obtain ⟨g7a, g7b⟩ := hR.n7
  obtain ⟨g8a, g8b⟩ := hR.n8
  have k1 : (1 : Int32).toInt = 1 := by decide
  show pm_V sc d 57 0 [.ref 27, .int o, .int l, .null] [] w _
  refine v_aload_n rfl rfl ?_
  have h1 : _ = some _ := hI.2 27 (by decide)
  refine v_get rfl h1 rfl ?_
  refine v_iload_n rfl rfl ?_
  have h2 : _ = some _ := hI.2 28 (by decide)
  refine r_iaload rfl h2 hR.l0 (by omega) (by omega) (fun z3 z3m z3g => ?_)
  obtain ⟨z3a, z3b⟩ := hR.r0 z3 z3m
  refine v_aload_n rfl rfl ?_
  refine v_get rfl h1 rfl ?_
  refine r_iadd rfl (by omega) (by omega) (fun z4 z4e => ?_)
  refine v_iconst (v := 1) rfl (by decide) ?_
  refine r_isub rfl (by omega) (by omega) (fun z5 z5e => ?_)
  refine v_aload_n rfl rfl ?_
  refine v_get rfl h1 rfl ?_
  refine r_idiv rfl (by omega) (by omega) (fun z6 z6m z6a z6b => ?_)
  clear z6m
  refine v_istore_n rfl (Nat.le_of_ble_eq_true rfl) ?_
  refine v_aload_n rfl rfl ?_
  refine v_get rfl h1 rfl ?_
  refine v_iload_n rfl rfl ?_
  have h7 : _ = some _ := hI.2 29 (by decide)
  refine r_iaload rfl h7 hR.l1 (by omega) (by omega) (fun z8 z8m z8g => ?_)
  obtain ⟨z8a, z8b⟩ := hR.r1 z8 z8m
  refine v_iload_n rfl rfl ?_
  refine r_icmp_ne rfl (fun t9 => ?_) (fun t9 => ?_)
  · refine v_aload_n rfl rfl ?_
    refine v_get rfl h1 rfl ?_
    refine v_iload_n rfl rfl ?_
    refine r_iadd rfl (by omega) (by omega) (fun z10 z10e => ?_)
    exact v_iret rfl ⟨⟨_, rfl, trivial⟩, rfl⟩
  · refine v_iload_n rfl rfl ?_
    refine v_goto rfl ?_
    exact v_iret rfl ⟨⟨_, rfl, trivial⟩, rfl⟩
set_option maxRecDepth 100000 in
theorem W_X9_lateOf_27 {sc : pm_S} {w : pm_W} {gi : Nat → Int32} {ga : Nat → List Int32} (o : Int32) (e : Int32) (p0 : o.toInt ≤ 11) (p1 : 0 ≤ o.toInt) (hR : pm_Rg gi ga) (hI : pm_IX gi ga w) : pm_Mt sc 1 58 3 [.ref 27, .int o, .int e] w (fun rv w' => pm_wI (fun v => True) rv ∧ w = w') := by
  intro d hd
  obtain ⟨g0a, g0b⟩ := hR.n0
  obtain ⟨g1a, g1b⟩ := hR.n1
  obtain ⟨g2a, g2b⟩ := hR.n2
  obtain ⟨g3a, g3b⟩ := hR.n3
  obtain ⟨g4a, g4b⟩ := hR.n4
  obtain ⟨g5a, g5b⟩ := hR.n5
  obtain ⟨g6a, g6b⟩ := hR.n6
  obtain ⟨g7a, g7b⟩ := hR.n7
  obtain ⟨g8a, g8b⟩ := hR.n8
  have k0 : (0 : Int32).toInt = 0 := by decide
  show pm_V sc d 58 0 [.ref 27, .int o, .int e] [] w _
  refine v_iconst (v := 0) rfl (by decide) ?_
  refine v_iload_n rfl rfl ?_
  refine v_aload_n rfl rfl ?_
  have h1 : _ = some _ := hI.2 27 (by decide)
  refine v_get rfl h1 rfl ?_
  refine v_iload_n rfl rfl ?_
  have h2 : _ = some _ := hI.2 30 (by decide)
  refine r_iaload rfl h2 hR.l2 (by omega) (by omega) (fun z3 z3m z3g => ?_)
  obtain ⟨z3a, z3b⟩ := hR.r2 z3 z3m
  refine u_isub rfl (fun z4 => ?_)
  refine r_max rfl (by omega) rfl (fun z5 z5a z5b z5c => ?_)
  exact v_iret rfl ⟨⟨_, rfl, trivial⟩, rfl⟩
set_option maxRecDepth 100000 in
theorem W_X2_goOn_32_27_r {sc : pm_S} {w0 : pm_W} {gi : Nat → Int32} {ga : Nat → List Int32} (hR : pm_Rg gi ga) : ∀ (n0 : Nat) (w : pm_W) (p : Int32) (e : Int32) (l : Int32) (s : Int32), p.toInt ≤ 7 → 0 ≤ p.toInt → pm_IX gi ga w → pm_hi w0 w → (7 - p.toInt).toNat < n0 → pm_Mt sc (n0 + 2) 10 9 [.ref 32, .ref 27, .int p, .int e, .int l, .int s] w (fun rv w' => rv = none ∧ pm_IX gi ga w' ∧ pm_hi w0 w') := by
  intro n0
  induction n0 with
  | zero => intro w p e l s p0 p1 hI hh hm; exact absurd hm (Nat.not_lt_zero _)
  | succ n0 ih0 =>
    intro w p e l s p0 p1 hI hh hm d hd
    obtain ⟨g0a, g0b⟩ := hR.n0
    obtain ⟨g1a, g1b⟩ := hR.n1
    obtain ⟨g2a, g2b⟩ := hR.n2
    obtain ⟨g3a, g3b⟩ := hR.n3
    obtain ⟨g4a, g4b⟩ := hR.n4
    obtain ⟨g5a, g5b⟩ := hR.n5
    obtain ⟨g6a, g6b⟩ := hR.n6
    obtain ⟨g7a, g7b⟩ := hR.n7
    obtain ⟨g8a, g8b⟩ := hR.n8
    have k0 : (0 : Int32).toInt = 0 := by decide
    have k1 : (1 : Int32).toInt = 1 := by decide
    show pm_V sc d 10 0 [.ref 32, .ref 27, .int p, .int e, .int l, .int s, .null, .null, .null] [] w _
    refine v_iload rfl rfl ?_
    refine v_aload_n rfl rfl ?_
    obtain ⟨v2, v3, v4, v2z, ⟨v4a, v4b⟩, h1⟩ := hI.2 32 (by decide)
    have v2z := v2z.imp i_eq.mp i_eq.mp
    rw [i_0, i_1] at v2z
    refine v_get rfl h1 rfl ?_
    refine r_icmp_lt rfl (fun t5 => ?_) (fun t5 => ?_)
    · refine v_iload_n rfl rfl ?_
      refine v_aload_n rfl rfl ?_
      refine v_get rfl h1 rfl ?_
      refine r_icmp_lt rfl (fun t6 => ?_) (fun t6 => ?_)
      · refine v_iconst (v := 0) rfl (by decide) ?_
        refine v_istore rfl (Nat.le_of_ble_eq_true rfl) ?_
        have L13 : ∀ (n13 : Nat) (l7 : Int32) (u8 : Value) (u9 : Value) (w10 : pm_W), pm_IX gi ga w10 → pm_hi w0 w10 → 0 ≤ l7.toInt → l7.toInt ≤ 7 → (7 - l7.toInt).toNat < n13 → pm_V sc d 10 45 [.ref 32, .ref 27, .int p, .int e, .int l, .int s, .int l7, u8, u9] [] w10 (fun rv w' => rv = none ∧ pm_IX gi ga w' ∧ pm_hi w0 w') := by
          intro n13
          induction n13 with
          | zero => intro l7 u8 u9 w10 hI11 hh12 t15 t16 hm14; exact absurd hm14 (Nat.not_lt_zero _)
          | succ n13 ih45_13 =>
            intro l7 u8 u9 w10 hI11 hh12 t15 t16 hm14
            refine v_iload rfl rfl ?_
            refine v_aload_n rfl rfl ?_
            obtain ⟨v18, v19, v20, v18z, ⟨v20a, v20b⟩, h17⟩ := hI11.2 32 (by decide)
            have v18z := v18z.imp i_eq.mp i_eq.mp
            rw [i_0, i_1] at v18z
            refine v_get rfl h17 rfl ?_
            refine r_icmp_ge rfl (fun t21 => ?_) (fun t21 => ?_)
            · exact v_ret rfl ⟨rfl, hI11, hh12⟩
            · refine v_aload_n rfl rfl ?_
              refine v_get rfl h17 rfl ?_
              refine v_iload rfl rfl ?_
              obtain ⟨xs23, xs23l, xs23r, h22⟩ := hI11.2 36 (by decide)
              refine r_baload rfl h22 xs23l (by omega) (by omega) (fun z24 z24m z24g => ?_)
              obtain ⟨z24a, z24b⟩ := xs23r z24 z24m
              refine r_if_ne rfl (fun t25 => ?_) (fun t25 => ?_)
              · refine r_iinc rfl rfl (by decide) (by omega) (by omega) (fun z26 z26e => ?_)
                refine v_goto rfl ?_
                exact ih45_13 z26 (u8) (u9) w10 hI11 hh12 (by omega) (by omega) (by omega)
              · refine v_aload_n rfl rfl ?_
                refine v_get rfl h17 rfl ?_
                refine v_iload rfl rfl ?_
                obtain ⟨xs28, xs28l, xs28r, h27⟩ := hI11.2 34 (by decide)
                refine r_iaload rfl h27 xs28l (by omega) (by omega) (fun z29 z29m z29g => ?_)
                obtain ⟨z29a, z29b⟩ := xs28r z29 z29m
                refine v_istore rfl (Nat.le_of_ble_eq_true rfl) ?_
                refine v_iload_n rfl rfl ?_
                refine v_aload_n rfl rfl ?_
                refine v_iload rfl rfl ?_
                refine v_iload rfl rfl ?_
                have h30 : _ = some _ := hI11.2 27 (by decide)
                refine v_callV rfl (W_X9_daysFor_27 z29 l (by omega) (by omega) hR hI11) rfl rfl h30 rfl rfl (by omega) (fun rv w31 hq32 => ?_)
                obtain ⟨⟨z33, rfl, -⟩, rfl⟩ := hq32
                refine u_iadd rfl (fun z34 => ?_)
                refine v_istore rfl (Nat.le_of_ble_eq_true rfl) ?_
                refine v_aload_n rfl rfl ?_
                refine v_get rfl h17 rfl ?_
                refine v_iload rfl rfl ?_
                refine v_iconst (v := 1) rfl (by decide) ?_
                refine r_bastore rfl h22 xs23l (by omega) (by omega) (by omega) (fun ys35 ys35l ys35m ys35g => ?_)
                have ys35r := r_rng ys35m xs23r (by omega) (by omega)
                refine r_gen (w' := w10.set 36 (.inl (1, .inl ys35))) (fun w36 e37 => ?_)
                have hI38 : pm_IX gi ga w36 := by rw [e37]; exact hI11.set 36 (by decide) ⟨ys35, ys35l, ys35r, rfl⟩
                have hh39 : pm_hi w0 w36 := by rw [e37]; exact hh12.set (by decide) _
                have h40 := r_get_ne e37 (show 36 ≠ 32 by decide) h17
                have h41 := r_get_ne e37 (show 36 ≠ 34 by decide) h27
                have h42 := r_get_ne e37 (show 36 ≠ 27 by decide) h30
                have h43 := r_get_eq e37 h22
                refine v_aload_n rfl rfl ?_
                refine v_get rfl h40 rfl ?_
                refine v_iload_n rfl rfl ?_
                refine v_iload rfl rfl ?_
                obtain ⟨xs45, xs45l, xs45r, h44⟩ := hI38.2 35 (by decide)
                refine r_iastore rfl h44 xs45l (by omega) (by omega) (fun ys46 ys46l ys46m ys46g => ?_)
                have ys46r := r_rng ys46m xs45r (by omega) (by omega)
                refine r_gen (w' := w36.set 35 (.inl (0, .inl ys46))) (fun w47 e48 => ?_)
                have hI49 : pm_IX gi ga w47 := by rw [e48]; exact hI38.set 35 (by decide) ⟨ys46, ys46l, ys46r, rfl⟩
                have hh50 : pm_hi w0 w47 := by rw [e48]; exact hh39.set (by decide) _
                have h51 := r_get_ne e48 (show 35 ≠ 32 by decide) h40
                have h52 := r_get_ne e48 (show 35 ≠ 34 by decide) h41
                have h53 := r_get_ne e48 (show 35 ≠ 27 by decide) h42
                have h54 := r_get_ne e48 (show 35 ≠ 36 by decide) h43
                have h55 := r_get_eq e48 h44
                refine v_aload_n rfl rfl ?_
                refine v_aload_n rfl rfl ?_
                refine v_iload_n rfl rfl ?_
                refine v_iconst (v := 1) rfl (by decide) ?_
                refine r_iadd rfl (by omega) (by omega) (fun z56 z56e => ?_)
                refine v_iload rfl rfl ?_
                refine v_aload_n rfl rfl ?_
                refine v_get rfl h53 rfl ?_
                refine v_iload rfl rfl ?_
                have h57 : _ = some _ := hI49.2 29 (by decide)
                refine r_iaload rfl h57 hR.l1 (by omega) (by omega) (fun z58 z58m z58g => ?_)
                obtain ⟨z58a, z58b⟩ := hR.r1 z58 z58m
                refine v_iload rfl rfl ?_
                refine v_aload_n rfl rfl ?_
                refine v_iload rfl rfl ?_
                refine v_iload rfl rfl ?_
                refine v_callV rfl (W_X9_lateOf_27 z29 z34 (by omega) (by omega) hR hI49) rfl rfl h53 rfl rfl (by omega) (fun rv w59 hq60 => ?_)
                obtain ⟨⟨z61, rfl, -⟩, rfl⟩ := hq60
                refine u_iadd rfl (fun z62 => ?_)
                refine v_callV rfl (ih0 w47 z56 z34 z58 z62 (by omega) (by omega) hI49 hh50 (by omega)) rfl rfl h51 rfl rfl (by omega) (fun rv w63 hq64 => ?_)
                obtain ⟨rfl, hI65, hh66⟩ := hq64
                refine v_aload_n rfl rfl ?_
                obtain ⟨v68, v69, v70, v68z, ⟨v70a, v70b⟩, h67⟩ := hI65.2 32 (by decide)
                have v68z := v68z.imp i_eq.mp i_eq.mp
                rw [i_0, i_1] at v68z
                refine v_get rfl h67 rfl ?_
                refine v_iload rfl rfl ?_
                refine v_iconst (v := 0) rfl (by decide) ?_
                obtain ⟨xs72, xs72l, xs72r, h71⟩ := hI65.2 36 (by decide)
                refine r_bastore rfl h71 xs72l (by omega) (by omega) (by omega) (fun ys73 ys73l ys73m ys73g => ?_)
                have ys73r := r_rng ys73m xs72r (by omega) (by omega)
                refine r_gen (w' := w63.set 36 (.inl (1, .inl ys73))) (fun w74 e75 => ?_)
                have hI76 : pm_IX gi ga w74 := by rw [e75]; exact hI65.set 36 (by decide) ⟨ys73, ys73l, ys73r, rfl⟩
                have hh77 : pm_hi w0 w74 := by rw [e75]; exact hh66.set (by decide) _
                have h78 := r_get_ne e75 (show 36 ≠ 32 by decide) h67
                have h79 := r_get_eq e75 h71
                refine r_iinc rfl rfl (by decide) (by omega) (by omega) (fun z80 z80e => ?_)
                refine v_goto rfl ?_
                exact ih45_13 z80 (.int z29) (.int z34) w74 hI76 hh77 (by omega) (by omega) (by omega)
        exact L13 _ (0 : Int32) (.null) (.null) w hI hh (by omega) (by omega) (Nat.lt_add_one _)
      · refine v_aload_n rfl rfl ?_
        refine v_iload rfl rfl ?_
        refine v_put rfl h1 rfl (Nat.le_of_ble_eq_true rfl) ?_
        refine r_gen (w' := w.set 32 (.inr (2, [.int v2, .int s, .int v4, .ref 33, .ref 34, .ref 35, .ref 36]))) (fun w81 e82 => ?_)
        have hI83 : pm_IX gi ga w81 := by rw [e82]; exact hI.set 32 (by decide) ⟨v2, s, v4, ((show v2.toInt = 0 ∨ v2.toInt = 1 by omega).imp i_eq.mpr i_eq.mpr), ⟨by omega, by omega⟩, rfl⟩
        have hh84 : pm_hi w0 w81 := by rw [e82]; exact hh.set (by decide) _
        have h85 := r_get_eq e82 h1
        refine v_aload_n rfl rfl ?_
        refine v_get rfl h85 rfl ?_
        refine v_iconst (v := 0) rfl (by decide) ?_
        refine v_aload_n rfl rfl ?_
        refine v_get rfl h85 rfl ?_
        refine v_iconst (v := 0) rfl (by decide) ?_
        refine v_aload_n rfl rfl ?_
        refine v_get rfl h85 rfl ?_
        obtain ⟨xs87, xs87l, xs87r, h86⟩ := hI83.2 35 (by decide)
        obtain ⟨xs89, xs89l, xs89r, h88⟩ := hI83.2 33 (by decide)
        refine r_copyi rfl (by omega) (by omega) (by omega) (by omega) rfl rfl h86 h88 xs87l xs89l (by omega) (by omega) (fun ys90 ys90l ys90m => ?_)
        have ys90r := r_rng2 ys90m xs87r xs89r
        refine r_gen (w' := w81.set 33 (.inl (0, .inl ys90))) (fun w91 e92 => ?_)
        have hI93 : pm_IX gi ga w91 := by rw [e92]; exact hI83.set 33 (by decide) ⟨ys90, ys90l, ys90r, rfl⟩
        have hh94 : pm_hi w0 w91 := by rw [e92]; exact hh84.set (by decide) _
        have h95 := r_get_ne e92 (show 33 ≠ 32 by decide) h85
        have h96 := r_get_ne e92 (show 33 ≠ 35 by decide) h86
        have h97 := r_get_eq e92 h88
        exact v_ret rfl ⟨rfl, hI93, hh94⟩
    · exact v_ret rfl ⟨rfl, hI, hh⟩
theorem W_X2_goOn_32_27 {sc : pm_S} {w w0 : pm_W} {gi : Nat → Int32} {ga : Nat → List Int32} (p : Int32) (e : Int32) (l : Int32) (s : Int32) (p0 : p.toInt ≤ 7) (p1 : 0 ≤ p.toInt) (hR : pm_Rg gi ga) (hI : pm_IX gi ga w) (hh : pm_hi w0 w) : pm_Mt sc 10 10 9 [.ref 32, .ref 27, .int p, .int e, .int l, .int s] w (fun rv w' => rv = none ∧ pm_IX gi ga w' ∧ pm_hi w0 w') := W_X2_goOn_32_27_r hR 8 w p e l s p0 p1 hI hh (by omega)
set_option maxRecDepth 100000 in
theorem W_X2_find_32_27 {sc : pm_S} {w w0 : pm_W} {gi : Nat → Int32} {ga : Nat → List Int32}   (hR : pm_Rg gi ga) (hI : pm_IX gi ga w) (hh : pm_hi w0 w) : pm_Mt sc 11 9 3 [.ref 32, .ref 27] w (fun rv w' => rv = none ∧ pm_IX gi ga w' ∧ pm_hi w0 w') := by
  intro d hd
  obtain ⟨g0a, g0b⟩ := hR.n0
  obtain ⟨g1a, g1b⟩ := hR.n1
  obtain ⟨g2a, g2b⟩ := hR.n2
  obtain ⟨g3a, g3b⟩ := hR.n3
  obtain ⟨g4a, g4b⟩ := hR.n4
  obtain ⟨g5a, g5b⟩ := hR.n5
  obtain ⟨g6a, g6b⟩ := hR.n6
  obtain ⟨g7a, g7b⟩ := hR.n7
  obtain ⟨g8a, g8b⟩ := hR.n8
  have k0 : (0 : Int32).toInt = 0 := by decide
  have k1 : (1 : Int32).toInt = 1 := by decide
  have k7 : (7 : Int32).toInt = 7 := by decide
  have k2147483647 : (2147483647 : Int32).toInt = 2147483647 := by decide
  show pm_V sc d 9 0 [.ref 32, .ref 27, .null] [] w _
  refine v_aload_n rfl rfl ?_
  obtain ⟨v2, v3, v4, v2z, ⟨v4a, v4b⟩, h1⟩ := hI.2 32 (by decide)
  have v2z := v2z.imp i_eq.mp i_eq.mp
  rw [i_0, i_1] at v2z
  refine v_get rfl h1 rfl ?_
  refine r_if_eq rfl (fun t5 => ?_) (fun t5 => ?_)
  · refine v_aload_n rfl rfl ?_
    refine v_iconst (v := 0) rfl (by decide) ?_
    refine v_put rfl h1 rfl (Nat.le_of_ble_eq_true rfl) ?_
    refine r_gen (w' := w.set 32 (.inr (2, [.int v2, .int v3, .int (0 : Int32), .ref 33, .ref 34, .ref 35, .ref 36]))) (fun w6 e7 => ?_)
    have hI8 : pm_IX gi ga w6 := by rw [e7]; exact hI.set 32 (by decide) ⟨v2, v3, (0 : Int32), ((show v2.toInt = 0 ∨ v2.toInt = 1 by omega).imp i_eq.mpr i_eq.mpr), ⟨by omega, by omega⟩, rfl⟩
    have hh9 : pm_hi w0 w6 := by rw [e7]; exact hh.set (by decide) _
    have h10 := r_get_eq e7 h1
    refine v_iconst (v := 0) rfl (by decide) ?_
    refine v_istore_n rfl (Nat.le_of_ble_eq_true rfl) ?_
    have L15 : ∀ (n15 : Nat) (l11 : Int32) (w12 : pm_W), pm_IX gi ga w12 → pm_hi w0 w12 → 0 ≤ l11.toInt → l11.toInt ≤ 12 → (12 - l11.toInt).toNat < n15 → pm_V sc d 9 15 [.ref 32, .ref 27, .int l11] [] w12 (fun rv w' => rv = none ∧ pm_IX gi ga w' ∧ pm_hi w0 w') := by
      intro n15
      induction n15 with
      | zero => intro l11 w12 hI13 hh14 t17 t18 hm16; exact absurd hm16 (Nat.not_lt_zero _)
      | succ n15 ih15_15 =>
        intro l11 w12 hI13 hh14 t17 t18 hm16
        refine v_iload_n rfl rfl ?_
        refine v_aload_n rfl rfl ?_
        have h19 : _ = some _ := hI13.2 27 (by decide)
        refine v_get rfl h19 rfl ?_
        refine r_icmp_ge rfl (fun t20 => ?_) (fun t20 => ?_)
        · refine v_aload_n rfl rfl ?_
          refine v_ldc (v := 2147483647) rfl (by decide) ?_
          obtain ⟨v22, v23, v24, v22z, ⟨v24a, v24b⟩, h21⟩ := hI13.2 32 (by decide)
          have v22z := v22z.imp i_eq.mp i_eq.mp
          rw [i_0, i_1] at v22z
          refine v_put rfl h21 rfl (Nat.le_of_ble_eq_true rfl) ?_
          refine r_gen (w' := w12.set 32 (.inr (2, [.int v22, .int (2147483647 : Int32), .int v24, .ref 33, .ref 34, .ref 35, .ref 36]))) (fun w25 e26 => ?_)
          have hI27 : pm_IX gi ga w25 := by rw [e26]; exact hI13.set 32 (by decide) ⟨v22, (2147483647 : Int32), v24, ((show v22.toInt = 0 ∨ v22.toInt = 1 by omega).imp i_eq.mpr i_eq.mpr), ⟨by omega, by omega⟩, rfl⟩
          have hh28 : pm_hi w0 w25 := by rw [e26]; exact hh14.set (by decide) _
          have h29 := r_get_ne e26 (show 32 ≠ 27 by decide) h19
          have h30 := r_get_eq e26 h21
          refine v_aload_n rfl rfl ?_
          refine v_aload_n rfl rfl ?_
          refine v_iconst (v := 0) rfl (by decide) ?_
          refine v_aload_n rfl rfl ?_
          refine v_get rfl h29 rfl ?_
          refine v_aload_n rfl rfl ?_
          refine v_get rfl h29 rfl ?_
          refine v_iconst (v := 0) rfl (by decide) ?_
          refine v_callV rfl (W_X2_goOn_32_27 (0 : Int32) (gi 5) (gi 6) (0 : Int32) (by omega) (by omega) hR hI27 hh28) rfl rfl h30 rfl rfl (by omega) (fun rv w31 hq32 => ?_)
          obtain ⟨rfl, hI34, hh35⟩ := hq32
          refine v_aload_n rfl rfl ?_
          refine v_iconst (v := 1) rfl (by decide) ?_
          obtain ⟨v37, v38, v39, v37z, ⟨v39a, v39b⟩, h36⟩ := hI34.2 32 (by decide)
          have v37z := v37z.imp i_eq.mp i_eq.mp
          rw [i_0, i_1] at v37z
          refine v_put rfl h36 (r_okZ (by omega)) (Nat.le_of_ble_eq_true rfl) ?_
          refine r_gen (w' := w31.set 32 (.inr (2, [.int (1 : Int32), .int v38, .int v39, .ref 33, .ref 34, .ref 35, .ref 36]))) (fun w40 e41 => ?_)
          have hI42 : pm_IX gi ga w40 := by rw [e41]; exact hI34.set 32 (by decide) ⟨(1 : Int32), v38, v39, ((show (1 : Int32).toInt = 0 ∨ (1 : Int32).toInt = 1 by omega).imp i_eq.mpr i_eq.mpr), ⟨by omega, by omega⟩, rfl⟩
          have hh43 : pm_hi w0 w40 := by rw [e41]; exact hh35.set (by decide) _
          have h44 := r_get_eq e41 h36
          exact v_ret rfl ⟨rfl, hI42, hh43⟩
        · refine v_aload_n rfl rfl ?_
          obtain ⟨v46, v47, v48, v46z, ⟨v48a, v48b⟩, h45⟩ := hI13.2 32 (by decide)
          have v46z := v46z.imp i_eq.mp i_eq.mp
          rw [i_0, i_1] at v46z
          refine v_get rfl h45 rfl ?_
          refine v_bipush (v := 7) rfl (by decide) ?_
          refine r_icmp_ge rfl (fun t49 => ?_) (fun t49 => ?_)
          · refine v_aload_n rfl rfl ?_
            refine v_ldc (v := 2147483647) rfl (by decide) ?_
            refine v_put rfl h45 rfl (Nat.le_of_ble_eq_true rfl) ?_
            refine r_gen (w' := w12.set 32 (.inr (2, [.int v46, .int (2147483647 : Int32), .int v48, .ref 33, .ref 34, .ref 35, .ref 36]))) (fun w50 e51 => ?_)
            have hI52 : pm_IX gi ga w50 := by rw [e51]; exact hI13.set 32 (by decide) ⟨v46, (2147483647 : Int32), v48, ((show v46.toInt = 0 ∨ v46.toInt = 1 by omega).imp i_eq.mpr i_eq.mpr), ⟨by omega, by omega⟩, rfl⟩
            have hh53 : pm_hi w0 w50 := by rw [e51]; exact hh14.set (by decide) _
            have h54 := r_get_ne e51 (show 32 ≠ 27 by decide) h19
            have h55 := r_get_eq e51 h45
            refine v_aload_n rfl rfl ?_
            refine v_aload_n rfl rfl ?_
            refine v_iconst (v := 0) rfl (by decide) ?_
            refine v_aload_n rfl rfl ?_
            refine v_get rfl h54 rfl ?_
            refine v_aload_n rfl rfl ?_
            refine v_get rfl h54 rfl ?_
            refine v_iconst (v := 0) rfl (by decide) ?_
            refine v_callV rfl (W_X2_goOn_32_27 (0 : Int32) (gi 5) (gi 6) (0 : Int32) (by omega) (by omega) hR hI52 hh53) rfl rfl h55 rfl rfl (by omega) (fun rv w56 hq57 => ?_)
            obtain ⟨rfl, hI59, hh60⟩ := hq57
            refine v_aload_n rfl rfl ?_
            refine v_iconst (v := 1) rfl (by decide) ?_
            obtain ⟨v62, v63, v64, v62z, ⟨v64a, v64b⟩, h61⟩ := hI59.2 32 (by decide)
            have v62z := v62z.imp i_eq.mp i_eq.mp
            rw [i_0, i_1] at v62z
            refine v_put rfl h61 (r_okZ (by omega)) (Nat.le_of_ble_eq_true rfl) ?_
            refine r_gen (w' := w56.set 32 (.inr (2, [.int (1 : Int32), .int v63, .int v64, .ref 33, .ref 34, .ref 35, .ref 36]))) (fun w65 e66 => ?_)
            have hI67 : pm_IX gi ga w65 := by rw [e66]; exact hI59.set 32 (by decide) ⟨(1 : Int32), v63, v64, ((show (1 : Int32).toInt = 0 ∨ (1 : Int32).toInt = 1 by omega).imp i_eq.mpr i_eq.mpr), ⟨by omega, by omega⟩, rfl⟩
            have hh68 : pm_hi w0 w65 := by rw [e66]; exact hh60.set (by decide) _
            have h69 := r_get_eq e66 h61
            exact v_ret rfl ⟨rfl, hI67, hh68⟩
          · refine v_aload_n rfl rfl ?_
            refine v_iload_n rfl rfl ?_
            refine v_callV rfl (W_X9_isOpen_27 l11 (by omega) (by omega) hR hI13) rfl rfl h19 rfl rfl (by omega) (fun rv w70 hq71 => ?_)
            obtain ⟨⟨z72, rfl, -⟩, rfl⟩ := hq71
            refine r_if_eq rfl (fun t73 => ?_) (fun t73 => ?_)
            · refine r_iinc rfl rfl (by decide) (by omega) (by omega) (fun z74 z74e => ?_)
              refine v_goto rfl ?_
              exact ih15_15 z74 w12 hI13 hh14 (by omega) (by omega) (by omega)
            · refine v_aload_n rfl rfl ?_
              refine v_get rfl h45 rfl ?_
              refine v_aload_n rfl rfl ?_
              refine v_get rfl h45 rfl ?_
              refine v_iload_n rfl rfl ?_
              obtain ⟨xs76, xs76l, xs76r, h75⟩ := hI13.2 34 (by decide)
              refine r_iastore rfl h75 xs76l (by omega) (by omega) (fun ys77 ys77l ys77m ys77g => ?_)
              have ys77r := r_rng ys77m xs76r (by omega) (by omega)
              refine r_gen (w' := w12.set 34 (.inl (0, .inl ys77))) (fun w78 e79 => ?_)
              have hI80 : pm_IX gi ga w78 := by rw [e79]; exact hI13.set 34 (by decide) ⟨ys77, ys77l, ys77r, rfl⟩
              have hh81 : pm_hi w0 w78 := by rw [e79]; exact hh14.set (by decide) _
              have h82 := r_get_ne e79 (show 34 ≠ 27 by decide) h19
              have h83 := r_get_ne e79 (show 34 ≠ 32 by decide) h45
              have h84 := r_get_eq e79 h75
              refine v_aload_n rfl rfl ?_
              refine v_dup rfl rfl ?_
              refine v_get rfl h83 rfl ?_
              refine v_iconst (v := 1) rfl (by decide) ?_
              refine r_iadd rfl (by omega) (by omega) (fun z85 z85e => ?_)
              refine v_put rfl h83 rfl (Nat.le_of_ble_eq_true rfl) ?_
              refine r_gen (w' := w78.set 32 (.inr (2, [.int v46, .int v47, .int z85, .ref 33, .ref 34, .ref 35, .ref 36]))) (fun w86 e87 => ?_)
              have hI88 : pm_IX gi ga w86 := by rw [e87]; exact hI80.set 32 (by decide) ⟨v46, v47, z85, ((show v46.toInt = 0 ∨ v46.toInt = 1 by omega).imp i_eq.mpr i_eq.mpr), ⟨by omega, by omega⟩, rfl⟩
              have hh89 : pm_hi w0 w86 := by rw [e87]; exact hh81.set (by decide) _
              have h90 := r_get_ne e87 (show 32 ≠ 27 by decide) h82
              have h91 := r_get_ne e87 (show 32 ≠ 34 by decide) h84
              have h92 := r_get_eq e87 h83
              refine r_iinc rfl rfl (by decide) (by omega) (by omega) (fun z93 z93e => ?_)
              refine v_goto rfl ?_
              exact ih15_15 z93 w86 hI88 hh89 (by omega) (by omega) (by omega)
    exact L15 _ (0 : Int32) w6 hI8 hh9 (by omega) (by omega) (Nat.lt_add_one _)
  · exact v_ret rfl ⟨rfl, hI, hh⟩
set_option maxRecDepth 100000 in
theorem W_X11_best_0 {sc : pm_S} {w w0 : pm_W} {gi : Nat → Int32} {ga : Nat → List Int32}   (hR : pm_Rg gi ga) (hI : pm_IX gi ga w) (hh : pm_hi w0 w) : pm_Mt sc 12 93 1 [.ref 0] w (fun rv w' => pm_wI (fun v => True) rv ∧ pm_IX gi ga w' ∧ pm_hi w0 w') := by
  intro d hd
  obtain ⟨g0a, g0b⟩ := hR.n0
  obtain ⟨g1a, g1b⟩ := hR.n1
  obtain ⟨g2a, g2b⟩ := hR.n2
  obtain ⟨g3a, g3b⟩ := hR.n3
  obtain ⟨g4a, g4b⟩ := hR.n4
  obtain ⟨g5a, g5b⟩ := hR.n5
  obtain ⟨g6a, g6b⟩ := hR.n6
  obtain ⟨g7a, g7b⟩ := hR.n7
  obtain ⟨g8a, g8b⟩ := hR.n8
  have km3 : (-3 : Int32).toInt = -3 := by decide
  have k7 : (7 : Int32).toInt = 7 := by decide
  show pm_V sc d 93 0 [.ref 0] [] w _
  refine v_aload_n rfl rfl ?_
  obtain ⟨v2, ⟨v2z, v2e⟩, h1⟩ := hI.2 0 (by decide)
  have v2z := v2z.imp i_eq.mp i_eq.mp
  rw [i_0, i_1] at v2z
  refine v_get rfl h1 rfl ?_
  have h3 : _ = some _ := hI.2 27 (by decide)
  refine v_callV rfl (W_X9_openOrders_27  hR hI) rfl rfl h3 rfl rfl (by omega) (fun rv w4 hq5 => ?_)
  obtain ⟨⟨z6, rfl, -⟩, rfl⟩ := hq5
  refine v_bipush (v := 7) rfl (by decide) ?_
  refine r_icmp_le rfl (fun t7 => ?_) (fun t7 => ?_)
  · refine v_aload_n rfl rfl ?_
    refine v_get rfl h1 rfl ?_
    refine v_aload_n rfl rfl ?_
    refine v_get rfl h1 rfl ?_
    obtain ⟨v9, v10, v11, v9z, ⟨v11a, v11b⟩, h8⟩ := hI.2 32 (by decide)
    have v9z := v9z.imp i_eq.mp i_eq.mp
    rw [i_0, i_1] at v9z
    refine v_callV rfl (W_X2_find_32_27  hR hI hh) rfl rfl h8 rfl rfl (by omega) (fun rv w12 hq13 => ?_)
    obtain ⟨rfl, hI15, hh16⟩ := hq13
    refine v_aload_n rfl rfl ?_
    obtain ⟨v18, ⟨v18z, v18e⟩, h17⟩ := hI15.2 0 (by decide)
    have v18z := v18z.imp i_eq.mp i_eq.mp
    rw [i_0, i_1] at v18z
    refine v_get rfl h17 rfl ?_
    obtain ⟨v20, v21, v22, v20z, ⟨v22a, v22b⟩, h19⟩ := hI15.2 32 (by decide)
    have v20z := v20z.imp i_eq.mp i_eq.mp
    rw [i_0, i_1] at v20z
    refine v_get rfl h19 rfl ?_
    exact v_iret rfl ⟨⟨_, rfl, trivial⟩, hI15, hh16⟩
  · refine v_aload_n rfl rfl ?_
    refine v_bipush (v := (-3)) rfl (by decide) ?_
    refine v_callV rfl (c_X_refuse (-3 : Int32) (by unfold pm_isR; first | decide | exact Or.inl rfl) hR hI) rfl rfl h1 rfl rfl (by omega) (fun rv w23 hq24 => ?_)
    obtain ⟨rfl, hI25, hh26x⟩ := hq24
    have hI25 : pm_IX gi ga w23 := hI25
    have hh26 := hh.tr hh26x
    exact v_iret rfl ⟨⟨_, rfl, trivial⟩, hI25, hh26⟩
set_option maxRecDepth 100000 in
theorem W_X11_bestAt_0 {sc : pm_S} {w w0 : pm_W} {gi : Nat → Int32} {ga : Nat → List Int32} (i : Int32)  (hR : pm_Rg gi ga) (hI : pm_IX gi ga w) (hh : pm_hi w0 w) : pm_Mt sc 12 94 2 [.ref 0, .int i] w (fun rv w' => pm_wI (fun v => True) rv ∧ pm_IX gi ga w' ∧ pm_hi w0 w') := by
  intro d hd
  obtain ⟨g0a, g0b⟩ := hR.n0
  obtain ⟨g1a, g1b⟩ := hR.n1
  obtain ⟨g2a, g2b⟩ := hR.n2
  obtain ⟨g3a, g3b⟩ := hR.n3
  obtain ⟨g4a, g4b⟩ := hR.n4
  obtain ⟨g5a, g5b⟩ := hR.n5
  obtain ⟨g6a, g6b⟩ := hR.n6
  obtain ⟨g7a, g7b⟩ := hR.n7
  obtain ⟨g8a, g8b⟩ := hR.n8
  have km9 : (-9 : Int32).toInt = -9 := by decide
  have km3 : (-3 : Int32).toInt = -3 := by decide
  have k7 : (7 : Int32).toInt = 7 := by decide
  show pm_V sc d 94 0 [.ref 0, .int i] [] w _
  refine v_aload_n rfl rfl ?_
  obtain ⟨v2, ⟨v2z, v2e⟩, h1⟩ := hI.2 0 (by decide)
  have v2z := v2z.imp i_eq.mp i_eq.mp
  rw [i_0, i_1] at v2z
  refine v_get rfl h1 rfl ?_
  have h3 : _ = some _ := hI.2 27 (by decide)
  refine v_callV rfl (W_X9_openOrders_27  hR hI) rfl rfl h3 rfl rfl (by omega) (fun rv w4 hq5 => ?_)
  obtain ⟨⟨z6, rfl, -⟩, rfl⟩ := hq5
  refine v_bipush (v := 7) rfl (by decide) ?_
  refine r_icmp_le rfl (fun t7 => ?_) (fun t7 => ?_)
  · refine v_aload_n rfl rfl ?_
    refine v_get rfl h1 rfl ?_
    refine v_aload_n rfl rfl ?_
    refine v_get rfl h1 rfl ?_
    obtain ⟨v9, v10, v11, v9z, ⟨v11a, v11b⟩, h8⟩ := hI.2 32 (by decide)
    have v9z := v9z.imp i_eq.mp i_eq.mp
    rw [i_0, i_1] at v9z
    refine v_callV rfl (W_X2_find_32_27  hR hI hh) rfl rfl h8 rfl rfl (by omega) (fun rv w12 hq13 => ?_)
    obtain ⟨rfl, hI15, hh16⟩ := hq13
    refine v_iload_n rfl rfl ?_
    refine v_aload_n rfl rfl ?_
    obtain ⟨v18, ⟨v18z, v18e⟩, h17⟩ := hI15.2 0 (by decide)
    have v18z := v18z.imp i_eq.mp i_eq.mp
    rw [i_0, i_1] at v18z
    refine v_get rfl h17 rfl ?_
    obtain ⟨v20, v21, v22, v20z, ⟨v22a, v22b⟩, h19⟩ := hI15.2 32 (by decide)
    have v20z := v20z.imp i_eq.mp i_eq.mp
    rw [i_0, i_1] at v20z
    refine v_get rfl h19 rfl ?_
    refine v_callS rfl (W_X11_isPlace i v22 hR hI15) rfl rfl rfl rfl rfl (by omega) (fun rv w23 hq24 => ?_)
    obtain ⟨⟨z25, rfl, z25p0⟩, rfl⟩ := hq24
    refine r_if_eq rfl (fun t26 => ?_) (fun t26 => ?_)
    · refine v_bipush (v := (-9)) rfl (by decide) ?_
      exact v_iret rfl ⟨⟨_, rfl, trivial⟩, hI15, hh16⟩
    · refine v_aload_n rfl rfl ?_
      refine v_get rfl h17 rfl ?_
      refine v_get rfl h19 rfl ?_
      refine v_iload_n rfl rfl ?_
      obtain ⟨xs28, xs28l, xs28r, h27⟩ := hI15.2 33 (by decide)
      refine r_iaload rfl h27 xs28l (by omega) (by omega) (fun z29 z29m z29g => ?_)
      obtain ⟨z29a, z29b⟩ := xs28r z29 z29m
      refine v_goto rfl ?_
      exact v_iret rfl ⟨⟨_, rfl, trivial⟩, hI15, hh16⟩
  · refine v_aload_n rfl rfl ?_
    refine v_bipush (v := (-3)) rfl (by decide) ?_
    refine v_callV rfl (c_X_refuse (-3 : Int32) (by unfold pm_isR; first | decide | exact Or.inl rfl) hR hI) rfl rfl h1 rfl rfl (by omega) (fun rv w30 hq31 => ?_)
    obtain ⟨rfl, hI32, hh33x⟩ := hq31
    have hI32 : pm_IX gi ga w30 := hI32
    have hh33 := hh.tr hh33x
    exact v_iret rfl ⟨⟨_, rfl, trivial⟩, hI32, hh33⟩
set_option maxRecDepth 100000 in
theorem W_X7_inForceOn_37 {sc : pm_S} {w : pm_W} {gi : Nat → Int32} {ga : Nat → List Int32} (e : Int32)  (hR : pm_Rg gi ga) (hI : pm_IX gi ga w) : pm_Mt sc 0 45 4 [.ref 37, .int e] w (fun rv w' => pm_wI (fun v => -9 ≤ v.toInt ∧ v.toInt ≤ 19) rv ∧ w = w') := by
  intro d hd
  obtain ⟨g0a, g0b⟩ := hR.n0
  obtain ⟨g1a, g1b⟩ := hR.n1
  obtain ⟨g2a, g2b⟩ := hR.n2
  obtain ⟨g3a, g3b⟩ := hR.n3
  obtain ⟨g4a, g4b⟩ := hR.n4
  obtain ⟨g5a, g5b⟩ := hR.n5
  obtain ⟨g6a, g6b⟩ := hR.n6
  obtain ⟨g7a, g7b⟩ := hR.n7
  obtain ⟨g8a, g8b⟩ := hR.n8
  have km9 : (-9 : Int32).toInt = -9 := by decide
  have k0 : (0 : Int32).toInt = 0 := by decide
  show pm_V sc d 45 0 [.ref 37, .int e, .null, .null] [] w _
  refine v_bipush (v := (-9)) rfl (by decide) ?_
  refine v_istore_n rfl (Nat.le_of_ble_eq_true rfl) ?_
  refine v_iconst (v := 0) rfl (by decide) ?_
  refine v_istore_n rfl (Nat.le_of_ble_eq_true rfl) ?_
  have L3 : ∀ (n3 : Nat) (l1 : Int32) (l2 : Int32), (-9) ≤ l1.toInt → l1.toInt ≤ 19 → 0 ≤ l2.toInt → l2.toInt ≤ 20 → (20 - l2.toInt).toNat < n3 → pm_V sc d 45 5 [.ref 37, .int e, .int l1, .int l2] [] w (fun rv w' => pm_wI (fun v => -9 ≤ v.toInt ∧ v.toInt ≤ 19) rv ∧ w = w') := by
    intro n3
    induction n3 with
    | zero => intro l1 l2 t5 t6 t7 t8 hm4; exact absurd hm4 (Nat.not_lt_zero _)
    | succ n3 ih5_3 =>
      intro l1 l2 t5 t6 t7 t8 hm4
      refine v_iload_n rfl rfl ?_
      refine v_aload_n rfl rfl ?_
      have h9 : _ = some _ := hI.2 37 (by decide)
      refine v_get rfl h9 rfl ?_
      refine r_icmp_ge rfl (fun t10 => ?_) (fun t10 => ?_)
      · refine v_iload_n rfl rfl ?_
        exact v_iret rfl ⟨⟨_, rfl, (by omega), (by omega)⟩, rfl⟩
      · refine v_aload_n rfl rfl ?_
        refine v_get rfl h9 rfl ?_
        refine v_iload_n rfl rfl ?_
        have h11 : _ = some _ := hI.2 40 (by decide)
        refine r_iaload rfl h11 hR.l6 (by omega) (by omega) (fun z12 z12m z12g => ?_)
        refine v_iload_n rfl rfl ?_
        refine r_icmp_gt rfl (fun t13 => ?_) (fun t13 => ?_)
        · refine r_iinc rfl rfl (by decide) (by omega) (by omega) (fun z14 z14e => ?_)
          refine v_goto rfl ?_
          exact ih5_3 l1 z14 (by omega) (by omega) (by omega) (by omega) (by omega)
        · refine v_iload_n rfl rfl ?_
          refine r_if_lt rfl (fun t15 => ?_) (fun t15 => ?_)
          · refine v_iload_n rfl rfl ?_
            refine v_istore_n rfl (Nat.le_of_ble_eq_true rfl) ?_
            refine r_iinc rfl rfl (by decide) (by omega) (by omega) (fun z16 z16e => ?_)
            refine v_goto rfl ?_
            exact ih5_3 l2 z16 (by omega) (by omega) (by omega) (by omega) (by omega)
          · refine v_aload_n rfl rfl ?_
            refine v_get rfl h9 rfl ?_
            refine v_iload_n rfl rfl ?_
            refine r_iaload rfl h11 hR.l6 (by omega) (by omega) (fun z17 z17m z17g => ?_)
            refine v_aload_n rfl rfl ?_
            refine v_get rfl h9 rfl ?_
            refine v_iload_n rfl rfl ?_
            refine r_iaload rfl h11 hR.l6 (by omega) (by omega) (fun z18 z18m z18g => ?_)
            refine r_icmp_lt rfl (fun t19 => ?_) (fun t19 => ?_)
            · refine r_iinc rfl rfl (by decide) (by omega) (by omega) (fun z20 z20e => ?_)
              refine v_goto rfl ?_
              exact ih5_3 l1 z20 (by omega) (by omega) (by omega) (by omega) (by omega)
            · refine v_iload_n rfl rfl ?_
              refine v_istore_n rfl (Nat.le_of_ble_eq_true rfl) ?_
              refine r_iinc rfl rfl (by decide) (by omega) (by omega) (fun z21 z21e => ?_)
              refine v_goto rfl ?_
              exact ih5_3 l2 z21 (by omega) (by omega) (by omega) (by omega) (by omega)
  exact L3 _ (-9 : Int32) (0 : Int32) (by omega) (by omega) (by omega) (by omega) (Nat.lt_add_one _)
set_option maxRecDepth 100000 in
theorem W_X7_priceOn_37 {sc : pm_S} {w : pm_W} {gi : Nat → Int32} {ga : Nat → List Int32} (e : Int32)  (hR : pm_Rg gi ga) (hI : pm_IX gi ga w) : pm_Mt sc 1 44 3 [.ref 37, .int e] w (fun rv w' => pm_wI (fun v => True) rv ∧ w = w') := by
  intro d hd
  obtain ⟨g0a, g0b⟩ := hR.n0
  obtain ⟨g1a, g1b⟩ := hR.n1
  obtain ⟨g2a, g2b⟩ := hR.n2
  obtain ⟨g3a, g3b⟩ := hR.n3
  obtain ⟨g4a, g4b⟩ := hR.n4
  obtain ⟨g5a, g5b⟩ := hR.n5
  obtain ⟨g6a, g6b⟩ := hR.n6
  obtain ⟨g7a, g7b⟩ := hR.n7
  obtain ⟨g8a, g8b⟩ := hR.n8
  have k0 : (0 : Int32).toInt = 0 := by decide
  show pm_V sc d 44 0 [.ref 37, .int e, .null] [] w _
  refine v_aload_n rfl rfl ?_
  refine v_iload_n rfl rfl ?_
  have h1 : _ = some _ := hI.2 37 (by decide)
  refine v_callV rfl (W_X7_inForceOn_37 e hR hI) rfl rfl h1 rfl rfl (by omega) (fun rv w2 hq3 => ?_)
  obtain ⟨⟨z4, rfl, z4p0, z4p1⟩, rfl⟩ := hq3
  refine v_istore_n rfl (Nat.le_of_ble_eq_true rfl) ?_
  refine v_iload_n rfl rfl ?_
  refine r_if_ge rfl (fun t5 => ?_) (fun t5 => ?_)
  · refine v_aload_n rfl rfl ?_
    refine v_get rfl h1 rfl ?_
    refine v_iload_n rfl rfl ?_
    have h6 : _ = some _ := hI.2 39 (by decide)
    refine r_iaload rfl h6 hR.l5 (by omega) (by omega) (fun z7 z7m z7g => ?_)
    exact v_iret rfl ⟨⟨_, rfl, trivial⟩, rfl⟩
  · refine v_iconst (v := 0) rfl (by decide) ?_
    refine v_goto rfl ?_
    exact v_iret rfl ⟨⟨_, rfl, trivial⟩, rfl⟩
set_option maxRecDepth 100000 in
theorem W_X9_paidBy_27_37 {sc : pm_S} {w : pm_W} {gi : Nat → Int32} {ga : Nat → List Int32}   (hR : pm_Rg gi ga) (hI : pm_IX gi ga w) : pm_Mt sc 2 60 4 [.ref 27, .ref 37] w (fun rv w' => pm_wI (fun v => True) rv ∧ w = w') := by
  intro d hd
  obtain ⟨g0a, g0b⟩ := hR.n0
  obtain ⟨g1a, g1b⟩ := hR.n1
  obtain ⟨g2a, g2b⟩ := hR.n2
  obtain ⟨g3a, g3b⟩ := hR.n3
  obtain ⟨g4a, g4b⟩ := hR.n4
  obtain ⟨g5a, g5b⟩ := hR.n5
  obtain ⟨g6a, g6b⟩ := hR.n6
  obtain ⟨g7a, g7b⟩ := hR.n7
  obtain ⟨g8a, g8b⟩ := hR.n8
  have k0 : (0 : Int32).toInt = 0 := by decide
  show pm_V sc d 60 0 [.ref 27, .ref 37, .null, .null] [] w _
  refine v_iconst (v := 0) rfl (by decide) ?_
  refine v_istore_n rfl (Nat.le_of_ble_eq_true rfl) ?_
  refine v_iconst (v := 0) rfl (by decide) ?_
  refine v_istore_n rfl (Nat.le_of_ble_eq_true rfl) ?_
  have L3 : ∀ (n3 : Nat) (l1 : Int32) (l2 : Int32), 0 ≤ l2.toInt → l2.toInt ≤ 12 → (12 - l2.toInt).toNat < n3 → pm_V sc d 60 4 [.ref 27, .ref 37, .int l1, .int l2] [] w (fun rv w' => pm_wI (fun v => True) rv ∧ w = w') := by
    intro n3
    induction n3 with
    | zero => intro l1 l2 t5 t6 hm4; exact absurd hm4 (Nat.not_lt_zero _)
    | succ n3 ih4_3 =>
      intro l1 l2 t5 t6 hm4
      refine v_iload_n rfl rfl ?_
      refine v_aload_n rfl rfl ?_
      have h7 : _ = some _ := hI.2 27 (by decide)
      refine v_get rfl h7 rfl ?_
      refine r_icmp_ge rfl (fun t8 => ?_) (fun t8 => ?_)
      · refine v_iload_n rfl rfl ?_
        exact v_iret rfl ⟨⟨_, rfl, trivial⟩, rfl⟩
      · refine v_aload_n rfl rfl ?_
        refine v_iload_n rfl rfl ?_
        refine v_callV rfl (W_X9_isOpen_27 l2 (by omega) (by omega) hR hI) rfl rfl h7 rfl rfl (by omega) (fun rv w9 hq10 => ?_)
        obtain ⟨⟨z11, rfl, -⟩, rfl⟩ := hq10
        refine r_if_ne rfl (fun t12 => ?_) (fun t12 => ?_)
        · refine r_iinc rfl rfl (by decide) (by omega) (by omega) (fun z13 z13e => ?_)
          refine v_goto rfl ?_
          exact ih4_3 l1 z13 (by omega) (by omega) (by omega)
        · refine v_iload_n rfl rfl ?_
          refine v_aload_n rfl rfl ?_
          refine v_get rfl h7 rfl ?_
          refine v_iload_n rfl rfl ?_
          have h14 : _ = some _ := hI.2 28 (by decide)
          refine r_iaload rfl h14 hR.l0 (by omega) (by omega) (fun z15 z15m z15g => ?_)
          obtain ⟨z15a, z15b⟩ := hR.r0 z15 z15m
          refine v_aload_n rfl rfl ?_
          refine v_aload_n rfl rfl ?_
          refine v_get rfl h7 rfl ?_
          refine v_iload_n rfl rfl ?_
          have h16 : _ = some _ := hI.2 31 (by decide)
          refine r_iaload rfl h16 hR.l3 (by omega) (by omega) (fun z17 z17m z17g => ?_)
          obtain ⟨z17a, z17b⟩ := hR.r3 z17 z17m
          have h18 : _ = some _ := hI.2 37 (by decide)
          refine v_callV rfl (W_X7_priceOn_37 z17 hR hI) rfl rfl h18 rfl rfl (by omega) (fun rv w19 hq20 => ?_)
          obtain ⟨⟨z21, rfl, -⟩, rfl⟩ := hq20
          refine u_imul rfl (fun z22 => ?_)
          refine u_iadd rfl (fun z23 => ?_)
          refine v_istore_n rfl (Nat.le_of_ble_eq_true rfl) ?_
          refine r_iinc rfl rfl (by decide) (by omega) (by omega) (fun z24 z24e => ?_)
          refine v_goto rfl ?_
          exact ih4_3 z23 z24 (by omega) (by omega) (by omega)
  exact L3 _ (0 : Int32) (0 : Int32) (by omega) (by omega) (Nat.lt_add_one _)
set_option maxRecDepth 100000 in
theorem W_X11_refusalsOf_0 {sc : pm_S} {w : pm_W} {gi : Nat → Int32} {ga : Nat → List Int32} (k : Int32)  (hR : pm_Rg gi ga) (hI : pm_IX gi ga w) : pm_Mt sc 0 109 2 [.ref 0, .int k] w (fun rv w' => pm_wI (fun v => True) rv ∧ w = w') := by
  intro d hd
  obtain ⟨g0a, g0b⟩ := hR.n0
  obtain ⟨g1a, g1b⟩ := hR.n1
  obtain ⟨g2a, g2b⟩ := hR.n2
  obtain ⟨g3a, g3b⟩ := hR.n3
  obtain ⟨g4a, g4b⟩ := hR.n4
  obtain ⟨g5a, g5b⟩ := hR.n5
  obtain ⟨g6a, g6b⟩ := hR.n6
  obtain ⟨g7a, g7b⟩ := hR.n7
  obtain ⟨g8a, g8b⟩ := hR.n8
  have km9 : (-9 : Int32).toInt = -9 := by decide
  have k1 : (1 : Int32).toInt = 1 := by decide
  have k6 : (6 : Int32).toInt = 6 := by decide
  show pm_V sc d 109 0 [.ref 0, .int k] [] w _
  refine v_iload_n rfl rfl ?_
  refine v_iconst (v := 1) rfl (by decide) ?_
  refine r_icmp_lt rfl (fun t1 => ?_) (fun t1 => ?_)
  · refine v_bipush (v := (-9)) rfl (by decide) ?_
    exact v_iret rfl ⟨⟨_, rfl, trivial⟩, rfl⟩
  · refine v_iload_n rfl rfl ?_
    refine v_bipush (v := 6) rfl (by decide) ?_
    refine r_icmp_gt rfl (fun t2 => ?_) (fun t2 => ?_)
    · refine v_bipush (v := (-9)) rfl (by decide) ?_
      exact v_iret rfl ⟨⟨_, rfl, trivial⟩, rfl⟩
    · refine v_aload_n rfl rfl ?_
      obtain ⟨v4, ⟨v4z, v4e⟩, h3⟩ := hI.2 0 (by decide)
      have v4z := v4z.imp i_eq.mp i_eq.mp
      rw [i_0, i_1] at v4z
      refine v_get rfl h3 rfl ?_
      refine v_iload_n rfl rfl ?_
      obtain ⟨xs6, xs6l, h5⟩ := hI.2 58 (by decide)
      refine r_iaload rfl h5 xs6l (by omega) (by omega) (fun z7 z7m z7g => ?_)
      refine v_goto rfl ?_
      exact v_iret rfl ⟨⟨_, rfl, trivial⟩, rfl⟩
set_option maxRecDepth 100000 in
theorem W_X11_count_0 {sc : pm_S} {w w0 : pm_W} {gi : Nat → Int32} {ga : Nat → List Int32} (k : Int32)  (hR : pm_Rg gi ga) (hI : pm_IX gi ga w) (hh : pm_hi w0 w) : pm_Mt sc 3 107 2 [.ref 0, .int k] w (fun rv w' => pm_wI (fun v => True) rv ∧ pm_IX gi ga w' ∧ pm_hi w0 w') := by
  intro d hd
  obtain ⟨g0a, g0b⟩ := hR.n0
  obtain ⟨g1a, g1b⟩ := hR.n1
  obtain ⟨g2a, g2b⟩ := hR.n2
  obtain ⟨g3a, g3b⟩ := hR.n3
  obtain ⟨g4a, g4b⟩ := hR.n4
  obtain ⟨g5a, g5b⟩ := hR.n5
  obtain ⟨g6a, g6b⟩ := hR.n6
  obtain ⟨g7a, g7b⟩ := hR.n7
  obtain ⟨g8a, g8b⟩ := hR.n8
  have k10 : (10 : Int32).toInt = 10 := by decide
  show pm_V sc d 107 0 [.ref 0, .int k] [] w _
  refine v_iload_n rfl rfl ?_
  by_cases t1 : k.toInt = 0
  · refine v_tabIn (t := 52) rfl (by omega) (by omega) (by rw [t1]; rfl) rfl ?_
    refine v_aload_n rfl rfl ?_
    obtain ⟨v3, ⟨v3z, v3e⟩, h2⟩ := hI.2 0 (by decide)
    have v3z := v3z.imp i_eq.mp i_eq.mp
    rw [i_0, i_1] at v3z
    refine v_get rfl h2 rfl ?_
    have h4 : _ = some _ := hI.2 1 (by decide)
    refine v_get rfl h4 rfl ?_
    exact v_iret rfl ⟨⟨_, rfl, trivial⟩, hI, hh⟩
  by_cases t5 : k.toInt = 1
  · refine v_tabIn (t := 60) rfl (by omega) (by omega) (by rw [t5]; rfl) rfl ?_
    refine v_aload_n rfl rfl ?_
    obtain ⟨v7, ⟨v7z, v7e⟩, h6⟩ := hI.2 0 (by decide)
    have v7z := v7z.imp i_eq.mp i_eq.mp
    rw [i_0, i_1] at v7z
    refine v_get rfl h6 rfl ?_
    have h8 : _ = some _ := hI.2 1 (by decide)
    refine v_get rfl h8 rfl ?_
    exact v_iret rfl ⟨⟨_, rfl, trivial⟩, hI, hh⟩
  by_cases t9 : k.toInt = 2
  · refine v_tabIn (t := 68) rfl (by omega) (by omega) (by rw [t9]; rfl) rfl ?_
    refine v_aload_n rfl rfl ?_
    obtain ⟨v11, ⟨v11z, v11e⟩, h10⟩ := hI.2 0 (by decide)
    have v11z := v11z.imp i_eq.mp i_eq.mp
    rw [i_0, i_1] at v11z
    refine v_get rfl h10 rfl ?_
    have h12 : _ = some _ := hI.2 27 (by decide)
    refine v_get rfl h12 rfl ?_
    exact v_iret rfl ⟨⟨_, rfl, trivial⟩, hI, hh⟩
  by_cases t13 : k.toInt = 3
  · refine v_tabIn (t := 76) rfl (by omega) (by omega) (by rw [t13]; rfl) rfl ?_
    refine v_aload_n rfl rfl ?_
    obtain ⟨v15, ⟨v15z, v15e⟩, h14⟩ := hI.2 0 (by decide)
    have v15z := v15z.imp i_eq.mp i_eq.mp
    rw [i_0, i_1] at v15z
    refine v_get rfl h14 rfl ?_
    have h16 : _ = some _ := hI.2 27 (by decide)
    refine v_get rfl h16 rfl ?_
    exact v_iret rfl ⟨⟨_, rfl, trivial⟩, hI, hh⟩
  by_cases t17 : k.toInt = 4
  · refine v_tabIn (t := 84) rfl (by omega) (by omega) (by rw [t17]; rfl) rfl ?_
    refine v_aload_n rfl rfl ?_
    obtain ⟨v19, ⟨v19z, v19e⟩, h18⟩ := hI.2 0 (by decide)
    have v19z := v19z.imp i_eq.mp i_eq.mp
    rw [i_0, i_1] at v19z
    refine v_get rfl h18 rfl ?_
    have h20 : _ = some _ := hI.2 27 (by decide)
    refine v_callV rfl (W_X9_openOrders_27  hR hI) rfl rfl h20 rfl rfl (by omega) (fun rv w21 hq22 => ?_)
    obtain ⟨⟨z23, rfl, -⟩, rfl⟩ := hq22
    exact v_iret rfl ⟨⟨_, rfl, trivial⟩, hI, hh⟩
  by_cases t24 : k.toInt = 5
  · refine v_tabIn (t := 92) rfl (by omega) (by omega) (by rw [t24]; rfl) rfl ?_
    refine v_aload_n rfl rfl ?_
    obtain ⟨v26, ⟨v26z, v26e⟩, h25⟩ := hI.2 0 (by decide)
    have v26z := v26z.imp i_eq.mp i_eq.mp
    rw [i_0, i_1] at v26z
    refine v_get rfl h25 rfl ?_
    have h27 : _ = some _ := hI.2 37 (by decide)
    refine v_get rfl h27 rfl ?_
    exact v_iret rfl ⟨⟨_, rfl, trivial⟩, hI, hh⟩
  by_cases t28 : k.toInt = 6
  · refine v_tabIn (t := 100) rfl (by omega) (by omega) (by rw [t28]; rfl) rfl ?_
    refine v_aload_n rfl rfl ?_
    obtain ⟨v30, ⟨v30z, v30e⟩, h29⟩ := hI.2 0 (by decide)
    have v30z := v30z.imp i_eq.mp i_eq.mp
    rw [i_0, i_1] at v30z
    refine v_get rfl h29 rfl ?_
    refine v_aload_n rfl rfl ?_
    refine v_get rfl h29 rfl ?_
    have h31 : _ = some _ := hI.2 27 (by decide)
    refine v_callV rfl (W_X9_paidBy_27_37  hR hI) rfl rfl h31 rfl rfl (by omega) (fun rv w32 hq33 => ?_)
    obtain ⟨⟨z34, rfl, -⟩, rfl⟩ := hq33
    exact v_iret rfl ⟨⟨_, rfl, trivial⟩, hI, hh⟩
  by_cases t35 : k.toInt = 7
  · refine v_tabIn (t := 112) rfl (by omega) (by omega) (by rw [t35]; rfl) rfl ?_
    refine v_aload_n rfl rfl ?_
    obtain ⟨v37, ⟨v37z, v37e⟩, h36⟩ := hI.2 0 (by decide)
    have v37z := v37z.imp i_eq.mp i_eq.mp
    rw [i_0, i_1] at v37z
    refine v_get rfl h36 rfl ?_
    have h38 : _ = some _ := hI.2 27 (by decide)
    refine v_get rfl h38 rfl ?_
    exact v_iret rfl ⟨⟨_, rfl, trivial⟩, hI, hh⟩
  by_cases t39 : k.toInt = 8
  · refine v_tabIn (t := 120) rfl (by omega) (by omega) (by rw [t39]; rfl) rfl ?_
    refine v_aload_n rfl rfl ?_
    obtain ⟨v41, ⟨v41z, v41e⟩, h40⟩ := hI.2 0 (by decide)
    have v41z := v41z.imp i_eq.mp i_eq.mp
    rw [i_0, i_1] at v41z
    refine v_get rfl h40 rfl ?_
    have h42 : _ = some _ := hI.2 16 (by decide)
    refine v_callV rfl (W_X5_howMany_16  hR hI) rfl rfl h42 rfl rfl (by omega) (fun rv w43 hq44 => ?_)
    obtain ⟨⟨z45, rfl, -⟩, rfl⟩ := hq44
    exact v_iret rfl ⟨⟨_, rfl, trivial⟩, hI, hh⟩
  refine v_tabOut (t := 128) rfl (by omega) rfl ?_
  refine v_aload_n rfl rfl ?_
  refine v_iload_n rfl rfl ?_
  refine v_bipush (v := 10) rfl (by decide) ?_
  refine u_isub rfl (fun z46 => ?_)
  obtain ⟨v48, ⟨v48z, v48e⟩, h47⟩ := hI.2 0 (by decide)
  have v48z := v48z.imp i_eq.mp i_eq.mp
  rw [i_0, i_1] at v48z
  refine v_callV rfl (W_X11_refusalsOf_0 z46 hR hI) rfl rfl h47 rfl rfl (by omega) (fun rv w49 hq50 => ?_)
  obtain ⟨⟨z51, rfl, -⟩, rfl⟩ := hq50
  exact v_iret rfl ⟨⟨_, rfl, trivial⟩, hI, hh⟩

