set_option maxRecDepth 100000 in
theorem W_X10_coloursOfPick_1 {sc : pm_S} {w : pm_W} {gi : Nat → Int32} {ga : Nat → List Int32} (y : Int32) (p0 : y.toInt ≤ 19) (p1 : 0 ≤ y.toInt) (hR : pm_Rg gi ga) (hI : pm_IX gi ga w) : pm_Mt sc 1 69 4 [.ref 1, .int y] w (fun rv w' => pm_wI (fun v => True) rv ∧ w = w') := by
  intro d hd
  obtain ⟨g0a, g0b⟩ := hR.n0
  obtain ⟨g1a, g1b⟩ := hR.n1
  obtain ⟨g2a, g2b⟩ := hR.n2
  obtain ⟨g3a, g3b⟩ := hR.n3
  obtain ⟨g4a, g4b⟩ := hR.n4
  obtain ⟨g5a, g5b⟩ := hR.n5
  obtain ⟨g6a, g6b⟩ := hR.n6
  obtain ⟨g7a, g7b⟩ := hR.n7
  obtain ⟨g8a, g8b⟩ := hR.n8
  have k0 : (0 : Int32).toInt = 0 := by decide
  have k1 : (1 : Int32).toInt = 1 := by decide
  show pm_V sc d 69 0 [.ref 1, .int y, .null, .null] [] w _
  refine v_iconst (v := 0) rfl (by decide) ?_
  refine v_istore_n rfl (Nat.le_of_ble_eq_true rfl) ?_
  refine v_iconst (v := 0) rfl (by decide) ?_
  refine v_istore_n rfl (Nat.le_of_ble_eq_true rfl) ?_
  have L3 : ∀ (n3 : Nat) (l1 : Int32) (l2 : Int32), 0 ≤ l2.toInt → l2.toInt ≤ 20 → (20 - l2.toInt).toNat < n3 → pm_V sc d 69 4 [.ref 1, .int y, .int l1, .int l2] [] w (fun rv w' => pm_wI (fun v => True) rv ∧ w = w') := by
    intro n3
    induction n3 with
    | zero => intro l1 l2 t5 t6 hm4; exact absurd hm4 (Nat.not_lt_zero _)
    | succ n3 ih4_3 =>
      intro l1 l2 t5 t6 hm4
      refine v_iload_n rfl rfl ?_
      refine v_aload_n rfl rfl ?_
      have h7 : _ = some _ := hI.2 1 (by decide)
      refine v_get rfl h7 rfl ?_
      refine r_icmp_ge rfl (fun t8 => ?_) (fun t8 => ?_)
      · refine v_iload_n rfl rfl ?_
        exact v_iret rfl ⟨⟨_, rfl, trivial⟩, rfl⟩
      · refine v_iload_n rfl rfl ?_
        refine v_iconst (v := 1) rfl (by decide) ?_
        refine v_aload_n rfl rfl ?_
        refine v_iload_n rfl rfl ?_
        refine v_iload_n rfl rfl ?_
        refine v_callV rfl (W_X10_colourAt_1 l2 y (by omega) (by omega) hR hI) rfl rfl h7 rfl rfl (by omega) (fun rv w9 hq10 => ?_)
        obtain ⟨⟨z11, rfl, -⟩, rfl⟩ := hq10
        refine u_ishl rfl (fun z12 => ?_)
        refine u_ior rfl (fun z13 => ?_)
        refine v_istore_n rfl (Nat.le_of_ble_eq_true rfl) ?_
        refine r_iinc rfl rfl (by decide) (by omega) (by omega) (fun z14 z14e => ?_)
        refine v_goto rfl ?_
        exact ih4_3 z13 z14 (by omega) (by omega) (by omega)
  exact L3 _ (0 : Int32) (0 : Int32) (by omega) (by omega) (Nat.lt_add_one _)
set_option maxRecDepth 100000 in
theorem W_X8_readColumns_3_1 {sc : pm_S} {w w0 : pm_W} {gi : Nat → Int32} {ga : Nat → List Int32}   (hR : pm_Rg gi ga) (hI : pm_IX gi ga w) (hh : pm_hi w0 w) : pm_Mt sc 1 47 6 [.ref 3, .ref 1] w (fun rv w' => rv = none ∧ pm_IX gi ga w' ∧ pm_hi w0 w') := by
  intro d hd
  obtain ⟨g0a, g0b⟩ := hR.n0
  obtain ⟨g1a, g1b⟩ := hR.n1
  obtain ⟨g2a, g2b⟩ := hR.n2
  obtain ⟨g3a, g3b⟩ := hR.n3
  obtain ⟨g4a, g4b⟩ := hR.n4
  obtain ⟨g5a, g5b⟩ := hR.n5
  obtain ⟨g6a, g6b⟩ := hR.n6
  obtain ⟨g7a, g7b⟩ := hR.n7
  obtain ⟨g8a, g8b⟩ := hR.n8
  have k0 : (0 : Int32).toInt = 0 := by decide
  have k2 : (2 : Int32).toInt = 2 := by decide
  show pm_V sc d 47 0 [.ref 3, .ref 1, .null, .null, .null, .null] [] w _
  refine v_aload_n rfl rfl ?_
  refine v_aload_n rfl rfl ?_
  have h1 : _ = some _ := hI.2 1 (by decide)
  refine v_get rfl h1 rfl ?_
  obtain ⟨v3, ⟨v3a, v3b⟩, h2⟩ := hI.2 3 (by decide)
  refine v_put rfl h2 rfl (Nat.le_of_ble_eq_true rfl) ?_
  refine r_gen (w' := w.set 3 (.inr (8, [.int (gi 0), .ref 4]))) (fun w4 e5 => ?_)
  have hI6 : pm_IX gi ga w4 := by rw [e5]; exact hI.set 3 (by decide) ⟨(gi 0), ⟨by omega, by omega⟩, rfl⟩
  have hh7 : pm_hi w0 w4 := by rw [e5]; exact hh.set (by decide) _
  have h8 := r_get_ne e5 (show 3 ≠ 1 by decide) h1
  have h9 := r_get_eq e5 h2
  refine v_iconst (v := 0) rfl (by decide) ?_
  refine v_istore_n rfl (Nat.le_of_ble_eq_true rfl) ?_
  have L17 : ∀ (n17 : Nat) (l10 : Int32) (u11 : Value) (u12 : Value) (u13 : Value) (w14 : pm_W), pm_IX gi ga w14 → pm_hi w0 w14 → 0 ≤ l10.toInt → l10.toInt ≤ 20 → (20 - l10.toInt).toNat < n17 → pm_V sc d 47 10 [.ref 3, .ref 1, .int l10, u11, u12, u13] [] w14 (fun rv w' => rv = none ∧ pm_IX gi ga w' ∧ pm_hi w0 w') := by
    intro n17
    induction n17 with
    | zero => intro l10 u11 u12 u13 w14 hI15 hh16 t19 t20 hm18; exact absurd hm18 (Nat.not_lt_zero _)
    | succ n17 ih10_17 =>
      intro l10 u11 u12 u13 w14 hI15 hh16 t19 t20 hm18
      refine v_iload_n rfl rfl ?_
      refine v_aload_n rfl rfl ?_
      obtain ⟨v22, ⟨v22a, v22b⟩, h21⟩ := hI15.2 3 (by decide)
      refine v_get rfl h21 rfl ?_
      refine r_icmp_ge rfl (fun t23 => ?_) (fun t23 => ?_)
      · exact v_ret rfl ⟨rfl, hI15, hh16⟩
      · refine v_lconst (v := 0) rfl (by decide) ?_
        refine v_lstore_n rfl (Nat.le_of_ble_eq_true rfl) ?_
        refine v_iconst (v := 0) rfl (by decide) ?_
        refine v_istore rfl (Nat.le_of_ble_eq_true rfl) ?_
        have L27 : ∀ (n27 : Nat) (j24 : Int64) (u25 : Value) (l26 : Int32), 0 ≤ l26.toInt → l26.toInt ≤ 20 → (20 - l26.toInt).toNat < n27 → pm_V sc d 47 23 [.ref 3, .ref 1, .int l10, .long j24, u25, .int l26] [] w14 (fun rv w' => rv = none ∧ pm_IX gi ga w' ∧ pm_hi w0 w') := by
          intro n27
          induction n27 with
          | zero => intro j24 u25 l26 t29 t30 hm28; exact absurd hm28 (Nat.not_lt_zero _)
          | succ n27 ih23_27 =>
            intro j24 u25 l26 t29 t30 hm28
            refine v_iload rfl rfl ?_
            refine v_aload_n rfl rfl ?_
            have h31 : _ = some _ := hI15.2 1 (by decide)
            refine v_get rfl h31 rfl ?_
            refine r_icmp_ge rfl (fun t32 => ?_) (fun t32 => ?_)
            · refine v_aload_n rfl rfl ?_
              refine v_get rfl h21 rfl ?_
              refine v_iload_n rfl rfl ?_
              refine v_lload_n rfl rfl ?_
              obtain ⟨xs34, xs34l, h33⟩ := hI15.2 4 (by decide)
              refine r_lastore rfl h33 xs34l (by omega) (by omega) (fun ys35 ys35l => ?_)
              refine r_gen (w' := w14.set 4 (.inl (2, .inr (.inl ys35)))) (fun w36 e37 => ?_)
              have hI38 : pm_IX gi ga w36 := by rw [e37]; exact hI15.set 4 (by decide) ⟨ys35, ys35l, rfl⟩
              have hh39 : pm_hi w0 w36 := by rw [e37]; exact hh16.set (by decide) _
              have h40 := r_get_ne e37 (show 4 ≠ 3 by decide) h21
              have h41 := r_get_ne e37 (show 4 ≠ 1 by decide) h31
              have h42 := r_get_eq e37 h33
              refine r_iinc rfl rfl (by decide) (by omega) (by omega) (fun z43 z43e => ?_)
              refine v_goto rfl ?_
              exact ih10_17 z43 (.long j24) (u25) (.int l26) w36 hI38 hh39 (by omega) (by omega) (by omega)
            · refine v_lload_n rfl rfl ?_
              refine v_aload_n rfl rfl ?_
              refine v_iload_n rfl rfl ?_
              refine v_iload rfl rfl ?_
              refine v_callV rfl (W_X10_colourAt_1 l10 l26 (by omega) (by omega) hR hI15) rfl rfl h31 rfl rfl (by omega) (fun rv w44 hq45 => ?_)
              obtain ⟨⟨z46, rfl, -⟩, rfl⟩ := hq45
              refine u_i2l rfl (fun z47 => ?_)
              refine v_iconst (v := 2) rfl (by decide) ?_
              refine v_iload rfl rfl ?_
              refine r_imulL 2 rfl rfl (by omega) (by omega) (fun z48 z48e => ?_)
              refine u_lshl rfl (fun z49 => ?_)
              refine u_lor rfl (fun z50 => ?_)
              refine v_lstore_n rfl (Nat.le_of_ble_eq_true rfl) ?_
              refine r_iinc rfl rfl (by decide) (by omega) (by omega) (fun z51 z51e => ?_)
              refine v_goto rfl ?_
              exact ih23_27 z50 (.null) z51 (by omega) (by omega) (by omega)
        exact L27 _ (0 : Int64) (.null) (0 : Int32) (by omega) (by omega) (Nat.lt_add_one _)
  exact L17 _ (0 : Int32) (.null) (.null) (.null) w4 hI6 hh7 (by omega) (by omega) (Nat.lt_add_one _)
set_option maxRecDepth 100000 in
theorem W_X8_readColumns_6_1 {sc : pm_S} {w w0 : pm_W} {gi : Nat → Int32} {ga : Nat → List Int32}   (hR : pm_Rg gi ga) (hI : pm_IX gi ga w) (hh : pm_hi w0 w) : pm_Mt sc 1 47 6 [.ref 6, .ref 1] w (fun rv w' => rv = none ∧ pm_IX gi ga w' ∧ pm_hi w0 w') := by
  intro d hd
  obtain ⟨g0a, g0b⟩ := hR.n0
  obtain ⟨g1a, g1b⟩ := hR.n1
  obtain ⟨g2a, g2b⟩ := hR.n2
  obtain ⟨g3a, g3b⟩ := hR.n3
  obtain ⟨g4a, g4b⟩ := hR.n4
  obtain ⟨g5a, g5b⟩ := hR.n5
  obtain ⟨g6a, g6b⟩ := hR.n6
  obtain ⟨g7a, g7b⟩ := hR.n7
  obtain ⟨g8a, g8b⟩ := hR.n8
  have k0 : (0 : Int32).toInt = 0 := by decide
  have k2 : (2 : Int32).toInt = 2 := by decide
  show pm_V sc d 47 0 [.ref 6, .ref 1, .null, .null, .null, .null] [] w _
  refine v_aload_n rfl rfl ?_
  refine v_aload_n rfl rfl ?_
  have h1 : _ = some _ := hI.2 1 (by decide)
  refine v_get rfl h1 rfl ?_
  obtain ⟨v3, ⟨v3a, v3b⟩, h2⟩ := hI.2 6 (by decide)
  refine v_put rfl h2 rfl (Nat.le_of_ble_eq_true rfl) ?_
  refine r_gen (w' := w.set 6 (.inr (8, [.int (gi 0), .ref 7]))) (fun w4 e5 => ?_)
  have hI6 : pm_IX gi ga w4 := by rw [e5]; exact hI.set 6 (by decide) ⟨(gi 0), ⟨by omega, by omega⟩, rfl⟩
  have hh7 : pm_hi w0 w4 := by rw [e5]; exact hh.set (by decide) _
  have h8 := r_get_ne e5 (show 6 ≠ 1 by decide) h1
  have h9 := r_get_eq e5 h2
  refine v_iconst (v := 0) rfl (by decide) ?_
  refine v_istore_n rfl (Nat.le_of_ble_eq_true rfl) ?_
  have L17 : ∀ (n17 : Nat) (l10 : Int32) (u11 : Value) (u12 : Value) (u13 : Value) (w14 : pm_W), pm_IX gi ga w14 → pm_hi w0 w14 → 0 ≤ l10.toInt → l10.toInt ≤ 20 → (20 - l10.toInt).toNat < n17 → pm_V sc d 47 10 [.ref 6, .ref 1, .int l10, u11, u12, u13] [] w14 (fun rv w' => rv = none ∧ pm_IX gi ga w' ∧ pm_hi w0 w') := by
    intro n17
    induction n17 with
    | zero => intro l10 u11 u12 u13 w14 hI15 hh16 t19 t20 hm18; exact absurd hm18 (Nat.not_lt_zero _)
    | succ n17 ih10_17 =>
      intro l10 u11 u12 u13 w14 hI15 hh16 t19 t20 hm18
      refine v_iload_n rfl rfl ?_
      refine v_aload_n rfl rfl ?_
      obtain ⟨v22, ⟨v22a, v22b⟩, h21⟩ := hI15.2 6 (by decide)
      refine v_get rfl h21 rfl ?_
      refine r_icmp_ge rfl (fun t23 => ?_) (fun t23 => ?_)
      · exact v_ret rfl ⟨rfl, hI15, hh16⟩
      · refine v_lconst (v := 0) rfl (by decide) ?_
        refine v_lstore_n rfl (Nat.le_of_ble_eq_true rfl) ?_
        refine v_iconst (v := 0) rfl (by decide) ?_
        refine v_istore rfl (Nat.le_of_ble_eq_true rfl) ?_
        have L27 : ∀ (n27 : Nat) (j24 : Int64) (u25 : Value) (l26 : Int32), 0 ≤ l26.toInt → l26.toInt ≤ 20 → (20 - l26.toInt).toNat < n27 → pm_V sc d 47 23 [.ref 6, .ref 1, .int l10, .long j24, u25, .int l26] [] w14 (fun rv w' => rv = none ∧ pm_IX gi ga w' ∧ pm_hi w0 w') := by
          intro n27
          induction n27 with
          | zero => intro j24 u25 l26 t29 t30 hm28; exact absurd hm28 (Nat.not_lt_zero _)
          | succ n27 ih23_27 =>
            intro j24 u25 l26 t29 t30 hm28
            refine v_iload rfl rfl ?_
            refine v_aload_n rfl rfl ?_
            have h31 : _ = some _ := hI15.2 1 (by decide)
            refine v_get rfl h31 rfl ?_
            refine r_icmp_ge rfl (fun t32 => ?_) (fun t32 => ?_)
            · refine v_aload_n rfl rfl ?_
              refine v_get rfl h21 rfl ?_
              refine v_iload_n rfl rfl ?_
              refine v_lload_n rfl rfl ?_
              obtain ⟨xs34, xs34l, h33⟩ := hI15.2 7 (by decide)
              refine r_lastore rfl h33 xs34l (by omega) (by omega) (fun ys35 ys35l => ?_)
              refine r_gen (w' := w14.set 7 (.inl (2, .inr (.inl ys35)))) (fun w36 e37 => ?_)
              have hI38 : pm_IX gi ga w36 := by rw [e37]; exact hI15.set 7 (by decide) ⟨ys35, ys35l, rfl⟩
              have hh39 : pm_hi w0 w36 := by rw [e37]; exact hh16.set (by decide) _
              have h40 := r_get_ne e37 (show 7 ≠ 6 by decide) h21
              have h41 := r_get_ne e37 (show 7 ≠ 1 by decide) h31
              have h42 := r_get_eq e37 h33
              refine r_iinc rfl rfl (by decide) (by omega) (by omega) (fun z43 z43e => ?_)
              refine v_goto rfl ?_
              exact ih10_17 z43 (.long j24) (u25) (.int l26) w36 hI38 hh39 (by omega) (by omega) (by omega)
            · refine v_lload_n rfl rfl ?_
              refine v_aload_n rfl rfl ?_
              refine v_iload_n rfl rfl ?_
              refine v_iload rfl rfl ?_
              refine v_callV rfl (W_X10_colourAt_1 l10 l26 (by omega) (by omega) hR hI15) rfl rfl h31 rfl rfl (by omega) (fun rv w44 hq45 => ?_)
              obtain ⟨⟨z46, rfl, -⟩, rfl⟩ := hq45
              refine u_i2l rfl (fun z47 => ?_)
              refine v_iconst (v := 2) rfl (by decide) ?_
              refine v_iload rfl rfl ?_
              refine r_imulL 2 rfl rfl (by omega) (by omega) (fun z48 z48e => ?_)
              refine u_lshl rfl (fun z49 => ?_)
              refine u_lor rfl (fun z50 => ?_)
              refine v_lstore_n rfl (Nat.le_of_ble_eq_true rfl) ?_
              refine r_iinc rfl rfl (by decide) (by omega) (by omega) (fun z51 z51e => ?_)
              refine v_goto rfl ?_
              exact ih23_27 z50 (.null) z51 (by omega) (by omega) (by omega)
        exact L27 _ (0 : Int64) (.null) (0 : Int32) (by omega) (by omega) (Nat.lt_add_one _)
  exact L17 _ (0 : Int32) (.null) (.null) (.null) w4 hI6 hh7 (by omega) (by omega) (Nat.lt_add_one _)
set_option maxRecDepth 100000 in
theorem W_X8_readColumns_25_14 {sc : pm_S} {w w0 : pm_W} {gi : Nat → Int32} {ga : Nat → List Int32} (c14_0 : Int32) (c14_1 : Int32) (p0 : 1 ≤ c14_0.toInt) (p1 : c14_0.toInt ≤ 20) (p2 : 1 ≤ c14_1.toInt) (p3 : c14_1.toInt ≤ 20) (hc14 : w[14]? = some (.inr (10, [.int c14_0, .int c14_1, .ref 15]))) (hR : pm_Rg gi ga) (hI : pm_IX gi ga w) (hh : pm_hi w0 w) : pm_Mt sc 1 47 6 [.ref 25, .ref 14] w (fun rv w' => rv = none ∧ pm_IX gi ga w' ∧ pm_hi w0 w') := by
  intro d hd
  obtain ⟨g0a, g0b⟩ := hR.n0
  obtain ⟨g1a, g1b⟩ := hR.n1
  obtain ⟨g2a, g2b⟩ := hR.n2
  obtain ⟨g3a, g3b⟩ := hR.n3
  obtain ⟨g4a, g4b⟩ := hR.n4
  obtain ⟨g5a, g5b⟩ := hR.n5
  obtain ⟨g6a, g6b⟩ := hR.n6
  obtain ⟨g7a, g7b⟩ := hR.n7
  obtain ⟨g8a, g8b⟩ := hR.n8
  have k0 : (0 : Int32).toInt = 0 := by decide
  have k2 : (2 : Int32).toInt = 2 := by decide
  show pm_V sc d 47 0 [.ref 25, .ref 14, .null, .null, .null, .null] [] w _
  refine v_aload_n rfl rfl ?_
  refine v_aload_n rfl rfl ?_
  refine v_get rfl hc14 rfl ?_
  obtain ⟨v2, ⟨v2a, v2b⟩, h1⟩ := hI.2 25 (by decide)
  refine v_put rfl h1 rfl (Nat.le_of_ble_eq_true rfl) ?_
  refine r_gen (w' := w.set 25 (.inr (8, [.int c14_0, .ref 26]))) (fun w3 e4 => ?_)
  have hI5 : pm_IX gi ga w3 := by rw [e4]; exact hI.set 25 (by decide) ⟨c14_0, ⟨by omega, by omega⟩, rfl⟩
  have hh6 : pm_hi w0 w3 := by rw [e4]; exact hh.set (by decide) _
  have h7 := r_get_ne e4 (show 25 ≠ 14 by decide) hc14
  have h8 := r_get_eq e4 h1
  refine v_iconst (v := 0) rfl (by decide) ?_
  refine v_istore_n rfl (Nat.le_of_ble_eq_true rfl) ?_
  have L16 : ∀ (n16 : Nat) (l9 : Int32) (u10 : Value) (u11 : Value) (u12 : Value) (w13 : pm_W), pm_IX gi ga w13 → pm_hi w0 w13 → 0 ≤ l9.toInt → l9.toInt ≤ 20 → (20 - l9.toInt).toNat < n16 → pm_V sc d 47 10 [.ref 25, .ref 14, .int l9, u10, u11, u12] [] w13 (fun rv w' => rv = none ∧ pm_IX gi ga w' ∧ pm_hi w0 w') := by
    intro n16
    induction n16 with
    | zero => intro l9 u10 u11 u12 w13 hI14 hh15 t18 t19 hm17; exact absurd hm17 (Nat.not_lt_zero _)
    | succ n16 ih10_16 =>
      intro l9 u10 u11 u12 w13 hI14 hh15 t18 t19 hm17
      refine v_iload_n rfl rfl ?_
      refine v_aload_n rfl rfl ?_
      obtain ⟨v21, ⟨v21a, v21b⟩, h20⟩ := hI14.2 25 (by decide)
      refine v_get rfl h20 rfl ?_
      refine r_icmp_ge rfl (fun t22 => ?_) (fun t22 => ?_)
      · exact v_ret rfl ⟨rfl, hI14, hh15⟩
      · refine v_lconst (v := 0) rfl (by decide) ?_
        refine v_lstore_n rfl (Nat.le_of_ble_eq_true rfl) ?_
        refine v_iconst (v := 0) rfl (by decide) ?_
        refine v_istore rfl (Nat.le_of_ble_eq_true rfl) ?_
        have L26 : ∀ (n26 : Nat) (j23 : Int64) (u24 : Value) (l25 : Int32), 0 ≤ l25.toInt → l25.toInt ≤ 20 → (20 - l25.toInt).toNat < n26 → pm_V sc d 47 23 [.ref 25, .ref 14, .int l9, .long j23, u24, .int l25] [] w13 (fun rv w' => rv = none ∧ pm_IX gi ga w' ∧ pm_hi w0 w') := by
          intro n26
          induction n26 with
          | zero => intro j23 u24 l25 t28 t29 hm27; exact absurd hm27 (Nat.not_lt_zero _)
          | succ n26 ih23_26 =>
            intro j23 u24 l25 t28 t29 hm27
            refine v_iload rfl rfl ?_
            refine v_aload_n rfl rfl ?_
            obtain ⟨v31, v32, ⟨⟨v31a, v31b⟩, v31e⟩, ⟨⟨v32a, v32b⟩, v32e⟩, h30⟩ := hI14.2 14 (by decide)
            refine v_get rfl h30 rfl ?_
            refine r_icmp_ge rfl (fun t33 => ?_) (fun t33 => ?_)
            · refine v_aload_n rfl rfl ?_
              refine v_get rfl h20 rfl ?_
              refine v_iload_n rfl rfl ?_
              refine v_lload_n rfl rfl ?_
              obtain ⟨xs35, xs35l, h34⟩ := hI14.2 26 (by decide)
              refine r_lastore rfl h34 xs35l (by omega) (by omega) (fun ys36 ys36l => ?_)
              refine r_gen (w' := w13.set 26 (.inl (2, .inr (.inl ys36)))) (fun w37 e38 => ?_)
              have hI39 : pm_IX gi ga w37 := by rw [e38]; exact hI14.set 26 (by decide) ⟨ys36, ys36l, rfl⟩
              have hh40 : pm_hi w0 w37 := by rw [e38]; exact hh15.set (by decide) _
              have h41 := r_get_ne e38 (show 26 ≠ 25 by decide) h20
              have h42 := r_get_ne e38 (show 26 ≠ 14 by decide) h30
              have h43 := r_get_eq e38 h34
              refine r_iinc rfl rfl (by decide) (by omega) (by omega) (fun z44 z44e => ?_)
              refine v_goto rfl ?_
              exact ih10_16 z44 (.long j23) (u24) (.int l25) w37 hI39 hh40 (by omega) (by omega) (by omega)
            · refine v_lload_n rfl rfl ?_
              refine v_aload_n rfl rfl ?_
              refine v_iload_n rfl rfl ?_
              refine v_iload rfl rfl ?_
              refine v_callV rfl (W_X10_colourAt_14 l9 l25 (by omega) (by omega) hR hI14) rfl rfl h30 rfl rfl (by omega) (fun rv w45 hq46 => ?_)
              obtain ⟨⟨z47, rfl, -⟩, rfl⟩ := hq46
              refine u_i2l rfl (fun z48 => ?_)
              refine v_iconst (v := 2) rfl (by decide) ?_
              refine v_iload rfl rfl ?_
              refine r_imulL 2 rfl rfl (by omega) (by omega) (fun z49 z49e => ?_)
              refine u_lshl rfl (fun z50 => ?_)
              refine u_lor rfl (fun z51 => ?_)
              refine v_lstore_n rfl (Nat.le_of_ble_eq_true rfl) ?_
              refine r_iinc rfl rfl (by decide) (by omega) (by omega) (fun z52 z52e => ?_)
              refine v_goto rfl ?_
              exact ih23_26 z51 (.null) z52 (by omega) (by omega) (by omega)
        exact L26 _ (0 : Int64) (.null) (0 : Int32) (by omega) (by omega) (Nat.lt_add_one _)
  exact L16 _ (0 : Int32) (.null) (.null) (.null) w3 hI5 hh6 (by omega) (by omega) (Nat.lt_add_one _)
set_option maxRecDepth 100000 in
theorem W_X8_readRows_3_1 {sc : pm_S} {w w0 : pm_W} {gi : Nat → Int32} {ga : Nat → List Int32}   (hR : pm_Rg gi ga) (hI : pm_IX gi ga w) (hh : pm_hi w0 w) : pm_Mt sc 1 48 2 [.ref 3, .ref 1] w (fun rv w' => rv = none ∧ pm_IX gi ga w' ∧ pm_hi w0 w') := by
  intro d hd
  obtain ⟨g0a, g0b⟩ := hR.n0
  obtain ⟨g1a, g1b⟩ := hR.n1
  obtain ⟨g2a, g2b⟩ := hR.n2
  obtain ⟨g3a, g3b⟩ := hR.n3
  obtain ⟨g4a, g4b⟩ := hR.n4
  obtain ⟨g5a, g5b⟩ := hR.n5
  obtain ⟨g6a, g6b⟩ := hR.n6
  obtain ⟨g7a, g7b⟩ := hR.n7
  obtain ⟨g8a, g8b⟩ := hR.n8
  have k0 : (0 : Int32).toInt = 0 := by decide
  show pm_V sc d 48 0 [.ref 3, .ref 1] [] w _
  refine v_aload_n rfl rfl ?_
  refine v_aload_n rfl rfl ?_
  have h1 : _ = some _ := hI.2 1 (by decide)
  refine v_get rfl h1 rfl ?_
  obtain ⟨v3, ⟨v3a, v3b⟩, h2⟩ := hI.2 3 (by decide)
  refine v_put rfl h2 rfl (Nat.le_of_ble_eq_true rfl) ?_
  refine r_gen (w' := w.set 3 (.inr (8, [.int (gi 1), .ref 4]))) (fun w4 e5 => ?_)
  have hI6 : pm_IX gi ga w4 := by rw [e5]; exact hI.set 3 (by decide) ⟨(gi 1), ⟨by omega, by omega⟩, rfl⟩
  have hh7 : pm_hi w0 w4 := by rw [e5]; exact hh.set (by decide) _
  have h8 := r_get_ne e5 (show 3 ≠ 1 by decide) h1
  have h9 := r_get_eq e5 h2
  refine v_aload_n rfl rfl ?_
  refine v_get rfl h8 rfl ?_
  refine v_iconst (v := 0) rfl (by decide) ?_
  refine v_aload_n rfl rfl ?_
  refine v_get rfl h9 rfl ?_
  refine v_iconst (v := 0) rfl (by decide) ?_
  refine v_aload_n rfl rfl ?_
  refine v_get rfl h9 rfl ?_
  obtain ⟨sq11l, sq11r, h10⟩ := hI6.2 2 (by decide)
  obtain ⟨xs13, xs13l, h12⟩ := hI6.2 4 (by decide)
  refine r_copyl rfl (by omega) (by omega) (by omega) (by omega) rfl rfl h10 h12 pm_enc_len xs13l (by omega) (by omega) (fun ys14 ys14l => ?_)
  refine r_gen (w' := w4.set 4 (.inl (2, .inr (.inl ys14)))) (fun w15 e16 => ?_)
  have hI17 : pm_IX gi ga w15 := by rw [e16]; exact hI6.set 4 (by decide) ⟨ys14, ys14l, rfl⟩
  have hh18 : pm_hi w0 w15 := by rw [e16]; exact hh7.set (by decide) _
  have h19 := r_get_ne e16 (show 4 ≠ 1 by decide) h8
  have h20 := r_get_ne e16 (show 4 ≠ 3 by decide) h9
  have h21 := r_get_ne e16 (show 4 ≠ 2 by decide) h10
  have h22 := r_get_eq e16 h12
  exact v_ret rfl ⟨rfl, hI17, hh18⟩
set_option maxRecDepth 100000 in
theorem W_X8_repeatsBy_3 {sc : pm_S} {w : pm_W} {gi : Nat → Int32} {ga : Nat → List Int32} (b : Int32) (c3_0 : Int32) (p0 : b.toInt ≤ 20) (p1 : 0 ≤ b.toInt) (p2 : b.toInt < c3_0.toInt) (p3 : 0 ≤ c3_0.toInt) (p4 : c3_0.toInt ≤ 20) (hc3 : w[3]? = some (.inr (8, [.int c3_0, .ref 4]))) (hR : pm_Rg gi ga) (hI : pm_IX gi ga w) : pm_Mt sc 1 51 3 [.ref 3, .int b] w (fun rv w' => pm_wI (fun v => True) rv ∧ w = w') := by
  intro d hd
  obtain ⟨g0a, g0b⟩ := hR.n0
  obtain ⟨g1a, g1b⟩ := hR.n1
  obtain ⟨g2a, g2b⟩ := hR.n2
  obtain ⟨g3a, g3b⟩ := hR.n3
  obtain ⟨g4a, g4b⟩ := hR.n4
  obtain ⟨g5a, g5b⟩ := hR.n5
  obtain ⟨g6a, g6b⟩ := hR.n6
  obtain ⟨g7a, g7b⟩ := hR.n7
  obtain ⟨g8a, g8b⟩ := hR.n8
  have k0 : (0 : Int32).toInt = 0 := by decide
  have k1 : (1 : Int32).toInt = 1 := by decide
  show pm_V sc d 51 0 [.ref 3, .int b, .null] [] w _
  refine v_iconst (v := 0) rfl (by decide) ?_
  refine v_istore_n rfl (Nat.le_of_ble_eq_true rfl) ?_
  have L2 : ∀ (n2 : Nat) (l1 : Int32), 0 ≤ l1.toInt → l1.toInt ≤ 20 → (20 - l1.toInt).toNat < n2 → pm_V sc d 51 2 [.ref 3, .int b, .int l1] [] w (fun rv w' => pm_wI (fun v => True) rv ∧ w = w') := by
    intro n2
    induction n2 with
    | zero => intro l1 t4 t5 hm3; exact absurd hm3 (Nat.not_lt_zero _)
    | succ n2 ih2_2 =>
      intro l1 t4 t5 hm3
      refine v_iload_n rfl rfl ?_
      refine v_aload_n rfl rfl ?_
      refine v_get rfl hc3 rfl ?_
      refine r_icmp_ge rfl (fun t6 => ?_) (fun t6 => ?_)
      · refine v_iconst (v := 1) rfl (by decide) ?_
        exact r_zret rfl (by omega) ⟨⟨_, rfl, trivial⟩, rfl⟩
      · refine v_aload_n rfl rfl ?_
        refine v_get rfl hc3 rfl ?_
        refine v_iload_n rfl rfl ?_
        obtain ⟨xs8, xs8l, h7⟩ := hI.2 4 (by decide)
        refine r_laload rfl h7 xs8l (by omega) (by omega) (fun z9 => ?_)
        refine v_aload_n rfl rfl ?_
        refine v_get rfl hc3 rfl ?_
        refine v_iload_n rfl rfl ?_
        refine v_iload_n rfl rfl ?_
        refine r_iadd rfl (by omega) (by omega) (fun z10 z10e => ?_)
        refine v_aload_n rfl rfl ?_
        refine v_get rfl hc3 rfl ?_
        refine v_callS rfl (W_X11_around z10 c3_0 (by omega) (by omega) (by omega) (by omega) (by omega) (by omega) hR hI) rfl rfl rfl rfl rfl (by omega) (fun rv w11 hq12 => ?_)
        obtain ⟨⟨z13, rfl, z13p0, z13p1⟩, rfl⟩ := hq12
        refine r_laload rfl h7 xs8l (by omega) (by omega) (fun z14 => ?_)
        refine u_lcmp rfl (fun z15 => ?_)
        refine r_if_eq rfl (fun t16 => ?_) (fun t16 => ?_)
        · refine r_iinc rfl rfl (by decide) (by omega) (by omega) (fun z17 z17e => ?_)
          refine v_goto rfl ?_
          exact ih2_2 z17 (by omega) (by omega) (by omega)
        · refine v_iconst (v := 0) rfl (by decide) ?_
          exact r_zret rfl (by omega) ⟨⟨_, rfl, trivial⟩, rfl⟩
  exact L2 _ (0 : Int32) (by omega) (by omega) (Nat.lt_add_one _)
set_option maxRecDepth 100000 in
theorem W_X8_mirrorsAt_3 {sc : pm_S} {w : pm_W} {gi : Nat → Int32} {ga : Nat → List Int32} (b : Int32) (c3_0 : Int32) (p0 : b.toInt ≤ 20) (p1 : 0 ≤ b.toInt) (p2 : b.toInt < c3_0.toInt) (p3 : 0 ≤ c3_0.toInt) (p4 : c3_0.toInt ≤ 20) (hc3 : w[3]? = some (.inr (8, [.int c3_0, .ref 4]))) (hR : pm_Rg gi ga) (hI : pm_IX gi ga w) : pm_Mt sc 1 52 3 [.ref 3, .int b] w (fun rv w' => pm_wI (fun v => True) rv ∧ w = w') := by
  intro d hd
  obtain ⟨g0a, g0b⟩ := hR.n0
  obtain ⟨g1a, g1b⟩ := hR.n1
  obtain ⟨g2a, g2b⟩ := hR.n2
  obtain ⟨g3a, g3b⟩ := hR.n3
  obtain ⟨g4a, g4b⟩ := hR.n4
  obtain ⟨g5a, g5b⟩ := hR.n5
  obtain ⟨g6a, g6b⟩ := hR.n6
  obtain ⟨g7a, g7b⟩ := hR.n7
  obtain ⟨g8a, g8b⟩ := hR.n8
  have k0 : (0 : Int32).toInt = 0 := by decide
  have k1 : (1 : Int32).toInt = 1 := by decide
  show pm_V sc d 52 0 [.ref 3, .int b, .null] [] w _
  refine v_iconst (v := 1) rfl (by decide) ?_
  refine v_istore_n rfl (Nat.le_of_ble_eq_true rfl) ?_
  have L2 : ∀ (n2 : Nat) (l1 : Int32), 1 ≤ l1.toInt → l1.toInt ≤ 20 → (20 - l1.toInt).toNat < n2 → pm_V sc d 52 2 [.ref 3, .int b, .int l1] [] w (fun rv w' => pm_wI (fun v => True) rv ∧ w = w') := by
    intro n2
    induction n2 with
    | zero => intro l1 t4 t5 hm3; exact absurd hm3 (Nat.not_lt_zero _)
    | succ n2 ih2_2 =>
      intro l1 t4 t5 hm3
      refine v_iload_n rfl rfl ?_
      refine v_aload_n rfl rfl ?_
      refine v_get rfl hc3 rfl ?_
      refine r_icmp_ge rfl (fun t6 => ?_) (fun t6 => ?_)
      · refine v_iconst (v := 1) rfl (by decide) ?_
        exact r_zret rfl (by omega) ⟨⟨_, rfl, trivial⟩, rfl⟩
      · refine v_aload_n rfl rfl ?_
        refine v_get rfl hc3 rfl ?_
        refine v_iload_n rfl rfl ?_
        refine v_iload_n rfl rfl ?_
        refine r_isub rfl (by omega) (by omega) (fun z7 z7e => ?_)
        refine v_aload_n rfl rfl ?_
        refine v_get rfl hc3 rfl ?_
        refine v_callS rfl (W_X11_around z7 c3_0 (by omega) (by omega) (by omega) (by omega) (by omega) (by omega) hR hI) rfl rfl rfl rfl rfl (by omega) (fun rv w8 hq9 => ?_)
        obtain ⟨⟨z10, rfl, z10p0, z10p1⟩, rfl⟩ := hq9
        obtain ⟨xs12, xs12l, h11⟩ := hI.2 4 (by decide)
        refine r_laload rfl h11 xs12l (by omega) (by omega) (fun z13 => ?_)
        refine v_aload_n rfl rfl ?_
        refine v_get rfl hc3 rfl ?_
        refine v_iload_n rfl rfl ?_
        refine v_iload_n rfl rfl ?_
        refine r_iadd rfl (by omega) (by omega) (fun z14 z14e => ?_)
        refine v_aload_n rfl rfl ?_
        refine v_get rfl hc3 rfl ?_
        refine v_callS rfl (W_X11_around z14 c3_0 (by omega) (by omega) (by omega) (by omega) (by omega) (by omega) hR hI) rfl rfl rfl rfl rfl (by omega) (fun rv w15 hq16 => ?_)
        obtain ⟨⟨z17, rfl, z17p0, z17p1⟩, rfl⟩ := hq16
        refine r_laload rfl h11 xs12l (by omega) (by omega) (fun z18 => ?_)
        refine u_lcmp rfl (fun z19 => ?_)
        refine r_if_eq rfl (fun t20 => ?_) (fun t20 => ?_)
        · refine r_iinc rfl rfl (by decide) (by omega) (by omega) (fun z21 z21e => ?_)
          refine v_goto rfl ?_
          exact ih2_2 z21 (by omega) (by omega) (by omega)
        · refine v_iconst (v := 0) rfl (by decide) ?_
          exact r_zret rfl (by omega) ⟨⟨_, rfl, trivial⟩, rfl⟩
  exact L2 _ (1 : Int32) (by omega) (by omega) (Nat.lt_add_one _)
set_option maxRecDepth 100000 in
theorem W_X8_leastSpan_3 {sc : pm_S} {w : pm_W} {gi : Nat → Int32} {ga : Nat → List Int32} (c3_0 : Int32) (p0 : 0 ≤ c3_0.toInt) (p1 : c3_0.toInt ≤ 20) (hc3 : w[3]? = some (.inr (8, [.int c3_0, .ref 4]))) (hR : pm_Rg gi ga) (hI : pm_IX gi ga w) : pm_Mt sc 2 49 2 [.ref 3] w (fun rv w' => pm_wI (fun v => True) rv ∧ w = w') := by
  intro d hd
  obtain ⟨g0a, g0b⟩ := hR.n0
  obtain ⟨g1a, g1b⟩ := hR.n1
  obtain ⟨g2a, g2b⟩ := hR.n2
  obtain ⟨g3a, g3b⟩ := hR.n3
  obtain ⟨g4a, g4b⟩ := hR.n4
  obtain ⟨g5a, g5b⟩ := hR.n5
  obtain ⟨g6a, g6b⟩ := hR.n6
  obtain ⟨g7a, g7b⟩ := hR.n7
  obtain ⟨g8a, g8b⟩ := hR.n8
  have k1 : (1 : Int32).toInt = 1 := by decide
  show pm_V sc d 49 0 [.ref 3, .null] [] w _
  refine v_iconst (v := 1) rfl (by decide) ?_
  refine v_istore_n rfl (Nat.le_of_ble_eq_true rfl) ?_
  have L2 : ∀ (n2 : Nat) (l1 : Int32), 1 ≤ l1.toInt → l1.toInt ≤ 20 → (20 - l1.toInt).toNat < n2 → pm_V sc d 49 2 [.ref 3, .int l1] [] w (fun rv w' => pm_wI (fun v => True) rv ∧ w = w') := by
    intro n2
    induction n2 with
    | zero => intro l1 t4 t5 hm3; exact absurd hm3 (Nat.not_lt_zero _)
    | succ n2 ih2_2 =>
      intro l1 t4 t5 hm3
      refine v_iload_n rfl rfl ?_
      refine v_aload_n rfl rfl ?_
      refine v_get rfl hc3 rfl ?_
      refine r_icmp_ge rfl (fun t6 => ?_) (fun t6 => ?_)
      · refine v_aload_n rfl rfl ?_
        refine v_get rfl hc3 rfl ?_
        exact v_iret rfl ⟨⟨_, rfl, trivial⟩, rfl⟩
      · refine v_aload_n rfl rfl ?_
        refine v_get rfl hc3 rfl ?_
        refine v_iload_n rfl rfl ?_
        refine r_irem rfl (by omega) (by omega) (fun z7 z7m z7a z7b z7c => ?_)
        clear z7m
        refine r_if_ne rfl (fun t8 => ?_) (fun t8 => ?_)
        · refine r_iinc rfl rfl (by decide) (by omega) (by omega) (fun z9 z9e => ?_)
          refine v_goto rfl ?_
          exact ih2_2 z9 (by omega) (by omega) (by omega)
        · refine v_aload_n rfl rfl ?_
          refine v_iload_n rfl rfl ?_
          refine v_callV rfl (W_X8_repeatsBy_3 l1 c3_0 (by omega) (by omega) (by omega) (by omega) (by omega) hc3 hR hI) rfl rfl hc3 rfl rfl (by omega) (fun rv w10 hq11 => ?_)
          obtain ⟨⟨z12, rfl, -⟩, rfl⟩ := hq11
          refine r_if_eq rfl (fun t13 => ?_) (fun t13 => ?_)
          · refine r_iinc rfl rfl (by decide) (by omega) (by omega) (fun z14 z14e => ?_)
            refine v_goto rfl ?_
            exact ih2_2 z14 (by omega) (by omega) (by omega)
          · refine v_iload_n rfl rfl ?_
            exact v_iret rfl ⟨⟨_, rfl, trivial⟩, rfl⟩
  exact L2 _ (1 : Int32) (by omega) (by omega) (Nat.lt_add_one _)
set_option maxRecDepth 100000 in
theorem W_X8_leastMirror_3 {sc : pm_S} {w : pm_W} {gi : Nat → Int32} {ga : Nat → List Int32} (c3_0 : Int32) (p0 : 0 ≤ c3_0.toInt) (p1 : c3_0.toInt ≤ 20) (hc3 : w[3]? = some (.inr (8, [.int c3_0, .ref 4]))) (hR : pm_Rg gi ga) (hI : pm_IX gi ga w) : pm_Mt sc 2 50 2 [.ref 3] w (fun rv w' => pm_wI (fun v => True) rv ∧ w = w') := by
  intro d hd
  obtain ⟨g0a, g0b⟩ := hR.n0
  obtain ⟨g1a, g1b⟩ := hR.n1
  obtain ⟨g2a, g2b⟩ := hR.n2
  obtain ⟨g3a, g3b⟩ := hR.n3
  obtain ⟨g4a, g4b⟩ := hR.n4
  obtain ⟨g5a, g5b⟩ := hR.n5
  obtain ⟨g6a, g6b⟩ := hR.n6
  obtain ⟨g7a, g7b⟩ := hR.n7
  obtain ⟨g8a, g8b⟩ := hR.n8
  have km9 : (-9 : Int32).toInt = -9 := by decide
  have k0 : (0 : Int32).toInt = 0 := by decide
  show pm_V sc d 50 0 [.ref 3, .null] [] w _
  refine v_iconst (v := 0) rfl (by decide) ?_
  refine v_istore_n rfl (Nat.le_of_ble_eq_true rfl) ?_
  have L2 : ∀ (n2 : Nat) (l1 : Int32), 0 ≤ l1.toInt → l1.toInt ≤ 20 → (20 - l1.toInt).toNat < n2 → pm_V sc d 50 2 [.ref 3, .int l1] [] w (fun rv w' => pm_wI (fun v => True) rv ∧ w = w') := by
    intro n2
    induction n2 with
    | zero => intro l1 t4 t5 hm3; exact absurd hm3 (Nat.not_lt_zero _)
    | succ n2 ih2_2 =>
      intro l1 t4 t5 hm3
      refine v_iload_n rfl rfl ?_
      refine v_aload_n rfl rfl ?_
      refine v_get rfl hc3 rfl ?_
      refine r_icmp_ge rfl (fun t6 => ?_) (fun t6 => ?_)
      · refine v_bipush (v := (-9)) rfl (by decide) ?_
        exact v_iret rfl ⟨⟨_, rfl, trivial⟩, rfl⟩
      · refine v_aload_n rfl rfl ?_
        refine v_iload_n rfl rfl ?_
        refine v_callV rfl (W_X8_mirrorsAt_3 l1 c3_0 (by omega) (by omega) (by omega) (by omega) (by omega) hc3 hR hI) rfl rfl hc3 rfl rfl (by omega) (fun rv w7 hq8 => ?_)
        obtain ⟨⟨z9, rfl, -⟩, rfl⟩ := hq8
        refine r_if_eq rfl (fun t10 => ?_) (fun t10 => ?_)
        · refine r_iinc rfl rfl (by decide) (by omega) (by omega) (fun z11 z11e => ?_)
          refine v_goto rfl ?_
          exact ih2_2 z11 (by omega) (by omega) (by omega)
        · refine v_iload_n rfl rfl ?_
          exact v_iret rfl ⟨⟨_, rfl, trivial⟩, rfl⟩
  exact L2 _ (0 : Int32) (by omega) (by omega) (Nat.lt_add_one _)
set_option maxRecDepth 100000 in
theorem W_X11_readLines_0 {sc : pm_S} {w w0 : pm_W} {gi : Nat → Int32} {ga : Nat → List Int32} (k : Int32)  (hR : pm_Rg gi ga) (hI : pm_IX gi ga w) (hh : pm_hi w0 w) : pm_Mt sc 2 110 2 [.ref 0, .int k] w (fun rv w' => rv = none ∧ pm_IX gi ga w' ∧ pm_hi w0 w') := by
  intro d hd
  obtain ⟨g0a, g0b⟩ := hR.n0
  obtain ⟨g1a, g1b⟩ := hR.n1
  obtain ⟨g2a, g2b⟩ := hR.n2
  obtain ⟨g3a, g3b⟩ := hR.n3
  obtain ⟨g4a, g4b⟩ := hR.n4
  obtain ⟨g5a, g5b⟩ := hR.n5
  obtain ⟨g6a, g6b⟩ := hR.n6
  obtain ⟨g7a, g7b⟩ := hR.n7
  obtain ⟨g8a, g8b⟩ := hR.n8
  show pm_V sc d 110 0 [.ref 0, .int k] [] w _
  refine v_iload_n rfl rfl ?_
  refine r_if_ne rfl (fun t1 => ?_) (fun t1 => ?_)
  · refine v_aload_n rfl rfl ?_
    obtain ⟨v3, ⟨v3z, v3e⟩, h2⟩ := hI.2 0 (by decide)
    have v3z := v3z.imp i_eq.mp i_eq.mp
    rw [i_0, i_1] at v3z
    refine v_get rfl h2 rfl ?_
    refine v_aload_n rfl rfl ?_
    refine v_get rfl h2 rfl ?_
    obtain ⟨v5, ⟨v5a, v5b⟩, h4⟩ := hI.2 3 (by decide)
    refine v_callV rfl (W_X8_readRows_3_1  hR hI hh) rfl rfl h4 rfl rfl (by omega) (fun rv w6 hq7 => ?_)
    obtain ⟨rfl, hI9, hh10⟩ := hq7
    exact v_ret rfl ⟨rfl, hI9, hh10⟩
  · refine v_aload_n rfl rfl ?_
    obtain ⟨v12, ⟨v12z, v12e⟩, h11⟩ := hI.2 0 (by decide)
    have v12z := v12z.imp i_eq.mp i_eq.mp
    rw [i_0, i_1] at v12z
    refine v_get rfl h11 rfl ?_
    refine v_aload_n rfl rfl ?_
    refine v_get rfl h11 rfl ?_
    obtain ⟨v14, ⟨v14a, v14b⟩, h13⟩ := hI.2 3 (by decide)
    refine v_callV rfl (W_X8_readColumns_3_1  hR hI hh) rfl rfl h13 rfl rfl (by omega) (fun rv w15 hq16 => ?_)
    obtain ⟨rfl, hI18, hh19⟩ := hq16
    refine v_goto rfl ?_
    exact v_ret rfl ⟨rfl, hI18, hh19⟩
set_option maxRecDepth 100000 in
theorem W_X11_span_0 {sc : pm_S} {w w0 : pm_W} {gi : Nat → Int32} {ga : Nat → List Int32} (k : Int32)  (hR : pm_Rg gi ga) (hI : pm_IX gi ga w) (hh : pm_hi w0 w) : pm_Mt sc 3 75 2 [.ref 0, .int k] w (fun rv w' => pm_wI (fun v => True) rv ∧ pm_IX gi ga w' ∧ pm_hi w0 w') := by
  intro d hd
  obtain ⟨g0a, g0b⟩ := hR.n0
  obtain ⟨g1a, g1b⟩ := hR.n1
  obtain ⟨g2a, g2b⟩ := hR.n2
  obtain ⟨g3a, g3b⟩ := hR.n3
  obtain ⟨g4a, g4b⟩ := hR.n4
  obtain ⟨g5a, g5b⟩ := hR.n5
  obtain ⟨g6a, g6b⟩ := hR.n6
  obtain ⟨g7a, g7b⟩ := hR.n7
  obtain ⟨g8a, g8b⟩ := hR.n8
  have km2 : (-2 : Int32).toInt = -2 := by decide
  have k2 : (2 : Int32).toInt = 2 := by decide
  show pm_V sc d 75 0 [.ref 0, .int k] [] w _
  refine v_iload_n rfl rfl ?_
  refine v_iconst (v := 2) rfl (by decide) ?_
  refine v_callS rfl (W_X11_isPlace k (2 : Int32) hR hI) rfl rfl rfl rfl rfl (by omega) (fun rv w1 hq2 => ?_)
  obtain ⟨⟨z3, rfl, z3p0⟩, rfl⟩ := hq2
  refine r_if_ne rfl (fun t4 => ?_) (fun t4 => ?_)
  · refine v_aload_n rfl rfl ?_
    refine v_iload_n rfl rfl ?_
    obtain ⟨v6, ⟨v6z, v6e⟩, h5⟩ := hI.2 0 (by decide)
    have v6z := v6z.imp i_eq.mp i_eq.mp
    rw [i_0, i_1] at v6z
    refine v_callV rfl (W_X11_readLines_0 k hR hI hh) rfl rfl h5 rfl rfl (by omega) (fun rv w7 hq8 => ?_)
    obtain ⟨rfl, hI10, hh11⟩ := hq8
    refine v_aload_n rfl rfl ?_
    obtain ⟨v13, ⟨v13z, v13e⟩, h12⟩ := hI10.2 0 (by decide)
    have v13z := v13z.imp i_eq.mp i_eq.mp
    rw [i_0, i_1] at v13z
    refine v_get rfl h12 rfl ?_
    obtain ⟨v15, ⟨v15a, v15b⟩, h14⟩ := hI10.2 3 (by decide)
    refine v_callV rfl (W_X8_leastSpan_3 v15 (by omega) (by omega) h14 hR hI10) rfl rfl h14 rfl rfl (by omega) (fun rv w16 hq17 => ?_)
    obtain ⟨⟨z18, rfl, -⟩, rfl⟩ := hq17
    exact v_iret rfl ⟨⟨_, rfl, trivial⟩, hI10, hh11⟩
  · refine v_aload_n rfl rfl ?_
    refine v_bipush (v := (-2)) rfl (by decide) ?_
    obtain ⟨v20, ⟨v20z, v20e⟩, h19⟩ := hI.2 0 (by decide)
    have v20z := v20z.imp i_eq.mp i_eq.mp
    rw [i_0, i_1] at v20z
    refine v_callV rfl (c_X_refuse (-2 : Int32) (by unfold pm_isR; first | decide | exact Or.inl rfl) hR hI) rfl rfl h19 rfl rfl (by omega) (fun rv w21 hq22 => ?_)
    obtain ⟨rfl, hI23, hh24x⟩ := hq22
    have hI23 : pm_IX gi ga w21 := hI23
    have hh24 := hh.tr hh24x
    exact v_iret rfl ⟨⟨_, rfl, trivial⟩, hI23, hh24⟩
set_option maxRecDepth 100000 in
theorem W_X11_mirror_0 {sc : pm_S} {w w0 : pm_W} {gi : Nat → Int32} {ga : Nat → List Int32} (k : Int32)  (hR : pm_Rg gi ga) (hI : pm_IX gi ga w) (hh : pm_hi w0 w) : pm_Mt sc 3 76 2 [.ref 0, .int k] w (fun rv w' => pm_wI (fun v => True) rv ∧ pm_IX gi ga w' ∧ pm_hi w0 w') := by
  intro d hd
  obtain ⟨g0a, g0b⟩ := hR.n0
  obtain ⟨g1a, g1b⟩ := hR.n1
  obtain ⟨g2a, g2b⟩ := hR.n2
  obtain ⟨g3a, g3b⟩ := hR.n3
  obtain ⟨g4a, g4b⟩ := hR.n4
  obtain ⟨g5a, g5b⟩ := hR.n5
  obtain ⟨g6a, g6b⟩ := hR.n6
  obtain ⟨g7a, g7b⟩ := hR.n7
  obtain ⟨g8a, g8b⟩ := hR.n8
  have km2 : (-2 : Int32).toInt = -2 := by decide
  have k2 : (2 : Int32).toInt = 2 := by decide
  show pm_V sc d 76 0 [.ref 0, .int k] [] w _
  refine v_iload_n rfl rfl ?_
  refine v_iconst (v := 2) rfl (by decide) ?_
  refine v_callS rfl (W_X11_isPlace k (2 : Int32) hR hI) rfl rfl rfl rfl rfl (by omega) (fun rv w1 hq2 => ?_)
  obtain ⟨⟨z3, rfl, z3p0⟩, rfl⟩ := hq2
  refine r_if_ne rfl (fun t4 => ?_) (fun t4 => ?_)
  · refine v_aload_n rfl rfl ?_
    refine v_iload_n rfl rfl ?_
    obtain ⟨v6, ⟨v6z, v6e⟩, h5⟩ := hI.2 0 (by decide)
    have v6z := v6z.imp i_eq.mp i_eq.mp
    rw [i_0, i_1] at v6z
    refine v_callV rfl (W_X11_readLines_0 k hR hI hh) rfl rfl h5 rfl rfl (by omega) (fun rv w7 hq8 => ?_)
    obtain ⟨rfl, hI10, hh11⟩ := hq8
    refine v_aload_n rfl rfl ?_
    obtain ⟨v13, ⟨v13z, v13e⟩, h12⟩ := hI10.2 0 (by decide)
    have v13z := v13z.imp i_eq.mp i_eq.mp
    rw [i_0, i_1] at v13z
    refine v_get rfl h12 rfl ?_
    obtain ⟨v15, ⟨v15a, v15b⟩, h14⟩ := hI10.2 3 (by decide)
    refine v_callV rfl (W_X8_leastMirror_3 v15 (by omega) (by omega) h14 hR hI10) rfl rfl h14 rfl rfl (by omega) (fun rv w16 hq17 => ?_)
    obtain ⟨⟨z18, rfl, -⟩, rfl⟩ := hq17
    exact v_iret rfl ⟨⟨_, rfl, trivial⟩, hI10, hh11⟩
  · refine v_aload_n rfl rfl ?_
    refine v_bipush (v := (-2)) rfl (by decide) ?_
    obtain ⟨v20, ⟨v20z, v20e⟩, h19⟩ := hI.2 0 (by decide)
    have v20z := v20z.imp i_eq.mp i_eq.mp
    rw [i_0, i_1] at v20z
    refine v_callV rfl (c_X_refuse (-2 : Int32) (by unfold pm_isR; first | decide | exact Or.inl rfl) hR hI) rfl rfl h19 rfl rfl (by omega) (fun rv w21 hq22 => ?_)
    obtain ⟨rfl, hI23, hh24x⟩ := hq22
    have hI23 : pm_IX gi ga w21 := hI23
    have hh24 := hh.tr hh24x
    exact v_iret rfl ⟨⟨_, rfl, trivial⟩, hI23, hh24⟩
set_option maxRecDepth 100000 in
theorem W_X3_cordLike_5 {sc : pm_S} {w : pm_W} {gi : Nat → Int32} {ga : Nat → List Int32} (c : Int64) (c5_0 : Int32) (p0 : 0 ≤ c5_0.toInt) (p1 : c5_0.toInt ≤ 20) (hc5 : w[5]? = some (.inr (3, [.int c5_0, .ref 6, .ref 8, .ref 9]))) (hR : pm_Rg gi ga) (hI : pm_IX gi ga w) : pm_Mt sc 0 14 4 [.ref 5, .long c] w (fun rv w' => pm_wI (fun v => 0 ≤ v.toInt ∧ v.toInt ≤ c5_0.toInt) rv ∧ w = w') := by
  intro d hd
  obtain ⟨g0a, g0b⟩ := hR.n0
  obtain ⟨g1a, g1b⟩ := hR.n1
  obtain ⟨g2a, g2b⟩ := hR.n2
  obtain ⟨g3a, g3b⟩ := hR.n3
  obtain ⟨g4a, g4b⟩ := hR.n4
  obtain ⟨g5a, g5b⟩ := hR.n5
  obtain ⟨g6a, g6b⟩ := hR.n6
  obtain ⟨g7a, g7b⟩ := hR.n7
  obtain ⟨g8a, g8b⟩ := hR.n8
  have k0 : (0 : Int32).toInt = 0 := by decide
  show pm_V sc d 14 0 [.ref 5, .long c, .null, .null] [] w _
  refine v_iconst (v := 0) rfl (by decide) ?_
  refine v_istore_n rfl (Nat.le_of_ble_eq_true rfl) ?_
  have L2 : ∀ (n2 : Nat) (l1 : Int32), 0 ≤ l1.toInt → l1.toInt ≤ 20 → (20 - l1.toInt).toNat < n2 → pm_V sc d 14 2 [.ref 5, .long c, .null, .int l1] [] w (fun rv w' => pm_wI (fun v => 0 ≤ v.toInt ∧ v.toInt ≤ c5_0.toInt) rv ∧ w = w') := by
    intro n2
    induction n2 with
    | zero => intro l1 t4 t5 hm3; exact absurd hm3 (Nat.not_lt_zero _)
    | succ n2 ih2_2 =>
      intro l1 t4 t5 hm3
      refine v_iload_n rfl rfl ?_
      refine v_aload_n rfl rfl ?_
      refine v_get rfl hc5 rfl ?_
      refine r_icmp_ge rfl (fun t6 => ?_) (fun t6 => ?_)
      · refine v_aload_n rfl rfl ?_
        refine v_get rfl hc5 rfl ?_
        exact v_iret rfl ⟨⟨_, rfl, (by omega), (by omega)⟩, rfl⟩
      · refine v_aload_n rfl rfl ?_
        refine v_get rfl hc5 rfl ?_
        obtain ⟨v8, ⟨v8a, v8b⟩, h7⟩ := hI.2 6 (by decide)
        refine v_get rfl h7 rfl ?_
        refine v_aload_n rfl rfl ?_
        refine v_get rfl hc5 rfl ?_
        refine v_iload_n rfl rfl ?_
        obtain ⟨xs10, xs10l, xs10r, h9⟩ := hI.2 9 (by decide)
        refine r_iaload rfl h9 xs10l (by omega) (by omega) (fun z11 z11m z11g => ?_)
        obtain ⟨z11a, z11b⟩ := xs10r z11 z11m
        obtain ⟨xs13, xs13l, h12⟩ := hI.2 7 (by decide)
        refine r_laload rfl h12 xs13l (by omega) (by omega) (fun z14 => ?_)
        refine v_lload_n rfl rfl ?_
        refine u_lcmp rfl (fun z15 => ?_)
        refine r_if_ne rfl (fun t16 => ?_) (fun t16 => ?_)
        · refine r_iinc rfl rfl (by decide) (by omega) (by omega) (fun z17 z17e => ?_)
          refine v_goto rfl ?_
          exact ih2_2 z17 (by omega) (by omega) (by omega)
        · refine v_iload_n rfl rfl ?_
          exact v_iret rfl ⟨⟨_, rfl, (by omega), (by omega)⟩, rfl⟩
  exact L2 _ (0 : Int32) (by omega) (by omega) (Nat.lt_add_one _)
set_option maxRecDepth 100000 in
theorem W_X3_readFrom_5_1 {sc : pm_S} {w w0 : pm_W} {gi : Nat → Int32} {ga : Nat → List Int32}   (hR : pm_Rg gi ga) (hI : pm_IX gi ga w) (hh : pm_hi w0 w) : pm_Mt sc 2 12 4 [.ref 5, .ref 1] w (fun rv w' => rv = none ∧ pm_IX gi ga w' ∧ pm_hi w0 w') := by
  intro d hd
  obtain ⟨g0a, g0b⟩ := hR.n0
  obtain ⟨g1a, g1b⟩ := hR.n1
  obtain ⟨g2a, g2b⟩ := hR.n2
  obtain ⟨g3a, g3b⟩ := hR.n3
  obtain ⟨g4a, g4b⟩ := hR.n4
  obtain ⟨g5a, g5b⟩ := hR.n5
  obtain ⟨g6a, g6b⟩ := hR.n6
  obtain ⟨g7a, g7b⟩ := hR.n7
  obtain ⟨g8a, g8b⟩ := hR.n8
  have k0 : (0 : Int32).toInt = 0 := by decide
  have k1 : (1 : Int32).toInt = 1 := by decide
  show pm_V sc d 12 0 [.ref 5, .ref 1, .null, .null] [] w _
  refine v_aload_n rfl rfl ?_
  obtain ⟨v2, ⟨v2a, v2b⟩, h1⟩ := hI.2 5 (by decide)
  refine v_get rfl h1 rfl ?_
  refine v_aload_n rfl rfl ?_
  obtain ⟨v4, ⟨v4a, v4b⟩, h3⟩ := hI.2 6 (by decide)
  refine v_callV rfl (W_X8_readColumns_6_1  hR hI hh) rfl rfl h3 rfl rfl (by omega) (fun rv w5 hq6 => ?_)
  obtain ⟨rfl, hI8, hh9⟩ := hq6
  refine v_aload_n rfl rfl ?_
  refine v_iconst (v := 0) rfl (by decide) ?_
  obtain ⟨v11, ⟨v11a, v11b⟩, h10⟩ := hI8.2 5 (by decide)
  refine v_put rfl h10 rfl (Nat.le_of_ble_eq_true rfl) ?_
  refine r_gen (w' := w5.set 5 (.inr (3, [.int (0 : Int32), .ref 6, .ref 8, .ref 9]))) (fun w12 e13 => ?_)
  have hI14 : pm_IX gi ga w12 := by rw [e13]; exact hI8.set 5 (by decide) ⟨(0 : Int32), ⟨by omega, by omega⟩, rfl⟩
  have hh15 : pm_hi w0 w12 := by rw [e13]; exact hh9.set (by decide) _
  have h16 := r_get_eq e13 h10
  refine v_iconst (v := 0) rfl (by decide) ?_
  refine v_istore_n rfl (Nat.le_of_ble_eq_true rfl) ?_
  have L24 : ∀ (n24 : Nat) (l17 : Int32) (u18 : Value) (w19 : pm_W) (v23 : Int32), pm_IX gi ga w19 → pm_hi w0 w19 → w19[5]? = some (.inr (3, [.int v23, .ref 6, .ref 8, .ref 9])) → 0 ≤ l17.toInt → l17.toInt ≤ 20 → 0 ≤ v23.toInt → v23.toInt ≤ 20 → (v23.toInt ≤ l17.toInt) → (20 - l17.toInt).toNat < n24 → pm_V sc d 12 15 [.ref 5, .ref 1, .int l17, u18] [] w19 (fun rv w' => rv = none ∧ pm_IX gi ga w' ∧ pm_hi w0 w') := by
    intro n24
    induction n24 with
    | zero => intro l17 u18 w19 v23 hI20 hh21 h22 t26 t27 t28 t29 t30 hm25; exact absurd hm25 (Nat.not_lt_zero _)
    | succ n24 ih15_24 =>
      intro l17 u18 w19 v23 hI20 hh21 h22 t26 t27 t28 t29 t30 hm25
      refine v_iload_n rfl rfl ?_
      refine v_aload_n rfl rfl ?_
      refine v_get rfl h22 rfl ?_
      obtain ⟨v32, ⟨v32a, v32b⟩, h31⟩ := hI20.2 6 (by decide)
      refine v_get rfl h31 rfl ?_
      refine r_icmp_ge rfl (fun t33 => ?_) (fun t33 => ?_)
      · exact v_ret rfl ⟨rfl, hI20, hh21⟩
      · refine v_aload_n rfl rfl ?_
        refine v_aload_n rfl rfl ?_
        refine v_get rfl h22 rfl ?_
        refine v_get rfl h31 rfl ?_
        refine v_iload_n rfl rfl ?_
        obtain ⟨xs35, xs35l, h34⟩ := hI20.2 7 (by decide)
        refine r_laload rfl h34 xs35l (by omega) (by omega) (fun z36 => ?_)
        refine v_callV rfl (W_X3_cordLike_5 z36 v23 (by omega) (by omega) h22 hR hI20) rfl rfl h22 rfl rfl (by omega) (fun rv w37 hq38 => ?_)
        obtain ⟨⟨z39, rfl, z39p0, z39p1⟩, rfl⟩ := hq38
        refine v_istore_n rfl (Nat.le_of_ble_eq_true rfl) ?_
        refine v_iload_n rfl rfl ?_
        refine v_aload_n rfl rfl ?_
        refine v_get rfl h22 rfl ?_
        refine r_icmp_ne rfl (fun t40 => ?_) (fun t40 => ?_)
        · refine v_aload_n rfl rfl ?_
          refine v_get rfl h22 rfl ?_
          refine v_iload_n rfl rfl ?_
          refine v_iload_n rfl rfl ?_
          obtain ⟨xs42, xs42l, xs42r, h41⟩ := hI20.2 8 (by decide)
          refine r_iastore rfl h41 xs42l (by omega) (by omega) (fun ys43 ys43l ys43m ys43g => ?_)
          have ys43r := r_rng ys43m xs42r (by omega) (by omega)
          refine r_gen (w' := w19.set 8 (.inl (0, .inl ys43))) (fun w44 e45 => ?_)
          have hI46 : pm_IX gi ga w44 := by rw [e45]; exact hI20.set 8 (by decide) ⟨ys43, ys43l, ys43r, rfl⟩
          have hh47 : pm_hi w0 w44 := by rw [e45]; exact hh21.set (by decide) _
          have h48 := r_get_ne e45 (show 8 ≠ 5 by decide) h22
          have h49 := r_get_ne e45 (show 8 ≠ 6 by decide) h31
          have h50 := r_get_ne e45 (show 8 ≠ 7 by decide) h34
          have h51 := r_get_eq e45 h41
          refine r_iinc rfl rfl (by decide) (by omega) (by omega) (fun z52 z52e => ?_)
          refine v_goto rfl ?_
          exact ih15_24 z52 (.int z39) w44 v23 hI46 hh47 h48 (by omega) (by omega) (by omega) (by omega) (by omega) (by omega)
        · refine v_aload_n rfl rfl ?_
          refine v_get rfl h22 rfl ?_
          refine v_aload_n rfl rfl ?_
          refine v_get rfl h22 rfl ?_
          refine v_iload_n rfl rfl ?_
          obtain ⟨xs54, xs54l, xs54r, h53⟩ := hI20.2 9 (by decide)
          refine r_iastore rfl h53 xs54l (by omega) (by omega) (fun ys55 ys55l ys55m ys55g => ?_)
          have ys55r := r_rng ys55m xs54r (by omega) (by omega)
          refine r_gen (w' := w19.set 9 (.inl (0, .inl ys55))) (fun w56 e57 => ?_)
          have hI58 : pm_IX gi ga w56 := by rw [e57]; exact hI20.set 9 (by decide) ⟨ys55, ys55l, ys55r, rfl⟩
          have hh59 : pm_hi w0 w56 := by rw [e57]; exact hh21.set (by decide) _
          have h60 := r_get_ne e57 (show 9 ≠ 5 by decide) h22
          have h61 := r_get_ne e57 (show 9 ≠ 6 by decide) h31
          have h62 := r_get_ne e57 (show 9 ≠ 7 by decide) h34
          have h63 := r_get_eq e57 h53
          refine v_aload_n rfl rfl ?_
          refine v_dup rfl rfl ?_
          refine v_get rfl h60 rfl ?_
          refine v_iconst (v := 1) rfl (by decide) ?_
          refine r_iadd rfl (by omega) (by omega) (fun z64 z64e => ?_)
          refine v_put rfl h60 rfl (Nat.le_of_ble_eq_true rfl) ?_
          refine r_gen (w' := w56.set 5 (.inr (3, [.int z64, .ref 6, .ref 8, .ref 9]))) (fun w65 e66 => ?_)
          have hI67 : pm_IX gi ga w65 := by rw [e66]; exact hI58.set 5 (by decide) ⟨z64, ⟨by omega, by omega⟩, rfl⟩
          have hh68 : pm_hi w0 w65 := by rw [e66]; exact hh59.set (by decide) _
          have h69 := r_get_ne e66 (show 5 ≠ 6 by decide) h61
          have h70 := r_get_ne e66 (show 5 ≠ 7 by decide) h62
          have h71 := r_get_ne e66 (show 5 ≠ 9 by decide) h63
          have h72 := r_get_eq e66 h60
          refine v_aload_n rfl rfl ?_
          refine v_get rfl h72 rfl ?_
          refine v_iload_n rfl rfl ?_
          refine v_iload_n rfl rfl ?_
          obtain ⟨xs74, xs74l, xs74r, h73⟩ := hI67.2 8 (by decide)
          refine r_iastore rfl h73 xs74l (by omega) (by omega) (fun ys75 ys75l ys75m ys75g => ?_)
          have ys75r := r_rng ys75m xs74r (by omega) (by omega)
          refine r_gen (w' := w65.set 8 (.inl (0, .inl ys75))) (fun w76 e77 => ?_)
          have hI78 : pm_IX gi ga w76 := by rw [e77]; exact hI67.set 8 (by decide) ⟨ys75, ys75l, ys75r, rfl⟩
          have hh79 : pm_hi w0 w76 := by rw [e77]; exact hh68.set (by decide) _
          have h80 := r_get_ne e77 (show 8 ≠ 6 by decide) h69
          have h81 := r_get_ne e77 (show 8 ≠ 7 by decide) h70
          have h82 := r_get_ne e77 (show 8 ≠ 9 by decide) h71
          have h83 := r_get_ne e77 (show 8 ≠ 5 by decide) h72
          have h84 := r_get_eq e77 h73
          refine r_iinc rfl rfl (by decide) (by omega) (by omega) (fun z85 z85e => ?_)
          refine v_goto rfl ?_
          exact ih15_24 z85 (.int z39) w76 z64 hI78 hh79 h83 (by omega) (by omega) (by omega) (by omega) (by omega) (by omega)
  exact L24 _ (0 : Int32) (.null) w12 (0 : Int32) hI14 hh15 h16 (by omega) (by omega) (by omega) (by omega) (by omega) (Nat.lt_add_one _)
set_option maxRecDepth 100000 in
theorem W_X3_thatShow_5_1 {sc : pm_S} {w : pm_W} {gi : Nat → Int32} {ga : Nat → List Int32} (y : Int32) (c : Int32) (p0 : y.toInt ≤ 19) (p1 : 0 ≤ y.toInt) (hR : pm_Rg gi ga) (hI : pm_IX gi ga w) : pm_Mt sc 1 13 6 [.ref 5, .ref 1, .int y, .int c] w (fun rv w' => pm_wI (fun v => True) rv ∧ w = w') := by
  intro d hd
  obtain ⟨g0a, g0b⟩ := hR.n0
  obtain ⟨g1a, g1b⟩ := hR.n1
  obtain ⟨g2a, g2b⟩ := hR.n2
  obtain ⟨g3a, g3b⟩ := hR.n3
  obtain ⟨g4a, g4b⟩ := hR.n4
  obtain ⟨g5a, g5b⟩ := hR.n5
  obtain ⟨g6a, g6b⟩ := hR.n6
  obtain ⟨g7a, g7b⟩ := hR.n7
  obtain ⟨g8a, g8b⟩ := hR.n8
  have k0 : (0 : Int32).toInt = 0 := by decide
  have k1 : (1 : Int32).toInt = 1 := by decide
  show pm_V sc d 13 0 [.ref 5, .ref 1, .int y, .int c, .null, .null] [] w _
  refine v_iconst (v := 0) rfl (by decide) ?_
  refine v_istore rfl (Nat.le_of_ble_eq_true rfl) ?_
  refine v_iconst (v := 0) rfl (by decide) ?_
  refine v_istore rfl (Nat.le_of_ble_eq_true rfl) ?_
  have L3 : ∀ (n3 : Nat) (l1 : Int32) (l2 : Int32), 0 ≤ l2.toInt → l2.toInt ≤ 20 → (20 - l2.toInt).toNat < n3 → pm_V sc d 13 6 [.ref 5, .ref 1, .int y, .int c, .int l1, .int l2] [] w (fun rv w' => pm_wI (fun v => True) rv ∧ w = w') := by
    intro n3
    induction n3 with
    | zero => intro l1 l2 t5 t6 hm4; exact absurd hm4 (Nat.not_lt_zero _)
    | succ n3 ih6_3 =>
      intro l1 l2 t5 t6 hm4
      refine v_iload rfl rfl ?_
      refine v_aload_n rfl rfl ?_
      obtain ⟨v8, ⟨v8a, v8b⟩, h7⟩ := hI.2 5 (by decide)
      refine v_get rfl h7 rfl ?_
      refine r_icmp_ge rfl (fun t9 => ?_) (fun t9 => ?_)
      · refine v_iload rfl rfl ?_
        exact v_iret rfl ⟨⟨_, rfl, trivial⟩, rfl⟩
      · refine v_aload_n rfl rfl ?_
        refine v_aload_n rfl rfl ?_
        refine v_get rfl h7 rfl ?_
        refine v_iload rfl rfl ?_
        obtain ⟨xs11, xs11l, xs11r, h10⟩ := hI.2 9 (by decide)
        refine r_iaload rfl h10 xs11l (by omega) (by omega) (fun z12 z12m z12g => ?_)
        obtain ⟨z12a, z12b⟩ := xs11r z12 z12m
        refine v_iload_n rfl rfl ?_
        have h13 : _ = some _ := hI.2 1 (by decide)
        refine v_callV rfl (W_X10_colourAt_1 z12 y (by omega) (by omega) hR hI) rfl rfl h13 rfl rfl (by omega) (fun rv w14 hq15 => ?_)
        obtain ⟨⟨z16, rfl, -⟩, rfl⟩ := hq15
        refine v_iload_n rfl rfl ?_
        refine r_icmp_ne rfl (fun t17 => ?_) (fun t17 => ?_)
        · refine r_iinc rfl rfl (by decide) (by omega) (by omega) (fun z18 z18e => ?_)
          refine v_goto rfl ?_
          exact ih6_3 l1 z18 (by omega) (by omega) (by omega)
        · refine v_iload rfl rfl ?_
          refine v_iconst (v := 1) rfl (by decide) ?_
          refine v_iload rfl rfl ?_
          refine u_ishl rfl (fun z19 => ?_)
          refine u_ior rfl (fun z20 => ?_)
          refine v_istore rfl (Nat.le_of_ble_eq_true rfl) ?_
          refine r_iinc rfl rfl (by decide) (by omega) (by omega) (fun z21 z21e => ?_)
          refine v_goto rfl ?_
          exact ih6_3 z20 z21 (by omega) (by omega) (by omega)
  exact L3 _ (0 : Int32) (0 : Int32) (by omega) (by omega) (Nat.lt_add_one _)
set_option maxRecDepth 100000 in
theorem W_X11_cords_0 {sc : pm_S} {w w0 : pm_W} {gi : Nat → Int32} {ga : Nat → List Int32}   (hR : pm_Rg gi ga) (hI : pm_IX gi ga w) (hh : pm_hi w0 w) : pm_Mt sc 3 77 1 [.ref 0] w (fun rv w' => pm_wI (fun v => True) rv ∧ pm_IX gi ga w' ∧ pm_hi w0 w') := by
  intro d hd
  obtain ⟨g0a, g0b⟩ := hR.n0
  obtain ⟨g1a, g1b⟩ := hR.n1
  obtain ⟨g2a, g2b⟩ := hR.n2
  obtain ⟨g3a, g3b⟩ := hR.n3
  obtain ⟨g4a, g4b⟩ := hR.n4
  obtain ⟨g5a, g5b⟩ := hR.n5
  obtain ⟨g6a, g6b⟩ := hR.n6
  obtain ⟨g7a, g7b⟩ := hR.n7
  obtain ⟨g8a, g8b⟩ := hR.n8
  show pm_V sc d 77 0 [.ref 0] [] w _
  refine v_aload_n rfl rfl ?_
  obtain ⟨v2, ⟨v2z, v2e⟩, h1⟩ := hI.2 0 (by decide)
  have v2z := v2z.imp i_eq.mp i_eq.mp
  rw [i_0, i_1] at v2z
  refine v_get rfl h1 rfl ?_
  refine v_aload_n rfl rfl ?_
  refine v_get rfl h1 rfl ?_
  obtain ⟨v4, ⟨v4a, v4b⟩, h3⟩ := hI.2 5 (by decide)
  refine v_callV rfl (W_X3_readFrom_5_1  hR hI hh) rfl rfl h3 rfl rfl (by omega) (fun rv w5 hq6 => ?_)
  obtain ⟨rfl, hI8, hh9⟩ := hq6
  refine v_aload_n rfl rfl ?_
  obtain ⟨v11, ⟨v11z, v11e⟩, h10⟩ := hI8.2 0 (by decide)
  have v11z := v11z.imp i_eq.mp i_eq.mp
  rw [i_0, i_1] at v11z
  refine v_get rfl h10 rfl ?_
  obtain ⟨v13, ⟨v13a, v13b⟩, h12⟩ := hI8.2 5 (by decide)
  refine v_get rfl h12 rfl ?_
  exact v_iret rfl ⟨⟨_, rfl, trivial⟩, hI8, hh9⟩
set_option maxRecDepth 100000 in
theorem W_X11_cord_0 {sc : pm_S} {w w0 : pm_W} {gi : Nat → Int32} {ga : Nat → List Int32} (x : Int32)  (hR : pm_Rg gi ga) (hI : pm_IX gi ga w) (hh : pm_hi w0 w) : pm_Mt sc 3 78 2 [.ref 0, .int x] w (fun rv w' => pm_wI (fun v => True) rv ∧ pm_IX gi ga w' ∧ pm_hi w0 w') := by
  intro d hd
  obtain ⟨g0a, g0b⟩ := hR.n0
  obtain ⟨g1a, g1b⟩ := hR.n1
  obtain ⟨g2a, g2b⟩ := hR.n2
  obtain ⟨g3a, g3b⟩ := hR.n3
  obtain ⟨g4a, g4b⟩ := hR.n4
  obtain ⟨g5a, g5b⟩ := hR.n5
  obtain ⟨g6a, g6b⟩ := hR.n6
  obtain ⟨g7a, g7b⟩ := hR.n7
  obtain ⟨g8a, g8b⟩ := hR.n8
  have km1 : (-1 : Int32).toInt = -1 := by decide
  show pm_V sc d 78 0 [.ref 0, .int x] [] w _
  refine v_iload_n rfl rfl ?_
  refine v_aload_n rfl rfl ?_
  obtain ⟨v2, ⟨v2z, v2e⟩, h1⟩ := hI.2 0 (by decide)
  have v2z := v2z.imp i_eq.mp i_eq.mp
  rw [i_0, i_1] at v2z
  refine v_get rfl h1 rfl ?_
  have h3 : _ = some _ := hI.2 1 (by decide)
  refine v_get rfl h3 rfl ?_
  refine v_callS rfl (W_X11_isPlace x (gi 0) hR hI) rfl rfl rfl rfl rfl (by omega) (fun rv w4 hq5 => ?_)
  obtain ⟨⟨z6, rfl, z6p0⟩, rfl⟩ := hq5
  refine r_if_ne rfl (fun t7 => ?_) (fun t7 => ?_)
  · refine v_aload_n rfl rfl ?_
    refine v_get rfl h1 rfl ?_
    refine v_aload_n rfl rfl ?_
    refine v_get rfl h1 rfl ?_
    obtain ⟨v9, ⟨v9a, v9b⟩, h8⟩ := hI.2 5 (by decide)
    refine v_callV rfl (W_X3_readFrom_5_1  hR hI hh) rfl rfl h8 rfl rfl (by omega) (fun rv w10 hq11 => ?_)
    obtain ⟨rfl, hI13, hh14⟩ := hq11
    refine v_aload_n rfl rfl ?_
    obtain ⟨v16, ⟨v16z, v16e⟩, h15⟩ := hI13.2 0 (by decide)
    have v16z := v16z.imp i_eq.mp i_eq.mp
    rw [i_0, i_1] at v16z
    refine v_get rfl h15 rfl ?_
    obtain ⟨v18, ⟨v18a, v18b⟩, h17⟩ := hI13.2 5 (by decide)
    refine v_get rfl h17 rfl ?_
    refine v_iload_n rfl rfl ?_
    obtain ⟨xs20, xs20l, xs20r, h19⟩ := hI13.2 8 (by decide)
    refine r_iaload rfl h19 xs20l (by omega) (by omega) (fun z21 z21m z21g => ?_)
    obtain ⟨z21a, z21b⟩ := xs20r z21 z21m
    exact v_iret rfl ⟨⟨_, rfl, trivial⟩, hI13, hh14⟩
  · refine v_aload_n rfl rfl ?_
    refine v_iconst (v := (-1)) rfl (by decide) ?_
    refine v_callV rfl (c_X_refuse (-1 : Int32) (by unfold pm_isR; first | decide | exact Or.inl rfl) hR hI) rfl rfl h1 rfl rfl (by omega) (fun rv w22 hq23 => ?_)
    obtain ⟨rfl, hI24, hh25x⟩ := hq23
    have hI24 : pm_IX gi ga w22 := hI24
    have hh25 := hh.tr hh25x
    exact v_iret rfl ⟨⟨_, rfl, trivial⟩, hI24, hh25⟩
set_option maxRecDepth 100000 in
theorem W_X11_pull_0 {sc : pm_S} {w w0 : pm_W} {gi : Nat → Int32} {ga : Nat → List Int32} (y : Int32) (c : Int32)  (hR : pm_Rg gi ga) (hI : pm_IX gi ga w) (hh : pm_hi w0 w) : pm_Mt sc 3 79 3 [.ref 0, .int y, .int c] w (fun rv w' => pm_wI (fun v => True) rv ∧ pm_IX gi ga w' ∧ pm_hi w0 w') := by
  intro d hd
  obtain ⟨g0a, g0b⟩ := hR.n0
  obtain ⟨g1a, g1b⟩ := hR.n1
  obtain ⟨g2a, g2b⟩ := hR.n2
  obtain ⟨g3a, g3b⟩ := hR.n3
  obtain ⟨g4a, g4b⟩ := hR.n4
  obtain ⟨g5a, g5b⟩ := hR.n5
  obtain ⟨g6a, g6b⟩ := hR.n6
  obtain ⟨g7a, g7b⟩ := hR.n7
  obtain ⟨g8a, g8b⟩ := hR.n8
  have km1 : (-1 : Int32).toInt = -1 := by decide
  show pm_V sc d 79 0 [.ref 0, .int y, .int c] [] w _
  refine v_iload_n rfl rfl ?_
  refine v_aload_n rfl rfl ?_
  obtain ⟨v2, ⟨v2z, v2e⟩, h1⟩ := hI.2 0 (by decide)
  have v2z := v2z.imp i_eq.mp i_eq.mp
  rw [i_0, i_1] at v2z
  refine v_get rfl h1 rfl ?_
  have h3 : _ = some _ := hI.2 1 (by decide)
  refine v_get rfl h3 rfl ?_
  refine v_callS rfl (W_X11_isPlace y (gi 1) hR hI) rfl rfl rfl rfl rfl (by omega) (fun rv w4 hq5 => ?_)
  obtain ⟨⟨z6, rfl, z6p0⟩, rfl⟩ := hq5
  refine r_if_eq rfl (fun t7 => ?_) (fun t7 => ?_)
  · refine v_aload_n rfl rfl ?_
    refine v_iconst (v := (-1)) rfl (by decide) ?_
    refine v_callV rfl (c_X_refuse (-1 : Int32) (by unfold pm_isR; first | decide | exact Or.inl rfl) hR hI) rfl rfl h1 rfl rfl (by omega) (fun rv w8 hq9 => ?_)
    obtain ⟨rfl, hI10, hh11x⟩ := hq9
    have hI10 : pm_IX gi ga w8 := hI10
    have hh11 := hh.tr hh11x
    exact v_iret rfl ⟨⟨_, rfl, trivial⟩, hI10, hh11⟩
  · refine v_iload_n rfl rfl ?_
    refine v_callS rfl (W_X11_isColour c hR hI) rfl rfl rfl rfl rfl (by omega) (fun rv w12 hq13 => ?_)
    obtain ⟨⟨z14, rfl, z14p0⟩, rfl⟩ := hq13
    refine r_if_ne rfl (fun t15 => ?_) (fun t15 => ?_)
    · refine v_aload_n rfl rfl ?_
      refine v_get rfl h1 rfl ?_
      refine v_aload_n rfl rfl ?_
      refine v_get rfl h1 rfl ?_
      obtain ⟨v17, ⟨v17a, v17b⟩, h16⟩ := hI.2 5 (by decide)
      refine v_callV rfl (W_X3_readFrom_5_1  hR hI hh) rfl rfl h16 rfl rfl (by omega) (fun rv w18 hq19 => ?_)
      obtain ⟨rfl, hI21, hh22⟩ := hq19
      refine v_aload_n rfl rfl ?_
      obtain ⟨v24, ⟨v24z, v24e⟩, h23⟩ := hI21.2 0 (by decide)
      have v24z := v24z.imp i_eq.mp i_eq.mp
      rw [i_0, i_1] at v24z
      refine v_get rfl h23 rfl ?_
      refine v_aload_n rfl rfl ?_
      refine v_get rfl h23 rfl ?_
      refine v_iload_n rfl rfl ?_
      refine v_iload_n rfl rfl ?_
      obtain ⟨v26, ⟨v26a, v26b⟩, h25⟩ := hI21.2 5 (by decide)
      refine v_callV rfl (W_X3_thatShow_5_1 y c (by omega) (by omega) hR hI21) rfl rfl h25 rfl rfl (by omega) (fun rv w27 hq28 => ?_)
      obtain ⟨⟨z29, rfl, -⟩, rfl⟩ := hq28
      exact v_iret rfl ⟨⟨_, rfl, trivial⟩, hI21, hh22⟩
    · refine v_aload_n rfl rfl ?_
      refine v_iconst (v := (-1)) rfl (by decide) ?_
      refine v_callV rfl (c_X_refuse (-1 : Int32) (by unfold pm_isR; first | decide | exact Or.inl rfl) hR hI) rfl rfl h1 rfl rfl (by omega) (fun rv w30 hq31 => ?_)
      obtain ⟨rfl, hI32, hh33x⟩ := hq31
      have hI32 : pm_IX gi ga w30 := hI32
      have hh33 := hh.tr hh33x
      exact v_iret rfl ⟨⟨_, rfl, trivial⟩, hI32, hh33⟩
set_option maxRecDepth 100000 in
theorem W_J6_bitCount_0f7a4 {sc : pm_S} {w : pm_W} {gi : Nat → Int32} {ga : Nat → List Int32} (x : Int32)  (hR : pm_Rg gi ga) (hI : pm_IX gi ga w) : pm_Mt sc 0 184 1 [.int x] w (fun rv w' => pm_wI (fun v => True) rv ∧ w = w') := by
  intro d hd
  obtain ⟨g0a, g0b⟩ := hR.n0
  obtain ⟨g1a, g1b⟩ := hR.n1
  obtain ⟨g2a, g2b⟩ := hR.n2
  obtain ⟨g3a, g3b⟩ := hR.n3
  obtain ⟨g4a, g4b⟩ := hR.n4
  obtain ⟨g5a, g5b⟩ := hR.n5
  obtain ⟨g6a, g6b⟩ := hR.n6
  obtain ⟨g7a, g7b⟩ := hR.n7
  obtain ⟨g8a, g8b⟩ := hR.n8
  have k1 : (1 : Int32).toInt = 1 := by decide
  have k2 : (2 : Int32).toInt = 2 := by decide
  have k4 : (4 : Int32).toInt = 4 := by decide
  have k8 : (8 : Int32).toInt = 8 := by decide
  have k16 : (16 : Int32).toInt = 16 := by decide
  have k63 : (63 : Int32).toInt = 63 := by decide
  have k252645135 : (252645135 : Int32).toInt = 252645135 := by decide
  have k858993459 : (858993459 : Int32).toInt = 858993459 := by decide
  have k1431655765 : (1431655765 : Int32).toInt = 1431655765 := by decide
  show pm_V sc d 184 0 [.int x] [] w _
  refine v_iload_n rfl rfl ?_
  refine v_iload_n rfl rfl ?_
  refine v_iconst (v := 1) rfl (by decide) ?_
  refine u_iushr rfl (fun z1 => ?_)
  refine v_ldc_w (v := 1431655765) rfl (by decide) ?_
  refine u_iand rfl (fun z2 => ?_)
  refine u_isub rfl (fun z3 => ?_)
  refine v_istore_n rfl (Nat.le_of_ble_eq_true rfl) ?_
  refine v_iload_n rfl rfl ?_
  refine v_ldc_w (v := 858993459) rfl (by decide) ?_
  refine u_iand rfl (fun z4 => ?_)
  refine v_iload_n rfl rfl ?_
  refine v_iconst (v := 2) rfl (by decide) ?_
  refine u_iushr rfl (fun z5 => ?_)
  refine v_ldc_w (v := 858993459) rfl (by decide) ?_
  refine u_iand rfl (fun z6 => ?_)
  refine u_iadd rfl (fun z7 => ?_)
  refine v_istore_n rfl (Nat.le_of_ble_eq_true rfl) ?_
  refine v_iload_n rfl rfl ?_
  refine v_iload_n rfl rfl ?_
  refine v_iconst (v := 4) rfl (by decide) ?_
  refine u_iushr rfl (fun z8 => ?_)
  refine u_iadd rfl (fun z9 => ?_)
  refine v_ldc_w (v := 252645135) rfl (by decide) ?_
  refine u_iand rfl (fun z10 => ?_)
  refine v_istore_n rfl (Nat.le_of_ble_eq_true rfl) ?_
  refine v_iload_n rfl rfl ?_
  refine v_iload_n rfl rfl ?_
  refine v_bipush (v := 8) rfl (by decide) ?_
  refine u_iushr rfl (fun z11 => ?_)
  refine u_iadd rfl (fun z12 => ?_)
  refine v_istore_n rfl (Nat.le_of_ble_eq_true rfl) ?_
  refine v_iload_n rfl rfl ?_
  refine v_iload_n rfl rfl ?_
  refine v_bipush (v := 16) rfl (by decide) ?_
  refine u_iushr rfl (fun z13 => ?_)
  refine u_iadd rfl (fun z14 => ?_)
  refine v_istore_n rfl (Nat.le_of_ble_eq_true rfl) ?_
  refine v_iload_n rfl rfl ?_
  refine v_bipush (v := 63) rfl (by decide) ?_
  refine u_iand rfl (fun z15 => ?_)
  exact v_iret rfl ⟨⟨_, rfl, trivial⟩, rfl⟩
set_option maxRecDepth 100000 in
theorem W_X11_pulls_0 {sc : pm_S} {w w0 : pm_W} {gi : Nat → Int32} {ga : Nat → List Int32}   (hR : pm_Rg gi ga) (hI : pm_IX gi ga w) (hh : pm_hi w0 w) : pm_Mt sc 2 80 3 [.ref 0] w (fun rv w' => pm_wI (fun v => True) rv ∧ pm_IX gi ga w' ∧ pm_hi w0 w') := by
  intro d hd
  obtain ⟨g0a, g0b⟩ := hR.n0
  obtain ⟨g1a, g1b⟩ := hR.n1
  obtain ⟨g2a, g2b⟩ := hR.n2
  obtain ⟨g3a, g3b⟩ := hR.n3
  obtain ⟨g4a, g4b⟩ := hR.n4
  obtain ⟨g5a, g5b⟩ := hR.n5
  obtain ⟨g6a, g6b⟩ := hR.n6
  obtain ⟨g7a, g7b⟩ := hR.n7
  obtain ⟨g8a, g8b⟩ := hR.n8
  have k0 : (0 : Int32).toInt = 0 := by decide
  show pm_V sc d 80 0 [.ref 0, .null, .null] [] w _
  refine v_iconst (v := 0) rfl (by decide) ?_
  refine v_istore_n rfl (Nat.le_of_ble_eq_true rfl) ?_
  refine v_iconst (v := 0) rfl (by decide) ?_
  refine v_istore_n rfl (Nat.le_of_ble_eq_true rfl) ?_
  have L3 : ∀ (n3 : Nat) (l1 : Int32) (l2 : Int32), 0 ≤ l2.toInt → l2.toInt ≤ 20 → (20 - l2.toInt).toNat < n3 → pm_V sc d 80 4 [.ref 0, .int l1, .int l2] [] w (fun rv w' => pm_wI (fun v => True) rv ∧ pm_IX gi ga w' ∧ pm_hi w0 w') := by
    intro n3
    induction n3 with
    | zero => intro l1 l2 t5 t6 hm4; exact absurd hm4 (Nat.not_lt_zero _)
    | succ n3 ih4_3 =>
      intro l1 l2 t5 t6 hm4
      refine v_iload_n rfl rfl ?_
      refine v_aload_n rfl rfl ?_
      obtain ⟨v8, ⟨v8z, v8e⟩, h7⟩ := hI.2 0 (by decide)
      have v8z := v8z.imp i_eq.mp i_eq.mp
      rw [i_0, i_1] at v8z
      refine v_get rfl h7 rfl ?_
      have h9 : _ = some _ := hI.2 1 (by decide)
      refine v_get rfl h9 rfl ?_
      refine r_icmp_ge rfl (fun t10 => ?_) (fun t10 => ?_)
      · refine v_iload_n rfl rfl ?_
        exact v_iret rfl ⟨⟨_, rfl, trivial⟩, hI, hh⟩
      · refine v_iload_n rfl rfl ?_
        refine v_aload_n rfl rfl ?_
        refine v_get rfl h7 rfl ?_
        refine v_iload_n rfl rfl ?_
        refine v_callV rfl (W_X10_coloursOfPick_1 l2 (by omega) (by omega) hR hI) rfl rfl h9 rfl rfl (by omega) (fun rv w11 hq12 => ?_)
        obtain ⟨⟨z13, rfl, -⟩, rfl⟩ := hq12
        refine v_callS rfl (W_J6_bitCount_0f7a4 z13 hR hI) rfl rfl rfl rfl rfl (by omega) (fun rv w14 hq15 => ?_)
        obtain ⟨⟨z16, rfl, -⟩, rfl⟩ := hq15
        refine u_iadd rfl (fun z17 => ?_)
        refine v_istore_n rfl (Nat.le_of_ble_eq_true rfl) ?_
        refine r_iinc rfl rfl (by decide) (by omega) (by omega) (fun z18 z18e => ?_)
        refine v_goto rfl ?_
        exact ih4_3 z17 z18 (by omega) (by omega) (by omega)
  exact L3 _ (0 : Int32) (0 : Int32) (by omega) (by omega) (Nat.lt_add_one _)
set_option maxRecDepth 100000 in
theorem W_X11_pickAndColour_0 {sc : pm_S} {w : pm_W} {gi : Nat → Int32} {ga : Nat → List Int32} (p : Int32)  (hR : pm_Rg gi ga) (hI : pm_IX gi ga w) : pm_Mt sc 2 111 6 [.ref 0, .int p] w (fun rv w' => pm_wI (fun v => -9 ≤ v.toInt ∧ v.toInt ≤ 79) rv ∧ w = w') := by
  intro d hd
  obtain ⟨g0a, g0b⟩ := hR.n0
  obtain ⟨g1a, g1b⟩ := hR.n1
  obtain ⟨g2a, g2b⟩ := hR.n2
  obtain ⟨g3a, g3b⟩ := hR.n3
  obtain ⟨g4a, g4b⟩ := hR.n4
  obtain ⟨g5a, g5b⟩ := hR.n5
  obtain ⟨g6a, g6b⟩ := hR.n6
  obtain ⟨g7a, g7b⟩ := hR.n7
  obtain ⟨g8a, g8b⟩ := hR.n8
  have km9 : (-9 : Int32).toInt = -9 := by decide
  have k0 : (0 : Int32).toInt = 0 := by decide
  have k1 : (1 : Int32).toInt = 1 := by decide
  have k4 : (4 : Int32).toInt = 4 := by decide
  show pm_V sc d 111 0 [.ref 0, .int p, .null, .null, .null, .null] [] w _
  refine v_iconst (v := 0) rfl (by decide) ?_
  refine v_istore_n rfl (Nat.le_of_ble_eq_true rfl) ?_
  refine v_iconst (v := 0) rfl (by decide) ?_
  refine v_istore_n rfl (Nat.le_of_ble_eq_true rfl) ?_
  have L5 : ∀ (n5 : Nat) (l1 : Int32) (l2 : Int32) (u3 : Value) (u4 : Value), 0 ≤ l2.toInt → l2.toInt ≤ 20 → (20 - l2.toInt).toNat < n5 → pm_V sc d 111 4 [.ref 0, .int p, .int l1, .int l2, u3, u4] [] w (fun rv w' => pm_wI (fun v => -9 ≤ v.toInt ∧ v.toInt ≤ 79) rv ∧ w = w') := by
    intro n5
    induction n5 with
    | zero => intro l1 l2 u3 u4 t7 t8 hm6; exact absurd hm6 (Nat.not_lt_zero _)
    | succ n5 ih4_5 =>
      intro l1 l2 u3 u4 t7 t8 hm6
      refine v_iload_n rfl rfl ?_
      refine v_aload_n rfl rfl ?_
      obtain ⟨v10, ⟨v10z, v10e⟩, h9⟩ := hI.2 0 (by decide)
      have v10z := v10z.imp i_eq.mp i_eq.mp
      rw [i_0, i_1] at v10z
      refine v_get rfl h9 rfl ?_
      have h11 : _ = some _ := hI.2 1 (by decide)
      refine v_get rfl h11 rfl ?_
      refine r_icmp_ge rfl (fun t12 => ?_) (fun t12 => ?_)
      · refine v_bipush (v := (-9)) rfl (by decide) ?_
        exact v_iret rfl ⟨⟨_, rfl, (by omega), (by omega)⟩, rfl⟩
      · refine v_aload_n rfl rfl ?_
        refine v_get rfl h9 rfl ?_
        refine v_iload_n rfl rfl ?_
        refine v_callV rfl (W_X10_coloursOfPick_1 l2 (by omega) (by omega) hR hI) rfl rfl h11 rfl rfl (by omega) (fun rv w13 hq14 => ?_)
        obtain ⟨⟨z15, rfl, -⟩, rfl⟩ := hq14
        refine v_istore rfl (Nat.le_of_ble_eq_true rfl) ?_
        refine v_iconst (v := 0) rfl (by decide) ?_
        refine v_istore rfl (Nat.le_of_ble_eq_true rfl) ?_
        have L18 : ∀ (n18 : Nat) (l16 : Int32) (l17 : Int32), 0 ≤ l17.toInt → l17.toInt ≤ 4 → (4 - l17.toInt).toNat < n18 → pm_V sc d 111 28 [.ref 0, .int p, .int l16, .int l2, .int z15, .int l17] [] w (fun rv w' => pm_wI (fun v => -9 ≤ v.toInt ∧ v.toInt ≤ 79) rv ∧ w = w') := by
          intro n18
          induction n18 with
          | zero => intro l16 l17 t20 t21 hm19; exact absurd hm19 (Nat.not_lt_zero _)
          | succ n18 ih28_18 =>
            intro l16 l17 t20 t21 hm19
            refine v_iload rfl rfl ?_
            refine v_iconst (v := 4) rfl (by decide) ?_
            refine r_icmp_ge rfl (fun t22 => ?_) (fun t22 => ?_)
            · refine r_iinc rfl rfl (by decide) (by omega) (by omega) (fun z23 z23e => ?_)
              refine v_goto rfl ?_
              exact ih4_5 l16 z23 (.int z15) (.int l17) (by omega) (by omega) (by omega)
            · refine v_iload rfl rfl ?_
              refine v_iload rfl rfl ?_
              refine u_ishr rfl (fun z24 => ?_)
              refine v_iconst (v := 1) rfl (by decide) ?_
              refine u_iand rfl (fun z25 => ?_)
              refine r_if_ne rfl (fun t26 => ?_) (fun t26 => ?_)
              · refine v_iload_n rfl rfl ?_
                refine v_iload_n rfl rfl ?_
                refine r_icmp_ne rfl (fun t27 => ?_) (fun t27 => ?_)
                · refine u_iinc rfl rfl (fun z28 => ?_)
                  refine r_iinc rfl rfl (by decide) (by omega) (by omega) (fun z29 z29e => ?_)
                  refine v_goto rfl ?_
                  exact ih28_18 z28 z29 (by omega) (by omega) (by omega)
                · refine v_iload_n rfl rfl ?_
                  refine v_iconst (v := 4) rfl (by decide) ?_
                  refine r_imulR 4 rfl rfl (by omega) (by omega) (fun z30 z30e => ?_)
                  refine v_iload rfl rfl ?_
                  refine r_iadd rfl (by omega) (by omega) (fun z31 z31e => ?_)
                  exact v_iret rfl ⟨⟨_, rfl, (by omega), (by omega)⟩, rfl⟩
              · refine v_goto rfl ?_
                refine r_iinc rfl rfl (by decide) (by omega) (by omega) (fun z32 z32e => ?_)
                refine v_goto rfl ?_
                exact ih28_18 l16 z32 (by omega) (by omega) (by omega)
        exact L18 _ l1 (0 : Int32) (by omega) (by omega) (Nat.lt_add_one _)
  exact L5 _ (0 : Int32) (0 : Int32) (.null) (.null) (by omega) (by omega) (Nat.lt_add_one _)
set_option maxRecDepth 100000 in
theorem W_X11_pullOf_0 {sc : pm_S} {w w0 : pm_W} {gi : Nat → Int32} {ga : Nat → List Int32} (i : Int32) (k : Int32)  (hR : pm_Rg gi ga) (hI : pm_IX gi ga w) (hh : pm_hi w0 w) : pm_Mt sc 3 81 4 [.ref 0, .int i, .int k] w (fun rv w' => pm_wI (fun v => True) rv ∧ pm_IX gi ga w' ∧ pm_hi w0 w') := by
  intro d hd
  obtain ⟨g0a, g0b⟩ := hR.n0
  obtain ⟨g1a, g1b⟩ := hR.n1
  obtain ⟨g2a, g2b⟩ := hR.n2
  obtain ⟨g3a, g3b⟩ := hR.n3
  obtain ⟨g4a, g4b⟩ := hR.n4
  obtain ⟨g5a, g5b⟩ := hR.n5
  obtain ⟨g6a, g6b⟩ := hR.n6
  obtain ⟨g7a, g7b⟩ := hR.n7
  obtain ⟨g8a, g8b⟩ := hR.n8
  have km9 : (-9 : Int32).toInt = -9 := by decide
  have km2 : (-2 : Int32).toInt = -2 := by decide
  have km1 : (-1 : Int32).toInt = -1 := by decide
  have k2 : (2 : Int32).toInt = 2 := by decide
  have k4 : (4 : Int32).toInt = 4 := by decide
  show pm_V sc d 81 0 [.ref 0, .int i, .int k, .null] [] w _
  refine v_iload_n rfl rfl ?_
  refine r_if_ge rfl (fun t1 => ?_) (fun t1 => ?_)
  · refine v_aload_n rfl rfl ?_
    refine v_iload_n rfl rfl ?_
    obtain ⟨v3, ⟨v3z, v3e⟩, h2⟩ := hI.2 0 (by decide)
    have v3z := v3z.imp i_eq.mp i_eq.mp
    rw [i_0, i_1] at v3z
    refine v_callV rfl (W_X11_pickAndColour_0 i hR hI) rfl rfl h2 rfl rfl (by omega) (fun rv w4 hq5 => ?_)
    obtain ⟨⟨z6, rfl, z6p0, z6p1⟩, rfl⟩ := hq5
    refine v_istore_n rfl (Nat.le_of_ble_eq_true rfl) ?_
    refine v_iload_n rfl rfl ?_
    refine r_if_ge rfl (fun t7 => ?_) (fun t7 => ?_)
    · refine v_iload_n rfl rfl ?_
      refine v_iconst (v := 2) rfl (by decide) ?_
      refine v_callS rfl (W_X11_isPlace k (2 : Int32) hR hI) rfl rfl rfl rfl rfl (by omega) (fun rv w8 hq9 => ?_)
      obtain ⟨⟨z10, rfl, z10p0⟩, rfl⟩ := hq9
      refine r_if_ne rfl (fun t11 => ?_) (fun t11 => ?_)
      · refine v_iload_n rfl rfl ?_
        refine r_if_ne rfl (fun t12 => ?_) (fun t12 => ?_)
        · refine v_iload_n rfl rfl ?_
          refine v_iconst (v := 4) rfl (by decide) ?_
          refine r_irem rfl (by omega) (by omega) (fun z13 z13m z13a z13b z13c => ?_)
          clear z13m
          exact v_iret rfl ⟨⟨_, rfl, trivial⟩, hI, hh⟩
        · refine v_iload_n rfl rfl ?_
          refine v_iconst (v := 4) rfl (by decide) ?_
          refine r_idiv rfl (by omega) (by omega) (fun z14 z14m z14a z14b => ?_)
          rw [show (4 : Int32).toInt = 4 from rfl] at z14m
          refine v_goto rfl ?_
          exact v_iret rfl ⟨⟨_, rfl, trivial⟩, hI, hh⟩
      · refine v_aload_n rfl rfl ?_
        refine v_bipush (v := (-2)) rfl (by decide) ?_
        refine v_callV rfl (c_X_refuse (-2 : Int32) (by unfold pm_isR; first | decide | exact Or.inl rfl) hR hI) rfl rfl h2 rfl rfl (by omega) (fun rv w15 hq16 => ?_)
        obtain ⟨rfl, hI17, hh18x⟩ := hq16
        have hI17 : pm_IX gi ga w15 := hI17
        have hh18 := hh.tr hh18x
        exact v_iret rfl ⟨⟨_, rfl, trivial⟩, hI17, hh18⟩
    · refine v_aload_n rfl rfl ?_
      refine v_iconst (v := (-1)) rfl (by decide) ?_
      refine v_callV rfl (c_X_refuse (-1 : Int32) (by unfold pm_isR; first | decide | exact Or.inl rfl) hR hI) rfl rfl h2 rfl rfl (by omega) (fun rv w19 hq20 => ?_)
      obtain ⟨rfl, hI21, hh22x⟩ := hq20
      have hI21 : pm_IX gi ga w19 := hI21
      have hh22 := hh.tr hh22x
      exact v_iret rfl ⟨⟨_, rfl, trivial⟩, hI21, hh22⟩
  · refine v_bipush (v := (-9)) rfl (by decide) ?_
    refine v_goto rfl ?_
    refine v_istore_n rfl (Nat.le_of_ble_eq_true rfl) ?_
    refine v_iload_n rfl rfl ?_
    refine r_if_ge rfl (fun hx => absurd hx (by omega)) (fun _ => ?_)
    refine v_aload_n rfl rfl ?_
    refine v_iconst (v := (-1)) rfl (by decide) ?_
    obtain ⟨v24, ⟨v24z, v24e⟩, h23⟩ := hI.2 0 (by decide)
    have v24z := v24z.imp i_eq.mp i_eq.mp
    rw [i_0, i_1] at v24z
    refine v_callV rfl (c_X_refuse (-1 : Int32) (by unfold pm_isR; first | decide | exact Or.inl rfl) hR hI) rfl rfl h23 rfl rfl (by omega) (fun rv w25 hq26 => ?_)
    obtain ⟨rfl, hI27, hh28x⟩ := hq26
    have hI27 : pm_IX gi ga w25 := hI27
    have hh28 := hh.tr hh28x
    exact v_iret rfl ⟨⟨_, rfl, trivial⟩, hI27, hh28⟩

