set_option maxRecDepth 100000 in
theorem W_X9_isOpen_27 {sc : pm_S} {w : pm_W} {gi : Nat → Int32} {ga : Nat → List Int32} (o : Int32) (p0 : o.toInt ≤ 11) (p1 : 0 ≤ o.toInt) (hR : pm_Rg gi ga) (hI : pm_IX gi ga w) : pm_Mt sc 0 55 2 [.ref 27, .int o] w (fun rv w' => pm_wI (fun v => True) rv ∧ w = w') := by
  intro d hd
  obtain ⟨g0a, g0b⟩ := hR.n0
  obtain ⟨g1a, g1b⟩ := hR.n1
  obtain ⟨g2a, g2b⟩ := hR.n2
  obtain ⟨g3a, g3b⟩ := hR.n3
  obtain ⟨g4a, g4b⟩ := hR.n4
  obtain ⟨g5a, g5b⟩ := hR.n5
  obtain ⟨g6a, g6b⟩ := hR.n6
  obtain ⟨g7a, g7b⟩ := hR.n7
  obtain ⟨g8a, g8b⟩ := hR.n8
  have k0 : (0 : Int32).toInt = 0 := by decide
  have k1 : (1 : Int32).toInt = 1 := by decide
  show pm_V sc d 55 0 [.ref 27, .int o] [] w _
  refine v_aload_n rfl rfl ?_
  have h1 : _ = some _ := hI.2 27 (by decide)
  refine v_get rfl h1 rfl ?_
  refine v_iload_n rfl rfl ?_
  have h2 : _ = some _ := hI.2 31 (by decide)
  refine r_iaload rfl h2 hR.l3 (by omega) (by omega) (fun z3 z3m z3g => ?_)
  obtain ⟨z3a, z3b⟩ := hR.r3 z3 z3m
  refine r_if_ge rfl (fun t4 => ?_) (fun t4 => ?_)
  · refine v_iconst (v := 0) rfl (by decide) ?_
    exact r_zret rfl (by omega) ⟨⟨_, rfl, trivial⟩, rfl⟩
  · refine v_iconst (v := 1) rfl (by decide) ?_
    refine v_goto rfl ?_
    exact r_zret rfl (by omega) ⟨⟨_, rfl, trivial⟩, rfl⟩
set_option maxRecDepth 100000 in
theorem W_X9_openOrders_27 {sc : pm_S} {w : pm_W} {gi : Nat → Int32} {ga : Nat → List Int32}   (hR : pm_Rg gi ga) (hI : pm_IX gi ga w) : pm_Mt sc 1 56 3 [.ref 27] w (fun rv w' => pm_wI (fun v => True) rv ∧ w = w') := by
  intro d hd
  obtain ⟨g0a, g0b⟩ := hR.n0
  obtain ⟨g1a, g1b⟩ := hR.n1
  obtain ⟨g2a, g2b⟩ := hR.n2
  obtain ⟨g3a, g3b⟩ := hR.n3
  obtain ⟨g4a, g4b⟩ := hR.n4
  obtain ⟨g5a, g5b⟩ := hR.n5
  obtain ⟨g6a, g6b⟩ := hR.n6
  obtain ⟨g7a, g7b⟩ := hR.n7
  obtain ⟨g8a, g8b⟩ := hR.n8
  have k0 : (0 : Int32).toInt = 0 := by decide
  show pm_V sc d 56 0 [.ref 27, .null, .null] [] w _
  refine v_iconst (v := 0) rfl (by decide) ?_
  refine v_istore_n rfl (Nat.le_of_ble_eq_true rfl) ?_
  refine v_iconst (v := 0) rfl (by decide) ?_
  refine v_istore_n rfl (Nat.le_of_ble_eq_true rfl) ?_
  have L3 : ∀ (n3 : Nat) (l1 : Int32) (l2 : Int32), 0 ≤ l2.toInt → l2.toInt ≤ 12 → (12 - l2.toInt).toNat < n3 → pm_V sc d 56 4 [.ref 27, .int l1, .int l2] [] w (fun rv w' => pm_wI (fun v => True) rv ∧ w = w') := by
    intro n3
    induction n3 with
    | zero => intro l1 l2 t5 t6 hm4; exact absurd hm4 (Nat.not_lt_zero _)
    | succ n3 ih4_3 =>
      intro l1 l2 t5 t6 hm4
      refine v_iload_n rfl rfl ?_
      refine v_aload_n rfl rfl ?_
      have h7 : _ = some _ := hI.2 27 (by decide)
      refine v_get rfl h7 rfl ?_
      refine r_icmp_ge rfl (fun t8 => ?_) (fun t8 => ?_)
      · refine v_iload_n rfl rfl ?_
        exact v_iret rfl ⟨⟨_, rfl, trivial⟩, rfl⟩
      · refine v_aload_n rfl rfl ?_
        refine v_iload_n rfl rfl ?_
        refine v_callV rfl (W_X9_isOpen_27 l2 (by omega) (by omega) hR hI) rfl rfl h7 rfl rfl (by omega) (fun rv w9 hq10 => ?_)
        obtain ⟨⟨z11, rfl, -⟩, rfl⟩ := hq10
        refine r_if_eq rfl (fun t12 => ?_) (fun t12 => ?_)
        · refine r_iinc rfl rfl (by decide) (by omega) (by omega) (fun z13 z13e => ?_)
          refine v_goto rfl ?_
          exact ih4_3 l1 z13 (by omega) (by omega) (by omega)
        · refine u_iinc rfl rfl (fun z14 => ?_)
          refine r_iinc rfl rfl (by decide) (by omega) (by omega) (fun z15 z15e => ?_)
          refine v_goto rfl ?_
          exact ih4_3 z14 z15 (by omega) (by omega) (by omega)
  exact L3 _ (0 : Int32) (0 : Int32) (by omega) (by omega) (Nat.lt_add_one _)
set_option maxRecDepth 100000 in
theorem W_X7_inForceOn_37 {sc : pm_S} {w : pm_W} {gi : Nat → Int32} {ga : Nat → List Int32} (e : Int32)  (hR : pm_Rg gi ga) (hI : pm_IX gi ga w) : pm_Mt sc 0 45 4 [.ref 37, .int e] w (fun rv w' => pm_wI (fun v => -9 ≤ v.toInt ∧ v.toInt ≤ 19) rv ∧ w = w') := by
  intro d hd
  obtain ⟨g0a, g0b⟩ := hR.n0
  obtain ⟨g1a, g1b⟩ := hR.n1
  obtain ⟨g2a, g2b⟩ := hR.n2
  obtain ⟨g3a, g3b⟩ := hR.n3
  obtain ⟨g4a, g4b⟩ := hR.n4
  obtain ⟨g5a, g5b⟩ := hR.n5
  obtain ⟨g6a, g6b⟩ := hR.n6
  obtain ⟨g7a, g7b⟩ := hR.n7
  obtain ⟨g8a, g8b⟩ := hR.n8
  have km9 : (-9 : Int32).toInt = -9 := by decide
  have k0 : (0 : Int32).toInt = 0 := by decide
  show pm_V sc d 45 0 [.ref 37, .int e, .null, .null] [] w _
  refine v_bipush (v := (-9)) rfl (by decide) ?_
  refine v_istore_n rfl (Nat.le_of_ble_eq_true rfl) ?_
  refine v_iconst (v := 0) rfl (by decide) ?_
  refine v_istore_n rfl (Nat.le_of_ble_eq_true rfl) ?_
  have L3 : ∀ (n3 : Nat) (l1 : Int32) (l2 : Int32), (-9) ≤ l1.toInt → l1.toInt ≤ 19 → 0 ≤ l2.toInt → l2.toInt ≤ 20 → (20 - l2.toInt).toNat < n3 → pm_V sc d 45 5 [.ref 37, .int e, .int l1, .int l2] [] w (fun rv w' => pm_wI (fun v => -9 ≤ v.toInt ∧ v.toInt ≤ 19) rv ∧ w = w') := by
    intro n3
    induction n3 with
    | zero => intro l1 l2 t5 t6 t7 t8 hm4; exact absurd hm4 (Nat.not_lt_zero _)
    | succ n3 ih5_3 =>
      intro l1 l2 t5 t6 t7 t8 hm4
      refine v_iload_n rfl rfl ?_
      refine v_aload_n rfl rfl ?_
      have h9 : _ = some _ := hI.2 37 (by decide)
      refine v_get rfl h9 rfl ?_
      refine r_icmp_ge rfl (fun t10 => ?_) (fun t10 => ?_)
      · refine v_iload_n rfl rfl ?_
        exact v_iret rfl ⟨⟨_, rfl, (by omega), (by omega)⟩, rfl⟩
      · refine v_aload_n rfl rfl ?_
        refine v_get rfl h9 rfl ?_
        refine v_iload_n rfl rfl ?_
        have h11 : _ = some _ := hI.2 40 (by decide)
        refine r_iaload rfl h11 hR.l6 (by omega) (by omega) (fun z12 z12m z12g => ?_)
        refine v_iload_n rfl rfl ?_
        refine r_icmp_gt rfl (fun t13 => ?_) (fun t13 => ?_)
        · refine r_iinc rfl rfl (by decide) (by omega) (by omega) (fun z14 z14e => ?_)
          refine v_goto rfl ?_
          exact ih5_3 l1 z14 (by omega) (by omega) (by omega) (by omega) (by omega)
        · refine v_iload_n rfl rfl ?_
          refine r_if_lt rfl (fun t15 => ?_) (fun t15 => ?_)
          · refine v_iload_n rfl rfl ?_
            refine v_istore_n rfl (Nat.le_of_ble_eq_true rfl) ?_
            refine r_iinc rfl rfl (by decide) (by omega) (by omega) (fun z16 z16e => ?_)
            refine v_goto rfl ?_
            exact ih5_3 l2 z16 (by omega) (by omega) (by omega) (by omega) (by omega)
          · refine v_aload_n rfl rfl ?_
            refine v_get rfl h9 rfl ?_
            refine v_iload_n rfl rfl ?_
            refine r_iaload rfl h11 hR.l6 (by omega) (by omega) (fun z17 z17m z17g => ?_)
            refine v_aload_n rfl rfl ?_
            refine v_get rfl h9 rfl ?_
            refine v_iload_n rfl rfl ?_
            refine r_iaload rfl h11 hR.l6 (by omega) (by omega) (fun z18 z18m z18g => ?_)
            refine r_icmp_lt rfl (fun t19 => ?_) (fun t19 => ?_)
            · refine r_iinc rfl rfl (by decide) (by omega) (by omega) (fun z20 z20e => ?_)
              refine v_goto rfl ?_
              exact ih5_3 l1 z20 (by omega) (by omega) (by omega) (by omega) (by omega)
            · refine v_iload_n rfl rfl ?_
              refine v_istore_n rfl (Nat.le_of_ble_eq_true rfl) ?_
              refine r_iinc rfl rfl (by decide) (by omega) (by omega) (fun z21 z21e => ?_)
              refine v_goto rfl ?_
              exact ih5_3 l2 z21 (by omega) (by omega) (by omega) (by omega) (by omega)
  exact L3 _ (-9 : Int32) (0 : Int32) (by omega) (by omega) (by omega) (by omega) (Nat.lt_add_one _)
set_option maxRecDepth 100000 in
theorem W_X7_priceOn_37 {sc : pm_S} {w : pm_W} {gi : Nat → Int32} {ga : Nat → List Int32} (e : Int32)  (hR : pm_Rg gi ga) (hI : pm_IX gi ga w) : pm_Mt sc 1 44 3 [.ref 37, .int e] w (fun rv w' => pm_wI (fun v => True) rv ∧ w = w') := by
  intro d hd
  obtain ⟨g0a, g0b⟩ := hR.n0
  obtain ⟨g1a, g1b⟩ := hR.n1
  obtain ⟨g2a, g2b⟩ := hR.n2
  obtain ⟨g3a, g3b⟩ := hR.n3
  obtain ⟨g4a, g4b⟩ := hR.n4
  obtain ⟨g5a, g5b⟩ := hR.n5
  obtain ⟨g6a, g6b⟩ := hR.n6
  obtain ⟨g7a, g7b⟩ := hR.n7
  obtain ⟨g8a, g8b⟩ := hR.n8
  have k0 : (0 : Int32).toInt = 0 := by decide
  show pm_V sc d 44 0 [.ref 37, .int e, .null] [] w _
  refine v_aload_n rfl rfl ?_
  refine v_iload_n rfl rfl ?_
  have h1 : _ = some _ := hI.2 37 (by decide)
  refine v_callV rfl (W_X7_inForceOn_37 e hR hI) rfl rfl h1 rfl rfl (by omega) (fun rv w2 hq3 => ?_)
  obtain ⟨⟨z4, rfl, z4p0, z4p1⟩, rfl⟩ := hq3
  refine v_istore_n rfl (Nat.le_of_ble_eq_true rfl) ?_
  refine v_iload_n rfl rfl ?_
  refine r_if_ge rfl (fun t5 => ?_) (fun t5 => ?_)
  · refine v_aload_n rfl rfl ?_
    refine v_get rfl h1 rfl ?_
    refine v_iload_n rfl rfl ?_
    have h6 : _ = some _ := hI.2 39 (by decide)
    refine r_iaload rfl h6 hR.l5 (by omega) (by omega) (fun z7 z7m z7g => ?_)
    exact v_iret rfl ⟨⟨_, rfl, trivial⟩, rfl⟩
  · refine v_iconst (v := 0) rfl (by decide) ?_
    refine v_goto rfl ?_
    exact v_iret rfl ⟨⟨_, rfl, trivial⟩, rfl⟩
set_option maxRecDepth 100000 in
theorem W_X9_paidBy_27_37 {sc : pm_S} {w : pm_W} {gi : Nat → Int32} {ga : Nat → List Int32}   (hR : pm_Rg gi ga) (hI : pm_IX gi ga w) : pm_Mt sc 2 60 4 [.ref 27, .ref 37] w (fun rv w' => pm_wI (fun v => True) rv ∧ w = w') := by
  intro d hd
  obtain ⟨g0a, g0b⟩ := hR.n0
  obtain ⟨g1a, g1b⟩ := hR.n1
  obtain ⟨g2a, g2b⟩ := hR.n2
  obtain ⟨g3a, g3b⟩ := hR.n3
  obtain ⟨g4a, g4b⟩ := hR.n4
  obtain ⟨g5a, g5b⟩ := hR.n5
  obtain ⟨g6a, g6b⟩ := hR.n6
  obtain ⟨g7a, g7b⟩ := hR.n7
  obtain ⟨g8a, g8b⟩ := hR.n8
  have k0 : (0 : Int32).toInt = 0 := by decide
  show pm_V sc d 60 0 [.ref 27, .ref 37, .null, .null] [] w _
  refine v_iconst (v := 0) rfl (by decide) ?_
  refine v_istore_n rfl (Nat.le_of_ble_eq_true rfl) ?_
  refine v_iconst (v := 0) rfl (by decide) ?_
  refine v_istore_n rfl (Nat.le_of_ble_eq_true rfl) ?_
  have L3 : ∀ (n3 : Nat) (l1 : Int32) (l2 : Int32), 0 ≤ l2.toInt → l2.toInt ≤ 12 → (12 - l2.toInt).toNat < n3 → pm_V sc d 60 4 [.ref 27, .ref 37, .int l1, .int l2] [] w (fun rv w' => pm_wI (fun v => True) rv ∧ w = w') := by
    intro n3
    induction n3 with
    | zero => intro l1 l2 t5 t6 hm4; exact absurd hm4 (Nat.not_lt_zero _)
    | succ n3 ih4_3 =>
      intro l1 l2 t5 t6 hm4
      refine v_iload_n rfl rfl ?_
      refine v_aload_n rfl rfl ?_
      have h7 : _ = some _ := hI.2 27 (by decide)
      refine v_get rfl h7 rfl ?_
      refine r_icmp_ge rfl (fun t8 => ?_) (fun t8 => ?_)
      · refine v_iload_n rfl rfl ?_
        exact v_iret rfl ⟨⟨_, rfl, trivial⟩, rfl⟩
      · refine v_aload_n rfl rfl ?_
        refine v_iload_n rfl rfl ?_
        refine v_callV rfl (W_X9_isOpen_27 l2 (by omega) (by omega) hR hI) rfl rfl h7 rfl rfl (by omega) (fun rv w9 hq10 => ?_)
        obtain ⟨⟨z11, rfl, -⟩, rfl⟩ := hq10
        refine r_if_ne rfl (fun t12 => ?_) (fun t12 => ?_)
        · refine r_iinc rfl rfl (by decide) (by omega) (by omega) (fun z13 z13e => ?_)
          refine v_goto rfl ?_
          exact ih4_3 l1 z13 (by omega) (by omega) (by omega)
        · refine v_iload_n rfl rfl ?_
          refine v_aload_n rfl rfl ?_
          refine v_get rfl h7 rfl ?_
          refine v_iload_n rfl rfl ?_
          have h14 : _ = some _ := hI.2 28 (by decide)
          refine r_iaload rfl h14 hR.l0 (by omega) (by omega) (fun z15 z15m z15g => ?_)
          obtain ⟨z15a, z15b⟩ := hR.r0 z15 z15m
          refine v_aload_n rfl rfl ?_
          refine v_aload_n rfl rfl ?_
          refine v_get rfl h7 rfl ?_
          refine v_iload_n rfl rfl ?_
          have h16 : _ = some _ := hI.2 31 (by decide)
          refine r_iaload rfl h16 hR.l3 (by omega) (by omega) (fun z17 z17m z17g => ?_)
          obtain ⟨z17a, z17b⟩ := hR.r3 z17 z17m
          have h18 : _ = some _ := hI.2 37 (by decide)
          refine v_callV rfl (W_X7_priceOn_37 z17 hR hI) rfl rfl h18 rfl rfl (by omega) (fun rv w19 hq20 => ?_)
          obtain ⟨⟨z21, rfl, -⟩, rfl⟩ := hq20
          refine u_imul rfl (fun z22 => ?_)
          refine u_iadd rfl (fun z23 => ?_)
          refine v_istore_n rfl (Nat.le_of_ble_eq_true rfl) ?_
          refine r_iinc rfl rfl (by decide) (by omega) (by omega) (fun z24 z24e => ?_)
          refine v_goto rfl ?_
          exact ih4_3 z23 z24 (by omega) (by omega) (by omega)
  exact L3 _ (0 : Int32) (0 : Int32) (by omega) (by omega) (Nat.lt_add_one _)
set_option maxRecDepth 100000 in
theorem W_X11_refusalsOf_0 {sc : pm_S} {w : pm_W} {gi : Nat → Int32} {ga : Nat → List Int32} (k : Int32)  (hR : pm_Rg gi ga) (hI : pm_IX gi ga w) : pm_Mt sc 0 109 2 [.ref 0, .int k] w (fun rv w' => pm_wI (fun v => True) rv ∧ w = w') := by
  intro d hd
  obtain ⟨g0a, g0b⟩ := hR.n0
  obtain ⟨g1a, g1b⟩ := hR.n1
  obtain ⟨g2a, g2b⟩ := hR.n2
  obtain ⟨g3a, g3b⟩ := hR.n3
  obtain ⟨g4a, g4b⟩ := hR.n4
  obtain ⟨g5a, g5b⟩ := hR.n5
  obtain ⟨g6a, g6b⟩ := hR.n6
  obtain ⟨g7a, g7b⟩ := hR.n7
  obtain ⟨g8a, g8b⟩ := hR.n8
  have km9 : (-9 : Int32).toInt = -9 := by decide
  have k1 : (1 : Int32).toInt = 1 := by decide
  have k6 : (6 : Int32).toInt = 6 := by decide
  show pm_V sc d 109 0 [.ref 0, .int k] [] w _
  refine v_iload_n rfl rfl ?_
  refine v_iconst (v := 1) rfl (by decide) ?_
  refine r_icmp_lt rfl (fun t1 => ?_) (fun t1 => ?_)
  · refine v_bipush (v := (-9)) rfl (by decide) ?_
    exact v_iret rfl ⟨⟨_, rfl, trivial⟩, rfl⟩
  · refine v_iload_n rfl rfl ?_
    refine v_bipush (v := 6) rfl (by decide) ?_
    refine r_icmp_gt rfl (fun t2 => ?_) (fun t2 => ?_)
    · refine v_bipush (v := (-9)) rfl (by decide) ?_
      exact v_iret rfl ⟨⟨_, rfl, trivial⟩, rfl⟩
    · refine v_aload_n rfl rfl ?_
      obtain ⟨v4, ⟨v4z, v4e⟩, h3⟩ := hI.2 0 (by decide)
      have v4z := v4z.imp i_eq.mp i_eq.mp
      rw [i_0, i_1] at v4z
      refine v_get rfl h3 rfl ?_
      refine v_iload_n rfl rfl ?_
      obtain ⟨xs6, xs6l, h5⟩ := hI.2 58 (by decide)
      refine r_iaload rfl h5 xs6l (by omega) (by omega) (fun z7 z7m z7g => ?_)
      refine v_goto rfl ?_
      exact v_iret rfl ⟨⟨_, rfl, trivial⟩, rfl⟩
set_option maxRecDepth 100000 in
theorem W_X11_count_0 {sc : pm_S} {w w0 : pm_W} {gi : Nat → Int32} {ga : Nat → List Int32} (k : Int32)  (hR : pm_Rg gi ga) (hI : pm_IX gi ga w) (hh : pm_hi w0 w) : pm_Mt sc 3 107 2 [.ref 0, .int k] w (fun rv w' => pm_wI (fun v => True) rv ∧ pm_IX gi ga w' ∧ pm_hi w0 w') := by
  intro d hd
  obtain ⟨g0a, g0b⟩ := hR.n0
  obtain ⟨g1a, g1b⟩ := hR.n1
  obtain ⟨g2a, g2b⟩ := hR.n2
  obtain ⟨g3a, g3b⟩ := hR.n3
  obtain ⟨g4a, g4b⟩ := hR.n4
  obtain ⟨g5a, g5b⟩ := hR.n5
  obtain ⟨g6a, g6b⟩ := hR.n6
  obtain ⟨g7a, g7b⟩ := hR.n7
  obtain ⟨g8a, g8b⟩ := hR.n8
  have k10 : (10 : Int32).toInt = 10 := by decide
  show pm_V sc d 107 0 [.ref 0, .int k] [] w _
  refine v_iload_n rfl rfl ?_
  by_cases t1 : k.toInt = 0
  · refine v_tabIn (t := 52) rfl (by omega) (by omega) (by rw [t1]; rfl) rfl ?_
    refine v_aload_n rfl rfl ?_
    obtain ⟨v3, ⟨v3z, v3e⟩, h2⟩ := hI.2 0 (by decide)
    have v3z := v3z.imp i_eq.mp i_eq.mp
    rw [i_0, i_1] at v3z
    refine v_get rfl h2 rfl ?_
    have h4 : _ = some _ := hI.2 1 (by decide)
    refine v_get rfl h4 rfl ?_
    exact v_iret rfl ⟨⟨_, rfl, trivial⟩, hI, hh⟩
  by_cases t5 : k.toInt = 1
  · refine v_tabIn (t := 60) rfl (by omega) (by omega) (by rw [t5]; rfl) rfl ?_
    refine v_aload_n rfl rfl ?_
    obtain ⟨v7, ⟨v7z, v7e⟩, h6⟩ := hI.2 0 (by decide)
    have v7z := v7z.imp i_eq.mp i_eq.mp
    rw [i_0, i_1] at v7z
    refine v_get rfl h6 rfl ?_
    have h8 : _ = some _ := hI.2 1 (by decide)
    refine v_get rfl h8 rfl ?_
    exact v_iret rfl ⟨⟨_, rfl, trivial⟩, hI, hh⟩
  by_cases t9 : k.toInt = 2
  · refine v_tabIn (t := 68) rfl (by omega) (by omega) (by rw [t9]; rfl) rfl ?_
    refine v_aload_n rfl rfl ?_
    obtain ⟨v11, ⟨v11z, v11e⟩, h10⟩ := hI.2 0 (by decide)
    have v11z := v11z.imp i_eq.mp i_eq.mp
    rw [i_0, i_1] at v11z
    refine v_get rfl h10 rfl ?_
    have h12 : _ = some _ := hI.2 27 (by decide)
    refine v_get rfl h12 rfl ?_
    exact v_iret rfl ⟨⟨_, rfl, trivial⟩, hI, hh⟩
  by_cases t13 : k.toInt = 3
  · refine v_tabIn (t := 76) rfl (by omega) (by omega) (by rw [t13]; rfl) rfl ?_
    refine v_aload_n rfl rfl ?_
    obtain ⟨v15, ⟨v15z, v15e⟩, h14⟩ := hI.2 0 (by decide)
    have v15z := v15z.imp i_eq.mp i_eq.mp
    rw [i_0, i_1] at v15z
    refine v_get rfl h14 rfl ?_
    have h16 : _ = some _ := hI.2 27 (by decide)
    refine v_get rfl h16 rfl ?_
    exact v_iret rfl ⟨⟨_, rfl, trivial⟩, hI, hh⟩
  by_cases t17 : k.toInt = 4
  · refine v_tabIn (t := 84) rfl (by omega) (by omega) (by rw [t17]; rfl) rfl ?_
    refine v_aload_n rfl rfl ?_
    obtain ⟨v19, ⟨v19z, v19e⟩, h18⟩ := hI.2 0 (by decide)
    have v19z := v19z.imp i_eq.mp i_eq.mp
    rw [i_0, i_1] at v19z
    refine v_get rfl h18 rfl ?_
    have h20 : _ = some _ := hI.2 27 (by decide)
    refine v_callV rfl (W_X9_openOrders_27  hR hI) rfl rfl h20 rfl rfl (by omega) (fun rv w21 hq22 => ?_)
    obtain ⟨⟨z23, rfl, -⟩, rfl⟩ := hq22
    exact v_iret rfl ⟨⟨_, rfl, trivial⟩, hI, hh⟩
  by_cases t24 : k.toInt = 5
  · refine v_tabIn (t := 92) rfl (by omega) (by omega) (by rw [t24]; rfl) rfl ?_
    refine v_aload_n rfl rfl ?_
    obtain ⟨v26, ⟨v26z, v26e⟩, h25⟩ := hI.2 0 (by decide)
    have v26z := v26z.imp i_eq.mp i_eq.mp
    rw [i_0, i_1] at v26z
    refine v_get rfl h25 rfl ?_
    have h27 : _ = some _ := hI.2 37 (by decide)
    refine v_get rfl h27 rfl ?_
    exact v_iret rfl ⟨⟨_, rfl, trivial⟩, hI, hh⟩
  by_cases t28 : k.toInt = 6
  · refine v_tabIn (t := 100) rfl (by omega) (by omega) (by rw [t28]; rfl) rfl ?_
    refine v_aload_n rfl rfl ?_
    obtain ⟨v30, ⟨v30z, v30e⟩, h29⟩ := hI.2 0 (by decide)
    have v30z := v30z.imp i_eq.mp i_eq.mp
    rw [i_0, i_1] at v30z
    refine v_get rfl h29 rfl ?_
    refine v_aload_n rfl rfl ?_
    refine v_get rfl h29 rfl ?_
    have h31 : _ = some _ := hI.2 27 (by decide)
    refine v_callV rfl (W_X9_paidBy_27_37  hR hI) rfl rfl h31 rfl rfl (by omega) (fun rv w32 hq33 => ?_)
    obtain ⟨⟨z34, rfl, -⟩, rfl⟩ := hq33
    exact v_iret rfl ⟨⟨_, rfl, trivial⟩, hI, hh⟩
  by_cases t35 : k.toInt = 7
  · refine v_tabIn (t := 112) rfl (by omega) (by omega) (by rw [t35]; rfl) rfl ?_
    refine v_aload_n rfl rfl ?_
    obtain ⟨v37, ⟨v37z, v37e⟩, h36⟩ := hI.2 0 (by decide)
    have v37z := v37z.imp i_eq.mp i_eq.mp
    rw [i_0, i_1] at v37z
    refine v_get rfl h36 rfl ?_
    have h38 : _ = some _ := hI.2 27 (by decide)
    refine v_get rfl h38 rfl ?_
    exact v_iret rfl ⟨⟨_, rfl, trivial⟩, hI, hh⟩
  by_cases t39 : k.toInt = 8
  · refine v_tabIn (t := 120) rfl (by omega) (by omega) (by rw [t39]; rfl) rfl ?_
    refine v_aload_n rfl rfl ?_
    obtain ⟨v41, ⟨v41z, v41e⟩, h40⟩ := hI.2 0 (by decide)
    have v41z := v41z.imp i_eq.mp i_eq.mp
    rw [i_0, i_1] at v41z
    refine v_get rfl h40 rfl ?_
    have h42 : _ = some _ := hI.2 16 (by decide)
    refine v_callV rfl (W_X5_howMany_16  hR hI) rfl rfl h42 rfl rfl (by omega) (fun rv w43 hq44 => ?_)
    obtain ⟨⟨z45, rfl, -⟩, rfl⟩ := hq44
    exact v_iret rfl ⟨⟨_, rfl, trivial⟩, hI, hh⟩
  refine v_tabOut (t := 128) rfl (by omega) rfl ?_
  refine v_aload_n rfl rfl ?_
  refine v_iload_n rfl rfl ?_
  refine v_bipush (v := 10) rfl (by decide) ?_
  refine u_isub rfl (fun z46 => ?_)
  obtain ⟨v48, ⟨v48z, v48e⟩, h47⟩ := hI.2 0 (by decide)
  have v48z := v48z.imp i_eq.mp i_eq.mp
  rw [i_0, i_1] at v48z
  refine v_callV rfl (W_X11_refusalsOf_0 z46 hR hI) rfl rfl h47 rfl rfl (by omega) (fun rv w49 hq50 => ?_)
  obtain ⟨⟨z51, rfl, -⟩, rfl⟩ := hq50
  exact v_iret rfl ⟨⟨_, rfl, trivial⟩, hI, hh⟩

