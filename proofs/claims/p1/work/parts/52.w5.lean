set_option maxRecDepth 100000 in
theorem W_X9_isOpen_27 {sc : pm_S} {w : pm_W} {gi : Nat → Int32} {ga : Nat → List Int32} (o : Int32) (p0 : o.toInt ≤ 11) (p1 : 0 ≤ o.toInt) (hR : pm_Rg gi ga) (hI : pm_IX gi ga w) : pm_Mt sc 0 55 2 [.ref 27, .int o] w (fun rv w' => pm_wI (fun v => True) rv ∧ w = w') := by
  intro d hd
  obtain ⟨g0a, g0b⟩ := hR.n0
  obtain ⟨g1a, g1b⟩ := hR.n1
  obtain ⟨g2a, g2b⟩ := hR.n2
  obtain ⟨g3a, g3b⟩ := hR.n3
  obtain ⟨g4a, g4b⟩ := hR.n4
  obtain ⟨g5a, g5b⟩ := hR.n5
  obtain ⟨g6a, g6b⟩ := hR.n6
  obtain ⟨g7a, g7b⟩ := hR.n7
  obtain ⟨g8a, g8b⟩ := hR.n8
  have k0 : (0 : Int32).toInt = 0 := by decide
  have k1 : (1 : Int32).toInt = 1 := by decide
  show pm_V sc d 55 0 [.ref 27, .int o] [] w _
  refine v_aload_n rfl rfl ?_
  have h1 : _ = some _ := hI.2 27 (by decide)
  refine v_get rfl h1 rfl ?_
  refine v_iload_n rfl rfl ?_
  have h2 : _ = some _ := hI.2 31 (by decide)
  refine r_iaload rfl h2 hR.l3 (by omega) (by omega) (fun z3 z3m z3g => ?_)
  obtain ⟨z3a, z3b⟩ := hR.r3 z3 z3m
  refine r_if_ge rfl (fun t4 => ?_) (fun t4 => ?_)
  · refine v_iconst (v := 0) rfl (by decide) ?_
    exact r_zret rfl (by omega) ⟨⟨_, rfl, trivial⟩, rfl⟩
  · refine v_iconst (v := 1) rfl (by decide) ?_
    refine v_goto rfl ?_
    exact r_zret rfl (by omega) ⟨⟨_, rfl, trivial⟩, rfl⟩
set_option maxRecDepth 100000 in
theorem W_X7_inForceOn_37 {sc : pm_S} {w : pm_W} {gi : Nat → Int32} {ga : Nat → List Int32} (e : Int32)  (hR : pm_Rg gi ga) (hI : pm_IX gi ga w) : pm_Mt sc 0 45 4 [.ref 37, .int e] w (fun rv w' => pm_wI (fun v => -9 ≤ v.toInt ∧ v.toInt ≤ 19) rv ∧ w = w') := by
  intro d hd
  obtain ⟨g0a, g0b⟩ := hR.n0
  obtain ⟨g1a, g1b⟩ := hR.n1
  obtain ⟨g2a, g2b⟩ := hR.n2
  obtain ⟨g3a, g3b⟩ := hR.n3
  obtain ⟨g4a, g4b⟩ := hR.n4
  obtain ⟨g5a, g5b⟩ := hR.n5
  obtain ⟨g6a, g6b⟩ := hR.n6
  obtain ⟨g7a, g7b⟩ := hR.n7
  obtain ⟨g8a, g8b⟩ := hR.n8
  have km9 : (-9 : Int32).toInt = -9 := by decide
  have k0 : (0 : Int32).toInt = 0 := by decide
  show pm_V sc d 45 0 [.ref 37, .int e, .null, .null] [] w _
  refine v_bipush (v := (-9)) rfl (by decide) ?_
  refine v_istore_n rfl (Nat.le_of_ble_eq_true rfl) ?_
  refine v_iconst (v := 0) rfl (by decide) ?_
  refine v_istore_n rfl (Nat.le_of_ble_eq_true rfl) ?_
  have L3 : ∀ (n3 : Nat) (l1 : Int32) (l2 : Int32), (-9) ≤ l1.toInt → l1.toInt ≤ 19 → 0 ≤ l2.toInt → l2.toInt ≤ 20 → (20 - l2.toInt).toNat < n3 → pm_V sc d 45 5 [.ref 37, .int e, .int l1, .int l2] [] w (fun rv w' => pm_wI (fun v => -9 ≤ v.toInt ∧ v.toInt ≤ 19) rv ∧ w = w') := by
    intro n3
    induction n3 with
    | zero => intro l1 l2 t5 t6 t7 t8 hm4; exact absurd hm4 (Nat.not_lt_zero _)
    | succ n3 ih5_3 =>
      intro l1 l2 t5 t6 t7 t8 hm4
      refine v_iload_n rfl rfl ?_
      refine v_aload_n rfl rfl ?_
      have h9 : _ = some _ := hI.2 37 (by decide)
      refine v_get rfl h9 rfl ?_
      refine r_icmp_ge rfl (fun t10 => ?_) (fun t10 => ?_)
      · refine v_iload_n rfl rfl ?_
        exact v_iret rfl ⟨⟨_, rfl, (by omega), (by omega)⟩, rfl⟩
      · refine v_aload_n rfl rfl ?_
        refine v_get rfl h9 rfl ?_
        refine v_iload_n rfl rfl ?_
        have h11 : _ = some _ := hI.2 40 (by decide)
        refine r_iaload rfl h11 hR.l6 (by omega) (by omega) (fun z12 z12m z12g => ?_)
        refine v_iload_n rfl rfl ?_
        refine r_icmp_gt rfl (fun t13 => ?_) (fun t13 => ?_)
        · refine r_iinc rfl rfl (by decide) (by omega) (by omega) (fun z14 z14e => ?_)
          refine v_goto rfl ?_
          exact ih5_3 l1 z14 (by omega) (by omega) (by omega) (by omega) (by omega)
        · refine v_iload_n rfl rfl ?_
          refine r_if_lt rfl (fun t15 => ?_) (fun t15 => ?_)
          · refine v_iload_n rfl rfl ?_
            refine v_istore_n rfl (Nat.le_of_ble_eq_true rfl) ?_
            refine r_iinc rfl rfl (by decide) (by omega) (by omega) (fun z16 z16e => ?_)
            refine v_goto rfl ?_
            exact ih5_3 l2 z16 (by omega) (by omega) (by omega) (by omega) (by omega)
          · refine v_aload_n rfl rfl ?_
            refine v_get rfl h9 rfl ?_
            refine v_iload_n rfl rfl ?_
            refine r_iaload rfl h11 hR.l6 (by omega) (by omega) (fun z17 z17m z17g => ?_)
            refine v_aload_n rfl rfl ?_
            refine v_get rfl h9 rfl ?_
            refine v_iload_n rfl rfl ?_
            refine r_iaload rfl h11 hR.l6 (by omega) (by omega) (fun z18 z18m z18g => ?_)
            refine r_icmp_lt rfl (fun t19 => ?_) (fun t19 => ?_)
            · refine r_iinc rfl rfl (by decide) (by omega) (by omega) (fun z20 z20e => ?_)
              refine v_goto rfl ?_
              exact ih5_3 l1 z20 (by omega) (by omega) (by omega) (by omega) (by omega)
            · refine v_iload_n rfl rfl ?_
              refine v_istore_n rfl (Nat.le_of_ble_eq_true rfl) ?_
              refine r_iinc rfl rfl (by decide) (by omega) (by omega) (fun z21 z21e => ?_)
              refine v_goto rfl ?_
              exact ih5_3 l2 z21 (by omega) (by omega) (by omega) (by omega) (by omega)
  exact L3 _ (-9 : Int32) (0 : Int32) (by omega) (by omega) (by omega) (by omega) (Nat.lt_add_one _)
set_option maxRecDepth 100000 in
theorem W_X7_priceOn_37 {sc : pm_S} {w : pm_W} {gi : Nat → Int32} {ga : Nat → List Int32} (e : Int32)  (hR : pm_Rg gi ga) (hI : pm_IX gi ga w) : pm_Mt sc 1 44 3 [.ref 37, .int e] w (fun rv w' => pm_wI (fun v => True) rv ∧ w = w') := by
  intro d hd
  obtain ⟨g0a, g0b⟩ := hR.n0
  obtain ⟨g1a, g1b⟩ := hR.n1
  obtain ⟨g2a, g2b⟩ := hR.n2
  obtain ⟨g3a, g3b⟩ := hR.n3
  obtain ⟨g4a, g4b⟩ := hR.n4
  obtain ⟨g5a, g5b⟩ := hR.n5
  obtain ⟨g6a, g6b⟩ := hR.n6
  obtain ⟨g7a, g7b⟩ := hR.n7
  obtain ⟨g8a, g8b⟩ := hR.n8
  have k0 : (0 : Int32).toInt = 0 := by decide
  show pm_V sc d 44 0 [.ref 37, .int e, .null] [] w _
  refine v_aload_n rfl rfl ?_
  refine v_iload_n rfl rfl ?_
  have h1 : _ = some _ := hI.2 37 (by decide)
  refine v_callV rfl (W_X7_inForceOn_37 e hR hI) rfl rfl h1 rfl rfl (by omega) (fun rv w2 hq3 => ?_)
  obtain ⟨⟨z4, rfl, z4p0, z4p1⟩, rfl⟩ := hq3
  refine v_istore_n rfl (Nat.le_of_ble_eq_true rfl) ?_
  refine v_iload_n rfl rfl ?_
  refine r_if_ge rfl (fun t5 => ?_) (fun t5 => ?_)
  · refine v_aload_n rfl rfl ?_
    refine v_get rfl h1 rfl ?_
    refine v_iload_n rfl rfl ?_
    have h6 : _ = some _ := hI.2 39 (by decide)
    refine r_iaload rfl h6 hR.l5 (by omega) (by omega) (fun z7 z7m z7g => ?_)
    exact v_iret rfl ⟨⟨_, rfl, trivial⟩, rfl⟩
  · refine v_iconst (v := 0) rfl (by decide) ?_
    refine v_goto rfl ?_
    exact v_iret rfl ⟨⟨_, rfl, trivial⟩, rfl⟩
