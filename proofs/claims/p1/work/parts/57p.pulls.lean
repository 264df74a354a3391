set_option maxRecDepth 100000 in
theorem pm_bc : ∀ t, t < 16 → (((((((((nI t) - ((((nI t)).toUInt32 >>> (((1 : Int32)).toUInt32 &&& Int32.toUInt32 31)).toInt32 &&& (1431655765 : Int32))) &&& (858993459 : Int32)) + (((((nI t) - ((((nI t)).toUInt32 >>> (((1 : Int32)).toUInt32 &&& Int32.toUInt32 31)).toInt32 &&& (1431655765 : Int32)))).toUInt32 >>> (((2 : Int32)).toUInt32 &&& Int32.toUInt32 31)).toInt32 &&& (858993459 : Int32))) + ((((((nI t) - ((((nI t)).toUInt32 >>> (((1 : Int32)).toUInt32 &&& Int32.toUInt32 31)).toInt32 &&& (1431655765 : Int32))) &&& (858993459 : Int32)) + (((((nI t) - ((((nI t)).toUInt32 >>> (((1 : Int32)).toUInt32 &&& Int32.toUInt32 31)).toInt32 &&& (1431655765 : Int32)))).toUInt32 >>> (((2 : Int32)).toUInt32 &&& Int32.toUInt32 31)).toInt32 &&& (858993459 : Int32)))).toUInt32 >>> (((4 : Int32)).toUInt32 &&& Int32.toUInt32 31)).toInt32) &&& (252645135 : Int32)) + ((((((((nI t) - ((((nI t)).toUInt32 >>> (((1 : Int32)).toUInt32 &&& Int32.toUInt32 31)).toInt32 &&& (1431655765 : Int32))) &&& (858993459 : Int32)) + (((((nI t) - ((((nI t)).toUInt32 >>> (((1 : Int32)).toUInt32 &&& Int32.toUInt32 31)).toInt32 &&& (1431655765 : Int32)))).toUInt32 >>> (((2 : Int32)).toUInt32 &&& Int32.toUInt32 31)).toInt32 &&& (858993459 : Int32))) + ((((((nI t) - ((((nI t)).toUInt32 >>> (((1 : Int32)).toUInt32 &&& Int32.toUInt32 31)).toInt32 &&& (1431655765 : Int32))) &&& (858993459 : Int32)) + (((((nI t) - ((((nI t)).toUInt32 >>> (((1 : Int32)).toUInt32 &&& Int32.toUInt32 31)).toInt32 &&& (1431655765 : Int32)))).toUInt32 >>> (((2 : Int32)).toUInt32 &&& Int32.toUInt32 31)).toInt32 &&& (858993459 : Int32)))).toUInt32 >>> (((4 : Int32)).toUInt32 &&& Int32.toUInt32 31)).toInt32) &&& (252645135 : Int32))).toUInt32 >>> (((8 : Int32)).toUInt32 &&& Int32.toUInt32 31)).toInt32) + (((((((((nI t) - ((((nI t)).toUInt32 >>> (((1 : Int32)).toUInt32 &&& Int32.toUInt32 31)).toInt32 &&& (1431655765 : Int32))) &&& (858993459 : Int32)) + (((((nI t) - ((((nI t)).toUInt32 >>> (((1 : Int32)).toUInt32 &&& Int32.toUInt32 31)).toInt32 &&& (1431655765 : Int32)))).toUInt32 >>> (((2 : Int32)).toUInt32 &&& Int32.toUInt32 31)).toInt32 &&& (858993459 : Int32))) + ((((((nI t) - ((((nI t)).toUInt32 >>> (((1 : Int32)).toUInt32 &&& Int32.toUInt32 31)).toInt32 &&& (1431655765 : Int32))) &&& (858993459 : Int32)) + (((((nI t) - ((((nI t)).toUInt32 >>> (((1 : Int32)).toUInt32 &&& Int32.toUInt32 31)).toInt32 &&& (1431655765 : Int32)))).toUInt32 >>> (((2 : Int32)).toUInt32 &&& Int32.toUInt32 31)).toInt32 &&& (858993459 : Int32)))).toUInt32 >>> (((4 : Int32)).toUInt32 &&& Int32.toUInt32 31)).toInt32) &&& (252645135 : Int32)) + ((((((((nI t) - ((((nI t)).toUInt32 >>> (((1 : Int32)).toUInt32 &&& Int32.toUInt32 31)).toInt32 &&& (1431655765 : Int32))) &&& (858993459 : Int32)) + (((((nI t) - ((((nI t)).toUInt32 >>> (((1 : Int32)).toUInt32 &&& Int32.toUInt32 31)).toInt32 &&& (1431655765 : Int32)))).toUInt32 >>> (((2 : Int32)).toUInt32 &&& Int32.toUInt32 31)).toInt32 &&& (858993459 : Int32))) + ((((((nI t) - ((((nI t)).toUInt32 >>> (((1 : Int32)).toUInt32 &&& Int32.toUInt32 31)).toInt32 &&& (1431655765 : Int32))) &&& (858993459 : Int32)) + (((((nI t) - ((((nI t)).toUInt32 >>> (((1 : Int32)).toUInt32 &&& Int32.toUInt32 31)).toInt32 &&& (1431655765 : Int32)))).toUInt32 >>> (((2 : Int32)).toUInt32 &&& Int32.toUInt32 31)).toInt32 &&& (858993459 : Int32)))).toUInt32 >>> (((4 : Int32)).toUInt32 &&& Int32.toUInt32 31)).toInt32) &&& (252645135 : Int32))).toUInt32 >>> (((8 : Int32)).toUInt32 &&& Int32.toUInt32 31)).toInt32)).toUInt32 >>> (((16 : Int32)).toUInt32 &&& Int32.toUInt32 31)).toInt32) &&& (63 : Int32)) = nI (pm_pop t) := by decide +kernel
set_option maxRecDepth 100000 in
theorem W_J6_bitCount_0f7a4_x {sc : pm_S} {w : pm_W} {gi : Nat → Int32} {ga : Nat → List Int32} (x : Int32)  (hR : pm_Rg gi ga) (hI : pm_IX gi ga w) : pm_Mt sc 0 184 1 [.int x] w (fun rv w' => pm_wI (fun v => (∀ t, t < 16 → x = nI t → v = nI (pm_pop t))) rv ∧ w = w') := by
  intro d hd
  obtain ⟨g0a, g0b⟩ := hR.n0
  obtain ⟨g1a, g1b⟩ := hR.n1
  obtain ⟨g2a, g2b⟩ := hR.n2
  obtain ⟨g3a, g3b⟩ := hR.n3
  obtain ⟨g4a, g4b⟩ := hR.n4
  obtain ⟨g5a, g5b⟩ := hR.n5
  obtain ⟨g6a, g6b⟩ := hR.n6
  obtain ⟨g7a, g7b⟩ := hR.n7
  obtain ⟨g8a, g8b⟩ := hR.n8
  have k1 : (1 : Int32).toInt = 1 := by decide
  have k2 : (2 : Int32).toInt = 2 := by decide
  have k4 : (4 : Int32).toInt = 4 := by decide
  have k8 : (8 : Int32).toInt = 8 := by decide
  have k16 : (16 : Int32).toInt = 16 := by decide
  have k63 : (63 : Int32).toInt = 63 := by decide
  have k252645135 : (252645135 : Int32).toInt = 252645135 := by decide
  have k858993459 : (858993459 : Int32).toInt = 858993459 := by decide
  have k1431655765 : (1431655765 : Int32).toInt = 1431655765 := by decide
  show pm_V sc d 184 0 [.int x] [] w _
  refine v_iload_n rfl rfl ?_
  refine v_iload_n rfl rfl ?_
  refine v_iconst (v := 1) rfl (by decide) ?_
  refine v_iushr rfl ?_
  refine v_ldc_w (v := 1431655765) rfl (by decide) ?_
  refine v_iand rfl ?_
  refine v_isub rfl ?_
  refine v_istore_n rfl (Nat.le_of_ble_eq_true rfl) ?_
  refine v_iload_n rfl rfl ?_
  refine v_ldc_w (v := 858993459) rfl (by decide) ?_
  refine v_iand rfl ?_
  refine v_iload_n rfl rfl ?_
  refine v_iconst (v := 2) rfl (by decide) ?_
  refine v_iushr rfl ?_
  refine v_ldc_w (v := 858993459) rfl (by decide) ?_
  refine v_iand rfl ?_
  refine v_iadd rfl ?_
  refine v_istore_n rfl (Nat.le_of_ble_eq_true rfl) ?_
  refine v_iload_n rfl rfl ?_
  refine v_iload_n rfl rfl ?_
  refine v_iconst (v := 4) rfl (by decide) ?_
  refine v_iushr rfl ?_
  refine v_iadd rfl ?_
  refine v_ldc_w (v := 252645135) rfl (by decide) ?_
  refine v_iand rfl ?_
  refine v_istore_n rfl (Nat.le_of_ble_eq_true rfl) ?_
  refine v_iload_n rfl rfl ?_
  refine v_iload_n rfl rfl ?_
  refine v_bipush (v := 8) rfl (by decide) ?_
  refine v_iushr rfl ?_
  refine v_iadd rfl ?_
  refine v_istore_n rfl (Nat.le_of_ble_eq_true rfl) ?_
  refine v_iload_n rfl rfl ?_
  refine v_iload_n rfl rfl ?_
  refine v_bipush (v := 16) rfl (by decide) ?_
  refine v_iushr rfl ?_
  refine v_iadd rfl ?_
  refine v_istore_n rfl (Nat.le_of_ble_eq_true rfl) ?_
  refine v_iload_n rfl rfl ?_
  refine v_bipush (v := 63) rfl (by decide) ?_
  refine v_iand rfl ?_
  exact v_iret rfl ⟨⟨_, rfl, (by intro t ht e; subst e; exact pm_bc t ht)⟩, rfl⟩
set_option maxRecDepth 100000 in
theorem W_X10_coloursOfPick_1_x {sc : pm_S} {w : pm_W} {gi : Nat → Int32} {ga : Nat → List Int32} (y : Int32) (p0 : y.toInt ≤ 19) (p1 : 0 ≤ y.toInt) (hR : pm_Rg gi ga) (hI : pm_IX gi ga w) : pm_Mt sc 1 69 4 [.ref 1, .int y] w (fun rv w' => pm_wI (fun v => v = nI (hm (ga 15) y.toInt.toNat (gi 0).toInt.toNat)) rv ∧ w = w') := by
  intro d hd
  obtain ⟨g0a, g0b⟩ := hR.n0
  obtain ⟨g1a, g1b⟩ := hR.n1
  obtain ⟨g2a, g2b⟩ := hR.n2
  obtain ⟨g3a, g3b⟩ := hR.n3
  obtain ⟨g4a, g4b⟩ := hR.n4
  obtain ⟨g5a, g5b⟩ := hR.n5
  obtain ⟨g6a, g6b⟩ := hR.n6
  obtain ⟨g7a, g7b⟩ := hR.n7
  obtain ⟨g8a, g8b⟩ := hR.n8
  have k0 : (0 : Int32).toInt = 0 := by decide
  have k1 : (1 : Int32).toInt = 1 := by decide
  show pm_V sc d 69 0 [.ref 1, .int y, .null, .null] [] w _
  have hcl : sq_cl (ga 15) := by obtain ⟨l2, r2, -⟩ := hI.2 2 (by decide); exact ⟨l2, r2⟩
  refine v_iconst (v := 0) rfl (by decide) ?_
  refine v_istore_n rfl (Nat.le_of_ble_eq_true rfl) ?_
  refine v_iconst (v := 0) rfl (by decide) ?_
  refine v_istore_n rfl (Nat.le_of_ble_eq_true rfl) ?_
  have L3 : ∀ (n3 : Nat) (l1 : Int32) (l2 : Int32), 0 ≤ l2.toInt → l2.toInt ≤ 20 → (l2.toInt ≤ (gi 0).toInt) → (l1 = nI (hm (ga 15) y.toInt.toNat l2.toInt.toNat)) → (20 - l2.toInt).toNat < n3 → pm_V sc d 69 4 [.ref 1, .int y, .int l1, .int l2] [] w (fun rv w' => pm_wI (fun v => v = nI (hm (ga 15) y.toInt.toNat (gi 0).toInt.toNat)) rv ∧ w = w') := by
    intro n3
    induction n3 with
    | zero => intro l1 l2 t5 t6 t7 t8 hm4; exact absurd hm4 (Nat.not_lt_zero _)
    | succ n3 ih4_3 =>
      intro l1 l2 t5 t6 t7 t8 hm4
      refine v_iload_n rfl rfl ?_
      refine v_aload_n rfl rfl ?_
      have h9 : _ = some _ := hI.2 1 (by decide)
      refine v_get rfl h9 rfl ?_
      refine r_icmp_ge rfl (fun t10 => ?_) (fun t10 => ?_)
      · refine v_iload_n rfl rfl ?_
        exact v_iret rfl ⟨⟨_, rfl, (by rw [show (gi 0).toInt.toNat = l2.toInt.toNat by omega]; exact t8)⟩, rfl⟩
      · refine v_iload_n rfl rfl ?_
        refine v_iconst (v := 1) rfl (by decide) ?_
        refine v_aload_n rfl rfl ?_
        refine v_iload_n rfl rfl ?_
        refine v_iload_n rfl rfl ?_
        refine v_callV rfl (W_X10_colourAt_1_x l2 y (by omega) (by omega) (by omega) (by omega) hR hI) rfl rfl h9 rfl rfl (by omega) (fun rv w11 hq12 => ?_)
        obtain ⟨⟨z13, rfl, z13p0, z13p1, z13p2⟩, rfl⟩ := hq12
        skip
        refine v_ishl rfl ?_
        refine v_ior rfl ?_
        refine v_istore_n rfl (Nat.le_of_ble_eq_true rfl) ?_
        refine r_iinc rfl rfl (by decide) (by omega) (by omega) (fun z14 z14e => ?_)
        refine v_goto rfl ?_
        exact ih4_3 (l1 ||| ((1 : Int32) <<< (z13 &&& 31))) z14 (by omega) (by omega) (by omega) (by rw [show z14.toInt.toNat = l2.toInt.toNat + 1 by omega, ← hm_step hcl (z := z13) (x := l2.toInt.toNat) (y := y.toInt.toNat) z13p0, ← t8]) (by omega)
  exact L3 _ (0 : Int32) (0 : Int32) (by omega) (by omega) (by omega) (by rfl) (Nat.lt_add_one _)
set_option maxRecDepth 100000 in
theorem W_X11_pulls_0_x {sc : pm_S} {w w0 : pm_W} {gi : Nat → Int32} {ga : Nat → List Int32}   (hR : pm_Rg gi ga) (hI : pm_IX gi ga w) (hh : pm_hi w0 w) : pm_Mt sc 2 80 3 [.ref 0] w (fun rv w' => pm_wI (fun v => sq_Ppulls gi ga v) rv ∧ pm_IX gi ga w' ∧ pm_hi w0 w') := by
  intro d hd
  obtain ⟨g0a, g0b⟩ := hR.n0
  obtain ⟨g1a, g1b⟩ := hR.n1
  obtain ⟨g2a, g2b⟩ := hR.n2
  obtain ⟨g3a, g3b⟩ := hR.n3
  obtain ⟨g4a, g4b⟩ := hR.n4
  obtain ⟨g5a, g5b⟩ := hR.n5
  obtain ⟨g6a, g6b⟩ := hR.n6
  obtain ⟨g7a, g7b⟩ := hR.n7
  obtain ⟨g8a, g8b⟩ := hR.n8
  have k0 : (0 : Int32).toInt = 0 := by decide
  show pm_V sc d 80 0 [.ref 0, .null, .null] [] w _
  have hcl : sq_cl (ga 15) := by obtain ⟨l2, r2, -⟩ := hI.2 2 (by decide); exact ⟨l2, r2⟩
  refine v_iconst (v := 0) rfl (by decide) ?_
  refine v_istore_n rfl (Nat.le_of_ble_eq_true rfl) ?_
  refine v_iconst (v := 0) rfl (by decide) ?_
  refine v_istore_n rfl (Nat.le_of_ble_eq_true rfl) ?_
  have L3 : ∀ (n3 : Nat) (l1 : Int32) (l2 : Int32), 0 ≤ l1.toInt → l1.toInt ≤ 80 → 0 ≤ l2.toInt → l2.toInt ≤ 20 → (l2.toInt ≤ (gi 1).toInt) → (l1.toInt = (hn (ga 15) (gi 0).toInt.toNat (4 * l2.toInt.toNat) : Int)) → (20 - l2.toInt).toNat < n3 → pm_V sc d 80 4 [.ref 0, .int l1, .int l2] [] w (fun rv w' => pm_wI (fun v => sq_Ppulls gi ga v) rv ∧ pm_IX gi ga w' ∧ pm_hi w0 w') := by
    intro n3
    induction n3 with
    | zero => intro l1 l2 t5 t6 t7 t8 t9 t10 hm4; exact absurd hm4 (Nat.not_lt_zero _)
    | succ n3 ih4_3 =>
      intro l1 l2 t5 t6 t7 t8 t9 t10 hm4
      refine v_iload_n rfl rfl ?_
      refine v_aload_n rfl rfl ?_
      obtain ⟨v12, ⟨v12z, v12e⟩, h11⟩ := hI.2 0 (by decide)
      have v12z := v12z.imp i_eq.mp i_eq.mp
      rw [i_0, i_1] at v12z
      refine v_get rfl h11 rfl ?_
      have h13 : _ = some _ := hI.2 1 (by decide)
      refine v_get rfl h13 rfl ?_
      refine r_icmp_ge rfl (fun t14 => ?_) (fun t14 => ?_)
      · refine v_iload_n rfl rfl ?_
        exact v_iret rfl ⟨⟨_, rfl, (by unfold sq_Ppulls; rw [show (gi 1).toInt.toNat = l2.toInt.toNat by omega]; exact t10)⟩, hI, hh⟩
      · refine v_iload_n rfl rfl ?_
        refine v_aload_n rfl rfl ?_
        refine v_get rfl h11 rfl ?_
        refine v_iload_n rfl rfl ?_
        refine v_callV rfl (W_X10_coloursOfPick_1_x l2 (by omega) (by omega) hR hI) rfl rfl h13 rfl rfl (by omega) (fun rv w15 hq16 => ?_)
        obtain ⟨⟨z17, rfl, z17p0⟩, rfl⟩ := hq16
        skip
        refine v_callS rfl (W_J6_bitCount_0f7a4_x z17 hR hI) rfl rfl rfl rfl rfl (by omega) (fun rv w18 hq19 => ?_)
        obtain ⟨⟨z20, rfl, z20p0⟩, rfl⟩ := hq19
        have z20h := z20p0 _ (hm_lt hcl l2.toInt.toNat (gi 0).toInt.toNat) z17p0
        have z20l := pm_pop_le (hm (ga 15) l2.toInt.toNat (gi 0).toInt.toNat)
        have z20t : z20.toInt = (pm_pop (hm (ga 15) l2.toInt.toNat (gi 0).toInt.toNat) : Int) := by rw [z20h]; exact nI_toInt (by omega)
        have z20f4 := hn_4 (ga 15) (gi 0).toInt.toNat l2.toInt.toNat
        have z20le := hn_le (ga 15) (gi 0).toInt.toNat (4 * (l2.toInt.toNat + 1))
        refine r_iadd rfl (by omega) (by omega) (fun z21 z21e => ?_)
        refine v_istore_n rfl (Nat.le_of_ble_eq_true rfl) ?_
        refine r_iinc rfl rfl (by decide) (by omega) (by omega) (fun z22 z22e => ?_)
        refine v_goto rfl ?_
        exact ih4_3 z21 z22 (by omega) (by omega) (by omega) (by omega) (by omega) (by rw [show z22.toInt.toNat = l2.toInt.toNat + 1 by omega]; omega) (by omega)
  exact L3 _ (0 : Int32) (0 : Int32) (by omega) (by omega) (by omega) (by omega) (by omega) (by rfl) (Nat.lt_add_one _)
set_option maxRecDepth 100000 in
theorem W_X11_pickAndColour_0_x {sc : pm_S} {w : pm_W} {gi : Nat → Int32} {ga : Nat → List Int32} (p : Int32)  (hR : pm_Rg gi ga) (hI : pm_IX gi ga w) : pm_Mt sc 2 111 6 [.ref 0, .int p] w (fun rv w' => pm_wI (fun v => -9 ≤ v.toInt ∧ v.toInt ≤ 79 ∧ sq_Pk (ga 15) (gi 0).toInt.toNat (4 * (gi 1).toInt.toNat) p.toInt v.toInt (-9)) rv ∧ w = w') := by
  intro d hd
  obtain ⟨g0a, g0b⟩ := hR.n0
  obtain ⟨g1a, g1b⟩ := hR.n1
  obtain ⟨g2a, g2b⟩ := hR.n2
  obtain ⟨g3a, g3b⟩ := hR.n3
  obtain ⟨g4a, g4b⟩ := hR.n4
  obtain ⟨g5a, g5b⟩ := hR.n5
  obtain ⟨g6a, g6b⟩ := hR.n6
  obtain ⟨g7a, g7b⟩ := hR.n7
  obtain ⟨g8a, g8b⟩ := hR.n8
  have km9 : (-9 : Int32).toInt = -9 := by decide
  have k0 : (0 : Int32).toInt = 0 := by decide
  have k1 : (1 : Int32).toInt = 1 := by decide
  have k4 : (4 : Int32).toInt = 4 := by decide
  show pm_V sc d 111 0 [.ref 0, .int p, .null, .null, .null, .null] [] w _
  have hcl : sq_cl (ga 15) := by obtain ⟨l2, r2, -⟩ := hI.2 2 (by decide); exact ⟨l2, r2⟩
  refine v_iconst (v := 0) rfl (by decide) ?_
  refine v_istore_n rfl (Nat.le_of_ble_eq_true rfl) ?_
  refine v_iconst (v := 0) rfl (by decide) ?_
  refine v_istore_n rfl (Nat.le_of_ble_eq_true rfl) ?_
  have L5 : ∀ (n5 : Nat) (l1 : Int32) (l2 : Int32) (u3 : Value) (u4 : Value), 0 ≤ l1.toInt → l1.toInt ≤ 80 → 0 ≤ l2.toInt → l2.toInt ≤ 20 → (l2.toInt ≤ (gi 1).toInt) → (l1.toInt ≤ 4 * l2.toInt) → (l1.toInt = (hn (ga 15) (gi 0).toInt.toNat (4 * l2.toInt.toNat) : Int)) → (∀ q, q < 4 * l2.toInt.toNat → hb (ga 15) (gi 0).toInt.toNat q = true → ¬ (hn (ga 15) (gi 0).toInt.toNat q : Int) = p.toInt) → (20 - l2.toInt).toNat < n5 → pm_V sc d 111 4 [.ref 0, .int p, .int l1, .int l2, u3, u4] [] w (fun rv w' => pm_wI (fun v => -9 ≤ v.toInt ∧ v.toInt ≤ 79 ∧ sq_Pk (ga 15) (gi 0).toInt.toNat (4 * (gi 1).toInt.toNat) p.toInt v.toInt (-9)) rv ∧ w = w') := by
    intro n5
    induction n5 with
    | zero => intro l1 l2 u3 u4 t7 t8 t9 t10 t11 t12 t13 t14 hm6; exact absurd hm6 (Nat.not_lt_zero _)
    | succ n5 ih4_5 =>
      intro l1 l2 u3 u4 t7 t8 t9 t10 t11 t12 t13 t14 hm6
      refine v_iload_n rfl rfl ?_
      refine v_aload_n rfl rfl ?_
      obtain ⟨v16, ⟨v16z, v16e⟩, h15⟩ := hI.2 0 (by decide)
      have v16z := v16z.imp i_eq.mp i_eq.mp
      rw [i_0, i_1] at v16z
      refine v_get rfl h15 rfl ?_
      have h17 : _ = some _ := hI.2 1 (by decide)
      refine v_get rfl h17 rfl ?_
      refine r_icmp_ge rfl (fun t18 => ?_) (fun t18 => ?_)
      · refine v_bipush (v := (-9)) rfl (by decide) ?_
        exact v_iret rfl ⟨⟨_, rfl, (by omega), (by omega), (by exact Or.inr ⟨by omega, fun q hq => t14 q (by omega)⟩)⟩, rfl⟩
      · refine v_aload_n rfl rfl ?_
        refine v_get rfl h15 rfl ?_
        refine v_iload_n rfl rfl ?_
        refine v_callV rfl (W_X10_coloursOfPick_1_x l2 (by omega) (by omega) hR hI) rfl rfl h17 rfl rfl (by omega) (fun rv w19 hq20 => ?_)
        obtain ⟨⟨z21, rfl, z21p0⟩, rfl⟩ := hq20
        skip
        refine v_istore rfl (Nat.le_of_ble_eq_true rfl) ?_
        refine v_iconst (v := 0) rfl (by decide) ?_
        refine v_istore rfl (Nat.le_of_ble_eq_true rfl) ?_
        have L24 : ∀ (n24 : Nat) (l22 : Int32) (l23 : Int32), 0 ≤ l22.toInt → l22.toInt ≤ 80 → 0 ≤ l23.toInt → l23.toInt ≤ 4 → (l22.toInt ≤ 4 * l2.toInt + l23.toInt) → (l22.toInt = (hn (ga 15) (gi 0).toInt.toNat (4 * l2.toInt.toNat + l23.toInt.toNat) : Int)) → (∀ q, q < 4 * l2.toInt.toNat + l23.toInt.toNat → hb (ga 15) (gi 0).toInt.toNat q = true → ¬ (hn (ga 15) (gi 0).toInt.toNat q : Int) = p.toInt) → (4 - l23.toInt).toNat < n24 → pm_V sc d 111 28 [.ref 0, .int p, .int l22, .int l2, .int z21, .int l23] [] w (fun rv w' => pm_wI (fun v => -9 ≤ v.toInt ∧ v.toInt ≤ 79 ∧ sq_Pk (ga 15) (gi 0).toInt.toNat (4 * (gi 1).toInt.toNat) p.toInt v.toInt (-9)) rv ∧ w = w') := by
          intro n24
          induction n24 with
          | zero => intro l22 l23 t26 t27 t28 t29 t30 t31 t32 hm25; exact absurd hm25 (Nat.not_lt_zero _)
          | succ n24 ih28_24 =>
            intro l22 l23 t26 t27 t28 t29 t30 t31 t32 hm25
            refine v_iload rfl rfl ?_
            refine v_iconst (v := 4) rfl (by decide) ?_
            refine r_icmp_ge rfl (fun t33 => ?_) (fun t33 => ?_)
            · refine r_iinc rfl rfl (by decide) (by omega) (by omega) (fun z34 z34e => ?_)
              refine v_goto rfl ?_
              exact ih4_5 l22 z34 (.int z21) (.int l23) (by omega) (by omega) (by omega) (by omega) (by omega) (by omega) (by rw [show 4 * z34.toInt.toNat = 4 * l2.toInt.toNat + l23.toInt.toNat by omega]; exact t31) (by rw [show 4 * z34.toInt.toNat = 4 * l2.toInt.toNat + l23.toInt.toNat by omega]; exact t32) (by omega)
            · refine v_iload rfl rfl ?_
              refine v_iload rfl rfl ?_
              refine v_ishr rfl ?_
              refine v_iconst (v := 1) rfl (by decide) ?_
              refine v_iand rfl ?_
              obtain ⟨b35, b35e⟩ : ∃ b : Int32, b = ((z21 >>> (l23 &&& 31)) &&& (1 : Int32)) := ⟨_, rfl⟩
              rw [← b35e]
              have b35h := hb_bit (W := (gi 0).toInt.toNat) hcl z21p0 (show 0 ≤ l23.toInt by omega) (show l23.toInt < 4 by omega)
              rw [← b35e] at b35h
              have b35s := hn_s (ga 15) (gi 0).toInt.toNat (4 * l2.toInt.toNat + l23.toInt.toNat)
              refine r_if_ne rfl (fun t36 => ?_) (fun t36 => ?_)
              · refine v_iload_n rfl rfl ?_
                refine v_iload_n rfl rfl ?_
                refine r_icmp_ne rfl (fun t37 => ?_) (fun t37 => ?_)
                · refine r_iinc rfl rfl (by decide) (by omega) (by omega) (fun z38 z38e => ?_)
                  refine r_iinc rfl rfl (by decide) (by omega) (by omega) (fun z39 z39e => ?_)
                  refine v_goto rfl ?_
                  exact ih28_24 z38 z39 (by omega) (by omega) (by omega) (by omega) (by omega) (by
                      rw [show 4 * l2.toInt.toNat + z39.toInt.toNat = 4 * l2.toInt.toNat + l23.toInt.toNat + 1 by omega, b35s]
                      rcases b35h with ⟨g1, g2⟩ | ⟨g1, g2⟩
                      · rw [if_pos g2]; omega
                      · rw [if_neg (by rw [g2]; decide)]; omega) (by
                      intro q hq h1
                      by_cases e : q < 4 * l2.toInt.toNat + l23.toInt.toNat
                      · exact t32 q e h1
                      · have e2 : q = 4 * l2.toInt.toNat + l23.toInt.toNat := by omega
                        subst e2
                        rcases b35h with ⟨g1, g2⟩ | ⟨g1, g2⟩
                        · rw [← t31]; omega
                        · rw [g2] at h1; exact absurd h1 (by decide)) (by omega)
                · refine v_iload_n rfl rfl ?_
                  refine v_iconst (v := 4) rfl (by decide) ?_
                  refine r_imulR 4 rfl rfl (by omega) (by omega) (fun z40 z40e => ?_)
                  refine v_iload rfl rfl ?_
                  refine r_iadd rfl (by omega) (by omega) (fun z41 z41e => ?_)
                  exact v_iret rfl ⟨⟨_, rfl, (by omega), (by omega), (by
                      rcases b35h with ⟨g1, g2⟩ | ⟨g1, g2⟩
                      · exact Or.inl ⟨4 * l2.toInt.toNat + l23.toInt.toNat, by omega, by omega, g2, by rw [← t31]; omega⟩
                      · exact absurd g1 (by omega))⟩, rfl⟩
              · refine v_goto rfl ?_
                refine r_iinc rfl rfl (by decide) (by omega) (by omega) (fun z42 z42e => ?_)
                refine v_goto rfl ?_
                exact ih28_24 l22 z42 (by omega) (by omega) (by omega) (by omega) (by omega) (by
                    rw [show 4 * l2.toInt.toNat + z42.toInt.toNat = 4 * l2.toInt.toNat + l23.toInt.toNat + 1 by omega, b35s]
                    rcases b35h with ⟨g1, g2⟩ | ⟨g1, g2⟩
                    · rw [if_pos g2]; omega
                    · rw [if_neg (by rw [g2]; decide)]; omega) (by
                    intro q hq h1
                    by_cases e : q < 4 * l2.toInt.toNat + l23.toInt.toNat
                    · exact t32 q e h1
                    · have e2 : q = 4 * l2.toInt.toNat + l23.toInt.toNat := by omega
                      subst e2
                      rcases b35h with ⟨g1, g2⟩ | ⟨g1, g2⟩
                      · rw [← t31]; omega
                      · rw [g2] at h1; exact absurd h1 (by decide)) (by omega)
        exact L24 _ l1 (0 : Int32) (by omega) (by omega) (by omega) (by omega) (by omega) (by rw [show (0 : Int32).toInt.toNat = 0 from rfl, Nat.add_zero]; exact t13) (by rw [show (0 : Int32).toInt.toNat = 0 from rfl, Nat.add_zero]; exact t14) (Nat.lt_add_one _)
  exact L5 _ (0 : Int32) (0 : Int32) (.null) (.null) (by omega) (by omega) (by omega) (by omega) (by omega) (by omega) (by rfl) (by intro q hq; rw [show (0 : Int32).toInt.toNat = 0 from rfl] at hq; omega) (Nat.lt_add_one _)
set_option maxRecDepth 100000 in
theorem W_X11_pullOf_0_x {sc : pm_S} {w w0 : pm_W} {gi : Nat → Int32} {ga : Nat → List Int32} (i : Int32) (k : Int32)  (hR : pm_Rg gi ga) (hI : pm_IX gi ga w) (hh : pm_hi w0 w) : pm_Mt sc 3 81 4 [.ref 0, .int i, .int k] w (fun rv w' => pm_wI (fun v => sq_PpullOf gi ga i k v) rv ∧ pm_IX gi ga w' ∧ pm_hi w0 w') := by
  intro d hd
  obtain ⟨g0a, g0b⟩ := hR.n0
  obtain ⟨g1a, g1b⟩ := hR.n1
  obtain ⟨g2a, g2b⟩ := hR.n2
  obtain ⟨g3a, g3b⟩ := hR.n3
  obtain ⟨g4a, g4b⟩ := hR.n4
  obtain ⟨g5a, g5b⟩ := hR.n5
  obtain ⟨g6a, g6b⟩ := hR.n6
  obtain ⟨g7a, g7b⟩ := hR.n7
  obtain ⟨g8a, g8b⟩ := hR.n8
  have km9 : (-9 : Int32).toInt = -9 := by decide
  have km2 : (-2 : Int32).toInt = -2 := by decide
  have km1 : (-1 : Int32).toInt = -1 := by decide
  have k2 : (2 : Int32).toInt = 2 := by decide
  have k4 : (4 : Int32).toInt = 4 := by decide
  show pm_V sc d 81 0 [.ref 0, .int i, .int k, .null] [] w _
  refine v_iload_n rfl rfl ?_
  refine r_if_ge rfl (fun t1 => ?_) (fun t1 => ?_)
  · refine v_aload_n rfl rfl ?_
    refine v_iload_n rfl rfl ?_
    obtain ⟨v3, ⟨v3z, v3e⟩, h2⟩ := hI.2 0 (by decide)
    have v3z := v3z.imp i_eq.mp i_eq.mp
    rw [i_0, i_1] at v3z
    refine v_callV rfl (W_X11_pickAndColour_0_x i hR hI) rfl rfl h2 rfl rfl (by omega) (fun rv w4 hq5 => ?_)
    obtain ⟨⟨z6, rfl, z6p0, z6p1, z6p2⟩, rfl⟩ := hq5
    skip
    refine v_istore_n rfl (Nat.le_of_ble_eq_true rfl) ?_
    refine v_iload_n rfl rfl ?_
    refine r_if_ge rfl (fun t7 => ?_) (fun t7 => ?_)
    · refine v_iload_n rfl rfl ?_
      refine v_iconst (v := 2) rfl (by decide) ?_
      refine v_callS rfl (W_X11_isPlace k (2 : Int32) hR hI) rfl rfl rfl rfl rfl (by omega) (fun rv w8 hq9 => ?_)
      obtain ⟨⟨z10, rfl, z10p0⟩, rfl⟩ := hq9
      refine r_if_ne rfl (fun t11 => ?_) (fun t11 => ?_)
      · refine v_iload_n rfl rfl ?_
        refine r_if_ne rfl (fun t12 => ?_) (fun t12 => ?_)
        · refine v_iload_n rfl rfl ?_
          refine v_iconst (v := 4) rfl (by decide) ?_
          refine r_irem rfl (by omega) (by omega) (fun z13 z13m z13a z13b z13c => ?_)
          rw [show (4 : Int32).toInt = 4 from rfl] at z13m
          exact v_iret rfl ⟨⟨_, rfl, (by
              rcases z6p2 with ⟨q, h1, h2, h3, h4⟩ | ⟨h1, h2⟩
              · refine Or.inr ⟨by omega, q, h1, h3, h4, ?_⟩
                first
                | exact Or.inl ⟨by omega, by omega⟩
                | exact Or.inr (Or.inl ⟨by omega, by omega⟩)
                | exact Or.inr (Or.inr ⟨by omega, by omega⟩)
              · exfalso; omega)⟩, hI, hh⟩
        · refine v_iload_n rfl rfl ?_
          refine v_iconst (v := 4) rfl (by decide) ?_
          refine r_idiv rfl (by omega) (by omega) (fun z14 z14m z14a z14b => ?_)
          rw [show (4 : Int32).toInt = 4 from rfl] at z14m
          refine v_goto rfl ?_
          exact v_iret rfl ⟨⟨_, rfl, (by
              rcases z6p2 with ⟨q, h1, h2, h3, h4⟩ | ⟨h1, h2⟩
              · refine Or.inr ⟨by omega, q, h1, h3, h4, ?_⟩
                first
                | exact Or.inl ⟨by omega, by omega⟩
                | exact Or.inr (Or.inl ⟨by omega, by omega⟩)
                | exact Or.inr (Or.inr ⟨by omega, by omega⟩)
              · exfalso; omega)⟩, hI, hh⟩
      · refine v_aload_n rfl rfl ?_
        refine v_bipush (v := (-2)) rfl (by decide) ?_
        refine v_callV rfl (c_X_refuse (-2 : Int32) (by unfold pm_isR; first | decide | exact Or.inl rfl) hR hI) rfl rfl h2 rfl rfl (by omega) (fun rv w15 hq16 => ?_)
        obtain ⟨rfl, hI17, hh18x⟩ := hq16
        have hI17 : pm_IX gi ga w15 := hI17
        have hh18 := hh.tr hh18x
        exact v_iret rfl ⟨⟨_, rfl, (by
            rcases z6p2 with ⟨q, h1, h2, h3, h4⟩ | ⟨h1, h2⟩
            · refine Or.inr ⟨by omega, q, h1, h3, h4, ?_⟩
              first
              | exact Or.inl ⟨by omega, by omega⟩
              | exact Or.inr (Or.inl ⟨by omega, by omega⟩)
              | exact Or.inr (Or.inr ⟨by omega, by omega⟩)
            · exfalso; omega)⟩, hI17, hh18⟩
    · refine v_aload_n rfl rfl ?_
      refine v_iconst (v := (-1)) rfl (by decide) ?_
      refine v_callV rfl (c_X_refuse (-1 : Int32) (by unfold pm_isR; first | decide | exact Or.inl rfl) hR hI) rfl rfl h2 rfl rfl (by omega) (fun rv w19 hq20 => ?_)
      obtain ⟨rfl, hI21, hh22x⟩ := hq20
      have hI21 : pm_IX gi ga w19 := hI21
      have hh22 := hh.tr hh22x
      exact v_iret rfl ⟨⟨_, rfl, (by
          first
          | exact Or.inl ⟨Or.inl (by omega), by omega⟩
          | (rcases z6p2 with ⟨q, h1, h2, h3, h4⟩ | ⟨h1, h2⟩
             · exfalso; omega
             · exact Or.inl ⟨Or.inr h2, by omega⟩))⟩, hI21, hh22⟩
  · refine v_bipush (v := (-9)) rfl (by decide) ?_
    refine v_goto rfl ?_
    refine v_istore_n rfl (Nat.le_of_ble_eq_true rfl) ?_
    refine v_iload_n rfl rfl ?_
    refine r_if_ge rfl (fun hx => absurd hx (by omega)) (fun _ => ?_)
    refine v_aload_n rfl rfl ?_
    refine v_iconst (v := (-1)) rfl (by decide) ?_
    obtain ⟨v24, ⟨v24z, v24e⟩, h23⟩ := hI.2 0 (by decide)
    have v24z := v24z.imp i_eq.mp i_eq.mp
    rw [i_0, i_1] at v24z
    refine v_callV rfl (c_X_refuse (-1 : Int32) (by unfold pm_isR; first | decide | exact Or.inl rfl) hR hI) rfl rfl h23 rfl rfl (by omega) (fun rv w25 hq26 => ?_)
    obtain ⟨rfl, hI27, hh28x⟩ := hq26
    have hI27 : pm_IX gi ga w25 := hI27
    have hh28 := hh.tr hh28x
    exact v_iret rfl ⟨⟨_, rfl, (by
        first
        | exact Or.inl ⟨Or.inl (by omega), by omega⟩
        | (rcases z6p2 with ⟨q, h1, h2, h3, h4⟩ | ⟨h1, h2⟩
           · exfalso; omega
           · exact Or.inl ⟨Or.inr h2, by omega⟩))⟩, hI27, hh28⟩
set_option maxRecDepth 100000 in
theorem W_X12_pullAt_59_x {sc : pm_S} {w w0 : pm_W} {gi : Nat → Int32} {ga : Nat → List Int32} (i : Int32)  (hR : pm_Rg gi ga) (hI : pm_IM gi ga w) (hh : pm_lo w0 w) : pm_Mt sc 3 135 5 [.ref 59, .int i] w (fun rv w' => pm_wI (fun v => -81 ≤ v.toInt ∧ v.toInt ≤ 79 ∧ sq_Pk (ga 15) (gi 0).toInt.toNat (4 * (gi 1).toInt.toNat) i.toInt v.toInt (-1 - (hn (ga 15) (gi 0).toInt.toNat (4 * (gi 1).toInt.toNat) : Int))) rv ∧ pm_IM gi ga w' ∧ pm_lo w0 w') := by
  intro d hd
  obtain ⟨g0a, g0b⟩ := hR.n0
  obtain ⟨g1a, g1b⟩ := hR.n1
  obtain ⟨g2a, g2b⟩ := hR.n2
  obtain ⟨g3a, g3b⟩ := hR.n3
  obtain ⟨g4a, g4b⟩ := hR.n4
  obtain ⟨g5a, g5b⟩ := hR.n5
  obtain ⟨g6a, g6b⟩ := hR.n6
  obtain ⟨g7a, g7b⟩ := hR.n7
  obtain ⟨g8a, g8b⟩ := hR.n8
  have km1 : (-1 : Int32).toInt = -1 := by decide
  have k0 : (0 : Int32).toInt = 0 := by decide
  have k4 : (4 : Int32).toInt = 4 := by decide
  show pm_V sc d 135 0 [.ref 59, .int i, .null, .null, .null] [] w _
  have hcl : sq_cl (ga 15) := by obtain ⟨l2, r2, -⟩ := hI.2.1 60 (by decide) (by decide); exact ⟨l2, r2⟩
  refine v_aload_n rfl rfl ?_
  obtain ⟨v2, v3, v4, v5, v6, v7, v8, v9, ⟨v2z, v2e⟩, ⟨⟨v3a, v3b⟩, v3e⟩, ⟨⟨v4a, v4b⟩, v4e⟩, ⟨v6a, v6b⟩, ⟨v9a, v9b⟩, h1⟩ := hI.2.1 59 (by decide) (by decide)
  have v2z := v2z.imp i_eq.mp i_eq.mp
  rw [i_0, i_1] at v2z
  refine v_callV rfl (W_X12_findCords_59_x  hR hI hh) rfl rfl h1 rfl rfl (by omega) (fun rv w10 hq11 => ?_)
  obtain ⟨rfl, hI13, hh14, ⟨v15, v16, v17, v18, v19, v20, v21, v22, fs23, os24, h25, h26, h27, fs23l, os24l, fs23r, os24r, v19a, v19b, t28, t29, v15e, t30, t31, v16e, t32, t33, v17e, t34, t35, v19k⟩⟩ := hq11
  refine v_iconst (v := 0) rfl (by decide) ?_
  refine v_istore_n rfl (Nat.le_of_ble_eq_true rfl) ?_
  refine v_iconst (v := 0) rfl (by decide) ?_
  refine v_istore_n rfl (Nat.le_of_ble_eq_true rfl) ?_
  have L39 : ∀ (n39 : Nat) (l36 : Int32) (l37 : Int32) (u38 : Value), 0 ≤ l36.toInt → l36.toInt ≤ 80 → 0 ≤ l37.toInt → l37.toInt ≤ 20 → (l37.toInt ≤ (gi 1).toInt) → (l36.toInt ≤ 4 * l37.toInt) → (l36.toInt = (hn (ga 15) (gi 0).toInt.toNat (4 * l37.toInt.toNat) : Int)) → (∀ q, q < 4 * l37.toInt.toNat → hb (ga 15) (gi 0).toInt.toNat q = true → ¬ (hn (ga 15) (gi 0).toInt.toNat q : Int) = i.toInt) → (20 - l37.toInt).toNat < n39 → pm_V sc d 135 8 [.ref 59, .int i, .int l36, .int l37, u38] [] w10 (fun rv w' => pm_wI (fun v => -81 ≤ v.toInt ∧ v.toInt ≤ 79 ∧ sq_Pk (ga 15) (gi 0).toInt.toNat (4 * (gi 1).toInt.toNat) i.toInt v.toInt (-1 - (hn (ga 15) (gi 0).toInt.toNat (4 * (gi 1).toInt.toNat) : Int))) rv ∧ pm_IM gi ga w' ∧ pm_lo w0 w') := by
    intro n39
    induction n39 with
    | zero => intro l36 l37 u38 t41 t42 t43 t44 t45 t46 t47 t48 hm40; exact absurd hm40 (Nat.not_lt_zero _)
    | succ n39 ih8_39 =>
      intro l36 l37 u38 t41 t42 t43 t44 t45 t46 t47 t48 hm40
      refine v_iload_n rfl rfl ?_
      refine v_aload_n rfl rfl ?_
      refine v_get rfl h25 rfl ?_
      refine r_icmp_ge rfl (fun t49 => ?_) (fun t49 => ?_)
      · refine v_iconst (v := (-1)) rfl (by decide) ?_
        refine v_iload_n rfl rfl ?_
        refine r_isub rfl (by omega) (by omega) (fun z50 z50e => ?_)
        exact v_iret rfl ⟨⟨_, rfl, (by omega), (by omega), (by
            refine Or.inr ⟨?_, fun q hq => t48 q (by omega)⟩
            rw [show 4 * (gi 1).toInt.toNat = 4 * l37.toInt.toNat by omega, ← t47]; omega)⟩, hI13, hh14⟩
      · refine v_iconst (v := 0) rfl (by decide) ?_
        refine v_istore rfl (Nat.le_of_ble_eq_true rfl) ?_
        have L53 : ∀ (n53 : Nat) (l51 : Int32) (l52 : Int32), 0 ≤ l51.toInt → l51.toInt ≤ 80 → 0 ≤ l52.toInt → l52.toInt ≤ 4 → (l51.toInt ≤ 4 * l37.toInt + l52.toInt) → (l51.toInt = (hn (ga 15) (gi 0).toInt.toNat (4 * l37.toInt.toNat + l52.toInt.toNat) : Int)) → (∀ q, q < 4 * l37.toInt.toNat + l52.toInt.toNat → hb (ga 15) (gi 0).toInt.toNat q = true → ¬ (hn (ga 15) (gi 0).toInt.toNat q : Int) = i.toInt) → (4 - l52.toInt).toNat < n53 → pm_V sc d 135 19 [.ref 59, .int i, .int l51, .int l37, .int l52] [] w10 (fun rv w' => pm_wI (fun v => -81 ≤ v.toInt ∧ v.toInt ≤ 79 ∧ sq_Pk (ga 15) (gi 0).toInt.toNat (4 * (gi 1).toInt.toNat) i.toInt v.toInt (-1 - (hn (ga 15) (gi 0).toInt.toNat (4 * (gi 1).toInt.toNat) : Int))) rv ∧ pm_IM gi ga w' ∧ pm_lo w0 w') := by
          intro n53
          induction n53 with
          | zero => intro l51 l52 t55 t56 t57 t58 t59 t60 t61 hm54; exact absurd hm54 (Nat.not_lt_zero _)
          | succ n53 ih19_53 =>
            intro l51 l52 t55 t56 t57 t58 t59 t60 t61 hm54
            refine v_iload rfl rfl ?_
            refine v_iconst (v := 4) rfl (by decide) ?_
            refine r_icmp_ge rfl (fun t62 => ?_) (fun t62 => ?_)
            · refine r_iinc rfl rfl (by decide) (by omega) (by omega) (fun z63 z63e => ?_)
              refine v_goto rfl ?_
              exact ih8_39 l51 z63 (.int l52) (by omega) (by omega) (by omega) (by omega) (by omega) (by omega) (by rw [show 4 * z63.toInt.toNat = 4 * l37.toInt.toNat + l52.toInt.toNat by omega]; exact t60) (by rw [show 4 * z63.toInt.toNat = 4 * l37.toInt.toNat + l52.toInt.toNat by omega]; exact t61) (by omega)
            · refine v_aload_n rfl rfl ?_
              refine v_iload_n rfl rfl ?_
              refine v_iload rfl rfl ?_
              obtain ⟨sq65l, sq65r, h64⟩ := hI13.2.1 60 (by decide) (by decide)
              refine v_callV rfl (W_X12_pullOfPick_59_x l37 l52 v15 v16 v17 v18 v19 v20 v21 v22 (ga 15) fs23 (by omega) (by omega) (by omega) (by omega) (by omega) (by omega) (by omega) (by omega) (by omega) (by omega) (by omega) (by omega) h25 h64 sq65l h26 fs23l fs23r hR hI13) rfl rfl h25 rfl rfl (by omega) (fun rv w66 hq67 => ?_)
              obtain ⟨⟨z68, rfl, z68p0⟩, rfl⟩ := hq67
              have z68h : (¬ z68.toInt = 0 ∧ hb (ga 15) (gi 0).toInt.toNat (4 * l37.toInt.toNat + l52.toInt.toNat) = true) ∨ (z68.toInt = 0 ∧ hb (ga 15) (gi 0).toInt.toNat (4 * l37.toInt.toNat + l52.toInt.toNat) = false) := by
                have q := hb_pk (y := l37.toInt.toNat) (c := l52) hcl v19k (by omega) (by omega) (by omega) (by omega)
                rw [← z68p0] at q
                by_cases e : z68.toInt = 0
                · exact Or.inr ⟨e, q.mp (i_eq.mpr (by rw [e]; rfl))⟩
                · refine Or.inl ⟨e, ?_⟩
                  cases g : hb (ga 15) (gi 0).toInt.toNat (4 * l37.toInt.toNat + l52.toInt.toNat) with
                  | true => rfl
                  | false => exact absurd (congrArg Int32.toInt (q.mpr g)) e
              have z68s := hn_s (ga 15) (gi 0).toInt.toNat (4 * l37.toInt.toNat + l52.toInt.toNat)
              refine r_if_eq rfl (fun t69 => ?_) (fun t69 => ?_)
              · refine r_iinc rfl rfl (by decide) (by omega) (by omega) (fun z70 z70e => ?_)
                refine v_goto rfl ?_
                exact ih19_53 l51 z70 (by omega) (by omega) (by omega) (by omega) (by omega) (by
                    rw [show 4 * l37.toInt.toNat + z70.toInt.toNat = 4 * l37.toInt.toNat + l52.toInt.toNat + 1 by omega, z68s]
                    rcases z68h with ⟨g1, g2⟩ | ⟨g1, g2⟩
                    · rw [if_pos g2]; omega
                    · rw [if_neg (by rw [g2]; decide)]; omega) (by
                    intro q hq h1
                    by_cases e : q < 4 * l37.toInt.toNat + l52.toInt.toNat
                    · exact t61 q e h1
                    · have e2 : q = 4 * l37.toInt.toNat + l52.toInt.toNat := by omega
                      subst e2
                      rcases z68h with ⟨g1, g2⟩ | ⟨g1, g2⟩
                      · rw [← t60]; omega
                      · rw [g2] at h1; exact absurd h1 (by decide)) (by omega)
              · refine v_iload_n rfl rfl ?_
                refine v_iload_n rfl rfl ?_
                refine r_icmp_ne rfl (fun t71 => ?_) (fun t71 => ?_)
                · refine r_iinc rfl rfl (by decide) (by omega) (by omega) (fun z72 z72e => ?_)
                  refine r_iinc rfl rfl (by decide) (by omega) (by omega) (fun z73 z73e => ?_)
                  refine v_goto rfl ?_
                  exact ih19_53 z72 z73 (by omega) (by omega) (by omega) (by omega) (by omega) (by
                      rw [show 4 * l37.toInt.toNat + z73.toInt.toNat = 4 * l37.toInt.toNat + l52.toInt.toNat + 1 by omega, z68s]
                      rcases z68h with ⟨g1, g2⟩ | ⟨g1, g2⟩
                      · rw [if_pos g2]; omega
                      · rw [if_neg (by rw [g2]; decide)]; omega) (by
                      intro q hq h1
                      by_cases e : q < 4 * l37.toInt.toNat + l52.toInt.toNat
                      · exact t61 q e h1
                      · have e2 : q = 4 * l37.toInt.toNat + l52.toInt.toNat := by omega
                        subst e2
                        rcases z68h with ⟨g1, g2⟩ | ⟨g1, g2⟩
                        · rw [← t60]; omega
                        · rw [g2] at h1; exact absurd h1 (by decide)) (by omega)
                · refine v_iconst (v := 4) rfl (by decide) ?_
                  refine v_iload_n rfl rfl ?_
                  refine r_imulL 4 rfl rfl (by omega) (by omega) (fun z74 z74e => ?_)
                  refine v_iload rfl rfl ?_
                  refine r_iadd rfl (by omega) (by omega) (fun z75 z75e => ?_)
                  exact v_iret rfl ⟨⟨_, rfl, (by omega), (by omega), (by
                      first
                      | (refine Or.inr ⟨?_, fun q hq => t48 q (by omega)⟩
                         rw [show 4 * (gi 1).toInt.toNat = 4 * l37.toInt.toNat by omega, ← t47]; omega)
                      | (rcases z68h with ⟨g1, g2⟩ | ⟨g1, g2⟩
                         · exact Or.inl ⟨4 * l37.toInt.toNat + l52.toInt.toNat, by omega, by omega, g2, by rw [← t60]; omega⟩
                         · exact absurd g1 (by omega)))⟩, hI13, hh14⟩
        exact L53 _ l36 (0 : Int32) (by omega) (by omega) (by omega) (by omega) (by omega) (by rw [show (0 : Int32).toInt.toNat = 0 from rfl, Nat.add_zero]; exact t47) (by rw [show (0 : Int32).toInt.toNat = 0 from rfl, Nat.add_zero]; exact t48) (Nat.lt_add_one _)
  exact L39 _ (0 : Int32) (0 : Int32) (.null) (by omega) (by omega) (by omega) (by omega) (by omega) (by omega) (by rfl) (by intro q hq; rw [show (0 : Int32).toInt.toNat = 0 from rfl] at hq; omega) (Nat.lt_add_one _)
set_option maxRecDepth 100000 in
theorem W_X12_pulls_59_x {sc : pm_S} {w w0 : pm_W} {gi : Nat → Int32} {ga : Nat → List Int32}   (hR : pm_Rg gi ga) (hI : pm_IM gi ga w) (hh : pm_lo w0 w) : pm_Mt sc 4 136 1 [.ref 59] w (fun rv w' => pm_wI (fun v => sq_Ppulls gi ga v) rv ∧ pm_IM gi ga w' ∧ pm_lo w0 w') := by
  intro d hd
  obtain ⟨g0a, g0b⟩ := hR.n0
  obtain ⟨g1a, g1b⟩ := hR.n1
  obtain ⟨g2a, g2b⟩ := hR.n2
  obtain ⟨g3a, g3b⟩ := hR.n3
  obtain ⟨g4a, g4b⟩ := hR.n4
  obtain ⟨g5a, g5b⟩ := hR.n5
  obtain ⟨g6a, g6b⟩ := hR.n6
  obtain ⟨g7a, g7b⟩ := hR.n7
  obtain ⟨g8a, g8b⟩ := hR.n8
  have km1 : (-1 : Int32).toInt = -1 := by decide
  show pm_V sc d 136 0 [.ref 59] [] w _
  refine v_iconst (v := (-1)) rfl (by decide) ?_
  refine v_aload_n rfl rfl ?_
  refine v_iconst (v := (-1)) rfl (by decide) ?_
  obtain ⟨v2, v3, v4, v5, v6, v7, v8, v9, ⟨v2z, v2e⟩, ⟨⟨v3a, v3b⟩, v3e⟩, ⟨⟨v4a, v4b⟩, v4e⟩, ⟨v6a, v6b⟩, ⟨v9a, v9b⟩, h1⟩ := hI.2.1 59 (by decide) (by decide)
  have v2z := v2z.imp i_eq.mp i_eq.mp
  rw [i_0, i_1] at v2z
  refine v_callV rfl (W_X12_pullAt_59_x (-1 : Int32) hR hI hh) rfl rfl h1 rfl rfl (by omega) (fun rv w10 hq11 => ?_)
  obtain ⟨⟨z12, rfl, z12p0, z12p1, z12p2⟩, hI13, hh14⟩ := hq11
  skip
  refine r_isub rfl (by omega) (by omega) (fun z15 z15e => ?_)
  exact v_iret rfl ⟨⟨_, rfl, (by
      rcases z12p2 with ⟨q, h1, h2, h3, h4⟩ | ⟨h1, h2⟩
      · exfalso; omega
      · unfold sq_Ppulls; omega)⟩, hI13, hh14⟩
set_option maxRecDepth 100000 in
theorem W_X12_pullOf_59_x {sc : pm_S} {w w0 : pm_W} {gi : Nat → Int32} {ga : Nat → List Int32} (i : Int32) (k : Int32)  (hR : pm_Rg gi ga) (hI : pm_IM gi ga w) (hh : pm_lo w0 w) : pm_Mt sc 4 137 4 [.ref 59, .int i, .int k] w (fun rv w' => pm_wI (fun v => sq_PpullOf gi ga i k v) rv ∧ pm_IM gi ga w' ∧ pm_lo w0 w') := by
  intro d hd
  obtain ⟨g0a, g0b⟩ := hR.n0
  obtain ⟨g1a, g1b⟩ := hR.n1
  obtain ⟨g2a, g2b⟩ := hR.n2
  obtain ⟨g3a, g3b⟩ := hR.n3
  obtain ⟨g4a, g4b⟩ := hR.n4
  obtain ⟨g5a, g5b⟩ := hR.n5
  obtain ⟨g6a, g6b⟩ := hR.n6
  obtain ⟨g7a, g7b⟩ := hR.n7
  obtain ⟨g8a, g8b⟩ := hR.n8
  have km2 : (-2 : Int32).toInt = -2 := by decide
  have km1 : (-1 : Int32).toInt = -1 := by decide
  have k0 : (0 : Int32).toInt = 0 := by decide
  have k1 : (1 : Int32).toInt = 1 := by decide
  have k4 : (4 : Int32).toInt = 4 := by decide
  show pm_V sc d 137 0 [.ref 59, .int i, .int k, .null] [] w _
  refine v_iload_n rfl rfl ?_
  refine r_if_ge rfl (fun t1 => ?_) (fun t1 => ?_)
  · refine v_aload_n rfl rfl ?_
    refine v_iload_n rfl rfl ?_
    obtain ⟨v3, v4, v5, v6, v7, v8, v9, v10, ⟨v3z, v3e⟩, ⟨⟨v4a, v4b⟩, v4e⟩, ⟨⟨v5a, v5b⟩, v5e⟩, ⟨v7a, v7b⟩, ⟨v10a, v10b⟩, h2⟩ := hI.2.1 59 (by decide) (by decide)
    have v3z := v3z.imp i_eq.mp i_eq.mp
    rw [i_0, i_1] at v3z
    refine v_callV rfl (W_X12_pullAt_59_x i hR hI hh) rfl rfl h2 rfl rfl (by omega) (fun rv w11 hq12 => ?_)
    obtain ⟨⟨z13, rfl, z13p0, z13p1, z13p2⟩, hI14, hh15⟩ := hq12
    skip
    refine v_istore_n rfl (Nat.le_of_ble_eq_true rfl) ?_
    refine v_iload_n rfl rfl ?_
    refine r_if_ge rfl (fun t16 => ?_) (fun t16 => ?_)
    · refine v_iload_n rfl rfl ?_
      refine v_iconst (v := 0) rfl (by decide) ?_
      refine v_iconst (v := 1) rfl (by decide) ?_
      refine v_callS rfl (W_X12_in k (0 : Int32) (1 : Int32) hR hI14) rfl rfl rfl rfl rfl (by omega) (fun rv w17 hq18 => ?_)
      obtain ⟨⟨z19, rfl, z19p0⟩, rfl⟩ := hq18
      refine r_if_ne rfl (fun t20 => ?_) (fun t20 => ?_)
      · refine v_iload_n rfl rfl ?_
        refine r_if_ne rfl (fun t21 => ?_) (fun t21 => ?_)
        · refine v_iload_n rfl rfl ?_
          refine v_iconst (v := 4) rfl (by decide) ?_
          refine r_irem rfl (by omega) (by omega) (fun z22 z22m z22a z22b z22c => ?_)
          rw [show (4 : Int32).toInt = 4 from rfl] at z22m
          exact v_iret rfl ⟨⟨_, rfl, (by
              rcases z13p2 with ⟨q, h1, h2, h3, h4⟩ | ⟨h1, h2⟩
              · refine Or.inr ⟨by omega, q, h1, h3, h4, ?_⟩
                first
                | exact Or.inl ⟨by omega, by omega⟩
                | exact Or.inr (Or.inl ⟨by omega, by omega⟩)
                | exact Or.inr (Or.inr ⟨by omega, by omega⟩)
              · exfalso; omega)⟩, hI14, hh15⟩
        · refine v_iload_n rfl rfl ?_
          refine v_iconst (v := 4) rfl (by decide) ?_
          refine r_idiv rfl (by omega) (by omega) (fun z23 z23m z23a z23b => ?_)
          rw [show (4 : Int32).toInt = 4 from rfl] at z23m
          refine v_goto rfl ?_
          exact v_iret rfl ⟨⟨_, rfl, (by
              rcases z13p2 with ⟨q, h1, h2, h3, h4⟩ | ⟨h1, h2⟩
              · refine Or.inr ⟨by omega, q, h1, h3, h4, ?_⟩
                first
                | exact Or.inl ⟨by omega, by omega⟩
                | exact Or.inr (Or.inl ⟨by omega, by omega⟩)
                | exact Or.inr (Or.inr ⟨by omega, by omega⟩)
              · exfalso; omega)⟩, hI14, hh15⟩
      · refine v_aload_n rfl rfl ?_
        refine v_bipush (v := (-2)) rfl (by decide) ?_
        obtain ⟨v25, v26, v27, v28, v29, v30, v31, v32, ⟨v25z, v25e⟩, ⟨⟨v26a, v26b⟩, v26e⟩, ⟨⟨v27a, v27b⟩, v27e⟩, ⟨v29a, v29b⟩, ⟨v32a, v32b⟩, h24⟩ := hI14.2.1 59 (by decide) (by decide)
        have v25z := v25z.imp i_eq.mp i_eq.mp
        rw [i_0, i_1] at v25z
        refine v_callV rfl (c_M_refuse (-2 : Int32) (by unfold pm_isR; first | decide | exact Or.inl rfl) hR hI14) rfl rfl h24 rfl rfl (by omega) (fun rv w33 hq34 => ?_)
        obtain ⟨rfl, hI35, hh36x⟩ := hq34
        have hI35 : pm_IM gi ga w33 := hI35
        have hh36 := hh15.tr hh36x
        exact v_iret rfl ⟨⟨_, rfl, (by
            rcases z13p2 with ⟨q, h1, h2, h3, h4⟩ | ⟨h1, h2⟩
            · refine Or.inr ⟨by omega, q, h1, h3, h4, ?_⟩
              first
              | exact Or.inl ⟨by omega, by omega⟩
              | exact Or.inr (Or.inl ⟨by omega, by omega⟩)
              | exact Or.inr (Or.inr ⟨by omega, by omega⟩)
            · exfalso; omega)⟩, hI35, hh36⟩
    · refine v_aload_n rfl rfl ?_
      refine v_iconst (v := (-1)) rfl (by decide) ?_
      obtain ⟨v38, v39, v40, v41, v42, v43, v44, v45, ⟨v38z, v38e⟩, ⟨⟨v39a, v39b⟩, v39e⟩, ⟨⟨v40a, v40b⟩, v40e⟩, ⟨v42a, v42b⟩, ⟨v45a, v45b⟩, h37⟩ := hI14.2.1 59 (by decide) (by decide)
      have v38z := v38z.imp i_eq.mp i_eq.mp
      rw [i_0, i_1] at v38z
      refine v_callV rfl (c_M_refuse (-1 : Int32) (by unfold pm_isR; first | decide | exact Or.inl rfl) hR hI14) rfl rfl h37 rfl rfl (by omega) (fun rv w46 hq47 => ?_)
      obtain ⟨rfl, hI48, hh49x⟩ := hq47
      have hI48 : pm_IM gi ga w46 := hI48
      have hh49 := hh15.tr hh49x
      exact v_iret rfl ⟨⟨_, rfl, (by
          first
          | exact Or.inl ⟨Or.inl (by omega), by omega⟩
          | (rcases z13p2 with ⟨q, h1, h2, h3, h4⟩ | ⟨h1, h2⟩
             · exfalso; omega
             · exact Or.inl ⟨Or.inr h2, by omega⟩))⟩, hI48, hh49⟩
  · refine v_iconst (v := (-1)) rfl (by decide) ?_
    refine v_goto rfl ?_
    refine v_istore_n rfl (Nat.le_of_ble_eq_true rfl) ?_
    refine v_iload_n rfl rfl ?_
    refine r_if_ge rfl (fun hx => absurd hx (by omega)) (fun _ => ?_)
    refine v_aload_n rfl rfl ?_
    refine v_iconst (v := (-1)) rfl (by decide) ?_
    obtain ⟨v51, v52, v53, v54, v55, v56, v57, v58, ⟨v51z, v51e⟩, ⟨⟨v52a, v52b⟩, v52e⟩, ⟨⟨v53a, v53b⟩, v53e⟩, ⟨v55a, v55b⟩, ⟨v58a, v58b⟩, h50⟩ := hI.2.1 59 (by decide) (by decide)
    have v51z := v51z.imp i_eq.mp i_eq.mp
    rw [i_0, i_1] at v51z
    refine v_callV rfl (c_M_refuse (-1 : Int32) (by unfold pm_isR; first | decide | exact Or.inl rfl) hR hI) rfl rfl h50 rfl rfl (by omega) (fun rv w59 hq60 => ?_)
    obtain ⟨rfl, hI61, hh62x⟩ := hq60
    have hI61 : pm_IM gi ga w59 := hI61
    have hh62 := hh.tr hh62x
    exact v_iret rfl ⟨⟨_, rfl, (by
        first
        | exact Or.inl ⟨Or.inl (by omega), by omega⟩
        | (rcases z13p2 with ⟨q, h1, h2, h3, h4⟩ | ⟨h1, h2⟩
           · exfalso; omega
           · exact Or.inl ⟨Or.inr h2, by omega⟩))⟩, hI61, hh62⟩

