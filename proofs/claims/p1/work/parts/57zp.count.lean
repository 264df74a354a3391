def ct_P (gi : Nat → Int32) (k r : Int) : Prop := (k = 0 → r = (gi 0).toInt) ∧ (k = 1 → r = (gi 1).toInt) ∧ (k = 2 → r = (gi 5).toInt) ∧ (k = 3 → r = 0) ∧ (k = 4 → r = 0) ∧ (k = 5 → r = (gi 8).toInt) ∧ (k = 6 → r = 0) ∧ (k = 7 → r = (gi 6).toInt) ∧ (k = 8 → r = 0) ∧ (11 ≤ k ∧ k ≤ 16 → r = 0) ∧ (¬ (0 ≤ k ∧ k ≤ 8) ∧ ¬ (11 ≤ k ∧ k ≤ 16) → r = -9)
theorem ct_P.uniq {gi : Nat → Int32} {k r s : Int} (h : ct_P gi k r) (g : ct_P gi k s) : r = s := by
  obtain ⟨h0, h1, h2, h3, h4, h5, h6, h7, h8, h9, ha⟩ := h
  obtain ⟨g0, g1, g2, g3, g4, g5, g6, g7, g8, g9, ga⟩ := g
  by_cases c0 : k = 0
  · rw [h0 c0, g0 c0]
  by_cases c1 : k = 1
  · rw [h1 c1, g1 c1]
  by_cases c2 : k = 2
  · rw [h2 c2, g2 c2]
  by_cases c3 : k = 3
  · rw [h3 c3, g3 c3]
  by_cases c4 : k = 4
  · rw [h4 c4, g4 c4]
  by_cases c5 : k = 5
  · rw [h5 c5, g5 c5]
  by_cases c6 : k = 6
  · rw [h6 c6, g6 c6]
  by_cases c7 : k = 7
  · rw [h7 c7, g7 c7]
  by_cases c8 : k = 8
  · rw [h8 c8, g8 c8]
  by_cases c9 : 11 ≤ k ∧ k ≤ 16
  · rw [h9 c9, g9 c9]
  rw [ha ⟨by omega, c9⟩, ga ⟨by omega, c9⟩]
theorem ct_sub (k : Int32) : (k - (10 : Int32)).toInt = k.toInt - 10 ∨ (k.toInt < 0 ∧ 100 < (k - (10 : Int32)).toInt) := by
  have h1 := k.toInt_lt
  have h2 := k.le_toInt
  rw [Int32.toInt_sub, Int.bmod_def, show (10 : Int32).toInt = 10 from rfl]
  split <;> omega
set_option maxRecDepth 100000 in
theorem W_X9_paidBy_27_37_p {sc : pm_S} {w : pm_W} {gi : Nat → Int32} {ga : Nat → List Int32}  (p0 : (gi 7).toInt = 0) (hR : pm_Rg gi ga) (hI : pm_IX gi ga w) : pm_Mt sc 2 60 4 [.ref 27, .ref 37] w (fun rv w' => pm_wI (fun v => v.toInt = 0) rv ∧ w = w') := by
  intro d hd
  obtain ⟨g0a, g0b⟩ := hR.n0
  obtain ⟨g1a, g1b⟩ := hR.n1
  obtain ⟨g2a, g2b⟩ := hR.n2
  obtain ⟨g3a, g3b⟩ := hR.n3
  obtain ⟨g4a, g4b⟩ := hR.n4
  obtain ⟨g5a, g5b⟩ := hR.n5
  obtain ⟨g6a, g6b⟩ := hR.n6
  obtain ⟨g7a, g7b⟩ := hR.n7
  obtain ⟨g8a, g8b⟩ := hR.n8
  have k0 : (0 : Int32).toInt = 0 := by decide
  show pm_V sc d 60 0 [.ref 27, .ref 37, .null, .null] [] w _
  refine v_iconst (v := 0) rfl (by decide) ?_
  refine v_istore_n rfl (Nat.le_of_ble_eq_true rfl) ?_
  refine v_iconst (v := 0) rfl (by decide) ?_
  refine v_istore_n rfl (Nat.le_of_ble_eq_true rfl) ?_
  have L3 : ∀ (n3 : Nat) (l1 : Int32) (l2 : Int32), 0 ≤ l1.toInt → l1.toInt ≤ 0 → 0 ≤ l2.toInt → l2.toInt ≤ 12 → (12 - l2.toInt).toNat < n3 → pm_V sc d 60 4 [.ref 27, .ref 37, .int l1, .int l2] [] w (fun rv w' => pm_wI (fun v => v.toInt = 0) rv ∧ w = w') := by
    intro n3
    induction n3 with
    | zero => intro l1 l2 t5 t6 t7 t8 hm4; exact absurd hm4 (Nat.not_lt_zero _)
    | succ n3 ih4_3 =>
      intro l1 l2 t5 t6 t7 t8 hm4
      refine v_iload_n rfl rfl ?_
      refine v_aload_n rfl rfl ?_
      have h9 : _ = some _ := hI.2 27 (by decide)
      refine v_get rfl h9 rfl ?_
      refine r_icmp_ge rfl (fun t10 => ?_) (fun t10 => ?_)
      · refine v_iload_n rfl rfl ?_
        exact v_iret rfl ⟨⟨_, rfl, (by omega)⟩, rfl⟩
      · refine v_aload_n rfl rfl ?_
        refine v_iload_n rfl rfl ?_
        refine v_callV rfl (W_X9_isOpen_27 l2 (by omega) (by omega) hR hI) rfl rfl h9 rfl rfl (by omega) (fun rv w11 hq12 => ?_)
        obtain ⟨⟨z13, rfl, -⟩, rfl⟩ := hq12
        refine r_if_ne rfl (fun t14 => ?_) (fun t14 => ?_)
        · refine r_iinc rfl rfl (by decide) (by omega) (by omega) (fun z15 z15e => ?_)
          refine v_goto rfl ?_
          exact ih4_3 l1 z15 (by omega) (by omega) (by omega) (by omega) (by omega)
        · refine v_iload_n rfl rfl ?_
          refine v_aload_n rfl rfl ?_
          refine v_get rfl h9 rfl ?_
          refine v_iload_n rfl rfl ?_
          have h16 : _ = some _ := hI.2 28 (by decide)
          refine r_iaload rfl h16 hR.l0 (by omega) (by omega) (fun z17 z17m z17g => ?_)
          obtain ⟨z17a, z17b⟩ := hR.r0 z17 z17m
          refine v_aload_n rfl rfl ?_
          refine v_aload_n rfl rfl ?_
          refine v_get rfl h9 rfl ?_
          refine v_iload_n rfl rfl ?_
          have h18 : _ = some _ := hI.2 31 (by decide)
          refine r_iaload rfl h18 hR.l3 (by omega) (by omega) (fun z19 z19m z19g => ?_)
          obtain ⟨z19a, z19b⟩ := hR.r3 z19 z19m
          have h20 : _ = some _ := hI.2 37 (by decide)
          refine v_callV rfl (W_X7_priceOn_37 z19 hR hI) rfl rfl h20 rfl rfl (by omega) (fun rv w21 hq22 => ?_)
          obtain ⟨⟨z23, rfl, -⟩, rfl⟩ := hq22
          refine u_imul rfl (fun z24 => ?_)
          refine u_iadd rfl (fun z25 => ?_)
          refine v_istore_n rfl (Nat.le_of_ble_eq_true rfl) ?_
          refine r_iinc rfl rfl (by decide) (by omega) (by omega) (fun z26 z26e => ?_)
          refine v_goto rfl ?_
          exact ih4_3 z25 z26 (by omega) (by omega) (by omega) (by omega) (by omega)
  exact L3 _ (0 : Int32) (0 : Int32) (by omega) (by omega) (by omega) (by omega) (Nat.lt_add_one _)
set_option maxRecDepth 100000 in
theorem W_X11_refusalsOf_0_p {sc : pm_S} {w : pm_W} {gi : Nat → Int32} {ga : Nat → List Int32} (q : Int32) (c58 : List Int32) (hc58 : w[58]? = some (.inl (0, .inl c58))) (hl58 : c58.length = 7) (hR : pm_Rg gi ga) (hI : pm_IX gi ga w) (hz : ∀ i, (c58.getD i 0).toInt = 0) : pm_Mt sc 0 109 2 [.ref 0, .int q] w (fun rv w' => pm_wI (fun v => (1 ≤ q.toInt ∧ q.toInt ≤ 6 → v.toInt = 0) ∧ (¬ (1 ≤ q.toInt ∧ q.toInt ≤ 6) → v.toInt = -9)) rv ∧ w = w') := by
  intro d hd
  obtain ⟨g0a, g0b⟩ := hR.n0
  obtain ⟨g1a, g1b⟩ := hR.n1
  obtain ⟨g2a, g2b⟩ := hR.n2
  obtain ⟨g3a, g3b⟩ := hR.n3
  obtain ⟨g4a, g4b⟩ := hR.n4
  obtain ⟨g5a, g5b⟩ := hR.n5
  obtain ⟨g6a, g6b⟩ := hR.n6
  obtain ⟨g7a, g7b⟩ := hR.n7
  obtain ⟨g8a, g8b⟩ := hR.n8
  have km9 : (-9 : Int32).toInt = -9 := by decide
  have k1 : (1 : Int32).toInt = 1 := by decide
  have k6 : (6 : Int32).toInt = 6 := by decide
  show pm_V sc d 109 0 [.ref 0, .int q] [] w _
  refine v_iload_n rfl rfl ?_
  refine v_iconst (v := 1) rfl (by decide) ?_
  refine r_icmp_lt rfl (fun t1 => ?_) (fun t1 => ?_)
  · refine v_bipush (v := (-9)) rfl (by decide) ?_
    exact v_iret rfl ⟨⟨_, rfl, (by omega), (by omega)⟩, rfl⟩
  · refine v_iload_n rfl rfl ?_
    refine v_bipush (v := 6) rfl (by decide) ?_
    refine r_icmp_gt rfl (fun t2 => ?_) (fun t2 => ?_)
    · refine v_bipush (v := (-9)) rfl (by decide) ?_
      exact v_iret rfl ⟨⟨_, rfl, (by omega), (by omega)⟩, rfl⟩
    · refine v_aload_n rfl rfl ?_
      obtain ⟨v4, ⟨v4z, v4e⟩, h3⟩ := hI.2 0 (by decide)
      have v4z := v4z.imp i_eq.mp i_eq.mp
      rw [i_0, i_1] at v4z
      refine v_get rfl h3 rfl ?_
      refine v_iload_n rfl rfl ?_
      refine r_iaload rfl hc58 hl58 (by omega) (by omega) (fun z5 z5m z5g => ?_)
      have z5h : z5.toInt = 0 := (congrArg Int32.toInt z5g).trans (hz _)
      refine v_goto rfl ?_
      exact v_iret rfl ⟨⟨_, rfl, (by omega), (by omega)⟩, rfl⟩
set_option maxRecDepth 100000 in
theorem W_X11_count_0_p {sc : pm_S} {w w0 : pm_W} {gi : Nat → Int32} {ga : Nat → List Int32} (k : Int32) (c58 : List Int32) (p0 : (gi 7).toInt = 0) (hc58 : w[58]? = some (.inl (0, .inl c58))) (hl58 : c58.length = 7) (hR : pm_Rg gi ga) (hI : pm_IX gi ga w) (hh : pm_hi w0 w) (hz : ∀ i, (c58.getD i 0).toInt = 0) (hzf : fl_n (ga 21) = 0) (hzn : bs_n gi ga = 0) : pm_Mt sc 3 107 2 [.ref 0, .int k] w (fun rv w' => pm_wI (fun v => ct_P gi k.toInt v.toInt) rv ∧ pm_IX gi ga w' ∧ pm_hi w0 w') := by
  intro d hd
  obtain ⟨g0a, g0b⟩ := hR.n0
  obtain ⟨g1a, g1b⟩ := hR.n1
  obtain ⟨g2a, g2b⟩ := hR.n2
  obtain ⟨g3a, g3b⟩ := hR.n3
  obtain ⟨g4a, g4b⟩ := hR.n4
  obtain ⟨g5a, g5b⟩ := hR.n5
  obtain ⟨g6a, g6b⟩ := hR.n6
  obtain ⟨g7a, g7b⟩ := hR.n7
  obtain ⟨g8a, g8b⟩ := hR.n8
  have k10 : (10 : Int32).toInt = 10 := by decide
  show pm_V sc d 107 0 [.ref 0, .int k] [] w _
  refine v_iload_n rfl rfl ?_
  by_cases t1 : k.toInt = 0
  · refine v_tabIn (t := 52) rfl (by omega) (by omega) (by rw [t1]; rfl) rfl ?_
    refine v_aload_n rfl rfl ?_
    obtain ⟨v3, ⟨v3z, v3e⟩, h2⟩ := hI.2 0 (by decide)
    have v3z := v3z.imp i_eq.mp i_eq.mp
    rw [i_0, i_1] at v3z
    refine v_get rfl h2 rfl ?_
    have h4 : _ = some _ := hI.2 1 (by decide)
    refine v_get rfl h4 rfl ?_
    exact v_iret rfl ⟨⟨_, rfl, (by exact ⟨fun e => by omega, fun e => by omega, fun e => by omega, fun e => by omega, fun e => by omega, fun e => by omega, fun e => by omega, fun e => by omega, fun e => by omega, fun e => by omega, fun e => by omega⟩)⟩, hI, hh⟩
  by_cases t5 : k.toInt = 1
  · refine v_tabIn (t := 60) rfl (by omega) (by omega) (by rw [t5]; rfl) rfl ?_
    refine v_aload_n rfl rfl ?_
    obtain ⟨v7, ⟨v7z, v7e⟩, h6⟩ := hI.2 0 (by decide)
    have v7z := v7z.imp i_eq.mp i_eq.mp
    rw [i_0, i_1] at v7z
    refine v_get rfl h6 rfl ?_
    have h8 : _ = some _ := hI.2 1 (by decide)
    refine v_get rfl h8 rfl ?_
    exact v_iret rfl ⟨⟨_, rfl, (by exact ⟨fun e => by omega, fun e => by omega, fun e => by omega, fun e => by omega, fun e => by omega, fun e => by omega, fun e => by omega, fun e => by omega, fun e => by omega, fun e => by omega, fun e => by omega⟩)⟩, hI, hh⟩
  by_cases t9 : k.toInt = 2
  · refine v_tabIn (t := 68) rfl (by omega) (by omega) (by rw [t9]; rfl) rfl ?_
    refine v_aload_n rfl rfl ?_
    obtain ⟨v11, ⟨v11z, v11e⟩, h10⟩ := hI.2 0 (by decide)
    have v11z := v11z.imp i_eq.mp i_eq.mp
    rw [i_0, i_1] at v11z
    refine v_get rfl h10 rfl ?_
    have h12 : _ = some _ := hI.2 27 (by decide)
    refine v_get rfl h12 rfl ?_
    exact v_iret rfl ⟨⟨_, rfl, (by exact ⟨fun e => by omega, fun e => by omega, fun e => by omega, fun e => by omega, fun e => by omega, fun e => by omega, fun e => by omega, fun e => by omega, fun e => by omega, fun e => by omega, fun e => by omega⟩)⟩, hI, hh⟩
  by_cases t13 : k.toInt = 3
  · refine v_tabIn (t := 76) rfl (by omega) (by omega) (by rw [t13]; rfl) rfl ?_
    refine v_aload_n rfl rfl ?_
    obtain ⟨v15, ⟨v15z, v15e⟩, h14⟩ := hI.2 0 (by decide)
    have v15z := v15z.imp i_eq.mp i_eq.mp
    rw [i_0, i_1] at v15z
    refine v_get rfl h14 rfl ?_
    have h16 : _ = some _ := hI.2 27 (by decide)
    refine v_get rfl h16 rfl ?_
    exact v_iret rfl ⟨⟨_, rfl, (by exact ⟨fun e => by omega, fun e => by omega, fun e => by omega, fun e => by omega, fun e => by omega, fun e => by omega, fun e => by omega, fun e => by omega, fun e => by omega, fun e => by omega, fun e => by omega⟩)⟩, hI, hh⟩
  by_cases t17 : k.toInt = 4
  · refine v_tabIn (t := 84) rfl (by omega) (by omega) (by rw [t17]; rfl) rfl ?_
    refine v_aload_n rfl rfl ?_
    obtain ⟨v19, ⟨v19z, v19e⟩, h18⟩ := hI.2 0 (by decide)
    have v19z := v19z.imp i_eq.mp i_eq.mp
    rw [i_0, i_1] at v19z
    refine v_get rfl h18 rfl ?_
    have h20 : _ = some _ := hI.2 27 (by decide)
    refine v_callV rfl (W_X9_openOrders_27_x  hR hI) rfl rfl h20 rfl rfl (by omega) (fun rv w21 hq22 => ?_)
    obtain ⟨⟨z23, rfl, z23p0, z23p1, z23p2⟩, rfl⟩ := hq22
    rw [hzn] at z23p2
    exact v_iret rfl ⟨⟨_, rfl, (by exact ⟨fun e => by omega, fun e => by omega, fun e => by omega, fun e => by omega, fun e => by omega, fun e => by omega, fun e => by omega, fun e => by omega, fun e => by omega, fun e => by omega, fun e => by omega⟩)⟩, hI, hh⟩
  by_cases t24 : k.toInt = 5
  · refine v_tabIn (t := 92) rfl (by omega) (by omega) (by rw [t24]; rfl) rfl ?_
    refine v_aload_n rfl rfl ?_
    obtain ⟨v26, ⟨v26z, v26e⟩, h25⟩ := hI.2 0 (by decide)
    have v26z := v26z.imp i_eq.mp i_eq.mp
    rw [i_0, i_1] at v26z
    refine v_get rfl h25 rfl ?_
    have h27 : _ = some _ := hI.2 37 (by decide)
    refine v_get rfl h27 rfl ?_
    exact v_iret rfl ⟨⟨_, rfl, (by exact ⟨fun e => by omega, fun e => by omega, fun e => by omega, fun e => by omega, fun e => by omega, fun e => by omega, fun e => by omega, fun e => by omega, fun e => by omega, fun e => by omega, fun e => by omega⟩)⟩, hI, hh⟩
  by_cases t28 : k.toInt = 6
  · refine v_tabIn (t := 100) rfl (by omega) (by omega) (by rw [t28]; rfl) rfl ?_
    refine v_aload_n rfl rfl ?_
    obtain ⟨v30, ⟨v30z, v30e⟩, h29⟩ := hI.2 0 (by decide)
    have v30z := v30z.imp i_eq.mp i_eq.mp
    rw [i_0, i_1] at v30z
    refine v_get rfl h29 rfl ?_
    refine v_aload_n rfl rfl ?_
    refine v_get rfl h29 rfl ?_
    have h31 : _ = some _ := hI.2 27 (by decide)
    refine v_callV rfl (W_X9_paidBy_27_37_p (by omega) hR hI) rfl rfl h31 rfl rfl (by omega) (fun rv w32 hq33 => ?_)
    obtain ⟨⟨z34, rfl, z34p0⟩, rfl⟩ := hq33
    exact v_iret rfl ⟨⟨_, rfl, (by exact ⟨fun e => by omega, fun e => by omega, fun e => by omega, fun e => by omega, fun e => by omega, fun e => by omega, fun e => by omega, fun e => by omega, fun e => by omega, fun e => by omega, fun e => by omega⟩)⟩, hI, hh⟩
  by_cases t35 : k.toInt = 7
  · refine v_tabIn (t := 112) rfl (by omega) (by omega) (by rw [t35]; rfl) rfl ?_
    refine v_aload_n rfl rfl ?_
    obtain ⟨v37, ⟨v37z, v37e⟩, h36⟩ := hI.2 0 (by decide)
    have v37z := v37z.imp i_eq.mp i_eq.mp
    rw [i_0, i_1] at v37z
    refine v_get rfl h36 rfl ?_
    have h38 : _ = some _ := hI.2 27 (by decide)
    refine v_get rfl h38 rfl ?_
    exact v_iret rfl ⟨⟨_, rfl, (by exact ⟨fun e => by omega, fun e => by omega, fun e => by omega, fun e => by omega, fun e => by omega, fun e => by omega, fun e => by omega, fun e => by omega, fun e => by omega, fun e => by omega, fun e => by omega⟩)⟩, hI, hh⟩
  by_cases t39 : k.toInt = 8
  · refine v_tabIn (t := 120) rfl (by omega) (by omega) (by rw [t39]; rfl) rfl ?_
    refine v_aload_n rfl rfl ?_
    obtain ⟨v41, ⟨v41z, v41e⟩, h40⟩ := hI.2 0 (by decide)
    have v41z := v41z.imp i_eq.mp i_eq.mp
    rw [i_0, i_1] at v41z
    refine v_get rfl h40 rfl ?_
    have h42 : _ = some _ := hI.2 16 (by decide)
    refine v_callV rfl (W_X5_howMany_16_x  hR hI) rfl rfl h42 rfl rfl (by omega) (fun rv w43 hq44 => ?_)
    obtain ⟨⟨z45, rfl, z45p0, z45p1⟩, rfl⟩ := hq44
    rw [hzf] at z45p1
    exact v_iret rfl ⟨⟨_, rfl, (by exact ⟨fun e => by omega, fun e => by omega, fun e => by omega, fun e => by omega, fun e => by omega, fun e => by omega, fun e => by omega, fun e => by omega, fun e => by omega, fun e => by omega, fun e => by omega⟩)⟩, hI, hh⟩
  refine v_tabOut (t := 128) rfl (by omega) rfl ?_
  refine v_aload_n rfl rfl ?_
  refine v_iload_n rfl rfl ?_
  refine v_bipush (v := 10) rfl (by decide) ?_
  refine v_isub rfl ?_
  have hsub := ct_sub k
  obtain ⟨v47, ⟨v47z, v47e⟩, h46⟩ := hI.2 0 (by decide)
  have v47z := v47z.imp i_eq.mp i_eq.mp
  rw [i_0, i_1] at v47z
  refine v_callV rfl (W_X11_refusalsOf_0_p (k - (10 : Int32)) c58 hc58 hl58 hR hI hz) rfl rfl h46 rfl rfl (by omega) (fun rv w48 hq49 => ?_)
  obtain ⟨⟨z50, rfl, z50p0, z50p1⟩, rfl⟩ := hq49
  exact v_iret rfl ⟨⟨_, rfl, (by exact ⟨fun e => by omega, fun e => by omega, fun e => by omega, fun e => by omega, fun e => by omega, fun e => by omega, fun e => by omega, fun e => by omega, fun e => by omega, fun e => by omega, fun e => by omega⟩)⟩, hI, hh⟩
set_option maxRecDepth 100000 in
theorem W_X12_count_59_p {sc : pm_S} {w w0 : pm_W} {gi : Nat → Int32} {ga : Nat → List Int32} (k : Int32) (c59_4 : Int32) (c59_5 : Int32) (c59_6 : Int32) (c59_14 : Int32) (c59_35 : Int32) (c59_39 : Int32) (c59_40 : Int32) (c59_42 : Int32) (c79 : List Int32) (p0 : (gi 7).toInt = 0) (p1 : 0 ≤ c59_4.toInt) (p2 : c59_4.toInt ≤ 1) (p3 : 0 ≤ c59_5.toInt) (p4 : c59_5.toInt ≤ 20) (p5 : 0 ≤ c59_6.toInt) (p6 : c59_6.toInt ≤ 20) (p7 : 0 ≤ c59_35.toInt) (p8 : c59_35.toInt ≤ 20) (p9 : 0 ≤ c59_42.toInt) (p10 : c59_42.toInt ≤ 12) (hc59 : w[59]? = some (.inr (12, [.int (gi 0), .int (gi 1), .ref 60, .int (gi 2), .int c59_4, .int c59_5, .int c59_6, .ref 61, .ref 62, .ref 63, .int (gi 5), .int (gi 3), .int (gi 4), .int (gi 6), .int c59_14, .int (gi 7), .ref 64, .ref 65, .ref 66, .ref 67, .int (gi 8), .ref 68, .ref 69, .ref 70, .ref 71, .ref 72, .ref 73, .ref 74, .ref 75, .ref 76, .ref 77, .ref 78, .ref 79, .ref 80, .ref 81, .int c59_35, .ref 82, .ref 83, .ref 84, .int c59_39, .int c59_40, .ref 85, .int c59_42, .ref 86, .ref 87]))) (hc79 : w[79]? = some (.inl (0, .inl c79))) (hl79 : c79.length = 7) (hR : pm_Rg gi ga) (hI : pm_IM gi ga w) (hh : pm_lo w0 w) (hzp : c59_14.toInt = 0) (hz : ∀ i, (c79.getD i 0).toInt = 0) (hzf : fm_n (ga 25) = 0) : pm_Mt sc 1 183 4 [.ref 59, .int k] w (fun rv w' => pm_wI (fun v => ct_P gi k.toInt v.toInt) rv ∧ pm_IM gi ga w' ∧ pm_lo w0 w') := by
  intro d hd
  obtain ⟨g0a, g0b⟩ := hR.n0
  obtain ⟨g1a, g1b⟩ := hR.n1
  obtain ⟨g2a, g2b⟩ := hR.n2
  obtain ⟨g3a, g3b⟩ := hR.n3
  obtain ⟨g4a, g4b⟩ := hR.n4
  obtain ⟨g5a, g5b⟩ := hR.n5
  obtain ⟨g6a, g6b⟩ := hR.n6
  obtain ⟨g7a, g7b⟩ := hR.n7
  obtain ⟨g8a, g8b⟩ := hR.n8
  have km9 : (-9 : Int32).toInt = -9 := by decide
  have k0 : (0 : Int32).toInt = 0 := by decide
  have k1 : (1 : Int32).toInt = 1 := by decide
  have k10 : (10 : Int32).toInt = 10 := by decide
  have k11 : (11 : Int32).toInt = 11 := by decide
  have k16 : (16 : Int32).toInt = 16 := by decide
  show pm_V sc d 183 0 [.ref 59, .int k, .null, .null] [] w _
  refine v_iconst (v := 0) rfl (by decide) ?_
  refine v_istore_n rfl (Nat.le_of_ble_eq_true rfl) ?_
  refine v_iload_n rfl rfl ?_
  by_cases t1 : k.toInt = 0
  · refine v_tabIn (t := 52) rfl (by omega) (by omega) (by rw [t1]; rfl) rfl ?_
    refine v_aload_n rfl rfl ?_
    refine v_get rfl hc59 rfl ?_
    exact v_iret rfl ⟨⟨_, rfl, (by exact ⟨fun e => by omega, fun e => by omega, fun e => by omega, fun e => by omega, fun e => by omega, fun e => by omega, fun e => by omega, fun e => by omega, fun e => by omega, fun e => by omega, fun e => by omega⟩)⟩, hI, hh⟩
  by_cases t2 : k.toInt = 1
  · refine v_tabIn (t := 57) rfl (by omega) (by omega) (by rw [t2]; rfl) rfl ?_
    refine v_aload_n rfl rfl ?_
    refine v_get rfl hc59 rfl ?_
    exact v_iret rfl ⟨⟨_, rfl, (by exact ⟨fun e => by omega, fun e => by omega, fun e => by omega, fun e => by omega, fun e => by omega, fun e => by omega, fun e => by omega, fun e => by omega, fun e => by omega, fun e => by omega, fun e => by omega⟩)⟩, hI, hh⟩
  by_cases t3 : k.toInt = 2
  · refine v_tabIn (t := 62) rfl (by omega) (by omega) (by rw [t3]; rfl) rfl ?_
    refine v_aload_n rfl rfl ?_
    refine v_get rfl hc59 rfl ?_
    exact v_iret rfl ⟨⟨_, rfl, (by exact ⟨fun e => by omega, fun e => by omega, fun e => by omega, fun e => by omega, fun e => by omega, fun e => by omega, fun e => by omega, fun e => by omega, fun e => by omega, fun e => by omega, fun e => by omega⟩)⟩, hI, hh⟩
  by_cases t4 : k.toInt = 3
  · refine v_tabIn (t := 67) rfl (by omega) (by omega) (by rw [t4]; rfl) rfl ?_
    refine v_aload_n rfl rfl ?_
    refine v_get rfl hc59 rfl ?_
    exact v_iret rfl ⟨⟨_, rfl, (by exact ⟨fun e => by omega, fun e => by omega, fun e => by omega, fun e => by omega, fun e => by omega, fun e => by omega, fun e => by omega, fun e => by omega, fun e => by omega, fun e => by omega, fun e => by omega⟩)⟩, hI, hh⟩
  by_cases t5 : k.toInt = 4
  · refine v_tabIn (t := 72) rfl (by omega) (by omega) (by rw [t5]; rfl) rfl ?_
    refine v_iconst (v := 0) rfl (by decide) ?_
    refine v_istore_n rfl (Nat.le_of_ble_eq_true rfl) ?_
    have L8 : ∀ (n8 : Nat) (l6 : Int32) (l7 : Int32), 0 ≤ l6.toInt → l6.toInt ≤ 0 → 0 ≤ l7.toInt → l7.toInt ≤ 12 → (12 - l7.toInt).toNat < n8 → pm_V sc d 183 74 [.ref 59, .int k, .int l6, .int l7] [] w (fun rv w' => pm_wI (fun v => ct_P gi k.toInt v.toInt) rv ∧ pm_IM gi ga w' ∧ pm_lo w0 w') := by
      intro n8
      induction n8 with
      | zero => intro l6 l7 t10 t11 t12 t13 hm9; exact absurd hm9 (Nat.not_lt_zero _)
      | succ n8 ih74_8 =>
        intro l6 l7 t10 t11 t12 t13 hm9
        refine v_iload_n rfl rfl ?_
        refine v_aload_n rfl rfl ?_
        refine v_get rfl hc59 rfl ?_
        refine r_icmp_ge rfl (fun t14 => ?_) (fun t14 => ?_)
        · refine v_iload_n rfl rfl ?_
          exact v_iret rfl ⟨⟨_, rfl, (by exact ⟨fun e => by omega, fun e => by omega, fun e => by omega, fun e => by omega, fun e => by omega, fun e => by omega, fun e => by omega, fun e => by omega, fun e => by omega, fun e => by omega, fun e => by omega⟩)⟩, hI, hh⟩
        · refine v_iload_n rfl rfl ?_
          refine v_aload_n rfl rfl ?_
          refine v_get rfl hc59 rfl ?_
          refine v_iload_n rfl rfl ?_
          have h15 : _ = some _ := hI.2.1 67 (by decide) (by decide)
          refine r_iaload rfl h15 hR.l3 (by omega) (by omega) (fun z16 z16m z16g => ?_)
          obtain ⟨z16a, z16b⟩ := hR.r3 z16 z16m
          refine r_if_ge rfl (fun t17 => ?_) (fun t17 => ?_)
          · refine v_iconst (v := 0) rfl (by decide) ?_
            refine r_iadd rfl (by omega) (by omega) (fun z18 z18e => ?_)
            refine v_istore_n rfl (Nat.le_of_ble_eq_true rfl) ?_
            refine r_iinc rfl rfl (by decide) (by omega) (by omega) (fun z19 z19e => ?_)
            refine v_goto rfl ?_
            exact ih74_8 z18 z19 (by omega) (by omega) (by omega) (by omega) (by omega)
          · refine v_iconst (v := 1) rfl (by decide) ?_
            refine v_goto rfl ?_
            refine r_iadd rfl (by omega) (by omega) (fun z20 z20e => ?_)
            refine v_istore_n rfl (Nat.le_of_ble_eq_true rfl) ?_
            refine r_iinc rfl rfl (by decide) (by omega) (by omega) (fun z21 z21e => ?_)
            refine v_goto rfl ?_
            exact ih74_8 z20 z21 (by omega) (by omega) (by omega) (by omega) (by omega)
    exact L8 _ (0 : Int32) (0 : Int32) (by omega) (by omega) (by omega) (by omega) (Nat.lt_add_one _)
  by_cases t22 : k.toInt = 5
  · refine v_tabIn (t := 107) rfl (by omega) (by omega) (by rw [t22]; rfl) rfl ?_
    refine v_aload_n rfl rfl ?_
    refine v_get rfl hc59 rfl ?_
    exact v_iret rfl ⟨⟨_, rfl, (by exact ⟨fun e => by omega, fun e => by omega, fun e => by omega, fun e => by omega, fun e => by omega, fun e => by omega, fun e => by omega, fun e => by omega, fun e => by omega, fun e => by omega, fun e => by omega⟩)⟩, hI, hh⟩
  by_cases t23 : k.toInt = 6
  · refine v_tabIn (t := 112) rfl (by omega) (by omega) (by rw [t23]; rfl) rfl ?_
    refine v_aload_n rfl rfl ?_
    refine v_get rfl hc59 rfl ?_
    exact v_iret rfl ⟨⟨_, rfl, (by exact ⟨fun e => by omega, fun e => by omega, fun e => by omega, fun e => by omega, fun e => by omega, fun e => by omega, fun e => by omega, fun e => by omega, fun e => by omega, fun e => by omega, fun e => by omega⟩)⟩, hI, hh⟩
  by_cases t24 : k.toInt = 7
  · refine v_tabIn (t := 117) rfl (by omega) (by omega) (by rw [t24]; rfl) rfl ?_
    refine v_aload_n rfl rfl ?_
    refine v_get rfl hc59 rfl ?_
    exact v_iret rfl ⟨⟨_, rfl, (by exact ⟨fun e => by omega, fun e => by omega, fun e => by omega, fun e => by omega, fun e => by omega, fun e => by omega, fun e => by omega, fun e => by omega, fun e => by omega, fun e => by omega, fun e => by omega⟩)⟩, hI, hh⟩
  by_cases t25 : k.toInt = 8
  · refine v_tabIn (t := 122) rfl (by omega) (by omega) (by rw [t25]; rfl) rfl ?_
    refine v_aload_n rfl rfl ?_
    refine v_callV rfl (W_X12_faultMany_59_x  hR hI) rfl rfl hc59 rfl rfl (by omega) (fun rv w26 hq27 => ?_)
    obtain ⟨⟨z28, rfl, z28p0, z28p1⟩, rfl⟩ := hq27
    rw [hzf] at z28p1
    exact v_iret rfl ⟨⟨_, rfl, (by exact ⟨fun e => by omega, fun e => by omega, fun e => by omega, fun e => by omega, fun e => by omega, fun e => by omega, fun e => by omega, fun e => by omega, fun e => by omega, fun e => by omega, fun e => by omega⟩)⟩, hI, hh⟩
  refine v_tabOut (t := 127) rfl (by omega) rfl ?_
  refine v_iload_n rfl rfl ?_
  refine v_bipush (v := 11) rfl (by decide) ?_
  refine v_bipush (v := 16) rfl (by decide) ?_
  refine v_callS rfl (W_X12_in k (11 : Int32) (16 : Int32) hR hI) rfl rfl rfl rfl rfl (by omega) (fun rv w29 hq30 => ?_)
  obtain ⟨⟨z31, rfl, z31p0⟩, rfl⟩ := hq30
  refine r_if_eq rfl (fun t32 => ?_) (fun t32 => ?_)
  · refine v_bipush (v := (-9)) rfl (by decide) ?_
    exact v_iret rfl ⟨⟨_, rfl, (by exact ⟨fun e => by omega, fun e => by omega, fun e => by omega, fun e => by omega, fun e => by omega, fun e => by omega, fun e => by omega, fun e => by omega, fun e => by omega, fun e => by omega, fun e => by omega⟩)⟩, hI, hh⟩
  · refine v_aload_n rfl rfl ?_
    refine v_get rfl hc59 rfl ?_
    refine v_iload_n rfl rfl ?_
    refine v_bipush (v := 10) rfl (by decide) ?_
    refine r_isub rfl (by omega) (by omega) (fun z33 z33e => ?_)
    refine r_iaload rfl hc79 hl79 (by omega) (by omega) (fun z34 z34m z34g => ?_)
    have z34h : z34.toInt = 0 := (congrArg Int32.toInt z34g).trans (hz _)
    refine v_goto rfl ?_
    exact v_iret rfl ⟨⟨_, rfl, (by exact ⟨fun e => by omega, fun e => by omega, fun e => by omega, fun e => by omega, fun e => by omega, fun e => by omega, fun e => by omega, fun e => by omega, fun e => by omega, fun e => by omega, fun e => by omega⟩)⟩, hI, hh⟩

