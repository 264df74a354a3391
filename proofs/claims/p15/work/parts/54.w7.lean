theorem j_wrap {z v x n : Int} (hz : z = v % n) (h0 : 0 ≤ x) (h1 : x < n) (hv : v = x ∨ v = x + n) : z = x := by
  rcases hv with rfl | rfl
  · rw [hz]; exact Int.emod_eq_of_lt h0 h1
  · rw [hz, Int.add_emod_right]; exact Int.emod_eq_of_lt h0 h1
set_option maxRecDepth 100000 in
theorem W_X12_colour_59_x {sc : pm_S} {w : pm_W} {gi : Nat → Int32} {ga : Nat → List Int32} (x : Int32) (y : Int32) (c60 : List Int32) (p0 : y.toInt ≤ 19) (p1 : 0 ≤ y.toInt) (p2 : x.toInt ≤ 19) (p3 : 0 ≤ x.toInt) (hc60 : w[60]? = some (.inl (0, .inl c60))) (hl60 : c60.length = 400) (hR : pm_Rg gi ga) (hI : pm_IM gi ga w) : pm_Mt sc 0 119 3 [.ref 59, .int x, .int y] w (fun rv w' => pm_wI (fun v => v.toInt = (c60.getD (20 * y.toInt + x.toInt).toNat 0).toInt) rv ∧ w = w') := by
  intro d hd
  obtain ⟨g0a, g0b⟩ := hR.n0
  obtain ⟨g1a, g1b⟩ := hR.n1
  obtain ⟨g2a, g2b⟩ := hR.n2
  obtain ⟨g3a, g3b⟩ := hR.n3
  obtain ⟨g4a, g4b⟩ := hR.n4
  obtain ⟨g5a, g5b⟩ := hR.n5
  obtain ⟨g6a, g6b⟩ := hR.n6
  obtain ⟨g7a, g7b⟩ := hR.n7
  obtain ⟨g8a, g8b⟩ := hR.n8
  have k20 : (20 : Int32).toInt = 20 := by decide
  show pm_V sc d 119 0 [.ref 59, .int x, .int y] [] w _
  refine v_aload_n rfl rfl ?_
  obtain ⟨v2, v3, v4, v5, v6, v7, v8, v9, ⟨v2z, v2e⟩, ⟨⟨v3a, v3b⟩, v3e⟩, ⟨⟨v4a, v4b⟩, v4e⟩, ⟨v6a, v6b⟩, ⟨v9a, v9b⟩, h1⟩ := hI.2.1 59 (by decide) (by decide)
  have v2z := v2z.imp i_eq.mp i_eq.mp
  rw [i_0, i_1] at v2z
  refine v_get rfl h1 rfl ?_
  refine v_bipush (v := 20) rfl (by decide) ?_
  refine v_iload_n rfl rfl ?_
  refine r_imulL 20 rfl rfl (by omega) (by omega) (fun z10 z10e => ?_)
  refine v_iload_n rfl rfl ?_
  refine r_iadd rfl (by omega) (by omega) (fun z11 z11e => ?_)
  refine r_iaload rfl hc60 hl60 (by omega) (by omega) (fun z12 z12m z12g => ?_)
  have zt10 := congrArg Int32.toInt z12g
  rw [show z11.toInt = 20 * y.toInt + x.toInt by omega] at zt10
  exact v_iret rfl ⟨⟨_, rfl, (by omega)⟩, rfl⟩
set_option maxRecDepth 100000 in
theorem W_X12_isSame_59 {sc : pm_S} {w : pm_W} {gi : Nat → Int32} {ga : Nat → List Int32} (a : Int32) (b : Int32) (p0 : b.toInt ≤ 20) (p1 : 0 ≤ b.toInt) (p2 : a.toInt ≤ 20) (p3 : 0 ≤ a.toInt) (hR : pm_Rg gi ga) (hI : pm_IM gi ga w) : pm_Mt sc 1 125 6 [.ref 59, .int a, .int b] w (fun rv w' => pm_wI (fun v => 0 ≤ v.toInt ∧ v.toInt ≤ 1) rv ∧ w = w') := by
  intro d hd
  obtain ⟨g0a, g0b⟩ := hR.n0
  obtain ⟨g1a, g1b⟩ := hR.n1
  obtain ⟨g2a, g2b⟩ := hR.n2
  obtain ⟨g3a, g3b⟩ := hR.n3
  obtain ⟨g4a, g4b⟩ := hR.n4
  obtain ⟨g5a, g5b⟩ := hR.n5
  obtain ⟨g6a, g6b⟩ := hR.n6
  obtain ⟨g7a, g7b⟩ := hR.n7
  obtain ⟨g8a, g8b⟩ := hR.n8
  have k0 : (0 : Int32).toInt = 0 := by decide
  have k1 : (1 : Int32).toInt = 1 := by decide
  show pm_V sc d 125 0 [.ref 59, .int a, .int b, .null, .null, .null] [] w _
  refine v_iconst (v := 1) rfl (by decide) ?_
  refine v_istore_n rfl (Nat.le_of_ble_eq_true rfl) ?_
  refine v_iconst (v := 0) rfl (by decide) ?_
  refine v_istore rfl (Nat.le_of_ble_eq_true rfl) ?_
  have L4 : ∀ (n4 : Nat) (l1 : Int32) (l2 : Int32) (u3 : Value), 0 ≤ l1.toInt → l1.toInt ≤ 1 → 0 ≤ l2.toInt → l2.toInt ≤ 20 → (20 - l2.toInt).toNat < n4 → pm_V sc d 125 5 [.ref 59, .int a, .int b, .int l1, .int l2, u3] [] w (fun rv w' => pm_wI (fun v => 0 ≤ v.toInt ∧ v.toInt ≤ 1) rv ∧ w = w') := by
    intro n4
    induction n4 with
    | zero => intro l1 l2 u3 t6 t7 t8 t9 hm5; exact absurd hm5 (Nat.not_lt_zero _)
    | succ n4 ih5_4 =>
      intro l1 l2 u3 t6 t7 t8 t9 hm5
      refine v_iload rfl rfl ?_
      refine v_aload_n rfl rfl ?_
      obtain ⟨v11, v12, v13, v14, v15, v16, v17, v18, ⟨v11z, v11e⟩, ⟨⟨v12a, v12b⟩, v12e⟩, ⟨⟨v13a, v13b⟩, v13e⟩, ⟨v15a, v15b⟩, ⟨v18a, v18b⟩, h10⟩ := hI.2.1 59 (by decide) (by decide)
      have v11z := v11z.imp i_eq.mp i_eq.mp
      rw [i_0, i_1] at v11z
      refine v_get rfl h10 rfl ?_
      refine r_icmp_ge rfl (fun t19 => ?_) (fun t19 => ?_)
      · refine v_iload_n rfl rfl ?_
        exact r_zret rfl (by omega) ⟨⟨_, rfl, (by omega), (by omega)⟩, rfl⟩
      · refine v_iconst (v := 0) rfl (by decide) ?_
        refine v_istore rfl (Nat.le_of_ble_eq_true rfl) ?_
        have L22 : ∀ (n22 : Nat) (l20 : Int32) (l21 : Int32), 0 ≤ l20.toInt → l20.toInt ≤ 1 → 0 ≤ l21.toInt → l21.toInt ≤ 20 → (20 - l21.toInt).toNat < n22 → pm_V sc d 125 17 [.ref 59, .int a, .int b, .int l20, .int l2, .int l21] [] w (fun rv w' => pm_wI (fun v => 0 ≤ v.toInt ∧ v.toInt ≤ 1) rv ∧ w = w') := by
          intro n22
          induction n22 with
          | zero => intro l20 l21 t24 t25 t26 t27 hm23; exact absurd hm23 (Nat.not_lt_zero _)
          | succ n22 ih17_22 =>
            intro l20 l21 t24 t25 t26 t27 hm23
            refine v_iload rfl rfl ?_
            refine v_aload_n rfl rfl ?_
            refine v_get rfl h10 rfl ?_
            refine r_icmp_ge rfl (fun t28 => ?_) (fun t28 => ?_)
            · refine r_iinc rfl rfl (by decide) (by omega) (by omega) (fun z29 z29e => ?_)
              refine v_goto rfl ?_
              exact ih5_4 l20 z29 (.int l21) (by omega) (by omega) (by omega) (by omega) (by omega)
            · refine v_iload_n rfl rfl ?_
              refine r_if_eq rfl (fun t30 => ?_) (fun t30 => ?_)
              · refine v_iconst (v := 0) rfl (by decide) ?_
                refine v_istore_n rfl (Nat.le_of_ble_eq_true rfl) ?_
                refine r_iinc rfl rfl (by decide) (by omega) (by omega) (fun z31 z31e => ?_)
                refine v_goto rfl ?_
                exact ih17_22 (0 : Int32) z31 (by omega) (by omega) (by omega) (by omega) (by omega)
              · refine v_aload_n rfl rfl ?_
                refine v_iload rfl rfl ?_
                refine v_iload rfl rfl ?_
                refine v_callV rfl (W_X12_colour_59 l21 l2 (by omega) (by omega) (by omega) (by omega) hR hI) rfl rfl h10 rfl rfl (by omega) (fun rv w32 hq33 => ?_)
                obtain ⟨⟨z34, rfl, -⟩, rfl⟩ := hq33
                refine v_aload_n rfl rfl ?_
                refine v_iload rfl rfl ?_
                refine v_iload_n rfl rfl ?_
                refine r_iadd rfl (by omega) (by omega) (fun z35 z35e => ?_)
                refine v_aload_n rfl rfl ?_
                refine v_get rfl h10 rfl ?_
                refine r_irem rfl (by omega) (by omega) (fun z36 z36m z36a z36b z36c => ?_)
                clear z36m
                refine v_iload rfl rfl ?_
                refine v_iload_n rfl rfl ?_
                refine r_iadd rfl (by omega) (by omega) (fun z37 z37e => ?_)
                refine v_aload_n rfl rfl ?_
                refine v_get rfl h10 rfl ?_
                refine r_irem rfl (by omega) (by omega) (fun z38 z38m z38a z38b z38c => ?_)
                clear z38m
                refine v_callV rfl (W_X12_colour_59 z36 z38 (by omega) (by omega) (by omega) (by omega) hR hI) rfl rfl h10 rfl rfl (by omega) (fun rv w39 hq40 => ?_)
                obtain ⟨⟨z41, rfl, -⟩, rfl⟩ := hq40
                refine r_icmp_ne rfl (fun t42 => ?_) (fun t42 => ?_)
                · refine v_iconst (v := 0) rfl (by decide) ?_
                  refine v_istore_n rfl (Nat.le_of_ble_eq_true rfl) ?_
                  refine r_iinc rfl rfl (by decide) (by omega) (by omega) (fun z43 z43e => ?_)
                  refine v_goto rfl ?_
                  exact ih17_22 (0 : Int32) z43 (by omega) (by omega) (by omega) (by omega) (by omega)
                · refine v_iconst (v := 1) rfl (by decide) ?_
                  refine v_goto rfl ?_
                  refine v_istore_n rfl (Nat.le_of_ble_eq_true rfl) ?_
                  refine r_iinc rfl rfl (by decide) (by omega) (by omega) (fun z44 z44e => ?_)
                  refine v_goto rfl ?_
                  exact ih17_22 (1 : Int32) z44 (by omega) (by omega) (by omega) (by omega) (by omega)
        exact L22 _ l1 (0 : Int32) (by omega) (by omega) (by omega) (by omega) (Nat.lt_add_one _)
  exact L4 _ (1 : Int32) (0 : Int32) (.null) (by omega) (by omega) (by omega) (by omega) (Nat.lt_add_one _)
set_option maxRecDepth 100000 in
theorem W_X12_isSame_59_s {sc : pm_S} {w : pm_W} {gi : Nat → Int32} {ga : Nat → List Int32} (a : Int32) (b : Int32) (p0 : b.toInt ≤ 20) (p1 : 0 ≤ b.toInt) (p2 : a.toInt ≤ 20) (p3 : 0 ≤ a.toInt) (p4 : ((a.toInt = (gi 0).toInt ∧ b.toInt = 0) ∨ (a.toInt = 0 ∧ b.toInt = (gi 1).toInt))) (hR : pm_Rg gi ga) (hI : pm_IM gi ga w) : pm_Mt sc 1 125 6 [.ref 59, .int a, .int b] w (fun rv w' => pm_wI (fun v => v.toInt = 1) rv ∧ w = w') := by
  intro d hd
  obtain ⟨g0a, g0b⟩ := hR.n0
  obtain ⟨g1a, g1b⟩ := hR.n1
  obtain ⟨g2a, g2b⟩ := hR.n2
  obtain ⟨g3a, g3b⟩ := hR.n3
  obtain ⟨g4a, g4b⟩ := hR.n4
  obtain ⟨g5a, g5b⟩ := hR.n5
  obtain ⟨g6a, g6b⟩ := hR.n6
  obtain ⟨g7a, g7b⟩ := hR.n7
  obtain ⟨g8a, g8b⟩ := hR.n8
  have k0 : (0 : Int32).toInt = 0 := by decide
  have k1 : (1 : Int32).toInt = 1 := by decide
  show pm_V sc d 125 0 [.ref 59, .int a, .int b, .null, .null, .null] [] w _
  refine v_iconst (v := 1) rfl (by decide) ?_
  refine v_istore_n rfl (Nat.le_of_ble_eq_true rfl) ?_
  refine v_iconst (v := 0) rfl (by decide) ?_
  refine v_istore rfl (Nat.le_of_ble_eq_true rfl) ?_
  have L4 : ∀ (n4 : Nat) (l1 : Int32) (l2 : Int32) (u3 : Value), 0 ≤ l1.toInt → l1.toInt ≤ 1 → 0 ≤ l2.toInt → l2.toInt ≤ 20 → (l1.toInt = 1) → (20 - l2.toInt).toNat < n4 → pm_V sc d 125 5 [.ref 59, .int a, .int b, .int l1, .int l2, u3] [] w (fun rv w' => pm_wI (fun v => v.toInt = 1) rv ∧ w = w') := by
    intro n4
    induction n4 with
    | zero => intro l1 l2 u3 t6 t7 t8 t9 t10 hm5; exact absurd hm5 (Nat.not_lt_zero _)
    | succ n4 ih5_4 =>
      intro l1 l2 u3 t6 t7 t8 t9 t10 hm5
      refine v_iload rfl rfl ?_
      refine v_aload_n rfl rfl ?_
      obtain ⟨v12, v13, v14, v15, v16, v17, v18, v19, ⟨v12z, v12e⟩, ⟨⟨v13a, v13b⟩, v13e⟩, ⟨⟨v14a, v14b⟩, v14e⟩, ⟨v16a, v16b⟩, ⟨v19a, v19b⟩, h11⟩ := hI.2.1 59 (by decide) (by decide)
      have v12z := v12z.imp i_eq.mp i_eq.mp
      rw [i_0, i_1] at v12z
      refine v_get rfl h11 rfl ?_
      refine r_icmp_ge rfl (fun t20 => ?_) (fun t20 => ?_)
      · refine v_iload_n rfl rfl ?_
        exact r_zret rfl (by omega) ⟨⟨_, rfl, (by omega)⟩, rfl⟩
      · refine v_iconst (v := 0) rfl (by decide) ?_
        refine v_istore rfl (Nat.le_of_ble_eq_true rfl) ?_
        have L23 : ∀ (n23 : Nat) (l21 : Int32) (l22 : Int32), 0 ≤ l21.toInt → l21.toInt ≤ 1 → 0 ≤ l22.toInt → l22.toInt ≤ 20 → (l21.toInt = 1) → (20 - l22.toInt).toNat < n23 → pm_V sc d 125 17 [.ref 59, .int a, .int b, .int l21, .int l2, .int l22] [] w (fun rv w' => pm_wI (fun v => v.toInt = 1) rv ∧ w = w') := by
          intro n23
          induction n23 with
          | zero => intro l21 l22 t25 t26 t27 t28 t29 hm24; exact absurd hm24 (Nat.not_lt_zero _)
          | succ n23 ih17_23 =>
            intro l21 l22 t25 t26 t27 t28 t29 hm24
            refine v_iload rfl rfl ?_
            refine v_aload_n rfl rfl ?_
            refine v_get rfl h11 rfl ?_
            refine r_icmp_ge rfl (fun t30 => ?_) (fun t30 => ?_)
            · refine r_iinc rfl rfl (by decide) (by omega) (by omega) (fun z31 z31e => ?_)
              refine v_goto rfl ?_
              exact ih5_4 l21 z31 (.int l22) (by omega) (by omega) (by omega) (by omega) (by omega) (by omega)
            · refine v_iload_n rfl rfl ?_
              refine r_if_eq rfl (fun t32 => ?_) (fun t32 => ?_)
              · refine v_iconst (v := 0) rfl (by decide) ?_
                refine v_istore_n rfl (Nat.le_of_ble_eq_true rfl) ?_
                refine r_iinc rfl rfl (by decide) (by omega) (by omega) (fun z33 z33e => ?_)
                refine v_goto rfl ?_
                exact ih17_23 (0 : Int32) z33 (by omega) (by omega) (by omega) (by omega) (by omega) (by omega)
              · refine v_aload_n rfl rfl ?_
                refine v_iload rfl rfl ?_
                refine v_iload rfl rfl ?_
                obtain ⟨sq35l, sq35r, h34⟩ := hI.2.1 60 (by decide) (by decide)
                refine v_callV rfl (W_X12_colour_59_x l22 l2 (ga 15) (by omega) (by omega) (by omega) (by omega) h34 sq35l hR hI) rfl rfl h11 rfl rfl (by omega) (fun rv w36 hq37 => ?_)
                obtain ⟨⟨z38, rfl, z38p0⟩, rfl⟩ := hq37
                refine v_aload_n rfl rfl ?_
                refine v_iload rfl rfl ?_
                refine v_iload_n rfl rfl ?_
                refine r_iadd rfl (by omega) (by omega) (fun z39 z39e => ?_)
                refine v_aload_n rfl rfl ?_
                refine v_get rfl h11 rfl ?_
                refine r_irem rfl (by omega) (by omega) (fun z40 z40m z40a z40b z40c => ?_)
                have z40w := j_wrap (x := l22.toInt) z40m (by omega) (by omega) (by omega)
                refine v_iload rfl rfl ?_
                refine v_iload_n rfl rfl ?_
                refine r_iadd rfl (by omega) (by omega) (fun z41 z41e => ?_)
                refine v_aload_n rfl rfl ?_
                refine v_get rfl h11 rfl ?_
                refine r_irem rfl (by omega) (by omega) (fun z42 z42m z42a z42b z42c => ?_)
                have z42w := j_wrap (x := l2.toInt) z42m (by omega) (by omega) (by omega)
                refine v_callV rfl (W_X12_colour_59_x z40 z42 (ga 15) (by omega) (by omega) (by omega) (by omega) h34 sq35l hR hI) rfl rfl h11 rfl rfl (by omega) (fun rv w43 hq44 => ?_)
                obtain ⟨⟨z45, rfl, z45p0⟩, rfl⟩ := hq44
                rw [z40w, z42w] at z45p0
                refine r_icmp_ne rfl (fun t46 => ?_) (fun t46 => ?_)
                · refine v_iconst (v := 0) rfl (by decide) ?_
                  refine v_istore_n rfl (Nat.le_of_ble_eq_true rfl) ?_
                  refine r_iinc rfl rfl (by decide) (by omega) (by omega) (fun z47 z47e => ?_)
                  refine v_goto rfl ?_
                  exact ih17_23 (0 : Int32) z47 (by omega) (by omega) (by omega) (by omega) (by omega) (by omega)
                · refine v_iconst (v := 1) rfl (by decide) ?_
                  refine v_goto rfl ?_
                  refine v_istore_n rfl (Nat.le_of_ble_eq_true rfl) ?_
                  refine r_iinc rfl rfl (by decide) (by omega) (by omega) (fun z48 z48e => ?_)
                  refine v_goto rfl ?_
                  exact ih17_23 (1 : Int32) z48 (by omega) (by omega) (by omega) (by omega) (by omega) (by omega)
        exact L23 _ l1 (0 : Int32) (by omega) (by omega) (by omega) (by omega) (by omega) (Nat.lt_add_one _)
  exact L4 _ (1 : Int32) (0 : Int32) (.null) (by omega) (by omega) (by omega) (by omega) (by omega) (Nat.lt_add_one _)
theorem W_X12_isSame_59_c {sc : pm_S} {w : pm_W} {gi : Nat → Int32} {ga : Nat → List Int32} (a : Int32) (b : Int32) (p0 : b.toInt ≤ 20) (p1 : 0 ≤ b.toInt) (p2 : a.toInt ≤ 20) (p3 : 0 ≤ a.toInt) (hR : pm_Rg gi ga) (hI : pm_IM gi ga w) : pm_Mt sc 1 125 6 [.ref 59, .int a, .int b] w (fun rv w' => pm_wI (fun v => 0 ≤ v.toInt ∧ v.toInt ≤ 1 ∧ (((a.toInt = (gi 0).toInt ∧ b.toInt = 0) ∨ (a.toInt = 0 ∧ b.toInt = (gi 1).toInt)) → v.toInt = 1)) rv ∧ w = w') := by
  by_cases h : ((a.toInt = (gi 0).toInt ∧ b.toInt = 0) ∨ (a.toInt = 0 ∧ b.toInt = (gi 1).toInt))
  · refine m_weak (W_X12_isSame_59_s a b p0 p1 p2 p3 h hR hI) (fun rv w' hq => ?_)
    obtain ⟨⟨v, e, g⟩, hw⟩ := hq
    exact ⟨⟨v, e, by omega, by omega, fun _ => g⟩, hw⟩
  · refine m_weak (W_X12_isSame_59 a b p0 p1 p2 p3 hR hI) (fun rv w' hq => ?_)
    obtain ⟨⟨v, e, g1, g2⟩, hw⟩ := hq
    exact ⟨⟨v, e, g1, g2, fun hx => absurd hx h⟩, hw⟩
set_option maxRecDepth 100000 in
theorem W_X12_span_59 {sc : pm_S} {w w0 : pm_W} {gi : Nat → Int32} {ga : Nat → List Int32} (k : Int32)  (hR : pm_Rg gi ga) (hI : pm_IM gi ga w) (hh : pm_lo w0 w) : pm_Mt sc 2 126 4 [.ref 59, .int k] w (fun rv w' => pm_wI (fun v => True) rv ∧ pm_IM gi ga w' ∧ pm_lo w0 w') := by
  intro d hd
  obtain ⟨g0a, g0b⟩ := hR.n0
  obtain ⟨g1a, g1b⟩ := hR.n1
  obtain ⟨g2a, g2b⟩ := hR.n2
  obtain ⟨g3a, g3b⟩ := hR.n3
  obtain ⟨g4a, g4b⟩ := hR.n4
  obtain ⟨g5a, g5b⟩ := hR.n5
  obtain ⟨g6a, g6b⟩ := hR.n6
  obtain ⟨g7a, g7b⟩ := hR.n7
  obtain ⟨g8a, g8b⟩ := hR.n8
  have km2 : (-2 : Int32).toInt = -2 := by decide
  have k0 : (0 : Int32).toInt = 0 := by decide
  have k1 : (1 : Int32).toInt = 1 := by decide
  show pm_V sc d 126 0 [.ref 59, .int k, .null, .null] [] w _
  refine v_iload_n rfl rfl ?_
  refine v_iconst (v := 0) rfl (by decide) ?_
  refine v_iconst (v := 1) rfl (by decide) ?_
  refine v_callS rfl (W_X12_in k (0 : Int32) (1 : Int32) hR hI) rfl rfl rfl rfl rfl (by omega) (fun rv w1 hq2 => ?_)
  obtain ⟨⟨z3, rfl, z3p0⟩, rfl⟩ := hq2
  refine r_if_ne rfl (fun t4 => ?_) (fun t4 => ?_)
  · refine v_iload_n rfl rfl ?_
    refine r_if_ne rfl (fun t5 => ?_) (fun t5 => ?_)
    · refine v_aload_n rfl rfl ?_
      obtain ⟨v7, v8, v9, v10, v11, v12, v13, v14, ⟨v7z, v7e⟩, ⟨⟨v8a, v8b⟩, v8e⟩, ⟨⟨v9a, v9b⟩, v9e⟩, ⟨v11a, v11b⟩, ⟨v14a, v14b⟩, h6⟩ := hI.2.1 59 (by decide) (by decide)
      have v7z := v7z.imp i_eq.mp i_eq.mp
      rw [i_0, i_1] at v7z
      refine v_get rfl h6 rfl ?_
      refine v_istore_n rfl (Nat.le_of_ble_eq_true rfl) ?_
      refine v_iconst (v := 1) rfl (by decide) ?_
      refine v_istore_n rfl (Nat.le_of_ble_eq_true rfl) ?_
      have L16 : ∀ (n16 : Nat) (l15 : Int32), 1 ≤ l15.toInt → l15.toInt ≤ 20 → (l15.toInt ≤ (gi 1).toInt) → ((gi 1).toInt - l15.toInt).toNat < n16 → pm_V sc d 126 34 [.ref 59, .int k, .int (gi 1), .int l15] [] w (fun rv w' => pm_wI (fun v => True) rv ∧ pm_IM gi ga w' ∧ pm_lo w0 w') := by
        intro n16
        induction n16 with
        | zero => intro l15 t18 t19 t20 hm17; exact absurd hm17 (Nat.not_lt_zero _)
        | succ n16 ih34_16 =>
          intro l15 t18 t19 t20 hm17
          refine v_iload_n rfl rfl ?_
          refine v_iload_n rfl rfl ?_
          refine r_irem rfl (by omega) (by omega) (fun z21 z21m z21a z21b z21c => ?_)
          have z21q : l15.toInt = (gi 1).toInt → z21.toInt = 0 := fun h => by rw [z21m, h]; exact Int.emod_self
          refine r_if_ne rfl (fun t22 => ?_) (fun t22 => ?_)
          · refine r_iinc rfl rfl (by decide) (by omega) (by omega) (fun z23 z23e => ?_)
            refine v_goto rfl ?_
            exact ih34_16 z23 (by omega) (by omega) (by omega) (by omega)
          · refine v_aload_n rfl rfl ?_
            refine v_iload_n rfl rfl ?_
            refine r_if_ne rfl (fun t24 => ?_) (fun t24 => ?_)
            · refine v_iconst (v := 0) rfl (by decide) ?_
              refine v_iload_n rfl rfl ?_
              refine r_if_ne rfl (fun t25 => ?_) (fun t25 => ?_)
              · refine v_iload_n rfl rfl ?_
                refine v_callV rfl (W_X12_isSame_59_c (0 : Int32) l15 (by omega) (by omega) (by omega) (by omega) hR hI) rfl rfl h6 rfl rfl (by omega) (fun rv w26 hq27 => ?_)
                obtain ⟨⟨z28, rfl, z28p0, z28p1, z28p2⟩, rfl⟩ := hq27
                refine r_if_ne rfl (fun t29 => ?_) (fun t29 => ?_)
                · refine v_iload_n rfl rfl ?_
                  exact v_iret rfl ⟨⟨_, rfl, trivial⟩, hI, hh⟩
                · refine r_iinc rfl rfl (by decide) (by omega) (by omega) (fun z30 z30e => ?_)
                  refine v_goto rfl ?_
                  exact ih34_16 z30 (by omega) (by omega) (by omega) (by omega)
              · refine v_iconst (v := 0) rfl (by decide) ?_
                refine v_goto rfl ?_
                refine v_callV rfl (W_X12_isSame_59_c (0 : Int32) (0 : Int32) (by omega) (by omega) (by omega) (by omega) hR hI) rfl rfl h6 rfl rfl (by omega) (fun rv w31 hq32 => ?_)
                obtain ⟨⟨z33, rfl, z33p0, z33p1, z33p2⟩, rfl⟩ := hq32
                refine r_if_ne rfl (fun t34 => ?_) (fun t34 => ?_)
                · refine v_iload_n rfl rfl ?_
                  exact v_iret rfl ⟨⟨_, rfl, trivial⟩, hI, hh⟩
                · refine r_iinc rfl rfl (by decide) (by omega) (by omega) (fun z35 z35e => ?_)
                  refine v_goto rfl ?_
                  exact ih34_16 z35 (by omega) (by omega) (by omega) (by omega)
            · refine v_iload_n rfl rfl ?_
              refine v_goto rfl ?_
              refine v_iload_n rfl rfl ?_
              refine r_if_ne rfl (fun t36 => ?_) (fun t36 => ?_)
              · refine v_iload_n rfl rfl ?_
                refine v_callV rfl (W_X12_isSame_59_c l15 l15 (by omega) (by omega) (by omega) (by omega) hR hI) rfl rfl h6 rfl rfl (by omega) (fun rv w37 hq38 => ?_)
                obtain ⟨⟨z39, rfl, z39p0, z39p1, z39p2⟩, rfl⟩ := hq38
                refine r_if_ne rfl (fun t40 => ?_) (fun t40 => ?_)
                · refine v_iload_n rfl rfl ?_
                  exact v_iret rfl ⟨⟨_, rfl, trivial⟩, hI, hh⟩
                · refine r_iinc rfl rfl (by decide) (by omega) (by omega) (fun z41 z41e => ?_)
                  refine v_goto rfl ?_
                  exact ih34_16 z41 (by omega) (by omega) (by omega) (by omega)
              · refine v_iconst (v := 0) rfl (by decide) ?_
                refine v_goto rfl ?_
                refine v_callV rfl (W_X12_isSame_59_c l15 (0 : Int32) (by omega) (by omega) (by omega) (by omega) hR hI) rfl rfl h6 rfl rfl (by omega) (fun rv w42 hq43 => ?_)
                obtain ⟨⟨z44, rfl, z44p0, z44p1, z44p2⟩, rfl⟩ := hq43
                refine r_if_ne rfl (fun t45 => ?_) (fun t45 => ?_)
                · refine v_iload_n rfl rfl ?_
                  exact v_iret rfl ⟨⟨_, rfl, trivial⟩, hI, hh⟩
                · refine r_iinc rfl rfl (by decide) (by omega) (by omega) (fun z46 z46e => ?_)
                  refine v_goto rfl ?_
                  exact ih34_16 z46 (by omega) (by omega) (by omega) (by omega)
      exact L16 _ (1 : Int32) (by omega) (by omega) (by omega) (Nat.lt_add_one _)
    · refine v_aload_n rfl rfl ?_
      obtain ⟨v48, v49, v50, v51, v52, v53, v54, v55, ⟨v48z, v48e⟩, ⟨⟨v49a, v49b⟩, v49e⟩, ⟨⟨v50a, v50b⟩, v50e⟩, ⟨v52a, v52b⟩, ⟨v55a, v55b⟩, h47⟩ := hI.2.1 59 (by decide) (by decide)
      have v48z := v48z.imp i_eq.mp i_eq.mp
      rw [i_0, i_1] at v48z
      refine v_get rfl h47 rfl ?_
      refine v_goto rfl ?_
      refine v_istore_n rfl (Nat.le_of_ble_eq_true rfl) ?_
      refine v_iconst (v := 1) rfl (by decide) ?_
      refine v_istore_n rfl (Nat.le_of_ble_eq_true rfl) ?_
      have L57 : ∀ (n57 : Nat) (l56 : Int32), 1 ≤ l56.toInt → l56.toInt ≤ 20 → (l56.toInt ≤ (gi 0).toInt) → ((gi 0).toInt - l56.toInt).toNat < n57 → pm_V sc d 126 34 [.ref 59, .int k, .int (gi 0), .int l56] [] w (fun rv w' => pm_wI (fun v => True) rv ∧ pm_IM gi ga w' ∧ pm_lo w0 w') := by
        intro n57
        induction n57 with
        | zero => intro l56 t59 t60 t61 hm58; exact absurd hm58 (Nat.not_lt_zero _)
        | succ n57 ih34_57 =>
          intro l56 t59 t60 t61 hm58
          refine v_iload_n rfl rfl ?_
          refine v_iload_n rfl rfl ?_
          refine r_irem rfl (by omega) (by omega) (fun z62 z62m z62a z62b z62c => ?_)
          have z62q : l56.toInt = (gi 0).toInt → z62.toInt = 0 := fun h => by rw [z62m, h]; exact Int.emod_self
          refine r_if_ne rfl (fun t63 => ?_) (fun t63 => ?_)
          · refine r_iinc rfl rfl (by decide) (by omega) (by omega) (fun z64 z64e => ?_)
            refine v_goto rfl ?_
            exact ih34_57 z64 (by omega) (by omega) (by omega) (by omega)
          · refine v_aload_n rfl rfl ?_
            refine v_iload_n rfl rfl ?_
            refine r_if_ne rfl (fun t65 => ?_) (fun t65 => ?_)
            · refine v_iconst (v := 0) rfl (by decide) ?_
              refine v_iload_n rfl rfl ?_
              refine r_if_ne rfl (fun t66 => ?_) (fun t66 => ?_)
              · refine v_iload_n rfl rfl ?_
                refine v_callV rfl (W_X12_isSame_59_c (0 : Int32) l56 (by omega) (by omega) (by omega) (by omega) hR hI) rfl rfl h47 rfl rfl (by omega) (fun rv w67 hq68 => ?_)
                obtain ⟨⟨z69, rfl, z69p0, z69p1, z69p2⟩, rfl⟩ := hq68
                refine r_if_ne rfl (fun t70 => ?_) (fun t70 => ?_)
                · refine v_iload_n rfl rfl ?_
                  exact v_iret rfl ⟨⟨_, rfl, trivial⟩, hI, hh⟩
                · refine r_iinc rfl rfl (by decide) (by omega) (by omega) (fun z71 z71e => ?_)
                  refine v_goto rfl ?_
                  exact ih34_57 z71 (by omega) (by omega) (by omega) (by omega)
              · refine v_iconst (v := 0) rfl (by decide) ?_
                refine v_goto rfl ?_
                refine v_callV rfl (W_X12_isSame_59_c (0 : Int32) (0 : Int32) (by omega) (by omega) (by omega) (by omega) hR hI) rfl rfl h47 rfl rfl (by omega) (fun rv w72 hq73 => ?_)
                obtain ⟨⟨z74, rfl, z74p0, z74p1, z74p2⟩, rfl⟩ := hq73
                refine r_if_ne rfl (fun t75 => ?_) (fun t75 => ?_)
                · refine v_iload_n rfl rfl ?_
                  exact v_iret rfl ⟨⟨_, rfl, trivial⟩, hI, hh⟩
                · refine r_iinc rfl rfl (by decide) (by omega) (by omega) (fun z76 z76e => ?_)
                  refine v_goto rfl ?_
                  exact ih34_57 z76 (by omega) (by omega) (by omega) (by omega)
            · refine v_iload_n rfl rfl ?_
              refine v_goto rfl ?_
              refine v_iload_n rfl rfl ?_
              refine r_if_ne rfl (fun t77 => ?_) (fun t77 => ?_)
              · refine v_iload_n rfl rfl ?_
                refine v_callV rfl (W_X12_isSame_59_c l56 l56 (by omega) (by omega) (by omega) (by omega) hR hI) rfl rfl h47 rfl rfl (by omega) (fun rv w78 hq79 => ?_)
                obtain ⟨⟨z80, rfl, z80p0, z80p1, z80p2⟩, rfl⟩ := hq79
                refine r_if_ne rfl (fun t81 => ?_) (fun t81 => ?_)
                · refine v_iload_n rfl rfl ?_
                  exact v_iret rfl ⟨⟨_, rfl, trivial⟩, hI, hh⟩
                · refine r_iinc rfl rfl (by decide) (by omega) (by omega) (fun z82 z82e => ?_)
                  refine v_goto rfl ?_
                  exact ih34_57 z82 (by omega) (by omega) (by omega) (by omega)
              · refine v_iconst (v := 0) rfl (by decide) ?_
                refine v_goto rfl ?_
                refine v_callV rfl (W_X12_isSame_59_c l56 (0 : Int32) (by omega) (by omega) (by omega) (by omega) hR hI) rfl rfl h47 rfl rfl (by omega) (fun rv w83 hq84 => ?_)
                obtain ⟨⟨z85, rfl, z85p0, z85p1, z85p2⟩, rfl⟩ := hq84
                refine r_if_ne rfl (fun t86 => ?_) (fun t86 => ?_)
                · refine v_iload_n rfl rfl ?_
                  exact v_iret rfl ⟨⟨_, rfl, trivial⟩, hI, hh⟩
                · refine r_iinc rfl rfl (by decide) (by omega) (by omega) (fun z87 z87e => ?_)
                  refine v_goto rfl ?_
                  exact ih34_57 z87 (by omega) (by omega) (by omega) (by omega)
      exact L57 _ (1 : Int32) (by omega) (by omega) (by omega) (Nat.lt_add_one _)
  · refine v_aload_n rfl rfl ?_
    refine v_bipush (v := (-2)) rfl (by decide) ?_
    obtain ⟨v89, v90, v91, v92, v93, v94, v95, v96, ⟨v89z, v89e⟩, ⟨⟨v90a, v90b⟩, v90e⟩, ⟨⟨v91a, v91b⟩, v91e⟩, ⟨v93a, v93b⟩, ⟨v96a, v96b⟩, h88⟩ := hI.2.1 59 (by decide) (by decide)
    have v89z := v89z.imp i_eq.mp i_eq.mp
    rw [i_0, i_1] at v89z
    refine v_callV rfl (c_M_refuse (-2 : Int32) (by unfold pm_isR; first | decide | exact Or.inl rfl) hR hI) rfl rfl h88 rfl rfl (by omega) (fun rv w97 hq98 => ?_)
    obtain ⟨rfl, hI99, hh100x⟩ := hq98
    have hI99 : pm_IM gi ga w97 := hI99
    have hh100 := hh.tr hh100x
    exact v_iret rfl ⟨⟨_, rfl, trivial⟩, hI99, hh100⟩
