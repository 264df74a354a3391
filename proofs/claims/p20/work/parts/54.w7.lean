theorem j_wrap {z v x n : Int} (hz : z = v % n) (h0 : 0 ≤ x) (h1 : x < n) (hv : v = x ∨ v = x + n) : z = x := by
  rcases hv with rfl | rfl
  · rw [hz]; exact Int.emod_eq_of_lt h0 h1
  · rw [hz, Int.add_emod_right]; exact Int.emod_eq_of_lt h0 h1
set_option maxRecDepth 100000 in
theorem W_X12_colour_59_x {sc : pm_S} {w : pm_W} {gi : Nat → Int32} {ga : Nat → List Int32} (x : Int32) (y : Int32) (c60 : List Int32) (p0 : y.toInt ≤ 19) (p1 : 0 ≤ y.toInt) (p2 : x.toInt ≤ 19) (p3 : 0 ≤ x.toInt) (hc60 : w[60]? = some (.inl (0, .inl c60))) (hl60 : c60.length = 400) (hR : pm_Rg gi ga) (hI : pm_IM gi ga w) : pm_Mt sc 0 119 3 [.ref 59, .int x, .int y] w (fun rv w' => pm_wI (fun v => v.toInt = (c60.getD (20 * y.toInt + x.toInt).toNat 0).toInt) rv ∧ w = w') := by
  intro d hd
  obtain ⟨g0a, g0b⟩ := hR.n0
  obtain ⟨g1a, g1b⟩ := hR.n1
  obtain ⟨g2a, g2b⟩ := hR.n2
  obtain ⟨g3a, g3b⟩ := hR.n3
  obtain ⟨g4a, g4b⟩ := hR.n4
  obtain ⟨g5a, g5b⟩ := hR.n5
  obtain ⟨g6a, g6b⟩ := hR.n6
  obtain ⟨g7a, g7b⟩ := hR.n7
  obtain ⟨g8a, g8b⟩ := hR.n8
  have k20 : (20 : Int32).toInt = 20 := by decide
  show pm_V sc d 119 0 [.ref 59, .int x, .int y] [] w _
  refine v_aload_n rfl rfl ?_
  obtain ⟨v2, v3, v4, v5, v6, v7, v8, v9, ⟨v2z, v2e⟩, ⟨⟨v3a, v3b⟩, v3e⟩, ⟨⟨v4a, v4b⟩, v4e⟩, ⟨v6a, v6b⟩, ⟨v9a, v9b⟩, h1⟩ := hI.2.1 59 (by decide) (by decide)
  have v2z := v2z.imp i_eq.mp i_eq.mp
  rw [i_0, i_1] at v2z
  refine v_get rfl h1 rfl ?_
  refine v_bipush (v := 20) rfl (by decide) ?_
  refine v_iload_n rfl rfl ?_
  refine r_imulL 20 rfl rfl (by omega) (by omega) (fun z10 z10e => ?_)
  refine v_iload_n rfl rfl ?_
  refine r_iadd rfl (by omega) (by omega) (fun z11 z11e => ?_)
  refine r_iaload rfl hc60 hl60 (by omega) (by omega) (fun z12 z12m z12g => ?_)
  have zt10 := congrArg Int32.toInt z12g
  rw [show z11.toInt = 20 * y.toInt + x.toInt by omega] at zt10
  exact v_iret rfl ⟨⟨_, rfl, (by omega)⟩, rfl⟩
set_option maxRecDepth 100000 in
theorem W_X12_isSame_59 {sc : pm_S} {w : pm_W} {gi : Nat → Int32} {ga : Nat → List Int32} (a : Int32) (b : Int32) (p0 : b.toInt ≤ 20) (p1 : 0 ≤ b.toInt) (p2 : a.toInt ≤ 20) (p3 : 0 ≤ a.toInt) (hR : pm_Rg gi ga) (hI : pm_IM gi ga w) : pm_Mt sc 1 125 6 [.ref 59, .int a, .int b] w (fun rv w' => pm_wI (fun v => 0 ≤ v.toInt ∧ v.toInt ≤ 1) rv ∧ w = w') := by
  intro d hd
  obtain ⟨g0a, g0b⟩ := hR.n0
  obtain ⟨g1a, g1b⟩ := hR.n1
  obtain ⟨g2a, g2b⟩ := hR.n2
  obtain ⟨g3a, g3b⟩ := hR.n3
  obtain ⟨g4a, g4b⟩ := hR.n4
  obtain ⟨g5a, g5b⟩ := hR.n5
  obtain ⟨g6a, g6b⟩ := hR.n6
  obtain ⟨g7a, g7b⟩ := hR.n7
  obtain ⟨g8a, g8b⟩ := hR.n8
  have k0 : (0 : Int32).toInt = 0 := by decide
  have k1 : (1 : Int32).toInt = 1 := by decide
  show pm_V sc d 125 0 [.ref 59, .int a, .int b, .null, .null, .null] [] w _
  refine v_iconst (v := 1) rfl (by decide) ?_
  refine v_istore_n rfl (Nat.le_of_ble_eq_true rfl) ?_
  refine v_iconst (v := 0) rfl (by decide) ?_
  refine v_istore rfl (Nat.le_of_ble_eq_true rfl) ?_
  have L4 : ∀ (n4 : Nat) (l1 : Int32) (l2 : Int32) (u3 : Value), 0 ≤ l1.toInt → l1.toInt ≤ 1 → 0 ≤ l2.toInt → l2.toInt ≤ 20 → (20 - l2.toInt).toNat < n4 → pm_V sc d 125 5 [.ref 59, .int a, .int b, .int l1, .int l2, u3] [] w (fun rv w' => pm_wI (fun v => 0 ≤ v.toInt ∧ v.toInt ≤ 1) rv ∧ w = w') := by
    intro n4
    induction n4 with
    | zero => intro l1 l2 u3 t6 t7 t8 t9 hm5; exact absurd hm5 (Nat.not_lt_zero _)
    | succ n4 ih5_4 =>
      intro l1 l2 u3 t6 t7 t8 t9 hm5
      refine v_iload rfl rfl ?_
      refine v_aload_n rfl rfl ?_
      obtain ⟨v11, v12, v13, v14, v15, v16, v17, v18, ⟨v11z, v11e⟩, ⟨⟨v12a, v12b⟩, v12e⟩, ⟨⟨v13a, v13b⟩, v13e⟩, ⟨v15a, v15b⟩, ⟨v18a, v18b⟩, h10⟩ := hI.2.1 59 (by decide) (by decide)
      have v11z := v11z.imp i_eq.mp i_eq.mp
      rw [i_0, i_1] at v11z
      refine v_get rfl h10 rfl ?_
      refine r_icmp_ge rfl (fun t19 => ?_) (fun t19 => ?_)
      · refine v_iload_n rfl rfl ?_
        exact r_zret rfl (by omega) ⟨⟨_, rfl, (by omega), (by omega)⟩, rfl⟩
      · refine v_iconst (v := 0) rfl (by decide) ?_
        refine v_istore rfl (Nat.le_of_ble_eq_true rfl) ?_
        have L22 : ∀ (n22 : Nat) (l20 : Int32) (l21 : Int32), 0 ≤ l20.toInt → l20.toInt ≤ 1 → 0 ≤ l21.toInt → l21.toInt ≤ 20 → (20 - l21.toInt).toNat < n22 → pm_V sc d 125 17 [.ref 59, .int a, .int b, .int l20, .int l2, .int l21] [] w (fun rv w' => pm_wI (fun v => 0 ≤ v.toInt ∧ v.toInt ≤ 1) rv ∧ w = w') := by
          intro n22
          induction n22 with
          | zero => intro l20 l21 t24 t25 t26 t27 hm23; exact absurd hm23 (Nat.not_lt_zero _)
          | succ n22 ih17_22 =>
            intro l20 l21 t24 t25 t26 t27 hm23
            refine v_iload rfl rfl ?_
            refine v_aload_n rfl rfl ?_
            refine v_get rfl h10 rfl ?_
            refine r_icmp_ge rfl (fun t28 => ?_) (fun t28 => ?_)
            · refine r_iinc rfl rfl (by decide) (by omega) (by omega) (fun z29 z29e => ?_)
              refine v_goto rfl ?_
              exact ih5_4 l20 z29 (.int l21) (by omega) (by omega) (by omega) (by omega) (by omega)
            · refine v_iload_n rfl rfl ?_
              refine r_if_eq rfl (fun t30 => ?_) (fun t30 => ?_)
              · refine v_iconst (v := 0) rfl (by decide) ?_
                refine v_istore_n rfl (Nat.le_of_ble_eq_true rfl) ?_
                refine r_iinc rfl rfl (by decide) (by omega) (by omega) (fun z31 z31e => ?_)
                refine v_goto rfl ?_
                exact ih17_22 (0 : Int32) z31 (by omega) (by omega) (by omega) (by omega) (by omega)
              · refine v_aload_n rfl rfl ?_
                refine v_iload rfl rfl ?_
                refine v_iload rfl rfl ?_
                refine v_callV rfl (W_X12_colour_59 l21 l2 (by omega) (by omega) (by omega) (by omega) hR hI) rfl rfl h10 rfl rfl (by omega) (fun rv w32 hq33 => ?_)
                obtain ⟨⟨z34, rfl, -⟩, rfl⟩ := hq33
                refine v_aload_n rfl rfl ?_
                refine v_iload rfl rfl ?_
                refine v_iload_n rfl rfl ?_
                refine r_iadd rfl (by omega) (by omega) (fun z35 z35e => ?_)
                refine v_aload_n rfl rfl ?_
                refine v_get rfl h10 rfl ?_
                refine r_irem rfl (by omega) (by omega) (fun z36 z36m z36a z36b z36c => ?_)
                clear z36m
                refine v_iload rfl rfl ?_
                refine v_iload_n rfl rfl ?_
                refine r_iadd rfl (by omega) (by omega) (fun z37 z37e => ?_)
                refine v_aload_n rfl rfl ?_
                refine v_get rfl h10 rfl ?_
                refine r_irem rfl (by omega) (by omega) (fun z38 z38m z38a z38b z38c => ?_)
                clear z38m
                refine v_callV rfl (W_X12_colour_59 z36 z38 (by omega) (by omega) (by omega) (by omega) hR hI) rfl rfl h10 rfl rfl (by omega) (fun rv w39 hq40 => ?_)
                obtain ⟨⟨z41, rfl, -⟩, rfl⟩ := hq40
                refine r_icmp_ne rfl (fun t42 => ?_) (fun t42 => ?_)
                · refine v_iconst (v := 0) rfl (by decide) ?_
                  refine v_istore_n rfl (Nat.le_of_ble_eq_true rfl) ?_
                  refine r_iinc rfl rfl (by decide) (by omega) (by omega) (fun z43 z43e => ?_)
                  refine v_goto rfl ?_
                  exact ih17_22 (0 : Int32) z43 (by omega) (by omega) (by omega) (by omega) (by omega)
                · refine v_iconst (v := 1) rfl (by decide) ?_
                  refine v_goto rfl ?_
                  refine v_istore_n rfl (Nat.le_of_ble_eq_true rfl) ?_
                  refine r_iinc rfl rfl (by decide) (by omega) (by omega) (fun z44 z44e => ?_)
                  refine v_goto rfl ?_
                  exact ih17_22 (1 : Int32) z44 (by omega) (by omega) (by omega) (by omega) (by omega)
        exact L22 _ l1 (0 : Int32) (by omega) (by omega) (by omega) (by omega) (Nat.lt_add_one _)
  exact L4 _ (1 : Int32) (0 : Int32) (.null) (by omega) (by omega) (by omega) (by omega) (Nat.lt_add_one _)
set_option maxRecDepth 100000 in
theorem W_X12_isSame_59_s {sc : pm_S} {w : pm_W} {gi : Nat → Int32} {ga : Nat → List Int32} (a : Int32) (b : Int32) (p0 : b.toInt ≤ 20) (p1 : 0 ≤ b.toInt) (p2 : a.toInt ≤ 20) (p3 : 0 ≤ a.toInt) (p4 : ((a.toInt = (gi 0).toInt ∧ b.toInt = 0) ∨ (a.toInt = 0 ∧ b.toInt = (gi 1).toInt))) (hR : pm_Rg gi ga) (hI : pm_IM gi ga w) : pm_Mt sc 1 125 6 [.ref 59, .int a, .int b] w (fun rv w' => pm_wI (fun v => v.toInt = 1) rv ∧ w = w') := by
  intro d hd
  obtain ⟨g0a, g0b⟩ := hR.n0
  obtain ⟨g1a, g1b⟩ := hR.n1
  obtain ⟨g2a, g2b⟩ := hR.n2
  obtain ⟨g3a, g3b⟩ := hR.n3
  obtain ⟨g4a, g4b⟩ := hR.n4
  obtain ⟨g5a, g5b⟩ := hR.n5
  obtain ⟨g6a, g6b⟩ := hR.n6
  obtain ⟨g7a, g7b⟩ := hR.n7
  obtain ⟨g8a, g8b⟩ := hR.n8
  have k0 : (0 : Int32).toInt = 0 := by decide
  have k1 : (1 : Int32).toInt = 1 := by decide
  show pm_V sc d 125 0 [.ref 59, .int a, .int b, .null, .null, .null] [] w _
  refine v_iconst (v := 1) rfl (by decide) ?_
  refine v_istore_n rfl (Nat.le_of_ble_eq_true rfl) ?_
  refine v_iconst (v := 0) rfl (by decide) ?_
  refine v_istore rfl (Nat.le_of_ble_eq_true rfl) ?_
  have L4 : ∀ (n4 : Nat) (l1 : Int32) (l2 : Int32) (u3 : Value), 0 ≤ l1.toInt → l1.toInt ≤ 1 → 0 ≤ l2.toInt → l2.toInt ≤ 20 → (l1.toInt = 1) → (20 - l2.toInt).toNat < n4 → pm_V sc d 125 5 [.ref 59, .int a, .int b, .int l1, .int l2, u3] [] w (fun rv w' => pm_wI (fun v => v.toInt = 1) rv ∧ w = w') := by
    intro n4
    induction n4 with
    | zero => intro l1 l2 u3 t6 t7 t8 t9 t10 hm5; exact absurd hm5 (Nat.not_lt_zero _)
    | succ n4 ih5_4 =>
      intro l1 l2 u3 t6 t7 t8 t9 t10 hm5
      refine v_iload rfl rfl ?_
      refine v_aload_n rfl rfl ?_
      obtain ⟨v12, v13, v14, v15, v16, v17, v18, v19, ⟨v12z, v12e⟩, ⟨⟨v13a, v13b⟩, v13e⟩, ⟨⟨v14a, v14b⟩, v14e⟩, ⟨v16a, v16b⟩, ⟨v19a, v19b⟩, h11⟩ := hI.2.1 59 (by decide) (by decide)
      have v12z := v12z.imp i_eq.mp i_eq.mp
      rw [i_0, i_1] at v12z
      refine v_get rfl h11 rfl ?_
      refine r_icmp_ge rfl (fun t20 => ?_) (fun t20 => ?_)
      · refine v_iload_n rfl rfl ?_
        exact r_zret rfl (by omega) ⟨⟨_, rfl, (by omega)⟩, rfl⟩
      · refine v_iconst (v := 0) rfl (by decide) ?_
        refine v_istore rfl (Nat.le_of_ble_eq_true rfl) ?_
        have L23 : ∀ (n23 : Nat) (l21 : Int32) (l22 : Int32), 0 ≤ l21.toInt → l21.toInt ≤ 1 → 0 ≤ l22.toInt → l22.toInt ≤ 20 → (l21.toInt = 1) → (20 - l22.toInt).toNat < n23 → pm_V sc d 125 17 [.ref 59, .int a, .int b, .int l21, .int l2, .int l22] [] w (fun rv w' => pm_wI (fun v => v.toInt = 1) rv ∧ w = w') := by
          intro n23
          induction n23 with
          | zero => intro l21 l22 t25 t26 t27 t28 t29 hm24; exact absurd hm24 (Nat.not_lt_zero _)
          | succ n23 ih17_23 =>
            intro l21 l22 t25 t26 t27 t28 t29 hm24
            refine v_iload rfl rfl ?_
            refine v_aload_n rfl rfl ?_
            refine v_get rfl h11 rfl ?_
            refine r_icmp_ge rfl (fun t30 => ?_) (fun t30 => ?_)
            · refine r_iinc rfl rfl (by decide) (by omega) (by omega) (fun z31 z31e => ?_)
              refine v_goto rfl ?_
              exact ih5_4 l21 z31 (.int l22) (by omega) (by omega) (by omega) (by omega) (by omega) (by omega)
            · refine v_iload_n rfl rfl ?_
              refine r_if_eq rfl (fun t32 => ?_) (fun t32 => ?_)
              · refine v_iconst (v := 0) rfl (by decide) ?_
                refine v_istore_n rfl (Nat.le_of_ble_eq_true rfl) ?_
                refine r_iinc rfl rfl (by decide) (by omega) (by omega) (fun z33 z33e => ?_)
                refine v_goto rfl ?_
                exact ih17_23 (0 : Int32) z33 (by omega) (by omega) (by omega) (by omega) (by omega) (by omega)
              · refine v_aload_n rfl rfl ?_
                refine v_iload rfl rfl ?_
                refine v_iload rfl rfl ?_
                obtain ⟨sq35l, sq35r, h34⟩ := hI.2.1 60 (by decide) (by decide)
                refine v_callV rfl (W_X12_colour_59_x l22 l2 (ga 15) (by omega) (by omega) (by omega) (by omega) h34 sq35l hR hI) rfl rfl h11 rfl rfl (by omega) (fun rv w36 hq37 => ?_)
                obtain ⟨⟨z38, rfl, z38p0⟩, rfl⟩ := hq37
                refine v_aload_n rfl rfl ?_
                refine v_iload rfl rfl ?_
                refine v_iload_n rfl rfl ?_
                refine r_iadd rfl (by omega) (by omega) (fun z39 z39e => ?_)
                refine v_aload_n rfl rfl ?_
                refine v_get rfl h11 rfl ?_
                refine r_irem rfl (by omega) (by omega) (fun z40 z40m z40a z40b z40c => ?_)
                have z40w := j_wrap (x := l22.toInt) z40m (by omega) (by omega) (by omega)
                refine v_iload rfl rfl ?_
                refine v_iload_n rfl rfl ?_
                refine r_iadd rfl (by omega) (by omega) (fun z41 z41e => ?_)
                refine v_aload_n rfl rfl ?_
                refine v_get rfl h11 rfl ?_
                refine r_irem rfl (by omega) (by omega) (fun z42 z42m z42a z42b z42c => ?_)
                have z42w := j_wrap (x := l2.toInt) z42m (by omega) (by omega) (by omega)
                refine v_callV rfl (W_X12_colour_59_x z40 z42 (ga 15) (by omega) (by omega) (by omega) (by omega) h34 sq35l hR hI) rfl rfl h11 rfl rfl (by omega) (fun rv w43 hq44 => ?_)
                obtain ⟨⟨z45, rfl, z45p0⟩, rfl⟩ := hq44
                rw [z40w, z42w] at z45p0
                refine r_icmp_ne rfl (fun t46 => ?_) (fun t46 => ?_)
                · refine v_iconst (v := 0) rfl (by decide) ?_
                  refine v_istore_n rfl (Nat.le_of_ble_eq_true rfl) ?_
                  refine r_iinc rfl rfl (by decide) (by omega) (by omega) (fun z47 z47e => ?_)
                  refine v_goto rfl ?_
                  exact ih17_23 (0 : Int32) z47 (by omega) (by omega) (by omega) (by omega) (by omega) (by omega)
                · refine v_iconst (v := 1) rfl (by decide) ?_
                  refine v_goto rfl ?_
                  refine v_istore_n rfl (Nat.le_of_ble_eq_true rfl) ?_
                  refine r_iinc rfl rfl (by decide) (by omega) (by omega) (fun z48 z48e => ?_)
                  refine v_goto rfl ?_
                  exact ih17_23 (1 : Int32) z48 (by omega) (by omega) (by omega) (by omega) (by omega) (by omega)
        exact L23 _ l1 (0 : Int32) (by omega) (by omega) (by omega) (by omega) (by omega) (Nat.lt_add_one _)
  exact L4 _ (1 : Int32) (0 : Int32) (.null) (by omega) (by omega) (by omega) (by omega) (by omega) (Nat.lt_add_one _)
theorem W_X12_isSame_59_c {sc : pm_S} {w : pm_W} {gi : Nat → Int32} {ga : Nat → List Int32} (a : Int32) (b : Int32) (p0 : b.toInt ≤ 20) (p1 : 0 ≤ b.toInt) (p2 : a.toInt ≤ 20) (p3 : 0 ≤ a.toInt) (hR : pm_Rg gi ga) (hI : pm_IM gi ga w) : pm_Mt sc 1 125 6 [.ref 59, .int a, .int b] w (fun rv w' => pm_wI (fun v => 0 ≤ v.toInt ∧ v.toInt ≤ 1 ∧ (((a.toInt = (gi 0).toInt ∧ b.toInt = 0) ∨ (a.toInt = 0 ∧ b.toInt = (gi 1).toInt)) → v.toInt = 1)) rv ∧ w = w') := by
  by_cases h : ((a.toInt = (gi 0).toInt ∧ b.toInt = 0) ∨ (a.toInt = 0 ∧ b.toInt = (gi 1).toInt))
  · refine m_weak (W_X12_isSame_59_s a b p0 p1 p2 p3 h hR hI) (fun rv w' hq => ?_)
    obtain ⟨⟨v, e, g⟩, hw⟩ := hq
    exact ⟨⟨v, e, by omega, by omega, fun _ => g⟩, hw⟩
  · refine m_weak (W_X12_isSame_59 a b p0 p1 p2 p3 hR hI) (fun rv w' hq => ?_)
    obtain ⟨⟨v, e, g1, g2⟩, hw⟩ := hq
    exact ⟨⟨v, e, g1, g2, fun hx => absurd hx h⟩, hw⟩
set_option maxRecDepth 100000 in
theorem W_X12_span_59 {sc : pm_S} {w w0 : pm_W} {gi : Nat → Int32} {ga : Nat → List Int32} (k : Int32)  (hR : pm_Rg gi ga) (hI : pm_IM gi ga w) (hh : pm_lo w0 w) : pm_Mt sc 2 126 4 [.ref 59, .int k] w (fun rv w' => pm_wI (fun v => True) rv ∧ pm_IM gi ga w' ∧ pm_lo w0 w') := by
  intro d hd
  obtain ⟨g0a, g0b⟩ := hR.n0
  obtain ⟨g1a, g1b⟩ := hR.n1
  obtain ⟨g2a, g2b⟩ := hR.n2
  obtain ⟨g3a, g3b⟩ := hR.n3
  obtain ⟨g4a, g4b⟩ := hR.n4
  obtain ⟨g5a, g5b⟩ := hR.n5
  obtain ⟨g6a, g6b⟩ := hR.n6
  obtain ⟨g7a, g7b⟩ := hR.n7
  obtain ⟨g8a, g8b⟩ := hR.n8
  have km2 : (-2 : Int32).toInt = -2 := by decide
  have k0 : (0 : Int32).toInt = 0 := by decide
  have k1 : (1 : Int32).toInt = 1 := by decide
  show pm_V sc d 126 0 [.ref 59, .int k, .null, .null] [] w _
  refine v_iload_n rfl rfl ?_
  refine v_iconst (v := 0) rfl (by decide) ?_
  refine v_iconst (v := 1) rfl (by decide) ?_
  refine v_callS rfl (W_X12_in k (0 : Int32) (1 : Int32) hR hI) rfl rfl rfl rfl rfl (by omega) (fun rv w1 hq2 => ?_)
  obtain ⟨⟨z3, rfl, z3p0⟩, rfl⟩ := hq2
  refine r_if_ne rfl (fun t4 => ?_) (fun t4 => ?_)
  · refine v_iload_n rfl rfl ?_
    refine r_if_ne rfl (fun t5 => ?_) (fun t5 => ?_)
    · refine v_aload_n rfl rfl ?_
      obtain ⟨v7, v8, v9, v10, v11, v12, v13, v14, ⟨v7z, v7e⟩, ⟨⟨v8a, v8b⟩, v8e⟩, ⟨⟨v9a, v9b⟩, v9e⟩, ⟨v11a, v11b⟩, ⟨v14a, v14b⟩, h6⟩ := hI.2.1 59 (by decide) (by decide)
      have v7z := v7z.imp i_eq.mp i_eq.mp
      rw [i_0, i_1] at v7z
      refine v_get rfl h6 rfl ?_
      refine v_istore_n rfl (Nat.le_of_ble_eq_true rfl) ?_
      refine v_iconst (v := 1) rfl (by decide) ?_
      refine v_istore_n rfl (Nat.le_of_ble_eq_true rfl) ?_
      have L16 : ∀ (n16 : Nat) (l15 : Int32), 1 ≤ l15.toInt → l15.toInt ≤ 20 → (l15.toInt ≤ (gi 1).toInt) → ((gi 1).toInt - l15.toInt).toNat < n16 → pm_V sc d 126 34 [.ref 59, .int k, .int (gi 1), .int l15] [] w (fun rv w' => pm_wI (fun v => True) rv ∧ pm_IM gi ga w' ∧ pm_lo w0 w') := by
        intro n16
        induction n16 with
        | zero => intro l15 t18 t19 t20 hm17; exact absurd hm17 (Nat.not_lt_zero _)
        | succ n16 ih34_16 =>
          intro l15 t18 t19 t20 hm17
          refine v_iload_n rfl rfl ?_
          refine v_iload_n rfl rfl ?_
          refine r_irem rfl (by omega) (by omega) (fun z21 z21m z21a z21b z21c => ?_)
          have z21q : l15.toInt = (gi 1).toInt → z21.toInt = 0 := fun h => by rw [z21m, h]; exact Int.emod_self
          refine r_if_ne rfl (fun t22 => ?_) (fun t22 => ?_)
          · refine r_iinc rfl rfl (by decide) (by omega) (by omega) (fun z23 z23e => ?_)
            refine v_goto rfl ?_
            exact ih34_16 z23 (by omega) (by omega) (by omega) (by omega)
          · refine v_aload_n rfl rfl ?_
            refine v_iload_n rfl rfl ?_
            refine r_if_ne rfl (fun t24 => ?_) (fun t24 => ?_)
            · refine v_iconst (v := 0) rfl (by decide) ?_
              refine v_iload_n rfl rfl ?_
              refine r_if_ne rfl (fun t25 => ?_) (fun t25 => ?_)
              · refine v_iload_n rfl rfl ?_
                refine v_callV rfl (W_X12_isSame_59_c (0 : Int32) l15 (by omega) (by omega) (by omega) (by omega) hR hI) rfl rfl h6 rfl rfl (by omega) (fun rv w26 hq27 => ?_)
                obtain ⟨⟨z28, rfl, z28p0, z28p1, z28p2⟩, rfl⟩ := hq27
                refine r_if_ne rfl (fun t29 => ?_) (fun t29 => ?_)
                · refine v_iload_n rfl rfl ?_
                  exact v_iret rfl ⟨⟨_, rfl, trivial⟩, hI, hh⟩
                · refine r_iinc rfl rfl (by decide) (by omega) (by omega) (fun z30 z30e => ?_)
                  refine v_goto rfl ?_
                  exact ih34_16 z30 (by omega) (by omega) (by omega) (by omega)
              · refine v_iconst (v := 0) rfl (by decide) ?_
                refine v_goto rfl ?_
                refine v_callV rfl (W_X12_isSame_59_c (0 : Int32) (0 : Int32) (by omega) (by omega) (by omega) (by omega) hR hI) rfl rfl h6 rfl rfl (by omega) (fun rv w31 hq32 => ?_)
                obtain ⟨⟨z33, rfl, z33p0, z33p1, z33p2⟩, rfl⟩ := hq32
                refine r_if_ne rfl (fun t34 => ?_) (fun t34 => ?_)
                · refine v_iload_n rfl rfl ?_
                  exact v_iret rfl ⟨⟨_, rfl, trivial⟩, hI, hh⟩
                · refine r_iinc rfl rfl (by decide) (by omega) (by omega) (fun z35 z35e => ?_)
                  refine v_goto rfl ?_
                  exact ih34_16 z35 (by omega) (by omega) (by omega) (by omega)
            · refine v_iload_n rfl rfl ?_
              refine v_goto rfl ?_
              refine v_iload_n rfl rfl ?_
              refine r_if_ne rfl (fun t36 => ?_) (fun t36 => ?_)
              · refine v_iload_n rfl rfl ?_
                refine v_callV rfl (W_X12_isSame_59_c l15 l15 (by omega) (by omega) (by omega) (by omega) hR hI) rfl rfl h6 rfl rfl (by omega) (fun rv w37 hq38 => ?_)
                obtain ⟨⟨z39, rfl, z39p0, z39p1, z39p2⟩, rfl⟩ := hq38
                refine r_if_ne rfl (fun t40 => ?_) (fun t40 => ?_)
                · refine v_iload_n rfl rfl ?_
                  exact v_iret rfl ⟨⟨_, rfl, trivial⟩, hI, hh⟩
                · refine r_iinc rfl rfl (by decide) (by omega) (by omega) (fun z41 z41e => ?_)
                  refine v_goto rfl ?_
                  exact ih34_16 z41 (by omega) (by omega) (by omega) (by omega)
              · refine v_iconst (v := 0) rfl (by decide) ?_
                refine v_goto rfl ?_
                refine v_callV rfl (W_X12_isSame_59_c l15 (0 : Int32) (by omega) (by omega) (by omega) (by omega) hR hI) rfl rfl h6 rfl rfl (by omega) (fun rv w42 hq43 => ?_)
                obtain ⟨⟨z44, rfl, z44p0, z44p1, z44p2⟩, rfl⟩ := hq43
                refine r_if_ne rfl (fun t45 => ?_) (fun t45 => ?_)
                · refine v_iload_n rfl rfl ?_
                  exact v_iret rfl ⟨⟨_, rfl, trivial⟩, hI, hh⟩
                · refine r_iinc rfl rfl (by decide) (by omega) (by omega) (fun z46 z46e => ?_)
                  refine v_goto rfl ?_
                  exact ih34_16 z46 (by omega) (by omega) (by omega) (by omega)
      exact L16 _ (1 : Int32) (by omega) (by omega) (by omega) (Nat.lt_add_one _)
    · refine v_aload_n rfl rfl ?_
      obtain ⟨v48, v49, v50, v51, v52, v53, v54, v55, ⟨v48z, v48e⟩, ⟨⟨v49a, v49b⟩, v49e⟩, ⟨⟨v50a, v50b⟩, v50e⟩, ⟨v52a, v52b⟩, ⟨v55a, v55b⟩, h47⟩ := hI.2.1 59 (by decide) (by decide)
      have v48z := v48z.imp i_eq.mp i_eq.mp
      rw [i_0, i_1] at v48z
      refine v_get rfl h47 rfl ?_
      refine v_goto rfl ?_
      refine v_istore_n rfl (Nat.le_of_ble_eq_true rfl) ?_
      refine v_iconst (v := 1) rfl (by decide) ?_
      refine v_istore_n rfl (Nat.le_of_ble_eq_true rfl) ?_
      have L57 : ∀ (n57 : Nat) (l56 : Int32), 1 ≤ l56.toInt → l56.toInt ≤ 20 → (l56.toInt ≤ (gi 0).toInt) → ((gi 0).toInt - l56.toInt).toNat < n57 → pm_V sc d 126 34 [.ref 59, .int k, .int (gi 0), .int l56] [] w (fun rv w' => pm_wI (fun v => True) rv ∧ pm_IM gi ga w' ∧ pm_lo w0 w') := by
        intro n57
        induction n57 with
        | zero => intro l56 t59 t60 t61 hm58; exact absurd hm58 (Nat.not_lt_zero _)
        | succ n57 ih34_57 =>
          intro l56 t59 t60 t61 hm58
          refine v_iload_n rfl rfl ?_
          refine v_iload_n rfl rfl ?_
          refine r_irem rfl (by omega) (by omega) (fun z62 z62m z62a z62b z62c => ?_)
          have z62q : l56.toInt = (gi 0).toInt → z62.toInt = 0 := fun h => by rw [z62m, h]; exact Int.emod_self
          refine r_if_ne rfl (fun t63 => ?_) (fun t63 => ?_)
          · refine r_iinc rfl rfl (by decide) (by omega) (by omega) (fun z64 z64e => ?_)
            refine v_goto rfl ?_
            exact ih34_57 z64 (by omega) (by omega) (by omega) (by omega)
          · refine v_aload_n rfl rfl ?_
            refine v_iload_n rfl rfl ?_
            refine r_if_ne rfl (fun t65 => ?_) (fun t65 => ?_)
            · refine v_iconst (v := 0) rfl (by decide) ?_
              refine v_iload_n rfl rfl ?_
              refine r_if_ne rfl (fun t66 => ?_) (fun t66 => ?_)
              · refine v_iload_n rfl rfl ?_
                refine v_callV rfl (W_X12_isSame_59_c (0 : Int32) l56 (by omega) (by omega) (by omega) (by omega) hR hI) rfl rfl h47 rfl rfl (by omega) (fun rv w67 hq68 => ?_)
                obtain ⟨⟨z69, rfl, z69p0, z69p1, z69p2⟩, rfl⟩ := hq68
                refine r_if_ne rfl (fun t70 => ?_) (fun t70 => ?_)
                · refine v_iload_n rfl rfl ?_
                  exact v_iret rfl ⟨⟨_, rfl, trivial⟩, hI, hh⟩
                · refine r_iinc rfl rfl (by decide) (by omega) (by omega) (fun z71 z71e => ?_)
                  refine v_goto rfl ?_
                  exact ih34_57 z71 (by omega) (by omega) (by omega) (by omega)
              · refine v_iconst (v := 0) rfl (by decide) ?_
                refine v_goto rfl ?_
                refine v_callV rfl (W_X12_isSame_59_c (0 : Int32) (0 : Int32) (by omega) (by omega) (by omega) (by omega) hR hI) rfl rfl h47 rfl rfl (by omega) (fun rv w72 hq73 => ?_)
                obtain ⟨⟨z74, rfl, z74p0, z74p1, z74p2⟩, rfl⟩ := hq73
                refine r_if_ne rfl (fun t75 => ?_) (fun t75 => ?_)
                · refine v_iload_n rfl rfl ?_
                  exact v_iret rfl ⟨⟨_, rfl, trivial⟩, hI, hh⟩
                · refine r_iinc rfl rfl (by decide) (by omega) (by omega) (fun z76 z76e => ?_)
                  refine v_goto rfl ?_
                  exact ih34_57 z76 (by omega) (by omega) (by omega) (by omega)
            · refine v_iload_n rfl rfl ?_
              refine v_goto rfl ?_
              refine v_iload_n rfl rfl ?_
              refine r_if_ne rfl (fun t77 => ?_) (fun t77 => ?_)
              · refine v_iload_n rfl rfl ?_
                refine v_callV rfl (W_X12_isSame_59_c l56 l56 (by omega) (by omega) (by omega) (by omega) hR hI) rfl rfl h47 rfl rfl (by omega) (fun rv w78 hq79 => ?_)
                obtain ⟨⟨z80, rfl, z80p0, z80p1, z80p2⟩, rfl⟩ := hq79
                refine r_if_ne rfl (fun t81 => ?_) (fun t81 => ?_)
                · refine v_iload_n rfl rfl ?_
                  exact v_iret rfl ⟨⟨_, rfl, trivial⟩, hI, hh⟩
                · refine r_iinc rfl rfl (by decide) (by omega) (by omega) (fun z82 z82e => ?_)
                  refine v_goto rfl ?_
                  exact ih34_57 z82 (by omega) (by omega) (by omega) (by omega)
              · refine v_iconst (v := 0) rfl (by decide) ?_
                refine v_goto rfl ?_
                refine v_callV rfl (W_X12_isSame_59_c l56 (0 : Int32) (by omega) (by omega) (by omega) (by omega) hR hI) rfl rfl h47 rfl rfl (by omega) (fun rv w83 hq84 => ?_)
                obtain ⟨⟨z85, rfl, z85p0, z85p1, z85p2⟩, rfl⟩ := hq84
                refine r_if_ne rfl (fun t86 => ?_) (fun t86 => ?_)
                · refine v_iload_n rfl rfl ?_
                  exact v_iret rfl ⟨⟨_, rfl, trivial⟩, hI, hh⟩
                · refine r_iinc rfl rfl (by decide) (by omega) (by omega) (fun z87 z87e => ?_)
                  refine v_goto rfl ?_
                  exact ih34_57 z87 (by omega) (by omega) (by omega) (by omega)
      exact L57 _ (1 : Int32) (by omega) (by omega) (by omega) (Nat.lt_add_one _)
  · refine v_aload_n rfl rfl ?_
    refine v_bipush (v := (-2)) rfl (by decide) ?_
    obtain ⟨v89, v90, v91, v92, v93, v94, v95, v96, ⟨v89z, v89e⟩, ⟨⟨v90a, v90b⟩, v90e⟩, ⟨⟨v91a, v91b⟩, v91e⟩, ⟨v93a, v93b⟩, ⟨v96a, v96b⟩, h88⟩ := hI.2.1 59 (by decide) (by decide)
    have v89z := v89z.imp i_eq.mp i_eq.mp
    rw [i_0, i_1] at v89z
    refine v_callV rfl (c_M_refuse (-2 : Int32) (by unfold pm_isR; first | decide | exact Or.inl rfl) hR hI) rfl rfl h88 rfl rfl (by omega) (fun rv w97 hq98 => ?_)
    obtain ⟨rfl, hI99, hh100x⟩ := hq98
    have hI99 : pm_IM gi ga w97 := hI99
    have hh100 := hh.tr hh100x
    exact v_iret rfl ⟨⟨_, rfl, trivial⟩, hI99, hh100⟩
set_option maxRecDepth 100000 in
theorem W_X12_isPlain_59_x {sc : pm_S} {w : pm_W} {gi : Nat → Int32} {ga : Nat → List Int32} (y : Int32) (c60 : List Int32) (p0 : y.toInt ≤ 19) (p1 : 0 ≤ y.toInt) (hc60 : w[60]? = some (.inl (0, .inl c60))) (hl60 : c60.length = 400) (hR : pm_Rg gi ga) (hI : pm_IM gi ga w) : pm_Mt sc 1 141 4 [.ref 59, .int y] w (fun rv w' => pm_wI (fun v => 0 ≤ v.toInt ∧ v.toInt ≤ 1 ∧ (v.toInt = 1 ∨ (v.toInt = 0 ∧ ∃ j : Int, 0 ≤ j ∧ j < (gi 0).toInt ∧ ¬ (c60.getD (20 * y.toInt + j).toNat 0).toInt = (c60.getD (20 * y.toInt + (0 : Int32).toInt).toNat 0).toInt))) rv ∧ w = w') := by
  intro d hd
  obtain ⟨g0a, g0b⟩ := hR.n0
  obtain ⟨g1a, g1b⟩ := hR.n1
  obtain ⟨g2a, g2b⟩ := hR.n2
  obtain ⟨g3a, g3b⟩ := hR.n3
  obtain ⟨g4a, g4b⟩ := hR.n4
  obtain ⟨g5a, g5b⟩ := hR.n5
  obtain ⟨g6a, g6b⟩ := hR.n6
  obtain ⟨g7a, g7b⟩ := hR.n7
  obtain ⟨g8a, g8b⟩ := hR.n8
  have k0 : (0 : Int32).toInt = 0 := by decide
  have k1 : (1 : Int32).toInt = 1 := by decide
  show pm_V sc d 141 0 [.ref 59, .int y, .null, .null] [] w _
  refine v_iconst (v := 1) rfl (by decide) ?_
  refine v_istore_n rfl (Nat.le_of_ble_eq_true rfl) ?_
  refine v_iconst (v := 0) rfl (by decide) ?_
  refine v_istore_n rfl (Nat.le_of_ble_eq_true rfl) ?_
  have L3 : ∀ (n3 : Nat) (l1 : Int32) (l2 : Int32), 0 ≤ l1.toInt → l1.toInt ≤ 1 → 0 ≤ l2.toInt → l2.toInt ≤ 20 → (l1.toInt = 1 ∨ (l1.toInt = 0 ∧ ∃ j : Int, 0 ≤ j ∧ j < (gi 0).toInt ∧ ¬ (c60.getD (20 * y.toInt + j).toNat 0).toInt = (c60.getD (20 * y.toInt + (0 : Int32).toInt).toNat 0).toInt)) → (20 - l2.toInt).toNat < n3 → pm_V sc d 141 4 [.ref 59, .int y, .int l1, .int l2] [] w (fun rv w' => pm_wI (fun v => 0 ≤ v.toInt ∧ v.toInt ≤ 1 ∧ (v.toInt = 1 ∨ (v.toInt = 0 ∧ ∃ j : Int, 0 ≤ j ∧ j < (gi 0).toInt ∧ ¬ (c60.getD (20 * y.toInt + j).toNat 0).toInt = (c60.getD (20 * y.toInt + (0 : Int32).toInt).toNat 0).toInt))) rv ∧ w = w') := by
    intro n3
    induction n3 with
    | zero => intro l1 l2 t5 t6 t7 t8 t9 hm4; exact absurd hm4 (Nat.not_lt_zero _)
    | succ n3 ih4_3 =>
      intro l1 l2 t5 t6 t7 t8 t9 hm4
      refine v_iload_n rfl rfl ?_
      refine v_aload_n rfl rfl ?_
      obtain ⟨v11, v12, v13, v14, v15, v16, v17, v18, ⟨v11z, v11e⟩, ⟨⟨v12a, v12b⟩, v12e⟩, ⟨⟨v13a, v13b⟩, v13e⟩, ⟨v15a, v15b⟩, ⟨v18a, v18b⟩, h10⟩ := hI.2.1 59 (by decide) (by decide)
      have v11z := v11z.imp i_eq.mp i_eq.mp
      rw [i_0, i_1] at v11z
      refine v_get rfl h10 rfl ?_
      refine r_icmp_ge rfl (fun t19 => ?_) (fun t19 => ?_)
      · refine v_iload_n rfl rfl ?_
        exact r_zret rfl (by omega) ⟨⟨_, rfl, (by omega), (by omega), (by exact t9)⟩, rfl⟩
      · refine v_iload_n rfl rfl ?_
        refine r_if_eq rfl (fun t20 => ?_) (fun t20 => ?_)
        · refine v_iconst (v := 0) rfl (by decide) ?_
          refine v_istore_n rfl (Nat.le_of_ble_eq_true rfl) ?_
          refine r_iinc rfl rfl (by decide) (by omega) (by omega) (fun z21 z21e => ?_)
          refine v_goto rfl ?_
          exact ih4_3 (0 : Int32) z21 (by omega) (by omega) (by omega) (by omega) (by first | (left; omega) | exact Or.inr ⟨by omega, l2.toInt, by omega, by omega, by omega⟩ | (rcases t9 with hx | hx; (first | exact absurd hx (by omega) | (left; omega)); exact Or.inr ⟨by omega, hx.2⟩)) (by omega)
        · refine v_aload_n rfl rfl ?_
          refine v_iload_n rfl rfl ?_
          refine v_iload_n rfl rfl ?_
          refine v_callV rfl (W_X12_colour_59_x l2 y c60 (by omega) (by omega) (by omega) (by omega) hc60 hl60 hR hI) rfl rfl h10 rfl rfl (by omega) (fun rv w22 hq23 => ?_)
          obtain ⟨⟨z24, rfl, z24p0⟩, rfl⟩ := hq23
          refine v_aload_n rfl rfl ?_
          refine v_iconst (v := 0) rfl (by decide) ?_
          refine v_iload_n rfl rfl ?_
          refine v_callV rfl (W_X12_colour_59_x (0 : Int32) y c60 (by omega) (by omega) (by omega) (by omega) hc60 hl60 hR hI) rfl rfl h10 rfl rfl (by omega) (fun rv w25 hq26 => ?_)
          obtain ⟨⟨z27, rfl, z27p0⟩, rfl⟩ := hq26
          refine r_icmp_ne rfl (fun t28 => ?_) (fun t28 => ?_)
          · refine v_iconst (v := 0) rfl (by decide) ?_
            refine v_istore_n rfl (Nat.le_of_ble_eq_true rfl) ?_
            refine r_iinc rfl rfl (by decide) (by omega) (by omega) (fun z29 z29e => ?_)
            refine v_goto rfl ?_
            exact ih4_3 (0 : Int32) z29 (by omega) (by omega) (by omega) (by omega) (by first | (left; omega) | exact Or.inr ⟨by omega, l2.toInt, by omega, by omega, by omega⟩ | (rcases t9 with hx | hx; (first | exact absurd hx (by omega) | (left; omega)); exact Or.inr ⟨by omega, hx.2⟩)) (by omega)
          · refine v_iconst (v := 1) rfl (by decide) ?_
            refine v_goto rfl ?_
            refine v_istore_n rfl (Nat.le_of_ble_eq_true rfl) ?_
            refine r_iinc rfl rfl (by decide) (by omega) (by omega) (fun z30 z30e => ?_)
            refine v_goto rfl ?_
            exact ih4_3 (1 : Int32) z30 (by omega) (by omega) (by omega) (by omega) (by first | (left; omega) | exact Or.inr ⟨by omega, l2.toInt, by omega, by omega, by omega⟩ | (rcases t9 with hx | hx; (first | exact absurd hx (by omega) | (left; omega)); exact Or.inr ⟨by omega, hx.2⟩)) (by omega)
  exact L3 _ (1 : Int32) (0 : Int32) (by omega) (by omega) (by omega) (by omega) (by left; omega) (Nat.lt_add_one _)
set_option maxRecDepth 100000 in
theorem W_X12_begins_59_x {sc : pm_S} {w : pm_W} {gi : Nat → Int32} {ga : Nat → List Int32} (x : Int32) (y : Int32) (c60 : List Int32) (p0 : y.toInt ≤ 19) (p1 : 0 ≤ y.toInt) (p2 : x.toInt ≤ 19) (p3 : 0 ≤ x.toInt) (p4 : x.toInt < (gi 0).toInt) (hc60 : w[60]? = some (.inl (0, .inl c60))) (hl60 : c60.length = 400) (hR : pm_Rg gi ga) (hI : pm_IM gi ga w) : pm_Mt sc 1 139 3 [.ref 59, .int x, .int y] w (fun rv w' => pm_wI (fun v => 0 ≤ v.toInt ∧ v.toInt ≤ 1 ∧ (v.toInt = 1 ∨ (v.toInt = 0 ∧ (1 ≤ x.toInt → (c60.getD (20 * y.toInt + (x.toInt - 1)).toNat 0).toInt = (c60.getD (20 * y.toInt + x.toInt).toNat 0).toInt)))) rv ∧ w = w') := by
  intro d hd
  obtain ⟨g0a, g0b⟩ := hR.n0
  obtain ⟨g1a, g1b⟩ := hR.n1
  obtain ⟨g2a, g2b⟩ := hR.n2
  obtain ⟨g3a, g3b⟩ := hR.n3
  obtain ⟨g4a, g4b⟩ := hR.n4
  obtain ⟨g5a, g5b⟩ := hR.n5
  obtain ⟨g6a, g6b⟩ := hR.n6
  obtain ⟨g7a, g7b⟩ := hR.n7
  obtain ⟨g8a, g8b⟩ := hR.n8
  have k0 : (0 : Int32).toInt = 0 := by decide
  have k1 : (1 : Int32).toInt = 1 := by decide
  show pm_V sc d 139 0 [.ref 59, .int x, .int y] [] w _
  refine v_aload_n rfl rfl ?_
  refine v_iload_n rfl rfl ?_
  refine v_aload_n rfl rfl ?_
  obtain ⟨v2, v3, v4, v5, v6, v7, v8, v9, ⟨v2z, v2e⟩, ⟨⟨v3a, v3b⟩, v3e⟩, ⟨⟨v4a, v4b⟩, v4e⟩, ⟨v6a, v6b⟩, ⟨v9a, v9b⟩, h1⟩ := hI.2.1 59 (by decide) (by decide)
  have v2z := v2z.imp i_eq.mp i_eq.mp
  rw [i_0, i_1] at v2z
  refine v_get rfl h1 rfl ?_
  refine r_iadd rfl (by omega) (by omega) (fun z10 z10e => ?_)
  refine v_iconst (v := 1) rfl (by decide) ?_
  refine r_isub rfl (by omega) (by omega) (fun z11 z11e => ?_)
  refine v_aload_n rfl rfl ?_
  refine v_get rfl h1 rfl ?_
  refine r_irem rfl (by omega) (by omega) (fun z12 z12m z12a z12b z12c => ?_)
  have z12w : 1 ≤ x.toInt → z12.toInt = x.toInt - 1 := fun h => j_wrap z12m (by omega) (by omega) (by omega)
  refine v_iload_n rfl rfl ?_
  refine v_callV rfl (W_X12_colour_59_x z12 y c60 (by omega) (by omega) (by omega) (by omega) hc60 hl60 hR hI) rfl rfl h1 rfl rfl (by omega) (fun rv w13 hq14 => ?_)
  obtain ⟨⟨z15, rfl, z15p0⟩, rfl⟩ := hq14
  skip
  refine v_aload_n rfl rfl ?_
  refine v_iload_n rfl rfl ?_
  refine v_iload_n rfl rfl ?_
  refine v_callV rfl (W_X12_colour_59_x x y c60 (by omega) (by omega) (by omega) (by omega) hc60 hl60 hR hI) rfl rfl h1 rfl rfl (by omega) (fun rv w16 hq17 => ?_)
  obtain ⟨⟨z18, rfl, z18p0⟩, rfl⟩ := hq17
  refine r_icmp_eq rfl (fun t19 => ?_) (fun t19 => ?_)
  · refine v_iconst (v := 0) rfl (by decide) ?_
    exact r_zret rfl (by omega) ⟨⟨_, rfl, (by omega), (by omega), (by first | (left; omega) | (right; refine ⟨by omega, fun h => ?_⟩; rw [z12w h] at z15p0; omega))⟩, rfl⟩
  · refine v_iconst (v := 1) rfl (by decide) ?_
    refine v_goto rfl ?_
    exact r_zret rfl (by omega) ⟨⟨_, rfl, (by omega), (by omega), (by first | (left; omega) | (right; refine ⟨by omega, fun h => ?_⟩; rw [z12w h] at z15p0; omega))⟩, rfl⟩
set_option maxRecDepth 100000 in
theorem W_X12_fewestFrom_59 {sc : pm_S} {w w0 : pm_W} {gi : Nat → Int32} {ga : Nat → List Int32} (y : Int32) (f : Int32) (m : Int32) (u : Int32) (b : Int32) (p0 : m.toInt ≤ 20) (p1 : 0 ≤ m.toInt) (p2 : f.toInt ≤ 20) (p3 : 0 ≤ f.toInt) (p4 : y.toInt ≤ 19) (p5 : 0 ≤ y.toInt) (hR : pm_Rg gi ga) (hI : pm_IM gi ga w) (hh : pm_lo w0 w) : pm_Mt sc 1 143 11 [.ref 59, .int y, .int f, .int m, .int u, .int b] w (fun rv w' => pm_wI (fun v => True) rv ∧ pm_IM gi ga w' ∧ pm_lo w0 w') := by
  intro d hd
  obtain ⟨g0a, g0b⟩ := hR.n0
  obtain ⟨g1a, g1b⟩ := hR.n1
  obtain ⟨g2a, g2b⟩ := hR.n2
  obtain ⟨g3a, g3b⟩ := hR.n3
  obtain ⟨g4a, g4b⟩ := hR.n4
  obtain ⟨g5a, g5b⟩ := hR.n5
  obtain ⟨g6a, g6b⟩ := hR.n6
  obtain ⟨g7a, g7b⟩ := hR.n7
  obtain ⟨g8a, g8b⟩ := hR.n8
  have k0 : (0 : Int32).toInt = 0 := by decide
  have k1 : (1 : Int32).toInt = 1 := by decide
  have k21 : (21 : Int32).toInt = 21 := by decide
  have k99 : (99 : Int32).toInt = 99 := by decide
  show pm_V sc d 143 0 [.ref 59, .int y, .int f, .int m, .int u, .int b, .null, .null, .null, .null, .null] [] w _
  refine v_iconst (v := 0) rfl (by decide) ?_
  refine v_istore rfl (Nat.le_of_ble_eq_true rfl) ?_
  have L5 : ∀ (n5 : Nat) (l1 : Int32) (w2 : pm_W), pm_IM gi ga w2 → pm_lo w0 w2 → 0 ≤ l1.toInt → l1.toInt ≤ 21 → (21 - l1.toInt).toNat < n5 → pm_V sc d 143 3 [.ref 59, .int y, .int f, .int m, .int u, .int b, .int l1, .null, .null, .null, .null] [] w2 (fun rv w' => pm_wI (fun v => True) rv ∧ pm_IM gi ga w' ∧ pm_lo w0 w') := by
    intro n5
    induction n5 with
    | zero => intro l1 w2 hI3 hh4 t7 t8 hm6; exact absurd hm6 (Nat.not_lt_zero _)
    | succ n5 ih3_5 =>
      intro l1 w2 hI3 hh4 t7 t8 hm6
      refine v_iload rfl rfl ?_
      refine v_bipush (v := 21) rfl (by decide) ?_
      refine r_icmp_ge rfl (fun t9 => ?_) (fun t9 => ?_)
      · refine v_iconst (v := 0) rfl (by decide) ?_
        refine v_istore rfl (Nat.le_of_ble_eq_true rfl) ?_
        have L18 : ∀ (n18 : Nat) (l10 : Int32) (u11 : Value) (u12 : Value) (u13 : Value) (u14 : Value) (w15 : pm_W), pm_IM gi ga w15 → pm_lo w0 w15 → 0 ≤ l10.toInt → l10.toInt ≤ 20 → (20 - l10.toInt).toNat < n18 → pm_V sc d 143 37 [.ref 59, .int y, .int f, .int m, .int u, .int b, .int l10, u11, u12, u13, u14] [] w15 (fun rv w' => pm_wI (fun v => True) rv ∧ pm_IM gi ga w' ∧ pm_lo w0 w') := by
          intro n18
          induction n18 with
          | zero => intro l10 u11 u12 u13 u14 w15 hI16 hh17 t20 t21 hm19; exact absurd hm19 (Nat.not_lt_zero _)
          | succ n18 ih37_18 =>
            intro l10 u11 u12 u13 u14 w15 hI16 hh17 t20 t21 hm19
            refine v_iload rfl rfl ?_
            refine v_iload_n rfl rfl ?_
            refine r_icmp_ge rfl (fun t22 => ?_) (fun t22 => ?_)
            · refine v_bipush (v := 99) rfl (by decide) ?_
              refine v_istore rfl (Nat.le_of_ble_eq_true rfl) ?_
              refine v_iconst (v := 0) rfl (by decide) ?_
              refine v_istore rfl (Nat.le_of_ble_eq_true rfl) ?_
              have L25 : ∀ (n25 : Nat) (l23 : Int32) (l24 : Int32), 0 ≤ l24.toInt → l24.toInt ≤ 21 → (21 - l24.toInt).toNat < n25 → pm_V sc d 143 284 [.ref 59, .int y, .int f, .int m, .int u, .int b, .int l23, .int l24, u12, u13, u14] [] w15 (fun rv w' => pm_wI (fun v => True) rv ∧ pm_IM gi ga w' ∧ pm_lo w0 w') := by
                intro n25
                induction n25 with
                | zero => intro l23 l24 t27 t28 hm26; exact absurd hm26 (Nat.not_lt_zero _)
                | succ n25 ih284_25 =>
                  intro l23 l24 t27 t28 hm26
                  refine v_iload rfl rfl ?_
                  refine v_aload_n rfl rfl ?_
                  obtain ⟨v30, v31, v32, v33, v34, v35, v36, v37, ⟨v30z, v30e⟩, ⟨⟨v31a, v31b⟩, v31e⟩, ⟨⟨v32a, v32b⟩, v32e⟩, ⟨v34a, v34b⟩, ⟨v37a, v37b⟩, h29⟩ := hI16.2.1 59 (by decide) (by decide)
                  have v30z := v30z.imp i_eq.mp i_eq.mp
                  rw [i_0, i_1] at v30z
                  refine v_get rfl h29 rfl ?_
                  refine r_icmp_gt rfl (fun t38 => ?_) (fun t38 => ?_)
                  · refine v_iload rfl rfl ?_
                    exact v_iret rfl ⟨⟨_, rfl, trivial⟩, hI16, hh17⟩
                  · refine v_aload_n rfl rfl ?_
                    refine v_get rfl h29 rfl ?_
                    refine v_iload rfl rfl ?_
                    obtain ⟨xs40, xs40l, h39⟩ := hI16.2.1 82 (by decide) (by decide)
                    refine r_iaload rfl h39 xs40l (by omega) (by omega) (fun z41 z41m z41g => ?_)
                    refine v_iload rfl rfl ?_
                    refine r_icmp_ge rfl (fun t42 => ?_) (fun t42 => ?_)
                    · refine v_iload rfl rfl ?_
                      refine v_istore rfl (Nat.le_of_ble_eq_true rfl) ?_
                      refine r_iinc rfl rfl (by decide) (by omega) (by omega) (fun z43 z43e => ?_)
                      refine v_goto rfl ?_
                      exact ih284_25 l23 z43 (by omega) (by omega) (by omega)
                    · refine v_aload_n rfl rfl ?_
                      refine v_get rfl h29 rfl ?_
                      refine v_iload rfl rfl ?_
                      refine r_iaload rfl h39 xs40l (by omega) (by omega) (fun z44 z44m z44g => ?_)
                      refine v_goto rfl ?_
                      refine v_istore rfl (Nat.le_of_ble_eq_true rfl) ?_
                      refine r_iinc rfl rfl (by decide) (by omega) (by omega) (fun z45 z45e => ?_)
                      refine v_goto rfl ?_
                      exact ih284_25 z44 z45 (by omega) (by omega) (by omega)
              exact L25 _ (99 : Int32) (0 : Int32) (by omega) (by omega) (Nat.lt_add_one _)
            · refine v_iload_n rfl rfl ?_
              refine v_iload rfl rfl ?_
              refine r_iadd rfl (by omega) (by omega) (fun z46 z46e => ?_)
              refine v_aload_n rfl rfl ?_
              obtain ⟨v48, v49, v50, v51, v52, v53, v54, v55, ⟨v48z, v48e⟩, ⟨⟨v49a, v49b⟩, v49e⟩, ⟨⟨v50a, v50b⟩, v50e⟩, ⟨v52a, v52b⟩, ⟨v55a, v55b⟩, h47⟩ := hI16.2.1 59 (by decide) (by decide)
              have v48z := v48z.imp i_eq.mp i_eq.mp
              rw [i_0, i_1] at v48z
              refine v_get rfl h47 rfl ?_
              refine r_irem rfl (by omega) (by omega) (fun z56 z56m z56a z56b z56c => ?_)
              clear z56m
              refine v_istore rfl (Nat.le_of_ble_eq_true rfl) ?_
              have K58 : ∀ (l57 : Int32), 0 ≤ l57.toInt → l57.toInt ≤ 1 → pm_V sc d 143 90 [.ref 59, .int y, .int f, .int m, .int u, .int b, .int l10, .int z56, .int l57, u13, u14] [] w15 (fun rv w' => pm_wI (fun v => True) rv ∧ pm_IM gi ga w' ∧ pm_lo w0 w') := by
                intro l57 t59 t60
                refine v_iconst (v := 0) rfl (by decide) ?_
                refine v_istore rfl (Nat.le_of_ble_eq_true rfl) ?_
                have L65 : ∀ (n65 : Nat) (l61 : Int32) (w62 : pm_W), pm_IM gi ga w62 → pm_lo w0 w62 → 0 ≤ l61.toInt → l61.toInt ≤ 21 → (21 - l61.toInt).toNat < n65 → pm_V sc d 143 93 [.ref 59, .int y, .int f, .int m, .int u, .int b, .int l10, .int z56, .int l57, .int l61, u14] [] w62 (fun rv w' => pm_wI (fun v => True) rv ∧ pm_IM gi ga w' ∧ pm_lo w0 w') := by
                  intro n65
                  induction n65 with
                  | zero => intro l61 w62 hI63 hh64 t67 t68 hm66; exact absurd hm66 (Nat.not_lt_zero _)
                  | succ n65 ih93_65 =>
                    intro l61 w62 hI63 hh64 t67 t68 hm66
                    refine v_iload rfl rfl ?_
                    refine v_bipush (v := 21) rfl (by decide) ?_
                    refine r_icmp_ge rfl (fun t69 => ?_) (fun t69 => ?_)
                    · refine v_iconst (v := 0) rfl (by decide) ?_
                      refine v_istore rfl (Nat.le_of_ble_eq_true rfl) ?_
                      have L75 : ∀ (n75 : Nat) (l70 : Int32) (u71 : Value) (w72 : pm_W), pm_IM gi ga w72 → pm_lo w0 w72 → 0 ≤ l70.toInt → l70.toInt ≤ 21 → (21 - l70.toInt).toNat < n75 → pm_V sc d 143 118 [.ref 59, .int y, .int f, .int m, .int u, .int b, .int l10, .int z56, .int l57, .int l70, u71] [] w72 (fun rv w' => pm_wI (fun v => True) rv ∧ pm_IM gi ga w' ∧ pm_lo w0 w') := by
                        intro n75
                        induction n75 with
                        | zero => intro l70 u71 w72 hI73 hh74 t77 t78 hm76; exact absurd hm76 (Nat.not_lt_zero _)
                        | succ n75 ih118_75 =>
                          intro l70 u71 w72 hI73 hh74 t77 t78 hm76
                          refine v_iload rfl rfl ?_
                          refine v_aload_n rfl rfl ?_
                          obtain ⟨v80, v81, v82, v83, v84, v85, v86, v87, ⟨v80z, v80e⟩, ⟨⟨v81a, v81b⟩, v81e⟩, ⟨⟨v82a, v82b⟩, v82e⟩, ⟨v84a, v84b⟩, ⟨v87a, v87b⟩, h79⟩ := hI73.2.1 59 (by decide) (by decide)
                          have v80z := v80z.imp i_eq.mp i_eq.mp
                          rw [i_0, i_1] at v80z
                          refine v_get rfl h79 rfl ?_
                          refine r_icmp_gt rfl (fun t88 => ?_) (fun t88 => ?_)
                          · refine v_iconst (v := 0) rfl (by decide) ?_
                            refine v_istore rfl (Nat.le_of_ble_eq_true rfl) ?_
                            have L93 : ∀ (n93 : Nat) (l89 : Int32) (w90 : pm_W), pm_IM gi ga w90 → pm_lo w0 w90 → 0 ≤ l89.toInt → l89.toInt ≤ 21 → (21 - l89.toInt).toNat < n93 → pm_V sc d 143 244 [.ref 59, .int y, .int f, .int m, .int u, .int b, .int l10, .int z56, .int l57, .int l89, u71] [] w90 (fun rv w' => pm_wI (fun v => True) rv ∧ pm_IM gi ga w' ∧ pm_lo w0 w') := by
                              intro n93
                              induction n93 with
                              | zero => intro l89 w90 hI91 hh92 t95 t96 hm94; exact absurd hm94 (Nat.not_lt_zero _)
                              | succ n93 ih244_93 =>
                                intro l89 w90 hI91 hh92 t95 t96 hm94
                                refine v_iload rfl rfl ?_
                                refine v_bipush (v := 21) rfl (by decide) ?_
                                refine r_icmp_ge rfl (fun t97 => ?_) (fun t97 => ?_)
                                · refine r_iinc rfl rfl (by decide) (by omega) (by omega) (fun z98 z98e => ?_)
                                  refine v_goto rfl ?_
                                  exact ih37_18 z98 (.int z56) (.int l57) (.int l89) (u71) w90 hI91 hh92 (by omega) (by omega) (by omega)
                                · refine v_aload_n rfl rfl ?_
                                  obtain ⟨v100, v101, v102, v103, v104, v105, v106, v107, ⟨v100z, v100e⟩, ⟨⟨v101a, v101b⟩, v101e⟩, ⟨⟨v102a, v102b⟩, v102e⟩, ⟨v104a, v104b⟩, ⟨v107a, v107b⟩, h99⟩ := hI91.2.1 59 (by decide) (by decide)
                                  have v100z := v100z.imp i_eq.mp i_eq.mp
                                  rw [i_0, i_1] at v100z
                                  refine v_get rfl h99 rfl ?_
                                  refine v_iload rfl rfl ?_
                                  refine v_aload_n rfl rfl ?_
                                  refine v_get rfl h99 rfl ?_
                                  refine v_iload rfl rfl ?_
                                  obtain ⟨xs109, xs109l, h108⟩ := hI91.2.1 83 (by decide) (by decide)
                                  refine r_iaload rfl h108 xs109l (by omega) (by omega) (fun z110 z110m z110g => ?_)
                                  obtain ⟨xs112, xs112l, h111⟩ := hI91.2.1 82 (by decide) (by decide)
                                  refine r_iastore rfl h111 xs112l (by omega) (by omega) (fun ys113 ys113l ys113m ys113g => ?_)
                                  refine r_gen (w' := w90.set 82 (.inl (0, .inl ys113))) (fun w114 e115 => ?_)
                                  have hI116 : pm_IM gi ga w114 := by rw [e115]; exact hI91.set 82 (by decide) (by decide) (by decide) (by decide) ⟨ys113, ys113l, rfl⟩
                                  have hh117 : pm_lo w0 w114 := by rw [e115]; exact hh92.set (by decide) _
                                  have h118 := r_get_ne e115 (show 82 ≠ 59 by decide) h99
                                  have h119 := r_get_ne e115 (show 82 ≠ 83 by decide) h108
                                  have h120 := r_get_eq e115 h111
                                  refine r_iinc rfl rfl (by decide) (by omega) (by omega) (fun z121 z121e => ?_)
                                  refine v_goto rfl ?_
                                  exact ih244_93 z121 w114 hI116 hh117 (by omega) (by omega) (by omega)
                            exact L93 _ (0 : Int32) w72 hI73 hh74 (by omega) (by omega) (Nat.lt_add_one _)
                          · refine v_iload rfl rfl ?_
                            refine r_if_eq rfl (fun t122 => ?_) (fun t122 => ?_)
                            · refine v_iload rfl rfl ?_
                              refine v_iconst (v := 1) rfl (by decide) ?_
                              refine r_iadd rfl (by omega) (by omega) (fun z123 z123e => ?_)
                              refine v_istore rfl (Nat.le_of_ble_eq_true rfl) ?_
                              have K127 : ∀ (w124 : pm_W), pm_IM gi ga w124 → pm_lo w0 w124 → pm_V sc d 143 185 [.ref 59, .int y, .int f, .int m, .int u, .int b, .int l10, .int z56, .int l57, .int l70, .int z123] [] w124 (fun rv w' => pm_wI (fun v => True) rv ∧ pm_IM gi ga w' ∧ pm_lo w0 w') := by
                                intro w124 hI125 hh126
                                refine v_iload rfl rfl ?_
                                refine v_iload rfl rfl ?_
                                refine u_ishr rfl (fun z128 => ?_)
                                refine v_iconst (v := 1) rfl (by decide) ?_
                                refine u_iand rfl (fun z129 => ?_)
                                refine r_if_ne rfl (fun t130 => ?_) (fun t130 => ?_)
                                · refine r_iinc rfl rfl (by decide) (by omega) (by omega) (fun z131 z131e => ?_)
                                  refine v_goto rfl ?_
                                  exact ih118_75 z131 (.int z123) w124 hI125 hh126 (by omega) (by omega) (by omega)
                                · refine v_iload rfl rfl ?_
                                  refine v_aload_n rfl rfl ?_
                                  obtain ⟨v133, v134, v135, v136, v137, v138, v139, v140, ⟨v133z, v133e⟩, ⟨⟨v134a, v134b⟩, v134e⟩, ⟨⟨v135a, v135b⟩, v135e⟩, ⟨v137a, v137b⟩, ⟨v140a, v140b⟩, h132⟩ := hI125.2.1 59 (by decide) (by decide)
                                  have v133z := v133z.imp i_eq.mp i_eq.mp
                                  rw [i_0, i_1] at v133z
                                  refine v_get rfl h132 rfl ?_
                                  refine r_icmp_gt rfl (fun t141 => ?_) (fun t141 => ?_)
                                  · refine r_iinc rfl rfl (by decide) (by omega) (by omega) (fun z142 z142e => ?_)
                                    refine v_goto rfl ?_
                                    exact ih118_75 z142 (.int z123) w124 hI125 hh126 (by omega) (by omega) (by omega)
                                  · refine v_aload_n rfl rfl ?_
                                    refine v_get rfl h132 rfl ?_
                                    refine v_iload rfl rfl ?_
                                    obtain ⟨xs144, xs144l, h143⟩ := hI125.2.1 82 (by decide) (by decide)
                                    refine r_iaload rfl h143 xs144l (by omega) (by omega) (fun z145 z145m z145g => ?_)
                                    refine v_aload_n rfl rfl ?_
                                    refine v_get rfl h132 rfl ?_
                                    refine v_iload rfl rfl ?_
                                    obtain ⟨xs147, xs147l, h146⟩ := hI125.2.1 83 (by decide) (by decide)
                                    refine r_iaload rfl h146 xs147l (by omega) (by omega) (fun z148 z148m z148g => ?_)
                                    refine r_icmp_ge rfl (fun t149 => ?_) (fun t149 => ?_)
                                    · refine r_iinc rfl rfl (by decide) (by omega) (by omega) (fun z150 z150e => ?_)
                                      refine v_goto rfl ?_
                                      exact ih118_75 z150 (.int z123) w124 hI125 hh126 (by omega) (by omega) (by omega)
                                    · refine v_aload_n rfl rfl ?_
                                      refine v_get rfl h132 rfl ?_
                                      refine v_iload rfl rfl ?_
                                      refine v_aload_n rfl rfl ?_
                                      refine v_get rfl h132 rfl ?_
                                      refine v_iload rfl rfl ?_
                                      refine r_iaload rfl h143 xs144l (by omega) (by omega) (fun z151 z151m z151g => ?_)
                                      refine r_iastore rfl h146 xs147l (by omega) (by omega) (fun ys152 ys152l ys152m ys152g => ?_)
                                      refine r_gen (w' := w124.set 83 (.inl (0, .inl ys152))) (fun w153 e154 => ?_)
                                      have hI155 : pm_IM gi ga w153 := by rw [e154]; exact hI125.set 83 (by decide) (by decide) (by decide) (by decide) ⟨ys152, ys152l, rfl⟩
                                      have hh156 : pm_lo w0 w153 := by rw [e154]; exact hh126.set (by decide) _
                                      have h157 := r_get_ne e154 (show 83 ≠ 59 by decide) h132
                                      have h158 := r_get_ne e154 (show 83 ≠ 82 by decide) h143
                                      have h159 := r_get_eq e154 h146
                                      refine r_iinc rfl rfl (by decide) (by omega) (by omega) (fun z160 z160e => ?_)
                                      refine v_goto rfl ?_
                                      exact ih118_75 z160 (.int z123) w153 hI155 hh156 (by omega) (by omega) (by omega)
                              refine v_iload rfl rfl ?_
                              refine v_iload rfl rfl ?_
                              refine u_ishr rfl (fun z161 => ?_)
                              refine v_iconst (v := 1) rfl (by decide) ?_
                              refine u_iand rfl (fun z162 => ?_)
                              refine r_if_ne rfl (fun t163 => ?_) (fun t163 => ?_)
                              · exact K127 w72 hI73 hh74
                              · refine v_aload_n rfl rfl ?_
                                refine v_get rfl h79 rfl ?_
                                refine v_iload rfl rfl ?_
                                obtain ⟨xs165, xs165l, h164⟩ := hI73.2.1 82 (by decide) (by decide)
                                refine r_iaload rfl h164 xs165l (by omega) (by omega) (fun z166 z166m z166g => ?_)
                                refine v_iconst (v := 1) rfl (by decide) ?_
                                refine u_iadd rfl (fun z167 => ?_)
                                refine v_aload_n rfl rfl ?_
                                refine v_get rfl h79 rfl ?_
                                refine v_iconst (v := 0) rfl (by decide) ?_
                                obtain ⟨xs169, xs169l, h168⟩ := hI73.2.1 83 (by decide) (by decide)
                                refine r_iaload rfl h168 xs169l (by omega) (by omega) (fun z170 z170m z170g => ?_)
                                have z170t : z170.toInt = (xs169.getD 0 0).toInt := congrArg Int32.toInt z170g
                                refine r_icmp_ge rfl (fun t171 => ?_) (fun t171 => ?_)
                                · exact K127 w72 hI73 hh74
                                · refine v_aload_n rfl rfl ?_
                                  refine v_get rfl h79 rfl ?_
                                  refine v_iconst (v := 0) rfl (by decide) ?_
                                  refine v_aload_n rfl rfl ?_
                                  refine v_get rfl h79 rfl ?_
                                  refine v_iload rfl rfl ?_
                                  refine r_iaload rfl h164 xs165l (by omega) (by omega) (fun z172 z172m z172g => ?_)
                                  refine v_iconst (v := 1) rfl (by decide) ?_
                                  refine u_iadd rfl (fun z173 => ?_)
                                  refine r_iastore rfl h168 xs169l (by omega) (by omega) (fun ys174 ys174l ys174m ys174g => ?_)
                                  refine r_gen (w' := w72.set 83 (.inl (0, .inl ys174))) (fun w175 e176 => ?_)
                                  have hI177 : pm_IM gi ga w175 := by rw [e176]; exact hI73.set 83 (by decide) (by decide) (by decide) (by decide) ⟨ys174, ys174l, rfl⟩
                                  have hh178 : pm_lo w0 w175 := by rw [e176]; exact hh74.set (by decide) _
                                  have h179 := r_get_ne e176 (show 83 ≠ 59 by decide) h79
                                  have h180 := r_get_ne e176 (show 83 ≠ 82 by decide) h164
                                  have h181 := r_get_eq e176 h168
                                  exact K127 w175 hI177 hh178
                            · refine v_iconst (v := 0) rfl (by decide) ?_
                              refine v_goto rfl ?_
                              refine v_iconst (v := 1) rfl (by decide) ?_
                              refine r_iadd rfl (by omega) (by omega) (fun z182 z182e => ?_)
                              refine v_istore rfl (Nat.le_of_ble_eq_true rfl) ?_
                              have K186 : ∀ (w183 : pm_W), pm_IM gi ga w183 → pm_lo w0 w183 → pm_V sc d 143 185 [.ref 59, .int y, .int f, .int m, .int u, .int b, .int l10, .int z56, .int l57, .int l70, .int z182] [] w183 (fun rv w' => pm_wI (fun v => True) rv ∧ pm_IM gi ga w' ∧ pm_lo w0 w') := by
                                intro w183 hI184 hh185
                                refine v_iload rfl rfl ?_
                                refine v_iload rfl rfl ?_
                                refine u_ishr rfl (fun z187 => ?_)
                                refine v_iconst (v := 1) rfl (by decide) ?_
                                refine u_iand rfl (fun z188 => ?_)
                                refine r_if_ne rfl (fun t189 => ?_) (fun t189 => ?_)
                                · refine r_iinc rfl rfl (by decide) (by omega) (by omega) (fun z190 z190e => ?_)
                                  refine v_goto rfl ?_
                                  exact ih118_75 z190 (.int z182) w183 hI184 hh185 (by omega) (by omega) (by omega)
                                · refine v_iload rfl rfl ?_
                                  refine v_aload_n rfl rfl ?_
                                  obtain ⟨v192, v193, v194, v195, v196, v197, v198, v199, ⟨v192z, v192e⟩, ⟨⟨v193a, v193b⟩, v193e⟩, ⟨⟨v194a, v194b⟩, v194e⟩, ⟨v196a, v196b⟩, ⟨v199a, v199b⟩, h191⟩ := hI184.2.1 59 (by decide) (by decide)
                                  have v192z := v192z.imp i_eq.mp i_eq.mp
                                  rw [i_0, i_1] at v192z
                                  refine v_get rfl h191 rfl ?_
                                  refine r_icmp_gt rfl (fun t200 => ?_) (fun t200 => ?_)
                                  · refine r_iinc rfl rfl (by decide) (by omega) (by omega) (fun z201 z201e => ?_)
                                    refine v_goto rfl ?_
                                    exact ih118_75 z201 (.int z182) w183 hI184 hh185 (by omega) (by omega) (by omega)
                                  · refine v_aload_n rfl rfl ?_
                                    refine v_get rfl h191 rfl ?_
                                    refine v_iload rfl rfl ?_
                                    obtain ⟨xs203, xs203l, h202⟩ := hI184.2.1 82 (by decide) (by decide)
                                    refine r_iaload rfl h202 xs203l (by omega) (by omega) (fun z204 z204m z204g => ?_)
                                    refine v_aload_n rfl rfl ?_
                                    refine v_get rfl h191 rfl ?_
                                    refine v_iload rfl rfl ?_
                                    obtain ⟨xs206, xs206l, h205⟩ := hI184.2.1 83 (by decide) (by decide)
                                    refine r_iaload rfl h205 xs206l (by omega) (by omega) (fun z207 z207m z207g => ?_)
                                    have z207t : z207.toInt = (xs206.getD 1 0).toInt := by rw [z207g, show z182.toInt.toNat = 1 by omega]
                                    refine r_icmp_ge rfl (fun t208 => ?_) (fun t208 => ?_)
                                    · refine r_iinc rfl rfl (by decide) (by omega) (by omega) (fun z209 z209e => ?_)
                                      refine v_goto rfl ?_
                                      exact ih118_75 z209 (.int z182) w183 hI184 hh185 (by omega) (by omega) (by omega)
                                    · refine v_aload_n rfl rfl ?_
                                      refine v_get rfl h191 rfl ?_
                                      refine v_iload rfl rfl ?_
                                      refine v_aload_n rfl rfl ?_
                                      refine v_get rfl h191 rfl ?_
                                      refine v_iload rfl rfl ?_
                                      refine r_iaload rfl h202 xs203l (by omega) (by omega) (fun z210 z210m z210g => ?_)
                                      refine r_iastore rfl h205 xs206l (by omega) (by omega) (fun ys211 ys211l ys211m ys211g => ?_)
                                      refine r_gen (w' := w183.set 83 (.inl (0, .inl ys211))) (fun w212 e213 => ?_)
                                      have hI214 : pm_IM gi ga w212 := by rw [e213]; exact hI184.set 83 (by decide) (by decide) (by decide) (by decide) ⟨ys211, ys211l, rfl⟩
                                      have hh215 : pm_lo w0 w212 := by rw [e213]; exact hh185.set (by decide) _
                                      have h216 := r_get_ne e213 (show 83 ≠ 59 by decide) h191
                                      have h217 := r_get_ne e213 (show 83 ≠ 82 by decide) h202
                                      have h218 := r_get_eq e213 h205
                                      refine r_iinc rfl rfl (by decide) (by omega) (by omega) (fun z219 z219e => ?_)
                                      refine v_goto rfl ?_
                                      exact ih118_75 z219 (.int z182) w212 hI214 hh215 (by omega) (by omega) (by omega)
                              refine v_iload rfl rfl ?_
                              refine v_iload rfl rfl ?_
                              refine u_ishr rfl (fun z220 => ?_)
                              refine v_iconst (v := 1) rfl (by decide) ?_
                              refine u_iand rfl (fun z221 => ?_)
                              refine r_if_ne rfl (fun t222 => ?_) (fun t222 => ?_)
                              · exact K186 w72 hI73 hh74
                              · refine v_aload_n rfl rfl ?_
                                refine v_get rfl h79 rfl ?_
                                refine v_iload rfl rfl ?_
                                obtain ⟨xs224, xs224l, h223⟩ := hI73.2.1 82 (by decide) (by decide)
                                refine r_iaload rfl h223 xs224l (by omega) (by omega) (fun z225 z225m z225g => ?_)
                                refine v_iconst (v := 1) rfl (by decide) ?_
                                refine u_iadd rfl (fun z226 => ?_)
                                refine v_aload_n rfl rfl ?_
                                refine v_get rfl h79 rfl ?_
                                refine v_iconst (v := 0) rfl (by decide) ?_
                                obtain ⟨xs228, xs228l, h227⟩ := hI73.2.1 83 (by decide) (by decide)
                                refine r_iaload rfl h227 xs228l (by omega) (by omega) (fun z229 z229m z229g => ?_)
                                have z229t : z229.toInt = (xs228.getD 0 0).toInt := congrArg Int32.toInt z229g
                                refine r_icmp_ge rfl (fun t230 => ?_) (fun t230 => ?_)
                                · exact K186 w72 hI73 hh74
                                · refine v_aload_n rfl rfl ?_
                                  refine v_get rfl h79 rfl ?_
                                  refine v_iconst (v := 0) rfl (by decide) ?_
                                  refine v_aload_n rfl rfl ?_
                                  refine v_get rfl h79 rfl ?_
                                  refine v_iload rfl rfl ?_
                                  refine r_iaload rfl h223 xs224l (by omega) (by omega) (fun z231 z231m z231g => ?_)
                                  refine v_iconst (v := 1) rfl (by decide) ?_
                                  refine u_iadd rfl (fun z232 => ?_)
                                  refine r_iastore rfl h227 xs228l (by omega) (by omega) (fun ys233 ys233l ys233m ys233g => ?_)
                                  refine r_gen (w' := w72.set 83 (.inl (0, .inl ys233))) (fun w234 e235 => ?_)
                                  have hI236 : pm_IM gi ga w234 := by rw [e235]; exact hI73.set 83 (by decide) (by decide) (by decide) (by decide) ⟨ys233, ys233l, rfl⟩
                                  have hh237 : pm_lo w0 w234 := by rw [e235]; exact hh74.set (by decide) _
                                  have h238 := r_get_ne e235 (show 83 ≠ 59 by decide) h79
                                  have h239 := r_get_ne e235 (show 83 ≠ 82 by decide) h223
                                  have h240 := r_get_eq e235 h227
                                  exact K186 w234 hI236 hh237
                      exact L75 _ (0 : Int32) (u14) w62 hI63 hh64 (by omega) (by omega) (Nat.lt_add_one _)
                    · refine v_aload_n rfl rfl ?_
                      obtain ⟨v242, v243, v244, v245, v246, v247, v248, v249, ⟨v242z, v242e⟩, ⟨⟨v243a, v243b⟩, v243e⟩, ⟨⟨v244a, v244b⟩, v244e⟩, ⟨v246a, v246b⟩, ⟨v249a, v249b⟩, h241⟩ := hI63.2.1 59 (by decide) (by decide)
                      have v242z := v242z.imp i_eq.mp i_eq.mp
                      rw [i_0, i_1] at v242z
                      refine v_get rfl h241 rfl ?_
                      refine v_iload rfl rfl ?_
                      refine v_bipush (v := 99) rfl (by decide) ?_
                      obtain ⟨xs251, xs251l, h250⟩ := hI63.2.1 83 (by decide) (by decide)
                      refine r_iastore rfl h250 xs251l (by omega) (by omega) (fun ys252 ys252l ys252m ys252g => ?_)
                      refine r_gen (w' := w62.set 83 (.inl (0, .inl ys252))) (fun w253 e254 => ?_)
                      have hI255 : pm_IM gi ga w253 := by rw [e254]; exact hI63.set 83 (by decide) (by decide) (by decide) (by decide) ⟨ys252, ys252l, rfl⟩
                      have hh256 : pm_lo w0 w253 := by rw [e254]; exact hh64.set (by decide) _
                      have h257 := r_get_ne e254 (show 83 ≠ 59 by decide) h241
                      have h258 := r_get_eq e254 h250
                      refine r_iinc rfl rfl (by decide) (by omega) (by omega) (fun z259 z259e => ?_)
                      refine v_goto rfl ?_
                      exact ih93_65 z259 w253 hI255 hh256 (by omega) (by omega) (by omega)
                exact L65 _ (0 : Int32) w15 hI16 hh17 (by omega) (by omega) (Nat.lt_add_one _)
              refine v_aload_n rfl rfl ?_
              refine v_iload rfl rfl ?_
              refine v_aload_n rfl rfl ?_
              refine v_get rfl h47 rfl ?_
              refine r_iadd rfl (by omega) (by omega) (fun z260 z260e => ?_)
              refine v_iconst (v := 1) rfl (by decide) ?_
              refine r_isub rfl (by omega) (by omega) (fun z261 z261e => ?_)
              refine v_aload_n rfl rfl ?_
              refine v_get rfl h47 rfl ?_
              refine r_irem rfl (by omega) (by omega) (fun z262 z262m z262a z262b z262c => ?_)
              clear z262m
              refine v_iload_n rfl rfl ?_
              refine v_callV rfl (W_X12_colour_59 z262 y (by omega) (by omega) (by omega) (by omega) hR hI16) rfl rfl h47 rfl rfl (by omega) (fun rv w263 hq264 => ?_)
              obtain ⟨⟨z265, rfl, -⟩, rfl⟩ := hq264
              refine v_aload_n rfl rfl ?_
              refine v_iload rfl rfl ?_
              refine v_iload_n rfl rfl ?_
              refine v_callV rfl (W_X12_colour_59 z56 y (by omega) (by omega) (by omega) (by omega) hR hI16) rfl rfl h47 rfl rfl (by omega) (fun rv w266 hq267 => ?_)
              obtain ⟨⟨z268, rfl, -⟩, rfl⟩ := hq267
              refine r_icmp_eq rfl (fun t269 => ?_) (fun t269 => ?_)
              · refine v_iconst (v := 0) rfl (by decide) ?_
                refine v_istore rfl (Nat.le_of_ble_eq_true rfl) ?_
                exact K58 (0 : Int32) (by omega) (by omega)
              · refine v_iconst (v := 1) rfl (by decide) ?_
                refine v_goto rfl ?_
                refine v_istore rfl (Nat.le_of_ble_eq_true rfl) ?_
                exact K58 (1 : Int32) (by omega) (by omega)
        exact L18 _ (0 : Int32) (.null) (.null) (.null) (.null) w2 hI3 hh4 (by omega) (by omega) (Nat.lt_add_one _)
      · refine v_aload_n rfl rfl ?_
        obtain ⟨v271, v272, v273, v274, v275, v276, v277, v278, ⟨v271z, v271e⟩, ⟨⟨v272a, v272b⟩, v272e⟩, ⟨⟨v273a, v273b⟩, v273e⟩, ⟨v275a, v275b⟩, ⟨v278a, v278b⟩, h270⟩ := hI3.2.1 59 (by decide) (by decide)
        have v271z := v271z.imp i_eq.mp i_eq.mp
        rw [i_0, i_1] at v271z
        refine v_get rfl h270 rfl ?_
        refine v_iload rfl rfl ?_
        refine v_iload rfl rfl ?_
        refine r_if_ne rfl (fun t279 => ?_) (fun t279 => ?_)
        · refine v_bipush (v := 99) rfl (by decide) ?_
          obtain ⟨xs281, xs281l, h280⟩ := hI3.2.1 82 (by decide) (by decide)
          refine r_iastore rfl h280 xs281l (by omega) (by omega) (fun ys282 ys282l ys282m ys282g => ?_)
          refine r_gen (w' := w2.set 82 (.inl (0, .inl ys282))) (fun w283 e284 => ?_)
          have hI285 : pm_IM gi ga w283 := by rw [e284]; exact hI3.set 82 (by decide) (by decide) (by decide) (by decide) ⟨ys282, ys282l, rfl⟩
          have hh286 : pm_lo w0 w283 := by rw [e284]; exact hh4.set (by decide) _
          have h287 := r_get_ne e284 (show 82 ≠ 59 by decide) h270
          have h288 := r_get_eq e284 h280
          refine r_iinc rfl rfl (by decide) (by omega) (by omega) (fun z289 z289e => ?_)
          refine v_goto rfl ?_
          exact ih3_5 z289 w283 hI285 hh286 (by omega) (by omega) (by omega)
        · refine v_iconst (v := 0) rfl (by decide) ?_
          refine v_goto rfl ?_
          obtain ⟨xs291, xs291l, h290⟩ := hI3.2.1 82 (by decide) (by decide)
          refine r_iastore rfl h290 xs291l (by omega) (by omega) (fun ys292 ys292l ys292m ys292g => ?_)
          refine r_gen (w' := w2.set 82 (.inl (0, .inl ys292))) (fun w293 e294 => ?_)
          have hI295 : pm_IM gi ga w293 := by rw [e294]; exact hI3.set 82 (by decide) (by decide) (by decide) (by decide) ⟨ys292, ys292l, rfl⟩
          have hh296 : pm_lo w0 w293 := by rw [e294]; exact hh4.set (by decide) _
          have h297 := r_get_ne e294 (show 82 ≠ 59 by decide) h270
          have h298 := r_get_eq e294 h290
          refine r_iinc rfl rfl (by decide) (by omega) (by omega) (fun z299 z299e => ?_)
          refine v_goto rfl ?_
          exact ih3_5 z299 w293 hI295 hh296 (by omega) (by omega) (by omega)
  exact L5 _ (0 : Int32) w hI hh (by omega) (by omega) (Nat.lt_add_one _)
set_option maxRecDepth 100000 in
theorem W_X12_fewest_59 {sc : pm_S} {w w0 : pm_W} {gi : Nat → Int32} {ga : Nat → List Int32} (y : Int32) (u : Int32) (b : Int32) (p0 : y.toInt ≤ 19) (p1 : 0 ≤ y.toInt) (hR : pm_Rg gi ga) (hI : pm_IM gi ga w) (hh : pm_lo w0 w) : pm_Mt sc 2 144 7 [.ref 59, .int y, .int u, .int b] w (fun rv w' => pm_wI (fun v => True) rv ∧ pm_IM gi ga w' ∧ pm_lo w0 w') := by
  intro d hd
  obtain ⟨g0a, g0b⟩ := hR.n0
  obtain ⟨g1a, g1b⟩ := hR.n1
  obtain ⟨g2a, g2b⟩ := hR.n2
  obtain ⟨g3a, g3b⟩ := hR.n3
  obtain ⟨g4a, g4b⟩ := hR.n4
  obtain ⟨g5a, g5b⟩ := hR.n5
  obtain ⟨g6a, g6b⟩ := hR.n6
  obtain ⟨g7a, g7b⟩ := hR.n7
  obtain ⟨g8a, g8b⟩ := hR.n8
  have km1 : (-1 : Int32).toInt = -1 := by decide
  have k0 : (0 : Int32).toInt = 0 := by decide
  have k1 : (1 : Int32).toInt = 1 := by decide
  have k99 : (99 : Int32).toInt = 99 := by decide
  show pm_V sc d 144 0 [.ref 59, .int y, .int u, .int b, .null, .null, .null] [] w _
  refine v_aload_n rfl rfl ?_
  refine v_iload_n rfl rfl ?_
  obtain ⟨v2, v3, v4, v5, v6, v7, v8, v9, ⟨v2z, v2e⟩, ⟨⟨v3a, v3b⟩, v3e⟩, ⟨⟨v4a, v4b⟩, v4e⟩, ⟨v6a, v6b⟩, ⟨v9a, v9b⟩, h1⟩ := hI.2.1 59 (by decide) (by decide)
  have v2z := v2z.imp i_eq.mp i_eq.mp
  rw [i_0, i_1] at v2z
  obtain ⟨sq11l, sq11r, h10⟩ := hI.2.1 60 (by decide) (by decide)
  refine v_callV rfl (W_X12_isPlain_59_x y (ga 15) (by omega) (by omega) h10 sq11l hR hI) rfl rfl h1 rfl rfl (by omega) (fun rv w12 hq13 => ?_)
  obtain ⟨⟨z14, rfl, z14p0, z14p1, z14p2⟩, rfl⟩ := hq13
  refine r_if_ne rfl (fun t15 => ?_) (fun t15 => ?_)
  · refine v_aload_n rfl rfl ?_
    refine v_get rfl h1 rfl ?_
    refine v_aload_n rfl rfl ?_
    refine v_get rfl h1 rfl ?_
    refine r_icmp_gt rfl (fun t16 => ?_) (fun t16 => ?_)
    · refine v_bipush (v := 99) rfl (by decide) ?_
      refine v_istore rfl (Nat.le_of_ble_eq_true rfl) ?_
      refine v_iconst (v := 0) rfl (by decide) ?_
      refine v_istore rfl (Nat.le_of_ble_eq_true rfl) ?_
      have L23 : ∀ (n23 : Nat) (l17 : Int32) (l18 : Int32) (u19 : Value) (w20 : pm_W), pm_IM gi ga w20 → pm_lo w0 w20 → 0 ≤ l18.toInt → l18.toInt ≤ 20 → (20 - l18.toInt).toNat < n23 → pm_V sc d 144 67 [.ref 59, .int y, .int u, .int b, .int l17, .int l18, u19] [] w20 (fun rv w' => pm_wI (fun v => True) rv ∧ pm_IM gi ga w' ∧ pm_lo w0 w') := by
        intro n23
        induction n23 with
        | zero => intro l17 l18 u19 w20 hI21 hh22 t25 t26 hm24; exact absurd hm24 (Nat.not_lt_zero _)
        | succ n23 ih67_23 =>
          intro l17 l18 u19 w20 hI21 hh22 t25 t26 hm24
          refine v_iload rfl rfl ?_
          refine v_aload_n rfl rfl ?_
          obtain ⟨v28, v29, v30, v31, v32, v33, v34, v35, ⟨v28z, v28e⟩, ⟨⟨v29a, v29b⟩, v29e⟩, ⟨⟨v30a, v30b⟩, v30e⟩, ⟨v32a, v32b⟩, ⟨v35a, v35b⟩, h27⟩ := hI21.2.1 59 (by decide) (by decide)
          have v28z := v28z.imp i_eq.mp i_eq.mp
          rw [i_0, i_1] at v28z
          refine v_get rfl h27 rfl ?_
          refine r_icmp_ge rfl (fun t36 => ?_) (fun t36 => ?_)
          · refine v_iload rfl rfl ?_
            exact v_iret rfl ⟨⟨_, rfl, trivial⟩, hI21, hh22⟩
          · refine v_iload_n rfl rfl ?_
            refine v_iload rfl rfl ?_
            refine u_ishr rfl (fun z37 => ?_)
            refine v_iconst (v := 1) rfl (by decide) ?_
            refine u_iand rfl (fun z38 => ?_)
            refine r_if_ne rfl (fun t39 => ?_) (fun t39 => ?_)
            · refine r_iinc rfl rfl (by decide) (by omega) (by omega) (fun z40 z40e => ?_)
              refine v_goto rfl ?_
              exact ih67_23 l17 z40 (u19) w20 hI21 hh22 (by omega) (by omega) (by omega)
            · refine v_iconst (v := 1) rfl (by decide) ?_
              refine v_aload_n rfl rfl ?_
              refine v_iload_n rfl rfl ?_
              refine v_iload rfl rfl ?_
              refine v_iconst (v := 1) rfl (by decide) ?_
              refine r_iadd rfl (by omega) (by omega) (fun z41 z41e => ?_)
              refine v_aload_n rfl rfl ?_
              refine v_get rfl h27 rfl ?_
              refine v_iconst (v := 1) rfl (by decide) ?_
              refine r_isub rfl (by omega) (by omega) (fun z42 z42e => ?_)
              refine v_iload_n rfl rfl ?_
              refine v_iconst (v := 1) rfl (by decide) ?_
              refine v_iload rfl rfl ?_
              refine u_ishl rfl (fun z43 => ?_)
              refine v_iconst (v := (-1)) rfl (by decide) ?_
              refine u_ixor rfl (fun z44 => ?_)
              refine u_iand rfl (fun z45 => ?_)
              refine v_iload_n rfl rfl ?_
              refine v_callV rfl (W_X12_fewestFrom_59 y z41 z42 z45 b (by omega) (by omega) (by omega) (by omega) (by omega) (by omega) hR hI21 hh22) rfl rfl h27 rfl rfl (by omega) (fun rv w46 hq47 => ?_)
              obtain ⟨⟨z48, rfl, -⟩, hI49, hh50⟩ := hq47
              refine u_iadd rfl (fun z51 => ?_)
              refine v_istore rfl (Nat.le_of_ble_eq_true rfl) ?_
              refine v_iload rfl rfl ?_
              refine v_iload rfl rfl ?_
              refine r_icmp_ge rfl (fun t52 => ?_) (fun t52 => ?_)
              · refine v_iload rfl rfl ?_
                refine v_istore rfl (Nat.le_of_ble_eq_true rfl) ?_
                refine r_iinc rfl rfl (by decide) (by omega) (by omega) (fun z53 z53e => ?_)
                refine v_goto rfl ?_
                exact ih67_23 l17 z53 (.int z51) w46 hI49 hh50 (by omega) (by omega) (by omega)
              · refine v_iload rfl rfl ?_
                refine v_goto rfl ?_
                refine v_istore rfl (Nat.le_of_ble_eq_true rfl) ?_
                refine r_iinc rfl rfl (by decide) (by omega) (by omega) (fun z54 z54e => ?_)
                refine v_goto rfl ?_
                exact ih67_23 z51 z54 (.int z51) w46 hI49 hh50 (by omega) (by omega) (by omega)
      exact L23 _ (99 : Int32) (0 : Int32) (.null) w hI hh (by omega) (by omega) (Nat.lt_add_one _)
    · refine v_iload_n rfl rfl ?_
      refine r_if_ne rfl (fun t55 => ?_) (fun t55 => ?_)
      · refine v_bipush (v := 99) rfl (by decide) ?_
        refine v_istore rfl (Nat.le_of_ble_eq_true rfl) ?_
        refine v_iconst (v := 0) rfl (by decide) ?_
        refine v_istore rfl (Nat.le_of_ble_eq_true rfl) ?_
        have L62 : ∀ (n62 : Nat) (l56 : Int32) (l57 : Int32) (u58 : Value) (w59 : pm_W), pm_IM gi ga w59 → pm_lo w0 w59 → 0 ≤ l57.toInt → l57.toInt ≤ 20 → (20 - l57.toInt).toNat < n62 → pm_V sc d 144 67 [.ref 59, .int y, .int u, .int b, .int l56, .int l57, u58] [] w59 (fun rv w' => pm_wI (fun v => True) rv ∧ pm_IM gi ga w' ∧ pm_lo w0 w') := by
          intro n62
          induction n62 with
          | zero => intro l56 l57 u58 w59 hI60 hh61 t64 t65 hm63; exact absurd hm63 (Nat.not_lt_zero _)
          | succ n62 ih67_62 =>
            intro l56 l57 u58 w59 hI60 hh61 t64 t65 hm63
            refine v_iload rfl rfl ?_
            refine v_aload_n rfl rfl ?_
            obtain ⟨v67, v68, v69, v70, v71, v72, v73, v74, ⟨v67z, v67e⟩, ⟨⟨v68a, v68b⟩, v68e⟩, ⟨⟨v69a, v69b⟩, v69e⟩, ⟨v71a, v71b⟩, ⟨v74a, v74b⟩, h66⟩ := hI60.2.1 59 (by decide) (by decide)
            have v67z := v67z.imp i_eq.mp i_eq.mp
            rw [i_0, i_1] at v67z
            refine v_get rfl h66 rfl ?_
            refine r_icmp_ge rfl (fun t75 => ?_) (fun t75 => ?_)
            · refine v_iload rfl rfl ?_
              exact v_iret rfl ⟨⟨_, rfl, trivial⟩, hI60, hh61⟩
            · refine v_iload_n rfl rfl ?_
              refine v_iload rfl rfl ?_
              refine u_ishr rfl (fun z76 => ?_)
              refine v_iconst (v := 1) rfl (by decide) ?_
              refine u_iand rfl (fun z77 => ?_)
              refine r_if_ne rfl (fun t78 => ?_) (fun t78 => ?_)
              · refine r_iinc rfl rfl (by decide) (by omega) (by omega) (fun z79 z79e => ?_)
                refine v_goto rfl ?_
                exact ih67_62 l56 z79 (u58) w59 hI60 hh61 (by omega) (by omega) (by omega)
              · refine v_iconst (v := 1) rfl (by decide) ?_
                refine v_aload_n rfl rfl ?_
                refine v_iload_n rfl rfl ?_
                refine v_iload rfl rfl ?_
                refine v_iconst (v := 1) rfl (by decide) ?_
                refine r_iadd rfl (by omega) (by omega) (fun z80 z80e => ?_)
                refine v_aload_n rfl rfl ?_
                refine v_get rfl h66 rfl ?_
                refine v_iconst (v := 1) rfl (by decide) ?_
                refine r_isub rfl (by omega) (by omega) (fun z81 z81e => ?_)
                refine v_iload_n rfl rfl ?_
                refine v_iconst (v := 1) rfl (by decide) ?_
                refine v_iload rfl rfl ?_
                refine u_ishl rfl (fun z82 => ?_)
                refine v_iconst (v := (-1)) rfl (by decide) ?_
                refine u_ixor rfl (fun z83 => ?_)
                refine u_iand rfl (fun z84 => ?_)
                refine v_iload_n rfl rfl ?_
                refine v_callV rfl (W_X12_fewestFrom_59 y z80 z81 z84 b (by omega) (by omega) (by omega) (by omega) (by omega) (by omega) hR hI60 hh61) rfl rfl h66 rfl rfl (by omega) (fun rv w85 hq86 => ?_)
                obtain ⟨⟨z87, rfl, -⟩, hI88, hh89⟩ := hq86
                refine u_iadd rfl (fun z90 => ?_)
                refine v_istore rfl (Nat.le_of_ble_eq_true rfl) ?_
                refine v_iload rfl rfl ?_
                refine v_iload rfl rfl ?_
                refine r_icmp_ge rfl (fun t91 => ?_) (fun t91 => ?_)
                · refine v_iload rfl rfl ?_
                  refine v_istore rfl (Nat.le_of_ble_eq_true rfl) ?_
                  refine r_iinc rfl rfl (by decide) (by omega) (by omega) (fun z92 z92e => ?_)
                  refine v_goto rfl ?_
                  exact ih67_62 l56 z92 (.int z90) w85 hI88 hh89 (by omega) (by omega) (by omega)
                · refine v_iload rfl rfl ?_
                  refine v_goto rfl ?_
                  refine v_istore rfl (Nat.le_of_ble_eq_true rfl) ?_
                  refine r_iinc rfl rfl (by decide) (by omega) (by omega) (fun z93 z93e => ?_)
                  refine v_goto rfl ?_
                  exact ih67_62 z90 z93 (.int z90) w85 hI88 hh89 (by omega) (by omega) (by omega)
        exact L62 _ (99 : Int32) (0 : Int32) (.null) w hI hh (by omega) (by omega) (Nat.lt_add_one _)
      · refine v_iconst (v := 0) rfl (by decide) ?_
        refine v_goto rfl ?_
        refine v_istore rfl (Nat.le_of_ble_eq_true rfl) ?_
        refine v_iconst (v := 0) rfl (by decide) ?_
        refine v_istore rfl (Nat.le_of_ble_eq_true rfl) ?_
        have L100 : ∀ (n100 : Nat) (l94 : Int32) (l95 : Int32) (u96 : Value) (w97 : pm_W), pm_IM gi ga w97 → pm_lo w0 w97 → 0 ≤ l95.toInt → l95.toInt ≤ 20 → (20 - l95.toInt).toNat < n100 → pm_V sc d 144 67 [.ref 59, .int y, .int u, .int b, .int l94, .int l95, u96] [] w97 (fun rv w' => pm_wI (fun v => True) rv ∧ pm_IM gi ga w' ∧ pm_lo w0 w') := by
          intro n100
          induction n100 with
          | zero => intro l94 l95 u96 w97 hI98 hh99 t102 t103 hm101; exact absurd hm101 (Nat.not_lt_zero _)
          | succ n100 ih67_100 =>
            intro l94 l95 u96 w97 hI98 hh99 t102 t103 hm101
            refine v_iload rfl rfl ?_
            refine v_aload_n rfl rfl ?_
            obtain ⟨v105, v106, v107, v108, v109, v110, v111, v112, ⟨v105z, v105e⟩, ⟨⟨v106a, v106b⟩, v106e⟩, ⟨⟨v107a, v107b⟩, v107e⟩, ⟨v109a, v109b⟩, ⟨v112a, v112b⟩, h104⟩ := hI98.2.1 59 (by decide) (by decide)
            have v105z := v105z.imp i_eq.mp i_eq.mp
            rw [i_0, i_1] at v105z
            refine v_get rfl h104 rfl ?_
            refine r_icmp_ge rfl (fun t113 => ?_) (fun t113 => ?_)
            · refine v_iload rfl rfl ?_
              exact v_iret rfl ⟨⟨_, rfl, trivial⟩, hI98, hh99⟩
            · refine v_iload_n rfl rfl ?_
              refine v_iload rfl rfl ?_
              refine u_ishr rfl (fun z114 => ?_)
              refine v_iconst (v := 1) rfl (by decide) ?_
              refine u_iand rfl (fun z115 => ?_)
              refine r_if_ne rfl (fun t116 => ?_) (fun t116 => ?_)
              · refine r_iinc rfl rfl (by decide) (by omega) (by omega) (fun z117 z117e => ?_)
                refine v_goto rfl ?_
                exact ih67_100 l94 z117 (u96) w97 hI98 hh99 (by omega) (by omega) (by omega)
              · refine v_iconst (v := 1) rfl (by decide) ?_
                refine v_aload_n rfl rfl ?_
                refine v_iload_n rfl rfl ?_
                refine v_iload rfl rfl ?_
                refine v_iconst (v := 1) rfl (by decide) ?_
                refine r_iadd rfl (by omega) (by omega) (fun z118 z118e => ?_)
                refine v_aload_n rfl rfl ?_
                refine v_get rfl h104 rfl ?_
                refine v_iconst (v := 1) rfl (by decide) ?_
                refine r_isub rfl (by omega) (by omega) (fun z119 z119e => ?_)
                refine v_iload_n rfl rfl ?_
                refine v_iconst (v := 1) rfl (by decide) ?_
                refine v_iload rfl rfl ?_
                refine u_ishl rfl (fun z120 => ?_)
                refine v_iconst (v := (-1)) rfl (by decide) ?_
                refine u_ixor rfl (fun z121 => ?_)
                refine u_iand rfl (fun z122 => ?_)
                refine v_iload_n rfl rfl ?_
                refine v_callV rfl (W_X12_fewestFrom_59 y z118 z119 z122 b (by omega) (by omega) (by omega) (by omega) (by omega) (by omega) hR hI98 hh99) rfl rfl h104 rfl rfl (by omega) (fun rv w123 hq124 => ?_)
                obtain ⟨⟨z125, rfl, -⟩, hI126, hh127⟩ := hq124
                refine u_iadd rfl (fun z128 => ?_)
                refine v_istore rfl (Nat.le_of_ble_eq_true rfl) ?_
                refine v_iload rfl rfl ?_
                refine v_iload rfl rfl ?_
                refine r_icmp_ge rfl (fun t129 => ?_) (fun t129 => ?_)
                · refine v_iload rfl rfl ?_
                  refine v_istore rfl (Nat.le_of_ble_eq_true rfl) ?_
                  refine r_iinc rfl rfl (by decide) (by omega) (by omega) (fun z130 z130e => ?_)
                  refine v_goto rfl ?_
                  exact ih67_100 l94 z130 (.int z128) w123 hI126 hh127 (by omega) (by omega) (by omega)
                · refine v_iload rfl rfl ?_
                  refine v_goto rfl ?_
                  refine v_istore rfl (Nat.le_of_ble_eq_true rfl) ?_
                  refine r_iinc rfl rfl (by decide) (by omega) (by omega) (fun z131 z131e => ?_)
                  refine v_goto rfl ?_
                  exact ih67_100 z128 z131 (.int z128) w123 hI126 hh127 (by omega) (by omega) (by omega)
        exact L100 _ (0 : Int32) (0 : Int32) (.null) w hI hh (by omega) (by omega) (Nat.lt_add_one _)
  · obtain ⟨j0, j0a, j0b, j0c⟩ : ∃ j : Int, 0 ≤ j ∧ j < (gi 0).toInt ∧ ¬ ((ga 15).getD (20 * y.toInt + j).toNat 0).toInt = ((ga 15).getD (20 * y.toInt + (0 : Int32).toInt).toNat 0).toInt := by
      rcases z14p2 with hx | hx
      · exact absurd hx (by omega)
      · exact hx.2
    refine v_iconst (v := 0) rfl (by decide) ?_
    refine v_istore rfl (Nat.le_of_ble_eq_true rfl) ?_
    have L133 : ∀ (n133 : Nat) (l132 : Int32), 0 ≤ l132.toInt → l132.toInt ≤ 19 → (l132.toInt < (gi 0).toInt) → (∀ j : Int, 0 ≤ j → j < l132.toInt → ((ga 15).getD (20 * y.toInt + j).toNat 0).toInt = ((ga 15).getD (20 * y.toInt + (0 : Int32).toInt).toNat 0).toInt) → ((gi 0).toInt - l132.toInt).toNat < n133 → pm_V sc d 144 11 [.ref 59, .int y, .int u, .int b, .int l132, .null, .null] [] w (fun rv w' => pm_wI (fun v => True) rv ∧ pm_IM gi ga w' ∧ pm_lo w0 w') := by
      intro n133
      induction n133 with
      | zero => intro l132 t135 t136 t137 t138 hm134; exact absurd hm134 (Nat.not_lt_zero _)
      | succ n133 ih11_133 =>
        intro l132 t135 t136 t137 t138 hm134
        refine v_aload_n rfl rfl ?_
        refine v_iload rfl rfl ?_
        refine v_iload_n rfl rfl ?_
        refine v_callV rfl (W_X12_begins_59_x l132 y (ga 15) (by omega) (by omega) (by omega) (by omega) (by omega) h10 sq11l hR hI) rfl rfl h1 rfl rfl (by omega) (fun rv w139 hq140 => ?_)
        obtain ⟨⟨z141, rfl, z141p0, z141p1, z141p2⟩, rfl⟩ := hq140
        refine r_if_ne rfl (fun t142 => ?_) (fun t142 => ?_)
        · refine v_aload_n rfl rfl ?_
          refine v_iload_n rfl rfl ?_
          refine v_iload rfl rfl ?_
          refine v_aload_n rfl rfl ?_
          refine v_get rfl h1 rfl ?_
          refine v_iload_n rfl rfl ?_
          refine v_iload_n rfl rfl ?_
          refine v_callV rfl (W_X12_fewestFrom_59 y l132 (gi 0) u b (by omega) (by omega) (by omega) (by omega) (by omega) (by omega) hR hI hh) rfl rfl h1 rfl rfl (by omega) (fun rv w143 hq144 => ?_)
          obtain ⟨⟨z145, rfl, -⟩, hI146, hh147⟩ := hq144
          exact v_iret rfl ⟨⟨_, rfl, trivial⟩, hI146, hh147⟩
        · refine r_iinc rfl rfl (by decide) (by omega) (by omega) (fun z148 z148e => ?_)
          have nf : ∀ j : Int, 0 ≤ j → j < z148.toInt → ((ga 15).getD (20 * y.toInt + j).toNat 0).toInt = ((ga 15).getD (20 * y.toInt + (0 : Int32).toInt).toNat 0).toInt := by
            intro j h1 h2
            by_cases h3 : j < l132.toInt
            · exact t138 j h1 h3
            · obtain rfl : j = l132.toInt := by omega
              by_cases h4 : 1 ≤ l132.toInt
              · have h5 := t138 (l132.toInt - 1) (by omega) (by omega)
                rcases z141p2 with hx | hx
                · exact absurd hx (by omega)
                · have h6 := hx.2 h4
                  omega
              · rw [show l132.toInt = (0 : Int32).toInt by omega]
          have nl : z148.toInt < (gi 0).toInt := by
            false_or_by_contra
            exact j0c (nf j0 j0a (by omega))
          refine v_goto rfl ?_
          exact ih11_133 z148 (by omega) (by omega) (by omega) (by exact nf) (by omega)
    exact L133 _ (0 : Int32) (by omega) (by omega) (by omega) (by intro j h1 h2; omega) (Nat.lt_add_one _)
set_option maxRecDepth 100000 in
theorem W_X12_mend_59 {sc : pm_S} {w w0 : pm_W} {gi : Nat → Int32} {ga : Nat → List Int32} (y : Int32)  (hR : pm_Rg gi ga) (hI : pm_IM gi ga w) (hh : pm_lo w0 w) : pm_Mt sc 3 145 6 [.ref 59, .int y] w (fun rv w' => pm_wI (fun v => True) rv ∧ pm_IM gi ga w' ∧ pm_lo w0 w') := by
  intro d hd
  obtain ⟨g0a, g0b⟩ := hR.n0
  obtain ⟨g1a, g1b⟩ := hR.n1
  obtain ⟨g2a, g2b⟩ := hR.n2
  obtain ⟨g3a, g3b⟩ := hR.n3
  obtain ⟨g4a, g4b⟩ := hR.n4
  obtain ⟨g5a, g5b⟩ := hR.n5
  obtain ⟨g6a, g6b⟩ := hR.n6
  obtain ⟨g7a, g7b⟩ := hR.n7
  obtain ⟨g8a, g8b⟩ := hR.n8
  have km1 : (-1 : Int32).toInt = -1 := by decide
  have k0 : (0 : Int32).toInt = 0 := by decide
  have k1 : (1 : Int32).toInt = 1 := by decide
  show pm_V sc d 145 0 [.ref 59, .int y, .null, .null, .null, .null] [] w _
  refine v_iload_n rfl rfl ?_
  refine v_iconst (v := 0) rfl (by decide) ?_
  refine v_aload_n rfl rfl ?_
  obtain ⟨v2, v3, v4, v5, v6, v7, v8, v9, ⟨v2z, v2e⟩, ⟨⟨v3a, v3b⟩, v3e⟩, ⟨⟨v4a, v4b⟩, v4e⟩, ⟨v6a, v6b⟩, ⟨v9a, v9b⟩, h1⟩ := hI.2.1 59 (by decide) (by decide)
  have v2z := v2z.imp i_eq.mp i_eq.mp
  rw [i_0, i_1] at v2z
  refine v_get rfl h1 rfl ?_
  refine v_iconst (v := 1) rfl (by decide) ?_
  refine r_isub rfl (by omega) (by omega) (fun z10 z10e => ?_)
  refine v_callS rfl (W_X12_in y (0 : Int32) z10 hR hI) rfl rfl rfl rfl rfl (by omega) (fun rv w11 hq12 => ?_)
  obtain ⟨⟨z13, rfl, z13p0⟩, rfl⟩ := hq12
  refine r_if_ne rfl (fun t14 => ?_) (fun t14 => ?_)
  · refine v_aload_n rfl rfl ?_
    refine v_iload_n rfl rfl ?_
    refine v_iconst (v := 0) rfl (by decide) ?_
    refine v_iconst (v := 0) rfl (by decide) ?_
    refine v_callV rfl (W_X12_fewest_59 y (0 : Int32) (0 : Int32) (by omega) (by omega) hR hI hh) rfl rfl h1 rfl rfl (by omega) (fun rv w15 hq16 => ?_)
    obtain ⟨⟨z17, rfl, -⟩, hI18, hh19⟩ := hq16
    refine v_istore_n rfl (Nat.le_of_ble_eq_true rfl) ?_
    refine v_iconst (v := 0) rfl (by decide) ?_
    refine v_istore_n rfl (Nat.le_of_ble_eq_true rfl) ?_
    refine v_iconst (v := 0) rfl (by decide) ?_
    refine v_istore rfl (Nat.le_of_ble_eq_true rfl) ?_
    refine v_aload_n rfl rfl ?_
    obtain ⟨v21, v22, v23, v24, v25, v26, v27, v28, ⟨v21z, v21e⟩, ⟨⟨v22a, v22b⟩, v22e⟩, ⟨⟨v23a, v23b⟩, v23e⟩, ⟨v25a, v25b⟩, ⟨v28a, v28b⟩, h20⟩ := hI18.2.1 59 (by decide) (by decide)
    have v21z := v21z.imp i_eq.mp i_eq.mp
    rw [i_0, i_1] at v21z
    refine v_get rfl h20 rfl ?_
    refine v_iconst (v := 1) rfl (by decide) ?_
    refine r_isub rfl (by omega) (by omega) (fun z29 z29e => ?_)
    refine v_istore rfl (Nat.le_of_ble_eq_true rfl) ?_
    have L36 : ∀ (n36 : Nat) (l30 : Int32) (l31 : Int32) (l32 : Int32) (w33 : pm_W), pm_IM gi ga w33 → pm_lo w0 w33 → (-1) ≤ l32.toInt → l32.toInt ≤ 19 → (l32.toInt + 1).toNat < n36 → pm_V sc d 145 41 [.ref 59, .int y, .int z17, .int l30, .int l31, .int l32] [] w33 (fun rv w' => pm_wI (fun v => True) rv ∧ pm_IM gi ga w' ∧ pm_lo w0 w') := by
      intro n36
      induction n36 with
      | zero => intro l30 l31 l32 w33 hI34 hh35 t38 t39 hm37; exact absurd hm37 (Nat.not_lt_zero _)
      | succ n36 ih41_36 =>
        intro l30 l31 l32 w33 hI34 hh35 t38 t39 hm37
        refine v_iload rfl rfl ?_
        refine r_if_lt rfl (fun t40 => ?_) (fun t40 => ?_)
        · refine v_iload_n rfl rfl ?_
          exact v_iret rfl ⟨⟨_, rfl, trivial⟩, hI34, hh35⟩
        · refine v_aload_n rfl rfl ?_
          refine v_iload_n rfl rfl ?_
          refine v_iload_n rfl rfl ?_
          refine v_iload rfl rfl ?_
          refine v_iconst (v := 1) rfl (by decide) ?_
          refine v_iload rfl rfl ?_
          refine u_ishl rfl (fun z41 => ?_)
          refine u_ior rfl (fun z42 => ?_)
          obtain ⟨v44, v45, v46, v47, v48, v49, v50, v51, ⟨v44z, v44e⟩, ⟨⟨v45a, v45b⟩, v45e⟩, ⟨⟨v46a, v46b⟩, v46e⟩, ⟨v48a, v48b⟩, ⟨v51a, v51b⟩, h43⟩ := hI34.2.1 59 (by decide) (by decide)
          have v44z := v44z.imp i_eq.mp i_eq.mp
          rw [i_0, i_1] at v44z
          refine v_callV rfl (W_X12_fewest_59 y l30 z42 (by omega) (by omega) hR hI34 hh35) rfl rfl h43 rfl rfl (by omega) (fun rv w52 hq53 => ?_)
          obtain ⟨⟨z54, rfl, -⟩, hI55, hh56⟩ := hq53
          refine v_iload_n rfl rfl ?_
          refine r_icmp_ne rfl (fun t57 => ?_) (fun t57 => ?_)
          · refine v_iload_n rfl rfl ?_
            refine v_iconst (v := 1) rfl (by decide) ?_
            refine v_iload rfl rfl ?_
            refine u_ishl rfl (fun z58 => ?_)
            refine u_ior rfl (fun z59 => ?_)
            refine v_istore_n rfl (Nat.le_of_ble_eq_true rfl) ?_
            refine r_iinc rfl rfl (by decide) (by omega) (by omega) (fun z60 z60e => ?_)
            refine v_goto rfl ?_
            exact ih41_36 z59 l31 z60 w52 hI55 hh56 (by omega) (by omega) (by omega)
          · refine v_iload rfl rfl ?_
            refine v_iconst (v := 1) rfl (by decide) ?_
            refine v_iload rfl rfl ?_
            refine u_ishl rfl (fun z61 => ?_)
            refine u_ior rfl (fun z62 => ?_)
            refine v_istore rfl (Nat.le_of_ble_eq_true rfl) ?_
            refine v_goto rfl ?_
            refine r_iinc rfl rfl (by decide) (by omega) (by omega) (fun z63 z63e => ?_)
            refine v_goto rfl ?_
            exact ih41_36 l30 z62 z63 w52 hI55 hh56 (by omega) (by omega) (by omega)
    exact L36 _ (0 : Int32) (0 : Int32) z29 w15 hI18 hh19 (by omega) (by omega) (Nat.lt_add_one _)
  · refine v_aload_n rfl rfl ?_
    refine v_iconst (v := (-1)) rfl (by decide) ?_
    refine v_callV rfl (c_M_refuse (-1 : Int32) (by unfold pm_isR; first | decide | exact Or.inl rfl) hR hI) rfl rfl h1 rfl rfl (by omega) (fun rv w64 hq65 => ?_)
    obtain ⟨rfl, hI66, hh67x⟩ := hq65
    have hI66 : pm_IM gi ga w64 := hI66
    have hh67 := hh.tr hh67x
    exact v_iret rfl ⟨⟨_, rfl, trivial⟩, hI66, hh67⟩

