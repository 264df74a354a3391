set_option maxRecDepth 100000 in
theorem W_X12_faultMany_59 {sc : pm_S} {w : pm_W} {gi : Nat → Int32} {ga : Nat → List Int32}   (hR : pm_Rg gi ga) (hI : pm_IM gi ga w) : pm_Mt sc 0 147 3 [.ref 59] w (fun rv w' => pm_wI (fun v => True) rv ∧ w = w') := by
  intro d hd
  obtain ⟨g0a, g0b⟩ := hR.n0
  obtain ⟨g1a, g1b⟩ := hR.n1
  obtain ⟨g2a, g2b⟩ := hR.n2
  obtain ⟨g3a, g3b⟩ := hR.n3
  obtain ⟨g4a, g4b⟩ := hR.n4
  obtain ⟨g5a, g5b⟩ := hR.n5
  obtain ⟨g6a, g6b⟩ := hR.n6
  obtain ⟨g7a, g7b⟩ := hR.n7
  obtain ⟨g8a, g8b⟩ := hR.n8
  have k0 : (0 : Int32).toInt = 0 := by decide
  have k1 : (1 : Int32).toInt = 1 := by decide
  have k4 : (4 : Int32).toInt = 4 := by decide
  show pm_V sc d 147 0 [.ref 59, .null, .null] [] w _
  refine v_iconst (v := 0) rfl (by decide) ?_
  refine v_istore_n rfl (Nat.le_of_ble_eq_true rfl) ?_
  refine v_iconst (v := 1) rfl (by decide) ?_
  refine v_istore_n rfl (Nat.le_of_ble_eq_true rfl) ?_
  have L3 : ∀ (n3 : Nat) (l1 : Int32) (l2 : Int32), 1 ≤ l2.toInt → l2.toInt ≤ 4 → (4 - l2.toInt).toNat < n3 → pm_V sc d 147 4 [.ref 59, .int l1, .int l2] [] w (fun rv w' => pm_wI (fun v => True) rv ∧ w = w') := by
    intro n3
    induction n3 with
    | zero => intro l1 l2 t5 t6 hm4; exact absurd hm4 (Nat.not_lt_zero _)
    | succ n3 ih4_3 =>
      intro l1 l2 t5 t6 hm4
      refine v_iload_n rfl rfl ?_
      refine v_iconst (v := 4) rfl (by decide) ?_
      refine r_icmp_ge rfl (fun t7 => ?_) (fun t7 => ?_)
      · refine v_iload_n rfl rfl ?_
        exact v_iret rfl ⟨⟨_, rfl, trivial⟩, rfl⟩
      · refine v_iload_n rfl rfl ?_
        refine v_aload_n rfl rfl ?_
        obtain ⟨v9, v10, v11, v12, v13, v14, v15, v16, ⟨v9z, v9e⟩, ⟨⟨v10a, v10b⟩, v10e⟩, ⟨⟨v11a, v11b⟩, v11e⟩, ⟨v13a, v13b⟩, ⟨v16a, v16b⟩, h8⟩ := hI.2.1 59 (by decide) (by decide)
        have v9z := v9z.imp i_eq.mp i_eq.mp
        rw [i_0, i_1] at v9z
        refine v_get rfl h8 rfl ?_
        refine v_iload_n rfl rfl ?_
        obtain ⟨h17A, h17B, h17C, h17D, h17F⟩ := hI.flt
        have h17A : w[62]? = some (.inl (0, .inl (ga 25))) := h17A
        have h17C : List.length (ga 25) = 4 := h17C
        have h17B : w[63]? = some (.inl (0, .inl (ga 26))) := h17B
        have h17D : List.length (ga 26) = 4 := h17D
        refine r_iaload rfl h17A h17C (by omega) (by omega) (fun z18 z18m z18g => ?_)
        refine r_if_lt rfl (fun t19 => ?_) (fun t19 => ?_)
        · refine v_iconst (v := 0) rfl (by decide) ?_
          refine u_iadd rfl (fun z20 => ?_)
          refine v_istore_n rfl (Nat.le_of_ble_eq_true rfl) ?_
          refine r_iinc rfl rfl (by decide) (by omega) (by omega) (fun z21 z21e => ?_)
          refine v_goto rfl ?_
          exact ih4_3 z20 z21 (by omega) (by omega) (by omega)
        · refine v_iconst (v := 1) rfl (by decide) ?_
          refine v_goto rfl ?_
          refine u_iadd rfl (fun z22 => ?_)
          refine v_istore_n rfl (Nat.le_of_ble_eq_true rfl) ?_
          refine r_iinc rfl rfl (by decide) (by omega) (by omega) (fun z23 z23e => ?_)
          refine v_goto rfl ?_
          exact ih4_3 z22 z23 (by omega) (by omega) (by omega)
  exact L3 _ (0 : Int32) (1 : Int32) (by omega) (by omega) (Nat.lt_add_one _)
set_option maxRecDepth 100000 in
theorem W_X12_showPlain_59 {sc : pm_S} {w w0 : pm_W} {gi : Nat → Int32} {ga : Nat → List Int32}   (hR : pm_Rg gi ga) (hI : pm_IM gi ga w) (hh : pm_lo w0 w) : pm_Mt sc 0 149 2 [.ref 59] w (fun rv w' => rv = none ∧ pm_IM gi ga w' ∧ pm_lo w0 w') := by
  intro d hd
  obtain ⟨g0a, g0b⟩ := hR.n0
  obtain ⟨g1a, g1b⟩ := hR.n1
  obtain ⟨g2a, g2b⟩ := hR.n2
  obtain ⟨g3a, g3b⟩ := hR.n3
  obtain ⟨g4a, g4b⟩ := hR.n4
  obtain ⟨g5a, g5b⟩ := hR.n5
  obtain ⟨g6a, g6b⟩ := hR.n6
  obtain ⟨g7a, g7b⟩ := hR.n7
  obtain ⟨g8a, g8b⟩ := hR.n8
  have k0 : (0 : Int32).toInt = 0 := by decide
  have k400 : (400 : Int32).toInt = 400 := by decide
  show pm_V sc d 149 0 [.ref 59, .null] [] w _
  refine v_iconst (v := 0) rfl (by decide) ?_
  refine v_istore_n rfl (Nat.le_of_ble_eq_true rfl) ?_
  have L5 : ∀ (n5 : Nat) (l1 : Int32) (w2 : pm_W), pm_IM gi ga w2 → pm_lo w0 w2 → 0 ≤ l1.toInt → l1.toInt ≤ 400 → (400 - l1.toInt).toNat < n5 → pm_V sc d 149 2 [.ref 59, .int l1] [] w2 (fun rv w' => rv = none ∧ pm_IM gi ga w' ∧ pm_lo w0 w') := by
    intro n5
    induction n5 with
    | zero => intro l1 w2 hI3 hh4 t7 t8 hm6; exact absurd hm6 (Nat.not_lt_zero _)
    | succ n5 ih2_5 =>
      intro l1 w2 hI3 hh4 t7 t8 hm6
      refine v_iload_n rfl rfl ?_
      refine v_sipush (v := 400) rfl (by decide) ?_
      refine r_icmp_ge rfl (fun t9 => ?_) (fun t9 => ?_)
      · exact v_ret rfl ⟨rfl, hI3, hh4⟩
      · refine v_aload_n rfl rfl ?_
        obtain ⟨v11, v12, v13, v14, v15, v16, v17, v18, ⟨v11z, v11e⟩, ⟨⟨v12a, v12b⟩, v12e⟩, ⟨⟨v13a, v13b⟩, v13e⟩, ⟨v15a, v15b⟩, ⟨v18a, v18b⟩, h10⟩ := hI3.2.1 59 (by decide) (by decide)
        have v11z := v11z.imp i_eq.mp i_eq.mp
        rw [i_0, i_1] at v11z
        refine v_get rfl h10 rfl ?_
        refine v_iload_n rfl rfl ?_
        refine v_aload_n rfl rfl ?_
        refine v_get rfl h10 rfl ?_
        refine v_iload_n rfl rfl ?_
        obtain ⟨sq20l, sq20r, h19⟩ := hI3.2.1 60 (by decide) (by decide)
        refine r_iaload rfl h19 sq20l (by omega) (by omega) (fun z21 z21m z21g => ?_)
        obtain ⟨z21a, z21b⟩ := sq20r z21 z21m
        obtain ⟨xs23, xs23l, h22⟩ := hI3.2.1 84 (by decide) (by decide)
        refine r_iastore rfl h22 xs23l (by omega) (by omega) (fun ys24 ys24l ys24m ys24g => ?_)
        refine r_gen (w' := w2.set 84 (.inl (0, .inl ys24))) (fun w25 e26 => ?_)
        have hI27 : pm_IM gi ga w25 := by rw [e26]; exact hI3.set 84 (by decide) (by decide) (by decide) (by decide) ⟨ys24, ys24l, rfl⟩
        have hh28 : pm_lo w0 w25 := by rw [e26]; exact hh4.set (by decide) _
        have h29 := r_get_ne e26 (show 84 ≠ 59 by decide) h10
        have h30 := r_get_ne e26 (show 84 ≠ 60 by decide) h19
        have h31 := r_get_eq e26 h22
        refine r_iinc rfl rfl (by decide) (by omega) (by omega) (fun z32 z32e => ?_)
        refine v_goto rfl ?_
        exact ih2_5 z32 w25 hI27 hh28 (by omega) (by omega) (by omega)
  exact L5 _ (0 : Int32) w hI hh (by omega) (by omega) (Nat.lt_add_one _)
set_option maxRecDepth 100000 in
theorem W_X12_cross_59 {sc : pm_S} {w w0 : pm_W} {gi : Nat → Int32} {ga : Nat → List Int32} (a : Int32) (b : Int32) (p0 : b.toInt ≤ 19) (p1 : 0 ≤ b.toInt) (p2 : a.toInt ≤ 19) (p3 : 0 ≤ a.toInt) (hR : pm_Rg gi ga) (hI : pm_IM gi ga w) (hh : pm_lo w0 w) : pm_Mt sc 1 150 5 [.ref 59, .int a, .int b] w (fun rv w' => rv = none ∧ pm_IM gi ga w' ∧ pm_lo w0 w') := by
  intro d hd
  obtain ⟨g0a, g0b⟩ := hR.n0
  obtain ⟨g1a, g1b⟩ := hR.n1
  obtain ⟨g2a, g2b⟩ := hR.n2
  obtain ⟨g3a, g3b⟩ := hR.n3
  obtain ⟨g4a, g4b⟩ := hR.n4
  obtain ⟨g5a, g5b⟩ := hR.n5
  obtain ⟨g6a, g6b⟩ := hR.n6
  obtain ⟨g7a, g7b⟩ := hR.n7
  obtain ⟨g8a, g8b⟩ := hR.n8
  have k0 : (0 : Int32).toInt = 0 := by decide
  have k20 : (20 : Int32).toInt = 20 := by decide
  show pm_V sc d 150 0 [.ref 59, .int a, .int b, .null, .null] [] w _
  refine v_iconst (v := 0) rfl (by decide) ?_
  refine v_istore_n rfl (Nat.le_of_ble_eq_true rfl) ?_
  have L6 : ∀ (n6 : Nat) (l1 : Int32) (u2 : Value) (w3 : pm_W), pm_IM gi ga w3 → pm_lo w0 w3 → 0 ≤ l1.toInt → l1.toInt ≤ 20 → (20 - l1.toInt).toNat < n6 → pm_V sc d 150 2 [.ref 59, .int a, .int b, .int l1, u2] [] w3 (fun rv w' => rv = none ∧ pm_IM gi ga w' ∧ pm_lo w0 w') := by
    intro n6
    induction n6 with
    | zero => intro l1 u2 w3 hI4 hh5 t8 t9 hm7; exact absurd hm7 (Nat.not_lt_zero _)
    | succ n6 ih2_6 =>
      intro l1 u2 w3 hI4 hh5 t8 t9 hm7
      refine v_iload_n rfl rfl ?_
      refine v_aload_n rfl rfl ?_
      obtain ⟨v11, v12, v13, v14, v15, v16, v17, v18, ⟨v11z, v11e⟩, ⟨⟨v12a, v12b⟩, v12e⟩, ⟨⟨v13a, v13b⟩, v13e⟩, ⟨v15a, v15b⟩, ⟨v18a, v18b⟩, h10⟩ := hI4.2.1 59 (by decide) (by decide)
      have v11z := v11z.imp i_eq.mp i_eq.mp
      rw [i_0, i_1] at v11z
      refine v_get rfl h10 rfl ?_
      refine r_icmp_ge rfl (fun t19 => ?_) (fun t19 => ?_)
      · exact v_ret rfl ⟨rfl, hI4, hh5⟩
      · refine v_iconst (v := 0) rfl (by decide) ?_
        refine v_istore rfl (Nat.le_of_ble_eq_true rfl) ?_
        have L24 : ∀ (n24 : Nat) (l20 : Int32) (w21 : pm_W), pm_IM gi ga w21 → pm_lo w0 w21 → 0 ≤ l20.toInt → l20.toInt ≤ 20 → (20 - l20.toInt).toNat < n24 → pm_V sc d 150 13 [.ref 59, .int a, .int b, .int l1, .int l20] [] w21 (fun rv w' => rv = none ∧ pm_IM gi ga w' ∧ pm_lo w0 w') := by
          intro n24
          induction n24 with
          | zero => intro l20 w21 hI22 hh23 t26 t27 hm25; exact absurd hm25 (Nat.not_lt_zero _)
          | succ n24 ih13_24 =>
            intro l20 w21 hI22 hh23 t26 t27 hm25
            refine v_iload rfl rfl ?_
            refine v_aload_n rfl rfl ?_
            obtain ⟨v29, v30, v31, v32, v33, v34, v35, v36, ⟨v29z, v29e⟩, ⟨⟨v30a, v30b⟩, v30e⟩, ⟨⟨v31a, v31b⟩, v31e⟩, ⟨v33a, v33b⟩, ⟨v36a, v36b⟩, h28⟩ := hI22.2.1 59 (by decide) (by decide)
            have v29z := v29z.imp i_eq.mp i_eq.mp
            rw [i_0, i_1] at v29z
            refine v_get rfl h28 rfl ?_
            refine r_icmp_ge rfl (fun t37 => ?_) (fun t37 => ?_)
            · refine r_iinc rfl rfl (by decide) (by omega) (by omega) (fun z38 z38e => ?_)
              refine v_goto rfl ?_
              exact ih2_6 z38 (.int l20) w21 hI22 hh23 (by omega) (by omega) (by omega)
            · refine v_aload_n rfl rfl ?_
              refine v_get rfl h28 rfl ?_
              refine v_bipush (v := 20) rfl (by decide) ?_
              refine v_iload_n rfl rfl ?_
              refine r_imulL 20 rfl rfl (by omega) (by omega) (fun z39 z39e => ?_)
              refine v_iload rfl rfl ?_
              refine r_iadd rfl (by omega) (by omega) (fun z40 z40e => ?_)
              have K42 : ∀ (y41 : Int32), pm_V sc d 150 95 [.ref 59, .int a, .int b, .int l1, .int l20] [.int y41, .int z40, .ref 84] w21 (fun rv w' => rv = none ∧ pm_IM gi ga w' ∧ pm_lo w0 w') := by
                intro y41
                obtain ⟨xs44, xs44l, h43⟩ := hI22.2.1 84 (by decide) (by decide)
                refine r_iastore rfl h43 xs44l (by omega) (by omega) (fun ys45 ys45l ys45m ys45g => ?_)
                refine r_gen (w' := w21.set 84 (.inl (0, .inl ys45))) (fun w46 e47 => ?_)
                have hI48 : pm_IM gi ga w46 := by rw [e47]; exact hI22.set 84 (by decide) (by decide) (by decide) (by decide) ⟨ys45, ys45l, rfl⟩
                have hh49 : pm_lo w0 w46 := by rw [e47]; exact hh23.set (by decide) _
                have h50 := r_get_ne e47 (show 84 ≠ 59 by decide) h28
                have h51 := r_get_eq e47 h43
                refine r_iinc rfl rfl (by decide) (by omega) (by omega) (fun z52 z52e => ?_)
                refine v_goto rfl ?_
                exact ih13_24 z52 w46 hI48 hh49 (by omega) (by omega) (by omega)
              refine v_aload_n rfl rfl ?_
              refine v_get rfl h28 rfl ?_
              refine v_iload rfl rfl ?_
              obtain ⟨xs54, xs54l, xs54r, h53⟩ := hI22.2.1 80 (by decide) (by decide)
              refine r_iaload rfl h53 xs54l (by omega) (by omega) (fun z55 z55m z55g => ?_)
              obtain ⟨z55a, z55b⟩ := xs54r z55 z55m
              refine v_iload_n rfl rfl ?_
              refine r_icmp_ne rfl (fun t56 => ?_) (fun t56 => ?_)
              · refine v_aload_n rfl rfl ?_
                refine v_get rfl h28 rfl ?_
                refine v_iload rfl rfl ?_
                refine r_iaload rfl h53 xs54l (by omega) (by omega) (fun z57 z57m z57g => ?_)
                obtain ⟨z57a, z57b⟩ := xs54r z57 z57m
                refine v_iload_n rfl rfl ?_
                refine r_icmp_ne rfl (fun t58 => ?_) (fun t58 => ?_)
                · refine v_aload_n rfl rfl ?_
                  refine v_get rfl h28 rfl ?_
                  refine v_bipush (v := 20) rfl (by decide) ?_
                  refine v_iload_n rfl rfl ?_
                  refine r_imulL 20 rfl rfl (by omega) (by omega) (fun z59 z59e => ?_)
                  refine v_iload rfl rfl ?_
                  refine r_iadd rfl (by omega) (by omega) (fun z60 z60e => ?_)
                  obtain ⟨xs62, xs62l, h61⟩ := hI22.2.1 84 (by decide) (by decide)
                  refine r_iaload rfl h61 xs62l (by omega) (by omega) (fun z63 z63m z63g => ?_)
                  exact K42 z63
                · refine v_aload_n rfl rfl ?_
                  refine v_aload_n rfl rfl ?_
                  refine v_get rfl h28 rfl ?_
                  refine v_iload_n rfl rfl ?_
                  obtain ⟨xs65, xs65l, xs65r, h64⟩ := hI22.2.1 81 (by decide) (by decide)
                  refine r_iaload rfl h64 xs65l (by omega) (by omega) (fun z66 z66m z66g => ?_)
                  obtain ⟨z66a, z66b⟩ := xs65r z66 z66m
                  refine v_iload_n rfl rfl ?_
                  refine v_callV rfl (W_X12_colour_59 z66 l1 (by omega) (by omega) (by omega) (by omega) hR hI22) rfl rfl h28 rfl rfl (by omega) (fun rv w67 hq68 => ?_)
                  obtain ⟨⟨z69, rfl, -⟩, rfl⟩ := hq68
                  refine v_goto rfl ?_
                  exact K42 z69
              · refine v_aload_n rfl rfl ?_
                refine v_aload_n rfl rfl ?_
                refine v_get rfl h28 rfl ?_
                refine v_iload_n rfl rfl ?_
                obtain ⟨xs71, xs71l, xs71r, h70⟩ := hI22.2.1 81 (by decide) (by decide)
                refine r_iaload rfl h70 xs71l (by omega) (by omega) (fun z72 z72m z72g => ?_)
                obtain ⟨z72a, z72b⟩ := xs71r z72 z72m
                refine v_iload_n rfl rfl ?_
                refine v_callV rfl (W_X12_colour_59 z72 l1 (by omega) (by omega) (by omega) (by omega) hR hI22) rfl rfl h28 rfl rfl (by omega) (fun rv w73 hq74 => ?_)
                obtain ⟨⟨z75, rfl, -⟩, rfl⟩ := hq74
                refine v_goto rfl ?_
                exact K42 z75
        exact L24 _ (0 : Int32) w3 hI4 hh5 (by omega) (by omega) (Nat.lt_add_one _)
  exact L6 _ (0 : Int32) (.null) w hI hh (by omega) (by omega) (Nat.lt_add_one _)
set_option maxRecDepth 100000 in
theorem W_X12_breakCord_59 {sc : pm_S} {w w0 : pm_W} {gi : Nat → Int32} {ga : Nat → List Int32} (a : Int32)  (hR : pm_Rg gi ga) (hI : pm_IM gi ga w) (hh : pm_lo w0 w) : pm_Mt sc 0 151 4 [.ref 59, .int a] w (fun rv w' => rv = none ∧ pm_IM gi ga w' ∧ pm_lo w0 w') := by
  intro d hd
  obtain ⟨g0a, g0b⟩ := hR.n0
  obtain ⟨g1a, g1b⟩ := hR.n1
  obtain ⟨g2a, g2b⟩ := hR.n2
  obtain ⟨g3a, g3b⟩ := hR.n3
  obtain ⟨g4a, g4b⟩ := hR.n4
  obtain ⟨g5a, g5b⟩ := hR.n5
  obtain ⟨g6a, g6b⟩ := hR.n6
  obtain ⟨g7a, g7b⟩ := hR.n7
  obtain ⟨g8a, g8b⟩ := hR.n8
  have k0 : (0 : Int32).toInt = 0 := by decide
  have k20 : (20 : Int32).toInt = 20 := by decide
  show pm_V sc d 151 0 [.ref 59, .int a, .null, .null] [] w _
  refine v_iconst (v := 0) rfl (by decide) ?_
  refine v_istore_n rfl (Nat.le_of_ble_eq_true rfl) ?_
  have L6 : ∀ (n6 : Nat) (l1 : Int32) (u2 : Value) (w3 : pm_W), pm_IM gi ga w3 → pm_lo w0 w3 → 0 ≤ l1.toInt → l1.toInt ≤ 20 → (20 - l1.toInt).toNat < n6 → pm_V sc d 151 2 [.ref 59, .int a, .int l1, u2] [] w3 (fun rv w' => rv = none ∧ pm_IM gi ga w' ∧ pm_lo w0 w') := by
    intro n6
    induction n6 with
    | zero => intro l1 u2 w3 hI4 hh5 t8 t9 hm7; exact absurd hm7 (Nat.not_lt_zero _)
    | succ n6 ih2_6 =>
      intro l1 u2 w3 hI4 hh5 t8 t9 hm7
      refine v_iload_n rfl rfl ?_
      refine v_aload_n rfl rfl ?_
      obtain ⟨v11, v12, v13, v14, v15, v16, v17, v18, ⟨v11z, v11e⟩, ⟨⟨v12a, v12b⟩, v12e⟩, ⟨⟨v13a, v13b⟩, v13e⟩, ⟨v15a, v15b⟩, ⟨v18a, v18b⟩, h10⟩ := hI4.2.1 59 (by decide) (by decide)
      have v11z := v11z.imp i_eq.mp i_eq.mp
      rw [i_0, i_1] at v11z
      refine v_get rfl h10 rfl ?_
      refine r_icmp_ge rfl (fun t19 => ?_) (fun t19 => ?_)
      · exact v_ret rfl ⟨rfl, hI4, hh5⟩
      · refine v_iconst (v := 0) rfl (by decide) ?_
        refine v_istore_n rfl (Nat.le_of_ble_eq_true rfl) ?_
        have L24 : ∀ (n24 : Nat) (l20 : Int32) (w21 : pm_W), pm_IM gi ga w21 → pm_lo w0 w21 → 0 ≤ l20.toInt → l20.toInt ≤ 20 → (20 - l20.toInt).toNat < n24 → pm_V sc d 151 12 [.ref 59, .int a, .int l1, .int l20] [] w21 (fun rv w' => rv = none ∧ pm_IM gi ga w' ∧ pm_lo w0 w') := by
          intro n24
          induction n24 with
          | zero => intro l20 w21 hI22 hh23 t26 t27 hm25; exact absurd hm25 (Nat.not_lt_zero _)
          | succ n24 ih12_24 =>
            intro l20 w21 hI22 hh23 t26 t27 hm25
            refine v_iload_n rfl rfl ?_
            refine v_aload_n rfl rfl ?_
            obtain ⟨v29, v30, v31, v32, v33, v34, v35, v36, ⟨v29z, v29e⟩, ⟨⟨v30a, v30b⟩, v30e⟩, ⟨⟨v31a, v31b⟩, v31e⟩, ⟨v33a, v33b⟩, ⟨v36a, v36b⟩, h28⟩ := hI22.2.1 59 (by decide) (by decide)
            have v29z := v29z.imp i_eq.mp i_eq.mp
            rw [i_0, i_1] at v29z
            refine v_get rfl h28 rfl ?_
            refine r_icmp_ge rfl (fun t37 => ?_) (fun t37 => ?_)
            · refine r_iinc rfl rfl (by decide) (by omega) (by omega) (fun z38 z38e => ?_)
              refine v_goto rfl ?_
              exact ih2_6 z38 (.int l20) w21 hI22 hh23 (by omega) (by omega) (by omega)
            · refine v_aload_n rfl rfl ?_
              refine v_get rfl h28 rfl ?_
              refine v_bipush (v := 20) rfl (by decide) ?_
              refine v_iload_n rfl rfl ?_
              refine r_imulL 20 rfl rfl (by omega) (by omega) (fun z39 z39e => ?_)
              refine v_iload_n rfl rfl ?_
              refine r_iadd rfl (by omega) (by omega) (fun z40 z40e => ?_)
              refine v_aload_n rfl rfl ?_
              refine v_get rfl h28 rfl ?_
              refine v_iload_n rfl rfl ?_
              obtain ⟨xs42, xs42l, xs42r, h41⟩ := hI22.2.1 80 (by decide) (by decide)
              refine r_iaload rfl h41 xs42l (by omega) (by omega) (fun z43 z43m z43g => ?_)
              obtain ⟨z43a, z43b⟩ := xs42r z43 z43m
              refine v_iload_n rfl rfl ?_
              refine r_icmp_ne rfl (fun t44 => ?_) (fun t44 => ?_)
              · refine v_aload_n rfl rfl ?_
                refine v_get rfl h28 rfl ?_
                refine v_bipush (v := 20) rfl (by decide) ?_
                refine v_iload_n rfl rfl ?_
                refine r_imulL 20 rfl rfl (by omega) (by omega) (fun z45 z45e => ?_)
                refine v_iload_n rfl rfl ?_
                refine r_iadd rfl (by omega) (by omega) (fun z46 z46e => ?_)
                obtain ⟨xs48, xs48l, h47⟩ := hI22.2.1 84 (by decide) (by decide)
                refine r_iaload rfl h47 xs48l (by omega) (by omega) (fun z49 z49m z49g => ?_)
                refine r_iastore rfl h47 xs48l (by omega) (by omega) (fun ys50 ys50l ys50m ys50g => ?_)
                refine r_gen (w' := w21.set 84 (.inl (0, .inl ys50))) (fun w51 e52 => ?_)
                have hI53 : pm_IM gi ga w51 := by rw [e52]; exact hI22.set 84 (by decide) (by decide) (by decide) (by decide) ⟨ys50, ys50l, rfl⟩
                have hh54 : pm_lo w0 w51 := by rw [e52]; exact hh23.set (by decide) _
                have h55 := r_get_ne e52 (show 84 ≠ 59 by decide) h28
                have h56 := r_get_ne e52 (show 84 ≠ 80 by decide) h41
                have h57 := r_get_eq e52 h47
                refine r_iinc rfl rfl (by decide) (by omega) (by omega) (fun z58 z58e => ?_)
                refine v_goto rfl ?_
                exact ih12_24 z58 w51 hI53 hh54 (by omega) (by omega) (by omega)
              · refine v_iconst (v := 0) rfl (by decide) ?_
                refine v_goto rfl ?_
                obtain ⟨xs60, xs60l, h59⟩ := hI22.2.1 84 (by decide) (by decide)
                refine r_iastore rfl h59 xs60l (by omega) (by omega) (fun ys61 ys61l ys61m ys61g => ?_)
                refine r_gen (w' := w21.set 84 (.inl (0, .inl ys61))) (fun w62 e63 => ?_)
                have hI64 : pm_IM gi ga w62 := by rw [e63]; exact hI22.set 84 (by decide) (by decide) (by decide) (by decide) ⟨ys61, ys61l, rfl⟩
                have hh65 : pm_lo w0 w62 := by rw [e63]; exact hh23.set (by decide) _
                have h66 := r_get_ne e63 (show 84 ≠ 59 by decide) h28
                have h67 := r_get_ne e63 (show 84 ≠ 80 by decide) h41
                have h68 := r_get_eq e63 h59
                refine r_iinc rfl rfl (by decide) (by omega) (by omega) (fun z69 z69e => ?_)
                refine v_goto rfl ?_
                exact ih12_24 z69 w62 hI64 hh65 (by omega) (by omega) (by omega)
        exact L24 _ (0 : Int32) w3 hI4 hh5 (by omega) (by omega) (Nat.lt_add_one _)
  exact L6 _ (0 : Int32) (.null) w hI hh (by omega) (by omega) (Nat.lt_add_one _)
set_option maxRecDepth 100000 in
theorem W_X12_skip_59 {sc : pm_S} {w w0 : pm_W} {gi : Nat → Int32} {ga : Nat → List Int32} (a : Int32) (p0 : a.toInt ≤ 19) (p1 : 0 ≤ a.toInt) (hR : pm_Rg gi ga) (hI : pm_IM gi ga w) (hh : pm_lo w0 w) : pm_Mt sc 0 152 4 [.ref 59, .int a] w (fun rv w' => rv = none ∧ pm_IM gi ga w' ∧ pm_lo w0 w') := by
  intro d hd
  obtain ⟨g0a, g0b⟩ := hR.n0
  obtain ⟨g1a, g1b⟩ := hR.n1
  obtain ⟨g2a, g2b⟩ := hR.n2
  obtain ⟨g3a, g3b⟩ := hR.n3
  obtain ⟨g4a, g4b⟩ := hR.n4
  obtain ⟨g5a, g5b⟩ := hR.n5
  obtain ⟨g6a, g6b⟩ := hR.n6
  obtain ⟨g7a, g7b⟩ := hR.n7
  obtain ⟨g8a, g8b⟩ := hR.n8
  have k0 : (0 : Int32).toInt = 0 := by decide
  have k1 : (1 : Int32).toInt = 1 := by decide
  have k20 : (20 : Int32).toInt = 20 := by decide
  show pm_V sc d 152 0 [.ref 59, .int a, .null, .null] [] w _
  refine v_iload_n rfl rfl ?_
  refine v_istore_n rfl (Nat.le_of_ble_eq_true rfl) ?_
  have L6 : ∀ (n6 : Nat) (l1 : Int32) (u2 : Value) (w3 : pm_W), pm_IM gi ga w3 → pm_lo w0 w3 → 0 ≤ l1.toInt → l1.toInt ≤ 20 → (20 - l1.toInt).toNat < n6 → pm_V sc d 152 2 [.ref 59, .int a, .int l1, u2] [] w3 (fun rv w' => rv = none ∧ pm_IM gi ga w' ∧ pm_lo w0 w') := by
    intro n6
    induction n6 with
    | zero => intro l1 u2 w3 hI4 hh5 t8 t9 hm7; exact absurd hm7 (Nat.not_lt_zero _)
    | succ n6 ih2_6 =>
      intro l1 u2 w3 hI4 hh5 t8 t9 hm7
      refine v_iload_n rfl rfl ?_
      refine v_aload_n rfl rfl ?_
      obtain ⟨v11, v12, v13, v14, v15, v16, v17, v18, ⟨v11z, v11e⟩, ⟨⟨v12a, v12b⟩, v12e⟩, ⟨⟨v13a, v13b⟩, v13e⟩, ⟨v15a, v15b⟩, ⟨v18a, v18b⟩, h10⟩ := hI4.2.1 59 (by decide) (by decide)
      have v11z := v11z.imp i_eq.mp i_eq.mp
      rw [i_0, i_1] at v11z
      refine v_get rfl h10 rfl ?_
      refine r_icmp_ge rfl (fun t19 => ?_) (fun t19 => ?_)
      · exact v_ret rfl ⟨rfl, hI4, hh5⟩
      · refine v_iconst (v := 0) rfl (by decide) ?_
        refine v_istore_n rfl (Nat.le_of_ble_eq_true rfl) ?_
        have L24 : ∀ (n24 : Nat) (l20 : Int32) (w21 : pm_W), pm_IM gi ga w21 → pm_lo w0 w21 → 0 ≤ l20.toInt → l20.toInt ≤ 20 → (20 - l20.toInt).toNat < n24 → pm_V sc d 152 12 [.ref 59, .int a, .int l1, .int l20] [] w21 (fun rv w' => rv = none ∧ pm_IM gi ga w' ∧ pm_lo w0 w') := by
          intro n24
          induction n24 with
          | zero => intro l20 w21 hI22 hh23 t26 t27 hm25; exact absurd hm25 (Nat.not_lt_zero _)
          | succ n24 ih12_24 =>
            intro l20 w21 hI22 hh23 t26 t27 hm25
            refine v_iload_n rfl rfl ?_
            refine v_aload_n rfl rfl ?_
            obtain ⟨v29, v30, v31, v32, v33, v34, v35, v36, ⟨v29z, v29e⟩, ⟨⟨v30a, v30b⟩, v30e⟩, ⟨⟨v31a, v31b⟩, v31e⟩, ⟨v33a, v33b⟩, ⟨v36a, v36b⟩, h28⟩ := hI22.2.1 59 (by decide) (by decide)
            have v29z := v29z.imp i_eq.mp i_eq.mp
            rw [i_0, i_1] at v29z
            refine v_get rfl h28 rfl ?_
            refine r_icmp_ge rfl (fun t37 => ?_) (fun t37 => ?_)
            · refine r_iinc rfl rfl (by decide) (by omega) (by omega) (fun z38 z38e => ?_)
              refine v_goto rfl ?_
              exact ih2_6 z38 (.int l20) w21 hI22 hh23 (by omega) (by omega) (by omega)
            · refine v_aload_n rfl rfl ?_
              refine v_get rfl h28 rfl ?_
              refine v_bipush (v := 20) rfl (by decide) ?_
              refine v_iload_n rfl rfl ?_
              refine r_imulL 20 rfl rfl (by omega) (by omega) (fun z39 z39e => ?_)
              refine v_iload_n rfl rfl ?_
              refine r_iadd rfl (by omega) (by omega) (fun z40 z40e => ?_)
              refine v_iload_n rfl rfl ?_
              refine v_iconst (v := 1) rfl (by decide) ?_
              refine r_iadd rfl (by omega) (by omega) (fun z41 z41e => ?_)
              refine v_aload_n rfl rfl ?_
              refine v_get rfl h28 rfl ?_
              refine r_icmp_ge rfl (fun t42 => ?_) (fun t42 => ?_)
              · refine v_iconst (v := 0) rfl (by decide) ?_
                obtain ⟨xs44, xs44l, h43⟩ := hI22.2.1 84 (by decide) (by decide)
                refine r_iastore rfl h43 xs44l (by omega) (by omega) (fun ys45 ys45l ys45m ys45g => ?_)
                refine r_gen (w' := w21.set 84 (.inl (0, .inl ys45))) (fun w46 e47 => ?_)
                have hI48 : pm_IM gi ga w46 := by rw [e47]; exact hI22.set 84 (by decide) (by decide) (by decide) (by decide) ⟨ys45, ys45l, rfl⟩
                have hh49 : pm_lo w0 w46 := by rw [e47]; exact hh23.set (by decide) _
                have h50 := r_get_ne e47 (show 84 ≠ 59 by decide) h28
                have h51 := r_get_eq e47 h43
                refine r_iinc rfl rfl (by decide) (by omega) (by omega) (fun z52 z52e => ?_)
                refine v_goto rfl ?_
                exact ih12_24 z52 w46 hI48 hh49 (by omega) (by omega) (by omega)
              · refine v_aload_n rfl rfl ?_
                refine v_get rfl h28 rfl ?_
                refine v_bipush (v := 20) rfl (by decide) ?_
                refine v_iload_n rfl rfl ?_
                refine v_iconst (v := 1) rfl (by decide) ?_
                refine r_iadd rfl (by omega) (by omega) (fun z53 z53e => ?_)
                refine r_imulL 20 rfl rfl (by omega) (by omega) (fun z54 z54e => ?_)
                refine v_iload_n rfl rfl ?_
                refine r_iadd rfl (by omega) (by omega) (fun z55 z55e => ?_)
                obtain ⟨xs57, xs57l, h56⟩ := hI22.2.1 84 (by decide) (by decide)
                refine r_iaload rfl h56 xs57l (by omega) (by omega) (fun z58 z58m z58g => ?_)
                refine v_goto rfl ?_
                refine r_iastore rfl h56 xs57l (by omega) (by omega) (fun ys59 ys59l ys59m ys59g => ?_)
                refine r_gen (w' := w21.set 84 (.inl (0, .inl ys59))) (fun w60 e61 => ?_)
                have hI62 : pm_IM gi ga w60 := by rw [e61]; exact hI22.set 84 (by decide) (by decide) (by decide) (by decide) ⟨ys59, ys59l, rfl⟩
                have hh63 : pm_lo w0 w60 := by rw [e61]; exact hh23.set (by decide) _
                have h64 := r_get_ne e61 (show 84 ≠ 59 by decide) h28
                have h65 := r_get_eq e61 h56
                refine r_iinc rfl rfl (by decide) (by omega) (by omega) (fun z66 z66e => ?_)
                refine v_goto rfl ?_
                exact ih12_24 z66 w60 hI62 hh63 (by omega) (by omega) (by omega)
        exact L24 _ (0 : Int32) w3 hI4 hh5 (by omega) (by omega) (Nat.lt_add_one _)
  exact L6 _ a (.null) w hI hh (by omega) (by omega) (Nat.lt_add_one _)
set_option maxRecDepth 100000 in
theorem W_X12_isCloth_59 {sc : pm_S} {w : pm_W} {gi : Nat → Int32} {ga : Nat → List Int32} (x : Int32) (y : Int32) (c59_4 : Int32) (c59_5 : Int32) (c59_6 : Int32) (c59_14 : Int32) (c59_35 : Int32) (c59_39 : Int32) (c59_40 : Int32) (c59_42 : Int32) (p0 : 0 ≤ c59_4.toInt) (p1 : c59_4.toInt ≤ 1) (p2 : 0 ≤ c59_5.toInt) (p3 : c59_5.toInt ≤ 20) (p4 : 0 ≤ c59_6.toInt) (p5 : c59_6.toInt ≤ 20) (p6 : 0 ≤ c59_35.toInt) (p7 : c59_35.toInt ≤ 20) (p8 : 0 ≤ c59_42.toInt) (p9 : c59_42.toInt ≤ 12) (hc59 : w[59]? = some (.inr (12, [.int (gi 0), .int (gi 1), .ref 60, .int (gi 2), .int c59_4, .int c59_5, .int c59_6, .ref 61, .ref 62, .ref 63, .int (gi 5), .int (gi 3), .int (gi 4), .int (gi 6), .int c59_14, .int (gi 7), .ref 64, .ref 65, .ref 66, .ref 67, .int (gi 8), .ref 68, .ref 69, .ref 70, .ref 71, .ref 72, .ref 73, .ref 74, .ref 75, .ref 76, .ref 77, .ref 78, .ref 79, .ref 80, .ref 81, .int c59_35, .ref 82, .ref 83, .ref 84, .int c59_39, .int c59_40, .ref 85, .int c59_42, .ref 86, .ref 87]))) (hR : pm_Rg gi ga) (hI : pm_IM gi ga w) : pm_Mt sc 1 154 3 [.ref 59, .int x, .int y] w (fun rv w' => pm_wI (fun v => ((v.toInt = 1 ∧ 0 ≤ x.toInt ∧ x.toInt < c59_5.toInt ∧ 0 ≤ y.toInt ∧ y.toInt < c59_6.toInt) ∨ (v.toInt = 0 ∧ (x.toInt < 0 ∨ y.toInt < 0 ∨ c59_5.toInt ≤ x.toInt ∨ c59_6.toInt ≤ y.toInt)))) rv ∧ w = w') := by
  intro d hd
  obtain ⟨g0a, g0b⟩ := hR.n0
  obtain ⟨g1a, g1b⟩ := hR.n1
  obtain ⟨g2a, g2b⟩ := hR.n2
  obtain ⟨g3a, g3b⟩ := hR.n3
  obtain ⟨g4a, g4b⟩ := hR.n4
  obtain ⟨g5a, g5b⟩ := hR.n5
  obtain ⟨g6a, g6b⟩ := hR.n6
  obtain ⟨g7a, g7b⟩ := hR.n7
  obtain ⟨g8a, g8b⟩ := hR.n8
  have k0 : (0 : Int32).toInt = 0 := by decide
  have k1 : (1 : Int32).toInt = 1 := by decide
  show pm_V sc d 154 0 [.ref 59, .int x, .int y] [] w _
  refine v_iload_n rfl rfl ?_
  refine v_iconst (v := 0) rfl (by decide) ?_
  refine v_aload_n rfl rfl ?_
  refine v_get rfl hc59 rfl ?_
  refine v_iconst (v := 1) rfl (by decide) ?_
  refine r_isub rfl (by omega) (by omega) (fun z1 z1e => ?_)
  refine v_callS rfl (W_X12_in x (0 : Int32) z1 hR hI) rfl rfl rfl rfl rfl (by omega) (fun rv w2 hq3 => ?_)
  obtain ⟨⟨z4, rfl, z4p0⟩, rfl⟩ := hq3
  refine r_if_eq rfl (fun t5 => ?_) (fun t5 => ?_)
  · refine v_iconst (v := 0) rfl (by decide) ?_
    exact r_zret rfl (by omega) ⟨⟨_, rfl, (by omega)⟩, rfl⟩
  · refine v_iload_n rfl rfl ?_
    refine v_iconst (v := 0) rfl (by decide) ?_
    refine v_aload_n rfl rfl ?_
    refine v_get rfl hc59 rfl ?_
    refine v_iconst (v := 1) rfl (by decide) ?_
    refine r_isub rfl (by omega) (by omega) (fun z6 z6e => ?_)
    refine v_callS rfl (W_X12_in y (0 : Int32) z6 hR hI) rfl rfl rfl rfl rfl (by omega) (fun rv w7 hq8 => ?_)
    obtain ⟨⟨z9, rfl, z9p0⟩, rfl⟩ := hq8
    refine r_if_eq rfl (fun t10 => ?_) (fun t10 => ?_)
    · refine v_iconst (v := 0) rfl (by decide) ?_
      exact r_zret rfl (by omega) ⟨⟨_, rfl, (by omega)⟩, rfl⟩
    · refine v_iconst (v := 1) rfl (by decide) ?_
      refine v_goto rfl ?_
      exact r_zret rfl (by omega) ⟨⟨_, rfl, (by omega)⟩, rfl⟩
set_option maxRecDepth 100000 in
theorem W_X12_cloth_59 {sc : pm_S} {w w0 : pm_W} {gi : Nat → Int32} {ga : Nat → List Int32} (x : Int32) (y : Int32)  (hR : pm_Rg gi ga) (hI : pm_IM gi ga w) (hh : pm_lo w0 w) : pm_Mt sc 2 155 3 [.ref 59, .int x, .int y] w (fun rv w' => pm_wI (fun v => True) rv ∧ pm_IM gi ga w' ∧ pm_lo w0 w') := by
  intro d hd
  obtain ⟨g0a, g0b⟩ := hR.n0
  obtain ⟨g1a, g1b⟩ := hR.n1
  obtain ⟨g2a, g2b⟩ := hR.n2
  obtain ⟨g3a, g3b⟩ := hR.n3
  obtain ⟨g4a, g4b⟩ := hR.n4
  obtain ⟨g5a, g5b⟩ := hR.n5
  obtain ⟨g6a, g6b⟩ := hR.n6
  obtain ⟨g7a, g7b⟩ := hR.n7
  obtain ⟨g8a, g8b⟩ := hR.n8
  have km3 : (-3 : Int32).toInt = -3 := by decide
  have km1 : (-1 : Int32).toInt = -1 := by decide
  have k20 : (20 : Int32).toInt = 20 := by decide
  show pm_V sc d 155 0 [.ref 59, .int x, .int y] [] w _
  refine v_aload_n rfl rfl ?_
  obtain ⟨v2, v3, v4, v5, v6, v7, v8, v9, ⟨v2z, v2e⟩, ⟨⟨v3a, v3b⟩, v3e⟩, ⟨⟨v4a, v4b⟩, v4e⟩, ⟨v6a, v6b⟩, ⟨v9a, v9b⟩, h1⟩ := hI.2.1 59 (by decide) (by decide)
  have v2z := v2z.imp i_eq.mp i_eq.mp
  rw [i_0, i_1] at v2z
  refine v_get rfl h1 rfl ?_
  refine r_if_ne rfl (fun t10 => ?_) (fun t10 => ?_)
  · refine v_aload_n rfl rfl ?_
    refine v_iload_n rfl rfl ?_
    refine v_iload_n rfl rfl ?_
    refine v_callV rfl (W_X12_isCloth_59 x y v2 v3 v4 v5 v6 v7 v8 v9 (by omega) (by omega) (by omega) (by omega) (by omega) (by omega) (by omega) (by omega) (by omega) (by omega) h1 hR hI) rfl rfl h1 rfl rfl (by omega) (fun rv w11 hq12 => ?_)
    obtain ⟨⟨z13, rfl, z13p0⟩, rfl⟩ := hq12
    refine r_if_eq rfl (fun t14 => ?_) (fun t14 => ?_)
    · refine v_aload_n rfl rfl ?_
      refine v_iconst (v := (-1)) rfl (by decide) ?_
      refine v_callV rfl (c_M_refuse (-1 : Int32) (by unfold pm_isR; first | decide | exact Or.inl rfl) hR hI) rfl rfl h1 rfl rfl (by omega) (fun rv w15 hq16 => ?_)
      obtain ⟨rfl, hI17, hh18x⟩ := hq16
      have hI17 : pm_IM gi ga w15 := hI17
      have hh18 := hh.tr hh18x
      exact v_iret rfl ⟨⟨_, rfl, trivial⟩, hI17, hh18⟩
    · refine v_aload_n rfl rfl ?_
      refine v_get rfl h1 rfl ?_
      refine v_bipush (v := 20) rfl (by decide) ?_
      refine v_iload_n rfl rfl ?_
      refine r_imulL 20 rfl rfl (by omega) (by omega) (fun z19 z19e => ?_)
      refine v_iload_n rfl rfl ?_
      refine r_iadd rfl (by omega) (by omega) (fun z20 z20e => ?_)
      obtain ⟨xs22, xs22l, xs22e, h21⟩ := hI.2.1 61 (by decide) (by decide)
      have xs22e : xs22 = (ga 27) := xs22e
      subst xs22e
      refine r_iaload rfl h21 xs22l (by omega) (by omega) (fun z23 z23m z23g => ?_)
      refine v_goto rfl ?_
      exact v_iret rfl ⟨⟨_, rfl, trivial⟩, hI, hh⟩
  · refine v_aload_n rfl rfl ?_
    refine v_bipush (v := (-3)) rfl (by decide) ?_
    refine v_callV rfl (c_M_refuse (-3 : Int32) (by unfold pm_isR; first | decide | exact Or.inl rfl) hR hI) rfl rfl h1 rfl rfl (by omega) (fun rv w24 hq25 => ?_)
    obtain ⟨rfl, hI26, hh27x⟩ := hq25
    have hI26 : pm_IM gi ga w24 := hI26
    have hh27 := hh.tr hh27x
    exact v_iret rfl ⟨⟨_, rfl, trivial⟩, hI26, hh27⟩
set_option maxRecDepth 100000 in
theorem W_X12_isShown_59 {sc : pm_S} {w : pm_W} {gi : Nat → Int32} {ga : Nat → List Int32}   (hR : pm_Rg gi ga) (hI : pm_IM gi ga w) : pm_Mt sc 0 157 4 [.ref 59] w (fun rv w' => pm_wI (fun v => 0 ≤ v.toInt ∧ v.toInt ≤ 1) rv ∧ w = w') := by
  intro d hd
  obtain ⟨g0a, g0b⟩ := hR.n0
  obtain ⟨g1a, g1b⟩ := hR.n1
  obtain ⟨g2a, g2b⟩ := hR.n2
  obtain ⟨g3a, g3b⟩ := hR.n3
  obtain ⟨g4a, g4b⟩ := hR.n4
  obtain ⟨g5a, g5b⟩ := hR.n5
  obtain ⟨g6a, g6b⟩ := hR.n6
  obtain ⟨g7a, g7b⟩ := hR.n7
  obtain ⟨g8a, g8b⟩ := hR.n8
  have k0 : (0 : Int32).toInt = 0 := by decide
  have k1 : (1 : Int32).toInt = 1 := by decide
  have k20 : (20 : Int32).toInt = 20 := by decide
  show pm_V sc d 157 0 [.ref 59, .null, .null, .null] [] w _
  refine v_iconst (v := 1) rfl (by decide) ?_
  refine v_istore_n rfl (Nat.le_of_ble_eq_true rfl) ?_
  refine v_iconst (v := 0) rfl (by decide) ?_
  refine v_istore_n rfl (Nat.le_of_ble_eq_true rfl) ?_
  have L4 : ∀ (n4 : Nat) (l1 : Int32) (l2 : Int32) (u3 : Value), 0 ≤ l1.toInt → l1.toInt ≤ 1 → 0 ≤ l2.toInt → l2.toInt ≤ 20 → (20 - l2.toInt).toNat < n4 → pm_V sc d 157 4 [.ref 59, .int l1, .int l2, u3] [] w (fun rv w' => pm_wI (fun v => 0 ≤ v.toInt ∧ v.toInt ≤ 1) rv ∧ w = w') := by
    intro n4
    induction n4 with
    | zero => intro l1 l2 u3 t6 t7 t8 t9 hm5; exact absurd hm5 (Nat.not_lt_zero _)
    | succ n4 ih4_4 =>
      intro l1 l2 u3 t6 t7 t8 t9 hm5
      refine v_iload_n rfl rfl ?_
      refine v_aload_n rfl rfl ?_
      obtain ⟨v11, v12, v13, v14, v15, v16, v17, v18, ⟨v11z, v11e⟩, ⟨⟨v12a, v12b⟩, v12e⟩, ⟨⟨v13a, v13b⟩, v13e⟩, ⟨v15a, v15b⟩, ⟨v18a, v18b⟩, h10⟩ := hI.2.1 59 (by decide) (by decide)
      have v11z := v11z.imp i_eq.mp i_eq.mp
      rw [i_0, i_1] at v11z
      refine v_get rfl h10 rfl ?_
      refine r_icmp_ge rfl (fun t19 => ?_) (fun t19 => ?_)
      · refine v_iload_n rfl rfl ?_
        exact r_zret rfl (by omega) ⟨⟨_, rfl, (by omega), (by omega)⟩, rfl⟩
      · refine v_iconst (v := 0) rfl (by decide) ?_
        refine v_istore_n rfl (Nat.le_of_ble_eq_true rfl) ?_
        have L22 : ∀ (n22 : Nat) (l20 : Int32) (l21 : Int32), 0 ≤ l20.toInt → l20.toInt ≤ 1 → 0 ≤ l21.toInt → l21.toInt ≤ 20 → (20 - l21.toInt).toNat < n22 → pm_V sc d 157 14 [.ref 59, .int l20, .int l2, .int l21] [] w (fun rv w' => pm_wI (fun v => 0 ≤ v.toInt ∧ v.toInt ≤ 1) rv ∧ w = w') := by
          intro n22
          induction n22 with
          | zero => intro l20 l21 t24 t25 t26 t27 hm23; exact absurd hm23 (Nat.not_lt_zero _)
          | succ n22 ih14_22 =>
            intro l20 l21 t24 t25 t26 t27 hm23
            refine v_iload_n rfl rfl ?_
            refine v_aload_n rfl rfl ?_
            refine v_get rfl h10 rfl ?_
            refine r_icmp_ge rfl (fun t28 => ?_) (fun t28 => ?_)
            · refine r_iinc rfl rfl (by decide) (by omega) (by omega) (fun z29 z29e => ?_)
              refine v_goto rfl ?_
              exact ih4_4 l20 z29 (.int l21) (by omega) (by omega) (by omega) (by omega) (by omega)
            · refine v_iload_n rfl rfl ?_
              refine r_if_eq rfl (fun t30 => ?_) (fun t30 => ?_)
              · refine v_iconst (v := 0) rfl (by decide) ?_
                refine v_istore_n rfl (Nat.le_of_ble_eq_true rfl) ?_
                refine r_iinc rfl rfl (by decide) (by omega) (by omega) (fun z31 z31e => ?_)
                refine v_goto rfl ?_
                exact ih14_22 (0 : Int32) z31 (by omega) (by omega) (by omega) (by omega) (by omega)
              · refine v_aload_n rfl rfl ?_
                refine v_get rfl h10 rfl ?_
                refine v_bipush (v := 20) rfl (by decide) ?_
                refine v_iload_n rfl rfl ?_
                refine r_imulL 20 rfl rfl (by omega) (by omega) (fun z32 z32e => ?_)
                refine v_iload_n rfl rfl ?_
                refine r_iadd rfl (by omega) (by omega) (fun z33 z33e => ?_)
                obtain ⟨xs35, xs35l, h34⟩ := hI.2.1 84 (by decide) (by decide)
                refine r_iaload rfl h34 xs35l (by omega) (by omega) (fun z36 z36m z36g => ?_)
                refine v_aload_n rfl rfl ?_
                refine v_get rfl h10 rfl ?_
                refine v_bipush (v := 20) rfl (by decide) ?_
                refine v_iload_n rfl rfl ?_
                refine r_imulL 20 rfl rfl (by omega) (by omega) (fun z37 z37e => ?_)
                refine v_iload_n rfl rfl ?_
                refine r_iadd rfl (by omega) (by omega) (fun z38 z38e => ?_)
                obtain ⟨xs40, xs40l, xs40e, h39⟩ := hI.2.1 61 (by decide) (by decide)
                have xs40e : xs40 = (ga 27) := xs40e
                subst xs40e
                refine r_iaload rfl h39 xs40l (by omega) (by omega) (fun z41 z41m z41g => ?_)
                refine r_icmp_ne rfl (fun t42 => ?_) (fun t42 => ?_)
                · refine v_iconst (v := 0) rfl (by decide) ?_
                  refine v_istore_n rfl (Nat.le_of_ble_eq_true rfl) ?_
                  refine r_iinc rfl rfl (by decide) (by omega) (by omega) (fun z43 z43e => ?_)
                  refine v_goto rfl ?_
                  exact ih14_22 (0 : Int32) z43 (by omega) (by omega) (by omega) (by omega) (by omega)
                · refine v_iconst (v := 1) rfl (by decide) ?_
                  refine v_goto rfl ?_
                  refine v_istore_n rfl (Nat.le_of_ble_eq_true rfl) ?_
                  refine r_iinc rfl rfl (by decide) (by omega) (by omega) (fun z44 z44e => ?_)
                  refine v_goto rfl ?_
                  exact ih14_22 (1 : Int32) z44 (by omega) (by omega) (by omega) (by omega) (by omega)
        exact L22 _ l1 (0 : Int32) (by omega) (by omega) (by omega) (by omega) (Nat.lt_add_one _)
  exact L4 _ (1 : Int32) (0 : Int32) (.null) (by omega) (by omega) (by omega) (by omega) (Nat.lt_add_one _)
set_option maxRecDepth 100000 in
theorem W_X12_findKind_59 {sc : pm_S} {w w0 : pm_W} {gi : Nat → Int32} {ga : Nat → List Int32}   (hR : pm_Rg gi ga) (hI : pm_IM gi ga w) (hh : pm_lo w0 w) : pm_Mt sc 3 158 3 [.ref 59] w (fun rv w' => pm_wI (fun v => True) rv ∧ pm_IM gi ga w' ∧ pm_lo w0 w') := by
  intro d hd
  obtain ⟨g0a, g0b⟩ := hR.n0
  obtain ⟨g1a, g1b⟩ := hR.n1
  obtain ⟨g2a, g2b⟩ := hR.n2
  obtain ⟨g3a, g3b⟩ := hR.n3
  obtain ⟨g4a, g4b⟩ := hR.n4
  obtain ⟨g5a, g5b⟩ := hR.n5
  obtain ⟨g6a, g6b⟩ := hR.n6
  obtain ⟨g7a, g7b⟩ := hR.n7
  obtain ⟨g8a, g8b⟩ := hR.n8
  have km9 : (-9 : Int32).toInt = -9 := by decide
  have k0 : (0 : Int32).toInt = 0 := by decide
  have k1 : (1 : Int32).toInt = 1 := by decide
  have k2 : (2 : Int32).toInt = 2 := by decide
  have k3 : (3 : Int32).toInt = 3 := by decide
  show pm_V sc d 158 0 [.ref 59, .null, .null] [] w _
  refine v_aload_n rfl rfl ?_
  obtain ⟨v2, v3, v4, v5, v6, v7, v8, v9, ⟨v2z, v2e⟩, ⟨⟨v3a, v3b⟩, v3e⟩, ⟨⟨v4a, v4b⟩, v4e⟩, ⟨v6a, v6b⟩, ⟨v9a, v9b⟩, h1⟩ := hI.2.1 59 (by decide) (by decide)
  have v2z := v2z.imp i_eq.mp i_eq.mp
  rw [i_0, i_1] at v2z
  refine v_callV rfl (W_X12_findCords_59  hR hI hh) rfl rfl h1 rfl rfl (by omega) (fun rv w10 hq11 => ?_)
  obtain ⟨rfl, hI13, hh14⟩ := hq11
  refine v_aload_n rfl rfl ?_
  refine v_bipush (v := (-9)) rfl (by decide) ?_
  obtain ⟨v16, v17, v18, v19, v20, v21, v22, v23, ⟨v16z, v16e⟩, ⟨⟨v17a, v17b⟩, v17e⟩, ⟨⟨v18a, v18b⟩, v18e⟩, ⟨v20a, v20b⟩, ⟨v23a, v23b⟩, h15⟩ := hI13.2.1 59 (by decide) (by decide)
  have v16z := v16z.imp i_eq.mp i_eq.mp
  rw [i_0, i_1] at v16z
  refine v_put rfl h15 rfl (Nat.le_of_ble_eq_true rfl) ?_
  refine r_gen (w' := w10.set 59 (.inr (12, [.int (gi 0), .int (gi 1), .ref 60, .int (gi 2), .int v16, .int v17, .int v18, .ref 61, .ref 62, .ref 63, .int (gi 5), .int (gi 3), .int (gi 4), .int (gi 6), .int v19, .int (gi 7), .ref 64, .ref 65, .ref 66, .ref 67, .int (gi 8), .ref 68, .ref 69, .ref 70, .ref 71, .ref 72, .ref 73, .ref 74, .ref 75, .ref 76, .ref 77, .ref 78, .ref 79, .ref 80, .ref 81, .int v20, .ref 82, .ref 83, .ref 84, .int (-9 : Int32), .int v22, .ref 85, .int v23, .ref 86, .ref 87]))) (fun w24 e25 => ?_)
  have hI26 : pm_IM gi ga w24 := by rw [e25]; exact hI13.set 59 (by decide) (by decide) (by decide) (by decide) ⟨v16, v17, v18, v19, v20, (-9 : Int32), v22, v23, ⟨((show v16.toInt = 0 ∨ v16.toInt = 1 by omega).imp i_eq.mpr i_eq.mpr), v16e⟩, ⟨⟨by omega, by omega⟩, v17e⟩, ⟨⟨by omega, by omega⟩, v18e⟩, ⟨by omega, by omega⟩, ⟨by omega, by omega⟩, rfl⟩
  have hh27 : pm_lo w0 w24 := by rw [e25]; exact hh14.set (by decide) _
  have h28 := r_get_eq e25 h15
  refine v_aload_n rfl rfl ?_
  refine v_bipush (v := (-9)) rfl (by decide) ?_
  refine v_put rfl h28 rfl (Nat.le_of_ble_eq_true rfl) ?_
  refine r_gen (w' := w24.set 59 (.inr (12, [.int (gi 0), .int (gi 1), .ref 60, .int (gi 2), .int v16, .int v17, .int v18, .ref 61, .ref 62, .ref 63, .int (gi 5), .int (gi 3), .int (gi 4), .int (gi 6), .int v19, .int (gi 7), .ref 64, .ref 65, .ref 66, .ref 67, .int (gi 8), .ref 68, .ref 69, .ref 70, .ref 71, .ref 72, .ref 73, .ref 74, .ref 75, .ref 76, .ref 77, .ref 78, .ref 79, .ref 80, .ref 81, .int v20, .ref 82, .ref 83, .ref 84, .int (-9 : Int32), .int (-9 : Int32), .ref 85, .int v23, .ref 86, .ref 87]))) (fun w29 e30 => ?_)
  have hI31 : pm_IM gi ga w29 := by rw [e30]; exact hI26.set 59 (by decide) (by decide) (by decide) (by decide) ⟨v16, v17, v18, v19, v20, (-9 : Int32), (-9 : Int32), v23, ⟨((show v16.toInt = 0 ∨ v16.toInt = 1 by omega).imp i_eq.mpr i_eq.mpr), v16e⟩, ⟨⟨by omega, by omega⟩, v17e⟩, ⟨⟨by omega, by omega⟩, v18e⟩, ⟨by omega, by omega⟩, ⟨by omega, by omega⟩, rfl⟩
  have hh32 : pm_lo w0 w29 := by rw [e30]; exact hh27.set (by decide) _
  have h33 := r_get_eq e30 h28
  refine v_aload_n rfl rfl ?_
  refine v_callV rfl (W_X12_showPlain_59  hR hI31 hh32) rfl rfl h33 rfl rfl (by omega) (fun rv w34 hq35 => ?_)
  obtain ⟨rfl, hI37, hh38⟩ := hq35
  refine v_aload_n rfl rfl ?_
  obtain ⟨v40, v41, v42, v43, v44, v45, v46, v47, ⟨v40z, v40e⟩, ⟨⟨v41a, v41b⟩, v41e⟩, ⟨⟨v42a, v42b⟩, v42e⟩, ⟨v44a, v44b⟩, ⟨v47a, v47b⟩, h39⟩ := hI37.2.1 59 (by decide) (by decide)
  have v40z := v40z.imp i_eq.mp i_eq.mp
  rw [i_0, i_1] at v40z
  refine v_callV rfl (W_X12_isShown_59  hR hI37) rfl rfl h39 rfl rfl (by omega) (fun rv w48 hq49 => ?_)
  obtain ⟨⟨z50, rfl, z50p0, z50p1⟩, rfl⟩ := hq49
  refine r_if_eq rfl (fun t51 => ?_) (fun t51 => ?_)
  · refine v_iconst (v := 0) rfl (by decide) ?_
    refine v_istore_n rfl (Nat.le_of_ble_eq_true rfl) ?_
    have L56 : ∀ (n56 : Nat) (l52 : Int32) (w53 : pm_W), pm_IM gi ga w53 → pm_lo w0 w53 → 0 ≤ l52.toInt → l52.toInt ≤ 20 → (20 - l52.toInt).toNat < n56 → pm_V sc d 158 31 [.ref 59, .int l52, .null] [] w53 (fun rv w' => pm_wI (fun v => True) rv ∧ pm_IM gi ga w' ∧ pm_lo w0 w') := by
      intro n56
      induction n56 with
      | zero => intro l52 w53 hI54 hh55 t58 t59 hm57; exact absurd hm57 (Nat.not_lt_zero _)
      | succ n56 ih31_56 =>
        intro l52 w53 hI54 hh55 t58 t59 hm57
        refine v_iload_n rfl rfl ?_
        refine v_aload_n rfl rfl ?_
        obtain ⟨v61, v62, v63, v64, v65, v66, v67, v68, ⟨v61z, v61e⟩, ⟨⟨v62a, v62b⟩, v62e⟩, ⟨⟨v63a, v63b⟩, v63e⟩, ⟨v65a, v65b⟩, ⟨v68a, v68b⟩, h60⟩ := hI54.2.1 59 (by decide) (by decide)
        have v61z := v61z.imp i_eq.mp i_eq.mp
        rw [i_0, i_1] at v61z
        refine v_get rfl h60 rfl ?_
        refine r_icmp_ge rfl (fun t69 => ?_) (fun t69 => ?_)
        · refine v_iconst (v := 0) rfl (by decide) ?_
          refine v_istore_n rfl (Nat.le_of_ble_eq_true rfl) ?_
          have L74 : ∀ (n74 : Nat) (l70 : Int32) (w71 : pm_W), pm_IM gi ga w71 → pm_lo w0 w71 → 0 ≤ l70.toInt → l70.toInt ≤ 20 → (20 - l70.toInt).toNat < n74 → pm_V sc d 158 70 [.ref 59, .int l70, .null] [] w71 (fun rv w' => pm_wI (fun v => True) rv ∧ pm_IM gi ga w' ∧ pm_lo w0 w') := by
            intro n74
            induction n74 with
            | zero => intro l70 w71 hI72 hh73 t76 t77 hm75; exact absurd hm75 (Nat.not_lt_zero _)
            | succ n74 ih70_74 =>
              intro l70 w71 hI72 hh73 t76 t77 hm75
              refine v_iload_n rfl rfl ?_
              refine v_aload_n rfl rfl ?_
              obtain ⟨v79, v80, v81, v82, v83, v84, v85, v86, ⟨v79z, v79e⟩, ⟨⟨v80a, v80b⟩, v80e⟩, ⟨⟨v81a, v81b⟩, v81e⟩, ⟨v83a, v83b⟩, ⟨v86a, v86b⟩, h78⟩ := hI72.2.1 59 (by decide) (by decide)
              have v79z := v79z.imp i_eq.mp i_eq.mp
              rw [i_0, i_1] at v79z
              refine v_get rfl h78 rfl ?_
              refine r_icmp_ge rfl (fun t87 => ?_) (fun t87 => ?_)
              · refine v_iconst (v := 0) rfl (by decide) ?_
                refine v_istore_n rfl (Nat.le_of_ble_eq_true rfl) ?_
                have L93 : ∀ (n93 : Nat) (l88 : Int32) (u89 : Value) (w90 : pm_W), pm_IM gi ga w90 → pm_lo w0 w90 → 0 ≤ l88.toInt → l88.toInt ≤ 20 → (20 - l88.toInt).toNat < n93 → pm_V sc d 158 109 [.ref 59, .int l88, u89] [] w90 (fun rv w' => pm_wI (fun v => True) rv ∧ pm_IM gi ga w' ∧ pm_lo w0 w') := by
                  intro n93
                  induction n93 with
                  | zero => intro l88 u89 w90 hI91 hh92 t95 t96 hm94; exact absurd hm94 (Nat.not_lt_zero _)
                  | succ n93 ih109_93 =>
                    intro l88 u89 w90 hI91 hh92 t95 t96 hm94
                    refine v_iload_n rfl rfl ?_
                    refine v_aload_n rfl rfl ?_
                    obtain ⟨v98, v99, v100, v101, v102, v103, v104, v105, ⟨v98z, v98e⟩, ⟨⟨v99a, v99b⟩, v99e⟩, ⟨⟨v100a, v100b⟩, v100e⟩, ⟨v102a, v102b⟩, ⟨v105a, v105b⟩, h97⟩ := hI91.2.1 59 (by decide) (by decide)
                    have v98z := v98z.imp i_eq.mp i_eq.mp
                    rw [i_0, i_1] at v98z
                    refine v_get rfl h97 rfl ?_
                    refine r_icmp_ge rfl (fun t106 => ?_) (fun t106 => ?_)
                    · refine v_bipush (v := (-9)) rfl (by decide) ?_
                      exact v_iret rfl ⟨⟨_, rfl, trivial⟩, hI91, hh92⟩
                    · refine v_iload_n rfl rfl ?_
                      refine v_iconst (v := 1) rfl (by decide) ?_
                      refine r_iadd rfl (by omega) (by omega) (fun z107 z107e => ?_)
                      refine v_istore_n rfl (Nat.le_of_ble_eq_true rfl) ?_
                      have L112 : ∀ (n112 : Nat) (l108 : Int32) (w109 : pm_W), pm_IM gi ga w109 → pm_lo w0 w109 → 0 ≤ l108.toInt → l108.toInt ≤ 20 → (20 - l108.toInt).toNat < n112 → pm_V sc d 158 121 [.ref 59, .int l88, .int l108] [] w109 (fun rv w' => pm_wI (fun v => True) rv ∧ pm_IM gi ga w' ∧ pm_lo w0 w') := by
                        intro n112
                        induction n112 with
                        | zero => intro l108 w109 hI110 hh111 t114 t115 hm113; exact absurd hm113 (Nat.not_lt_zero _)
                        | succ n112 ih121_112 =>
                          intro l108 w109 hI110 hh111 t114 t115 hm113
                          refine v_iload_n rfl rfl ?_
                          refine v_aload_n rfl rfl ?_
                          obtain ⟨v117, v118, v119, v120, v121, v122, v123, v124, ⟨v117z, v117e⟩, ⟨⟨v118a, v118b⟩, v118e⟩, ⟨⟨v119a, v119b⟩, v119e⟩, ⟨v121a, v121b⟩, ⟨v124a, v124b⟩, h116⟩ := hI110.2.1 59 (by decide) (by decide)
                          have v117z := v117z.imp i_eq.mp i_eq.mp
                          rw [i_0, i_1] at v117z
                          refine v_get rfl h116 rfl ?_
                          refine r_icmp_ge rfl (fun t125 => ?_) (fun t125 => ?_)
                          · refine r_iinc rfl rfl (by decide) (by omega) (by omega) (fun z126 z126e => ?_)
                            refine v_goto rfl ?_
                            exact ih109_93 z126 (.int l108) w109 hI110 hh111 (by omega) (by omega) (by omega)
                          · refine v_aload_n rfl rfl ?_
                            refine v_callV rfl (W_X12_showPlain_59  hR hI110 hh111) rfl rfl h116 rfl rfl (by omega) (fun rv w127 hq128 => ?_)
                            obtain ⟨rfl, hI130, hh131⟩ := hq128
                            refine v_aload_n rfl rfl ?_
                            refine v_iload_n rfl rfl ?_
                            refine v_iload_n rfl rfl ?_
                            obtain ⟨v133, v134, v135, v136, v137, v138, v139, v140, ⟨v133z, v133e⟩, ⟨⟨v134a, v134b⟩, v134e⟩, ⟨⟨v135a, v135b⟩, v135e⟩, ⟨v137a, v137b⟩, ⟨v140a, v140b⟩, h132⟩ := hI130.2.1 59 (by decide) (by decide)
                            have v133z := v133z.imp i_eq.mp i_eq.mp
                            rw [i_0, i_1] at v133z
                            refine v_callV rfl (W_X12_cross_59 l88 l108 (by omega) (by omega) (by omega) (by omega) hR hI130 hh131) rfl rfl h132 rfl rfl (by omega) (fun rv w141 hq142 => ?_)
                            obtain ⟨rfl, hI144, hh145⟩ := hq142
                            refine v_aload_n rfl rfl ?_
                            obtain ⟨v147, v148, v149, v150, v151, v152, v153, v154, ⟨v147z, v147e⟩, ⟨⟨v148a, v148b⟩, v148e⟩, ⟨⟨v149a, v149b⟩, v149e⟩, ⟨v151a, v151b⟩, ⟨v154a, v154b⟩, h146⟩ := hI144.2.1 59 (by decide) (by decide)
                            have v147z := v147z.imp i_eq.mp i_eq.mp
                            rw [i_0, i_1] at v147z
                            refine v_callV rfl (W_X12_isShown_59  hR hI144) rfl rfl h146 rfl rfl (by omega) (fun rv w155 hq156 => ?_)
                            obtain ⟨⟨z157, rfl, z157p0, z157p1⟩, rfl⟩ := hq156
                            refine r_if_eq rfl (fun t158 => ?_) (fun t158 => ?_)
                            · refine r_iinc rfl rfl (by decide) (by omega) (by omega) (fun z159 z159e => ?_)
                              refine v_goto rfl ?_
                              exact ih121_112 z159 w141 hI144 hh145 (by omega) (by omega) (by omega)
                            · refine v_aload_n rfl rfl ?_
                              refine v_iload_n rfl rfl ?_
                              refine v_put rfl h146 rfl (Nat.le_of_ble_eq_true rfl) ?_
                              refine r_gen (w' := w141.set 59 (.inr (12, [.int (gi 0), .int (gi 1), .ref 60, .int (gi 2), .int v147, .int v148, .int v149, .ref 61, .ref 62, .ref 63, .int (gi 5), .int (gi 3), .int (gi 4), .int (gi 6), .int v150, .int (gi 7), .ref 64, .ref 65, .ref 66, .ref 67, .int (gi 8), .ref 68, .ref 69, .ref 70, .ref 71, .ref 72, .ref 73, .ref 74, .ref 75, .ref 76, .ref 77, .ref 78, .ref 79, .ref 80, .ref 81, .int v151, .ref 82, .ref 83, .ref 84, .int l88, .int v153, .ref 85, .int v154, .ref 86, .ref 87]))) (fun w160 e161 => ?_)
                              have hI162 : pm_IM gi ga w160 := by rw [e161]; exact hI144.set 59 (by decide) (by decide) (by decide) (by decide) ⟨v147, v148, v149, v150, v151, l88, v153, v154, ⟨((show v147.toInt = 0 ∨ v147.toInt = 1 by omega).imp i_eq.mpr i_eq.mpr), v147e⟩, ⟨⟨by omega, by omega⟩, v148e⟩, ⟨⟨by omega, by omega⟩, v149e⟩, ⟨by omega, by omega⟩, ⟨by omega, by omega⟩, rfl⟩
                              have hh163 : pm_lo w0 w160 := by rw [e161]; exact hh145.set (by decide) _
                              have h164 := r_get_eq e161 h146
                              refine v_aload_n rfl rfl ?_
                              refine v_iload_n rfl rfl ?_
                              refine v_put rfl h164 rfl (Nat.le_of_ble_eq_true rfl) ?_
                              refine r_gen (w' := w160.set 59 (.inr (12, [.int (gi 0), .int (gi 1), .ref 60, .int (gi 2), .int v147, .int v148, .int v149, .ref 61, .ref 62, .ref 63, .int (gi 5), .int (gi 3), .int (gi 4), .int (gi 6), .int v150, .int (gi 7), .ref 64, .ref 65, .ref 66, .ref 67, .int (gi 8), .ref 68, .ref 69, .ref 70, .ref 71, .ref 72, .ref 73, .ref 74, .ref 75, .ref 76, .ref 77, .ref 78, .ref 79, .ref 80, .ref 81, .int v151, .ref 82, .ref 83, .ref 84, .int l88, .int l108, .ref 85, .int v154, .ref 86, .ref 87]))) (fun w165 e166 => ?_)
                              have hI167 : pm_IM gi ga w165 := by rw [e166]; exact hI162.set 59 (by decide) (by decide) (by decide) (by decide) ⟨v147, v148, v149, v150, v151, l88, l108, v154, ⟨((show v147.toInt = 0 ∨ v147.toInt = 1 by omega).imp i_eq.mpr i_eq.mpr), v147e⟩, ⟨⟨by omega, by omega⟩, v148e⟩, ⟨⟨by omega, by omega⟩, v149e⟩, ⟨by omega, by omega⟩, ⟨by omega, by omega⟩, rfl⟩
                              have hh168 : pm_lo w0 w165 := by rw [e166]; exact hh163.set (by decide) _
                              have h169 := r_get_eq e166 h164
                              refine v_iconst (v := 3) rfl (by decide) ?_
                              exact v_iret rfl ⟨⟨_, rfl, trivial⟩, hI167, hh168⟩
                      exact L112 _ z107 w90 hI91 hh92 (by omega) (by omega) (Nat.lt_add_one _)
                exact L93 _ (0 : Int32) (.null) w71 hI72 hh73 (by omega) (by omega) (Nat.lt_add_one _)
              · refine v_aload_n rfl rfl ?_
                refine v_callV rfl (W_X12_showPlain_59  hR hI72 hh73) rfl rfl h78 rfl rfl (by omega) (fun rv w170 hq171 => ?_)
                obtain ⟨rfl, hI173, hh174⟩ := hq171
                refine v_aload_n rfl rfl ?_
                refine v_iload_n rfl rfl ?_
                obtain ⟨v176, v177, v178, v179, v180, v181, v182, v183, ⟨v176z, v176e⟩, ⟨⟨v177a, v177b⟩, v177e⟩, ⟨⟨v178a, v178b⟩, v178e⟩, ⟨v180a, v180b⟩, ⟨v183a, v183b⟩, h175⟩ := hI173.2.1 59 (by decide) (by decide)
                have v176z := v176z.imp i_eq.mp i_eq.mp
                rw [i_0, i_1] at v176z
                refine v_callV rfl (W_X12_skip_59 l70 (by omega) (by omega) hR hI173 hh174) rfl rfl h175 rfl rfl (by omega) (fun rv w184 hq185 => ?_)
                obtain ⟨rfl, hI187, hh188⟩ := hq185
                refine v_aload_n rfl rfl ?_
                obtain ⟨v190, v191, v192, v193, v194, v195, v196, v197, ⟨v190z, v190e⟩, ⟨⟨v191a, v191b⟩, v191e⟩, ⟨⟨v192a, v192b⟩, v192e⟩, ⟨v194a, v194b⟩, ⟨v197a, v197b⟩, h189⟩ := hI187.2.1 59 (by decide) (by decide)
                have v190z := v190z.imp i_eq.mp i_eq.mp
                rw [i_0, i_1] at v190z
                refine v_callV rfl (W_X12_isShown_59  hR hI187) rfl rfl h189 rfl rfl (by omega) (fun rv w198 hq199 => ?_)
                obtain ⟨⟨z200, rfl, z200p0, z200p1⟩, rfl⟩ := hq199
                refine r_if_eq rfl (fun t201 => ?_) (fun t201 => ?_)
                · refine r_iinc rfl rfl (by decide) (by omega) (by omega) (fun z202 z202e => ?_)
                  refine v_goto rfl ?_
                  exact ih70_74 z202 w184 hI187 hh188 (by omega) (by omega) (by omega)
                · refine v_aload_n rfl rfl ?_
                  refine v_iload_n rfl rfl ?_
                  refine v_put rfl h189 rfl (Nat.le_of_ble_eq_true rfl) ?_
                  refine r_gen (w' := w184.set 59 (.inr (12, [.int (gi 0), .int (gi 1), .ref 60, .int (gi 2), .int v190, .int v191, .int v192, .ref 61, .ref 62, .ref 63, .int (gi 5), .int (gi 3), .int (gi 4), .int (gi 6), .int v193, .int (gi 7), .ref 64, .ref 65, .ref 66, .ref 67, .int (gi 8), .ref 68, .ref 69, .ref 70, .ref 71, .ref 72, .ref 73, .ref 74, .ref 75, .ref 76, .ref 77, .ref 78, .ref 79, .ref 80, .ref 81, .int v194, .ref 82, .ref 83, .ref 84, .int l70, .int v196, .ref 85, .int v197, .ref 86, .ref 87]))) (fun w203 e204 => ?_)
                  have hI205 : pm_IM gi ga w203 := by rw [e204]; exact hI187.set 59 (by decide) (by decide) (by decide) (by decide) ⟨v190, v191, v192, v193, v194, l70, v196, v197, ⟨((show v190.toInt = 0 ∨ v190.toInt = 1 by omega).imp i_eq.mpr i_eq.mpr), v190e⟩, ⟨⟨by omega, by omega⟩, v191e⟩, ⟨⟨by omega, by omega⟩, v192e⟩, ⟨by omega, by omega⟩, ⟨by omega, by omega⟩, rfl⟩
                  have hh206 : pm_lo w0 w203 := by rw [e204]; exact hh188.set (by decide) _
                  have h207 := r_get_eq e204 h189
                  refine v_iconst (v := 2) rfl (by decide) ?_
                  exact v_iret rfl ⟨⟨_, rfl, trivial⟩, hI205, hh206⟩
          exact L74 _ (0 : Int32) w53 hI54 hh55 (by omega) (by omega) (Nat.lt_add_one _)
        · refine v_aload_n rfl rfl ?_
          refine v_callV rfl (W_X12_showPlain_59  hR hI54 hh55) rfl rfl h60 rfl rfl (by omega) (fun rv w208 hq209 => ?_)
          obtain ⟨rfl, hI211, hh212⟩ := hq209
          refine v_aload_n rfl rfl ?_
          refine v_iload_n rfl rfl ?_
          obtain ⟨v214, v215, v216, v217, v218, v219, v220, v221, ⟨v214z, v214e⟩, ⟨⟨v215a, v215b⟩, v215e⟩, ⟨⟨v216a, v216b⟩, v216e⟩, ⟨v218a, v218b⟩, ⟨v221a, v221b⟩, h213⟩ := hI211.2.1 59 (by decide) (by decide)
          have v214z := v214z.imp i_eq.mp i_eq.mp
          rw [i_0, i_1] at v214z
          refine v_callV rfl (W_X12_breakCord_59 l52 hR hI211 hh212) rfl rfl h213 rfl rfl (by omega) (fun rv w222 hq223 => ?_)
          obtain ⟨rfl, hI225, hh226⟩ := hq223
          refine v_aload_n rfl rfl ?_
          obtain ⟨v228, v229, v230, v231, v232, v233, v234, v235, ⟨v228z, v228e⟩, ⟨⟨v229a, v229b⟩, v229e⟩, ⟨⟨v230a, v230b⟩, v230e⟩, ⟨v232a, v232b⟩, ⟨v235a, v235b⟩, h227⟩ := hI225.2.1 59 (by decide) (by decide)
          have v228z := v228z.imp i_eq.mp i_eq.mp
          rw [i_0, i_1] at v228z
          refine v_callV rfl (W_X12_isShown_59  hR hI225) rfl rfl h227 rfl rfl (by omega) (fun rv w236 hq237 => ?_)
          obtain ⟨⟨z238, rfl, z238p0, z238p1⟩, rfl⟩ := hq237
          refine r_if_eq rfl (fun t239 => ?_) (fun t239 => ?_)
          · refine r_iinc rfl rfl (by decide) (by omega) (by omega) (fun z240 z240e => ?_)
            refine v_goto rfl ?_
            exact ih31_56 z240 w222 hI225 hh226 (by omega) (by omega) (by omega)
          · refine v_aload_n rfl rfl ?_
            refine v_iload_n rfl rfl ?_
            refine v_put rfl h227 rfl (Nat.le_of_ble_eq_true rfl) ?_
            refine r_gen (w' := w222.set 59 (.inr (12, [.int (gi 0), .int (gi 1), .ref 60, .int (gi 2), .int v228, .int v229, .int v230, .ref 61, .ref 62, .ref 63, .int (gi 5), .int (gi 3), .int (gi 4), .int (gi 6), .int v231, .int (gi 7), .ref 64, .ref 65, .ref 66, .ref 67, .int (gi 8), .ref 68, .ref 69, .ref 70, .ref 71, .ref 72, .ref 73, .ref 74, .ref 75, .ref 76, .ref 77, .ref 78, .ref 79, .ref 80, .ref 81, .int v232, .ref 82, .ref 83, .ref 84, .int l52, .int v234, .ref 85, .int v235, .ref 86, .ref 87]))) (fun w241 e242 => ?_)
            have hI243 : pm_IM gi ga w241 := by rw [e242]; exact hI225.set 59 (by decide) (by decide) (by decide) (by decide) ⟨v228, v229, v230, v231, v232, l52, v234, v235, ⟨((show v228.toInt = 0 ∨ v228.toInt = 1 by omega).imp i_eq.mpr i_eq.mpr), v228e⟩, ⟨⟨by omega, by omega⟩, v229e⟩, ⟨⟨by omega, by omega⟩, v230e⟩, ⟨by omega, by omega⟩, ⟨by omega, by omega⟩, rfl⟩
            have hh244 : pm_lo w0 w241 := by rw [e242]; exact hh226.set (by decide) _
            have h245 := r_get_eq e242 h227
            refine v_iconst (v := 1) rfl (by decide) ?_
            exact v_iret rfl ⟨⟨_, rfl, trivial⟩, hI243, hh244⟩
    exact L56 _ (0 : Int32) w34 hI37 hh38 (by omega) (by omega) (Nat.lt_add_one _)
  · refine v_iconst (v := 0) rfl (by decide) ?_
    exact v_iret rfl ⟨⟨_, rfl, trivial⟩, hI37, hh38⟩
set_option maxRecDepth 100000 in
theorem W_X12_explained_59 {sc : pm_S} {w w0 : pm_W} {gi : Nat → Int32} {ga : Nat → List Int32} (k : Int32)  (hR : pm_Rg gi ga) (hI : pm_IM gi ga w) (hh : pm_lo w0 w) : pm_Mt sc 4 159 3 [.ref 59, .int k] w (fun rv w' => pm_wI (fun v => True) rv ∧ pm_IM gi ga w' ∧ pm_lo w0 w') := by
  intro d hd
  obtain ⟨g0a, g0b⟩ := hR.n0
  obtain ⟨g1a, g1b⟩ := hR.n1
  obtain ⟨g2a, g2b⟩ := hR.n2
  obtain ⟨g3a, g3b⟩ := hR.n3
  obtain ⟨g4a, g4b⟩ := hR.n4
  obtain ⟨g5a, g5b⟩ := hR.n5
  obtain ⟨g6a, g6b⟩ := hR.n6
  obtain ⟨g7a, g7b⟩ := hR.n7
  obtain ⟨g8a, g8b⟩ := hR.n8
  have km3 : (-3 : Int32).toInt = -3 := by decide
  have km2 : (-2 : Int32).toInt = -2 := by decide
  have k0 : (0 : Int32).toInt = 0 := by decide
  have k1 : (1 : Int32).toInt = 1 := by decide
  have k2 : (2 : Int32).toInt = 2 := by decide
  show pm_V sc d 159 0 [.ref 59, .int k, .null] [] w _
  refine v_iload_n rfl rfl ?_
  refine v_iconst (v := 0) rfl (by decide) ?_
  refine v_iconst (v := 2) rfl (by decide) ?_
  refine v_callS rfl (W_X12_in k (0 : Int32) (2 : Int32) hR hI) rfl rfl rfl rfl rfl (by omega) (fun rv w1 hq2 => ?_)
  obtain ⟨⟨z3, rfl, z3p0⟩, rfl⟩ := hq2
  refine r_if_ne rfl (fun t4 => ?_) (fun t4 => ?_)
  · refine v_aload_n rfl rfl ?_
    obtain ⟨v6, v7, v8, v9, v10, v11, v12, v13, ⟨v6z, v6e⟩, ⟨⟨v7a, v7b⟩, v7e⟩, ⟨⟨v8a, v8b⟩, v8e⟩, ⟨v10a, v10b⟩, ⟨v13a, v13b⟩, h5⟩ := hI.2.1 59 (by decide) (by decide)
    have v6z := v6z.imp i_eq.mp i_eq.mp
    rw [i_0, i_1] at v6z
    refine v_get rfl h5 rfl ?_
    refine r_if_eq rfl (fun t14 => ?_) (fun t14 => ?_)
    · refine v_aload_n rfl rfl ?_
      refine v_bipush (v := (-3)) rfl (by decide) ?_
      refine v_callV rfl (c_M_refuse (-3 : Int32) (by unfold pm_isR; first | decide | exact Or.inl rfl) hR hI) rfl rfl h5 rfl rfl (by omega) (fun rv w15 hq16 => ?_)
      obtain ⟨rfl, hI17, hh18x⟩ := hq16
      have hI17 : pm_IM gi ga w15 := hI17
      have hh18 := hh.tr hh18x
      exact v_iret rfl ⟨⟨_, rfl, trivial⟩, hI17, hh18⟩
    · refine v_aload_n rfl rfl ?_
      refine v_get rfl h5 rfl ?_
      refine v_aload_n rfl rfl ?_
      refine v_get rfl h5 rfl ?_
      refine r_icmp_ne rfl (fun t19 => ?_) (fun t19 => ?_)
      · refine v_aload_n rfl rfl ?_
        refine v_bipush (v := (-3)) rfl (by decide) ?_
        refine v_callV rfl (c_M_refuse (-3 : Int32) (by unfold pm_isR; first | decide | exact Or.inl rfl) hR hI) rfl rfl h5 rfl rfl (by omega) (fun rv w20 hq21 => ?_)
        obtain ⟨rfl, hI22, hh23x⟩ := hq21
        have hI22 : pm_IM gi ga w20 := hI22
        have hh23 := hh.tr hh23x
        exact v_iret rfl ⟨⟨_, rfl, trivial⟩, hI22, hh23⟩
      · refine v_aload_n rfl rfl ?_
        refine v_get rfl h5 rfl ?_
        refine v_aload_n rfl rfl ?_
        refine v_get rfl h5 rfl ?_
        refine r_icmp_eq rfl (fun t24 => ?_) (fun t24 => ?_)
        · refine v_aload_n rfl rfl ?_
          refine v_callV rfl (W_X12_findKind_59  hR hI hh) rfl rfl h5 rfl rfl (by omega) (fun rv w25 hq26 => ?_)
          obtain ⟨⟨z27, rfl, -⟩, hI28, hh29⟩ := hq26
          refine v_istore_n rfl (Nat.le_of_ble_eq_true rfl) ?_
          refine v_iload_n rfl rfl ?_
          refine r_if_ne rfl (fun t30 => ?_) (fun t30 => ?_)
          · refine v_iload_n rfl rfl ?_
            refine v_iconst (v := 1) rfl (by decide) ?_
            refine r_icmp_ne rfl (fun t31 => ?_) (fun t31 => ?_)
            · refine v_aload_n rfl rfl ?_
              obtain ⟨v33, v34, v35, v36, v37, v38, v39, v40, ⟨v33z, v33e⟩, ⟨⟨v34a, v34b⟩, v34e⟩, ⟨⟨v35a, v35b⟩, v35e⟩, ⟨v37a, v37b⟩, ⟨v40a, v40b⟩, h32⟩ := hI28.2.1 59 (by decide) (by decide)
              have v33z := v33z.imp i_eq.mp i_eq.mp
              rw [i_0, i_1] at v33z
              refine v_get rfl h32 rfl ?_
              exact v_iret rfl ⟨⟨_, rfl, trivial⟩, hI28, hh29⟩
            · refine v_aload_n rfl rfl ?_
              obtain ⟨v42, v43, v44, v45, v46, v47, v48, v49, ⟨v42z, v42e⟩, ⟨⟨v43a, v43b⟩, v43e⟩, ⟨⟨v44a, v44b⟩, v44e⟩, ⟨v46a, v46b⟩, ⟨v49a, v49b⟩, h41⟩ := hI28.2.1 59 (by decide) (by decide)
              have v42z := v42z.imp i_eq.mp i_eq.mp
              rw [i_0, i_1] at v42z
              refine v_get rfl h41 rfl ?_
              refine v_goto rfl ?_
              exact v_iret rfl ⟨⟨_, rfl, trivial⟩, hI28, hh29⟩
          · refine v_iload_n rfl rfl ?_
            refine v_goto rfl ?_
            exact v_iret rfl ⟨⟨_, rfl, trivial⟩, hI28, hh29⟩
        · refine v_aload_n rfl rfl ?_
          refine v_bipush (v := (-3)) rfl (by decide) ?_
          refine v_callV rfl (c_M_refuse (-3 : Int32) (by unfold pm_isR; first | decide | exact Or.inl rfl) hR hI) rfl rfl h5 rfl rfl (by omega) (fun rv w50 hq51 => ?_)
          obtain ⟨rfl, hI52, hh53x⟩ := hq51
          have hI52 : pm_IM gi ga w50 := hI52
          have hh53 := hh.tr hh53x
          exact v_iret rfl ⟨⟨_, rfl, trivial⟩, hI52, hh53⟩
  · refine v_aload_n rfl rfl ?_
    refine v_bipush (v := (-2)) rfl (by decide) ?_
    obtain ⟨v55, v56, v57, v58, v59, v60, v61, v62, ⟨v55z, v55e⟩, ⟨⟨v56a, v56b⟩, v56e⟩, ⟨⟨v57a, v57b⟩, v57e⟩, ⟨v59a, v59b⟩, ⟨v62a, v62b⟩, h54⟩ := hI.2.1 59 (by decide) (by decide)
    have v55z := v55z.imp i_eq.mp i_eq.mp
    rw [i_0, i_1] at v55z
    refine v_callV rfl (c_M_refuse (-2 : Int32) (by unfold pm_isR; first | decide | exact Or.inl rfl) hR hI) rfl rfl h54 rfl rfl (by omega) (fun rv w63 hq64 => ?_)
    obtain ⟨rfl, hI65, hh66x⟩ := hq64
    have hI65 : pm_IM gi ga w63 := hI65
    have hh66 := hh.tr hh66x
    exact v_iret rfl ⟨⟨_, rfl, trivial⟩, hI65, hh66⟩
set_option maxRecDepth 100000 in
theorem W_X12_count_59 {sc : pm_S} {w w0 : pm_W} {gi : Nat → Int32} {ga : Nat → List Int32} (k : Int32)  (hR : pm_Rg gi ga) (hI : pm_IM gi ga w) (hh : pm_lo w0 w) : pm_Mt sc 1 183 4 [.ref 59, .int k] w (fun rv w' => pm_wI (fun v => True) rv ∧ pm_IM gi ga w' ∧ pm_lo w0 w') := by
  intro d hd
  obtain ⟨g0a, g0b⟩ := hR.n0
  obtain ⟨g1a, g1b⟩ := hR.n1
  obtain ⟨g2a, g2b⟩ := hR.n2
  obtain ⟨g3a, g3b⟩ := hR.n3
  obtain ⟨g4a, g4b⟩ := hR.n4
  obtain ⟨g5a, g5b⟩ := hR.n5
  obtain ⟨g6a, g6b⟩ := hR.n6
  obtain ⟨g7a, g7b⟩ := hR.n7
  obtain ⟨g8a, g8b⟩ := hR.n8
  have km9 : (-9 : Int32).toInt = -9 := by decide
  have k0 : (0 : Int32).toInt = 0 := by decide
  have k1 : (1 : Int32).toInt = 1 := by decide
  have k10 : (10 : Int32).toInt = 10 := by decide
  have k11 : (11 : Int32).toInt = 11 := by decide
  have k16 : (16 : Int32).toInt = 16 := by decide
  show pm_V sc d 183 0 [.ref 59, .int k, .null, .null] [] w _
  refine v_iconst (v := 0) rfl (by decide) ?_
  refine v_istore_n rfl (Nat.le_of_ble_eq_true rfl) ?_
  refine v_iload_n rfl rfl ?_
  by_cases t1 : k.toInt = 0
  · refine v_tabIn (t := 52) rfl (by omega) (by omega) (by rw [t1]; rfl) rfl ?_
    refine v_aload_n rfl rfl ?_
    obtain ⟨v3, v4, v5, v6, v7, v8, v9, v10, ⟨v3z, v3e⟩, ⟨⟨v4a, v4b⟩, v4e⟩, ⟨⟨v5a, v5b⟩, v5e⟩, ⟨v7a, v7b⟩, ⟨v10a, v10b⟩, h2⟩ := hI.2.1 59 (by decide) (by decide)
    have v3z := v3z.imp i_eq.mp i_eq.mp
    rw [i_0, i_1] at v3z
    refine v_get rfl h2 rfl ?_
    exact v_iret rfl ⟨⟨_, rfl, trivial⟩, hI, hh⟩
  by_cases t11 : k.toInt = 1
  · refine v_tabIn (t := 57) rfl (by omega) (by omega) (by rw [t11]; rfl) rfl ?_
    refine v_aload_n rfl rfl ?_
    obtain ⟨v13, v14, v15, v16, v17, v18, v19, v20, ⟨v13z, v13e⟩, ⟨⟨v14a, v14b⟩, v14e⟩, ⟨⟨v15a, v15b⟩, v15e⟩, ⟨v17a, v17b⟩, ⟨v20a, v20b⟩, h12⟩ := hI.2.1 59 (by decide) (by decide)
    have v13z := v13z.imp i_eq.mp i_eq.mp
    rw [i_0, i_1] at v13z
    refine v_get rfl h12 rfl ?_
    exact v_iret rfl ⟨⟨_, rfl, trivial⟩, hI, hh⟩
  by_cases t21 : k.toInt = 2
  · refine v_tabIn (t := 62) rfl (by omega) (by omega) (by rw [t21]; rfl) rfl ?_
    refine v_aload_n rfl rfl ?_
    obtain ⟨v23, v24, v25, v26, v27, v28, v29, v30, ⟨v23z, v23e⟩, ⟨⟨v24a, v24b⟩, v24e⟩, ⟨⟨v25a, v25b⟩, v25e⟩, ⟨v27a, v27b⟩, ⟨v30a, v30b⟩, h22⟩ := hI.2.1 59 (by decide) (by decide)
    have v23z := v23z.imp i_eq.mp i_eq.mp
    rw [i_0, i_1] at v23z
    refine v_get rfl h22 rfl ?_
    exact v_iret rfl ⟨⟨_, rfl, trivial⟩, hI, hh⟩
  by_cases t31 : k.toInt = 3
  · refine v_tabIn (t := 67) rfl (by omega) (by omega) (by rw [t31]; rfl) rfl ?_
    refine v_aload_n rfl rfl ?_
    obtain ⟨v33, v34, v35, v36, v37, v38, v39, v40, ⟨v33z, v33e⟩, ⟨⟨v34a, v34b⟩, v34e⟩, ⟨⟨v35a, v35b⟩, v35e⟩, ⟨v37a, v37b⟩, ⟨v40a, v40b⟩, h32⟩ := hI.2.1 59 (by decide) (by decide)
    have v33z := v33z.imp i_eq.mp i_eq.mp
    rw [i_0, i_1] at v33z
    refine v_get rfl h32 rfl ?_
    exact v_iret rfl ⟨⟨_, rfl, trivial⟩, hI, hh⟩
  by_cases t41 : k.toInt = 4
  · refine v_tabIn (t := 72) rfl (by omega) (by omega) (by rw [t41]; rfl) rfl ?_
    refine v_iconst (v := 0) rfl (by decide) ?_
    refine v_istore_n rfl (Nat.le_of_ble_eq_true rfl) ?_
    have L44 : ∀ (n44 : Nat) (l42 : Int32) (l43 : Int32), 0 ≤ l43.toInt → l43.toInt ≤ 12 → (12 - l43.toInt).toNat < n44 → pm_V sc d 183 74 [.ref 59, .int k, .int l42, .int l43] [] w (fun rv w' => pm_wI (fun v => True) rv ∧ pm_IM gi ga w' ∧ pm_lo w0 w') := by
      intro n44
      induction n44 with
      | zero => intro l42 l43 t46 t47 hm45; exact absurd hm45 (Nat.not_lt_zero _)
      | succ n44 ih74_44 =>
        intro l42 l43 t46 t47 hm45
        refine v_iload_n rfl rfl ?_
        refine v_aload_n rfl rfl ?_
        obtain ⟨v49, v50, v51, v52, v53, v54, v55, v56, ⟨v49z, v49e⟩, ⟨⟨v50a, v50b⟩, v50e⟩, ⟨⟨v51a, v51b⟩, v51e⟩, ⟨v53a, v53b⟩, ⟨v56a, v56b⟩, h48⟩ := hI.2.1 59 (by decide) (by decide)
        have v49z := v49z.imp i_eq.mp i_eq.mp
        rw [i_0, i_1] at v49z
        refine v_get rfl h48 rfl ?_
        refine r_icmp_ge rfl (fun t57 => ?_) (fun t57 => ?_)
        · refine v_iload_n rfl rfl ?_
          exact v_iret rfl ⟨⟨_, rfl, trivial⟩, hI, hh⟩
        · refine v_iload_n rfl rfl ?_
          refine v_aload_n rfl rfl ?_
          refine v_get rfl h48 rfl ?_
          refine v_iload_n rfl rfl ?_
          have h58 : _ = some _ := hI.2.1 67 (by decide) (by decide)
          refine r_iaload rfl h58 hR.l3 (by omega) (by omega) (fun z59 z59m z59g => ?_)
          obtain ⟨z59a, z59b⟩ := hR.r3 z59 z59m
          refine r_if_ge rfl (fun t60 => ?_) (fun t60 => ?_)
          · refine v_iconst (v := 0) rfl (by decide) ?_
            refine u_iadd rfl (fun z61 => ?_)
            refine v_istore_n rfl (Nat.le_of_ble_eq_true rfl) ?_
            refine r_iinc rfl rfl (by decide) (by omega) (by omega) (fun z62 z62e => ?_)
            refine v_goto rfl ?_
            exact ih74_44 z61 z62 (by omega) (by omega) (by omega)
          · refine v_iconst (v := 1) rfl (by decide) ?_
            refine v_goto rfl ?_
            refine u_iadd rfl (fun z63 => ?_)
            refine v_istore_n rfl (Nat.le_of_ble_eq_true rfl) ?_
            refine r_iinc rfl rfl (by decide) (by omega) (by omega) (fun z64 z64e => ?_)
            refine v_goto rfl ?_
            exact ih74_44 z63 z64 (by omega) (by omega) (by omega)
    exact L44 _ (0 : Int32) (0 : Int32) (by omega) (by omega) (Nat.lt_add_one _)
  by_cases t65 : k.toInt = 5
  · refine v_tabIn (t := 107) rfl (by omega) (by omega) (by rw [t65]; rfl) rfl ?_
    refine v_aload_n rfl rfl ?_
    obtain ⟨v67, v68, v69, v70, v71, v72, v73, v74, ⟨v67z, v67e⟩, ⟨⟨v68a, v68b⟩, v68e⟩, ⟨⟨v69a, v69b⟩, v69e⟩, ⟨v71a, v71b⟩, ⟨v74a, v74b⟩, h66⟩ := hI.2.1 59 (by decide) (by decide)
    have v67z := v67z.imp i_eq.mp i_eq.mp
    rw [i_0, i_1] at v67z
    refine v_get rfl h66 rfl ?_
    exact v_iret rfl ⟨⟨_, rfl, trivial⟩, hI, hh⟩
  by_cases t75 : k.toInt = 6
  · refine v_tabIn (t := 112) rfl (by omega) (by omega) (by rw [t75]; rfl) rfl ?_
    refine v_aload_n rfl rfl ?_
    obtain ⟨v77, v78, v79, v80, v81, v82, v83, v84, ⟨v77z, v77e⟩, ⟨⟨v78a, v78b⟩, v78e⟩, ⟨⟨v79a, v79b⟩, v79e⟩, ⟨v81a, v81b⟩, ⟨v84a, v84b⟩, h76⟩ := hI.2.1 59 (by decide) (by decide)
    have v77z := v77z.imp i_eq.mp i_eq.mp
    rw [i_0, i_1] at v77z
    refine v_get rfl h76 rfl ?_
    exact v_iret rfl ⟨⟨_, rfl, trivial⟩, hI, hh⟩
  by_cases t85 : k.toInt = 7
  · refine v_tabIn (t := 117) rfl (by omega) (by omega) (by rw [t85]; rfl) rfl ?_
    refine v_aload_n rfl rfl ?_
    obtain ⟨v87, v88, v89, v90, v91, v92, v93, v94, ⟨v87z, v87e⟩, ⟨⟨v88a, v88b⟩, v88e⟩, ⟨⟨v89a, v89b⟩, v89e⟩, ⟨v91a, v91b⟩, ⟨v94a, v94b⟩, h86⟩ := hI.2.1 59 (by decide) (by decide)
    have v87z := v87z.imp i_eq.mp i_eq.mp
    rw [i_0, i_1] at v87z
    refine v_get rfl h86 rfl ?_
    exact v_iret rfl ⟨⟨_, rfl, trivial⟩, hI, hh⟩
  by_cases t95 : k.toInt = 8
  · refine v_tabIn (t := 122) rfl (by omega) (by omega) (by rw [t95]; rfl) rfl ?_
    refine v_aload_n rfl rfl ?_
    obtain ⟨v97, v98, v99, v100, v101, v102, v103, v104, ⟨v97z, v97e⟩, ⟨⟨v98a, v98b⟩, v98e⟩, ⟨⟨v99a, v99b⟩, v99e⟩, ⟨v101a, v101b⟩, ⟨v104a, v104b⟩, h96⟩ := hI.2.1 59 (by decide) (by decide)
    have v97z := v97z.imp i_eq.mp i_eq.mp
    rw [i_0, i_1] at v97z
    refine v_callV rfl (W_X12_faultMany_59  hR hI) rfl rfl h96 rfl rfl (by omega) (fun rv w105 hq106 => ?_)
    obtain ⟨⟨z107, rfl, -⟩, rfl⟩ := hq106
    exact v_iret rfl ⟨⟨_, rfl, trivial⟩, hI, hh⟩
  refine v_tabOut (t := 127) rfl (by omega) rfl ?_
  refine v_iload_n rfl rfl ?_
  refine v_bipush (v := 11) rfl (by decide) ?_
  refine v_bipush (v := 16) rfl (by decide) ?_
  refine v_callS rfl (W_X12_in k (11 : Int32) (16 : Int32) hR hI) rfl rfl rfl rfl rfl (by omega) (fun rv w108 hq109 => ?_)
  obtain ⟨⟨z110, rfl, z110p0⟩, rfl⟩ := hq109
  refine r_if_eq rfl (fun t111 => ?_) (fun t111 => ?_)
  · refine v_bipush (v := (-9)) rfl (by decide) ?_
    exact v_iret rfl ⟨⟨_, rfl, trivial⟩, hI, hh⟩
  · refine v_aload_n rfl rfl ?_
    obtain ⟨v113, v114, v115, v116, v117, v118, v119, v120, ⟨v113z, v113e⟩, ⟨⟨v114a, v114b⟩, v114e⟩, ⟨⟨v115a, v115b⟩, v115e⟩, ⟨v117a, v117b⟩, ⟨v120a, v120b⟩, h112⟩ := hI.2.1 59 (by decide) (by decide)
    have v113z := v113z.imp i_eq.mp i_eq.mp
    rw [i_0, i_1] at v113z
    refine v_get rfl h112 rfl ?_
    refine v_iload_n rfl rfl ?_
    refine v_bipush (v := 10) rfl (by decide) ?_
    refine r_isub rfl (by omega) (by omega) (fun z121 z121e => ?_)
    obtain ⟨xs123, xs123l, h122⟩ := hI.2.1 79 (by decide) (by decide)
    refine r_iaload rfl h122 xs123l (by omega) (by omega) (fun z124 z124m z124g => ?_)
    refine v_goto rfl ?_
    exact v_iret rfl ⟨⟨_, rfl, trivial⟩, hI, hh⟩

