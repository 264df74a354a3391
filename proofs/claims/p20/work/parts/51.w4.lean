set_option maxRecDepth 100000 in
theorem W_X5_tell_21 {sc : pm_S} {w w0 : pm_W} {gi : Nat → Int32} {ga : Nat → List Int32} (k : Int32) (a : Int32) (b : Int32) (p0 : k.toInt ≤ 3) (p1 : 1 ≤ k.toInt) (hR : pm_Rg gi ga) (hI : pm_IX gi ga w) (hh : pm_hi w0 w) : pm_Mt sc 0 24 4 [.ref 21, .int k, .int a, .int b] w (fun rv w' => rv = none ∧ pm_IX gi ga w' ∧ pm_hi w0 w') := by
  intro d hd
  obtain ⟨g0a, g0b⟩ := hR.n0
  obtain ⟨g1a, g1b⟩ := hR.n1
  obtain ⟨g2a, g2b⟩ := hR.n2
  obtain ⟨g3a, g3b⟩ := hR.n3
  obtain ⟨g4a, g4b⟩ := hR.n4
  obtain ⟨g5a, g5b⟩ := hR.n5
  obtain ⟨g6a, g6b⟩ := hR.n6
  obtain ⟨g7a, g7b⟩ := hR.n7
  obtain ⟨g8a, g8b⟩ := hR.n8
  have k1 : (1 : Int32).toInt = 1 := by decide
  show pm_V sc d 24 0 [.ref 21, .int k, .int a, .int b] [] w _
  refine v_aload_n rfl rfl ?_
  have h1 : _ = some _ := hI.2 21 (by decide)
  refine v_get rfl h1 rfl ?_
  refine v_iload_n rfl rfl ?_
  refine v_iconst (v := 1) rfl (by decide) ?_
  obtain ⟨xs3, xs3l, xs3r, h2⟩ := hI.2 22 (by decide)
  refine r_bastore rfl h2 xs3l (by omega) (by omega) (by omega) (fun ys4 ys4l ys4m ys4g => ?_)
  have ys4r := r_rng ys4m xs3r (by omega) (by omega)
  refine r_gen (w' := w.set 22 (.inl (1, .inl ys4))) (fun w5 e6 => ?_)
  have hI7 : pm_IX gi ga w5 := by rw [e6]; exact hI.set 22 (by decide) ⟨ys4, ys4l, ys4r, rfl⟩
  have hh8 : pm_hi w0 w5 := by rw [e6]; exact hh.set (by decide) _
  have h9 := r_get_ne e6 (show 22 ≠ 21 by decide) h1
  have h10 := r_get_eq e6 h2
  refine v_aload_n rfl rfl ?_
  refine v_get rfl h9 rfl ?_
  refine v_iload_n rfl rfl ?_
  refine v_iload_n rfl rfl ?_
  obtain ⟨xs12, xs12l, h11⟩ := hI7.2 23 (by decide)
  refine r_iastore rfl h11 xs12l (by omega) (by omega) (fun ys13 ys13l ys13m ys13g => ?_)
  refine r_gen (w' := w5.set 23 (.inl (0, .inl ys13))) (fun w14 e15 => ?_)
  have hI16 : pm_IX gi ga w14 := by rw [e15]; exact hI7.set 23 (by decide) ⟨ys13, ys13l, rfl⟩
  have hh17 : pm_hi w0 w14 := by rw [e15]; exact hh8.set (by decide) _
  have h18 := r_get_ne e15 (show 23 ≠ 21 by decide) h9
  have h19 := r_get_ne e15 (show 23 ≠ 22 by decide) h10
  have h20 := r_get_eq e15 h11
  refine v_aload_n rfl rfl ?_
  refine v_get rfl h18 rfl ?_
  refine v_iload_n rfl rfl ?_
  refine v_iload_n rfl rfl ?_
  obtain ⟨xs22, xs22l, h21⟩ := hI16.2 24 (by decide)
  refine r_iastore rfl h21 xs22l (by omega) (by omega) (fun ys23 ys23l ys23m ys23g => ?_)
  refine r_gen (w' := w14.set 24 (.inl (0, .inl ys23))) (fun w24 e25 => ?_)
  have hI26 : pm_IX gi ga w24 := by rw [e25]; exact hI16.set 24 (by decide) ⟨ys23, ys23l, rfl⟩
  have hh27 : pm_hi w0 w24 := by rw [e25]; exact hh17.set (by decide) _
  have h28 := r_get_ne e25 (show 24 ≠ 21 by decide) h18
  have h29 := r_get_ne e25 (show 24 ≠ 22 by decide) h19
  have h30 := r_get_ne e25 (show 24 ≠ 23 by decide) h20
  have h31 := r_get_eq e25 h21
  exact v_ret rfl ⟨rfl, hI26, hh27⟩
set_option maxRecDepth 100000 in
theorem W_X5_forget_21 {sc : pm_S} {w w0 : pm_W} {gi : Nat → Int32} {ga : Nat → List Int32}   (hR : pm_Rg gi ga) (hI : pm_IX gi ga w) (hh : pm_hi w0 w) : pm_Mt sc 0 25 2 [.ref 21] w (fun rv w' => rv = none ∧ pm_IX gi ga w' ∧ pm_hi w0 w') := by
  intro d hd
  obtain ⟨g0a, g0b⟩ := hR.n0
  obtain ⟨g1a, g1b⟩ := hR.n1
  obtain ⟨g2a, g2b⟩ := hR.n2
  obtain ⟨g3a, g3b⟩ := hR.n3
  obtain ⟨g4a, g4b⟩ := hR.n4
  obtain ⟨g5a, g5b⟩ := hR.n5
  obtain ⟨g6a, g6b⟩ := hR.n6
  obtain ⟨g7a, g7b⟩ := hR.n7
  obtain ⟨g8a, g8b⟩ := hR.n8
  have k0 : (0 : Int32).toInt = 0 := by decide
  have k1 : (1 : Int32).toInt = 1 := by decide
  have k3 : (3 : Int32).toInt = 3 := by decide
  show pm_V sc d 25 0 [.ref 21, .null] [] w _
  refine v_iconst (v := 1) rfl (by decide) ?_
  refine v_istore_n rfl (Nat.le_of_ble_eq_true rfl) ?_
  have L5 : ∀ (n5 : Nat) (l1 : Int32) (w2 : pm_W), pm_IX gi ga w2 → pm_hi w0 w2 → 1 ≤ l1.toInt → l1.toInt ≤ 4 → (4 - l1.toInt).toNat < n5 → pm_V sc d 25 2 [.ref 21, .int l1] [] w2 (fun rv w' => rv = none ∧ pm_IX gi ga w' ∧ pm_hi w0 w') := by
    intro n5
    induction n5 with
    | zero => intro l1 w2 hI3 hh4 t7 t8 hm6; exact absurd hm6 (Nat.not_lt_zero _)
    | succ n5 ih2_5 =>
      intro l1 w2 hI3 hh4 t7 t8 hm6
      refine v_iload_n rfl rfl ?_
      refine v_iconst (v := 3) rfl (by decide) ?_
      refine r_icmp_gt rfl (fun t9 => ?_) (fun t9 => ?_)
      · exact v_ret rfl ⟨rfl, hI3, hh4⟩
      · refine v_aload_n rfl rfl ?_
        have h10 : _ = some _ := hI3.2 21 (by decide)
        refine v_get rfl h10 rfl ?_
        refine v_iload_n rfl rfl ?_
        refine v_iconst (v := 0) rfl (by decide) ?_
        obtain ⟨xs12, xs12l, xs12r, h11⟩ := hI3.2 22 (by decide)
        refine r_bastore rfl h11 xs12l (by omega) (by omega) (by omega) (fun ys13 ys13l ys13m ys13g => ?_)
        have ys13r := r_rng ys13m xs12r (by omega) (by omega)
        refine r_gen (w' := w2.set 22 (.inl (1, .inl ys13))) (fun w14 e15 => ?_)
        have hI16 : pm_IX gi ga w14 := by rw [e15]; exact hI3.set 22 (by decide) ⟨ys13, ys13l, ys13r, rfl⟩
        have hh17 : pm_hi w0 w14 := by rw [e15]; exact hh4.set (by decide) _
        have h18 := r_get_ne e15 (show 22 ≠ 21 by decide) h10
        have h19 := r_get_eq e15 h11
        refine r_iinc rfl rfl (by decide) (by omega) (by omega) (fun z20 z20e => ?_)
        refine v_goto rfl ?_
        exact ih2_5 z20 w14 hI16 hh17 (by omega) (by omega) (by omega)
  exact L5 _ (1 : Int32) w hI hh (by omega) (by omega) (Nat.lt_add_one _)
set_option maxRecDepth 100000 in
theorem W_X5_columnShown_21_5 {sc : pm_S} {w : pm_W} {gi : Nat → Int32} {ga : Nat → List Int32} (x : Int32) (p0 : x.toInt ≤ 19) (p1 : 0 ≤ x.toInt) (hR : pm_Rg gi ga) (hI : pm_IX gi ga w) : pm_Mt sc 1 27 6 [.ref 21, .int x, .ref 5] w (fun rv w' => pm_wI (fun v => -9 ≤ v.toInt ∧ v.toInt ≤ 19) rv ∧ w = w') := by
  intro d hd
  obtain ⟨g0a, g0b⟩ := hR.n0
  obtain ⟨g1a, g1b⟩ := hR.n1
  obtain ⟨g2a, g2b⟩ := hR.n2
  obtain ⟨g3a, g3b⟩ := hR.n3
  obtain ⟨g4a, g4b⟩ := hR.n4
  obtain ⟨g5a, g5b⟩ := hR.n5
  obtain ⟨g6a, g6b⟩ := hR.n6
  obtain ⟨g7a, g7b⟩ := hR.n7
  obtain ⟨g8a, g8b⟩ := hR.n8
  have km9 : (-9 : Int32).toInt = -9 := by decide
  have k1 : (1 : Int32).toInt = 1 := by decide
  have k3 : (3 : Int32).toInt = 3 := by decide
  show pm_V sc d 27 0 [.ref 21, .int x, .ref 5, .null, .null, .null] [] w _
  refine v_aload_n rfl rfl ?_
  obtain ⟨v2, ⟨v2a, v2b⟩, h1⟩ := hI.2 5 (by decide)
  refine v_get rfl h1 rfl ?_
  refine v_iload_n rfl rfl ?_
  obtain ⟨xs4, xs4l, xs4r, h3⟩ := hI.2 8 (by decide)
  refine r_iaload rfl h3 xs4l (by omega) (by omega) (fun z5 z5m z5g => ?_)
  obtain ⟨z5a, z5b⟩ := xs4r z5 z5m
  refine v_istore_n rfl (Nat.le_of_ble_eq_true rfl) ?_
  refine v_aload_n rfl rfl ?_
  have h6 : _ = some _ := hI.2 21 (by decide)
  refine v_get rfl h6 rfl ?_
  refine v_iconst (v := 1) rfl (by decide) ?_
  obtain ⟨xs8, xs8l, xs8r, h7⟩ := hI.2 22 (by decide)
  refine r_baload rfl h7 xs8l (by omega) (by omega) (fun z9 z9m z9g => ?_)
  have z9t : z9.toInt = (xs8.getD 1 0).toInt := congrArg Int32.toInt z9g
  obtain ⟨z9a, z9b⟩ := xs8r z9 z9m
  refine r_if_eq rfl (fun t10 => ?_) (fun t10 => ?_)
  · refine v_aload_n rfl rfl ?_
    refine v_get rfl h6 rfl ?_
    refine v_iconst (v := 3) rfl (by decide) ?_
    obtain ⟨xs12, xs12l, h11⟩ := hI.2 23 (by decide)
    refine r_iaload rfl h11 xs12l (by omega) (by omega) (fun z13 z13m z13g => ?_)
    have z13t : z13.toInt = (xs12.getD 3 0).toInt := congrArg Int32.toInt z13g
    refine v_istore rfl (Nat.le_of_ble_eq_true rfl) ?_
    refine v_aload_n rfl rfl ?_
    refine v_get rfl h6 rfl ?_
    refine v_iconst (v := 3) rfl (by decide) ?_
    obtain ⟨xs15, xs15l, h14⟩ := hI.2 24 (by decide)
    refine r_iaload rfl h14 xs15l (by omega) (by omega) (fun z16 z16m z16g => ?_)
    have z16t : z16.toInt = (xs15.getD 3 0).toInt := congrArg Int32.toInt z16g
    refine v_istore rfl (Nat.le_of_ble_eq_true rfl) ?_
    refine v_aload_n rfl rfl ?_
    refine v_get rfl h6 rfl ?_
    refine v_iconst (v := 3) rfl (by decide) ?_
    refine r_baload rfl h7 xs8l (by omega) (by omega) (fun z17 z17m z17g => ?_)
    have z17t : z17.toInt = (xs8.getD 3 0).toInt := congrArg Int32.toInt z17g
    obtain ⟨z17a, z17b⟩ := xs8r z17 z17m
    refine r_if_eq rfl (fun t18 => ?_) (fun t18 => ?_)
    · refine v_iload_n rfl rfl ?_
      exact v_iret rfl ⟨⟨_, rfl, (by omega), (by omega)⟩, rfl⟩
    · refine v_iload rfl rfl ?_
      refine v_aload_n rfl rfl ?_
      refine v_get rfl h1 rfl ?_
      refine v_callS rfl (W_X11_isPlace z13 v2 hR hI) rfl rfl rfl rfl rfl (by omega) (fun rv w19 hq20 => ?_)
      obtain ⟨⟨z21, rfl, z21p0⟩, rfl⟩ := hq20
      refine r_if_eq rfl (fun t22 => ?_) (fun t22 => ?_)
      · refine v_iload_n rfl rfl ?_
        exact v_iret rfl ⟨⟨_, rfl, (by omega), (by omega)⟩, rfl⟩
      · refine v_iload rfl rfl ?_
        refine v_aload_n rfl rfl ?_
        refine v_get rfl h1 rfl ?_
        refine v_callS rfl (W_X11_isPlace z16 v2 hR hI) rfl rfl rfl rfl rfl (by omega) (fun rv w23 hq24 => ?_)
        obtain ⟨⟨z25, rfl, z25p0⟩, rfl⟩ := hq24
        refine r_if_ne rfl (fun t26 => ?_) (fun t26 => ?_)
        · refine v_iload_n rfl rfl ?_
          refine v_iload rfl rfl ?_
          refine r_icmp_ne rfl (fun t27 => ?_) (fun t27 => ?_)
          · refine v_iload_n rfl rfl ?_
            refine v_iload rfl rfl ?_
            refine r_icmp_ne rfl (fun t28 => ?_) (fun t28 => ?_)
            · refine v_iload_n rfl rfl ?_
              exact v_iret rfl ⟨⟨_, rfl, (by omega), (by omega)⟩, rfl⟩
            · refine v_aload_n rfl rfl ?_
              refine v_get rfl h1 rfl ?_
              refine v_iload rfl rfl ?_
              obtain ⟨xs30, xs30l, xs30r, h29⟩ := hI.2 9 (by decide)
              refine r_iaload rfl h29 xs30l (by omega) (by omega) (fun z31 z31m z31g => ?_)
              obtain ⟨z31a, z31b⟩ := xs30r z31 z31m
              refine v_goto rfl ?_
              exact v_iret rfl ⟨⟨_, rfl, (by omega), (by omega)⟩, rfl⟩
          · refine v_aload_n rfl rfl ?_
            refine v_get rfl h1 rfl ?_
            refine v_iload rfl rfl ?_
            obtain ⟨xs33, xs33l, xs33r, h32⟩ := hI.2 9 (by decide)
            refine r_iaload rfl h32 xs33l (by omega) (by omega) (fun z34 z34m z34g => ?_)
            obtain ⟨z34a, z34b⟩ := xs33r z34 z34m
            exact v_iret rfl ⟨⟨_, rfl, (by omega), (by omega)⟩, rfl⟩
        · refine v_iload_n rfl rfl ?_
          exact v_iret rfl ⟨⟨_, rfl, (by omega), (by omega)⟩, rfl⟩
  · refine v_aload_n rfl rfl ?_
    refine v_get rfl h6 rfl ?_
    refine v_iconst (v := 1) rfl (by decide) ?_
    obtain ⟨xs36, xs36l, h35⟩ := hI.2 23 (by decide)
    refine r_iaload rfl h35 xs36l (by omega) (by omega) (fun z37 z37m z37g => ?_)
    have z37t : z37.toInt = (xs36.getD 1 0).toInt := congrArg Int32.toInt z37g
    refine v_iload_n rfl rfl ?_
    refine r_icmp_ne rfl (fun t38 => ?_) (fun t38 => ?_)
    · refine v_aload_n rfl rfl ?_
      refine v_get rfl h6 rfl ?_
      refine v_iconst (v := 3) rfl (by decide) ?_
      refine r_iaload rfl h35 xs36l (by omega) (by omega) (fun z39 z39m z39g => ?_)
      have z39t : z39.toInt = (xs36.getD 3 0).toInt := congrArg Int32.toInt z39g
      refine v_istore rfl (Nat.le_of_ble_eq_true rfl) ?_
      refine v_aload_n rfl rfl ?_
      refine v_get rfl h6 rfl ?_
      refine v_iconst (v := 3) rfl (by decide) ?_
      obtain ⟨xs41, xs41l, h40⟩ := hI.2 24 (by decide)
      refine r_iaload rfl h40 xs41l (by omega) (by omega) (fun z42 z42m z42g => ?_)
      have z42t : z42.toInt = (xs41.getD 3 0).toInt := congrArg Int32.toInt z42g
      refine v_istore rfl (Nat.le_of_ble_eq_true rfl) ?_
      refine v_aload_n rfl rfl ?_
      refine v_get rfl h6 rfl ?_
      refine v_iconst (v := 3) rfl (by decide) ?_
      refine r_baload rfl h7 xs8l (by omega) (by omega) (fun z43 z43m z43g => ?_)
      have z43t : z43.toInt = (xs8.getD 3 0).toInt := congrArg Int32.toInt z43g
      obtain ⟨z43a, z43b⟩ := xs8r z43 z43m
      refine r_if_eq rfl (fun t44 => ?_) (fun t44 => ?_)
      · refine v_iload_n rfl rfl ?_
        exact v_iret rfl ⟨⟨_, rfl, (by omega), (by omega)⟩, rfl⟩
      · refine v_iload rfl rfl ?_
        refine v_aload_n rfl rfl ?_
        refine v_get rfl h1 rfl ?_
        refine v_callS rfl (W_X11_isPlace z39 v2 hR hI) rfl rfl rfl rfl rfl (by omega) (fun rv w45 hq46 => ?_)
        obtain ⟨⟨z47, rfl, z47p0⟩, rfl⟩ := hq46
        refine r_if_eq rfl (fun t48 => ?_) (fun t48 => ?_)
        · refine v_iload_n rfl rfl ?_
          exact v_iret rfl ⟨⟨_, rfl, (by omega), (by omega)⟩, rfl⟩
        · refine v_iload rfl rfl ?_
          refine v_aload_n rfl rfl ?_
          refine v_get rfl h1 rfl ?_
          refine v_callS rfl (W_X11_isPlace z42 v2 hR hI) rfl rfl rfl rfl rfl (by omega) (fun rv w49 hq50 => ?_)
          obtain ⟨⟨z51, rfl, z51p0⟩, rfl⟩ := hq50
          refine r_if_ne rfl (fun t52 => ?_) (fun t52 => ?_)
          · refine v_iload_n rfl rfl ?_
            refine v_iload rfl rfl ?_
            refine r_icmp_ne rfl (fun t53 => ?_) (fun t53 => ?_)
            · refine v_iload_n rfl rfl ?_
              refine v_iload rfl rfl ?_
              refine r_icmp_ne rfl (fun t54 => ?_) (fun t54 => ?_)
              · refine v_iload_n rfl rfl ?_
                exact v_iret rfl ⟨⟨_, rfl, (by omega), (by omega)⟩, rfl⟩
              · refine v_aload_n rfl rfl ?_
                refine v_get rfl h1 rfl ?_
                refine v_iload rfl rfl ?_
                obtain ⟨xs56, xs56l, xs56r, h55⟩ := hI.2 9 (by decide)
                refine r_iaload rfl h55 xs56l (by omega) (by omega) (fun z57 z57m z57g => ?_)
                obtain ⟨z57a, z57b⟩ := xs56r z57 z57m
                refine v_goto rfl ?_
                exact v_iret rfl ⟨⟨_, rfl, (by omega), (by omega)⟩, rfl⟩
            · refine v_aload_n rfl rfl ?_
              refine v_get rfl h1 rfl ?_
              refine v_iload rfl rfl ?_
              obtain ⟨xs59, xs59l, xs59r, h58⟩ := hI.2 9 (by decide)
              refine r_iaload rfl h58 xs59l (by omega) (by omega) (fun z60 z60m z60g => ?_)
              obtain ⟨z60a, z60b⟩ := xs59r z60 z60m
              exact v_iret rfl ⟨⟨_, rfl, (by omega), (by omega)⟩, rfl⟩
          · refine v_iload_n rfl rfl ?_
            exact v_iret rfl ⟨⟨_, rfl, (by omega), (by omega)⟩, rfl⟩
    · refine v_bipush (v := (-9)) rfl (by decide) ?_
      exact v_iret rfl ⟨⟨_, rfl, (by omega), (by omega)⟩, rfl⟩
set_option maxRecDepth 100000 in
theorem W_X5_pickShown_21 {sc : pm_S} {w : pm_W} {gi : Nat → Int32} {ga : Nat → List Int32} (y : Int32) (h : Int32) (p0 : h.toInt ≤ 20) (p1 : 1 ≤ h.toInt) (p2 : y.toInt ≤ 19) (p3 : 0 ≤ y.toInt) (p4 : y.toInt < h.toInt) (hR : pm_Rg gi ga) (hI : pm_IX gi ga w) : pm_Mt sc 0 28 4 [.ref 21, .int y, .int h] w (fun rv w' => pm_wI (fun v => -9 ≤ v.toInt ∧ v.toInt < h.toInt) rv ∧ w = w') := by
  intro d hd
  obtain ⟨g0a, g0b⟩ := hR.n0
  obtain ⟨g1a, g1b⟩ := hR.n1
  obtain ⟨g2a, g2b⟩ := hR.n2
  obtain ⟨g3a, g3b⟩ := hR.n3
  obtain ⟨g4a, g4b⟩ := hR.n4
  obtain ⟨g5a, g5b⟩ := hR.n5
  obtain ⟨g6a, g6b⟩ := hR.n6
  obtain ⟨g7a, g7b⟩ := hR.n7
  obtain ⟨g8a, g8b⟩ := hR.n8
  have km9 : (-9 : Int32).toInt = -9 := by decide
  have k1 : (1 : Int32).toInt = 1 := by decide
  have k2 : (2 : Int32).toInt = 2 := by decide
  show pm_V sc d 28 0 [.ref 21, .int y, .int h, .null] [] w _
  refine v_aload_n rfl rfl ?_
  have h1 : _ = some _ := hI.2 21 (by decide)
  refine v_get rfl h1 rfl ?_
  refine v_iconst (v := 2) rfl (by decide) ?_
  obtain ⟨xs3, xs3l, h2⟩ := hI.2 23 (by decide)
  refine r_iaload rfl h2 xs3l (by omega) (by omega) (fun z4 z4m z4g => ?_)
  have z4t : z4.toInt = (xs3.getD 2 0).toInt := congrArg Int32.toInt z4g
  refine v_istore_n rfl (Nat.le_of_ble_eq_true rfl) ?_
  refine v_aload_n rfl rfl ?_
  refine v_get rfl h1 rfl ?_
  refine v_iconst (v := 2) rfl (by decide) ?_
  obtain ⟨xs6, xs6l, xs6r, h5⟩ := hI.2 22 (by decide)
  refine r_baload rfl h5 xs6l (by omega) (by omega) (fun z7 z7m z7g => ?_)
  have z7t : z7.toInt = (xs6.getD 2 0).toInt := congrArg Int32.toInt z7g
  obtain ⟨z7a, z7b⟩ := xs6r z7 z7m
  refine r_if_eq rfl (fun t8 => ?_) (fun t8 => ?_)
  · refine v_iload_n rfl rfl ?_
    exact v_iret rfl ⟨⟨_, rfl, (by omega), (by omega)⟩, rfl⟩
  · refine v_iload_n rfl rfl ?_
    refine v_iload_n rfl rfl ?_
    refine r_icmp_ge rfl (fun t9 => ?_) (fun t9 => ?_)
    · refine v_iload_n rfl rfl ?_
      exact v_iret rfl ⟨⟨_, rfl, (by omega), (by omega)⟩, rfl⟩
    · refine v_iload_n rfl rfl ?_
      refine v_iload_n rfl rfl ?_
      refine r_icmp_ge rfl (fun t10 => ?_) (fun t10 => ?_)
      · refine v_iload_n rfl rfl ?_
        refine v_iconst (v := 1) rfl (by decide) ?_
        refine r_iadd rfl (by omega) (by omega) (fun z11 z11e => ?_)
        refine v_iload_n rfl rfl ?_
        refine r_icmp_ge rfl (fun t12 => ?_) (fun t12 => ?_)
        · refine v_bipush (v := (-9)) rfl (by decide) ?_
          exact v_iret rfl ⟨⟨_, rfl, (by omega), (by omega)⟩, rfl⟩
        · refine v_iload_n rfl rfl ?_
          refine v_iconst (v := 1) rfl (by decide) ?_
          refine r_iadd rfl (by omega) (by omega) (fun z13 z13e => ?_)
          refine v_goto rfl ?_
          exact v_iret rfl ⟨⟨_, rfl, (by omega), (by omega)⟩, rfl⟩
      · refine v_iload_n rfl rfl ?_
        exact v_iret rfl ⟨⟨_, rfl, (by omega), (by omega)⟩, rfl⟩
set_option maxRecDepth 100000 in
theorem W_X5_howMany_16 {sc : pm_S} {w : pm_W} {gi : Nat → Int32} {ga : Nat → List Int32}   (hR : pm_Rg gi ga) (hI : pm_IX gi ga w) : pm_Mt sc 0 26 3 [.ref 16] w (fun rv w' => pm_wI (fun v => True) rv ∧ w = w') := by
  intro d hd
  obtain ⟨g0a, g0b⟩ := hR.n0
  obtain ⟨g1a, g1b⟩ := hR.n1
  obtain ⟨g2a, g2b⟩ := hR.n2
  obtain ⟨g3a, g3b⟩ := hR.n3
  obtain ⟨g4a, g4b⟩ := hR.n4
  obtain ⟨g5a, g5b⟩ := hR.n5
  obtain ⟨g6a, g6b⟩ := hR.n6
  obtain ⟨g7a, g7b⟩ := hR.n7
  obtain ⟨g8a, g8b⟩ := hR.n8
  have k0 : (0 : Int32).toInt = 0 := by decide
  have k1 : (1 : Int32).toInt = 1 := by decide
  have k3 : (3 : Int32).toInt = 3 := by decide
  show pm_V sc d 26 0 [.ref 16, .null, .null] [] w _
  refine v_iconst (v := 0) rfl (by decide) ?_
  refine v_istore_n rfl (Nat.le_of_ble_eq_true rfl) ?_
  refine v_iconst (v := 1) rfl (by decide) ?_
  refine v_istore_n rfl (Nat.le_of_ble_eq_true rfl) ?_
  have L3 : ∀ (n3 : Nat) (l1 : Int32) (l2 : Int32), 1 ≤ l2.toInt → l2.toInt ≤ 4 → (4 - l2.toInt).toNat < n3 → pm_V sc d 26 4 [.ref 16, .int l1, .int l2] [] w (fun rv w' => pm_wI (fun v => True) rv ∧ w = w') := by
    intro n3
    induction n3 with
    | zero => intro l1 l2 t5 t6 hm4; exact absurd hm4 (Nat.not_lt_zero _)
    | succ n3 ih4_3 =>
      intro l1 l2 t5 t6 hm4
      refine v_iload_n rfl rfl ?_
      refine v_iconst (v := 3) rfl (by decide) ?_
      refine r_icmp_gt rfl (fun t7 => ?_) (fun t7 => ?_)
      · refine v_iload_n rfl rfl ?_
        exact v_iret rfl ⟨⟨_, rfl, trivial⟩, rfl⟩
      · refine v_aload_n rfl rfl ?_
        have h8 : _ = some _ := hI.2 16 (by decide)
        refine v_get rfl h8 rfl ?_
        refine v_iload_n rfl rfl ?_
        obtain ⟨xs10, xs10l, xs10r, xs10e, h9⟩ := hI.2 17 (by decide)
        have xs10e : xs10 = (ga 21) := xs10e
        subst xs10e
        refine r_baload rfl h9 xs10l (by omega) (by omega) (fun z11 z11m z11g => ?_)
        obtain ⟨z11a, z11b⟩ := xs10r z11 z11m
        refine r_if_eq rfl (fun t12 => ?_) (fun t12 => ?_)
        · refine r_iinc rfl rfl (by decide) (by omega) (by omega) (fun z13 z13e => ?_)
          refine v_goto rfl ?_
          exact ih4_3 l1 z13 (by omega) (by omega) (by omega)
        · refine u_iinc rfl rfl (fun z14 => ?_)
          refine r_iinc rfl rfl (by decide) (by omega) (by omega) (fun z15 z15e => ?_)
          refine v_goto rfl ?_
          exact ih4_3 z14 z15 (by omega) (by omega) (by omega)
  exact L3 _ (0 : Int32) (1 : Int32) (by omega) (by omega) (Nat.lt_add_one _)
set_option maxRecDepth 100000 in
theorem W_X10_isAsLargeAs_14_1 {sc : pm_S} {w : pm_W} {gi : Nat → Int32} {ga : Nat → List Int32}   (hR : pm_Rg gi ga) (hI : pm_IX gi ga w) : pm_Mt sc 0 67 2 [.ref 14, .ref 1] w (fun rv w' => pm_wI (fun v => True) rv ∧ w = w') := by
  intro d hd
  obtain ⟨g0a, g0b⟩ := hR.n0
  obtain ⟨g1a, g1b⟩ := hR.n1
  obtain ⟨g2a, g2b⟩ := hR.n2
  obtain ⟨g3a, g3b⟩ := hR.n3
  obtain ⟨g4a, g4b⟩ := hR.n4
  obtain ⟨g5a, g5b⟩ := hR.n5
  obtain ⟨g6a, g6b⟩ := hR.n6
  obtain ⟨g7a, g7b⟩ := hR.n7
  obtain ⟨g8a, g8b⟩ := hR.n8
  have k0 : (0 : Int32).toInt = 0 := by decide
  have k1 : (1 : Int32).toInt = 1 := by decide
  show pm_V sc d 67 0 [.ref 14, .ref 1] [] w _
  refine v_aload_n rfl rfl ?_
  obtain ⟨v2, v3, ⟨⟨v2a, v2b⟩, v2e⟩, ⟨⟨v3a, v3b⟩, v3e⟩, h1⟩ := hI.2 14 (by decide)
  refine v_get rfl h1 rfl ?_
  refine v_aload_n rfl rfl ?_
  have h4 : _ = some _ := hI.2 1 (by decide)
  refine v_get rfl h4 rfl ?_
  refine r_icmp_ne rfl (fun t5 => ?_) (fun t5 => ?_)
  · refine v_iconst (v := 0) rfl (by decide) ?_
    exact r_zret rfl (by omega) ⟨⟨_, rfl, trivial⟩, rfl⟩
  · refine v_aload_n rfl rfl ?_
    refine v_get rfl h1 rfl ?_
    refine v_aload_n rfl rfl ?_
    refine v_get rfl h4 rfl ?_
    refine r_icmp_ne rfl (fun t6 => ?_) (fun t6 => ?_)
    · refine v_iconst (v := 0) rfl (by decide) ?_
      exact r_zret rfl (by omega) ⟨⟨_, rfl, trivial⟩, rfl⟩
    · refine v_iconst (v := 1) rfl (by decide) ?_
      refine v_goto rfl ?_
      exact r_zret rfl (by omega) ⟨⟨_, rfl, trivial⟩, rfl⟩
set_option maxRecDepth 100000 in
theorem W_X11_cloth_0 {sc : pm_S} {w w0 : pm_W} {gi : Nat → Int32} {ga : Nat → List Int32} (x : Int32) (y : Int32)  (hR : pm_Rg gi ga) (hI : pm_IX gi ga w) (hh : pm_hi w0 w) : pm_Mt sc 2 88 3 [.ref 0, .int x, .int y] w (fun rv w' => pm_wI (fun v => True) rv ∧ pm_IX gi ga w' ∧ pm_hi w0 w') := by
  intro d hd
  obtain ⟨g0a, g0b⟩ := hR.n0
  obtain ⟨g1a, g1b⟩ := hR.n1
  obtain ⟨g2a, g2b⟩ := hR.n2
  obtain ⟨g3a, g3b⟩ := hR.n3
  obtain ⟨g4a, g4b⟩ := hR.n4
  obtain ⟨g5a, g5b⟩ := hR.n5
  obtain ⟨g6a, g6b⟩ := hR.n6
  obtain ⟨g7a, g7b⟩ := hR.n7
  obtain ⟨g8a, g8b⟩ := hR.n8
  have km3 : (-3 : Int32).toInt = -3 := by decide
  have km1 : (-1 : Int32).toInt = -1 := by decide
  show pm_V sc d 88 0 [.ref 0, .int x, .int y] [] w _
  refine v_aload_n rfl rfl ?_
  obtain ⟨v2, ⟨v2z, v2e⟩, h1⟩ := hI.2 0 (by decide)
  have v2z := v2z.imp i_eq.mp i_eq.mp
  rw [i_0, i_1] at v2z
  refine v_get rfl h1 rfl ?_
  refine r_if_ne rfl (fun t3 => ?_) (fun t3 => ?_)
  · refine v_aload_n rfl rfl ?_
    refine v_get rfl h1 rfl ?_
    refine v_iload_n rfl rfl ?_
    refine v_iload_n rfl rfl ?_
    obtain ⟨v5, v6, ⟨⟨v5a, v5b⟩, v5e⟩, ⟨⟨v6a, v6b⟩, v6e⟩, h4⟩ := hI.2 14 (by decide)
    refine v_callV rfl (W_X10_has_14 x y v5 v6 (by omega) (by omega) (by omega) (by omega) h4 hR hI) rfl rfl h4 rfl rfl (by omega) (fun rv w7 hq8 => ?_)
    obtain ⟨⟨z9, rfl, z9p0⟩, rfl⟩ := hq8
    refine r_if_ne rfl (fun t10 => ?_) (fun t10 => ?_)
    · refine v_aload_n rfl rfl ?_
      refine v_get rfl h1 rfl ?_
      refine v_iload_n rfl rfl ?_
      refine v_iload_n rfl rfl ?_
      refine v_callV rfl (W_X10_colourAt_14 x y (by omega) (by omega) hR hI) rfl rfl h4 rfl rfl (by omega) (fun rv w11 hq12 => ?_)
      obtain ⟨⟨z13, rfl, -⟩, rfl⟩ := hq12
      exact v_iret rfl ⟨⟨_, rfl, trivial⟩, hI, hh⟩
    · refine v_aload_n rfl rfl ?_
      refine v_iconst (v := (-1)) rfl (by decide) ?_
      refine v_callV rfl (c_X_refuse (-1 : Int32) (by unfold pm_isR; first | decide | exact Or.inl rfl) hR hI) rfl rfl h1 rfl rfl (by omega) (fun rv w14 hq15 => ?_)
      obtain ⟨rfl, hI16, hh17x⟩ := hq15
      have hI16 : pm_IX gi ga w14 := hI16
      have hh17 := hh.tr hh17x
      exact v_iret rfl ⟨⟨_, rfl, trivial⟩, hI16, hh17⟩
  · refine v_aload_n rfl rfl ?_
    refine v_bipush (v := (-3)) rfl (by decide) ?_
    refine v_callV rfl (c_X_refuse (-3 : Int32) (by unfold pm_isR; first | decide | exact Or.inl rfl) hR hI) rfl rfl h1 rfl rfl (by omega) (fun rv w18 hq19 => ?_)
    obtain ⟨rfl, hI20, hh21x⟩ := hq19
    have hI20 : pm_IX gi ga w18 := hI20
    have hh21 := hh.tr hh21x
    exact v_iret rfl ⟨⟨_, rfl, trivial⟩, hI20, hh21⟩
set_option maxRecDepth 100000 in
theorem W_X4_found_20 {sc : pm_S} {w w0 : pm_W} {gi : Nat → Int32} {ga : Nat → List Int32} (a : Int32) (b : Int32) (c : Int32)  (hR : pm_Rg gi ga) (hI : pm_IX gi ga w) (hh : pm_hi w0 w) : pm_Mt sc 0 17 4 [.ref 20, .int a, .int b, .int c] w (fun rv w' => rv = none ∧ pm_IX gi ga w' ∧ pm_hi w0 w') := by
  intro d hd
  obtain ⟨g0a, g0b⟩ := hR.n0
  obtain ⟨g1a, g1b⟩ := hR.n1
  obtain ⟨g2a, g2b⟩ := hR.n2
  obtain ⟨g3a, g3b⟩ := hR.n3
  obtain ⟨g4a, g4b⟩ := hR.n4
  obtain ⟨g5a, g5b⟩ := hR.n5
  obtain ⟨g6a, g6b⟩ := hR.n6
  obtain ⟨g7a, g7b⟩ := hR.n7
  obtain ⟨g8a, g8b⟩ := hR.n8
  show pm_V sc d 17 0 [.ref 20, .int a, .int b, .int c] [] w _
  refine v_aload_n rfl rfl ?_
  refine v_iload_n rfl rfl ?_
  obtain ⟨v2, v3, v4, h1⟩ := hI.2 20 (by decide)
  refine v_put rfl h1 rfl (Nat.le_of_ble_eq_true rfl) ?_
  refine r_gen (w' := w.set 20 (.inr (4, [.int a, .int v3, .int v4, .ref 21, .ref 25]))) (fun w5 e6 => ?_)
  have hI7 : pm_IX gi ga w5 := by rw [e6]; exact hI.set 20 (by decide) ⟨a, v3, v4, rfl⟩
  have hh8 : pm_hi w0 w5 := by rw [e6]; exact hh.set (by decide) _
  have h9 := r_get_eq e6 h1
  refine v_aload_n rfl rfl ?_
  refine v_iload_n rfl rfl ?_
  refine v_put rfl h9 rfl (Nat.le_of_ble_eq_true rfl) ?_
  refine r_gen (w' := w5.set 20 (.inr (4, [.int a, .int b, .int v4, .ref 21, .ref 25]))) (fun w10 e11 => ?_)
  have hI12 : pm_IX gi ga w10 := by rw [e11]; exact hI7.set 20 (by decide) ⟨a, b, v4, rfl⟩
  have hh13 : pm_hi w0 w10 := by rw [e11]; exact hh8.set (by decide) _
  have h14 := r_get_eq e11 h9
  refine v_aload_n rfl rfl ?_
  refine v_iload_n rfl rfl ?_
  refine v_put rfl h14 rfl (Nat.le_of_ble_eq_true rfl) ?_
  refine r_gen (w' := w10.set 20 (.inr (4, [.int a, .int b, .int c, .ref 21, .ref 25]))) (fun w15 e16 => ?_)
  have hI17 : pm_IX gi ga w15 := by rw [e16]; exact hI12.set 20 (by decide) ⟨a, b, c, rfl⟩
  have hh18 : pm_hi w0 w15 := by rw [e16]; exact hh13.set (by decide) _
  have h19 := r_get_eq e16 h14
  exact v_ret rfl ⟨rfl, hI17, hh18⟩
set_option maxRecDepth 100000 in
theorem W_X4_fitsByColumns_20_5 {sc : pm_S} {w : pm_W} {gi : Nat → Int32} {ga : Nat → List Int32}   (hR : pm_Rg gi ga) (hI : pm_IX gi ga w) : pm_Mt sc 2 21 6 [.ref 20, .ref 5] w (fun rv w' => pm_wI (fun v => True) rv ∧ w = w') := by
  intro d hd
  obtain ⟨g0a, g0b⟩ := hR.n0
  obtain ⟨g1a, g1b⟩ := hR.n1
  obtain ⟨g2a, g2b⟩ := hR.n2
  obtain ⟨g3a, g3b⟩ := hR.n3
  obtain ⟨g4a, g4b⟩ := hR.n4
  obtain ⟨g5a, g5b⟩ := hR.n5
  obtain ⟨g6a, g6b⟩ := hR.n6
  obtain ⟨g7a, g7b⟩ := hR.n7
  obtain ⟨g8a, g8b⟩ := hR.n8
  have k0 : (0 : Int32).toInt = 0 := by decide
  have k1 : (1 : Int32).toInt = 1 := by decide
  show pm_V sc d 21 0 [.ref 20, .ref 5, .null, .null, .null, .null] [] w _
  refine v_iconst (v := 0) rfl (by decide) ?_
  refine v_istore_n rfl (Nat.le_of_ble_eq_true rfl) ?_
  have L5 : ∀ (n5 : Nat) (l1 : Int32) (u2 : Value) (u3 : Value) (u4 : Value), 0 ≤ l1.toInt → l1.toInt ≤ 20 → (20 - l1.toInt).toNat < n5 → pm_V sc d 21 2 [.ref 20, .ref 5, .int l1, u2, u3, u4] [] w (fun rv w' => pm_wI (fun v => True) rv ∧ w = w') := by
    intro n5
    induction n5 with
    | zero => intro l1 u2 u3 u4 t7 t8 hm6; exact absurd hm6 (Nat.not_lt_zero _)
    | succ n5 ih2_5 =>
      intro l1 u2 u3 u4 t7 t8 hm6
      refine v_iload_n rfl rfl ?_
      refine v_aload_n rfl rfl ?_
      obtain ⟨v10, v11, v12, h9⟩ := hI.2 20 (by decide)
      refine v_get rfl h9 rfl ?_
      obtain ⟨v14, ⟨v14a, v14b⟩, h13⟩ := hI.2 25 (by decide)
      refine v_get rfl h13 rfl ?_
      refine r_icmp_ge rfl (fun t15 => ?_) (fun t15 => ?_)
      · refine v_iconst (v := 1) rfl (by decide) ?_
        exact r_zret rfl (by omega) ⟨⟨_, rfl, trivial⟩, rfl⟩
      · refine v_aload_n rfl rfl ?_
        refine v_get rfl h9 rfl ?_
        refine v_iload_n rfl rfl ?_
        refine v_aload_n rfl rfl ?_
        have h16 : _ = some _ := hI.2 21 (by decide)
        refine v_callV rfl (W_X5_columnShown_21_5 l1 (by omega) (by omega) hR hI) rfl rfl h16 rfl rfl (by omega) (fun rv w17 hq18 => ?_)
        obtain ⟨⟨z19, rfl, z19p0, z19p1⟩, rfl⟩ := hq18
        refine v_istore_n rfl (Nat.le_of_ble_eq_true rfl) ?_
        refine v_iload_n rfl rfl ?_
        refine r_if_ge rfl (fun t20 => ?_) (fun t20 => ?_)
        · refine v_aload_n rfl rfl ?_
          obtain ⟨v22, ⟨v22a, v22b⟩, h21⟩ := hI.2 5 (by decide)
          refine v_get rfl h21 rfl ?_
          obtain ⟨v24, ⟨v24a, v24b⟩, h23⟩ := hI.2 6 (by decide)
          refine v_get rfl h23 rfl ?_
          refine v_iload_n rfl rfl ?_
          obtain ⟨xs26, xs26l, h25⟩ := hI.2 7 (by decide)
          refine r_laload rfl h25 xs26l (by omega) (by omega) (fun z27 => ?_)
          refine v_lstore rfl (Nat.le_of_ble_eq_true rfl) ?_
          refine v_aload_n rfl rfl ?_
          refine v_get rfl h9 rfl ?_
          refine v_get rfl h13 rfl ?_
          refine v_iload_n rfl rfl ?_
          obtain ⟨xs29, xs29l, h28⟩ := hI.2 26 (by decide)
          refine r_laload rfl h28 xs29l (by omega) (by omega) (fun z30 => ?_)
          refine v_lload rfl rfl ?_
          refine u_lcmp rfl (fun z31 => ?_)
          refine r_if_eq rfl (fun t32 => ?_) (fun t32 => ?_)
          · refine r_iinc rfl rfl (by decide) (by omega) (by omega) (fun z33 z33e => ?_)
            refine v_goto rfl ?_
            exact ih2_5 z33 (.int z19) (.long z27) (.null) (by omega) (by omega) (by omega)
          · refine v_iconst (v := 0) rfl (by decide) ?_
            exact r_zret rfl (by omega) ⟨⟨_, rfl, trivial⟩, rfl⟩
        · refine v_lconst (v := 0) rfl (by decide) ?_
          refine v_goto rfl ?_
          refine v_lstore rfl (Nat.le_of_ble_eq_true rfl) ?_
          refine v_aload_n rfl rfl ?_
          refine v_get rfl h9 rfl ?_
          refine v_get rfl h13 rfl ?_
          refine v_iload_n rfl rfl ?_
          obtain ⟨xs35, xs35l, h34⟩ := hI.2 26 (by decide)
          refine r_laload rfl h34 xs35l (by omega) (by omega) (fun z36 => ?_)
          refine v_lload rfl rfl ?_
          refine u_lcmp rfl (fun z37 => ?_)
          refine r_if_eq rfl (fun t38 => ?_) (fun t38 => ?_)
          · refine r_iinc rfl rfl (by decide) (by omega) (by omega) (fun z39 z39e => ?_)
            refine v_goto rfl ?_
            exact ih2_5 z39 (.int z19) (.long (0 : Int64)) (.null) (by omega) (by omega) (by omega)
          · refine v_iconst (v := 0) rfl (by decide) ?_
            exact r_zret rfl (by omega) ⟨⟨_, rfl, trivial⟩, rfl⟩
  exact L5 _ (0 : Int32) (.null) (.null) (.null) (by omega) (by omega) (Nat.lt_add_one _)
set_option maxRecDepth 100000 in
theorem W_X4_fitsByRows_20_1_14 {sc : pm_S} {w : pm_W} {gi : Nat → Int32} {ga : Nat → List Int32}   (hR : pm_Rg gi ga) (hI : pm_IX gi ga w) : pm_Mt sc 1 22 7 [.ref 20, .ref 1, .ref 14] w (fun rv w' => pm_wI (fun v => True) rv ∧ w = w') := by
  intro d hd
  obtain ⟨g0a, g0b⟩ := hR.n0
  obtain ⟨g1a, g1b⟩ := hR.n1
  obtain ⟨g2a, g2b⟩ := hR.n2
  obtain ⟨g3a, g3b⟩ := hR.n3
  obtain ⟨g4a, g4b⟩ := hR.n4
  obtain ⟨g5a, g5b⟩ := hR.n5
  obtain ⟨g6a, g6b⟩ := hR.n6
  obtain ⟨g7a, g7b⟩ := hR.n7
  obtain ⟨g8a, g8b⟩ := hR.n8
  have k0 : (0 : Int32).toInt = 0 := by decide
  have k1 : (1 : Int32).toInt = 1 := by decide
  show pm_V sc d 22 0 [.ref 20, .ref 1, .ref 14, .null, .null, .null, .null] [] w _
  refine v_iconst (v := 0) rfl (by decide) ?_
  refine v_istore_n rfl (Nat.le_of_ble_eq_true rfl) ?_
  have L5 : ∀ (n5 : Nat) (l1 : Int32) (u2 : Value) (u3 : Value) (u4 : Value), 0 ≤ l1.toInt → l1.toInt ≤ 20 → (20 - l1.toInt).toNat < n5 → pm_V sc d 22 2 [.ref 20, .ref 1, .ref 14, .int l1, u2, u3, u4] [] w (fun rv w' => pm_wI (fun v => True) rv ∧ w = w') := by
    intro n5
    induction n5 with
    | zero => intro l1 u2 u3 u4 t7 t8 hm6; exact absurd hm6 (Nat.not_lt_zero _)
    | succ n5 ih2_5 =>
      intro l1 u2 u3 u4 t7 t8 hm6
      refine v_iload_n rfl rfl ?_
      refine v_aload_n rfl rfl ?_
      have h9 : _ = some _ := hI.2 1 (by decide)
      refine v_get rfl h9 rfl ?_
      refine r_icmp_ge rfl (fun t10 => ?_) (fun t10 => ?_)
      · refine v_iconst (v := 1) rfl (by decide) ?_
        exact r_zret rfl (by omega) ⟨⟨_, rfl, trivial⟩, rfl⟩
      · refine v_aload_n rfl rfl ?_
        obtain ⟨v12, v13, v14, h11⟩ := hI.2 20 (by decide)
        refine v_get rfl h11 rfl ?_
        refine v_iload_n rfl rfl ?_
        refine v_aload_n rfl rfl ?_
        refine v_get rfl h9 rfl ?_
        have h15 : _ = some _ := hI.2 21 (by decide)
        refine v_callV rfl (W_X5_pickShown_21 l1 (gi 1) (by omega) (by omega) (by omega) (by omega) (by omega) hR hI) rfl rfl h15 rfl rfl (by omega) (fun rv w16 hq17 => ?_)
        obtain ⟨⟨z18, rfl, z18p0, z18p1⟩, rfl⟩ := hq17
        refine v_istore rfl (Nat.le_of_ble_eq_true rfl) ?_
        refine v_iload rfl rfl ?_
        refine r_if_ge rfl (fun t19 => ?_) (fun t19 => ?_)
        · refine v_aload_n rfl rfl ?_
          refine v_get rfl h9 rfl ?_
          refine v_iload rfl rfl ?_
          obtain ⟨sq21l, sq21r, h20⟩ := hI.2 2 (by decide)
          refine r_laload rfl h20 pm_enc_len (by omega) (by omega) (fun z22 => ?_)
          refine v_lstore rfl (Nat.le_of_ble_eq_true rfl) ?_
          refine v_aload_n rfl rfl ?_
          obtain ⟨v24, v25, ⟨⟨v24a, v24b⟩, v24e⟩, ⟨⟨v25a, v25b⟩, v25e⟩, h23⟩ := hI.2 14 (by decide)
          refine v_get rfl h23 rfl ?_
          refine v_iload_n rfl rfl ?_
          obtain ⟨xs27, xs27l, ⟨xs27e, xs27q⟩, h26⟩ := hI.2 15 (by decide)
          have xs27e : xs27 = (pm_enc (ga 24)) := xs27e
          subst xs27e
          refine r_laload rfl h26 xs27l (by omega) (by omega) (fun z28 => ?_)
          refine v_lload rfl rfl ?_
          refine u_lcmp rfl (fun z29 => ?_)
          refine r_if_eq rfl (fun t30 => ?_) (fun t30 => ?_)
          · refine r_iinc rfl rfl (by decide) (by omega) (by omega) (fun z31 z31e => ?_)
            refine v_goto rfl ?_
            exact ih2_5 z31 (.int z18) (.long z22) (.null) (by omega) (by omega) (by omega)
          · refine v_iconst (v := 0) rfl (by decide) ?_
            exact r_zret rfl (by omega) ⟨⟨_, rfl, trivial⟩, rfl⟩
        · refine v_lconst (v := 0) rfl (by decide) ?_
          refine v_goto rfl ?_
          refine v_lstore rfl (Nat.le_of_ble_eq_true rfl) ?_
          refine v_aload_n rfl rfl ?_
          obtain ⟨v33, v34, ⟨⟨v33a, v33b⟩, v33e⟩, ⟨⟨v34a, v34b⟩, v34e⟩, h32⟩ := hI.2 14 (by decide)
          refine v_get rfl h32 rfl ?_
          refine v_iload_n rfl rfl ?_
          obtain ⟨xs36, xs36l, ⟨xs36e, xs36q⟩, h35⟩ := hI.2 15 (by decide)
          have xs36e : xs36 = (pm_enc (ga 24)) := xs36e
          subst xs36e
          refine r_laload rfl h35 xs36l (by omega) (by omega) (fun z37 => ?_)
          refine v_lload rfl rfl ?_
          refine u_lcmp rfl (fun z38 => ?_)
          refine r_if_eq rfl (fun t39 => ?_) (fun t39 => ?_)
          · refine r_iinc rfl rfl (by decide) (by omega) (by omega) (fun z40 z40e => ?_)
            refine v_goto rfl ?_
            exact ih2_5 z40 (.int z18) (.long (0 : Int64)) (.null) (by omega) (by omega) (by omega)
          · refine v_iconst (v := 0) rfl (by decide) ?_
            exact r_zret rfl (by omega) ⟨⟨_, rfl, trivial⟩, rfl⟩
  exact L5 _ (0 : Int32) (.null) (.null) (.null) (by omega) (by omega) (Nat.lt_add_one _)
set_option maxRecDepth 100000 in
theorem W_X4_findBroken_20_5 {sc : pm_S} {w w0 : pm_W} {gi : Nat → Int32} {ga : Nat → List Int32}   (hR : pm_Rg gi ga) (hI : pm_IX gi ga w) (hh : pm_hi w0 w) : pm_Mt sc 3 18 3 [.ref 20, .ref 5] w (fun rv w' => pm_wI (fun v => True) rv ∧ pm_IX gi ga w' ∧ pm_hi w0 w') := by
  intro d hd
  obtain ⟨g0a, g0b⟩ := hR.n0
  obtain ⟨g1a, g1b⟩ := hR.n1
  obtain ⟨g2a, g2b⟩ := hR.n2
  obtain ⟨g3a, g3b⟩ := hR.n3
  obtain ⟨g4a, g4b⟩ := hR.n4
  obtain ⟨g5a, g5b⟩ := hR.n5
  obtain ⟨g6a, g6b⟩ := hR.n6
  obtain ⟨g7a, g7b⟩ := hR.n7
  obtain ⟨g8a, g8b⟩ := hR.n8
  have km9 : (-9 : Int32).toInt = -9 := by decide
  have k0 : (0 : Int32).toInt = 0 := by decide
  have k1 : (1 : Int32).toInt = 1 := by decide
  show pm_V sc d 18 0 [.ref 20, .ref 5, .null] [] w _
  refine v_aload_n rfl rfl ?_
  obtain ⟨v2, v3, v4, h1⟩ := hI.2 20 (by decide)
  refine v_get rfl h1 rfl ?_
  have h5 : _ = some _ := hI.2 21 (by decide)
  refine v_callV rfl (W_X5_forget_21  hR hI hh) rfl rfl h5 rfl rfl (by omega) (fun rv w6 hq7 => ?_)
  obtain ⟨rfl, hI9, hh10⟩ := hq7
  refine v_iconst (v := 0) rfl (by decide) ?_
  refine v_istore_n rfl (Nat.le_of_ble_eq_true rfl) ?_
  have L15 : ∀ (n15 : Nat) (l11 : Int32) (w12 : pm_W), pm_IX gi ga w12 → pm_hi w0 w12 → 0 ≤ l11.toInt → l11.toInt ≤ 20 → (20 - l11.toInt).toNat < n15 → pm_V sc d 18 9 [.ref 20, .ref 5, .int l11] [] w12 (fun rv w' => pm_wI (fun v => True) rv ∧ pm_IX gi ga w' ∧ pm_hi w0 w') := by
    intro n15
    induction n15 with
    | zero => intro l11 w12 hI13 hh14 t17 t18 hm16; exact absurd hm16 (Nat.not_lt_zero _)
    | succ n15 ih9_15 =>
      intro l11 w12 hI13 hh14 t17 t18 hm16
      refine v_iload_n rfl rfl ?_
      refine v_aload_n rfl rfl ?_
      obtain ⟨v20, ⟨v20a, v20b⟩, h19⟩ := hI13.2 5 (by decide)
      refine v_get rfl h19 rfl ?_
      refine r_icmp_ge rfl (fun t21 => ?_) (fun t21 => ?_)
      · refine v_iconst (v := 0) rfl (by decide) ?_
        exact r_zret rfl (by omega) ⟨⟨_, rfl, trivial⟩, hI13, hh14⟩
      · refine v_aload_n rfl rfl ?_
        obtain ⟨v23, v24, v25, h22⟩ := hI13.2 20 (by decide)
        refine v_get rfl h22 rfl ?_
        refine v_iconst (v := 1) rfl (by decide) ?_
        refine v_iload_n rfl rfl ?_
        refine v_bipush (v := (-9)) rfl (by decide) ?_
        have h26 : _ = some _ := hI13.2 21 (by decide)
        refine v_callV rfl (W_X5_tell_21 (1 : Int32) l11 (-9 : Int32) (by omega) (by omega) hR hI13 hh14) rfl rfl h26 rfl rfl (by omega) (fun rv w27 hq28 => ?_)
        obtain ⟨rfl, hI30, hh31⟩ := hq28
        refine v_aload_n rfl rfl ?_
        refine v_aload_n rfl rfl ?_
        obtain ⟨v33, v34, v35, h32⟩ := hI30.2 20 (by decide)
        refine v_callV rfl (W_X4_fitsByColumns_20_5  hR hI30) rfl rfl h32 rfl rfl (by omega) (fun rv w36 hq37 => ?_)
        obtain ⟨⟨z38, rfl, -⟩, rfl⟩ := hq37
        refine r_if_eq rfl (fun t39 => ?_) (fun t39 => ?_)
        · refine r_iinc rfl rfl (by decide) (by omega) (by omega) (fun z40 z40e => ?_)
          refine v_goto rfl ?_
          exact ih9_15 z40 w27 hI30 hh31 (by omega) (by omega) (by omega)
        · refine v_aload_n rfl rfl ?_
          refine v_iconst (v := 1) rfl (by decide) ?_
          refine v_iload_n rfl rfl ?_
          refine v_bipush (v := (-9)) rfl (by decide) ?_
          refine v_callV rfl (W_X4_found_20 (1 : Int32) l11 (-9 : Int32) hR hI30 hh31) rfl rfl h32 rfl rfl (by omega) (fun rv w41 hq42 => ?_)
          obtain ⟨rfl, hI44, hh45⟩ := hq42
          refine v_iconst (v := 1) rfl (by decide) ?_
          exact r_zret rfl (by omega) ⟨⟨_, rfl, trivial⟩, hI44, hh45⟩
  exact L15 _ (0 : Int32) w6 hI9 hh10 (by omega) (by omega) (Nat.lt_add_one _)
set_option maxRecDepth 100000 in
theorem W_X4_findSkipped_20_1_14 {sc : pm_S} {w w0 : pm_W} {gi : Nat → Int32} {ga : Nat → List Int32}   (hR : pm_Rg gi ga) (hI : pm_IX gi ga w) (hh : pm_hi w0 w) : pm_Mt sc 2 19 4 [.ref 20, .ref 1, .ref 14] w (fun rv w' => pm_wI (fun v => True) rv ∧ pm_IX gi ga w' ∧ pm_hi w0 w') := by
  intro d hd
  obtain ⟨g0a, g0b⟩ := hR.n0
  obtain ⟨g1a, g1b⟩ := hR.n1
  obtain ⟨g2a, g2b⟩ := hR.n2
  obtain ⟨g3a, g3b⟩ := hR.n3
  obtain ⟨g4a, g4b⟩ := hR.n4
  obtain ⟨g5a, g5b⟩ := hR.n5
  obtain ⟨g6a, g6b⟩ := hR.n6
  obtain ⟨g7a, g7b⟩ := hR.n7
  obtain ⟨g8a, g8b⟩ := hR.n8
  have km9 : (-9 : Int32).toInt = -9 := by decide
  have k0 : (0 : Int32).toInt = 0 := by decide
  have k1 : (1 : Int32).toInt = 1 := by decide
  have k2 : (2 : Int32).toInt = 2 := by decide
  show pm_V sc d 19 0 [.ref 20, .ref 1, .ref 14, .null] [] w _
  refine v_aload_n rfl rfl ?_
  obtain ⟨v2, v3, v4, h1⟩ := hI.2 20 (by decide)
  refine v_get rfl h1 rfl ?_
  have h5 : _ = some _ := hI.2 21 (by decide)
  refine v_callV rfl (W_X5_forget_21  hR hI hh) rfl rfl h5 rfl rfl (by omega) (fun rv w6 hq7 => ?_)
  obtain ⟨rfl, hI9, hh10⟩ := hq7
  refine v_iconst (v := 0) rfl (by decide) ?_
  refine v_istore_n rfl (Nat.le_of_ble_eq_true rfl) ?_
  have L15 : ∀ (n15 : Nat) (l11 : Int32) (w12 : pm_W), pm_IX gi ga w12 → pm_hi w0 w12 → 0 ≤ l11.toInt → l11.toInt ≤ 20 → (20 - l11.toInt).toNat < n15 → pm_V sc d 19 9 [.ref 20, .ref 1, .ref 14, .int l11] [] w12 (fun rv w' => pm_wI (fun v => True) rv ∧ pm_IX gi ga w' ∧ pm_hi w0 w') := by
    intro n15
    induction n15 with
    | zero => intro l11 w12 hI13 hh14 t17 t18 hm16; exact absurd hm16 (Nat.not_lt_zero _)
    | succ n15 ih9_15 =>
      intro l11 w12 hI13 hh14 t17 t18 hm16
      refine v_iload_n rfl rfl ?_
      refine v_aload_n rfl rfl ?_
      have h19 : _ = some _ := hI13.2 1 (by decide)
      refine v_get rfl h19 rfl ?_
      refine r_icmp_ge rfl (fun t20 => ?_) (fun t20 => ?_)
      · refine v_iconst (v := 0) rfl (by decide) ?_
        exact r_zret rfl (by omega) ⟨⟨_, rfl, trivial⟩, hI13, hh14⟩
      · refine v_aload_n rfl rfl ?_
        obtain ⟨v22, v23, v24, h21⟩ := hI13.2 20 (by decide)
        refine v_get rfl h21 rfl ?_
        refine v_iconst (v := 2) rfl (by decide) ?_
        refine v_iload_n rfl rfl ?_
        refine v_bipush (v := (-9)) rfl (by decide) ?_
        have h25 : _ = some _ := hI13.2 21 (by decide)
        refine v_callV rfl (W_X5_tell_21 (2 : Int32) l11 (-9 : Int32) (by omega) (by omega) hR hI13 hh14) rfl rfl h25 rfl rfl (by omega) (fun rv w26 hq27 => ?_)
        obtain ⟨rfl, hI29, hh30⟩ := hq27
        refine v_aload_n rfl rfl ?_
        refine v_aload_n rfl rfl ?_
        refine v_aload_n rfl rfl ?_
        obtain ⟨v32, v33, v34, h31⟩ := hI29.2 20 (by decide)
        refine v_callV rfl (W_X4_fitsByRows_20_1_14  hR hI29) rfl rfl h31 rfl rfl (by omega) (fun rv w35 hq36 => ?_)
        obtain ⟨⟨z37, rfl, -⟩, rfl⟩ := hq36
        refine r_if_eq rfl (fun t38 => ?_) (fun t38 => ?_)
        · refine r_iinc rfl rfl (by decide) (by omega) (by omega) (fun z39 z39e => ?_)
          refine v_goto rfl ?_
          exact ih9_15 z39 w26 hI29 hh30 (by omega) (by omega) (by omega)
        · refine v_aload_n rfl rfl ?_
          refine v_iconst (v := 2) rfl (by decide) ?_
          refine v_iload_n rfl rfl ?_
          refine v_bipush (v := (-9)) rfl (by decide) ?_
          refine v_callV rfl (W_X4_found_20 (2 : Int32) l11 (-9 : Int32) hR hI29 hh30) rfl rfl h31 rfl rfl (by omega) (fun rv w40 hq41 => ?_)
          obtain ⟨rfl, hI43, hh44⟩ := hq41
          refine v_iconst (v := 1) rfl (by decide) ?_
          exact r_zret rfl (by omega) ⟨⟨_, rfl, trivial⟩, hI43, hh44⟩
  exact L15 _ (0 : Int32) w6 hI9 hh10 (by omega) (by omega) (Nat.lt_add_one _)
set_option maxRecDepth 100000 in
theorem W_X4_findCrossed_20_5 {sc : pm_S} {w w0 : pm_W} {gi : Nat → Int32} {ga : Nat → List Int32}   (hR : pm_Rg gi ga) (hI : pm_IX gi ga w) (hh : pm_hi w0 w) : pm_Mt sc 3 20 4 [.ref 20, .ref 5] w (fun rv w' => pm_wI (fun v => True) rv ∧ pm_IX gi ga w' ∧ pm_hi w0 w') := by
  intro d hd
  obtain ⟨g0a, g0b⟩ := hR.n0
  obtain ⟨g1a, g1b⟩ := hR.n1
  obtain ⟨g2a, g2b⟩ := hR.n2
  obtain ⟨g3a, g3b⟩ := hR.n3
  obtain ⟨g4a, g4b⟩ := hR.n4
  obtain ⟨g5a, g5b⟩ := hR.n5
  obtain ⟨g6a, g6b⟩ := hR.n6
  obtain ⟨g7a, g7b⟩ := hR.n7
  obtain ⟨g8a, g8b⟩ := hR.n8
  have k0 : (0 : Int32).toInt = 0 := by decide
  have k1 : (1 : Int32).toInt = 1 := by decide
  have k3 : (3 : Int32).toInt = 3 := by decide
  show pm_V sc d 20 0 [.ref 20, .ref 5, .null, .null] [] w _
  refine v_aload_n rfl rfl ?_
  obtain ⟨v2, v3, v4, h1⟩ := hI.2 20 (by decide)
  refine v_get rfl h1 rfl ?_
  have h5 : _ = some _ := hI.2 21 (by decide)
  refine v_callV rfl (W_X5_forget_21  hR hI hh) rfl rfl h5 rfl rfl (by omega) (fun rv w6 hq7 => ?_)
  obtain ⟨rfl, hI9, hh10⟩ := hq7
  refine v_iconst (v := 0) rfl (by decide) ?_
  refine v_istore_n rfl (Nat.le_of_ble_eq_true rfl) ?_
  have L16 : ∀ (n16 : Nat) (l11 : Int32) (u12 : Value) (w13 : pm_W), pm_IX gi ga w13 → pm_hi w0 w13 → 0 ≤ l11.toInt → l11.toInt ≤ 20 → (20 - l11.toInt).toNat < n16 → pm_V sc d 20 9 [.ref 20, .ref 5, .int l11, u12] [] w13 (fun rv w' => pm_wI (fun v => True) rv ∧ pm_IX gi ga w' ∧ pm_hi w0 w') := by
    intro n16
    induction n16 with
    | zero => intro l11 u12 w13 hI14 hh15 t18 t19 hm17; exact absurd hm17 (Nat.not_lt_zero _)
    | succ n16 ih9_16 =>
      intro l11 u12 w13 hI14 hh15 t18 t19 hm17
      refine v_iload_n rfl rfl ?_
      refine v_aload_n rfl rfl ?_
      obtain ⟨v21, ⟨v21a, v21b⟩, h20⟩ := hI14.2 5 (by decide)
      refine v_get rfl h20 rfl ?_
      refine r_icmp_ge rfl (fun t22 => ?_) (fun t22 => ?_)
      · refine v_iconst (v := 0) rfl (by decide) ?_
        exact r_zret rfl (by omega) ⟨⟨_, rfl, trivial⟩, hI14, hh15⟩
      · refine v_iload_n rfl rfl ?_
        refine v_iconst (v := 1) rfl (by decide) ?_
        refine r_iadd rfl (by omega) (by omega) (fun z23 z23e => ?_)
        refine v_istore_n rfl (Nat.le_of_ble_eq_true rfl) ?_
        have L28 : ∀ (n28 : Nat) (l24 : Int32) (w25 : pm_W), pm_IX gi ga w25 → pm_hi w0 w25 → 0 ≤ l24.toInt → l24.toInt ≤ 20 → (20 - l24.toInt).toNat < n28 → pm_V sc d 20 21 [.ref 20, .ref 5, .int l11, .int l24] [] w25 (fun rv w' => pm_wI (fun v => True) rv ∧ pm_IX gi ga w' ∧ pm_hi w0 w') := by
          intro n28
          induction n28 with
          | zero => intro l24 w25 hI26 hh27 t30 t31 hm29; exact absurd hm29 (Nat.not_lt_zero _)
          | succ n28 ih21_28 =>
            intro l24 w25 hI26 hh27 t30 t31 hm29
            refine v_iload_n rfl rfl ?_
            refine v_aload_n rfl rfl ?_
            obtain ⟨v33, ⟨v33a, v33b⟩, h32⟩ := hI26.2 5 (by decide)
            refine v_get rfl h32 rfl ?_
            refine r_icmp_ge rfl (fun t34 => ?_) (fun t34 => ?_)
            · refine r_iinc rfl rfl (by decide) (by omega) (by omega) (fun z35 z35e => ?_)
              refine v_goto rfl ?_
              exact ih9_16 z35 (.int l24) w25 hI26 hh27 (by omega) (by omega) (by omega)
            · refine v_aload_n rfl rfl ?_
              obtain ⟨v37, v38, v39, h36⟩ := hI26.2 20 (by decide)
              refine v_get rfl h36 rfl ?_
              refine v_iconst (v := 3) rfl (by decide) ?_
              refine v_iload_n rfl rfl ?_
              refine v_iload_n rfl rfl ?_
              have h40 : _ = some _ := hI26.2 21 (by decide)
              refine v_callV rfl (W_X5_tell_21 (3 : Int32) l11 l24 (by omega) (by omega) hR hI26 hh27) rfl rfl h40 rfl rfl (by omega) (fun rv w41 hq42 => ?_)
              obtain ⟨rfl, hI44, hh45⟩ := hq42
              refine v_aload_n rfl rfl ?_
              refine v_aload_n rfl rfl ?_
              obtain ⟨v47, v48, v49, h46⟩ := hI44.2 20 (by decide)
              refine v_callV rfl (W_X4_fitsByColumns_20_5  hR hI44) rfl rfl h46 rfl rfl (by omega) (fun rv w50 hq51 => ?_)
              obtain ⟨⟨z52, rfl, -⟩, rfl⟩ := hq51
              refine r_if_eq rfl (fun t53 => ?_) (fun t53 => ?_)
              · refine r_iinc rfl rfl (by decide) (by omega) (by omega) (fun z54 z54e => ?_)
                refine v_goto rfl ?_
                exact ih21_28 z54 w41 hI44 hh45 (by omega) (by omega) (by omega)
              · refine v_aload_n rfl rfl ?_
                refine v_iconst (v := 3) rfl (by decide) ?_
                refine v_iload_n rfl rfl ?_
                refine v_iload_n rfl rfl ?_
                refine v_callV rfl (W_X4_found_20 (3 : Int32) l11 l24 hR hI44 hh45) rfl rfl h46 rfl rfl (by omega) (fun rv w55 hq56 => ?_)
                obtain ⟨rfl, hI58, hh59⟩ := hq56
                refine v_iconst (v := 1) rfl (by decide) ?_
                exact r_zret rfl (by omega) ⟨⟨_, rfl, trivial⟩, hI58, hh59⟩
        exact L28 _ z23 w13 hI14 hh15 (by omega) (by omega) (Nat.lt_add_one _)
  exact L16 _ (0 : Int32) (.null) w6 hI9 hh10 (by omega) (by omega) (Nat.lt_add_one _)
set_option maxRecDepth 100000 in
theorem W_X4_find_20_1_5_14 {sc : pm_S} {w w0 : pm_W} {gi : Nat → Int32} {ga : Nat → List Int32}   (hR : pm_Rg gi ga) (hI : pm_IX gi ga w) (hh : pm_hi w0 w) : pm_Mt sc 4 16 4 [.ref 20, .ref 1, .ref 5, .ref 14] w (fun rv w' => rv = none ∧ pm_IX gi ga w' ∧ pm_hi w0 w') := by
  intro d hd
  obtain ⟨g0a, g0b⟩ := hR.n0
  obtain ⟨g1a, g1b⟩ := hR.n1
  obtain ⟨g2a, g2b⟩ := hR.n2
  obtain ⟨g3a, g3b⟩ := hR.n3
  obtain ⟨g4a, g4b⟩ := hR.n4
  obtain ⟨g5a, g5b⟩ := hR.n5
  obtain ⟨g6a, g6b⟩ := hR.n6
  obtain ⟨g7a, g7b⟩ := hR.n7
  obtain ⟨g8a, g8b⟩ := hR.n8
  have km9 : (-9 : Int32).toInt = -9 := by decide
  have k0 : (0 : Int32).toInt = 0 := by decide
  show pm_V sc d 16 0 [.ref 20, .ref 1, .ref 5, .ref 14] [] w _
  refine v_aload_n rfl rfl ?_
  obtain ⟨v2, v3, v4, h1⟩ := hI.2 20 (by decide)
  refine v_get rfl h1 rfl ?_
  refine v_aload_n rfl rfl ?_
  obtain ⟨v6, ⟨v6a, v6b⟩, h5⟩ := hI.2 25 (by decide)
  obtain ⟨v8, v9, ⟨⟨v8a, v8b⟩, v8e⟩, ⟨⟨v9a, v9b⟩, v9e⟩, h7⟩ := hI.2 14 (by decide)
  refine v_callV rfl (W_X8_readColumns_25_14 v8 v9 (by omega) (by omega) (by omega) (by omega) h7 hR hI hh) rfl rfl h5 rfl rfl (by omega) (fun rv w10 hq11 => ?_)
  obtain ⟨rfl, hI13, hh14⟩ := hq11
  refine v_aload_n rfl rfl ?_
  obtain ⟨v16, v17, v18, h15⟩ := hI13.2 20 (by decide)
  refine v_get rfl h15 rfl ?_
  have h19 : _ = some _ := hI13.2 21 (by decide)
  refine v_callV rfl (W_X5_forget_21  hR hI13 hh14) rfl rfl h19 rfl rfl (by omega) (fun rv w20 hq21 => ?_)
  obtain ⟨rfl, hI23, hh24⟩ := hq21
  refine v_aload_n rfl rfl ?_
  refine v_aload_n rfl rfl ?_
  obtain ⟨v26, v27, v28, h25⟩ := hI23.2 20 (by decide)
  refine v_callV rfl (W_X4_fitsByColumns_20_5  hR hI23) rfl rfl h25 rfl rfl (by omega) (fun rv w29 hq30 => ?_)
  obtain ⟨⟨z31, rfl, -⟩, rfl⟩ := hq30
  refine r_if_eq rfl (fun t32 => ?_) (fun t32 => ?_)
  · refine v_aload_n rfl rfl ?_
    refine v_aload_n rfl rfl ?_
    refine v_callV rfl (W_X4_findBroken_20_5  hR hI23 hh24) rfl rfl h25 rfl rfl (by omega) (fun rv w33 hq34 => ?_)
    obtain ⟨⟨z35, rfl, -⟩, hI36, hh37⟩ := hq34
    refine r_if_ne rfl (fun t38 => ?_) (fun t38 => ?_)
    · exact v_ret rfl ⟨rfl, hI36, hh37⟩
    · refine v_aload_n rfl rfl ?_
      refine v_aload_n rfl rfl ?_
      refine v_aload_n rfl rfl ?_
      obtain ⟨v40, v41, v42, h39⟩ := hI36.2 20 (by decide)
      refine v_callV rfl (W_X4_findSkipped_20_1_14  hR hI36 hh37) rfl rfl h39 rfl rfl (by omega) (fun rv w43 hq44 => ?_)
      obtain ⟨⟨z45, rfl, -⟩, hI46, hh47⟩ := hq44
      refine r_if_ne rfl (fun t48 => ?_) (fun t48 => ?_)
      · exact v_ret rfl ⟨rfl, hI46, hh47⟩
      · refine v_aload_n rfl rfl ?_
        refine v_aload_n rfl rfl ?_
        obtain ⟨v50, v51, v52, h49⟩ := hI46.2 20 (by decide)
        refine v_callV rfl (W_X4_findCrossed_20_5  hR hI46 hh47) rfl rfl h49 rfl rfl (by omega) (fun rv w53 hq54 => ?_)
        obtain ⟨⟨z55, rfl, -⟩, hI56, hh57⟩ := hq54
        refine r_if_ne rfl (fun t58 => ?_) (fun t58 => ?_)
        · exact v_ret rfl ⟨rfl, hI56, hh57⟩
        · refine v_aload_n rfl rfl ?_
          refine v_bipush (v := (-9)) rfl (by decide) ?_
          refine v_bipush (v := (-9)) rfl (by decide) ?_
          refine v_bipush (v := (-9)) rfl (by decide) ?_
          obtain ⟨v60, v61, v62, h59⟩ := hI56.2 20 (by decide)
          refine v_callV rfl (W_X4_found_20 (-9 : Int32) (-9 : Int32) (-9 : Int32) hR hI56 hh57) rfl rfl h59 rfl rfl (by omega) (fun rv w63 hq64 => ?_)
          obtain ⟨rfl, hI66, hh67⟩ := hq64
          exact v_ret rfl ⟨rfl, hI66, hh67⟩
  · refine v_aload_n rfl rfl ?_
    refine v_iconst (v := 0) rfl (by decide) ?_
    refine v_bipush (v := (-9)) rfl (by decide) ?_
    refine v_bipush (v := (-9)) rfl (by decide) ?_
    refine v_callV rfl (W_X4_found_20 (0 : Int32) (-9 : Int32) (-9 : Int32) hR hI23 hh24) rfl rfl h25 rfl rfl (by omega) (fun rv w68 hq69 => ?_)
    obtain ⟨rfl, hI71, hh72⟩ := hq69
    refine v_goto rfl ?_
    exact v_ret rfl ⟨rfl, hI71, hh72⟩
set_option maxRecDepth 100000 in
theorem W_X11_explained_0 {sc : pm_S} {w w0 : pm_W} {gi : Nat → Int32} {ga : Nat → List Int32} (k : Int32)  (hR : pm_Rg gi ga) (hI : pm_IX gi ga w) (hh : pm_hi w0 w) : pm_Mt sc 5 90 2 [.ref 0, .int k] w (fun rv w' => pm_wI (fun v => True) rv ∧ pm_IX gi ga w' ∧ pm_hi w0 w') := by
  intro d hd
  obtain ⟨g0a, g0b⟩ := hR.n0
  obtain ⟨g1a, g1b⟩ := hR.n1
  obtain ⟨g2a, g2b⟩ := hR.n2
  obtain ⟨g3a, g3b⟩ := hR.n3
  obtain ⟨g4a, g4b⟩ := hR.n4
  obtain ⟨g5a, g5b⟩ := hR.n5
  obtain ⟨g6a, g6b⟩ := hR.n6
  obtain ⟨g7a, g7b⟩ := hR.n7
  obtain ⟨g8a, g8b⟩ := hR.n8
  have km3 : (-3 : Int32).toInt = -3 := by decide
  have km2 : (-2 : Int32).toInt = -2 := by decide
  have k3 : (3 : Int32).toInt = 3 := by decide
  show pm_V sc d 90 0 [.ref 0, .int k] [] w _
  refine v_iload_n rfl rfl ?_
  refine v_iconst (v := 3) rfl (by decide) ?_
  refine v_callS rfl (W_X11_isPlace k (3 : Int32) hR hI) rfl rfl rfl rfl rfl (by omega) (fun rv w1 hq2 => ?_)
  obtain ⟨⟨z3, rfl, z3p0⟩, rfl⟩ := hq2
  refine r_if_ne rfl (fun t4 => ?_) (fun t4 => ?_)
  · refine v_aload_n rfl rfl ?_
    obtain ⟨v6, ⟨v6z, v6e⟩, h5⟩ := hI.2 0 (by decide)
    have v6z := v6z.imp i_eq.mp i_eq.mp
    rw [i_0, i_1] at v6z
    refine v_get rfl h5 rfl ?_
    refine r_if_eq rfl (fun t7 => ?_) (fun t7 => ?_)
    · refine v_aload_n rfl rfl ?_
      refine v_bipush (v := (-3)) rfl (by decide) ?_
      refine v_callV rfl (c_X_refuse (-3 : Int32) (by unfold pm_isR; first | decide | exact Or.inl rfl) hR hI) rfl rfl h5 rfl rfl (by omega) (fun rv w8 hq9 => ?_)
      obtain ⟨rfl, hI10, hh11x⟩ := hq9
      have hI10 : pm_IX gi ga w8 := hI10
      have hh11 := hh.tr hh11x
      exact v_iret rfl ⟨⟨_, rfl, trivial⟩, hI10, hh11⟩
    · refine v_aload_n rfl rfl ?_
      refine v_get rfl h5 rfl ?_
      refine v_aload_n rfl rfl ?_
      refine v_get rfl h5 rfl ?_
      obtain ⟨v13, v14, ⟨⟨v13a, v13b⟩, v13e⟩, ⟨⟨v14a, v14b⟩, v14e⟩, h12⟩ := hI.2 14 (by decide)
      refine v_callV rfl (W_X10_isAsLargeAs_14_1  hR hI) rfl rfl h12 rfl rfl (by omega) (fun rv w15 hq16 => ?_)
      obtain ⟨⟨z17, rfl, -⟩, rfl⟩ := hq16
      refine r_if_ne rfl (fun t18 => ?_) (fun t18 => ?_)
      · refine v_aload_n rfl rfl ?_
        refine v_get rfl h5 rfl ?_
        refine v_aload_n rfl rfl ?_
        refine v_get rfl h5 rfl ?_
        obtain ⟨v20, ⟨v20a, v20b⟩, h19⟩ := hI.2 5 (by decide)
        refine v_callV rfl (W_X3_readFrom_5_1  hR hI hh) rfl rfl h19 rfl rfl (by omega) (fun rv w21 hq22 => ?_)
        obtain ⟨rfl, hI24, hh25⟩ := hq22
        refine v_aload_n rfl rfl ?_
        obtain ⟨v27, ⟨v27z, v27e⟩, h26⟩ := hI24.2 0 (by decide)
        have v27z := v27z.imp i_eq.mp i_eq.mp
        rw [i_0, i_1] at v27z
        refine v_get rfl h26 rfl ?_
        refine v_aload_n rfl rfl ?_
        refine v_get rfl h26 rfl ?_
        refine v_aload_n rfl rfl ?_
        refine v_get rfl h26 rfl ?_
        refine v_aload_n rfl rfl ?_
        refine v_get rfl h26 rfl ?_
        obtain ⟨v29, v30, v31, h28⟩ := hI24.2 20 (by decide)
        refine v_callV rfl (W_X4_find_20_1_5_14  hR hI24 hh25) rfl rfl h28 rfl rfl (by omega) (fun rv w32 hq33 => ?_)
        obtain ⟨rfl, hI35, hh36⟩ := hq33
        refine v_iload_n rfl rfl ?_
        by_cases t37 : k.toInt = 0
        · refine v_look (t := 100) rfl (by rw [t37]; rfl) ?_
          refine v_aload_n rfl rfl ?_
          obtain ⟨v39, ⟨v39z, v39e⟩, h38⟩ := hI35.2 0 (by decide)
          have v39z := v39z.imp i_eq.mp i_eq.mp
          rw [i_0, i_1] at v39z
          refine v_get rfl h38 rfl ?_
          obtain ⟨v41, v42, v43, h40⟩ := hI35.2 20 (by decide)
          refine v_get rfl h40 rfl ?_
          exact v_iret rfl ⟨⟨_, rfl, trivial⟩, hI35, hh36⟩
        by_cases t44 : k.toInt = 1
        · refine v_look (t := 108) rfl (by rw [t44]; rfl) ?_
          refine v_aload_n rfl rfl ?_
          obtain ⟨v46, ⟨v46z, v46e⟩, h45⟩ := hI35.2 0 (by decide)
          have v46z := v46z.imp i_eq.mp i_eq.mp
          rw [i_0, i_1] at v46z
          refine v_get rfl h45 rfl ?_
          obtain ⟨v48, v49, v50, h47⟩ := hI35.2 20 (by decide)
          refine v_get rfl h47 rfl ?_
          exact v_iret rfl ⟨⟨_, rfl, trivial⟩, hI35, hh36⟩
        refine v_look (t := 116) rfl (by rw [show k.toInt = 2 by omega]; rfl) ?_
        refine v_aload_n rfl rfl ?_
        obtain ⟨v52, ⟨v52z, v52e⟩, h51⟩ := hI35.2 0 (by decide)
        have v52z := v52z.imp i_eq.mp i_eq.mp
        rw [i_0, i_1] at v52z
        refine v_get rfl h51 rfl ?_
        obtain ⟨v54, v55, v56, h53⟩ := hI35.2 20 (by decide)
        refine v_get rfl h53 rfl ?_
        exact v_iret rfl ⟨⟨_, rfl, trivial⟩, hI35, hh36⟩
      · refine v_aload_n rfl rfl ?_
        refine v_bipush (v := (-3)) rfl (by decide) ?_
        refine v_callV rfl (c_X_refuse (-3 : Int32) (by unfold pm_isR; first | decide | exact Or.inl rfl) hR hI) rfl rfl h5 rfl rfl (by omega) (fun rv w57 hq58 => ?_)
        obtain ⟨rfl, hI59, hh60x⟩ := hq58
        have hI59 : pm_IX gi ga w57 := hI59
        have hh60 := hh.tr hh60x
        exact v_iret rfl ⟨⟨_, rfl, trivial⟩, hI59, hh60⟩
  · refine v_aload_n rfl rfl ?_
    refine v_bipush (v := (-2)) rfl (by decide) ?_
    obtain ⟨v62, ⟨v62z, v62e⟩, h61⟩ := hI.2 0 (by decide)
    have v62z := v62z.imp i_eq.mp i_eq.mp
    rw [i_0, i_1] at v62z
    refine v_callV rfl (c_X_refuse (-2 : Int32) (by unfold pm_isR; first | decide | exact Or.inl rfl) hR hI) rfl rfl h61 rfl rfl (by omega) (fun rv w63 hq64 => ?_)
    obtain ⟨rfl, hI65, hh66x⟩ := hq64
    have hI65 : pm_IX gi ga w63 := hI65
    have hh66 := hh.tr hh66x
    exact v_iret rfl ⟨⟨_, rfl, trivial⟩, hI65, hh66⟩

