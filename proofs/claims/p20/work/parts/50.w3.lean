set_option maxRecDepth 100000 in
theorem W_X11_around_any {sc : pm_S} {w : pm_W} {gi : Nat → Int32} {ga : Nat → List Int32} (i : Int32) (n : Int32)  (hR : pm_Rg gi ga) (hI : pm_IX gi ga w) : pm_Mt sc 0 115 2 [.int i, .int n] w (fun rv w' => pm_wI (fun v => True) rv ∧ w = w') := by
  intro d hd
  obtain ⟨g0a, g0b⟩ := hR.n0
  obtain ⟨g1a, g1b⟩ := hR.n1
  obtain ⟨g2a, g2b⟩ := hR.n2
  obtain ⟨g3a, g3b⟩ := hR.n3
  obtain ⟨g4a, g4b⟩ := hR.n4
  obtain ⟨g5a, g5b⟩ := hR.n5
  obtain ⟨g6a, g6b⟩ := hR.n6
  obtain ⟨g7a, g7b⟩ := hR.n7
  obtain ⟨g8a, g8b⟩ := hR.n8
  show pm_V sc d 115 0 [.int i, .int n] [] w _
  refine v_iload_n rfl rfl ?_
  refine r_if_ge rfl (fun t1 => ?_) (fun t1 => ?_)
  · refine v_iload_n rfl rfl ?_
    refine v_iload_n rfl rfl ?_
    refine r_icmp_ge rfl (fun t2 => ?_) (fun t2 => ?_)
    · refine v_iload_n rfl rfl ?_
      refine v_iload_n rfl rfl ?_
      refine u_isub rfl (fun z3 => ?_)
      exact v_iret rfl ⟨⟨_, rfl, trivial⟩, rfl⟩
    · refine v_iload_n rfl rfl ?_
      refine v_goto rfl ?_
      exact v_iret rfl ⟨⟨_, rfl, trivial⟩, rfl⟩
  · refine v_iload_n rfl rfl ?_
    refine v_iload_n rfl rfl ?_
    refine u_iadd rfl (fun z4 => ?_)
    exact v_iret rfl ⟨⟨_, rfl, trivial⟩, rfl⟩
set_option maxRecDepth 100000 in
theorem W_X6_isStart_10_1 {sc : pm_S} {w : pm_W} {gi : Nat → Int32} {ga : Nat → List Int32} (x : Int32) (y : Int32) (c10_0 : Int32) (c10_1 : Int32) (c10_2 : Int32) (p0 : y.toInt ≤ 19) (p1 : 0 ≤ y.toInt) (p2 : x.toInt ≤ 19) (p3 : 0 ≤ x.toInt) (p4 : x.toInt < c10_0.toInt) (p5 : 1 ≤ c10_0.toInt) (p6 : c10_0.toInt ≤ 20) (p7 : 0 ≤ c10_1.toInt) (p8 : c10_1.toInt ≤ 20) (p9 : 0 ≤ c10_2.toInt) (p10 : c10_2.toInt ≤ 1) (hc10 : w[10]? = some (.inr (6, [.int c10_0, .int c10_1, .int c10_2, .ref 11, .ref 12, .ref 13]))) (hR : pm_Rg gi ga) (hI : pm_IX gi ga w) : pm_Mt sc 1 40 4 [.ref 10, .ref 1, .int x, .int y] w (fun rv w' => pm_wI (fun v => True) rv ∧ w = w') := by
  intro d hd
  obtain ⟨g0a, g0b⟩ := hR.n0
  obtain ⟨g1a, g1b⟩ := hR.n1
  obtain ⟨g2a, g2b⟩ := hR.n2
  obtain ⟨g3a, g3b⟩ := hR.n3
  obtain ⟨g4a, g4b⟩ := hR.n4
  obtain ⟨g5a, g5b⟩ := hR.n5
  obtain ⟨g6a, g6b⟩ := hR.n6
  obtain ⟨g7a, g7b⟩ := hR.n7
  obtain ⟨g8a, g8b⟩ := hR.n8
  have k0 : (0 : Int32).toInt = 0 := by decide
  have k1 : (1 : Int32).toInt = 1 := by decide
  show pm_V sc d 40 0 [.ref 10, .ref 1, .int x, .int y] [] w _
  refine v_aload_n rfl rfl ?_
  refine v_iload_n rfl rfl ?_
  refine v_iload_n rfl rfl ?_
  have h1 : _ = some _ := hI.2 1 (by decide)
  refine v_callV rfl (W_X10_colourAt_1 x y (by omega) (by omega) hR hI) rfl rfl h1 rfl rfl (by omega) (fun rv w2 hq3 => ?_)
  obtain ⟨⟨z4, rfl, -⟩, rfl⟩ := hq3
  refine v_aload_n rfl rfl ?_
  refine v_iload_n rfl rfl ?_
  refine v_iconst (v := 1) rfl (by decide) ?_
  refine r_isub rfl (by omega) (by omega) (fun z5 z5e => ?_)
  refine v_aload_n rfl rfl ?_
  refine v_get rfl hc10 rfl ?_
  refine v_callS rfl (W_X11_around z5 c10_0 (by omega) (by omega) (by omega) (by omega) (by omega) (by omega) hR hI) rfl rfl rfl rfl rfl (by omega) (fun rv w6 hq7 => ?_)
  obtain ⟨⟨z8, rfl, z8p0, z8p1⟩, rfl⟩ := hq7
  refine v_iload_n rfl rfl ?_
  refine v_callV rfl (W_X10_colourAt_1 z8 y (by omega) (by omega) hR hI) rfl rfl h1 rfl rfl (by omega) (fun rv w9 hq10 => ?_)
  obtain ⟨⟨z11, rfl, -⟩, rfl⟩ := hq10
  refine r_icmp_eq rfl (fun t12 => ?_) (fun t12 => ?_)
  · refine v_iconst (v := 0) rfl (by decide) ?_
    exact r_zret rfl (by omega) ⟨⟨_, rfl, trivial⟩, rfl⟩
  · refine v_iconst (v := 1) rfl (by decide) ?_
    refine v_goto rfl ?_
    exact r_zret rfl (by omega) ⟨⟨_, rfl, trivial⟩, rfl⟩
set_option maxRecDepth 100000 in
theorem W_X6_firstStart_10_1 {sc : pm_S} {w : pm_W} {gi : Nat → Int32} {ga : Nat → List Int32} (y : Int32) (c10_0 : Int32) (c10_1 : Int32) (c10_2 : Int32) (p0 : y.toInt ≤ 19) (p1 : 0 ≤ y.toInt) (p2 : 1 ≤ c10_0.toInt) (p3 : c10_0.toInt ≤ 20) (p4 : 0 ≤ c10_1.toInt) (p5 : c10_1.toInt ≤ 20) (p6 : 0 ≤ c10_2.toInt) (p7 : c10_2.toInt ≤ 1) (hc10 : w[10]? = some (.inr (6, [.int c10_0, .int c10_1, .int c10_2, .ref 11, .ref 12, .ref 13]))) (hR : pm_Rg gi ga) (hI : pm_IX gi ga w) : pm_Mt sc 2 39 4 [.ref 10, .ref 1, .int y] w (fun rv w' => pm_wI (fun v => -9 ≤ v.toInt ∧ v.toInt < c10_0.toInt) rv ∧ w = w') := by
  intro d hd
  obtain ⟨g0a, g0b⟩ := hR.n0
  obtain ⟨g1a, g1b⟩ := hR.n1
  obtain ⟨g2a, g2b⟩ := hR.n2
  obtain ⟨g3a, g3b⟩ := hR.n3
  obtain ⟨g4a, g4b⟩ := hR.n4
  obtain ⟨g5a, g5b⟩ := hR.n5
  obtain ⟨g6a, g6b⟩ := hR.n6
  obtain ⟨g7a, g7b⟩ := hR.n7
  obtain ⟨g8a, g8b⟩ := hR.n8
  have km9 : (-9 : Int32).toInt = -9 := by decide
  have k0 : (0 : Int32).toInt = 0 := by decide
  show pm_V sc d 39 0 [.ref 10, .ref 1, .int y, .null] [] w _
  refine v_iconst (v := 0) rfl (by decide) ?_
  refine v_istore_n rfl (Nat.le_of_ble_eq_true rfl) ?_
  have L2 : ∀ (n2 : Nat) (l1 : Int32), 0 ≤ l1.toInt → l1.toInt ≤ 20 → (20 - l1.toInt).toNat < n2 → pm_V sc d 39 2 [.ref 10, .ref 1, .int y, .int l1] [] w (fun rv w' => pm_wI (fun v => -9 ≤ v.toInt ∧ v.toInt < c10_0.toInt) rv ∧ w = w') := by
    intro n2
    induction n2 with
    | zero => intro l1 t4 t5 hm3; exact absurd hm3 (Nat.not_lt_zero _)
    | succ n2 ih2_2 =>
      intro l1 t4 t5 hm3
      refine v_iload_n rfl rfl ?_
      refine v_aload_n rfl rfl ?_
      refine v_get rfl hc10 rfl ?_
      refine r_icmp_ge rfl (fun t6 => ?_) (fun t6 => ?_)
      · refine v_bipush (v := (-9)) rfl (by decide) ?_
        exact v_iret rfl ⟨⟨_, rfl, (by omega), (by omega)⟩, rfl⟩
      · refine v_aload_n rfl rfl ?_
        refine v_aload_n rfl rfl ?_
        refine v_iload_n rfl rfl ?_
        refine v_iload_n rfl rfl ?_
        refine v_callV rfl (W_X6_isStart_10_1 l1 y c10_0 c10_1 c10_2 (by omega) (by omega) (by omega) (by omega) (by omega) (by omega) (by omega) (by omega) (by omega) (by omega) (by omega) hc10 hR hI) rfl rfl hc10 rfl rfl (by omega) (fun rv w7 hq8 => ?_)
        obtain ⟨⟨z9, rfl, -⟩, rfl⟩ := hq8
        refine r_if_eq rfl (fun t10 => ?_) (fun t10 => ?_)
        · refine r_iinc rfl rfl (by decide) (by omega) (by omega) (fun z11 z11e => ?_)
          refine v_goto rfl ?_
          exact ih2_2 z11 (by omega) (by omega) (by omega)
        · refine v_iload_n rfl rfl ?_
          exact v_iret rfl ⟨⟨_, rfl, (by omega), (by omega)⟩, rfl⟩
  exact L2 _ (0 : Int32) (by omega) (by omega) (Nat.lt_add_one _)
set_option maxRecDepth 100000 in
theorem W_X6_addRun_10 {sc : pm_S} {w w0 : pm_W} {gi : Nat → Int32} {ga : Nat → List Int32} (s : Int32) (c10_0 : Int32) (c10_1 : Int32) (c10_2 : Int32) (p0 : c10_1.toInt ≤ 19) (p1 : 1 ≤ c10_0.toInt) (p2 : c10_0.toInt ≤ 20) (p3 : 0 ≤ c10_1.toInt) (p4 : c10_1.toInt ≤ 20) (p5 : 0 ≤ c10_2.toInt) (p6 : c10_2.toInt ≤ 1) (hc10 : w[10]? = some (.inr (6, [.int c10_0, .int c10_1, .int c10_2, .ref 11, .ref 12, .ref 13]))) (hR : pm_Rg gi ga) (hI : pm_IX gi ga w) (hh : pm_hi w0 w) : pm_Mt sc 0 38 2 [.ref 10, .int s] w (fun rv w' => rv = none ∧ pm_IX gi ga w' ∧ pm_hi w0 w' ∧ ∃ (m : Int32) (ys : List Int32), m.toInt = c10_1.toInt + 1 ∧ w'[10]? = some (.inr (6, [.int c10_0, .int m, .int c10_2, .ref 11, .ref 12, .ref 13])) ∧ w'[12]? = some (.inl (0, .inl ys)) ∧ ys.length = 20 ∧ (∀ x ∈ ys, pm_rng x 0 20) ∧ (ys.getD (m.toInt - (1 : Int32).toInt).toNat 0).toInt = 0) := by
  intro d hd
  obtain ⟨g0a, g0b⟩ := hR.n0
  obtain ⟨g1a, g1b⟩ := hR.n1
  obtain ⟨g2a, g2b⟩ := hR.n2
  obtain ⟨g3a, g3b⟩ := hR.n3
  obtain ⟨g4a, g4b⟩ := hR.n4
  obtain ⟨g5a, g5b⟩ := hR.n5
  obtain ⟨g6a, g6b⟩ := hR.n6
  obtain ⟨g7a, g7b⟩ := hR.n7
  obtain ⟨g8a, g8b⟩ := hR.n8
  have k0 : (0 : Int32).toInt = 0 := by decide
  have k1 : (1 : Int32).toInt = 1 := by decide
  show pm_V sc d 38 0 [.ref 10, .int s] [] w _
  refine v_aload_n rfl rfl ?_
  refine v_get rfl hc10 rfl ?_
  refine v_aload_n rfl rfl ?_
  refine v_get rfl hc10 rfl ?_
  refine v_iload_n rfl rfl ?_
  obtain ⟨xs2, xs2l, h1⟩ := hI.2 11 (by decide)
  refine r_iastore rfl h1 xs2l (by omega) (by omega) (fun ys3 ys3l ys3m ys3g => ?_)
  refine r_gen (w' := w.set 11 (.inl (0, .inl ys3))) (fun w4 e5 => ?_)
  have hI6 : pm_IX gi ga w4 := by rw [e5]; exact hI.set 11 (by decide) ⟨ys3, ys3l, rfl⟩
  have hh7 : pm_hi w0 w4 := by rw [e5]; exact hh.set (by decide) _
  have h8 := r_get_ne e5 (show 11 ≠ 10 by decide) hc10
  have h9 := r_get_eq e5 h1
  refine v_aload_n rfl rfl ?_
  refine v_get rfl h8 rfl ?_
  refine v_aload_n rfl rfl ?_
  refine v_get rfl h8 rfl ?_
  refine v_iconst (v := 0) rfl (by decide) ?_
  obtain ⟨xs11, xs11l, xs11r, h10⟩ := hI6.2 12 (by decide)
  refine r_iastore rfl h10 xs11l (by omega) (by omega) (fun ys12 ys12l ys12m ys12g => ?_)
  have ys12r := r_rng ys12m xs11r (by omega) (by omega)
  refine r_gen (w' := w4.set 12 (.inl (0, .inl ys12))) (fun w13 e14 => ?_)
  have hI15 : pm_IX gi ga w13 := by rw [e14]; exact hI6.set 12 (by decide) ⟨ys12, ys12l, ys12r, rfl⟩
  have hh16 : pm_hi w0 w13 := by rw [e14]; exact hh7.set (by decide) _
  have h17 := r_get_ne e14 (show 12 ≠ 10 by decide) h8
  have h18 := r_get_ne e14 (show 12 ≠ 11 by decide) h9
  have h19 := r_get_eq e14 h10
  refine v_aload_n rfl rfl ?_
  refine v_dup rfl rfl ?_
  refine v_get rfl h17 rfl ?_
  refine v_iconst (v := 1) rfl (by decide) ?_
  refine r_iadd rfl (by omega) (by omega) (fun z20 z20e => ?_)
  refine v_put rfl h17 rfl (Nat.le_of_ble_eq_true rfl) ?_
  refine r_gen (w' := w13.set 10 (.inr (6, [.int c10_0, .int z20, .int c10_2, .ref 11, .ref 12, .ref 13]))) (fun w21 e22 => ?_)
  have hI23 : pm_IX gi ga w21 := by rw [e22]; exact hI15.set 10 (by decide) ⟨c10_0, z20, c10_2, ⟨by omega, by omega⟩, ⟨by omega, by omega⟩, ((show c10_2.toInt = 0 ∨ c10_2.toInt = 1 by omega).imp i_eq.mpr i_eq.mpr), rfl⟩
  have hh24 : pm_hi w0 w21 := by rw [e22]; exact hh16.set (by decide) _
  have h25 := r_get_ne e22 (show 10 ≠ 11 by decide) h18
  have h26 := r_get_ne e22 (show 10 ≠ 12 by decide) h19
  have h27 := r_get_eq e22 h17
  exact v_ret rfl ⟨rfl, hI23, hh24, ⟨z20, ys12, (by omega), h27, h26, ys12l, ys12r, (by rw [show z20.toInt - (1 : Int32).toInt = c10_1.toInt by omega, ys12g]; rfl)⟩⟩
set_option maxRecDepth 100000 in
theorem W_X6_readFrom_10_1 {sc : pm_S} {w w0 : pm_W} {gi : Nat → Int32} {ga : Nat → List Int32} (y : Int32) (p0 : y.toInt ≤ 19) (p1 : 0 ≤ y.toInt) (hR : pm_Rg gi ga) (hI : pm_IX gi ga w) (hh : pm_hi w0 w) : pm_Mt sc 3 30 7 [.ref 10, .ref 1, .int y] w (fun rv w' => rv = none ∧ pm_IX gi ga w' ∧ pm_hi w0 w') := by
  intro d hd
  obtain ⟨g0a, g0b⟩ := hR.n0
  obtain ⟨g1a, g1b⟩ := hR.n1
  obtain ⟨g2a, g2b⟩ := hR.n2
  obtain ⟨g3a, g3b⟩ := hR.n3
  obtain ⟨g4a, g4b⟩ := hR.n4
  obtain ⟨g5a, g5b⟩ := hR.n5
  obtain ⟨g6a, g6b⟩ := hR.n6
  obtain ⟨g7a, g7b⟩ := hR.n7
  obtain ⟨g8a, g8b⟩ := hR.n8
  have k0 : (0 : Int32).toInt = 0 := by decide
  have k1 : (1 : Int32).toInt = 1 := by decide
  show pm_V sc d 30 0 [.ref 10, .ref 1, .int y, .null, .null, .null, .null] [] w _
  refine v_aload_n rfl rfl ?_
  refine v_aload_n rfl rfl ?_
  have h1 : _ = some _ := hI.2 1 (by decide)
  refine v_get rfl h1 rfl ?_
  obtain ⟨v3, v4, v5, ⟨v3a, v3b⟩, ⟨v4a, v4b⟩, v5z, h2⟩ := hI.2 10 (by decide)
  have v5z := v5z.imp i_eq.mp i_eq.mp
  rw [i_0, i_1] at v5z
  refine v_put rfl h2 rfl (Nat.le_of_ble_eq_true rfl) ?_
  refine r_gen (w' := w.set 10 (.inr (6, [.int (gi 0), .int v4, .int v5, .ref 11, .ref 12, .ref 13]))) (fun w6 e7 => ?_)
  have hI8 : pm_IX gi ga w6 := by rw [e7]; exact hI.set 10 (by decide) ⟨(gi 0), v4, v5, ⟨by omega, by omega⟩, ⟨by omega, by omega⟩, ((show v5.toInt = 0 ∨ v5.toInt = 1 by omega).imp i_eq.mpr i_eq.mpr), rfl⟩
  have hh9 : pm_hi w0 w6 := by rw [e7]; exact hh.set (by decide) _
  have h10 := r_get_ne e7 (show 10 ≠ 1 by decide) h1
  have h11 := r_get_eq e7 h2
  refine v_aload_n rfl rfl ?_
  refine v_iconst (v := 0) rfl (by decide) ?_
  refine v_put rfl h11 rfl (Nat.le_of_ble_eq_true rfl) ?_
  refine r_gen (w' := w6.set 10 (.inr (6, [.int (gi 0), .int (0 : Int32), .int v5, .ref 11, .ref 12, .ref 13]))) (fun w12 e13 => ?_)
  have hI14 : pm_IX gi ga w12 := by rw [e13]; exact hI8.set 10 (by decide) ⟨(gi 0), (0 : Int32), v5, ⟨by omega, by omega⟩, ⟨by omega, by omega⟩, ((show v5.toInt = 0 ∨ v5.toInt = 1 by omega).imp i_eq.mpr i_eq.mpr), rfl⟩
  have hh15 : pm_hi w0 w12 := by rw [e13]; exact hh9.set (by decide) _
  have h16 := r_get_ne e13 (show 10 ≠ 1 by decide) h10
  have h17 := r_get_eq e13 h11
  refine v_aload_n rfl rfl ?_
  refine v_aload_n rfl rfl ?_
  refine v_iload_n rfl rfl ?_
  refine v_callV rfl (W_X6_firstStart_10_1 y (gi 0) (0 : Int32) v5 (by omega) (by omega) (by omega) (by omega) (by omega) (by omega) (by omega) (by omega) h17 hR hI14) rfl rfl h17 rfl rfl (by omega) (fun rv w18 hq19 => ?_)
  obtain ⟨⟨z20, rfl, z20p0, z20p1⟩, rfl⟩ := hq19
  refine v_istore_n rfl (Nat.le_of_ble_eq_true rfl) ?_
  refine v_aload_n rfl rfl ?_
  refine v_iload_n rfl rfl ?_
  refine r_if_ge rfl (fun t21 => ?_) (fun t21 => ?_)
  · refine v_iconst (v := 0) rfl (by decide) ?_
    refine v_put rfl h17 (r_okZ (by omega)) (Nat.le_of_ble_eq_true rfl) ?_
    refine r_gen (w' := w12.set 10 (.inr (6, [.int (gi 0), .int (0 : Int32), .int (0 : Int32), .ref 11, .ref 12, .ref 13]))) (fun w22 e23 => ?_)
    have hI24 : pm_IX gi ga w22 := by rw [e23]; exact hI14.set 10 (by decide) ⟨(gi 0), (0 : Int32), (0 : Int32), ⟨by omega, by omega⟩, ⟨by omega, by omega⟩, ((show (0 : Int32).toInt = 0 ∨ (0 : Int32).toInt = 1 by omega).imp i_eq.mpr i_eq.mpr), rfl⟩
    have hh25 : pm_hi w0 w22 := by rw [e23]; exact hh15.set (by decide) _
    have h26 := r_get_ne e23 (show 10 ≠ 1 by decide) h16
    have h27 := r_get_eq e23 h17
    refine v_iconst (v := 0) rfl (by decide) ?_
    refine v_iload_n rfl rfl ?_
    refine r_max rfl (by omega) rfl (fun z28 z28a z28b z28c => ?_)
    refine v_istore rfl (Nat.le_of_ble_eq_true rfl) ?_
    refine v_iconst (v := 0) rfl (by decide) ?_
    refine v_istore rfl (Nat.le_of_ble_eq_true rfl) ?_
    obtain ⟨xs30, xs30l, xs30r, h29⟩ := hI24.2 12 (by decide)
    have L42 : ∀ (n42 : Nat) (l31 : Int32) (u32 : Value) (w33 : pm_W) (v37 : Int32) (v38 : Int32) (v39 : Int32) (xs41 : List Int32), pm_IX gi ga w33 → pm_hi w0 w33 → w33[10]? = some (.inr (6, [.int v37, .int v38, .int v39, .ref 11, .ref 12, .ref 13])) → w33[12]? = some (.inl (0, .inl xs41)) → xs41.length = 20 → (∀ x ∈ xs41, pm_rng x (0) 20) → 0 ≤ l31.toInt → l31.toInt ≤ 20 → 1 ≤ v37.toInt → v37.toInt ≤ 20 → 0 ≤ v38.toInt → v38.toInt ≤ 20 → 0 ≤ v39.toInt → v39.toInt ≤ 1 → (z28.toInt < v37.toInt) → (v38.toInt ≤ l31.toInt) → (1 ≤ l31.toInt → 1 ≤ v38.toInt) → (1 ≤ l31.toInt → (xs41.getD (v38.toInt - (1 : Int32).toInt).toNat 0).toInt ≤ l31.toInt) → (20 - l31.toInt).toNat < n42 → pm_V sc d 30 43 [.ref 10, .ref 1, .int y, .int z20, .int z28, .int l31, u32] [] w33 (fun rv w' => rv = none ∧ pm_IX gi ga w' ∧ pm_hi w0 w') := by
      intro n42
      induction n42 with
      | zero => intro l31 u32 w33 v37 v38 v39 xs41 hI34 hh35 h36 h40 xs41l xs41r t44 t45 t46 t47 t48 t49 t50 t51 t52 t53 t54 t55 hm43; exact absurd hm43 (Nat.not_lt_zero _)
      | succ n42 ih43_42 =>
        intro l31 u32 w33 v37 v38 v39 xs41 hI34 hh35 h36 h40 xs41l xs41r t44 t45 t46 t47 t48 t49 t50 t51 t52 t53 t54 t55 hm43
        refine v_iload rfl rfl ?_
        refine v_aload_n rfl rfl ?_
        refine v_get rfl h36 rfl ?_
        refine r_icmp_ge rfl (fun t56 => ?_) (fun t56 => ?_)
        · exact v_ret rfl ⟨rfl, hI34, hh35⟩
        · refine v_iload rfl rfl ?_
          refine v_iload rfl rfl ?_
          refine r_iadd rfl (by omega) (by omega) (fun z57 z57e => ?_)
          refine v_aload_n rfl rfl ?_
          refine v_get rfl h36 rfl ?_
          refine v_callS rfl (W_X11_around z57 v37 (by omega) (by omega) (by omega) (by omega) (by omega) (by omega) hR hI34) rfl rfl rfl rfl rfl (by omega) (fun rv w58 hq59 => ?_)
          obtain ⟨⟨z60, rfl, z60p0, z60p1⟩, rfl⟩ := hq59
          refine v_istore rfl (Nat.le_of_ble_eq_true rfl) ?_
          refine v_iload rfl rfl ?_
          refine r_if_eq rfl (fun t61 => ?_) (fun t61 => ?_)
          · refine v_aload_n rfl rfl ?_
            refine v_iload rfl rfl ?_
            refine v_callV rfl (W_X6_addRun_10 z60 v37 v38 v39 (by omega) (by omega) (by omega) (by omega) (by omega) (by omega) (by omega) h36 hR hI34 hh35) rfl rfl h36 rfl rfl (by omega) (fun rv w62 hq63 => ?_)
            obtain ⟨rfl, hI64, hh65, ⟨m66, ys67, m66e, h68, h69, ys67l, ys67r, ys67g⟩⟩ := hq63
            refine v_aload_n rfl rfl ?_
            refine v_get rfl h68 rfl ?_
            refine v_aload_n rfl rfl ?_
            refine v_get rfl h68 rfl ?_
            refine v_iconst (v := 1) rfl (by decide) ?_
            refine r_isub rfl (by omega) (by omega) (fun z70 z70e => ?_)
            refine v_dup2 rfl rfl ?_
            refine r_iaload rfl h69 ys67l (by omega) (by omega) (fun z71 z71m z71g => ?_)
            obtain ⟨z71a, z71b⟩ := ys67r z71 z71m
            have zt99 := congrArg Int32.toInt z71g
            rw [z70e] at zt99
            refine v_iconst (v := 1) rfl (by decide) ?_
            refine r_iadd rfl (by omega) (by omega) (fun z72 z72e => ?_)
            refine r_iastore rfl h69 ys67l (by omega) (by omega) (fun ys73 ys73l ys73m ys73g => ?_)
            have ys73r := r_rng ys73m ys67r (by omega) (by omega)
            refine r_gen (w' := w62.set 12 (.inl (0, .inl ys73))) (fun w74 e75 => ?_)
            have hI76 : pm_IX gi ga w74 := by rw [e75]; exact hI64.set 12 (by decide) ⟨ys73, ys73l, ys73r, rfl⟩
            have hh77 : pm_hi w0 w74 := by rw [e75]; exact hh65.set (by decide) _
            have h78 := r_get_ne e75 (show 12 ≠ 10 by decide) h68
            have h79 := r_get_eq e75 h69
            have zt102 := congrArg Int32.toInt ys73g
            rw [z70e] at zt102
            refine r_iinc rfl rfl (by decide) (by omega) (by omega) (fun z80 z80e => ?_)
            refine v_goto rfl ?_
            exact ih43_42 z80 (.int z60) w74 v37 m66 v39 ys73 hI76 hh77 h78 h79 ys73l ys73r (by omega) (by omega) (by omega) (by omega) (by omega) (by omega) (by omega) (by omega) (by omega) (by omega) (by omega) (by omega) (by omega)
          · refine v_aload_n rfl rfl ?_
            refine v_aload_n rfl rfl ?_
            refine v_iload rfl rfl ?_
            refine v_iload_n rfl rfl ?_
            refine v_callV rfl (W_X6_isStart_10_1 z60 y v37 v38 v39 (by omega) (by omega) (by omega) (by omega) (by omega) (by omega) (by omega) (by omega) (by omega) (by omega) (by omega) h36 hR hI34) rfl rfl h36 rfl rfl (by omega) (fun rv w81 hq82 => ?_)
            obtain ⟨⟨z83, rfl, -⟩, rfl⟩ := hq82
            refine r_if_eq rfl (fun t84 => ?_) (fun t84 => ?_)
            · refine v_aload_n rfl rfl ?_
              refine v_get rfl h36 rfl ?_
              refine v_aload_n rfl rfl ?_
              refine v_get rfl h36 rfl ?_
              refine v_iconst (v := 1) rfl (by decide) ?_
              refine r_isub rfl (by omega) (by omega) (fun z85 z85e => ?_)
              refine v_dup2 rfl rfl ?_
              refine r_iaload rfl h40 xs41l (by omega) (by omega) (fun z86 z86m z86g => ?_)
              obtain ⟨z86a, z86b⟩ := xs41r z86 z86m
              have zt99 := congrArg Int32.toInt z86g
              rw [z85e] at zt99
              refine v_iconst (v := 1) rfl (by decide) ?_
              refine r_iadd rfl (by omega) (by omega) (fun z87 z87e => ?_)
              refine r_iastore rfl h40 xs41l (by omega) (by omega) (fun ys88 ys88l ys88m ys88g => ?_)
              have ys88r := r_rng ys88m xs41r (by omega) (by omega)
              refine r_gen (w' := w33.set 12 (.inl (0, .inl ys88))) (fun w89 e90 => ?_)
              have hI91 : pm_IX gi ga w89 := by rw [e90]; exact hI34.set 12 (by decide) ⟨ys88, ys88l, ys88r, rfl⟩
              have hh92 : pm_hi w0 w89 := by rw [e90]; exact hh35.set (by decide) _
              have h93 := r_get_ne e90 (show 12 ≠ 10 by decide) h36
              have h94 := r_get_eq e90 h40
              have zt102 := congrArg Int32.toInt ys88g
              rw [z85e] at zt102
              refine r_iinc rfl rfl (by decide) (by omega) (by omega) (fun z95 z95e => ?_)
              refine v_goto rfl ?_
              exact ih43_42 z95 (.int z60) w89 v37 v38 v39 ys88 hI91 hh92 h93 h94 ys88l ys88r (by omega) (by omega) (by omega) (by omega) (by omega) (by omega) (by omega) (by omega) (by omega) (by omega) (by omega) (by omega) (by omega)
            · refine v_aload_n rfl rfl ?_
              refine v_iload rfl rfl ?_
              refine v_callV rfl (W_X6_addRun_10 z60 v37 v38 v39 (by omega) (by omega) (by omega) (by omega) (by omega) (by omega) (by omega) h36 hR hI34 hh35) rfl rfl h36 rfl rfl (by omega) (fun rv w96 hq97 => ?_)
              obtain ⟨rfl, hI98, hh99, ⟨m100, ys101, m100e, h102, h103, ys101l, ys101r, ys101g⟩⟩ := hq97
              refine v_aload_n rfl rfl ?_
              refine v_get rfl h102 rfl ?_
              refine v_aload_n rfl rfl ?_
              refine v_get rfl h102 rfl ?_
              refine v_iconst (v := 1) rfl (by decide) ?_
              refine r_isub rfl (by omega) (by omega) (fun z104 z104e => ?_)
              refine v_dup2 rfl rfl ?_
              refine r_iaload rfl h103 ys101l (by omega) (by omega) (fun z105 z105m z105g => ?_)
              obtain ⟨z105a, z105b⟩ := ys101r z105 z105m
              have zt99 := congrArg Int32.toInt z105g
              rw [z104e] at zt99
              refine v_iconst (v := 1) rfl (by decide) ?_
              refine r_iadd rfl (by omega) (by omega) (fun z106 z106e => ?_)
              refine r_iastore rfl h103 ys101l (by omega) (by omega) (fun ys107 ys107l ys107m ys107g => ?_)
              have ys107r := r_rng ys107m ys101r (by omega) (by omega)
              refine r_gen (w' := w96.set 12 (.inl (0, .inl ys107))) (fun w108 e109 => ?_)
              have hI110 : pm_IX gi ga w108 := by rw [e109]; exact hI98.set 12 (by decide) ⟨ys107, ys107l, ys107r, rfl⟩
              have hh111 : pm_hi w0 w108 := by rw [e109]; exact hh99.set (by decide) _
              have h112 := r_get_ne e109 (show 12 ≠ 10 by decide) h102
              have h113 := r_get_eq e109 h103
              have zt102 := congrArg Int32.toInt ys107g
              rw [z104e] at zt102
              refine r_iinc rfl rfl (by decide) (by omega) (by omega) (fun z114 z114e => ?_)
              refine v_goto rfl ?_
              exact ih43_42 z114 (.int z60) w108 v37 m100 v39 ys107 hI110 hh111 h112 h113 ys107l ys107r (by omega) (by omega) (by omega) (by omega) (by omega) (by omega) (by omega) (by omega) (by omega) (by omega) (by omega) (by omega) (by omega)
    exact L42 _ (0 : Int32) (.null) w22 (gi 0) (0 : Int32) (0 : Int32) xs30 hI24 hh25 h27 h29 xs30l xs30r (by omega) (by omega) (by omega) (by omega) (by omega) (by omega) (by omega) (by omega) (by omega) (by omega) (by omega) (by omega) (Nat.lt_add_one _)
  · refine v_iconst (v := 1) rfl (by decide) ?_
    refine v_goto rfl ?_
    refine v_put rfl h17 (r_okZ (by omega)) (Nat.le_of_ble_eq_true rfl) ?_
    refine r_gen (w' := w12.set 10 (.inr (6, [.int (gi 0), .int (0 : Int32), .int (1 : Int32), .ref 11, .ref 12, .ref 13]))) (fun w115 e116 => ?_)
    have hI117 : pm_IX gi ga w115 := by rw [e116]; exact hI14.set 10 (by decide) ⟨(gi 0), (0 : Int32), (1 : Int32), ⟨by omega, by omega⟩, ⟨by omega, by omega⟩, ((show (1 : Int32).toInt = 0 ∨ (1 : Int32).toInt = 1 by omega).imp i_eq.mpr i_eq.mpr), rfl⟩
    have hh118 : pm_hi w0 w115 := by rw [e116]; exact hh15.set (by decide) _
    have h119 := r_get_ne e116 (show 10 ≠ 1 by decide) h16
    have h120 := r_get_eq e116 h17
    refine v_iconst (v := 0) rfl (by decide) ?_
    refine v_iload_n rfl rfl ?_
    refine r_max rfl (by omega) rfl (fun z121 z121a z121b z121c => ?_)
    refine v_istore rfl (Nat.le_of_ble_eq_true rfl) ?_
    refine v_iconst (v := 0) rfl (by decide) ?_
    refine v_istore rfl (Nat.le_of_ble_eq_true rfl) ?_
    obtain ⟨xs123, xs123l, xs123r, h122⟩ := hI117.2 12 (by decide)
    have L135 : ∀ (n135 : Nat) (l124 : Int32) (u125 : Value) (w126 : pm_W) (v130 : Int32) (v131 : Int32) (v132 : Int32) (xs134 : List Int32), pm_IX gi ga w126 → pm_hi w0 w126 → w126[10]? = some (.inr (6, [.int v130, .int v131, .int v132, .ref 11, .ref 12, .ref 13])) → w126[12]? = some (.inl (0, .inl xs134)) → xs134.length = 20 → (∀ x ∈ xs134, pm_rng x (0) 20) → 0 ≤ l124.toInt → l124.toInt ≤ 20 → 1 ≤ v130.toInt → v130.toInt ≤ 20 → 0 ≤ v131.toInt → v131.toInt ≤ 20 → 0 ≤ v132.toInt → v132.toInt ≤ 1 → (z121.toInt < v130.toInt) → (v131.toInt ≤ l124.toInt) → (1 ≤ l124.toInt → 1 ≤ v131.toInt) → (1 ≤ l124.toInt → (xs134.getD (v131.toInt - (1 : Int32).toInt).toNat 0).toInt ≤ l124.toInt) → (20 - l124.toInt).toNat < n135 → pm_V sc d 30 43 [.ref 10, .ref 1, .int y, .int z20, .int z121, .int l124, u125] [] w126 (fun rv w' => rv = none ∧ pm_IX gi ga w' ∧ pm_hi w0 w') := by
      intro n135
      induction n135 with
      | zero => intro l124 u125 w126 v130 v131 v132 xs134 hI127 hh128 h129 h133 xs134l xs134r t137 t138 t139 t140 t141 t142 t143 t144 t145 t146 t147 t148 hm136; exact absurd hm136 (Nat.not_lt_zero _)
      | succ n135 ih43_135 =>
        intro l124 u125 w126 v130 v131 v132 xs134 hI127 hh128 h129 h133 xs134l xs134r t137 t138 t139 t140 t141 t142 t143 t144 t145 t146 t147 t148 hm136
        refine v_iload rfl rfl ?_
        refine v_aload_n rfl rfl ?_
        refine v_get rfl h129 rfl ?_
        refine r_icmp_ge rfl (fun t149 => ?_) (fun t149 => ?_)
        · exact v_ret rfl ⟨rfl, hI127, hh128⟩
        · refine v_iload rfl rfl ?_
          refine v_iload rfl rfl ?_
          refine r_iadd rfl (by omega) (by omega) (fun z150 z150e => ?_)
          refine v_aload_n rfl rfl ?_
          refine v_get rfl h129 rfl ?_
          refine v_callS rfl (W_X11_around z150 v130 (by omega) (by omega) (by omega) (by omega) (by omega) (by omega) hR hI127) rfl rfl rfl rfl rfl (by omega) (fun rv w151 hq152 => ?_)
          obtain ⟨⟨z153, rfl, z153p0, z153p1⟩, rfl⟩ := hq152
          refine v_istore rfl (Nat.le_of_ble_eq_true rfl) ?_
          refine v_iload rfl rfl ?_
          refine r_if_eq rfl (fun t154 => ?_) (fun t154 => ?_)
          · refine v_aload_n rfl rfl ?_
            refine v_iload rfl rfl ?_
            refine v_callV rfl (W_X6_addRun_10 z153 v130 v131 v132 (by omega) (by omega) (by omega) (by omega) (by omega) (by omega) (by omega) h129 hR hI127 hh128) rfl rfl h129 rfl rfl (by omega) (fun rv w155 hq156 => ?_)
            obtain ⟨rfl, hI157, hh158, ⟨m159, ys160, m159e, h161, h162, ys160l, ys160r, ys160g⟩⟩ := hq156
            refine v_aload_n rfl rfl ?_
            refine v_get rfl h161 rfl ?_
            refine v_aload_n rfl rfl ?_
            refine v_get rfl h161 rfl ?_
            refine v_iconst (v := 1) rfl (by decide) ?_
            refine r_isub rfl (by omega) (by omega) (fun z163 z163e => ?_)
            refine v_dup2 rfl rfl ?_
            refine r_iaload rfl h162 ys160l (by omega) (by omega) (fun z164 z164m z164g => ?_)
            obtain ⟨z164a, z164b⟩ := ys160r z164 z164m
            have zt99 := congrArg Int32.toInt z164g
            rw [z163e] at zt99
            refine v_iconst (v := 1) rfl (by decide) ?_
            refine r_iadd rfl (by omega) (by omega) (fun z165 z165e => ?_)
            refine r_iastore rfl h162 ys160l (by omega) (by omega) (fun ys166 ys166l ys166m ys166g => ?_)
            have ys166r := r_rng ys166m ys160r (by omega) (by omega)
            refine r_gen (w' := w155.set 12 (.inl (0, .inl ys166))) (fun w167 e168 => ?_)
            have hI169 : pm_IX gi ga w167 := by rw [e168]; exact hI157.set 12 (by decide) ⟨ys166, ys166l, ys166r, rfl⟩
            have hh170 : pm_hi w0 w167 := by rw [e168]; exact hh158.set (by decide) _
            have h171 := r_get_ne e168 (show 12 ≠ 10 by decide) h161
            have h172 := r_get_eq e168 h162
            have zt102 := congrArg Int32.toInt ys166g
            rw [z163e] at zt102
            refine r_iinc rfl rfl (by decide) (by omega) (by omega) (fun z173 z173e => ?_)
            refine v_goto rfl ?_
            exact ih43_135 z173 (.int z153) w167 v130 m159 v132 ys166 hI169 hh170 h171 h172 ys166l ys166r (by omega) (by omega) (by omega) (by omega) (by omega) (by omega) (by omega) (by omega) (by omega) (by omega) (by omega) (by omega) (by omega)
          · refine v_aload_n rfl rfl ?_
            refine v_aload_n rfl rfl ?_
            refine v_iload rfl rfl ?_
            refine v_iload_n rfl rfl ?_
            refine v_callV rfl (W_X6_isStart_10_1 z153 y v130 v131 v132 (by omega) (by omega) (by omega) (by omega) (by omega) (by omega) (by omega) (by omega) (by omega) (by omega) (by omega) h129 hR hI127) rfl rfl h129 rfl rfl (by omega) (fun rv w174 hq175 => ?_)
            obtain ⟨⟨z176, rfl, -⟩, rfl⟩ := hq175
            refine r_if_eq rfl (fun t177 => ?_) (fun t177 => ?_)
            · refine v_aload_n rfl rfl ?_
              refine v_get rfl h129 rfl ?_
              refine v_aload_n rfl rfl ?_
              refine v_get rfl h129 rfl ?_
              refine v_iconst (v := 1) rfl (by decide) ?_
              refine r_isub rfl (by omega) (by omega) (fun z178 z178e => ?_)
              refine v_dup2 rfl rfl ?_
              refine r_iaload rfl h133 xs134l (by omega) (by omega) (fun z179 z179m z179g => ?_)
              obtain ⟨z179a, z179b⟩ := xs134r z179 z179m
              have zt99 := congrArg Int32.toInt z179g
              rw [z178e] at zt99
              refine v_iconst (v := 1) rfl (by decide) ?_
              refine r_iadd rfl (by omega) (by omega) (fun z180 z180e => ?_)
              refine r_iastore rfl h133 xs134l (by omega) (by omega) (fun ys181 ys181l ys181m ys181g => ?_)
              have ys181r := r_rng ys181m xs134r (by omega) (by omega)
              refine r_gen (w' := w126.set 12 (.inl (0, .inl ys181))) (fun w182 e183 => ?_)
              have hI184 : pm_IX gi ga w182 := by rw [e183]; exact hI127.set 12 (by decide) ⟨ys181, ys181l, ys181r, rfl⟩
              have hh185 : pm_hi w0 w182 := by rw [e183]; exact hh128.set (by decide) _
              have h186 := r_get_ne e183 (show 12 ≠ 10 by decide) h129
              have h187 := r_get_eq e183 h133
              have zt102 := congrArg Int32.toInt ys181g
              rw [z178e] at zt102
              refine r_iinc rfl rfl (by decide) (by omega) (by omega) (fun z188 z188e => ?_)
              refine v_goto rfl ?_
              exact ih43_135 z188 (.int z153) w182 v130 v131 v132 ys181 hI184 hh185 h186 h187 ys181l ys181r (by omega) (by omega) (by omega) (by omega) (by omega) (by omega) (by omega) (by omega) (by omega) (by omega) (by omega) (by omega) (by omega)
            · refine v_aload_n rfl rfl ?_
              refine v_iload rfl rfl ?_
              refine v_callV rfl (W_X6_addRun_10 z153 v130 v131 v132 (by omega) (by omega) (by omega) (by omega) (by omega) (by omega) (by omega) h129 hR hI127 hh128) rfl rfl h129 rfl rfl (by omega) (fun rv w189 hq190 => ?_)
              obtain ⟨rfl, hI191, hh192, ⟨m193, ys194, m193e, h195, h196, ys194l, ys194r, ys194g⟩⟩ := hq190
              refine v_aload_n rfl rfl ?_
              refine v_get rfl h195 rfl ?_
              refine v_aload_n rfl rfl ?_
              refine v_get rfl h195 rfl ?_
              refine v_iconst (v := 1) rfl (by decide) ?_
              refine r_isub rfl (by omega) (by omega) (fun z197 z197e => ?_)
              refine v_dup2 rfl rfl ?_
              refine r_iaload rfl h196 ys194l (by omega) (by omega) (fun z198 z198m z198g => ?_)
              obtain ⟨z198a, z198b⟩ := ys194r z198 z198m
              have zt99 := congrArg Int32.toInt z198g
              rw [z197e] at zt99
              refine v_iconst (v := 1) rfl (by decide) ?_
              refine r_iadd rfl (by omega) (by omega) (fun z199 z199e => ?_)
              refine r_iastore rfl h196 ys194l (by omega) (by omega) (fun ys200 ys200l ys200m ys200g => ?_)
              have ys200r := r_rng ys200m ys194r (by omega) (by omega)
              refine r_gen (w' := w189.set 12 (.inl (0, .inl ys200))) (fun w201 e202 => ?_)
              have hI203 : pm_IX gi ga w201 := by rw [e202]; exact hI191.set 12 (by decide) ⟨ys200, ys200l, ys200r, rfl⟩
              have hh204 : pm_hi w0 w201 := by rw [e202]; exact hh192.set (by decide) _
              have h205 := r_get_ne e202 (show 12 ≠ 10 by decide) h195
              have h206 := r_get_eq e202 h196
              have zt102 := congrArg Int32.toInt ys200g
              rw [z197e] at zt102
              refine r_iinc rfl rfl (by decide) (by omega) (by omega) (fun z207 z207e => ?_)
              refine v_goto rfl ?_
              exact ih43_135 z207 (.int z153) w201 v130 m193 v132 ys200 hI203 hh204 h205 h206 ys200l ys200r (by omega) (by omega) (by omega) (by omega) (by omega) (by omega) (by omega) (by omega) (by omega) (by omega) (by omega) (by omega) (by omega)
    exact L135 _ (0 : Int32) (.null) w115 (gi 0) (0 : Int32) (1 : Int32) xs123 hI117 hh118 h120 h122 xs123l xs123r (by omega) (by omega) (by omega) (by omega) (by omega) (by omega) (by omega) (by omega) (by omega) (by omega) (by omega) (by omega) (Nat.lt_add_one _)
set_option maxRecDepth 100000 in
theorem W_X6_longerThan_10 {sc : pm_S} {w : pm_W} {gi : Nat → Int32} {ga : Nat → List Int32} (n : Int32)  (hR : pm_Rg gi ga) (hI : pm_IX gi ga w) : pm_Mt sc 0 31 4 [.ref 10, .int n] w (fun rv w' => pm_wI (fun v => True) rv ∧ w = w') := by
  intro d hd
  obtain ⟨g0a, g0b⟩ := hR.n0
  obtain ⟨g1a, g1b⟩ := hR.n1
  obtain ⟨g2a, g2b⟩ := hR.n2
  obtain ⟨g3a, g3b⟩ := hR.n3
  obtain ⟨g4a, g4b⟩ := hR.n4
  obtain ⟨g5a, g5b⟩ := hR.n5
  obtain ⟨g6a, g6b⟩ := hR.n6
  obtain ⟨g7a, g7b⟩ := hR.n7
  obtain ⟨g8a, g8b⟩ := hR.n8
  have k0 : (0 : Int32).toInt = 0 := by decide
  show pm_V sc d 31 0 [.ref 10, .int n, .null, .null] [] w _
  refine v_iconst (v := 0) rfl (by decide) ?_
  refine v_istore_n rfl (Nat.le_of_ble_eq_true rfl) ?_
  refine v_iconst (v := 0) rfl (by decide) ?_
  refine v_istore_n rfl (Nat.le_of_ble_eq_true rfl) ?_
  have L3 : ∀ (n3 : Nat) (l1 : Int32) (l2 : Int32), 0 ≤ l2.toInt → l2.toInt ≤ 20 → (20 - l2.toInt).toNat < n3 → pm_V sc d 31 4 [.ref 10, .int n, .int l1, .int l2] [] w (fun rv w' => pm_wI (fun v => True) rv ∧ w = w') := by
    intro n3
    induction n3 with
    | zero => intro l1 l2 t5 t6 hm4; exact absurd hm4 (Nat.not_lt_zero _)
    | succ n3 ih4_3 =>
      intro l1 l2 t5 t6 hm4
      refine v_iload_n rfl rfl ?_
      refine v_aload_n rfl rfl ?_
      obtain ⟨v8, v9, v10, ⟨v8a, v8b⟩, ⟨v9a, v9b⟩, v10z, h7⟩ := hI.2 10 (by decide)
      have v10z := v10z.imp i_eq.mp i_eq.mp
      rw [i_0, i_1] at v10z
      refine v_get rfl h7 rfl ?_
      refine r_icmp_ge rfl (fun t11 => ?_) (fun t11 => ?_)
      · refine v_iload_n rfl rfl ?_
        exact v_iret rfl ⟨⟨_, rfl, trivial⟩, rfl⟩
      · refine v_aload_n rfl rfl ?_
        refine v_get rfl h7 rfl ?_
        refine v_iload_n rfl rfl ?_
        obtain ⟨xs13, xs13l, xs13r, h12⟩ := hI.2 12 (by decide)
        refine r_iaload rfl h12 xs13l (by omega) (by omega) (fun z14 z14m z14g => ?_)
        obtain ⟨z14a, z14b⟩ := xs13r z14 z14m
        refine v_iload_n rfl rfl ?_
        refine r_icmp_le rfl (fun t15 => ?_) (fun t15 => ?_)
        · refine r_iinc rfl rfl (by decide) (by omega) (by omega) (fun z16 z16e => ?_)
          refine v_goto rfl ?_
          exact ih4_3 l1 z16 (by omega) (by omega) (by omega)
        · refine u_iinc rfl rfl (fun z17 => ?_)
          refine r_iinc rfl rfl (by decide) (by omega) (by omega) (fun z18 z18e => ?_)
          refine v_goto rfl ?_
          exact ih4_3 z17 z18 (by omega) (by omega) (by omega)
  exact L3 _ (0 : Int32) (0 : Int32) (by omega) (by omega) (Nat.lt_add_one _)
set_option maxRecDepth 100000 in
theorem W_X6_longest_10 {sc : pm_S} {w : pm_W} {gi : Nat → Int32} {ga : Nat → List Int32}   (hR : pm_Rg gi ga) (hI : pm_IX gi ga w) : pm_Mt sc 1 32 3 [.ref 10] w (fun rv w' => pm_wI (fun v => True) rv ∧ w = w') := by
  intro d hd
  obtain ⟨g0a, g0b⟩ := hR.n0
  obtain ⟨g1a, g1b⟩ := hR.n1
  obtain ⟨g2a, g2b⟩ := hR.n2
  obtain ⟨g3a, g3b⟩ := hR.n3
  obtain ⟨g4a, g4b⟩ := hR.n4
  obtain ⟨g5a, g5b⟩ := hR.n5
  obtain ⟨g6a, g6b⟩ := hR.n6
  obtain ⟨g7a, g7b⟩ := hR.n7
  obtain ⟨g8a, g8b⟩ := hR.n8
  have k0 : (0 : Int32).toInt = 0 := by decide
  show pm_V sc d 32 0 [.ref 10, .null, .null] [] w _
  refine v_iconst (v := 0) rfl (by decide) ?_
  refine v_istore_n rfl (Nat.le_of_ble_eq_true rfl) ?_
  refine v_iconst (v := 0) rfl (by decide) ?_
  refine v_istore_n rfl (Nat.le_of_ble_eq_true rfl) ?_
  have L3 : ∀ (n3 : Nat) (l1 : Int32) (l2 : Int32), 0 ≤ l2.toInt → l2.toInt ≤ 20 → (20 - l2.toInt).toNat < n3 → pm_V sc d 32 4 [.ref 10, .int l1, .int l2] [] w (fun rv w' => pm_wI (fun v => True) rv ∧ w = w') := by
    intro n3
    induction n3 with
    | zero => intro l1 l2 t5 t6 hm4; exact absurd hm4 (Nat.not_lt_zero _)
    | succ n3 ih4_3 =>
      intro l1 l2 t5 t6 hm4
      refine v_iload_n rfl rfl ?_
      refine v_aload_n rfl rfl ?_
      obtain ⟨v8, v9, v10, ⟨v8a, v8b⟩, ⟨v9a, v9b⟩, v10z, h7⟩ := hI.2 10 (by decide)
      have v10z := v10z.imp i_eq.mp i_eq.mp
      rw [i_0, i_1] at v10z
      refine v_get rfl h7 rfl ?_
      refine r_icmp_ge rfl (fun t11 => ?_) (fun t11 => ?_)
      · refine v_iload_n rfl rfl ?_
        exact v_iret rfl ⟨⟨_, rfl, trivial⟩, rfl⟩
      · refine v_iload_n rfl rfl ?_
        refine v_aload_n rfl rfl ?_
        refine v_get rfl h7 rfl ?_
        refine v_iload_n rfl rfl ?_
        obtain ⟨xs13, xs13l, xs13r, h12⟩ := hI.2 12 (by decide)
        refine r_iaload rfl h12 xs13l (by omega) (by omega) (fun z14 z14m z14g => ?_)
        obtain ⟨z14a, z14b⟩ := xs13r z14 z14m
        refine r_max rfl (by omega) rfl (fun z15 z15a z15b z15c => ?_)
        refine v_istore_n rfl (Nat.le_of_ble_eq_true rfl) ?_
        refine r_iinc rfl rfl (by decide) (by omega) (by omega) (fun z16 z16e => ?_)
        refine v_goto rfl ?_
        exact ih4_3 z15 z16 (by omega) (by omega) (by omega)
  exact L3 _ (0 : Int32) (0 : Int32) (by omega) (by omega) (Nat.lt_add_one _)
set_option maxRecDepth 100000 in
theorem W_X6_costOf_10 {sc : pm_S} {w : pm_W} {gi : Nat → Int32} {ga : Nat → List Int32} (x : Int32)  (hR : pm_Rg gi ga) (hI : pm_IX gi ga w) : pm_Mt sc 0 37 2 [.ref 10, .int x] w (fun rv w' => pm_wI (fun v => True) rv ∧ w = w') := by
  intro d hd
  obtain ⟨g0a, g0b⟩ := hR.n0
  obtain ⟨g1a, g1b⟩ := hR.n1
  obtain ⟨g2a, g2b⟩ := hR.n2
  obtain ⟨g3a, g3b⟩ := hR.n3
  obtain ⟨g4a, g4b⟩ := hR.n4
  obtain ⟨g5a, g5b⟩ := hR.n5
  obtain ⟨g6a, g6b⟩ := hR.n6
  obtain ⟨g7a, g7b⟩ := hR.n7
  obtain ⟨g8a, g8b⟩ := hR.n8
  have k1 : (1 : Int32).toInt = 1 := by decide
  have k1048576 : (1048576 : Int32).toInt = 1048576 := by decide
  show pm_V sc d 37 0 [.ref 10, .int x] [] w _
  refine v_ldc (v := 1048576) rfl (by decide) ?_
  refine v_iconst (v := 1) rfl (by decide) ?_
  refine v_iload_n rfl rfl ?_
  refine u_ishl rfl (fun z1 => ?_)
  refine u_iadd rfl (fun z2 => ?_)
  exact v_iret rfl ⟨⟨_, rfl, trivial⟩, rfl⟩
set_option maxRecDepth 100000 in
theorem W_X6_cheapestAhead_10 {sc : pm_S} {w : pm_W} {gi : Nat → Int32} {ga : Nat → List Int32} (i : Int32) (n : Int32) (p0 : n.toInt ≤ 20) (p1 : 0 ≤ n.toInt) (p2 : i.toInt ≤ 21) (p3 : 1 ≤ i.toInt) (hR : pm_Rg gi ga) (hI : pm_IX gi ga w) : pm_Mt sc 1 36 5 [.ref 10, .int i, .int n] w (fun rv w' => pm_wI (fun v => True) rv ∧ w = w') := by
  intro d hd
  obtain ⟨g0a, g0b⟩ := hR.n0
  obtain ⟨g1a, g1b⟩ := hR.n1
  obtain ⟨g2a, g2b⟩ := hR.n2
  obtain ⟨g3a, g3b⟩ := hR.n3
  obtain ⟨g4a, g4b⟩ := hR.n4
  obtain ⟨g5a, g5b⟩ := hR.n5
  obtain ⟨g6a, g6b⟩ := hR.n6
  obtain ⟨g7a, g7b⟩ := hR.n7
  obtain ⟨g8a, g8b⟩ := hR.n8
  have k0 : (0 : Int32).toInt = 0 := by decide
  have k1 : (1 : Int32).toInt = 1 := by decide
  have k2147483647 : (2147483647 : Int32).toInt = 2147483647 := by decide
  show pm_V sc d 36 0 [.ref 10, .int i, .int n, .null, .null] [] w _
  refine v_ldc (v := 2147483647) rfl (by decide) ?_
  refine v_istore_n rfl (Nat.le_of_ble_eq_true rfl) ?_
  refine v_iconst (v := 0) rfl (by decide) ?_
  refine v_iload_n rfl rfl ?_
  refine v_iload_n rfl rfl ?_
  refine r_isub rfl (by omega) (by omega) (fun z1 z1e => ?_)
  refine v_iconst (v := 1) rfl (by decide) ?_
  refine r_isub rfl (by omega) (by omega) (fun z2 z2e => ?_)
  refine r_max rfl (by omega) rfl (fun z3 z3a z3b z3c => ?_)
  refine v_istore rfl (Nat.le_of_ble_eq_true rfl) ?_
  have L6 : ∀ (n6 : Nat) (l4 : Int32) (l5 : Int32), 0 ≤ l5.toInt → l5.toInt ≤ 21 → (l5.toInt ≤ i.toInt) → (i.toInt - l5.toInt).toNat < n6 → pm_V sc d 36 14 [.ref 10, .int i, .int n, .int l4, .int l5] [] w (fun rv w' => pm_wI (fun v => True) rv ∧ w = w') := by
    intro n6
    induction n6 with
    | zero => intro l4 l5 t8 t9 t10 hm7; exact absurd hm7 (Nat.not_lt_zero _)
    | succ n6 ih14_6 =>
      intro l4 l5 t8 t9 t10 hm7
      refine v_iload rfl rfl ?_
      refine v_iload_n rfl rfl ?_
      refine r_icmp_ge rfl (fun t11 => ?_) (fun t11 => ?_)
      · refine v_iload_n rfl rfl ?_
        exact v_iret rfl ⟨⟨_, rfl, trivial⟩, rfl⟩
      · refine v_iload_n rfl rfl ?_
        refine v_aload_n rfl rfl ?_
        obtain ⟨v13, v14, v15, ⟨v13a, v13b⟩, ⟨v14a, v14b⟩, v15z, h12⟩ := hI.2 10 (by decide)
        have v15z := v15z.imp i_eq.mp i_eq.mp
        rw [i_0, i_1] at v15z
        refine v_get rfl h12 rfl ?_
        refine v_iload rfl rfl ?_
        obtain ⟨xs17, xs17l, h16⟩ := hI.2 13 (by decide)
        refine r_iaload rfl h16 xs17l (by omega) (by omega) (fun z18 z18m z18g => ?_)
        refine r_min rfl (by omega) rfl (fun z19 z19a z19b z19c => ?_)
        refine v_istore_n rfl (Nat.le_of_ble_eq_true rfl) ?_
        refine r_iinc rfl rfl (by decide) (by omega) (by omega) (fun z20 z20e => ?_)
        refine v_goto rfl ?_
        exact ih14_6 z19 z20 (by omega) (by omega) (by omega) (by omega)
  exact L6 _ (2147483647 : Int32) z3 (by omega) (by omega) (by omega) (Nat.lt_add_one _)
set_option maxRecDepth 100000 in
theorem W_X6_openCost_10 {sc : pm_S} {w w0 : pm_W} {gi : Nat → Int32} {ga : Nat → List Int32} (s : Int32) (l : Int32) (n : Int32) (p0 : n.toInt ≤ 20) (p1 : 0 ≤ n.toInt) (p2 : l.toInt ≤ 20) (p3 : 0 ≤ l.toInt) (hR : pm_Rg gi ga) (hI : pm_IX gi ga w) (hh : pm_hi w0 w) : pm_Mt sc 2 35 5 [.ref 10, .int s, .int l, .int n] w (fun rv w' => pm_wI (fun v => True) rv ∧ pm_IX gi ga w' ∧ pm_hi w0 w') := by
  intro d hd
  obtain ⟨g0a, g0b⟩ := hR.n0
  obtain ⟨g1a, g1b⟩ := hR.n1
  obtain ⟨g2a, g2b⟩ := hR.n2
  obtain ⟨g3a, g3b⟩ := hR.n3
  obtain ⟨g4a, g4b⟩ := hR.n4
  obtain ⟨g5a, g5b⟩ := hR.n5
  obtain ⟨g6a, g6b⟩ := hR.n6
  obtain ⟨g7a, g7b⟩ := hR.n7
  obtain ⟨g8a, g8b⟩ := hR.n8
  have k0 : (0 : Int32).toInt = 0 := by decide
  have k1 : (1 : Int32).toInt = 1 := by decide
  show pm_V sc d 35 0 [.ref 10, .int s, .int l, .int n, .null] [] w _
  refine v_aload_n rfl rfl ?_
  obtain ⟨v2, v3, v4, ⟨v2a, v2b⟩, ⟨v3a, v3b⟩, v4z, h1⟩ := hI.2 10 (by decide)
  have v4z := v4z.imp i_eq.mp i_eq.mp
  rw [i_0, i_1] at v4z
  refine v_get rfl h1 rfl ?_
  refine v_iconst (v := 0) rfl (by decide) ?_
  refine v_iconst (v := 0) rfl (by decide) ?_
  obtain ⟨xs6, xs6l, h5⟩ := hI.2 13 (by decide)
  refine r_iastore rfl h5 xs6l (by omega) (by omega) (fun ys7 ys7l ys7m ys7g => ?_)
  refine r_gen (w' := w.set 13 (.inl (0, .inl ys7))) (fun w8 e9 => ?_)
  have hI10 : pm_IX gi ga w8 := by rw [e9]; exact hI.set 13 (by decide) ⟨ys7, ys7l, rfl⟩
  have hh11 : pm_hi w0 w8 := by rw [e9]; exact hh.set (by decide) _
  have h12 := r_get_ne e9 (show 13 ≠ 10 by decide) h1
  have h13 := r_get_eq e9 h5
  refine v_iconst (v := 1) rfl (by decide) ?_
  refine v_istore rfl (Nat.le_of_ble_eq_true rfl) ?_
  have L18 : ∀ (n18 : Nat) (l14 : Int32) (w15 : pm_W), pm_IX gi ga w15 → pm_hi w0 w15 → 1 ≤ l14.toInt → l14.toInt ≤ 21 → (21 - l14.toInt).toNat < n18 → pm_V sc d 35 10 [.ref 10, .int s, .int l, .int n, .int l14] [] w15 (fun rv w' => pm_wI (fun v => True) rv ∧ pm_IX gi ga w' ∧ pm_hi w0 w') := by
    intro n18
    induction n18 with
    | zero => intro l14 w15 hI16 hh17 t20 t21 hm19; exact absurd hm19 (Nat.not_lt_zero _)
    | succ n18 ih10_18 =>
      intro l14 w15 hI16 hh17 t20 t21 hm19
      refine v_iload rfl rfl ?_
      refine v_iload_n rfl rfl ?_
      refine r_icmp_gt rfl (fun t22 => ?_) (fun t22 => ?_)
      · refine v_aload_n rfl rfl ?_
        refine v_iload_n rfl rfl ?_
        refine v_iconst (v := 1) rfl (by decide) ?_
        refine r_iadd rfl (by omega) (by omega) (fun z23 z23e => ?_)
        refine v_iload_n rfl rfl ?_
        obtain ⟨v25, v26, v27, ⟨v25a, v25b⟩, ⟨v26a, v26b⟩, v27z, h24⟩ := hI16.2 10 (by decide)
        have v27z := v27z.imp i_eq.mp i_eq.mp
        rw [i_0, i_1] at v27z
        refine v_callV rfl (W_X6_cheapestAhead_10 z23 n (by omega) (by omega) (by omega) (by omega) hR hI16) rfl rfl h24 rfl rfl (by omega) (fun rv w28 hq29 => ?_)
        obtain ⟨⟨z30, rfl, -⟩, rfl⟩ := hq29
        exact v_iret rfl ⟨⟨_, rfl, trivial⟩, hI16, hh17⟩
      · refine v_aload_n rfl rfl ?_
        obtain ⟨v32, v33, v34, ⟨v32a, v32b⟩, ⟨v33a, v33b⟩, v34z, h31⟩ := hI16.2 10 (by decide)
        have v34z := v34z.imp i_eq.mp i_eq.mp
        rw [i_0, i_1] at v34z
        refine v_get rfl h31 rfl ?_
        refine v_iload rfl rfl ?_
        refine v_aload_n rfl rfl ?_
        refine v_iload rfl rfl ?_
        refine v_iload_n rfl rfl ?_
        refine v_callV rfl (W_X6_cheapestAhead_10 l14 n (by omega) (by omega) (by omega) (by omega) hR hI16) rfl rfl h31 rfl rfl (by omega) (fun rv w35 hq36 => ?_)
        obtain ⟨⟨z37, rfl, -⟩, rfl⟩ := hq36
        refine v_aload_n rfl rfl ?_
        refine v_iload_n rfl rfl ?_
        refine v_iload rfl rfl ?_
        refine u_iadd rfl (fun z38 => ?_)
        refine v_iconst (v := 1) rfl (by decide) ?_
        refine u_isub rfl (fun z39 => ?_)
        refine v_aload_n rfl rfl ?_
        refine v_get rfl h31 rfl ?_
        refine v_callS rfl (W_X11_around_any z39 v32 hR hI16) rfl rfl rfl rfl rfl (by omega) (fun rv w40 hq41 => ?_)
        obtain ⟨⟨z42, rfl, -⟩, rfl⟩ := hq41
        refine v_callV rfl (W_X6_costOf_10 z42 hR hI16) rfl rfl h31 rfl rfl (by omega) (fun rv w43 hq44 => ?_)
        obtain ⟨⟨z45, rfl, -⟩, rfl⟩ := hq44
        refine u_iadd rfl (fun z46 => ?_)
        obtain ⟨xs48, xs48l, h47⟩ := hI16.2 13 (by decide)
        refine r_iastore rfl h47 xs48l (by omega) (by omega) (fun ys49 ys49l ys49m ys49g => ?_)
        refine r_gen (w' := w15.set 13 (.inl (0, .inl ys49))) (fun w50 e51 => ?_)
        have hI52 : pm_IX gi ga w50 := by rw [e51]; exact hI16.set 13 (by decide) ⟨ys49, ys49l, rfl⟩
        have hh53 : pm_hi w0 w50 := by rw [e51]; exact hh17.set (by decide) _
        have h54 := r_get_ne e51 (show 13 ≠ 10 by decide) h31
        have h55 := r_get_eq e51 h47
        refine r_iinc rfl rfl (by decide) (by omega) (by omega) (fun z56 z56e => ?_)
        refine v_goto rfl ?_
        exact ih10_18 z56 w50 hI52 hh53 (by omega) (by omega) (by omega)
  exact L18 _ (1 : Int32) w8 hI10 hh11 (by omega) (by omega) (Nat.lt_add_one _)
set_option maxRecDepth 100000 in
theorem W_X6_closedCost_10 {sc : pm_S} {w w0 : pm_W} {gi : Nat → Int32} {ga : Nat → List Int32} (n : Int32) (p0 : n.toInt ≤ 20) (p1 : 0 ≤ n.toInt) (hR : pm_Rg gi ga) (hI : pm_IX gi ga w) (hh : pm_hi w0 w) : pm_Mt sc 3 34 2 [.ref 10, .int n] w (fun rv w' => pm_wI (fun v => True) rv ∧ pm_IX gi ga w' ∧ pm_hi w0 w') := by
  intro d hd
  obtain ⟨g0a, g0b⟩ := hR.n0
  obtain ⟨g1a, g1b⟩ := hR.n1
  obtain ⟨g2a, g2b⟩ := hR.n2
  obtain ⟨g3a, g3b⟩ := hR.n3
  obtain ⟨g4a, g4b⟩ := hR.n4
  obtain ⟨g5a, g5b⟩ := hR.n5
  obtain ⟨g6a, g6b⟩ := hR.n6
  obtain ⟨g7a, g7b⟩ := hR.n7
  obtain ⟨g8a, g8b⟩ := hR.n8
  have k0 : (0 : Int32).toInt = 0 := by decide
  have k1 : (1 : Int32).toInt = 1 := by decide
  show pm_V sc d 34 0 [.ref 10, .int n] [] w _
  refine v_aload_n rfl rfl ?_
  refine v_iconst (v := 0) rfl (by decide) ?_
  obtain ⟨v2, v3, v4, ⟨v2a, v2b⟩, ⟨v3a, v3b⟩, v4z, h1⟩ := hI.2 10 (by decide)
  have v4z := v4z.imp i_eq.mp i_eq.mp
  rw [i_0, i_1] at v4z
  refine v_callV rfl (W_X6_costOf_10 (0 : Int32) hR hI) rfl rfl h1 rfl rfl (by omega) (fun rv w5 hq6 => ?_)
  obtain ⟨⟨z7, rfl, -⟩, rfl⟩ := hq6
  refine v_aload_n rfl rfl ?_
  refine v_iconst (v := 1) rfl (by decide) ?_
  refine v_aload_n rfl rfl ?_
  refine v_get rfl h1 rfl ?_
  refine v_iconst (v := 1) rfl (by decide) ?_
  refine r_isub rfl (by omega) (by omega) (fun z8 z8e => ?_)
  refine v_iload_n rfl rfl ?_
  refine v_callV rfl (W_X6_openCost_10 (1 : Int32) z8 n (by omega) (by omega) (by omega) (by omega) hR hI hh) rfl rfl h1 rfl rfl (by omega) (fun rv w9 hq10 => ?_)
  obtain ⟨⟨z11, rfl, -⟩, hI12, hh13⟩ := hq10
  refine u_iadd rfl (fun z14 => ?_)
  exact v_iret rfl ⟨⟨_, rfl, trivial⟩, hI12, hh13⟩
set_option maxRecDepth 100000 in
theorem W_X6_leastMending_10 {sc : pm_S} {w w0 : pm_W} {gi : Nat → Int32} {ga : Nat → List Int32} (n : Int32) (p0 : n.toInt ≤ 20) (p1 : 0 ≤ n.toInt) (hR : pm_Rg gi ga) (hI : pm_IX gi ga w) (hh : pm_hi w0 w) : pm_Mt sc 4 33 4 [.ref 10, .int n] w (fun rv w' => pm_wI (fun v => True) rv ∧ pm_IX gi ga w' ∧ pm_hi w0 w') := by
  intro d hd
  obtain ⟨g0a, g0b⟩ := hR.n0
  obtain ⟨g1a, g1b⟩ := hR.n1
  obtain ⟨g2a, g2b⟩ := hR.n2
  obtain ⟨g3a, g3b⟩ := hR.n3
  obtain ⟨g4a, g4b⟩ := hR.n4
  obtain ⟨g5a, g5b⟩ := hR.n5
  obtain ⟨g6a, g6b⟩ := hR.n6
  obtain ⟨g7a, g7b⟩ := hR.n7
  obtain ⟨g8a, g8b⟩ := hR.n8
  have k0 : (0 : Int32).toInt = 0 := by decide
  have k1048576 : (1048576 : Int32).toInt = 1048576 := by decide
  show pm_V sc d 33 0 [.ref 10, .int n, .null, .null] [] w _
  refine v_aload_n rfl rfl ?_
  obtain ⟨v2, v3, v4, ⟨v2a, v2b⟩, ⟨v3a, v3b⟩, v4z, h1⟩ := hI.2 10 (by decide)
  have v4z := v4z.imp i_eq.mp i_eq.mp
  rw [i_0, i_1] at v4z
  refine v_get rfl h1 rfl ?_
  refine r_if_eq rfl (fun t5 => ?_) (fun t5 => ?_)
  · refine v_iconst (v := 0) rfl (by decide) ?_
    refine v_istore_n rfl (Nat.le_of_ble_eq_true rfl) ?_
    refine v_iconst (v := 0) rfl (by decide) ?_
    refine v_istore_n rfl (Nat.le_of_ble_eq_true rfl) ?_
    have L11 : ∀ (n11 : Nat) (l6 : Int32) (l7 : Int32) (w8 : pm_W), pm_IX gi ga w8 → pm_hi w0 w8 → 0 ≤ l7.toInt → l7.toInt ≤ 20 → (20 - l7.toInt).toNat < n11 → pm_V sc d 33 32 [.ref 10, .int n, .int l6, .int l7] [] w8 (fun rv w' => pm_wI (fun v => True) rv ∧ pm_IX gi ga w' ∧ pm_hi w0 w') := by
      intro n11
      induction n11 with
      | zero => intro l6 l7 w8 hI9 hh10 t13 t14 hm12; exact absurd hm12 (Nat.not_lt_zero _)
      | succ n11 ih32_11 =>
        intro l6 l7 w8 hI9 hh10 t13 t14 hm12
        refine v_iload_n rfl rfl ?_
        refine v_aload_n rfl rfl ?_
        obtain ⟨v16, v17, v18, ⟨v16a, v16b⟩, ⟨v17a, v17b⟩, v18z, h15⟩ := hI9.2 10 (by decide)
        have v18z := v18z.imp i_eq.mp i_eq.mp
        rw [i_0, i_1] at v18z
        refine v_get rfl h15 rfl ?_
        refine r_icmp_ge rfl (fun t19 => ?_) (fun t19 => ?_)
        · refine v_iload_n rfl rfl ?_
          refine v_ldc (v := 1048576) rfl (by decide) ?_
          refine u_irem rfl (by omega) (fun z20 => ?_)
          exact v_iret rfl ⟨⟨_, rfl, trivial⟩, hI9, hh10⟩
        · refine v_iload_n rfl rfl ?_
          refine v_aload_n rfl rfl ?_
          refine v_aload_n rfl rfl ?_
          refine v_get rfl h15 rfl ?_
          refine v_iload_n rfl rfl ?_
          obtain ⟨xs22, xs22l, h21⟩ := hI9.2 11 (by decide)
          refine r_iaload rfl h21 xs22l (by omega) (by omega) (fun z23 z23m z23g => ?_)
          refine v_aload_n rfl rfl ?_
          refine v_get rfl h15 rfl ?_
          refine v_iload_n rfl rfl ?_
          obtain ⟨xs25, xs25l, xs25r, h24⟩ := hI9.2 12 (by decide)
          refine r_iaload rfl h24 xs25l (by omega) (by omega) (fun z26 z26m z26g => ?_)
          obtain ⟨z26a, z26b⟩ := xs25r z26 z26m
          refine v_iload_n rfl rfl ?_
          refine v_callV rfl (W_X6_openCost_10 z23 z26 n (by omega) (by omega) (by omega) (by omega) hR hI9 hh10) rfl rfl h15 rfl rfl (by omega) (fun rv w27 hq28 => ?_)
          obtain ⟨⟨z29, rfl, -⟩, hI30, hh31⟩ := hq28
          refine u_iadd rfl (fun z32 => ?_)
          refine v_istore_n rfl (Nat.le_of_ble_eq_true rfl) ?_
          refine r_iinc rfl rfl (by decide) (by omega) (by omega) (fun z33 z33e => ?_)
          refine v_goto rfl ?_
          exact ih32_11 z32 z33 w27 hI30 hh31 (by omega) (by omega) (by omega)
    exact L11 _ (0 : Int32) (0 : Int32) w hI hh (by omega) (by omega) (Nat.lt_add_one _)
  · refine v_aload_n rfl rfl ?_
    refine v_get rfl h1 rfl ?_
    refine v_iload_n rfl rfl ?_
    refine r_icmp_le rfl (fun t34 => ?_) (fun t34 => ?_)
    · refine v_iconst (v := 0) rfl (by decide) ?_
      exact v_iret rfl ⟨⟨_, rfl, trivial⟩, hI, hh⟩
    · refine v_aload_n rfl rfl ?_
      refine v_iload_n rfl rfl ?_
      refine v_callV rfl (W_X6_closedCost_10 n (by omega) (by omega) hR hI hh) rfl rfl h1 rfl rfl (by omega) (fun rv w35 hq36 => ?_)
      obtain ⟨⟨z37, rfl, -⟩, hI38, hh39⟩ := hq36
      refine v_ldc (v := 1048576) rfl (by decide) ?_
      refine u_irem rfl (by omega) (fun z40 => ?_)
      refine v_goto rfl ?_
      exact v_iret rfl ⟨⟨_, rfl, trivial⟩, hI38, hh39⟩
set_option maxRecDepth 100000 in
theorem W_X11_floats_0 {sc : pm_S} {w w0 : pm_W} {gi : Nat → Int32} {ga : Nat → List Int32} (y : Int32) (k : Int32)  (hR : pm_Rg gi ga) (hI : pm_IX gi ga w) (hh : pm_hi w0 w) : pm_Mt sc 4 83 3 [.ref 0, .int y, .int k] w (fun rv w' => pm_wI (fun v => True) rv ∧ pm_IX gi ga w' ∧ pm_hi w0 w') := by
  intro d hd
  obtain ⟨g0a, g0b⟩ := hR.n0
  obtain ⟨g1a, g1b⟩ := hR.n1
  obtain ⟨g2a, g2b⟩ := hR.n2
  obtain ⟨g3a, g3b⟩ := hR.n3
  obtain ⟨g4a, g4b⟩ := hR.n4
  obtain ⟨g5a, g5b⟩ := hR.n5
  obtain ⟨g6a, g6b⟩ := hR.n6
  obtain ⟨g7a, g7b⟩ := hR.n7
  obtain ⟨g8a, g8b⟩ := hR.n8
  have km2 : (-2 : Int32).toInt = -2 := by decide
  have km1 : (-1 : Int32).toInt = -1 := by decide
  have k2 : (2 : Int32).toInt = 2 := by decide
  show pm_V sc d 83 0 [.ref 0, .int y, .int k] [] w _
  refine v_iload_n rfl rfl ?_
  refine v_aload_n rfl rfl ?_
  obtain ⟨v2, ⟨v2z, v2e⟩, h1⟩ := hI.2 0 (by decide)
  have v2z := v2z.imp i_eq.mp i_eq.mp
  rw [i_0, i_1] at v2z
  refine v_get rfl h1 rfl ?_
  have h3 : _ = some _ := hI.2 1 (by decide)
  refine v_get rfl h3 rfl ?_
  refine v_callS rfl (W_X11_isPlace y (gi 1) hR hI) rfl rfl rfl rfl rfl (by omega) (fun rv w4 hq5 => ?_)
  obtain ⟨⟨z6, rfl, z6p0⟩, rfl⟩ := hq5
  refine r_if_ne rfl (fun t7 => ?_) (fun t7 => ?_)
  · refine v_iload_n rfl rfl ?_
    refine v_iconst (v := 2) rfl (by decide) ?_
    refine v_callS rfl (W_X11_isPlace k (2 : Int32) hR hI) rfl rfl rfl rfl rfl (by omega) (fun rv w8 hq9 => ?_)
    obtain ⟨⟨z10, rfl, z10p0⟩, rfl⟩ := hq9
    refine r_if_ne rfl (fun t11 => ?_) (fun t11 => ?_)
    · refine v_aload_n rfl rfl ?_
      refine v_get rfl h1 rfl ?_
      refine v_aload_n rfl rfl ?_
      refine v_get rfl h1 rfl ?_
      refine v_iload_n rfl rfl ?_
      obtain ⟨v13, v14, v15, ⟨v13a, v13b⟩, ⟨v14a, v14b⟩, v15z, h12⟩ := hI.2 10 (by decide)
      have v15z := v15z.imp i_eq.mp i_eq.mp
      rw [i_0, i_1] at v15z
      refine v_callV rfl (W_X6_readFrom_10_1 y (by omega) (by omega) hR hI hh) rfl rfl h12 rfl rfl (by omega) (fun rv w16 hq17 => ?_)
      obtain ⟨rfl, hI19, hh20⟩ := hq17
      refine v_iload_n rfl rfl ?_
      refine r_if_ne rfl (fun t21 => ?_) (fun t21 => ?_)
      · refine v_aload_n rfl rfl ?_
        obtain ⟨v23, ⟨v23z, v23e⟩, h22⟩ := hI19.2 0 (by decide)
        have v23z := v23z.imp i_eq.mp i_eq.mp
        rw [i_0, i_1] at v23z
        refine v_get rfl h22 rfl ?_
        obtain ⟨v25, v26, v27, ⟨v25a, v25b⟩, ⟨v26a, v26b⟩, v27z, h24⟩ := hI19.2 10 (by decide)
        have v27z := v27z.imp i_eq.mp i_eq.mp
        rw [i_0, i_1] at v27z
        refine v_callV rfl (W_X6_longest_10  hR hI19) rfl rfl h24 rfl rfl (by omega) (fun rv w28 hq29 => ?_)
        obtain ⟨⟨z30, rfl, -⟩, rfl⟩ := hq29
        exact v_iret rfl ⟨⟨_, rfl, trivial⟩, hI19, hh20⟩
      · refine v_aload_n rfl rfl ?_
        obtain ⟨v32, ⟨v32z, v32e⟩, h31⟩ := hI19.2 0 (by decide)
        have v32z := v32z.imp i_eq.mp i_eq.mp
        rw [i_0, i_1] at v32z
        refine v_get rfl h31 rfl ?_
        refine v_aload_n rfl rfl ?_
        refine v_get rfl h31 rfl ?_
        obtain ⟨v34, v35, v36, ⟨v34a, v34b⟩, ⟨v35a, v35b⟩, v36z, h33⟩ := hI19.2 10 (by decide)
        have v36z := v36z.imp i_eq.mp i_eq.mp
        rw [i_0, i_1] at v36z
        refine v_callV rfl (W_X6_longerThan_10 (gi 2) hR hI19) rfl rfl h33 rfl rfl (by omega) (fun rv w37 hq38 => ?_)
        obtain ⟨⟨z39, rfl, -⟩, rfl⟩ := hq38
        refine v_goto rfl ?_
        exact v_iret rfl ⟨⟨_, rfl, trivial⟩, hI19, hh20⟩
    · refine v_aload_n rfl rfl ?_
      refine v_bipush (v := (-2)) rfl (by decide) ?_
      refine v_callV rfl (c_X_refuse (-2 : Int32) (by unfold pm_isR; first | decide | exact Or.inl rfl) hR hI) rfl rfl h1 rfl rfl (by omega) (fun rv w40 hq41 => ?_)
      obtain ⟨rfl, hI42, hh43x⟩ := hq41
      have hI42 : pm_IX gi ga w40 := hI42
      have hh43 := hh.tr hh43x
      exact v_iret rfl ⟨⟨_, rfl, trivial⟩, hI42, hh43⟩
  · refine v_aload_n rfl rfl ?_
    refine v_iconst (v := (-1)) rfl (by decide) ?_
    refine v_callV rfl (c_X_refuse (-1 : Int32) (by unfold pm_isR; first | decide | exact Or.inl rfl) hR hI) rfl rfl h1 rfl rfl (by omega) (fun rv w44 hq45 => ?_)
    obtain ⟨rfl, hI46, hh47x⟩ := hq45
    have hI46 : pm_IX gi ga w44 := hI46
    have hh47 := hh.tr hh47x
    exact v_iret rfl ⟨⟨_, rfl, trivial⟩, hI46, hh47⟩
set_option maxRecDepth 100000 in
theorem W_X11_mend_0 {sc : pm_S} {w w0 : pm_W} {gi : Nat → Int32} {ga : Nat → List Int32} (y : Int32)  (hR : pm_Rg gi ga) (hI : pm_IX gi ga w) (hh : pm_hi w0 w) : pm_Mt sc 5 84 2 [.ref 0, .int y] w (fun rv w' => pm_wI (fun v => True) rv ∧ pm_IX gi ga w' ∧ pm_hi w0 w') := by
  intro d hd
  obtain ⟨g0a, g0b⟩ := hR.n0
  obtain ⟨g1a, g1b⟩ := hR.n1
  obtain ⟨g2a, g2b⟩ := hR.n2
  obtain ⟨g3a, g3b⟩ := hR.n3
  obtain ⟨g4a, g4b⟩ := hR.n4
  obtain ⟨g5a, g5b⟩ := hR.n5
  obtain ⟨g6a, g6b⟩ := hR.n6
  obtain ⟨g7a, g7b⟩ := hR.n7
  obtain ⟨g8a, g8b⟩ := hR.n8
  have km1 : (-1 : Int32).toInt = -1 := by decide
  show pm_V sc d 84 0 [.ref 0, .int y] [] w _
  refine v_iload_n rfl rfl ?_
  refine v_aload_n rfl rfl ?_
  obtain ⟨v2, ⟨v2z, v2e⟩, h1⟩ := hI.2 0 (by decide)
  have v2z := v2z.imp i_eq.mp i_eq.mp
  rw [i_0, i_1] at v2z
  refine v_get rfl h1 rfl ?_
  have h3 : _ = some _ := hI.2 1 (by decide)
  refine v_get rfl h3 rfl ?_
  refine v_callS rfl (W_X11_isPlace y (gi 1) hR hI) rfl rfl rfl rfl rfl (by omega) (fun rv w4 hq5 => ?_)
  obtain ⟨⟨z6, rfl, z6p0⟩, rfl⟩ := hq5
  refine r_if_ne rfl (fun t7 => ?_) (fun t7 => ?_)
  · refine v_aload_n rfl rfl ?_
    refine v_get rfl h1 rfl ?_
    refine v_aload_n rfl rfl ?_
    refine v_get rfl h1 rfl ?_
    refine v_iload_n rfl rfl ?_
    obtain ⟨v9, v10, v11, ⟨v9a, v9b⟩, ⟨v10a, v10b⟩, v11z, h8⟩ := hI.2 10 (by decide)
    have v11z := v11z.imp i_eq.mp i_eq.mp
    rw [i_0, i_1] at v11z
    refine v_callV rfl (W_X6_readFrom_10_1 y (by omega) (by omega) hR hI hh) rfl rfl h8 rfl rfl (by omega) (fun rv w12 hq13 => ?_)
    obtain ⟨rfl, hI15, hh16⟩ := hq13
    refine v_aload_n rfl rfl ?_
    obtain ⟨v18, ⟨v18z, v18e⟩, h17⟩ := hI15.2 0 (by decide)
    have v18z := v18z.imp i_eq.mp i_eq.mp
    rw [i_0, i_1] at v18z
    refine v_get rfl h17 rfl ?_
    refine v_aload_n rfl rfl ?_
    refine v_get rfl h17 rfl ?_
    obtain ⟨v20, v21, v22, ⟨v20a, v20b⟩, ⟨v21a, v21b⟩, v22z, h19⟩ := hI15.2 10 (by decide)
    have v22z := v22z.imp i_eq.mp i_eq.mp
    rw [i_0, i_1] at v22z
    refine v_callV rfl (W_X6_leastMending_10 (gi 2) (by omega) (by omega) hR hI15 hh16) rfl rfl h19 rfl rfl (by omega) (fun rv w23 hq24 => ?_)
    obtain ⟨⟨z25, rfl, -⟩, hI26, hh27⟩ := hq24
    exact v_iret rfl ⟨⟨_, rfl, trivial⟩, hI26, hh27⟩
  · refine v_aload_n rfl rfl ?_
    refine v_iconst (v := (-1)) rfl (by decide) ?_
    refine v_callV rfl (c_X_refuse (-1 : Int32) (by unfold pm_isR; first | decide | exact Or.inl rfl) hR hI) rfl rfl h1 rfl rfl (by omega) (fun rv w28 hq29 => ?_)
    obtain ⟨rfl, hI30, hh31x⟩ := hq29
    have hI30 : pm_IX gi ga w28 := hI30
    have hh31 := hh.tr hh31x
    exact v_iret rfl ⟨⟨_, rfl, trivial⟩, hI30, hh31⟩

