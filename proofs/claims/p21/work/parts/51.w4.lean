set_option maxRecDepth 100000 in
theorem W_X5_howMany_16 {sc : pm_S} {w : pm_W} {gi : Nat → Int32} {ga : Nat → List Int32}   (hR : pm_Rg gi ga) (hI : pm_IX gi ga w) : pm_Mt sc 0 26 3 [.ref 16] w (fun rv w' => pm_wI (fun v => True) rv ∧ w = w') := by
  intro d hd
  obtain ⟨g0a, g0b⟩ := hR.n0
  obtain ⟨g1a, g1b⟩ := hR.n1
  obtain ⟨g2a, g2b⟩ := hR.n2
  obtain ⟨g3a, g3b⟩ := hR.n3
  obtain ⟨g4a, g4b⟩ := hR.n4
  obtain ⟨g5a, g5b⟩ := hR.n5
  obtain ⟨g6a, g6b⟩ := hR.n6
  obtain ⟨g7a, g7b⟩ := hR.n7
  obtain ⟨g8a, g8b⟩ := hR.n8
  have k0 : (0 : Int32).toInt = 0 := by decide
  have k1 : (1 : Int32).toInt = 1 := by decide
  have k3 : (3 : Int32).toInt = 3 := by decide
  show pm_V sc d 26 0 [.ref 16, .null, .null] [] w _
  refine v_iconst (v := 0) rfl (by decide) ?_
  refine v_istore_n rfl (Nat.le_of_ble_eq_true rfl) ?_
  refine v_iconst (v := 1) rfl (by decide) ?_
  refine v_istore_n rfl (Nat.le_of_ble_eq_true rfl) ?_
  have L3 : ∀ (n3 : Nat) (l1 : Int32) (l2 : Int32), 1 ≤ l2.toInt → l2.toInt ≤ 4 → (4 - l2.toInt).toNat < n3 → pm_V sc d 26 4 [.ref 16, .int l1, .int l2] [] w (fun rv w' => pm_wI (fun v => True) rv ∧ w = w') := by
    intro n3
    induction n3 with
    | zero => intro l1 l2 t5 t6 hm4; exact absurd hm4 (Nat.not_lt_zero _)
    | succ n3 ih4_3 =>
      intro l1 l2 t5 t6 hm4
      refine v_iload_n rfl rfl ?_
      refine v_iconst (v := 3) rfl (by decide) ?_
      refine r_icmp_gt rfl (fun t7 => ?_) (fun t7 => ?_)
      · refine v_iload_n rfl rfl ?_
        exact v_iret rfl ⟨⟨_, rfl, trivial⟩, rfl⟩
      · refine v_aload_n rfl rfl ?_
        have h8 : _ = some _ := hI.2 16 (by decide)
        refine v_get rfl h8 rfl ?_
        refine v_iload_n rfl rfl ?_
        obtain ⟨xs10, xs10l, xs10r, xs10e, h9⟩ := hI.2 17 (by decide)
        have xs10e : xs10 = (ga 21) := xs10e
        subst xs10e
        refine r_baload rfl h9 xs10l (by omega) (by omega) (fun z11 z11m z11g => ?_)
        obtain ⟨z11a, z11b⟩ := xs10r z11 z11m
        refine r_if_eq rfl (fun t12 => ?_) (fun t12 => ?_)
        · refine r_iinc rfl rfl (by decide) (by omega) (by omega) (fun z13 z13e => ?_)
          refine v_goto rfl ?_
          exact ih4_3 l1 z13 (by omega) (by omega) (by omega)
        · refine u_iinc rfl rfl (fun z14 => ?_)
          refine r_iinc rfl rfl (by decide) (by omega) (by omega) (fun z15 z15e => ?_)
          refine v_goto rfl ?_
          exact ih4_3 z14 z15 (by omega) (by omega) (by omega)
  exact L3 _ (0 : Int32) (1 : Int32) (by omega) (by omega) (Nat.lt_add_one _)
set_option maxRecDepth 100000 in
theorem W_X11_cloth_0 {sc : pm_S} {w w0 : pm_W} {gi : Nat → Int32} {ga : Nat → List Int32} (x : Int32) (y : Int32)  (hR : pm_Rg gi ga) (hI : pm_IX gi ga w) (hh : pm_hi w0 w) : pm_Mt sc 2 88 3 [.ref 0, .int x, .int y] w (fun rv w' => pm_wI (fun v => True) rv ∧ pm_IX gi ga w' ∧ pm_hi w0 w') := by
  intro d hd
  obtain ⟨g0a, g0b⟩ := hR.n0
  obtain ⟨g1a, g1b⟩ := hR.n1
  obtain ⟨g2a, g2b⟩ := hR.n2
  obtain ⟨g3a, g3b⟩ := hR.n3
  obtain ⟨g4a, g4b⟩ := hR.n4
  obtain ⟨g5a, g5b⟩ := hR.n5
  obtain ⟨g6a, g6b⟩ := hR.n6
  obtain ⟨g7a, g7b⟩ := hR.n7
  obtain ⟨g8a, g8b⟩ := hR.n8
  have km3 : (-3 : Int32).toInt = -3 := by decide
  have km1 : (-1 : Int32).toInt = -1 := by decide
  show pm_V sc d 88 0 [.ref 0, .int x, .int y] [] w _
  refine v_aload_n rfl rfl ?_
  obtain ⟨v2, ⟨v2z, v2e⟩, h1⟩ := hI.2 0 (by decide)
  have v2z := v2z.imp i_eq.mp i_eq.mp
  rw [i_0, i_1] at v2z
  refine v_get rfl h1 rfl ?_
  refine r_if_ne rfl (fun t3 => ?_) (fun t3 => ?_)
  · refine v_aload_n rfl rfl ?_
    refine v_get rfl h1 rfl ?_
    refine v_iload_n rfl rfl ?_
    refine v_iload_n rfl rfl ?_
    obtain ⟨v5, v6, ⟨⟨v5a, v5b⟩, v5e⟩, ⟨⟨v6a, v6b⟩, v6e⟩, h4⟩ := hI.2 14 (by decide)
    refine v_callV rfl (W_X10_has_14 x y v5 v6 (by omega) (by omega) (by omega) (by omega) h4 hR hI) rfl rfl h4 rfl rfl (by omega) (fun rv w7 hq8 => ?_)
    obtain ⟨⟨z9, rfl, z9p0⟩, rfl⟩ := hq8
    refine r_if_ne rfl (fun t10 => ?_) (fun t10 => ?_)
    · refine v_aload_n rfl rfl ?_
      refine v_get rfl h1 rfl ?_
      refine v_iload_n rfl rfl ?_
      refine v_iload_n rfl rfl ?_
      refine v_callV rfl (W_X10_colourAt_14 x y (by omega) (by omega) hR hI) rfl rfl h4 rfl rfl (by omega) (fun rv w11 hq12 => ?_)
      obtain ⟨⟨z13, rfl, -⟩, rfl⟩ := hq12
      exact v_iret rfl ⟨⟨_, rfl, trivial⟩, hI, hh⟩
    · refine v_aload_n rfl rfl ?_
      refine v_iconst (v := (-1)) rfl (by decide) ?_
      refine v_callV rfl (c_X_refuse (-1 : Int32) (by unfold pm_isR; first | decide | exact Or.inl rfl) hR hI) rfl rfl h1 rfl rfl (by omega) (fun rv w14 hq15 => ?_)
      obtain ⟨rfl, hI16, hh17x⟩ := hq15
      have hI16 : pm_IX gi ga w14 := hI16
      have hh17 := hh.tr hh17x
      exact v_iret rfl ⟨⟨_, rfl, trivial⟩, hI16, hh17⟩
  · refine v_aload_n rfl rfl ?_
    refine v_bipush (v := (-3)) rfl (by decide) ?_
    refine v_callV rfl (c_X_refuse (-3 : Int32) (by unfold pm_isR; first | decide | exact Or.inl rfl) hR hI) rfl rfl h1 rfl rfl (by omega) (fun rv w18 hq19 => ?_)
    obtain ⟨rfl, hI20, hh21x⟩ := hq19
    have hI20 : pm_IX gi ga w18 := hI20
    have hh21 := hh.tr hh21x
    exact v_iret rfl ⟨⟨_, rfl, trivial⟩, hI20, hh21⟩
