set_option maxRecDepth 100000 in
theorem W_X5_columnShown_16_5_x {sc : pm_S} {w : pm_W} {gi : Nat → Int32} {ga : Nat → List Int32} (x : Int32) (c5_0 : Int32) (c8 : List Int32) (c9 : List Int32) (p0 : x.toInt ≤ 19) (p1 : 0 ≤ x.toInt) (p2 : 0 ≤ c5_0.toInt) (p3 : c5_0.toInt ≤ 20) (hc5 : w[5]? = some (.inr (3, [.int c5_0, .ref 6, .ref 8, .ref 9]))) (hc8 : w[8]? = some (.inl (0, .inl c8))) (hl8 : c8.length = 20) (hr8 : ∀ x ∈ c8, pm_rng x (0) 19) (hc9 : w[9]? = some (.inl (0, .inl c9))) (hl9 : c9.length = 20) (hr9 : ∀ x ∈ c9, pm_rng x (0) 19) (hR : pm_Rg gi ga) (hI : pm_IX gi ga w) : pm_Mt sc 1 27 6 [.ref 16, .int x, .ref 5] w (fun rv w' => pm_wI (fun v => -9 ≤ v.toInt ∧ v.toInt ≤ 19 ∧ v.toInt = wv_col (ga 21) (ga 22) (ga 23) c9 c8 c5_0.toInt x.toInt.toNat) rv ∧ w = w') := by
  intro d hd
  obtain ⟨g0a, g0b⟩ := hR.n0
  obtain ⟨g1a, g1b⟩ := hR.n1
  obtain ⟨g2a, g2b⟩ := hR.n2
  obtain ⟨g3a, g3b⟩ := hR.n3
  obtain ⟨g4a, g4b⟩ := hR.n4
  obtain ⟨g5a, g5b⟩ := hR.n5
  obtain ⟨g6a, g6b⟩ := hR.n6
  obtain ⟨g7a, g7b⟩ := hR.n7
  obtain ⟨g8a, g8b⟩ := hR.n8
  have km9 : (-9 : Int32).toInt = -9 := by decide
  have k1 : (1 : Int32).toInt = 1 := by decide
  have k3 : (3 : Int32).toInt = 3 := by decide
  show pm_V sc d 27 0 [.ref 16, .int x, .ref 5, .null, .null, .null] [] w _
  refine v_aload_n rfl rfl ?_
  refine v_get rfl hc5 rfl ?_
  refine v_iload_n rfl rfl ?_
  refine r_iaload rfl hc8 hl8 (by omega) (by omega) (fun z1 z1m z1g => ?_)
  obtain ⟨z1a, z1b⟩ := hr8 z1 z1m
  have z1h : z1.toInt = sq_lk c8 x.toInt.toNat := congrArg Int32.toInt z1g
  refine v_istore_n rfl (Nat.le_of_ble_eq_true rfl) ?_
  refine v_aload_n rfl rfl ?_
  have h2 : _ = some _ := hI.2 16 (by decide)
  refine v_get rfl h2 rfl ?_
  refine v_iconst (v := 1) rfl (by decide) ?_
  obtain ⟨xs4, xs4l, xs4r, xs4e, h3⟩ := hI.2 17 (by decide)
  have xs4e : xs4 = (ga 21) := xs4e
  subst xs4e
  refine r_baload rfl h3 xs4l (by omega) (by omega) (fun z5 z5m z5g => ?_)
  have z5t : z5.toInt = ((ga 21).getD 1 0).toInt := congrArg Int32.toInt z5g
  obtain ⟨z5a, z5b⟩ := xs4r z5 z5m
  refine r_if_eq rfl (fun t6 => ?_) (fun t6 => ?_)
  · refine v_aload_n rfl rfl ?_
    refine v_get rfl h2 rfl ?_
    refine v_iconst (v := 3) rfl (by decide) ?_
    obtain ⟨xs8, xs8l, xs8e, h7⟩ := hI.2 18 (by decide)
    have xs8e : xs8 = (ga 22) := xs8e
    subst xs8e
    refine r_iaload rfl h7 xs8l (by omega) (by omega) (fun z9 z9m z9g => ?_)
    have z9t : z9.toInt = ((ga 22).getD 3 0).toInt := congrArg Int32.toInt z9g
    refine v_istore rfl (Nat.le_of_ble_eq_true rfl) ?_
    refine v_aload_n rfl rfl ?_
    refine v_get rfl h2 rfl ?_
    refine v_iconst (v := 3) rfl (by decide) ?_
    obtain ⟨xs11, xs11l, xs11e, h10⟩ := hI.2 19 (by decide)
    have xs11e : xs11 = (ga 23) := xs11e
    subst xs11e
    refine r_iaload rfl h10 xs11l (by omega) (by omega) (fun z12 z12m z12g => ?_)
    have z12t : z12.toInt = ((ga 23).getD 3 0).toInt := congrArg Int32.toInt z12g
    refine v_istore rfl (Nat.le_of_ble_eq_true rfl) ?_
    refine v_aload_n rfl rfl ?_
    refine v_get rfl h2 rfl ?_
    refine v_iconst (v := 3) rfl (by decide) ?_
    refine r_baload rfl h3 xs4l (by omega) (by omega) (fun z13 z13m z13g => ?_)
    have z13t : z13.toInt = ((ga 21).getD 3 0).toInt := congrArg Int32.toInt z13g
    obtain ⟨z13a, z13b⟩ := xs4r z13 z13m
    refine r_if_eq rfl (fun t14 => ?_) (fun t14 => ?_)
    · refine v_iload_n rfl rfl ?_
      exact v_iret rfl ⟨⟨_, rfl, (by omega), (by omega), (by
          unfold wv_col
          repeat' split
          all_goals omega)⟩, rfl⟩
    · refine v_iload rfl rfl ?_
      refine v_aload_n rfl rfl ?_
      refine v_get rfl hc5 rfl ?_
      refine v_callS rfl (W_X11_isPlace z9 c5_0 hR hI) rfl rfl rfl rfl rfl (by omega) (fun rv w15 hq16 => ?_)
      obtain ⟨⟨z17, rfl, z17p0⟩, rfl⟩ := hq16
      refine r_if_eq rfl (fun t18 => ?_) (fun t18 => ?_)
      · refine v_iload_n rfl rfl ?_
        exact v_iret rfl ⟨⟨_, rfl, (by omega), (by omega), (by
            unfold wv_col
            repeat' split
            all_goals omega)⟩, rfl⟩
      · refine v_iload rfl rfl ?_
        refine v_aload_n rfl rfl ?_
        refine v_get rfl hc5 rfl ?_
        refine v_callS rfl (W_X11_isPlace z12 c5_0 hR hI) rfl rfl rfl rfl rfl (by omega) (fun rv w19 hq20 => ?_)
        obtain ⟨⟨z21, rfl, z21p0⟩, rfl⟩ := hq20
        refine r_if_ne rfl (fun t22 => ?_) (fun t22 => ?_)
        · refine v_iload_n rfl rfl ?_
          refine v_iload rfl rfl ?_
          refine r_icmp_ne rfl (fun t23 => ?_) (fun t23 => ?_)
          · refine v_iload_n rfl rfl ?_
            refine v_iload rfl rfl ?_
            refine r_icmp_ne rfl (fun t24 => ?_) (fun t24 => ?_)
            · refine v_iload_n rfl rfl ?_
              exact v_iret rfl ⟨⟨_, rfl, (by omega), (by omega), (by
                  unfold wv_col
                  repeat' split
                  all_goals omega)⟩, rfl⟩
            · refine v_aload_n rfl rfl ?_
              refine v_get rfl hc5 rfl ?_
              refine v_iload rfl rfl ?_
              refine r_iaload rfl hc9 hl9 (by omega) (by omega) (fun z25 z25m z25g => ?_)
              obtain ⟨z25a, z25b⟩ := hr9 z25 z25m
              have z25h : z25.toInt = sq_lk c9 z9.toInt.toNat := congrArg Int32.toInt z25g
              rw [z9t] at z25h
              refine v_goto rfl ?_
              exact v_iret rfl ⟨⟨_, rfl, (by omega), (by omega), (by
                  unfold wv_col
                  repeat' split
                  all_goals omega)⟩, rfl⟩
          · refine v_aload_n rfl rfl ?_
            refine v_get rfl hc5 rfl ?_
            refine v_iload rfl rfl ?_
            refine r_iaload rfl hc9 hl9 (by omega) (by omega) (fun z26 z26m z26g => ?_)
            obtain ⟨z26a, z26b⟩ := hr9 z26 z26m
            have z26h : z26.toInt = sq_lk c9 z12.toInt.toNat := congrArg Int32.toInt z26g
            rw [z12t] at z26h
            exact v_iret rfl ⟨⟨_, rfl, (by omega), (by omega), (by
                unfold wv_col
                repeat' split
                all_goals omega)⟩, rfl⟩
        · refine v_iload_n rfl rfl ?_
          exact v_iret rfl ⟨⟨_, rfl, (by omega), (by omega), (by
              unfold wv_col
              repeat' split
              all_goals omega)⟩, rfl⟩
  · refine v_aload_n rfl rfl ?_
    refine v_get rfl h2 rfl ?_
    refine v_iconst (v := 1) rfl (by decide) ?_
    obtain ⟨xs28, xs28l, xs28e, h27⟩ := hI.2 18 (by decide)
    have xs28e : xs28 = (ga 22) := xs28e
    subst xs28e
    refine r_iaload rfl h27 xs28l (by omega) (by omega) (fun z29 z29m z29g => ?_)
    have z29t : z29.toInt = ((ga 22).getD 1 0).toInt := congrArg Int32.toInt z29g
    refine v_iload_n rfl rfl ?_
    refine r_icmp_ne rfl (fun t30 => ?_) (fun t30 => ?_)
    · refine v_aload_n rfl rfl ?_
      refine v_get rfl h2 rfl ?_
      refine v_iconst (v := 3) rfl (by decide) ?_
      refine r_iaload rfl h27 xs28l (by omega) (by omega) (fun z31 z31m z31g => ?_)
      have z31t : z31.toInt = ((ga 22).getD 3 0).toInt := congrArg Int32.toInt z31g
      refine v_istore rfl (Nat.le_of_ble_eq_true rfl) ?_
      refine v_aload_n rfl rfl ?_
      refine v_get rfl h2 rfl ?_
      refine v_iconst (v := 3) rfl (by decide) ?_
      obtain ⟨xs33, xs33l, xs33e, h32⟩ := hI.2 19 (by decide)
      have xs33e : xs33 = (ga 23) := xs33e
      subst xs33e
      refine r_iaload rfl h32 xs33l (by omega) (by omega) (fun z34 z34m z34g => ?_)
      have z34t : z34.toInt = ((ga 23).getD 3 0).toInt := congrArg Int32.toInt z34g
      refine v_istore rfl (Nat.le_of_ble_eq_true rfl) ?_
      refine v_aload_n rfl rfl ?_
      refine v_get rfl h2 rfl ?_
      refine v_iconst (v := 3) rfl (by decide) ?_
      refine r_baload rfl h3 xs4l (by omega) (by omega) (fun z35 z35m z35g => ?_)
      have z35t : z35.toInt = ((ga 21).getD 3 0).toInt := congrArg Int32.toInt z35g
      obtain ⟨z35a, z35b⟩ := xs4r z35 z35m
      refine r_if_eq rfl (fun t36 => ?_) (fun t36 => ?_)
      · refine v_iload_n rfl rfl ?_
        exact v_iret rfl ⟨⟨_, rfl, (by omega), (by omega), (by
            unfold wv_col
            repeat' split
            all_goals omega)⟩, rfl⟩
      · refine v_iload rfl rfl ?_
        refine v_aload_n rfl rfl ?_
        refine v_get rfl hc5 rfl ?_
        refine v_callS rfl (W_X11_isPlace z31 c5_0 hR hI) rfl rfl rfl rfl rfl (by omega) (fun rv w37 hq38 => ?_)
        obtain ⟨⟨z39, rfl, z39p0⟩, rfl⟩ := hq38
        refine r_if_eq rfl (fun t40 => ?_) (fun t40 => ?_)
        · refine v_iload_n rfl rfl ?_
          exact v_iret rfl ⟨⟨_, rfl, (by omega), (by omega), (by
              unfold wv_col
              repeat' split
              all_goals omega)⟩, rfl⟩
        · refine v_iload rfl rfl ?_
          refine v_aload_n rfl rfl ?_
          refine v_get rfl hc5 rfl ?_
          refine v_callS rfl (W_X11_isPlace z34 c5_0 hR hI) rfl rfl rfl rfl rfl (by omega) (fun rv w41 hq42 => ?_)
          obtain ⟨⟨z43, rfl, z43p0⟩, rfl⟩ := hq42
          refine r_if_ne rfl (fun t44 => ?_) (fun t44 => ?_)
          · refine v_iload_n rfl rfl ?_
            refine v_iload rfl rfl ?_
            refine r_icmp_ne rfl (fun t45 => ?_) (fun t45 => ?_)
            · refine v_iload_n rfl rfl ?_
              refine v_iload rfl rfl ?_
              refine r_icmp_ne rfl (fun t46 => ?_) (fun t46 => ?_)
              · refine v_iload_n rfl rfl ?_
                exact v_iret rfl ⟨⟨_, rfl, (by omega), (by omega), (by
                    unfold wv_col
                    repeat' split
                    all_goals omega)⟩, rfl⟩
              · refine v_aload_n rfl rfl ?_
                refine v_get rfl hc5 rfl ?_
                refine v_iload rfl rfl ?_
                refine r_iaload rfl hc9 hl9 (by omega) (by omega) (fun z47 z47m z47g => ?_)
                obtain ⟨z47a, z47b⟩ := hr9 z47 z47m
                have z47h : z47.toInt = sq_lk c9 z31.toInt.toNat := congrArg Int32.toInt z47g
                rw [z31t] at z47h
                refine v_goto rfl ?_
                exact v_iret rfl ⟨⟨_, rfl, (by omega), (by omega), (by
                    unfold wv_col
                    repeat' split
                    all_goals omega)⟩, rfl⟩
            · refine v_aload_n rfl rfl ?_
              refine v_get rfl hc5 rfl ?_
              refine v_iload rfl rfl ?_
              refine r_iaload rfl hc9 hl9 (by omega) (by omega) (fun z48 z48m z48g => ?_)
              obtain ⟨z48a, z48b⟩ := hr9 z48 z48m
              have z48h : z48.toInt = sq_lk c9 z34.toInt.toNat := congrArg Int32.toInt z48g
              rw [z34t] at z48h
              exact v_iret rfl ⟨⟨_, rfl, (by omega), (by omega), (by
                  unfold wv_col
                  repeat' split
                  all_goals omega)⟩, rfl⟩
          · refine v_iload_n rfl rfl ?_
            exact v_iret rfl ⟨⟨_, rfl, (by omega), (by omega), (by
                unfold wv_col
                repeat' split
                all_goals omega)⟩, rfl⟩
    · refine v_bipush (v := (-9)) rfl (by decide) ?_
      exact v_iret rfl ⟨⟨_, rfl, (by omega), (by omega), (by
          unfold wv_col
          repeat' split
          all_goals omega)⟩, rfl⟩
set_option maxRecDepth 100000 in
theorem W_X5_pickShown_16_x {sc : pm_S} {w : pm_W} {gi : Nat → Int32} {ga : Nat → List Int32} (y : Int32) (h : Int32) (p0 : h.toInt ≤ 20) (p1 : 1 ≤ h.toInt) (p2 : y.toInt ≤ 19) (p3 : 0 ≤ y.toInt) (p4 : y.toInt < h.toInt) (hR : pm_Rg gi ga) (hI : pm_IX gi ga w) : pm_Mt sc 0 28 4 [.ref 16, .int y, .int h] w (fun rv w' => pm_wI (fun v => -9 ≤ v.toInt ∧ v.toInt < h.toInt ∧ v.toInt = wv_pick (ga 21) (ga 22) h.toInt y.toInt) rv ∧ w = w') := by
  intro d hd
  obtain ⟨g0a, g0b⟩ := hR.n0
  obtain ⟨g1a, g1b⟩ := hR.n1
  obtain ⟨g2a, g2b⟩ := hR.n2
  obtain ⟨g3a, g3b⟩ := hR.n3
  obtain ⟨g4a, g4b⟩ := hR.n4
  obtain ⟨g5a, g5b⟩ := hR.n5
  obtain ⟨g6a, g6b⟩ := hR.n6
  obtain ⟨g7a, g7b⟩ := hR.n7
  obtain ⟨g8a, g8b⟩ := hR.n8
  have km9 : (-9 : Int32).toInt = -9 := by decide
  have k1 : (1 : Int32).toInt = 1 := by decide
  have k2 : (2 : Int32).toInt = 2 := by decide
  show pm_V sc d 28 0 [.ref 16, .int y, .int h, .null] [] w _
  refine v_aload_n rfl rfl ?_
  have h1 : _ = some _ := hI.2 16 (by decide)
  refine v_get rfl h1 rfl ?_
  refine v_iconst (v := 2) rfl (by decide) ?_
  obtain ⟨xs3, xs3l, xs3e, h2⟩ := hI.2 18 (by decide)
  have xs3e : xs3 = (ga 22) := xs3e
  subst xs3e
  refine r_iaload rfl h2 xs3l (by omega) (by omega) (fun z4 z4m z4g => ?_)
  have z4t : z4.toInt = ((ga 22).getD 2 0).toInt := congrArg Int32.toInt z4g
  refine v_istore_n rfl (Nat.le_of_ble_eq_true rfl) ?_
  refine v_aload_n rfl rfl ?_
  refine v_get rfl h1 rfl ?_
  refine v_iconst (v := 2) rfl (by decide) ?_
  obtain ⟨xs6, xs6l, xs6r, xs6e, h5⟩ := hI.2 17 (by decide)
  have xs6e : xs6 = (ga 21) := xs6e
  subst xs6e
  refine r_baload rfl h5 xs6l (by omega) (by omega) (fun z7 z7m z7g => ?_)
  have z7t : z7.toInt = ((ga 21).getD 2 0).toInt := congrArg Int32.toInt z7g
  obtain ⟨z7a, z7b⟩ := xs6r z7 z7m
  refine r_if_eq rfl (fun t8 => ?_) (fun t8 => ?_)
  · refine v_iload_n rfl rfl ?_
    exact v_iret rfl ⟨⟨_, rfl, (by omega), (by omega), (by
        unfold wv_pick
        repeat' split
        all_goals omega)⟩, rfl⟩
  · refine v_iload_n rfl rfl ?_
    refine v_iload_n rfl rfl ?_
    refine r_icmp_ge rfl (fun t9 => ?_) (fun t9 => ?_)
    · refine v_iload_n rfl rfl ?_
      exact v_iret rfl ⟨⟨_, rfl, (by omega), (by omega), (by
          unfold wv_pick
          repeat' split
          all_goals omega)⟩, rfl⟩
    · refine v_iload_n rfl rfl ?_
      refine v_iload_n rfl rfl ?_
      refine r_icmp_ge rfl (fun t10 => ?_) (fun t10 => ?_)
      · refine v_iload_n rfl rfl ?_
        refine v_iconst (v := 1) rfl (by decide) ?_
        refine r_iadd rfl (by omega) (by omega) (fun z11 z11e => ?_)
        refine v_iload_n rfl rfl ?_
        refine r_icmp_ge rfl (fun t12 => ?_) (fun t12 => ?_)
        · refine v_bipush (v := (-9)) rfl (by decide) ?_
          exact v_iret rfl ⟨⟨_, rfl, (by omega), (by omega), (by
              unfold wv_pick
              repeat' split
              all_goals omega)⟩, rfl⟩
        · refine v_iload_n rfl rfl ?_
          refine v_iconst (v := 1) rfl (by decide) ?_
          refine r_iadd rfl (by omega) (by omega) (fun z13 z13e => ?_)
          refine v_goto rfl ?_
          exact v_iret rfl ⟨⟨_, rfl, (by omega), (by omega), (by
              unfold wv_pick
              repeat' split
              all_goals omega)⟩, rfl⟩
      · refine v_iload_n rfl rfl ?_
        exact v_iret rfl ⟨⟨_, rfl, (by omega), (by omega), (by
            unfold wv_pick
            repeat' split
            all_goals omega)⟩, rfl⟩
set_option maxRecDepth 100000 in
theorem pm_d10 : ∀ k, k < 59 → k ≠ 14 → ¬ 10 ∈ pm_dI k := by decide +kernel
set_option maxRecDepth 100000 in
theorem pm_d11 : ∀ k, k < 59 → k ≠ 14 → ¬ 11 ∈ pm_dI k := by decide +kernel
theorem pm_IX.u14 {gi : Nat → Int32} {ga : Nat → List Int32} {w : pm_W} (h : pm_IX gi ga w) {a b : Int32} (ra : pm_rng a 1 20) (rb : pm_rng b 1 20) : pm_IX (pm_uI (pm_uI gi 10 a) 11 b) ga (w.set 14 (.inr (10, [.int a, .int b, .ref 15]))) := ⟨by rw [List.length_set]; exact h.1, fun k hk => by
  by_cases e : 14 = k
  · subst e
    rw [List.getElem?_set_self (by rw [h.1]; omega)]
    exact ⟨a, b, ⟨ra, rfl⟩, ⟨rb, rfl⟩, rfl⟩
  · rw [List.getElem?_set_ne e]
    exact pm_cell_eq (fun i hi => by
      rw [pm_uI_ne (fun e2 => by subst e2; exact pm_d11 k hk (Ne.symm e) hi), pm_uI_ne (fun e2 => by subst e2; exact pm_d10 k hk (Ne.symm e) hi)]) (fun _ _ => rfl) (h.2 k hk)⟩
set_option maxRecDepth 100000 in
theorem L_X11_weave {sc : pm_S} {w w0 : pm_W} {gi : Nat → Int32} {ga : Nat → List Int32} {d : Nat}   (hR : pm_Rg gi ga) (hI : pm_IX gi ga w) (hh : pm_hi w0 w) (e10 : gi 10 = gi 0) (e11 : gi 11 = gi 1) (hz24 : ∀ x y, x < 20 → y < 20 → (ga 24).getD (20 * y + x) 0 = 0) (m : Int32) (fs os : List Int32) (m0 : 0 ≤ m.toInt) (m1 : m.toInt ≤ 20) (hc5 : w[5]? = some (.inr (3, [.int m, .ref 6, .ref 8, .ref 9]))) (hc9 : w[9]? = some (.inl (0, .inl fs))) (hc8 : w[8]? = some (.inl (0, .inl os))) (hl9 : fs.length = 20) (hl8 : os.length = 20) (hr9 : ∀ x ∈ fs, pm_rng x (0) 19) (hr8 : ∀ x ∈ os, pm_rng x (0) 19) (hd : 2 ≤ d) : pm_V sc d 87 32 [.ref 0, .null, .null, .null, .null] [] w (fun rv w' => ∃ v cl, rv = some (.int v) ∧ (∀ x y, x < 20 → y < 20 → List.getD cl (20 * y + x) 0 = if y < (gi 1).toInt.toNat ∧ x < (gi 0).toInt.toNat then wv (ga 15) (ga 21) (ga 22) (ga 23) fs os m.toInt (gi 1).toInt x y else 0) ∧ v = nI (cd cl (ga 15) (gi 0).toInt.toNat 0 (gi 1).toInt.toNat) ∧ pm_IX (pm_uI gi 9 1) (pm_uA ga 24 cl) w' ∧ pm_hi w0 w') := by
  obtain ⟨g0a, g0b⟩ := hR.n0
  obtain ⟨g1a, g1b⟩ := hR.n1
  obtain ⟨g2a, g2b⟩ := hR.n2
  obtain ⟨g3a, g3b⟩ := hR.n3
  obtain ⟨g4a, g4b⟩ := hR.n4
  obtain ⟨g5a, g5b⟩ := hR.n5
  obtain ⟨g6a, g6b⟩ := hR.n6
  obtain ⟨g7a, g7b⟩ := hR.n7
  obtain ⟨g8a, g8b⟩ := hR.n8
  have k0 : (0 : Int32).toInt = 0 := by decide
  have k1 : (1 : Int32).toInt = 1 := by decide
  have hcl : sq_cl (ga 15) := by obtain ⟨l2, r2, -⟩ := hI.2 2 (by decide); exact ⟨l2, r2⟩
  refine v_iconst (v := 0) rfl (by decide) ?_
  refine v_istore_n rfl (Nat.le_of_ble_eq_true rfl) ?_
  have hI1 : pm_IX gi (pm_uA ga 24 (ga 24)) w := by rw [pm_uA_id]; exact hI
  have L13 : ∀ (n13 : Nat) (l2 : Int32) (u3 : Value) (u4 : Value) (u5 : Value) (w6 : pm_W) (cl9 : List Int32), pm_IX gi (pm_uA ga 24 cl9) w6 → pm_hi w0 w6 → w6[5]? = some (.inr (3, [.int m, .ref 6, .ref 8, .ref 9])) → w6[8]? = some (.inl (0, .inl os)) → w6[9]? = some (.inl (0, .inl fs)) → 0 ≤ l2.toInt → l2.toInt ≤ 20 → (l2.toInt ≤ (gi 1).toInt) → (∀ x y, x < 20 → y < 20 → List.getD cl9 (20 * y + x) 0 = (if y < l2.toInt.toNat ∧ x < (gi 0).toInt.toNat then wv (ga 15) (ga 21) (ga 22) (ga 23) fs os m.toInt (gi 1).toInt x y else 0)) → (20 - l2.toInt).toNat < n13 → pm_V sc d 87 34 [.ref 0, .int l2, u3, u4, u5] [] w6 (fun rv w' => ∃ v cl, rv = some (.int v) ∧ (∀ x y, x < 20 → y < 20 → List.getD cl (20 * y + x) 0 = if y < (gi 1).toInt.toNat ∧ x < (gi 0).toInt.toNat then wv (ga 15) (ga 21) (ga 22) (ga 23) fs os m.toInt (gi 1).toInt x y else 0) ∧ v = nI (cd cl (ga 15) (gi 0).toInt.toNat 0 (gi 1).toInt.toNat) ∧ pm_IX (pm_uI gi 9 1) (pm_uA ga 24 cl) w' ∧ pm_hi w0 w') := by
    intro n13
    induction n13 with
    | zero => intro l2 u3 u4 u5 w6 cl9 hI7 hh8 h10 h11 h12 t15 t16 t17 t18 hm14; exact absurd hm14 (Nat.not_lt_zero _)
    | succ n13 ih34_13 =>
      intro l2 u3 u4 u5 w6 cl9 hI7 hh8 h10 h11 h12 t15 t16 t17 t18 hm14
      refine v_iload_n rfl rfl ?_
      refine v_aload_n rfl rfl ?_
      obtain ⟨v20, ⟨v20z, v20e⟩, h19⟩ := hI7.2 0 (by decide)
      have v20z := v20z.imp i_eq.mp i_eq.mp
      rw [i_0, i_1] at v20z
      refine v_get rfl h19 rfl ?_
      have h21 : _ = some _ := hI7.2 1 (by decide)
      refine v_get rfl h21 rfl ?_
      refine r_icmp_ge rfl (fun t22 => ?_) (fun t22 => ?_)
      · refine v_aload_n rfl rfl ?_
        refine v_iconst (v := 1) rfl (by decide) ?_
        obtain ⟨v28, v29, ⟨⟨v28a, v28b⟩, v28e⟩, ⟨⟨v29a, v29b⟩, v29e⟩, h27⟩ := hI7.2 14 (by decide)
        obtain ⟨xs31, xs31l, ⟨xs31e, xs31q⟩, h30⟩ := hI7.2 15 (by decide)
        have xs31e : xs31 = (pm_enc cl9) := xs31e
        subst xs31e
        obtain ⟨sq33l, sq33r, h32⟩ := hI7.2 2 (by decide)
        refine v_put rfl h19 (r_okZ (by omega)) (Nat.le_of_ble_eq_true rfl) ?_
        refine r_gen (fun w23 e24 => ?_)
        have hI25 : pm_IX (pm_uI gi 9 1) (pm_uA ga 24 cl9) w23 := by rw [e24]; exact hI7.uI 0 9 (by decide +kernel) (by decide +kernel) ⟨1, ⟨Or.inr rfl, rfl⟩, rfl⟩
        have hh26 : pm_hi w0 w23 := by rw [e24]; exact hh8.set (by decide) _
        have h34 := r_get_ne e24 (show 0 ≠ 14 by decide) h27
        have h35 := r_get_ne e24 (show 0 ≠ 15 by decide) h30
        have h36 := r_get_ne e24 (show 0 ≠ 1 by decide) h21
        have h37 := r_get_ne e24 (show 0 ≠ 2 by decide) h32
        have h38 := r_get_eq e24 h19
        refine v_aload_n rfl rfl ?_
        refine v_get rfl h38 rfl ?_
        refine v_aload_n rfl rfl ?_
        refine v_get rfl h38 rfl ?_
        have q0 : v28 = nI (gi 0).toInt.toNat := by rw [v28e, e10]; exact i_nI (by omega)
        have q1 : v29 = nI (gi 1).toInt.toNat := by rw [v29e, e11]; exact i_nI (by omega)
        have h14 := h34
        rw [q0, q1] at h14
        refine v_callV rfl (c_differences h14 h35 pm_enc_len h36 h37 pm_enc_len (by omega) (by omega)) rfl rfl h14 rfl rfl (by omega) (fun rv w9 hq9 => ?_)
        obtain ⟨rfl, rfl⟩ := hq9
        have hcl9 : sq_cl cl9 := ⟨xs31q.1, xs31q.2⟩
        have q9 := cf_dy hcl9 hcl (A := (gi 0).toInt.toNat) (m := (gi 1).toInt.toNat) (by omega) (y := 0) (c := 0) (by omega)
        rw [show (nI 0 : Int32) = 0 from rfl, Nat.zero_add] at q9
        exact v_iret rfl ⟨_, cl9, rfl, (fun x y hx hy => by
      rw [t18 x y hx hy, show l2.toInt.toNat = (gi 1).toInt.toNat by omega]), q9, hI25, hh26⟩
      · refine v_aload_n rfl rfl ?_
        refine v_get rfl h19 rfl ?_
        refine v_iload_n rfl rfl ?_
        refine v_aload_n rfl rfl ?_
        refine v_get rfl h19 rfl ?_
        refine v_get rfl h21 rfl ?_
        have h39 : _ = some _ := hI7.2 16 (by decide)
        refine v_callV rfl (W_X5_pickShown_16_x l2 (gi 1) (by omega) (by omega) (by omega) (by omega) (by omega) (show pm_Rg gi (pm_uA ga 24 cl9) from hR) hI7) rfl rfl h39 rfl rfl (by omega) (fun rv w40 hq41 => ?_)
        obtain ⟨⟨z42, rfl, z42p0, z42p1, z42p2⟩, rfl⟩ := hq41
        have z42h : z42.toInt = wv_pick (ga 21) (ga 22) (gi 1).toInt (l2.toInt.toNat : Int) := by
          have q : z42.toInt = wv_pick (ga 21) (ga 22) (gi 1).toInt l2.toInt := z42p2
          rw [q, show ((l2.toInt.toNat : Nat) : Int) = l2.toInt by omega]
        refine v_istore_n rfl (Nat.le_of_ble_eq_true rfl) ?_
        refine v_iconst (v := 0) rfl (by decide) ?_
        refine v_istore_n rfl (Nat.le_of_ble_eq_true rfl) ?_
        have L52 : ∀ (n52 : Nat) (l43 : Int32) (u44 : Value) (w45 : pm_W) (cl48 : List Int32), pm_IX gi (pm_uA ga 24 cl48) w45 → pm_hi w0 w45 → w45[5]? = some (.inr (3, [.int m, .ref 6, .ref 8, .ref 9])) → w45[8]? = some (.inl (0, .inl os)) → w45[9]? = some (.inl (0, .inl fs)) → 0 ≤ l43.toInt → l43.toInt ≤ 20 → (l43.toInt ≤ (gi 0).toInt) → (∀ x y, x < 20 → y < 20 → List.getD cl48 (20 * y + x) 0 = (if (y < l2.toInt.toNat ∧ x < (gi 0).toInt.toNat) ∨ (y = l2.toInt.toNat ∧ x < l43.toInt.toNat) then wv (ga 15) (ga 21) (ga 22) (ga 23) fs os m.toInt (gi 1).toInt x y else 0)) → (20 - l43.toInt).toNat < n52 → pm_V sc d 87 63 [.ref 0, .int l2, .int z42, .int l43, u44] [] w45 (fun rv w' => ∃ v cl, rv = some (.int v) ∧ (∀ x y, x < 20 → y < 20 → List.getD cl (20 * y + x) 0 = if y < (gi 1).toInt.toNat ∧ x < (gi 0).toInt.toNat then wv (ga 15) (ga 21) (ga 22) (ga 23) fs os m.toInt (gi 1).toInt x y else 0) ∧ v = nI (cd cl (ga 15) (gi 0).toInt.toNat 0 (gi 1).toInt.toNat) ∧ pm_IX (pm_uI gi 9 1) (pm_uA ga 24 cl) w' ∧ pm_hi w0 w') := by
          intro n52
          induction n52 with
          | zero => intro l43 u44 w45 cl48 hI46 hh47 h49 h50 h51 t54 t55 t56 t57 hm53; exact absurd hm53 (Nat.not_lt_zero _)
          | succ n52 ih63_52 =>
            intro l43 u44 w45 cl48 hI46 hh47 h49 h50 h51 t54 t55 t56 t57 hm53
            refine v_iload_n rfl rfl ?_
            refine v_aload_n rfl rfl ?_
            obtain ⟨v59, ⟨v59z, v59e⟩, h58⟩ := hI46.2 0 (by decide)
            have v59z := v59z.imp i_eq.mp i_eq.mp
            rw [i_0, i_1] at v59z
            refine v_get rfl h58 rfl ?_
            have h60 : _ = some _ := hI46.2 1 (by decide)
            refine v_get rfl h60 rfl ?_
            refine r_icmp_ge rfl (fun t61 => ?_) (fun t61 => ?_)
            · refine r_iinc rfl rfl (by decide) (by omega) (by omega) (fun z62 z62e => ?_)
              refine v_goto rfl ?_
              exact ih34_13 z62 (.int z42) (.int l43) (u44) w45 cl48 hI46 hh47 h49 h50 h51 (by omega) (by omega) (by omega) (by
                  intro x y hx hy
                  rw [t57 x y hx hy]
                  by_cases e : (y < l2.toInt.toNat ∧ x < (gi 0).toInt.toNat) ∨ (y = l2.toInt.toNat ∧ x < l43.toInt.toNat)
                  · rw [if_pos e, if_pos (by omega)]
                  · rw [if_neg e, if_neg (by omega)]) (by omega)
            · refine v_aload_n rfl rfl ?_
              refine v_get rfl h58 rfl ?_
              refine v_iload_n rfl rfl ?_
              refine v_aload_n rfl rfl ?_
              refine v_get rfl h58 rfl ?_
              have h63 : _ = some _ := hI46.2 16 (by decide)
              refine v_callV rfl (W_X5_columnShown_16_5_x l43 m os fs (by omega) (by omega) (by omega) (by omega) h49 h50 hl8 hr8 h51 hl9 hr9 (show pm_Rg gi (pm_uA ga 24 cl48) from hR) hI46) rfl rfl h63 rfl rfl (by omega) (fun rv w64 hq65 => ?_)
              obtain ⟨⟨z66, rfl, z66p0, z66p1, z66p2⟩, rfl⟩ := hq65
              have z66h : z66.toInt = wv_col (ga 21) (ga 22) (ga 23) fs os m.toInt l43.toInt.toNat := z66p2
              refine v_istore rfl (Nat.le_of_ble_eq_true rfl) ?_
              refine v_iload_n rfl rfl ?_
              refine r_if_lt rfl (fun t67 => ?_) (fun t67 => ?_)
              · refine r_iinc rfl rfl (by decide) (by omega) (by omega) (fun z68 z68e => ?_)
                refine v_goto rfl ?_
                exact ih63_52 z68 (.int z66) w45 cl48 hI46 hh47 h49 h50 h51 (by omega) (by omega) (by omega) (by
                    intro x y hx hy
                    have hw : wv (ga 15) (ga 21) (ga 22) (ga 23) fs os m.toInt (gi 1).toInt l43.toInt.toNat l2.toInt.toNat = 0 := by
                      unfold wv
                      rw [← z42h, ← z66h, if_neg (by omega)]
                    rw [t57 x y hx hy]
                    by_cases e1 : (y < l2.toInt.toNat ∧ x < (gi 0).toInt.toNat) ∨ (y = l2.toInt.toNat ∧ x < l43.toInt.toNat)
                    · rw [if_pos e1, if_pos (by omega)]
                    · rw [if_neg e1]
                      by_cases e : y = l2.toInt.toNat ∧ x = l43.toInt.toNat
                      · obtain ⟨e2, e3⟩ := e
                        subst e2
                        subst e3
                        rw [if_pos (by omega), hw]
                      · rw [if_neg (by omega)]) (by omega)
              · refine v_iload rfl rfl ?_
                refine r_if_lt rfl (fun t69 => ?_) (fun t69 => ?_)
                · refine r_iinc rfl rfl (by decide) (by omega) (by omega) (fun z70 z70e => ?_)
                  refine v_goto rfl ?_
                  exact ih63_52 z70 (.int z66) w45 cl48 hI46 hh47 h49 h50 h51 (by omega) (by omega) (by omega) (by
                      intro x y hx hy
                      have hw : wv (ga 15) (ga 21) (ga 22) (ga 23) fs os m.toInt (gi 1).toInt l43.toInt.toNat l2.toInt.toNat = 0 := by
                        unfold wv
                        rw [← z42h, ← z66h, if_neg (by omega)]
                      rw [t57 x y hx hy]
                      by_cases e1 : (y < l2.toInt.toNat ∧ x < (gi 0).toInt.toNat) ∨ (y = l2.toInt.toNat ∧ x < l43.toInt.toNat)
                      · rw [if_pos e1, if_pos (by omega)]
                      · rw [if_neg e1]
                        by_cases e : y = l2.toInt.toNat ∧ x = l43.toInt.toNat
                        · obtain ⟨e2, e3⟩ := e
                          subst e2
                          subst e3
                          rw [if_pos (by omega), hw]
                        · rw [if_neg (by omega)]) (by omega)
                · obtain ⟨q71x, -, ⟨-, q71l, -⟩, -⟩ := hI46.2 15 (by decide)
                  refine v_aload_n rfl rfl ?_
                  refine v_get rfl h58 rfl ?_
                  refine v_iload_n rfl rfl ?_
                  refine v_iload_n rfl rfl ?_
                  refine v_aload_n rfl rfl ?_
                  refine v_get rfl h58 rfl ?_
                  refine v_iload rfl rfl ?_
                  refine v_iload_n rfl rfl ?_
                  refine v_callV rfl (W_X10_colourAt_1_x z66 z42 (by omega) (by omega) (by omega) (by omega) (show pm_Rg gi (pm_uA ga 24 cl48) from hR) hI46) rfl rfl h60 rfl rfl (by omega) (fun rv w72 hq73 => ?_)
                  obtain ⟨⟨z74, rfl, z74p0, z74p1, z74p2⟩, rfl⟩ := hq73
                  skip
                  obtain ⟨v76, v77, ⟨⟨v76a, v76b⟩, v76e⟩, ⟨⟨v77a, v77b⟩, v77e⟩, h75⟩ := hI46.2 14 (by decide)
                  refine v_callV rfl (c_paint14 l43 l2 z74 (by omega) (by omega) (by omega) (by omega) (by omega) (by omega) hI46) rfl rfl h75 rfl rfl (by omega) (fun rv w78 hq79 => ?_)
                  obtain ⟨rfl, hI80, hh81x, hh81k⟩ := hq79
                  have hh81 := hh47.tr hh81x
                  rw [pm_uA_uA, pm_uA_self] at hI80
                  have h82 := (hh81k 5 (by decide)).trans h49
                  have h83 := (hh81k 8 (by decide)).trans h50
                  have h84 := (hh81k 9 (by decide)).trans h51
                  refine v_pop rfl rfl ?_
                  refine r_iinc rfl rfl (by decide) (by omega) (by omega) (fun z85 z85e => ?_)
                  refine v_goto rfl ?_
                  exact ih63_52 z85 (.int z66) w78 (List.set cl48 (20 * l2.toInt.toNat + l43.toInt.toNat) z74) hI80 hh81 h82 h83 h84 (by omega) (by omega) (by omega) (by
                      intro x y hx hy
                      have hw : wv (ga 15) (ga 21) (ga 22) (ga 23) fs os m.toInt (gi 1).toInt l43.toInt.toNat l2.toInt.toNat = z74 := by
                        unfold wv
                        rw [← z42h, ← z66h, if_pos ⟨by omega, by omega⟩]
                        exact z74p0.symm
                      rw [pm_getD_set (by rw [(show List.length cl48 = 400 from q71l)]; omega)]
                      by_cases e : 20 * l2.toInt.toNat + l43.toInt.toNat = 20 * y + x
                      · have e1 : y = l2.toInt.toNat := by omega
                        have e2 : x = l43.toInt.toNat := by omega
                        subst e1
                        subst e2
                        rw [if_pos e, if_pos (by omega), hw]
                      · rw [if_neg e, t57 x y hx hy]
                        by_cases e1 : (y < l2.toInt.toNat ∧ x < (gi 0).toInt.toNat) ∨ (y = l2.toInt.toNat ∧ x < l43.toInt.toNat)
                        · rw [if_pos e1, if_pos (by omega)]
                        · rw [if_neg e1, if_neg (by omega)]) (by omega)
        exact L52 _ (0 : Int32) (u5) w6 cl9 hI7 hh8 h10 h11 h12 (by omega) (by omega) (by omega) (by
            intro x y hx hy
            rw [t18 x y hx hy]
            by_cases e : y < l2.toInt.toNat ∧ x < (gi 0).toInt.toNat
            · rw [if_pos e, if_pos (Or.inl e)]
            · rw [if_neg e, if_neg (by rw [show (0 : Int32).toInt.toNat = 0 from rfl]; omega)]) (Nat.lt_add_one _)
  exact L13 _ (0 : Int32) (.null) (.null) (.null) w (ga 24) hI1 hh hc5 hc8 hc9 (by omega) (by omega) (by omega) (by
      intro x y hx hy
      rw [if_neg (by rw [show (0 : Int32).toInt.toNat = 0 from rfl]; omega)]
      exact hz24 x y hx hy) (Nat.lt_add_one _)
set_option maxRecDepth 100000 in
theorem c_X_weave {sc : pm_S} {w : pm_W} {gi : Nat → Int32} {ga : Nat → List Int32} (hR : pm_Rg gi ga) (hI : pm_IX gi ga w) : pm_Mt sc 3 87 5 [.ref 0] w (fun rv w' => ∃ (v : Int32) (cl fs os : List Int32) (m : Int32), rv = some (.int v) ∧ sq_ck gi ga fs os m.toInt.toNat ∧ 0 ≤ m.toInt ∧ (∀ x y, x < (gi 0).toInt.toNat → y < (gi 1).toInt.toNat → List.getD cl (20 * y + x) 0 = wv (ga 15) (ga 21) (ga 22) (ga 23) fs os m.toInt (gi 1).toInt x y) ∧ sq_Oz cl (gi 0).toInt.toNat (gi 1).toInt.toNat ∧ v = nI (cd cl (ga 15) (gi 0).toInt.toNat 0 (gi 1).toInt.toNat) ∧ pm_IX (pm_uI (pm_uI (pm_uI gi 10 (gi 0)) 11 (gi 1)) 9 1) (pm_uA ga 24 cl) w' ∧ pm_hi w w') := by
  intro d hd
  obtain ⟨g0a, g0b⟩ := hR.n0
  obtain ⟨g1a, g1b⟩ := hR.n1
  show pm_V sc d 87 0 _ [] w _
  obtain ⟨v6, c6, h0⟩ := hI.2 0 (by decide)
  have h1 : _ = some _ := hI.2 1 (by decide)
  obtain ⟨v5, c5, h5⟩ := hI.2 5 (by decide)
  refine v_aload_n rfl rfl ?_
  refine v_get rfl h0 rfl ?_
  refine v_aload_n rfl rfl ?_
  refine v_get rfl h0 rfl ?_
  refine v_callV rfl (W_X3_readFrom_5_1_x hR hI pm_hi.rf) rfl rfl h5 rfl rfl (by omega) (fun rv w1 hq => ?_)
  obtain ⟨rfl, hI1, hh1, m, fs, os, c5, c9, c8, l9, l8, r9, r8, m0, m1, hk, -⟩ := hq
  obtain ⟨u6, d6, a0⟩ := hI1.2 0 (by decide)
  have a1 : _ = some _ := hI1.2 1 (by decide)
  obtain ⟨x0, x1, -, -, a14⟩ := hI1.2 14 (by decide)
  obtain ⟨xs, lx, -, a15⟩ := hI1.2 15 (by decide)
  refine v_aload_n rfl rfl ?_
  refine v_get rfl a0 rfl ?_
  refine v_aload_n rfl rfl ?_
  refine v_get rfl a0 rfl ?_
  refine v_get rfl a1 rfl ?_
  refine v_aload_n rfl rfl ?_
  refine v_get rfl a0 rfl ?_
  refine v_get rfl a1 rfl ?_
  refine v_callV rfl (c_lay lx (by decide) a14 a15 (gi 0) (gi 1)) rfl rfl a14 rfl rfl (by omega) (fun rv w2 hq2 => ?_)
  obtain ⟨rfl, e2⟩ := hq2
  have hI2 : pm_IX (pm_uI (pm_uI gi 10 (gi 0)) 11 (gi 1)) (pm_uA ga 24 (List.replicate 400 0)) w2 := by
    rw [e2, ← pm_enc0]
    exact (hI1.u14 ⟨g0a, g0b⟩ ⟨g1a, g1b⟩).u15 List.length_replicate (pm_rep_rng (by decide) (by decide))
  have hh2 : pm_hi w w2 := by rw [e2]; exact (hh1.set (by decide) _).set (by decide) _
  refine v_weak (L_X11_weave (w0 := w) (gi := pm_uI (pm_uI gi 10 (gi 0)) 11 (gi 1)) (ga := pm_uA ga 24 (List.replicate 400 0)) (show pm_Rg _ _ from hR) hI2 hh2 rfl rfl (fun x y hx hy => (sq_Oz.rep (W := 0) (H := 0)) x y hx hy (Or.inl (Nat.zero_le _))) m fs os m0 m1 (by rw [e2, List.getElem?_set_ne (by decide), List.getElem?_set_ne (by decide)]; exact c5) (by rw [e2, List.getElem?_set_ne (by decide), List.getElem?_set_ne (by decide)]; exact c9) (by rw [e2, List.getElem?_set_ne (by decide), List.getElem?_set_ne (by decide)]; exact c8) l9 l8 r9 r8 (by omega)) (fun rv w' hq3 => ?_)
  obtain ⟨v, cl, e3, q1, q2, q3, q4⟩ := hq3
  rw [pm_uA_uA] at q3
  exact ⟨v, cl, fs, os, m, e3, hk, m0, fun x y hx hy => by
    have q := q1 x y (by omega) (by omega)
    rw [if_pos ⟨hy, hx⟩] at q
    exact q, fun x y hx hy ho => by
    have q := q1 x y hx hy
    rw [if_neg (fun e => by
      have e1 : y < (gi 1).toInt.toNat := e.1
      have e2 : x < (gi 0).toInt.toNat := e.2
      omega)] at q
    exact q, q2, q3, q4⟩

