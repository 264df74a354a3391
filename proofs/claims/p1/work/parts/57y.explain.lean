set_option maxRecDepth 100000 in
theorem W_X5_columnShown_21_5_e {sc : pm_S} {w : pm_W} {gi : Nat → Int32} {ga : Nat → List Int32} (x : Int32) (c5_0 : Int32) (c8 : List Int32) (c9 : List Int32) (c22 : List Int32) (c23 : List Int32) (c24 : List Int32) (p0 : x.toInt ≤ 19) (p1 : 0 ≤ x.toInt) (p2 : 0 ≤ c5_0.toInt) (p3 : c5_0.toInt ≤ 20) (hc5 : w[5]? = some (.inr (3, [.int c5_0, .ref 6, .ref 8, .ref 9]))) (hc8 : w[8]? = some (.inl (0, .inl c8))) (hl8 : c8.length = 20) (hr8 : ∀ x ∈ c8, pm_rng x (0) 19) (hc9 : w[9]? = some (.inl (0, .inl c9))) (hl9 : c9.length = 20) (hr9 : ∀ x ∈ c9, pm_rng x (0) 19) (hc22 : w[22]? = some (.inl (1, .inl c22))) (hl22 : c22.length = 4) (hr22 : ∀ x ∈ c22, pm_rng x (0) 1) (hc23 : w[23]? = some (.inl (0, .inl c23))) (hl23 : c23.length = 4) (hc24 : w[24]? = some (.inl (0, .inl c24))) (hl24 : c24.length = 4) (hR : pm_Rg gi ga) (hI : pm_IX gi ga w) : pm_Mt sc 1 27 6 [.ref 21, .int x, .ref 5] w (fun rv w' => pm_wI (fun v => -9 ≤ v.toInt ∧ v.toInt ≤ 19 ∧ v.toInt = wv_col c22 c23 c24 c9 c8 c5_0.toInt x.toInt.toNat) rv ∧ w = w') := by
  intro d hd
  obtain ⟨g0a, g0b⟩ := hR.n0
  obtain ⟨g1a, g1b⟩ := hR.n1
  obtain ⟨g2a, g2b⟩ := hR.n2
  obtain ⟨g3a, g3b⟩ := hR.n3
  obtain ⟨g4a, g4b⟩ := hR.n4
  obtain ⟨g5a, g5b⟩ := hR.n5
  obtain ⟨g6a, g6b⟩ := hR.n6
  obtain ⟨g7a, g7b⟩ := hR.n7
  obtain ⟨g8a, g8b⟩ := hR.n8
  have km9 : (-9 : Int32).toInt = -9 := by decide
  have k1 : (1 : Int32).toInt = 1 := by decide
  have k3 : (3 : Int32).toInt = 3 := by decide
  show pm_V sc d 27 0 [.ref 21, .int x, .ref 5, .null, .null, .null] [] w _
  refine v_aload_n rfl rfl ?_
  refine v_get rfl hc5 rfl ?_
  refine v_iload_n rfl rfl ?_
  refine r_iaload rfl hc8 hl8 (by omega) (by omega) (fun z1 z1m z1g => ?_)
  obtain ⟨z1a, z1b⟩ := hr8 z1 z1m
  have z1h : z1.toInt = sq_lk c8 x.toInt.toNat := congrArg Int32.toInt z1g
  refine v_istore_n rfl (Nat.le_of_ble_eq_true rfl) ?_
  refine v_aload_n rfl rfl ?_
  have h2 : _ = some _ := hI.2 21 (by decide)
  refine v_get rfl h2 rfl ?_
  refine v_iconst (v := 1) rfl (by decide) ?_
  refine r_baload rfl hc22 hl22 (by omega) (by omega) (fun z3 z3m z3g => ?_)
  have z3t : z3.toInt = (c22.getD 1 0).toInt := congrArg Int32.toInt z3g
  obtain ⟨z3a, z3b⟩ := hr22 z3 z3m
  refine r_if_eq rfl (fun t4 => ?_) (fun t4 => ?_)
  · refine v_aload_n rfl rfl ?_
    refine v_get rfl h2 rfl ?_
    refine v_iconst (v := 3) rfl (by decide) ?_
    refine r_iaload rfl hc23 hl23 (by omega) (by omega) (fun z5 z5m z5g => ?_)
    have z5t : z5.toInt = (c23.getD 3 0).toInt := congrArg Int32.toInt z5g
    refine v_istore rfl (Nat.le_of_ble_eq_true rfl) ?_
    refine v_aload_n rfl rfl ?_
    refine v_get rfl h2 rfl ?_
    refine v_iconst (v := 3) rfl (by decide) ?_
    refine r_iaload rfl hc24 hl24 (by omega) (by omega) (fun z6 z6m z6g => ?_)
    have z6t : z6.toInt = (c24.getD 3 0).toInt := congrArg Int32.toInt z6g
    refine v_istore rfl (Nat.le_of_ble_eq_true rfl) ?_
    refine v_aload_n rfl rfl ?_
    refine v_get rfl h2 rfl ?_
    refine v_iconst (v := 3) rfl (by decide) ?_
    refine r_baload rfl hc22 hl22 (by omega) (by omega) (fun z7 z7m z7g => ?_)
    have z7t : z7.toInt = (c22.getD 3 0).toInt := congrArg Int32.toInt z7g
    obtain ⟨z7a, z7b⟩ := hr22 z7 z7m
    refine r_if_eq rfl (fun t8 => ?_) (fun t8 => ?_)
    · refine v_iload_n rfl rfl ?_
      exact v_iret rfl ⟨⟨_, rfl, (by omega), (by omega), (by
          unfold wv_col
          repeat' split
          all_goals omega)⟩, rfl⟩
    · refine v_iload rfl rfl ?_
      refine v_aload_n rfl rfl ?_
      refine v_get rfl hc5 rfl ?_
      refine v_callS rfl (W_X11_isPlace z5 c5_0 hR hI) rfl rfl rfl rfl rfl (by omega) (fun rv w9 hq10 => ?_)
      obtain ⟨⟨z11, rfl, z11p0⟩, rfl⟩ := hq10
      refine r_if_eq rfl (fun t12 => ?_) (fun t12 => ?_)
      · refine v_iload_n rfl rfl ?_
        exact v_iret rfl ⟨⟨_, rfl, (by omega), (by omega), (by
            unfold wv_col
            repeat' split
            all_goals omega)⟩, rfl⟩
      · refine v_iload rfl rfl ?_
        refine v_aload_n rfl rfl ?_
        refine v_get rfl hc5 rfl ?_
        refine v_callS rfl (W_X11_isPlace z6 c5_0 hR hI) rfl rfl rfl rfl rfl (by omega) (fun rv w13 hq14 => ?_)
        obtain ⟨⟨z15, rfl, z15p0⟩, rfl⟩ := hq14
        refine r_if_ne rfl (fun t16 => ?_) (fun t16 => ?_)
        · refine v_iload_n rfl rfl ?_
          refine v_iload rfl rfl ?_
          refine r_icmp_ne rfl (fun t17 => ?_) (fun t17 => ?_)
          · refine v_iload_n rfl rfl ?_
            refine v_iload rfl rfl ?_
            refine r_icmp_ne rfl (fun t18 => ?_) (fun t18 => ?_)
            · refine v_iload_n rfl rfl ?_
              exact v_iret rfl ⟨⟨_, rfl, (by omega), (by omega), (by
                  unfold wv_col
                  repeat' split
                  all_goals omega)⟩, rfl⟩
            · refine v_aload_n rfl rfl ?_
              refine v_get rfl hc5 rfl ?_
              refine v_iload rfl rfl ?_
              refine r_iaload rfl hc9 hl9 (by omega) (by omega) (fun z19 z19m z19g => ?_)
              obtain ⟨z19a, z19b⟩ := hr9 z19 z19m
              have z19h : z19.toInt = sq_lk c9 z5.toInt.toNat := congrArg Int32.toInt z19g
              rw [z5t] at z19h
              refine v_goto rfl ?_
              exact v_iret rfl ⟨⟨_, rfl, (by omega), (by omega), (by
                  unfold wv_col
                  repeat' split
                  all_goals omega)⟩, rfl⟩
          · refine v_aload_n rfl rfl ?_
            refine v_get rfl hc5 rfl ?_
            refine v_iload rfl rfl ?_
            refine r_iaload rfl hc9 hl9 (by omega) (by omega) (fun z20 z20m z20g => ?_)
            obtain ⟨z20a, z20b⟩ := hr9 z20 z20m
            have z20h : z20.toInt = sq_lk c9 z6.toInt.toNat := congrArg Int32.toInt z20g
            rw [z6t] at z20h
            exact v_iret rfl ⟨⟨_, rfl, (by omega), (by omega), (by
                unfold wv_col
                repeat' split
                all_goals omega)⟩, rfl⟩
        · refine v_iload_n rfl rfl ?_
          exact v_iret rfl ⟨⟨_, rfl, (by omega), (by omega), (by
              unfold wv_col
              repeat' split
              all_goals omega)⟩, rfl⟩
  · refine v_aload_n rfl rfl ?_
    refine v_get rfl h2 rfl ?_
    refine v_iconst (v := 1) rfl (by decide) ?_
    refine r_iaload rfl hc23 hl23 (by omega) (by omega) (fun z21 z21m z21g => ?_)
    have z21t : z21.toInt = (c23.getD 1 0).toInt := congrArg Int32.toInt z21g
    refine v_iload_n rfl rfl ?_
    refine r_icmp_ne rfl (fun t22 => ?_) (fun t22 => ?_)
    · refine v_aload_n rfl rfl ?_
      refine v_get rfl h2 rfl ?_
      refine v_iconst (v := 3) rfl (by decide) ?_
      refine r_iaload rfl hc23 hl23 (by omega) (by omega) (fun z23 z23m z23g => ?_)
      have z23t : z23.toInt = (c23.getD 3 0).toInt := congrArg Int32.toInt z23g
      refine v_istore rfl (Nat.le_of_ble_eq_true rfl) ?_
      refine v_aload_n rfl rfl ?_
      refine v_get rfl h2 rfl ?_
      refine v_iconst (v := 3) rfl (by decide) ?_
      refine r_iaload rfl hc24 hl24 (by omega) (by omega) (fun z24 z24m z24g => ?_)
      have z24t : z24.toInt = (c24.getD 3 0).toInt := congrArg Int32.toInt z24g
      refine v_istore rfl (Nat.le_of_ble_eq_true rfl) ?_
      refine v_aload_n rfl rfl ?_
      refine v_get rfl h2 rfl ?_
      refine v_iconst (v := 3) rfl (by decide) ?_
      refine r_baload rfl hc22 hl22 (by omega) (by omega) (fun z25 z25m z25g => ?_)
      have z25t : z25.toInt = (c22.getD 3 0).toInt := congrArg Int32.toInt z25g
      obtain ⟨z25a, z25b⟩ := hr22 z25 z25m
      refine r_if_eq rfl (fun t26 => ?_) (fun t26 => ?_)
      · refine v_iload_n rfl rfl ?_
        exact v_iret rfl ⟨⟨_, rfl, (by omega), (by omega), (by
            unfold wv_col
            repeat' split
            all_goals omega)⟩, rfl⟩
      · refine v_iload rfl rfl ?_
        refine v_aload_n rfl rfl ?_
        refine v_get rfl hc5 rfl ?_
        refine v_callS rfl (W_X11_isPlace z23 c5_0 hR hI) rfl rfl rfl rfl rfl (by omega) (fun rv w27 hq28 => ?_)
        obtain ⟨⟨z29, rfl, z29p0⟩, rfl⟩ := hq28
        refine r_if_eq rfl (fun t30 => ?_) (fun t30 => ?_)
        · refine v_iload_n rfl rfl ?_
          exact v_iret rfl ⟨⟨_, rfl, (by omega), (by omega), (by
              unfold wv_col
              repeat' split
              all_goals omega)⟩, rfl⟩
        · refine v_iload rfl rfl ?_
          refine v_aload_n rfl rfl ?_
          refine v_get rfl hc5 rfl ?_
          refine v_callS rfl (W_X11_isPlace z24 c5_0 hR hI) rfl rfl rfl rfl rfl (by omega) (fun rv w31 hq32 => ?_)
          obtain ⟨⟨z33, rfl, z33p0⟩, rfl⟩ := hq32
          refine r_if_ne rfl (fun t34 => ?_) (fun t34 => ?_)
          · refine v_iload_n rfl rfl ?_
            refine v_iload rfl rfl ?_
            refine r_icmp_ne rfl (fun t35 => ?_) (fun t35 => ?_)
            · refine v_iload_n rfl rfl ?_
              refine v_iload rfl rfl ?_
              refine r_icmp_ne rfl (fun t36 => ?_) (fun t36 => ?_)
              · refine v_iload_n rfl rfl ?_
                exact v_iret rfl ⟨⟨_, rfl, (by omega), (by omega), (by
                    unfold wv_col
                    repeat' split
                    all_goals omega)⟩, rfl⟩
              · refine v_aload_n rfl rfl ?_
                refine v_get rfl hc5 rfl ?_
                refine v_iload rfl rfl ?_
                refine r_iaload rfl hc9 hl9 (by omega) (by omega) (fun z37 z37m z37g => ?_)
                obtain ⟨z37a, z37b⟩ := hr9 z37 z37m
                have z37h : z37.toInt = sq_lk c9 z23.toInt.toNat := congrArg Int32.toInt z37g
                rw [z23t] at z37h
                refine v_goto rfl ?_
                exact v_iret rfl ⟨⟨_, rfl, (by omega), (by omega), (by
                    unfold wv_col
                    repeat' split
                    all_goals omega)⟩, rfl⟩
            · refine v_aload_n rfl rfl ?_
              refine v_get rfl hc5 rfl ?_
              refine v_iload rfl rfl ?_
              refine r_iaload rfl hc9 hl9 (by omega) (by omega) (fun z38 z38m z38g => ?_)
              obtain ⟨z38a, z38b⟩ := hr9 z38 z38m
              have z38h : z38.toInt = sq_lk c9 z24.toInt.toNat := congrArg Int32.toInt z38g
              rw [z24t] at z38h
              exact v_iret rfl ⟨⟨_, rfl, (by omega), (by omega), (by
                  unfold wv_col
                  repeat' split
                  all_goals omega)⟩, rfl⟩
          · refine v_iload_n rfl rfl ?_
            exact v_iret rfl ⟨⟨_, rfl, (by omega), (by omega), (by
                unfold wv_col
                repeat' split
                all_goals omega)⟩, rfl⟩
    · refine v_bipush (v := (-9)) rfl (by decide) ?_
      exact v_iret rfl ⟨⟨_, rfl, (by omega), (by omega), (by
          unfold wv_col
          repeat' split
          all_goals omega)⟩, rfl⟩
set_option maxRecDepth 100000 in
theorem W_X5_pickShown_21_e {sc : pm_S} {w : pm_W} {gi : Nat → Int32} {ga : Nat → List Int32} (y : Int32) (h : Int32) (c22 : List Int32) (c23 : List Int32) (p0 : h.toInt ≤ 20) (p1 : 1 ≤ h.toInt) (p2 : y.toInt ≤ 19) (p3 : 0 ≤ y.toInt) (p4 : y.toInt < h.toInt) (hc22 : w[22]? = some (.inl (1, .inl c22))) (hl22 : c22.length = 4) (hr22 : ∀ x ∈ c22, pm_rng x (0) 1) (hc23 : w[23]? = some (.inl (0, .inl c23))) (hl23 : c23.length = 4) (hR : pm_Rg gi ga) (hI : pm_IX gi ga w) : pm_Mt sc 0 28 4 [.ref 21, .int y, .int h] w (fun rv w' => pm_wI (fun v => -9 ≤ v.toInt ∧ v.toInt < h.toInt ∧ v.toInt = wv_pick c22 c23 h.toInt y.toInt) rv ∧ w = w') := by
  intro d hd
  obtain ⟨g0a, g0b⟩ := hR.n0
  obtain ⟨g1a, g1b⟩ := hR.n1
  obtain ⟨g2a, g2b⟩ := hR.n2
  obtain ⟨g3a, g3b⟩ := hR.n3
  obtain ⟨g4a, g4b⟩ := hR.n4
  obtain ⟨g5a, g5b⟩ := hR.n5
  obtain ⟨g6a, g6b⟩ := hR.n6
  obtain ⟨g7a, g7b⟩ := hR.n7
  obtain ⟨g8a, g8b⟩ := hR.n8
  have km9 : (-9 : Int32).toInt = -9 := by decide
  have k1 : (1 : Int32).toInt = 1 := by decide
  have k2 : (2 : Int32).toInt = 2 := by decide
  show pm_V sc d 28 0 [.ref 21, .int y, .int h, .null] [] w _
  refine v_aload_n rfl rfl ?_
  have h1 : _ = some _ := hI.2 21 (by decide)
  refine v_get rfl h1 rfl ?_
  refine v_iconst (v := 2) rfl (by decide) ?_
  refine r_iaload rfl hc23 hl23 (by omega) (by omega) (fun z2 z2m z2g => ?_)
  have z2t : z2.toInt = (c23.getD 2 0).toInt := congrArg Int32.toInt z2g
  refine v_istore_n rfl (Nat.le_of_ble_eq_true rfl) ?_
  refine v_aload_n rfl rfl ?_
  refine v_get rfl h1 rfl ?_
  refine v_iconst (v := 2) rfl (by decide) ?_
  refine r_baload rfl hc22 hl22 (by omega) (by omega) (fun z3 z3m z3g => ?_)
  have z3t : z3.toInt = (c22.getD 2 0).toInt := congrArg Int32.toInt z3g
  obtain ⟨z3a, z3b⟩ := hr22 z3 z3m
  refine r_if_eq rfl (fun t4 => ?_) (fun t4 => ?_)
  · refine v_iload_n rfl rfl ?_
    exact v_iret rfl ⟨⟨_, rfl, (by omega), (by omega), (by
        unfold wv_pick
        repeat' split
        all_goals omega)⟩, rfl⟩
  · refine v_iload_n rfl rfl ?_
    refine v_iload_n rfl rfl ?_
    refine r_icmp_ge rfl (fun t5 => ?_) (fun t5 => ?_)
    · refine v_iload_n rfl rfl ?_
      exact v_iret rfl ⟨⟨_, rfl, (by omega), (by omega), (by
          unfold wv_pick
          repeat' split
          all_goals omega)⟩, rfl⟩
    · refine v_iload_n rfl rfl ?_
      refine v_iload_n rfl rfl ?_
      refine r_icmp_ge rfl (fun t6 => ?_) (fun t6 => ?_)
      · refine v_iload_n rfl rfl ?_
        refine v_iconst (v := 1) rfl (by decide) ?_
        refine r_iadd rfl (by omega) (by omega) (fun z7 z7e => ?_)
        refine v_iload_n rfl rfl ?_
        refine r_icmp_ge rfl (fun t8 => ?_) (fun t8 => ?_)
        · refine v_bipush (v := (-9)) rfl (by decide) ?_
          exact v_iret rfl ⟨⟨_, rfl, (by omega), (by omega), (by
              unfold wv_pick
              repeat' split
              all_goals omega)⟩, rfl⟩
        · refine v_iload_n rfl rfl ?_
          refine v_iconst (v := 1) rfl (by decide) ?_
          refine r_iadd rfl (by omega) (by omega) (fun z9 z9e => ?_)
          refine v_goto rfl ?_
          exact v_iret rfl ⟨⟨_, rfl, (by omega), (by omega), (by
              unfold wv_pick
              repeat' split
              all_goals omega)⟩, rfl⟩
      · refine v_iload_n rfl rfl ?_
        exact v_iret rfl ⟨⟨_, rfl, (by omega), (by omega), (by
            unfold wv_pick
            repeat' split
            all_goals omega)⟩, rfl⟩
set_option maxRecDepth 100000 in
theorem W_X5_forget_21_e {sc : pm_S} {w w0 : pm_W} {gi : Nat → Int32} {ga : Nat → List Int32} (c22 : List Int32) (hc22 : w[22]? = some (.inl (1, .inl c22))) (hl22 : c22.length = 4) (hr22 : ∀ x ∈ c22, pm_rng x (0) 1) (hR : pm_Rg gi ga) (hI : pm_IX gi ga w) (hh : pm_hi w0 w) : pm_Mt sc 0 25 2 [.ref 21] w (fun rv w' => rv = none ∧ pm_IX gi ga w' ∧ pm_hi w0 w' ∧ ∃ t : List Int32, w'[22]? = some (.inl (1, .inl t)) ∧ t.length = 4 ∧ (∀ x ∈ t, pm_rng x (0) 1) ∧ (t.getD 1 0).toInt = 0 ∧ (t.getD 2 0).toInt = 0 ∧ (t.getD 3 0).toInt = 0 ∧ (∀ j, j ≠ 22 → w'[j]? = w[j]?)) := by
  intro d hd
  obtain ⟨g0a, g0b⟩ := hR.n0
  obtain ⟨g1a, g1b⟩ := hR.n1
  obtain ⟨g2a, g2b⟩ := hR.n2
  obtain ⟨g3a, g3b⟩ := hR.n3
  obtain ⟨g4a, g4b⟩ := hR.n4
  obtain ⟨g5a, g5b⟩ := hR.n5
  obtain ⟨g6a, g6b⟩ := hR.n6
  obtain ⟨g7a, g7b⟩ := hR.n7
  obtain ⟨g8a, g8b⟩ := hR.n8
  have k0 : (0 : Int32).toInt = 0 := by decide
  have k1 : (1 : Int32).toInt = 1 := by decide
  have k3 : (3 : Int32).toInt = 3 := by decide
  show pm_V sc d 25 0 [.ref 21, .null] [] w _
  refine v_iconst (v := 1) rfl (by decide) ?_
  refine v_istore_n rfl (Nat.le_of_ble_eq_true rfl) ?_
  refine v_iload_n rfl rfl ?_
  refine v_iconst (v := 3) rfl (by decide) ?_
  refine r_icmp_gt rfl (fun hx => absurd hx (by omega)) (fun _ => ?_)
  refine v_aload_n rfl rfl ?_
  have h1 : _ = some _ := hI.2 21 (by decide)
  refine v_get rfl h1 rfl ?_
  refine v_iload_n rfl rfl ?_
  refine v_iconst (v := 0) rfl (by decide) ?_
  refine r_bastx rfl hc22 hl22 (by omega) (by omega) (by omega) (fun ys2 ys2l ys2m ys2g ys2n => ?_)
  have ys2r := r_rng ys2m hr22 (by omega) (by omega)
  refine r_gen (w' := w.set 22 (.inl (1, .inl ys2))) (fun w3 e4 => ?_)
  have hI5 : pm_IX gi ga w3 := by rw [e4]; exact hI.set 22 (by decide) ⟨ys2, ys2l, ys2r, rfl⟩
  have hh6 : pm_hi w0 w3 := by rw [e4]; exact hh.set (by decide) _
  have h7 := r_get_ne e4 (show 22 ≠ 21 by decide) h1
  have h8 := r_get_eq e4 hc22
  rw [show (1 : Int32).toInt.toNat = 1 by omega] at ys2g ys2n
  refine r_iinc rfl rfl (by decide) (by omega) (by omega) (fun z9 z9e => ?_)
  refine v_goto rfl ?_
  refine v_iload_n rfl rfl ?_
  refine v_iconst (v := 3) rfl (by decide) ?_
  refine r_icmp_gt rfl (fun hx => absurd hx (by omega)) (fun _ => ?_)
  refine v_aload_n rfl rfl ?_
  refine v_get rfl h7 rfl ?_
  refine v_iload_n rfl rfl ?_
  refine v_iconst (v := 0) rfl (by decide) ?_
  refine r_bastx rfl h8 ys2l (by omega) (by omega) (by omega) (fun ys10 ys10l ys10m ys10g ys10n => ?_)
  have ys10r := r_rng ys10m ys2r (by omega) (by omega)
  refine r_gen (w' := w3.set 22 (.inl (1, .inl ys10))) (fun w11 e12 => ?_)
  have hI13 : pm_IX gi ga w11 := by rw [e12]; exact hI5.set 22 (by decide) ⟨ys10, ys10l, ys10r, rfl⟩
  have hh14 : pm_hi w0 w11 := by rw [e12]; exact hh6.set (by decide) _
  have h15 := r_get_ne e12 (show 22 ≠ 21 by decide) h7
  have h16 := r_get_eq e12 h8
  rw [show z9.toInt.toNat = 2 by omega] at ys10g ys10n
  refine r_iinc rfl rfl (by decide) (by omega) (by omega) (fun z17 z17e => ?_)
  refine v_goto rfl ?_
  refine v_iload_n rfl rfl ?_
  refine v_iconst (v := 3) rfl (by decide) ?_
  refine r_icmp_gt rfl (fun hx => absurd hx (by omega)) (fun _ => ?_)
  refine v_aload_n rfl rfl ?_
  refine v_get rfl h15 rfl ?_
  refine v_iload_n rfl rfl ?_
  refine v_iconst (v := 0) rfl (by decide) ?_
  refine r_bastx rfl h16 ys10l (by omega) (by omega) (by omega) (fun ys18 ys18l ys18m ys18g ys18n => ?_)
  have ys18r := r_rng ys18m ys10r (by omega) (by omega)
  refine r_gen (w' := w11.set 22 (.inl (1, .inl ys18))) (fun w19 e20 => ?_)
  have hI21 : pm_IX gi ga w19 := by rw [e20]; exact hI13.set 22 (by decide) ⟨ys18, ys18l, ys18r, rfl⟩
  have hh22 : pm_hi w0 w19 := by rw [e20]; exact hh14.set (by decide) _
  have h23 := r_get_ne e20 (show 22 ≠ 21 by decide) h15
  have h24 := r_get_eq e20 h16
  rw [show z17.toInt.toNat = 3 by omega] at ys18g ys18n
  refine r_iinc rfl rfl (by decide) (by omega) (by omega) (fun z25 z25e => ?_)
  refine v_goto rfl ?_
  refine v_iload_n rfl rfl ?_
  refine v_iconst (v := 3) rfl (by decide) ?_
  refine r_icmp_gt rfl (fun _ => ?_) (fun hx => absurd hx (by omega))
  exact v_ret rfl ⟨rfl, hI21, hh22, ⟨ys18, h24, ys18l, ys18r, by rw [ys18n 1 (by decide), ys10n 1 (by decide), ys2g]; rfl, by rw [ys18n 2 (by decide), ys10g]; rfl, by rw [ys18g]; rfl, fun j hj => by rw [e20, List.getElem?_set_ne (Ne.symm hj), e12, List.getElem?_set_ne (Ne.symm hj), e4, List.getElem?_set_ne (Ne.symm hj)]⟩⟩
set_option maxRecDepth 100000 in
theorem c_tell21 {sc : pm_S} {w : pm_W} {gi : Nat → Int32} {ga : Nat → List Int32} (k a b : Int32) (k0 : 1 ≤ k.toInt) (k3 : k.toInt ≤ 3) (hI : pm_IX gi ga w) {x17 x18 x19 : List Int32} (h17 : w[22]? = some (.inl (1, .inl x17))) (h18 : w[23]? = some (.inl (0, .inl x18))) (h19 : w[24]? = some (.inl (0, .inl x19))) (l17 : x17.length = 4) (r17 : ∀ x ∈ x17, pm_rng x 0 1) (l18 : x18.length = 4) (l19 : x19.length = 4) : pm_Mt sc 0 24 4 [.ref 21, .int k, .int a, .int b] w (fun rv w' => rv = none ∧ ∃ t f s : List Int32, pm_IX gi ga w' ∧ pm_hi w w' ∧ w'[22]? = some (.inl (1, .inl t)) ∧ w'[23]? = some (.inl (0, .inl f)) ∧ w'[24]? = some (.inl (0, .inl s)) ∧ fl_up x17 t k.toInt.toNat 1 ∧ fl_up x18 f k.toInt.toNat a ∧ fl_up x19 s k.toInt.toNat b ∧ (∀ x ∈ t, pm_rng x 0 1) ∧ ∀ j, ¬ (22 ≤ j ∧ j ≤ 24) → w'[j]? = w[j]?) := by
  intro d hd
  show pm_V sc d 24 0 _ [] w _
  have h16 : _ = some _ := hI.2 21 (by decide)
  refine v_aload_n rfl rfl ?_
  refine v_get rfl h16 rfl ?_
  refine v_iload_n rfl rfl ?_
  refine v_iconst (v := 1) rfl (by decide) ?_
  refine r_bastx rfl h17 l17 (by omega) (by omega) (Or.inr (by decide)) (fun t tl tm tg tn => ?_)
  refine r_gen (fun w1 e1 => ?_)
  have tr := r_rng tm r17 (by decide) (by decide)
  have hI1 : pm_IX gi ga w1 := by rw [e1]; exact hI.set 22 (by decide) ⟨t, tl, tr, rfl⟩
  have a16 := r_get_ne e1 (show 22 ≠ 21 by decide) h16
  have a17 := r_get_eq e1 h17
  have a18 := r_get_ne e1 (show 22 ≠ 23 by decide) h18
  have a19 := r_get_ne e1 (show 22 ≠ 24 by decide) h19
  refine v_aload_n rfl rfl ?_
  refine v_get rfl a16 rfl ?_
  refine v_iload_n rfl rfl ?_
  refine v_iload_n rfl rfl ?_
  refine r_iastx rfl a18 l18 (by omega) (by omega) (fun f fl fm fg fn => ?_)
  refine r_gen (fun w2 e2 => ?_)
  have hI2 : pm_IX gi ga w2 := by rw [e2]; exact hI1.set 23 (by decide) ⟨f, fl, rfl⟩
  have b16 := r_get_ne e2 (show 23 ≠ 21 by decide) a16
  have b17 := r_get_ne e2 (show 23 ≠ 22 by decide) a17
  have b18 := r_get_eq e2 a18
  have b19 := r_get_ne e2 (show 23 ≠ 24 by decide) a19
  refine v_aload_n rfl rfl ?_
  refine v_get rfl b16 rfl ?_
  refine v_iload_n rfl rfl ?_
  refine v_iload_n rfl rfl ?_
  refine r_iastx rfl b19 l19 (by omega) (by omega) (fun s sl sm sg sn => ?_)
  refine r_gen (fun w3 e3 => ?_)
  have hI3 : pm_IX gi ga w3 := by rw [e3]; exact hI2.set 24 (by decide) ⟨s, sl, rfl⟩
  have c17 := r_get_ne e3 (show 24 ≠ 22 by decide) b17
  have c18 := r_get_ne e3 (show 24 ≠ 23 by decide) b18
  have c19 := r_get_eq e3 b19
  refine v_ret rfl ⟨rfl, t, f, s, hI3, ?_, c17, c18, c19, ⟨by rw [tl, l17], tg, tn⟩, ⟨by rw [fl, l18], fg, fn⟩, ⟨by rw [sl, l19], sg, sn⟩, tr, fun j hj => ?_⟩
  · rw [e3, e2, e1]
    exact ((pm_hi.rf.set (by decide) _).set (by decide) _).set (by decide) _
  · rw [e3, List.getElem?_set_ne (by omega), e2, List.getElem?_set_ne (by omega), e1, List.getElem?_set_ne (by omega)]
set_option maxRecDepth 100000 in
theorem W_X4_found_20_e {sc : pm_S} {w w0 : pm_W} {gi : Nat → Int32} {ga : Nat → List Int32} (k : Int32) (a : Int32) (b : Int32)  (hR : pm_Rg gi ga) (hI : pm_IX gi ga w) (hh : pm_hi w0 w) : pm_Mt sc 0 17 4 [.ref 20, .int k, .int a, .int b] w (fun rv w' => rv = none ∧ pm_IX gi ga w' ∧ pm_hi w0 w' ∧ w'[20]? = some (.inr (4, [.int k, .int a, .int b, .ref 21, .ref 25])) ∧ (∀ j, j ≠ 20 → w'[j]? = w[j]?)) := by
  intro d hd
  obtain ⟨g0a, g0b⟩ := hR.n0
  obtain ⟨g1a, g1b⟩ := hR.n1
  obtain ⟨g2a, g2b⟩ := hR.n2
  obtain ⟨g3a, g3b⟩ := hR.n3
  obtain ⟨g4a, g4b⟩ := hR.n4
  obtain ⟨g5a, g5b⟩ := hR.n5
  obtain ⟨g6a, g6b⟩ := hR.n6
  obtain ⟨g7a, g7b⟩ := hR.n7
  obtain ⟨g8a, g8b⟩ := hR.n8
  show pm_V sc d 17 0 [.ref 20, .int k, .int a, .int b] [] w _
  refine v_aload_n rfl rfl ?_
  refine v_iload_n rfl rfl ?_
  obtain ⟨v2, v3, v4, h1⟩ := hI.2 20 (by decide)
  refine v_put rfl h1 rfl (Nat.le_of_ble_eq_true rfl) ?_
  refine r_gen (w' := w.set 20 (.inr (4, [.int k, .int v3, .int v4, .ref 21, .ref 25]))) (fun w5 e6 => ?_)
  have hI7 : pm_IX gi ga w5 := by rw [e6]; exact hI.set 20 (by decide) ⟨k, v3, v4, rfl⟩
  have hh8 : pm_hi w0 w5 := by rw [e6]; exact hh.set (by decide) _
  have h9 := r_get_eq e6 h1
  refine v_aload_n rfl rfl ?_
  refine v_iload_n rfl rfl ?_
  refine v_put rfl h9 rfl (Nat.le_of_ble_eq_true rfl) ?_
  refine r_gen (w' := w5.set 20 (.inr (4, [.int k, .int a, .int v4, .ref 21, .ref 25]))) (fun w10 e11 => ?_)
  have hI12 : pm_IX gi ga w10 := by rw [e11]; exact hI7.set 20 (by decide) ⟨k, a, v4, rfl⟩
  have hh13 : pm_hi w0 w10 := by rw [e11]; exact hh8.set (by decide) _
  have h14 := r_get_eq e11 h9
  refine v_aload_n rfl rfl ?_
  refine v_iload_n rfl rfl ?_
  refine v_put rfl h14 rfl (Nat.le_of_ble_eq_true rfl) ?_
  refine r_gen (w' := w10.set 20 (.inr (4, [.int k, .int a, .int b, .ref 21, .ref 25]))) (fun w15 e16 => ?_)
  have hI17 : pm_IX gi ga w15 := by rw [e16]; exact hI12.set 20 (by decide) ⟨k, a, b, rfl⟩
  have hh18 : pm_hi w0 w15 := by rw [e16]; exact hh13.set (by decide) _
  have h19 := r_get_eq e16 h14
  exact v_ret rfl ⟨rfl, hI17, hh18, h19, fun j hj => by rw [e16, List.getElem?_set_ne (Ne.symm hj), e11, List.getElem?_set_ne (Ne.symm hj), e6, List.getElem?_set_ne (Ne.symm hj)]⟩
set_option maxRecDepth 100000 in
theorem W_X4_fitsByColumns_20_5_e {sc : pm_S} {w : pm_W} {gi : Nat → Int32} {ga : Nat → List Int32} (c5_0 : Int32) (c7 : List Int64) (c8 : List Int32) (c9 : List Int32) (c22 : List Int32) (c23 : List Int32) (c24 : List Int32) (c25_0 : Int32) (c26 : List Int64) (p0 : 0 ≤ c5_0.toInt) (p1 : c5_0.toInt ≤ 20) (p2 : 0 ≤ c25_0.toInt) (p3 : c25_0.toInt ≤ 20) (hc5 : w[5]? = some (.inr (3, [.int c5_0, .ref 6, .ref 8, .ref 9]))) (hc7 : w[7]? = some (.inl (2, .inr (.inl c7)))) (hl7 : c7.length = 20) (hc8 : w[8]? = some (.inl (0, .inl c8))) (hl8 : c8.length = 20) (hr8 : ∀ x ∈ c8, pm_rng x (0) 19) (hc9 : w[9]? = some (.inl (0, .inl c9))) (hl9 : c9.length = 20) (hr9 : ∀ x ∈ c9, pm_rng x (0) 19) (hc22 : w[22]? = some (.inl (1, .inl c22))) (hl22 : c22.length = 4) (hr22 : ∀ x ∈ c22, pm_rng x (0) 1) (hc23 : w[23]? = some (.inl (0, .inl c23))) (hl23 : c23.length = 4) (hc24 : w[24]? = some (.inl (0, .inl c24))) (hl24 : c24.length = 4) (hc25 : w[25]? = some (.inr (8, [.int c25_0, .ref 26]))) (hc26 : w[26]? = some (.inl (2, .inr (.inl c26)))) (hl26 : c26.length = 20) (hR : pm_Rg gi ga) (hI : pm_IX gi ga w) : pm_Mt sc 2 21 6 [.ref 20, .ref 5] w (fun rv w' => pm_wI (fun v => 0 ≤ v.toInt ∧ v.toInt ≤ 1 ∧ ((v.toInt = 1 ∧ ex_fc c5_0.toInt c9 c8 c7 c26 c25_0.toInt.toNat c22 c23 c24) ∨ (v.toInt = 0 ∧ ¬ ex_fc c5_0.toInt c9 c8 c7 c26 c25_0.toInt.toNat c22 c23 c24))) rv ∧ w = w') := by
  intro d hd
  obtain ⟨g0a, g0b⟩ := hR.n0
  obtain ⟨g1a, g1b⟩ := hR.n1
  obtain ⟨g2a, g2b⟩ := hR.n2
  obtain ⟨g3a, g3b⟩ := hR.n3
  obtain ⟨g4a, g4b⟩ := hR.n4
  obtain ⟨g5a, g5b⟩ := hR.n5
  obtain ⟨g6a, g6b⟩ := hR.n6
  obtain ⟨g7a, g7b⟩ := hR.n7
  obtain ⟨g8a, g8b⟩ := hR.n8
  have k0 : (0 : Int32).toInt = 0 := by decide
  have k1 : (1 : Int32).toInt = 1 := by decide
  show pm_V sc d 21 0 [.ref 20, .ref 5, .null, .null, .null, .null] [] w _
  refine v_iconst (v := 0) rfl (by decide) ?_
  refine v_istore_n rfl (Nat.le_of_ble_eq_true rfl) ?_
  have L5 : ∀ (n5 : Nat) (l1 : Int32) (u2 : Value) (u3 : Value) (u4 : Value), 0 ≤ l1.toInt → l1.toInt ≤ 20 → (∀ x, x < l1.toInt.toNat → c26[x]? = if wv_col c22 c23 c24 c9 c8 c5_0.toInt x < 0 then some 0 else c7[(wv_col c22 c23 c24 c9 c8 c5_0.toInt x).toNat]?) → (20 - l1.toInt).toNat < n5 → pm_V sc d 21 2 [.ref 20, .ref 5, .int l1, u2, u3, u4] [] w (fun rv w' => pm_wI (fun v => 0 ≤ v.toInt ∧ v.toInt ≤ 1 ∧ ((v.toInt = 1 ∧ ex_fc c5_0.toInt c9 c8 c7 c26 c25_0.toInt.toNat c22 c23 c24) ∨ (v.toInt = 0 ∧ ¬ ex_fc c5_0.toInt c9 c8 c7 c26 c25_0.toInt.toNat c22 c23 c24))) rv ∧ w = w') := by
    intro n5
    induction n5 with
    | zero => intro l1 u2 u3 u4 t7 t8 t9 hm6; exact absurd hm6 (Nat.not_lt_zero _)
    | succ n5 ih2_5 =>
      intro l1 u2 u3 u4 t7 t8 t9 hm6
      refine v_iload_n rfl rfl ?_
      refine v_aload_n rfl rfl ?_
      obtain ⟨v11, v12, v13, h10⟩ := hI.2 20 (by decide)
      refine v_get rfl h10 rfl ?_
      refine v_get rfl hc25 rfl ?_
      refine r_icmp_ge rfl (fun t14 => ?_) (fun t14 => ?_)
      · refine v_iconst (v := 1) rfl (by decide) ?_
        exact r_zret rfl (by omega) ⟨⟨_, rfl, (by omega), (by omega), (by exact Or.inl ⟨by omega, fun x hx => t9 x (by omega)⟩)⟩, rfl⟩
      · refine v_aload_n rfl rfl ?_
        refine v_get rfl h10 rfl ?_
        refine v_iload_n rfl rfl ?_
        refine v_aload_n rfl rfl ?_
        have h15 : _ = some _ := hI.2 21 (by decide)
        refine v_callV rfl (W_X5_columnShown_21_5_e l1 c5_0 c8 c9 c22 c23 c24 (by omega) (by omega) (by omega) (by omega) hc5 hc8 hl8 hr8 hc9 hl9 hr9 hc22 hl22 hr22 hc23 hl23 hc24 hl24 hR hI) rfl rfl h15 rfl rfl (by omega) (fun rv w16 hq17 => ?_)
        obtain ⟨⟨z18, rfl, z18p0, z18p1, z18p2⟩, rfl⟩ := hq17
        have z18h : z18.toInt = wv_col c22 c23 c24 c9 c8 c5_0.toInt l1.toInt.toNat := z18p2
        refine v_istore_n rfl (Nat.le_of_ble_eq_true rfl) ?_
        refine v_iload_n rfl rfl ?_
        refine r_if_ge rfl (fun t19 => ?_) (fun t19 => ?_)
        · refine v_aload_n rfl rfl ?_
          refine v_get rfl hc5 rfl ?_
          obtain ⟨v21, ⟨v21a, v21b⟩, h20⟩ := hI.2 6 (by decide)
          refine v_get rfl h20 rfl ?_
          refine v_iload_n rfl rfl ?_
          obtain ⟨z22, z22z⟩ : ∃ z, c7[z18.toNatClampNeg]? = some z := ⟨_, List.getElem?_eq_getElem (r_ix hl7 (by omega) (by omega))⟩
          refine v_laload rfl hc7 (r_nn (by omega)) z22z ?_
          have q39 : c7[z18.toInt.toNat]? = some z22 := by rw [← i_cl]; exact z22z
          refine v_lstore rfl (Nat.le_of_ble_eq_true rfl) ?_
          refine v_aload_n rfl rfl ?_
          refine v_get rfl h10 rfl ?_
          refine v_get rfl hc25 rfl ?_
          refine v_iload_n rfl rfl ?_
          obtain ⟨z23, z23z⟩ : ∃ z, c26[l1.toNatClampNeg]? = some z := ⟨_, List.getElem?_eq_getElem (r_ix hl26 (by omega) (by omega))⟩
          refine v_laload rfl hc26 (r_nn (by omega)) z23z ?_
          have q50 : c26[l1.toInt.toNat]? = some z23 := by rw [← i_cl]; exact z23z
          refine v_lload rfl rfl ?_
          refine r_lcmp rfl (fun z24 z24c => ?_)
          skip
          refine r_if_eq rfl (fun t25 => ?_) (fun t25 => ?_)
          · refine r_iinc rfl rfl (by decide) (by omega) (by omega) (fun z26 z26e => ?_)
            refine v_goto rfl ?_
            exact ih2_5 z26 (.int z18) (.long z22) (.null) (by omega) (by omega) (by
                intro x hx
                by_cases e : x < l1.toInt.toNat
                · exact t9 x e
                · have e2 : x = l1.toInt.toNat := by omega
                  subst e2
                  rw [← z18h, q50, z24c.mp (by omega), if_neg (by omega), q39]) (by omega)
          · refine v_iconst (v := 0) rfl (by decide) ?_
            exact r_zret rfl (by omega) ⟨⟨_, rfl, (by omega), (by omega), (by
                refine Or.inr ⟨by omega, fun hx => ?_⟩
                have q := hx l1.toInt.toNat (by omega)
                rw [← z18h, q50, if_neg (by omega), q39] at q
                exact absurd (z24c.mpr (Option.some.inj q)) (by omega))⟩, rfl⟩
        · refine v_lconst (v := 0) rfl (by decide) ?_
          refine v_goto rfl ?_
          refine v_lstore rfl (Nat.le_of_ble_eq_true rfl) ?_
          refine v_aload_n rfl rfl ?_
          refine v_get rfl h10 rfl ?_
          refine v_get rfl hc25 rfl ?_
          refine v_iload_n rfl rfl ?_
          obtain ⟨z27, z27z⟩ : ∃ z, c26[l1.toNatClampNeg]? = some z := ⟨_, List.getElem?_eq_getElem (r_ix hl26 (by omega) (by omega))⟩
          refine v_laload rfl hc26 (r_nn (by omega)) z27z ?_
          have q50 : c26[l1.toInt.toNat]? = some z27 := by rw [← i_cl]; exact z27z
          refine v_lload rfl rfl ?_
          refine r_lcmp rfl (fun z28 z28c => ?_)
          skip
          refine r_if_eq rfl (fun t29 => ?_) (fun t29 => ?_)
          · refine r_iinc rfl rfl (by decide) (by omega) (by omega) (fun z30 z30e => ?_)
            refine v_goto rfl ?_
            exact ih2_5 z30 (.int z18) (.long (0 : Int64)) (.null) (by omega) (by omega) (by
                intro x hx
                by_cases e : x < l1.toInt.toNat
                · exact t9 x e
                · have e2 : x = l1.toInt.toNat := by omega
                  subst e2
                  rw [← z18h, q50, z28c.mp (by omega), if_pos (by omega)]) (by omega)
          · refine v_iconst (v := 0) rfl (by decide) ?_
            exact r_zret rfl (by omega) ⟨⟨_, rfl, (by omega), (by omega), (by
                refine Or.inr ⟨by omega, fun hx => ?_⟩
                have q := hx l1.toInt.toNat (by omega)
                rw [← z18h, q50, if_pos (by omega)] at q
                exact absurd (z28c.mpr (Option.some.inj q)) (by omega))⟩, rfl⟩
  exact L5 _ (0 : Int32) (.null) (.null) (.null) (by omega) (by omega) (by intro x hx; rw [show (0 : Int32).toInt.toNat = 0 from rfl] at hx; omega) (Nat.lt_add_one _)
set_option maxRecDepth 100000 in
theorem W_X4_fitsByRows_20_1_14_e {sc : pm_S} {w : pm_W} {gi : Nat → Int32} {ga : Nat → List Int32} (c22 : List Int32) (c23 : List Int32) (hc22 : w[22]? = some (.inl (1, .inl c22))) (hl22 : c22.length = 4) (hr22 : ∀ x ∈ c22, pm_rng x (0) 1) (hc23 : w[23]? = some (.inl (0, .inl c23))) (hl23 : c23.length = 4) (hR : pm_Rg gi ga) (hI : pm_IX gi ga w) : pm_Mt sc 1 22 7 [.ref 20, .ref 1, .ref 14] w (fun rv w' => pm_wI (fun v => 0 ≤ v.toInt ∧ v.toInt ≤ 1 ∧ ((v.toInt = 1 ∧ ex_fr (pm_enc (ga 15)) (pm_enc (ga 24)) (gi 1).toInt c22 c23) ∨ (v.toInt = 0 ∧ ¬ ex_fr (pm_enc (ga 15)) (pm_enc (ga 24)) (gi 1).toInt c22 c23))) rv ∧ w = w') := by
  intro d hd
  obtain ⟨g0a, g0b⟩ := hR.n0
  obtain ⟨g1a, g1b⟩ := hR.n1
  obtain ⟨g2a, g2b⟩ := hR.n2
  obtain ⟨g3a, g3b⟩ := hR.n3
  obtain ⟨g4a, g4b⟩ := hR.n4
  obtain ⟨g5a, g5b⟩ := hR.n5
  obtain ⟨g6a, g6b⟩ := hR.n6
  obtain ⟨g7a, g7b⟩ := hR.n7
  obtain ⟨g8a, g8b⟩ := hR.n8
  have k0 : (0 : Int32).toInt = 0 := by decide
  have k1 : (1 : Int32).toInt = 1 := by decide
  show pm_V sc d 22 0 [.ref 20, .ref 1, .ref 14, .null, .null, .null, .null] [] w _
  refine v_iconst (v := 0) rfl (by decide) ?_
  refine v_istore_n rfl (Nat.le_of_ble_eq_true rfl) ?_
  have L5 : ∀ (n5 : Nat) (l1 : Int32) (u2 : Value) (u3 : Value) (u4 : Value), 0 ≤ l1.toInt → l1.toInt ≤ 20 → (l1.toInt ≤ (gi 1).toInt) → (∀ x : Nat, x < l1.toInt.toNat → (pm_enc (ga 24))[x]? = if wv_pick c22 c23 (gi 1).toInt (x : Int) < 0 then some 0 else (pm_enc (ga 15))[(wv_pick c22 c23 (gi 1).toInt (x : Int)).toNat]?) → (20 - l1.toInt).toNat < n5 → pm_V sc d 22 2 [.ref 20, .ref 1, .ref 14, .int l1, u2, u3, u4] [] w (fun rv w' => pm_wI (fun v => 0 ≤ v.toInt ∧ v.toInt ≤ 1 ∧ ((v.toInt = 1 ∧ ex_fr (pm_enc (ga 15)) (pm_enc (ga 24)) (gi 1).toInt c22 c23) ∨ (v.toInt = 0 ∧ ¬ ex_fr (pm_enc (ga 15)) (pm_enc (ga 24)) (gi 1).toInt c22 c23))) rv ∧ w = w') := by
    intro n5
    induction n5 with
    | zero => intro l1 u2 u3 u4 t7 t8 t9 t10 hm6; exact absurd hm6 (Nat.not_lt_zero _)
    | succ n5 ih2_5 =>
      intro l1 u2 u3 u4 t7 t8 t9 t10 hm6
      refine v_iload_n rfl rfl ?_
      refine v_aload_n rfl rfl ?_
      have h11 : _ = some _ := hI.2 1 (by decide)
      refine v_get rfl h11 rfl ?_
      refine r_icmp_ge rfl (fun t12 => ?_) (fun t12 => ?_)
      · refine v_iconst (v := 1) rfl (by decide) ?_
        exact r_zret rfl (by omega) ⟨⟨_, rfl, (by omega), (by omega), (by exact Or.inl ⟨by omega, fun x hx => t10 x (by omega)⟩)⟩, rfl⟩
      · refine v_aload_n rfl rfl ?_
        obtain ⟨v14, v15, v16, h13⟩ := hI.2 20 (by decide)
        refine v_get rfl h13 rfl ?_
        refine v_iload_n rfl rfl ?_
        refine v_aload_n rfl rfl ?_
        refine v_get rfl h11 rfl ?_
        have h17 : _ = some _ := hI.2 21 (by decide)
        refine v_callV rfl (W_X5_pickShown_21_e l1 (gi 1) c22 c23 (by omega) (by omega) (by omega) (by omega) (by omega) hc22 hl22 hr22 hc23 hl23 hR hI) rfl rfl h17 rfl rfl (by omega) (fun rv w18 hq19 => ?_)
        obtain ⟨⟨z20, rfl, z20p0, z20p1, z20p2⟩, rfl⟩ := hq19
        have z20h : z20.toInt = wv_pick c22 c23 (gi 1).toInt (l1.toInt.toNat : Int) := by
          have q : z20.toInt = wv_pick c22 c23 (gi 1).toInt l1.toInt := z20p2
          rw [q, show ((l1.toInt.toNat : Nat) : Int) = l1.toInt by omega]
        refine v_istore rfl (Nat.le_of_ble_eq_true rfl) ?_
        refine v_iload rfl rfl ?_
        refine r_if_ge rfl (fun t21 => ?_) (fun t21 => ?_)
        · refine v_aload_n rfl rfl ?_
          refine v_get rfl h11 rfl ?_
          refine v_iload rfl rfl ?_
          obtain ⟨sq23l, sq23r, h22⟩ := hI.2 2 (by decide)
          obtain ⟨z24, z24z⟩ : ∃ z, (pm_enc (ga 15))[z20.toNatClampNeg]? = some z := ⟨_, List.getElem?_eq_getElem (r_ix pm_enc_len (by omega) (by omega))⟩
          refine v_laload rfl h22 (r_nn (by omega)) z24z ?_
          have q39 : (pm_enc (ga 15))[z20.toInt.toNat]? = some z24 := by rw [← i_cl]; exact z24z
          refine v_lstore rfl (Nat.le_of_ble_eq_true rfl) ?_
          refine v_aload_n rfl rfl ?_
          obtain ⟨v26, v27, ⟨⟨v26a, v26b⟩, v26e⟩, ⟨⟨v27a, v27b⟩, v27e⟩, h25⟩ := hI.2 14 (by decide)
          refine v_get rfl h25 rfl ?_
          refine v_iload_n rfl rfl ?_
          obtain ⟨xs29, xs29l, ⟨xs29e, xs29q⟩, h28⟩ := hI.2 15 (by decide)
          have xs29e : xs29 = (pm_enc (ga 24)) := xs29e
          subst xs29e
          obtain ⟨z30, z30z⟩ : ∃ z, (pm_enc (ga 24))[l1.toNatClampNeg]? = some z := ⟨_, List.getElem?_eq_getElem (r_ix xs29l (by omega) (by omega))⟩
          refine v_laload rfl h28 (r_nn (by omega)) z30z ?_
          have q50 : (pm_enc (ga 24))[l1.toInt.toNat]? = some z30 := by rw [← i_cl]; exact z30z
          refine v_lload rfl rfl ?_
          refine r_lcmp rfl (fun z31 z31c => ?_)
          skip
          refine r_if_eq rfl (fun t32 => ?_) (fun t32 => ?_)
          · refine r_iinc rfl rfl (by decide) (by omega) (by omega) (fun z33 z33e => ?_)
            refine v_goto rfl ?_
            exact ih2_5 z33 (.int z20) (.long z24) (.null) (by omega) (by omega) (by omega) (by
                intro x hx
                by_cases e : x < l1.toInt.toNat
                · exact t10 x e
                · have e2 : x = l1.toInt.toNat := by omega
                  subst e2
                  rw [← z20h, q50, z31c.mp (by omega), if_neg (by omega), q39]) (by omega)
          · refine v_iconst (v := 0) rfl (by decide) ?_
            exact r_zret rfl (by omega) ⟨⟨_, rfl, (by omega), (by omega), (by
                refine Or.inr ⟨by omega, fun hx => ?_⟩
                have q := hx l1.toInt.toNat (by omega)
                rw [← z20h, q50, if_neg (by omega), q39] at q
                exact absurd (z31c.mpr (Option.some.inj q)) (by omega))⟩, rfl⟩
        · refine v_lconst (v := 0) rfl (by decide) ?_
          refine v_goto rfl ?_
          refine v_lstore rfl (Nat.le_of_ble_eq_true rfl) ?_
          refine v_aload_n rfl rfl ?_
          obtain ⟨v35, v36, ⟨⟨v35a, v35b⟩, v35e⟩, ⟨⟨v36a, v36b⟩, v36e⟩, h34⟩ := hI.2 14 (by decide)
          refine v_get rfl h34 rfl ?_
          refine v_iload_n rfl rfl ?_
          obtain ⟨xs38, xs38l, ⟨xs38e, xs38q⟩, h37⟩ := hI.2 15 (by decide)
          have xs38e : xs38 = (pm_enc (ga 24)) := xs38e
          subst xs38e
          obtain ⟨z39, z39z⟩ : ∃ z, (pm_enc (ga 24))[l1.toNatClampNeg]? = some z := ⟨_, List.getElem?_eq_getElem (r_ix xs38l (by omega) (by omega))⟩
          refine v_laload rfl h37 (r_nn (by omega)) z39z ?_
          have q50 : (pm_enc (ga 24))[l1.toInt.toNat]? = some z39 := by rw [← i_cl]; exact z39z
          refine v_lload rfl rfl ?_
          refine r_lcmp rfl (fun z40 z40c => ?_)
          skip
          refine r_if_eq rfl (fun t41 => ?_) (fun t41 => ?_)
          · refine r_iinc rfl rfl (by decide) (by omega) (by omega) (fun z42 z42e => ?_)
            refine v_goto rfl ?_
            exact ih2_5 z42 (.int z20) (.long (0 : Int64)) (.null) (by omega) (by omega) (by omega) (by
                intro x hx
                by_cases e : x < l1.toInt.toNat
                · exact t10 x e
                · have e2 : x = l1.toInt.toNat := by omega
                  subst e2
                  rw [← z20h, q50, z40c.mp (by omega), if_pos (by omega)]) (by omega)
          · refine v_iconst (v := 0) rfl (by decide) ?_
            exact r_zret rfl (by omega) ⟨⟨_, rfl, (by omega), (by omega), (by
                refine Or.inr ⟨by omega, fun hx => ?_⟩
                have q := hx l1.toInt.toNat (by omega)
                rw [← z20h, q50, if_pos (by omega)] at q
                exact absurd (z40c.mpr (Option.some.inj q)) (by omega))⟩, rfl⟩
  exact L5 _ (0 : Int32) (.null) (.null) (.null) (by omega) (by omega) (by omega) (by intro x hx; rw [show (0 : Int32).toInt.toNat = 0 from rfl] at hx; omega) (Nat.lt_add_one _)
set_option maxRecDepth 100000 in
theorem W_X4_findBroken_20_5_e {sc : pm_S} {w w0 : pm_W} {gi : Nat → Int32} {ga : Nat → List Int32} (c5_0 : Int32) (c7 : List Int64) (c8 : List Int32) (c9 : List Int32) (c25_0 : Int32) (c26 : List Int64) (p0 : 0 ≤ c5_0.toInt) (p1 : c5_0.toInt ≤ 20) (p2 : 0 ≤ c25_0.toInt) (p3 : c25_0.toInt ≤ 20) (hc5 : w[5]? = some (.inr (3, [.int c5_0, .ref 6, .ref 8, .ref 9]))) (hc7 : w[7]? = some (.inl (2, .inr (.inl c7)))) (hl7 : c7.length = 20) (hc8 : w[8]? = some (.inl (0, .inl c8))) (hl8 : c8.length = 20) (hr8 : ∀ x ∈ c8, pm_rng x (0) 19) (hc9 : w[9]? = some (.inl (0, .inl c9))) (hl9 : c9.length = 20) (hr9 : ∀ x ∈ c9, pm_rng x (0) 19) (hc25 : w[25]? = some (.inr (8, [.int c25_0, .ref 26]))) (hc26 : w[26]? = some (.inl (2, .inr (.inl c26)))) (hl26 : c26.length = 20) (hR : pm_Rg gi ga) (hI : pm_IX gi ga w) (hh : pm_hi w0 w) : pm_Mt sc 3 18 3 [.ref 20, .ref 5] w (fun rv w' => ∃ v : Int32, rv = some (.int v) ∧ pm_IX gi ga w' ∧ pm_hi w0 w' ∧ (w'[5]? = some (.inr (3, [.int c5_0, .ref 6, .ref 8, .ref 9])) ∧ w'[7]? = some (.inl (2, .inr (.inl c7))) ∧ w'[8]? = some (.inl (0, .inl c8)) ∧ w'[9]? = some (.inl (0, .inl c9)) ∧ w'[25]? = some (.inr (8, [.int c25_0, .ref 26])) ∧ w'[26]? = some (.inl (2, .inr (.inl c26)))) ∧ ((v.toInt = 1 ∧ ∃ i : Nat, i < c5_0.toInt.toNat ∧ ex_r1 c8 c7 c26 c25_0.toInt.toNat i ∧ (∀ j, j < i → ¬ ex_r1 c8 c7 c26 c25_0.toInt.toNat j) ∧ ∃ e : Int32, e.toInt = (i : Int) ∧ w'[20]? = some (.inr (4, [.int 1, .int e, .int (-9), .ref 21, .ref 25]))) ∨ (v.toInt = 0 ∧ ∀ j, j < c5_0.toInt.toNat → ¬ ex_r1 c8 c7 c26 c25_0.toInt.toNat j))) := by
  intro d hd
  obtain ⟨g0a, g0b⟩ := hR.n0
  obtain ⟨g1a, g1b⟩ := hR.n1
  obtain ⟨g2a, g2b⟩ := hR.n2
  obtain ⟨g3a, g3b⟩ := hR.n3
  obtain ⟨g4a, g4b⟩ := hR.n4
  obtain ⟨g5a, g5b⟩ := hR.n5
  obtain ⟨g6a, g6b⟩ := hR.n6
  obtain ⟨g7a, g7b⟩ := hR.n7
  obtain ⟨g8a, g8b⟩ := hR.n8
  have km9 : (-9 : Int32).toInt = -9 := by decide
  have k0 : (0 : Int32).toInt = 0 := by decide
  have k1 : (1 : Int32).toInt = 1 := by decide
  show pm_V sc d 18 0 [.ref 20, .ref 5, .null] [] w _
  refine v_aload_n rfl rfl ?_
  obtain ⟨v2, v3, v4, h1⟩ := hI.2 20 (by decide)
  refine v_get rfl h1 rfl ?_
  have h5 : _ = some _ := hI.2 21 (by decide)
  obtain ⟨xs7, xs7l, xs7r, h6⟩ := hI.2 22 (by decide)
  refine v_callV rfl (W_X5_forget_21_e xs7 h6 xs7l xs7r hR hI hh) rfl rfl h5 rfl rfl (by omega) (fun rv w8 hq9 => ?_)
  obtain ⟨rfl, hI11, hh12, ⟨tt13, h14, tt13l, tt13r, tt13a, tt13b, tt13c, kp15⟩⟩ := hq9
  have h16 := (kp15 5 (by decide)).trans hc5
  have h17 := (kp15 7 (by decide)).trans hc7
  have h18 := (kp15 8 (by decide)).trans hc8
  have h19 := (kp15 9 (by decide)).trans hc9
  have h20 := (kp15 25 (by decide)).trans hc25
  have h21 := (kp15 26 (by decide)).trans hc26
  have h22 := (kp15 20 (by decide)).trans h1
  have h23 := (kp15 21 (by decide)).trans h5
  refine v_iconst (v := 0) rfl (by decide) ?_
  refine v_istore_n rfl (Nat.le_of_ble_eq_true rfl) ?_
  obtain ⟨xs25, xs25l, h24⟩ := hI11.2 23 (by decide)
  obtain ⟨xs27, xs27l, h26⟩ := hI11.2 24 (by decide)
  have L44 : ∀ (n44 : Nat) (l28 : Int32) (w29 : pm_W) (xs39 : List Int32) (xs41 : List Int32) (xs43 : List Int32), pm_IX gi ga w29 → pm_hi w0 w29 → w29[5]? = some (.inr (3, [.int c5_0, .ref 6, .ref 8, .ref 9])) → w29[7]? = some (.inl (2, .inr (.inl c7))) → w29[8]? = some (.inl (0, .inl c8)) → w29[9]? = some (.inl (0, .inl c9)) → w29[25]? = some (.inr (8, [.int c25_0, .ref 26])) → w29[26]? = some (.inl (2, .inr (.inl c26))) → w29[22]? = some (.inl (1, .inl xs39)) → xs39.length = 4 → (∀ x ∈ xs39, pm_rng x (0) 1) → w29[23]? = some (.inl (0, .inl xs41)) → xs41.length = 4 → w29[24]? = some (.inl (0, .inl xs43)) → xs43.length = 4 → 0 ≤ l28.toInt → l28.toInt ≤ 20 → (l28.toInt ≤ c5_0.toInt) → ((xs39.getD 3 0).toInt = 0) → (∀ j, j < l28.toInt.toNat → ¬ ex_r1 c8 c7 c26 c25_0.toInt.toNat j) → (20 - l28.toInt).toNat < n44 → pm_V sc d 18 9 [.ref 20, .ref 5, .int l28] [] w29 (fun rv w' => ∃ v : Int32, rv = some (.int v) ∧ pm_IX gi ga w' ∧ pm_hi w0 w' ∧ (w'[5]? = some (.inr (3, [.int c5_0, .ref 6, .ref 8, .ref 9])) ∧ w'[7]? = some (.inl (2, .inr (.inl c7))) ∧ w'[8]? = some (.inl (0, .inl c8)) ∧ w'[9]? = some (.inl (0, .inl c9)) ∧ w'[25]? = some (.inr (8, [.int c25_0, .ref 26])) ∧ w'[26]? = some (.inl (2, .inr (.inl c26)))) ∧ ((v.toInt = 1 ∧ ∃ i : Nat, i < c5_0.toInt.toNat ∧ ex_r1 c8 c7 c26 c25_0.toInt.toNat i ∧ (∀ j, j < i → ¬ ex_r1 c8 c7 c26 c25_0.toInt.toNat j) ∧ ∃ e : Int32, e.toInt = (i : Int) ∧ w'[20]? = some (.inr (4, [.int 1, .int e, .int (-9), .ref 21, .ref 25]))) ∨ (v.toInt = 0 ∧ ∀ j, j < c5_0.toInt.toNat → ¬ ex_r1 c8 c7 c26 c25_0.toInt.toNat j))) := by
    intro n44
    induction n44 with
    | zero => intro l28 w29 xs39 xs41 xs43 hI30 hh31 h32 h33 h34 h35 h36 h37 h38 xs39l xs39r h40 xs41l h42 xs43l t46 t47 t48 t49 t50 hm45; exact absurd hm45 (Nat.not_lt_zero _)
    | succ n44 ih9_44 =>
      intro l28 w29 xs39 xs41 xs43 hI30 hh31 h32 h33 h34 h35 h36 h37 h38 xs39l xs39r h40 xs41l h42 xs43l t46 t47 t48 t49 t50 hm45
      refine v_iload_n rfl rfl ?_
      refine v_aload_n rfl rfl ?_
      refine v_get rfl h32 rfl ?_
      refine r_icmp_ge rfl (fun t51 => ?_) (fun t51 => ?_)
      · refine v_iconst (v := 0) rfl (by decide) ?_
        exact r_zret rfl (by omega) ⟨_, rfl, hI30, hh31, ⟨h32, h33, h34, h35, h36, h37⟩, Or.inr ⟨by omega, fun j hj => t50 j (by omega)⟩⟩
      · refine v_aload_n rfl rfl ?_
        obtain ⟨v53, v54, v55, h52⟩ := hI30.2 20 (by decide)
        refine v_get rfl h52 rfl ?_
        refine v_iconst (v := 1) rfl (by decide) ?_
        refine v_iload_n rfl rfl ?_
        refine v_bipush (v := (-9)) rfl (by decide) ?_
        have h56 : _ = some _ := hI30.2 21 (by decide)
        refine v_callV rfl (c_tell21 (1 : Int32) l28 (-9 : Int32) (by omega) (by omega) hI30 h38 h40 h42 xs39l xs39r xs41l xs43l) rfl rfl h56 rfl rfl (by omega) (fun rv w57 hq58 => ?_)
        obtain ⟨rfl, tq61, fq61, sq61, hI59, hh60x, q61a, q61b, q61c, q61u, q61v, q61w, q61r, q61k⟩ := hq58
        have hh60 := hh31.tr hh60x
        have tq61l : tq61.length = 4 := q61u.1.trans xs39l
        have fq61l : fq61.length = 4 := q61v.1.trans xs41l
        have sq61l : sq61.length = 4 := q61w.1.trans xs43l
        have h62 := (q61k 5 (by decide)).trans h32
        have h63 := (q61k 7 (by decide)).trans h33
        have h64 := (q61k 8 (by decide)).trans h34
        have h65 := (q61k 9 (by decide)).trans h35
        have h66 := (q61k 25 (by decide)).trans h36
        have h67 := (q61k 26 (by decide)).trans h37
        have h68 := (q61k 20 (by decide)).trans h52
        have h69 := (q61k 21 (by decide)).trans h56
        refine v_aload_n rfl rfl ?_
        refine v_aload_n rfl rfl ?_
        refine v_callV rfl (W_X4_fitsByColumns_20_5_e c5_0 c7 c8 c9 tq61 fq61 sq61 c25_0 c26 (by omega) (by omega) (by omega) (by omega) h62 h63 hl7 h64 hl8 hr8 h65 hl9 hr9 q61a tq61l q61r q61b fq61l q61c sq61l h66 h67 hl26 hR hI59) rfl rfl h68 rfl rfl (by omega) (fun rv w70 hq71 => ?_)
        obtain ⟨⟨z72, rfl, z72p0, z72p1, z72p2⟩, rfl⟩ := hq71
        skip
        refine r_if_eq rfl (fun t73 => ?_) (fun t73 => ?_)
        · refine r_iinc rfl rfl (by decide) (by omega) (by omega) (fun z74 z74e => ?_)
          refine v_goto rfl ?_
          exact ih9_44 z74 w57 tq61 fq61 sq61 hI59 hh60 h62 h63 h64 h65 h66 h67 q61a tq61l q61r q61b fq61l q61c sq61l (by omega) (by omega) (by omega) (by rw [q61u.2.2 3 (by decide)]; exact t49) (by
              intro j hj
              by_cases e : j < l28.toInt.toNat
              · exact t50 j e
              · have e2 : j = l28.toInt.toNat := by omega
                subst e2
                intro h
                rcases z72p2 with ⟨g1, g2⟩ | ⟨g1, g2⟩
                · omega
                · exact g2 ((ex_fc1 (i := l28.toInt.toNat) (show (tq61.getD 1 0).toInt = 1 from by rw [show tq61.getD 1 0 = 1 from q61u.2.1]; rfl) (by rw [q61u.2.2 3 (by decide)]; exact t49) (by rw [show fq61.getD 1 0 = l28 from q61v.2.1]; omega)).mpr h)) (by omega)
        · refine v_aload_n rfl rfl ?_
          refine v_iconst (v := 1) rfl (by decide) ?_
          refine v_iload_n rfl rfl ?_
          refine v_bipush (v := (-9)) rfl (by decide) ?_
          refine v_callV rfl (W_X4_found_20_e (1 : Int32) l28 (-9 : Int32) hR hI59 hh60) rfl rfl h68 rfl rfl (by omega) (fun rv w75 hq76 => ?_)
          obtain ⟨rfl, hI77, hh78, h79, kp80⟩ := hq76
          have h81 := (kp80 22 (by decide)).trans q61a
          have h82 := (kp80 23 (by decide)).trans q61b
          have h83 := (kp80 24 (by decide)).trans q61c
          have h84 := (kp80 5 (by decide)).trans h62
          have h85 := (kp80 7 (by decide)).trans h63
          have h86 := (kp80 8 (by decide)).trans h64
          have h87 := (kp80 9 (by decide)).trans h65
          have h88 := (kp80 25 (by decide)).trans h66
          have h89 := (kp80 26 (by decide)).trans h67
          have h90 := (kp80 21 (by decide)).trans h69
          refine v_iconst (v := 1) rfl (by decide) ?_
          exact r_zret rfl (by omega) ⟨_, rfl, hI77, hh78, ⟨h84, h85, h86, h87, h88, h89⟩, Or.inl ⟨by omega, l28.toInt.toNat, by omega, (by
      rcases z72p2 with ⟨g1, g2⟩ | ⟨g1, g2⟩
      · exact (ex_fc1 (i := l28.toInt.toNat) (show (tq61.getD 1 0).toInt = 1 from by rw [show tq61.getD 1 0 = 1 from q61u.2.1]; rfl) (by rw [q61u.2.2 3 (by decide)]; exact t49) (by rw [show fq61.getD 1 0 = l28 from q61v.2.1]; omega)).mp g2
      · omega), t50, l28, by omega, h79⟩⟩
  exact L44 _ (0 : Int32) w8 tt13 xs25 xs27 hI11 hh12 h16 h17 h18 h19 h20 h21 h14 tt13l tt13r h24 xs25l h26 xs27l (by omega) (by omega) (by omega) (by exact tt13c) (by intro j hj; rw [show (0 : Int32).toInt.toNat = 0 from rfl] at hj; omega) (Nat.lt_add_one _)
set_option maxRecDepth 100000 in
theorem W_X4_findSkipped_20_1_14_e {sc : pm_S} {w w0 : pm_W} {gi : Nat → Int32} {ga : Nat → List Int32} (c5_0 : Int32) (c7 : List Int64) (c8 : List Int32) (c9 : List Int32) (c25_0 : Int32) (c26 : List Int64) (p0 : 0 ≤ c5_0.toInt) (p1 : c5_0.toInt ≤ 20) (p2 : 0 ≤ c25_0.toInt) (p3 : c25_0.toInt ≤ 20) (hc5 : w[5]? = some (.inr (3, [.int c5_0, .ref 6, .ref 8, .ref 9]))) (hc7 : w[7]? = some (.inl (2, .inr (.inl c7)))) (hl7 : c7.length = 20) (hc8 : w[8]? = some (.inl (0, .inl c8))) (hl8 : c8.length = 20) (hr8 : ∀ x ∈ c8, pm_rng x (0) 19) (hc9 : w[9]? = some (.inl (0, .inl c9))) (hl9 : c9.length = 20) (hr9 : ∀ x ∈ c9, pm_rng x (0) 19) (hc25 : w[25]? = some (.inr (8, [.int c25_0, .ref 26]))) (hc26 : w[26]? = some (.inl (2, .inr (.inl c26)))) (hl26 : c26.length = 20) (hR : pm_Rg gi ga) (hI : pm_IX gi ga w) (hh : pm_hi w0 w) : pm_Mt sc 2 19 4 [.ref 20, .ref 1, .ref 14] w (fun rv w' => ∃ v : Int32, rv = some (.int v) ∧ pm_IX gi ga w' ∧ pm_hi w0 w' ∧ (w'[5]? = some (.inr (3, [.int c5_0, .ref 6, .ref 8, .ref 9])) ∧ w'[7]? = some (.inl (2, .inr (.inl c7))) ∧ w'[8]? = some (.inl (0, .inl c8)) ∧ w'[9]? = some (.inl (0, .inl c9)) ∧ w'[25]? = some (.inr (8, [.int c25_0, .ref 26])) ∧ w'[26]? = some (.inl (2, .inr (.inl c26)))) ∧ ((v.toInt = 1 ∧ ∃ i : Nat, i < (gi 1).toInt.toNat ∧ ex_r2 (pm_enc (ga 15)) (pm_enc (ga 24)) (gi 1).toInt.toNat i ∧ (∀ j, j < i → ¬ ex_r2 (pm_enc (ga 15)) (pm_enc (ga 24)) (gi 1).toInt.toNat j) ∧ ∃ e : Int32, e.toInt = (i : Int) ∧ w'[20]? = some (.inr (4, [.int 2, .int e, .int (-9), .ref 21, .ref 25]))) ∨ (v.toInt = 0 ∧ ∀ j, j < (gi 1).toInt.toNat → ¬ ex_r2 (pm_enc (ga 15)) (pm_enc (ga 24)) (gi 1).toInt.toNat j))) := by
  intro d hd
  obtain ⟨g0a, g0b⟩ := hR.n0
  obtain ⟨g1a, g1b⟩ := hR.n1
  obtain ⟨g2a, g2b⟩ := hR.n2
  obtain ⟨g3a, g3b⟩ := hR.n3
  obtain ⟨g4a, g4b⟩ := hR.n4
  obtain ⟨g5a, g5b⟩ := hR.n5
  obtain ⟨g6a, g6b⟩ := hR.n6
  obtain ⟨g7a, g7b⟩ := hR.n7
  obtain ⟨g8a, g8b⟩ := hR.n8
  have km9 : (-9 : Int32).toInt = -9 := by decide
  have k0 : (0 : Int32).toInt = 0 := by decide
  have k1 : (1 : Int32).toInt = 1 := by decide
  have k2 : (2 : Int32).toInt = 2 := by decide
  show pm_V sc d 19 0 [.ref 20, .ref 1, .ref 14, .null] [] w _
  refine v_aload_n rfl rfl ?_
  obtain ⟨v2, v3, v4, h1⟩ := hI.2 20 (by decide)
  refine v_get rfl h1 rfl ?_
  have h5 : _ = some _ := hI.2 21 (by decide)
  obtain ⟨xs7, xs7l, xs7r, h6⟩ := hI.2 22 (by decide)
  refine v_callV rfl (W_X5_forget_21_e xs7 h6 xs7l xs7r hR hI hh) rfl rfl h5 rfl rfl (by omega) (fun rv w8 hq9 => ?_)
  obtain ⟨rfl, hI11, hh12, ⟨tt13, h14, tt13l, tt13r, tt13a, tt13b, tt13c, kp15⟩⟩ := hq9
  have h16 := (kp15 5 (by decide)).trans hc5
  have h17 := (kp15 7 (by decide)).trans hc7
  have h18 := (kp15 8 (by decide)).trans hc8
  have h19 := (kp15 9 (by decide)).trans hc9
  have h20 := (kp15 25 (by decide)).trans hc25
  have h21 := (kp15 26 (by decide)).trans hc26
  have h22 := (kp15 20 (by decide)).trans h1
  have h23 := (kp15 21 (by decide)).trans h5
  refine v_iconst (v := 0) rfl (by decide) ?_
  refine v_istore_n rfl (Nat.le_of_ble_eq_true rfl) ?_
  obtain ⟨xs25, xs25l, h24⟩ := hI11.2 23 (by decide)
  obtain ⟨xs27, xs27l, h26⟩ := hI11.2 24 (by decide)
  have L44 : ∀ (n44 : Nat) (l28 : Int32) (w29 : pm_W) (xs39 : List Int32) (xs41 : List Int32) (xs43 : List Int32), pm_IX gi ga w29 → pm_hi w0 w29 → w29[5]? = some (.inr (3, [.int c5_0, .ref 6, .ref 8, .ref 9])) → w29[7]? = some (.inl (2, .inr (.inl c7))) → w29[8]? = some (.inl (0, .inl c8)) → w29[9]? = some (.inl (0, .inl c9)) → w29[25]? = some (.inr (8, [.int c25_0, .ref 26])) → w29[26]? = some (.inl (2, .inr (.inl c26))) → w29[22]? = some (.inl (1, .inl xs39)) → xs39.length = 4 → (∀ x ∈ xs39, pm_rng x (0) 1) → w29[23]? = some (.inl (0, .inl xs41)) → xs41.length = 4 → w29[24]? = some (.inl (0, .inl xs43)) → xs43.length = 4 → 0 ≤ l28.toInt → l28.toInt ≤ 20 → (l28.toInt ≤ (gi 1).toInt) → (∀ j, j < l28.toInt.toNat → ¬ ex_r2 (pm_enc (ga 15)) (pm_enc (ga 24)) (gi 1).toInt.toNat j) → (20 - l28.toInt).toNat < n44 → pm_V sc d 19 9 [.ref 20, .ref 1, .ref 14, .int l28] [] w29 (fun rv w' => ∃ v : Int32, rv = some (.int v) ∧ pm_IX gi ga w' ∧ pm_hi w0 w' ∧ (w'[5]? = some (.inr (3, [.int c5_0, .ref 6, .ref 8, .ref 9])) ∧ w'[7]? = some (.inl (2, .inr (.inl c7))) ∧ w'[8]? = some (.inl (0, .inl c8)) ∧ w'[9]? = some (.inl (0, .inl c9)) ∧ w'[25]? = some (.inr (8, [.int c25_0, .ref 26])) ∧ w'[26]? = some (.inl (2, .inr (.inl c26)))) ∧ ((v.toInt = 1 ∧ ∃ i : Nat, i < (gi 1).toInt.toNat ∧ ex_r2 (pm_enc (ga 15)) (pm_enc (ga 24)) (gi 1).toInt.toNat i ∧ (∀ j, j < i → ¬ ex_r2 (pm_enc (ga 15)) (pm_enc (ga 24)) (gi 1).toInt.toNat j) ∧ ∃ e : Int32, e.toInt = (i : Int) ∧ w'[20]? = some (.inr (4, [.int 2, .int e, .int (-9), .ref 21, .ref 25]))) ∨ (v.toInt = 0 ∧ ∀ j, j < (gi 1).toInt.toNat → ¬ ex_r2 (pm_enc (ga 15)) (pm_enc (ga 24)) (gi 1).toInt.toNat j))) := by
    intro n44
    induction n44 with
    | zero => intro l28 w29 xs39 xs41 xs43 hI30 hh31 h32 h33 h34 h35 h36 h37 h38 xs39l xs39r h40 xs41l h42 xs43l t46 t47 t48 t49 hm45; exact absurd hm45 (Nat.not_lt_zero _)
    | succ n44 ih9_44 =>
      intro l28 w29 xs39 xs41 xs43 hI30 hh31 h32 h33 h34 h35 h36 h37 h38 xs39l xs39r h40 xs41l h42 xs43l t46 t47 t48 t49 hm45
      refine v_iload_n rfl rfl ?_
      refine v_aload_n rfl rfl ?_
      have h50 : _ = some _ := hI30.2 1 (by decide)
      refine v_get rfl h50 rfl ?_
      refine r_icmp_ge rfl (fun t51 => ?_) (fun t51 => ?_)
      · refine v_iconst (v := 0) rfl (by decide) ?_
        exact r_zret rfl (by omega) ⟨_, rfl, hI30, hh31, ⟨h32, h33, h34, h35, h36, h37⟩, Or.inr ⟨by omega, fun j hj => t49 j (by omega)⟩⟩
      · refine v_aload_n rfl rfl ?_
        obtain ⟨v53, v54, v55, h52⟩ := hI30.2 20 (by decide)
        refine v_get rfl h52 rfl ?_
        refine v_iconst (v := 2) rfl (by decide) ?_
        refine v_iload_n rfl rfl ?_
        refine v_bipush (v := (-9)) rfl (by decide) ?_
        have h56 : _ = some _ := hI30.2 21 (by decide)
        refine v_callV rfl (c_tell21 (2 : Int32) l28 (-9 : Int32) (by omega) (by omega) hI30 h38 h40 h42 xs39l xs39r xs41l xs43l) rfl rfl h56 rfl rfl (by omega) (fun rv w57 hq58 => ?_)
        obtain ⟨rfl, tq61, fq61, sq61, hI59, hh60x, q61a, q61b, q61c, q61u, q61v, q61w, q61r, q61k⟩ := hq58
        have hh60 := hh31.tr hh60x
        have tq61l : tq61.length = 4 := q61u.1.trans xs39l
        have fq61l : fq61.length = 4 := q61v.1.trans xs41l
        have sq61l : sq61.length = 4 := q61w.1.trans xs43l
        have h62 := (q61k 5 (by decide)).trans h32
        have h63 := (q61k 7 (by decide)).trans h33
        have h64 := (q61k 8 (by decide)).trans h34
        have h65 := (q61k 9 (by decide)).trans h35
        have h66 := (q61k 25 (by decide)).trans h36
        have h67 := (q61k 26 (by decide)).trans h37
        have h68 := (q61k 1 (by decide)).trans h50
        have h69 := (q61k 20 (by decide)).trans h52
        have h70 := (q61k 21 (by decide)).trans h56
        refine v_aload_n rfl rfl ?_
        refine v_aload_n rfl rfl ?_
        refine v_aload_n rfl rfl ?_
        refine v_callV rfl (W_X4_fitsByRows_20_1_14_e tq61 fq61 q61a tq61l q61r q61b fq61l hR hI59) rfl rfl h69 rfl rfl (by omega) (fun rv w71 hq72 => ?_)
        obtain ⟨⟨z73, rfl, z73p0, z73p1, z73p2⟩, rfl⟩ := hq72
        skip
        refine r_if_eq rfl (fun t74 => ?_) (fun t74 => ?_)
        · refine r_iinc rfl rfl (by decide) (by omega) (by omega) (fun z75 z75e => ?_)
          refine v_goto rfl ?_
          exact ih9_44 z75 w57 tq61 fq61 sq61 hI59 hh60 h62 h63 h64 h65 h66 h67 q61a tq61l q61r q61b fq61l q61c sq61l (by omega) (by omega) (by omega) (by
              intro j hj
              by_cases e : j < l28.toInt.toNat
              · exact t49 j e
              · have e2 : j = l28.toInt.toNat := by omega
                subst e2
                intro h
                rcases z73p2 with ⟨g1, g2⟩ | ⟨g1, g2⟩
                · omega
                · exact g2 (by rw [show (gi 1).toInt = (((gi 1).toInt.toNat : Nat) : Int) by omega]; exact (ex_fr2 (H := (gi 1).toInt.toNat) (i := l28.toInt.toNat) (show (tq61.getD 2 0).toInt = 1 from by rw [show tq61.getD 2 0 = 1 from q61u.2.1]; rfl) (by rw [show fq61.getD 2 0 = l28 from q61v.2.1]; omega) (by omega)).mpr h)) (by omega)
        · refine v_aload_n rfl rfl ?_
          refine v_iconst (v := 2) rfl (by decide) ?_
          refine v_iload_n rfl rfl ?_
          refine v_bipush (v := (-9)) rfl (by decide) ?_
          refine v_callV rfl (W_X4_found_20_e (2 : Int32) l28 (-9 : Int32) hR hI59 hh60) rfl rfl h69 rfl rfl (by omega) (fun rv w76 hq77 => ?_)
          obtain ⟨rfl, hI78, hh79, h80, kp81⟩ := hq77
          have h82 := (kp81 22 (by decide)).trans q61a
          have h83 := (kp81 23 (by decide)).trans q61b
          have h84 := (kp81 24 (by decide)).trans q61c
          have h85 := (kp81 5 (by decide)).trans h62
          have h86 := (kp81 7 (by decide)).trans h63
          have h87 := (kp81 8 (by decide)).trans h64
          have h88 := (kp81 9 (by decide)).trans h65
          have h89 := (kp81 25 (by decide)).trans h66
          have h90 := (kp81 26 (by decide)).trans h67
          have h91 := (kp81 1 (by decide)).trans h68
          have h92 := (kp81 21 (by decide)).trans h70
          refine v_iconst (v := 1) rfl (by decide) ?_
          exact r_zret rfl (by omega) ⟨_, rfl, hI78, hh79, ⟨h85, h86, h87, h88, h89, h90⟩, Or.inl ⟨by omega, l28.toInt.toNat, by omega, (by
      rcases z73p2 with ⟨g1, g2⟩ | ⟨g1, g2⟩
      · rw [show (gi 1).toInt = (((gi 1).toInt.toNat : Nat) : Int) by omega] at g2
        exact (ex_fr2 (H := (gi 1).toInt.toNat) (i := l28.toInt.toNat) (show (tq61.getD 2 0).toInt = 1 from by rw [show tq61.getD 2 0 = 1 from q61u.2.1]; rfl) (by rw [show fq61.getD 2 0 = l28 from q61v.2.1]; omega) (by omega)).mp g2
      · omega), t49, l28, by omega, h80⟩⟩
  exact L44 _ (0 : Int32) w8 tt13 xs25 xs27 hI11 hh12 h16 h17 h18 h19 h20 h21 h14 tt13l tt13r h24 xs25l h26 xs27l (by omega) (by omega) (by omega) (by intro j hj; rw [show (0 : Int32).toInt.toNat = 0 from rfl] at hj; omega) (Nat.lt_add_one _)
set_option maxRecDepth 100000 in
theorem W_X4_findCrossed_20_5_e {sc : pm_S} {w w0 : pm_W} {gi : Nat → Int32} {ga : Nat → List Int32} (c5_0 : Int32) (c7 : List Int64) (c8 : List Int32) (c9 : List Int32) (c25_0 : Int32) (c26 : List Int64) (p0 : 0 ≤ c5_0.toInt) (p1 : c5_0.toInt ≤ 20) (p2 : 0 ≤ c25_0.toInt) (p3 : c25_0.toInt ≤ 20) (hc5 : w[5]? = some (.inr (3, [.int c5_0, .ref 6, .ref 8, .ref 9]))) (hc7 : w[7]? = some (.inl (2, .inr (.inl c7)))) (hl7 : c7.length = 20) (hc8 : w[8]? = some (.inl (0, .inl c8))) (hl8 : c8.length = 20) (hr8 : ∀ x ∈ c8, pm_rng x (0) 19) (hc9 : w[9]? = some (.inl (0, .inl c9))) (hl9 : c9.length = 20) (hr9 : ∀ x ∈ c9, pm_rng x (0) 19) (hc25 : w[25]? = some (.inr (8, [.int c25_0, .ref 26]))) (hc26 : w[26]? = some (.inl (2, .inr (.inl c26)))) (hl26 : c26.length = 20) (hR : pm_Rg gi ga) (hI : pm_IX gi ga w) (hh : pm_hi w0 w) : pm_Mt sc 3 20 4 [.ref 20, .ref 5] w (fun rv w' => ∃ v : Int32, rv = some (.int v) ∧ pm_IX gi ga w' ∧ pm_hi w0 w' ∧ (w'[5]? = some (.inr (3, [.int c5_0, .ref 6, .ref 8, .ref 9])) ∧ w'[7]? = some (.inl (2, .inr (.inl c7))) ∧ w'[8]? = some (.inl (0, .inl c8)) ∧ w'[9]? = some (.inl (0, .inl c9)) ∧ w'[25]? = some (.inr (8, [.int c25_0, .ref 26])) ∧ w'[26]? = some (.inl (2, .inr (.inl c26)))) ∧ ((v.toInt = 1 ∧ ∃ i n : Nat, i < n ∧ n < c5_0.toInt.toNat ∧ ex_r3 c9 c8 c7 c26 c25_0.toInt.toNat i n ∧ (∀ j l, j < i → j < l → l < c5_0.toInt.toNat → ¬ ex_r3 c9 c8 c7 c26 c25_0.toInt.toNat j l) ∧ (∀ l, i < l → l < n → ¬ ex_r3 c9 c8 c7 c26 c25_0.toInt.toNat i l) ∧ ∃ e f : Int32, e.toInt = (i : Int) ∧ f.toInt = (n : Int) ∧ w'[20]? = some (.inr (4, [.int 3, .int e, .int f, .ref 21, .ref 25]))) ∨ (v.toInt = 0 ∧ ∀ j l, j < l → l < c5_0.toInt.toNat → ¬ ex_r3 c9 c8 c7 c26 c25_0.toInt.toNat j l))) := by
  intro d hd
  obtain ⟨g0a, g0b⟩ := hR.n0
  obtain ⟨g1a, g1b⟩ := hR.n1
  obtain ⟨g2a, g2b⟩ := hR.n2
  obtain ⟨g3a, g3b⟩ := hR.n3
  obtain ⟨g4a, g4b⟩ := hR.n4
  obtain ⟨g5a, g5b⟩ := hR.n5
  obtain ⟨g6a, g6b⟩ := hR.n6
  obtain ⟨g7a, g7b⟩ := hR.n7
  obtain ⟨g8a, g8b⟩ := hR.n8
  have k0 : (0 : Int32).toInt = 0 := by decide
  have k1 : (1 : Int32).toInt = 1 := by decide
  have k3 : (3 : Int32).toInt = 3 := by decide
  show pm_V sc d 20 0 [.ref 20, .ref 5, .null, .null] [] w _
  refine v_aload_n rfl rfl ?_
  obtain ⟨v2, v3, v4, h1⟩ := hI.2 20 (by decide)
  refine v_get rfl h1 rfl ?_
  have h5 : _ = some _ := hI.2 21 (by decide)
  obtain ⟨xs7, xs7l, xs7r, h6⟩ := hI.2 22 (by decide)
  refine v_callV rfl (W_X5_forget_21_e xs7 h6 xs7l xs7r hR hI hh) rfl rfl h5 rfl rfl (by omega) (fun rv w8 hq9 => ?_)
  obtain ⟨rfl, hI11, hh12, ⟨tt13, h14, tt13l, tt13r, tt13a, tt13b, tt13c, kp15⟩⟩ := hq9
  have h16 := (kp15 5 (by decide)).trans hc5
  have h17 := (kp15 7 (by decide)).trans hc7
  have h18 := (kp15 8 (by decide)).trans hc8
  have h19 := (kp15 9 (by decide)).trans hc9
  have h20 := (kp15 25 (by decide)).trans hc25
  have h21 := (kp15 26 (by decide)).trans hc26
  have h22 := (kp15 20 (by decide)).trans h1
  have h23 := (kp15 21 (by decide)).trans h5
  refine v_iconst (v := 0) rfl (by decide) ?_
  refine v_istore_n rfl (Nat.le_of_ble_eq_true rfl) ?_
  obtain ⟨xs25, xs25l, h24⟩ := hI11.2 23 (by decide)
  obtain ⟨xs27, xs27l, h26⟩ := hI11.2 24 (by decide)
  have L45 : ∀ (n45 : Nat) (l28 : Int32) (u29 : Value) (w30 : pm_W) (xs40 : List Int32) (xs42 : List Int32) (xs44 : List Int32), pm_IX gi ga w30 → pm_hi w0 w30 → w30[5]? = some (.inr (3, [.int c5_0, .ref 6, .ref 8, .ref 9])) → w30[7]? = some (.inl (2, .inr (.inl c7))) → w30[8]? = some (.inl (0, .inl c8)) → w30[9]? = some (.inl (0, .inl c9)) → w30[25]? = some (.inr (8, [.int c25_0, .ref 26])) → w30[26]? = some (.inl (2, .inr (.inl c26))) → w30[22]? = some (.inl (1, .inl xs40)) → xs40.length = 4 → (∀ x ∈ xs40, pm_rng x (0) 1) → w30[23]? = some (.inl (0, .inl xs42)) → xs42.length = 4 → w30[24]? = some (.inl (0, .inl xs44)) → xs44.length = 4 → 0 ≤ l28.toInt → l28.toInt ≤ 20 → (l28.toInt ≤ c5_0.toInt) → ((xs40.getD 1 0).toInt = 0) → (∀ j l, j < l28.toInt.toNat → j < l → l < c5_0.toInt.toNat → ¬ ex_r3 c9 c8 c7 c26 c25_0.toInt.toNat j l) → (20 - l28.toInt).toNat < n45 → pm_V sc d 20 9 [.ref 20, .ref 5, .int l28, u29] [] w30 (fun rv w' => ∃ v : Int32, rv = some (.int v) ∧ pm_IX gi ga w' ∧ pm_hi w0 w' ∧ (w'[5]? = some (.inr (3, [.int c5_0, .ref 6, .ref 8, .ref 9])) ∧ w'[7]? = some (.inl (2, .inr (.inl c7))) ∧ w'[8]? = some (.inl (0, .inl c8)) ∧ w'[9]? = some (.inl (0, .inl c9)) ∧ w'[25]? = some (.inr (8, [.int c25_0, .ref 26])) ∧ w'[26]? = some (.inl (2, .inr (.inl c26)))) ∧ ((v.toInt = 1 ∧ ∃ i n : Nat, i < n ∧ n < c5_0.toInt.toNat ∧ ex_r3 c9 c8 c7 c26 c25_0.toInt.toNat i n ∧ (∀ j l, j < i → j < l → l < c5_0.toInt.toNat → ¬ ex_r3 c9 c8 c7 c26 c25_0.toInt.toNat j l) ∧ (∀ l, i < l → l < n → ¬ ex_r3 c9 c8 c7 c26 c25_0.toInt.toNat i l) ∧ ∃ e f : Int32, e.toInt = (i : Int) ∧ f.toInt = (n : Int) ∧ w'[20]? = some (.inr (4, [.int 3, .int e, .int f, .ref 21, .ref 25]))) ∨ (v.toInt = 0 ∧ ∀ j l, j < l → l < c5_0.toInt.toNat → ¬ ex_r3 c9 c8 c7 c26 c25_0.toInt.toNat j l))) := by
    intro n45
    induction n45 with
    | zero => intro l28 u29 w30 xs40 xs42 xs44 hI31 hh32 h33 h34 h35 h36 h37 h38 h39 xs40l xs40r h41 xs42l h43 xs44l t47 t48 t49 t50 t51 hm46; exact absurd hm46 (Nat.not_lt_zero _)
    | succ n45 ih9_45 =>
      intro l28 u29 w30 xs40 xs42 xs44 hI31 hh32 h33 h34 h35 h36 h37 h38 h39 xs40l xs40r h41 xs42l h43 xs44l t47 t48 t49 t50 t51 hm46
      refine v_iload_n rfl rfl ?_
      refine v_aload_n rfl rfl ?_
      refine v_get rfl h33 rfl ?_
      refine r_icmp_ge rfl (fun t52 => ?_) (fun t52 => ?_)
      · refine v_iconst (v := 0) rfl (by decide) ?_
        exact r_zret rfl (by omega) ⟨_, rfl, hI31, hh32, ⟨h33, h34, h35, h36, h37, h38⟩, Or.inr ⟨by omega, fun j l hl hm => t51 j l (by omega) hl hm⟩⟩
      · refine v_iload_n rfl rfl ?_
        refine v_iconst (v := 1) rfl (by decide) ?_
        refine r_iadd rfl (by omega) (by omega) (fun z53 z53e => ?_)
        refine v_istore_n rfl (Nat.le_of_ble_eq_true rfl) ?_
        have L70 : ∀ (n70 : Nat) (l54 : Int32) (w55 : pm_W) (xs65 : List Int32) (xs67 : List Int32) (xs69 : List Int32), pm_IX gi ga w55 → pm_hi w0 w55 → w55[5]? = some (.inr (3, [.int c5_0, .ref 6, .ref 8, .ref 9])) → w55[7]? = some (.inl (2, .inr (.inl c7))) → w55[8]? = some (.inl (0, .inl c8)) → w55[9]? = some (.inl (0, .inl c9)) → w55[25]? = some (.inr (8, [.int c25_0, .ref 26])) → w55[26]? = some (.inl (2, .inr (.inl c26))) → w55[22]? = some (.inl (1, .inl xs65)) → xs65.length = 4 → (∀ x ∈ xs65, pm_rng x (0) 1) → w55[23]? = some (.inl (0, .inl xs67)) → xs67.length = 4 → w55[24]? = some (.inl (0, .inl xs69)) → xs69.length = 4 → 1 ≤ l54.toInt → l54.toInt ≤ 20 → (l28.toInt + 1 ≤ l54.toInt) → (l54.toInt ≤ c5_0.toInt) → ((xs65.getD 1 0).toInt = 0) → (∀ l, l28.toInt.toNat < l → l < l54.toInt.toNat → ¬ ex_r3 c9 c8 c7 c26 c25_0.toInt.toNat l28.toInt.toNat l) → (20 - l54.toInt).toNat < n70 → pm_V sc d 20 21 [.ref 20, .ref 5, .int l28, .int l54] [] w55 (fun rv w' => ∃ v : Int32, rv = some (.int v) ∧ pm_IX gi ga w' ∧ pm_hi w0 w' ∧ (w'[5]? = some (.inr (3, [.int c5_0, .ref 6, .ref 8, .ref 9])) ∧ w'[7]? = some (.inl (2, .inr (.inl c7))) ∧ w'[8]? = some (.inl (0, .inl c8)) ∧ w'[9]? = some (.inl (0, .inl c9)) ∧ w'[25]? = some (.inr (8, [.int c25_0, .ref 26])) ∧ w'[26]? = some (.inl (2, .inr (.inl c26)))) ∧ ((v.toInt = 1 ∧ ∃ i n : Nat, i < n ∧ n < c5_0.toInt.toNat ∧ ex_r3 c9 c8 c7 c26 c25_0.toInt.toNat i n ∧ (∀ j l, j < i → j < l → l < c5_0.toInt.toNat → ¬ ex_r3 c9 c8 c7 c26 c25_0.toInt.toNat j l) ∧ (∀ l, i < l → l < n → ¬ ex_r3 c9 c8 c7 c26 c25_0.toInt.toNat i l) ∧ ∃ e f : Int32, e.toInt = (i : Int) ∧ f.toInt = (n : Int) ∧ w'[20]? = some (.inr (4, [.int 3, .int e, .int f, .ref 21, .ref 25]))) ∨ (v.toInt = 0 ∧ ∀ j l, j < l → l < c5_0.toInt.toNat → ¬ ex_r3 c9 c8 c7 c26 c25_0.toInt.toNat j l))) := by
          intro n70
          induction n70 with
          | zero => intro l54 w55 xs65 xs67 xs69 hI56 hh57 h58 h59 h60 h61 h62 h63 h64 xs65l xs65r h66 xs67l h68 xs69l t72 t73 t74 t75 t76 t77 hm71; exact absurd hm71 (Nat.not_lt_zero _)
          | succ n70 ih21_70 =>
            intro l54 w55 xs65 xs67 xs69 hI56 hh57 h58 h59 h60 h61 h62 h63 h64 xs65l xs65r h66 xs67l h68 xs69l t72 t73 t74 t75 t76 t77 hm71
            refine v_iload_n rfl rfl ?_
            refine v_aload_n rfl rfl ?_
            refine v_get rfl h58 rfl ?_
            refine r_icmp_ge rfl (fun t78 => ?_) (fun t78 => ?_)
            · refine r_iinc rfl rfl (by decide) (by omega) (by omega) (fun z79 z79e => ?_)
              refine v_goto rfl ?_
              exact ih9_45 z79 (.int l54) w55 xs65 xs67 xs69 hI56 hh57 h58 h59 h60 h61 h62 h63 h64 xs65l xs65r h66 xs67l h68 xs69l (by omega) (by omega) (by omega) (by exact t76) (by
                  intro j l hj hl hm
                  by_cases e : j < l28.toInt.toNat
                  · exact t51 j l e hl hm
                  · have e2 : j = l28.toInt.toNat := by omega
                    subst e2
                    exact t77 l hl (by omega)) (by omega)
            · refine v_aload_n rfl rfl ?_
              obtain ⟨v81, v82, v83, h80⟩ := hI56.2 20 (by decide)
              refine v_get rfl h80 rfl ?_
              refine v_iconst (v := 3) rfl (by decide) ?_
              refine v_iload_n rfl rfl ?_
              refine v_iload_n rfl rfl ?_
              have h84 : _ = some _ := hI56.2 21 (by decide)
              refine v_callV rfl (c_tell21 (3 : Int32) l28 l54 (by omega) (by omega) hI56 h64 h66 h68 xs65l xs65r xs67l xs69l) rfl rfl h84 rfl rfl (by omega) (fun rv w85 hq86 => ?_)
              obtain ⟨rfl, tq89, fq89, sq89, hI87, hh88x, q89a, q89b, q89c, q89u, q89v, q89w, q89r, q89k⟩ := hq86
              have hh88 := hh57.tr hh88x
              have tq89l : tq89.length = 4 := q89u.1.trans xs65l
              have fq89l : fq89.length = 4 := q89v.1.trans xs67l
              have sq89l : sq89.length = 4 := q89w.1.trans xs69l
              have h90 := (q89k 5 (by decide)).trans h58
              have h91 := (q89k 7 (by decide)).trans h59
              have h92 := (q89k 8 (by decide)).trans h60
              have h93 := (q89k 9 (by decide)).trans h61
              have h94 := (q89k 25 (by decide)).trans h62
              have h95 := (q89k 26 (by decide)).trans h63
              have h96 := (q89k 20 (by decide)).trans h80
              have h97 := (q89k 21 (by decide)).trans h84
              refine v_aload_n rfl rfl ?_
              refine v_aload_n rfl rfl ?_
              refine v_callV rfl (W_X4_fitsByColumns_20_5_e c5_0 c7 c8 c9 tq89 fq89 sq89 c25_0 c26 (by omega) (by omega) (by omega) (by omega) h90 h91 hl7 h92 hl8 hr8 h93 hl9 hr9 q89a tq89l q89r q89b fq89l q89c sq89l h94 h95 hl26 hR hI87) rfl rfl h96 rfl rfl (by omega) (fun rv w98 hq99 => ?_)
              obtain ⟨⟨z100, rfl, z100p0, z100p1, z100p2⟩, rfl⟩ := hq99
              skip
              refine r_if_eq rfl (fun t101 => ?_) (fun t101 => ?_)
              · refine r_iinc rfl rfl (by decide) (by omega) (by omega) (fun z102 z102e => ?_)
                refine v_goto rfl ?_
                exact ih21_70 z102 w85 tq89 fq89 sq89 hI87 hh88 h90 h91 h92 h93 h94 h95 q89a tq89l q89r q89b fq89l q89c sq89l (by omega) (by omega) (by omega) (by omega) (by rw [q89u.2.2 1 (by decide)]; exact t76) (by
                    intro l h1 h2
                    by_cases e : l < l54.toInt.toNat
                    · exact t77 l h1 e
                    · have e2 : l = l54.toInt.toNat := by omega
                      subst e2
                      intro h
                      rcases z100p2 with ⟨g1, g2⟩ | ⟨g1, g2⟩
                      · omega
                      · exact g2 ((ex_fc3 (i := l28.toInt.toNat) (n := l54.toInt.toNat) (by rw [q89u.2.2 1 (by decide)]; exact t76) (show (tq89.getD 3 0).toInt = 1 from by rw [show tq89.getD 3 0 = 1 from q89u.2.1]; rfl) (by rw [show fq89.getD 3 0 = l28 from q89v.2.1]; omega) (by rw [show sq89.getD 3 0 = l54 from q89w.2.1]; omega) (by omega) (by omega) (sq_lk_nn hr9)).mpr h)) (by omega)
              · refine v_aload_n rfl rfl ?_
                refine v_iconst (v := 3) rfl (by decide) ?_
                refine v_iload_n rfl rfl ?_
                refine v_iload_n rfl rfl ?_
                refine v_callV rfl (W_X4_found_20_e (3 : Int32) l28 l54 hR hI87 hh88) rfl rfl h96 rfl rfl (by omega) (fun rv w103 hq104 => ?_)
                obtain ⟨rfl, hI105, hh106, h107, kp108⟩ := hq104
                have h109 := (kp108 22 (by decide)).trans q89a
                have h110 := (kp108 23 (by decide)).trans q89b
                have h111 := (kp108 24 (by decide)).trans q89c
                have h112 := (kp108 5 (by decide)).trans h90
                have h113 := (kp108 7 (by decide)).trans h91
                have h114 := (kp108 8 (by decide)).trans h92
                have h115 := (kp108 9 (by decide)).trans h93
                have h116 := (kp108 25 (by decide)).trans h94
                have h117 := (kp108 26 (by decide)).trans h95
                have h118 := (kp108 21 (by decide)).trans h97
                refine v_iconst (v := 1) rfl (by decide) ?_
                exact r_zret rfl (by omega) ⟨_, rfl, hI105, hh106, ⟨h112, h113, h114, h115, h116, h117⟩, Or.inl ⟨by omega, l28.toInt.toNat, l54.toInt.toNat, by omega, by omega, (by
      rcases z100p2 with ⟨g1, g2⟩ | ⟨g1, g2⟩
      · exact (ex_fc3 (i := l28.toInt.toNat) (n := l54.toInt.toNat) (by rw [q89u.2.2 1 (by decide)]; exact t76) (show (tq89.getD 3 0).toInt = 1 from by rw [show tq89.getD 3 0 = 1 from q89u.2.1]; rfl) (by rw [show fq89.getD 3 0 = l28 from q89v.2.1]; omega) (by rw [show sq89.getD 3 0 = l54 from q89w.2.1]; omega) (by omega) (by omega) (sq_lk_nn hr9)).mp g2
      · omega), t51, t77, l28, l54, by omega, by omega, h107⟩⟩
        exact L70 _ z53 w30 xs40 xs42 xs44 hI31 hh32 h33 h34 h35 h36 h37 h38 h39 xs40l xs40r h41 xs42l h43 xs44l (by omega) (by omega) (by omega) (by omega) (by exact t50) (by intro l h1 h2; omega) (Nat.lt_add_one _)
  exact L45 _ (0 : Int32) (.null) w8 tt13 xs25 xs27 hI11 hh12 h16 h17 h18 h19 h20 h21 h14 tt13l tt13r h24 xs25l h26 xs27l (by omega) (by omega) (by omega) (by exact tt13a) (by intro j l hj; rw [show (0 : Int32).toInt.toNat = 0 from rfl] at hj; omega) (Nat.lt_add_one _)
set_option maxRecDepth 100000 in
theorem W_X8_readColumns_25_14_e {sc : pm_S} {w w0 : pm_W} {gi : Nat → Int32} {ga : Nat → List Int32} (c5_0 : Int32) (c7 : List Int64) (c8 : List Int32) (c9 : List Int32) (p0 : 0 ≤ c5_0.toInt) (p1 : c5_0.toInt ≤ 20) (hc5 : w[5]? = some (.inr (3, [.int c5_0, .ref 6, .ref 8, .ref 9]))) (hc7 : w[7]? = some (.inl (2, .inr (.inl c7)))) (hl7 : c7.length = 20) (hc8 : w[8]? = some (.inl (0, .inl c8))) (hl8 : c8.length = 20) (hr8 : ∀ x ∈ c8, pm_rng x (0) 19) (hc9 : w[9]? = some (.inl (0, .inl c9))) (hl9 : c9.length = 20) (hr9 : ∀ x ∈ c9, pm_rng x (0) 19) (hR : pm_Rg gi ga) (hI : pm_IX gi ga w) (hh : pm_hi w0 w) (e10 : (gi 10).toInt = (gi 0).toInt) (e11 : (gi 11).toInt = (gi 1).toInt) : pm_Mt sc 1 47 6 [.ref 25, .ref 14] w (fun rv w' => rv = none ∧ pm_IX gi ga w' ∧ pm_hi w0 w' ∧ ∃ (n : Int32) (ss : List Int64), w'[25]? = some (.inr (8, [.int n, .ref 26])) ∧ w'[26]? = some (.inl (2, .inr (.inl ss))) ∧ n.toInt = (gi 0).toInt ∧ n.toInt ≤ 20 ∧ ss.length = 20 ∧ (∀ j, j < (gi 0).toInt.toNat → ss[j]? = some (Int64.ofNat (sq_E (pm_colf (ga 24) j) (gi 1).toInt.toNat))) ∧ w'[5]? = some (.inr (3, [.int c5_0, .ref 6, .ref 8, .ref 9])) ∧ w'[7]? = some (.inl (2, .inr (.inl c7))) ∧ w'[8]? = some (.inl (0, .inl c8)) ∧ w'[9]? = some (.inl (0, .inl c9))) := by
  intro d hd
  obtain ⟨g0a, g0b⟩ := hR.n0
  obtain ⟨g1a, g1b⟩ := hR.n1
  obtain ⟨g2a, g2b⟩ := hR.n2
  obtain ⟨g3a, g3b⟩ := hR.n3
  obtain ⟨g4a, g4b⟩ := hR.n4
  obtain ⟨g5a, g5b⟩ := hR.n5
  obtain ⟨g6a, g6b⟩ := hR.n6
  obtain ⟨g7a, g7b⟩ := hR.n7
  obtain ⟨g8a, g8b⟩ := hR.n8
  have k0 : (0 : Int32).toInt = 0 := by decide
  have k2 : (2 : Int32).toInt = 2 := by decide
  show pm_V sc d 47 0 [.ref 25, .ref 14, .null, .null, .null, .null] [] w _
  have hcl24 : sq_cl (ga 24) := by
    obtain ⟨xs15, -, ⟨-, l15, r15⟩, -⟩ := hI.2 15 (by decide)
    exact ⟨l15, r15⟩
  refine v_aload_n rfl rfl ?_
  refine v_aload_n rfl rfl ?_
  obtain ⟨v2, v3, ⟨⟨v2a, v2b⟩, v2e⟩, ⟨⟨v3a, v3b⟩, v3e⟩, h1⟩ := hI.2 14 (by decide)
  refine v_get rfl h1 rfl ?_
  have hw14 := congrArg Int32.toInt v2e
  obtain ⟨v5, ⟨v5a, v5b⟩, h4⟩ := hI.2 25 (by decide)
  refine v_put rfl h4 rfl (Nat.le_of_ble_eq_true rfl) ?_
  refine r_gen (w' := w.set 25 (.inr (8, [.int v2, .ref 26]))) (fun w6 e7 => ?_)
  have hI8 : pm_IX gi ga w6 := by rw [e7]; exact hI.set 25 (by decide) ⟨v2, ⟨by omega, by omega⟩, rfl⟩
  have hh9 : pm_hi w0 w6 := by rw [e7]; exact hh.set (by decide) _
  have h10 := r_get_ne e7 (show 25 ≠ 5 by decide) hc5
  have h11 := r_get_ne e7 (show 25 ≠ 7 by decide) hc7
  have h12 := r_get_ne e7 (show 25 ≠ 8 by decide) hc8
  have h13 := r_get_ne e7 (show 25 ≠ 9 by decide) hc9
  have h14 := r_get_ne e7 (show 25 ≠ 14 by decide) h1
  have h15 := r_get_eq e7 h4
  refine v_iconst (v := 0) rfl (by decide) ?_
  refine v_istore_n rfl (Nat.le_of_ble_eq_true rfl) ?_
  obtain ⟨xs17, xs17l, h16⟩ := hI8.2 26 (by decide)
  have L33 : ∀ (n33 : Nat) (l18 : Int32) (u19 : Value) (u20 : Value) (u21 : Value) (w22 : pm_W) (xs32 : List Int64), pm_IX gi ga w22 → pm_hi w0 w22 → w22[25]? = some (.inr (8, [.int v2, .ref 26])) → w22[14]? = some (.inr (10, [.int v2, .int v3, .ref 15])) → w22[5]? = some (.inr (3, [.int c5_0, .ref 6, .ref 8, .ref 9])) → w22[7]? = some (.inl (2, .inr (.inl c7))) → w22[8]? = some (.inl (0, .inl c8)) → w22[9]? = some (.inl (0, .inl c9)) → w22[26]? = some (.inl (2, .inr (.inl xs32))) → xs32.length = 20 → 0 ≤ l18.toInt → l18.toInt ≤ 20 → (∀ j, j < l18.toInt.toNat → xs32[j]? = some (Int64.ofNat (sq_E (pm_colf (ga 24) j) (gi 1).toInt.toNat))) → (20 - l18.toInt).toNat < n33 → pm_V sc d 47 10 [.ref 25, .ref 14, .int l18, u19, u20, u21] [] w22 (fun rv w' => rv = none ∧ pm_IX gi ga w' ∧ pm_hi w0 w' ∧ ∃ (n : Int32) (ss : List Int64), w'[25]? = some (.inr (8, [.int n, .ref 26])) ∧ w'[26]? = some (.inl (2, .inr (.inl ss))) ∧ n.toInt = (gi 0).toInt ∧ n.toInt ≤ 20 ∧ ss.length = 20 ∧ (∀ j, j < (gi 0).toInt.toNat → ss[j]? = some (Int64.ofNat (sq_E (pm_colf (ga 24) j) (gi 1).toInt.toNat))) ∧ w'[5]? = some (.inr (3, [.int c5_0, .ref 6, .ref 8, .ref 9])) ∧ w'[7]? = some (.inl (2, .inr (.inl c7))) ∧ w'[8]? = some (.inl (0, .inl c8)) ∧ w'[9]? = some (.inl (0, .inl c9))) := by
    intro n33
    induction n33 with
    | zero => intro l18 u19 u20 u21 w22 xs32 hI23 hh24 h25 h26 h27 h28 h29 h30 h31 xs32l t35 t36 t37 hm34; exact absurd hm34 (Nat.not_lt_zero _)
    | succ n33 ih10_33 =>
      intro l18 u19 u20 u21 w22 xs32 hI23 hh24 h25 h26 h27 h28 h29 h30 h31 xs32l t35 t36 t37 hm34
      refine v_iload_n rfl rfl ?_
      refine v_aload_n rfl rfl ?_
      refine v_get rfl h25 rfl ?_
      refine r_icmp_ge rfl (fun t38 => ?_) (fun t38 => ?_)
      · exact v_ret rfl ⟨rfl, hI23, hh24, ⟨v2, xs32, h25, h31, by omega, by omega, xs32l, fun j hj => t37 j (by omega), h27, h28, h29, h30⟩⟩
      · refine v_lconst (v := 0) rfl (by decide) ?_
        refine v_lstore_n rfl (Nat.le_of_ble_eq_true rfl) ?_
        refine v_iconst (v := 0) rfl (by decide) ?_
        refine v_istore rfl (Nat.le_of_ble_eq_true rfl) ?_
        have L42 : ∀ (n42 : Nat) (j39 : Int64) (u40 : Value) (l41 : Int32), 0 ≤ l41.toInt → l41.toInt ≤ 20 → (l41.toInt ≤ (gi 1).toInt) → (j39 = Int64.ofNat (sq_E (pm_colf (ga 24) l18.toInt.toNat) l41.toInt.toNat)) → (20 - l41.toInt).toNat < n42 → pm_V sc d 47 23 [.ref 25, .ref 14, .int l18, .long j39, u40, .int l41] [] w22 (fun rv w' => rv = none ∧ pm_IX gi ga w' ∧ pm_hi w0 w' ∧ ∃ (n : Int32) (ss : List Int64), w'[25]? = some (.inr (8, [.int n, .ref 26])) ∧ w'[26]? = some (.inl (2, .inr (.inl ss))) ∧ n.toInt = (gi 0).toInt ∧ n.toInt ≤ 20 ∧ ss.length = 20 ∧ (∀ j, j < (gi 0).toInt.toNat → ss[j]? = some (Int64.ofNat (sq_E (pm_colf (ga 24) j) (gi 1).toInt.toNat))) ∧ w'[5]? = some (.inr (3, [.int c5_0, .ref 6, .ref 8, .ref 9])) ∧ w'[7]? = some (.inl (2, .inr (.inl c7))) ∧ w'[8]? = some (.inl (0, .inl c8)) ∧ w'[9]? = some (.inl (0, .inl c9))) := by
          intro n42
          induction n42 with
          | zero => intro j39 u40 l41 t44 t45 t46 t47 hm43; exact absurd hm43 (Nat.not_lt_zero _)
          | succ n42 ih23_42 =>
            intro j39 u40 l41 t44 t45 t46 t47 hm43
            refine v_iload rfl rfl ?_
            refine v_aload_n rfl rfl ?_
            refine v_get rfl h26 rfl ?_
            have hg48 := congrArg Int32.toInt v3e
            refine r_icmp_ge rfl (fun t49 => ?_) (fun t49 => ?_)
            · refine v_aload_n rfl rfl ?_
              refine v_get rfl h25 rfl ?_
              refine v_iload_n rfl rfl ?_
              refine v_lload_n rfl rfl ?_
              refine v_lastore rfl h31 (r_nn (by omega)) (r_ix xs32l (by omega) (by omega)) ?_
              have ln50 : (xs32.set l18.toNatClampNeg j39).length = 20 := by rw [List.length_set]; exact xs32l
              refine r_gen (w' := w22.set 26 (.inl (2, .inr (.inl (xs32.set l18.toNatClampNeg j39))))) (fun w51 e52 => ?_)
              have hI53 : pm_IX gi ga w51 := by rw [e52]; exact hI23.set 26 (by decide) ⟨_, ln50, rfl⟩
              have hh54 : pm_hi w0 w51 := by rw [e52]; exact hh24.set (by decide) _
              have h55 := r_get_ne e52 (show 26 ≠ 25 by decide) h25
              have h56 := r_get_ne e52 (show 26 ≠ 14 by decide) h26
              have h57 := r_get_ne e52 (show 26 ≠ 5 by decide) h27
              have h58 := r_get_ne e52 (show 26 ≠ 7 by decide) h28
              have h59 := r_get_ne e52 (show 26 ≠ 8 by decide) h29
              have h60 := r_get_ne e52 (show 26 ≠ 9 by decide) h30
              have h61 := r_get_eq e52 h31
              refine r_iinc rfl rfl (by decide) (by omega) (by omega) (fun z62 z62e => ?_)
              refine v_goto rfl ?_
              exact ih10_33 z62 (.long j39) (u40) (.int l41) w51 (xs32.set l18.toNatClampNeg j39) hI53 hh54 h55 h56 h57 h58 h59 h60 h61 ln50 (by omega) (by omega) (by
                  intro j hj
                  by_cases e : l18.toNatClampNeg = j
                  · subst e
                    rw [List.getElem?_set_self (r_ix xs32l (by omega) (by omega)), t47, i_cl, show l41.toInt.toNat = (gi 1).toInt.toNat by omega]
                  · rw [List.getElem?_set_ne e]
                    exact t37 j (by rw [i_cl] at e; omega)) (by omega)
            · refine v_lload_n rfl rfl ?_
              refine v_aload_n rfl rfl ?_
              refine v_iload_n rfl rfl ?_
              refine v_iload rfl rfl ?_
              refine v_callV rfl (W_X10_colourAt_14_x l18 l41 (by omega) (by omega) (by omega) (by omega) hR hI23) rfl rfl h26 rfl rfl (by omega) (fun rv w63 hq64 => ?_)
              obtain ⟨⟨z65, rfl, z65p0, z65p1, z65p2⟩, rfl⟩ := hq64
              refine v_i2l rfl ?_
              refine v_iconst (v := 2) rfl (by decide) ?_
              refine v_iload rfl rfl ?_
              refine v_imul rfl ?_
              refine v_lshl rfl ?_
              refine v_lor rfl ?_
              refine v_lstore_n rfl (Nat.le_of_ble_eq_true rfl) ?_
              refine r_iinc rfl rfl (by decide) (by omega) (by omega) (fun z66 z66e => ?_)
              refine v_goto rfl ?_
              exact ih23_42 (j39 ||| (z65.toInt64 <<< (((2 : Int32) * l41).toInt64 &&& 63))) (.null) z66 (by omega) (by omega) (by omega) (by rw [show z66.toInt.toNat = l41.toInt.toNat + 1 by omega, sq_E_succ, ← sq_E_or (fun i _ => hcl24.col _ i), ← pm_ofNat_or, ← t47, pm_shlc (by omega) (by omega) (by omega) (by omega), z65p0]; rfl) (by omega)
        exact L42 _ (0 : Int64) (.null) (0 : Int32) (by omega) (by omega) (by omega) (by rfl) (Nat.lt_add_one _)
  exact L33 _ (0 : Int32) (.null) (.null) (.null) w6 xs17 hI8 hh9 h15 h14 h10 h11 h12 h13 h16 xs17l (by omega) (by omega) (by intro j hj; rw [show (0 : Int32).toInt.toNat = 0 from rfl] at hj; omega) (Nat.lt_add_one _)
set_option maxRecDepth 100000 in
theorem W_X4_find_20_1_5_14_e {sc : pm_S} {w w0 : pm_W} {gi : Nat → Int32} {ga : Nat → List Int32} (c5_0 : Int32) (c7 : List Int64) (c8 : List Int32) (c9 : List Int32) (p0 : 0 ≤ c5_0.toInt) (p1 : c5_0.toInt ≤ 20) (hc5 : w[5]? = some (.inr (3, [.int c5_0, .ref 6, .ref 8, .ref 9]))) (hc7 : w[7]? = some (.inl (2, .inr (.inl c7)))) (hl7 : c7.length = 20) (hc8 : w[8]? = some (.inl (0, .inl c8))) (hl8 : c8.length = 20) (hr8 : ∀ x ∈ c8, pm_rng x (0) 19) (hc9 : w[9]? = some (.inl (0, .inl c9))) (hl9 : c9.length = 20) (hr9 : ∀ x ∈ c9, pm_rng x (0) 19) (hR : pm_Rg gi ga) (hI : pm_IX gi ga w) (hh : pm_hi w0 w) (e10 : (gi 10).toInt = (gi 0).toInt) (e11 : (gi 11).toInt = (gi 1).toInt) : pm_Mt sc 4 16 4 [.ref 20, .ref 1, .ref 5, .ref 14] w (fun rv w' => rv = none ∧ pm_IX gi ga w' ∧ pm_hi w0 w' ∧ ∃ (ss : List Int64) (k a b : Int32), (∀ j, j < (gi 0).toInt.toNat → ss[j]? = some (Int64.ofNat (sq_E (pm_colf (ga 24) j) (gi 1).toInt.toNat))) ∧ ex_R (ex_r0 c7 ss (gi 0).toInt.toNat) (ex_r1 c8 c7 ss (gi 0).toInt.toNat) (ex_r2 (pm_enc (ga 15)) (pm_enc (ga 24)) (gi 1).toInt.toNat) (ex_r3 c9 c8 c7 ss (gi 0).toInt.toNat) c5_0.toInt.toNat (gi 1).toInt.toNat k.toInt a.toInt b.toInt ∧ w'[20]? = some (.inr (4, [.int k, .int a, .int b, .ref 21, .ref 25]))) := by
  intro d hd
  obtain ⟨g0a, g0b⟩ := hR.n0
  obtain ⟨g1a, g1b⟩ := hR.n1
  obtain ⟨g2a, g2b⟩ := hR.n2
  obtain ⟨g3a, g3b⟩ := hR.n3
  obtain ⟨g4a, g4b⟩ := hR.n4
  obtain ⟨g5a, g5b⟩ := hR.n5
  obtain ⟨g6a, g6b⟩ := hR.n6
  obtain ⟨g7a, g7b⟩ := hR.n7
  obtain ⟨g8a, g8b⟩ := hR.n8
  have km9 : (-9 : Int32).toInt = -9 := by decide
  have k0 : (0 : Int32).toInt = 0 := by decide
  show pm_V sc d 16 0 [.ref 20, .ref 1, .ref 5, .ref 14] [] w _
  refine v_aload_n rfl rfl ?_
  obtain ⟨v2, v3, v4, h1⟩ := hI.2 20 (by decide)
  refine v_get rfl h1 rfl ?_
  refine v_aload_n rfl rfl ?_
  obtain ⟨v6, ⟨v6a, v6b⟩, h5⟩ := hI.2 25 (by decide)
  refine v_callV rfl (W_X8_readColumns_25_14_e c5_0 c7 c8 c9 (by omega) (by omega) hc5 hc7 hl7 hc8 hl8 hr8 hc9 hl9 hr9 hR hI hh e10 e11) rfl rfl h5 rfl rfl (by omega) (fun rv w7 hq8 => ?_)
  obtain ⟨rfl, hI9, hh10, ⟨n11, ss12, h13, h14, n11a, n11b, ss12l, ss12e, h15, h16, h17, h18⟩⟩ := hq8
  refine v_aload_n rfl rfl ?_
  obtain ⟨v20, v21, v22, h19⟩ := hI9.2 20 (by decide)
  refine v_get rfl h19 rfl ?_
  have h23 : _ = some _ := hI9.2 21 (by decide)
  obtain ⟨xs25, xs25l, xs25r, h24⟩ := hI9.2 22 (by decide)
  refine v_callV rfl (W_X5_forget_21_e xs25 h24 xs25l xs25r hR hI9 hh10) rfl rfl h23 rfl rfl (by omega) (fun rv w26 hq27 => ?_)
  obtain ⟨rfl, hI29, hh30, ⟨tt31, h32, tt31l, tt31r, tt31a, tt31b, tt31c, kp33⟩⟩ := hq27
  have h34 := (kp33 25 (by decide)).trans h13
  have h35 := (kp33 26 (by decide)).trans h14
  have h36 := (kp33 5 (by decide)).trans h15
  have h37 := (kp33 7 (by decide)).trans h16
  have h38 := (kp33 8 (by decide)).trans h17
  have h39 := (kp33 9 (by decide)).trans h18
  have h40 := (kp33 20 (by decide)).trans h19
  have h41 := (kp33 21 (by decide)).trans h23
  refine v_aload_n rfl rfl ?_
  refine v_aload_n rfl rfl ?_
  obtain ⟨xs43, xs43l, h42⟩ := hI29.2 23 (by decide)
  obtain ⟨xs45, xs45l, h44⟩ := hI29.2 24 (by decide)
  refine v_callV rfl (W_X4_fitsByColumns_20_5_e c5_0 c7 c8 c9 tt31 xs43 xs45 n11 ss12 (by omega) (by omega) (by omega) (by omega) h36 h37 hl7 h38 hl8 hr8 h39 hl9 hr9 h32 tt31l tt31r h42 xs43l h44 xs45l h34 h35 ss12l hR hI29) rfl rfl h40 rfl rfl (by omega) (fun rv w46 hq47 => ?_)
  obtain ⟨⟨z48, rfl, z48p0, z48p1, z48p2⟩, rfl⟩ := hq47
  have z48i := (ex_fc0 (m := c5_0.toInt) (fs := c9) (os := c8) (cs := c7) (ss := ss12) (W := n11.toInt.toNat) (f := xs43) (s := xs45) tt31a tt31c)
  refine r_if_eq rfl (fun t49 => ?_) (fun t49 => ?_)
  · refine v_aload_n rfl rfl ?_
    refine v_aload_n rfl rfl ?_
    refine v_callV rfl (W_X4_findBroken_20_5_e c5_0 c7 c8 c9 n11 ss12 (by omega) (by omega) (by omega) (by omega) h36 h37 hl7 h38 hl8 hr8 h39 hl9 hr9 h34 h35 ss12l hR hI29 hh30) rfl rfl h40 rfl rfl (by omega) (fun rv w50 hq51 => ?_)
    obtain ⟨z54, rfl, hI52, hh53, ⟨h55, h56, h57, h58, h59, h60⟩, z54q⟩ := hq51
    have z54z : z54.toInt = 0 ∨ z54.toInt = 1 := by rcases z54q with ⟨g, -⟩ | ⟨g, -⟩ <;> omega
    rcases z54q with ⟨z54y, ⟨z54i, z54a, z54b, z54c, z54e, z54d, z54h⟩⟩ | ⟨z54y, z54n⟩
    · refine r_if_ne rfl (fun _ => ?_) (fun hx => absurd z54y (by omega))
      exact v_ret rfl ⟨rfl, hI52, hh53, ss12, 1, z54e, -9, ss12e, (by rw [show (gi 0).toInt.toNat = n11.toInt.toNat by omega]; exact Or.inr (Or.inl ⟨(fun g => by rcases z48p2 with ⟨g1, g2⟩ | ⟨g1, g2⟩; (omega); exact g2 (z48i.mpr g)), z54i, z54a, z54b, z54c, by decide, z54d, by decide⟩)), z54h⟩
    refine r_if_ne rfl (fun hx => absurd z54y (by omega)) (fun _ => ?_)
    refine v_aload_n rfl rfl ?_
    refine v_aload_n rfl rfl ?_
    refine v_aload_n rfl rfl ?_
    obtain ⟨v62, v63, v64, h61⟩ := hI52.2 20 (by decide)
    refine v_callV rfl (W_X4_findSkipped_20_1_14_e c5_0 c7 c8 c9 n11 ss12 (by omega) (by omega) (by omega) (by omega) h55 h56 hl7 h57 hl8 hr8 h58 hl9 hr9 h59 h60 ss12l hR hI52 hh53) rfl rfl h61 rfl rfl (by omega) (fun rv w65 hq66 => ?_)
    obtain ⟨z69, rfl, hI67, hh68, ⟨h70, h71, h72, h73, h74, h75⟩, z69q⟩ := hq66
    have z69z : z69.toInt = 0 ∨ z69.toInt = 1 := by rcases z69q with ⟨g, -⟩ | ⟨g, -⟩ <;> omega
    rcases z69q with ⟨z69y, ⟨z69i, z69a, z69b, z69c, z69e, z69d, z69h⟩⟩ | ⟨z69y, z69n⟩
    · refine r_if_ne rfl (fun _ => ?_) (fun hx => absurd z69y (by omega))
      exact v_ret rfl ⟨rfl, hI67, hh68, ss12, 2, z69e, -9, ss12e, (by rw [show (gi 0).toInt.toNat = n11.toInt.toNat by omega]; exact Or.inr (Or.inr (Or.inl ⟨(fun g => by rcases z48p2 with ⟨g1, g2⟩ | ⟨g1, g2⟩; (omega); exact g2 (z48i.mpr g)), z54n, z69i, z69a, z69b, z69c, by decide, z69d, by decide⟩))), z69h⟩
    refine r_if_ne rfl (fun hx => absurd z69y (by omega)) (fun _ => ?_)
    refine v_aload_n rfl rfl ?_
    refine v_aload_n rfl rfl ?_
    obtain ⟨v77, v78, v79, h76⟩ := hI67.2 20 (by decide)
    refine v_callV rfl (W_X4_findCrossed_20_5_e c5_0 c7 c8 c9 n11 ss12 (by omega) (by omega) (by omega) (by omega) h70 h71 hl7 h72 hl8 hr8 h73 hl9 hr9 h74 h75 ss12l hR hI67 hh68) rfl rfl h76 rfl rfl (by omega) (fun rv w80 hq81 => ?_)
    obtain ⟨z84, rfl, hI82, hh83, ⟨h85, h86, h87, h88, h89, h90⟩, z84q⟩ := hq81
    have z84z : z84.toInt = 0 ∨ z84.toInt = 1 := by rcases z84q with ⟨g, -⟩ | ⟨g, -⟩ <;> omega
    rcases z84q with ⟨z84y, ⟨z84i, z84n, z84a, z84m, z84b, z84c, z84g, z84e, z84f, z84d, z84j, z84h⟩⟩ | ⟨z84y, z84n⟩
    · refine r_if_ne rfl (fun _ => ?_) (fun hx => absurd z84y (by omega))
      exact v_ret rfl ⟨rfl, hI82, hh83, ss12, 3, z84e, z84f, ss12e, (by rw [show (gi 0).toInt.toNat = n11.toInt.toNat by omega]; exact Or.inr (Or.inr (Or.inr (Or.inl ⟨(fun g => by rcases z48p2 with ⟨g1, g2⟩ | ⟨g1, g2⟩; (omega); exact g2 (z48i.mpr g)), z54n, z69n, z84i, z84n, z84a, z84m, z84b, z84c, z84g, by decide, z84d, z84j⟩)))), z84h⟩
    refine r_if_ne rfl (fun hx => absurd z84y (by omega)) (fun _ => ?_)
    refine v_aload_n rfl rfl ?_
    refine v_bipush (v := (-9)) rfl (by decide) ?_
    refine v_bipush (v := (-9)) rfl (by decide) ?_
    refine v_bipush (v := (-9)) rfl (by decide) ?_
    obtain ⟨v92, v93, v94, h91⟩ := hI82.2 20 (by decide)
    refine v_callV rfl (W_X4_found_20_e (-9 : Int32) (-9 : Int32) (-9 : Int32) hR hI82 hh83) rfl rfl h91 rfl rfl (by omega) (fun rv w95 hq96 => ?_)
    obtain ⟨rfl, hI97, hh98, h99, kp100⟩ := hq96
    have h101 := (kp100 5 (by decide)).trans h85
    have h102 := (kp100 7 (by decide)).trans h86
    have h103 := (kp100 8 (by decide)).trans h87
    have h104 := (kp100 9 (by decide)).trans h88
    have h105 := (kp100 25 (by decide)).trans h89
    have h106 := (kp100 26 (by decide)).trans h90
    exact v_ret rfl ⟨rfl, hI97, hh98, ss12, -9, -9, -9, ss12e, (by rw [show (gi 0).toInt.toNat = n11.toInt.toNat by omega]; exact Or.inr (Or.inr (Or.inr (Or.inr ⟨(fun g => by rcases z48p2 with ⟨g1, g2⟩ | ⟨g1, g2⟩; (omega); exact g2 (z48i.mpr g)), z54n, z69n, z84n, by decide, by decide, by decide⟩)))), h99⟩
  · refine v_aload_n rfl rfl ?_
    refine v_iconst (v := 0) rfl (by decide) ?_
    refine v_bipush (v := (-9)) rfl (by decide) ?_
    refine v_bipush (v := (-9)) rfl (by decide) ?_
    refine v_callV rfl (W_X4_found_20_e (0 : Int32) (-9 : Int32) (-9 : Int32) hR hI29 hh30) rfl rfl h40 rfl rfl (by omega) (fun rv w107 hq108 => ?_)
    obtain ⟨rfl, hI109, hh110, h111, kp112⟩ := hq108
    have h113 := (kp112 22 (by decide)).trans h32
    have h114 := (kp112 25 (by decide)).trans h34
    have h115 := (kp112 26 (by decide)).trans h35
    have h116 := (kp112 5 (by decide)).trans h36
    have h117 := (kp112 7 (by decide)).trans h37
    have h118 := (kp112 8 (by decide)).trans h38
    have h119 := (kp112 9 (by decide)).trans h39
    have h120 := (kp112 21 (by decide)).trans h41
    have h121 := (kp112 23 (by decide)).trans h42
    have h122 := (kp112 24 (by decide)).trans h44
    refine v_goto rfl ?_
    exact v_ret rfl ⟨rfl, hI109, hh110, ss12, 0, -9, -9, ss12e, (by rw [show (gi 0).toInt.toNat = n11.toInt.toNat by omega]; exact Or.inl ⟨(by rcases z48p2 with ⟨g1, g2⟩ | ⟨g1, g2⟩; (exact z48i.mp g2); omega), by decide, by decide, by decide⟩), h111⟩
set_option maxRecDepth 100000 in
theorem W_X10_isAsLargeAs_14_1_e {sc : pm_S} {w : pm_W} {gi : Nat → Int32} {ga : Nat → List Int32}   (hR : pm_Rg gi ga) (hI : pm_IX gi ga w) : pm_Mt sc 0 67 2 [.ref 14, .ref 1] w (fun rv w' => pm_wI (fun v => 0 ≤ v.toInt ∧ v.toInt ≤ 1 ∧ ((v.toInt = 1 ∧ (gi 10).toInt = (gi 0).toInt ∧ (gi 11).toInt = (gi 1).toInt) ∨ (v.toInt = 0 ∧ ¬ ((gi 10).toInt = (gi 0).toInt ∧ (gi 11).toInt = (gi 1).toInt)))) rv ∧ w = w') := by
  intro d hd
  obtain ⟨g0a, g0b⟩ := hR.n0
  obtain ⟨g1a, g1b⟩ := hR.n1
  obtain ⟨g2a, g2b⟩ := hR.n2
  obtain ⟨g3a, g3b⟩ := hR.n3
  obtain ⟨g4a, g4b⟩ := hR.n4
  obtain ⟨g5a, g5b⟩ := hR.n5
  obtain ⟨g6a, g6b⟩ := hR.n6
  obtain ⟨g7a, g7b⟩ := hR.n7
  obtain ⟨g8a, g8b⟩ := hR.n8
  have k0 : (0 : Int32).toInt = 0 := by decide
  have k1 : (1 : Int32).toInt = 1 := by decide
  show pm_V sc d 67 0 [.ref 14, .ref 1] [] w _
  refine v_aload_n rfl rfl ?_
  obtain ⟨v2, v3, ⟨⟨v2a, v2b⟩, v2e⟩, ⟨⟨v3a, v3b⟩, v3e⟩, h1⟩ := hI.2 14 (by decide)
  refine v_get rfl h1 rfl ?_
  have hg4 := congrArg Int32.toInt v2e
  refine v_aload_n rfl rfl ?_
  have h5 : _ = some _ := hI.2 1 (by decide)
  refine v_get rfl h5 rfl ?_
  refine r_icmp_ne rfl (fun t6 => ?_) (fun t6 => ?_)
  · refine v_iconst (v := 0) rfl (by decide) ?_
    exact r_zret rfl (by omega) ⟨⟨_, rfl, (by omega), (by omega), (by omega)⟩, rfl⟩
  · refine v_aload_n rfl rfl ?_
    refine v_get rfl h1 rfl ?_
    have hg7 := congrArg Int32.toInt v3e
    refine v_aload_n rfl rfl ?_
    refine v_get rfl h5 rfl ?_
    refine r_icmp_ne rfl (fun t8 => ?_) (fun t8 => ?_)
    · refine v_iconst (v := 0) rfl (by decide) ?_
      exact r_zret rfl (by omega) ⟨⟨_, rfl, (by omega), (by omega), (by omega)⟩, rfl⟩
    · refine v_iconst (v := 1) rfl (by decide) ?_
      refine v_goto rfl ?_
      exact r_zret rfl (by omega) ⟨⟨_, rfl, (by omega), (by omega), (by omega)⟩, rfl⟩

