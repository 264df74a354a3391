set_option maxRecDepth 100000 in
theorem W_X12_daysOf_59 {sc : pm_S} {w : pm_W} {gi : Nat → Int32} {ga : Nat → List Int32} (o : Int32) (l : Int32) (p0 : o.toInt ≤ 11) (p1 : 0 ≤ o.toInt) (hR : pm_Rg gi ga) (hI : pm_IM gi ga w) : pm_Mt sc 0 162 3 [.ref 59, .int o, .int l] w (fun rv w' => pm_wI (fun v => True) rv ∧ w = w') := by
  intro d hd
  obtain ⟨g0a, g0b⟩ := hR.n0
  obtain ⟨g1a, g1b⟩ := hR.n1
  obtain ⟨g2a, g2b⟩ := hR.n2
  obtain ⟨g3a, g3b⟩ := hR.n3
  obtain ⟨g4a, g4b⟩ := hR.n4
  obtain ⟨g5a, g5b⟩ := hR.n5
  obtain ⟨g6a, g6b⟩ := hR.n6
  obtain ⟨g7a, g7b⟩ := hR.n7
  obtain ⟨g8a, g8b⟩ := hR.n8
  have k0 : (0 : Int32).toInt = 0 := by decide
  have k1 : (1 : Int32).toInt = 1 := by decide
  show pm_V sc d 162 0 [.ref 59, .int o, .int l] [] w _
  refine v_aload_n rfl rfl ?_
  obtain ⟨v2, v3, v4, v5, v6, v7, v8, v9, ⟨v2z, v2e⟩, ⟨⟨v3a, v3b⟩, v3e⟩, ⟨⟨v4a, v4b⟩, v4e⟩, ⟨v6a, v6b⟩, ⟨v9a, v9b⟩, h1⟩ := hI.2.1 59 (by decide) (by decide)
  have v2z := v2z.imp i_eq.mp i_eq.mp
  rw [i_0, i_1] at v2z
  refine v_get rfl h1 rfl ?_
  refine v_iload_n rfl rfl ?_
  have h10 : _ = some _ := hI.2.1 64 (by decide) (by decide)
  refine r_iaload rfl h10 hR.l0 (by omega) (by omega) (fun z11 z11m z11g => ?_)
  obtain ⟨z11a, z11b⟩ := hR.r0 z11 z11m
  refine v_aload_n rfl rfl ?_
  refine v_get rfl h1 rfl ?_
  refine r_iadd rfl (by omega) (by omega) (fun z12 z12e => ?_)
  refine v_iconst (v := 1) rfl (by decide) ?_
  refine r_isub rfl (by omega) (by omega) (fun z13 z13e => ?_)
  refine v_aload_n rfl rfl ?_
  refine v_get rfl h1 rfl ?_
  refine r_idiv rfl (by omega) (by omega) (fun z14 z14m z14a z14b => ?_)
  clear z14m
  refine v_aload_n rfl rfl ?_
  refine v_get rfl h1 rfl ?_
  refine v_iload_n rfl rfl ?_
  have h15 : _ = some _ := hI.2.1 65 (by decide) (by decide)
  refine r_iaload rfl h15 hR.l1 (by omega) (by omega) (fun z16 z16m z16g => ?_)
  obtain ⟨z16a, z16b⟩ := hR.r1 z16 z16m
  refine v_iload_n rfl rfl ?_
  refine r_icmp_ne rfl (fun t17 => ?_) (fun t17 => ?_)
  · refine v_aload_n rfl rfl ?_
    refine v_get rfl h1 rfl ?_
    refine r_iadd rfl (by omega) (by omega) (fun z18 z18e => ?_)
    exact v_iret rfl ⟨⟨_, rfl, trivial⟩, rfl⟩
  · refine v_iconst (v := 0) rfl (by decide) ?_
    refine v_goto rfl ?_
    refine r_iadd rfl (by omega) (by omega) (fun z19 z19e => ?_)
    exact v_iret rfl ⟨⟨_, rfl, trivial⟩, rfl⟩
set_option maxRecDepth 100000 in
theorem W_X12_ask_59 {sc : pm_S} {w w0 : pm_W} {gi : Nat → Int32} {ga : Nat → List Int32}   (hR : pm_Rg gi ga) (hI : pm_IM gi ga w) (hh : pm_lo w0 w) : pm_Mt sc 0 163 2 [.ref 59] w (fun rv w' => pm_wI (fun v => 0 ≤ v.toInt ∧ v.toInt ≤ 1) rv ∧ pm_IM gi ga w' ∧ pm_lo w0 w' ∧ ∃ (a4 a5 a6 a14 a35 a39 a40 a42 : Int32), w'[59]? = some (.inr (12, [.int (gi 0), .int (gi 1), .ref 60, .int (gi 2), .int a4, .int a5, .int a6, .ref 61, .ref 62, .ref 63, .int (gi 5), .int (gi 3), .int (gi 4), .int (gi 6), .int a14, .int (gi 7), .ref 64, .ref 65, .ref 66, .ref 67, .int (gi 8), .ref 68, .ref 69, .ref 70, .ref 71, .ref 72, .ref 73, .ref 74, .ref 75, .ref 76, .ref 77, .ref 78, .ref 79, .ref 80, .ref 81, .int a35, .ref 82, .ref 83, .ref 84, .int a39, .int a40, .ref 85, .int a42, .ref 86, .ref 87])) ∧ 0 ≤ a4.toInt ∧ a4.toInt ≤ 1 ∧ 0 ≤ a5.toInt ∧ a5.toInt ≤ 20 ∧ 0 ≤ a6.toInt ∧ a6.toInt ≤ 20 ∧ 0 ≤ a35.toInt ∧ a35.toInt ≤ 20 ∧ 0 ≤ a42.toInt ∧ a42.toInt ≤ 12 ∧ (∀ v : Int32, rv = some (.int v) → v.toInt = 1 → a42.toInt ≤ 7)) := by
  intro d hd
  obtain ⟨g0a, g0b⟩ := hR.n0
  obtain ⟨g1a, g1b⟩ := hR.n1
  obtain ⟨g2a, g2b⟩ := hR.n2
  obtain ⟨g3a, g3b⟩ := hR.n3
  obtain ⟨g4a, g4b⟩ := hR.n4
  obtain ⟨g5a, g5b⟩ := hR.n5
  obtain ⟨g6a, g6b⟩ := hR.n6
  obtain ⟨g7a, g7b⟩ := hR.n7
  obtain ⟨g8a, g8b⟩ := hR.n8
  have k0 : (0 : Int32).toInt = 0 := by decide
  have k1 : (1 : Int32).toInt = 1 := by decide
  have k7 : (7 : Int32).toInt = 7 := by decide
  show pm_V sc d 163 0 [.ref 59, .null] [] w _
  refine v_aload_n rfl rfl ?_
  refine v_iconst (v := 0) rfl (by decide) ?_
  obtain ⟨v2, v3, v4, v5, v6, v7, v8, v9, ⟨v2z, v2e⟩, ⟨⟨v3a, v3b⟩, v3e⟩, ⟨⟨v4a, v4b⟩, v4e⟩, ⟨v6a, v6b⟩, ⟨v9a, v9b⟩, h1⟩ := hI.2.1 59 (by decide) (by decide)
  have v2z := v2z.imp i_eq.mp i_eq.mp
  rw [i_0, i_1] at v2z
  refine v_put rfl h1 rfl (Nat.le_of_ble_eq_true rfl) ?_
  refine r_gen (w' := w.set 59 (.inr (12, [.int (gi 0), .int (gi 1), .ref 60, .int (gi 2), .int v2, .int v3, .int v4, .ref 61, .ref 62, .ref 63, .int (gi 5), .int (gi 3), .int (gi 4), .int (gi 6), .int v5, .int (gi 7), .ref 64, .ref 65, .ref 66, .ref 67, .int (gi 8), .ref 68, .ref 69, .ref 70, .ref 71, .ref 72, .ref 73, .ref 74, .ref 75, .ref 76, .ref 77, .ref 78, .ref 79, .ref 80, .ref 81, .int v6, .ref 82, .ref 83, .ref 84, .int v7, .int v8, .ref 85, .int (0 : Int32), .ref 86, .ref 87]))) (fun w10 e11 => ?_)
  have hI12 : pm_IM gi ga w10 := by rw [e11]; exact hI.set 59 (by decide) (by decide) (by decide) (by decide) ⟨v2, v3, v4, v5, v6, v7, v8, (0 : Int32), ⟨((show v2.toInt = 0 ∨ v2.toInt = 1 by omega).imp i_eq.mpr i_eq.mpr), v2e⟩, ⟨⟨by omega, by omega⟩, v3e⟩, ⟨⟨by omega, by omega⟩, v4e⟩, ⟨by omega, by omega⟩, ⟨by omega, by omega⟩, rfl⟩
  have hh13 : pm_lo w0 w10 := by rw [e11]; exact hh.set (by decide) _
  have h14 := r_get_eq e11 h1
  refine v_iconst (v := 0) rfl (by decide) ?_
  refine v_istore_n rfl (Nat.le_of_ble_eq_true rfl) ?_
  have L25 : ∀ (n25 : Nat) (l15 : Int32) (w16 : pm_W) (v20 : Int32) (v21 : Int32) (v22 : Int32) (v23 : Int32) (v24 : Int32), pm_IM gi ga w16 → pm_lo w0 w16 → w16[59]? = some (.inr (12, [.int (gi 0), .int (gi 1), .ref 60, .int (gi 2), .int v2, .int v3, .int v4, .ref 61, .ref 62, .ref 63, .int (gi 5), .int (gi 3), .int (gi 4), .int (gi 6), .int v20, .int (gi 7), .ref 64, .ref 65, .ref 66, .ref 67, .int (gi 8), .ref 68, .ref 69, .ref 70, .ref 71, .ref 72, .ref 73, .ref 74, .ref 75, .ref 76, .ref 77, .ref 78, .ref 79, .ref 80, .ref 81, .int v21, .ref 82, .ref 83, .ref 84, .int v22, .int v23, .ref 85, .int v24, .ref 86, .ref 87])) → 0 ≤ l15.toInt → l15.toInt ≤ 12 → 0 ≤ v21.toInt → v21.toInt ≤ 20 → 0 ≤ v24.toInt → v24.toInt ≤ 12 → (v24.toInt ≤ l15.toInt) → (12 - l15.toInt).toNat < n25 → pm_V sc d 163 7 [.ref 59, .int l15] [] w16 (fun rv w' => pm_wI (fun v => 0 ≤ v.toInt ∧ v.toInt ≤ 1) rv ∧ pm_IM gi ga w' ∧ pm_lo w0 w' ∧ ∃ (a4 a5 a6 a14 a35 a39 a40 a42 : Int32), w'[59]? = some (.inr (12, [.int (gi 0), .int (gi 1), .ref 60, .int (gi 2), .int a4, .int a5, .int a6, .ref 61, .ref 62, .ref 63, .int (gi 5), .int (gi 3), .int (gi 4), .int (gi 6), .int a14, .int (gi 7), .ref 64, .ref 65, .ref 66, .ref 67, .int (gi 8), .ref 68, .ref 69, .ref 70, .ref 71, .ref 72, .ref 73, .ref 74, .ref 75, .ref 76, .ref 77, .ref 78, .ref 79, .ref 80, .ref 81, .int a35, .ref 82, .ref 83, .ref 84, .int a39, .int a40, .ref 85, .int a42, .ref 86, .ref 87])) ∧ 0 ≤ a4.toInt ∧ a4.toInt ≤ 1 ∧ 0 ≤ a5.toInt ∧ a5.toInt ≤ 20 ∧ 0 ≤ a6.toInt ∧ a6.toInt ≤ 20 ∧ 0 ≤ a35.toInt ∧ a35.toInt ≤ 20 ∧ 0 ≤ a42.toInt ∧ a42.toInt ≤ 12 ∧ (∀ v : Int32, rv = some (.int v) → v.toInt = 1 → a42.toInt ≤ 7)) := by
    intro n25
    induction n25 with
    | zero => intro l15 w16 v20 v21 v22 v23 v24 hI17 hh18 h19 t27 t28 t29 t30 t31 t32 t33 hm26; exact absurd hm26 (Nat.not_lt_zero _)
    | succ n25 ih7_25 =>
      intro l15 w16 v20 v21 v22 v23 v24 hI17 hh18 h19 t27 t28 t29 t30 t31 t32 t33 hm26
      refine v_iload_n rfl rfl ?_
      refine v_aload_n rfl rfl ?_
      refine v_get rfl h19 rfl ?_
      refine r_icmp_ge rfl (fun t34 => ?_) (fun t34 => ?_)
      · refine v_aload_n rfl rfl ?_
        refine v_get rfl h19 rfl ?_
        refine v_bipush (v := 7) rfl (by decide) ?_
        refine r_icmp_gt rfl (fun t35 => ?_) (fun t35 => ?_)
        · refine v_iconst (v := 0) rfl (by decide) ?_
          exact r_zret rfl (by omega) ⟨⟨_, rfl, (by omega), (by omega)⟩, hI17, hh18, ⟨v2, v3, v4, v20, v21, v22, v23, v24, h19, (by omega), (by omega), (by omega), (by omega), (by omega), (by omega), (by omega), (by omega), (by omega), (by omega), fun v hv h1 => by injection hv with hv; injection hv with hv; rw [← hv] at h1; omega⟩⟩
        · refine v_iconst (v := 1) rfl (by decide) ?_
          refine v_goto rfl ?_
          exact r_zret rfl (by omega) ⟨⟨_, rfl, (by omega), (by omega)⟩, hI17, hh18, ⟨v2, v3, v4, v20, v21, v22, v23, v24, h19, (by omega), (by omega), (by omega), (by omega), (by omega), (by omega), (by omega), (by omega), (by omega), (by omega), fun v hv h1 => by injection hv with hv; injection hv with hv; rw [← hv] at h1; omega⟩⟩
      · refine v_aload_n rfl rfl ?_
        refine v_get rfl h19 rfl ?_
        refine v_iload_n rfl rfl ?_
        have h36 : _ = some _ := hI17.2.1 67 (by decide) (by decide)
        refine r_iaload rfl h36 hR.l3 (by omega) (by omega) (fun z37 z37m z37g => ?_)
        obtain ⟨z37a, z37b⟩ := hR.r3 z37 z37m
        refine r_if_ge rfl (fun t38 => ?_) (fun t38 => ?_)
        · refine r_iinc rfl rfl (by decide) (by omega) (by omega) (fun z39 z39e => ?_)
          refine v_goto rfl ?_
          exact ih7_25 z39 w16 v20 v21 v22 v23 v24 hI17 hh18 h19 (by omega) (by omega) (by omega) (by omega) (by omega) (by omega) (by omega) (by omega)
        · refine v_aload_n rfl rfl ?_
          refine v_get rfl h19 rfl ?_
          refine v_bipush (v := 7) rfl (by decide) ?_
          refine r_icmp_ge rfl (fun t40 => ?_) (fun t40 => ?_)
          · refine v_aload_n rfl rfl ?_
            refine v_dup rfl rfl ?_
            refine v_get rfl h19 rfl ?_
            refine v_iconst (v := 1) rfl (by decide) ?_
            refine r_iadd rfl (by omega) (by omega) (fun z41 z41e => ?_)
            refine v_put rfl h19 rfl (Nat.le_of_ble_eq_true rfl) ?_
            refine r_gen (w' := w16.set 59 (.inr (12, [.int (gi 0), .int (gi 1), .ref 60, .int (gi 2), .int v2, .int v3, .int v4, .ref 61, .ref 62, .ref 63, .int (gi 5), .int (gi 3), .int (gi 4), .int (gi 6), .int v20, .int (gi 7), .ref 64, .ref 65, .ref 66, .ref 67, .int (gi 8), .ref 68, .ref 69, .ref 70, .ref 71, .ref 72, .ref 73, .ref 74, .ref 75, .ref 76, .ref 77, .ref 78, .ref 79, .ref 80, .ref 81, .int v21, .ref 82, .ref 83, .ref 84, .int v22, .int v23, .ref 85, .int z41, .ref 86, .ref 87]))) (fun w42 e43 => ?_)
            have hI44 : pm_IM gi ga w42 := by rw [e43]; exact hI17.set 59 (by decide) (by decide) (by decide) (by decide) ⟨v2, v3, v4, v20, v21, v22, v23, z41, ⟨((show v2.toInt = 0 ∨ v2.toInt = 1 by omega).imp i_eq.mpr i_eq.mpr), v2e⟩, ⟨⟨by omega, by omega⟩, v3e⟩, ⟨⟨by omega, by omega⟩, v4e⟩, ⟨by omega, by omega⟩, ⟨by omega, by omega⟩, rfl⟩
            have hh45 : pm_lo w0 w42 := by rw [e43]; exact hh18.set (by decide) _
            have h46 := r_get_ne e43 (show 59 ≠ 67 by decide) h36
            have h47 := r_get_eq e43 h19
            refine r_iinc rfl rfl (by decide) (by omega) (by omega) (fun z48 z48e => ?_)
            refine v_goto rfl ?_
            exact ih7_25 z48 w42 v20 v21 v22 v23 z41 hI44 hh45 h47 (by omega) (by omega) (by omega) (by omega) (by omega) (by omega) (by omega) (by omega)
          · refine v_aload_n rfl rfl ?_
            refine v_get rfl h19 rfl ?_
            refine v_aload_n rfl rfl ?_
            refine v_get rfl h19 rfl ?_
            refine v_iload_n rfl rfl ?_
            obtain ⟨xs50, xs50l, xs50r, h49⟩ := hI17.2.1 85 (by decide) (by decide)
            refine r_iastore rfl h49 xs50l (by omega) (by omega) (fun ys51 ys51l ys51m ys51g => ?_)
            have ys51r := r_rng ys51m xs50r (by omega) (by omega)
            refine r_gen (w' := w16.set 85 (.inl (0, .inl ys51))) (fun w52 e53 => ?_)
            have hI54 : pm_IM gi ga w52 := by rw [e53]; exact hI17.set 85 (by decide) (by decide) (by decide) (by decide) ⟨ys51, ys51l, ys51r, rfl⟩
            have hh55 : pm_lo w0 w52 := by rw [e53]; exact hh18.set (by decide) _
            have h56 := r_get_ne e53 (show 85 ≠ 59 by decide) h19
            have h57 := r_get_ne e53 (show 85 ≠ 67 by decide) h36
            have h58 := r_get_eq e53 h49
            refine v_aload_n rfl rfl ?_
            refine v_dup rfl rfl ?_
            refine v_get rfl h56 rfl ?_
            refine v_iconst (v := 1) rfl (by decide) ?_
            refine r_iadd rfl (by omega) (by omega) (fun z59 z59e => ?_)
            refine v_put rfl h56 rfl (Nat.le_of_ble_eq_true rfl) ?_
            refine r_gen (w' := w52.set 59 (.inr (12, [.int (gi 0), .int (gi 1), .ref 60, .int (gi 2), .int v2, .int v3, .int v4, .ref 61, .ref 62, .ref 63, .int (gi 5), .int (gi 3), .int (gi 4), .int (gi 6), .int v20, .int (gi 7), .ref 64, .ref 65, .ref 66, .ref 67, .int (gi 8), .ref 68, .ref 69, .ref 70, .ref 71, .ref 72, .ref 73, .ref 74, .ref 75, .ref 76, .ref 77, .ref 78, .ref 79, .ref 80, .ref 81, .int v21, .ref 82, .ref 83, .ref 84, .int v22, .int v23, .ref 85, .int z59, .ref 86, .ref 87]))) (fun w60 e61 => ?_)
            have hI62 : pm_IM gi ga w60 := by rw [e61]; exact hI54.set 59 (by decide) (by decide) (by decide) (by decide) ⟨v2, v3, v4, v20, v21, v22, v23, z59, ⟨((show v2.toInt = 0 ∨ v2.toInt = 1 by omega).imp i_eq.mpr i_eq.mpr), v2e⟩, ⟨⟨by omega, by omega⟩, v3e⟩, ⟨⟨by omega, by omega⟩, v4e⟩, ⟨by omega, by omega⟩, ⟨by omega, by omega⟩, rfl⟩
            have hh63 : pm_lo w0 w60 := by rw [e61]; exact hh55.set (by decide) _
            have h64 := r_get_ne e61 (show 59 ≠ 67 by decide) h57
            have h65 := r_get_ne e61 (show 59 ≠ 85 by decide) h58
            have h66 := r_get_eq e61 h56
            refine r_iinc rfl rfl (by decide) (by omega) (by omega) (fun z67 z67e => ?_)
            refine v_goto rfl ?_
            exact ih7_25 z67 w60 v20 v21 v22 v23 z59 hI62 hh63 h66 (by omega) (by omega) (by omega) (by omega) (by omega) (by omega) (by omega) (by omega)
  exact L25 _ (0 : Int32) w10 v5 v6 v7 v8 (0 : Int32) hI12 hh13 h14 (by omega) (by omega) (by omega) (by omega) (by omega) (by omega) (by omega) (Nat.lt_add_one _)
set_option maxRecDepth 100000 in
theorem W_X12_findRow_59 {sc : pm_S} {w w0 : pm_W} {gi : Nat → Int32} {ga : Nat → List Int32} (k : Int32) (c59_4 : Int32) (c59_5 : Int32) (c59_6 : Int32) (c59_14 : Int32) (c59_35 : Int32) (c59_39 : Int32) (c59_40 : Int32) (c59_42 : Int32) (p0 : k.toInt ≤ 5040) (p1 : 0 ≤ k.toInt) (p2 : c59_42.toInt ≤ 7) (p3 : pm_ltf k.toInt c59_42.toInt) (p4 : 0 ≤ c59_4.toInt) (p5 : c59_4.toInt ≤ 1) (p6 : 0 ≤ c59_5.toInt) (p7 : c59_5.toInt ≤ 20) (p8 : 0 ≤ c59_6.toInt) (p9 : c59_6.toInt ≤ 20) (p10 : 0 ≤ c59_35.toInt) (p11 : c59_35.toInt ≤ 20) (p12 : 0 ≤ c59_42.toInt) (p13 : c59_42.toInt ≤ 12) (hc59 : w[59]? = some (.inr (12, [.int (gi 0), .int (gi 1), .ref 60, .int (gi 2), .int c59_4, .int c59_5, .int c59_6, .ref 61, .ref 62, .ref 63, .int (gi 5), .int (gi 3), .int (gi 4), .int (gi 6), .int c59_14, .int (gi 7), .ref 64, .ref 65, .ref 66, .ref 67, .int (gi 8), .ref 68, .ref 69, .ref 70, .ref 71, .ref 72, .ref 73, .ref 74, .ref 75, .ref 76, .ref 77, .ref 78, .ref 79, .ref 80, .ref 81, .int c59_35, .ref 82, .ref 83, .ref 84, .int c59_39, .int c59_40, .ref 85, .int c59_42, .ref 86, .ref 87]))) (hR : pm_Rg gi ga) (hI : pm_IM gi ga w) (hh : pm_lo w0 w) : pm_Mt sc 0 164 8 [.ref 59, .int k] w (fun rv w' => rv = none ∧ pm_IM gi ga w' ∧ pm_lo w0 w' ∧ w'[59]? = some (.inr (12, [.int (gi 0), .int (gi 1), .ref 60, .int (gi 2), .int c59_4, .int c59_5, .int c59_6, .ref 61, .ref 62, .ref 63, .int (gi 5), .int (gi 3), .int (gi 4), .int (gi 6), .int c59_14, .int (gi 7), .ref 64, .ref 65, .ref 66, .ref 67, .int (gi 8), .ref 68, .ref 69, .ref 70, .ref 71, .ref 72, .ref 73, .ref 74, .ref 75, .ref 76, .ref 77, .ref 78, .ref 79, .ref 80, .ref 81, .int c59_35, .ref 82, .ref 83, .ref 84, .int c59_39, .int c59_40, .ref 85, .int c59_42, .ref 86, .ref 87]))) := by
  intro d hd
  obtain ⟨g0a, g0b⟩ := hR.n0
  obtain ⟨g1a, g1b⟩ := hR.n1
  obtain ⟨g2a, g2b⟩ := hR.n2
  obtain ⟨g3a, g3b⟩ := hR.n3
  obtain ⟨g4a, g4b⟩ := hR.n4
  obtain ⟨g5a, g5b⟩ := hR.n5
  obtain ⟨g6a, g6b⟩ := hR.n6
  obtain ⟨g7a, g7b⟩ := hR.n7
  obtain ⟨g8a, g8b⟩ := hR.n8
  have k0 : (0 : Int32).toInt = 0 := by decide
  have k1 : (1 : Int32).toInt = 1 := by decide
  have k2 : (2 : Int32).toInt = 2 := by decide
  show pm_V sc d 164 0 [.ref 59, .int k, .null, .null, .null, .null, .null, .null] [] w _
  have p0k : pm_ltf k.toInt c59_42.toInt := by assumption
  refine v_iconst (v := 1) rfl (by decide) ?_
  refine v_istore_n rfl (Nat.le_of_ble_eq_true rfl) ?_
  refine v_iconst (v := 2) rfl (by decide) ?_
  refine v_istore_n rfl (Nat.le_of_ble_eq_true rfl) ?_
  have L3 : ∀ (n3 : Nat) (l1 : Int32) (l2 : Int32), 1 ≤ l1.toInt → l1.toInt ≤ 5040 → 2 ≤ l2.toInt → l2.toInt ≤ 8 → (l2.toInt ≤ c59_42.toInt + 1 ∨ l2.toInt = 2) → (pm_fac l1.toInt (l2.toInt - 1)) → (8 - l2.toInt).toNat < n3 → pm_V sc d 164 4 [.ref 59, .int k, .int l1, .int l2, .null, .null, .null, .null] [] w (fun rv w' => rv = none ∧ pm_IM gi ga w' ∧ pm_lo w0 w' ∧ w'[59]? = some (.inr (12, [.int (gi 0), .int (gi 1), .ref 60, .int (gi 2), .int c59_4, .int c59_5, .int c59_6, .ref 61, .ref 62, .ref 63, .int (gi 5), .int (gi 3), .int (gi 4), .int (gi 6), .int c59_14, .int (gi 7), .ref 64, .ref 65, .ref 66, .ref 67, .int (gi 8), .ref 68, .ref 69, .ref 70, .ref 71, .ref 72, .ref 73, .ref 74, .ref 75, .ref 76, .ref 77, .ref 78, .ref 79, .ref 80, .ref 81, .int c59_35, .ref 82, .ref 83, .ref 84, .int c59_39, .int c59_40, .ref 85, .int c59_42, .ref 86, .ref 87]))) := by
    intro n3
    induction n3 with
    | zero => intro l1 l2 t5 t6 t7 t8 t9 t10 hm4; exact absurd hm4 (Nat.not_lt_zero _)
    | succ n3 ih4_3 =>
      intro l1 l2 t5 t6 t7 t8 t9 t10 hm4
      refine v_iload_n rfl rfl ?_
      refine v_aload_n rfl rfl ?_
      refine v_get rfl hc59 rfl ?_
      refine r_icmp_gt rfl (fun t11 => ?_) (fun t11 => ?_)
      · have hfac := t10.out (m := c59_42.toInt) (by omega) (by omega) (by omega)
        have hfr := hfac.rng
        refine v_iload_n rfl rfl ?_
        refine v_istore_n rfl (Nat.le_of_ble_eq_true rfl) ?_
        refine v_iconst (v := 0) rfl (by decide) ?_
        refine v_istore rfl (Nat.le_of_ble_eq_true rfl) ?_
        refine v_iconst (v := 0) rfl (by decide) ?_
        refine v_istore rfl (Nat.le_of_ble_eq_true rfl) ?_
        have L22 : ∀ (n22 : Nat) (l12 : Int32) (l13 : Int32) (l14 : Int32) (l15 : Int32) (u16 : Value) (u17 : Value) (w18 : pm_W), pm_IM gi ga w18 → pm_lo w0 w18 → w18[59]? = some (.inr (12, [.int (gi 0), .int (gi 1), .ref 60, .int (gi 2), .int c59_4, .int c59_5, .int c59_6, .ref 61, .ref 62, .ref 63, .int (gi 5), .int (gi 3), .int (gi 4), .int (gi 6), .int c59_14, .int (gi 7), .ref 64, .ref 65, .ref 66, .ref 67, .int (gi 8), .ref 68, .ref 69, .ref 70, .ref 71, .ref 72, .ref 73, .ref 74, .ref 75, .ref 76, .ref 77, .ref 78, .ref 79, .ref 80, .ref 81, .int c59_35, .ref 82, .ref 83, .ref 84, .int c59_39, .int c59_40, .ref 85, .int c59_42, .ref 86, .ref 87])) → 1 ≤ l12.toInt → l12.toInt ≤ 5040 → 0 ≤ l13.toInt → l13.toInt ≤ 5040 → 0 ≤ l15.toInt → l15.toInt ≤ 7 → (l15.toInt ≤ c59_42.toInt) → (pm_fac l12.toInt (c59_42.toInt - l15.toInt)) → (pm_ltf l13.toInt (c59_42.toInt - l15.toInt)) → (pm_tk l14 0 c59_42.toInt (c59_42.toInt - l15.toInt)) → (c59_42.toInt - l15.toInt).toNat < n22 → pm_V sc d 164 30 [.ref 59, .int k, .int l12, .int l13, .int l14, .int l15, u16, u17] [] w18 (fun rv w' => rv = none ∧ pm_IM gi ga w' ∧ pm_lo w0 w' ∧ w'[59]? = some (.inr (12, [.int (gi 0), .int (gi 1), .ref 60, .int (gi 2), .int c59_4, .int c59_5, .int c59_6, .ref 61, .ref 62, .ref 63, .int (gi 5), .int (gi 3), .int (gi 4), .int (gi 6), .int c59_14, .int (gi 7), .ref 64, .ref 65, .ref 66, .ref 67, .int (gi 8), .ref 68, .ref 69, .ref 70, .ref 71, .ref 72, .ref 73, .ref 74, .ref 75, .ref 76, .ref 77, .ref 78, .ref 79, .ref 80, .ref 81, .int c59_35, .ref 82, .ref 83, .ref 84, .int c59_39, .int c59_40, .ref 85, .int c59_42, .ref 86, .ref 87]))) := by
          intro n22
          induction n22 with
          | zero => intro l12 l13 l14 l15 u16 u17 w18 hI19 hh20 h21 t24 t25 t26 t27 t28 t29 t30 t31 t32 t33 hm23; exact absurd hm23 (Nat.not_lt_zero _)
          | succ n22 ih30_22 =>
            intro l12 l13 l14 l15 u16 u17 w18 hI19 hh20 h21 t24 t25 t26 t27 t28 t29 t30 t31 t32 t33 hm23
            refine v_iload rfl rfl ?_
            refine v_aload_n rfl rfl ?_
            refine v_get rfl h21 rfl ?_
            refine r_icmp_ge rfl (fun t34 => ?_) (fun t34 => ?_)
            · exact v_ret rfl ⟨rfl, hI19, hh20, h21⟩
            · refine v_iload_n rfl rfl ?_
              refine v_aload_n rfl rfl ?_
              refine v_get rfl h21 rfl ?_
              refine v_iload rfl rfl ?_
              refine r_isub rfl (by omega) (by omega) (fun z35 z35e => ?_)
              refine r_facdiv rfl (by rw [show z35.toInt = c59_42.toInt - l15.toInt by omega]; exact t31) (by omega) (fun z36 z36f => ?_)
              rw [show z35.toInt - 1 = c59_42.toInt - l15.toInt - 1 by omega] at z36f
              have z36r := z36f.rng
              refine v_istore_n rfl (Nat.le_of_ble_eq_true rfl) ?_
              refine v_iload_n rfl rfl ?_
              refine v_iload_n rfl rfl ?_
              refine r_facskip (r := c59_42.toInt - l15.toInt) rfl (by omega) z36f t32 (by omega) (fun z37 z37a z37b => ?_)
              refine v_istore rfl (Nat.le_of_ble_eq_true rfl) ?_
              refine v_iload_n rfl rfl ?_
              refine v_iload_n rfl rfl ?_
              refine r_irem rfl (by omega) (by omega) (fun z38 z38m z38a z38b z38c => ?_)
              clear z38m
              refine v_istore_n rfl (Nat.le_of_ble_eq_true rfl) ?_
              refine v_iconst (v := 0) rfl (by decide) ?_
              refine v_istore rfl (Nat.le_of_ble_eq_true rfl) ?_
              have L41 : ∀ (n41 : Nat) (l39 : Int32) (l40 : Int32), 0 ≤ l39.toInt → l39.toInt ≤ 7 → 0 ≤ l40.toInt → l40.toInt ≤ 7 → (pm_tk l14 l40.toInt c59_42.toInt (l39.toInt + 1)) → (c59_42.toInt - l40.toInt).toNat < n41 → pm_V sc d 164 61 [.ref 59, .int k, .int z36, .int z38, .int l14, .int l15, .int l39, .int l40] [] w18 (fun rv w' => rv = none ∧ pm_IM gi ga w' ∧ pm_lo w0 w' ∧ w'[59]? = some (.inr (12, [.int (gi 0), .int (gi 1), .ref 60, .int (gi 2), .int c59_4, .int c59_5, .int c59_6, .ref 61, .ref 62, .ref 63, .int (gi 5), .int (gi 3), .int (gi 4), .int (gi 6), .int c59_14, .int (gi 7), .ref 64, .ref 65, .ref 66, .ref 67, .int (gi 8), .ref 68, .ref 69, .ref 70, .ref 71, .ref 72, .ref 73, .ref 74, .ref 75, .ref 76, .ref 77, .ref 78, .ref 79, .ref 80, .ref 81, .int c59_35, .ref 82, .ref 83, .ref 84, .int c59_39, .int c59_40, .ref 85, .int c59_42, .ref 86, .ref 87]))) := by
                intro n41
                induction n41 with
                | zero => intro l39 l40 t43 t44 t45 t46 t47 hm42; exact absurd hm42 (Nat.not_lt_zero _)
                | succ n41 ih61_41 =>
                  intro l39 l40 t43 t44 t45 t46 t47 hm42
                  refine v_iload rfl rfl ?_
                  refine v_iload rfl rfl ?_
                  refine v_ishr rfl ?_
                  refine v_iconst (v := 1) rfl (by decide) ?_
                  refine v_iand rfl ?_
                  obtain ⟨z48, z48e⟩ : ∃ z : Int32, z = (l14 >>> (l40 &&& 31)) &&& 1 := ⟨_, rfl⟩
                  rw [← z48e]
                  obtain ⟨z48x, z48y, z48z⟩ := pm_tk.bit (m := c59_42.toInt) t47 z48e (by omega) (by omega) (by omega) (by omega)
                  have hat67 := t47.at (by omega) (by omega) (by omega) (by omega) (by omega)
                  refine v_iconst (v := 1) rfl (by decide) ?_
                  refine r_icmp_eq rfl (fun t49 => ?_) (fun t49 => ?_)
                  · refine v_iload rfl rfl ?_
                    refine v_iload rfl rfl ?_
                    refine v_iload rfl rfl ?_
                    refine v_ishr rfl ?_
                    refine v_iconst (v := 1) rfl (by decide) ?_
                    refine v_iand rfl ?_
                    obtain ⟨z50, z50e⟩ : ∃ z : Int32, z = (l14 >>> (l40 &&& 31)) &&& 1 := ⟨_, rfl⟩
                    rw [← z50e]
                    obtain ⟨z50x, z50y, z50z⟩ := pm_tk.bit (m := c59_42.toInt) t47 z50e (by omega) (by omega) (by omega) (by omega)
                    have z50q := congrArg Int32.toInt (z50e.trans z48e.symm)
                    refine v_iconst (v := 1) rfl (by decide) ?_
                    refine r_icmp_ne rfl (fun t51 => ?_) (fun t51 => ?_)
                    · refine v_iconst (v := 1) rfl (by decide) ?_
                      refine r_isub rfl (by omega) (by omega) (fun z52 z52e => ?_)
                      refine v_istore rfl (Nat.le_of_ble_eq_true rfl) ?_
                      refine r_iinc rfl rfl (by decide) (by omega) (by omega) (fun z53 z53e => ?_)
                      refine v_goto rfl ?_
                      exact ih61_41 z52 z53 (by omega) (by omega) (by omega) (by omega) (by rw [show z53.toInt = l40.toInt + 1 by omega]; first | exact (z50y).le (by omega) | exact (z50x (by omega)).le (by omega)) (by omega)
                    · refine v_iconst (v := 0) rfl (by decide) ?_
                      refine v_goto rfl ?_
                      refine r_isub rfl (by omega) (by omega) (fun z54 z54e => ?_)
                      refine v_istore rfl (Nat.le_of_ble_eq_true rfl) ?_
                      refine r_iinc rfl rfl (by decide) (by omega) (by omega) (fun z55 z55e => ?_)
                      refine v_goto rfl ?_
                      exact ih61_41 z54 z55 (by omega) (by omega) (by omega) (by omega) (by rw [show z55.toInt = l40.toInt + 1 by omega]; first | exact (z50y).le (by omega) | exact (z50x (by omega)).le (by omega)) (by omega)
                  · refine v_iload rfl rfl ?_
                    refine r_if_le rfl (fun t56 => ?_) (fun t56 => ?_)
                    · refine v_iload rfl rfl ?_
                      refine v_iconst (v := 1) rfl (by decide) ?_
                      refine v_iload rfl rfl ?_
                      refine v_ishl rfl ?_
                      refine v_ior rfl ?_
                      have hat := t47.at (by omega) (by omega) (by omega) (by omega) (by omega)
                      have hset := t33.set (y := l40) (by omega) (by omega) (by omega) (by omega)
                      obtain ⟨z57, z57e⟩ : ∃ z : Int32, z = l14 ||| ((1 : Int32) <<< (l40 &&& 31)) := ⟨_, rfl⟩
                      rw [← z57e]
                      rw [← z57e] at hset
                      refine v_istore rfl (Nat.le_of_ble_eq_true rfl) ?_
                      refine v_aload_n rfl rfl ?_
                      refine v_get rfl h21 rfl ?_
                      refine v_iload rfl rfl ?_
                      refine v_aload_n rfl rfl ?_
                      refine v_get rfl h21 rfl ?_
                      refine v_iload rfl rfl ?_
                      obtain ⟨xs59, xs59l, xs59r, h58⟩ := hI19.2.1 85 (by decide) (by decide)
                      refine r_iaload rfl h58 xs59l (by omega) (by omega) (fun z60 z60m z60g => ?_)
                      obtain ⟨z60a, z60b⟩ := xs59r z60 z60m
                      obtain ⟨xs62, xs62l, xs62r, h61⟩ := hI19.2.1 86 (by decide) (by decide)
                      refine r_iastore rfl h61 xs62l (by omega) (by omega) (fun ys63 ys63l ys63m ys63g => ?_)
                      have ys63r := r_rng ys63m xs62r (by omega) (by omega)
                      refine r_gen (w' := w18.set 86 (.inl (0, .inl ys63))) (fun w64 e65 => ?_)
                      have hI66 : pm_IM gi ga w64 := by rw [e65]; exact hI19.set 86 (by decide) (by decide) (by decide) (by decide) ⟨ys63, ys63l, ys63r, rfl⟩
                      have hh67 : pm_lo w0 w64 := by rw [e65]; exact hh20.set (by decide) _
                      have h68 := r_get_ne e65 (show 86 ≠ 59 by decide) h21
                      have h69 := r_get_ne e65 (show 86 ≠ 85 by decide) h58
                      have h70 := r_get_eq e65 h61
                      refine r_iinc rfl rfl (by decide) (by omega) (by omega) (fun z71 z71e => ?_)
                      refine v_goto rfl ?_
                      exact ih30_22 z36 z38 z57 z71 (.int l39) (.int l40) w64 hI66 hh67 h68 (by omega) (by omega) (by omega) (by omega) (by omega) (by omega) (by omega) (by rw [show c59_42.toInt - z71.toInt = c59_42.toInt - l15.toInt - 1 by omega]; exact z36f) (by rw [show c59_42.toInt - z71.toInt = c59_42.toInt - l15.toInt - 1 by omega]; exact z36f.ltf (by omega)) (by exact hset.le (by omega)) (by omega)
                    · refine v_iload rfl rfl ?_
                      refine v_iload rfl rfl ?_
                      refine v_iload rfl rfl ?_
                      refine v_ishr rfl ?_
                      refine v_iconst (v := 1) rfl (by decide) ?_
                      refine v_iand rfl ?_
                      obtain ⟨z72, z72e⟩ : ∃ z : Int32, z = (l14 >>> (l40 &&& 31)) &&& 1 := ⟨_, rfl⟩
                      rw [← z72e]
                      obtain ⟨z72x, z72y, z72z⟩ := pm_tk.bit (m := c59_42.toInt) t47 z72e (by omega) (by omega) (by omega) (by omega)
                      have z72q := congrArg Int32.toInt (z72e.trans z48e.symm)
                      refine v_iconst (v := 1) rfl (by decide) ?_
                      refine r_icmp_ne rfl (fun t73 => ?_) (fun t73 => ?_)
                      · refine v_iconst (v := 1) rfl (by decide) ?_
                        refine r_isub rfl (by omega) (by omega) (fun z74 z74e => ?_)
                        refine v_istore rfl (Nat.le_of_ble_eq_true rfl) ?_
                        refine r_iinc rfl rfl (by decide) (by omega) (by omega) (fun z75 z75e => ?_)
                        refine v_goto rfl ?_
                        exact ih61_41 z74 z75 (by omega) (by omega) (by omega) (by omega) (by rw [show z75.toInt = l40.toInt + 1 by omega]; first | exact (z72y).le (by omega) | exact (z72x (by omega)).le (by omega)) (by omega)
                      · refine v_iconst (v := 0) rfl (by decide) ?_
                        refine v_goto rfl ?_
                        refine r_isub rfl (by omega) (by omega) (fun z76 z76e => ?_)
                        refine v_istore rfl (Nat.le_of_ble_eq_true rfl) ?_
                        refine r_iinc rfl rfl (by decide) (by omega) (by omega) (fun z77 z77e => ?_)
                        refine v_goto rfl ?_
                        exact ih61_41 z76 z77 (by omega) (by omega) (by omega) (by omega) (by rw [show z77.toInt = l40.toInt + 1 by omega]; first | exact (z72y).le (by omega) | exact (z72x (by omega)).le (by omega)) (by omega)
              exact L41 _ z37 (0 : Int32) (by omega) (by omega) (by omega) (by omega) (by exact t33.le (by omega)) (Nat.lt_add_one _)
        exact L22 _ l1 k (0 : Int32) (0 : Int32) (.null) (.null) w hI hh hc59 (by omega) (by omega) (by omega) (by omega) (by omega) (by omega) (by omega) (by rw [show c59_42.toInt - (0 : Int32).toInt = c59_42.toInt by omega]; exact hfac) (by rw [show c59_42.toInt - (0 : Int32).toInt = c59_42.toInt by omega]; exact p0k) (by exact (pm_tk.zero (by omega) (by omega)).le (by omega)) (Nat.lt_add_one _)
      · refine v_iload_n rfl rfl ?_
        refine v_iload_n rfl rfl ?_
        refine r_facmul rfl (t10) (by omega) (by omega) (fun z78 z78f => ?_)
        have z78r := z78f.rng
        refine v_istore_n rfl (Nat.le_of_ble_eq_true rfl) ?_
        refine r_iinc rfl rfl (by decide) (by omega) (by omega) (fun z79 z79e => ?_)
        refine v_goto rfl ?_
        exact ih4_3 z78 z79 (by omega) (by omega) (by omega) (by omega) (by omega) (by rw [show z79.toInt - 1 = l2.toInt by omega]; exact z78f) (by omega)
  exact L3 _ (1 : Int32) (2 : Int32) (by omega) (by omega) (by omega) (by omega) (by omega) (by unfold pm_fac; omega) (Nat.lt_add_one _)
set_option maxRecDepth 100000 in
theorem W_X12_findBest_59 {sc : pm_S} {w w0 : pm_W} {gi : Nat → Int32} {ga : Nat → List Int32} (c59_4 : Int32) (c59_5 : Int32) (c59_6 : Int32) (c59_14 : Int32) (c59_35 : Int32) (c59_39 : Int32) (c59_40 : Int32) (c59_42 : Int32) (p0 : c59_42.toInt ≤ 7) (p1 : 0 ≤ c59_4.toInt) (p2 : c59_4.toInt ≤ 1) (p3 : 0 ≤ c59_5.toInt) (p4 : c59_5.toInt ≤ 20) (p5 : 0 ≤ c59_6.toInt) (p6 : c59_6.toInt ≤ 20) (p7 : 0 ≤ c59_35.toInt) (p8 : c59_35.toInt ≤ 20) (p9 : 0 ≤ c59_42.toInt) (p10 : c59_42.toInt ≤ 12) (hc59 : w[59]? = some (.inr (12, [.int (gi 0), .int (gi 1), .ref 60, .int (gi 2), .int c59_4, .int c59_5, .int c59_6, .ref 61, .ref 62, .ref 63, .int (gi 5), .int (gi 3), .int (gi 4), .int (gi 6), .int c59_14, .int (gi 7), .ref 64, .ref 65, .ref 66, .ref 67, .int (gi 8), .ref 68, .ref 69, .ref 70, .ref 71, .ref 72, .ref 73, .ref 74, .ref 75, .ref 76, .ref 77, .ref 78, .ref 79, .ref 80, .ref 81, .int c59_35, .ref 82, .ref 83, .ref 84, .int c59_39, .int c59_40, .ref 85, .int c59_42, .ref 86, .ref 87]))) (hR : pm_Rg gi ga) (hI : pm_IM gi ga w) (hh : pm_lo w0 w) : pm_Mt sc 1 165 8 [.ref 59] w (fun rv w' => pm_wI (fun v => True) rv ∧ pm_IM gi ga w' ∧ pm_lo w0 w') := by
  intro d hd
  obtain ⟨g0a, g0b⟩ := hR.n0
  obtain ⟨g1a, g1b⟩ := hR.n1
  obtain ⟨g2a, g2b⟩ := hR.n2
  obtain ⟨g3a, g3b⟩ := hR.n3
  obtain ⟨g4a, g4b⟩ := hR.n4
  obtain ⟨g5a, g5b⟩ := hR.n5
  obtain ⟨g6a, g6b⟩ := hR.n6
  obtain ⟨g7a, g7b⟩ := hR.n7
  obtain ⟨g8a, g8b⟩ := hR.n8
  have km1 : (-1 : Int32).toInt = -1 := by decide
  have k0 : (0 : Int32).toInt = 0 := by decide
  have k1 : (1 : Int32).toInt = 1 := by decide
  have k2 : (2 : Int32).toInt = 2 := by decide
  show pm_V sc d 165 0 [.ref 59, .null, .null, .null, .null, .null, .null, .null] [] w _
  refine v_iconst (v := 1) rfl (by decide) ?_
  refine v_istore_n rfl (Nat.le_of_ble_eq_true rfl) ?_
  refine v_iconst (v := 2) rfl (by decide) ?_
  refine v_istore_n rfl (Nat.le_of_ble_eq_true rfl) ?_
  have L3 : ∀ (n3 : Nat) (l1 : Int32) (l2 : Int32), 1 ≤ l1.toInt → l1.toInt ≤ 5040 → 2 ≤ l2.toInt → l2.toInt ≤ 8 → (l2.toInt ≤ c59_42.toInt + 1 ∨ l2.toInt = 2) → (pm_fac l1.toInt (l2.toInt - 1)) → (8 - l2.toInt).toNat < n3 → pm_V sc d 165 4 [.ref 59, .int l1, .int l2, .null, .null, .null, .null, .null] [] w (fun rv w' => pm_wI (fun v => True) rv ∧ pm_IM gi ga w' ∧ pm_lo w0 w') := by
    intro n3
    induction n3 with
    | zero => intro l1 l2 t5 t6 t7 t8 t9 t10 hm4; exact absurd hm4 (Nat.not_lt_zero _)
    | succ n3 ih4_3 =>
      intro l1 l2 t5 t6 t7 t8 t9 t10 hm4
      refine v_iload_n rfl rfl ?_
      refine v_aload_n rfl rfl ?_
      refine v_get rfl hc59 rfl ?_
      refine r_icmp_gt rfl (fun t11 => ?_) (fun t11 => ?_)
      · have hfac := t10.out (m := c59_42.toInt) (by omega) (by omega) (by omega)
        have hfr := hfac.rng
        refine v_iconst (v := (-1)) rfl (by decide) ?_
        refine v_istore_n rfl (Nat.le_of_ble_eq_true rfl) ?_
        refine v_iconst (v := 0) rfl (by decide) ?_
        refine v_istore_n rfl (Nat.le_of_ble_eq_true rfl) ?_
        have L22 : ∀ (n22 : Nat) (l12 : Int32) (l13 : Int32) (u14 : Value) (u15 : Value) (u16 : Value) (u17 : Value) (w18 : pm_W), pm_IM gi ga w18 → pm_lo w0 w18 → w18[59]? = some (.inr (12, [.int (gi 0), .int (gi 1), .ref 60, .int (gi 2), .int c59_4, .int c59_5, .int c59_6, .ref 61, .ref 62, .ref 63, .int (gi 5), .int (gi 3), .int (gi 4), .int (gi 6), .int c59_14, .int (gi 7), .ref 64, .ref 65, .ref 66, .ref 67, .int (gi 8), .ref 68, .ref 69, .ref 70, .ref 71, .ref 72, .ref 73, .ref 74, .ref 75, .ref 76, .ref 77, .ref 78, .ref 79, .ref 80, .ref 81, .int c59_35, .ref 82, .ref 83, .ref 84, .int c59_39, .int c59_40, .ref 85, .int c59_42, .ref 86, .ref 87])) → 0 ≤ l13.toInt → l13.toInt ≤ 5040 → (5040 - l13.toInt).toNat < n22 → pm_V sc d 165 26 [.ref 59, .int l1, .int l12, .int l13, u14, u15, u16, u17] [] w18 (fun rv w' => pm_wI (fun v => True) rv ∧ pm_IM gi ga w' ∧ pm_lo w0 w') := by
          intro n22
          induction n22 with
          | zero => intro l12 l13 u14 u15 u16 u17 w18 hI19 hh20 h21 t24 t25 hm23; exact absurd hm23 (Nat.not_lt_zero _)
          | succ n22 ih26_22 =>
            intro l12 l13 u14 u15 u16 u17 w18 hI19 hh20 h21 t24 t25 hm23
            refine v_iload_n rfl rfl ?_
            refine v_iload_n rfl rfl ?_
            refine r_icmp_ge rfl (fun t26 => ?_) (fun t26 => ?_)
            · refine v_iload_n rfl rfl ?_
              exact v_iret rfl ⟨⟨_, rfl, trivial⟩, hI19, hh20⟩
            · refine v_aload_n rfl rfl ?_
              refine v_iload_n rfl rfl ?_
              have hlt33 : pm_ltf l13.toInt c59_42.toInt := hfac.ltf (by omega)
              refine v_callV rfl (W_X12_findRow_59 l13 c59_4 c59_5 c59_6 c59_14 c59_35 c59_39 c59_40 c59_42 (by omega) (by omega) (by omega) hlt33 (by omega) (by omega) (by omega) (by omega) (by omega) (by omega) (by omega) (by omega) (by omega) (by omega) h21 hR hI19 hh20) rfl rfl h21 rfl rfl (by omega) (fun rv w27 hq28 => ?_)
              obtain ⟨rfl, hI29, hh30, h31⟩ := hq28
              refine v_aload_n rfl rfl ?_
              refine v_get rfl h31 rfl ?_
              refine v_istore rfl (Nat.le_of_ble_eq_true rfl) ?_
              refine v_aload_n rfl rfl ?_
              refine v_get rfl h31 rfl ?_
              refine v_istore rfl (Nat.le_of_ble_eq_true rfl) ?_
              refine v_iconst (v := 0) rfl (by decide) ?_
              refine v_istore rfl (Nat.le_of_ble_eq_true rfl) ?_
              refine v_iconst (v := 0) rfl (by decide) ?_
              refine v_istore rfl (Nat.le_of_ble_eq_true rfl) ?_
              have L36 : ∀ (n36 : Nat) (l32 : Int32) (l33 : Int32) (l34 : Int32) (l35 : Int32), 0 ≤ l35.toInt → l35.toInt ≤ 7 → (7 - l35.toInt).toNat < n36 → pm_V sc d 165 54 [.ref 59, .int l1, .int l12, .int l13, .int l32, .int l33, .int l34, .int l35] [] w27 (fun rv w' => pm_wI (fun v => True) rv ∧ pm_IM gi ga w' ∧ pm_lo w0 w') := by
                intro n36
                induction n36 with
                | zero => intro l32 l33 l34 l35 t38 t39 hm37; exact absurd hm37 (Nat.not_lt_zero _)
                | succ n36 ih54_36 =>
                  intro l32 l33 l34 l35 t38 t39 hm37
                  refine v_iload rfl rfl ?_
                  refine v_aload_n rfl rfl ?_
                  refine v_get rfl h31 rfl ?_
                  refine r_icmp_ge rfl (fun t40 => ?_) (fun t40 => ?_)
                  · refine v_iload_n rfl rfl ?_
                    refine r_if_lt rfl (fun t41 => ?_) (fun t41 => ?_)
                    · refine v_iload rfl rfl ?_
                      refine v_istore_n rfl (Nat.le_of_ble_eq_true rfl) ?_
                      refine v_iconst (v := 0) rfl (by decide) ?_
                      refine v_istore rfl (Nat.le_of_ble_eq_true rfl) ?_
                      have L47 : ∀ (n47 : Nat) (l42 : Int32) (w43 : pm_W), pm_IM gi ga w43 → pm_lo w0 w43 → w43[59]? = some (.inr (12, [.int (gi 0), .int (gi 1), .ref 60, .int (gi 2), .int c59_4, .int c59_5, .int c59_6, .ref 61, .ref 62, .ref 63, .int (gi 5), .int (gi 3), .int (gi 4), .int (gi 6), .int c59_14, .int (gi 7), .ref 64, .ref 65, .ref 66, .ref 67, .int (gi 8), .ref 68, .ref 69, .ref 70, .ref 71, .ref 72, .ref 73, .ref 74, .ref 75, .ref 76, .ref 77, .ref 78, .ref 79, .ref 80, .ref 81, .int c59_35, .ref 82, .ref 83, .ref 84, .int c59_39, .int c59_40, .ref 85, .int c59_42, .ref 86, .ref 87])) → 0 ≤ l42.toInt → l42.toInt ≤ 7 → (7 - l42.toInt).toNat < n47 → pm_V sc d 165 158 [.ref 59, .int l1, .int l34, .int l13, .int l32, .int l33, .int l34, .int l42] [] w43 (fun rv w' => pm_wI (fun v => True) rv ∧ pm_IM gi ga w' ∧ pm_lo w0 w') := by
                        intro n47
                        induction n47 with
                        | zero => intro l42 w43 hI44 hh45 h46 t49 t50 hm48; exact absurd hm48 (Nat.not_lt_zero _)
                        | succ n47 ih158_47 =>
                          intro l42 w43 hI44 hh45 h46 t49 t50 hm48
                          refine v_iload rfl rfl ?_
                          refine v_aload_n rfl rfl ?_
                          refine v_get rfl h46 rfl ?_
                          refine r_icmp_ge rfl (fun t51 => ?_) (fun t51 => ?_)
                          · refine r_iinc rfl rfl (by decide) (by omega) (by omega) (fun z52 z52e => ?_)
                            refine v_goto rfl ?_
                            exact ih26_22 l34 z52 (.int l32) (.int l33) (.int l34) (.int l42) w43 hI44 hh45 h46 (by omega) (by omega) (by omega)
                          · refine v_aload_n rfl rfl ?_
                            refine v_get rfl h46 rfl ?_
                            refine v_iload rfl rfl ?_
                            refine v_aload_n rfl rfl ?_
                            refine v_get rfl h46 rfl ?_
                            refine v_iload rfl rfl ?_
                            obtain ⟨xs54, xs54l, xs54r, h53⟩ := hI44.2.1 86 (by decide) (by decide)
                            refine r_iaload rfl h53 xs54l (by omega) (by omega) (fun z55 z55m z55g => ?_)
                            obtain ⟨z55a, z55b⟩ := xs54r z55 z55m
                            obtain ⟨xs57, xs57l, xs57r, h56⟩ := hI44.2.1 87 (by decide) (by decide)
                            refine r_iastore rfl h56 xs57l (by omega) (by omega) (fun ys58 ys58l ys58m ys58g => ?_)
                            have ys58r := r_rng ys58m xs57r (by omega) (by omega)
                            refine r_gen (w' := w43.set 87 (.inl (0, .inl ys58))) (fun w59 e60 => ?_)
                            have hI61 : pm_IM gi ga w59 := by rw [e60]; exact hI44.set 87 (by decide) (by decide) (by decide) (by decide) ⟨ys58, ys58l, ys58r, rfl⟩
                            have hh62 : pm_lo w0 w59 := by rw [e60]; exact hh45.set (by decide) _
                            have h63 := r_get_ne e60 (show 87 ≠ 59 by decide) h46
                            have h64 := r_get_ne e60 (show 87 ≠ 86 by decide) h53
                            have h65 := r_get_eq e60 h56
                            refine r_iinc rfl rfl (by decide) (by omega) (by omega) (fun z66 z66e => ?_)
                            refine v_goto rfl ?_
                            exact ih158_47 z66 w59 hI61 hh62 h63 (by omega) (by omega) (by omega)
                      exact L47 _ (0 : Int32) w27 hI29 hh30 h31 (by omega) (by omega) (Nat.lt_add_one _)
                    · refine v_iload rfl rfl ?_
                      refine v_iload_n rfl rfl ?_
                      refine r_icmp_ge rfl (fun t67 => ?_) (fun t67 => ?_)
                      · refine r_iinc rfl rfl (by decide) (by omega) (by omega) (fun z68 z68e => ?_)
                        refine v_goto rfl ?_
                        exact ih26_22 l12 z68 (.int l32) (.int l33) (.int l34) (.int l35) w27 hI29 hh30 h31 (by omega) (by omega) (by omega)
                      · refine v_iload rfl rfl ?_
                        refine v_istore_n rfl (Nat.le_of_ble_eq_true rfl) ?_
                        refine v_iconst (v := 0) rfl (by decide) ?_
                        refine v_istore rfl (Nat.le_of_ble_eq_true rfl) ?_
                        have L74 : ∀ (n74 : Nat) (l69 : Int32) (w70 : pm_W), pm_IM gi ga w70 → pm_lo w0 w70 → w70[59]? = some (.inr (12, [.int (gi 0), .int (gi 1), .ref 60, .int (gi 2), .int c59_4, .int c59_5, .int c59_6, .ref 61, .ref 62, .ref 63, .int (gi 5), .int (gi 3), .int (gi 4), .int (gi 6), .int c59_14, .int (gi 7), .ref 64, .ref 65, .ref 66, .ref 67, .int (gi 8), .ref 68, .ref 69, .ref 70, .ref 71, .ref 72, .ref 73, .ref 74, .ref 75, .ref 76, .ref 77, .ref 78, .ref 79, .ref 80, .ref 81, .int c59_35, .ref 82, .ref 83, .ref 84, .int c59_39, .int c59_40, .ref 85, .int c59_42, .ref 86, .ref 87])) → 0 ≤ l69.toInt → l69.toInt ≤ 7 → (7 - l69.toInt).toNat < n74 → pm_V sc d 165 158 [.ref 59, .int l1, .int l34, .int l13, .int l32, .int l33, .int l34, .int l69] [] w70 (fun rv w' => pm_wI (fun v => True) rv ∧ pm_IM gi ga w' ∧ pm_lo w0 w') := by
                          intro n74
                          induction n74 with
                          | zero => intro l69 w70 hI71 hh72 h73 t76 t77 hm75; exact absurd hm75 (Nat.not_lt_zero _)
                          | succ n74 ih158_74 =>
                            intro l69 w70 hI71 hh72 h73 t76 t77 hm75
                            refine v_iload rfl rfl ?_
                            refine v_aload_n rfl rfl ?_
                            refine v_get rfl h73 rfl ?_
                            refine r_icmp_ge rfl (fun t78 => ?_) (fun t78 => ?_)
                            · refine r_iinc rfl rfl (by decide) (by omega) (by omega) (fun z79 z79e => ?_)
                              refine v_goto rfl ?_
                              exact ih26_22 l34 z79 (.int l32) (.int l33) (.int l34) (.int l69) w70 hI71 hh72 h73 (by omega) (by omega) (by omega)
                            · refine v_aload_n rfl rfl ?_
                              refine v_get rfl h73 rfl ?_
                              refine v_iload rfl rfl ?_
                              refine v_aload_n rfl rfl ?_
                              refine v_get rfl h73 rfl ?_
                              refine v_iload rfl rfl ?_
                              obtain ⟨xs81, xs81l, xs81r, h80⟩ := hI71.2.1 86 (by decide) (by decide)
                              refine r_iaload rfl h80 xs81l (by omega) (by omega) (fun z82 z82m z82g => ?_)
                              obtain ⟨z82a, z82b⟩ := xs81r z82 z82m
                              obtain ⟨xs84, xs84l, xs84r, h83⟩ := hI71.2.1 87 (by decide) (by decide)
                              refine r_iastore rfl h83 xs84l (by omega) (by omega) (fun ys85 ys85l ys85m ys85g => ?_)
                              have ys85r := r_rng ys85m xs84r (by omega) (by omega)
                              refine r_gen (w' := w70.set 87 (.inl (0, .inl ys85))) (fun w86 e87 => ?_)
                              have hI88 : pm_IM gi ga w86 := by rw [e87]; exact hI71.set 87 (by decide) (by decide) (by decide) (by decide) ⟨ys85, ys85l, ys85r, rfl⟩
                              have hh89 : pm_lo w0 w86 := by rw [e87]; exact hh72.set (by decide) _
                              have h90 := r_get_ne e87 (show 87 ≠ 59 by decide) h73
                              have h91 := r_get_ne e87 (show 87 ≠ 86 by decide) h80
                              have h92 := r_get_eq e87 h83
                              refine r_iinc rfl rfl (by decide) (by omega) (by omega) (fun z93 z93e => ?_)
                              refine v_goto rfl ?_
                              exact ih158_74 z93 w86 hI88 hh89 h90 (by omega) (by omega) (by omega)
                        exact L74 _ (0 : Int32) w27 hI29 hh30 h31 (by omega) (by omega) (Nat.lt_add_one _)
                  · refine v_iload rfl rfl ?_
                    refine v_aload_n rfl rfl ?_
                    refine v_aload_n rfl rfl ?_
                    refine v_get rfl h31 rfl ?_
                    refine v_iload rfl rfl ?_
                    obtain ⟨xs95, xs95l, xs95r, h94⟩ := hI29.2.1 86 (by decide) (by decide)
                    refine r_iaload rfl h94 xs95l (by omega) (by omega) (fun z96 z96m z96g => ?_)
                    obtain ⟨z96a, z96b⟩ := xs95r z96 z96m
                    refine v_iload rfl rfl ?_
                    refine v_callV rfl (W_X12_daysOf_59 z96 l33 (by omega) (by omega) hR hI29) rfl rfl h31 rfl rfl (by omega) (fun rv w97 hq98 => ?_)
                    obtain ⟨⟨z99, rfl, -⟩, rfl⟩ := hq98
                    refine u_iadd rfl (fun z100 => ?_)
                    refine v_istore rfl (Nat.le_of_ble_eq_true rfl) ?_
                    refine v_aload_n rfl rfl ?_
                    refine v_get rfl h31 rfl ?_
                    refine v_aload_n rfl rfl ?_
                    refine v_get rfl h31 rfl ?_
                    refine v_iload rfl rfl ?_
                    refine r_iaload rfl h94 xs95l (by omega) (by omega) (fun z101 z101m z101g => ?_)
                    obtain ⟨z101a, z101b⟩ := xs95r z101 z101m
                    have h102 : _ = some _ := hI29.2.1 65 (by decide) (by decide)
                    refine r_iaload rfl h102 hR.l1 (by omega) (by omega) (fun z103 z103m z103g => ?_)
                    obtain ⟨z103a, z103b⟩ := hR.r1 z103 z103m
                    refine v_istore rfl (Nat.le_of_ble_eq_true rfl) ?_
                    refine v_iload rfl rfl ?_
                    refine v_iload rfl rfl ?_
                    refine v_aload_n rfl rfl ?_
                    refine v_get rfl h31 rfl ?_
                    refine v_aload_n rfl rfl ?_
                    refine v_get rfl h31 rfl ?_
                    refine v_iload rfl rfl ?_
                    refine r_iaload rfl h94 xs95l (by omega) (by omega) (fun z104 z104m z104g => ?_)
                    obtain ⟨z104a, z104b⟩ := xs95r z104 z104m
                    have h105 : _ = some _ := hI29.2.1 66 (by decide) (by decide)
                    refine r_iaload rfl h105 hR.l2 (by omega) (by omega) (fun z106 z106m z106g => ?_)
                    obtain ⟨z106a, z106b⟩ := hR.r2 z106 z106m
                    refine r_icmp_le rfl (fun t107 => ?_) (fun t107 => ?_)
                    · refine v_iconst (v := 0) rfl (by decide) ?_
                      refine u_iadd rfl (fun z108 => ?_)
                      refine v_istore rfl (Nat.le_of_ble_eq_true rfl) ?_
                      refine r_iinc rfl rfl (by decide) (by omega) (by omega) (fun z109 z109e => ?_)
                      refine v_goto rfl ?_
                      exact ih54_36 z100 z103 z108 z109 (by omega) (by omega) (by omega)
                    · refine v_iload rfl rfl ?_
                      refine v_aload_n rfl rfl ?_
                      refine v_get rfl h31 rfl ?_
                      refine v_aload_n rfl rfl ?_
                      refine v_get rfl h31 rfl ?_
                      refine v_iload rfl rfl ?_
                      refine r_iaload rfl h94 xs95l (by omega) (by omega) (fun z110 z110m z110g => ?_)
                      obtain ⟨z110a, z110b⟩ := xs95r z110 z110m
                      refine r_iaload rfl h105 hR.l2 (by omega) (by omega) (fun z111 z111m z111g => ?_)
                      obtain ⟨z111a, z111b⟩ := hR.r2 z111 z111m
                      refine u_isub rfl (fun z112 => ?_)
                      refine v_goto rfl ?_
                      refine u_iadd rfl (fun z113 => ?_)
                      refine v_istore rfl (Nat.le_of_ble_eq_true rfl) ?_
                      refine r_iinc rfl rfl (by decide) (by omega) (by omega) (fun z114 z114e => ?_)
                      refine v_goto rfl ?_
                      exact ih54_36 z100 z103 z113 z114 (by omega) (by omega) (by omega)
              exact L36 _ (gi 5) (gi 6) (0 : Int32) (0 : Int32) (by omega) (by omega) (Nat.lt_add_one _)
        exact L22 _ (-1 : Int32) (0 : Int32) (.null) (.null) (.null) (.null) w hI hh hc59 (by omega) (by omega) (Nat.lt_add_one _)
      · refine v_iload_n rfl rfl ?_
        refine v_iload_n rfl rfl ?_
        refine r_facmul rfl (t10) (by omega) (by omega) (fun z115 z115f => ?_)
        have z115r := z115f.rng
        refine v_istore_n rfl (Nat.le_of_ble_eq_true rfl) ?_
        refine r_iinc rfl rfl (by decide) (by omega) (by omega) (fun z116 z116e => ?_)
        refine v_goto rfl ?_
        exact ih4_3 z115 z116 (by omega) (by omega) (by omega) (by omega) (by omega) (by rw [show z116.toInt - 1 = l2.toInt by omega]; exact z115f) (by omega)
  exact L3 _ (1 : Int32) (2 : Int32) (by omega) (by omega) (by omega) (by omega) (by omega) (by unfold pm_fac; omega) (Nat.lt_add_one _)
set_option maxRecDepth 100000 in
theorem W_X12_best_59 {sc : pm_S} {w w0 : pm_W} {gi : Nat → Int32} {ga : Nat → List Int32}   (hR : pm_Rg gi ga) (hI : pm_IM gi ga w) (hh : pm_lo w0 w) : pm_Mt sc 2 166 1 [.ref 59] w (fun rv w' => pm_wI (fun v => True) rv ∧ pm_IM gi ga w' ∧ pm_lo w0 w') := by
  intro d hd
  obtain ⟨g0a, g0b⟩ := hR.n0
  obtain ⟨g1a, g1b⟩ := hR.n1
  obtain ⟨g2a, g2b⟩ := hR.n2
  obtain ⟨g3a, g3b⟩ := hR.n3
  obtain ⟨g4a, g4b⟩ := hR.n4
  obtain ⟨g5a, g5b⟩ := hR.n5
  obtain ⟨g6a, g6b⟩ := hR.n6
  obtain ⟨g7a, g7b⟩ := hR.n7
  obtain ⟨g8a, g8b⟩ := hR.n8
  have km3 : (-3 : Int32).toInt = -3 := by decide
  show pm_V sc d 166 0 [.ref 59] [] w _
  refine v_aload_n rfl rfl ?_
  obtain ⟨v2, v3, v4, v5, v6, v7, v8, v9, ⟨v2z, v2e⟩, ⟨⟨v3a, v3b⟩, v3e⟩, ⟨⟨v4a, v4b⟩, v4e⟩, ⟨v6a, v6b⟩, ⟨v9a, v9b⟩, h1⟩ := hI.2.1 59 (by decide) (by decide)
  have v2z := v2z.imp i_eq.mp i_eq.mp
  rw [i_0, i_1] at v2z
  refine v_callV rfl (W_X12_ask_59  hR hI hh) rfl rfl h1 rfl rfl (by omega) (fun rv w10 hq11 => ?_)
  obtain ⟨⟨z12, rfl, z12p0, z12p1⟩, hI13, hh14, ⟨a15, a16, a17, a18, a19, a20, a21, a22, h23, t24, t25, t26, t27, t28, t29, t30, t31, t32, t33, q34⟩⟩ := hq11
  have q34u := q34 z12 rfl
  refine r_if_eq rfl (fun t35 => ?_) (fun t35 => ?_)
  · refine v_aload_n rfl rfl ?_
    refine v_bipush (v := (-3)) rfl (by decide) ?_
    refine v_callV rfl (c_M_refuse (-3 : Int32) (by unfold pm_isR; first | decide | exact Or.inl rfl) hR hI13) rfl rfl h23 rfl rfl (by omega) (fun rv w36 hq37 => ?_)
    obtain ⟨rfl, hI38, hh39x⟩ := hq37
    have hI38 : pm_IM gi ga w36 := hI38
    have hh39 := hh14.tr hh39x
    exact v_iret rfl ⟨⟨_, rfl, trivial⟩, hI38, hh39⟩
  · refine v_aload_n rfl rfl ?_
    refine v_callV rfl (W_X12_findBest_59 a15 a16 a17 a18 a19 a20 a21 a22 (by omega) (by omega) (by omega) (by omega) (by omega) (by omega) (by omega) (by omega) (by omega) (by omega) (by omega) h23 hR hI13 hh14) rfl rfl h23 rfl rfl (by omega) (fun rv w40 hq41 => ?_)
    obtain ⟨⟨z42, rfl, -⟩, hI43, hh44⟩ := hq41
    refine v_goto rfl ?_
    exact v_iret rfl ⟨⟨_, rfl, trivial⟩, hI43, hh44⟩
set_option maxRecDepth 100000 in
theorem W_X12_bestAt_59 {sc : pm_S} {w w0 : pm_W} {gi : Nat → Int32} {ga : Nat → List Int32} (i : Int32)  (hR : pm_Rg gi ga) (hI : pm_IM gi ga w) (hh : pm_lo w0 w) : pm_Mt sc 2 167 3 [.ref 59, .int i] w (fun rv w' => pm_wI (fun v => True) rv ∧ pm_IM gi ga w' ∧ pm_lo w0 w') := by
  intro d hd
  obtain ⟨g0a, g0b⟩ := hR.n0
  obtain ⟨g1a, g1b⟩ := hR.n1
  obtain ⟨g2a, g2b⟩ := hR.n2
  obtain ⟨g3a, g3b⟩ := hR.n3
  obtain ⟨g4a, g4b⟩ := hR.n4
  obtain ⟨g5a, g5b⟩ := hR.n5
  obtain ⟨g6a, g6b⟩ := hR.n6
  obtain ⟨g7a, g7b⟩ := hR.n7
  obtain ⟨g8a, g8b⟩ := hR.n8
  have km9 : (-9 : Int32).toInt = -9 := by decide
  have km3 : (-3 : Int32).toInt = -3 := by decide
  have k0 : (0 : Int32).toInt = 0 := by decide
  have k1 : (1 : Int32).toInt = 1 := by decide
  show pm_V sc d 167 0 [.ref 59, .int i, .null] [] w _
  refine v_aload_n rfl rfl ?_
  obtain ⟨v2, v3, v4, v5, v6, v7, v8, v9, ⟨v2z, v2e⟩, ⟨⟨v3a, v3b⟩, v3e⟩, ⟨⟨v4a, v4b⟩, v4e⟩, ⟨v6a, v6b⟩, ⟨v9a, v9b⟩, h1⟩ := hI.2.1 59 (by decide) (by decide)
  have v2z := v2z.imp i_eq.mp i_eq.mp
  rw [i_0, i_1] at v2z
  refine v_callV rfl (W_X12_ask_59  hR hI hh) rfl rfl h1 rfl rfl (by omega) (fun rv w10 hq11 => ?_)
  obtain ⟨⟨z12, rfl, z12p0, z12p1⟩, hI13, hh14, ⟨a15, a16, a17, a18, a19, a20, a21, a22, h23, t24, t25, t26, t27, t28, t29, t30, t31, t32, t33, q34⟩⟩ := hq11
  have q34u := q34 z12 rfl
  refine r_if_ne rfl (fun t35 => ?_) (fun t35 => ?_)
  · refine v_iload_n rfl rfl ?_
    refine v_iconst (v := 0) rfl (by decide) ?_
    refine v_aload_n rfl rfl ?_
    refine v_get rfl h23 rfl ?_
    refine v_iconst (v := 1) rfl (by decide) ?_
    refine r_isub rfl (by omega) (by omega) (fun z36 z36e => ?_)
    refine v_callS rfl (W_X12_in i (0 : Int32) z36 hR hI13) rfl rfl rfl rfl rfl (by omega) (fun rv w37 hq38 => ?_)
    obtain ⟨⟨z39, rfl, z39p0⟩, rfl⟩ := hq38
    refine r_if_ne rfl (fun t40 => ?_) (fun t40 => ?_)
    · refine v_aload_n rfl rfl ?_
      refine v_callV rfl (W_X12_findBest_59 a15 a16 a17 a18 a19 a20 a21 a22 (by omega) (by omega) (by omega) (by omega) (by omega) (by omega) (by omega) (by omega) (by omega) (by omega) (by omega) h23 hR hI13 hh14) rfl rfl h23 rfl rfl (by omega) (fun rv w41 hq42 => ?_)
      obtain ⟨⟨z43, rfl, -⟩, hI44, hh45⟩ := hq42
      refine v_istore_n rfl (Nat.le_of_ble_eq_true rfl) ?_
      refine v_aload_n rfl rfl ?_
      obtain ⟨v47, v48, v49, v50, v51, v52, v53, v54, ⟨v47z, v47e⟩, ⟨⟨v48a, v48b⟩, v48e⟩, ⟨⟨v49a, v49b⟩, v49e⟩, ⟨v51a, v51b⟩, ⟨v54a, v54b⟩, h46⟩ := hI44.2.1 59 (by decide) (by decide)
      have v47z := v47z.imp i_eq.mp i_eq.mp
      rw [i_0, i_1] at v47z
      refine v_get rfl h46 rfl ?_
      refine v_iload_n rfl rfl ?_
      obtain ⟨xs56, xs56l, xs56r, h55⟩ := hI44.2.1 87 (by decide) (by decide)
      refine r_iaload rfl h55 xs56l (by omega) (by omega) (fun z57 z57m z57g => ?_)
      obtain ⟨z57a, z57b⟩ := xs56r z57 z57m
      exact v_iret rfl ⟨⟨_, rfl, trivial⟩, hI44, hh45⟩
    · refine v_bipush (v := (-9)) rfl (by decide) ?_
      exact v_iret rfl ⟨⟨_, rfl, trivial⟩, hI13, hh14⟩
  · refine v_aload_n rfl rfl ?_
    refine v_bipush (v := (-3)) rfl (by decide) ?_
    refine v_callV rfl (c_M_refuse (-3 : Int32) (by unfold pm_isR; first | decide | exact Or.inl rfl) hR hI13) rfl rfl h23 rfl rfl (by omega) (fun rv w58 hq59 => ?_)
    obtain ⟨rfl, hI60, hh61x⟩ := hq59
    have hI60 : pm_IM gi ga w58 := hI60
    have hh61 := hh14.tr hh61x
    exact v_iret rfl ⟨⟨_, rfl, trivial⟩, hI60, hh61⟩

