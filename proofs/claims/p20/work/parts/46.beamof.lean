def pm_WM (w : pm_W) (gi : Nat → Int32) (ga : Nat → List Int32) (rv : Option Value) (w' : pm_W) : Prop := (∃ v, rv = some (.int v)) ∧ pm_IM gi ga w' ∧ pm_lo w w'
set_option maxRecDepth 100000 in
theorem l_M_beamOf {sc : pm_S} {w : pm_W} {gi : Nat → Int32} {ga : Nat → List Int32} {j : Nat} {k : Int32} (hj : j < 4) (hI : pm_IM gi ga w) (d m : Nat) : ∀ (i : Nat) (c : Int32), i + m = 400 → pm_V sc d 181 112 [.ref 59, .int (nI j), .int k, .int c, .int (nI i)] [] w (pm_WM w gi ga) := by
  have hh : pm_lo w w := pm_lo.rf
  obtain ⟨v4, v5, v6, v14, v35, v39, v40, v42, c4, c5, c6, c35, c42, h59⟩ := hI.2.1 59 (by decide) (by decide)
  obtain ⟨l60, r60, h60⟩ := hI.2.1 60 (by decide) (by decide)
  obtain ⟨l78, r78, h78⟩ := hI.2.1 78 (by decide) (by decide)
  induction m with
  | zero =>
    intro i c hi
    refine v_iload rfl rfl ?_
    refine v_sipush (v := 400) rfl (by decide) ?_
    refine v_icmp_ge rfl (fun _ => ?_) (fun h => absurd (show (400 : Int32) ≤ nI i from nI_le (a := 400) (by omega) (by omega)) h)
    refine v_iload_n rfl rfl ?_
    exact v_iret rfl ⟨⟨_, rfl⟩, hI, hh⟩
  | succ m ih =>
    intro i c hi
    refine v_iload rfl rfl ?_
    refine v_sipush (v := 400) rfl (by decide) ?_
    refine v_icmp_ge rfl (fun h => absurd h (show ¬ (400 : Int32) ≤ nI i from nI_ge (b := 400) (by omega) (by omega))) (fun _ => ?_)
    refine v_iload_n rfl rfl ?_
    refine v_aload_n rfl rfl ?_
    refine v_get rfl h59 rfl ?_
    refine v_sipush (v := 400) rfl (by decide) ?_
    refine v_iload_n rfl rfl ?_
    refine v_imul rfl ?_
    refine v_iload rfl rfl ?_
    refine v_iadd rfl ?_
    rw [pm_400 hj, nI_add]
    refine v_iaload rfl h78 (nI_pos (by omega)) (pm_gD (d := 0) (by rw [nI_clamp (by omega), l78]; omega)) ?_
    refine v_aload_n rfl rfl ?_
    refine v_get rfl h59 rfl ?_
    refine v_iload rfl rfl ?_
    refine v_iaload rfl h60 (nI_pos (by omega)) (pm_gD (d := 0) (by rw [nI_clamp (by omega), l60]; omega)) ?_
    refine v_icmp_ne rfl (fun t141 => ?_) (fun t141 => ?_)
    · refine v_iconst (v := 1) rfl (by decide) ?_
      refine v_iadd rfl ?_
      refine v_istore_n rfl (Nat.le_of_ble_eq_true rfl) ?_
      refine v_iinc (v := nI (i + 1)) rfl rfl (i_inc i) ?_
      refine v_goto rfl ?_
      exact ih (i + 1) _ (by omega)
    · refine v_iconst (v := 0) rfl (by decide) ?_
      refine v_goto rfl ?_
      refine v_iadd rfl ?_
      refine v_istore_n rfl (Nat.le_of_ble_eq_true rfl) ?_
      refine v_iinc (v := nI (i + 1)) rfl rfl (i_inc i) ?_
      refine v_goto rfl ?_
      exact ih (i + 1) _ (by omega)
set_option maxRecDepth 100000 in
theorem c_M_beamOf {sc : pm_S} {w : pm_W} {gi : Nat → Int32} {ga : Nat → List Int32} (b k : Int32) (hR : pm_Rg gi ga) (hI : pm_IM gi ga w) : pm_Mt sc 2 181 5 [.ref 59, .int b, .int k] w (pm_WM w gi ga) := by
  intro d hd
  show pm_V sc d 181 0 _ [] w _
  have hh : pm_lo w w := pm_lo.rf
  have q7 := hR.l7
  have q8 := hR.l8
  obtain ⟨v4, v5, v6, v14, v35, v39, v40, v42, c4, c5, c6, c35, c42, h59⟩ := hI.2.1 59 (by decide) (by decide)
  have h74 : _ = some _ := hI.2.1 74 (by decide) (by decide)
  have h75 : _ = some _ := hI.2.1 75 (by decide) (by decide)
  obtain ⟨xs76, l76, b76, h76⟩ := hI.2.1 76 (by decide) (by decide)
  obtain ⟨xs77, l77, b77, h77⟩ := hI.2.1 77 (by decide) (by decide)
  refine v_iload_n rfl rfl ?_
  refine v_callS rfl (c_isBeam b) rfl rfl rfl rfl rfl (by omega) (fun rv w1 hq => ?_)
  obtain ⟨rfl, rfl⟩ := hq
  by_cases ha : 0 ≤ b.toInt ∧ b.toInt < 4
  · rw [pm_b_1 ha]
    refine v_if_ne rfl (fun _ => ?_) (fun h => absurd h (by decide))
    refine v_iload_n rfl rfl ?_
    refine v_iconst (v := 0) rfl (by decide) ?_
    refine v_iconst (v := 2) rfl (by decide) ?_
    refine v_callS rfl (c_in k 0 2 w) rfl rfl rfl rfl rfl (by omega) (fun rv w1 hq => ?_)
    obtain ⟨rfl, rfl⟩ := hq
    by_cases hk : (0 : Int32).toInt ≤ k.toInt ∧ k.toInt ≤ (2 : Int32).toInt
    · rw [pm_b_1 hk]
      refine v_if_ne rfl (fun _ => ?_) (fun h => absurd h (by decide))
      refine v_iload_n rfl rfl ?_
      refine v_iconst (v := 2) rfl (by decide) ?_
      refine v_icmp_ge rfl (fun t31 => ?_) (fun t31 => ?_)
      · refine v_aload_n rfl rfl ?_
        refine v_get rfl h59 rfl ?_
        refine v_iload_n rfl rfl ?_
        refine v_iaload rfl h74 (by rw [i_lt, i_0]; omega) (pm_gD (d := 0) (by rw [i_cl, q7]; omega)) ?_
        refine v_iconst (v := 2) rfl (by decide) ?_
        refine v_icmp_ne rfl (fun t75 => ?_) (fun t75 => ?_)
        · refine v_bipush (v := (-9)) rfl (by decide) ?_
          exact v_iret rfl ⟨⟨_, rfl⟩, hI, hh⟩
        · refine v_aload_n rfl rfl ?_
          refine v_get rfl h59 rfl ?_
          refine v_iload_n rfl rfl ?_
          refine v_iaload rfl h76 (by rw [i_lt, i_0]; omega) (pm_gD (d := 0) (by rw [i_cl, l76]; omega)) ?_
          refine v_aload_n rfl rfl ?_
          refine v_get rfl h59 rfl ?_
          refine v_icmp_ne rfl (fun t88 => ?_) (fun t88 => ?_)
          · refine v_bipush (v := (-9)) rfl (by decide) ?_
            exact v_iret rfl ⟨⟨_, rfl⟩, hI, hh⟩
          · refine v_aload_n rfl rfl ?_
            refine v_get rfl h59 rfl ?_
            refine v_iload_n rfl rfl ?_
            refine v_iaload rfl h77 (by rw [i_lt, i_0]; omega) (pm_gD (d := 0) (by rw [i_cl, l77]; omega)) ?_
            refine v_aload_n rfl rfl ?_
            refine v_get rfl h59 rfl ?_
            refine v_icmp_eq rfl (fun t101 => ?_) (fun t101 => ?_)
            · refine v_iconst (v := 0) rfl (by decide) ?_
              refine v_istore_n rfl (Nat.le_of_ble_eq_true rfl) ?_
              refine v_iconst (v := 0) rfl (by decide) ?_
              refine v_istore rfl (Nat.le_of_ble_eq_true rfl) ?_
              have z := l_M_beamOf (sc := sc) (k := k) (j := b.toInt.toNat) (by omega) hI d 400 0 0 (by omega)
              rw [← show b = nI b.toInt.toNat from i_nI ha.1] at z
              exact z
            · refine v_bipush (v := (-9)) rfl (by decide) ?_
              exact v_iret rfl ⟨⟨_, rfl⟩, hI, hh⟩
      · refine v_iload_n rfl rfl ?_
        refine v_if_ne rfl (fun t35 => ?_) (fun t35 => ?_)
        · refine v_aload_n rfl rfl ?_
          refine v_get rfl h59 rfl ?_
          refine v_iload_n rfl rfl ?_
          refine v_iaload rfl h74 (by rw [i_lt, i_0]; omega) (pm_gD (d := 0) (by rw [i_cl, q7]; omega)) ?_
          refine v_iconst (v := 1) rfl (by decide) ?_
          refine v_icmp_ne rfl (fun t54 => ?_) (fun t54 => ?_)
          · refine v_iconst (v := 0) rfl (by decide) ?_
            exact v_iret rfl ⟨⟨_, rfl⟩, hI, hh⟩
          · refine v_aload_n rfl rfl ?_
            refine v_get rfl h59 rfl ?_
            refine v_iload_n rfl rfl ?_
            refine v_iaload rfl h75 (by rw [i_lt, i_0]; omega) (pm_gD (d := 0) (by rw [i_cl, q8]; omega)) ?_
            refine v_goto rfl ?_
            exact v_iret rfl ⟨⟨_, rfl⟩, hI, hh⟩
        · refine v_aload_n rfl rfl ?_
          refine v_get rfl h59 rfl ?_
          refine v_iload_n rfl rfl ?_
          refine v_iaload rfl h74 (by rw [i_lt, i_0]; omega) (pm_gD (d := 0) (by rw [i_cl, q7]; omega)) ?_
          refine v_goto rfl ?_
          exact v_iret rfl ⟨⟨_, rfl⟩, hI, hh⟩
    · rw [pm_b_0 hk]
      refine v_if_ne rfl (fun h => absurd h (by decide)) (fun _ => ?_)
      refine v_aload_n rfl rfl ?_
      refine v_bipush (v := (-2)) rfl (by decide) ?_
      refine v_callV rfl (c_M_refuse (-2) (by unfold pm_isR; decide) hR hI) rfl rfl h59 rfl rfl (by omega) (fun rv w1 hq => ?_)
      obtain ⟨rfl, g1, g2⟩ := hq
      exact v_iret rfl ⟨⟨_, rfl⟩, g1, hh.tr g2⟩
  · rw [pm_b_0 ha]
    refine v_if_ne rfl (fun h => absurd h (by decide)) (fun _ => ?_)
    refine v_aload_n rfl rfl ?_
    refine v_iconst (v := (-1)) rfl (by decide) ?_
    refine v_callV rfl (c_M_refuse (-1) (by unfold pm_isR; decide) hR hI) rfl rfl h59 rfl rfl (by omega) (fun rv w1 hq => ?_)
    obtain ⟨rfl, g1, g2⟩ := hq
    exact v_iret rfl ⟨⟨_, rfl⟩, g1, hh.tr g2⟩

