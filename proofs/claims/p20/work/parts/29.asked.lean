noncomputable def sp_account (gi : Nat → Int32) (ga : Nat → List Int32) (a k : Int32) : pm_G := if ¬ (0 ≤ a.toInt ∧ a.toInt < 6) then (2000000001, gi, ga) else if k = 0 then ((ga 9).getD a.toNatClampNeg 0, gi, ga) else if k = 1 then ((ga 10).getD a.toNatClampNeg 0, gi, ga) else if k = 2 then ((ga 11).getD a.toNatClampNeg 0, gi, ga) else if k = 3 then ((ga 9).getD a.toNatClampNeg 0 - (ga 10).getD a.toNatClampNeg 0 - (ga 11).getD a.toNatClampNeg 0, gi, ga) else (2000000002, gi, ga)
set_option maxRecDepth 100000 in
theorem c_X0_owed {sc : pm_S} {w : pm_W} {gi : Nat → Int32} {ga : Nat → List Int32} (a : Int32) (h0 : 0 ≤ a.toInt) (h6 : a.toInt < 6) (hR : pm_Rg gi ga) (hI : pm_IX gi ga w) : pm_Mt sc 0 2 2 [.ref 41, .int a] w (fun rv w' => w = w' ∧ rv = some (.int ((ga 9).getD a.toNatClampNeg 0 - (ga 10).getD a.toNatClampNeg 0 - (ga 11).getD a.toNatClampNeg 0))) := by
  intro d hd
  show pm_V sc d 2 0 _ [] w _
  have q9 := hR.l9
  have q10 := hR.l10
  have q11 := hR.l11
  have h41 : _ = some _ := hI.2 41 (by decide)
  have h42 : _ = some _ := hI.2 42 (by decide)
  have h43 : _ = some _ := hI.2 43 (by decide)
  have h44 : _ = some _ := hI.2 44 (by decide)
  refine v_aload_n rfl rfl ?_
  refine v_get rfl h41 rfl ?_
  refine v_iload_n rfl rfl ?_
  refine v_iaload rfl h42 (by rw [i_lt, i_0]; omega) (pm_gD (d := 0) (by rw [i_cl, q9]; omega)) ?_
  refine v_aload_n rfl rfl ?_
  refine v_get rfl h41 rfl ?_
  refine v_iload_n rfl rfl ?_
  refine v_iaload rfl h43 (by rw [i_lt, i_0]; omega) (pm_gD (d := 0) (by rw [i_cl, q10]; omega)) ?_
  refine v_isub rfl ?_
  refine v_aload_n rfl rfl ?_
  refine v_get rfl h41 rfl ?_
  refine v_iload_n rfl rfl ?_
  refine v_iaload rfl h44 (by rw [i_lt, i_0]; omega) (pm_gD (d := 0) (by rw [i_cl, q11]; omega)) ?_
  refine v_isub rfl ?_
  exact v_iret rfl ⟨rfl, rfl⟩
set_option maxRecDepth 100000 in
theorem c_X_account {sc : pm_S} {w : pm_W} {gi : Nat → Int32} {ga : Nat → List Int32} (a k : Int32) (hR : pm_Rg gi ga) (hI : pm_IX gi ga w) : pm_Mt sc 2 99 3 [.ref 0, .int a, .int k] w (pm_PX w (sp_account gi ga a k)) := by
  intro d hd
  show pm_V sc d 99 0 _ [] w _
  have hh : pm_hi w w := pm_hi.rf
  have q9 := hR.l9
  have q10 := hR.l10
  have q11 := hR.l11
  obtain ⟨v6, c6, h0⟩ := hI.2 0 (by decide)
  have h41 : _ = some _ := hI.2 41 (by decide)
  have h42 : _ = some _ := hI.2 42 (by decide)
  have h43 : _ = some _ := hI.2 43 (by decide)
  have h44 : _ = some _ := hI.2 44 (by decide)
  refine v_iload_n rfl rfl ?_
  refine v_bipush (v := 6) rfl (by decide) ?_
  refine v_callS rfl (c_isPlace a 6 w) rfl rfl rfl rfl rfl (by omega) (fun rv w1 hq => ?_)
  obtain ⟨rfl, rfl⟩ := hq
  by_cases ha : 0 ≤ a.toInt ∧ a.toInt < 6
  · rw [pm_b_1 (show 0 ≤ a.toInt ∧ a.toInt < (6 : Int32).toInt from ha)]
    refine v_if_ne rfl (fun _ => ?_) (fun h => absurd h (by decide))
    refine v_iload_n rfl rfl ?_
    by_cases s0 : k = 0
    · subst s0
      refine v_tabIn (t := 52) rfl (by decide) (by decide) rfl rfl ?_
      refine v_aload_n rfl rfl ?_
      refine v_get rfl h0 rfl ?_
      refine v_get rfl h41 rfl ?_
      refine v_iload_n rfl rfl ?_
      refine v_iaload rfl h42 (by rw [i_lt, i_0]; omega) (pm_gD (d := 0) (by rw [i_cl, q9]; omega)) ?_
      exact v_iret rfl (by show pm_PX _ _ _ _; unfold sp_account; rw [if_neg (fun h => h ha), if_pos rfl]; exact ⟨rfl, hI, hh⟩)
    by_cases s1 : k = 1
    · subst s1
      refine v_tabIn (t := 62) rfl (by decide) (by decide) rfl rfl ?_
      refine v_aload_n rfl rfl ?_
      refine v_get rfl h0 rfl ?_
      refine v_get rfl h41 rfl ?_
      refine v_iload_n rfl rfl ?_
      refine v_iaload rfl h43 (by rw [i_lt, i_0]; omega) (pm_gD (d := 0) (by rw [i_cl, q10]; omega)) ?_
      exact v_iret rfl (by show pm_PX _ _ _ _; unfold sp_account; rw [if_neg (fun h => h ha), if_neg (by decide), if_pos rfl]; exact ⟨rfl, hI, hh⟩)
    by_cases s2 : k = 2
    · subst s2
      refine v_tabIn (t := 72) rfl (by decide) (by decide) rfl rfl ?_
      refine v_aload_n rfl rfl ?_
      refine v_get rfl h0 rfl ?_
      refine v_get rfl h41 rfl ?_
      refine v_iload_n rfl rfl ?_
      refine v_iaload rfl h44 (by rw [i_lt, i_0]; omega) (pm_gD (d := 0) (by rw [i_cl, q11]; omega)) ?_
      exact v_iret rfl (by show pm_PX _ _ _ _; unfold sp_account; rw [if_neg (fun h => h ha), if_neg (by decide), if_neg (by decide), if_pos rfl]; exact ⟨rfl, hI, hh⟩)
    by_cases s3 : k = 3
    · subst s3
      refine v_tabIn (t := 82) rfl (by decide) (by decide) rfl rfl ?_
      refine v_aload_n rfl rfl ?_
      refine v_get rfl h0 rfl ?_
      refine v_iload_n rfl rfl ?_
      refine v_callV rfl (c_X0_owed a ha.1 ha.2 hR hI) rfl rfl h41 rfl rfl (by omega) (fun rv w1 hq => ?_)
      obtain ⟨rfl, rfl⟩ := hq
      exact v_iret rfl (by show pm_PX _ _ _ _; unfold sp_account; rw [if_neg (fun h => h ha), if_neg (by decide), if_neg (by decide), if_neg (by decide), if_pos rfl]; exact ⟨rfl, hI, hh⟩)
    refine v_tabOut (t := 91) rfl (by simp only [i_eq, i_0, i_1, i_2, i_3] at *; omega) rfl ?_
    refine v_ldc_w (v := 2000000000) rfl (by decide) ?_
    refine v_aload_n rfl rfl ?_
    refine v_bipush (v := (-2)) rfl (by decide) ?_
    refine v_callV rfl (c_X_refuse (-2) (by unfold pm_isR; decide) hR hI) rfl rfl h0 rfl rfl (by omega) (fun rv w1 hq => ?_)
    obtain ⟨rfl, g1, g2⟩ := hq
    refine v_isub rfl ?_
    refine v_eqi (y := 2000000002) (by decide) ?_
    exact v_iret rfl (by show pm_PX _ _ _ _; unfold sp_account; rw [if_neg (fun h => h ha), if_neg s0, if_neg s1, if_neg s2, if_neg s3]; exact ⟨rfl, g1, hh.tr g2⟩)
  · rw [pm_b_0 (show ¬ (0 ≤ a.toInt ∧ a.toInt < (6 : Int32).toInt) from ha)]
    refine v_if_ne rfl (fun h => absurd h (by decide)) (fun _ => ?_)
    refine v_ldc_w (v := 2000000000) rfl (by decide) ?_
    refine v_aload_n rfl rfl ?_
    refine v_iconst (v := (-1)) rfl (by decide) ?_
    refine v_callV rfl (c_X_refuse (-1) (by unfold pm_isR; decide) hR hI) rfl rfl h0 rfl rfl (by omega) (fun rv w1 hq => ?_)
    obtain ⟨rfl, g1, g2⟩ := hq
    refine v_isub rfl ?_
    refine v_eqi (y := 2000000001) (by decide) ?_
    exact v_iret rfl (by show pm_PX _ _ _ _; unfold sp_account; rw [if_pos ha]; exact ⟨rfl, g1, hh.tr g2⟩)
set_option maxRecDepth 100000 in
theorem c_M_account {sc : pm_S} {w : pm_W} {gi : Nat → Int32} {ga : Nat → List Int32} (a k : Int32) (hR : pm_Rg gi ga) (hI : pm_IM gi ga w) : pm_Mt sc 1 173 3 [.ref 59, .int a, .int k] w (pm_PM w (sp_account gi ga a k)) := by
  intro d hd
  show pm_V sc d 173 0 _ [] w _
  have hh : pm_lo w w := pm_lo.rf
  have q9 := hR.l9
  have q10 := hR.l10
  have q11 := hR.l11
  obtain ⟨v4, v5, v6, v14, v35, v39, v40, v42, c4, c5, c6, c35, c42, h59⟩ := hI.2.1 59 (by decide) (by decide)
  have h71 : _ = some _ := hI.2.1 71 (by decide) (by decide)
  have h72 : _ = some _ := hI.2.1 72 (by decide) (by decide)
  have h73 : _ = some _ := hI.2.1 73 (by decide) (by decide)
  obtain ⟨xs79, l79, h79⟩ := hI.2.1 79 (by decide) (by decide)
  refine v_iload_n rfl rfl ?_
  refine v_iconst (v := 0) rfl (by decide) ?_
  refine v_iconst (v := 5) rfl (by decide) ?_
  refine v_callS rfl (c_in a 0 5 w) rfl rfl rfl rfl rfl (by omega) (fun rv w1 hq => ?_)
  obtain ⟨rfl, rfl⟩ := hq
  by_cases ha : 0 ≤ a.toInt ∧ a.toInt < 6
  · rw [pm_b_1 (show (0 : Int32).toInt ≤ a.toInt ∧ a.toInt ≤ (5 : Int32).toInt from ⟨ha.1, by rw [i_5]; omega⟩)]
    refine v_if_ne rfl (fun _ => ?_) (fun h => absurd h (by decide))
    refine v_iload_n rfl rfl ?_
    by_cases s0 : k = 0
    · subst s0
      refine v_tabIn (t := 52) rfl (by decide) (by decide) rfl rfl ?_
      refine v_aload_n rfl rfl ?_
      refine v_get rfl h59 rfl ?_
      refine v_iload_n rfl rfl ?_
      refine v_iaload rfl h71 (by rw [i_lt, i_0]; omega) (pm_gD (d := 0) (by rw [i_cl, q9]; omega)) ?_
      exact v_iret rfl (by show pm_PM _ _ _ _; unfold sp_account; rw [if_neg (fun h => h ha), if_pos rfl]; exact ⟨rfl, hI, hh⟩)
    by_cases s1 : k = 1
    · subst s1
      refine v_tabIn (t := 59) rfl (by decide) (by decide) rfl rfl ?_
      refine v_aload_n rfl rfl ?_
      refine v_get rfl h59 rfl ?_
      refine v_iload_n rfl rfl ?_
      refine v_iaload rfl h72 (by rw [i_lt, i_0]; omega) (pm_gD (d := 0) (by rw [i_cl, q10]; omega)) ?_
      exact v_iret rfl (by show pm_PM _ _ _ _; unfold sp_account; rw [if_neg (fun h => h ha), if_neg (by decide), if_pos rfl]; exact ⟨rfl, hI, hh⟩)
    by_cases s2 : k = 2
    · subst s2
      refine v_tabIn (t := 66) rfl (by decide) (by decide) rfl rfl ?_
      refine v_aload_n rfl rfl ?_
      refine v_get rfl h59 rfl ?_
      refine v_iload_n rfl rfl ?_
      refine v_iaload rfl h73 (by rw [i_lt, i_0]; omega) (pm_gD (d := 0) (by rw [i_cl, q11]; omega)) ?_
      exact v_iret rfl (by show pm_PM _ _ _ _; unfold sp_account; rw [if_neg (fun h => h ha), if_neg (by decide), if_neg (by decide), if_pos rfl]; exact ⟨rfl, hI, hh⟩)
    by_cases s3 : k = 3
    · subst s3
      refine v_tabIn (t := 73) rfl (by decide) (by decide) rfl rfl ?_
      refine v_aload_n rfl rfl ?_
      refine v_get rfl h59 rfl ?_
      refine v_iload_n rfl rfl ?_
      refine v_iaload rfl h71 (by rw [i_lt, i_0]; omega) (pm_gD (d := 0) (by rw [i_cl, q9]; omega)) ?_
      refine v_aload_n rfl rfl ?_
      refine v_get rfl h59 rfl ?_
      refine v_iload_n rfl rfl ?_
      refine v_iaload rfl h72 (by rw [i_lt, i_0]; omega) (pm_gD (d := 0) (by rw [i_cl, q10]; omega)) ?_
      refine v_isub rfl ?_
      refine v_aload_n rfl rfl ?_
      refine v_get rfl h59 rfl ?_
      refine v_iload_n rfl rfl ?_
      refine v_iaload rfl h73 (by rw [i_lt, i_0]; omega) (pm_gD (d := 0) (by rw [i_cl, q11]; omega)) ?_
      refine v_isub rfl ?_
      exact v_iret rfl (by show pm_PM _ _ _ _; unfold sp_account; rw [if_neg (fun h => h ha), if_neg (by decide), if_neg (by decide), if_neg (by decide), if_pos rfl]; exact ⟨rfl, hI, hh⟩)
    refine v_tabOut (t := 94) rfl (by simp only [i_eq, i_0, i_1, i_2, i_3] at *; omega) rfl ?_
    refine v_aload_n rfl rfl ?_
    refine v_get rfl h59 rfl ?_
    refine v_iconst (v := 2) rfl (by decide) ?_
    refine v_dup2 rfl rfl ?_
    refine v_iaload rfl h79 (by decide) (pm_gD (d := 0) (by rw [l79]; decide)) ?_
    refine v_iconst (v := 1) rfl (by decide) ?_
    refine v_iadd rfl ?_
    refine v_iastore rfl h79 (by decide) (by rw [l79]; decide) ?_
    refine v_forget (P := fun u => pm_IM gi ga u ∧ pm_lo w u) ⟨hI.set 79 (by decide) (by decide) (by decide) (by decide) ⟨_, by rw [List.length_set]; exact l79, rfl⟩, hh.set (by decide) _⟩ (fun w1 hw1 => ?_)
    obtain ⟨hI, hh⟩ := hw1
    refine v_ldc (v := 2000000002) rfl (by decide) ?_
    exact v_iret rfl (by show pm_PM _ _ _ _; unfold sp_account; rw [if_neg (fun h => h ha), if_neg s0, if_neg s1, if_neg s2, if_neg s3]; exact ⟨rfl, hI, hh⟩)
  · rw [pm_b_0 (show ¬ ((0 : Int32).toInt ≤ a.toInt ∧ a.toInt ≤ (5 : Int32).toInt) from fun h => ha ⟨h.1, by have := h.2; rw [i_5] at this; omega⟩)]
    refine v_if_ne rfl (fun h => absurd h (by decide)) (fun _ => ?_)
    refine v_aload_n rfl rfl ?_
    refine v_get rfl h59 rfl ?_
    refine v_iconst (v := 1) rfl (by decide) ?_
    refine v_dup2 rfl rfl ?_
    refine v_iaload rfl h79 (by decide) (pm_gD (d := 0) (by rw [l79]; decide)) ?_
    refine v_iconst (v := 1) rfl (by decide) ?_
    refine v_iadd rfl ?_
    refine v_iastore rfl h79 (by decide) (by rw [l79]; decide) ?_
    refine v_forget (P := fun u => pm_IM gi ga u ∧ pm_lo w u) ⟨hI.set 79 (by decide) (by decide) (by decide) (by decide) ⟨_, by rw [List.length_set]; exact l79, rfl⟩, hh.set (by decide) _⟩ (fun w1 hw1 => ?_)
    obtain ⟨hI, hh⟩ := hw1
    refine v_ldc (v := 2000000001) rfl (by decide) ?_
    exact v_iret rfl (by show pm_PM _ _ _ _; unfold sp_account; rw [if_pos ha]; exact ⟨rfl, hI, hh⟩)
theorem i_sub1 {x : Int32} (h0 : 0 ≤ x.toInt) (h1 : x.toInt ≤ 1000) : (x - 1).toInt = x.toInt - 1 := by
  obtain ⟨j, hj, rfl⟩ : ∃ j : Nat, j ≤ 1000 ∧ x = nI j := ⟨x.toInt.toNat, by omega, i_nI h0⟩
  rw [show (1 : Int32) = nI 1 from rfl, pk_sub_toInt (by omega) (by omega), nI_toInt (by omega)]
  rfl
noncomputable def sp_orderOf (gi : Nat → Int32) (ga : Nat → List Int32) (a k : Int32) : pm_G := if ¬ (0 ≤ a.toInt ∧ a.toInt < (gi 7).toInt) then pm_no gi ga (-1) else if k = 0 then ((ga 0).getD a.toNatClampNeg 0, gi, ga) else if k = 1 then ((ga 1).getD a.toNatClampNeg 0, gi, ga) else if k = 2 then ((ga 2).getD a.toNatClampNeg 0, gi, ga) else if k = 3 then ((ga 3).getD a.toNatClampNeg 0, gi, ga) else pm_no gi ga (-2)
set_option maxRecDepth 100000 in
theorem c_X_orderOf {sc : pm_S} {w : pm_W} {gi : Nat → Int32} {ga : Nat → List Int32} (a k : Int32) (hR : pm_Rg gi ga) (hI : pm_IX gi ga w) : pm_Mt sc 2 106 3 [.ref 0, .int a, .int k] w (pm_PX w (sp_orderOf gi ga a k)) := by
  intro d hd
  show pm_V sc d 106 0 _ [] w _
  have hh : pm_hi w w := pm_hi.rf
  obtain ⟨n0, n1⟩ := hR.n7
  have q0 := hR.l0
  have q1 := hR.l1
  have q2 := hR.l2
  have q3 := hR.l3
  obtain ⟨v6, c6, h0⟩ := hI.2 0 (by decide)
  have h27 : _ = some _ := hI.2 27 (by decide)
  have h28 : _ = some _ := hI.2 28 (by decide)
  have h29 : _ = some _ := hI.2 29 (by decide)
  have h30 : _ = some _ := hI.2 30 (by decide)
  have h31 : _ = some _ := hI.2 31 (by decide)
  refine v_iload_n rfl rfl ?_
  refine v_aload_n rfl rfl ?_
  refine v_get rfl h0 rfl ?_
  refine v_get rfl h27 rfl ?_
  refine v_callS rfl (c_isPlace a (gi 7) w) rfl rfl rfl rfl rfl (by omega) (fun rv w1 hq => ?_)
  obtain ⟨rfl, rfl⟩ := hq
  by_cases ha : 0 ≤ a.toInt ∧ a.toInt < (gi 7).toInt
  · rw [pm_b_1 ha]
    refine v_if_ne rfl (fun _ => ?_) (fun h => absurd h (by decide))
    refine v_iload_n rfl rfl ?_
    by_cases s0 : k = 0
    · subst s0
      refine v_tabIn (t := 52) rfl (by decide) (by decide) rfl rfl ?_
      refine v_aload_n rfl rfl ?_
      refine v_get rfl h0 rfl ?_
      refine v_get rfl h27 rfl ?_
      refine v_iload_n rfl rfl ?_
      refine v_iaload rfl h28 (by rw [i_lt, i_0]; omega) (pm_gD (d := 0) (by rw [i_cl, q0]; omega)) ?_
      exact v_iret rfl (by show pm_PX _ _ _ _; unfold sp_orderOf; rw [if_neg (fun h => h ha), if_pos rfl]; exact ⟨rfl, hI, hh⟩)
    by_cases s1 : k = 1
    · subst s1
      refine v_tabIn (t := 62) rfl (by decide) (by decide) rfl rfl ?_
      refine v_aload_n rfl rfl ?_
      refine v_get rfl h0 rfl ?_
      refine v_get rfl h27 rfl ?_
      refine v_iload_n rfl rfl ?_
      refine v_iaload rfl h29 (by rw [i_lt, i_0]; omega) (pm_gD (d := 0) (by rw [i_cl, q1]; omega)) ?_
      exact v_iret rfl (by show pm_PX _ _ _ _; unfold sp_orderOf; rw [if_neg (fun h => h ha), if_neg (by decide), if_pos rfl]; exact ⟨rfl, hI, hh⟩)
    by_cases s2 : k = 2
    · subst s2
      refine v_tabIn (t := 72) rfl (by decide) (by decide) rfl rfl ?_
      refine v_aload_n rfl rfl ?_
      refine v_get rfl h0 rfl ?_
      refine v_get rfl h27 rfl ?_
      refine v_iload_n rfl rfl ?_
      refine v_iaload rfl h30 (by rw [i_lt, i_0]; omega) (pm_gD (d := 0) (by rw [i_cl, q2]; omega)) ?_
      exact v_iret rfl (by show pm_PX _ _ _ _; unfold sp_orderOf; rw [if_neg (fun h => h ha), if_neg (by decide), if_neg (by decide), if_pos rfl]; exact ⟨rfl, hI, hh⟩)
    by_cases s3 : k = 3
    · subst s3
      refine v_tabIn (t := 82) rfl (by decide) (by decide) rfl rfl ?_
      refine v_aload_n rfl rfl ?_
      refine v_get rfl h0 rfl ?_
      refine v_get rfl h27 rfl ?_
      refine v_iload_n rfl rfl ?_
      refine v_iaload rfl h31 (by rw [i_lt, i_0]; omega) (pm_gD (d := 0) (by rw [i_cl, q3]; omega)) ?_
      exact v_iret rfl (by show pm_PX _ _ _ _; unfold sp_orderOf; rw [if_neg (fun h => h ha), if_neg (by decide), if_neg (by decide), if_neg (by decide), if_pos rfl]; exact ⟨rfl, hI, hh⟩)
    refine v_tabOut (t := 92) rfl (by simp only [i_eq, i_0, i_1, i_2, i_3] at *; omega) rfl ?_
    refine v_aload_n rfl rfl ?_
    refine v_bipush (v := (-2)) rfl (by decide) ?_
    refine v_callV rfl (c_X_refuse (-2) (by unfold pm_isR; decide) hR hI) rfl rfl h0 rfl rfl (by omega) (fun rv w1 hq => ?_)
    obtain ⟨rfl, g1, g2⟩ := hq
    exact v_iret rfl (by show pm_PX _ _ _ _; unfold sp_orderOf; rw [if_neg (fun h => h ha), if_neg s0, if_neg s1, if_neg s2, if_neg s3]; exact ⟨rfl, g1, hh.tr g2⟩)
  · rw [pm_b_0 ha]
    refine v_if_ne rfl (fun h => absurd h (by decide)) (fun _ => ?_)
    refine v_aload_n rfl rfl ?_
    refine v_iconst (v := (-1)) rfl (by decide) ?_
    refine v_callV rfl (c_X_refuse (-1) (by unfold pm_isR; decide) hR hI) rfl rfl h0 rfl rfl (by omega) (fun rv w1 hq => ?_)
    obtain ⟨rfl, g1, g2⟩ := hq
    exact v_iret rfl (by show pm_PX _ _ _ _; unfold sp_orderOf; rw [if_pos ha]; exact ⟨rfl, g1, hh.tr g2⟩)
set_option maxRecDepth 100000 in
theorem c_M_orderOf {sc : pm_S} {w : pm_W} {gi : Nat → Int32} {ga : Nat → List Int32} (a k : Int32) (hR : pm_Rg gi ga) (hI : pm_IM gi ga w) : pm_Mt sc 1 182 3 [.ref 59, .int a, .int k] w (pm_PM w (sp_orderOf gi ga a k)) := by
  intro d hd
  show pm_V sc d 182 0 _ [] w _
  have hh : pm_lo w w := pm_lo.rf
  obtain ⟨n0, n1⟩ := hR.n7
  have q0 := hR.l0
  have q1 := hR.l1
  have q2 := hR.l2
  have q3 := hR.l3
  obtain ⟨v4, v5, v6, v14, v35, v39, v40, v42, c4, c5, c6, c35, c42, h59⟩ := hI.2.1 59 (by decide) (by decide)
  have h64 : _ = some _ := hI.2.1 64 (by decide) (by decide)
  have h65 : _ = some _ := hI.2.1 65 (by decide) (by decide)
  have h66 : _ = some _ := hI.2.1 66 (by decide) (by decide)
  have h67 : _ = some _ := hI.2.1 67 (by decide) (by decide)
  refine v_iload_n rfl rfl ?_
  refine v_iconst (v := 0) rfl (by decide) ?_
  refine v_aload_n rfl rfl ?_
  refine v_get rfl h59 rfl ?_
  refine v_iconst (v := 1) rfl (by decide) ?_
  refine v_isub rfl ?_
  refine v_callS rfl (c_in a 0 (gi 7 - 1) w) rfl rfl rfl rfl rfl (by omega) (fun rv w1 hq => ?_)
  obtain ⟨rfl, rfl⟩ := hq
  by_cases ha : 0 ≤ a.toInt ∧ a.toInt < (gi 7).toInt
  · rw [pm_b_1 (show (0 : Int32).toInt ≤ a.toInt ∧ a.toInt ≤ (gi 7 - 1).toInt from ⟨ha.1, by rw [i_sub1 n0 (by omega)]; omega⟩)]
    refine v_if_ne rfl (fun _ => ?_) (fun h => absurd h (by decide))
    refine v_iload_n rfl rfl ?_
    by_cases s0 : k = 0
    · subst s0
      refine v_tabIn (t := 52) rfl (by decide) (by decide) rfl rfl ?_
      refine v_aload_n rfl rfl ?_
      refine v_get rfl h59 rfl ?_
      refine v_iload_n rfl rfl ?_
      refine v_iaload rfl h64 (by rw [i_lt, i_0]; omega) (pm_gD (d := 0) (by rw [i_cl, q0]; omega)) ?_
      exact v_iret rfl (by show pm_PM _ _ _ _; unfold sp_orderOf; rw [if_neg (fun h => h ha), if_pos rfl]; exact ⟨rfl, hI, hh⟩)
    by_cases s1 : k = 1
    · subst s1
      refine v_tabIn (t := 59) rfl (by decide) (by decide) rfl rfl ?_
      refine v_aload_n rfl rfl ?_
      refine v_get rfl h59 rfl ?_
      refine v_iload_n rfl rfl ?_
      refine v_iaload rfl h65 (by rw [i_lt, i_0]; omega) (pm_gD (d := 0) (by rw [i_cl, q1]; omega)) ?_
      exact v_iret rfl (by show pm_PM _ _ _ _; unfold sp_orderOf; rw [if_neg (fun h => h ha), if_neg (by decide), if_pos rfl]; exact ⟨rfl, hI, hh⟩)
    by_cases s2 : k = 2
    · subst s2
      refine v_tabIn (t := 66) rfl (by decide) (by decide) rfl rfl ?_
      refine v_aload_n rfl rfl ?_
      refine v_get rfl h59 rfl ?_
      refine v_iload_n rfl rfl ?_
      refine v_iaload rfl h66 (by rw [i_lt, i_0]; omega) (pm_gD (d := 0) (by rw [i_cl, q2]; omega)) ?_
      exact v_iret rfl (by show pm_PM _ _ _ _; unfold sp_orderOf; rw [if_neg (fun h => h ha), if_neg (by decide), if_neg (by decide), if_pos rfl]; exact ⟨rfl, hI, hh⟩)
    by_cases s3 : k = 3
    · subst s3
      refine v_tabIn (t := 73) rfl (by decide) (by decide) rfl rfl ?_
      refine v_aload_n rfl rfl ?_
      refine v_get rfl h59 rfl ?_
      refine v_iload_n rfl rfl ?_
      refine v_iaload rfl h67 (by rw [i_lt, i_0]; omega) (pm_gD (d := 0) (by rw [i_cl, q3]; omega)) ?_
      exact v_iret rfl (by show pm_PM _ _ _ _; unfold sp_orderOf; rw [if_neg (fun h => h ha), if_neg (by decide), if_neg (by decide), if_neg (by decide), if_pos rfl]; exact ⟨rfl, hI, hh⟩)
    refine v_tabOut (t := 80) rfl (by simp only [i_eq, i_0, i_1, i_2, i_3] at *; omega) rfl ?_
    refine v_aload_n rfl rfl ?_
    refine v_bipush (v := (-2)) rfl (by decide) ?_
    refine v_callV rfl (c_M_refuse (-2) (by unfold pm_isR; decide) hR hI) rfl rfl h59 rfl rfl (by omega) (fun rv w1 hq => ?_)
    obtain ⟨rfl, g1, g2⟩ := hq
    exact v_iret rfl (by show pm_PM _ _ _ _; unfold sp_orderOf; rw [if_neg (fun h => h ha), if_neg s0, if_neg s1, if_neg s2, if_neg s3]; exact ⟨rfl, g1, hh.tr g2⟩)
  · rw [pm_b_0 (show ¬ ((0 : Int32).toInt ≤ a.toInt ∧ a.toInt ≤ (gi 7 - 1).toInt) from fun h => ha ⟨h.1, by have := h.2; rw [i_sub1 n0 (by omega)] at this; omega⟩)]
    refine v_if_ne rfl (fun h => absurd h (by decide)) (fun _ => ?_)
    refine v_aload_n rfl rfl ?_
    refine v_iconst (v := (-1)) rfl (by decide) ?_
    refine v_callV rfl (c_M_refuse (-1) (by unfold pm_isR; decide) hR hI) rfl rfl h59 rfl rfl (by omega) (fun rv w1 hq => ?_)
    obtain ⟨rfl, g1, g2⟩ := hq
    exact v_iret rfl (by show pm_PM _ _ _ _; unfold sp_orderOf; rw [if_pos ha]; exact ⟨rfl, g1, hh.tr g2⟩)

