theorem i_1000 : ¬ (1000 : Int32) = 0 := by decide
theorem i_100w {x : Int32} (h0 : 0 ≤ x.toInt) (h1 : x.toInt ≤ 40) : ¬ 100 + x = 0 := by
  obtain ⟨j, hj, rfl⟩ : ∃ j : Nat, j ≤ 40 ∧ x = nI j := ⟨x.toInt.toNat, by omega, i_nI h0⟩
  rw [show (100 : Int32) = nI 100 from rfl, nI_add]
  exact nI_ne0 (by omega) (by omega)
theorem i_x0 (x : Int32) : x * 0 / 1000 = 0 := by
  rw [Int32.mul_zero]
  decide
theorem v_eqi {sc : pm_S} {d mi pc : Nat} {ls st : List Value} {w : pm_W} {Q : Option Value → pm_W → Prop} {x y : Int32} (h : x = y) (k : pm_V sc d mi pc ls (.int y :: st) w Q) : pm_V sc d mi pc ls (.int x :: st) w Q := h ▸ k
/-- so many thousandths are let, on a day -/
noncomputable def pm_th (gi : Nat → Int32) (ga : Nat → List Int32) : Int32 := if (pm_fo (ga 6) (gi 5) (-1) (gi 8).toInt.toNat).toInt < 0 then 0 else (ga 4).getD (pm_fo (ga 6) (gi 5) (-1) (gi 8).toInt.toNat).toNatClampNeg 0
noncomputable def sp_silk (gi : Nat → Int32) (ga : Nat → List Int32) (a home g wt : Int32) : pm_G := if ¬ (0 ≤ a.toInt ∧ a.toInt < 6) then pm_no gi ga (-1) else if g.toInt < 1 ∨ wt.toInt < 0 then pm_no gi ga (-4) else if 100000 < g.toInt ∨ 40 < wt.toInt then pm_no gi ga (-6) else
  if home = 0 then (g * 100 / (100 + wt), gi, pm_uA ga 9 ((ga 9).set a.toNatClampNeg ((ga 9).getD a.toNatClampNeg 0 + g * 100 / (100 + wt)))) else
  (g * 100 / (100 + wt), gi, pm_uA (pm_uA ga 10 ((ga 10).set a.toNatClampNeg ((ga 10).getD a.toNatClampNeg 0 + g * 100 / (100 + wt)))) 11 ((ga 11).set a.toNatClampNeg ((ga 11).getD a.toNatClampNeg 0 + g * 100 / (100 + wt) * pm_th gi ga / 1000)))
set_option maxRecDepth 100000 in
theorem c_X7_wasteOn {sc : pm_S} {w : pm_W} {gi : Nat → Int32} {ga : Nat → List Int32} (hR : pm_Rg gi ga) (hI : pm_IX gi ga w) : pm_Mt sc 1 43 3 [.ref 37, .int (gi 5)] w (fun rv w' => w = w' ∧ rv = some (.int (pm_th gi ga))) := by
  intro d hd
  show pm_V sc d 43 0 _ [] w _
  obtain ⟨n0, n1⟩ := hR.n8
  have q4 := hR.l4
  have rr := pm_fo_rng (ds := ga 6) (day := gi 5) (init := -9) (by decide) (gi 8).toInt.toNat (by omega)
  have tw := pm_fo_two (ds := ga 6) (day := gi 5) (gi 8).toInt.toNat (by omega)
  have h37 : _ = some _ := hI.2 37 (by decide)
  have h38 : _ = some _ := hI.2 38 (by decide)
  refine v_aload_n rfl rfl ?_
  refine v_iload_n rfl rfl ?_
  refine v_callV rfl (c_X7_inForceOn (N := (gi 8).toInt.toNat) (i_nI n0) (by omega) hR hI (gi 5)) rfl rfl h37 rfl rfl (by omega) (fun rv w1 hq => ?_)
  obtain ⟨rfl, rfl⟩ := hq
  refine v_istore_n rfl (Nat.le_of_ble_eq_true rfl) ?_
  refine v_iload_n rfl rfl ?_
  refine v_if_ge rfl (fun t7 => ?_) (fun t7 => ?_)
  · refine v_aload_n rfl rfl ?_
    refine v_get rfl h37 rfl ?_
    refine v_iload_n rfl rfl ?_
    refine v_iaload rfl h38 (by rw [i_lt, i_0]; simp only [i_le, i_0] at *; omega) (pm_gD (d := 0) (by rw [q4, i_cl]; simp only [i_le, i_0] at *; omega)) ?_
    exact v_iret rfl ⟨rfl, by
    unfold pm_th
    rcases tw with h | h
    · first | (rw [if_pos h.2]; done) | (exfalso; simp only [i_le, i_0] at *; omega)
    · rw [← h]
      first | (rw [if_neg (by simp only [i_le, i_0] at *; omega)]; done) | (rw [if_pos (by simp only [i_le, i_0] at *; omega)]; done)⟩
  · refine v_iconst (v := 0) rfl (by decide) ?_
    refine v_goto rfl ?_
    exact v_iret rfl ⟨rfl, by
    unfold pm_th
    rcases tw with h | h
    · first | (rw [if_pos h.2]; done) | (exfalso; simp only [i_le, i_0] at *; omega)
    · rw [← h]
      first | (rw [if_neg (by simp only [i_le, i_0] at *; omega)]; done) | (rw [if_pos (by simp only [i_le, i_0] at *; omega)]; done)⟩
set_option maxRecDepth 100000 in
theorem c_X0_bringHome {sc : pm_S} {w : pm_W} {gi : Nat → Int32} {ga : Nat → List Int32} (a dr th : Int32) (h0 : 0 ≤ a.toInt) (h6 : a.toInt < 6) (hR : pm_Rg gi ga) (hI : pm_IX gi ga w) : pm_Mt sc 0 1 4 [.ref 41, .int a, .int dr, .int th] w (fun rv w' => rv = none ∧ pm_IX gi (pm_uA (pm_uA ga 10 ((ga 10).set a.toNatClampNeg ((ga 10).getD a.toNatClampNeg 0 + dr))) 11 ((ga 11).set a.toNatClampNeg ((ga 11).getD a.toNatClampNeg 0 + dr * th / 1000))) w' ∧ pm_hi w w') := by
  intro d hd
  show pm_V sc d 1 0 _ [] w _
  have hh : pm_hi w w := pm_hi.rf
  have q10 := hR.l10
  have q11 := hR.l11
  have h41 : _ = some _ := hI.2 41 (by decide)
  have h43 : _ = some _ := hI.2 43 (by decide)
  have h44 : _ = some _ := hI.2 44 (by decide)
  refine v_aload_n rfl rfl ?_
  refine v_get rfl h41 rfl ?_
  refine v_iload_n rfl rfl ?_
  refine v_dup2 rfl rfl ?_
  refine v_iaload rfl h43 (by rw [i_lt, i_0]; omega) (pm_gD (d := 0) (by rw [i_cl]; show a.toInt.toNat < (ga 10).length; rw [q10]; omega)) ?_
  refine v_iload_n rfl rfl ?_
  refine v_iadd rfl ?_
  refine v_iastore rfl h43 (by rw [i_lt, i_0]; omega) (by rw [i_cl]; show a.toInt.toNat < (ga 10).length; rw [q10]; omega) ?_
  refine v_forget (P := fun u => pm_IX gi (pm_uA ga 10 ((ga 10).set a.toNatClampNeg ((ga 10).getD a.toNatClampNeg 0 + dr))) u ∧ pm_hi w u) ⟨hI.uA 43 10 (by decide +kernel) (by decide +kernel) rfl, hh.set (by decide) _⟩ (fun w1 hw1 => ?_)
  obtain ⟨hI, hh⟩ := hw1
  have h41 : _ = some _ := hI.2 41 (by decide)
  have h43 : _ = some _ := hI.2 43 (by decide)
  have h44 : _ = some _ := hI.2 44 (by decide)
  refine v_aload_n rfl rfl ?_
  refine v_get rfl h41 rfl ?_
  refine v_iload_n rfl rfl ?_
  refine v_dup2 rfl rfl ?_
  refine v_iaload rfl h44 (by rw [i_lt, i_0]; omega) (pm_gD (d := 0) (by rw [i_cl]; show a.toInt.toNat < (ga 11).length; rw [q11]; omega)) ?_
  refine v_iload_n rfl rfl ?_
  refine v_iload_n rfl rfl ?_
  refine v_imul rfl ?_
  refine v_sipush (v := 1000) rfl (by decide) ?_
  refine v_idiv rfl i_1000 ?_
  refine v_iadd rfl ?_
  refine v_iastore rfl h44 (by rw [i_lt, i_0]; omega) (by rw [i_cl]; show a.toInt.toNat < (ga 11).length; rw [q11]; omega) ?_
  refine v_forget (P := fun u => pm_IX gi (pm_uA (pm_uA ga 10 ((ga 10).set a.toNatClampNeg ((ga 10).getD a.toNatClampNeg 0 + dr))) 11 ((ga 11).set a.toNatClampNeg ((ga 11).getD a.toNatClampNeg 0 + dr * th / 1000))) u ∧ pm_hi w u) ⟨hI.uA 44 11 (by decide +kernel) (by decide +kernel) rfl, hh.set (by decide) _⟩ (fun w1 hw1 => ?_)
  obtain ⟨hI, hh⟩ := hw1
  exact v_ret rfl ⟨rfl, hI, hh⟩
theorem pm_b_1 {p : Prop} [Decidable p] (h : p) : pm_b p = some (.int 1) := (pm_b1 h).symm
theorem pm_b_0 {p : Prop} [Decidable p] (h : ¬ p) : pm_b p = some (.int 0) := (pm_b0 h).symm
set_option maxRecDepth 100000 in
theorem c_X_silk {sc : pm_S} {w : pm_W} {gi : Nat → Int32} {ga : Nat → List Int32} (a home g wt : Int32) (hR : pm_Rg gi ga) (hI : pm_IX gi ga w) : pm_Mt sc 3 98 6 [.ref 0, .int a, .int home, .int g, .int wt] w (pm_PX w (sp_silk gi ga a home g wt)) := by
  intro d hd
  show pm_V sc d 98 0 _ [] w _
  have hh : pm_hi w w := pm_hi.rf
  have q9 := hR.l9
  obtain ⟨v6, c6, h0⟩ := hI.2 0 (by decide)
  have h27 : _ = some _ := hI.2 27 (by decide)
  have h37 : _ = some _ := hI.2 37 (by decide)
  have h41 : _ = some _ := hI.2 41 (by decide)
  have h42 : _ = some _ := hI.2 42 (by decide)
  refine v_iload_n rfl rfl ?_
  refine v_bipush (v := 6) rfl (by decide) ?_
  refine v_callS rfl (c_isPlace a 6 w) rfl rfl rfl rfl rfl (by omega) (fun rv w1 hq => ?_)
  obtain ⟨rfl, rfl⟩ := hq
  by_cases ha : 0 ≤ a.toInt ∧ a.toInt < 6
  · obtain ⟨ha0, ha6⟩ := ha
    rw [pm_b_1 ⟨ha0, ha6⟩]
    refine v_if_ne rfl (fun _ => ?_) (fun h => absurd h (by decide))
    refine v_iload_n rfl rfl ?_
    refine v_iconst (v := 1) rfl (by decide) ?_
    refine v_icmp_lt rfl (fun t17 => ?_) (fun t17 => ?_)
    · refine v_aload_n rfl rfl ?_
      refine v_bipush (v := (-4)) rfl (by decide) ?_
      refine v_callV rfl (c_X_refuse (-4) (by unfold pm_isR; decide) hR hI) rfl rfl h0 rfl rfl (by omega) (fun rv w1 hq => ?_)
      obtain ⟨rfl, g1, g2⟩ := hq
      exact v_iret rfl (by show pm_PX _ _ _ _; unfold sp_silk; rw [if_neg (fun h => h ⟨ha0, ha6⟩), if_pos (by simp only [i_lt, i_le, i_eq, i_0, i_1, i_2, i_3, i_4, i_5, i_12, i_20, i_40, i_99, i_100, i_200, i_500, i_999, i_2000, i_3000, i_100000] at *; omega)]; exact ⟨rfl, g1, hh.tr g2⟩)
    · refine v_iload rfl rfl ?_
      refine v_if_ge rfl (fun t22 => ?_) (fun t22 => ?_)
      · refine v_iload_n rfl rfl ?_
        refine v_ldc_w (v := 100000) rfl (by decide) ?_
        refine v_icmp_gt rfl (fun t36 => ?_) (fun t36 => ?_)
        · refine v_aload_n rfl rfl ?_
          refine v_bipush (v := (-6)) rfl (by decide) ?_
          refine v_callV rfl (c_X_refuse (-6) (by unfold pm_isR; decide) hR hI) rfl rfl h0 rfl rfl (by omega) (fun rv w1 hq => ?_)
          obtain ⟨rfl, g1, g2⟩ := hq
          exact v_iret rfl (by show pm_PX _ _ _ _; unfold sp_silk; rw [if_neg (fun h => h ⟨ha0, ha6⟩), if_neg (by simp only [i_lt, i_le, i_eq, i_0, i_1, i_2, i_3, i_4, i_5, i_12, i_20, i_40, i_99, i_100, i_200, i_500, i_999, i_2000, i_3000, i_100000] at *; omega), if_pos (by simp only [i_lt, i_le, i_eq, i_0, i_1, i_2, i_3, i_4, i_5, i_12, i_20, i_40, i_99, i_100, i_200, i_500, i_999, i_2000, i_3000, i_100000] at *; omega)]; exact ⟨rfl, g1, hh.tr g2⟩)
        · refine v_iload rfl rfl ?_
          refine v_bipush (v := 40) rfl (by decide) ?_
          refine v_icmp_le rfl (fun t43 => ?_) (fun t43 => ?_)
          · refine v_iload_n rfl rfl ?_
            refine v_bipush (v := 100) rfl (by decide) ?_
            refine v_imul rfl ?_
            refine v_bipush (v := 100) rfl (by decide) ?_
            refine v_iload rfl rfl ?_
            refine v_iadd rfl ?_
            refine v_idiv rfl (i_100w (by simp only [i_lt, i_le, i_eq, i_0, i_1, i_2, i_3, i_4, i_5, i_12, i_20, i_40, i_99, i_100, i_200, i_500, i_999, i_2000, i_3000, i_100000] at *; omega) (by simp only [i_lt, i_le, i_eq, i_0, i_1, i_2, i_3, i_4, i_5, i_12, i_20, i_40, i_99, i_100, i_200, i_500, i_999, i_2000, i_3000, i_100000] at *; omega)) ?_
            refine v_istore rfl (Nat.le_of_ble_eq_true rfl) ?_
            refine v_iload_n rfl rfl ?_
            refine v_if_eq rfl (fun t66 => ?_) (fun t66 => ?_)
            · refine v_aload_n rfl rfl ?_
              refine v_get rfl h0 rfl ?_
              refine v_get rfl h41 rfl ?_
              refine v_iload_n rfl rfl ?_
              refine v_dup2 rfl rfl ?_
              refine v_iaload rfl h42 (by rw [i_lt, i_0]; omega) (pm_gD (d := 0) (by rw [i_cl]; show a.toInt.toNat < (ga 9).length; rw [q9]; omega)) ?_
              refine v_iload rfl rfl ?_
              refine v_iadd rfl ?_
              refine v_iastore rfl h42 (by rw [i_lt, i_0]; omega) (by rw [i_cl]; show a.toInt.toNat < (ga 9).length; rw [q9]; omega) ?_
              refine v_forget (P := fun u => pm_IX gi (pm_uA ga 9 ((ga 9).set a.toNatClampNeg ((ga 9).getD a.toNatClampNeg 0 + g * 100 / (100 + wt)))) u ∧ pm_hi w u) ⟨hI.uA 42 9 (by decide +kernel) (by decide +kernel) rfl, hh.set (by decide) _⟩ (fun w1 hw1 => ?_)
              obtain ⟨hI, hh⟩ := hw1
              refine v_iload rfl rfl ?_
              exact v_iret rfl (by first | (show pm_PX _ _ _ _; unfold sp_silk; rw [if_neg (fun h => h ⟨ha0, ha6⟩), if_neg (by simp only [i_lt, i_le, i_eq, i_0, i_1, i_2, i_3, i_4, i_5, i_12, i_20, i_40, i_99, i_100, i_200, i_500, i_999, i_2000, i_3000, i_100000] at *; omega), if_neg (by simp only [i_lt, i_le, i_eq, i_0, i_1, i_2, i_3, i_4, i_5, i_12, i_20, i_40, i_99, i_100, i_200, i_500, i_999, i_2000, i_3000, i_100000] at *; omega), if_pos t66]; exact ⟨rfl, hI, hh⟩) | (show pm_PX _ _ _ _; unfold sp_silk; rw [if_neg (fun h => h ⟨ha0, ha6⟩), if_neg (by simp only [i_lt, i_le, i_eq, i_0, i_1, i_2, i_3, i_4, i_5, i_12, i_20, i_40, i_99, i_100, i_200, i_500, i_999, i_2000, i_3000, i_100000] at *; omega), if_neg (by simp only [i_lt, i_le, i_eq, i_0, i_1, i_2, i_3, i_4, i_5, i_12, i_20, i_40, i_99, i_100, i_200, i_500, i_999, i_2000, i_3000, i_100000] at *; omega), if_neg t66]; exact ⟨rfl, hI, hh⟩))
            · refine v_aload_n rfl rfl ?_
              refine v_get rfl h0 rfl ?_
              refine v_iload_n rfl rfl ?_
              refine v_iload rfl rfl ?_
              refine v_aload_n rfl rfl ?_
              refine v_get rfl h0 rfl ?_
              refine v_aload_n rfl rfl ?_
              refine v_get rfl h0 rfl ?_
              refine v_get rfl h27 rfl ?_
              refine v_callV rfl (c_X7_wasteOn hR hI) rfl rfl h37 rfl rfl (by omega) (fun rv w1 hq => ?_)
              obtain ⟨rfl, rfl⟩ := hq
              refine v_callV rfl (c_X0_bringHome a (g * 100 / (100 + wt)) (pm_th gi ga) ha0 ha6 hR hI) rfl rfl h41 rfl rfl (by omega) (fun rv w1 hq => ?_)
              obtain ⟨rfl, hI, g2⟩ := hq
              have hh := hh.tr g2
              refine v_goto rfl ?_
              refine v_iload rfl rfl ?_
              exact v_iret rfl (by first | (show pm_PX _ _ _ _; unfold sp_silk; rw [if_neg (fun h => h ⟨ha0, ha6⟩), if_neg (by simp only [i_lt, i_le, i_eq, i_0, i_1, i_2, i_3, i_4, i_5, i_12, i_20, i_40, i_99, i_100, i_200, i_500, i_999, i_2000, i_3000, i_100000] at *; omega), if_neg (by simp only [i_lt, i_le, i_eq, i_0, i_1, i_2, i_3, i_4, i_5, i_12, i_20, i_40, i_99, i_100, i_200, i_500, i_999, i_2000, i_3000, i_100000] at *; omega), if_pos t66]; exact ⟨rfl, hI, hh⟩) | (show pm_PX _ _ _ _; unfold sp_silk; rw [if_neg (fun h => h ⟨ha0, ha6⟩), if_neg (by simp only [i_lt, i_le, i_eq, i_0, i_1, i_2, i_3, i_4, i_5, i_12, i_20, i_40, i_99, i_100, i_200, i_500, i_999, i_2000, i_3000, i_100000] at *; omega), if_neg (by simp only [i_lt, i_le, i_eq, i_0, i_1, i_2, i_3, i_4, i_5, i_12, i_20, i_40, i_99, i_100, i_200, i_500, i_999, i_2000, i_3000, i_100000] at *; omega), if_neg t66]; exact ⟨rfl, hI, hh⟩))
          · refine v_aload_n rfl rfl ?_
            refine v_bipush (v := (-6)) rfl (by decide) ?_
            refine v_callV rfl (c_X_refuse (-6) (by unfold pm_isR; decide) hR hI) rfl rfl h0 rfl rfl (by omega) (fun rv w1 hq => ?_)
            obtain ⟨rfl, g1, g2⟩ := hq
            exact v_iret rfl (by show pm_PX _ _ _ _; unfold sp_silk; rw [if_neg (fun h => h ⟨ha0, ha6⟩), if_neg (by simp only [i_lt, i_le, i_eq, i_0, i_1, i_2, i_3, i_4, i_5, i_12, i_20, i_40, i_99, i_100, i_200, i_500, i_999, i_2000, i_3000, i_100000] at *; omega), if_pos (by simp only [i_lt, i_le, i_eq, i_0, i_1, i_2, i_3, i_4, i_5, i_12, i_20, i_40, i_99, i_100, i_200, i_500, i_999, i_2000, i_3000, i_100000] at *; omega)]; exact ⟨rfl, g1, hh.tr g2⟩)
      · refine v_aload_n rfl rfl ?_
        refine v_bipush (v := (-4)) rfl (by decide) ?_
        refine v_callV rfl (c_X_refuse (-4) (by unfold pm_isR; decide) hR hI) rfl rfl h0 rfl rfl (by omega) (fun rv w1 hq => ?_)
        obtain ⟨rfl, g1, g2⟩ := hq
        exact v_iret rfl (by show pm_PX _ _ _ _; unfold sp_silk; rw [if_neg (fun h => h ⟨ha0, ha6⟩), if_pos (by simp only [i_lt, i_le, i_eq, i_0, i_1, i_2, i_3, i_4, i_5, i_12, i_20, i_40, i_99, i_100, i_200, i_500, i_999, i_2000, i_3000, i_100000] at *; omega)]; exact ⟨rfl, g1, hh.tr g2⟩)
  · rw [pm_b_0 (show ¬ (0 ≤ a.toInt ∧ a.toInt < (6 : Int32).toInt) from ha)]
    refine v_if_ne rfl (fun h => absurd rfl h) (fun _ => ?_)
    refine v_aload_n rfl rfl ?_
    refine v_iconst (v := (-1)) rfl (by decide) ?_
    refine v_callV rfl (c_X_refuse (-1) (by unfold pm_isR; decide) hR hI) rfl rfl h0 rfl rfl (by omega) (fun rv w1 hq => ?_)
    obtain ⟨rfl, g1, g2⟩ := hq
    exact v_iret rfl (by show pm_PX _ _ _ _; unfold sp_silk; rw [if_pos ha]; exact ⟨rfl, g1, hh.tr g2⟩)
set_option maxRecDepth 100000 in
theorem c_M_silk {sc : pm_S} {w : pm_W} {gi : Nat → Int32} {ga : Nat → List Int32} (a home g wt : Int32) (hR : pm_Rg gi ga) (hI : pm_IM gi ga w) : pm_Mt sc 1 172 7 [.ref 59, .int a, .int home, .int g, .int wt] w (pm_PM w (sp_silk gi ga a home g wt)) := by
  intro d hd
  show pm_V sc d 172 0 _ [] w _
  have hh : pm_lo w w := pm_lo.rf
  obtain ⟨n0, n1⟩ := hR.n8
  have q4 := hR.l4
  have q9 := hR.l9
  have q10 := hR.l10
  have q11 := hR.l11
  have rr := pm_fo_rng (ds := ga 6) (day := gi 5) (init := -1) (by decide) (gi 8).toInt.toNat (by omega)
  obtain ⟨v4, v5, v6, v14, v35, v39, v40, v42, c4, c5, c6, c35, c42, h59⟩ := hI.2.1 59 (by decide) (by decide)
  have h68 : _ = some _ := hI.2.1 68 (by decide) (by decide)
  have h71 : _ = some _ := hI.2.1 71 (by decide) (by decide)
  have h72 : _ = some _ := hI.2.1 72 (by decide) (by decide)
  have h73 : _ = some _ := hI.2.1 73 (by decide) (by decide)
  refine v_iload_n rfl rfl ?_
  refine v_iconst (v := 0) rfl (by decide) ?_
  refine v_iconst (v := 5) rfl (by decide) ?_
  refine v_callS rfl (c_in a 0 5 w) rfl rfl rfl rfl rfl (by omega) (fun rv w1 hq => ?_)
  obtain ⟨rfl, rfl⟩ := hq
  by_cases ha : 0 ≤ a.toInt ∧ a.toInt < 6
  · obtain ⟨ha0, ha6⟩ := ha
    rw [pm_b_1 (show (0 : Int32).toInt ≤ a.toInt ∧ a.toInt ≤ (5 : Int32).toInt from ⟨ha0, by rw [i_5]; omega⟩)]
    refine v_if_ne rfl (fun _ => ?_) (fun h => absurd h (by decide))
    refine v_iload_n rfl rfl ?_
    refine v_iconst (v := 1) rfl (by decide) ?_
    refine v_icmp_lt rfl (fun t17 => ?_) (fun t17 => ?_)
    · refine v_aload_n rfl rfl ?_
      refine v_bipush (v := (-4)) rfl (by decide) ?_
      refine v_callV rfl (c_M_refuse (-4) (by unfold pm_isR; decide) hR hI) rfl rfl h59 rfl rfl (by omega) (fun rv w1 hq => ?_)
      obtain ⟨rfl, g1, g2⟩ := hq
      exact v_iret rfl (by show pm_PM _ _ _ _; unfold sp_silk; rw [if_neg (fun h => h ⟨ha0, ha6⟩), if_pos (by simp only [i_lt, i_le, i_eq, i_0, i_1, i_2, i_3, i_4, i_5, i_12, i_20, i_40, i_99, i_100, i_200, i_500, i_999, i_2000, i_3000, i_100000] at *; omega)]; exact ⟨rfl, g1, hh.tr g2⟩)
    · refine v_iload rfl rfl ?_
      refine v_if_ge rfl (fun t22 => ?_) (fun t22 => ?_)
      · refine v_iload_n rfl rfl ?_
        refine v_ldc (v := 100000) rfl (by decide) ?_
        refine v_icmp_gt rfl (fun t35 => ?_) (fun t35 => ?_)
        · refine v_aload_n rfl rfl ?_
          refine v_bipush (v := (-6)) rfl (by decide) ?_
          refine v_callV rfl (c_M_refuse (-6) (by unfold pm_isR; decide) hR hI) rfl rfl h59 rfl rfl (by omega) (fun rv w1 hq => ?_)
          obtain ⟨rfl, g1, g2⟩ := hq
          exact v_iret rfl (by show pm_PM _ _ _ _; unfold sp_silk; rw [if_neg (fun h => h ⟨ha0, ha6⟩), if_neg (by simp only [i_lt, i_le, i_eq, i_0, i_1, i_2, i_3, i_4, i_5, i_12, i_20, i_40, i_99, i_100, i_200, i_500, i_999, i_2000, i_3000, i_100000] at *; omega), if_pos (by simp only [i_lt, i_le, i_eq, i_0, i_1, i_2, i_3, i_4, i_5, i_12, i_20, i_40, i_99, i_100, i_200, i_500, i_999, i_2000, i_3000, i_100000] at *; omega)]; exact ⟨rfl, g1, hh.tr g2⟩)
        · refine v_iload rfl rfl ?_
          refine v_bipush (v := 40) rfl (by decide) ?_
          refine v_icmp_le rfl (fun t42 => ?_) (fun t42 => ?_)
          · refine v_iload_n rfl rfl ?_
            refine v_bipush (v := 100) rfl (by decide) ?_
            refine v_imul rfl ?_
            refine v_bipush (v := 100) rfl (by decide) ?_
            refine v_iload rfl rfl ?_
            refine v_iadd rfl ?_
            refine v_idiv rfl (i_100w (by simp only [i_lt, i_le, i_eq, i_0, i_1, i_2, i_3, i_4, i_5, i_12, i_20, i_40, i_99, i_100, i_200, i_500, i_999, i_2000, i_3000, i_100000] at *; omega) (by simp only [i_lt, i_le, i_eq, i_0, i_1, i_2, i_3, i_4, i_5, i_12, i_20, i_40, i_99, i_100, i_200, i_500, i_999, i_2000, i_3000, i_100000] at *; omega)) ?_
            refine v_istore rfl (Nat.le_of_ble_eq_true rfl) ?_
            refine v_iload_n rfl rfl ?_
            refine v_if_eq rfl (fun t65 => ?_) (fun t65 => ?_)
            · refine v_aload_n rfl rfl ?_
              refine v_get rfl h59 rfl ?_
              refine v_iload_n rfl rfl ?_
              refine v_dup2 rfl rfl ?_
              refine v_iaload rfl h71 (by rw [i_lt, i_0]; omega) (pm_gD (d := 0) (by rw [i_cl]; show a.toInt.toNat < (ga 9).length; rw [q9]; omega)) ?_
              refine v_iload rfl rfl ?_
              refine v_iadd rfl ?_
              refine v_iastore rfl h71 (by rw [i_lt, i_0]; omega) (by rw [i_cl]; show a.toInt.toNat < (ga 9).length; rw [q9]; omega) ?_
              refine v_forget (P := fun u => pm_IM gi (pm_uA ga 9 ((ga 9).set a.toNatClampNeg ((ga 9).getD a.toNatClampNeg 0 + g * 100 / (100 + wt)))) u ∧ pm_lo w u) ⟨hI.uA 71 9 (by decide +kernel) (by decide +kernel) (by decide +kernel) (by decide +kernel) (by decide +kernel) rfl, hh.set (by decide) _⟩ (fun w1 hw1 => ?_)
              obtain ⟨hI, hh⟩ := hw1
              refine v_iload rfl rfl ?_
              exact v_iret rfl (by first | (show pm_PM _ _ _ _; unfold sp_silk; rw [if_neg (fun h => h ⟨ha0, ha6⟩), if_neg (by simp only [i_lt, i_le, i_eq, i_0, i_1, i_2, i_3, i_4, i_5, i_12, i_20, i_40, i_99, i_100, i_200, i_500, i_999, i_2000, i_3000, i_100000] at *; omega), if_neg (by simp only [i_lt, i_le, i_eq, i_0, i_1, i_2, i_3, i_4, i_5, i_12, i_20, i_40, i_99, i_100, i_200, i_500, i_999, i_2000, i_3000, i_100000] at *; omega), if_pos t65]; exact ⟨rfl, hI, hh⟩) | (show pm_PM _ _ _ _; unfold sp_silk; rw [if_neg (fun h => h ⟨ha0, ha6⟩), if_neg (by simp only [i_lt, i_le, i_eq, i_0, i_1, i_2, i_3, i_4, i_5, i_12, i_20, i_40, i_99, i_100, i_200, i_500, i_999, i_2000, i_3000, i_100000] at *; omega), if_neg (by simp only [i_lt, i_le, i_eq, i_0, i_1, i_2, i_3, i_4, i_5, i_12, i_20, i_40, i_99, i_100, i_200, i_500, i_999, i_2000, i_3000, i_100000] at *; omega), if_neg t65]; exact ⟨rfl, hI, hh⟩))
            · refine v_aload_n rfl rfl ?_
              refine v_aload_n rfl rfl ?_
              refine v_get rfl h59 rfl ?_
              refine v_callV rfl (c_X12_lawAt (N := (gi 8).toInt.toNat) (i_nI n0) (by omega) hR hI (gi 5)) rfl rfl h59 rfl rfl (by omega) (fun rv w1 hq => ?_)
              obtain ⟨rfl, rfl⟩ := hq
              refine v_istore rfl (Nat.le_of_ble_eq_true rfl) ?_
              refine v_aload_n rfl rfl ?_
              refine v_get rfl h59 rfl ?_
              refine v_iload_n rfl rfl ?_
              refine v_dup2 rfl rfl ?_
              refine v_iaload rfl h72 (by rw [i_lt, i_0]; omega) (pm_gD (d := 0) (by rw [i_cl]; show a.toInt.toNat < (ga 10).length; rw [q10]; omega)) ?_
              refine v_iload rfl rfl ?_
              refine v_iadd rfl ?_
              refine v_iastore rfl h72 (by rw [i_lt, i_0]; omega) (by rw [i_cl]; show a.toInt.toNat < (ga 10).length; rw [q10]; omega) ?_
              refine v_forget (P := fun u => pm_IM gi (pm_uA ga 10 ((ga 10).set a.toNatClampNeg ((ga 10).getD a.toNatClampNeg 0 + g * 100 / (100 + wt)))) u ∧ pm_lo w u) ⟨hI.uA 72 10 (by decide +kernel) (by decide +kernel) (by decide +kernel) (by decide +kernel) (by decide +kernel) rfl, hh.set (by decide) _⟩ (fun w1 hw1 => ?_)
              obtain ⟨hI, hh⟩ := hw1
              obtain ⟨v4, v5, v6, v14, v35, v39, v40, v42, c4, c5, c6, c35, c42, h59⟩ := hI.2.1 59 (by decide) (by decide)
              have h68 : _ = some _ := hI.2.1 68 (by decide) (by decide)
              have h71 : _ = some _ := hI.2.1 71 (by decide) (by decide)
              have h72 : _ = some _ := hI.2.1 72 (by decide) (by decide)
              have h73 : _ = some _ := hI.2.1 73 (by decide) (by decide)
              refine v_aload_n rfl rfl ?_
              refine v_get rfl h59 rfl ?_
              refine v_iload_n rfl rfl ?_
              refine v_dup2 rfl rfl ?_
              refine v_iaload rfl h73 (by rw [i_lt, i_0]; omega) (pm_gD (d := 0) (by rw [i_cl]; show a.toInt.toNat < (ga 11).length; rw [q11]; omega)) ?_
              refine v_iload rfl rfl ?_
              refine v_if_ge rfl (fun t98 => ?_) (fun t98 => ?_)
              · refine v_iload rfl rfl ?_
                refine v_aload_n rfl rfl ?_
                refine v_get rfl h59 rfl ?_
                refine v_iload rfl rfl ?_
                refine v_iaload rfl h68 (by rw [i_lt, i_0]; simp only [i_le, i_0] at *; omega) (pm_gD (d := 0) (by rw [i_cl]; show _ < (ga 4).length; rw [q4]; simp only [i_le, i_0] at *; omega)) ?_
                refine v_imul rfl ?_
                refine v_sipush (v := 1000) rfl (by decide) ?_
                refine v_idiv rfl i_1000 ?_
                refine v_eqi (y := g * 100 / (100 + wt) * pm_th gi ga / 1000) (by
                  unfold pm_th
                  split
                  · first | exact (i_x0 _).symm | (exfalso; simp only [i_le, i_0] at *; omega)
                  · first | rfl | (exfalso; simp only [i_le, i_0] at *; omega)) ?_
                refine v_iadd rfl ?_
                refine v_iastore rfl h73 (by rw [i_lt, i_0]; omega) (by rw [i_cl]; show a.toInt.toNat < (ga 11).length; rw [q11]; omega) ?_
                refine v_forget (P := fun u => pm_IM gi (pm_uA (pm_uA ga 10 ((ga 10).set a.toNatClampNeg ((ga 10).getD a.toNatClampNeg 0 + g * 100 / (100 + wt)))) 11 ((ga 11).set a.toNatClampNeg ((ga 11).getD a.toNatClampNeg 0 + g * 100 / (100 + wt) * pm_th gi ga / 1000))) u ∧ pm_lo w u) ⟨hI.uA 73 11 (by decide +kernel) (by decide +kernel) (by decide +kernel) (by decide +kernel) (by decide +kernel) rfl, hh.set (by decide) _⟩ (fun w1 hw1 => ?_)
                obtain ⟨hI, hh⟩ := hw1
                refine v_goto rfl ?_
                refine v_iload rfl rfl ?_
                exact v_iret rfl (by first | (show pm_PM _ _ _ _; unfold sp_silk; rw [if_neg (fun h => h ⟨ha0, ha6⟩), if_neg (by simp only [i_lt, i_le, i_eq, i_0, i_1, i_2, i_3, i_4, i_5, i_12, i_20, i_40, i_99, i_100, i_200, i_500, i_999, i_2000, i_3000, i_100000] at *; omega), if_neg (by simp only [i_lt, i_le, i_eq, i_0, i_1, i_2, i_3, i_4, i_5, i_12, i_20, i_40, i_99, i_100, i_200, i_500, i_999, i_2000, i_3000, i_100000] at *; omega), if_pos t65]; exact ⟨rfl, hI, hh⟩) | (show pm_PM _ _ _ _; unfold sp_silk; rw [if_neg (fun h => h ⟨ha0, ha6⟩), if_neg (by simp only [i_lt, i_le, i_eq, i_0, i_1, i_2, i_3, i_4, i_5, i_12, i_20, i_40, i_99, i_100, i_200, i_500, i_999, i_2000, i_3000, i_100000] at *; omega), if_neg (by simp only [i_lt, i_le, i_eq, i_0, i_1, i_2, i_3, i_4, i_5, i_12, i_20, i_40, i_99, i_100, i_200, i_500, i_999, i_2000, i_3000, i_100000] at *; omega), if_neg t65]; exact ⟨rfl, hI, hh⟩))
              · refine v_iconst (v := 0) rfl (by decide) ?_
                refine v_goto rfl ?_
                refine v_eqi (y := g * 100 / (100 + wt) * pm_th gi ga / 1000) (by
                  unfold pm_th
                  split
                  · first | exact (i_x0 _).symm | (exfalso; simp only [i_le, i_0] at *; omega)
                  · first | rfl | (exfalso; simp only [i_le, i_0] at *; omega)) ?_
                refine v_iadd rfl ?_
                refine v_iastore rfl h73 (by rw [i_lt, i_0]; omega) (by rw [i_cl]; show a.toInt.toNat < (ga 11).length; rw [q11]; omega) ?_
                refine v_forget (P := fun u => pm_IM gi (pm_uA (pm_uA ga 10 ((ga 10).set a.toNatClampNeg ((ga 10).getD a.toNatClampNeg 0 + g * 100 / (100 + wt)))) 11 ((ga 11).set a.toNatClampNeg ((ga 11).getD a.toNatClampNeg 0 + g * 100 / (100 + wt) * pm_th gi ga / 1000))) u ∧ pm_lo w u) ⟨hI.uA 73 11 (by decide +kernel) (by decide +kernel) (by decide +kernel) (by decide +kernel) (by decide +kernel) rfl, hh.set (by decide) _⟩ (fun w1 hw1 => ?_)
                obtain ⟨hI, hh⟩ := hw1
                refine v_goto rfl ?_
                refine v_iload rfl rfl ?_
                exact v_iret rfl (by first | (show pm_PM _ _ _ _; unfold sp_silk; rw [if_neg (fun h => h ⟨ha0, ha6⟩), if_neg (by simp only [i_lt, i_le, i_eq, i_0, i_1, i_2, i_3, i_4, i_5, i_12, i_20, i_40, i_99, i_100, i_200, i_500, i_999, i_2000, i_3000, i_100000] at *; omega), if_neg (by simp only [i_lt, i_le, i_eq, i_0, i_1, i_2, i_3, i_4, i_5, i_12, i_20, i_40, i_99, i_100, i_200, i_500, i_999, i_2000, i_3000, i_100000] at *; omega), if_pos t65]; exact ⟨rfl, hI, hh⟩) | (show pm_PM _ _ _ _; unfold sp_silk; rw [if_neg (fun h => h ⟨ha0, ha6⟩), if_neg (by simp only [i_lt, i_le, i_eq, i_0, i_1, i_2, i_3, i_4, i_5, i_12, i_20, i_40, i_99, i_100, i_200, i_500, i_999, i_2000, i_3000, i_100000] at *; omega), if_neg (by simp only [i_lt, i_le, i_eq, i_0, i_1, i_2, i_3, i_4, i_5, i_12, i_20, i_40, i_99, i_100, i_200, i_500, i_999, i_2000, i_3000, i_100000] at *; omega), if_neg t65]; exact ⟨rfl, hI, hh⟩))
          · refine v_aload_n rfl rfl ?_
            refine v_bipush (v := (-6)) rfl (by decide) ?_
            refine v_callV rfl (c_M_refuse (-6) (by unfold pm_isR; decide) hR hI) rfl rfl h59 rfl rfl (by omega) (fun rv w1 hq => ?_)
            obtain ⟨rfl, g1, g2⟩ := hq
            exact v_iret rfl (by show pm_PM _ _ _ _; unfold sp_silk; rw [if_neg (fun h => h ⟨ha0, ha6⟩), if_neg (by simp only [i_lt, i_le, i_eq, i_0, i_1, i_2, i_3, i_4, i_5, i_12, i_20, i_40, i_99, i_100, i_200, i_500, i_999, i_2000, i_3000, i_100000] at *; omega), if_pos (by simp only [i_lt, i_le, i_eq, i_0, i_1, i_2, i_3, i_4, i_5, i_12, i_20, i_40, i_99, i_100, i_200, i_500, i_999, i_2000, i_3000, i_100000] at *; omega)]; exact ⟨rfl, g1, hh.tr g2⟩)
      · refine v_aload_n rfl rfl ?_
        refine v_bipush (v := (-4)) rfl (by decide) ?_
        refine v_callV rfl (c_M_refuse (-4) (by unfold pm_isR; decide) hR hI) rfl rfl h59 rfl rfl (by omega) (fun rv w1 hq => ?_)
        obtain ⟨rfl, g1, g2⟩ := hq
        exact v_iret rfl (by show pm_PM _ _ _ _; unfold sp_silk; rw [if_neg (fun h => h ⟨ha0, ha6⟩), if_pos (by simp only [i_lt, i_le, i_eq, i_0, i_1, i_2, i_3, i_4, i_5, i_12, i_20, i_40, i_99, i_100, i_200, i_500, i_999, i_2000, i_3000, i_100000] at *; omega)]; exact ⟨rfl, g1, hh.tr g2⟩)
  · rw [pm_b_0 (show ¬ ((0 : Int32).toInt ≤ a.toInt ∧ a.toInt ≤ (5 : Int32).toInt) from fun h => ha ⟨h.1, by have := h.2; rw [i_5] at this; omega⟩)]
    refine v_if_ne rfl (fun h => absurd rfl h) (fun _ => ?_)
    refine v_aload_n rfl rfl ?_
    refine v_iconst (v := (-1)) rfl (by decide) ?_
    refine v_callV rfl (c_M_refuse (-1) (by unfold pm_isR; decide) hR hI) rfl rfl h59 rfl rfl (by omega) (fun rv w1 hq => ?_)
    obtain ⟨rfl, g1, g2⟩ := hq
    exact v_iret rfl (by show pm_PM _ _ _ _; unfold sp_silk; rw [if_pos ha]; exact ⟨rfl, g1, hh.tr g2⟩)

