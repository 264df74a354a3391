theorem i_1 : (1 : Int32).toInt = 1 := rfl
theorem i_2 : (2 : Int32).toInt = 2 := rfl
theorem i_3 : (3 : Int32).toInt = 3 := rfl
theorem i_4 : (4 : Int32).toInt = 4 := rfl
theorem i_5 : (5 : Int32).toInt = 5 := rfl
theorem i_12 : (12 : Int32).toInt = 12 := rfl
theorem i_20 : (20 : Int32).toInt = 20 := rfl
theorem i_40 : (40 : Int32).toInt = 40 := rfl
theorem i_99 : (99 : Int32).toInt = 99 := rfl
theorem i_100 : (100 : Int32).toInt = 100 := rfl
theorem i_200 : (200 : Int32).toInt = 200 := rfl
theorem i_500 : (500 : Int32).toInt = 500 := rfl
theorem i_999 : (999 : Int32).toInt = 999 := rfl
theorem i_2000 : (2000 : Int32).toInt = 2000 := rfl
theorem i_3000 : (3000 : Int32).toInt = 3000 := rfl
theorem i_100000 : (100000 : Int32).toInt = 100000 := rfl
theorem i_cl (x : Int32) : x.toNatClampNeg = x.toInt.toNat := rfl
theorem i_succ_pred (x : Int32) : x + 1 - 1 = x := Int32.add_sub_cancel x 1
theorem pm_Rg.n0 {gi : Nat → Int32} {ga : Nat → List Int32} (h : pm_Rg gi ga) : pm_rng (gi 0) 1 20 := h.1
theorem pm_Rg.n1 {gi : Nat → Int32} {ga : Nat → List Int32} (h : pm_Rg gi ga) : pm_rng (gi 1) 1 20 := h.2.1
theorem pm_Rg.n2 {gi : Nat → Int32} {ga : Nat → List Int32} (h : pm_Rg gi ga) : pm_rng (gi 2) 1 20 := h.2.2.1
theorem pm_Rg.n3 {gi : Nat → Int32} {ga : Nat → List Int32} (h : pm_Rg gi ga) : pm_rng (gi 3) 1 20 := h.2.2.2.1
theorem pm_Rg.n4 {gi : Nat → Int32} {ga : Nat → List Int32} (h : pm_Rg gi ga) : pm_rng (gi 4) 0 20 := h.2.2.2.2.1
theorem pm_Rg.n5 {gi : Nat → Int32} {ga : Nat → List Int32} (h : pm_Rg gi ga) : pm_rng (gi 5) 0 3000 := h.2.2.2.2.2.1
theorem pm_Rg.n6 {gi : Nat → Int32} {ga : Nat → List Int32} (h : pm_Rg gi ga) : pm_rng (gi 6) (-9) 5 := h.2.2.2.2.2.2.1
theorem pm_Rg.n7 {gi : Nat → Int32} {ga : Nat → List Int32} (h : pm_Rg gi ga) : pm_rng (gi 7) 0 12 := h.2.2.2.2.2.2.2.1
theorem pm_Rg.n8 {gi : Nat → Int32} {ga : Nat → List Int32} (h : pm_Rg gi ga) : pm_rng (gi 8) 0 20 := h.2.2.2.2.2.2.2.2.1
theorem pm_Rg.l0 {gi : Nat → Int32} {ga : Nat → List Int32} (h : pm_Rg gi ga) : (ga 0).length = 12 := h.2.2.2.2.2.2.2.2.2.1.1
theorem pm_Rg.l1 {gi : Nat → Int32} {ga : Nat → List Int32} (h : pm_Rg gi ga) : (ga 1).length = 12 := h.2.2.2.2.2.2.2.2.2.1.2.1
theorem pm_Rg.l2 {gi : Nat → Int32} {ga : Nat → List Int32} (h : pm_Rg gi ga) : (ga 2).length = 12 := h.2.2.2.2.2.2.2.2.2.1.2.2.1
theorem pm_Rg.l3 {gi : Nat → Int32} {ga : Nat → List Int32} (h : pm_Rg gi ga) : (ga 3).length = 12 := h.2.2.2.2.2.2.2.2.2.1.2.2.2.1
theorem pm_Rg.l4 {gi : Nat → Int32} {ga : Nat → List Int32} (h : pm_Rg gi ga) : (ga 4).length = 20 := h.2.2.2.2.2.2.2.2.2.1.2.2.2.2.1
theorem pm_Rg.l5 {gi : Nat → Int32} {ga : Nat → List Int32} (h : pm_Rg gi ga) : (ga 5).length = 20 := h.2.2.2.2.2.2.2.2.2.1.2.2.2.2.2.1
theorem pm_Rg.l6 {gi : Nat → Int32} {ga : Nat → List Int32} (h : pm_Rg gi ga) : (ga 6).length = 20 := h.2.2.2.2.2.2.2.2.2.1.2.2.2.2.2.2.1
theorem pm_Rg.l7 {gi : Nat → Int32} {ga : Nat → List Int32} (h : pm_Rg gi ga) : (ga 7).length = 4 := h.2.2.2.2.2.2.2.2.2.1.2.2.2.2.2.2.2.1
theorem pm_Rg.l8 {gi : Nat → Int32} {ga : Nat → List Int32} (h : pm_Rg gi ga) : (ga 8).length = 4 := h.2.2.2.2.2.2.2.2.2.1.2.2.2.2.2.2.2.2.1
theorem pm_Rg.l9 {gi : Nat → Int32} {ga : Nat → List Int32} (h : pm_Rg gi ga) : (ga 9).length = 6 := h.2.2.2.2.2.2.2.2.2.1.2.2.2.2.2.2.2.2.2.1
theorem pm_Rg.l10 {gi : Nat → Int32} {ga : Nat → List Int32} (h : pm_Rg gi ga) : (ga 10).length = 6 := h.2.2.2.2.2.2.2.2.2.1.2.2.2.2.2.2.2.2.2.2.1
theorem pm_Rg.l11 {gi : Nat → Int32} {ga : Nat → List Int32} (h : pm_Rg gi ga) : (ga 11).length = 6 := h.2.2.2.2.2.2.2.2.2.1.2.2.2.2.2.2.2.2.2.2.2.1
theorem pm_Rg.l12 {gi : Nat → Int32} {ga : Nat → List Int32} (h : pm_Rg gi ga) : (ga 12).length = 7 := h.2.2.2.2.2.2.2.2.2.1.2.2.2.2.2.2.2.2.2.2.2.2.1
theorem pm_Rg.l13 {gi : Nat → Int32} {ga : Nat → List Int32} (h : pm_Rg gi ga) : (ga 13).length = 4 := h.2.2.2.2.2.2.2.2.2.1.2.2.2.2.2.2.2.2.2.2.2.2.2.1
theorem pm_Rg.l14 {gi : Nat → Int32} {ga : Nat → List Int32} (h : pm_Rg gi ga) : (ga 14).length = 4 := h.2.2.2.2.2.2.2.2.2.1.2.2.2.2.2.2.2.2.2.2.2.2.2.2
noncomputable def sp_order (gi : Nat → Int32) (ga : Nat → List Int32) (e l du : Int32) : pm_G := if (e.toInt < 1 ∨ l.toInt < 0 ∨ du.toInt < 0) then pm_no gi ga (-4) else if (99 < e.toInt ∨ 5 < l.toInt ∨ 2000 < du.toInt ∨ (gi 7).toInt = 12) then pm_no gi ga (-6) else (gi 7, pm_uI gi 7 (gi 7 + 1), pm_uA (pm_uA (pm_uA (pm_uA (ga) 0 ((ga 0).set (gi 7).toNatClampNeg (e))) 1 ((ga 1).set (gi 7).toNatClampNeg (l))) 2 ((ga 2).set (gi 7).toNatClampNeg (du))) 3 ((ga 3).set (gi 7).toNatClampNeg (-9)))
set_option maxRecDepth 100000 in
theorem c_X9_takeOrder {sc : pm_S} {w : pm_W} {gi : Nat → Int32} {ga : Nat → List Int32} (e l du : Int32) (hR : pm_Rg gi ga) (hb : (gi 7).toInt < 12) (hI : pm_IX gi ga w) : pm_Mt sc 0 54 5 [.ref 27, .int e, .int l, .int du] w (pm_PX w (gi 7, pm_uI gi 7 (gi 7 + 1), pm_uA (pm_uA (pm_uA (pm_uA (ga) 0 ((ga 0).set (gi 7).toNatClampNeg (e))) 1 ((ga 1).set (gi 7).toNatClampNeg (l))) 2 ((ga 2).set (gi 7).toNatClampNeg (du))) 3 ((ga 3).set (gi 7).toNatClampNeg (-9)))) := by
  intro d hd
  show pm_V sc d 54 0 _ [] w _
  have hh : pm_hi w w := pm_hi.rf
  obtain ⟨n0, n1⟩ := hR.n7
  have q0 := hR.l0
  have q1 := hR.l1
  have q2 := hR.l2
  have q3 := hR.l3
  have h27 : _ = some _ := hI.2 27 (by decide)
  have h28 : _ = some _ := hI.2 28 (by decide)
  have h29 : _ = some _ := hI.2 29 (by decide)
  have h30 : _ = some _ := hI.2 30 (by decide)
  have h31 : _ = some _ := hI.2 31 (by decide)
  refine v_aload_n rfl rfl ?_
  refine v_get rfl h27 rfl ?_
  refine v_istore rfl (Nat.le_of_ble_eq_true rfl) ?_
  refine v_aload_n rfl rfl ?_
  refine v_get rfl h27 rfl ?_
  refine v_iload rfl rfl ?_
  refine v_iload_n rfl rfl ?_
  refine v_iastore rfl h28 (by rw [i_lt, i_0]; omega) (by show (gi 7).toInt.toNat < (ga 0).length; rw [q0]; omega) ?_
  refine v_forget (P := fun u => pm_IX gi (pm_uA (ga) 0 ((ga 0).set (gi 7).toNatClampNeg (e))) u ∧ pm_hi w u) ⟨hI.uA 28 0 (by decide +kernel) (by decide +kernel) rfl, hh.set (by decide) _⟩ (fun w1 hw1 => ?_)
  obtain ⟨hI, hh⟩ := hw1
  have h27 : _ = some _ := hI.2 27 (by decide)
  have h28 : _ = some _ := hI.2 28 (by decide)
  have h29 : _ = some _ := hI.2 29 (by decide)
  have h30 : _ = some _ := hI.2 30 (by decide)
  have h31 : _ = some _ := hI.2 31 (by decide)
  refine v_aload_n rfl rfl ?_
  refine v_get rfl h27 rfl ?_
  refine v_iload rfl rfl ?_
  refine v_iload_n rfl rfl ?_
  refine v_iastore rfl h29 (by rw [i_lt, i_0]; omega) (by show (gi 7).toInt.toNat < (ga 1).length; rw [q1]; omega) ?_
  refine v_forget (P := fun u => pm_IX gi (pm_uA (pm_uA (ga) 0 ((ga 0).set (gi 7).toNatClampNeg (e))) 1 ((ga 1).set (gi 7).toNatClampNeg (l))) u ∧ pm_hi w u) ⟨hI.uA 29 1 (by decide +kernel) (by decide +kernel) rfl, hh.set (by decide) _⟩ (fun w1 hw1 => ?_)
  obtain ⟨hI, hh⟩ := hw1
  have h27 : _ = some _ := hI.2 27 (by decide)
  have h28 : _ = some _ := hI.2 28 (by decide)
  have h29 : _ = some _ := hI.2 29 (by decide)
  have h30 : _ = some _ := hI.2 30 (by decide)
  have h31 : _ = some _ := hI.2 31 (by decide)
  refine v_aload_n rfl rfl ?_
  refine v_get rfl h27 rfl ?_
  refine v_iload rfl rfl ?_
  refine v_iload_n rfl rfl ?_
  refine v_iastore rfl h30 (by rw [i_lt, i_0]; omega) (by show (gi 7).toInt.toNat < (ga 2).length; rw [q2]; omega) ?_
  refine v_forget (P := fun u => pm_IX gi (pm_uA (pm_uA (pm_uA (ga) 0 ((ga 0).set (gi 7).toNatClampNeg (e))) 1 ((ga 1).set (gi 7).toNatClampNeg (l))) 2 ((ga 2).set (gi 7).toNatClampNeg (du))) u ∧ pm_hi w u) ⟨hI.uA 30 2 (by decide +kernel) (by decide +kernel) rfl, hh.set (by decide) _⟩ (fun w1 hw1 => ?_)
  obtain ⟨hI, hh⟩ := hw1
  have h27 : _ = some _ := hI.2 27 (by decide)
  have h28 : _ = some _ := hI.2 28 (by decide)
  have h29 : _ = some _ := hI.2 29 (by decide)
  have h30 : _ = some _ := hI.2 30 (by decide)
  have h31 : _ = some _ := hI.2 31 (by decide)
  refine v_aload_n rfl rfl ?_
  refine v_get rfl h27 rfl ?_
  refine v_iload rfl rfl ?_
  refine v_bipush (v := (-9)) rfl (by decide) ?_
  refine v_iastore rfl h31 (by rw [i_lt, i_0]; omega) (by show (gi 7).toInt.toNat < (ga 3).length; rw [q3]; omega) ?_
  refine v_forget (P := fun u => pm_IX gi (pm_uA (pm_uA (pm_uA (pm_uA (ga) 0 ((ga 0).set (gi 7).toNatClampNeg (e))) 1 ((ga 1).set (gi 7).toNatClampNeg (l))) 2 ((ga 2).set (gi 7).toNatClampNeg (du))) 3 ((ga 3).set (gi 7).toNatClampNeg (-9))) u ∧ pm_hi w u) ⟨hI.uA 31 3 (by decide +kernel) (by decide +kernel) rfl, hh.set (by decide) _⟩ (fun w1 hw1 => ?_)
  obtain ⟨hI, hh⟩ := hw1
  have h27 : _ = some _ := hI.2 27 (by decide)
  have h28 : _ = some _ := hI.2 28 (by decide)
  have h29 : _ = some _ := hI.2 29 (by decide)
  have h30 : _ = some _ := hI.2 30 (by decide)
  have h31 : _ = some _ := hI.2 31 (by decide)
  refine v_aload_n rfl rfl ?_
  refine v_dup rfl rfl ?_
  refine v_get rfl h27 rfl ?_
  refine v_iconst (v := 1) rfl (by decide) ?_
  refine v_iadd rfl ?_
  refine v_put rfl h27 rfl (Nat.le_of_ble_eq_true rfl) ?_
  refine v_forget (P := fun u => pm_IX (pm_uI gi 7 (gi 7 + 1)) (pm_uA (pm_uA (pm_uA (pm_uA (ga) 0 ((ga 0).set (gi 7).toNatClampNeg (e))) 1 ((ga 1).set (gi 7).toNatClampNeg (l))) 2 ((ga 2).set (gi 7).toNatClampNeg (du))) 3 ((ga 3).set (gi 7).toNatClampNeg (-9))) u ∧ pm_hi w u) ⟨hI.uI 27 7 (by decide +kernel) (by decide +kernel) rfl, hh.set (by decide) _⟩ (fun w1 hw1 => ?_)
  obtain ⟨hI, hh⟩ := hw1
  refine v_iload rfl rfl ?_
  exact v_iret rfl ⟨rfl, hI, hh⟩
set_option maxRecDepth 100000 in
theorem c_X_order {sc : pm_S} {w : pm_W} {gi : Nat → Int32} {ga : Nat → List Int32} (e l du : Int32) (hR : pm_Rg gi ga) (hI : pm_IX gi ga w) : pm_Mt sc 2 92 4 [.ref 0, .int e, .int l, .int du] w (pm_PX w (sp_order gi ga e l du)) := by
  intro d hd
  show pm_V sc d 92 0 _ [] w _
  have hh : pm_hi w w := pm_hi.rf
  obtain ⟨n0, n1⟩ := hR.n7
  obtain ⟨v6, c6, h0⟩ := hI.2 0 (by decide)
  have h27 : _ = some _ := hI.2 27 (by decide)
  obtain ⟨v0, v1, v2, c0, c2, h32⟩ := hI.2 32 (by decide)
  refine v_iload_n rfl rfl ?_
  refine v_iconst (v := 1) rfl (by decide) ?_
  refine v_icmp_lt rfl (fun t2 => ?_) (fun t2 => ?_)
  · refine v_aload_n rfl rfl ?_
    refine v_bipush (v := (-4)) rfl (by decide) ?_
    refine v_callV rfl (c_X_refuse (-4) (by unfold pm_isR; decide) hR hI) rfl rfl h0 rfl rfl (by omega) (fun rv w1 hq => ?_)
    obtain ⟨rfl, g1, g2⟩ := hq
    exact v_iret rfl (by show pm_PX _ _ _ _; unfold sp_order; rw [if_pos (by simp only [i_lt, i_le, i_eq, i_0, i_1, i_2, i_3, i_4, i_5, i_12, i_20, i_40, i_99, i_100, i_200, i_500, i_999, i_2000, i_3000, i_100000] at *; omega)]; exact ⟨rfl, g1, hh.tr g2⟩)
  · refine v_iload_n rfl rfl ?_
    refine v_if_lt rfl (fun t6 => ?_) (fun t6 => ?_)
    · refine v_aload_n rfl rfl ?_
      refine v_bipush (v := (-4)) rfl (by decide) ?_
      refine v_callV rfl (c_X_refuse (-4) (by unfold pm_isR; decide) hR hI) rfl rfl h0 rfl rfl (by omega) (fun rv w1 hq => ?_)
      obtain ⟨rfl, g1, g2⟩ := hq
      exact v_iret rfl (by show pm_PX _ _ _ _; unfold sp_order; rw [if_pos (by simp only [i_lt, i_le, i_eq, i_0, i_1, i_2, i_3, i_4, i_5, i_12, i_20, i_40, i_99, i_100, i_200, i_500, i_999, i_2000, i_3000, i_100000] at *; omega)]; exact ⟨rfl, g1, hh.tr g2⟩)
    · refine v_iload_n rfl rfl ?_
      refine v_if_ge rfl (fun t10 => ?_) (fun t10 => ?_)
      · refine v_iload_n rfl rfl ?_
        refine v_bipush (v := 99) rfl (by decide) ?_
        refine v_icmp_gt rfl (fun t23 => ?_) (fun t23 => ?_)
        · refine v_aload_n rfl rfl ?_
          refine v_bipush (v := (-6)) rfl (by decide) ?_
          refine v_callV rfl (c_X_refuse (-6) (by unfold pm_isR; decide) hR hI) rfl rfl h0 rfl rfl (by omega) (fun rv w1 hq => ?_)
          obtain ⟨rfl, g1, g2⟩ := hq
          exact v_iret rfl (by show pm_PX _ _ _ _; unfold sp_order; rw [if_neg (by simp only [i_lt, i_le, i_eq, i_0, i_1, i_2, i_3, i_4, i_5, i_12, i_20, i_40, i_99, i_100, i_200, i_500, i_999, i_2000, i_3000, i_100000] at *; omega), if_pos (by simp only [i_lt, i_le, i_eq, i_0, i_1, i_2, i_3, i_4, i_5, i_12, i_20, i_40, i_99, i_100, i_200, i_500, i_999, i_2000, i_3000, i_100000] at *; omega)]; exact ⟨rfl, g1, hh.tr g2⟩)
        · refine v_iload_n rfl rfl ?_
          refine v_iconst (v := 5) rfl (by decide) ?_
          refine v_icmp_gt rfl (fun t28 => ?_) (fun t28 => ?_)
          · refine v_aload_n rfl rfl ?_
            refine v_bipush (v := (-6)) rfl (by decide) ?_
            refine v_callV rfl (c_X_refuse (-6) (by unfold pm_isR; decide) hR hI) rfl rfl h0 rfl rfl (by omega) (fun rv w1 hq => ?_)
            obtain ⟨rfl, g1, g2⟩ := hq
            exact v_iret rfl (by show pm_PX _ _ _ _; unfold sp_order; rw [if_neg (by simp only [i_lt, i_le, i_eq, i_0, i_1, i_2, i_3, i_4, i_5, i_12, i_20, i_40, i_99, i_100, i_200, i_500, i_999, i_2000, i_3000, i_100000] at *; omega), if_pos (by simp only [i_lt, i_le, i_eq, i_0, i_1, i_2, i_3, i_4, i_5, i_12, i_20, i_40, i_99, i_100, i_200, i_500, i_999, i_2000, i_3000, i_100000] at *; omega)]; exact ⟨rfl, g1, hh.tr g2⟩)
          · refine v_iload_n rfl rfl ?_
            refine v_sipush (v := 2000) rfl (by decide) ?_
            refine v_icmp_le rfl (fun t35 => ?_) (fun t35 => ?_)
            · refine v_aload_n rfl rfl ?_
              refine v_get rfl h0 rfl ?_
              refine v_get rfl h27 rfl ?_
              refine v_bipush (v := 12) rfl (by decide) ?_
              refine v_icmp_lt rfl (fun t54 => ?_) (fun t54 => ?_)
              · refine v_aload_n rfl rfl ?_
                refine v_get rfl h0 rfl ?_
                refine v_iconst (v := 0) rfl (by decide) ?_
                refine v_put rfl h32 rfl (Nat.le_of_ble_eq_true rfl) ?_
                refine v_forget (P := fun u => pm_IX gi ga u ∧ pm_hi w u) ⟨hI.set 32 (by decide) ⟨0, v1, v2, Or.inl rfl, c2, rfl⟩, hh.set (by decide) _⟩ (fun w1 hw1 => ?_)
                obtain ⟨hI, hh⟩ := hw1
                obtain ⟨v6, c6, h0⟩ := hI.2 0 (by decide)
                have h27 : _ = some _ := hI.2 27 (by decide)
                refine v_aload_n rfl rfl ?_
                refine v_get rfl h0 rfl ?_
                refine v_iload_n rfl rfl ?_
                refine v_iload_n rfl rfl ?_
                refine v_iload_n rfl rfl ?_
                refine v_callV rfl (c_X9_takeOrder e l du hR (by simp only [i_lt, i_le, i_eq, i_0, i_1, i_2, i_3, i_4, i_5, i_12, i_20, i_40, i_99, i_100, i_200, i_500, i_999, i_2000, i_3000, i_100000] at *; omega) hI) rfl rfl h27 rfl rfl (by omega) (fun rv w1 hq => ?_)
                obtain ⟨rfl, g1, g2⟩ := hq
                exact v_iret rfl (by show pm_PX _ _ _ _; unfold sp_order; rw [if_neg (by simp only [i_lt, i_le, i_eq, i_0, i_1, i_2, i_3, i_4, i_5, i_12, i_20, i_40, i_99, i_100, i_200, i_500, i_999, i_2000, i_3000, i_100000] at *; omega), if_neg (by simp only [i_lt, i_le, i_eq, i_0, i_1, i_2, i_3, i_4, i_5, i_12, i_20, i_40, i_99, i_100, i_200, i_500, i_999, i_2000, i_3000, i_100000] at *; omega)]; exact ⟨rfl, g1, hh.tr g2⟩)
              · refine v_aload_n rfl rfl ?_
                refine v_bipush (v := (-6)) rfl (by decide) ?_
                refine v_callV rfl (c_X_refuse (-6) (by unfold pm_isR; decide) hR hI) rfl rfl h0 rfl rfl (by omega) (fun rv w1 hq => ?_)
                obtain ⟨rfl, g1, g2⟩ := hq
                exact v_iret rfl (by show pm_PX _ _ _ _; unfold sp_order; rw [if_neg (by simp only [i_lt, i_le, i_eq, i_0, i_1, i_2, i_3, i_4, i_5, i_12, i_20, i_40, i_99, i_100, i_200, i_500, i_999, i_2000, i_3000, i_100000] at *; omega), if_pos (by simp only [i_lt, i_le, i_eq, i_0, i_1, i_2, i_3, i_4, i_5, i_12, i_20, i_40, i_99, i_100, i_200, i_500, i_999, i_2000, i_3000, i_100000] at *; omega)]; exact ⟨rfl, g1, hh.tr g2⟩)
            · refine v_aload_n rfl rfl ?_
              refine v_bipush (v := (-6)) rfl (by decide) ?_
              refine v_callV rfl (c_X_refuse (-6) (by unfold pm_isR; decide) hR hI) rfl rfl h0 rfl rfl (by omega) (fun rv w1 hq => ?_)
              obtain ⟨rfl, g1, g2⟩ := hq
              exact v_iret rfl (by show pm_PX _ _ _ _; unfold sp_order; rw [if_neg (by simp only [i_lt, i_le, i_eq, i_0, i_1, i_2, i_3, i_4, i_5, i_12, i_20, i_40, i_99, i_100, i_200, i_500, i_999, i_2000, i_3000, i_100000] at *; omega), if_pos (by simp only [i_lt, i_le, i_eq, i_0, i_1, i_2, i_3, i_4, i_5, i_12, i_20, i_40, i_99, i_100, i_200, i_500, i_999, i_2000, i_3000, i_100000] at *; omega)]; exact ⟨rfl, g1, hh.tr g2⟩)
      · refine v_aload_n rfl rfl ?_
        refine v_bipush (v := (-4)) rfl (by decide) ?_
        refine v_callV rfl (c_X_refuse (-4) (by unfold pm_isR; decide) hR hI) rfl rfl h0 rfl rfl (by omega) (fun rv w1 hq => ?_)
        obtain ⟨rfl, g1, g2⟩ := hq
        exact v_iret rfl (by show pm_PX _ _ _ _; unfold sp_order; rw [if_pos (by simp only [i_lt, i_le, i_eq, i_0, i_1, i_2, i_3, i_4, i_5, i_12, i_20, i_40, i_99, i_100, i_200, i_500, i_999, i_2000, i_3000, i_100000] at *; omega)]; exact ⟨rfl, g1, hh.tr g2⟩)
set_option maxRecDepth 100000 in
theorem c_M_order {sc : pm_S} {w : pm_W} {gi : Nat → Int32} {ga : Nat → List Int32} (e l du : Int32) (hR : pm_Rg gi ga) (hI : pm_IM gi ga w) : pm_Mt sc 1 161 4 [.ref 59, .int e, .int l, .int du] w (pm_PM w (sp_order gi ga e l du)) := by
  intro d hd
  show pm_V sc d 161 0 _ [] w _
  have hh : pm_lo w w := pm_lo.rf
  obtain ⟨n0, n1⟩ := hR.n7
  have q0 := hR.l0
  have q1 := hR.l1
  have q2 := hR.l2
  have q3 := hR.l3
  obtain ⟨v4, v5, v6, v14, v35, v39, v40, v42, c4, c5, c6, c35, c42, h59⟩ := hI.2.1 59 (by decide) (by decide)
  have h64 : _ = some _ := hI.2.1 64 (by decide) (by decide)
  have h65 : _ = some _ := hI.2.1 65 (by decide) (by decide)
  have h66 : _ = some _ := hI.2.1 66 (by decide) (by decide)
  have h67 : _ = some _ := hI.2.1 67 (by decide) (by decide)
  refine v_iload_n rfl rfl ?_
  refine v_iconst (v := 1) rfl (by decide) ?_
  refine v_icmp_lt rfl (fun t2 => ?_) (fun t2 => ?_)
  · refine v_aload_n rfl rfl ?_
    refine v_bipush (v := (-4)) rfl (by decide) ?_
    refine v_callV rfl (c_M_refuse (-4) (by unfold pm_isR; decide) hR hI) rfl rfl h59 rfl rfl (by omega) (fun rv w1 hq => ?_)
    obtain ⟨rfl, g1, g2⟩ := hq
    exact v_iret rfl (by show pm_PM _ _ _ _; unfold sp_order; rw [if_pos (by simp only [i_lt, i_le, i_eq, i_0, i_1, i_2, i_3, i_4, i_5, i_12, i_20, i_40, i_99, i_100, i_200, i_500, i_999, i_2000, i_3000, i_100000] at *; omega)]; exact ⟨rfl, g1, hh.tr g2⟩)
  · refine v_iload_n rfl rfl ?_
    refine v_if_lt rfl (fun t6 => ?_) (fun t6 => ?_)
    · refine v_aload_n rfl rfl ?_
      refine v_bipush (v := (-4)) rfl (by decide) ?_
      refine v_callV rfl (c_M_refuse (-4) (by unfold pm_isR; decide) hR hI) rfl rfl h59 rfl rfl (by omega) (fun rv w1 hq => ?_)
      obtain ⟨rfl, g1, g2⟩ := hq
      exact v_iret rfl (by show pm_PM _ _ _ _; unfold sp_order; rw [if_pos (by simp only [i_lt, i_le, i_eq, i_0, i_1, i_2, i_3, i_4, i_5, i_12, i_20, i_40, i_99, i_100, i_200, i_500, i_999, i_2000, i_3000, i_100000] at *; omega)]; exact ⟨rfl, g1, hh.tr g2⟩)
    · refine v_iload_n rfl rfl ?_
      refine v_if_ge rfl (fun t10 => ?_) (fun t10 => ?_)
      · refine v_iload_n rfl rfl ?_
        refine v_bipush (v := 99) rfl (by decide) ?_
        refine v_icmp_gt rfl (fun t23 => ?_) (fun t23 => ?_)
        · refine v_aload_n rfl rfl ?_
          refine v_bipush (v := (-6)) rfl (by decide) ?_
          refine v_callV rfl (c_M_refuse (-6) (by unfold pm_isR; decide) hR hI) rfl rfl h59 rfl rfl (by omega) (fun rv w1 hq => ?_)
          obtain ⟨rfl, g1, g2⟩ := hq
          exact v_iret rfl (by show pm_PM _ _ _ _; unfold sp_order; rw [if_neg (by simp only [i_lt, i_le, i_eq, i_0, i_1, i_2, i_3, i_4, i_5, i_12, i_20, i_40, i_99, i_100, i_200, i_500, i_999, i_2000, i_3000, i_100000] at *; omega), if_pos (by simp only [i_lt, i_le, i_eq, i_0, i_1, i_2, i_3, i_4, i_5, i_12, i_20, i_40, i_99, i_100, i_200, i_500, i_999, i_2000, i_3000, i_100000] at *; omega)]; exact ⟨rfl, g1, hh.tr g2⟩)
        · refine v_iload_n rfl rfl ?_
          refine v_iconst (v := 5) rfl (by decide) ?_
          refine v_icmp_gt rfl (fun t28 => ?_) (fun t28 => ?_)
          · refine v_aload_n rfl rfl ?_
            refine v_bipush (v := (-6)) rfl (by decide) ?_
            refine v_callV rfl (c_M_refuse (-6) (by unfold pm_isR; decide) hR hI) rfl rfl h59 rfl rfl (by omega) (fun rv w1 hq => ?_)
            obtain ⟨rfl, g1, g2⟩ := hq
            exact v_iret rfl (by show pm_PM _ _ _ _; unfold sp_order; rw [if_neg (by simp only [i_lt, i_le, i_eq, i_0, i_1, i_2, i_3, i_4, i_5, i_12, i_20, i_40, i_99, i_100, i_200, i_500, i_999, i_2000, i_3000, i_100000] at *; omega), if_pos (by simp only [i_lt, i_le, i_eq, i_0, i_1, i_2, i_3, i_4, i_5, i_12, i_20, i_40, i_99, i_100, i_200, i_500, i_999, i_2000, i_3000, i_100000] at *; omega)]; exact ⟨rfl, g1, hh.tr g2⟩)
          · refine v_iload_n rfl rfl ?_
            refine v_sipush (v := 2000) rfl (by decide) ?_
            refine v_icmp_gt rfl (fun t35 => ?_) (fun t35 => ?_)
            · refine v_aload_n rfl rfl ?_
              refine v_bipush (v := (-6)) rfl (by decide) ?_
              refine v_callV rfl (c_M_refuse (-6) (by unfold pm_isR; decide) hR hI) rfl rfl h59 rfl rfl (by omega) (fun rv w1 hq => ?_)
              obtain ⟨rfl, g1, g2⟩ := hq
              exact v_iret rfl (by show pm_PM _ _ _ _; unfold sp_order; rw [if_neg (by simp only [i_lt, i_le, i_eq, i_0, i_1, i_2, i_3, i_4, i_5, i_12, i_20, i_40, i_99, i_100, i_200, i_500, i_999, i_2000, i_3000, i_100000] at *; omega), if_pos (by simp only [i_lt, i_le, i_eq, i_0, i_1, i_2, i_3, i_4, i_5, i_12, i_20, i_40, i_99, i_100, i_200, i_500, i_999, i_2000, i_3000, i_100000] at *; omega)]; exact ⟨rfl, g1, hh.tr g2⟩)
            · refine v_aload_n rfl rfl ?_
              refine v_get rfl h59 rfl ?_
              refine v_bipush (v := 12) rfl (by decide) ?_
              refine v_icmp_ne rfl (fun t44 => ?_) (fun t44 => ?_)
              · have hb : (gi 7).toInt < 12 := (by simp only [i_lt, i_le, i_eq, i_0, i_1, i_2, i_3, i_4, i_5, i_12, i_20, i_40, i_99, i_100, i_200, i_500, i_999, i_2000, i_3000, i_100000] at *; omega)
                refine v_aload_n rfl rfl ?_
                refine v_get rfl h59 rfl ?_
                refine v_aload_n rfl rfl ?_
                refine v_get rfl h59 rfl ?_
                refine v_iload_n rfl rfl ?_
                refine v_iastore rfl h64 (by rw [i_lt, i_0]; omega) (by show (gi 7).toInt.toNat < (ga 0).length; rw [q0]; omega) ?_
                refine v_forget (P := fun u => pm_IM gi (pm_uA (ga) 0 ((ga 0).set (gi 7).toNatClampNeg (e))) u ∧ pm_lo w u) ⟨hI.uA 64 0 (by decide +kernel) (by decide +kernel) (by decide +kernel) (by decide +kernel) (by decide +kernel) rfl, hh.set (by decide) _⟩ (fun w1 hw1 => ?_)
                obtain ⟨hI, hh⟩ := hw1
                obtain ⟨v4, v5, v6, v14, v35, v39, v40, v42, c4, c5, c6, c35, c42, h59⟩ := hI.2.1 59 (by decide) (by decide)
                have h64 : _ = some _ := hI.2.1 64 (by decide) (by decide)
                have h65 : _ = some _ := hI.2.1 65 (by decide) (by decide)
                have h66 : _ = some _ := hI.2.1 66 (by decide) (by decide)
                have h67 : _ = some _ := hI.2.1 67 (by decide) (by decide)
                refine v_aload_n rfl rfl ?_
                refine v_get rfl h59 rfl ?_
                refine v_aload_n rfl rfl ?_
                refine v_get rfl h59 rfl ?_
                refine v_iload_n rfl rfl ?_
                refine v_iastore rfl h65 (by rw [i_lt, i_0]; omega) (by show (gi 7).toInt.toNat < (ga 1).length; rw [q1]; omega) ?_
                refine v_forget (P := fun u => pm_IM gi (pm_uA (pm_uA (ga) 0 ((ga 0).set (gi 7).toNatClampNeg (e))) 1 ((ga 1).set (gi 7).toNatClampNeg (l))) u ∧ pm_lo w u) ⟨hI.uA 65 1 (by decide +kernel) (by decide +kernel) (by decide +kernel) (by decide +kernel) (by decide +kernel) rfl, hh.set (by decide) _⟩ (fun w1 hw1 => ?_)
                obtain ⟨hI, hh⟩ := hw1
                obtain ⟨v4, v5, v6, v14, v35, v39, v40, v42, c4, c5, c6, c35, c42, h59⟩ := hI.2.1 59 (by decide) (by decide)
                have h64 : _ = some _ := hI.2.1 64 (by decide) (by decide)
                have h65 : _ = some _ := hI.2.1 65 (by decide) (by decide)
                have h66 : _ = some _ := hI.2.1 66 (by decide) (by decide)
                have h67 : _ = some _ := hI.2.1 67 (by decide) (by decide)
                refine v_aload_n rfl rfl ?_
                refine v_get rfl h59 rfl ?_
                refine v_aload_n rfl rfl ?_
                refine v_get rfl h59 rfl ?_
                refine v_iload_n rfl rfl ?_
                refine v_iastore rfl h66 (by rw [i_lt, i_0]; omega) (by show (gi 7).toInt.toNat < (ga 2).length; rw [q2]; omega) ?_
                refine v_forget (P := fun u => pm_IM gi (pm_uA (pm_uA (pm_uA (ga) 0 ((ga 0).set (gi 7).toNatClampNeg (e))) 1 ((ga 1).set (gi 7).toNatClampNeg (l))) 2 ((ga 2).set (gi 7).toNatClampNeg (du))) u ∧ pm_lo w u) ⟨hI.uA 66 2 (by decide +kernel) (by decide +kernel) (by decide +kernel) (by decide +kernel) (by decide +kernel) rfl, hh.set (by decide) _⟩ (fun w1 hw1 => ?_)
                obtain ⟨hI, hh⟩ := hw1
                obtain ⟨v4, v5, v6, v14, v35, v39, v40, v42, c4, c5, c6, c35, c42, h59⟩ := hI.2.1 59 (by decide) (by decide)
                have h64 : _ = some _ := hI.2.1 64 (by decide) (by decide)
                have h65 : _ = some _ := hI.2.1 65 (by decide) (by decide)
                have h66 : _ = some _ := hI.2.1 66 (by decide) (by decide)
                have h67 : _ = some _ := hI.2.1 67 (by decide) (by decide)
                refine v_aload_n rfl rfl ?_
                refine v_get rfl h59 rfl ?_
                refine v_aload_n rfl rfl ?_
                refine v_get rfl h59 rfl ?_
                refine v_bipush (v := (-9)) rfl (by decide) ?_
                refine v_iastore rfl h67 (by rw [i_lt, i_0]; omega) (by show (gi 7).toInt.toNat < (ga 3).length; rw [q3]; omega) ?_
                refine v_forget (P := fun u => pm_IM gi (pm_uA (pm_uA (pm_uA (pm_uA (ga) 0 ((ga 0).set (gi 7).toNatClampNeg (e))) 1 ((ga 1).set (gi 7).toNatClampNeg (l))) 2 ((ga 2).set (gi 7).toNatClampNeg (du))) 3 ((ga 3).set (gi 7).toNatClampNeg (-9))) u ∧ pm_lo w u) ⟨hI.uA 67 3 (by decide +kernel) (by decide +kernel) (by decide +kernel) (by decide +kernel) (by decide +kernel) rfl, hh.set (by decide) _⟩ (fun w1 hw1 => ?_)
                obtain ⟨hI, hh⟩ := hw1
                obtain ⟨v4, v5, v6, v14, v35, v39, v40, v42, c4, c5, c6, c35, c42, h59⟩ := hI.2.1 59 (by decide) (by decide)
                have h64 : _ = some _ := hI.2.1 64 (by decide) (by decide)
                have h65 : _ = some _ := hI.2.1 65 (by decide) (by decide)
                have h66 : _ = some _ := hI.2.1 66 (by decide) (by decide)
                have h67 : _ = some _ := hI.2.1 67 (by decide) (by decide)
                refine v_aload_n rfl rfl ?_
                refine v_dup rfl rfl ?_
                refine v_get rfl h59 rfl ?_
                refine v_iconst (v := 1) rfl (by decide) ?_
                refine v_iadd rfl ?_
                refine v_put rfl h59 rfl (Nat.le_of_ble_eq_true rfl) ?_
                refine v_forget (P := fun u => pm_IM (pm_uI gi 7 (gi 7 + 1)) (pm_uA (pm_uA (pm_uA (pm_uA (ga) 0 ((ga 0).set (gi 7).toNatClampNeg (e))) 1 ((ga 1).set (gi 7).toNatClampNeg (l))) 2 ((ga 2).set (gi 7).toNatClampNeg (du))) 3 ((ga 3).set (gi 7).toNatClampNeg (-9))) u ∧ pm_lo w u) ⟨hI.uI 59 7 (by decide +kernel) (by decide +kernel) (by decide +kernel) (by decide +kernel) (by decide +kernel) ⟨_, _, _, _, _, _, _, _, c4, c5, c6, c35, c42, rfl⟩, hh.set (by decide) _⟩ (fun w1 hw1 => ?_)
                obtain ⟨hI, hh⟩ := hw1
                obtain ⟨v4, v5, v6, v14, v35, v39, v40, v42, c4, c5, c6, c35, c42, h59⟩ := hI.2.1 59 (by decide) (by decide)
                refine v_aload_n rfl rfl ?_
                refine v_get rfl h59 rfl ?_
                refine v_iconst (v := 1) rfl (by decide) ?_
                refine v_isub rfl ?_
                refine v_forget (P := fun u => pm_IM (pm_uI gi 7 (gi 7 + 1)) (pm_uA (pm_uA (pm_uA (pm_uA (ga) 0 ((ga 0).set (gi 7).toNatClampNeg (e))) 1 ((ga 1).set (gi 7).toNatClampNeg (l))) 2 ((ga 2).set (gi 7).toNatClampNeg (du))) 3 ((ga 3).set (gi 7).toNatClampNeg (-9))) u ∧ pm_lo w u) ⟨hI, hh⟩ (fun w1 hw1 => ?_)
                obtain ⟨hI, hh⟩ := hw1
                exact v_iret rfl (by show pm_PM _ _ _ _; rw [show pm_uI gi 7 (gi 7 + 1) 7 = gi 7 + 1 from rfl, i_succ_pred]; unfold sp_order; rw [if_neg (by simp only [i_lt, i_le, i_eq, i_0, i_1, i_2, i_3, i_4, i_5, i_12, i_20, i_40, i_99, i_100, i_200, i_500, i_999, i_2000, i_3000, i_100000] at *; omega), if_neg (by simp only [i_lt, i_le, i_eq, i_0, i_1, i_2, i_3, i_4, i_5, i_12, i_20, i_40, i_99, i_100, i_200, i_500, i_999, i_2000, i_3000, i_100000] at *; omega)]; exact ⟨rfl, hI, hh⟩)
              · refine v_aload_n rfl rfl ?_
                refine v_bipush (v := (-6)) rfl (by decide) ?_
                refine v_callV rfl (c_M_refuse (-6) (by unfold pm_isR; decide) hR hI) rfl rfl h59 rfl rfl (by omega) (fun rv w1 hq => ?_)
                obtain ⟨rfl, g1, g2⟩ := hq
                exact v_iret rfl (by show pm_PM _ _ _ _; unfold sp_order; rw [if_neg (by simp only [i_lt, i_le, i_eq, i_0, i_1, i_2, i_3, i_4, i_5, i_12, i_20, i_40, i_99, i_100, i_200, i_500, i_999, i_2000, i_3000, i_100000] at *; omega), if_pos (by simp only [i_lt, i_le, i_eq, i_0, i_1, i_2, i_3, i_4, i_5, i_12, i_20, i_40, i_99, i_100, i_200, i_500, i_999, i_2000, i_3000, i_100000] at *; omega)]; exact ⟨rfl, g1, hh.tr g2⟩)
      · refine v_aload_n rfl rfl ?_
        refine v_bipush (v := (-4)) rfl (by decide) ?_
        refine v_callV rfl (c_M_refuse (-4) (by unfold pm_isR; decide) hR hI) rfl rfl h59 rfl rfl (by omega) (fun rv w1 hq => ?_)
        obtain ⟨rfl, g1, g2⟩ := hq
        exact v_iret rfl (by show pm_PM _ _ _ _; unfold sp_order; rw [if_pos (by simp only [i_lt, i_le, i_eq, i_0, i_1, i_2, i_3, i_4, i_5, i_12, i_20, i_40, i_99, i_100, i_200, i_500, i_999, i_2000, i_3000, i_100000] at *; omega)]; exact ⟨rfl, g1, hh.tr g2⟩)
noncomputable def sp_law (gi : Nat → Int32) (ga : Nat → List Int32) (wa pr da : Int32) : pm_G := if (wa.toInt < 0 ∨ pr.toInt < 0 ∨ da.toInt < (gi 5).toInt) then pm_no gi ga (-4) else if (200 < wa.toInt ∨ 999 < pr.toInt ∨ 3000 < da.toInt ∨ (gi 8).toInt = 20) then pm_no gi ga (-6) else (gi 8, pm_uI gi 8 (gi 8 + 1), pm_uA (pm_uA (pm_uA (ga) 4 ((ga 4).set (gi 8).toNatClampNeg (wa))) 5 ((ga 5).set (gi 8).toNatClampNeg (pr))) 6 ((ga 6).set (gi 8).toNatClampNeg (da)))
set_option maxRecDepth 100000 in
theorem c_X7_give {sc : pm_S} {w : pm_W} {gi : Nat → Int32} {ga : Nat → List Int32} (wa pr da : Int32) (hR : pm_Rg gi ga) (hb : (gi 8).toInt < 20) (hI : pm_IX gi ga w) : pm_Mt sc 0 42 5 [.ref 37, .int wa, .int pr, .int da] w (pm_PX w (gi 8, pm_uI gi 8 (gi 8 + 1), pm_uA (pm_uA (pm_uA (ga) 4 ((ga 4).set (gi 8).toNatClampNeg (wa))) 5 ((ga 5).set (gi 8).toNatClampNeg (pr))) 6 ((ga 6).set (gi 8).toNatClampNeg (da)))) := by
  intro d hd
  show pm_V sc d 42 0 _ [] w _
  have hh : pm_hi w w := pm_hi.rf
  obtain ⟨n0, n1⟩ := hR.n8
  have q4 := hR.l4
  have q5 := hR.l5
  have q6 := hR.l6
  have h37 : _ = some _ := hI.2 37 (by decide)
  have h38 : _ = some _ := hI.2 38 (by decide)
  have h39 : _ = some _ := hI.2 39 (by decide)
  have h40 : _ = some _ := hI.2 40 (by decide)
  refine v_aload_n rfl rfl ?_
  refine v_get rfl h37 rfl ?_
  refine v_istore rfl (Nat.le_of_ble_eq_true rfl) ?_
  refine v_aload_n rfl rfl ?_
  refine v_get rfl h37 rfl ?_
  refine v_iload rfl rfl ?_
  refine v_iload_n rfl rfl ?_
  refine v_iastore rfl h38 (by rw [i_lt, i_0]; omega) (by show (gi 8).toInt.toNat < (ga 4).length; rw [q4]; omega) ?_
  refine v_forget (P := fun u => pm_IX gi (pm_uA (ga) 4 ((ga 4).set (gi 8).toNatClampNeg (wa))) u ∧ pm_hi w u) ⟨hI.uA 38 4 (by decide +kernel) (by decide +kernel) rfl, hh.set (by decide) _⟩ (fun w1 hw1 => ?_)
  obtain ⟨hI, hh⟩ := hw1
  have h37 : _ = some _ := hI.2 37 (by decide)
  have h38 : _ = some _ := hI.2 38 (by decide)
  have h39 : _ = some _ := hI.2 39 (by decide)
  have h40 : _ = some _ := hI.2 40 (by decide)
  refine v_aload_n rfl rfl ?_
  refine v_get rfl h37 rfl ?_
  refine v_iload rfl rfl ?_
  refine v_iload_n rfl rfl ?_
  refine v_iastore rfl h39 (by rw [i_lt, i_0]; omega) (by show (gi 8).toInt.toNat < (ga 5).length; rw [q5]; omega) ?_
  refine v_forget (P := fun u => pm_IX gi (pm_uA (pm_uA (ga) 4 ((ga 4).set (gi 8).toNatClampNeg (wa))) 5 ((ga 5).set (gi 8).toNatClampNeg (pr))) u ∧ pm_hi w u) ⟨hI.uA 39 5 (by decide +kernel) (by decide +kernel) rfl, hh.set (by decide) _⟩ (fun w1 hw1 => ?_)
  obtain ⟨hI, hh⟩ := hw1
  have h37 : _ = some _ := hI.2 37 (by decide)
  have h38 : _ = some _ := hI.2 38 (by decide)
  have h39 : _ = some _ := hI.2 39 (by decide)
  have h40 : _ = some _ := hI.2 40 (by decide)
  refine v_aload_n rfl rfl ?_
  refine v_get rfl h37 rfl ?_
  refine v_iload rfl rfl ?_
  refine v_iload_n rfl rfl ?_
  refine v_iastore rfl h40 (by rw [i_lt, i_0]; omega) (by show (gi 8).toInt.toNat < (ga 6).length; rw [q6]; omega) ?_
  refine v_forget (P := fun u => pm_IX gi (pm_uA (pm_uA (pm_uA (ga) 4 ((ga 4).set (gi 8).toNatClampNeg (wa))) 5 ((ga 5).set (gi 8).toNatClampNeg (pr))) 6 ((ga 6).set (gi 8).toNatClampNeg (da))) u ∧ pm_hi w u) ⟨hI.uA 40 6 (by decide +kernel) (by decide +kernel) rfl, hh.set (by decide) _⟩ (fun w1 hw1 => ?_)
  obtain ⟨hI, hh⟩ := hw1
  have h37 : _ = some _ := hI.2 37 (by decide)
  have h38 : _ = some _ := hI.2 38 (by decide)
  have h39 : _ = some _ := hI.2 39 (by decide)
  have h40 : _ = some _ := hI.2 40 (by decide)
  refine v_aload_n rfl rfl ?_
  refine v_dup rfl rfl ?_
  refine v_get rfl h37 rfl ?_
  refine v_iconst (v := 1) rfl (by decide) ?_
  refine v_iadd rfl ?_
  refine v_put rfl h37 rfl (Nat.le_of_ble_eq_true rfl) ?_
  refine v_forget (P := fun u => pm_IX (pm_uI gi 8 (gi 8 + 1)) (pm_uA (pm_uA (pm_uA (ga) 4 ((ga 4).set (gi 8).toNatClampNeg (wa))) 5 ((ga 5).set (gi 8).toNatClampNeg (pr))) 6 ((ga 6).set (gi 8).toNatClampNeg (da))) u ∧ pm_hi w u) ⟨hI.uI 37 8 (by decide +kernel) (by decide +kernel) rfl, hh.set (by decide) _⟩ (fun w1 hw1 => ?_)
  obtain ⟨hI, hh⟩ := hw1
  refine v_iload rfl rfl ?_
  exact v_iret rfl ⟨rfl, hI, hh⟩
set_option maxRecDepth 100000 in
theorem c_X_law {sc : pm_S} {w : pm_W} {gi : Nat → Int32} {ga : Nat → List Int32} (wa pr da : Int32) (hR : pm_Rg gi ga) (hI : pm_IX gi ga w) : pm_Mt sc 2 97 4 [.ref 0, .int wa, .int pr, .int da] w (pm_PX w (sp_law gi ga wa pr da)) := by
  intro d hd
  show pm_V sc d 97 0 _ [] w _
  have hh : pm_hi w w := pm_hi.rf
  obtain ⟨n0, n1⟩ := hR.n8
  obtain ⟨v6, c6, h0⟩ := hI.2 0 (by decide)
  have h37 : _ = some _ := hI.2 37 (by decide)
  have h27 : _ = some _ := hI.2 27 (by decide)
  obtain ⟨v0, v1, v2, c0, c2, h32⟩ := hI.2 32 (by decide)
  refine v_iload_n rfl rfl ?_
  refine v_if_lt rfl (fun t1 => ?_) (fun t1 => ?_)
  · refine v_aload_n rfl rfl ?_
    refine v_bipush (v := (-4)) rfl (by decide) ?_
    refine v_callV rfl (c_X_refuse (-4) (by unfold pm_isR; decide) hR hI) rfl rfl h0 rfl rfl (by omega) (fun rv w1 hq => ?_)
    obtain ⟨rfl, g1, g2⟩ := hq
    exact v_iret rfl (by show pm_PX _ _ _ _; unfold sp_law; rw [if_pos (by simp only [i_lt, i_le, i_eq, i_0, i_1, i_2, i_3, i_4, i_5, i_12, i_20, i_40, i_99, i_100, i_200, i_500, i_999, i_2000, i_3000, i_100000] at *; omega)]; exact ⟨rfl, g1, hh.tr g2⟩)
  · refine v_iload_n rfl rfl ?_
    refine v_if_lt rfl (fun t5 => ?_) (fun t5 => ?_)
    · refine v_aload_n rfl rfl ?_
      refine v_bipush (v := (-4)) rfl (by decide) ?_
      refine v_callV rfl (c_X_refuse (-4) (by unfold pm_isR; decide) hR hI) rfl rfl h0 rfl rfl (by omega) (fun rv w1 hq => ?_)
      obtain ⟨rfl, g1, g2⟩ := hq
      exact v_iret rfl (by show pm_PX _ _ _ _; unfold sp_law; rw [if_pos (by simp only [i_lt, i_le, i_eq, i_0, i_1, i_2, i_3, i_4, i_5, i_12, i_20, i_40, i_99, i_100, i_200, i_500, i_999, i_2000, i_3000, i_100000] at *; omega)]; exact ⟨rfl, g1, hh.tr g2⟩)
    · refine v_iload_n rfl rfl ?_
      refine v_aload_n rfl rfl ?_
      refine v_get rfl h0 rfl ?_
      refine v_get rfl h27 rfl ?_
      refine v_icmp_ge rfl (fun t16 => ?_) (fun t16 => ?_)
      · refine v_iload_n rfl rfl ?_
        refine v_sipush (v := 200) rfl (by decide) ?_
        refine v_icmp_gt rfl (fun t30 => ?_) (fun t30 => ?_)
        · refine v_aload_n rfl rfl ?_
          refine v_bipush (v := (-6)) rfl (by decide) ?_
          refine v_callV rfl (c_X_refuse (-6) (by unfold pm_isR; decide) hR hI) rfl rfl h0 rfl rfl (by omega) (fun rv w1 hq => ?_)
          obtain ⟨rfl, g1, g2⟩ := hq
          exact v_iret rfl (by show pm_PX _ _ _ _; unfold sp_law; rw [if_neg (by simp only [i_lt, i_le, i_eq, i_0, i_1, i_2, i_3, i_4, i_5, i_12, i_20, i_40, i_99, i_100, i_200, i_500, i_999, i_2000, i_3000, i_100000] at *; omega), if_pos (by simp only [i_lt, i_le, i_eq, i_0, i_1, i_2, i_3, i_4, i_5, i_12, i_20, i_40, i_99, i_100, i_200, i_500, i_999, i_2000, i_3000, i_100000] at *; omega)]; exact ⟨rfl, g1, hh.tr g2⟩)
        · refine v_iload_n rfl rfl ?_
          refine v_sipush (v := 999) rfl (by decide) ?_
          refine v_icmp_gt rfl (fun t37 => ?_) (fun t37 => ?_)
          · refine v_aload_n rfl rfl ?_
            refine v_bipush (v := (-6)) rfl (by decide) ?_
            refine v_callV rfl (c_X_refuse (-6) (by unfold pm_isR; decide) hR hI) rfl rfl h0 rfl rfl (by omega) (fun rv w1 hq => ?_)
            obtain ⟨rfl, g1, g2⟩ := hq
            exact v_iret rfl (by show pm_PX _ _ _ _; unfold sp_law; rw [if_neg (by simp only [i_lt, i_le, i_eq, i_0, i_1, i_2, i_3, i_4, i_5, i_12, i_20, i_40, i_99, i_100, i_200, i_500, i_999, i_2000, i_3000, i_100000] at *; omega), if_pos (by simp only [i_lt, i_le, i_eq, i_0, i_1, i_2, i_3, i_4, i_5, i_12, i_20, i_40, i_99, i_100, i_200, i_500, i_999, i_2000, i_3000, i_100000] at *; omega)]; exact ⟨rfl, g1, hh.tr g2⟩)
          · refine v_iload_n rfl rfl ?_
            refine v_sipush (v := 3000) rfl (by decide) ?_
            refine v_icmp_le rfl (fun t44 => ?_) (fun t44 => ?_)
            · refine v_aload_n rfl rfl ?_
              refine v_get rfl h0 rfl ?_
              refine v_get rfl h37 rfl ?_
              refine v_bipush (v := 20) rfl (by decide) ?_
              refine v_icmp_lt rfl (fun t63 => ?_) (fun t63 => ?_)
              · refine v_aload_n rfl rfl ?_
                refine v_get rfl h0 rfl ?_
                refine v_iload_n rfl rfl ?_
                refine v_iload_n rfl rfl ?_
                refine v_iload_n rfl rfl ?_
                refine v_callV rfl (c_X7_give wa pr da hR (by simp only [i_lt, i_le, i_eq, i_0, i_1, i_2, i_3, i_4, i_5, i_12, i_20, i_40, i_99, i_100, i_200, i_500, i_999, i_2000, i_3000, i_100000] at *; omega) hI) rfl rfl h37 rfl rfl (by omega) (fun rv w1 hq => ?_)
                obtain ⟨rfl, g1, g2⟩ := hq
                exact v_iret rfl (by show pm_PX _ _ _ _; unfold sp_law; rw [if_neg (by simp only [i_lt, i_le, i_eq, i_0, i_1, i_2, i_3, i_4, i_5, i_12, i_20, i_40, i_99, i_100, i_200, i_500, i_999, i_2000, i_3000, i_100000] at *; omega), if_neg (by simp only [i_lt, i_le, i_eq, i_0, i_1, i_2, i_3, i_4, i_5, i_12, i_20, i_40, i_99, i_100, i_200, i_500, i_999, i_2000, i_3000, i_100000] at *; omega)]; exact ⟨rfl, g1, hh.tr g2⟩)
              · refine v_aload_n rfl rfl ?_
                refine v_bipush (v := (-6)) rfl (by decide) ?_
                refine v_callV rfl (c_X_refuse (-6) (by unfold pm_isR; decide) hR hI) rfl rfl h0 rfl rfl (by omega) (fun rv w1 hq => ?_)
                obtain ⟨rfl, g1, g2⟩ := hq
                exact v_iret rfl (by show pm_PX _ _ _ _; unfold sp_law; rw [if_neg (by simp only [i_lt, i_le, i_eq, i_0, i_1, i_2, i_3, i_4, i_5, i_12, i_20, i_40, i_99, i_100, i_200, i_500, i_999, i_2000, i_3000, i_100000] at *; omega), if_pos (by simp only [i_lt, i_le, i_eq, i_0, i_1, i_2, i_3, i_4, i_5, i_12, i_20, i_40, i_99, i_100, i_200, i_500, i_999, i_2000, i_3000, i_100000] at *; omega)]; exact ⟨rfl, g1, hh.tr g2⟩)
            · refine v_aload_n rfl rfl ?_
              refine v_bipush (v := (-6)) rfl (by decide) ?_
              refine v_callV rfl (c_X_refuse (-6) (by unfold pm_isR; decide) hR hI) rfl rfl h0 rfl rfl (by omega) (fun rv w1 hq => ?_)
              obtain ⟨rfl, g1, g2⟩ := hq
              exact v_iret rfl (by show pm_PX _ _ _ _; unfold sp_law; rw [if_neg (by simp only [i_lt, i_le, i_eq, i_0, i_1, i_2, i_3, i_4, i_5, i_12, i_20, i_40, i_99, i_100, i_200, i_500, i_999, i_2000, i_3000, i_100000] at *; omega), if_pos (by simp only [i_lt, i_le, i_eq, i_0, i_1, i_2, i_3, i_4, i_5, i_12, i_20, i_40, i_99, i_100, i_200, i_500, i_999, i_2000, i_3000, i_100000] at *; omega)]; exact ⟨rfl, g1, hh.tr g2⟩)
      · refine v_aload_n rfl rfl ?_
        refine v_bipush (v := (-4)) rfl (by decide) ?_
        refine v_callV rfl (c_X_refuse (-4) (by unfold pm_isR; decide) hR hI) rfl rfl h0 rfl rfl (by omega) (fun rv w1 hq => ?_)
        obtain ⟨rfl, g1, g2⟩ := hq
        exact v_iret rfl (by show pm_PX _ _ _ _; unfold sp_law; rw [if_pos (by simp only [i_lt, i_le, i_eq, i_0, i_1, i_2, i_3, i_4, i_5, i_12, i_20, i_40, i_99, i_100, i_200, i_500, i_999, i_2000, i_3000, i_100000] at *; omega)]; exact ⟨rfl, g1, hh.tr g2⟩)
set_option maxRecDepth 100000 in
theorem c_M_law {sc : pm_S} {w : pm_W} {gi : Nat → Int32} {ga : Nat → List Int32} (wa pr da : Int32) (hR : pm_Rg gi ga) (hI : pm_IM gi ga w) : pm_Mt sc 1 171 4 [.ref 59, .int wa, .int pr, .int da] w (pm_PM w (sp_law gi ga wa pr da)) := by
  intro d hd
  show pm_V sc d 171 0 _ [] w _
  have hh : pm_lo w w := pm_lo.rf
  obtain ⟨n0, n1⟩ := hR.n8
  have q4 := hR.l4
  have q5 := hR.l5
  have q6 := hR.l6
  obtain ⟨v4, v5, v6, v14, v35, v39, v40, v42, c4, c5, c6, c35, c42, h59⟩ := hI.2.1 59 (by decide) (by decide)
  have h68 : _ = some _ := hI.2.1 68 (by decide) (by decide)
  have h69 : _ = some _ := hI.2.1 69 (by decide) (by decide)
  have h70 : _ = some _ := hI.2.1 70 (by decide) (by decide)
  refine v_iload_n rfl rfl ?_
  refine v_if_lt rfl (fun t1 => ?_) (fun t1 => ?_)
  · refine v_aload_n rfl rfl ?_
    refine v_bipush (v := (-4)) rfl (by decide) ?_
    refine v_callV rfl (c_M_refuse (-4) (by unfold pm_isR; decide) hR hI) rfl rfl h59 rfl rfl (by omega) (fun rv w1 hq => ?_)
    obtain ⟨rfl, g1, g2⟩ := hq
    exact v_iret rfl (by show pm_PM _ _ _ _; unfold sp_law; rw [if_pos (by simp only [i_lt, i_le, i_eq, i_0, i_1, i_2, i_3, i_4, i_5, i_12, i_20, i_40, i_99, i_100, i_200, i_500, i_999, i_2000, i_3000, i_100000] at *; omega)]; exact ⟨rfl, g1, hh.tr g2⟩)
  · refine v_iload_n rfl rfl ?_
    refine v_if_lt rfl (fun t5 => ?_) (fun t5 => ?_)
    · refine v_aload_n rfl rfl ?_
      refine v_bipush (v := (-4)) rfl (by decide) ?_
      refine v_callV rfl (c_M_refuse (-4) (by unfold pm_isR; decide) hR hI) rfl rfl h59 rfl rfl (by omega) (fun rv w1 hq => ?_)
      obtain ⟨rfl, g1, g2⟩ := hq
      exact v_iret rfl (by show pm_PM _ _ _ _; unfold sp_law; rw [if_pos (by simp only [i_lt, i_le, i_eq, i_0, i_1, i_2, i_3, i_4, i_5, i_12, i_20, i_40, i_99, i_100, i_200, i_500, i_999, i_2000, i_3000, i_100000] at *; omega)]; exact ⟨rfl, g1, hh.tr g2⟩)
    · refine v_iload_n rfl rfl ?_
      refine v_aload_n rfl rfl ?_
      refine v_get rfl h59 rfl ?_
      refine v_icmp_ge rfl (fun t13 => ?_) (fun t13 => ?_)
      · refine v_iload_n rfl rfl ?_
        refine v_sipush (v := 200) rfl (by decide) ?_
        refine v_icmp_gt rfl (fun t27 => ?_) (fun t27 => ?_)
        · refine v_aload_n rfl rfl ?_
          refine v_bipush (v := (-6)) rfl (by decide) ?_
          refine v_callV rfl (c_M_refuse (-6) (by unfold pm_isR; decide) hR hI) rfl rfl h59 rfl rfl (by omega) (fun rv w1 hq => ?_)
          obtain ⟨rfl, g1, g2⟩ := hq
          exact v_iret rfl (by show pm_PM _ _ _ _; unfold sp_law; rw [if_neg (by simp only [i_lt, i_le, i_eq, i_0, i_1, i_2, i_3, i_4, i_5, i_12, i_20, i_40, i_99, i_100, i_200, i_500, i_999, i_2000, i_3000, i_100000] at *; omega), if_pos (by simp only [i_lt, i_le, i_eq, i_0, i_1, i_2, i_3, i_4, i_5, i_12, i_20, i_40, i_99, i_100, i_200, i_500, i_999, i_2000, i_3000, i_100000] at *; omega)]; exact ⟨rfl, g1, hh.tr g2⟩)
        · refine v_iload_n rfl rfl ?_
          refine v_sipush (v := 999) rfl (by decide) ?_
          refine v_icmp_gt rfl (fun t34 => ?_) (fun t34 => ?_)
          · refine v_aload_n rfl rfl ?_
            refine v_bipush (v := (-6)) rfl (by decide) ?_
            refine v_callV rfl (c_M_refuse (-6) (by unfold pm_isR; decide) hR hI) rfl rfl h59 rfl rfl (by omega) (fun rv w1 hq => ?_)
            obtain ⟨rfl, g1, g2⟩ := hq
            exact v_iret rfl (by show pm_PM _ _ _ _; unfold sp_law; rw [if_neg (by simp only [i_lt, i_le, i_eq, i_0, i_1, i_2, i_3, i_4, i_5, i_12, i_20, i_40, i_99, i_100, i_200, i_500, i_999, i_2000, i_3000, i_100000] at *; omega), if_pos (by simp only [i_lt, i_le, i_eq, i_0, i_1, i_2, i_3, i_4, i_5, i_12, i_20, i_40, i_99, i_100, i_200, i_500, i_999, i_2000, i_3000, i_100000] at *; omega)]; exact ⟨rfl, g1, hh.tr g2⟩)
          · refine v_iload_n rfl rfl ?_
            refine v_sipush (v := 3000) rfl (by decide) ?_
            refine v_icmp_gt rfl (fun t41 => ?_) (fun t41 => ?_)
            · refine v_aload_n rfl rfl ?_
              refine v_bipush (v := (-6)) rfl (by decide) ?_
              refine v_callV rfl (c_M_refuse (-6) (by unfold pm_isR; decide) hR hI) rfl rfl h59 rfl rfl (by omega) (fun rv w1 hq => ?_)
              obtain ⟨rfl, g1, g2⟩ := hq
              exact v_iret rfl (by show pm_PM _ _ _ _; unfold sp_law; rw [if_neg (by simp only [i_lt, i_le, i_eq, i_0, i_1, i_2, i_3, i_4, i_5, i_12, i_20, i_40, i_99, i_100, i_200, i_500, i_999, i_2000, i_3000, i_100000] at *; omega), if_pos (by simp only [i_lt, i_le, i_eq, i_0, i_1, i_2, i_3, i_4, i_5, i_12, i_20, i_40, i_99, i_100, i_200, i_500, i_999, i_2000, i_3000, i_100000] at *; omega)]; exact ⟨rfl, g1, hh.tr g2⟩)
            · refine v_aload_n rfl rfl ?_
              refine v_get rfl h59 rfl ?_
              refine v_bipush (v := 20) rfl (by decide) ?_
              refine v_icmp_ne rfl (fun t50 => ?_) (fun t50 => ?_)
              · have hb : (gi 8).toInt < 20 := (by simp only [i_lt, i_le, i_eq, i_0, i_1, i_2, i_3, i_4, i_5, i_12, i_20, i_40, i_99, i_100, i_200, i_500, i_999, i_2000, i_3000, i_100000] at *; omega)
                refine v_aload_n rfl rfl ?_
                refine v_get rfl h59 rfl ?_
                refine v_aload_n rfl rfl ?_
                refine v_get rfl h59 rfl ?_
                refine v_iload_n rfl rfl ?_
                refine v_iastore rfl h68 (by rw [i_lt, i_0]; omega) (by show (gi 8).toInt.toNat < (ga 4).length; rw [q4]; omega) ?_
                refine v_forget (P := fun u => pm_IM gi (pm_uA (ga) 4 ((ga 4).set (gi 8).toNatClampNeg (wa))) u ∧ pm_lo w u) ⟨hI.uA 68 4 (by decide +kernel) (by decide +kernel) (by decide +kernel) (by decide +kernel) (by decide +kernel) rfl, hh.set (by decide) _⟩ (fun w1 hw1 => ?_)
                obtain ⟨hI, hh⟩ := hw1
                obtain ⟨v4, v5, v6, v14, v35, v39, v40, v42, c4, c5, c6, c35, c42, h59⟩ := hI.2.1 59 (by decide) (by decide)
                have h68 : _ = some _ := hI.2.1 68 (by decide) (by decide)
                have h69 : _ = some _ := hI.2.1 69 (by decide) (by decide)
                have h70 : _ = some _ := hI.2.1 70 (by decide) (by decide)
                refine v_aload_n rfl rfl ?_
                refine v_get rfl h59 rfl ?_
                refine v_aload_n rfl rfl ?_
                refine v_get rfl h59 rfl ?_
                refine v_iload_n rfl rfl ?_
                refine v_iastore rfl h69 (by rw [i_lt, i_0]; omega) (by show (gi 8).toInt.toNat < (ga 5).length; rw [q5]; omega) ?_
                refine v_forget (P := fun u => pm_IM gi (pm_uA (pm_uA (ga) 4 ((ga 4).set (gi 8).toNatClampNeg (wa))) 5 ((ga 5).set (gi 8).toNatClampNeg (pr))) u ∧ pm_lo w u) ⟨hI.uA 69 5 (by decide +kernel) (by decide +kernel) (by decide +kernel) (by decide +kernel) (by decide +kernel) rfl, hh.set (by decide) _⟩ (fun w1 hw1 => ?_)
                obtain ⟨hI, hh⟩ := hw1
                obtain ⟨v4, v5, v6, v14, v35, v39, v40, v42, c4, c5, c6, c35, c42, h59⟩ := hI.2.1 59 (by decide) (by decide)
                have h68 : _ = some _ := hI.2.1 68 (by decide) (by decide)
                have h69 : _ = some _ := hI.2.1 69 (by decide) (by decide)
                have h70 : _ = some _ := hI.2.1 70 (by decide) (by decide)
                refine v_aload_n rfl rfl ?_
                refine v_get rfl h59 rfl ?_
                refine v_aload_n rfl rfl ?_
                refine v_get rfl h59 rfl ?_
                refine v_iload_n rfl rfl ?_
                refine v_iastore rfl h70 (by rw [i_lt, i_0]; omega) (by show (gi 8).toInt.toNat < (ga 6).length; rw [q6]; omega) ?_
                refine v_forget (P := fun u => pm_IM gi (pm_uA (pm_uA (pm_uA (ga) 4 ((ga 4).set (gi 8).toNatClampNeg (wa))) 5 ((ga 5).set (gi 8).toNatClampNeg (pr))) 6 ((ga 6).set (gi 8).toNatClampNeg (da))) u ∧ pm_lo w u) ⟨hI.uA 70 6 (by decide +kernel) (by decide +kernel) (by decide +kernel) (by decide +kernel) (by decide +kernel) rfl, hh.set (by decide) _⟩ (fun w1 hw1 => ?_)
                obtain ⟨hI, hh⟩ := hw1
                obtain ⟨v4, v5, v6, v14, v35, v39, v40, v42, c4, c5, c6, c35, c42, h59⟩ := hI.2.1 59 (by decide) (by decide)
                have h68 : _ = some _ := hI.2.1 68 (by decide) (by decide)
                have h69 : _ = some _ := hI.2.1 69 (by decide) (by decide)
                have h70 : _ = some _ := hI.2.1 70 (by decide) (by decide)
                refine v_aload_n rfl rfl ?_
                refine v_dup rfl rfl ?_
                refine v_get rfl h59 rfl ?_
                refine v_iconst (v := 1) rfl (by decide) ?_
                refine v_iadd rfl ?_
                refine v_put rfl h59 rfl (Nat.le_of_ble_eq_true rfl) ?_
                refine v_forget (P := fun u => pm_IM (pm_uI gi 8 (gi 8 + 1)) (pm_uA (pm_uA (pm_uA (ga) 4 ((ga 4).set (gi 8).toNatClampNeg (wa))) 5 ((ga 5).set (gi 8).toNatClampNeg (pr))) 6 ((ga 6).set (gi 8).toNatClampNeg (da))) u ∧ pm_lo w u) ⟨hI.uI 59 8 (by decide +kernel) (by decide +kernel) (by decide +kernel) (by decide +kernel) (by decide +kernel) ⟨_, _, _, _, _, _, _, _, c4, c5, c6, c35, c42, rfl⟩, hh.set (by decide) _⟩ (fun w1 hw1 => ?_)
                obtain ⟨hI, hh⟩ := hw1
                obtain ⟨v4, v5, v6, v14, v35, v39, v40, v42, c4, c5, c6, c35, c42, h59⟩ := hI.2.1 59 (by decide) (by decide)
                refine v_aload_n rfl rfl ?_
                refine v_get rfl h59 rfl ?_
                refine v_iconst (v := 1) rfl (by decide) ?_
                refine v_isub rfl ?_
                refine v_forget (P := fun u => pm_IM (pm_uI gi 8 (gi 8 + 1)) (pm_uA (pm_uA (pm_uA (ga) 4 ((ga 4).set (gi 8).toNatClampNeg (wa))) 5 ((ga 5).set (gi 8).toNatClampNeg (pr))) 6 ((ga 6).set (gi 8).toNatClampNeg (da))) u ∧ pm_lo w u) ⟨hI, hh⟩ (fun w1 hw1 => ?_)
                obtain ⟨hI, hh⟩ := hw1
                exact v_iret rfl (by show pm_PM _ _ _ _; rw [show pm_uI gi 8 (gi 8 + 1) 8 = gi 8 + 1 from rfl, i_succ_pred]; unfold sp_law; rw [if_neg (by simp only [i_lt, i_le, i_eq, i_0, i_1, i_2, i_3, i_4, i_5, i_12, i_20, i_40, i_99, i_100, i_200, i_500, i_999, i_2000, i_3000, i_100000] at *; omega), if_neg (by simp only [i_lt, i_le, i_eq, i_0, i_1, i_2, i_3, i_4, i_5, i_12, i_20, i_40, i_99, i_100, i_200, i_500, i_999, i_2000, i_3000, i_100000] at *; omega)]; exact ⟨rfl, hI, hh⟩)
              · refine v_aload_n rfl rfl ?_
                refine v_bipush (v := (-6)) rfl (by decide) ?_
                refine v_callV rfl (c_M_refuse (-6) (by unfold pm_isR; decide) hR hI) rfl rfl h59 rfl rfl (by omega) (fun rv w1 hq => ?_)
                obtain ⟨rfl, g1, g2⟩ := hq
                exact v_iret rfl (by show pm_PM _ _ _ _; unfold sp_law; rw [if_neg (by simp only [i_lt, i_le, i_eq, i_0, i_1, i_2, i_3, i_4, i_5, i_12, i_20, i_40, i_99, i_100, i_200, i_500, i_999, i_2000, i_3000, i_100000] at *; omega), if_pos (by simp only [i_lt, i_le, i_eq, i_0, i_1, i_2, i_3, i_4, i_5, i_12, i_20, i_40, i_99, i_100, i_200, i_500, i_999, i_2000, i_3000, i_100000] at *; omega)]; exact ⟨rfl, g1, hh.tr g2⟩)
      · refine v_aload_n rfl rfl ?_
        refine v_bipush (v := (-4)) rfl (by decide) ?_
        refine v_callV rfl (c_M_refuse (-4) (by unfold pm_isR; decide) hR hI) rfl rfl h59 rfl rfl (by omega) (fun rv w1 hq => ?_)
        obtain ⟨rfl, g1, g2⟩ := hq
        exact v_iret rfl (by show pm_PM _ _ _ _; unfold sp_law; rw [if_pos (by simp only [i_lt, i_le, i_eq, i_0, i_1, i_2, i_3, i_4, i_5, i_12, i_20, i_40, i_99, i_100, i_200, i_500, i_999, i_2000, i_3000, i_100000] at *; omega)]; exact ⟨rfl, g1, hh.tr g2⟩)

