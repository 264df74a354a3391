noncomputable def sp_set (gi : Nat → Int32) (ga : Nat → List Int32) (k v : Int32) : pm_G := if ¬ (0 ≤ k.toInt ∧ k.toInt < 2) then pm_no gi ga (-2) else if k = 0 then (if v.toInt < 1 then pm_no gi ga (-4) else if 20 < v.toInt then pm_no gi ga (-6) else (gi 3, pm_uI gi 3 v, ga)) else (if v.toInt < 0 then pm_no gi ga (-4) else if 20 < v.toInt then pm_no gi ga (-6) else (gi 4, pm_uI gi 4 v, ga))
set_option maxRecDepth 100000 in
theorem c_X_set {sc : pm_S} {w : pm_W} {gi : Nat → Int32} {ga : Nat → List Int32} (k v : Int32) (hR : pm_Rg gi ga) (hI : pm_IX gi ga w) : pm_Mt sc 2 91 4 [.ref 0, .int k, .int v] w (pm_PX w (sp_set gi ga k v)) := by
  intro d hd
  show pm_V sc d 91 0 _ [] w _
  have hh : pm_hi w w := pm_hi.rf
  obtain ⟨v6, c6, h0⟩ := hI.2 0 (by decide)
  have h27 : _ = some _ := hI.2 27 (by decide)
  obtain ⟨v0, v1, v2, c0, c2, h32⟩ := hI.2 32 (by decide)
  refine v_iload_n rfl rfl ?_
  refine v_iconst (v := 2) rfl (by decide) ?_
  refine v_callS rfl (c_isPlace k 2 w) rfl rfl rfl rfl rfl (by omega) (fun rv w1 hq => ?_)
  obtain ⟨rfl, rfl⟩ := hq
  by_cases ha : 0 ≤ k.toInt ∧ k.toInt < 2
  · rw [pm_b_1 (show 0 ≤ k.toInt ∧ k.toInt < (2 : Int32).toInt from ha)]
    refine v_if_ne rfl (fun _ => ?_) (fun h => absurd h (by decide))
    rcases (show k = 0 ∨ k = 1 by simp only [i_eq, i_0, i_1] at *; omega) with rfl | rfl
    · refine v_iload_n rfl rfl ?_
      refine v_iload_n rfl rfl ?_
      refine v_if_ne rfl (fun h => absurd rfl h) (fun _ => ?_)
      refine v_iconst (v := 1) rfl (by decide) ?_
      refine v_goto rfl ?_
      refine v_icmp_ge rfl (fun t25 => ?_) (fun t25 => ?_)
      · refine v_iload_n rfl rfl ?_
        refine v_iload_n rfl rfl ?_
        refine v_if_ne rfl (fun h => absurd rfl h) (fun _ => ?_)
        refine v_bipush (v := 20) rfl (by decide) ?_
        refine v_goto rfl ?_
        refine v_icmp_le rfl (fun t47 => ?_) (fun t47 => ?_)
        · refine v_aload_n rfl rfl ?_
          refine v_get rfl h0 rfl ?_
          refine v_iconst (v := 0) rfl (by decide) ?_
          refine v_put rfl h32 rfl (Nat.le_of_ble_eq_true rfl) ?_
          refine v_forget (P := fun u => pm_IX gi ga u ∧ pm_hi w u) ⟨hI.set 32 (by decide) ⟨0, v1, v2, Or.inl rfl, c2, rfl⟩, hh.set (by decide) _⟩ (fun w1 hw1 => ?_)
          obtain ⟨hI, hh⟩ := hw1
          obtain ⟨v6, c6, h0⟩ := hI.2 0 (by decide)
          have h27 : _ = some _ := hI.2 27 (by decide)
          refine v_iload_n rfl rfl ?_
          refine v_if_ne rfl (fun h => absurd rfl h) (fun _ => ?_)
          refine v_aload_n rfl rfl ?_
          refine v_get rfl h0 rfl ?_
          refine v_get rfl h27 rfl ?_
          refine v_goto rfl ?_
          refine v_istore_n rfl (Nat.le_of_ble_eq_true rfl) ?_
          refine v_iload_n rfl rfl ?_
          refine v_if_ne rfl (fun h => absurd rfl h) (fun _ => ?_)
          refine v_aload_n rfl rfl ?_
          refine v_get rfl h0 rfl ?_
          refine v_iload_n rfl rfl ?_
          refine v_put rfl h27 rfl (Nat.le_of_ble_eq_true rfl) ?_
          refine v_forget (P := fun u => pm_IX (pm_uI gi 3 v) (ga) u ∧ pm_hi w u) ⟨hI.uI 27 3 (by decide +kernel) (by decide +kernel) rfl, hh.set (by decide) _⟩ (fun w1 hw1 => ?_)
          obtain ⟨hI, hh⟩ := hw1
          refine v_goto rfl ?_
          refine v_iload_n rfl rfl ?_
          exact v_iret rfl (by show pm_PX _ _ _ _; unfold sp_set; rw [if_neg (fun h => h (by decide)), if_pos rfl, if_neg (by simp only [i_lt, i_le, i_eq, i_0, i_1, i_2, i_3, i_4, i_5, i_12, i_20, i_40, i_99, i_100, i_200, i_500, i_999, i_2000, i_3000, i_100000] at *; omega), if_neg (by simp only [i_lt, i_le, i_eq, i_0, i_1, i_2, i_3, i_4, i_5, i_12, i_20, i_40, i_99, i_100, i_200, i_500, i_999, i_2000, i_3000, i_100000] at *; omega)]; exact ⟨rfl, hI, hh⟩)
        · refine v_aload_n rfl rfl ?_
          refine v_bipush (v := (-6)) rfl (by decide) ?_
          refine v_callV rfl (c_X_refuse (-6) (by unfold pm_isR; decide) hR hI) rfl rfl h0 rfl rfl (by omega) (fun rv w1 hq => ?_)
          obtain ⟨rfl, g1, g2⟩ := hq
          exact v_iret rfl (by show pm_PX _ _ _ _; unfold sp_set; rw [if_neg (fun h => h (by decide)), if_pos rfl, if_neg (by simp only [i_lt, i_le, i_eq, i_0, i_1, i_2, i_3, i_4, i_5, i_12, i_20, i_40, i_99, i_100, i_200, i_500, i_999, i_2000, i_3000, i_100000] at *; omega), if_pos (by simp only [i_lt, i_le, i_eq, i_0, i_1, i_2, i_3, i_4, i_5, i_12, i_20, i_40, i_99, i_100, i_200, i_500, i_999, i_2000, i_3000, i_100000] at *; omega)]; exact ⟨rfl, g1, hh.tr g2⟩)
      · refine v_aload_n rfl rfl ?_
        refine v_bipush (v := (-4)) rfl (by decide) ?_
        refine v_callV rfl (c_X_refuse (-4) (by unfold pm_isR; decide) hR hI) rfl rfl h0 rfl rfl (by omega) (fun rv w1 hq => ?_)
        obtain ⟨rfl, g1, g2⟩ := hq
        exact v_iret rfl (by show pm_PX _ _ _ _; unfold sp_set; rw [if_neg (fun h => h (by decide)), if_pos rfl, if_pos (by simp only [i_lt, i_le, i_eq, i_0, i_1, i_2, i_3, i_4, i_5, i_12, i_20, i_40, i_99, i_100, i_200, i_500, i_999, i_2000, i_3000, i_100000] at *; omega)]; exact ⟨rfl, g1, hh.tr g2⟩)
    · refine v_iload_n rfl rfl ?_
      refine v_iload_n rfl rfl ?_
      refine v_if_ne rfl (fun _ => ?_) (fun h => absurd h (by decide))
      refine v_iconst (v := 0) rfl (by decide) ?_
      refine v_icmp_ge rfl (fun t25 => ?_) (fun t25 => ?_)
      · refine v_iload_n rfl rfl ?_
        refine v_iload_n rfl rfl ?_
        refine v_if_ne rfl (fun _ => ?_) (fun h => absurd h (by decide))
        refine v_bipush (v := 20) rfl (by decide) ?_
        refine v_icmp_le rfl (fun t47 => ?_) (fun t47 => ?_)
        · refine v_aload_n rfl rfl ?_
          refine v_get rfl h0 rfl ?_
          refine v_iconst (v := 0) rfl (by decide) ?_
          refine v_put rfl h32 rfl (Nat.le_of_ble_eq_true rfl) ?_
          refine v_forget (P := fun u => pm_IX gi ga u ∧ pm_hi w u) ⟨hI.set 32 (by decide) ⟨0, v1, v2, Or.inl rfl, c2, rfl⟩, hh.set (by decide) _⟩ (fun w1 hw1 => ?_)
          obtain ⟨hI, hh⟩ := hw1
          obtain ⟨v6, c6, h0⟩ := hI.2 0 (by decide)
          have h27 : _ = some _ := hI.2 27 (by decide)
          refine v_iload_n rfl rfl ?_
          refine v_if_ne rfl (fun _ => ?_) (fun h => absurd h (by decide))
          refine v_aload_n rfl rfl ?_
          refine v_get rfl h0 rfl ?_
          refine v_get rfl h27 rfl ?_
          refine v_istore_n rfl (Nat.le_of_ble_eq_true rfl) ?_
          refine v_iload_n rfl rfl ?_
          refine v_if_ne rfl (fun _ => ?_) (fun h => absurd h (by decide))
          refine v_aload_n rfl rfl ?_
          refine v_get rfl h0 rfl ?_
          refine v_iload_n rfl rfl ?_
          refine v_put rfl h27 rfl (Nat.le_of_ble_eq_true rfl) ?_
          refine v_forget (P := fun u => pm_IX (pm_uI gi 4 v) (ga) u ∧ pm_hi w u) ⟨hI.uI 27 4 (by decide +kernel) (by decide +kernel) rfl, hh.set (by decide) _⟩ (fun w1 hw1 => ?_)
          obtain ⟨hI, hh⟩ := hw1
          refine v_iload_n rfl rfl ?_
          exact v_iret rfl (by show pm_PX _ _ _ _; unfold sp_set; rw [if_neg (fun h => h (by decide)), if_neg (by decide), if_neg (by simp only [i_lt, i_le, i_eq, i_0, i_1, i_2, i_3, i_4, i_5, i_12, i_20, i_40, i_99, i_100, i_200, i_500, i_999, i_2000, i_3000, i_100000] at *; omega), if_neg (by simp only [i_lt, i_le, i_eq, i_0, i_1, i_2, i_3, i_4, i_5, i_12, i_20, i_40, i_99, i_100, i_200, i_500, i_999, i_2000, i_3000, i_100000] at *; omega)]; exact ⟨rfl, hI, hh⟩)
        · refine v_aload_n rfl rfl ?_
          refine v_bipush (v := (-6)) rfl (by decide) ?_
          refine v_callV rfl (c_X_refuse (-6) (by unfold pm_isR; decide) hR hI) rfl rfl h0 rfl rfl (by omega) (fun rv w1 hq => ?_)
          obtain ⟨rfl, g1, g2⟩ := hq
          exact v_iret rfl (by show pm_PX _ _ _ _; unfold sp_set; rw [if_neg (fun h => h (by decide)), if_neg (by decide), if_neg (by simp only [i_lt, i_le, i_eq, i_0, i_1, i_2, i_3, i_4, i_5, i_12, i_20, i_40, i_99, i_100, i_200, i_500, i_999, i_2000, i_3000, i_100000] at *; omega), if_pos (by simp only [i_lt, i_le, i_eq, i_0, i_1, i_2, i_3, i_4, i_5, i_12, i_20, i_40, i_99, i_100, i_200, i_500, i_999, i_2000, i_3000, i_100000] at *; omega)]; exact ⟨rfl, g1, hh.tr g2⟩)
      · refine v_aload_n rfl rfl ?_
        refine v_bipush (v := (-4)) rfl (by decide) ?_
        refine v_callV rfl (c_X_refuse (-4) (by unfold pm_isR; decide) hR hI) rfl rfl h0 rfl rfl (by omega) (fun rv w1 hq => ?_)
        obtain ⟨rfl, g1, g2⟩ := hq
        exact v_iret rfl (by show pm_PX _ _ _ _; unfold sp_set; rw [if_neg (fun h => h (by decide)), if_neg (by decide), if_pos (by simp only [i_lt, i_le, i_eq, i_0, i_1, i_2, i_3, i_4, i_5, i_12, i_20, i_40, i_99, i_100, i_200, i_500, i_999, i_2000, i_3000, i_100000] at *; omega)]; exact ⟨rfl, g1, hh.tr g2⟩)
  · rw [pm_b_0 (show ¬ (0 ≤ k.toInt ∧ k.toInt < (2 : Int32).toInt) from ha)]
    refine v_if_ne rfl (fun h => absurd h (by decide)) (fun _ => ?_)
    refine v_aload_n rfl rfl ?_
    refine v_bipush (v := (-2)) rfl (by decide) ?_
    refine v_callV rfl (c_X_refuse (-2) (by unfold pm_isR; decide) hR hI) rfl rfl h0 rfl rfl (by omega) (fun rv w1 hq => ?_)
    obtain ⟨rfl, g1, g2⟩ := hq
    exact v_iret rfl (by show pm_PX _ _ _ _; unfold sp_set; rw [if_pos ha]; exact ⟨rfl, g1, hh.tr g2⟩)
set_option maxRecDepth 100000 in
theorem c_M_set {sc : pm_S} {w : pm_W} {gi : Nat → Int32} {ga : Nat → List Int32} (k v : Int32) (hR : pm_Rg gi ga) (hI : pm_IM gi ga w) : pm_Mt sc 1 160 4 [.ref 59, .int k, .int v] w (pm_PM w (sp_set gi ga k v)) := by
  intro d hd
  show pm_V sc d 160 0 _ [] w _
  have hh : pm_lo w w := pm_lo.rf
  obtain ⟨v4, v5, v6, v14, v35, v39, v40, v42, c4, c5, c6, c35, c42, h59⟩ := hI.2.1 59 (by decide) (by decide)
  refine v_iload_n rfl rfl ?_
  refine v_iconst (v := 0) rfl (by decide) ?_
  refine v_iconst (v := 1) rfl (by decide) ?_
  refine v_callS rfl (c_in k 0 1 w) rfl rfl rfl rfl rfl (by omega) (fun rv w1 hq => ?_)
  obtain ⟨rfl, rfl⟩ := hq
  by_cases ha : 0 ≤ k.toInt ∧ k.toInt < 2
  · rw [pm_b_1 (show (0 : Int32).toInt ≤ k.toInt ∧ k.toInt ≤ (1 : Int32).toInt from ⟨ha.1, by rw [i_1]; omega⟩)]
    refine v_if_ne rfl (fun _ => ?_) (fun h => absurd h (by decide))
    rcases (show k = 0 ∨ k = 1 by simp only [i_eq, i_0, i_1] at *; omega) with rfl | rfl
    · refine v_iload_n rfl rfl ?_
      refine v_iload_n rfl rfl ?_
      refine v_if_ne rfl (fun h => absurd rfl h) (fun _ => ?_)
      refine v_iconst (v := 1) rfl (by decide) ?_
      refine v_goto rfl ?_
      refine v_icmp_ge rfl (fun t26 => ?_) (fun t26 => ?_)
      · refine v_iload_n rfl rfl ?_
        refine v_bipush (v := 20) rfl (by decide) ?_
        refine v_icmp_le rfl (fun t39 => ?_) (fun t39 => ?_)
        · refine v_iload_n rfl rfl ?_
          refine v_if_ne rfl (fun h => absurd rfl h) (fun _ => ?_)
          refine v_aload_n rfl rfl ?_
          refine v_get rfl h59 rfl ?_
          refine v_goto rfl ?_
          refine v_istore_n rfl (Nat.le_of_ble_eq_true rfl) ?_
          refine v_aload_n rfl rfl ?_
          refine v_iload_n rfl rfl ?_
          refine v_if_ne rfl (fun h => absurd rfl h) (fun _ => ?_)
          refine v_iload_n rfl rfl ?_
          refine v_goto rfl ?_
          refine v_put rfl h59 rfl (Nat.le_of_ble_eq_true rfl) ?_
          refine v_forget (P := fun u => pm_IM (pm_uI gi 3 v) (ga) u ∧ pm_lo w u) ⟨hI.uI 59 3 (by decide +kernel) (by decide +kernel) (by decide +kernel) (by decide +kernel) (by decide +kernel) ⟨_, _, _, _, _, _, _, _, c4, c5, c6, c35, c42, rfl⟩, hh.set (by decide) _⟩ (fun w1 hw1 => ?_)
          obtain ⟨hI, hh⟩ := hw1
          obtain ⟨v4, v5, v6, v14, v35, v39, v40, v42, c4, c5, c6, c35, c42, h59⟩ := hI.2.1 59 (by decide) (by decide)
          refine v_aload_n rfl rfl ?_
          refine v_iload_n rfl rfl ?_
          refine v_iconst (v := 1) rfl (by decide) ?_
          refine v_icmp_ne rfl (fun _ => ?_) (fun h => absurd h (by decide))
          refine v_aload_n rfl rfl ?_
          refine v_get rfl h59 rfl ?_
          refine v_put rfl h59 rfl (Nat.le_of_ble_eq_true rfl) ?_
          refine v_forget (P := fun u => pm_IM (pm_uI gi 3 v) ga u ∧ pm_lo w u) ⟨hI.set 59 (by decide) (by decide) (by decide) (by decide) ⟨_, _, _, _, _, _, _, _, c4, c5, c6, c35, c42, rfl⟩, hh.set (by decide) _⟩ (fun w1 hw1 => ?_)
          obtain ⟨hI, hh⟩ := hw1
          refine v_iload_n rfl rfl ?_
          exact v_iret rfl (by show pm_PM _ _ _ _; unfold sp_set; rw [if_neg (fun h => h (by decide)), if_pos rfl, if_neg (by simp only [i_lt, i_le, i_eq, i_0, i_1, i_2, i_3, i_4, i_5, i_12, i_20, i_40, i_99, i_100, i_200, i_500, i_999, i_2000, i_3000, i_100000] at *; omega), if_neg (by simp only [i_lt, i_le, i_eq, i_0, i_1, i_2, i_3, i_4, i_5, i_12, i_20, i_40, i_99, i_100, i_200, i_500, i_999, i_2000, i_3000, i_100000] at *; omega)]; exact ⟨rfl, hI, hh⟩)
        · refine v_aload_n rfl rfl ?_
          refine v_bipush (v := (-6)) rfl (by decide) ?_
          refine v_callV rfl (c_M_refuse (-6) (by unfold pm_isR; decide) hR hI) rfl rfl h59 rfl rfl (by omega) (fun rv w1 hq => ?_)
          obtain ⟨rfl, g1, g2⟩ := hq
          exact v_iret rfl (by show pm_PM _ _ _ _; unfold sp_set; rw [if_neg (fun h => h (by decide)), if_pos rfl, if_neg (by simp only [i_lt, i_le, i_eq, i_0, i_1, i_2, i_3, i_4, i_5, i_12, i_20, i_40, i_99, i_100, i_200, i_500, i_999, i_2000, i_3000, i_100000] at *; omega), if_pos (by simp only [i_lt, i_le, i_eq, i_0, i_1, i_2, i_3, i_4, i_5, i_12, i_20, i_40, i_99, i_100, i_200, i_500, i_999, i_2000, i_3000, i_100000] at *; omega)]; exact ⟨rfl, g1, hh.tr g2⟩)
      · refine v_aload_n rfl rfl ?_
        refine v_bipush (v := (-4)) rfl (by decide) ?_
        refine v_callV rfl (c_M_refuse (-4) (by unfold pm_isR; decide) hR hI) rfl rfl h59 rfl rfl (by omega) (fun rv w1 hq => ?_)
        obtain ⟨rfl, g1, g2⟩ := hq
        exact v_iret rfl (by show pm_PM _ _ _ _; unfold sp_set; rw [if_neg (fun h => h (by decide)), if_pos rfl, if_pos (by simp only [i_lt, i_le, i_eq, i_0, i_1, i_2, i_3, i_4, i_5, i_12, i_20, i_40, i_99, i_100, i_200, i_500, i_999, i_2000, i_3000, i_100000] at *; omega)]; exact ⟨rfl, g1, hh.tr g2⟩)
    · refine v_iload_n rfl rfl ?_
      refine v_iload_n rfl rfl ?_
      refine v_if_ne rfl (fun _ => ?_) (fun h => absurd h (by decide))
      refine v_iconst (v := 0) rfl (by decide) ?_
      refine v_icmp_ge rfl (fun t26 => ?_) (fun t26 => ?_)
      · refine v_iload_n rfl rfl ?_
        refine v_bipush (v := 20) rfl (by decide) ?_
        refine v_icmp_le rfl (fun t39 => ?_) (fun t39 => ?_)
        · refine v_iload_n rfl rfl ?_
          refine v_if_ne rfl (fun _ => ?_) (fun h => absurd h (by decide))
          refine v_aload_n rfl rfl ?_
          refine v_get rfl h59 rfl ?_
          refine v_istore_n rfl (Nat.le_of_ble_eq_true rfl) ?_
          refine v_aload_n rfl rfl ?_
          refine v_iload_n rfl rfl ?_
          refine v_if_ne rfl (fun _ => ?_) (fun h => absurd h (by decide))
          refine v_aload_n rfl rfl ?_
          refine v_get rfl h59 rfl ?_
          refine v_put rfl h59 rfl (Nat.le_of_ble_eq_true rfl) ?_
          refine v_forget (P := fun u => pm_IM gi ga u ∧ pm_lo w u) ⟨hI.set 59 (by decide) (by decide) (by decide) (by decide) ⟨_, _, _, _, _, _, _, _, c4, c5, c6, c35, c42, rfl⟩, hh.set (by decide) _⟩ (fun w1 hw1 => ?_)
          obtain ⟨hI, hh⟩ := hw1
          obtain ⟨v4, v5, v6, v14, v35, v39, v40, v42, c4, c5, c6, c35, c42, h59⟩ := hI.2.1 59 (by decide) (by decide)
          refine v_aload_n rfl rfl ?_
          refine v_iload_n rfl rfl ?_
          refine v_iconst (v := 1) rfl (by decide) ?_
          refine v_icmp_ne rfl (fun h => absurd rfl h) (fun _ => ?_)
          refine v_iload_n rfl rfl ?_
          refine v_goto rfl ?_
          refine v_put rfl h59 rfl (Nat.le_of_ble_eq_true rfl) ?_
          refine v_forget (P := fun u => pm_IM (pm_uI gi 4 v) (ga) u ∧ pm_lo w u) ⟨hI.uI 59 4 (by decide +kernel) (by decide +kernel) (by decide +kernel) (by decide +kernel) (by decide +kernel) ⟨_, _, _, _, _, _, _, _, c4, c5, c6, c35, c42, rfl⟩, hh.set (by decide) _⟩ (fun w1 hw1 => ?_)
          obtain ⟨hI, hh⟩ := hw1
          refine v_iload_n rfl rfl ?_
          exact v_iret rfl (by show pm_PM _ _ _ _; unfold sp_set; rw [if_neg (fun h => h (by decide)), if_neg (by decide), if_neg (by simp only [i_lt, i_le, i_eq, i_0, i_1, i_2, i_3, i_4, i_5, i_12, i_20, i_40, i_99, i_100, i_200, i_500, i_999, i_2000, i_3000, i_100000] at *; omega), if_neg (by simp only [i_lt, i_le, i_eq, i_0, i_1, i_2, i_3, i_4, i_5, i_12, i_20, i_40, i_99, i_100, i_200, i_500, i_999, i_2000, i_3000, i_100000] at *; omega)]; exact ⟨rfl, hI, hh⟩)
        · refine v_aload_n rfl rfl ?_
          refine v_bipush (v := (-6)) rfl (by decide) ?_
          refine v_callV rfl (c_M_refuse (-6) (by unfold pm_isR; decide) hR hI) rfl rfl h59 rfl rfl (by omega) (fun rv w1 hq => ?_)
          obtain ⟨rfl, g1, g2⟩ := hq
          exact v_iret rfl (by show pm_PM _ _ _ _; unfold sp_set; rw [if_neg (fun h => h (by decide)), if_neg (by decide), if_neg (by simp only [i_lt, i_le, i_eq, i_0, i_1, i_2, i_3, i_4, i_5, i_12, i_20, i_40, i_99, i_100, i_200, i_500, i_999, i_2000, i_3000, i_100000] at *; omega), if_pos (by simp only [i_lt, i_le, i_eq, i_0, i_1, i_2, i_3, i_4, i_5, i_12, i_20, i_40, i_99, i_100, i_200, i_500, i_999, i_2000, i_3000, i_100000] at *; omega)]; exact ⟨rfl, g1, hh.tr g2⟩)
      · refine v_aload_n rfl rfl ?_
        refine v_bipush (v := (-4)) rfl (by decide) ?_
        refine v_callV rfl (c_M_refuse (-4) (by unfold pm_isR; decide) hR hI) rfl rfl h59 rfl rfl (by omega) (fun rv w1 hq => ?_)
        obtain ⟨rfl, g1, g2⟩ := hq
        exact v_iret rfl (by show pm_PM _ _ _ _; unfold sp_set; rw [if_neg (fun h => h (by decide)), if_neg (by decide), if_pos (by simp only [i_lt, i_le, i_eq, i_0, i_1, i_2, i_3, i_4, i_5, i_12, i_20, i_40, i_99, i_100, i_200, i_500, i_999, i_2000, i_3000, i_100000] at *; omega)]; exact ⟨rfl, g1, hh.tr g2⟩)
  · rw [pm_b_0 (show ¬ ((0 : Int32).toInt ≤ k.toInt ∧ k.toInt ≤ (1 : Int32).toInt) from fun h => ha ⟨h.1, by have := h.2; rw [i_1] at this; omega⟩)]
    refine v_if_ne rfl (fun h => absurd h (by decide)) (fun _ => ?_)
    refine v_aload_n rfl rfl ?_
    refine v_bipush (v := (-2)) rfl (by decide) ?_
    refine v_callV rfl (c_M_refuse (-2) (by unfold pm_isR; decide) hR hI) rfl rfl h59 rfl rfl (by omega) (fun rv w1 hq => ?_)
    obtain ⟨rfl, g1, g2⟩ := hq
    exact v_iret rfl (by show pm_PM _ _ _ _; unfold sp_set; rw [if_pos ha]; exact ⟨rfl, g1, hh.tr g2⟩)

