theorem v_forget {sc : pm_S} {d mi pc : Nat} {ls st : List Value} {w : pm_W} {Q : Option Value → pm_W → Prop} {P : pm_W → Prop} (h : P w) (k : ∀ w1, P w1 → pm_V sc d mi pc ls st w1 Q) : pm_V sc d mi pc ls st w Q := k w h
abbrev pm_G : Type := Int32 × (Nat → Int32) × (Nat → List Int32)
noncomputable def pm_no (gi : Nat → Int32) (ga : Nat → List Int32) (r : Int32) : pm_G := (r, gi, pm_rf ga r)
def pm_PX (w : pm_W) (g : pm_G) : Option Value → pm_W → Prop := fun rv w' => rv = some (.int g.1) ∧ pm_IX g.2.1 g.2.2 w' ∧ pm_hi w w'
def pm_PM (w : pm_W) (g : pm_G) : Option Value → pm_W → Prop := fun rv w' => rv = some (.int g.1) ∧ pm_IM g.2.1 g.2.2 w' ∧ pm_lo w w'
noncomputable def sp_limit (gi : Nat → Int32) (ga : Nat → List Int32) (n : Int32) : pm_G := if 1 ≤ n then (if n ≤ 20 then (gi 2, pm_uI gi 2 n, ga) else pm_no gi ga (-6)) else pm_no gi ga (-4)
set_option maxRecDepth 100000 in
theorem c_X_limit {sc : pm_S} {w : pm_W} {gi : Nat → Int32} {ga : Nat → List Int32} (n : Int32) (hR : pm_Rg gi ga) (hI : pm_IX gi ga w) : pm_Mt sc 2 82 3 [.ref 0, .int n] w (pm_PX w (sp_limit gi ga n)) := by
  intro d hd
  show pm_V sc d 82 0 _ [] w _
  have hh : pm_hi w w := pm_hi.rf
  obtain ⟨v6, c6, h0⟩ := hI.2 0 (by decide)
  refine v_iload_n rfl rfl ?_
  refine v_iconst (v := 1) rfl (by decide) ?_
  refine v_icmp_ge rfl (fun t2 => ?_) (fun t2 => ?_)
  · refine v_iload_n rfl rfl ?_
    refine v_bipush (v := 20) rfl (by decide) ?_
    refine v_icmp_le rfl (fun t15 => ?_) (fun t15 => ?_)
    · refine v_aload_n rfl rfl ?_
      refine v_get rfl h0 rfl ?_
      refine v_istore_n rfl (Nat.le_of_ble_eq_true rfl) ?_
      refine v_aload_n rfl rfl ?_
      refine v_iload_n rfl rfl ?_
      refine v_put rfl h0 rfl (Nat.le_of_ble_eq_true rfl) ?_
      refine v_iload_n rfl rfl ?_
      exact v_iret rfl (by simp only [sp_limit, t2, t15, ↓reduceIte]; exact ⟨rfl, hI.uI 0 2 (by decide +kernel) (by decide +kernel) ⟨v6, c6, rfl⟩, hh.set (by decide) _⟩)
    · refine v_aload_n rfl rfl ?_
      refine v_bipush (v := (-6)) rfl (by decide) ?_
      refine v_callV rfl (c_X_refuse (-6) (by unfold pm_isR; decide) hR hI) rfl rfl h0 rfl rfl (by omega) (fun rv w1 hq => ?_)
      obtain ⟨rfl, g1, g2⟩ := hq
      exact v_iret rfl (by simp only [sp_limit, t2, t15, ↓reduceIte]; exact ⟨rfl, g1, hh.tr g2⟩)
  · refine v_aload_n rfl rfl ?_
    refine v_bipush (v := (-4)) rfl (by decide) ?_
    refine v_callV rfl (c_X_refuse (-4) (by unfold pm_isR; decide) hR hI) rfl rfl h0 rfl rfl (by omega) (fun rv w1 hq => ?_)
    obtain ⟨rfl, g1, g2⟩ := hq
    exact v_iret rfl (by simp only [sp_limit, t2, ↓reduceIte]; exact ⟨rfl, g1, hh.tr g2⟩)
set_option maxRecDepth 100000 in
theorem c_M_limit {sc : pm_S} {w : pm_W} {gi : Nat → Int32} {ga : Nat → List Int32} (n : Int32) (hR : pm_Rg gi ga) (hI : pm_IM gi ga w) : pm_Mt sc 2 138 3 [.ref 59, .int n] w (pm_PM w (sp_limit gi ga n)) := by
  intro d hd
  show pm_V sc d 138 0 _ [] w _
  have hh : pm_lo w w := pm_lo.rf
  obtain ⟨v4, v5, v6, v14, v35, v39, v40, v42, c4, c5, c6, c35, c42, h59⟩ := hI.2.1 59 (by decide) (by decide)
  refine v_iload_n rfl rfl ?_
  refine v_iconst (v := 1) rfl (by decide) ?_
  refine v_icmp_ge rfl (fun t2 => ?_) (fun t2 => ?_)
  · refine v_iload_n rfl rfl ?_
    refine v_bipush (v := 20) rfl (by decide) ?_
    refine v_icmp_le rfl (fun t15 => ?_) (fun t15 => ?_)
    · refine v_aload_n rfl rfl ?_
      refine v_get rfl h59 rfl ?_
      refine v_istore_n rfl (Nat.le_of_ble_eq_true rfl) ?_
      refine v_aload_n rfl rfl ?_
      refine v_iload_n rfl rfl ?_
      refine v_put rfl h59 rfl (Nat.le_of_ble_eq_true rfl) ?_
      refine v_iload_n rfl rfl ?_
      exact v_iret rfl (by simp only [sp_limit, t2, t15, ↓reduceIte]; exact ⟨rfl, hI.uI 59 2 (by decide +kernel) (by decide +kernel) (by decide +kernel) (by decide +kernel) (by decide +kernel) ⟨_, _, _, _, _, _, _, _, c4, c5, c6, c35, c42, rfl⟩, hh.set (by decide) _⟩)
    · refine v_aload_n rfl rfl ?_
      refine v_bipush (v := (-6)) rfl (by decide) ?_
      refine v_callV rfl (c_M_refuse (-6) (by unfold pm_isR; decide) hR hI) rfl rfl h59 rfl rfl (by omega) (fun rv w1 hq => ?_)
      obtain ⟨rfl, g1, g2⟩ := hq
      exact v_iret rfl (by simp only [sp_limit, t2, t15, ↓reduceIte]; exact ⟨rfl, g1, hh.tr g2⟩)
  · refine v_aload_n rfl rfl ?_
    refine v_bipush (v := (-4)) rfl (by decide) ?_
    refine v_callV rfl (c_M_refuse (-4) (by unfold pm_isR; decide) hR hI) rfl rfl h59 rfl rfl (by omega) (fun rv w1 hq => ?_)
    obtain ⟨rfl, g1, g2⟩ := hq
    exact v_iret rfl (by simp only [sp_limit, t2, ↓reduceIte]; exact ⟨rfl, g1, hh.tr g2⟩)
noncomputable def sp_days (gi : Nat → Int32) (ga : Nat → List Int32) (n : Int32) : pm_G := if 1 ≤ n then (if n ≤ 3000 - gi 5 then (gi 5 + n, pm_uI gi 5 (gi 5 + n), ga) else pm_no gi ga (-6)) else pm_no gi ga (-4)
set_option maxRecDepth 100000 in
theorem c_X_days {sc : pm_S} {w : pm_W} {gi : Nat → Int32} {ga : Nat → List Int32} (n : Int32) (hR : pm_Rg gi ga) (hI : pm_IX gi ga w) : pm_Mt sc 2 96 2 [.ref 0, .int n] w (pm_PX w (sp_days gi ga n)) := by
  intro d hd
  show pm_V sc d 96 0 _ [] w _
  have hh : pm_hi w w := pm_hi.rf
  obtain ⟨v6, c6, h0⟩ := hI.2 0 (by decide)
  have h27 : _ = some _ := hI.2 27 (by decide)
  obtain ⟨v0, v1, v2, c0, c2, h32⟩ := hI.2 32 (by decide)
  refine v_iload_n rfl rfl ?_
  refine v_iconst (v := 1) rfl (by decide) ?_
  refine v_icmp_ge rfl (fun t2 => ?_) (fun t2 => ?_)
  · refine v_iload_n rfl rfl ?_
    refine v_sipush (v := 3000) rfl (by decide) ?_
    refine v_aload_n rfl rfl ?_
    refine v_get rfl h0 rfl ?_
    refine v_get rfl h27 rfl ?_
    refine v_isub rfl ?_
    refine v_icmp_le rfl (fun t24 => ?_) (fun t24 => ?_)
    · refine v_aload_n rfl rfl ?_
      refine v_get rfl h0 rfl ?_
      refine v_iconst (v := 0) rfl (by decide) ?_
      refine v_put rfl h32 rfl (Nat.le_of_ble_eq_true rfl) ?_
      refine v_forget (P := fun u => pm_IX gi ga u ∧ pm_hi w u) ⟨hI.set 32 (by decide) ⟨0, v1, v2, Or.inl rfl, c2, rfl⟩, hh.set (by decide) _⟩ (fun w1 hw1 => ?_)
      obtain ⟨hI, hh⟩ := hw1
      obtain ⟨v6, c6, h0⟩ := hI.2 0 (by decide)
      have h27 : _ = some _ := hI.2 27 (by decide)
      obtain ⟨v0, v1, v2, c0, c2, h32⟩ := hI.2 32 (by decide)
      refine v_aload_n rfl rfl ?_
      refine v_get rfl h0 rfl ?_
      refine v_dup rfl rfl ?_
      refine v_get rfl h27 rfl ?_
      refine v_iload_n rfl rfl ?_
      refine v_iadd rfl ?_
      refine v_put rfl h27 rfl (Nat.le_of_ble_eq_true rfl) ?_
      refine v_forget (P := fun u => pm_IX (pm_uI gi 5 (gi 5 + n)) ga u ∧ pm_hi w u) ⟨hI.uI 27 5 (by decide +kernel) (by decide +kernel) rfl, hh.set (by decide) _⟩ (fun w1 hw1 => ?_)
      obtain ⟨hI, hh⟩ := hw1
      obtain ⟨v6, c6, h0⟩ := hI.2 0 (by decide)
      have h27 : _ = some _ := hI.2 27 (by decide)
      obtain ⟨v0, v1, v2, c0, c2, h32⟩ := hI.2 32 (by decide)
      refine v_aload_n rfl rfl ?_
      refine v_get rfl h0 rfl ?_
      refine v_get rfl h27 rfl ?_
      exact v_iret rfl (by simp only [sp_days, t2, t24, ↓reduceIte]; exact ⟨rfl, hI, hh⟩)
    · refine v_aload_n rfl rfl ?_
      refine v_bipush (v := (-6)) rfl (by decide) ?_
      refine v_callV rfl (c_X_refuse (-6) (by unfold pm_isR; decide) hR hI) rfl rfl h0 rfl rfl (by omega) (fun rv w1 hq => ?_)
      obtain ⟨rfl, g1, g2⟩ := hq
      exact v_iret rfl (by simp only [sp_days, t2, t24, ↓reduceIte]; exact ⟨rfl, g1, hh.tr g2⟩)
  · refine v_aload_n rfl rfl ?_
    refine v_bipush (v := (-4)) rfl (by decide) ?_
    refine v_callV rfl (c_X_refuse (-4) (by unfold pm_isR; decide) hR hI) rfl rfl h0 rfl rfl (by omega) (fun rv w1 hq => ?_)
    obtain ⟨rfl, g1, g2⟩ := hq
    exact v_iret rfl (by simp only [sp_days, t2, ↓reduceIte]; exact ⟨rfl, g1, hh.tr g2⟩)
set_option maxRecDepth 100000 in
theorem c_M_days {sc : pm_S} {w : pm_W} {gi : Nat → Int32} {ga : Nat → List Int32} (n : Int32) (hR : pm_Rg gi ga) (hI : pm_IM gi ga w) : pm_Mt sc 2 170 2 [.ref 59, .int n] w (pm_PM w (sp_days gi ga n)) := by
  intro d hd
  show pm_V sc d 170 0 _ [] w _
  have hh : pm_lo w w := pm_lo.rf
  obtain ⟨v4, v5, v6, v14, v35, v39, v40, v42, c4, c5, c6, c35, c42, h59⟩ := hI.2.1 59 (by decide) (by decide)
  refine v_iload_n rfl rfl ?_
  refine v_iconst (v := 1) rfl (by decide) ?_
  refine v_icmp_ge rfl (fun t2 => ?_) (fun t2 => ?_)
  · refine v_iload_n rfl rfl ?_
    refine v_sipush (v := 3000) rfl (by decide) ?_
    refine v_aload_n rfl rfl ?_
    refine v_get rfl h59 rfl ?_
    refine v_isub rfl ?_
    refine v_icmp_le rfl (fun t21 => ?_) (fun t21 => ?_)
    · refine v_aload_n rfl rfl ?_
      refine v_dup rfl rfl ?_
      refine v_get rfl h59 rfl ?_
      refine v_iload_n rfl rfl ?_
      refine v_iadd rfl ?_
      refine v_put rfl h59 rfl (Nat.le_of_ble_eq_true rfl) ?_
      refine v_forget (P := fun u => pm_IM (pm_uI gi 5 (gi 5 + n)) ga u ∧ pm_lo w u) ⟨hI.uI 59 5 (by decide +kernel) (by decide +kernel) (by decide +kernel) (by decide +kernel) (by decide +kernel) ⟨_, _, _, _, _, _, _, _, c4, c5, c6, c35, c42, rfl⟩, hh.set (by decide) _⟩ (fun w1 hw1 => ?_)
      obtain ⟨hI, hh⟩ := hw1
      obtain ⟨v4, v5, v6, v14, v35, v39, v40, v42, c4, c5, c6, c35, c42, h59⟩ := hI.2.1 59 (by decide) (by decide)
      refine v_aload_n rfl rfl ?_
      refine v_get rfl h59 rfl ?_
      exact v_iret rfl (by simp only [sp_days, t2, t21, ↓reduceIte]; exact ⟨rfl, hI, hh⟩)
    · refine v_aload_n rfl rfl ?_
      refine v_bipush (v := (-6)) rfl (by decide) ?_
      refine v_callV rfl (c_M_refuse (-6) (by unfold pm_isR; decide) hR hI) rfl rfl h59 rfl rfl (by omega) (fun rv w1 hq => ?_)
      obtain ⟨rfl, g1, g2⟩ := hq
      exact v_iret rfl (by simp only [sp_days, t2, t21, ↓reduceIte]; exact ⟨rfl, g1, hh.tr g2⟩)
  · refine v_aload_n rfl rfl ?_
    refine v_bipush (v := (-4)) rfl (by decide) ?_
    refine v_callV rfl (c_M_refuse (-4) (by unfold pm_isR; decide) hR hI) rfl rfl h59 rfl rfl (by omega) (fun rv w1 hq => ?_)
    obtain ⟨rfl, g1, g2⟩ := hq
    exact v_iret rfl (by simp only [sp_days, t2, ↓reduceIte]; exact ⟨rfl, g1, hh.tr g2⟩)

