theorem pm_Rg.r8 {gi : Nat → Int32} {ga : Nat → List Int32} (h : pm_Rg gi ga) : ∀ x, x ∈ ga 8 → pm_rng x 0 500 := by
  obtain ⟨a0, a1, a2, a3, a4, a5, a6, a7, a8, ⟨l0, l1, l2, l3, l4, l5, l6, l7, l8, l9, l10, l11, l12, l13, l14⟩, e0, e1, e2, e3, e4, e5, e6, e7, e8, e13, e14⟩ := h
  exact e8
theorem pm_Rg.r13 {gi : Nat → Int32} {ga : Nat → List Int32} (h : pm_Rg gi ga) : ∀ x, x ∈ ga 13 → pm_rng x 1 20 := by
  obtain ⟨a0, a1, a2, a3, a4, a5, a6, a7, a8, ⟨l0, l1, l2, l3, l4, l5, l6, l7, l8, l9, l10, l11, l12, l13, l14⟩, e0, e1, e2, e3, e4, e5, e6, e7, e8, e13, e14⟩ := h
  exact e13
theorem pm_Rg.r14 {gi : Nat → Int32} {ga : Nat → List Int32} (h : pm_Rg gi ga) : ∀ x, x ∈ ga 14 → pm_rng x 1 20 := by
  obtain ⟨a0, a1, a2, a3, a4, a5, a6, a7, a8, ⟨l0, l1, l2, l3, l4, l5, l6, l7, l8, l9, l10, l11, l12, l13, l14⟩, e0, e1, e2, e3, e4, e5, e6, e7, e8, e13, e14⟩ := h
  exact e14
noncomputable def pm_wf (h t : Int32) : Int32 := if h = 0 then -5 else if h = t then 0 else -2
noncomputable def pm_lk (ga : Nat → List Int32) (b t : Int32) : Int32 := if ¬ (0 ≤ b.toInt ∧ b.toInt < 4) then -1 else pm_wf ((ga 7).getD b.toInt.toNat 0) t
theorem pm_wf_c (h t : Int32) : (h = 0 ∧ pm_wf h t = -5) ∨ (¬ h = 0 ∧ h = t ∧ pm_wf h t = 0) ∨ (¬ h = 0 ∧ ¬ h = t ∧ pm_wf h t = -2) := by
  unfold pm_wf
  by_cases h0 : h = 0
  · exact Or.inl ⟨h0, if_pos h0⟩
  · by_cases h1 : h = t
    · exact Or.inr (Or.inl ⟨h0, h1, by rw [if_neg h0, if_pos h1]⟩)
    · exact Or.inr (Or.inr ⟨h0, h1, by rw [if_neg h0, if_neg h1]⟩)
theorem pm_wf_R {h t : Int32} (hn : ¬ pm_wf h t = 0) : pm_isR (pm_wf h t) ∧ (pm_wf h t).toInt < 0 := by
  rcases pm_wf_c h t with ⟨-, e⟩ | ⟨-, -, e⟩ | ⟨-, -, e⟩
  · rw [e]; exact ⟨by unfold pm_isR; decide, by decide⟩
  · exact absurd e hn
  · rw [e]; exact ⟨by unfold pm_isR; decide, by decide⟩
theorem pm_lk_R {ga : Nat → List Int32} {b t : Int32} (hn : (pm_lk ga b t).toInt < 0) : pm_isR (pm_lk ga b t) := by
  unfold pm_lk at hn ⊢
  by_cases ha : ¬ (0 ≤ b.toInt ∧ b.toInt < 4)
  · rw [if_pos ha]; unfold pm_isR; decide
  · rw [if_neg ha] at hn ⊢
    exact (pm_wf_R (fun e => by rw [e, i_0] at hn; omega)).1
theorem pm_lk_0 {ga : Nat → List Int32} {b t : Int32} (hn : ¬ (pm_lk ga b t).toInt < 0) : (0 ≤ b.toInt ∧ b.toInt < 4) ∧ (ga 7).getD b.toInt.toNat 0 = t := by
  unfold pm_lk at hn
  by_cases ha : ¬ (0 ≤ b.toInt ∧ b.toInt < 4)
  · rw [if_pos ha] at hn; exact absurd (by decide) hn
  · rw [if_neg ha] at hn
    refine ⟨Decidable.not_not.mp ha, ?_⟩
    rcases pm_wf_c ((ga 7).getD b.toInt.toNat 0) t with ⟨-, e⟩ | ⟨-, h, e⟩ | ⟨-, -, e⟩
    · rw [e] at hn; exact absurd (by decide) hn
    · exact h
    · rw [e] at hn; exact absurd (by decide) hn
theorem pm_uA_comm {ga : Nat → List Int32} {a b : Nat} (h : a ≠ b) (x y : List Int32) : pm_uA (pm_uA ga a x) b y = pm_uA (pm_uA ga b y) a x := by
  funext i
  by_cases ea : i = a
  · subst ea
    rw [pm_uA_ne h]; simp [pm_uA]
  · rw [pm_uA_ne ea]
    by_cases eb : i = b
    · subst eb; simp [pm_uA]
    · rw [pm_uA_ne eb, pm_uA_ne eb, pm_uA_ne ea]
noncomputable def pm_wp (ga : Nat → List Int32) (j : Nat) (n : Int32) : Nat → List Int32 := pm_uA (pm_uA ga 7 ((ga 7).set j (if n ≤ 0 then 0 else 1))) 8 ((ga 8).set j n)
noncomputable def sp_cut (gi : Nat → Int32) (ga : Nat → List Int32) (b e : Int32) : pm_G := if (pm_lk ga b 1).toInt < 0 then pm_no gi ga (pm_lk ga b 1) else if e.toInt < 1 then pm_no gi ga (-4) else if ((ga 8).getD b.toInt.toNat 0).toInt < e.toInt then pm_no gi ga (-6) else ((ga 8).getD b.toInt.toNat 0 - e, gi, pm_wp ga b.toInt.toNat ((ga 8).getD b.toInt.toNat 0 - e))
set_option maxRecDepth 100000 in
theorem c_X_cut {sc : pm_S} {w : pm_W} {gi : Nat → Int32} {ga : Nat → List Int32} (b e : Int32) (hR : pm_Rg gi ga) (hI : pm_IX gi ga w) : pm_Mt sc 2 103 4 [.ref 0, .int b, .int e] w (pm_PX w (sp_cut gi ga b e)) := by
  intro d hd
  show pm_V sc d 103 0 _ [] w _
  have hh : pm_hi w w := pm_hi.rf
  obtain ⟨v6, c6, h0⟩ := hI.2 0 (by decide)
  have h45 : _ = some _ := hI.2 45 (by decide)
  refine v_iload_n rfl rfl ?_
  refine v_iconst (v := 4) rfl (by decide) ?_
  refine v_callS rfl (c_isPlace b 4 w) rfl rfl rfl rfl rfl (by omega) (fun rv w1 hq => ?_)
  obtain ⟨rfl, rfl⟩ := hq
  by_cases ha : 0 ≤ b.toInt ∧ b.toInt < 4
  · rw [pm_b_1 (show 0 ≤ b.toInt ∧ b.toInt < (4 : Int32).toInt from ha)]
    refine v_if_ne rfl (fun _ => ?_) (fun h => absurd h (by decide))
    have hj : b.toInt.toNat < 4 := by omega
    have hbr : ([some 46, some 49, some 52, some 55] : List (Option Nat))[b.toNatClampNeg]? = some (some (46 + 3 * b.toInt.toNat)) := by rw [i_nI ha.1, nI_toInt (by omega)]; exact pm_bref hj
    have hbm := hI.beam hj
    have elk : pm_lk ga b 1 = pm_wf ((ga 7).getD b.toInt.toNat 0) 1 := if_neg (fun h => h ha)
    refine v_aload_n rfl rfl ?_
    refine v_get rfl h0 rfl ?_
    refine v_iload_n rfl rfl ?_
    refine v_aaload rfl h45 (by rw [i_lt, i_0]; omega) hbr ?_
    refine v_iconst (v := 1) rfl (by decide) ?_
    refine v_callV rfl (c_wrongFor hbm 1) rfl rfl hbm rfl rfl (by omega) (fun rv w1 hq => ?_)
    obtain ⟨rfl, rfl⟩ := hq
    refine v_istore_n rfl (Nat.le_of_ble_eq_true rfl) ?_
    refine v_iload_n rfl rfl ?_
    refine v_if_eq rfl (fun t26 => ?_) (fun t26 => ?_)
    · refine v_iload_n rfl rfl ?_
      refine v_iconst (v := 1) rfl (by decide) ?_
      refine v_icmp_ge rfl (fun t37 => ?_) (fun t37 => ?_)
      · refine v_iload_n rfl rfl ?_
        refine v_aload_n rfl rfl ?_
        refine v_get rfl h0 rfl ?_
        refine v_iload_n rfl rfl ?_
        refine v_aaload rfl h45 (by rw [i_lt, i_0]; omega) hbr ?_
        refine v_get rfl hbm rfl ?_
        refine v_icmp_le rfl (fun t57 => ?_) (fun t57 => ?_)
        · refine v_aload_n rfl rfl ?_
          refine v_get rfl h0 rfl ?_
          refine v_iload_n rfl rfl ?_
          refine v_aaload rfl h45 (by rw [i_lt, i_0]; omega) hbr ?_
          refine v_aload_n rfl rfl ?_
          refine v_get rfl h0 rfl ?_
          refine v_iload_n rfl rfl ?_
          refine v_aaload rfl h45 (by rw [i_lt, i_0]; omega) hbr ?_
          refine v_get rfl hbm rfl ?_
          refine v_iload_n rfl rfl ?_
          refine v_isub rfl ?_
          refine v_callV rfl (c_holdWarp hbm ((ga 8).getD b.toInt.toNat 0 - e)) rfl rfl hbm rfl rfl (by omega) (fun rv w1 hq => ?_)
          obtain ⟨rfl, rfl⟩ := hq
          refine v_forget (P := fun u => pm_IX gi (pm_wp ga b.toInt.toNat ((ga 8).getD b.toInt.toNat 0 - e)) u ∧ pm_hi w u) ⟨hI.ubeam hR hj _ _, hh.set (by omega) _⟩ (fun w1 hw1 => ?_)
          obtain ⟨hI, hh⟩ := hw1
          obtain ⟨v6, c6, h0⟩ := hI.2 0 (by decide)
          have h45 : _ = some _ := hI.2 45 (by decide)
          have hbm := hI.beam hj
          refine v_aload_n rfl rfl ?_
          refine v_get rfl h0 rfl ?_
          refine v_iload_n rfl rfl ?_
          refine v_aaload rfl h45 (by rw [i_lt, i_0]; omega) hbr ?_
          refine v_get rfl hbm rfl ?_
          exact v_iret rfl (by show pm_PX _ _ _ _; unfold sp_cut; rw [if_neg (show ¬ (pm_lk ga b 1).toInt < 0 by rw [elk, show pm_wf ((ga 7).getD b.toInt.toNat 0) 1 = 0 from t26, i_0]; omega), if_neg (by simp only [i_lt, i_le, i_eq, i_0, i_1, i_2, i_3, i_4, i_5, i_12, i_20, i_40, i_99, i_100, i_200, i_500, i_999, i_2000, i_3000, i_100000] at *; omega), if_neg (by rw [i_le] at t57; exact Int.not_lt.mpr t57)]; exact ⟨congrArg (fun z => some (Value.int z)) (show ((ga 8).set b.toInt.toNat ((ga 8).getD b.toInt.toNat 0 - e)).getD b.toInt.toNat 0 = _ by rw [pm_getD_set (by rw [hR.l8]; omega), if_pos rfl]), hI, hh⟩)
        · refine v_aload_n rfl rfl ?_
          refine v_bipush (v := (-6)) rfl (by decide) ?_
          refine v_callV rfl (c_X_refuse (-6) (by unfold pm_isR; decide) hR hI) rfl rfl h0 rfl rfl (by omega) (fun rv w1 hq => ?_)
          obtain ⟨rfl, g1, g2⟩ := hq
          exact v_iret rfl (by show pm_PX _ _ _ _; unfold sp_cut; rw [if_neg (show ¬ (pm_lk ga b 1).toInt < 0 by rw [elk, show pm_wf ((ga 7).getD b.toInt.toNat 0) 1 = 0 from t26, i_0]; omega), if_neg (by simp only [i_lt, i_le, i_eq, i_0, i_1, i_2, i_3, i_4, i_5, i_12, i_20, i_40, i_99, i_100, i_200, i_500, i_999, i_2000, i_3000, i_100000] at *; omega), if_pos (by rw [i_le] at t57; exact Int.not_le.mp t57)]; exact ⟨rfl, g1, hh.tr g2⟩)
      · refine v_aload_n rfl rfl ?_
        refine v_bipush (v := (-4)) rfl (by decide) ?_
        refine v_callV rfl (c_X_refuse (-4) (by unfold pm_isR; decide) hR hI) rfl rfl h0 rfl rfl (by omega) (fun rv w1 hq => ?_)
        obtain ⟨rfl, g1, g2⟩ := hq
        exact v_iret rfl (by show pm_PX _ _ _ _; unfold sp_cut; rw [if_neg (show ¬ (pm_lk ga b 1).toInt < 0 by rw [elk, show pm_wf ((ga 7).getD b.toInt.toNat 0) 1 = 0 from t26, i_0]; omega), if_pos (by simp only [i_lt, i_le, i_eq, i_0, i_1, i_2, i_3, i_4, i_5, i_12, i_20, i_40, i_99, i_100, i_200, i_500, i_999, i_2000, i_3000, i_100000] at *; omega)]; exact ⟨rfl, g1, hh.tr g2⟩)
    · refine v_aload_n rfl rfl ?_
      refine v_iload_n rfl rfl ?_
      refine v_callV rfl (c_X_refuse (pm_wf ((ga 7).getD b.toInt.toNat 0) 1) (pm_wf_R t26).1 hR hI) rfl rfl h0 rfl rfl (by omega) (fun rv w1 hq => ?_)
      obtain ⟨rfl, g1, g2⟩ := hq
      exact v_iret rfl (by show pm_PX _ _ _ _; unfold sp_cut; rw [if_pos (show (pm_lk ga b 1).toInt < 0 by rw [elk]; exact (pm_wf_R t26).2), elk]; exact ⟨rfl, g1, hh.tr g2⟩)
  · rw [pm_b_0 (show ¬ (0 ≤ b.toInt ∧ b.toInt < (4 : Int32).toInt) from ha)]
    refine v_if_ne rfl (fun h => absurd h (by decide)) (fun _ => ?_)
    refine v_aload_n rfl rfl ?_
    refine v_iconst (v := (-1)) rfl (by decide) ?_
    refine v_callV rfl (c_X_refuse (-1) (by unfold pm_isR; decide) hR hI) rfl rfl h0 rfl rfl (by omega) (fun rv w1 hq => ?_)
    obtain ⟨rfl, g1, g2⟩ := hq
    exact v_iret rfl (by show pm_PX _ _ _ _; unfold sp_cut; rw [show pm_lk ga b 1 = -1 from if_pos ha, if_pos (by decide)]; exact ⟨rfl, g1, hh.tr g2⟩)
set_option maxRecDepth 100000 in
theorem c_lacks {sc : pm_S} {w : pm_W} {gi : Nat → Int32} {ga : Nat → List Int32} (b t : Int32) (hR : pm_Rg gi ga) (hI : pm_IM gi ga w) : pm_Mt sc 2 177 3 [.ref 59, .int b, .int t] w (fun rv w' => w = w' ∧ rv = some (.int (pm_lk ga b t))) := by
  intro d hd
  show pm_V sc d 177 0 _ [] w _
  have q7 := hR.l7
  obtain ⟨v4, v5, v6, v14, v35, v39, v40, v42, c4, c5, c6, c35, c42, h59⟩ := hI.2.1 59 (by decide) (by decide)
  have h74 : _ = some _ := hI.2.1 74 (by decide) (by decide)
  refine v_iload_n rfl rfl ?_
  refine v_callS rfl (c_isBeam b) rfl rfl rfl rfl rfl (by omega) (fun rv w1 hq => ?_)
  obtain ⟨rfl, rfl⟩ := hq
  by_cases ha : 0 ≤ b.toInt ∧ b.toInt < 4
  · rw [pm_b_1 ha]
    refine v_if_ne rfl (fun _ => ?_) (fun h => absurd h (by decide))
    refine v_aload_n rfl rfl ?_
    refine v_get rfl h59 rfl ?_
    refine v_iload_n rfl rfl ?_
    refine v_iaload rfl h74 (by rw [i_lt, i_0]; omega) (pm_gD (d := 0) (by rw [i_cl, q7]; omega)) ?_
    refine v_if_ne rfl (fun t17 => ?_) (fun t17 => ?_)
    · refine v_aload_n rfl rfl ?_
      refine v_get rfl h59 rfl ?_
      refine v_iload_n rfl rfl ?_
      refine v_iaload rfl h74 (by rw [i_lt, i_0]; omega) (pm_gD (d := 0) (by rw [i_cl, q7]; omega)) ?_
      refine v_iload_n rfl rfl ?_
      refine v_icmp_eq rfl (fun t32 => ?_) (fun t32 => ?_)
      · refine v_iconst (v := 0) rfl (by decide) ?_
        exact v_iret rfl ⟨rfl, congrArg (fun z => some (Value.int z)) (by unfold pm_lk; first | (rw [if_pos ha]; done) | (rw [if_neg (fun h => h ha)]; unfold pm_wf; first | (rw [if_neg (show ¬ (ga 7).getD b.toInt.toNat 0 = 0 from t17), if_pos (show (ga 7).getD b.toInt.toNat 0 = t from t32)]; done) | (rw [if_neg (show ¬ (ga 7).getD b.toInt.toNat 0 = 0 from t17), if_neg (show ¬ (ga 7).getD b.toInt.toNat 0 = t from t32)]; done) | (rw [if_pos (show (ga 7).getD b.toInt.toNat 0 = 0 from Decidable.not_not.mp t17)]; done) | (rw [if_pos (show (ga 7).getD b.toInt.toNat 0 = 0 from t17)]; done)))⟩
      · refine v_bipush (v := (-2)) rfl (by decide) ?_
        refine v_goto rfl ?_
        exact v_iret rfl ⟨rfl, congrArg (fun z => some (Value.int z)) (by unfold pm_lk; first | (rw [if_pos ha]; done) | (rw [if_neg (fun h => h ha)]; unfold pm_wf; first | (rw [if_neg (show ¬ (ga 7).getD b.toInt.toNat 0 = 0 from t17), if_pos (show (ga 7).getD b.toInt.toNat 0 = t from t32)]; done) | (rw [if_neg (show ¬ (ga 7).getD b.toInt.toNat 0 = 0 from t17), if_neg (show ¬ (ga 7).getD b.toInt.toNat 0 = t from t32)]; done) | (rw [if_pos (show (ga 7).getD b.toInt.toNat 0 = 0 from Decidable.not_not.mp t17)]; done) | (rw [if_pos (show (ga 7).getD b.toInt.toNat 0 = 0 from t17)]; done)))⟩
    · refine v_bipush (v := (-5)) rfl (by decide) ?_
      refine v_goto rfl ?_
      exact v_iret rfl ⟨rfl, congrArg (fun z => some (Value.int z)) (by unfold pm_lk; first | (rw [if_pos ha]; done) | (rw [if_neg (fun h => h ha)]; unfold pm_wf; first | (rw [if_neg (show ¬ (ga 7).getD b.toInt.toNat 0 = 0 from t17), if_pos (show (ga 7).getD b.toInt.toNat 0 = t from t32)]; done) | (rw [if_neg (show ¬ (ga 7).getD b.toInt.toNat 0 = 0 from t17), if_neg (show ¬ (ga 7).getD b.toInt.toNat 0 = t from t32)]; done) | (rw [if_pos (show (ga 7).getD b.toInt.toNat 0 = 0 from Decidable.not_not.mp t17)]; done) | (rw [if_pos (show (ga 7).getD b.toInt.toNat 0 = 0 from t17)]; done)))⟩
  · rw [pm_b_0 ha]
    refine v_if_ne rfl (fun h => absurd h (by decide)) (fun _ => ?_)
    refine v_iconst (v := (-1)) rfl (by decide) ?_
    refine v_goto rfl ?_
    exact v_iret rfl ⟨rfl, congrArg (fun z => some (Value.int z)) (by unfold pm_lk; first | (rw [if_pos ha]; done) | (rw [if_neg (fun h => h ha)]; unfold pm_wf; first | (rw [if_neg (show ¬ (ga 7).getD b.toInt.toNat 0 = 0 from t17), if_pos (show (ga 7).getD b.toInt.toNat 0 = t from t32)]; done) | (rw [if_neg (show ¬ (ga 7).getD b.toInt.toNat 0 = 0 from t17), if_neg (show ¬ (ga 7).getD b.toInt.toNat 0 = t from t32)]; done) | (rw [if_pos (show (ga 7).getD b.toInt.toNat 0 = 0 from Decidable.not_not.mp t17)]; done) | (rw [if_pos (show (ga 7).getD b.toInt.toNat 0 = 0 from t17)]; done)))⟩
set_option maxRecDepth 100000 in
theorem c_M_cut {sc : pm_S} {w : pm_W} {gi : Nat → Int32} {ga : Nat → List Int32} (b e : Int32) (hR : pm_Rg gi ga) (hI : pm_IM gi ga w) : pm_Mt sc 3 179 4 [.ref 59, .int b, .int e] w (pm_PM w (sp_cut gi ga b e)) := by
  intro d hd
  show pm_V sc d 179 0 _ [] w _
  have hh : pm_lo w w := pm_lo.rf
  have q7 := hR.l7
  have q8 := hR.l8
  obtain ⟨v4, v5, v6, v14, v35, v39, v40, v42, c4, c5, c6, c35, c42, h59⟩ := hI.2.1 59 (by decide) (by decide)
  have h74 : _ = some _ := hI.2.1 74 (by decide) (by decide)
  have h75 : _ = some _ := hI.2.1 75 (by decide) (by decide)
  refine v_aload_n rfl rfl ?_
  refine v_iload_n rfl rfl ?_
  refine v_iconst (v := 1) rfl (by decide) ?_
  refine v_callV rfl (c_lacks b 1 hR hI) rfl rfl h59 rfl rfl (by omega) (fun rv w1 hq => ?_)
  obtain ⟨rfl, rfl⟩ := hq
  refine v_istore_n rfl (Nat.le_of_ble_eq_true rfl) ?_
  refine v_iload_n rfl rfl ?_
  refine v_if_ge rfl (fun t8 => ?_) (fun t8 => ?_)
  · have lk : ¬ (pm_lk ga b 1).toInt < 0 := by simp only [i_le, i_0] at t8; omega
    obtain ⟨ha, hone⟩ := pm_lk_0 lk
    refine v_iload_n rfl rfl ?_
    refine v_iconst (v := 1) rfl (by decide) ?_
    refine v_icmp_ge rfl (fun t19 => ?_) (fun t19 => ?_)
    · refine v_iload_n rfl rfl ?_
      refine v_aload_n rfl rfl ?_
      refine v_get rfl h59 rfl ?_
      refine v_iload_n rfl rfl ?_
      refine v_iaload rfl h75 (by rw [i_lt, i_0]; omega) (pm_gD (d := 0) (by rw [i_cl, q8]; omega)) ?_
      refine v_icmp_le rfl (fun t36 => ?_) (fun t36 => ?_)
      · refine v_aload_n rfl rfl ?_
        refine v_get rfl h59 rfl ?_
        refine v_iload_n rfl rfl ?_
        refine v_dup2 rfl rfl ?_
        have t36i : e.toInt ≤ ((ga 8).getD b.toInt.toNat 0).toInt := by rw [i_le] at t36; exact t36
        have t19i : ¬ e.toInt < 1 := (by simp only [i_lt, i_le, i_eq, i_0, i_1, i_2, i_3, i_4, i_5, i_12, i_20, i_40, i_99, i_100, i_200, i_500, i_999, i_2000, i_3000, i_100000] at *; omega)
        have r8 := hR.r8 _ (pm_mem_getD (k := b.toInt.toNat) (by rw [q8]; omega))
        have es := i_sub (x := (ga 8).getD b.toInt.toNat 0) (y := e) ⟨by omega, by have := r8.2; omega⟩ ⟨by omega, by have := r8.2; omega⟩
        have rN : pm_rng ((ga 8).getD b.toInt.toNat 0 - e) 0 500 := ⟨by rw [es]; omega, by rw [es]; have := r8.2; omega⟩
        refine v_iaload rfl h75 (by rw [i_lt, i_0]; omega) (pm_gD (d := 0) (by rw [i_cl, q8]; omega)) ?_
        refine v_iload_n rfl rfl ?_
        refine v_isub rfl ?_
        refine v_iastore rfl h75 (by rw [i_lt, i_0]; omega) (by rw [i_cl, q8]; omega) ?_
        refine v_forget (P := fun u => pm_IM gi (pm_uA ga 8 ((ga 8).set b.toInt.toNat ((ga 8).getD b.toInt.toNat 0 - e))) u ∧ pm_lo w u) ⟨hI.uA 75 8 (by decide +kernel) (by decide +kernel) (by decide +kernel) (by decide +kernel) (by decide +kernel) rfl, hh.set (by decide) _⟩ (fun w1 hw1 => ?_)
        obtain ⟨hI, hh⟩ := hw1
        obtain ⟨v4, v5, v6, v14, v35, v39, v40, v42, c4, c5, c6, c35, c42, h59⟩ := hI.2.1 59 (by decide) (by decide)
        have h74 : _ = some _ := hI.2.1 74 (by decide) (by decide)
        have h75 : _ = some _ := hI.2.1 75 (by decide) (by decide)
        have hR8 : pm_Rg gi (pm_uA ga 8 ((ga 8).set b.toInt.toNat ((ga 8).getD b.toInt.toNat 0 - e))) := hR.s8 rN
        refine v_aload_n rfl rfl ?_
        refine v_get rfl h59 rfl ?_
        refine v_iload_n rfl rfl ?_
        refine v_aload_n rfl rfl ?_
        refine v_get rfl h59 rfl ?_
        refine v_iload_n rfl rfl ?_
        refine v_iaload rfl h75 (by rw [i_lt, i_0]; omega) (show ((ga 8).set b.toInt.toNat ((ga 8).getD b.toInt.toNat 0 - e))[b.toNatClampNeg]? = some ((ga 8).getD b.toInt.toNat 0 - e) by rw [i_cl, List.getElem?_set_self (by rw [q8]; omega)]) ?_
        refine v_if_ne rfl (fun t67 => ?_) (fun t67 => ?_)
        · refine v_iconst (v := 1) rfl (by decide) ?_
          refine v_iastore rfl h74 (by rw [i_lt, i_0]; omega) (by rw [i_cl]; show _ < (ga 7).length; rw [q7]; omega) ?_
          refine v_forget (P := fun u => pm_IM gi (pm_wp ga b.toInt.toNat ((ga 8).getD b.toInt.toNat 0 - e)) u ∧ pm_lo w u) ⟨by
              have hv := hI.u7 hR8 (j := b.toInt.toNat) (by omega) (h := if ((ga 8).getD b.toInt.toNat 0 - e) ≤ 0 then 0 else 1) (by split <;> decide)
              have e2 : pm_uA (pm_uA ga 8 ((ga 8).set b.toInt.toNat ((ga 8).getD b.toInt.toNat 0 - e))) 7 ((ga 7).set b.toInt.toNat (if ((ga 8).getD b.toInt.toNat 0 - e) ≤ 0 then 0 else 1)) = pm_wp ga b.toInt.toNat ((ga 8).getD b.toInt.toNat 0 - e) := pm_uA_comm (by decide) _ _
              rw [← e2]
              first
              | (rw [if_pos (show ((ga 8).getD b.toInt.toNat 0 - e) ≤ 0 by simp only [i_le, i_0, i_eq] at *; omega)] at hv ⊢; exact hv)
              | (rw [if_neg (show ¬ ((ga 8).getD b.toInt.toNat 0 - e) ≤ 0 by simp only [i_le, i_0, i_eq] at *; omega)] at hv ⊢; exact hv), hh.set (by decide) _⟩ (fun w1 hw1 => ?_)
          obtain ⟨hI, hh⟩ := hw1
          obtain ⟨v4, v5, v6, v14, v35, v39, v40, v42, c4, c5, c6, c35, c42, h59⟩ := hI.2.1 59 (by decide) (by decide)
          have h75 : _ = some _ := hI.2.1 75 (by decide) (by decide)
          refine v_aload_n rfl rfl ?_
          refine v_get rfl h59 rfl ?_
          refine v_iload_n rfl rfl ?_
          refine v_iaload rfl h75 (by rw [i_lt, i_0]; omega) (show ((ga 8).set b.toInt.toNat ((ga 8).getD b.toInt.toNat 0 - e))[b.toNatClampNeg]? = some ((ga 8).getD b.toInt.toNat 0 - e) by rw [i_cl, List.getElem?_set_self (by rw [q8]; omega)]) ?_
          exact v_iret rfl (by show pm_PM _ _ _ _; unfold sp_cut; rw [if_neg lk, if_neg t19i, if_neg (show ¬ ((ga 8).getD b.toInt.toNat 0).toInt < e.toInt by omega)]; exact ⟨rfl, hI, hh⟩)
        · refine v_iconst (v := 0) rfl (by decide) ?_
          refine v_goto rfl ?_
          refine v_iastore rfl h74 (by rw [i_lt, i_0]; omega) (by rw [i_cl]; show _ < (ga 7).length; rw [q7]; omega) ?_
          refine v_forget (P := fun u => pm_IM gi (pm_wp ga b.toInt.toNat ((ga 8).getD b.toInt.toNat 0 - e)) u ∧ pm_lo w u) ⟨by
              have hv := hI.u7 hR8 (j := b.toInt.toNat) (by omega) (h := if ((ga 8).getD b.toInt.toNat 0 - e) ≤ 0 then 0 else 1) (by split <;> decide)
              have e2 : pm_uA (pm_uA ga 8 ((ga 8).set b.toInt.toNat ((ga 8).getD b.toInt.toNat 0 - e))) 7 ((ga 7).set b.toInt.toNat (if ((ga 8).getD b.toInt.toNat 0 - e) ≤ 0 then 0 else 1)) = pm_wp ga b.toInt.toNat ((ga 8).getD b.toInt.toNat 0 - e) := pm_uA_comm (by decide) _ _
              rw [← e2]
              first
              | (rw [if_pos (show ((ga 8).getD b.toInt.toNat 0 - e) ≤ 0 by simp only [i_le, i_0, i_eq] at *; omega)] at hv ⊢; exact hv)
              | (rw [if_neg (show ¬ ((ga 8).getD b.toInt.toNat 0 - e) ≤ 0 by simp only [i_le, i_0, i_eq] at *; omega)] at hv ⊢; exact hv), hh.set (by decide) _⟩ (fun w1 hw1 => ?_)
          obtain ⟨hI, hh⟩ := hw1
          obtain ⟨v4, v5, v6, v14, v35, v39, v40, v42, c4, c5, c6, c35, c42, h59⟩ := hI.2.1 59 (by decide) (by decide)
          have h75 : _ = some _ := hI.2.1 75 (by decide) (by decide)
          refine v_aload_n rfl rfl ?_
          refine v_get rfl h59 rfl ?_
          refine v_iload_n rfl rfl ?_
          refine v_iaload rfl h75 (by rw [i_lt, i_0]; omega) (show ((ga 8).set b.toInt.toNat ((ga 8).getD b.toInt.toNat 0 - e))[b.toNatClampNeg]? = some ((ga 8).getD b.toInt.toNat 0 - e) by rw [i_cl, List.getElem?_set_self (by rw [q8]; omega)]) ?_
          exact v_iret rfl (by show pm_PM _ _ _ _; unfold sp_cut; rw [if_neg lk, if_neg t19i, if_neg (show ¬ ((ga 8).getD b.toInt.toNat 0).toInt < e.toInt by omega)]; exact ⟨rfl, hI, hh⟩)
      · refine v_aload_n rfl rfl ?_
        refine v_bipush (v := (-6)) rfl (by decide) ?_
        refine v_callV rfl (c_M_refuse (-6) (by unfold pm_isR; decide) hR hI) rfl rfl h59 rfl rfl (by omega) (fun rv w1 hq => ?_)
        obtain ⟨rfl, g1, g2⟩ := hq
        exact v_iret rfl (by show pm_PM _ _ _ _; unfold sp_cut; rw [if_neg lk, if_neg (by simp only [i_lt, i_le, i_eq, i_0, i_1, i_2, i_3, i_4, i_5, i_12, i_20, i_40, i_99, i_100, i_200, i_500, i_999, i_2000, i_3000, i_100000] at *; omega), if_pos (show ((ga 8).getD b.toInt.toNat 0).toInt < e.toInt by rw [i_le] at t36; exact Int.not_le.mp t36)]; exact ⟨rfl, g1, hh.tr g2⟩)
    · refine v_aload_n rfl rfl ?_
      refine v_bipush (v := (-4)) rfl (by decide) ?_
      refine v_callV rfl (c_M_refuse (-4) (by unfold pm_isR; decide) hR hI) rfl rfl h59 rfl rfl (by omega) (fun rv w1 hq => ?_)
      obtain ⟨rfl, g1, g2⟩ := hq
      exact v_iret rfl (by show pm_PM _ _ _ _; unfold sp_cut; rw [if_neg lk, if_pos (by simp only [i_lt, i_le, i_eq, i_0, i_1, i_2, i_3, i_4, i_5, i_12, i_20, i_40, i_99, i_100, i_200, i_500, i_999, i_2000, i_3000, i_100000] at *; omega)]; exact ⟨rfl, g1, hh.tr g2⟩)
  · refine v_aload_n rfl rfl ?_
    refine v_iload_n rfl rfl ?_
    refine v_callV rfl (c_M_refuse (pm_lk ga b 1) (pm_lk_R (by simp only [i_le, i_0] at t8; omega)) hR hI) rfl rfl h59 rfl rfl (by omega) (fun rv w1 hq => ?_)
    obtain ⟨rfl, g1, g2⟩ := hq
    exact v_iret rfl (by show pm_PM _ _ _ _; unfold sp_cut; rw [if_pos (show (pm_lk ga b 1).toInt < 0 by simp only [i_le, i_0] at t8; omega)]; exact ⟨rfl, g1, hh.tr g2⟩)

