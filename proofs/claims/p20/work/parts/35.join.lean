theorem pm_wf_5 {h : Int32} : pm_wf h 1 = -5 ↔ h = 0 := by
  rcases pm_wf_c h 1 with ⟨c, e⟩ | ⟨c, c2, e⟩ | ⟨c, c2, e⟩
  · exact ⟨fun _ => c, fun _ => e⟩
  · exact ⟨fun x => absurd (e.symm.trans x) (by decide), fun x => absurd x c⟩
  · exact ⟨fun x => absurd (e.symm.trans x) (by decide), fun x => absurd x c⟩
theorem pm_wf_00 {h : Int32} : pm_wf h 1 = 0 ↔ h = 1 := by
  rcases pm_wf_c h 1 with ⟨c, e⟩ | ⟨c, c2, e⟩ | ⟨c, c2, e⟩
  · exact ⟨fun x => absurd (e.symm.trans x) (by decide), fun x => absurd (c.symm.trans x) (by decide)⟩
  · exact ⟨fun _ => c2, fun _ => e⟩
  · exact ⟨fun x => absurd (e.symm.trans x) (by decide), fun x => absurd x c2⟩
theorem pm_set_same {xs : List Int32} {j : Nat} {v : Int32} (h : j < xs.length) (e : xs.getD j 0 = v) : xs.set j v = xs := by
  apply List.ext_getElem?
  intro i
  by_cases c : j = i
  · subst c
    rw [List.getElem?_set_self h, pm_gD (d := 0) h, e]
  · rw [List.getElem?_set_ne c]
/-- a beam that holds a warp holds an ell of it -/
def pm_Bg (ga : Nat → List Int32) : Prop := ∀ j, j < 4 → (ga 7).getD j 0 = 1 → 1 ≤ ((ga 8).getD j 0).toInt
theorem pm_add_ar {x y : Int32} (hx : pm_rng x 0 500) (hy : pm_rng y 0 500) : (x + y).toInt = x.toInt + y.toInt := by
  obtain ⟨a, -, ha, ea⟩ := i_ofn (a := 0) (b := 500) hx
  obtain ⟨b, -, hb, eb⟩ := i_ofn (a := 0) (b := 500) hy
  rw [ea, eb, nI_add, nI_toInt (by omega), nI_toInt (by omega), nI_toInt (by omega)]; omega
noncomputable def sp_join (gi : Nat → Int32) (ga : Nat → List Int32) (a b : Int32) : pm_G := if ¬ (0 ≤ a.toInt ∧ a.toInt < 4) ∨ ¬ (0 ≤ b.toInt ∧ b.toInt < 4) ∨ a = b then pm_no gi ga (-1) else if (ga 7).getD a.toInt.toNat 0 = 0 ∨ (ga 7).getD b.toInt.toNat 0 = 0 then pm_no gi ga (-5) else if ¬ (ga 7).getD a.toInt.toNat 0 = 1 ∨ ¬ (ga 7).getD b.toInt.toNat 0 = 1 then pm_no gi ga (-2) else if 500 < ((ga 8).getD a.toInt.toNat 0 + (ga 8).getD b.toInt.toNat 0).toInt then pm_no gi ga (-6) else (((ga 8).getD a.toInt.toNat 0 + (ga 8).getD b.toInt.toNat 0), gi, pm_uA (pm_uA ga 7 ((ga 7).set b.toInt.toNat 0)) 8 (((ga 8).set a.toInt.toNat ((ga 8).getD a.toInt.toNat 0 + (ga 8).getD b.toInt.toNat 0)).set b.toInt.toNat 0))
theorem pm_join_wp {ga : Nat → List Int32} {a b : Int32} (l7 : (ga 7).length = 4) (ha : a.toInt.toNat < 4) (h1 : (ga 7).getD a.toInt.toNat 0 = 1) (hp : ¬ ((ga 8).getD a.toInt.toNat 0 + (ga 8).getD b.toInt.toNat 0) ≤ 0) : pm_wp (pm_wp ga a.toInt.toNat ((ga 8).getD a.toInt.toNat 0 + (ga 8).getD b.toInt.toNat 0)) b.toInt.toNat 0 = pm_uA (pm_uA ga 7 ((ga 7).set b.toInt.toNat 0)) 8 (((ga 8).set a.toInt.toNat ((ga 8).getD a.toInt.toNat 0 + (ga 8).getD b.toInt.toNat 0)).set b.toInt.toNat 0) := by
  unfold pm_wp
  rw [if_neg hp, if_pos (by decide)]
  funext i
  by_cases e8 : i = 8
  · subst e8; rfl
  · by_cases e7 : i = 7
    · subst e7
      show ((ga 7).set a.toInt.toNat 1).set b.toInt.toNat 0 = (ga 7).set b.toInt.toNat 0
      rw [pm_set_same (by omega) h1]
    · rw [pm_uA_ne e8, pm_uA_ne e7, pm_uA_ne e8, pm_uA_ne e7, pm_uA_ne e8, pm_uA_ne e7]
set_option maxRecDepth 100000 in
theorem c_X_join {sc : pm_S} {w : pm_W} {gi : Nat → Int32} {ga : Nat → List Int32} (a b : Int32) (hR : pm_Rg gi ga) (hI : pm_IX gi ga w) (hB : pm_Bg ga) : pm_Mt sc 2 104 6 [.ref 0, .int a, .int b] w (pm_PX w (sp_join gi ga a b)) := by
  intro d hd
  show pm_V sc d 104 0 _ [] w _
  have hh : pm_hi w w := pm_hi.rf
  obtain ⟨v6, c6, h0⟩ := hI.2 0 (by decide)
  have h45 : _ = some _ := hI.2 45 (by decide)
  refine v_iload_n rfl rfl ?_
  refine v_iconst (v := 4) rfl (by decide) ?_
  refine v_callS rfl (c_isPlace a 4 w) rfl rfl rfl rfl rfl (by omega) (fun rv w1 hq => ?_)
  obtain ⟨rfl, rfl⟩ := hq
  by_cases ha : 0 ≤ a.toInt ∧ a.toInt < 4
  · rw [pm_b_1 (show 0 ≤ a.toInt ∧ a.toInt < (4 : Int32).toInt from ha)]
    refine v_if_eq rfl (fun h => absurd h (by decide)) (fun _ => ?_)
    refine v_iload_n rfl rfl ?_
    refine v_iconst (v := 4) rfl (by decide) ?_
    refine v_callS rfl (c_isPlace b 4 w) rfl rfl rfl rfl rfl (by omega) (fun rv w1 hq => ?_)
    obtain ⟨rfl, rfl⟩ := hq
    by_cases hb : 0 ≤ b.toInt ∧ b.toInt < 4
    · rw [pm_b_1 (show 0 ≤ b.toInt ∧ b.toInt < (4 : Int32).toInt from hb)]
      refine v_if_eq rfl (fun h => absurd h (by decide)) (fun _ => ?_)
      refine v_iload_n rfl rfl ?_
      refine v_iload_n rfl rfl ?_
      refine v_icmp_ne rfl (fun t18 => ?_) (fun t18 => ?_)
      · have ja : a.toInt.toNat < 4 := by omega
        have ra : ([some 46, some 49, some 52, some 55] : List (Option Nat))[a.toNatClampNeg]? = some (some (46 + 3 * a.toInt.toNat)) := by rw [i_nI ha.1, nI_toInt (by omega)]; exact pm_bref ja
        have ma := hI.beam ja
        have jb : b.toInt.toNat < 4 := by omega
        have rb : ([some 46, some 49, some 52, some 55] : List (Option Nat))[b.toNatClampNeg]? = some (some (46 + 3 * b.toInt.toNat)) := by rw [i_nI hb.1, nI_toInt (by omega)]; exact pm_bref jb
        have mb := hI.beam jb
        have q7 := hR.l7
        have q8 := hR.l8
        have ea := hR.r8 _ (pm_mem_getD (k := a.toInt.toNat) (by rw [q8]; omega))
        have eb := hR.r8 _ (pm_mem_getD (k := b.toInt.toNat) (by rw [q8]; omega))
        have eT := pm_add_ar ea eb
        refine v_aload_n rfl rfl ?_
        refine v_get rfl h0 rfl ?_
        refine v_iload_n rfl rfl ?_
        refine v_aaload rfl h45 (by rw [i_lt, i_0]; omega) ra ?_
        refine v_iconst (v := 1) rfl (by decide) ?_
        refine v_callV rfl (c_wrongFor ma 1) rfl rfl ma rfl rfl (by omega) (fun rv w1 hq => ?_)
        obtain ⟨rfl, rfl⟩ := hq
        refine v_istore_n rfl (Nat.le_of_ble_eq_true rfl) ?_
        refine v_aload_n rfl rfl ?_
        refine v_get rfl h0 rfl ?_
        refine v_iload_n rfl rfl ?_
        refine v_aaload rfl h45 (by rw [i_lt, i_0]; omega) rb ?_
        refine v_iconst (v := 1) rfl (by decide) ?_
        refine v_callV rfl (c_wrongFor mb 1) rfl rfl mb rfl rfl (by omega) (fun rv w1 hq => ?_)
        obtain ⟨rfl, rfl⟩ := hq
        refine v_istore rfl (Nat.le_of_ble_eq_true rfl) ?_
        refine v_iload_n rfl rfl ?_
        refine v_bipush (v := (-5)) rfl (by decide) ?_
        refine v_icmp_eq rfl (fun t53 => ?_) (fun t53 => ?_)
        · refine v_aload_n rfl rfl ?_
          refine v_bipush (v := (-5)) rfl (by decide) ?_
          refine v_callV rfl (c_X_refuse (-5) (by unfold pm_isR; decide) hR hI) rfl rfl h0 rfl rfl (by omega) (fun rv w1 hq => ?_)
          obtain ⟨rfl, g1, g2⟩ := hq
          exact v_iret rfl (by show pm_PX _ _ _ _; unfold sp_join; rw [if_neg (fun h => h.elim (fun x => x ha) (fun x => x.elim (fun y => y hb) (fun y => t18 y))), if_pos (by first | exact Or.inl (pm_wf_5.mp t53) | exact Or.inr (pm_wf_5.mp t60))]; exact ⟨rfl, g1, hh.tr g2⟩)
        · refine v_iload rfl rfl ?_
          refine v_bipush (v := (-5)) rfl (by decide) ?_
          refine v_icmp_ne rfl (fun t60 => ?_) (fun t60 => ?_)
          · refine v_iload_n rfl rfl ?_
            refine v_if_ne rfl (fun t71 => ?_) (fun t71 => ?_)
            · refine v_aload_n rfl rfl ?_
              refine v_bipush (v := (-2)) rfl (by decide) ?_
              refine v_callV rfl (c_X_refuse (-2) (by unfold pm_isR; decide) hR hI) rfl rfl h0 rfl rfl (by omega) (fun rv w1 hq => ?_)
              obtain ⟨rfl, g1, g2⟩ := hq
              exact v_iret rfl (by show pm_PX _ _ _ _; unfold sp_join; rw [if_neg (fun h => h.elim (fun x => x ha) (fun x => x.elim (fun y => y hb) (fun y => t18 y))), if_neg (fun h => h.elim (fun x => t53 (pm_wf_5.mpr x)) (fun x => t60 (pm_wf_5.mpr x))), if_pos (by first | exact Or.inl (fun x => t71 (pm_wf_00.mpr x)) | exact Or.inr (fun x => t76 (pm_wf_00.mpr x)))]; exact ⟨rfl, g1, hh.tr g2⟩)
            · refine v_iload rfl rfl ?_
              refine v_if_eq rfl (fun t76 => ?_) (fun t76 => ?_)
              · have oa : (ga 7).getD a.toInt.toNat 0 = 1 := pm_wf_00.mp t71
                have ob : (ga 7).getD b.toInt.toNat 0 = 1 := pm_wf_00.mp t76
                have ba := hB _ ja oa
                refine v_aload_n rfl rfl ?_
                refine v_get rfl h0 rfl ?_
                refine v_iload_n rfl rfl ?_
                refine v_aaload rfl h45 (by rw [i_lt, i_0]; omega) ra ?_
                refine v_get rfl ma rfl ?_
                refine v_aload_n rfl rfl ?_
                refine v_get rfl h0 rfl ?_
                refine v_iload_n rfl rfl ?_
                refine v_aaload rfl h45 (by rw [i_lt, i_0]; omega) rb ?_
                refine v_get rfl mb rfl ?_
                refine v_iadd rfl ?_
                refine v_istore rfl (Nat.le_of_ble_eq_true rfl) ?_
                refine v_iload rfl rfl ?_
                refine v_sipush (v := 500) rfl (by decide) ?_
                refine v_icmp_le rfl (fun t112 => ?_) (fun t112 => ?_)
                · refine v_aload_n rfl rfl ?_
                  refine v_get rfl h0 rfl ?_
                  refine v_iload_n rfl rfl ?_
                  refine v_aaload rfl h45 (by rw [i_lt, i_0]; omega) ra ?_
                  refine v_iload rfl rfl ?_
                  refine v_callV rfl (c_holdWarp ma ((ga 8).getD a.toInt.toNat 0 + (ga 8).getD b.toInt.toNat 0)) rfl rfl ma rfl rfl (by omega) (fun rv w1 hq => ?_)
                  obtain ⟨rfl, rfl⟩ := hq
                  refine v_forget (P := fun u => pm_IX gi (pm_wp ga a.toInt.toNat ((ga 8).getD a.toInt.toNat 0 + (ga 8).getD b.toInt.toNat 0)) u ∧ pm_hi w u) ⟨hI.ubeam hR ja _ _, hh.set (by omega) _⟩ (fun w1 hw1 => ?_)
                  obtain ⟨hI, hh⟩ := hw1
                  obtain ⟨v6, c6, h0⟩ := hI.2 0 (by decide)
                  have h45 : _ = some _ := hI.2 45 (by decide)
                  have ma := hI.beam ja
                  have mb := hI.beam jb
                  refine v_aload_n rfl rfl ?_
                  have rT : pm_rng ((ga 8).getD a.toInt.toNat 0 + (ga 8).getD b.toInt.toNat 0) 0 500 := ⟨by rw [eT]; have := ea.1; have := eb.1; omega, by rw [i_le, i_500] at t112; omega⟩
                  have hR2 : pm_Rg gi (pm_wp ga a.toInt.toNat ((ga 8).getD a.toInt.toNat 0 + (ga 8).getD b.toInt.toNat 0)) := (hR.s7 (by split <;> (unfold pm_rng; decide))).s8 rT
                  refine v_get rfl h0 rfl ?_
                  refine v_iload_n rfl rfl ?_
                  refine v_aaload rfl h45 (by rw [i_lt, i_0]; omega) rb ?_
                  refine v_iconst (v := 0) rfl (by decide) ?_
                  refine v_callV rfl (c_holdWarp mb 0) rfl rfl mb rfl rfl (by omega) (fun rv w1 hq => ?_)
                  obtain ⟨rfl, rfl⟩ := hq
                  refine v_forget (P := fun u => pm_IX gi (pm_wp (pm_wp ga a.toInt.toNat ((ga 8).getD a.toInt.toNat 0 + (ga 8).getD b.toInt.toNat 0)) b.toInt.toNat 0) u ∧ pm_hi w u) ⟨hI.ubeam hR2 jb _ _, hh.set (by omega) _⟩ (fun w1 hw1 => ?_)
                  obtain ⟨hI, hh⟩ := hw1
                  obtain ⟨v6, c6, h0⟩ := hI.2 0 (by decide)
                  have h45 : _ = some _ := hI.2 45 (by decide)
                  have ma := hI.beam ja
                  have mb := hI.beam jb
                  refine v_iload rfl rfl ?_
                  exact v_iret rfl (by show pm_PX _ _ _ _; unfold sp_join; rw [if_neg (fun h => h.elim (fun x => x ha) (fun x => x.elim (fun y => y hb) (fun y => t18 y))), if_neg (fun h => h.elim (fun x => t53 (pm_wf_5.mpr x)) (fun x => t60 (pm_wf_5.mpr x))), if_neg (fun h => h.elim (fun x => x oa) (fun x => x ob)), if_neg (by rw [i_le, i_500] at t112; omega)]; exact ⟨rfl, by have e := pm_join_wp (b := b) q7 ja oa (by rw [i_le, i_0, eT]; have := eb.1; omega); rw [e] at hI; exact hI, hh⟩)
                · refine v_aload_n rfl rfl ?_
                  refine v_bipush (v := (-6)) rfl (by decide) ?_
                  refine v_callV rfl (c_X_refuse (-6) (by unfold pm_isR; decide) hR hI) rfl rfl h0 rfl rfl (by omega) (fun rv w1 hq => ?_)
                  obtain ⟨rfl, g1, g2⟩ := hq
                  exact v_iret rfl (by show pm_PX _ _ _ _; unfold sp_join; rw [if_neg (fun h => h.elim (fun x => x ha) (fun x => x.elim (fun y => y hb) (fun y => t18 y))), if_neg (fun h => h.elim (fun x => t53 (pm_wf_5.mpr x)) (fun x => t60 (pm_wf_5.mpr x))), if_neg (fun h => h.elim (fun x => x oa) (fun x => x ob)), if_pos (by rw [i_le, i_500] at t112; omega)]; exact ⟨rfl, g1, hh.tr g2⟩)
              · refine v_aload_n rfl rfl ?_
                refine v_bipush (v := (-2)) rfl (by decide) ?_
                refine v_callV rfl (c_X_refuse (-2) (by unfold pm_isR; decide) hR hI) rfl rfl h0 rfl rfl (by omega) (fun rv w1 hq => ?_)
                obtain ⟨rfl, g1, g2⟩ := hq
                exact v_iret rfl (by show pm_PX _ _ _ _; unfold sp_join; rw [if_neg (fun h => h.elim (fun x => x ha) (fun x => x.elim (fun y => y hb) (fun y => t18 y))), if_neg (fun h => h.elim (fun x => t53 (pm_wf_5.mpr x)) (fun x => t60 (pm_wf_5.mpr x))), if_pos (by first | exact Or.inl (fun x => t71 (pm_wf_00.mpr x)) | exact Or.inr (fun x => t76 (pm_wf_00.mpr x)))]; exact ⟨rfl, g1, hh.tr g2⟩)
          · refine v_aload_n rfl rfl ?_
            refine v_bipush (v := (-5)) rfl (by decide) ?_
            refine v_callV rfl (c_X_refuse (-5) (by unfold pm_isR; decide) hR hI) rfl rfl h0 rfl rfl (by omega) (fun rv w1 hq => ?_)
            obtain ⟨rfl, g1, g2⟩ := hq
            exact v_iret rfl (by show pm_PX _ _ _ _; unfold sp_join; rw [if_neg (fun h => h.elim (fun x => x ha) (fun x => x.elim (fun y => y hb) (fun y => t18 y))), if_pos (by first | exact Or.inl (pm_wf_5.mp t53) | exact Or.inr (pm_wf_5.mp t60))]; exact ⟨rfl, g1, hh.tr g2⟩)
      · refine v_aload_n rfl rfl ?_
        refine v_iconst (v := (-1)) rfl (by decide) ?_
        refine v_callV rfl (c_X_refuse (-1) (by unfold pm_isR; decide) hR hI) rfl rfl h0 rfl rfl (by omega) (fun rv w1 hq => ?_)
        obtain ⟨rfl, g1, g2⟩ := hq
        exact v_iret rfl (by show pm_PX _ _ _ _; unfold sp_join; rw [if_pos (by first | exact Or.inl ha | exact Or.inr (Or.inl hb) | exact Or.inr (Or.inr (Decidable.not_not.mp t18)) | exact Or.inr (Or.inr t18))]; exact ⟨rfl, g1, hh.tr g2⟩)
    · rw [pm_b_0 (show ¬ (0 ≤ b.toInt ∧ b.toInt < (4 : Int32).toInt) from hb)]
      refine v_if_eq rfl (fun _ => ?_) (fun h => absurd h (by decide))
      refine v_aload_n rfl rfl ?_
      refine v_iconst (v := (-1)) rfl (by decide) ?_
      refine v_callV rfl (c_X_refuse (-1) (by unfold pm_isR; decide) hR hI) rfl rfl h0 rfl rfl (by omega) (fun rv w1 hq => ?_)
      obtain ⟨rfl, g1, g2⟩ := hq
      exact v_iret rfl (by show pm_PX _ _ _ _; unfold sp_join; rw [if_pos (by first | exact Or.inl ha | exact Or.inr (Or.inl hb) | exact Or.inr (Or.inr (Decidable.not_not.mp t18)) | exact Or.inr (Or.inr t18))]; exact ⟨rfl, g1, hh.tr g2⟩)
  · rw [pm_b_0 (show ¬ (0 ≤ a.toInt ∧ a.toInt < (4 : Int32).toInt) from ha)]
    refine v_if_eq rfl (fun _ => ?_) (fun h => absurd h (by decide))
    refine v_aload_n rfl rfl ?_
    refine v_iconst (v := (-1)) rfl (by decide) ?_
    refine v_callV rfl (c_X_refuse (-1) (by unfold pm_isR; decide) hR hI) rfl rfl h0 rfl rfl (by omega) (fun rv w1 hq => ?_)
    obtain ⟨rfl, g1, g2⟩ := hq
    exact v_iret rfl (by show pm_PX _ _ _ _; unfold sp_join; rw [if_pos (by first | exact Or.inl ha | exact Or.inr (Or.inl hb) | exact Or.inr (Or.inr (Decidable.not_not.mp t18)) | exact Or.inr (Or.inr t18))]; exact ⟨rfl, g1, hh.tr g2⟩)
set_option maxRecDepth 100000 in
theorem c_M_join {sc : pm_S} {w : pm_W} {gi : Nat → Int32} {ga : Nat → List Int32} (a b : Int32) (hR : pm_Rg gi ga) (hI : pm_IM gi ga w) : pm_Mt sc 2 180 3 [.ref 59, .int a, .int b] w (pm_PM w (sp_join gi ga a b)) := by
  intro d hd
  show pm_V sc d 180 0 _ [] w _
  have hh : pm_lo w w := pm_lo.rf
  obtain ⟨v4, v5, v6, v14, v35, v39, v40, v42, c4, c5, c6, c35, c42, h59⟩ := hI.2.1 59 (by decide) (by decide)
  have h74 : _ = some _ := hI.2.1 74 (by decide) (by decide)
  have h75 : _ = some _ := hI.2.1 75 (by decide) (by decide)
  refine v_iload_n rfl rfl ?_
  refine v_callS rfl (c_isBeam a) rfl rfl rfl rfl rfl (by omega) (fun rv w1 hq => ?_)
  obtain ⟨rfl, rfl⟩ := hq
  by_cases ha : 0 ≤ a.toInt ∧ a.toInt < 4
  · rw [pm_b_1 ha]
    refine v_if_eq rfl (fun h => absurd h (by decide)) (fun _ => ?_)
    refine v_iload_n rfl rfl ?_
    refine v_callS rfl (c_isBeam b) rfl rfl rfl rfl rfl (by omega) (fun rv w1 hq => ?_)
    obtain ⟨rfl, rfl⟩ := hq
    by_cases hb : 0 ≤ b.toInt ∧ b.toInt < 4
    · rw [pm_b_1 hb]
      refine v_if_eq rfl (fun h => absurd h (by decide)) (fun _ => ?_)
      refine v_iload_n rfl rfl ?_
      refine v_iload_n rfl rfl ?_
      refine v_icmp_ne rfl (fun t16 => ?_) (fun t16 => ?_)
      · have q7 := hR.l7
        have q8 := hR.l8
        have ea := hR.r8 _ (pm_mem_getD (k := a.toInt.toNat) (by rw [q8]; omega))
        have eb := hR.r8 _ (pm_mem_getD (k := b.toInt.toNat) (by rw [q8]; omega))
        have eT := pm_add_ar ea eb
        refine v_aload_n rfl rfl ?_
        refine v_get rfl h59 rfl ?_
        refine v_iload_n rfl rfl ?_
        refine v_iaload rfl h74 (by rw [i_lt, i_0]; omega) (pm_gD (d := 0) (by rw [i_cl, q7]; omega)) ?_
        refine v_if_eq rfl (fun t31 => ?_) (fun t31 => ?_)
        · refine v_aload_n rfl rfl ?_
          refine v_bipush (v := (-5)) rfl (by decide) ?_
          refine v_callV rfl (c_M_refuse (-5) (by unfold pm_isR; decide) hR hI) rfl rfl h59 rfl rfl (by omega) (fun rv w1 hq => ?_)
          obtain ⟨rfl, g1, g2⟩ := hq
          exact v_iret rfl (by show pm_PM _ _ _ _; unfold sp_join; rw [if_neg (fun h => h.elim (fun x => x ha) (fun x => x.elim (fun y => y hb) (fun y => t16 y))), if_pos (by first | exact Or.inl t31 | exact Or.inr t40 | exact Or.inr (Decidable.not_not.mp t40))]; exact ⟨rfl, g1, hh.tr g2⟩)
        · refine v_aload_n rfl rfl ?_
          refine v_get rfl h59 rfl ?_
          refine v_iload_n rfl rfl ?_
          refine v_iaload rfl h74 (by rw [i_lt, i_0]; omega) (pm_gD (d := 0) (by rw [i_cl, q7]; omega)) ?_
          refine v_if_ne rfl (fun t40 => ?_) (fun t40 => ?_)
          · refine v_aload_n rfl rfl ?_
            refine v_get rfl h59 rfl ?_
            refine v_iload_n rfl rfl ?_
            refine v_iaload rfl h74 (by rw [i_lt, i_0]; omega) (pm_gD (d := 0) (by rw [i_cl, q7]; omega)) ?_
            refine v_iconst (v := 1) rfl (by decide) ?_
            refine v_icmp_ne rfl (fun t57 => ?_) (fun t57 => ?_)
            · refine v_aload_n rfl rfl ?_
              refine v_bipush (v := (-2)) rfl (by decide) ?_
              refine v_callV rfl (c_M_refuse (-2) (by unfold pm_isR; decide) hR hI) rfl rfl h59 rfl rfl (by omega) (fun rv w1 hq => ?_)
              obtain ⟨rfl, g1, g2⟩ := hq
              exact v_iret rfl (by show pm_PM _ _ _ _; unfold sp_join; rw [if_neg (fun h => h.elim (fun x => x ha) (fun x => x.elim (fun y => y hb) (fun y => t16 y))), if_neg (fun h => h.elim (fun x => t31 x) (fun x => t40 x)), if_pos (by first | exact Or.inl t57 | exact Or.inr t67)]; exact ⟨rfl, g1, hh.tr g2⟩)
            · refine v_aload_n rfl rfl ?_
              refine v_get rfl h59 rfl ?_
              refine v_iload_n rfl rfl ?_
              refine v_iaload rfl h74 (by rw [i_lt, i_0]; omega) (pm_gD (d := 0) (by rw [i_cl, q7]; omega)) ?_
              refine v_iconst (v := 1) rfl (by decide) ?_
              refine v_icmp_eq rfl (fun t67 => ?_) (fun t67 => ?_)
              · have oa : (ga 7).getD a.toInt.toNat 0 = 1 := by first | exact t57 | exact Decidable.not_not.mp t57
                have ob : (ga 7).getD b.toInt.toNat 0 = 1 := t67
                refine v_aload_n rfl rfl ?_
                refine v_get rfl h59 rfl ?_
                refine v_iload_n rfl rfl ?_
                refine v_iaload rfl h75 (by rw [i_lt, i_0]; omega) (pm_gD (d := 0) (by rw [i_cl, q8]; omega)) ?_
                refine v_aload_n rfl rfl ?_
                refine v_get rfl h59 rfl ?_
                refine v_iload_n rfl rfl ?_
                refine v_iaload rfl h75 (by rw [i_lt, i_0]; omega) (pm_gD (d := 0) (by rw [i_cl, q8]; omega)) ?_
                refine v_iadd rfl ?_
                refine v_sipush (v := 500) rfl (by decide) ?_
                refine v_icmp_le rfl (fun t93 => ?_) (fun t93 => ?_)
                · refine v_aload_n rfl rfl ?_
                  refine v_get rfl h59 rfl ?_
                  refine v_iload_n rfl rfl ?_
                  refine v_dup2 rfl rfl ?_
                  refine v_iaload rfl h75 (by rw [i_lt, i_0]; omega) (pm_gD (d := 0) (by rw [i_cl, q8]; omega)) ?_
                  refine v_aload_n rfl rfl ?_
                  refine v_get rfl h59 rfl ?_
                  refine v_iload_n rfl rfl ?_
                  refine v_iaload rfl h75 (by rw [i_lt, i_0]; omega) (pm_gD (d := 0) (by rw [i_cl, q8]; omega)) ?_
                  refine v_iadd rfl ?_
                  refine v_iastore rfl h75 (by rw [i_lt, i_0]; omega) (by rw [i_cl, q8]; omega) ?_
                  refine v_forget (P := fun u => pm_IM gi (pm_uA ga 8 ((ga 8).set a.toInt.toNat ((ga 8).getD a.toInt.toNat 0 + (ga 8).getD b.toInt.toNat 0))) u ∧ pm_lo w u) ⟨hI.uA 75 8 (by decide +kernel) (by decide +kernel) (by decide +kernel) (by decide +kernel) (by decide +kernel) rfl, hh.set (by decide) _⟩ (fun w1 hw1 => ?_)
                  obtain ⟨hI, hh⟩ := hw1
                  obtain ⟨v4, v5, v6, v14, v35, v39, v40, v42, c4, c5, c6, c35, c42, h59⟩ := hI.2.1 59 (by decide) (by decide)
                  have h75 : _ = some _ := hI.2.1 75 (by decide) (by decide)
                  have rT : pm_rng ((ga 8).getD a.toInt.toNat 0 + (ga 8).getD b.toInt.toNat 0) 0 500 := ⟨by rw [eT]; have := ea.1; have := eb.1; omega, by have t2 : ((ga 8).getD a.toInt.toNat 0 + (ga 8).getD b.toInt.toNat 0) ≤ 500 := t93; rw [i_le, i_500] at t2; omega⟩
                  refine v_aload_n rfl rfl ?_
                  refine v_get rfl h59 rfl ?_
                  refine v_iload_n rfl rfl ?_
                  refine v_iconst (v := 0) rfl (by decide) ?_
                  refine v_iastore rfl h75 (by rw [i_lt, i_0]; omega) (by rw [i_cl]; show _ < ((ga 8).set _ _).length; rw [List.length_set, q8]; omega) ?_
                  refine v_forget (P := fun u => pm_IM gi (pm_uA ga 8 (((ga 8).set a.toInt.toNat ((ga 8).getD a.toInt.toNat 0 + (ga 8).getD b.toInt.toNat 0)).set b.toInt.toNat 0)) u ∧ pm_lo w u) ⟨by
                      have e2 : pm_uA (pm_uA ga 8 ((ga 8).set a.toInt.toNat ((ga 8).getD a.toInt.toNat 0 + (ga 8).getD b.toInt.toNat 0))) 8 (((ga 8).set a.toInt.toNat ((ga 8).getD a.toInt.toNat 0 + (ga 8).getD b.toInt.toNat 0)).set b.toInt.toNat 0) = pm_uA ga 8 (((ga 8).set a.toInt.toNat ((ga 8).getD a.toInt.toNat 0 + (ga 8).getD b.toInt.toNat 0)).set b.toInt.toNat 0) := by
                        funext i
                        by_cases e8 : i = 8
                        · subst e8; rfl
                        · rw [pm_uA_ne e8, pm_uA_ne e8, pm_uA_ne e8]
                      rw [← e2]; exact hI.uA 75 8 (by decide +kernel) (by decide +kernel) (by decide +kernel) (by decide +kernel) (by decide +kernel) rfl, hh.set (by decide) _⟩ (fun w1 hw1 => ?_)
                  obtain ⟨hI, hh⟩ := hw1
                  obtain ⟨v4, v5, v6, v14, v35, v39, v40, v42, c4, c5, c6, c35, c42, h59⟩ := hI.2.1 59 (by decide) (by decide)
                  have h74 : _ = some _ := hI.2.1 74 (by decide) (by decide)
                  have h75 : _ = some _ := hI.2.1 75 (by decide) (by decide)
                  have hR2 : pm_Rg gi (pm_uA ga 8 (((ga 8).set a.toInt.toNat ((ga 8).getD a.toInt.toNat 0 + (ga 8).getD b.toInt.toNat 0)).set b.toInt.toNat 0)) := by
                    have hz := (hR.s8 (j := a.toInt.toNat) rT).s8 (j := b.toInt.toNat) (v := 0) (by unfold pm_rng; decide)
                    have e2 : pm_uA (pm_uA ga 8 ((ga 8).set a.toInt.toNat ((ga 8).getD a.toInt.toNat 0 + (ga 8).getD b.toInt.toNat 0))) 8 (((pm_uA ga 8 ((ga 8).set a.toInt.toNat ((ga 8).getD a.toInt.toNat 0 + (ga 8).getD b.toInt.toNat 0))) 8).set b.toInt.toNat 0) = pm_uA ga 8 (((ga 8).set a.toInt.toNat ((ga 8).getD a.toInt.toNat 0 + (ga 8).getD b.toInt.toNat 0)).set b.toInt.toNat 0) := by
                      funext i
                      by_cases e8 : i = 8
                      · subst e8; rfl
                      · rw [pm_uA_ne e8, pm_uA_ne e8, pm_uA_ne e8]
                    rw [e2] at hz; exact hz
                  refine v_aload_n rfl rfl ?_
                  refine v_get rfl h59 rfl ?_
                  refine v_iload_n rfl rfl ?_
                  refine v_iconst (v := 0) rfl (by decide) ?_
                  refine v_iastore rfl h74 (by rw [i_lt, i_0]; omega) (by rw [i_cl]; show _ < (ga 7).length; rw [q7]; omega) ?_
                  refine v_forget (P := fun u => pm_IM gi (pm_uA (pm_uA ga 7 ((ga 7).set b.toInt.toNat 0)) 8 (((ga 8).set a.toInt.toNat ((ga 8).getD a.toInt.toNat 0 + (ga 8).getD b.toInt.toNat 0)).set b.toInt.toNat 0)) u ∧ pm_lo w u) ⟨by
                      have e2 : pm_uA (pm_uA ga 8 (((ga 8).set a.toInt.toNat ((ga 8).getD a.toInt.toNat 0 + (ga 8).getD b.toInt.toNat 0)).set b.toInt.toNat 0)) 7 ((ga 7).set b.toInt.toNat 0) = pm_uA (pm_uA ga 7 ((ga 7).set b.toInt.toNat 0)) 8 (((ga 8).set a.toInt.toNat ((ga 8).getD a.toInt.toNat 0 + (ga 8).getD b.toInt.toNat 0)).set b.toInt.toNat 0) := pm_uA_comm (by decide) _ _
                      rw [← e2]; exact hI.u7 hR2 (j := b.toInt.toNat) (by omega) (by decide), hh.set (by decide) _⟩ (fun w1 hw1 => ?_)
                  obtain ⟨hI, hh⟩ := hw1
                  obtain ⟨v4, v5, v6, v14, v35, v39, v40, v42, c4, c5, c6, c35, c42, h59⟩ := hI.2.1 59 (by decide) (by decide)
                  have h75 : _ = some _ := hI.2.1 75 (by decide) (by decide)
                  refine v_aload_n rfl rfl ?_
                  refine v_get rfl h59 rfl ?_
                  refine v_iload_n rfl rfl ?_
                  refine v_iaload rfl h75 (by rw [i_lt, i_0]; omega) (show (((ga 8).set a.toInt.toNat ((ga 8).getD a.toInt.toNat 0 + (ga 8).getD b.toInt.toNat 0)).set b.toInt.toNat 0)[a.toNatClampNeg]? = some ((ga 8).getD a.toInt.toNat 0 + (ga 8).getD b.toInt.toNat 0) by rw [i_cl, List.getElem?_set_ne (fun e => t16 (Int32.toInt_inj.mp (by omega))), List.getElem?_set_self (by rw [q8]; omega)]) ?_
                  exact v_iret rfl (by show pm_PM _ _ _ _; unfold sp_join; rw [if_neg (fun h => h.elim (fun x => x ha) (fun x => x.elim (fun y => y hb) (fun y => t16 y))), if_neg (fun h => h.elim (fun x => t31 x) (fun x => t40 x)), if_neg (fun h => h.elim (fun x => x oa) (fun x => x ob)), if_neg (show ¬ 500 < ((ga 8).getD a.toInt.toNat 0 + (ga 8).getD b.toInt.toNat 0).toInt by have t2 : ((ga 8).getD a.toInt.toNat 0 + (ga 8).getD b.toInt.toNat 0) ≤ 500 := t93; rw [i_le, i_500] at t2; omega)]; exact ⟨rfl, hI, hh⟩)
                · refine v_aload_n rfl rfl ?_
                  refine v_bipush (v := (-6)) rfl (by decide) ?_
                  refine v_callV rfl (c_M_refuse (-6) (by unfold pm_isR; decide) hR hI) rfl rfl h59 rfl rfl (by omega) (fun rv w1 hq => ?_)
                  obtain ⟨rfl, g1, g2⟩ := hq
                  exact v_iret rfl (by show pm_PM _ _ _ _; unfold sp_join; rw [if_neg (fun h => h.elim (fun x => x ha) (fun x => x.elim (fun y => y hb) (fun y => t16 y))), if_neg (fun h => h.elim (fun x => t31 x) (fun x => t40 x)), if_neg (fun h => h.elim (fun x => x oa) (fun x => x ob)), if_pos (show 500 < ((ga 8).getD a.toInt.toNat 0 + (ga 8).getD b.toInt.toNat 0).toInt by have t2 : ¬ ((ga 8).getD a.toInt.toNat 0 + (ga 8).getD b.toInt.toNat 0) ≤ 500 := t93; rw [i_le, i_500] at t2; omega)]; exact ⟨rfl, g1, hh.tr g2⟩)
              · refine v_aload_n rfl rfl ?_
                refine v_bipush (v := (-2)) rfl (by decide) ?_
                refine v_callV rfl (c_M_refuse (-2) (by unfold pm_isR; decide) hR hI) rfl rfl h59 rfl rfl (by omega) (fun rv w1 hq => ?_)
                obtain ⟨rfl, g1, g2⟩ := hq
                exact v_iret rfl (by show pm_PM _ _ _ _; unfold sp_join; rw [if_neg (fun h => h.elim (fun x => x ha) (fun x => x.elim (fun y => y hb) (fun y => t16 y))), if_neg (fun h => h.elim (fun x => t31 x) (fun x => t40 x)), if_pos (by first | exact Or.inl t57 | exact Or.inr t67)]; exact ⟨rfl, g1, hh.tr g2⟩)
          · refine v_aload_n rfl rfl ?_
            refine v_bipush (v := (-5)) rfl (by decide) ?_
            refine v_callV rfl (c_M_refuse (-5) (by unfold pm_isR; decide) hR hI) rfl rfl h59 rfl rfl (by omega) (fun rv w1 hq => ?_)
            obtain ⟨rfl, g1, g2⟩ := hq
            exact v_iret rfl (by show pm_PM _ _ _ _; unfold sp_join; rw [if_neg (fun h => h.elim (fun x => x ha) (fun x => x.elim (fun y => y hb) (fun y => t16 y))), if_pos (by first | exact Or.inl t31 | exact Or.inr t40 | exact Or.inr (Decidable.not_not.mp t40))]; exact ⟨rfl, g1, hh.tr g2⟩)
      · refine v_aload_n rfl rfl ?_
        refine v_iconst (v := (-1)) rfl (by decide) ?_
        refine v_callV rfl (c_M_refuse (-1) (by unfold pm_isR; decide) hR hI) rfl rfl h59 rfl rfl (by omega) (fun rv w1 hq => ?_)
        obtain ⟨rfl, g1, g2⟩ := hq
        exact v_iret rfl (by show pm_PM _ _ _ _; unfold sp_join; rw [if_pos (by first | exact Or.inl ha | exact Or.inr (Or.inl hb) | exact Or.inr (Or.inr (Decidable.not_not.mp t16)) | exact Or.inr (Or.inr t16))]; exact ⟨rfl, g1, hh.tr g2⟩)
    · rw [pm_b_0 hb]
      refine v_if_eq rfl (fun _ => ?_) (fun h => absurd h (by decide))
      refine v_aload_n rfl rfl ?_
      refine v_iconst (v := (-1)) rfl (by decide) ?_
      refine v_callV rfl (c_M_refuse (-1) (by unfold pm_isR; decide) hR hI) rfl rfl h59 rfl rfl (by omega) (fun rv w1 hq => ?_)
      obtain ⟨rfl, g1, g2⟩ := hq
      exact v_iret rfl (by show pm_PM _ _ _ _; unfold sp_join; rw [if_pos (by first | exact Or.inl ha | exact Or.inr (Or.inl hb) | exact Or.inr (Or.inr (Decidable.not_not.mp t16)) | exact Or.inr (Or.inr t16))]; exact ⟨rfl, g1, hh.tr g2⟩)
  · rw [pm_b_0 ha]
    refine v_if_eq rfl (fun _ => ?_) (fun h => absurd h (by decide))
    refine v_aload_n rfl rfl ?_
    refine v_iconst (v := (-1)) rfl (by decide) ?_
    refine v_callV rfl (c_M_refuse (-1) (by unfold pm_isR; decide) hR hI) rfl rfl h59 rfl rfl (by omega) (fun rv w1 hq => ?_)
    obtain ⟨rfl, g1, g2⟩ := hq
    exact v_iret rfl (by show pm_PM _ _ _ _; unfold sp_join; rw [if_pos (by first | exact Or.inl ha | exact Or.inr (Or.inl hb) | exact Or.inr (Or.inr (Decidable.not_not.mp t16)) | exact Or.inr (Or.inr t16))]; exact ⟨rfl, g1, hh.tr g2⟩)

