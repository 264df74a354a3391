theorem pm_cd_i {gi : Nat → Int32} {ga : Nat → List Int32} {j i : Nat} (h : i ≠ 20) (h2 : i ≠ 16 + j) : pm_cd gi ga j i = pm_cd0 gi ga j i := by
  unfold pm_cd
  rw [pm_uA_ne h, pm_uA_ne h2]
theorem bg_cards {gi : Nat → Int32} {ga : Nat → List Int32} (hR : pm_Rg gi ga) (hB : pm_Bg ga) (b : Int32) : pm_Bg (sp_cards gi ga b).2.2 := by
  unfold sp_cards
  split
  · exact hB
  · split
    · exact hB
    · intro i hi h1
      have g1 : (pm_cd gi ga b.toInt.toNat 7).getD i 0 = 1 := h1
      show 1 ≤ ((pm_cd gi ga b.toInt.toNat 8).getD i 0).toInt
      rw [pm_cd_i (by decide) (by omega)] at g1 ⊢
      have g1 : ((ga 7).set b.toInt.toNat 2).getD i 0 = 1 := g1
      show 1 ≤ ((ga 8).getD i 0).toInt
      have l7 := hR.l7
      rw [pm_getD_set (by omega)] at g1
      by_cases c : b.toInt.toNat = i
      · rw [if_pos c] at g1
        exact absurd g1 (by decide)
      · rw [if_neg c] at g1
        exact hB i hi g1
/-- cards that a beam holds stay as the reference has them -/
theorem pm_Cr.of {ga ga' : Nat → List Int32} (h : pm_Cr ga) (h7 : ∀ b, b < 4 → (ga' 7).getD b 0 = 2 → (ga 7).getD b 0 = 2) (h20 : ga' 20 = ga 20) (h16 : ∀ b, b < 4 → ga' (16 + b) = ga (16 + b)) : pm_Cr ga' := fun b hb e k hk => by
  rw [h20, h16 b hb]
  exact h b hb (h7 b hb e) k hk
theorem pm_hold2 {xs : List Int32} (l : xs.length = 4) {j : Nat} (hj : j < 4) {v : Int32} (hv : ¬ v = 2) : ∀ b, b < 4 → (xs.set j v).getD b 0 = 2 → xs.getD b 0 = 2 := fun b hb e => by
  rw [pm_getD_set (by omega)] at e
  split at e
  · exact absurd e hv
  · exact e
theorem cr_warp {gi : Nat → Int32} {ga : Nat → List Int32} (hR : pm_Rg gi ga) (hC : pm_Cr ga) (b e : Int32) : pm_Cr (sp_warp gi ga b e).2.2 := by
  unfold sp_warp
  split
  · exact hC
  · split
    · exact hC
    · split
      · exact hC
      · split
        · exact hC
        · exact hC.of (pm_hold2 hR.l7 (by omega) (by decide)) rfl (fun b hb => by dsimp only; rw [pm_uA_ne (by omega), pm_uA_ne (by omega)])
theorem cr_cut {gi : Nat → Int32} {ga : Nat → List Int32} (hR : pm_Rg gi ga) (hC : pm_Cr ga) (b e : Int32) : pm_Cr (sp_cut gi ga b e).2.2 := by
  unfold sp_cut
  split
  · exact hC
  · rename_i h1
    split
    · exact hC
    · split
      · exact hC
      · obtain ⟨⟨a0, a4⟩, -⟩ := pm_lk_0 h1
        exact hC.of (pm_hold2 hR.l7 (by omega) (by split <;> decide)) rfl (fun b hb => by unfold pm_wp; dsimp only; rw [pm_uA_ne (by omega), pm_uA_ne (by omega)])
theorem cr_join {gi : Nat → Int32} {ga : Nat → List Int32} (hR : pm_Rg gi ga) (hC : pm_Cr ga) (a b : Int32) : pm_Cr (sp_join gi ga a b).2.2 := by
  unfold sp_join
  split
  · exact hC
  · split
    · exact hC
    · split
      · exact hC
      · split
        · exact hC
        · exact hC.of (pm_hold2 hR.l7 (by omega) (by decide)) rfl (fun b hb => by dsimp only; rw [pm_uA_ne (by omega), pm_uA_ne (by omega)])
theorem cr_cards {gi : Nat → Int32} {ga : Nat → List Int32} (hR : pm_Rg gi ga) (hC : pm_Cr ga) (l15 : (ga 15).length = 400) (l20 : (ga 20).length = 1600) (b : Int32) : pm_Cr (sp_cards gi ga b).2.2 := by
  unfold sp_cards
  split
  · exact hC
  · split
    · exact hC
    · intro i hi h1 k hk
      have g1 : (pm_cd gi ga b.toInt.toNat 7).getD i 0 = 2 := h1
      show (pm_cd gi ga b.toInt.toNat 20)[400 * i + k]? = (pm_cd gi ga b.toInt.toNat (16 + i))[k]?
      rw [pm_cd_i (by decide) (by omega)] at g1
      have g1 : ((ga 7).set b.toInt.toNat 2).getD i 0 = 2 := g1
      have l7 := hR.l7
      have e20 : pm_cd gi ga b.toInt.toNat 20 = pm_slice (ga 20) b.toInt.toNat (ga 15) := pm_uA_self
      rw [e20, pm_slice_at (n := 400) l20 l15 (by omega) rfl]
      by_cases c : b.toInt.toNat = i
      · subst c
        rw [if_pos (by omega), show 400 * b.toInt.toNat + k - 400 * b.toInt.toNat = k by omega]
        unfold pm_cd
        rw [pm_uA_ne (by omega), pm_uA_self]
      · rw [if_neg (by omega)]
        rw [pm_getD_set (by omega), if_neg c] at g1
        unfold pm_cd
        rw [pm_uA_ne (by omega), pm_uA_ne (by omega)]
        show _ = (pm_cd0 gi ga b.toInt.toNat (16 + i))[k]?
        unfold pm_cd0
        rw [pm_uA_ne (by omega), pm_uA_ne (by omega), pm_uA_ne (by omega)]
        exact hC i hi g1 k hk
theorem cr_hang {gi : Nat → Int32} {ga : Nat → List Int32} (hC : pm_Cr ga) (b : Int32) : pm_Cr (sp_hang gi ga b).2.2 := by
  unfold sp_hang
  split
  · exact hC
  · exact hC.of (fun _ _ e => e) rfl (fun b hb => by dsimp only; rw [pm_uA_ne (by omega)])

