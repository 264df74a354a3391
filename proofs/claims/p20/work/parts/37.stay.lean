theorem rg_silk {gi : Nat → Int32} {ga : Nat → List Int32} (hR : pm_Rg gi ga) (a home g wt : Int32) : pm_RG (sp_silk gi ga a home g wt) := by
  unfold sp_silk
  split
  · exact hR
  · split
    · exact hR
    · split
      · exact hR
      · split
        · exact hR.s9
        · exact hR.s10.s11
theorem pm_if_ga {c : Prop} [Decidable c] {x y : pm_G} {gi : Nat → Int32} {ga : Nat → List Int32} (hx : x.2 = (gi, ga)) (hy : y.2 = (gi, ga)) : (if c then x else y).2 = (gi, ga) := by
  split
  · exact hx
  · exact hy
theorem ga_account {gi : Nat → Int32} {ga : Nat → List Int32} (a k : Int32) : (sp_account gi ga a k).2 = (gi, ga) := by
  unfold sp_account
  exact pm_if_ga rfl (pm_if_ga rfl (pm_if_ga rfl (pm_if_ga rfl (pm_if_ga rfl rfl))))
theorem ga_orderOf {gi : Nat → Int32} {ga : Nat → List Int32} (a k : Int32) : (sp_orderOf gi ga a k).2 = (gi, ga) := by
  unfold sp_orderOf
  exact pm_if_ga rfl (pm_if_ga rfl (pm_if_ga rfl (pm_if_ga rfl (pm_if_ga rfl rfl))))
theorem pm_Bg.set {ga : Nat → List Int32} (hB : pm_Bg ga) (l7 : (ga 7).length = 4) (l8 : (ga 8).length = 4) {j : Nat} (hj : j < 4) {h e : Int32} (he : h = 1 → 1 ≤ e.toInt) : pm_Bg (pm_uA (pm_uA ga 7 ((ga 7).set j h)) 8 ((ga 8).set j e)) := by
  intro i hi h1
  have g1 : ((ga 7).set j h).getD i 0 = 1 := h1
  show 1 ≤ (((ga 8).set j e).getD i 0).toInt
  rw [pm_getD_set (by omega)] at g1
  rw [pm_getD_set (by omega)]
  by_cases c : j = i
  · rw [if_pos c] at g1 ⊢
    exact he g1
  · rw [if_neg c] at g1 ⊢
    exact hB i hi g1
theorem bg_warp {gi : Nat → Int32} {ga : Nat → List Int32} (hR : pm_Rg gi ga) (hB : pm_Bg ga) (b e : Int32) : pm_Bg (sp_warp gi ga b e).2.2 := by
  unfold sp_warp
  split
  · exact hB
  · split
    · exact hB
    · split
      · exact hB
      · split
        · exact hB
        · exact hB.set hR.l7 hR.l8 (by omega) (fun _ => by omega)
theorem bg_cut {gi : Nat → Int32} {ga : Nat → List Int32} (hR : pm_Rg gi ga) (hB : pm_Bg ga) (b e : Int32) : pm_Bg (sp_cut gi ga b e).2.2 := by
  unfold sp_cut
  split
  · exact hB
  · rename_i h1
    split
    · exact hB
    · split
      · exact hB
      · obtain ⟨⟨a0, a4⟩, -⟩ := pm_lk_0 h1
        refine hB.set hR.l7 hR.l8 (by omega) (fun hx => ?_)
        split at hx
        · exact absurd hx (by decide)
        · rename_i hn
          rw [i_le, i_0] at hn
          omega
theorem bg_join {gi : Nat → Int32} {ga : Nat → List Int32} (hR : pm_Rg gi ga) (hB : pm_Bg ga) (a b : Int32) : pm_Bg (sp_join gi ga a b).2.2 := by
  unfold sp_join
  split
  · exact hB
  · rename_i h1
    split
    · exact hB
    · split
      · exact hB
      · rename_i h3
        split
        · exact hB
        · have q7 := hR.l7
          have q8 := hR.l8
          have ha : 0 ≤ a.toInt ∧ a.toInt < 4 := Decidable.not_not.mp fun c => h1 (Or.inl c)
          have hb : 0 ≤ b.toInt ∧ b.toInt < 4 := Decidable.not_not.mp fun c => h1 (Or.inr (Or.inl c))
          have oa : (ga 7).getD a.toInt.toNat 0 = 1 := Decidable.not_not.mp fun c => h3 (Or.inl c)
          have ea := hR.r8 _ (pm_mem_getD (k := a.toInt.toNat) (by rw [q8]; omega))
          have eb := hR.r8 _ (pm_mem_getD (k := b.toInt.toNat) (by rw [q8]; omega))
          have eT := pm_add_ar ea eb
          have b1 := eb.1
          have ba := hB _ (by omega) oa
          have e := pm_join_wp (ga := ga) (a := a) (b := b) q7 (by omega) oa (by rw [i_le, i_0, eT]; omega)
          show pm_Bg _
          rw [← e]
          have hB1 : pm_Bg (pm_wp ga a.toInt.toNat ((ga 8).getD a.toInt.toNat 0 + (ga 8).getD b.toInt.toNat 0)) := hB.set q7 q8 (by omega) (fun _ => by rw [eT]; omega)
          exact hB1.set (by show ((ga 7).set _ _).length = 4; rw [List.length_set, q7]) (by show ((ga 8).set _ _).length = 4; rw [List.length_set, q8]) (by omega) (fun hx => by rw [if_pos (by decide)] at hx; exact absurd hx (by decide))

