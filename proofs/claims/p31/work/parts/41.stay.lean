/-! WHAT A BEAM HOLDS, after cards. -/
theorem bg_cards {gi : Nat → Int32} {ga : Nat → List Int32} (hR : pm_Rg gi ga) (hB : pm_Bg ga) (b : Int32) : pm_Bg (sp_cards gi ga b).2.2 := by
  unfold sp_cards
  split
  · exact hB
  · split
    · exact hB
    · intro i hi h1
      have g1 : ((ga 7).set b.toInt.toNat 2).getD i 0 = 1 := h1
      show 1 ≤ ((ga 8).getD i 0).toInt
      have l7 := hR.l7
      rw [pm_getD_set (by omega)] at g1
      by_cases c : b.toInt.toNat = i
      · rw [if_pos c] at g1
        exact absurd g1 (by decide)
      · rw [if_neg c] at g1
        exact hB i hi g1
