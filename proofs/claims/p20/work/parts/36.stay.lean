def pm_RG (g : pm_G) : Prop := pm_Rg g.2.1 g.2.2
theorem rg_limit {gi : Nat → Int32} {ga : Nat → List Int32} (hR : pm_Rg gi ga) (n : Int32) : pm_RG (sp_limit gi ga n) := by
  unfold sp_limit
  split
  · split
    · exact hR.u2 ⟨by simp only [i_le, i_1, i_20] at *; omega, by simp only [i_le, i_1, i_20] at *; omega⟩
    · exact hR
  · exact hR
theorem rg_days {gi : Nat → Int32} {ga : Nat → List Int32} (hR : pm_Rg gi ga) (n : Int32) : pm_RG (sp_days gi ga n) := by
  unfold sp_days
  have q5 := hR.n5
  have q1 := q5.1
  have q2 := q5.2
  have e3 := i_sub (x := 3000) (y := gi 5) (by unfold pm_rng; decide) ⟨q1, by omega⟩
  split
  · rename_i h1
    split
    · rename_i h2
      rw [i_le, i_1] at h1
      rw [i_le, e3, i_3000] at h2
      obtain ⟨a, -, ha, ea⟩ := i_ofn (a := 0) (b := 3000) q5
      obtain ⟨b, -, hb, eb⟩ := i_ofn (x := n) (a := 0) (b := 3000) ⟨by omega, by omega⟩
      have es : (gi 5 + n).toInt = (gi 5).toInt + n.toInt := by
        rw [ea, eb, nI_add, nI_toInt (by omega), nI_toInt (by omega), nI_toInt (by omega)]; omega
      exact hR.u5 ⟨by rw [es]; omega, by rw [es]; omega⟩
    · exact hR
  · exact hR
theorem rg_paper {gi : Nat → Int32} {ga : Nat → List Int32} (hR : pm_Rg gi ga) (a b : Int32) : pm_RG (sp_paper gi ga a b) := by
  unfold sp_paper
  split
  · exact hR
  · split
    · exact hR
    · have q : pm_Rg (pm_uI (pm_uI gi 0 a) 1 b) ga := (hR.u0 (v := a) ⟨by omega, by omega⟩).u1 (v := b) ⟨by omega, by omega⟩
      exact q
theorem rg_set {gi : Nat → Int32} {ga : Nat → List Int32} (hR : pm_Rg gi ga) (k v : Int32) : pm_RG (sp_set gi ga k v) := by
  unfold sp_set
  split
  · exact hR
  · split
    · split
      · exact hR
      · split
        · exact hR
        · exact hR.u3 ⟨by omega, by omega⟩
    · split
      · exact hR
      · split
        · exact hR
        · exact hR.u4 ⟨by omega, by omega⟩
theorem rg_order {gi : Nat → Int32} {ga : Nat → List Int32} (hR : pm_Rg gi ga) (e l du : Int32) : pm_RG (sp_order gi ga e l du) := by
  unfold sp_order
  have q := hR.n7
  split
  · exact hR
  · split
    · exact hR
    · obtain ⟨a, -, ha, ea⟩ := i_ofn (a := 0) (b := 12) q
      have es : (gi 7 + 1).toInt = (gi 7).toInt + 1 := by
        rw [ea, show (1 : Int32) = nI 1 from rfl, nI_add, nI_toInt (by omega), nI_toInt (by omega)]; omega
      have q1 := q.1
      have q2 := q.2
      exact (((((hR.u7 ⟨by rw [es]; omega, by rw [es]; omega⟩).s0 ⟨by omega, by omega⟩).s1 ⟨by omega, by omega⟩).s2 ⟨by omega, by omega⟩).s3 (by unfold pm_rng; decide))
theorem rg_law {gi : Nat → Int32} {ga : Nat → List Int32} (hR : pm_Rg gi ga) (wa pr da : Int32) : pm_RG (sp_law gi ga wa pr da) := by
  unfold sp_law
  have q := hR.n8
  have q5 := hR.n5.1
  split
  · exact hR
  · split
    · exact hR
    · obtain ⟨a, -, ha, ea⟩ := i_ofn (a := 0) (b := 20) q
      have es : (gi 8 + 1).toInt = (gi 8).toInt + 1 := by
        rw [ea, show (1 : Int32) = nI 1 from rfl, nI_add, nI_toInt (by omega), nI_toInt (by omega)]; omega
      have q1 := q.1
      have q2 := q.2
      exact (((hR.u8 ⟨by rw [es]; omega, by rw [es]; omega⟩).s4 ⟨by omega, by omega⟩).s5 ⟨by omega, by omega⟩).s6 ⟨by omega, by omega⟩
theorem rg_warp {gi : Nat → Int32} {ga : Nat → List Int32} (hR : pm_Rg gi ga) (b e : Int32) : pm_RG (sp_warp gi ga b e) := by
  unfold sp_warp
  split
  · exact hR
  · split
    · exact hR
    · split
      · exact hR
      · split
        · exact hR
        · exact (hR.s7 (by unfold pm_rng; decide)).s8 ⟨by omega, by omega⟩
theorem rg_work {gi : Nat → Int32} {ga : Nat → List Int32} (hR : pm_Rg gi ga) (o : Int32) : pm_RG (sp_work gi ga o) := by
  unfold sp_work
  split
  · exact hR
  · rename_i h1
    split
    · exact hR
    · split
      · exact hR
      · have q7 := hR.n7.2
        have q5 := hR.n5.1
        have h0 : 0 ≤ o.toInt := by omega
        have h12 : o.toInt < 12 := by omega
        obtain ⟨w1, w2, w3, w4⟩ := pm_work_ar hR h0 h12
        have lotr := hR.r1 _ (pm_mem_getD (k := o.toNatClampNeg) (by rw [i_cl, hR.l1]; omega))
        exact ((hR.u5 ⟨by rw [w1]; omega, by rw [w1]; omega⟩).u6 ⟨by have := lotr.1; omega, lotr.2⟩).s3 ⟨by rw [w1]; omega, by rw [w1]; omega⟩
theorem rg_cut {gi : Nat → Int32} {ga : Nat → List Int32} (hR : pm_Rg gi ga) (b e : Int32) : pm_RG (sp_cut gi ga b e) := by
  unfold sp_cut
  split
  · exact hR
  · rename_i h1
    split
    · exact hR
    · split
      · exact hR
      · obtain ⟨⟨a0, a4⟩, -⟩ := pm_lk_0 h1
        have q8 := hR.l8
        have r8 := hR.r8 _ (pm_mem_getD (k := b.toInt.toNat) (by rw [q8]; omega))
        have r1 := r8.1
        have r2 := r8.2
        have es := i_sub (x := (ga 8).getD b.toInt.toNat 0) (y := e) ⟨by omega, by omega⟩ ⟨by omega, by omega⟩
        exact (hR.s7 (by split <;> (unfold pm_rng; decide))).s8 ⟨by rw [es]; omega, by rw [es]; omega⟩
theorem rg_join {gi : Nat → Int32} {ga : Nat → List Int32} (hR : pm_Rg gi ga) (a b : Int32) : pm_RG (sp_join gi ga a b) := by
  unfold sp_join
  split
  · exact hR
  · rename_i h1
    split
    · exact hR
    · split
      · exact hR
      · split
        · exact hR
        · have q8 := hR.l8
          have ha : 0 ≤ a.toInt ∧ a.toInt < 4 := Decidable.not_not.mp fun c => h1 (Or.inl c)
          have hb : 0 ≤ b.toInt ∧ b.toInt < 4 := Decidable.not_not.mp fun c => h1 (Or.inr (Or.inl c))
          have ea := hR.r8 _ (pm_mem_getD (k := a.toInt.toNat) (by rw [q8]; omega))
          have eb := hR.r8 _ (pm_mem_getD (k := b.toInt.toNat) (by rw [q8]; omega))
          have eT := pm_add_ar ea eb
          have a1 := ea.1
          have b1 := eb.1
          have hz := ((hR.s7 (j := b.toInt.toNat) (v := 0) (by unfold pm_rng; decide)).s8 (j := a.toInt.toNat) (v := (ga 8).getD a.toInt.toNat 0 + (ga 8).getD b.toInt.toNat 0) ⟨by rw [eT]; omega, by omega⟩).s8 (j := b.toInt.toNat) (v := 0) (by unfold pm_rng; decide)
          refine Eq.mp (congrArg (pm_Rg gi) ?_) hz
          funext i
          by_cases e8 : i = 8
          · subst e8; rfl
          · show pm_uA _ 8 _ i = pm_uA _ 8 _ i
            rw [pm_uA_ne e8, pm_uA_ne e8, pm_uA_ne e8]

