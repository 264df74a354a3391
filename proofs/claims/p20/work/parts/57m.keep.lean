def sq_Oz (ds : List Int32) (W H : Nat) : Prop := ∀ x y, x < 20 → y < 20 → (W ≤ x ∨ H ≤ y) → ds.getD (20 * y + x) 0 = 0
theorem sq_Oz.set {ds : List Int32} {W H X Y : Nat} {c : Int32} (h : sq_Oz ds W H) (l : ds.length = 400) (hW : W ≤ 20) (hX : X < W) (hY : Y < H) (hH : H ≤ 20) : sq_Oz (ds.set (20 * Y + X) c) W H := fun x y hx hy ho => by
  rw [pm_getD_set (by omega), if_neg (by omega)]
  exact h x y hx hy ho
theorem sq_fl_len {ds : List Int32} {W X Y : Nat} {c : Int32} (k : Nat) : (sq_fl ds W X Y c k).length = ds.length := by
  induction k with
  | zero => rfl
  | succ k ih =>
    show ((sq_fl ds W X Y c k).set _ c).length = _
    rw [List.length_set, ih]
theorem sq_Oz.fl {ds : List Int32} {W H X Y : Nat} {c : Int32} (h : sq_Oz ds W H) (l : ds.length = 400) (h0 : 0 < W) (hW : W ≤ 20) (hY : Y < H) (hH : H ≤ 20) (k : Nat) : sq_Oz (sq_fl ds W X Y c k) W H := by
  induction k with
  | zero => exact h
  | succ k ih => exact ih.set ((sq_fl_len k).trans l) hW (Nat.mod_lt _ h0) hY hH
theorem sq_Oz.rep {W H : Nat} : sq_Oz (List.replicate 400 0) W H := fun x y _ _ _ => by
  rw [List.getD_eq_getElem?_getD, List.getElem?_replicate]
  split <;> rfl
def pm_Ob (ga : Nat → List Int32) : Prop := ∀ b, b < 4 → (ga 7).getD b 0 = 2 → sq_Oz (ga (16 + b)) ((ga 13).getD b 0).toInt.toNat ((ga 14).getD b 0).toInt.toNat
def pm_Be (ga : Nat → List Int32) : Prop := ∀ b, b < 4 → ¬ (ga 7).getD b 0 = 1 → (ga 8).getD b 0 = 0
def pm_K (gi : Nat → Int32) (ga : Nat → List Int32) : Prop := pm_Oz gi ga ∧ pm_Ob ga ∧ pm_Be ga
theorem pm_Oz.of {gi gi' : Nat → Int32} {ga ga' : Nat → List Int32} (h : pm_Oz gi ga) (e0 : gi' 0 = gi 0) (e1 : gi' 1 = gi 1) (e15 : ga' 15 = ga 15) : pm_Oz gi' ga' := fun x y hx hy ho => by
  rw [e0, e1] at ho
  rw [e15]
  exact h x y hx hy ho
theorem pm_Ob.of {ga ga' : Nat → List Int32} (h : pm_Ob ga) (h7 : ∀ b, b < 4 → (ga' 7).getD b 0 = 2 → (ga 7).getD b 0 = 2) (e13 : ga' 13 = ga 13) (e14 : ga' 14 = ga 14) (h16 : ∀ b, b < 4 → ga' (16 + b) = ga (16 + b)) : pm_Ob ga' := fun b hb e => by
  rw [e13, e14, h16 b hb]
  exact h b hb (h7 b hb e)
theorem pm_Be.of {ga ga' : Nat → List Int32} (h : pm_Be ga) (e7 : ga' 7 = ga 7) (e8 : ga' 8 = ga 8) : pm_Be ga' := fun b hb e => by
  rw [e7] at e
  rw [e8]
  exact h b hb e
theorem pm_K.of {gi gi' : Nat → Int32} {ga ga' : Nat → List Int32} (h : pm_K gi ga) (e0 : gi' 0 = gi 0) (e1 : gi' 1 = gi 1) (e15 : ga' 15 = ga 15) (e7 : ga' 7 = ga 7) (e8 : ga' 8 = ga 8) (e13 : ga' 13 = ga 13) (e14 : ga' 14 = ga 14) (a0 : ga' 16 = ga 16) (a1 : ga' 17 = ga 17) (a2 : ga' 18 = ga 18) (a3 : ga' 19 = ga 19) : pm_K gi' ga' := ⟨h.1.of e0 e1 e15, h.2.1.of (fun b _ e => by rw [← e7]; exact e) e13 e14 (fun b hb => by
  match b, hb with
  | 0, _ => exact a0
  | 1, _ => exact a1
  | 2, _ => exact a2
  | 3, _ => exact a3), h.2.2.of e7 e8⟩
theorem pm_K0 : pm_K pm_gi0 pm_ga0 := ⟨fun x y hx hy _ => (sq_Oz.rep (W := 0) (H := 0)) x y hx hy (Or.inl (Nat.zero_le _)), fun b hb h => by
  match b, hb, h with
  | 0, _, h => exact absurd h (by decide)
  | 1, _, h => exact absurd h (by decide)
  | 2, _, h => exact absurd h (by decide)
  | 3, _, h => exact absurd h (by decide), fun b hb _ => by
  match b, hb with
  | 0, _ => rfl
  | 1, _ => rfl
  | 2, _ => rfl
  | 3, _ => rfl⟩
theorem k_paper {gi : Nat → Int32} {ga : Nat → List Int32} (hK : pm_K gi ga) (a b : Int32) : pm_K (sp_paper gi ga a b).2.1 (sp_paper gi ga a b).2.2 := by
  unfold sp_paper
  split
  · exact hK
  · split
    · exact hK
    · exact ⟨fun x y hx hy _ => (sq_Oz.rep (W := 0) (H := 0)) x y hx hy (Or.inl (Nat.zero_le _)), hK.2.1.of (fun _ _ e => e) rfl rfl (fun b hb => by dsimp only; rw [pm_uA_ne (by omega)]), hK.2.2.of rfl rfl⟩
theorem k_square {gi : Nat → Int32} {ga : Nat → List Int32} (hR : pm_Rg gi ga) (hl : (ga 15).length = 400) (hK : pm_K gi ga) (x y c : Int32) : pm_K (sp_square gi ga x y c).2.1 (sp_square gi ga x y c).2.2 := by
  obtain ⟨g0a, g0b⟩ := hR.n0
  obtain ⟨g1a, g1b⟩ := hR.n1
  unfold sp_square
  split
  · rename_i h
    refine ⟨?_, hK.2.1.of (fun _ _ e => e) rfl rfl (fun b hb => by dsimp only; rw [pm_uA_ne (by omega)]), hK.2.2.of rfl rfl⟩
    have q : sq_Oz ((ga 15).set (20 * y.toInt.toNat + x.toInt.toNat) c) (gi 0).toInt.toNat (gi 1).toInt.toNat := sq_Oz.set hK.1 hl (by omega) (by omega) (by omega) (by omega)
    exact q
  · exact hK
theorem k_fill {gi : Nat → Int32} {ga : Nat → List Int32} (hR : pm_Rg gi ga) (hl : (ga 15).length = 400) (hK : pm_K gi ga) (x y n c : Int32) : pm_K (sp_fill gi ga x y n c).2.1 (sp_fill gi ga x y n c).2.2 := by
  obtain ⟨g0a, g0b⟩ := hR.n0
  obtain ⟨g1a, g1b⟩ := hR.n1
  unfold sp_fill
  split
  · exact hK
  · rename_i h
    split
    · exact hK
    · split
      · exact hK
      · refine ⟨?_, hK.2.1.of (fun _ _ e => e) rfl rfl (fun b hb => by dsimp only; rw [pm_uA_ne (by omega)]), hK.2.2.of rfl rfl⟩
        have q : sq_Oz (sq_fl (ga 15) (gi 0).toInt.toNat x.toInt.toNat y.toInt.toNat c n.toInt.toNat) (gi 0).toInt.toNat (gi 1).toInt.toNat := sq_Oz.fl hK.1 hl (by omega) (by omega) (by omega) (by omega) _
        exact q
theorem k_warp {gi : Nat → Int32} {ga : Nat → List Int32} (hR : pm_Rg gi ga) (hK : pm_K gi ga) (b e : Int32) : pm_K (sp_warp gi ga b e).2.1 (sp_warp gi ga b e).2.2 := by
  have l7 := hR.l7
  have l8 := hR.l8
  unfold sp_warp
  split
  · exact hK
  · rename_i hb
    split
    · exact hK
    · split
      · exact hK
      · split
        · exact hK
        · refine ⟨hK.1.of rfl rfl rfl, hK.2.1.of (pm_hold2 hR.l7 (by omega) (by decide)) rfl rfl (fun b hb => by dsimp only; rw [pm_uA_ne (by omega), pm_uA_ne (by omega)]), fun i hi h1 => ?_⟩
          have h1 : ¬ ((ga 7).set b.toInt.toNat 1).getD i 0 = 1 := h1
          show ((ga 8).set b.toInt.toNat e).getD i 0 = 0
          rw [pm_getD_set (by omega)] at h1 ⊢
          by_cases q : b.toInt.toNat = i
          · rw [if_pos q] at h1
            exact absurd rfl h1
          · rw [if_neg q] at h1 ⊢
            exact hK.2.2 i hi h1
theorem k_cut {gi : Nat → Int32} {ga : Nat → List Int32} (hR : pm_Rg gi ga) (hK : pm_K gi ga) (b e : Int32) : pm_K (sp_cut gi ga b e).2.1 (sp_cut gi ga b e).2.2 := by
  have l7 := hR.l7
  have l8 := hR.l8
  unfold sp_cut
  split
  · exact hK
  · rename_i h1
    split
    · exact hK
    · rename_i h2
      split
      · exact hK
      · rename_i h3
        obtain ⟨⟨a0, a4⟩, -⟩ := pm_lk_0 h1
        refine ⟨hK.1.of rfl rfl rfl, hK.2.1.of (pm_hold2 hR.l7 (by omega) (by split <;> decide)) rfl rfl (fun b hb => by unfold pm_wp; dsimp only; rw [pm_uA_ne (by omega), pm_uA_ne (by omega)]), fun i hi h4 => ?_⟩
        have h4 : ¬ ((ga 7).set b.toInt.toNat (if (ga 8).getD b.toInt.toNat 0 - e ≤ 0 then 0 else 1)).getD i 0 = 1 := h4
        show ((ga 8).set b.toInt.toNat ((ga 8).getD b.toInt.toNat 0 - e)).getD i 0 = 0
        rw [pm_getD_set (by omega)] at h4 ⊢
        by_cases q : b.toInt.toNat = i
        · rw [if_pos q] at h4 ⊢
          split at h4
          · rename_i h5
            have h6 : ((ga 8).getD b.toInt.toNat 0 - e).toInt = ((ga 8).getD b.toInt.toNat 0).toInt - e.toInt := by
              have r8 := hR.r8 ((ga 8).getD b.toInt.toNat 0) (by
                rw [List.getD_eq_getElem?_getD, List.getElem?_eq_getElem (show b.toInt.toNat < (ga 8).length by omega)]
                exact List.getElem_mem _)
              exact j_sub (by have := r8.1; have := r8.2; omega) (by have := r8.1; have := r8.2; omega)
            rw [i_le, i_0] at h5
            exact i_eq.mpr (by rw [i_0]; omega)
          · exact absurd rfl h4
        · rw [if_neg q] at h4 ⊢
          exact hK.2.2 i hi h4
theorem k_join {gi : Nat → Int32} {ga : Nat → List Int32} (hR : pm_Rg gi ga) (hK : pm_K gi ga) (a b : Int32) : pm_K (sp_join gi ga a b).2.1 (sp_join gi ga a b).2.2 := by
  have l7 := hR.l7
  have l8 := hR.l8
  unfold sp_join
  split
  · exact hK
  · rename_i h1
    split
    · exact hK
    · split
      · exact hK
      · rename_i h3
        split
        · exact hK
        · have ha : 0 ≤ a.toInt ∧ a.toInt < 4 := Decidable.not_not.mp fun c => h1 (Or.inl c)
          have hb : 0 ≤ b.toInt ∧ b.toInt < 4 := Decidable.not_not.mp fun c => h1 (Or.inr (Or.inl c))
          have hh : (ga 7).getD a.toInt.toNat 0 = 1 := Decidable.not_not.mp fun c => h3 (Or.inl c)
          refine ⟨hK.1.of rfl rfl rfl, hK.2.1.of (pm_hold2 hR.l7 (by omega) (by decide)) rfl rfl (fun b hb => by dsimp only; rw [pm_uA_ne (by omega), pm_uA_ne (by omega)]), fun i hi h4 => ?_⟩
          have h4 : ¬ ((ga 7).set b.toInt.toNat 0).getD i 0 = 1 := h4
          show (((ga 8).set a.toInt.toNat ((ga 8).getD a.toInt.toNat 0 + (ga 8).getD b.toInt.toNat 0)).set b.toInt.toNat 0).getD i 0 = 0
          rw [pm_getD_set (by omega)] at h4
          rw [pm_getD_set (by rw [List.length_set]; omega)]
          by_cases q : b.toInt.toNat = i
          · rw [if_pos q]
          · rw [if_neg q] at h4 ⊢
            rw [pm_getD_set (by omega)]
            by_cases q2 : a.toInt.toNat = i
            · subst q2
              exact absurd hh h4
            · rw [if_neg q2]
              exact hK.2.2 i hi h4
theorem k_cards {gi : Nat → Int32} {ga : Nat → List Int32} (hR : pm_Rg gi ga) (hK : pm_K gi ga) (b : Int32) : pm_K (sp_cards gi ga b).2.1 (sp_cards gi ga b).2.2 := by
  have l7 := hR.l7
  have l13 := hR.l13
  have l14 := hR.l14
  unfold sp_cards
  split
  · exact hK
  · rename_i hb
    split
    · exact hK
    · rename_i h0
      have h0 : (ga 7).getD b.toInt.toNat 0 = 0 := Decidable.not_not.mp h0
      refine ⟨hK.1.of rfl rfl ((pm_cd_i (gi := gi) (ga := ga) (j := b.toInt.toNat) (i := 15) (by decide) (by omega)).trans rfl), fun i hi h1 => ?_, fun i hi h1 => ?_⟩
      · have h1 : (pm_cd gi ga b.toInt.toNat 7).getD i 0 = 2 := h1
        show sq_Oz (pm_cd gi ga b.toInt.toNat (16 + i)) ((pm_cd gi ga b.toInt.toNat 13).getD i 0).toInt.toNat ((pm_cd gi ga b.toInt.toNat 14).getD i 0).toInt.toNat
        rw [pm_cd_i (by decide) (by omega)] at h1
        rw [pm_cd_i (i := 13) (by decide) (by omega), pm_cd_i (i := 14) (by decide) (by omega)]
        have h1 : ((ga 7).set b.toInt.toNat 2).getD i 0 = 2 := h1
        show sq_Oz (pm_cd gi ga b.toInt.toNat (16 + i)) (((ga 13).set b.toInt.toNat (gi 0)).getD i 0).toInt.toNat (((ga 14).set b.toInt.toNat (gi 1)).getD i 0).toInt.toNat
        rw [pm_getD_set (by omega)] at h1
        rw [pm_getD_set (by omega), pm_getD_set (by omega)]
        by_cases q : b.toInt.toNat = i
        · rw [if_pos q, if_pos q, ← q, show pm_cd gi ga b.toInt.toNat (16 + b.toInt.toNat) = ga 15 by unfold pm_cd; rw [pm_uA_ne (by omega), pm_uA_self]]
          exact hK.1
        · rw [if_neg q] at h1
          rw [if_neg q, if_neg q, pm_cd_i (by omega) (by omega), show pm_cd0 gi ga b.toInt.toNat (16 + i) = ga (16 + i) by unfold pm_cd0; rw [pm_uA_ne (by omega), pm_uA_ne (by omega), pm_uA_ne (by omega)]]
          exact hK.2.1 i hi h1
      · have h1 : ¬ (pm_cd gi ga b.toInt.toNat 7).getD i 0 = 1 := h1
        show (pm_cd gi ga b.toInt.toNat 8).getD i 0 = 0
        rw [pm_cd_i (by decide) (by omega)] at h1 ⊢
        have h1 : ¬ ((ga 7).set b.toInt.toNat 2).getD i 0 = 1 := h1
        show (ga 8).getD i 0 = 0
        rw [pm_getD_set (by omega)] at h1
        by_cases q : b.toInt.toNat = i
        · subst q
          exact hK.2.2 _ hi (by rw [h0]; decide)
        · rw [if_neg q] at h1
          exact hK.2.2 i hi h1
theorem k_hang {gi : Nat → Int32} {ga : Nat → List Int32} (hK : pm_K gi ga) (b : Int32) : pm_K (sp_hang gi ga b).2.1 (sp_hang gi ga b).2.2 := by
  unfold sp_hang
  split
  · exact hK
  · rename_i h1
    obtain ⟨⟨a0, a4⟩, h2⟩ := pm_lk_0 h1
    exact ⟨hK.2.1 b.toInt.toNat (by omega) h2, hK.2.1.of (fun _ _ e => e) rfl rfl (fun b hb => by dsimp only; rw [pm_uA_ne (by omega)]), hK.2.2.of rfl rfl⟩

