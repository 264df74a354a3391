theorem pm_IX.beam {gi : Nat → Int32} {ga : Nat → List Int32} {w : pm_W} (h : pm_IX gi ga w) {j : Nat} (hj : j < 4) : w[46 + 3 * j]? = some (.inr (1, [.int ((ga 7).getD j 0), .int ((ga 8).getD j 0), .ref (47 + 3 * j)])) := by
  match j, hj with
  | 0, _ => exact h.2 46 (by decide)
  | 1, _ => exact h.2 49 (by decide)
  | 2, _ => exact h.2 52 (by decide)
  | 3, _ => exact h.2 55 (by decide)
theorem pm_bref {j : Nat} (hj : j < 4) : ([some 46, some 49, some 52, some 55] : List (Option Nat))[(nI j).toNatClampNeg]? = some (some (46 + 3 * j)) := by
  match j, hj with
  | 0, _ => rfl
  | 1, _ => rfl
  | 2, _ => rfl
  | 3, _ => rfl
theorem pm_getD_set {xs : List Int32} {i j : Nat} {v : Int32} (h : j < xs.length) : (xs.set j v).getD i 0 = if j = i then v else xs.getD i 0 := by
  by_cases e : j = i
  · subst e
    simp [List.getD, h]
  · simp [List.getD, e, List.getElem?_set_ne e]
theorem pm_IX.ubeam {gi : Nat → Int32} {ga : Nat → List Int32} {w : pm_W} (hI : pm_IX gi ga w) (hR : pm_Rg gi ga) {j : Nat} (hj : j < 4) (h e : Int32) : pm_IX gi (pm_uA (pm_uA ga 7 ((ga 7).set j h)) 8 ((ga 8).set j e)) (w.set (46 + 3 * j) (.inr (1, [.int h, .int e, .ref (47 + 3 * j)]))) := by
  have l7 := hR.l7
  have l8 := hR.l8
  refine ⟨by rw [List.length_set]; exact hI.1, fun k hk => ?_⟩
  have key : ∀ i, i < 4 → pm_cell gi (pm_uA (pm_uA ga 7 ((ga 7).set j h)) 8 ((ga 8).set j e)) (46 + 3 * i) (w.set (46 + 3 * j) (.inr (1, [.int h, .int e, .ref (47 + 3 * j)])))[46 + 3 * i]? := fun i hi => by
    have c : (w.set (46 + 3 * j) (.inr (1, [.int h, .int e, .ref (47 + 3 * j)])) : pm_W)[46 + 3 * i]? = some (.inr (1, [.int (((ga 7).set j h).getD i 0), .int (((ga 8).set j e).getD i 0), .ref (47 + 3 * i)])) := by
      rw [pm_getD_set (by omega), pm_getD_set (by omega)]
      by_cases e1 : j = i
      · subst e1
        rw [List.getElem?_set_self (by rw [hI.1]; omega), if_pos rfl, if_pos rfl]
      · rw [List.getElem?_set_ne (by omega), if_neg e1, if_neg e1]
        exact hI.beam hi
    match i, hi, c with
    | 0, _, c => exact c
    | 1, _, c => exact c
    | 2, _, c => exact c
    | 3, _, c => exact c
  by_cases h46 : k = 46
  · subst h46; exact key 0 (by omega)
  by_cases h49 : k = 49
  · subst h49; exact key 1 (by omega)
  by_cases h52 : k = 52
  · subst h52; exact key 2 (by omega)
  by_cases h55 : k = 55
  · subst h55; exact key 3 (by omega)
  rw [List.getElem?_set_ne (by omega)]
  have hd : ∀ k, k < 59 → (k = 46 ∨ k = 49 ∨ k = 52 ∨ k = 55 ∨ (¬ 7 ∈ pm_dA k ∧ ¬ 8 ∈ pm_dA k)) := by decide
  have h1 : ¬ 7 ∈ pm_dA k ∧ ¬ 8 ∈ pm_dA k := by
    rcases hd k hk with h | h | h | h | h
    · exact absurd h h46
    · exact absurd h h49
    · exact absurd h h52
    · exact absurd h h55
    · exact h
  refine pm_cell_eq (fun _ _ => rfl) (fun i hi => ?_) (hI.2 k hk)
  have n8 : i ≠ 8 := fun e2 => h1.2 (e2 ▸ hi)
  have n7 : i ≠ 7 := fun e2 => h1.1 (e2 ▸ hi)
  rw [pm_uA_ne n8, pm_uA_ne n7]
theorem pm_IM.u7 {gi : Nat → Int32} {ga : Nat → List Int32} {w : pm_W} (hI : pm_IM gi ga w) (hR : pm_Rg gi ga) {j : Nat} (hj : j < 4) {h : Int32} (hh : ¬ h = 2) : pm_IM gi (pm_uA ga 7 ((ga 7).set j h)) (w.set 74 (.inl (0, .inl ((ga 7).set j h)))) := by
  have l7 := hR.l7
  refine ⟨by rw [List.length_set]; exact hI.1, fun k hk hk2 => ?_, hI.2.2.set 74 (by decide) (by decide) _⟩
  have keep : ∀ b, b < 4 → ((ga 7).set j h).getD b 0 = 2 → (ga 7).getD b 0 = 2 := fun b hb e => by
    rw [pm_getD_set (by omega)] at e
    split at e
    · exact absurd e hh
    · exact e
  by_cases h74 : k = 74
  · subst h74
    rw [List.getElem?_set_self (by rw [hI.1]; omega)]
    exact rfl
  rw [List.getElem?_set_ne (Ne.symm h74)]
  by_cases h76 : k = 76
  · subst h76
    obtain ⟨xs, l, bw, h⟩ := hI.2.1 76 (by decide) (by decide)
    exact ⟨xs, l, fun b hb e => bw b hb (keep b hb e), h⟩
  by_cases h77 : k = 77
  · subst h77
    obtain ⟨xs, l, bw, h⟩ := hI.2.1 77 (by decide) (by decide)
    exact ⟨xs, l, fun b hb e => bw b hb (keep b hb e), h⟩
  have hd : ∀ k, k < 88 → (k < 59 ∨ k = 74 ∨ k = 76 ∨ k = 77 ∨ ¬ 7 ∈ pm_dA k) := by decide
  have h1 : ¬ 7 ∈ pm_dA k := by
    rcases hd k hk2 with h | h | h | h | h
    · omega
    · exact absurd h h74
    · exact absurd h h76
    · exact absurd h h77
    · exact h
  exact pm_cell_eq (fun _ _ => rfl) (fun i hi => pm_uA_ne (fun e2 => h1 (e2 ▸ hi))) (hI.2.1 k hk hk2)
set_option maxRecDepth 100000 in
theorem c_holdWarp {sc : pm_S} {w : pm_W} {p r : Nat} {h e : Int32} (hp : w[p]? = some (.inr (1, [.int h, .int e, .ref r]))) (n : Int32) : pm_Mt sc 0 4 2 [.ref p, .int n] w (fun rv w' => rv = none ∧ w' = w.set p (.inr (1, [.int (if n ≤ 0 then 0 else 1), .int n, .ref r]))) := by
  intro d hd
  show pm_V sc d 4 0 _ [] w _
  refine v_aload_n rfl rfl ?_
  refine v_iload_n rfl rfl ?_
  refine v_put rfl hp rfl (Nat.le_of_ble_eq_true rfl) ?_
  have hp1 : (w.set p (.inr (1, [.int h, .int n, .ref r])) : pm_W)[p]? = some (.inr (1, [.int h, .int n, .ref r])) := List.getElem?_set_self (List.getElem?_eq_some_iff.mp hp).1
  show pm_V _ _ _ _ _ _ (w.set p (.inr (1, [.int h, .int n, .ref r]))) _
  refine v_aload_n rfl rfl ?_
  refine v_iload_n rfl rfl ?_
  refine v_if_le rfl (fun t7 => ?_) (fun t7 => ?_)
  · refine v_iconst (v := 0) rfl (by decide) ?_
    refine v_put rfl hp1 rfl (Nat.le_of_ble_eq_true rfl) ?_
    rw [List.set_set]
    exact v_ret rfl ⟨rfl, by first | (rw [if_pos t7]; rfl) | (rw [if_neg t7]; rfl)⟩
  · refine v_iconst (v := 1) rfl (by decide) ?_
    refine v_goto rfl ?_
    refine v_put rfl hp1 rfl (Nat.le_of_ble_eq_true rfl) ?_
    rw [List.set_set]
    exact v_ret rfl ⟨rfl, by first | (rw [if_pos t7]; rfl) | (rw [if_neg t7]; rfl)⟩
set_option maxRecDepth 100000 in
theorem c_wrongFor {sc : pm_S} {w : pm_W} {p r : Nat} {h e : Int32} (hp : w[p]? = some (.inr (1, [.int h, .int e, .ref r]))) (t : Int32) : pm_Mt sc 0 6 2 [.ref p, .int t] w (fun rv w' => w = w' ∧ rv = some (.int (if h = 0 then -5 else if h = t then 0 else -2))) := by
  intro d hd
  show pm_V sc d 6 0 _ [] w _
  refine v_aload_n rfl rfl ?_
  refine v_get rfl hp rfl ?_
  refine v_if_ne rfl (fun t4 => ?_) (fun t4 => ?_)
  · refine v_aload_n rfl rfl ?_
    refine v_get rfl hp rfl ?_
    refine v_iload_n rfl rfl ?_
    refine v_icmp_ne rfl (fun t15 => ?_) (fun t15 => ?_)
    · refine v_bipush (v := (-2)) rfl (by decide) ?_
      exact v_iret rfl ⟨rfl, by first | rw [if_neg t4, if_pos t15] | rw [if_neg t4, if_neg t15]⟩
    · refine v_iconst (v := 0) rfl (by decide) ?_
      refine v_goto rfl ?_
      exact v_iret rfl ⟨rfl, by first | rw [if_neg t4, if_pos t15] | rw [if_neg t4, if_neg t15]⟩
  · refine v_bipush (v := (-5)) rfl (by decide) ?_
    exact v_iret rfl ⟨rfl, by rw [if_pos t4]⟩
set_option maxRecDepth 100000 in
theorem c_isBeam {sc : pm_S} {w : pm_W} (b : Int32) : pm_Mt sc 1 174 1 [.int b] w (fun rv w' => w = w' ∧ rv = pm_b (0 ≤ b.toInt ∧ b.toInt < 4)) := by
  intro d hd
  show pm_V sc d 174 0 _ [] w _
  refine v_iload_n rfl rfl ?_
  refine v_iconst (v := 0) rfl (by decide) ?_
  refine v_iconst (v := 3) rfl (by decide) ?_
  refine v_callS rfl (c_in b 0 3 w) rfl rfl rfl rfl rfl (by omega) (fun rv w1 hq => ?_)
  obtain ⟨rfl, rfl⟩ := hq
  by_cases hb : 0 ≤ b.toInt ∧ b.toInt < 4
  · rw [pm_b_1 (show (0 : Int32).toInt ≤ b.toInt ∧ b.toInt ≤ (3 : Int32).toInt by rw [i_0, i_3]; omega)]
    exact v_zret rfl (Or.inr rfl) ⟨rfl, pm_b1 hb⟩
  · rw [pm_b_0 (show ¬ ((0 : Int32).toInt ≤ b.toInt ∧ b.toInt ≤ (3 : Int32).toInt) by rw [i_0, i_3]; omega)]
    exact v_zret rfl (Or.inl rfl) ⟨rfl, pm_b0 hb⟩
noncomputable def sp_warp (gi : Nat → Int32) (ga : Nat → List Int32) (b e : Int32) : pm_G := if ¬ (0 ≤ b.toInt ∧ b.toInt < 4) then pm_no gi ga (-1) else if ¬ (ga 7).getD b.toInt.toNat 0 = 0 then pm_no gi ga (-3) else if e.toInt < 1 then pm_no gi ga (-4) else if 500 < e.toInt then pm_no gi ga (-6) else (1, gi, pm_uA (pm_uA ga 7 ((ga 7).set b.toInt.toNat 1)) 8 ((ga 8).set b.toInt.toNat e))
set_option maxRecDepth 100000 in
theorem c_X_warp {sc : pm_S} {w : pm_W} {gi : Nat → Int32} {ga : Nat → List Int32} (b e : Int32) (hR : pm_Rg gi ga) (hI : pm_IX gi ga w) : pm_Mt sc 2 100 3 [.ref 0, .int b, .int e] w (pm_PX w (sp_warp gi ga b e)) := by
  intro d hd
  show pm_V sc d 100 0 _ [] w _
  have hh : pm_hi w w := pm_hi.rf
  obtain ⟨v6, c6, h0⟩ := hI.2 0 (by decide)
  have h45 : _ = some _ := hI.2 45 (by decide)
  refine v_iload_n rfl rfl ?_
  refine v_iconst (v := 4) rfl (by decide) ?_
  refine v_callS rfl (c_isPlace b 4 w) rfl rfl rfl rfl rfl (by omega) (fun rv w1 hq => ?_)
  obtain ⟨rfl, rfl⟩ := hq
  by_cases ha : 0 ≤ b.toInt ∧ b.toInt < 4
  · rw [pm_b_1 (show 0 ≤ b.toInt ∧ b.toInt < (4 : Int32).toInt from ha)]
    refine v_if_ne rfl (fun _ => ?_) (fun h => absurd h (by decide))
    have hj : b.toInt.toNat < 4 := by omega
    have hbr : ([some 46, some 49, some 52, some 55] : List (Option Nat))[b.toNatClampNeg]? = some (some (46 + 3 * b.toInt.toNat)) := by rw [i_nI ha.1, nI_toInt (by omega)]; exact pm_bref hj
    have hbm := hI.beam hj
    refine v_aload_n rfl rfl ?_
    refine v_get rfl h0 rfl ?_
    refine v_iload_n rfl rfl ?_
    refine v_aaload rfl h45 (by rw [i_lt, i_0]; omega) hbr ?_
    refine v_get rfl hbm rfl ?_
    refine v_if_eq rfl (fun t23 => ?_) (fun t23 => ?_)
    · refine v_iload_n rfl rfl ?_
      refine v_iconst (v := 1) rfl (by decide) ?_
      refine v_icmp_ge rfl (fun t35 => ?_) (fun t35 => ?_)
      · refine v_iload_n rfl rfl ?_
        refine v_sipush (v := 500) rfl (by decide) ?_
        refine v_icmp_le rfl (fun t49 => ?_) (fun t49 => ?_)
        · refine v_aload_n rfl rfl ?_
          refine v_get rfl h0 rfl ?_
          refine v_iload_n rfl rfl ?_
          refine v_aaload rfl h45 (by rw [i_lt, i_0]; omega) hbr ?_
          refine v_iload_n rfl rfl ?_
          refine v_callV rfl (c_holdWarp hbm e) rfl rfl hbm rfl rfl (by omega) (fun rv w1 hq => ?_)
          obtain ⟨rfl, rfl⟩ := hq
          rw [if_neg (show ¬ e ≤ 0 by simp only [i_lt, i_le, i_eq, i_0, i_1, i_2, i_3, i_4, i_5, i_12, i_20, i_40, i_99, i_100, i_200, i_500, i_999, i_2000, i_3000, i_100000] at *; omega)]
          refine v_iconst (v := 1) rfl (by decide) ?_
          exact v_iret rfl (by show pm_PX _ _ _ _; unfold sp_warp; rw [if_neg (fun h => h ha), if_neg (fun h => h t23), if_neg (by simp only [i_lt, i_le, i_eq, i_0, i_1, i_2, i_3, i_4, i_5, i_12, i_20, i_40, i_99, i_100, i_200, i_500, i_999, i_2000, i_3000, i_100000] at *; omega), if_neg (by simp only [i_lt, i_le, i_eq, i_0, i_1, i_2, i_3, i_4, i_5, i_12, i_20, i_40, i_99, i_100, i_200, i_500, i_999, i_2000, i_3000, i_100000] at *; omega)]; exact ⟨rfl, hI.ubeam hR hj 1 e, hh.set (by omega) _⟩)
        · refine v_aload_n rfl rfl ?_
          refine v_bipush (v := (-6)) rfl (by decide) ?_
          refine v_callV rfl (c_X_refuse (-6) (by unfold pm_isR; decide) hR hI) rfl rfl h0 rfl rfl (by omega) (fun rv w1 hq => ?_)
          obtain ⟨rfl, g1, g2⟩ := hq
          exact v_iret rfl (by show pm_PX _ _ _ _; unfold sp_warp; rw [if_neg (fun h => h ha), if_neg (fun h => h t23), if_neg (by simp only [i_lt, i_le, i_eq, i_0, i_1, i_2, i_3, i_4, i_5, i_12, i_20, i_40, i_99, i_100, i_200, i_500, i_999, i_2000, i_3000, i_100000] at *; omega), if_pos (by simp only [i_lt, i_le, i_eq, i_0, i_1, i_2, i_3, i_4, i_5, i_12, i_20, i_40, i_99, i_100, i_200, i_500, i_999, i_2000, i_3000, i_100000] at *; omega)]; exact ⟨rfl, g1, hh.tr g2⟩)
      · refine v_aload_n rfl rfl ?_
        refine v_bipush (v := (-4)) rfl (by decide) ?_
        refine v_callV rfl (c_X_refuse (-4) (by unfold pm_isR; decide) hR hI) rfl rfl h0 rfl rfl (by omega) (fun rv w1 hq => ?_)
        obtain ⟨rfl, g1, g2⟩ := hq
        exact v_iret rfl (by show pm_PX _ _ _ _; unfold sp_warp; rw [if_neg (fun h => h ha), if_neg (fun h => h t23), if_pos (by simp only [i_lt, i_le, i_eq, i_0, i_1, i_2, i_3, i_4, i_5, i_12, i_20, i_40, i_99, i_100, i_200, i_500, i_999, i_2000, i_3000, i_100000] at *; omega)]; exact ⟨rfl, g1, hh.tr g2⟩)
    · refine v_aload_n rfl rfl ?_
      refine v_bipush (v := (-3)) rfl (by decide) ?_
      refine v_callV rfl (c_X_refuse (-3) (by unfold pm_isR; decide) hR hI) rfl rfl h0 rfl rfl (by omega) (fun rv w1 hq => ?_)
      obtain ⟨rfl, g1, g2⟩ := hq
      exact v_iret rfl (by show pm_PX _ _ _ _; unfold sp_warp; rw [if_neg (fun h => h ha), if_pos t23]; exact ⟨rfl, g1, hh.tr g2⟩)
  · rw [pm_b_0 (show ¬ (0 ≤ b.toInt ∧ b.toInt < (4 : Int32).toInt) from ha)]
    refine v_if_ne rfl (fun h => absurd h (by decide)) (fun _ => ?_)
    refine v_aload_n rfl rfl ?_
    refine v_iconst (v := (-1)) rfl (by decide) ?_
    refine v_callV rfl (c_X_refuse (-1) (by unfold pm_isR; decide) hR hI) rfl rfl h0 rfl rfl (by omega) (fun rv w1 hq => ?_)
    obtain ⟨rfl, g1, g2⟩ := hq
    exact v_iret rfl (by show pm_PX _ _ _ _; unfold sp_warp; rw [if_pos ha]; exact ⟨rfl, g1, hh.tr g2⟩)
set_option maxRecDepth 100000 in
theorem c_M_warp {sc : pm_S} {w : pm_W} {gi : Nat → Int32} {ga : Nat → List Int32} (b e : Int32) (hR : pm_Rg gi ga) (hI : pm_IM gi ga w) : pm_Mt sc 2 175 3 [.ref 59, .int b, .int e] w (pm_PM w (sp_warp gi ga b e)) := by
  intro d hd
  show pm_V sc d 175 0 _ [] w _
  have hh : pm_lo w w := pm_lo.rf
  have q7 := hR.l7
  have q8 := hR.l8
  obtain ⟨v4, v5, v6, v14, v35, v39, v40, v42, c4, c5, c6, c35, c42, h59⟩ := hI.2.1 59 (by decide) (by decide)
  have h74 : _ = some _ := hI.2.1 74 (by decide) (by decide)
  have h75 : _ = some _ := hI.2.1 75 (by decide) (by decide)
  refine v_iload_n rfl rfl ?_
  refine v_callS rfl (c_isBeam b) rfl rfl rfl rfl rfl (by omega) (fun rv w1 hq => ?_)
  obtain ⟨rfl, rfl⟩ := hq
  by_cases ha : 0 ≤ b.toInt ∧ b.toInt < 4
  · rw [pm_b_1 ha]
    refine v_if_ne rfl (fun _ => ?_) (fun h => absurd h (by decide))
    refine v_aload_n rfl rfl ?_
    refine v_get rfl h59 rfl ?_
    refine v_iload_n rfl rfl ?_
    refine v_iaload rfl h74 (by rw [i_lt, i_0]; omega) (pm_gD (d := 0) (by rw [i_cl, q7]; omega)) ?_
    refine v_if_eq rfl (fun t19 => ?_) (fun t19 => ?_)
    · refine v_iload_n rfl rfl ?_
      refine v_iconst (v := 1) rfl (by decide) ?_
      refine v_icmp_ge rfl (fun t31 => ?_) (fun t31 => ?_)
      · refine v_iload_n rfl rfl ?_
        refine v_sipush (v := 500) rfl (by decide) ?_
        refine v_icmp_le rfl (fun t45 => ?_) (fun t45 => ?_)
        · refine v_aload_n rfl rfl ?_
          refine v_get rfl h59 rfl ?_
          refine v_iload_n rfl rfl ?_
          refine v_iconst (v := 1) rfl (by decide) ?_
          refine v_iastore rfl h74 (by rw [i_lt, i_0]; omega) (by rw [i_cl, q7]; omega) ?_
          refine v_forget (P := fun u => pm_IM gi (pm_uA ga 7 ((ga 7).set b.toInt.toNat 1)) u ∧ pm_lo w u) ⟨hI.u7 hR (by omega) (by decide), hh.set (by decide) _⟩ (fun w1 hw1 => ?_)
          obtain ⟨hI, hh⟩ := hw1
          obtain ⟨v4, v5, v6, v14, v35, v39, v40, v42, c4, c5, c6, c35, c42, h59⟩ := hI.2.1 59 (by decide) (by decide)
          have h75 : _ = some _ := hI.2.1 75 (by decide) (by decide)
          refine v_aload_n rfl rfl ?_
          refine v_get rfl h59 rfl ?_
          refine v_iload_n rfl rfl ?_
          refine v_iload_n rfl rfl ?_
          refine v_iastore rfl h75 (by rw [i_lt, i_0]; omega) (by rw [i_cl]; show _ < (ga 8).length; rw [q8]; omega) ?_
          refine v_forget (P := fun u => pm_IM gi (pm_uA (pm_uA ga 7 ((ga 7).set b.toInt.toNat 1)) 8 ((ga 8).set b.toInt.toNat e)) u ∧ pm_lo w u) ⟨hI.uA 75 8 (by decide +kernel) (by decide +kernel) (by decide +kernel) (by decide +kernel) (by decide +kernel) rfl, hh.set (by decide) _⟩ (fun w1 hw1 => ?_)
          obtain ⟨hI, hh⟩ := hw1
          refine v_iconst (v := 1) rfl (by decide) ?_
          exact v_iret rfl (by show pm_PM _ _ _ _; unfold sp_warp; rw [if_neg (fun h => h ha), if_neg (fun h => h t19), if_neg (by simp only [i_lt, i_le, i_eq, i_0, i_1, i_2, i_3, i_4, i_5, i_12, i_20, i_40, i_99, i_100, i_200, i_500, i_999, i_2000, i_3000, i_100000] at *; omega), if_neg (by simp only [i_lt, i_le, i_eq, i_0, i_1, i_2, i_3, i_4, i_5, i_12, i_20, i_40, i_99, i_100, i_200, i_500, i_999, i_2000, i_3000, i_100000] at *; omega)]; exact ⟨rfl, hI, hh⟩)
        · refine v_aload_n rfl rfl ?_
          refine v_bipush (v := (-6)) rfl (by decide) ?_
          refine v_callV rfl (c_M_refuse (-6) (by unfold pm_isR; decide) hR hI) rfl rfl h59 rfl rfl (by omega) (fun rv w1 hq => ?_)
          obtain ⟨rfl, g1, g2⟩ := hq
          exact v_iret rfl (by show pm_PM _ _ _ _; unfold sp_warp; rw [if_neg (fun h => h ha), if_neg (fun h => h t19), if_neg (by simp only [i_lt, i_le, i_eq, i_0, i_1, i_2, i_3, i_4, i_5, i_12, i_20, i_40, i_99, i_100, i_200, i_500, i_999, i_2000, i_3000, i_100000] at *; omega), if_pos (by simp only [i_lt, i_le, i_eq, i_0, i_1, i_2, i_3, i_4, i_5, i_12, i_20, i_40, i_99, i_100, i_200, i_500, i_999, i_2000, i_3000, i_100000] at *; omega)]; exact ⟨rfl, g1, hh.tr g2⟩)
      · refine v_aload_n rfl rfl ?_
        refine v_bipush (v := (-4)) rfl (by decide) ?_
        refine v_callV rfl (c_M_refuse (-4) (by unfold pm_isR; decide) hR hI) rfl rfl h59 rfl rfl (by omega) (fun rv w1 hq => ?_)
        obtain ⟨rfl, g1, g2⟩ := hq
        exact v_iret rfl (by show pm_PM _ _ _ _; unfold sp_warp; rw [if_neg (fun h => h ha), if_neg (fun h => h t19), if_pos (by simp only [i_lt, i_le, i_eq, i_0, i_1, i_2, i_3, i_4, i_5, i_12, i_20, i_40, i_99, i_100, i_200, i_500, i_999, i_2000, i_3000, i_100000] at *; omega)]; exact ⟨rfl, g1, hh.tr g2⟩)
    · refine v_aload_n rfl rfl ?_
      refine v_bipush (v := (-3)) rfl (by decide) ?_
      refine v_callV rfl (c_M_refuse (-3) (by unfold pm_isR; decide) hR hI) rfl rfl h59 rfl rfl (by omega) (fun rv w1 hq => ?_)
      obtain ⟨rfl, g1, g2⟩ := hq
      exact v_iret rfl (by show pm_PM _ _ _ _; unfold sp_warp; rw [if_neg (fun h => h ha), if_pos (show ¬ (ga 7).getD b.toInt.toNat 0 = 0 from t19)]; exact ⟨rfl, g1, hh.tr g2⟩)
  · rw [pm_b_0 ha]
    refine v_if_ne rfl (fun h => absurd h (by decide)) (fun _ => ?_)
    refine v_aload_n rfl rfl ?_
    refine v_iconst (v := (-1)) rfl (by decide) ?_
    refine v_callV rfl (c_M_refuse (-1) (by unfold pm_isR; decide) hR hI) rfl rfl h59 rfl rfl (by omega) (fun rv w1 hq => ?_)
    obtain ⟨rfl, g1, g2⟩ := hq
    exact v_iret rfl (by show pm_PM _ _ _ _; unfold sp_warp; rw [if_pos ha]; exact ⟨rfl, g1, hh.tr g2⟩)

