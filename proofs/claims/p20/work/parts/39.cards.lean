theorem pm_IM.ucards {gi : Nat → Int32} {ga : Nat → List Int32} {w : pm_W} (hI : pm_IM gi ga w) (hR : pm_Rg gi ga) {j : Nat} (hj : j < 4) {xs ys : List Int32} (lx : xs.length = 4) (ly : ys.length = 4) (bx : ∀ b, b < 4 → (ga 7).getD b 0 = 2 → xs.getD b 0 = (ga 13).getD b 0) (bY : ∀ b, b < 4 → (ga 7).getD b 0 = 2 → ys.getD b 0 = (ga 14).getD b 0) : pm_IM gi (pm_cd0 gi ga j) (((w.set 74 (.inl (0, .inl ((ga 7).set j 2)))).set 76 (.inl (0, .inl (xs.set j (gi 0))))).set 77 (.inl (0, .inl (ys.set j (gi 1))))) := by
  have l7 := hR.l7
  have l13 := hR.l13
  have l14 := hR.l14
  refine ⟨by simp only [List.length_set]; exact hI.1, fun k hk hk2 => ?_, ((hI.2.2.set 74 (by decide) (by decide) _).set 76 (by decide) (by decide) _).set 77 (by decide) (by decide) _⟩
  by_cases h77 : k = 77
  · subst h77
    rw [List.getElem?_set_self (by simp only [List.length_set]; rw [hI.1]; omega)]
    refine ⟨_, by rw [List.length_set]; exact ly, fun b hb e => ?_, rfl⟩
    have e1 : ((ga 7).set j 2).getD b 0 = 2 := e
    show (ys.set j (gi 1)).getD b 0 = ((ga 14).set j (gi 1)).getD b 0
    rw [pm_getD_set (by omega)] at e1
    rw [pm_getD_set (by omega), pm_getD_set (by omega)]
    by_cases ej : j = b
    · rw [if_pos ej, if_pos ej]
    · rw [if_neg ej] at e1 ⊢
      rw [if_neg ej]
      exact bY b hb e1
  by_cases h76 : k = 76
  · subst h76
    rw [List.getElem?_set_ne (by decide), List.getElem?_set_self (by simp only [List.length_set]; rw [hI.1]; omega)]
    refine ⟨_, by rw [List.length_set]; exact lx, fun b hb e => ?_, rfl⟩
    have e1 : ((ga 7).set j 2).getD b 0 = 2 := e
    show (xs.set j (gi 0)).getD b 0 = ((ga 13).set j (gi 0)).getD b 0
    rw [pm_getD_set (by omega)] at e1
    rw [pm_getD_set (by omega), pm_getD_set (by omega)]
    by_cases ej : j = b
    · rw [if_pos ej, if_pos ej]
    · rw [if_neg ej] at e1 ⊢
      rw [if_neg ej]
      exact bx b hb e1
  by_cases h74 : k = 74
  · subst h74
    rw [List.getElem?_set_ne (by decide), List.getElem?_set_ne (by decide), List.getElem?_set_self (by rw [hI.1]; omega)]
    exact rfl
  rw [List.getElem?_set_ne (Ne.symm h77), List.getElem?_set_ne (Ne.symm h76), List.getElem?_set_ne (Ne.symm h74)]
  have hd : ∀ k, k < 88 → (k < 59 ∨ k = 74 ∨ k = 76 ∨ k = 77 ∨ (¬ 7 ∈ pm_dA k ∧ ¬ 13 ∈ pm_dA k ∧ ¬ 14 ∈ pm_dA k)) := by decide
  have h1 : ¬ 7 ∈ pm_dA k ∧ ¬ 13 ∈ pm_dA k ∧ ¬ 14 ∈ pm_dA k := by
    rcases hd k hk2 with h | h | h | h | h
    · omega
    · exact absurd h h74
    · exact absurd h h76
    · exact absurd h h77
    · exact h
  refine pm_cell_eq (fun _ _ => rfl) (fun i hi => ?_) (hI.2.1 k hk hk2)
  unfold pm_cd0
  have n7 : i ≠ 7 := fun e2 => h1.1 (e2 ▸ hi)
  have n14 : i ≠ 14 := fun e2 => h1.2.2 (e2 ▸ hi)
  have n13 : i ≠ 13 := fun e2 => h1.2.1 (e2 ▸ hi)
  rw [pm_uA_ne n7, pm_uA_ne n14, pm_uA_ne n13]
theorem pm_IM.f16 {gi : Nat → Int32} {ga : Nat → List Int32} {w : pm_W} (h : pm_IM gi ga w) {j : Nat} (hj : j < 4) (v : List Int32) : pm_IM gi (pm_uA ga (16 + j) v) w := ⟨h.1, fun k h1 h2 => by
  have hd : ∀ k, k < 88 → 59 ≤ k → ∀ i, i < 4 → ¬ (16 + i) ∈ pm_dA k := by decide
  exact pm_cell_eq (fun _ _ => rfl) (fun i hi => pm_uA_ne (fun e => hd k h2 h1 j hj (e ▸ hi))) (h.2.1 k h1 h2), h.2.2⟩
theorem pm_IM.ucd {gi : Nat → Int32} {ga : Nat → List Int32} {w : pm_W} (h : pm_IM gi ga w) {zs : List Int32} (l : zs.length = 1600) (r : ∀ x ∈ zs, pm_rng x 0 3) : pm_IM gi (pm_uA ga 20 zs) (w.set 78 (.inl (0, .inl zs))) := h.uA 78 20 (by decide +kernel) (by decide +kernel) (by decide +kernel) (by decide +kernel) (by decide +kernel) ⟨by rw [pm_uA_self]; exact l, by rw [pm_uA_self]; exact r, by rw [pm_uA_self]⟩
theorem pm_400 {j : Nat} (hj : j < 4) : (400 : Int32) * nI j = nI (400 * j) := by
  match j, hj with
  | 0, _ => rfl
  | 1, _ => rfl
  | 2, _ => rfl
  | 3, _ => rfl
theorem pm_slice_at {xs ds : List Int32} {j n : Nat} (lx : xs.length = 1600) (ld : ds.length = 400) (hj : j < 4) (hn : n = 400) (k : Nat) : (pm_slice xs j ds)[k]? = if 400 * j ≤ k ∧ k < 400 * j + n then ds[k - 400 * j]? else xs[k]? := by
  subst hn
  unfold pm_slice
  by_cases h1 : k < 400 * j
  · rw [if_neg (by omega), List.getElem?_append_left (by rw [List.length_append, List.length_take]; omega), List.getElem?_append_left (by rw [List.length_take]; omega), List.getElem?_take_of_lt h1]
  · by_cases h2 : k < 400 * j + 400
    · rw [if_pos (by omega), List.getElem?_append_left (by rw [List.length_append, List.length_take]; omega), List.getElem?_append_right (by rw [List.length_take]; omega), List.length_take, show min (400 * j) xs.length = 400 * j by omega]
    · rw [if_neg (by omega), List.getElem?_append_right (by rw [List.length_append, List.length_take]; omega), List.getElem?_drop]
      congr 1
      rw [List.length_append, List.length_take]
      omega
set_option maxRecDepth 100000 in
theorem l_M_cards {sc : pm_S} {w : pm_W} {gi : Nat → Int32} {ga : Nat → List Int32} {xs0 : List Int32} (lx0 : xs0.length = 1600) {j : Nat} (hj : j < 4) (d m : Nat) : ∀ (i : Nat) (u : pm_W) (zs : List Int32), i + m = 400 → (∀ k, zs[k]? = if 400 * j ≤ k ∧ k < 400 * j + i then (ga 15)[k - 400 * j]? else xs0[k]?) → pm_IM gi (pm_uA ga 20 zs) u → pm_lo w u → pm_V sc d 176 58 [.ref 59, .int (nI j), .int (nI i)] [] u (fun rv w' => rv = some (.int 1) ∧ pm_IM gi (pm_uA ga 20 (pm_slice xs0 j (ga 15))) w' ∧ pm_lo w w') := by
  induction m with
  | zero =>
    intro i u zs hi hv hI hh
    obtain ⟨v4, v5, v6, v14, v35, v39, v40, v42, c4, c5, c6, c35, c42, h59⟩ := hI.2.1 59 (by decide) (by decide)
    obtain ⟨l60, r60, h60⟩ := hI.2.1 60 (by decide) (by decide)
    obtain ⟨l78, r78, h78⟩ := hI.2.1 78 (by decide) (by decide)
    rw [pm_uA_ne (by decide)] at l60 r60 h60
    rw [pm_uA_self] at l78 r78 h78
    refine v_iload_n rfl rfl ?_
    refine v_sipush (v := 400) rfl (by decide) ?_
    refine v_icmp_ge rfl (fun _ => ?_) (fun h => absurd (show (400 : Int32) ≤ nI i from nI_le (a := 400) (by omega) (by omega)) h)
    refine v_iconst (v := 1) rfl (by decide) ?_
    exact v_iret rfl ⟨rfl, (by
      rw [show pm_slice xs0 j (ga 15) = zs from List.ext_getElem? (fun k => by
        rw [hv k]
        exact pm_slice_at lx0 l60 hj (by omega) k)]
      exact hI), hh⟩
  | succ m ih =>
    intro i u zs hi hv hI hh
    obtain ⟨v4, v5, v6, v14, v35, v39, v40, v42, c4, c5, c6, c35, c42, h59⟩ := hI.2.1 59 (by decide) (by decide)
    obtain ⟨l60, r60, h60⟩ := hI.2.1 60 (by decide) (by decide)
    obtain ⟨l78, r78, h78⟩ := hI.2.1 78 (by decide) (by decide)
    rw [pm_uA_ne (by decide)] at l60 r60 h60
    rw [pm_uA_self] at l78 r78 h78
    refine v_iload_n rfl rfl ?_
    refine v_sipush (v := 400) rfl (by decide) ?_
    refine v_icmp_ge rfl (fun h => absurd h (show ¬ (400 : Int32) ≤ nI i from nI_ge (b := 400) (by omega) (by omega))) (fun _ => ?_)
    refine v_aload_n rfl rfl ?_
    refine v_get rfl h59 rfl ?_
    refine v_sipush (v := 400) rfl (by decide) ?_
    refine v_iload_n rfl rfl ?_
    refine v_imul rfl ?_
    refine v_iload_n rfl rfl ?_
    refine v_iadd rfl ?_
    rw [pm_400 hj, nI_add]
    refine v_aload_n rfl rfl ?_
    refine v_get rfl h59 rfl ?_
    refine v_iload_n rfl rfl ?_
    refine v_iaload rfl h60 (nI_pos (by omega)) (pm_gD (d := 0) (by rw [nI_clamp (by omega), l60]; omega)) ?_
    refine v_iastore rfl h78 (nI_pos (by omega)) (by rw [nI_clamp (by omega), l78]; omega) ?_
    rw [nI_clamp (by omega), nI_clamp (by omega)]
    refine v_forget (P := fun u => pm_IM gi (pm_uA ga 20 (zs.set (400 * j + i) ((ga 15).getD i 0))) u ∧ pm_lo w u) ⟨(by
      have q := hI.ucd (zs := zs.set (400 * j + i) ((ga 15).getD i 0)) (by rw [List.length_set]; exact l78) (pm_rng_set r78 (r60 _ (pm_mem_getD (by rw [l60]; omega))))
      rw [pm_uA_uA] at q
      exact q), hh.set (by decide) _⟩ (fun w1 hw1 => ?_)
    obtain ⟨hI, hh⟩ := hw1
    refine v_iinc (v := nI (i + 1)) rfl rfl (i_inc i) ?_
    refine v_goto rfl ?_
    exact ih (i + 1) _ (zs.set (400 * j + i) ((ga 15).getD i 0)) (by omega) (fun k => by
      by_cases e : 400 * j + i = k
      · subst e
        rw [List.getElem?_set_self (by rw [l78]; omega), if_pos (by omega), show 400 * j + i - 400 * j = i by omega]
        exact (pm_gD (by rw [l60]; omega)).symm
      · rw [List.getElem?_set_ne e, hv k]
        by_cases e2 : 400 * j ≤ k ∧ k < 400 * j + i
        · rw [if_pos e2, if_pos (by omega)]
        · rw [if_neg e2, if_neg (by omega)]) hI hh
set_option maxRecDepth 100000 in
theorem c_M_cards {sc : pm_S} {w : pm_W} {gi : Nat → Int32} {ga : Nat → List Int32} (b : Int32) (hR : pm_Rg gi ga) (hI : pm_IM gi ga w) : pm_Mt sc 2 176 3 [.ref 59, .int b] w (pm_PM w (sp_cards gi ga b)) := by
  intro d hd
  show pm_V sc d 176 0 _ [] w _
  have hh : pm_lo w w := pm_lo.rf
  have q7 := hR.l7
  obtain ⟨v4, v5, v6, v14, v35, v39, v40, v42, c4, c5, c6, c35, c42, h59⟩ := hI.2.1 59 (by decide) (by decide)
  have h74 : _ = some _ := hI.2.1 74 (by decide) (by decide)
  obtain ⟨xs76, l76, b76, h76⟩ := hI.2.1 76 (by decide) (by decide)
  obtain ⟨xs77, l77, b77, h77⟩ := hI.2.1 77 (by decide) (by decide)
  refine v_iload_n rfl rfl ?_
  refine v_callS rfl (c_isBeam b) rfl rfl rfl rfl rfl (by omega) (fun rv w1 hq => ?_)
  obtain ⟨rfl, rfl⟩ := hq
  by_cases ha : 0 ≤ b.toInt ∧ b.toInt < 4
  · rw [pm_b_1 ha]
    refine v_if_ne rfl (fun _ => ?_) (fun h => absurd h (by decide))
    refine v_aload_n rfl rfl ?_
    refine v_get rfl h59 rfl ?_
    refine v_iload_n rfl rfl ?_
    refine v_iaload rfl h74 (by rw [i_lt, i_0]; omega) (pm_gD (d := 0) (by rw [i_cl, q7]; omega)) ?_
    refine v_if_eq rfl (fun t19 => ?_) (fun t19 => ?_)
    · refine v_aload_n rfl rfl ?_
      refine v_get rfl h59 rfl ?_
      refine v_iload_n rfl rfl ?_
      refine v_iconst (v := 2) rfl (by decide) ?_
      refine v_iastore rfl h74 (by rw [i_lt, i_0]; omega) (by rw [i_cl, q7]; omega) ?_
      refine v_aload_n rfl rfl ?_
      refine v_get rfl ((List.getElem?_set_ne (by decide)).trans h59) rfl ?_
      refine v_iload_n rfl rfl ?_
      refine v_aload_n rfl rfl ?_
      refine v_get rfl ((List.getElem?_set_ne (by decide)).trans h59) rfl ?_
      refine v_iastore rfl ((List.getElem?_set_ne (by decide)).trans h76) (by rw [i_lt, i_0]; omega) (by rw [i_cl, l76]; omega) ?_
      refine v_aload_n rfl rfl ?_
      refine v_get rfl ((List.getElem?_set_ne (by decide)).trans ((List.getElem?_set_ne (by decide)).trans h59)) rfl ?_
      refine v_iload_n rfl rfl ?_
      refine v_aload_n rfl rfl ?_
      refine v_get rfl ((List.getElem?_set_ne (by decide)).trans ((List.getElem?_set_ne (by decide)).trans h59)) rfl ?_
      refine v_iastore rfl ((List.getElem?_set_ne (by decide)).trans ((List.getElem?_set_ne (by decide)).trans h77)) (by rw [i_lt, i_0]; omega) (by rw [i_cl, l77]; omega) ?_
      refine v_forget (P := fun u => pm_IM gi (pm_cd0 gi ga b.toInt.toNat) u ∧ pm_lo w u) ⟨hI.ucards hR (by omega) l76 l77 b76 b77, ((hh.set (by decide) _).set (by decide) _).set (by decide) _⟩ (fun w1 hw1 => ?_)
      obtain ⟨hI, hh⟩ := hw1
      refine v_iconst (v := 0) rfl (by decide) ?_
      refine v_istore_n rfl (Nat.le_of_ble_eq_true rfl) ?_
      rw [show b = nI b.toInt.toNat from i_nI ha.1]
      obtain ⟨l78, -, -⟩ := hI.2.1 78 (by decide) (by decide)
      refine v_weak (l_M_cards (w := w) (ga := pm_cd0 gi ga b.toInt.toNat) (xs0 := ga 20) l78 (j := b.toInt.toNat) (by omega) d 400 0 _ (ga 20) (by omega) (fun k => by rw [if_neg (by omega)]) (by rw [show pm_uA (pm_cd0 gi ga b.toInt.toNat) 20 (ga 20) = pm_cd0 gi ga b.toInt.toNat from pm_uA_id (ga := pm_cd0 gi ga b.toInt.toNat) (j := 20)]; exact hI) hh) (fun rv w2 hq => ?_)
      rw [show nI b.toInt.toNat = b from (i_nI ha.1).symm]
      show pm_PM _ _ _ _
      unfold sp_cards
      rw [if_neg (fun h => h ha), if_neg (fun h => h t19)]
      refine ⟨hq.1, ?_, hq.2.2⟩
      show pm_IM gi (pm_cd gi ga b.toInt.toNat) w2
      unfold pm_cd
      rw [pm_uA_comm (show 16 + b.toInt.toNat ≠ 20 by omega)]
      exact hq.2.1.f16 (by omega) _
    · refine v_aload_n rfl rfl ?_
      refine v_bipush (v := (-3)) rfl (by decide) ?_
      refine v_callV rfl (c_M_refuse (-3) (by unfold pm_isR; decide) hR hI) rfl rfl h59 rfl rfl (by omega) (fun rv w1 hq => ?_)
      obtain ⟨rfl, g1, g2⟩ := hq
      exact v_iret rfl (by show pm_PM _ _ _ _; unfold sp_cards; rw [if_neg (fun h => h ha), if_pos (show ¬ (ga 7).getD b.toInt.toNat 0 = 0 from t19)]; exact ⟨rfl, g1, hh.tr g2⟩)
  · rw [pm_b_0 ha]
    refine v_if_ne rfl (fun h => absurd h (by decide)) (fun _ => ?_)
    refine v_aload_n rfl rfl ?_
    refine v_iconst (v := (-1)) rfl (by decide) ?_
    refine v_callV rfl (c_M_refuse (-1) (by unfold pm_isR; decide) hR hI) rfl rfl h59 rfl rfl (by omega) (fun rv w1 hq => ?_)
    obtain ⟨rfl, g1, g2⟩ := hq
    exact v_iret rfl (by show pm_PM _ _ _ _; unfold sp_cards; rw [if_pos ha]; exact ⟨rfl, g1, hh.tr g2⟩)

