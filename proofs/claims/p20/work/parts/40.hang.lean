noncomputable def sp_hang (gi : Nat → Int32) (ga : Nat → List Int32) (b : Int32) : pm_G := if (pm_lk ga b 2).toInt < 0 then pm_no gi ga (pm_lk ga b 2) else (((ga 13).getD b.toInt.toNat 0) * ((ga 14).getD b.toInt.toNat 0), (pm_uI (pm_uI gi 0 ((ga 13).getD b.toInt.toNat 0)) 1 ((ga 14).getD b.toInt.toNat 0)), pm_uA ga 15 (ga (16 + b.toInt.toNat)))
/-- cards that a beam holds, as the reference has them -/
def pm_Cr (ga : Nat → List Int32) : Prop := ∀ b, b < 4 → (ga 7).getD b 0 = 2 → ∀ k, k < 400 → (ga 20)[400 * b + k]? = (ga (16 + b))[k]?
theorem rg_hang {gi : Nat → Int32} {ga : Nat → List Int32} (hR : pm_Rg gi ga) (b : Int32) : pm_RG (sp_hang gi ga b) := by
  unfold sp_hang
  split
  · exact hR
  · rename_i h1
    obtain ⟨⟨a0, a4⟩, -⟩ := pm_lk_0 h1
    have q := (hR.u0 (hR.r13 _ (pm_mem_getD (k := b.toInt.toNat) (by rw [hR.l13]; omega)))).u1 (hR.r14 _ (pm_mem_getD (k := b.toInt.toNat) (by rw [hR.l14]; omega)))
    exact q
set_option maxRecDepth 100000 in
theorem c_X_hang {sc : pm_S} {w : pm_W} {gi : Nat → Int32} {ga : Nat → List Int32} (b : Int32) (hR : pm_Rg gi ga) (hI : pm_IX gi ga w) : pm_Mt sc 2 102 3 [.ref 0, .int b] w (pm_PX w (sp_hang gi ga b)) := by
  intro d hd
  show pm_V sc d 102 0 _ [] w _
  have hh : pm_hi w w := pm_hi.rf
  obtain ⟨v6, c6, h0⟩ := hI.2 0 (by decide)
  have h1 : _ = some _ := hI.2 1 (by decide)
  obtain ⟨l2, r2, h2⟩ := hI.2 2 (by decide)
  have h45 : _ = some _ := hI.2 45 (by decide)
  refine v_iload_n rfl rfl ?_
  refine v_iconst (v := 4) rfl (by decide) ?_
  refine v_callS rfl (c_isPlace b 4 w) rfl rfl rfl rfl rfl (by omega) (fun rv w1 hq => ?_)
  obtain ⟨rfl, rfl⟩ := hq
  by_cases ha : 0 ≤ b.toInt ∧ b.toInt < 4
  · rw [pm_b_1 (show 0 ≤ b.toInt ∧ b.toInt < (4 : Int32).toInt from ha)]
    refine v_if_ne rfl (fun _ => ?_) (fun h => absurd h (by decide))
    have hj : b.toInt.toNat < 4 := by omega
    have hbr : ([some 46, some 49, some 52, some 55] : List (Option Nat))[b.toNatClampNeg]? = some (some (46 + 3 * b.toInt.toNat)) := by rw [i_nI ha.1, nI_toInt (by omega)]; exact pm_bref hj
    have hbm := hI.beam hj
    have hsh := hI.sheet hj
    obtain ⟨lrw, rrw, hrw⟩ := hI.rows hj
    have elk : pm_lk ga b 2 = pm_wf ((ga 7).getD b.toInt.toNat 0) 2 := if_neg (fun h => h ha)
    refine v_aload_n rfl rfl ?_
    refine v_get rfl h0 rfl ?_
    refine v_iload_n rfl rfl ?_
    refine v_aaload rfl h45 (by rw [i_lt, i_0]; omega) hbr ?_
    refine v_iconst (v := 2) rfl (by decide) ?_
    refine v_callV rfl (c_wrongFor hbm 2) rfl rfl hbm rfl rfl (by omega) (fun rv w1 hq => ?_)
    obtain ⟨rfl, rfl⟩ := hq
    refine v_istore_n rfl (Nat.le_of_ble_eq_true rfl) ?_
    refine v_iload_n rfl rfl ?_
    refine v_if_eq rfl (fun t26 => ?_) (fun t26 => ?_)
    · refine v_aload_n rfl rfl ?_
      refine v_get rfl h0 rfl ?_
      refine v_aload_n rfl rfl ?_
      refine v_get rfl h0 rfl ?_
      refine v_iload_n rfl rfl ?_
      refine v_aaload rfl h45 (by rw [i_lt, i_0]; omega) hbr ?_
      refine v_get rfl hbm rfl ?_
      refine v_callV rfl (c_become h1 h2 hsh hrw pm_enc_len pm_enc_len (by omega) (by omega) (by omega) (by omega)) rfl rfl h1 rfl rfl (by omega) (fun rv w1 hq => ?_)
      obtain ⟨rfl, rfl⟩ := hq
      refine v_forget (P := fun u => pm_IX (pm_uI (pm_uI gi 0 ((ga 13).getD b.toInt.toNat 0)) 1 ((ga 14).getD b.toInt.toNat 0)) (pm_uA ga 15 (ga (16 + b.toInt.toNat))) u ∧ pm_hi w u) ⟨(by rw [pm_cpy_20 pm_enc_len pm_enc_len]; exact (hI.uII ((ga 13).getD b.toInt.toNat 0) ((ga 14).getD b.toInt.toNat 0)).usq lrw rrw), (hh.set (by decide) _).set (by decide) _⟩ (fun w1 hw1 => ?_)
      obtain ⟨hI, hh⟩ := hw1
      obtain ⟨v6, c6, h0⟩ := hI.2 0 (by decide)
      have h1 : _ = some _ := hI.2 1 (by decide)
      refine v_aload_n rfl rfl ?_
      refine v_get rfl h0 rfl ?_
      refine v_get rfl h1 rfl ?_
      refine v_aload_n rfl rfl ?_
      refine v_get rfl h0 rfl ?_
      refine v_get rfl h1 rfl ?_
      refine v_imul rfl ?_
      exact v_iret rfl (by show pm_PX _ _ _ _; unfold sp_hang; rw [if_neg (show ¬ (pm_lk ga b 2).toInt < 0 by rw [elk, show pm_wf ((ga 7).getD b.toInt.toNat 0) 2 = 0 from t26, i_0]; omega)]; exact ⟨rfl, hI, hh⟩)
    · refine v_aload_n rfl rfl ?_
      refine v_iload_n rfl rfl ?_
      refine v_callV rfl (c_X_refuse (pm_wf ((ga 7).getD b.toInt.toNat 0) 2) ((pm_wf_R t26).1) hR hI) rfl rfl h0 rfl rfl (by omega) (fun rv w1 hq => ?_)
      obtain ⟨rfl, g1, g2⟩ := hq
      exact v_iret rfl (by show pm_PX _ _ _ _; unfold sp_hang; rw [if_pos (show (pm_lk ga b 2).toInt < 0 by rw [elk]; exact (pm_wf_R t26).2), elk]; exact ⟨rfl, g1, hh.tr g2⟩)
  · rw [pm_b_0 (show ¬ (0 ≤ b.toInt ∧ b.toInt < (4 : Int32).toInt) from ha)]
    refine v_if_ne rfl (fun h => absurd h (by decide)) (fun _ => ?_)
    refine v_aload_n rfl rfl ?_
    refine v_iconst (v := (-1)) rfl (by decide) ?_
    refine v_callV rfl (c_X_refuse (-1) (by unfold pm_isR; decide) hR hI) rfl rfl h0 rfl rfl (by omega) (fun rv w1 hq => ?_)
    obtain ⟨rfl, g1, g2⟩ := hq
    exact v_iret rfl (by show pm_PX _ _ _ _; unfold sp_hang; rw [show pm_lk ga b 2 = -1 from if_pos ha, if_pos (by decide)]; exact ⟨rfl, g1, hh.tr g2⟩)
set_option maxRecDepth 100000 in
theorem l_M_hang {sc : pm_S} {w : pm_W} {gi : Nat → Int32} {ga : Nat → List Int32} {j : Nat} {v2 : Int32} {cs : List Int32} (lc : cs.length = 400) (hC : ∀ k, k < 400 → (ga 20)[400 * j + k]? = cs[k]?) (hj : j < 4) (d m : Nat) : ∀ (i : Nat) (u : pm_W) (ys : List Int32), i + m = 400 → (∀ k, k < i → ys[k]? = cs[k]?) → pm_IM gi (pm_uA ga 15 ys) u → pm_lo w u → pm_V sc d 178 39 [.ref 59, .int (nI j), .int v2, .int (nI i)] [] u (fun rv w' => rv = some (.int (gi 0 * gi 1)) ∧ pm_IM gi (pm_uA ga 15 cs) w' ∧ pm_lo w w') := by
  induction m with
  | zero =>
    intro i u ys hi hv hI hh
    obtain ⟨v4, v5, v6, v14, v35, v39, v40, v42, c4, c5, c6, c35, c42, h59⟩ := hI.2.1 59 (by decide) (by decide)
    obtain ⟨l60, r60, h60⟩ := hI.2.1 60 (by decide) (by decide)
    obtain ⟨l78, r78, h78⟩ := hI.2.1 78 (by decide) (by decide)
    rw [pm_uA_self] at l60 r60 h60
    rw [pm_uA_ne (by decide)] at l78 r78 h78
    refine v_iload_n rfl rfl ?_
    refine v_sipush (v := 400) rfl (by decide) ?_
    refine v_icmp_ge rfl (fun _ => ?_) (fun h => absurd (show (400 : Int32) ≤ nI i from nI_le (a := 400) (by omega) (by omega)) h)
    refine v_aload_n rfl rfl ?_
    refine v_get rfl h59 rfl ?_
    refine v_aload_n rfl rfl ?_
    refine v_get rfl h59 rfl ?_
    refine v_imul rfl ?_
    exact v_iret rfl ⟨rfl, (by
      rw [show cs = ys from List.ext_getElem? (fun k => by
        by_cases hk : k < 400
        · exact (hv k (by omega)).symm
        · rw [List.getElem?_eq_none (by omega), List.getElem?_eq_none (by omega)])]
      exact hI), hh⟩
  | succ m ih =>
    intro i u ys hi hv hI hh
    obtain ⟨v4, v5, v6, v14, v35, v39, v40, v42, c4, c5, c6, c35, c42, h59⟩ := hI.2.1 59 (by decide) (by decide)
    obtain ⟨l60, r60, h60⟩ := hI.2.1 60 (by decide) (by decide)
    obtain ⟨l78, r78, h78⟩ := hI.2.1 78 (by decide) (by decide)
    rw [pm_uA_self] at l60 r60 h60
    rw [pm_uA_ne (by decide)] at l78 r78 h78
    refine v_iload_n rfl rfl ?_
    refine v_sipush (v := 400) rfl (by decide) ?_
    refine v_icmp_ge rfl (fun h => absurd h (show ¬ (400 : Int32) ≤ nI i from nI_ge (b := 400) (by omega) (by omega))) (fun _ => ?_)
    refine v_aload_n rfl rfl ?_
    refine v_get rfl h59 rfl ?_
    refine v_iload_n rfl rfl ?_
    refine v_aload_n rfl rfl ?_
    refine v_get rfl h59 rfl ?_
    refine v_sipush (v := 400) rfl (by decide) ?_
    refine v_iload_n rfl rfl ?_
    refine v_imul rfl ?_
    refine v_iload_n rfl rfl ?_
    refine v_iadd rfl ?_
    rw [pm_400 hj, nI_add]
    refine v_iaload rfl h78 (nI_pos (by omega)) (pm_gD (d := 0) (by rw [nI_clamp (by omega), l78]; omega)) ?_
    refine v_iastore rfl h60 (nI_pos (by omega)) (by rw [nI_clamp (by omega), l60]; omega) ?_
    rw [nI_clamp (by omega), nI_clamp (by omega)]
    refine v_forget (P := fun u => pm_IM gi (pm_uA ga 15 (ys.set i ((ga 20).getD (400 * j + i) 0))) u ∧ pm_lo w u) ⟨(by
      have q := hI.usq (ds := ys.set i ((ga 20).getD (400 * j + i) 0)) (by rw [List.length_set]; exact l60) (pm_rng_set r60 (r78 _ (pm_mem_getD (by rw [l78]; omega))))
      rw [pm_uA_uA] at q
      exact q), hh.set (by decide) _⟩ (fun w1 hw1 => ?_)
    obtain ⟨hI, hh⟩ := hw1
    refine v_iinc (v := nI (i + 1)) rfl rfl (i_inc i) ?_
    refine v_goto rfl ?_
    exact ih (i + 1) _ (ys.set i ((ga 20).getD (400 * j + i) 0)) (by omega) (fun k hk => by
      by_cases e : i = k
      · subst e
        rw [List.getElem?_set_self (by omega), ← hC i (by omega)]
        exact (pm_gD (by rw [l78]; omega)).symm
      · rw [List.getElem?_set_ne e]
        exact hv k (by omega)) hI hh
set_option maxRecDepth 100000 in
theorem c_M_hang {sc : pm_S} {w : pm_W} {gi : Nat → Int32} {ga : Nat → List Int32} (b : Int32) (hR : pm_Rg gi ga) (hI : pm_IM gi ga w) (hC : pm_Cr ga) (hL : ∀ j, j < 4 → (ga (16 + j)).length = 400) : pm_Mt sc 3 178 4 [.ref 59, .int b] w (pm_PM w (sp_hang gi ga b)) := by
  intro d hd
  show pm_V sc d 178 0 _ [] w _
  have hh : pm_lo w w := pm_lo.rf
  obtain ⟨v4, v5, v6, v14, v35, v39, v40, v42, c4, c5, c6, c35, c42, h59⟩ := hI.2.1 59 (by decide) (by decide)
  obtain ⟨xs76, l76, b76, h76⟩ := hI.2.1 76 (by decide) (by decide)
  refine v_aload_n rfl rfl ?_
  refine v_iload_n rfl rfl ?_
  refine v_iconst (v := 2) rfl (by decide) ?_
  refine v_callV rfl (c_lacks b 2 hR hI) rfl rfl h59 rfl rfl (by omega) (fun rv w1 hq => ?_)
  obtain ⟨rfl, rfl⟩ := hq
  refine v_istore_n rfl (Nat.le_of_ble_eq_true rfl) ?_
  refine v_iload_n rfl rfl ?_
  refine v_if_ge rfl (fun t8 => ?_) (fun t8 => ?_)
  · have lk : ¬ (pm_lk ga b 2).toInt < 0 := by simp only [i_le, i_0] at t8; omega
    obtain ⟨ha, htwo⟩ := pm_lk_0 lk
    have x13 := b76 _ (by omega) htwo
    refine v_aload_n rfl rfl ?_
    refine v_aload_n rfl rfl ?_
    refine v_get rfl h59 rfl ?_
    refine v_iload_n rfl rfl ?_
    refine v_iaload rfl h76 (by rw [i_lt, i_0]; omega) (show xs76[b.toNatClampNeg]? = some ((ga 13).getD b.toInt.toNat 0) by rw [← x13]; exact pm_gD (d := 0) (by rw [i_cl, l76]; omega)) ?_
    refine v_put rfl h59 rfl (Nat.le_of_ble_eq_true rfl) ?_
    refine v_forget (P := fun u => pm_IM (pm_uI gi 0 ((ga 13).getD b.toInt.toNat 0)) (ga) u ∧ pm_lo w u) ⟨hI.uI 59 0 (by decide +kernel) (by decide +kernel) (by decide +kernel) (by decide +kernel) (by decide +kernel) ⟨_, _, _, _, _, _, _, _, c4, c5, c6, c35, c42, rfl⟩, hh.set (by decide) _⟩ (fun w1 hw1 => ?_)
    obtain ⟨hI, hh⟩ := hw1
    obtain ⟨v4, v5, v6, v14, v35, v39, v40, v42, c4, c5, c6, c35, c42, h59⟩ := hI.2.1 59 (by decide) (by decide)
    obtain ⟨xs77, l77, b77, h77⟩ := hI.2.1 77 (by decide) (by decide)
    have x14 := b77 _ (by omega) htwo
    refine v_aload_n rfl rfl ?_
    refine v_aload_n rfl rfl ?_
    refine v_get rfl h59 rfl ?_
    refine v_iload_n rfl rfl ?_
    refine v_iaload rfl h77 (by rw [i_lt, i_0]; omega) (show xs77[b.toNatClampNeg]? = some ((ga 14).getD b.toInt.toNat 0) by rw [← x14]; exact pm_gD (d := 0) (by rw [i_cl, l77]; omega)) ?_
    refine v_put rfl h59 rfl (Nat.le_of_ble_eq_true rfl) ?_
    refine v_forget (P := fun u => pm_IM (pm_uI (pm_uI gi 0 ((ga 13).getD b.toInt.toNat 0)) 1 ((ga 14).getD b.toInt.toNat 0)) (ga) u ∧ pm_lo w u) ⟨hI.uI 59 1 (by decide +kernel) (by decide +kernel) (by decide +kernel) (by decide +kernel) (by decide +kernel) ⟨_, _, _, _, _, _, _, _, c4, c5, c6, c35, c42, rfl⟩, hh.set (by decide) _⟩ (fun w1 hw1 => ?_)
    obtain ⟨hI, hh⟩ := hw1
    refine v_iconst (v := 0) rfl (by decide) ?_
    refine v_istore_n rfl (Nat.le_of_ble_eq_true rfl) ?_
    have eb : b = nI b.toInt.toNat := i_nI ha.1
    have lcs := hL b.toInt.toNat (by omega)
    have z := l_M_hang (sc := sc) (w := w) (j := b.toInt.toNat) (v2 := pm_lk ga b 2) lcs (hC _ (by omega) htwo) (by omega) d 400 0 _ (ga 15) (by omega) (fun k hk => absurd hk (by omega)) (by rw [pm_uA_id]; exact hI) hh
    rw [← eb] at z
    refine v_weak z (fun rv w2 hq => ?_)
    show pm_PM _ _ _ _
    unfold sp_hang
    rw [if_neg lk]
    exact hq
  · refine v_aload_n rfl rfl ?_
    refine v_iload_n rfl rfl ?_
    refine v_callV rfl (c_M_refuse (pm_lk ga b 2) (pm_lk_R (by simp only [i_le, i_0] at t8; omega)) hR hI) rfl rfl h59 rfl rfl (by omega) (fun rv w1 hq => ?_)
    obtain ⟨rfl, g1, g2⟩ := hq
    exact v_iret rfl (by show pm_PM _ _ _ _; unfold sp_hang; rw [if_pos (show (pm_lk ga b 2).toInt < 0 by simp only [i_le, i_0] at t8; omega)]; exact ⟨rfl, g1, hh.tr g2⟩)

