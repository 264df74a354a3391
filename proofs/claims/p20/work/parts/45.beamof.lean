def pm_WX (w : pm_W) (gi : Nat → Int32) (ga : Nat → List Int32) (rv : Option Value) (w' : pm_W) : Prop := (∃ v, rv = some (.int v)) ∧ pm_IX gi ga w' ∧ pm_hi w w'
set_option maxRecDepth 100000 in
theorem c_X_beamOf {sc : pm_S} {w : pm_W} {gi : Nat → Int32} {ga : Nat → List Int32} (b k : Int32) (hR : pm_Rg gi ga) (hI : pm_IX gi ga w) : pm_Mt sc 3 105 3 [.ref 0, .int b, .int k] w (pm_WX w gi ga) := by
  intro d hd
  show pm_V sc d 105 0 _ [] w _
  have hh : pm_hi w w := pm_hi.rf
  obtain ⟨v6, c6, h0⟩ := hI.2 0 (by decide)
  have h1 : _ = some _ := hI.2 1 (by decide)
  obtain ⟨l2, r2, h2⟩ := hI.2 2 (by decide)
  have h45 : _ = some _ := hI.2 45 (by decide)
  refine v_iload_n rfl rfl ?_
  refine v_iconst (v := 4) rfl (by decide) ?_
  refine v_callS rfl (c_isPlace b 4 w) rfl rfl rfl rfl rfl (by omega) (fun rv w1 hq => ?_)
  obtain ⟨rfl, rfl⟩ := hq
  by_cases ha : 0 ≤ b.toInt ∧ b.toInt < 4
  · rw [pm_b_1 (show 0 ≤ b.toInt ∧ b.toInt < (4 : Int32).toInt from ha)]
    refine v_if_ne rfl (fun _ => ?_) (fun h => absurd h (by decide))
    have hj : b.toInt.toNat < 4 := by omega
    have hbr : ([some 46, some 49, some 52, some 55] : List (Option Nat))[b.toNatClampNeg]? = some (some (46 + 3 * b.toInt.toNat)) := by rw [i_nI ha.1, nI_toInt (by omega)]; exact pm_bref hj
    have hbm := hI.beam hj
    have hsh := hI.sheet hj
    obtain ⟨lrw, rrw, hrw⟩ := hI.rows hj
    obtain ⟨A, -, hA, eA⟩ := i_ofn (a := 0) (b := 20) (x := (ga 13).getD b.toInt.toNat 0) (by have z := hR.r13 _ (pm_mem_getD (k := b.toInt.toNat) (by rw [hR.l13]; omega)); exact ⟨by have := z.1; omega, z.2⟩)
    obtain ⟨H, -, hH, eH⟩ := i_ofn (a := 0) (b := 20) (x := (ga 14).getD b.toInt.toNat 0) (by have z := hR.r14 _ (pm_mem_getD (k := b.toInt.toNat) (by rw [hR.l14]; omega)); exact ⟨by have := z.1; omega, z.2⟩)
    rw [eA, eH] at hsh
    refine v_iload_n rfl rfl ?_
    by_cases s0 : k = 0
    · subst s0
      refine v_tabIn (t := 40) rfl (by decide) (by decide) rfl rfl ?_
      refine v_aload_n rfl rfl ?_
      refine v_get rfl h0 rfl ?_
      refine v_iload_n rfl rfl ?_
      refine v_aaload rfl h45 (by rw [i_lt, i_0]; omega) hbr ?_
      refine v_get rfl hbm rfl ?_
      exact v_iret rfl ⟨⟨_, rfl⟩, hI, hh⟩
    by_cases s1 : k = 1
    · subst s1
      refine v_tabIn (t := 50) rfl (by decide) (by decide) rfl rfl ?_
      refine v_aload_n rfl rfl ?_
      refine v_get rfl h0 rfl ?_
      refine v_iload_n rfl rfl ?_
      refine v_aaload rfl h45 (by rw [i_lt, i_0]; omega) hbr ?_
      refine v_get rfl hbm rfl ?_
      exact v_iret rfl ⟨⟨_, rfl⟩, hI, hh⟩
    by_cases s2 : k = 2
    · subst s2
      refine v_tabIn (t := 60) rfl (by decide) (by decide) rfl rfl ?_
      refine v_aload_n rfl rfl ?_
      refine v_get rfl h0 rfl ?_
      refine v_iload_n rfl rfl ?_
      refine v_aaload rfl h45 (by rw [i_lt, i_0]; omega) hbr ?_
      refine v_aload_n rfl rfl ?_
      refine v_get rfl h0 rfl ?_
      refine v_callV rfl (c_cardsUnlike hbm hsh hrw pm_enc_len h1 h2 pm_enc_len (by omega) (by omega)) rfl rfl hbm rfl rfl (by omega) (fun rv w1 hq => ?_)
      obtain ⟨rfl, rfl⟩ := hq
      exact v_iret rfl ⟨⟨_, rfl⟩, hI, hh⟩
    refine v_tabOut (t := 74) rfl (by simp only [i_eq, i_0, i_1, i_2, i_3] at *; omega) rfl ?_
    refine v_aload_n rfl rfl ?_
    refine v_bipush (v := (-2)) rfl (by decide) ?_
    refine v_callV rfl (c_X_refuse (-2) (by unfold pm_isR; decide) hR hI) rfl rfl h0 rfl rfl (by omega) (fun rv w1 hq => ?_)
    obtain ⟨rfl, g1, g2⟩ := hq
    exact v_iret rfl ⟨⟨_, rfl⟩, g1, hh.tr g2⟩
  · rw [pm_b_0 (show ¬ (0 ≤ b.toInt ∧ b.toInt < (4 : Int32).toInt) from ha)]
    refine v_if_ne rfl (fun h => absurd h (by decide)) (fun _ => ?_)
    refine v_aload_n rfl rfl ?_
    refine v_iconst (v := (-1)) rfl (by decide) ?_
    refine v_callV rfl (c_X_refuse (-1) (by unfold pm_isR; decide) hR hI) rfl rfl h0 rfl rfl (by omega) (fun rv w1 hq => ?_)
    obtain ⟨rfl, g1, g2⟩ := hq
    exact v_iret rfl ⟨⟨_, rfl⟩, g1, hh.tr g2⟩

