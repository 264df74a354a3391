theorem j_ar {X k W r : Nat} (hX : X < W) (hk : k < W) (h : (X + k < W ∧ r = X + k) ∨ (W ≤ X + k ∧ r = X + k - W)) : r = (X + k) % W := by
  rcases h with ⟨h1, h2⟩ | ⟨h1, h2⟩
  · rw [Nat.mod_eq_of_lt h1, h2]
  · rw [Nat.mod_eq_sub_mod h1, Nat.mod_eq_of_lt (by omega), h2]
theorem j_em {z a b : Int} (h : z = a % b) (ha : 0 ≤ a) (hb : 0 < b) : z.toNat = a.toNat % b.toNat := by
  rw [h, Int.toNat_emod ha (by omega)]
theorem pm_IX.fl0 {gi : Nat → Int32} {ga : Nat → List Int32} {w : pm_W} {W X Y : Nat} {c : Int32} (h : pm_IX gi ga w) : pm_IX gi (pm_uA ga 15 (sq_fl (ga 15) W X Y c 0)) w := by
  show pm_IX gi (pm_uA ga 15 (ga 15)) w
  rw [pm_uA_id]
  exact h
theorem pm_IM.fl0 {gi : Nat → Int32} {ga : Nat → List Int32} {w : pm_W} {W X Y : Nat} {c : Int32} (h : pm_IM gi ga w) : pm_IM gi (pm_uA ga 15 (sq_fl (ga 15) W X Y c 0)) w := by
  show pm_IM gi (pm_uA ga 15 (ga 15)) w
  rw [pm_uA_id]
  exact h
set_option maxRecDepth 100000 in
theorem W_X11_around_x {sc : pm_S} {w : pm_W} {gi : Nat → Int32} {ga : Nat → List Int32} (i : Int32) (n : Int32) (p0 : n.toInt ≤ 20) (p1 : 0 ≤ n.toInt) (p2 : i.toInt ≤ 40) (p3 : 0 ≤ i.toInt) (p4 : i.toInt < 2 * n.toInt) (hR : pm_Rg gi ga) (hI : pm_IX gi ga w) : pm_Mt sc 0 115 2 [.int i, .int n] w (fun rv w' => pm_wI (fun v => 0 ≤ v.toInt ∧ v.toInt < n.toInt ∧ (i.toInt < n.toInt → v.toInt = i.toInt) ∧ (n.toInt ≤ i.toInt → v.toInt = i.toInt - n.toInt)) rv ∧ w = w') := by
  intro d hd
  obtain ⟨g0a, g0b⟩ := hR.n0
  obtain ⟨g1a, g1b⟩ := hR.n1
  obtain ⟨g2a, g2b⟩ := hR.n2
  obtain ⟨g3a, g3b⟩ := hR.n3
  obtain ⟨g4a, g4b⟩ := hR.n4
  obtain ⟨g5a, g5b⟩ := hR.n5
  obtain ⟨g6a, g6b⟩ := hR.n6
  obtain ⟨g7a, g7b⟩ := hR.n7
  obtain ⟨g8a, g8b⟩ := hR.n8
  show pm_V sc d 115 0 [.int i, .int n] [] w _
  refine v_iload_n rfl rfl ?_
  refine r_if_ge rfl (fun t1 => ?_) (fun t1 => ?_)
  · refine v_iload_n rfl rfl ?_
    refine v_iload_n rfl rfl ?_
    refine r_icmp_ge rfl (fun t2 => ?_) (fun t2 => ?_)
    · refine v_iload_n rfl rfl ?_
      refine v_iload_n rfl rfl ?_
      refine r_isub rfl (by omega) (by omega) (fun z3 z3e => ?_)
      exact v_iret rfl ⟨⟨_, rfl, (by omega), (by omega), (by omega), (by omega)⟩, rfl⟩
    · refine v_iload_n rfl rfl ?_
      refine v_goto rfl ?_
      exact v_iret rfl ⟨⟨_, rfl, (by omega), (by omega), (by omega), (by omega)⟩, rfl⟩
  · refine v_iload_n rfl rfl ?_
    refine v_iload_n rfl rfl ?_
    refine r_iadd rfl (by omega) (by omega) (fun z4 z4e => ?_)
    exact v_iret rfl ⟨⟨_, rfl, (by omega), (by omega), (by omega), (by omega)⟩, rfl⟩
set_option maxRecDepth 100000 in
theorem c_X_fill {sc : pm_S} {w : pm_W} {gi : Nat → Int32} {ga : Nat → List Int32} (x : Int32) (y : Int32) (n : Int32) (c : Int32)  (hR : pm_Rg gi ga) (hI : pm_IX gi ga w) : pm_Mt sc 2 73 6 [.ref 0, .int x, .int y, .int n, .int c] w (pm_PX w (sp_fill gi ga x y n c)) := by
  intro d hd
  obtain ⟨g0a, g0b⟩ := hR.n0
  obtain ⟨g1a, g1b⟩ := hR.n1
  obtain ⟨g2a, g2b⟩ := hR.n2
  obtain ⟨g3a, g3b⟩ := hR.n3
  obtain ⟨g4a, g4b⟩ := hR.n4
  obtain ⟨g5a, g5b⟩ := hR.n5
  obtain ⟨g6a, g6b⟩ := hR.n6
  obtain ⟨g7a, g7b⟩ := hR.n7
  obtain ⟨g8a, g8b⟩ := hR.n8
  have km6 : (-6 : Int32).toInt = -6 := by decide
  have km4 : (-4 : Int32).toInt = -4 := by decide
  have km1 : (-1 : Int32).toInt = -1 := by decide
  have k0 : (0 : Int32).toInt = 0 := by decide
  show pm_V sc d 73 0 [.ref 0, .int x, .int y, .int n, .int c, .null] [] w _
  have hh : pm_hi w w := pm_hi.rf
  refine v_aload_n rfl rfl ?_
  obtain ⟨v2, ⟨v2z, v2e⟩, h1⟩ := hI.2 0 (by decide)
  have v2z := v2z.imp i_eq.mp i_eq.mp
  rw [i_0, i_1] at v2z
  refine v_get rfl h1 rfl ?_
  refine v_iload_n rfl rfl ?_
  refine v_iload_n rfl rfl ?_
  have h3 : _ = some _ := hI.2 1 (by decide)
  refine v_callV rfl (W_X10_has_1 x y hR hI) rfl rfl h3 rfl rfl (by omega) (fun rv w4 hq5 => ?_)
  obtain ⟨⟨z6, rfl, z6p0⟩, rfl⟩ := hq5
  refine r_if_eq rfl (fun t7 => ?_) (fun t7 => ?_)
  · refine v_aload_n rfl rfl ?_
    refine v_iconst (v := (-1)) rfl (by decide) ?_
    refine v_callV rfl (c_X_refuse (-1 : Int32) (by unfold pm_isR; first | decide | exact Or.inl rfl) hR hI) rfl rfl h1 rfl rfl (by omega) (fun rv w8 hq9 => ?_)
    obtain ⟨rfl, hI10, hh11x⟩ := hq9
    have hI10 : pm_IX gi ga w8 := hI10
    have hh11 := hh.tr hh11x
    refine v_iret rfl ?_
    show pm_PX _ _ _ _
    unfold sp_fill
    repeat' split
    all_goals first | exact ⟨rfl, hI10, hh11⟩ | (exfalso; omega)
  · refine v_iload rfl rfl ?_
    refine v_callS rfl (W_X11_isColour c hR hI) rfl rfl rfl rfl rfl (by omega) (fun rv w12 hq13 => ?_)
    obtain ⟨⟨z14, rfl, z14p0⟩, rfl⟩ := hq13
    refine r_if_ne rfl (fun t15 => ?_) (fun t15 => ?_)
    · refine v_iload_n rfl rfl ?_
      refine r_if_ge rfl (fun t16 => ?_) (fun t16 => ?_)
      · refine v_iload_n rfl rfl ?_
        refine v_aload_n rfl rfl ?_
        refine v_get rfl h1 rfl ?_
        refine v_get rfl h3 rfl ?_
        refine r_icmp_le rfl (fun t17 => ?_) (fun t17 => ?_)
        · refine v_iconst (v := 0) rfl (by decide) ?_
          refine v_istore rfl (Nat.le_of_ble_eq_true rfl) ?_
          have hI18 : pm_IX gi (pm_uA ga 15 (sq_fl (ga 15) (gi 0).toInt.toNat x.toInt.toNat y.toInt.toNat c (0 : Int32).toInt.toNat)) w := hI.fl0
          have L23 : ∀ (n23 : Nat) (l19 : Int32) (w20 : pm_W), pm_IX gi (pm_uA ga 15 (sq_fl (ga 15) (gi 0).toInt.toNat x.toInt.toNat y.toInt.toNat c l19.toInt.toNat)) w20 → pm_hi w w20 → 0 ≤ l19.toInt → l19.toInt ≤ 20 → (l19.toInt ≤ n.toInt) → (n.toInt - l19.toInt).toNat < n23 → pm_V sc d 73 58 [.ref 0, .int x, .int y, .int n, .int c, .int l19] [] w20 (pm_PX w (sp_fill gi ga x y n c)) := by
            intro n23
            induction n23 with
            | zero => intro l19 w20 hI21 hh22 t25 t26 t27 hm24; exact absurd hm24 (Nat.not_lt_zero _)
            | succ n23 ih58_23 =>
              intro l19 w20 hI21 hh22 t25 t26 t27 hm24
              refine v_iload rfl rfl ?_
              refine v_iload_n rfl rfl ?_
              refine r_icmp_ge rfl (fun t28 => ?_) (fun t28 => ?_)
              · have hI29 : pm_IX gi (pm_uA ga 15 (sq_fl (ga 15) (gi 0).toInt.toNat x.toInt.toNat y.toInt.toNat c n.toInt.toNat)) w20 := by rw [show n.toInt.toNat = l19.toInt.toNat by omega]; exact hI21
                refine v_iload_n rfl rfl ?_
                refine v_iret rfl ?_
                show pm_PX _ _ _ _
                unfold sp_fill
                repeat' split
                all_goals first | exact ⟨rfl, hI29, hh22⟩ | (exfalso; omega)
              · refine v_aload_n rfl rfl ?_
                obtain ⟨v31, ⟨v31z, v31e⟩, h30⟩ := hI21.2 0 (by decide)
                have v31z := v31z.imp i_eq.mp i_eq.mp
                rw [i_0, i_1] at v31z
                refine v_get rfl h30 rfl ?_
                refine v_iload_n rfl rfl ?_
                refine v_iload rfl rfl ?_
                refine r_iadd rfl (by omega) (by omega) (fun z32 z32e => ?_)
                refine v_aload_n rfl rfl ?_
                refine v_get rfl h30 rfl ?_
                have h33 : _ = some _ := hI21.2 1 (by decide)
                refine v_get rfl h33 rfl ?_
                refine v_callS rfl (W_X11_around_x z32 (gi 0) (by omega) (by omega) (by omega) (by omega) (by omega) (show pm_Rg gi (pm_uA ga 15 (sq_fl (ga 15) (gi 0).toInt.toNat x.toInt.toNat y.toInt.toNat c l19.toInt.toNat)) from hR) hI21) rfl rfl rfl rfl rfl (by omega) (fun rv w34 hq35 => ?_)
                obtain ⟨⟨z36, rfl, z36p0, z36p1, z36p2, z36p3⟩, rfl⟩ := hq35
                refine v_iload_n rfl rfl ?_
                refine v_iload rfl rfl ?_
                refine v_callV rfl (c_paint z36 y c (by omega) (by omega) (by omega) (by omega) (by omega) (by omega) hI21) rfl rfl h33 rfl rfl (by omega) (fun rv w37 hq38 => ?_)
                obtain ⟨rfl, hI39, hh40x⟩ := hq38
                have hh40 := hh22.tr hh40x
                rw [pm_uA_uA, pm_uA_self, show z36.toInt.toNat = (x.toInt.toNat + l19.toInt.toNat) % (gi 0).toInt.toNat from j_ar (by omega) (by omega) (by omega)] at hI39
                refine v_pop rfl rfl ?_
                refine r_iinc rfl rfl (by decide) (by omega) (by omega) (fun z41 z41e => ?_)
                have hI42 : pm_IX gi (pm_uA ga 15 (sq_fl (ga 15) (gi 0).toInt.toNat x.toInt.toNat y.toInt.toNat c z41.toInt.toNat)) w37 := by rw [show z41.toInt.toNat = l19.toInt.toNat + 1 by omega]; exact hI39
                refine v_goto rfl ?_
                exact ih58_23 z41 w37 hI42 hh40 (by omega) (by omega) (by omega) (by omega)
          exact L23 _ (0 : Int32) w hI18 hh (by omega) (by omega) (by omega) (Nat.lt_add_one _)
        · refine v_aload_n rfl rfl ?_
          refine v_bipush (v := (-6)) rfl (by decide) ?_
          refine v_callV rfl (c_X_refuse (-6 : Int32) (by unfold pm_isR; first | decide | exact Or.inl rfl) hR hI) rfl rfl h1 rfl rfl (by omega) (fun rv w43 hq44 => ?_)
          obtain ⟨rfl, hI45, hh46x⟩ := hq44
          have hI45 : pm_IX gi ga w43 := hI45
          have hh46 := hh.tr hh46x
          refine v_iret rfl ?_
          show pm_PX _ _ _ _
          unfold sp_fill
          repeat' split
          all_goals first | exact ⟨rfl, hI45, hh46⟩ | (exfalso; omega)
      · refine v_aload_n rfl rfl ?_
        refine v_bipush (v := (-4)) rfl (by decide) ?_
        refine v_callV rfl (c_X_refuse (-4 : Int32) (by unfold pm_isR; first | decide | exact Or.inl rfl) hR hI) rfl rfl h1 rfl rfl (by omega) (fun rv w47 hq48 => ?_)
        obtain ⟨rfl, hI49, hh50x⟩ := hq48
        have hI49 : pm_IX gi ga w47 := hI49
        have hh50 := hh.tr hh50x
        refine v_iret rfl ?_
        show pm_PX _ _ _ _
        unfold sp_fill
        repeat' split
        all_goals first | exact ⟨rfl, hI49, hh50⟩ | (exfalso; omega)
    · refine v_aload_n rfl rfl ?_
      refine v_iconst (v := (-1)) rfl (by decide) ?_
      refine v_callV rfl (c_X_refuse (-1 : Int32) (by unfold pm_isR; first | decide | exact Or.inl rfl) hR hI) rfl rfl h1 rfl rfl (by omega) (fun rv w51 hq52 => ?_)
      obtain ⟨rfl, hI53, hh54x⟩ := hq52
      have hI53 : pm_IX gi ga w51 := hI53
      have hh54 := hh.tr hh54x
      refine v_iret rfl ?_
      show pm_PX _ _ _ _
      unfold sp_fill
      repeat' split
      all_goals first | exact ⟨rfl, hI53, hh54⟩ | (exfalso; omega)
set_option maxRecDepth 100000 in
theorem c_M_fill {sc : pm_S} {w : pm_W} {gi : Nat → Int32} {ga : Nat → List Int32} (x : Int32) (y : Int32) (n : Int32) (c : Int32)  (hR : pm_Rg gi ga) (hI : pm_IM gi ga w) : pm_Mt sc 2 123 6 [.ref 59, .int x, .int y, .int n, .int c] w (pm_PM w (sp_fill gi ga x y n c)) := by
  intro d hd
  obtain ⟨g0a, g0b⟩ := hR.n0
  obtain ⟨g1a, g1b⟩ := hR.n1
  obtain ⟨g2a, g2b⟩ := hR.n2
  obtain ⟨g3a, g3b⟩ := hR.n3
  obtain ⟨g4a, g4b⟩ := hR.n4
  obtain ⟨g5a, g5b⟩ := hR.n5
  obtain ⟨g6a, g6b⟩ := hR.n6
  obtain ⟨g7a, g7b⟩ := hR.n7
  obtain ⟨g8a, g8b⟩ := hR.n8
  have km6 : (-6 : Int32).toInt = -6 := by decide
  have km4 : (-4 : Int32).toInt = -4 := by decide
  have km1 : (-1 : Int32).toInt = -1 := by decide
  have k0 : (0 : Int32).toInt = 0 := by decide
  have k3 : (3 : Int32).toInt = 3 := by decide
  have k20 : (20 : Int32).toInt = 20 := by decide
  show pm_V sc d 123 0 [.ref 59, .int x, .int y, .int n, .int c, .null] [] w _
  have hh : pm_lo w w := pm_lo.rf
  refine v_aload_n rfl rfl ?_
  refine v_iload_n rfl rfl ?_
  refine v_iload_n rfl rfl ?_
  obtain ⟨v2, v3, v4, v5, v6, v7, v8, v9, ⟨v2z, v2e⟩, ⟨⟨v3a, v3b⟩, v3e⟩, ⟨⟨v4a, v4b⟩, v4e⟩, ⟨v6a, v6b⟩, ⟨v9a, v9b⟩, h1⟩ := hI.2.1 59 (by decide) (by decide)
  have v2z := v2z.imp i_eq.mp i_eq.mp
  rw [i_0, i_1] at v2z
  refine v_callV rfl (W_X12_isSquare_59 x y hR hI) rfl rfl h1 rfl rfl (by omega) (fun rv w10 hq11 => ?_)
  obtain ⟨⟨z12, rfl, z12p0⟩, rfl⟩ := hq11
  refine r_if_eq rfl (fun t13 => ?_) (fun t13 => ?_)
  · refine v_aload_n rfl rfl ?_
    refine v_iconst (v := (-1)) rfl (by decide) ?_
    refine v_callV rfl (c_M_refuse (-1 : Int32) (by unfold pm_isR; first | decide | exact Or.inl rfl) hR hI) rfl rfl h1 rfl rfl (by omega) (fun rv w14 hq15 => ?_)
    obtain ⟨rfl, hI16, hh17x⟩ := hq15
    have hI16 : pm_IM gi ga w14 := hI16
    have hh17 := hh.tr hh17x
    refine v_iret rfl ?_
    show pm_PM _ _ _ _
    unfold sp_fill
    repeat' split
    all_goals first | exact ⟨rfl, hI16, hh17⟩ | (exfalso; omega)
  · refine v_iload rfl rfl ?_
    refine v_iconst (v := 0) rfl (by decide) ?_
    refine v_iconst (v := 3) rfl (by decide) ?_
    refine v_callS rfl (W_X12_in c (0 : Int32) (3 : Int32) hR hI) rfl rfl rfl rfl rfl (by omega) (fun rv w18 hq19 => ?_)
    obtain ⟨⟨z20, rfl, z20p0⟩, rfl⟩ := hq19
    refine r_if_ne rfl (fun t21 => ?_) (fun t21 => ?_)
    · refine v_iload_n rfl rfl ?_
      refine r_if_ge rfl (fun t22 => ?_) (fun t22 => ?_)
      · refine v_iload_n rfl rfl ?_
        refine v_aload_n rfl rfl ?_
        refine v_get rfl h1 rfl ?_
        refine r_icmp_le rfl (fun t23 => ?_) (fun t23 => ?_)
        · refine v_iconst (v := 0) rfl (by decide) ?_
          refine v_istore rfl (Nat.le_of_ble_eq_true rfl) ?_
          have hI24 : pm_IM gi (pm_uA ga 15 (sq_fl (ga 15) (gi 0).toInt.toNat x.toInt.toNat y.toInt.toNat c (0 : Int32).toInt.toNat)) w := hI.fl0
          have L29 : ∀ (n29 : Nat) (l25 : Int32) (w26 : pm_W), pm_IM gi (pm_uA ga 15 (sq_fl (ga 15) (gi 0).toInt.toNat x.toInt.toNat y.toInt.toNat c l25.toInt.toNat)) w26 → pm_lo w w26 → 0 ≤ l25.toInt → l25.toInt ≤ 20 → (l25.toInt ≤ n.toInt) → (n.toInt - l25.toInt).toNat < n29 → pm_V sc d 123 54 [.ref 59, .int x, .int y, .int n, .int c, .int l25] [] w26 (pm_PM w (sp_fill gi ga x y n c)) := by
            intro n29
            induction n29 with
            | zero => intro l25 w26 hI27 hh28 t31 t32 t33 hm30; exact absurd hm30 (Nat.not_lt_zero _)
            | succ n29 ih54_29 =>
              intro l25 w26 hI27 hh28 t31 t32 t33 hm30
              refine v_iload rfl rfl ?_
              refine v_iload_n rfl rfl ?_
              refine r_icmp_ge rfl (fun t34 => ?_) (fun t34 => ?_)
              · have hI35 : pm_IM gi (pm_uA ga 15 (sq_fl (ga 15) (gi 0).toInt.toNat x.toInt.toNat y.toInt.toNat c n.toInt.toNat)) w26 := by rw [show n.toInt.toNat = l25.toInt.toNat by omega]; exact hI27
                refine v_iload_n rfl rfl ?_
                refine v_iret rfl ?_
                show pm_PM _ _ _ _
                unfold sp_fill
                repeat' split
                all_goals first | exact ⟨rfl, hI35, hh28⟩ | (exfalso; omega)
              · refine v_aload_n rfl rfl ?_
                obtain ⟨v37, v38, v39, v40, v41, v42, v43, v44, ⟨v37z, v37e⟩, ⟨⟨v38a, v38b⟩, v38e⟩, ⟨⟨v39a, v39b⟩, v39e⟩, ⟨v41a, v41b⟩, ⟨v44a, v44b⟩, h36⟩ := hI27.2.1 59 (by decide) (by decide)
                have v37z := v37z.imp i_eq.mp i_eq.mp
                rw [i_0, i_1] at v37z
                refine v_get rfl h36 rfl ?_
                refine v_bipush (v := 20) rfl (by decide) ?_
                refine v_iload_n rfl rfl ?_
                refine r_imulL 20 rfl rfl (by omega) (by omega) (fun z45 z45e => ?_)
                refine v_iload_n rfl rfl ?_
                refine v_iload rfl rfl ?_
                refine r_iadd rfl (by omega) (by omega) (fun z46 z46e => ?_)
                skip
                refine v_aload_n rfl rfl ?_
                refine v_get rfl h36 rfl ?_
                refine r_irem rfl (by omega) (by omega) (fun z47 z47m z47a z47b z47c => ?_)
                skip
                refine r_iadd rfl (by omega) (by omega) (fun z48 z48e => ?_)
                refine v_iload rfl rfl ?_
                obtain ⟨q49l, q49r, q49h⟩ := hI27.2.1 60 (by decide) (by decide)
                rw [pm_uA_self] at q49l q49r q49h
                refine v_iastore rfl q49h (r_nn (by omega)) (r_ix q49l (by omega) (by omega)) ?_
                rw [show z48.toNatClampNeg = 20 * y.toInt.toNat + (x.toInt.toNat + l25.toInt.toNat) % (gi 0).toInt.toNat by rw [i_cl]; have := j_em z47m (by omega) (by omega); rw [show (z46.toInt).toNat = x.toInt.toNat + l25.toInt.toNat by omega] at this; omega]
                have cl50 := sq_cl.set (ds := _) (k := 20 * y.toInt.toNat + (x.toInt.toNat + l25.toInt.toNat) % (gi 0).toInt.toNat) (c := c) ⟨q49l, q49r⟩ (by omega) (by omega)
                refine r_gen (fun w51 e52 => ?_)
                have hI53 := hI27.usq cl50.1 cl50.2
                rw [pm_uA_uA, ← e52] at hI53
                have hh54 : pm_lo w w51 := by rw [e52]; exact hh28.set (by decide) _
                refine r_iinc rfl rfl (by decide) (by omega) (by omega) (fun z55 z55e => ?_)
                have hI56 : pm_IM gi (pm_uA ga 15 (sq_fl (ga 15) (gi 0).toInt.toNat x.toInt.toNat y.toInt.toNat c z55.toInt.toNat)) w51 := by rw [show z55.toInt.toNat = l25.toInt.toNat + 1 by omega]; exact hI53
                refine v_goto rfl ?_
                exact ih54_29 z55 w51 hI56 hh54 (by omega) (by omega) (by omega) (by omega)
          exact L29 _ (0 : Int32) w hI24 hh (by omega) (by omega) (by omega) (Nat.lt_add_one _)
        · refine v_aload_n rfl rfl ?_
          refine v_bipush (v := (-6)) rfl (by decide) ?_
          refine v_callV rfl (c_M_refuse (-6 : Int32) (by unfold pm_isR; first | decide | exact Or.inl rfl) hR hI) rfl rfl h1 rfl rfl (by omega) (fun rv w57 hq58 => ?_)
          obtain ⟨rfl, hI59, hh60x⟩ := hq58
          have hI59 : pm_IM gi ga w57 := hI59
          have hh60 := hh.tr hh60x
          refine v_iret rfl ?_
          show pm_PM _ _ _ _
          unfold sp_fill
          repeat' split
          all_goals first | exact ⟨rfl, hI59, hh60⟩ | (exfalso; omega)
      · refine v_aload_n rfl rfl ?_
        refine v_bipush (v := (-4)) rfl (by decide) ?_
        refine v_callV rfl (c_M_refuse (-4 : Int32) (by unfold pm_isR; first | decide | exact Or.inl rfl) hR hI) rfl rfl h1 rfl rfl (by omega) (fun rv w61 hq62 => ?_)
        obtain ⟨rfl, hI63, hh64x⟩ := hq62
        have hI63 : pm_IM gi ga w61 := hI63
        have hh64 := hh.tr hh64x
        refine v_iret rfl ?_
        show pm_PM _ _ _ _
        unfold sp_fill
        repeat' split
        all_goals first | exact ⟨rfl, hI63, hh64⟩ | (exfalso; omega)
    · refine v_aload_n rfl rfl ?_
      refine v_iconst (v := (-1)) rfl (by decide) ?_
      refine v_callV rfl (c_M_refuse (-1 : Int32) (by unfold pm_isR; first | decide | exact Or.inl rfl) hR hI) rfl rfl h1 rfl rfl (by omega) (fun rv w65 hq66 => ?_)
      obtain ⟨rfl, hI67, hh68x⟩ := hq66
      have hI67 : pm_IM gi ga w65 := hI67
      have hh68 := hh.tr hh68x
      refine v_iret rfl ?_
      show pm_PM _ _ _ _
      unfold sp_fill
      repeat' split
      all_goals first | exact ⟨rfl, hI67, hh68⟩ | (exfalso; omega)

