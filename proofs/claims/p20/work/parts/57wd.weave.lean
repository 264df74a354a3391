set_option maxRecDepth 100000 in
theorem L_X12_weave {sc : pm_S} {w w0 : pm_W} {gi : Nat → Int32} {ga : Nat → List Int32} {d : Nat}   (hR : pm_Rg gi ga) (hI : pm_IM gi ga w) (hh : pm_lo w0 w) (sh : List Int32) (hc84 : w[84]? = some (.inl (0, .inl sh))) (hl84 : sh.length = 400) (hd : 1 ≤ d) : pm_V sc d 153 146 [.ref 59, .int (0 : Int32), .null, .null] [] w (fun rv w' => ∃ v A, rv = some (.int v) ∧ (∀ x y, x < (gi 0).toInt.toNat → y < (gi 1).toInt.toNat → List.getD A (20 * y + x) 0 = sh.getD (20 * y + x) 0) ∧ v = nI (cd sh (ga 15) (gi 0).toInt.toNat 0 (gi 1).toInt.toNat) ∧ pm_IM gi (pm_uA ga 27 A) w' ∧ pm_lo w0 w') := by
  obtain ⟨g0a, g0b⟩ := hR.n0
  obtain ⟨g1a, g1b⟩ := hR.n1
  obtain ⟨g2a, g2b⟩ := hR.n2
  obtain ⟨g3a, g3b⟩ := hR.n3
  obtain ⟨g4a, g4b⟩ := hR.n4
  obtain ⟨g5a, g5b⟩ := hR.n5
  obtain ⟨g6a, g6b⟩ := hR.n6
  obtain ⟨g7a, g7b⟩ := hR.n7
  obtain ⟨g8a, g8b⟩ := hR.n8
  have k0 : (0 : Int32).toInt = 0 := by decide
  have k1 : (1 : Int32).toInt = 1 := by decide
  have k20 : (20 : Int32).toInt = 20 := by decide
  refine v_iconst (v := 0) rfl (by decide) ?_
  refine v_istore_n rfl (Nat.le_of_ble_eq_true rfl) ?_
  have hI1 : pm_IM gi (pm_uA ga 27 (ga 27)) w := by rw [pm_uA_id]; exact hI
  have L10 : ∀ (n10 : Nat) (l2 : Int32) (l3 : Int32) (u4 : Value) (w5 : pm_W) (cl8 : List Int32), pm_IM gi (pm_uA ga 27 cl8) w5 → pm_lo w0 w5 → w5[84]? = some (.inl (0, .inl sh)) → 0 ≤ l2.toInt → l2.toInt ≤ 400 → 0 ≤ l3.toInt → l3.toInt ≤ 20 → (l3.toInt ≤ (gi 1).toInt) → (l2.toInt ≤ 20 * l3.toInt) → (l2.toInt = (cd sh (ga 15) (gi 0).toInt.toNat 0 l3.toInt.toNat : Int)) → (∀ x y, x < (gi 0).toInt.toNat → y < l3.toInt.toNat → List.getD cl8 (20 * y + x) 0 = sh.getD (20 * y + x) 0) → (20 - l3.toInt).toNat < n10 → pm_V sc d 153 148 [.ref 59, .int l2, .int l3, u4] [] w5 (fun rv w' => ∃ v A, rv = some (.int v) ∧ (∀ x y, x < (gi 0).toInt.toNat → y < (gi 1).toInt.toNat → List.getD A (20 * y + x) 0 = sh.getD (20 * y + x) 0) ∧ v = nI (cd sh (ga 15) (gi 0).toInt.toNat 0 (gi 1).toInt.toNat) ∧ pm_IM gi (pm_uA ga 27 A) w' ∧ pm_lo w0 w') := by
    intro n10
    induction n10 with
    | zero => intro l2 l3 u4 w5 cl8 hI6 hh7 h9 t12 t13 t14 t15 t16 t17 t18 t19 hm11; exact absurd hm11 (Nat.not_lt_zero _)
    | succ n10 ih148_10 =>
      intro l2 l3 u4 w5 cl8 hI6 hh7 h9 t12 t13 t14 t15 t16 t17 t18 t19 hm11
      refine v_iload_n rfl rfl ?_
      refine v_aload_n rfl rfl ?_
      obtain ⟨v21, v22, v23, v24, v25, v26, v27, v28, ⟨v21z, v21e⟩, ⟨⟨v22a, v22b⟩, v22e⟩, ⟨⟨v23a, v23b⟩, v23e⟩, ⟨v25a, v25b⟩, ⟨v28a, v28b⟩, h20⟩ := hI6.2.1 59 (by decide) (by decide)
      have v21z := v21z.imp i_eq.mp i_eq.mp
      rw [i_0, i_1] at v21z
      refine v_get rfl h20 rfl ?_
      refine r_icmp_ge rfl (fun t29 => ?_) (fun t29 => ?_)
      · refine v_iload_n rfl rfl ?_
        exact v_iret rfl ⟨_, cl8, rfl, fun x y hx hy => t19 x y hx (by omega), (by have q := t18; rw [show l3.toInt.toNat = (gi 1).toInt.toNat by omega] at q; exact i_eq.mpr (by rw [nI_toInt (by omega)]; exact q)), hI6, hh7⟩
      · refine v_iconst (v := 0) rfl (by decide) ?_
        refine v_istore_n rfl (Nat.le_of_ble_eq_true rfl) ?_
        have L37 : ∀ (n37 : Nat) (l30 : Int32) (l31 : Int32) (w32 : pm_W) (cl35 : List Int32), pm_IM gi (pm_uA ga 27 cl35) w32 → pm_lo w0 w32 → w32[84]? = some (.inl (0, .inl sh)) → 0 ≤ l30.toInt → l30.toInt ≤ 400 → 0 ≤ l31.toInt → l31.toInt ≤ 20 → (l31.toInt ≤ (gi 0).toInt) → (l30.toInt ≤ 20 * l3.toInt + l31.toInt) → (l30.toInt = ((cd sh (ga 15) (gi 0).toInt.toNat 0 l3.toInt.toNat + cf sh (ga 15) (20 * l3.toInt.toNat) l31.toInt.toNat : Nat) : Int)) → (∀ x y, x < (gi 0).toInt.toNat → (y < l3.toInt.toNat ∨ (y = l3.toInt.toNat ∧ x < l31.toInt.toNat)) → List.getD cl35 (20 * y + x) 0 = sh.getD (20 * y + x) 0) → (20 - l31.toInt).toNat < n37 → pm_V sc d 153 158 [.ref 59, .int l30, .int l3, .int l31] [] w32 (fun rv w' => ∃ v A, rv = some (.int v) ∧ (∀ x y, x < (gi 0).toInt.toNat → y < (gi 1).toInt.toNat → List.getD A (20 * y + x) 0 = sh.getD (20 * y + x) 0) ∧ v = nI (cd sh (ga 15) (gi 0).toInt.toNat 0 (gi 1).toInt.toNat) ∧ pm_IM gi (pm_uA ga 27 A) w' ∧ pm_lo w0 w') := by
          intro n37
          induction n37 with
          | zero => intro l30 l31 w32 cl35 hI33 hh34 h36 t39 t40 t41 t42 t43 t44 t45 t46 hm38; exact absurd hm38 (Nat.not_lt_zero _)
          | succ n37 ih158_37 =>
            intro l30 l31 w32 cl35 hI33 hh34 h36 t39 t40 t41 t42 t43 t44 t45 t46 hm38
            refine v_iload_n rfl rfl ?_
            refine v_aload_n rfl rfl ?_
            obtain ⟨v48, v49, v50, v51, v52, v53, v54, v55, ⟨v48z, v48e⟩, ⟨⟨v49a, v49b⟩, v49e⟩, ⟨⟨v50a, v50b⟩, v50e⟩, ⟨v52a, v52b⟩, ⟨v55a, v55b⟩, h47⟩ := hI33.2.1 59 (by decide) (by decide)
            have v48z := v48z.imp i_eq.mp i_eq.mp
            rw [i_0, i_1] at v48z
            refine v_get rfl h47 rfl ?_
            refine r_icmp_ge rfl (fun t56 => ?_) (fun t56 => ?_)
            · refine r_iinc rfl rfl (by decide) (by omega) (by omega) (fun z57 z57e => ?_)
              refine v_goto rfl ?_
              exact ih148_10 l30 z57 (.int l31) w32 cl35 hI33 hh34 h36 (by omega) (by omega) (by omega) (by omega) (by omega) (by omega) (by
                  rw [show z57.toInt.toNat = l3.toInt.toNat + 1 by omega, cd_last, Nat.zero_add]
                  have q := t45
                  rw [show l31.toInt.toNat = (gi 0).toInt.toNat by omega] at q
                  omega) (by intro x y hx hy; exact t46 x y hx (by omega)) (by omega)
            · refine v_aload_n rfl rfl ?_
              refine v_get rfl h47 rfl ?_
              refine v_bipush (v := 20) rfl (by decide) ?_
              refine v_iload_n rfl rfl ?_
              refine r_imulL 20 rfl rfl (by omega) (by omega) (fun z58 z58e => ?_)
              refine v_iload_n rfl rfl ?_
              refine r_iadd rfl (by omega) (by omega) (fun z59 z59e => ?_)
              refine v_aload_n rfl rfl ?_
              refine v_get rfl h47 rfl ?_
              refine v_bipush (v := 20) rfl (by decide) ?_
              refine v_iload_n rfl rfl ?_
              refine r_imulL 20 rfl rfl (by omega) (by omega) (fun z60 z60e => ?_)
              refine v_iload_n rfl rfl ?_
              refine r_iadd rfl (by omega) (by omega) (fun z61 z61e => ?_)
              refine r_iaload rfl h36 hl84 (by omega) (by omega) (fun z62 z62m z62g => ?_)
              skip
              obtain ⟨xs64, xs64l, xs64e, h63⟩ := hI33.2.1 61 (by decide) (by decide)
              have xs64e : xs64 = cl35 := xs64e
              subst xs64e
              refine r_iastx rfl h63 xs64l (by omega) (by omega) (fun ys65 ys65l ys65m ys65g ys65n => ?_)
              refine r_gen (fun w66 e67 => ?_)
              have hI68 : pm_IM gi (pm_uA ga 27 ys65) w66 := by
                rw [e67]
                have q := hI33.uA 61 27 (by decide +kernel) (by decide +kernel) (by decide +kernel) (by decide +kernel) (by decide +kernel) (v := ys65) (c := .inl (0, .inl ys65)) ⟨_, ys65l, pm_uA_self.symm, rfl⟩
                rw [pm_uA_uA] at q
                exact q
              have hh69 : pm_lo w0 w66 := by rw [e67]; exact hh34.set (by decide) _
              have h70 := r_get_ne e67 (show 61 ≠ 84 by decide) h36
              have h71 := r_get_ne e67 (show 61 ≠ 59 by decide) h47
              refine v_iload_n rfl rfl ?_
              refine v_aload_n rfl rfl ?_
              refine v_get rfl h71 rfl ?_
              refine v_bipush (v := 20) rfl (by decide) ?_
              refine v_iload_n rfl rfl ?_
              refine r_imulL 20 rfl rfl (by omega) (by omega) (fun z72 z72e => ?_)
              refine v_iload_n rfl rfl ?_
              refine r_iadd rfl (by omega) (by omega) (fun z73 z73e => ?_)
              refine r_iaload rfl h70 hl84 (by omega) (by omega) (fun z74 z74m z74g => ?_)
              have z74h : z74 = sh.getD (20 * l3.toInt.toNat + l31.toInt.toNat) 0 := by rw [z74g, show z73.toInt.toNat = 20 * l3.toInt.toNat + l31.toInt.toNat by omega]
              refine v_aload_n rfl rfl ?_
              refine v_iload_n rfl rfl ?_
              refine v_iload_n rfl rfl ?_
              obtain ⟨sq76l, sq76r, h75⟩ := hI68.2.1 60 (by decide) (by decide)
              refine v_callV rfl (W_X12_colour_59_x l31 l3 (ga 15) (by omega) (by omega) (by omega) (by omega) h75 sq76l (show pm_Rg gi (pm_uA ga 27 ys65) from hR) hI68) rfl rfl h71 rfl rfl (by omega) (fun rv w77 hq78 => ?_)
              obtain ⟨⟨z79, rfl, z79p0⟩, rfl⟩ := hq78
              have z79h : z79 = (ga 15).getD (20 * l3.toInt.toNat + l31.toInt.toNat) 0 := i_eq.mpr (by rw [z79p0, show (20 * l3.toInt + l31.toInt).toNat = 20 * l3.toInt.toNat + l31.toInt.toNat by omega])
              refine r_icmp_ne rfl (fun t80 => ?_) (fun t80 => ?_)
              · refine v_iconst (v := 1) rfl (by decide) ?_
                refine r_iadd rfl (by omega) (by omega) (fun z81 z81e => ?_)
                refine v_istore_n rfl (Nat.le_of_ble_eq_true rfl) ?_
                refine r_iinc rfl rfl (by decide) (by omega) (by omega) (fun z82 z82e => ?_)
                refine v_goto rfl ?_
                exact ih158_37 z81 z82 w66 ys65 hI68 hh69 h70 (by omega) (by omega) (by omega) (by omega) (by omega) (by omega) (by
                    rw [show z82.toInt.toNat = l31.toInt.toNat + 1 by omega, cf_last]
                    first
                    | (rw [if_pos (show sh.getD (20 * l3.toInt.toNat + l31.toInt.toNat) 0 = (ga 15).getD (20 * l3.toInt.toNat + l31.toInt.toNat) 0 by rw [← z74h, ← z79h]; exact i_eq.mpr (by omega))]; omega)
                    | (rw [if_neg (show ¬ sh.getD (20 * l3.toInt.toNat + l31.toInt.toNat) 0 = (ga 15).getD (20 * l3.toInt.toNat + l31.toInt.toNat) 0 by rw [← z74h, ← z79h]; exact fun q => by have q2 := congrArg Int32.toInt q; omega)]; omega)) (by
                    intro x y hx hy
                    by_cases e : 20 * y + x = z59.toInt.toNat
                    · rw [e, ys65g, z62g, show z61.toInt.toNat = z59.toInt.toNat by omega]
                    · rw [ys65n (20 * y + x) e]
                      exact t46 x y hx (by omega)) (by omega)
              · refine v_iconst (v := 0) rfl (by decide) ?_
                refine v_goto rfl ?_
                refine r_iadd rfl (by omega) (by omega) (fun z83 z83e => ?_)
                refine v_istore_n rfl (Nat.le_of_ble_eq_true rfl) ?_
                refine r_iinc rfl rfl (by decide) (by omega) (by omega) (fun z84 z84e => ?_)
                refine v_goto rfl ?_
                exact ih158_37 z83 z84 w66 ys65 hI68 hh69 h70 (by omega) (by omega) (by omega) (by omega) (by omega) (by omega) (by
                    rw [show z84.toInt.toNat = l31.toInt.toNat + 1 by omega, cf_last]
                    first
                    | (rw [if_pos (show sh.getD (20 * l3.toInt.toNat + l31.toInt.toNat) 0 = (ga 15).getD (20 * l3.toInt.toNat + l31.toInt.toNat) 0 by rw [← z74h, ← z79h]; exact i_eq.mpr (by omega))]; omega)
                    | (rw [if_neg (show ¬ sh.getD (20 * l3.toInt.toNat + l31.toInt.toNat) 0 = (ga 15).getD (20 * l3.toInt.toNat + l31.toInt.toNat) 0 by rw [← z74h, ← z79h]; exact fun q => by have q2 := congrArg Int32.toInt q; omega)]; omega)) (by
                    intro x y hx hy
                    by_cases e : 20 * y + x = z59.toInt.toNat
                    · rw [e, ys65g, z62g, show z61.toInt.toNat = z59.toInt.toNat by omega]
                    · rw [ys65n (20 * y + x) e]
                      exact t46 x y hx (by omega)) (by omega)
        exact L37 _ l2 (0 : Int32) w5 cl8 hI6 hh7 h9 (by omega) (by omega) (by omega) (by omega) (by omega) (by omega) (by
            rw [show (0 : Int32).toInt.toNat = 0 from rfl]
            have q := t18
            show _ = ((cd sh (ga 15) (gi 0).toInt.toNat 0 l3.toInt.toNat + 0 : Nat) : Int)
            omega) (by intro x y hx hy; exact t19 x y hx (by rw [show (0 : Int32).toInt.toNat = 0 from rfl] at hy; omega)) (Nat.lt_add_one _)
  exact L10 _ (0 : Int32) (0 : Int32) (.null) w (ga 27) hI1 hh hc84 (by omega) (by omega) (by omega) (by omega) (by omega) (by omega) (by rfl) (by intro x y hx hy; rw [show (0 : Int32).toInt.toNat = 0 from rfl] at hy; omega) (Nat.lt_add_one _)

