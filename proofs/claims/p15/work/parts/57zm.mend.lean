set_option maxRecDepth 100000 in
theorem W_X12_fewest_59_m {sc : pm_S} {w w0 : pm_W} {gi : Nat → Int32} {ga : Nat → List Int32} (y : Int32) (u : Int32) (b : Int32) (p0 : y.toInt ≤ 19) (p1 : 0 ≤ y.toInt) (hR : pm_Rg gi ga) (hI : pm_IM gi ga w) (hh : pm_lo w0 w) : pm_Mt sc 2 144 7 [.ref 59, .int y, .int u, .int b] w (fun rv w' => pm_wI (fun v => 0 ≤ v.toInt ∧ v.toInt ≤ 99 ∧ md_mn (md_G (fs_c (ga 15) y.toInt.toNat) (gi 0).toInt.toNat (gi 2).toInt.toNat (md_b u) (md_b b) (u.toInt = 0)) v.toInt) rv ∧ pm_IM gi ga w' ∧ pm_lo w0 w') := by
  intro d hd
  obtain ⟨g0a, g0b⟩ := hR.n0
  obtain ⟨g1a, g1b⟩ := hR.n1
  obtain ⟨g2a, g2b⟩ := hR.n2
  obtain ⟨g3a, g3b⟩ := hR.n3
  obtain ⟨g4a, g4b⟩ := hR.n4
  obtain ⟨g5a, g5b⟩ := hR.n5
  obtain ⟨g6a, g6b⟩ := hR.n6
  obtain ⟨g7a, g7b⟩ := hR.n7
  obtain ⟨g8a, g8b⟩ := hR.n8
  have km1 : (-1 : Int32).toInt = -1 := by decide
  have k0 : (0 : Int32).toInt = 0 := by decide
  have k1 : (1 : Int32).toInt = 1 := by decide
  have k99 : (99 : Int32).toInt = 99 := by decide
  show pm_V sc d 144 0 [.ref 59, .int y, .int u, .int b, .null, .null, .null] [] w _
  refine v_aload_n rfl rfl ?_
  refine v_iload_n rfl rfl ?_
  obtain ⟨v2, v3, v4, v5, v6, v7, v8, v9, ⟨v2z, v2e⟩, ⟨⟨v3a, v3b⟩, v3e⟩, ⟨⟨v4a, v4b⟩, v4e⟩, ⟨v6a, v6b⟩, ⟨v9a, v9b⟩, h1⟩ := hI.2.1 59 (by decide) (by decide)
  have v2z := v2z.imp i_eq.mp i_eq.mp
  rw [i_0, i_1] at v2z
  obtain ⟨sq11l, sq11r, h10⟩ := hI.2.1 60 (by decide) (by decide)
  refine v_callV rfl (W_X12_isPlain_59_e y (ga 15) (by omega) (by omega) h10 sq11l hR hI) rfl rfl h1 rfl rfl (by omega) (fun rv w12 hq13 => ?_)
  obtain ⟨⟨z14, rfl, z14p0, z14p1, z14p2⟩, rfl⟩ := hq13
  skip
  refine r_if_ne rfl (fun t15 => ?_) (fun t15 => ?_)
  · have hpl : ∀ x, x < (gi 0).toInt.toNat → ¬ fs_st (fs_c (ga 15) y.toInt.toNat) (gi 0).toInt.toNat x := by
      rcases z14p2 with g | g
      · exact (fs_plain (by omega)).mp g.2
      · omega
    have K17 : ∀ (y16 : Int32), 0 ≤ y16.toInt → y16.toInt ≤ 99 → (md_mn (md_H (fs_c (ga 15) y.toInt.toNat) (gi 0).toInt.toNat (gi 2).toInt.toNat (md_b u) (md_b b) (u.toInt = 0) 0) y16.toInt) → pm_V sc d 144 62 [.ref 59, .int y, .int u, .int b, .null, .null, .null] [.int y16] w (fun rv w' => pm_wI (fun v => 0 ≤ v.toInt ∧ v.toInt ≤ 99 ∧ md_mn (md_G (fs_c (ga 15) y.toInt.toNat) (gi 0).toInt.toNat (gi 2).toInt.toNat (md_b u) (md_b b) (u.toInt = 0)) v.toInt) rv ∧ pm_IM gi ga w' ∧ pm_lo w0 w') := by
      intro y16 t18 t19 t20
      refine v_istore rfl (Nat.le_of_ble_eq_true rfl) ?_
      refine v_iconst (v := 0) rfl (by decide) ?_
      refine v_istore rfl (Nat.le_of_ble_eq_true rfl) ?_
      have L27 : ∀ (n27 : Nat) (l21 : Int32) (l22 : Int32) (u23 : Value) (w24 : pm_W), pm_IM gi ga w24 → pm_lo w0 w24 → 0 ≤ l21.toInt → l21.toInt ≤ 99 → 0 ≤ l22.toInt → l22.toInt ≤ 20 → (l22.toInt ≤ (gi 0).toInt) → (md_mn (md_H (fs_c (ga 15) y.toInt.toNat) (gi 0).toInt.toNat (gi 2).toInt.toNat (md_b u) (md_b b) (u.toInt = 0) l22.toInt.toNat) l21.toInt) → (20 - l22.toInt).toNat < n27 → pm_V sc d 144 67 [.ref 59, .int y, .int u, .int b, .int l21, .int l22, u23] [] w24 (fun rv w' => pm_wI (fun v => 0 ≤ v.toInt ∧ v.toInt ≤ 99 ∧ md_mn (md_G (fs_c (ga 15) y.toInt.toNat) (gi 0).toInt.toNat (gi 2).toInt.toNat (md_b u) (md_b b) (u.toInt = 0)) v.toInt) rv ∧ pm_IM gi ga w' ∧ pm_lo w0 w') := by
        intro n27
        induction n27 with
        | zero => intro l21 l22 u23 w24 hI25 hh26 t29 t30 t31 t32 t33 t34 hm28; exact absurd hm28 (Nat.not_lt_zero _)
        | succ n27 ih67_27 =>
          intro l21 l22 u23 w24 hI25 hh26 t29 t30 t31 t32 t33 t34 hm28
          refine v_iload rfl rfl ?_
          refine v_aload_n rfl rfl ?_
          obtain ⟨v36, v37, v38, v39, v40, v41, v42, v43, ⟨v36z, v36e⟩, ⟨⟨v37a, v37b⟩, v37e⟩, ⟨⟨v38a, v38b⟩, v38e⟩, ⟨v40a, v40b⟩, ⟨v43a, v43b⟩, h35⟩ := hI25.2.1 59 (by decide) (by decide)
          have v36z := v36z.imp i_eq.mp i_eq.mp
          rw [i_0, i_1] at v36z
          refine v_get rfl h35 rfl ?_
          refine r_icmp_ge rfl (fun t44 => ?_) (fun t44 => ?_)
          · refine v_iload rfl rfl ?_
            exact v_iret rfl ⟨⟨_, rfl, (by omega), (by omega), (by
                have q := t34
                rw [show l22.toInt.toNat = (gi 0).toInt.toNat by omega] at q
                exact q.congr (fun n => md_G.plain hpl n))⟩, hI25, hh26⟩
          · refine v_iload_n rfl rfl ?_
            refine v_iload rfl rfl ?_
            refine v_ishr rfl ?_
            refine v_iconst (v := 1) rfl (by decide) ?_
            refine v_iand rfl ?_
            have hb81 := md_b0 (u := b) (x := l22) (by omega) (by omega)
            refine r_if_ne rfl (fun t45 => ?_) (fun t45 => ?_)
            · refine r_iinc rfl rfl (by decide) (by omega) (by omega) (fun z46 z46e => ?_)
              refine v_goto rfl ?_
              exact ih67_27 l21 z46 (u23) w24 hI25 hh26 (by omega) (by omega) (by omega) (by omega) (by omega) (by
                  rw [show z46.toInt.toNat = l22.toInt.toNat + 1 by omega]
                  exact md_H.no t34 (by rcases hb81 with g | g; (omega); exact g.2)) (by omega)
            · refine v_iconst (v := 1) rfl (by decide) ?_
              refine v_aload_n rfl rfl ?_
              refine v_iload_n rfl rfl ?_
              refine v_iload rfl rfl ?_
              refine v_iconst (v := 1) rfl (by decide) ?_
              refine r_iadd rfl (by omega) (by omega) (fun z47 z47e => ?_)
              skip
              refine v_aload_n rfl rfl ?_
              refine v_get rfl h35 rfl ?_
              refine v_iconst (v := 1) rfl (by decide) ?_
              refine r_isub rfl (by omega) (by omega) (fun z48 z48e => ?_)
              skip
              refine v_iload_n rfl rfl ?_
              refine v_iconst (v := 1) rfl (by decide) ?_
              refine v_iload rfl rfl ?_
              refine v_ishl rfl ?_
              refine v_iconst (v := (-1)) rfl (by decide) ?_
              refine v_ixor rfl ?_
              refine v_iand rfl ?_
              refine v_iload_n rfl rfl ?_
              refine v_callV rfl (W_X12_fewestFrom_59_m y z47 z48 (u &&& (((1 : Int32) <<< (l22 &&& 31)) ^^^ (-1 : Int32))) b (by omega) (by omega) (by omega) (by omega) (by omega) (by omega) hR hI25 hh26) rfl rfl h35 rfl rfl (by omega) (fun rv w49 hq50 => ?_)
              obtain ⟨⟨z51, rfl, z51p0, z51p1, z51p2⟩, hI52, hh53⟩ := hq50
              have hq107 := z51p2
              rw [show z47.toInt.toNat = l22.toInt.toNat + 1 by omega, show z48.toInt.toNat = (gi 0).toInt.toNat - 1 by omega] at hq107
              have hr107 := hq107.congr (fun n => md_F.clr (u := u) (x := l22) (by omega) (by omega) (by omega) (by omega))
              refine r_iadd rfl (by omega) (by omega) (fun z54 z54e => ?_)
              refine v_istore rfl (Nat.le_of_ble_eq_true rfl) ?_
              refine v_iload rfl rfl ?_
              refine v_iload rfl rfl ?_
              refine r_icmp_ge rfl (fun t55 => ?_) (fun t55 => ?_)
              · refine v_iload rfl rfl ?_
                refine v_istore rfl (Nat.le_of_ble_eq_true rfl) ?_
                refine r_iinc rfl rfl (by decide) (by omega) (by omega) (fun z56 z56e => ?_)
                refine v_goto rfl ?_
                exact ih67_27 l21 z56 (.int z54) w49 hI52 hh53 (by omega) (by omega) (by omega) (by omega) (by omega) (by
                    rw [show z56.toInt.toNat = l22.toInt.toNat + 1 by omega]
                    exact md_H.keep t34 (by rcases hb81 with g | g; (exact g.2); omega) hr107 (by omega)) (by omega)
              · refine v_iload rfl rfl ?_
                refine v_goto rfl ?_
                refine v_istore rfl (Nat.le_of_ble_eq_true rfl) ?_
                refine r_iinc rfl rfl (by decide) (by omega) (by omega) (fun z57 z57e => ?_)
                refine v_goto rfl ?_
                exact ih67_27 z54 z57 (.int z54) w49 hI52 hh53 (by omega) (by omega) (by omega) (by omega) (by omega) (by
                    rw [show z57.toInt.toNat = l22.toInt.toNat + 1 by omega]
                    have r := md_H.take t34 (by rcases hb81 with g | g; (exact g.2); omega) hr107 (by omega)
                    rw [show z54.toInt = z51.toInt + 1 by omega]
                    exact r) (by omega)
      exact L27 _ y16 (0 : Int32) (.null) w hI hh (by omega) (by omega) (by omega) (by omega) (by omega) (by exact t20) (Nat.lt_add_one _)
    refine v_aload_n rfl rfl ?_
    refine v_get rfl h1 rfl ?_
    refine v_aload_n rfl rfl ?_
    refine v_get rfl h1 rfl ?_
    refine r_icmp_gt rfl (fun t58 => ?_) (fun t58 => ?_)
    · refine v_bipush (v := 99) rfl (by decide) ?_
      exact K17 (99 : Int32) (by omega) (by omega) (by
          rw [k99]
          exact md_H.i99 (fun q => by omega))
    · refine v_iload_n rfl rfl ?_
      refine r_if_ne rfl (fun t59 => ?_) (fun t59 => ?_)
      · refine v_bipush (v := 99) rfl (by decide) ?_
        exact K17 (99 : Int32) (by omega) (by omega) (by
            rw [k99]
            exact md_H.i99 (fun q => by omega))
      · refine v_iconst (v := 0) rfl (by decide) ?_
        refine v_goto rfl ?_
        exact K17 (0 : Int32) (by omega) (by omega) (by
            rw [k0]
            exact md_H.i0 (by omega) (by omega))
  · have hnp : ¬ ∀ x, x < (gi 0).toInt.toNat → ¬ fs_st (fs_c (ga 15) y.toInt.toNat) (gi 0).toInt.toNat x := by
      rcases z14p2 with g | g
      · omega
      · exact fun q => g.2 ((fs_plain (by omega)).mpr q)
    refine v_iconst (v := 0) rfl (by decide) ?_
    refine v_istore rfl (Nat.le_of_ble_eq_true rfl) ?_
    have L61 : ∀ (n61 : Nat) (l60 : Int32), 0 ≤ l60.toInt → l60.toInt ≤ 19 → (l60.toInt < (gi 0).toInt) → (∀ x, x < l60.toInt.toNat → ¬ fs_st (fs_c (ga 15) y.toInt.toNat) (gi 0).toInt.toNat x) → ((gi 0).toInt - l60.toInt).toNat < n61 → pm_V sc d 144 11 [.ref 59, .int y, .int u, .int b, .int l60, .null, .null] [] w (fun rv w' => pm_wI (fun v => 0 ≤ v.toInt ∧ v.toInt ≤ 99 ∧ md_mn (md_G (fs_c (ga 15) y.toInt.toNat) (gi 0).toInt.toNat (gi 2).toInt.toNat (md_b u) (md_b b) (u.toInt = 0)) v.toInt) rv ∧ pm_IM gi ga w' ∧ pm_lo w0 w') := by
      intro n61
      induction n61 with
      | zero => intro l60 t63 t64 t65 t66 hm62; exact absurd hm62 (Nat.not_lt_zero _)
      | succ n61 ih11_61 =>
        intro l60 t63 t64 t65 t66 hm62
        refine v_aload_n rfl rfl ?_
        refine v_iload rfl rfl ?_
        refine v_iload_n rfl rfl ?_
        refine v_callV rfl (W_X12_begins_59_e l60 y (ga 15) (by omega) (by omega) (by omega) (by omega) (by omega) h10 sq11l hR hI) rfl rfl h1 rfl rfl (by omega) (fun rv w67 hq68 => ?_)
        obtain ⟨⟨z69, rfl, z69p0, z69p1, z69p2⟩, rfl⟩ := hq68
        skip
        refine r_if_ne rfl (fun t70 => ?_) (fun t70 => ?_)
        · refine v_aload_n rfl rfl ?_
          refine v_iload_n rfl rfl ?_
          refine v_iload rfl rfl ?_
          refine v_aload_n rfl rfl ?_
          refine v_get rfl h1 rfl ?_
          refine v_iload_n rfl rfl ?_
          refine v_iload_n rfl rfl ?_
          refine v_callV rfl (W_X12_fewestFrom_59_m y l60 (gi 0) u b (by omega) (by omega) (by omega) (by omega) (by omega) (by omega) hR hI hh) rfl rfl h1 rfl rfl (by omega) (fun rv w71 hq72 => ?_)
          obtain ⟨⟨z73, rfl, z73p0, z73p1, z73p2⟩, hI74, hh75⟩ := hq72
          skip
          exact v_iret rfl ⟨⟨_, rfl, (by omega), (by omega), (by exact z73p2.congr (fun n => md_G.runs (F := l60.toInt.toNat) (by omega) (by rcases z69p2 with g | g; (exact g.2); omega) t66 n))⟩, hI74, hh75⟩
        · refine r_iinc rfl rfl (by decide) (by omega) (by omega) (fun z76 z76e => ?_)
          have nf : ∀ x, x < z76.toInt.toNat → ¬ fs_st (fs_c (ga 15) y.toInt.toNat) (gi 0).toInt.toNat x := fun x hx => by
            by_cases e : x < l60.toInt.toNat
            · exact t66 x e
            · rw [show x = l60.toInt.toNat by omega]
              rcases z69p2 with g | g
              · omega
              · exact g.2
          have nl : z76.toInt < (gi 0).toInt := by
            false_or_by_contra
            exact hnp (fun x hx => nf x (by omega))
          refine v_goto rfl ?_
          exact ih11_61 z76 (by omega) (by omega) (by omega) (by exact nf) (by omega)
    exact L61 _ (0 : Int32) (by omega) (by omega) (by omega) (by intro x hx; rw [show (0 : Int32).toInt.toNat = 0 from rfl] at hx; omega) (Nat.lt_add_one _)
set_option maxRecDepth 100000 in
theorem W_X12_mend_59_x {sc : pm_S} {w w0 : pm_W} {gi : Nat → Int32} {ga : Nat → List Int32} (y : Int32)  (hR : pm_Rg gi ga) (hI : pm_IM gi ga w) (hh : pm_lo w0 w) : pm_Mt sc 3 145 6 [.ref 59, .int y] w (fun rv w' => pm_wI (fun v => sq_Pmend gi ga y v) rv ∧ pm_IM gi ga w' ∧ pm_lo w0 w') := by
  intro d hd
  obtain ⟨g0a, g0b⟩ := hR.n0
  obtain ⟨g1a, g1b⟩ := hR.n1
  obtain ⟨g2a, g2b⟩ := hR.n2
  obtain ⟨g3a, g3b⟩ := hR.n3
  obtain ⟨g4a, g4b⟩ := hR.n4
  obtain ⟨g5a, g5b⟩ := hR.n5
  obtain ⟨g6a, g6b⟩ := hR.n6
  obtain ⟨g7a, g7b⟩ := hR.n7
  obtain ⟨g8a, g8b⟩ := hR.n8
  have km1 : (-1 : Int32).toInt = -1 := by decide
  have k0 : (0 : Int32).toInt = 0 := by decide
  have k1 : (1 : Int32).toInt = 1 := by decide
  show pm_V sc d 145 0 [.ref 59, .int y, .null, .null, .null, .null] [] w _
  refine v_iload_n rfl rfl ?_
  refine v_iconst (v := 0) rfl (by decide) ?_
  refine v_aload_n rfl rfl ?_
  obtain ⟨v2, v3, v4, v5, v6, v7, v8, v9, ⟨v2z, v2e⟩, ⟨⟨v3a, v3b⟩, v3e⟩, ⟨⟨v4a, v4b⟩, v4e⟩, ⟨v6a, v6b⟩, ⟨v9a, v9b⟩, h1⟩ := hI.2.1 59 (by decide) (by decide)
  have v2z := v2z.imp i_eq.mp i_eq.mp
  rw [i_0, i_1] at v2z
  refine v_get rfl h1 rfl ?_
  refine v_iconst (v := 1) rfl (by decide) ?_
  refine r_isub rfl (by omega) (by omega) (fun z10 z10e => ?_)
  refine v_callS rfl (W_X12_in y (0 : Int32) z10 hR hI) rfl rfl rfl rfl rfl (by omega) (fun rv w11 hq12 => ?_)
  obtain ⟨⟨z13, rfl, z13p0⟩, rfl⟩ := hq12
  refine r_if_ne rfl (fun t14 => ?_) (fun t14 => ?_)
  · refine v_aload_n rfl rfl ?_
    refine v_iload_n rfl rfl ?_
    refine v_iconst (v := 0) rfl (by decide) ?_
    refine v_iconst (v := 0) rfl (by decide) ?_
    refine v_callV rfl (W_X12_fewest_59_m y (0 : Int32) (0 : Int32) (by omega) (by omega) hR hI hh) rfl rfl h1 rfl rfl (by omega) (fun rv w15 hq16 => ?_)
    obtain ⟨⟨z17, rfl, z17p0, z17p1, z17p2⟩, hI18, hh19⟩ := hq16
    obtain ⟨hm1, hm2, hm3, hm4⟩ := md_many (by omega) (by omega) k0 (fun j q => by have q2 := (md_nI (n := 0) (by decide)).mp q; rw [Nat.zero_testBit] at q2; exact absurd q2 (by decide)) (fun j q => by have q2 := (md_nI (n := 0) (by decide)).mp q; rw [Nat.zero_testBit] at q2; exact absurd q2 (by decide)) z17p2
    refine v_istore_n rfl (Nat.le_of_ble_eq_true rfl) ?_
    refine v_iconst (v := 0) rfl (by decide) ?_
    refine v_istore_n rfl (Nat.le_of_ble_eq_true rfl) ?_
    refine v_iconst (v := 0) rfl (by decide) ?_
    refine v_istore rfl (Nat.le_of_ble_eq_true rfl) ?_
    refine v_aload_n rfl rfl ?_
    obtain ⟨v21, v22, v23, v24, v25, v26, v27, v28, ⟨v21z, v21e⟩, ⟨⟨v22a, v22b⟩, v22e⟩, ⟨⟨v23a, v23b⟩, v23e⟩, ⟨v25a, v25b⟩, ⟨v28a, v28b⟩, h20⟩ := hI18.2.1 59 (by decide) (by decide)
    have v21z := v21z.imp i_eq.mp i_eq.mp
    rw [i_0, i_1] at v21z
    refine v_get rfl h20 rfl ?_
    refine v_iconst (v := 1) rfl (by decide) ?_
    refine r_isub rfl (by omega) (by omega) (fun z29 z29e => ?_)
    refine v_istore rfl (Nat.le_of_ble_eq_true rfl) ?_
    have L36 : ∀ (n36 : Nat) (l30 : Int32) (l31 : Int32) (l32 : Int32) (w33 : pm_W), pm_IM gi ga w33 → pm_lo w0 w33 → (-1) ≤ l32.toInt → l32.toInt ≤ 19 → (l32.toInt < (gi 0).toInt) → (∃ M B : Nat, l30 = nI M ∧ l31 = nI B ∧ B < 1048576 ∧ md_g (fs_c (ga 15) y.toInt.toNat) (gi 0).toInt.toNat (gi 2).toInt.toNat z17.toInt.toNat (l32.toInt + 1).toNat M B) → (l32.toInt + 1).toNat < n36 → pm_V sc d 145 41 [.ref 59, .int y, .int z17, .int l30, .int l31, .int l32] [] w33 (fun rv w' => pm_wI (fun v => sq_Pmend gi ga y v) rv ∧ pm_IM gi ga w' ∧ pm_lo w0 w') := by
      intro n36
      induction n36 with
      | zero => intro l30 l31 l32 w33 hI34 hh35 t38 t39 t40 t41 hm37; exact absurd hm37 (Nat.not_lt_zero _)
      | succ n36 ih41_36 =>
        intro l30 l31 l32 w33 hI34 hh35 t38 t39 t40 t41 hm37
        refine v_iload rfl rfl ?_
        refine r_if_lt rfl (fun t42 => ?_) (fun t42 => ?_)
        · refine v_iload_n rfl rfl ?_
          exact v_iret rfl ⟨⟨_, rfl, (by
              obtain ⟨M8, B8, e1, e2, e3, e4⟩ := t41
              have e5 := md_g.fin e4 (by omega) hm2
              have e6 : M8 < 1048576 := Nat.lt_of_lt_of_le e4.1 (show 2 ^ (gi 0).toInt.toNat ≤ 2 ^ 20 from Nat.pow_le_pow_right (by decide) (by omega))
              rw [e1]
              refine Or.inr ⟨by omega, ?_, ?_⟩
              · rw [nI_toInt (by omega)]; omega
              · rw [nI_toInt (by omega), Int.toNat_natCast]; exact e5)⟩, hI34, hh35⟩
        · obtain ⟨mM, mB, hM9, hB9, hB8, hg9⟩ := t41
          refine v_aload_n rfl rfl ?_
          refine v_iload_n rfl rfl ?_
          refine v_iload_n rfl rfl ?_
          refine v_iload rfl rfl ?_
          refine v_iconst (v := 1) rfl (by decide) ?_
          refine v_iload rfl rfl ?_
          refine v_ishl rfl ?_
          refine v_ior rfl ?_
          obtain ⟨v44, v45, v46, v47, v48, v49, v50, v51, ⟨v44z, v44e⟩, ⟨⟨v45a, v45b⟩, v45e⟩, ⟨⟨v46a, v46b⟩, v46e⟩, ⟨v48a, v48b⟩, ⟨v51a, v51b⟩, h43⟩ := hI34.2.1 59 (by decide) (by decide)
          have v44z := v44z.imp i_eq.mp i_eq.mp
          rw [i_0, i_1] at v44z
          refine v_callV rfl (W_X12_fewest_59_m y l30 (l31 ||| ((1 : Int32) <<< (l32 &&& 31))) (by omega) (by omega) hR hI34 hh35) rfl rfl h43 rfl rfl (by omega) (fun rv w52 hq53 => ?_)
          obtain ⟨⟨z54, rfl, z54p0, z54p1, z54p2⟩, hI55, hh56⟩ := hq53
          skip
          refine v_iload_n rfl rfl ?_
          refine r_icmp_ne rfl (fun t57 => ?_) (fun t57 => ?_)
          · refine v_iload_n rfl rfl ?_
            refine v_iconst (v := 1) rfl (by decide) ?_
            refine v_iload rfl rfl ?_
            refine v_ishl rfl ?_
            refine v_ior rfl ?_
            refine v_istore_n rfl (Nat.le_of_ble_eq_true rfl) ?_
            refine r_iinc rfl rfl (by decide) (by omega) (by omega) (fun z58 z58e => ?_)
            refine v_goto rfl ?_
            exact ih41_36 (l30 ||| ((1 : Int32) <<< (l32 &&& 31))) l31 z58 w52 hI55 hh56 (by omega) (by omega) (by omega) (by
                obtain ⟨M9, e1, e3⟩ := (md_step (x := l32) (by omega) (by omega) hm3 hM9 hB9 hB8 (by omega) (by omega) hm2 hg9 z54p2).2 (by omega)
                exact ⟨M9, mB, e1, hB9, hB8, by rw [show (z58.toInt + 1).toNat = l32.toInt.toNat by omega]; exact e3⟩) (by omega)
          · refine v_iload rfl rfl ?_
            refine v_iconst (v := 1) rfl (by decide) ?_
            refine v_iload rfl rfl ?_
            refine v_ishl rfl ?_
            refine v_ior rfl ?_
            refine v_istore rfl (Nat.le_of_ble_eq_true rfl) ?_
            refine v_goto rfl ?_
            refine r_iinc rfl rfl (by decide) (by omega) (by omega) (fun z59 z59e => ?_)
            refine v_goto rfl ?_
            exact ih41_36 l30 (l31 ||| ((1 : Int32) <<< (l32 &&& 31))) z59 w52 hI55 hh56 (by omega) (by omega) (by omega) (by
                obtain ⟨B9, e1, e2, e3⟩ := (md_step (x := l32) (by omega) (by omega) hm3 hM9 hB9 hB8 (by omega) (by omega) hm2 hg9 z54p2).1 (by omega)
                exact ⟨mM, B9, hM9, e1, e2, by rw [show (z59.toInt + 1).toNat = l32.toInt.toNat by omega]; exact e3⟩) (by omega)
    exact L36 _ (0 : Int32) (0 : Int32) z29 w15 hI18 hh19 (by omega) (by omega) (by omega) (by exact ⟨0, 0, rfl, rfl, by decide, by rw [show (z29.toInt + 1).toNat = (gi 0).toInt.toNat by omega]; exact md_g.start (by omega) hm1⟩) (Nat.lt_add_one _)
  · refine v_aload_n rfl rfl ?_
    refine v_iconst (v := (-1)) rfl (by decide) ?_
    refine v_callV rfl (c_M_refuse (-1 : Int32) (by unfold pm_isR; first | decide | exact Or.inl rfl) hR hI) rfl rfl h1 rfl rfl (by omega) (fun rv w60 hq61 => ?_)
    obtain ⟨rfl, hI62, hh63x⟩ := hq61
    have hI62 : pm_IM gi ga w60 := hI62
    have hh63 := hh.tr hh63x
    exact v_iret rfl ⟨⟨_, rfl, (by exact Or.inl ⟨by omega, by omega⟩)⟩, hI62, hh63⟩

