set_option maxRecDepth 100000 in
theorem W_X12_isShown_59_x {sc : pm_S} {w : pm_W} {gi : Nat → Int32} {ga : Nat → List Int32} (c84 : List Int32) (hc84 : w[84]? = some (.inl (0, .inl c84))) (hl84 : c84.length = 400) (hR : pm_Rg gi ga) (hI : pm_IM gi ga w) : pm_Mt sc 0 157 4 [.ref 59] w (fun rv w' => pm_wI (fun v => 0 ≤ v.toInt ∧ v.toInt ≤ 1 ∧ ((v.toInt = 1 ∧ ex_is c84 (ga 27) (gi 0).toInt.toNat (gi 1).toInt.toNat) ∨ (v.toInt = 0 ∧ ¬ ex_is c84 (ga 27) (gi 0).toInt.toNat (gi 1).toInt.toNat))) rv ∧ w = w') := by
  intro d hd
  obtain ⟨g0a, g0b⟩ := hR.n0
  obtain ⟨g1a, g1b⟩ := hR.n1
  obtain ⟨g2a, g2b⟩ := hR.n2
  obtain ⟨g3a, g3b⟩ := hR.n3
  obtain ⟨g4a, g4b⟩ := hR.n4
  obtain ⟨g5a, g5b⟩ := hR.n5
  obtain ⟨g6a, g6b⟩ := hR.n6
  obtain ⟨g7a, g7b⟩ := hR.n7
  obtain ⟨g8a, g8b⟩ := hR.n8
  have k0 : (0 : Int32).toInt = 0 := by decide
  have k1 : (1 : Int32).toInt = 1 := by decide
  have k20 : (20 : Int32).toInt = 20 := by decide
  show pm_V sc d 157 0 [.ref 59, .null, .null, .null] [] w _
  refine v_iconst (v := 1) rfl (by decide) ?_
  refine v_istore_n rfl (Nat.le_of_ble_eq_true rfl) ?_
  refine v_iconst (v := 0) rfl (by decide) ?_
  refine v_istore_n rfl (Nat.le_of_ble_eq_true rfl) ?_
  have L4 : ∀ (n4 : Nat) (l1 : Int32) (l2 : Int32) (u3 : Value), 0 ≤ l1.toInt → l1.toInt ≤ 1 → 0 ≤ l2.toInt → l2.toInt ≤ 20 → (l2.toInt ≤ (gi 1).toInt) → ((l1.toInt = 1 ∧ ∀ y, y < l2.toInt.toNat → ∀ x, x < (gi 0).toInt.toNat → c84.getD (20 * y + x) 0 = (ga 27).getD (20 * y + x) 0) ∨ (l1.toInt = 0 ∧ ¬ ex_is c84 (ga 27) (gi 0).toInt.toNat (gi 1).toInt.toNat)) → (20 - l2.toInt).toNat < n4 → pm_V sc d 157 4 [.ref 59, .int l1, .int l2, u3] [] w (fun rv w' => pm_wI (fun v => 0 ≤ v.toInt ∧ v.toInt ≤ 1 ∧ ((v.toInt = 1 ∧ ex_is c84 (ga 27) (gi 0).toInt.toNat (gi 1).toInt.toNat) ∨ (v.toInt = 0 ∧ ¬ ex_is c84 (ga 27) (gi 0).toInt.toNat (gi 1).toInt.toNat))) rv ∧ w = w') := by
    intro n4
    induction n4 with
    | zero => intro l1 l2 u3 t6 t7 t8 t9 t10 t11 hm5; exact absurd hm5 (Nat.not_lt_zero _)
    | succ n4 ih4_4 =>
      intro l1 l2 u3 t6 t7 t8 t9 t10 t11 hm5
      refine v_iload_n rfl rfl ?_
      refine v_aload_n rfl rfl ?_
      obtain ⟨v13, v14, v15, v16, v17, v18, v19, v20, ⟨v13z, v13e⟩, ⟨⟨v14a, v14b⟩, v14e⟩, ⟨⟨v15a, v15b⟩, v15e⟩, ⟨v17a, v17b⟩, ⟨v20a, v20b⟩, h12⟩ := hI.2.1 59 (by decide) (by decide)
      have v13z := v13z.imp i_eq.mp i_eq.mp
      rw [i_0, i_1] at v13z
      refine v_get rfl h12 rfl ?_
      refine r_icmp_ge rfl (fun t21 => ?_) (fun t21 => ?_)
      · refine v_iload_n rfl rfl ?_
        exact r_zret rfl (by omega) ⟨⟨_, rfl, (by omega), (by omega), (by
            rcases t11 with g | g
            · exact Or.inl ⟨g.1, fun x y hx hy => g.2 y (by omega) x hx⟩
            · exact Or.inr g)⟩, rfl⟩
      · refine v_iconst (v := 0) rfl (by decide) ?_
        refine v_istore_n rfl (Nat.le_of_ble_eq_true rfl) ?_
        have L24 : ∀ (n24 : Nat) (l22 : Int32) (l23 : Int32), 0 ≤ l22.toInt → l22.toInt ≤ 1 → 0 ≤ l23.toInt → l23.toInt ≤ 20 → (l23.toInt ≤ (gi 0).toInt) → ((l22.toInt = 1 ∧ (∀ y, y < l2.toInt.toNat → ∀ x, x < (gi 0).toInt.toNat → c84.getD (20 * y + x) 0 = (ga 27).getD (20 * y + x) 0) ∧ ∀ x, x < l23.toInt.toNat → c84.getD (20 * l2.toInt.toNat + x) 0 = (ga 27).getD (20 * l2.toInt.toNat + x) 0) ∨ (l22.toInt = 0 ∧ ¬ ex_is c84 (ga 27) (gi 0).toInt.toNat (gi 1).toInt.toNat)) → (20 - l23.toInt).toNat < n24 → pm_V sc d 157 14 [.ref 59, .int l22, .int l2, .int l23] [] w (fun rv w' => pm_wI (fun v => 0 ≤ v.toInt ∧ v.toInt ≤ 1 ∧ ((v.toInt = 1 ∧ ex_is c84 (ga 27) (gi 0).toInt.toNat (gi 1).toInt.toNat) ∨ (v.toInt = 0 ∧ ¬ ex_is c84 (ga 27) (gi 0).toInt.toNat (gi 1).toInt.toNat))) rv ∧ w = w') := by
          intro n24
          induction n24 with
          | zero => intro l22 l23 t26 t27 t28 t29 t30 t31 hm25; exact absurd hm25 (Nat.not_lt_zero _)
          | succ n24 ih14_24 =>
            intro l22 l23 t26 t27 t28 t29 t30 t31 hm25
            refine v_iload_n rfl rfl ?_
            refine v_aload_n rfl rfl ?_
            refine v_get rfl h12 rfl ?_
            refine r_icmp_ge rfl (fun t32 => ?_) (fun t32 => ?_)
            · refine r_iinc rfl rfl (by decide) (by omega) (by omega) (fun z33 z33e => ?_)
              refine v_goto rfl ?_
              exact ih4_4 l22 z33 (.int l23) (by omega) (by omega) (by omega) (by omega) (by omega) (by
                  rcases t31 with g | g
                  · exact Or.inl ⟨g.1, fun y hy x hx => by
                      by_cases e : y < l2.toInt.toNat
                      · exact g.2.1 y e x hx
                      · have e2 : y = l2.toInt.toNat := by omega
                        subst e2
                        exact g.2.2 x (by omega)⟩
                  · exact Or.inr g) (by omega)
            · refine v_iload_n rfl rfl ?_
              refine r_if_eq rfl (fun t34 => ?_) (fun t34 => ?_)
              · refine v_iconst (v := 0) rfl (by decide) ?_
                refine v_istore_n rfl (Nat.le_of_ble_eq_true rfl) ?_
                refine r_iinc rfl rfl (by decide) (by omega) (by omega) (fun z35 z35e => ?_)
                refine v_goto rfl ?_
                exact ih14_24 (0 : Int32) z35 (by omega) (by omega) (by omega) (by omega) (by omega) (by
                    rcases t31 with g | g
                    · first
                      | exact absurd g.1 (by omega)
                      | exact Or.inl ⟨by omega, g.2.1, fun x hx => by
                          by_cases e : x < l23.toInt.toNat
                          · exact g.2.2 x e
                          · have e2 : x = l23.toInt.toNat := by omega
                            subst e2
                            rw [← qA, ← qB]
                            exact i_eq.mpr (by omega)⟩
                      | exact Or.inr ⟨by omega, fun hS => by
                          have q := hS l23.toInt.toNat l2.toInt.toNat (by omega) (by omega)
                          rw [← qA, ← qB] at q
                          have q2 := congrArg Int32.toInt q
                          omega⟩
                    · exact Or.inr ⟨by omega, g.2⟩) (by omega)
              · refine v_aload_n rfl rfl ?_
                refine v_get rfl h12 rfl ?_
                refine v_bipush (v := 20) rfl (by decide) ?_
                refine v_iload_n rfl rfl ?_
                refine r_imulL 20 rfl rfl (by omega) (by omega) (fun z36 z36e => ?_)
                refine v_iload_n rfl rfl ?_
                refine r_iadd rfl (by omega) (by omega) (fun z37 z37e => ?_)
                refine r_iaload rfl hc84 hl84 (by omega) (by omega) (fun z38 z38m z38g => ?_)
                have z38A : z38 = c84.getD (20 * l2.toInt.toNat + l23.toInt.toNat) 0 := by rw [z38g, show z37.toInt.toNat = 20 * l2.toInt.toNat + l23.toInt.toNat by omega]
                refine v_aload_n rfl rfl ?_
                refine v_get rfl h12 rfl ?_
                refine v_bipush (v := 20) rfl (by decide) ?_
                refine v_iload_n rfl rfl ?_
                refine r_imulL 20 rfl rfl (by omega) (by omega) (fun z39 z39e => ?_)
                refine v_iload_n rfl rfl ?_
                refine r_iadd rfl (by omega) (by omega) (fun z40 z40e => ?_)
                obtain ⟨xs42, xs42l, xs42e, h41⟩ := hI.2.1 61 (by decide) (by decide)
                have xs42e : xs42 = (ga 27) := xs42e
                subst xs42e
                refine r_iaload rfl h41 xs42l (by omega) (by omega) (fun z43 z43m z43g => ?_)
                have z43B : z43 = (ga 27).getD (20 * l2.toInt.toNat + l23.toInt.toNat) 0 := by rw [z43g, show z40.toInt.toNat = 20 * l2.toInt.toNat + l23.toInt.toNat by omega]
                refine r_icmp_ne rfl (fun t44 => ?_) (fun t44 => ?_)
                · refine v_iconst (v := 0) rfl (by decide) ?_
                  refine v_istore_n rfl (Nat.le_of_ble_eq_true rfl) ?_
                  refine r_iinc rfl rfl (by decide) (by omega) (by omega) (fun z45 z45e => ?_)
                  refine v_goto rfl ?_
                  exact ih14_24 (0 : Int32) z45 (by omega) (by omega) (by omega) (by omega) (by omega) (by
                      rcases t31 with g | g
                      · first
                        | exact absurd g.1 (by omega)
                        | exact Or.inl ⟨by omega, g.2.1, fun x hx => by
                            by_cases e : x < l23.toInt.toNat
                            · exact g.2.2 x e
                            · have e2 : x = l23.toInt.toNat := by omega
                              subst e2
                              rw [← z38A, ← z43B]
                              exact i_eq.mpr (by omega)⟩
                        | exact Or.inr ⟨by omega, fun hS => by
                            have q := hS l23.toInt.toNat l2.toInt.toNat (by omega) (by omega)
                            rw [← z38A, ← z43B] at q
                            have q2 := congrArg Int32.toInt q
                            omega⟩
                      · exact Or.inr ⟨by omega, g.2⟩) (by omega)
                · refine v_iconst (v := 1) rfl (by decide) ?_
                  refine v_goto rfl ?_
                  refine v_istore_n rfl (Nat.le_of_ble_eq_true rfl) ?_
                  refine r_iinc rfl rfl (by decide) (by omega) (by omega) (fun z46 z46e => ?_)
                  refine v_goto rfl ?_
                  exact ih14_24 (1 : Int32) z46 (by omega) (by omega) (by omega) (by omega) (by omega) (by
                      rcases t31 with g | g
                      · first
                        | exact absurd g.1 (by omega)
                        | exact Or.inl ⟨by omega, g.2.1, fun x hx => by
                            by_cases e : x < l23.toInt.toNat
                            · exact g.2.2 x e
                            · have e2 : x = l23.toInt.toNat := by omega
                              subst e2
                              rw [← z38A, ← z43B]
                              exact i_eq.mpr (by omega)⟩
                        | exact Or.inr ⟨by omega, fun hS => by
                            have q := hS l23.toInt.toNat l2.toInt.toNat (by omega) (by omega)
                            rw [← z38A, ← z43B] at q
                            have q2 := congrArg Int32.toInt q
                            omega⟩
                      · exact Or.inr ⟨by omega, g.2⟩) (by omega)
        exact L24 _ l1 (0 : Int32) (by omega) (by omega) (by omega) (by omega) (by omega) (by
            rcases t11 with g | g
            · exact Or.inl ⟨g.1, g.2, fun x hx => by rw [show (0 : Int32).toInt.toNat = 0 from rfl] at hx; omega⟩
            · exact Or.inr g) (Nat.lt_add_one _)
  exact L4 _ (1 : Int32) (0 : Int32) (.null) (by omega) (by omega) (by omega) (by omega) (by omega) (by exact Or.inl ⟨rfl, fun y hy => by rw [show (0 : Int32).toInt.toNat = 0 from rfl] at hy; omega⟩) (Nat.lt_add_one _)
set_option maxRecDepth 100000 in
theorem W_X12_findKind_59_x {sc : pm_S} {w w0 : pm_W} {gi : Nat → Int32} {ga : Nat → List Int32}   (hR : pm_Rg gi ga) (hI : pm_IM gi ga w) (hh : pm_lo w0 w) : pm_Mt sc 3 158 3 [.ref 59] w (fun rv w' => ∃ v a b : Int32, rv = some (.int v) ∧ pm_IM gi ga w' ∧ pm_lo w0 w' ∧ (∃ (v4 v5 v6 v14 m v42 : Int32), w'[59]? = some (.inr (12, [.int (gi 0), .int (gi 1), .ref 60, .int (gi 2), .int v4, .int v5, .int v6, .ref 61, .ref 62, .ref 63, .int (gi 5), .int (gi 3), .int (gi 4), .int (gi 6), .int v14, .int (gi 7), .ref 64, .ref 65, .ref 66, .ref 67, .int (gi 8), .ref 68, .ref 69, .ref 70, .ref 71, .ref 72, .ref 73, .ref 74, .ref 75, .ref 76, .ref 77, .ref 78, .ref 79, .ref 80, .ref 81, .int m, .ref 82, .ref 83, .ref 84, .int a, .int b, .ref 85, .int v42, .ref 86, .ref 87]))) ∧ ∃ (fs os : List Int32) (m : Nat), sq_ck gi ga fs os m ∧ ex_X (ga 15) (ga 27) fs os (gi 0).toInt.toNat (gi 1).toInt.toNat m v.toInt a.toInt b.toInt) := by
  intro d hd
  obtain ⟨g0a, g0b⟩ := hR.n0
  obtain ⟨g1a, g1b⟩ := hR.n1
  obtain ⟨g2a, g2b⟩ := hR.n2
  obtain ⟨g3a, g3b⟩ := hR.n3
  obtain ⟨g4a, g4b⟩ := hR.n4
  obtain ⟨g5a, g5b⟩ := hR.n5
  obtain ⟨g6a, g6b⟩ := hR.n6
  obtain ⟨g7a, g7b⟩ := hR.n7
  obtain ⟨g8a, g8b⟩ := hR.n8
  have km9 : (-9 : Int32).toInt = -9 := by decide
  have k0 : (0 : Int32).toInt = 0 := by decide
  have k1 : (1 : Int32).toInt = 1 := by decide
  have k2 : (2 : Int32).toInt = 2 := by decide
  have k3 : (3 : Int32).toInt = 3 := by decide
  show pm_V sc d 158 0 [.ref 59, .null, .null] [] w _
  refine v_aload_n rfl rfl ?_
  obtain ⟨v2, v3, v4, v5, v6, v7, v8, v9, ⟨v2z, v2e⟩, ⟨⟨v3a, v3b⟩, v3e⟩, ⟨⟨v4a, v4b⟩, v4e⟩, ⟨v6a, v6b⟩, ⟨v9a, v9b⟩, h1⟩ := hI.2.1 59 (by decide) (by decide)
  have v2z := v2z.imp i_eq.mp i_eq.mp
  rw [i_0, i_1] at v2z
  refine v_callV rfl (W_X12_findCords_59_x  hR hI hh) rfl rfl h1 rfl rfl (by omega) (fun rv w10 hq11 => ?_)
  obtain ⟨rfl, hI13, hh14, ⟨v15, v16, v17, v18, v19, v20, v21, v22, fs23, os24, h25, h26, h27, fs23l, os24l, fs23r, os24r, v19a, v19b, t28, t29, v15e, t30, t31, v16e, t32, t33, v17e, t34, t35, v19k⟩⟩ := hq11
  refine v_aload_n rfl rfl ?_
  refine v_bipush (v := (-9)) rfl (by decide) ?_
  refine v_put rfl h25 rfl (Nat.le_of_ble_eq_true rfl) ?_
  refine r_gen (w' := w10.set 59 (.inr (12, [.int (gi 0), .int (gi 1), .ref 60, .int (gi 2), .int v15, .int v16, .int v17, .ref 61, .ref 62, .ref 63, .int (gi 5), .int (gi 3), .int (gi 4), .int (gi 6), .int v18, .int (gi 7), .ref 64, .ref 65, .ref 66, .ref 67, .int (gi 8), .ref 68, .ref 69, .ref 70, .ref 71, .ref 72, .ref 73, .ref 74, .ref 75, .ref 76, .ref 77, .ref 78, .ref 79, .ref 80, .ref 81, .int v19, .ref 82, .ref 83, .ref 84, .int (-9 : Int32), .int v21, .ref 85, .int v22, .ref 86, .ref 87]))) (fun w36 e37 => ?_)
  have hI38 : pm_IM gi ga w36 := by rw [e37]; exact hI13.set 59 (by decide) (by decide) (by decide) (by decide) ⟨v15, v16, v17, v18, v19, (-9 : Int32), v21, v22, ⟨((show v15.toInt = 0 ∨ v15.toInt = 1 by omega).imp i_eq.mpr i_eq.mpr), v15e⟩, ⟨⟨by omega, by omega⟩, v16e⟩, ⟨⟨by omega, by omega⟩, v17e⟩, ⟨by omega, by omega⟩, ⟨by omega, by omega⟩, rfl⟩
  have hh39 : pm_lo w0 w36 := by rw [e37]; exact hh14.set (by decide) _
  have h40 := r_get_ne e37 (show 59 ≠ 81 by decide) h26
  have h41 := r_get_ne e37 (show 59 ≠ 80 by decide) h27
  have h42 := r_get_eq e37 h25
  refine v_aload_n rfl rfl ?_
  refine v_bipush (v := (-9)) rfl (by decide) ?_
  refine v_put rfl h42 rfl (Nat.le_of_ble_eq_true rfl) ?_
  refine r_gen (w' := w36.set 59 (.inr (12, [.int (gi 0), .int (gi 1), .ref 60, .int (gi 2), .int v15, .int v16, .int v17, .ref 61, .ref 62, .ref 63, .int (gi 5), .int (gi 3), .int (gi 4), .int (gi 6), .int v18, .int (gi 7), .ref 64, .ref 65, .ref 66, .ref 67, .int (gi 8), .ref 68, .ref 69, .ref 70, .ref 71, .ref 72, .ref 73, .ref 74, .ref 75, .ref 76, .ref 77, .ref 78, .ref 79, .ref 80, .ref 81, .int v19, .ref 82, .ref 83, .ref 84, .int (-9 : Int32), .int (-9 : Int32), .ref 85, .int v22, .ref 86, .ref 87]))) (fun w43 e44 => ?_)
  have hI45 : pm_IM gi ga w43 := by rw [e44]; exact hI38.set 59 (by decide) (by decide) (by decide) (by decide) ⟨v15, v16, v17, v18, v19, (-9 : Int32), (-9 : Int32), v22, ⟨((show v15.toInt = 0 ∨ v15.toInt = 1 by omega).imp i_eq.mpr i_eq.mpr), v15e⟩, ⟨⟨by omega, by omega⟩, v16e⟩, ⟨⟨by omega, by omega⟩, v17e⟩, ⟨by omega, by omega⟩, ⟨by omega, by omega⟩, rfl⟩
  have hh46 : pm_lo w0 w43 := by rw [e44]; exact hh39.set (by decide) _
  have h47 := r_get_ne e44 (show 59 ≠ 81 by decide) h40
  have h48 := r_get_ne e44 (show 59 ≠ 80 by decide) h41
  have h49 := r_get_eq e44 h42
  refine v_aload_n rfl rfl ?_
  refine v_callV rfl (W_X12_showPlain_59_x v15 v16 v17 v18 v19 (-9 : Int32) (-9 : Int32) v22 os24 fs23 (by omega) (by omega) (by omega) (by omega) (by omega) (by omega) (by omega) (by omega) (by omega) (by omega) h49 h48 os24l os24r h47 fs23l fs23r hR hI45 hh46) rfl rfl h49 rfl rfl (by omega) (fun rv w50 hq51 => ?_)
  obtain ⟨rfl, hI53, hh54, ⟨sh55, h56, h57, h58, h59, sh55l, sh55f⟩⟩ := hq51
  skip
  refine v_aload_n rfl rfl ?_
  refine v_callV rfl (W_X12_isShown_59_x sh55 h59 sh55l hR hI53) rfl rfl h56 rfl rfl (by omega) (fun rv w60 hq61 => ?_)
  obtain ⟨⟨z62, rfl, z62p0, z62p1, z62p2⟩, rfl⟩ := hq61
  have z62i := ex_m0 (ds := (ga 15)) (cl := (ga 27)) (sh := sh55) (W := (gi 0).toInt.toNat) (H := (gi 1).toInt.toNat) (by omega) (by omega) sh55f
  refine r_if_eq rfl (fun t63 => ?_) (fun t63 => ?_)
  · refine v_iconst (v := 0) rfl (by decide) ?_
    refine v_istore_n rfl (Nat.le_of_ble_eq_true rfl) ?_
    have L71 : ∀ (n71 : Nat) (l64 : Int32) (w65 : pm_W), pm_IM gi ga w65 → pm_lo w0 w65 → w65[59]? = some (.inr (12, [.int (gi 0), .int (gi 1), .ref 60, .int (gi 2), .int v15, .int v16, .int v17, .ref 61, .ref 62, .ref 63, .int (gi 5), .int (gi 3), .int (gi 4), .int (gi 6), .int v18, .int (gi 7), .ref 64, .ref 65, .ref 66, .ref 67, .int (gi 8), .ref 68, .ref 69, .ref 70, .ref 71, .ref 72, .ref 73, .ref 74, .ref 75, .ref 76, .ref 77, .ref 78, .ref 79, .ref 80, .ref 81, .int v19, .ref 82, .ref 83, .ref 84, .int (-9 : Int32), .int (-9 : Int32), .ref 85, .int v22, .ref 86, .ref 87])) → w65[80]? = some (.inl (0, .inl os24)) → w65[81]? = some (.inl (0, .inl fs23)) → 0 ≤ l64.toInt → l64.toInt ≤ 20 → (l64.toInt ≤ v19.toInt) → (∀ j, j < l64.toInt.toNat → ¬ ex_E1 (ga 15) (ga 27) os24 (gi 0).toInt.toNat (gi 1).toInt.toNat j) → (20 - l64.toInt).toNat < n71 → pm_V sc d 158 31 [.ref 59, .int l64, .null] [] w65 (fun rv w' => ∃ v a b : Int32, rv = some (.int v) ∧ pm_IM gi ga w' ∧ pm_lo w0 w' ∧ (∃ (v4 v5 v6 v14 m v42 : Int32), w'[59]? = some (.inr (12, [.int (gi 0), .int (gi 1), .ref 60, .int (gi 2), .int v4, .int v5, .int v6, .ref 61, .ref 62, .ref 63, .int (gi 5), .int (gi 3), .int (gi 4), .int (gi 6), .int v14, .int (gi 7), .ref 64, .ref 65, .ref 66, .ref 67, .int (gi 8), .ref 68, .ref 69, .ref 70, .ref 71, .ref 72, .ref 73, .ref 74, .ref 75, .ref 76, .ref 77, .ref 78, .ref 79, .ref 80, .ref 81, .int m, .ref 82, .ref 83, .ref 84, .int a, .int b, .ref 85, .int v42, .ref 86, .ref 87]))) ∧ ∃ (fs os : List Int32) (m : Nat), sq_ck gi ga fs os m ∧ ex_X (ga 15) (ga 27) fs os (gi 0).toInt.toNat (gi 1).toInt.toNat m v.toInt a.toInt b.toInt) := by
      intro n71
      induction n71 with
      | zero => intro l64 w65 hI66 hh67 h68 h69 h70 t73 t74 t75 t76 hm72; exact absurd hm72 (Nat.not_lt_zero _)
      | succ n71 ih31_71 =>
        intro l64 w65 hI66 hh67 h68 h69 h70 t73 t74 t75 t76 hm72
        refine v_iload_n rfl rfl ?_
        refine v_aload_n rfl rfl ?_
        refine v_get rfl h68 rfl ?_
        refine r_icmp_ge rfl (fun t77 => ?_) (fun t77 => ?_)
        · refine v_iconst (v := 0) rfl (by decide) ?_
          refine v_istore_n rfl (Nat.le_of_ble_eq_true rfl) ?_
          have L85 : ∀ (n85 : Nat) (l78 : Int32) (w79 : pm_W), pm_IM gi ga w79 → pm_lo w0 w79 → w79[59]? = some (.inr (12, [.int (gi 0), .int (gi 1), .ref 60, .int (gi 2), .int v15, .int v16, .int v17, .ref 61, .ref 62, .ref 63, .int (gi 5), .int (gi 3), .int (gi 4), .int (gi 6), .int v18, .int (gi 7), .ref 64, .ref 65, .ref 66, .ref 67, .int (gi 8), .ref 68, .ref 69, .ref 70, .ref 71, .ref 72, .ref 73, .ref 74, .ref 75, .ref 76, .ref 77, .ref 78, .ref 79, .ref 80, .ref 81, .int v19, .ref 82, .ref 83, .ref 84, .int (-9 : Int32), .int (-9 : Int32), .ref 85, .int v22, .ref 86, .ref 87])) → w79[80]? = some (.inl (0, .inl os24)) → w79[81]? = some (.inl (0, .inl fs23)) → 0 ≤ l78.toInt → l78.toInt ≤ 20 → (l78.toInt ≤ (gi 1).toInt) → (∀ j, j < l78.toInt.toNat → ¬ ex_E2 (ga 15) (ga 27) (gi 0).toInt.toNat (gi 1).toInt.toNat j) → (20 - l78.toInt).toNat < n85 → pm_V sc d 158 70 [.ref 59, .int l78, .null] [] w79 (fun rv w' => ∃ v a b : Int32, rv = some (.int v) ∧ pm_IM gi ga w' ∧ pm_lo w0 w' ∧ (∃ (v4 v5 v6 v14 m v42 : Int32), w'[59]? = some (.inr (12, [.int (gi 0), .int (gi 1), .ref 60, .int (gi 2), .int v4, .int v5, .int v6, .ref 61, .ref 62, .ref 63, .int (gi 5), .int (gi 3), .int (gi 4), .int (gi 6), .int v14, .int (gi 7), .ref 64, .ref 65, .ref 66, .ref 67, .int (gi 8), .ref 68, .ref 69, .ref 70, .ref 71, .ref 72, .ref 73, .ref 74, .ref 75, .ref 76, .ref 77, .ref 78, .ref 79, .ref 80, .ref 81, .int m, .ref 82, .ref 83, .ref 84, .int a, .int b, .ref 85, .int v42, .ref 86, .ref 87]))) ∧ ∃ (fs os : List Int32) (m : Nat), sq_ck gi ga fs os m ∧ ex_X (ga 15) (ga 27) fs os (gi 0).toInt.toNat (gi 1).toInt.toNat m v.toInt a.toInt b.toInt) := by
            intro n85
            induction n85 with
            | zero => intro l78 w79 hI80 hh81 h82 h83 h84 t87 t88 t89 t90 hm86; exact absurd hm86 (Nat.not_lt_zero _)
            | succ n85 ih70_85 =>
              intro l78 w79 hI80 hh81 h82 h83 h84 t87 t88 t89 t90 hm86
              refine v_iload_n rfl rfl ?_
              refine v_aload_n rfl rfl ?_
              refine v_get rfl h82 rfl ?_
              refine r_icmp_ge rfl (fun t91 => ?_) (fun t91 => ?_)
              · refine v_iconst (v := 0) rfl (by decide) ?_
                refine v_istore_n rfl (Nat.le_of_ble_eq_true rfl) ?_
                have L100 : ∀ (n100 : Nat) (l92 : Int32) (u93 : Value) (w94 : pm_W), pm_IM gi ga w94 → pm_lo w0 w94 → w94[59]? = some (.inr (12, [.int (gi 0), .int (gi 1), .ref 60, .int (gi 2), .int v15, .int v16, .int v17, .ref 61, .ref 62, .ref 63, .int (gi 5), .int (gi 3), .int (gi 4), .int (gi 6), .int v18, .int (gi 7), .ref 64, .ref 65, .ref 66, .ref 67, .int (gi 8), .ref 68, .ref 69, .ref 70, .ref 71, .ref 72, .ref 73, .ref 74, .ref 75, .ref 76, .ref 77, .ref 78, .ref 79, .ref 80, .ref 81, .int v19, .ref 82, .ref 83, .ref 84, .int (-9 : Int32), .int (-9 : Int32), .ref 85, .int v22, .ref 86, .ref 87])) → w94[80]? = some (.inl (0, .inl os24)) → w94[81]? = some (.inl (0, .inl fs23)) → 0 ≤ l92.toInt → l92.toInt ≤ 20 → (l92.toInt ≤ v19.toInt) → (∀ j l, j < l92.toInt.toNat → j < l → l < v19.toInt.toNat → ¬ ex_E3 (ga 15) (ga 27) fs23 os24 (gi 0).toInt.toNat (gi 1).toInt.toNat j l) → (20 - l92.toInt).toNat < n100 → pm_V sc d 158 109 [.ref 59, .int l92, u93] [] w94 (fun rv w' => ∃ v a b : Int32, rv = some (.int v) ∧ pm_IM gi ga w' ∧ pm_lo w0 w' ∧ (∃ (v4 v5 v6 v14 m v42 : Int32), w'[59]? = some (.inr (12, [.int (gi 0), .int (gi 1), .ref 60, .int (gi 2), .int v4, .int v5, .int v6, .ref 61, .ref 62, .ref 63, .int (gi 5), .int (gi 3), .int (gi 4), .int (gi 6), .int v14, .int (gi 7), .ref 64, .ref 65, .ref 66, .ref 67, .int (gi 8), .ref 68, .ref 69, .ref 70, .ref 71, .ref 72, .ref 73, .ref 74, .ref 75, .ref 76, .ref 77, .ref 78, .ref 79, .ref 80, .ref 81, .int m, .ref 82, .ref 83, .ref 84, .int a, .int b, .ref 85, .int v42, .ref 86, .ref 87]))) ∧ ∃ (fs os : List Int32) (m : Nat), sq_ck gi ga fs os m ∧ ex_X (ga 15) (ga 27) fs os (gi 0).toInt.toNat (gi 1).toInt.toNat m v.toInt a.toInt b.toInt) := by
                  intro n100
                  induction n100 with
                  | zero => intro l92 u93 w94 hI95 hh96 h97 h98 h99 t102 t103 t104 t105 hm101; exact absurd hm101 (Nat.not_lt_zero _)
                  | succ n100 ih109_100 =>
                    intro l92 u93 w94 hI95 hh96 h97 h98 h99 t102 t103 t104 t105 hm101
                    refine v_iload_n rfl rfl ?_
                    refine v_aload_n rfl rfl ?_
                    refine v_get rfl h97 rfl ?_
                    refine r_icmp_ge rfl (fun t106 => ?_) (fun t106 => ?_)
                    · refine v_bipush (v := (-9)) rfl (by decide) ?_
                      exact v_iret rfl ⟨_, (-9 : Int32), (-9 : Int32), rfl, hI95, hh96, ⟨v15, v16, v17, v18, v19, v22, h97⟩, fs23, os24, _, v19k, Or.inr (Or.inr (Or.inr (Or.inr ⟨(fun g => by rcases z62p2 with ⟨g1, g2⟩ | ⟨g1, g2⟩; (omega); exact g2 (z62i.mpr g)), (fun j hj => t76 j (by omega)), (fun j hj => t90 j (by omega)), fun j l hl hm => t105 j l (by omega) hl hm, by omega, by omega, by omega⟩)))⟩
                    · refine v_iload_n rfl rfl ?_
                      refine v_iconst (v := 1) rfl (by decide) ?_
                      refine r_iadd rfl (by omega) (by omega) (fun z107 z107e => ?_)
                      refine v_istore_n rfl (Nat.le_of_ble_eq_true rfl) ?_
                      have L115 : ∀ (n115 : Nat) (l108 : Int32) (w109 : pm_W), pm_IM gi ga w109 → pm_lo w0 w109 → w109[59]? = some (.inr (12, [.int (gi 0), .int (gi 1), .ref 60, .int (gi 2), .int v15, .int v16, .int v17, .ref 61, .ref 62, .ref 63, .int (gi 5), .int (gi 3), .int (gi 4), .int (gi 6), .int v18, .int (gi 7), .ref 64, .ref 65, .ref 66, .ref 67, .int (gi 8), .ref 68, .ref 69, .ref 70, .ref 71, .ref 72, .ref 73, .ref 74, .ref 75, .ref 76, .ref 77, .ref 78, .ref 79, .ref 80, .ref 81, .int v19, .ref 82, .ref 83, .ref 84, .int (-9 : Int32), .int (-9 : Int32), .ref 85, .int v22, .ref 86, .ref 87])) → w109[80]? = some (.inl (0, .inl os24)) → w109[81]? = some (.inl (0, .inl fs23)) → 1 ≤ l108.toInt → l108.toInt ≤ 20 → (l92.toInt + 1 ≤ l108.toInt) → (l108.toInt ≤ v19.toInt) → (∀ l, l92.toInt.toNat < l → l < l108.toInt.toNat → ¬ ex_E3 (ga 15) (ga 27) fs23 os24 (gi 0).toInt.toNat (gi 1).toInt.toNat l92.toInt.toNat l) → (20 - l108.toInt).toNat < n115 → pm_V sc d 158 121 [.ref 59, .int l92, .int l108] [] w109 (fun rv w' => ∃ v a b : Int32, rv = some (.int v) ∧ pm_IM gi ga w' ∧ pm_lo w0 w' ∧ (∃ (v4 v5 v6 v14 m v42 : Int32), w'[59]? = some (.inr (12, [.int (gi 0), .int (gi 1), .ref 60, .int (gi 2), .int v4, .int v5, .int v6, .ref 61, .ref 62, .ref 63, .int (gi 5), .int (gi 3), .int (gi 4), .int (gi 6), .int v14, .int (gi 7), .ref 64, .ref 65, .ref 66, .ref 67, .int (gi 8), .ref 68, .ref 69, .ref 70, .ref 71, .ref 72, .ref 73, .ref 74, .ref 75, .ref 76, .ref 77, .ref 78, .ref 79, .ref 80, .ref 81, .int m, .ref 82, .ref 83, .ref 84, .int a, .int b, .ref 85, .int v42, .ref 86, .ref 87]))) ∧ ∃ (fs os : List Int32) (m : Nat), sq_ck gi ga fs os m ∧ ex_X (ga 15) (ga 27) fs os (gi 0).toInt.toNat (gi 1).toInt.toNat m v.toInt a.toInt b.toInt) := by
                        intro n115
                        induction n115 with
                        | zero => intro l108 w109 hI110 hh111 h112 h113 h114 t117 t118 t119 t120 t121 hm116; exact absurd hm116 (Nat.not_lt_zero _)
                        | succ n115 ih121_115 =>
                          intro l108 w109 hI110 hh111 h112 h113 h114 t117 t118 t119 t120 t121 hm116
                          refine v_iload_n rfl rfl ?_
                          refine v_aload_n rfl rfl ?_
                          refine v_get rfl h112 rfl ?_
                          refine r_icmp_ge rfl (fun t122 => ?_) (fun t122 => ?_)
                          · refine r_iinc rfl rfl (by decide) (by omega) (by omega) (fun z123 z123e => ?_)
                            refine v_goto rfl ?_
                            exact ih109_100 z123 (.int l108) w109 hI110 hh111 h112 h113 h114 (by omega) (by omega) (by omega) (by
                                intro j l hj hl hm
                                by_cases e : j < l92.toInt.toNat
                                · exact t105 j l e hl hm
                                · have e2 : j = l92.toInt.toNat := by omega
                                  subst e2
                                  exact t121 l hl (by omega)) (by omega)
                          · refine v_aload_n rfl rfl ?_
                            refine v_callV rfl (W_X12_showPlain_59_x v15 v16 v17 v18 v19 (-9 : Int32) (-9 : Int32) v22 os24 fs23 (by omega) (by omega) (by omega) (by omega) (by omega) (by omega) (by omega) (by omega) (by omega) (by omega) h112 h113 os24l os24r h114 fs23l fs23r hR hI110 hh111) rfl rfl h112 rfl rfl (by omega) (fun rv w124 hq125 => ?_)
                            obtain ⟨rfl, hI127, hh128, ⟨sh129, h130, h131, h132, h133, sh129l, sh129f⟩⟩ := hq125
                            skip
                            refine v_aload_n rfl rfl ?_
                            refine v_iload_n rfl rfl ?_
                            refine v_iload_n rfl rfl ?_
                            refine v_callV rfl (W_X12_cross_59_x l92 l108 v15 v16 v17 v18 v19 (-9 : Int32) (-9 : Int32) v22 os24 fs23 sh129 (by omega) (by omega) (by omega) (by omega) (by omega) (by omega) (by omega) (by omega) (by omega) (by omega) (by omega) (by omega) (by omega) (by omega) h130 h131 os24l os24r h132 fs23l fs23r h133 sh129l hR hI127 hh128) rfl rfl h130 rfl rfl (by omega) (fun rv w134 hq135 => ?_)
                            obtain ⟨rfl, hI137, hh138, ⟨sh139, h140, h141, h142, h143, sh139l, sh139f⟩⟩ := hq135
                            refine v_aload_n rfl rfl ?_
                            refine v_callV rfl (W_X12_isShown_59_x sh139 h143 sh139l hR hI137) rfl rfl h140 rfl rfl (by omega) (fun rv w144 hq145 => ?_)
                            obtain ⟨⟨z146, rfl, z146p0, z146p1, z146p2⟩, rfl⟩ := hq145
                            have z146i := ex_m3 (ds := (ga 15)) (cl := (ga 27)) (i := l92.toInt.toNat) (n := l108.toInt.toNat) (by omega) (by omega) sh129f (show l92.toInt = _ by omega) (show l108.toInt = _ by omega) sh139f
                            refine r_if_eq rfl (fun t147 => ?_) (fun t147 => ?_)
                            · refine r_iinc rfl rfl (by decide) (by omega) (by omega) (fun z148 z148e => ?_)
                              refine v_goto rfl ?_
                              exact ih121_115 z148 w134 hI137 hh138 h140 h141 h142 (by omega) (by omega) (by omega) (by omega) (by
                                  intro l h1 h2
                                  by_cases e : l < l108.toInt.toNat
                                  · exact t121 l h1 e
                                  · have e2 : l = l108.toInt.toNat := by omega
                                    subst e2
                                    intro h
                                    rcases z146p2 with ⟨g1, g2⟩ | ⟨g1, g2⟩
                                    · omega
                                    · exact g2 (z146i.mpr h)) (by omega)
                            · refine v_aload_n rfl rfl ?_
                              refine v_iload_n rfl rfl ?_
                              refine v_put rfl h140 rfl (Nat.le_of_ble_eq_true rfl) ?_
                              refine r_gen (w' := w134.set 59 (.inr (12, [.int (gi 0), .int (gi 1), .ref 60, .int (gi 2), .int v15, .int v16, .int v17, .ref 61, .ref 62, .ref 63, .int (gi 5), .int (gi 3), .int (gi 4), .int (gi 6), .int v18, .int (gi 7), .ref 64, .ref 65, .ref 66, .ref 67, .int (gi 8), .ref 68, .ref 69, .ref 70, .ref 71, .ref 72, .ref 73, .ref 74, .ref 75, .ref 76, .ref 77, .ref 78, .ref 79, .ref 80, .ref 81, .int v19, .ref 82, .ref 83, .ref 84, .int l92, .int (-9 : Int32), .ref 85, .int v22, .ref 86, .ref 87]))) (fun w149 e150 => ?_)
                              have hI151 : pm_IM gi ga w149 := by rw [e150]; exact hI137.set 59 (by decide) (by decide) (by decide) (by decide) ⟨v15, v16, v17, v18, v19, l92, (-9 : Int32), v22, ⟨((show v15.toInt = 0 ∨ v15.toInt = 1 by omega).imp i_eq.mpr i_eq.mpr), v15e⟩, ⟨⟨by omega, by omega⟩, v16e⟩, ⟨⟨by omega, by omega⟩, v17e⟩, ⟨by omega, by omega⟩, ⟨by omega, by omega⟩, rfl⟩
                              have hh152 : pm_lo w0 w149 := by rw [e150]; exact hh138.set (by decide) _
                              have h153 := r_get_ne e150 (show 59 ≠ 80 by decide) h141
                              have h154 := r_get_ne e150 (show 59 ≠ 81 by decide) h142
                              have h155 := r_get_ne e150 (show 59 ≠ 84 by decide) h143
                              have h156 := r_get_eq e150 h140
                              refine v_aload_n rfl rfl ?_
                              refine v_iload_n rfl rfl ?_
                              refine v_put rfl h156 rfl (Nat.le_of_ble_eq_true rfl) ?_
                              refine r_gen (w' := w149.set 59 (.inr (12, [.int (gi 0), .int (gi 1), .ref 60, .int (gi 2), .int v15, .int v16, .int v17, .ref 61, .ref 62, .ref 63, .int (gi 5), .int (gi 3), .int (gi 4), .int (gi 6), .int v18, .int (gi 7), .ref 64, .ref 65, .ref 66, .ref 67, .int (gi 8), .ref 68, .ref 69, .ref 70, .ref 71, .ref 72, .ref 73, .ref 74, .ref 75, .ref 76, .ref 77, .ref 78, .ref 79, .ref 80, .ref 81, .int v19, .ref 82, .ref 83, .ref 84, .int l92, .int l108, .ref 85, .int v22, .ref 86, .ref 87]))) (fun w157 e158 => ?_)
                              have hI159 : pm_IM gi ga w157 := by rw [e158]; exact hI151.set 59 (by decide) (by decide) (by decide) (by decide) ⟨v15, v16, v17, v18, v19, l92, l108, v22, ⟨((show v15.toInt = 0 ∨ v15.toInt = 1 by omega).imp i_eq.mpr i_eq.mpr), v15e⟩, ⟨⟨by omega, by omega⟩, v16e⟩, ⟨⟨by omega, by omega⟩, v17e⟩, ⟨by omega, by omega⟩, ⟨by omega, by omega⟩, rfl⟩
                              have hh160 : pm_lo w0 w157 := by rw [e158]; exact hh152.set (by decide) _
                              have h161 := r_get_ne e158 (show 59 ≠ 80 by decide) h153
                              have h162 := r_get_ne e158 (show 59 ≠ 81 by decide) h154
                              have h163 := r_get_ne e158 (show 59 ≠ 84 by decide) h155
                              have h164 := r_get_eq e158 h156
                              refine v_iconst (v := 3) rfl (by decide) ?_
                              exact v_iret rfl ⟨_, l92, l108, rfl, hI159, hh160, ⟨v15, v16, v17, v18, v19, v22, h164⟩, fs23, os24, _, v19k, Or.inr (Or.inr (Or.inr (Or.inl ⟨(fun g => by rcases z62p2 with ⟨g1, g2⟩ | ⟨g1, g2⟩; (omega); exact g2 (z62i.mpr g)), (fun j hj => t76 j (by omega)), (fun j hj => t90 j (by omega)), l92.toInt.toNat, l108.toInt.toNat, by omega, by omega, (by rcases z146p2 with ⟨g1, g2⟩ | ⟨g1, g2⟩; (exact z146i.mp g2); omega), t105, t121, by omega, by omega, by omega⟩)))⟩
                      exact L115 _ z107 w94 hI95 hh96 h97 h98 h99 (by omega) (by omega) (by omega) (by omega) (by intro l h1 h2; omega) (Nat.lt_add_one _)
                exact L100 _ (0 : Int32) (.null) w79 hI80 hh81 h82 h83 h84 (by omega) (by omega) (by omega) (by intro j l hj; rw [show (0 : Int32).toInt.toNat = 0 from rfl] at hj; omega) (Nat.lt_add_one _)
              · refine v_aload_n rfl rfl ?_
                refine v_callV rfl (W_X12_showPlain_59_x v15 v16 v17 v18 v19 (-9 : Int32) (-9 : Int32) v22 os24 fs23 (by omega) (by omega) (by omega) (by omega) (by omega) (by omega) (by omega) (by omega) (by omega) (by omega) h82 h83 os24l os24r h84 fs23l fs23r hR hI80 hh81) rfl rfl h82 rfl rfl (by omega) (fun rv w165 hq166 => ?_)
                obtain ⟨rfl, hI168, hh169, ⟨sh170, h171, h172, h173, h174, sh170l, sh170f⟩⟩ := hq166
                skip
                refine v_aload_n rfl rfl ?_
                refine v_iload_n rfl rfl ?_
                refine v_callV rfl (W_X12_skip_59_x l78 v15 v16 v17 v18 v19 (-9 : Int32) (-9 : Int32) v22 os24 fs23 sh170 (by omega) (by omega) (by omega) (by omega) (by omega) (by omega) (by omega) (by omega) (by omega) (by omega) (by omega) (by omega) (by omega) h171 h172 os24l os24r h173 fs23l fs23r h174 sh170l hR hI168 hh169) rfl rfl h171 rfl rfl (by omega) (fun rv w175 hq176 => ?_)
                obtain ⟨rfl, hI178, hh179, ⟨sh180, h181, h182, h183, h184, sh180l, sh180f⟩⟩ := hq176
                refine v_aload_n rfl rfl ?_
                refine v_callV rfl (W_X12_isShown_59_x sh180 h184 sh180l hR hI178) rfl rfl h181 rfl rfl (by omega) (fun rv w185 hq186 => ?_)
                obtain ⟨⟨z187, rfl, z187p0, z187p1, z187p2⟩, rfl⟩ := hq186
                have z187i := ex_m2 (ds := (ga 15)) (cl := (ga 27)) (i := l78.toInt.toNat) (a := l78) (by omega) (by omega) sh170f rfl sh180f
                refine r_if_eq rfl (fun t188 => ?_) (fun t188 => ?_)
                · refine r_iinc rfl rfl (by decide) (by omega) (by omega) (fun z189 z189e => ?_)
                  refine v_goto rfl ?_
                  exact ih70_85 z189 w175 hI178 hh179 h181 h182 h183 (by omega) (by omega) (by omega) (by
                      intro j hj
                      by_cases e : j < l78.toInt.toNat
                      · exact t90 j e
                      · have e2 : j = l78.toInt.toNat := by omega
                        subst e2
                        intro h
                        rcases z187p2 with ⟨g1, g2⟩ | ⟨g1, g2⟩
                        · omega
                        · exact g2 (z187i.mpr h)) (by omega)
                · refine v_aload_n rfl rfl ?_
                  refine v_iload_n rfl rfl ?_
                  refine v_put rfl h181 rfl (Nat.le_of_ble_eq_true rfl) ?_
                  refine r_gen (w' := w175.set 59 (.inr (12, [.int (gi 0), .int (gi 1), .ref 60, .int (gi 2), .int v15, .int v16, .int v17, .ref 61, .ref 62, .ref 63, .int (gi 5), .int (gi 3), .int (gi 4), .int (gi 6), .int v18, .int (gi 7), .ref 64, .ref 65, .ref 66, .ref 67, .int (gi 8), .ref 68, .ref 69, .ref 70, .ref 71, .ref 72, .ref 73, .ref 74, .ref 75, .ref 76, .ref 77, .ref 78, .ref 79, .ref 80, .ref 81, .int v19, .ref 82, .ref 83, .ref 84, .int l78, .int (-9 : Int32), .ref 85, .int v22, .ref 86, .ref 87]))) (fun w190 e191 => ?_)
                  have hI192 : pm_IM gi ga w190 := by rw [e191]; exact hI178.set 59 (by decide) (by decide) (by decide) (by decide) ⟨v15, v16, v17, v18, v19, l78, (-9 : Int32), v22, ⟨((show v15.toInt = 0 ∨ v15.toInt = 1 by omega).imp i_eq.mpr i_eq.mpr), v15e⟩, ⟨⟨by omega, by omega⟩, v16e⟩, ⟨⟨by omega, by omega⟩, v17e⟩, ⟨by omega, by omega⟩, ⟨by omega, by omega⟩, rfl⟩
                  have hh193 : pm_lo w0 w190 := by rw [e191]; exact hh179.set (by decide) _
                  have h194 := r_get_ne e191 (show 59 ≠ 80 by decide) h182
                  have h195 := r_get_ne e191 (show 59 ≠ 81 by decide) h183
                  have h196 := r_get_ne e191 (show 59 ≠ 84 by decide) h184
                  have h197 := r_get_eq e191 h181
                  refine v_iconst (v := 2) rfl (by decide) ?_
                  exact v_iret rfl ⟨_, l78, (-9 : Int32), rfl, hI192, hh193, ⟨v15, v16, v17, v18, v19, v22, h197⟩, fs23, os24, _, v19k, Or.inr (Or.inr (Or.inl ⟨(fun g => by rcases z62p2 with ⟨g1, g2⟩ | ⟨g1, g2⟩; (omega); exact g2 (z62i.mpr g)), (fun j hj => t76 j (by omega)), l78.toInt.toNat, by omega, (by rcases z187p2 with ⟨g1, g2⟩ | ⟨g1, g2⟩; (exact z187i.mp g2); omega), t90, by omega, by omega, by omega⟩))⟩
          exact L85 _ (0 : Int32) w65 hI66 hh67 h68 h69 h70 (by omega) (by omega) (by omega) (by intro j hj; rw [show (0 : Int32).toInt.toNat = 0 from rfl] at hj; omega) (Nat.lt_add_one _)
        · refine v_aload_n rfl rfl ?_
          refine v_callV rfl (W_X12_showPlain_59_x v15 v16 v17 v18 v19 (-9 : Int32) (-9 : Int32) v22 os24 fs23 (by omega) (by omega) (by omega) (by omega) (by omega) (by omega) (by omega) (by omega) (by omega) (by omega) h68 h69 os24l os24r h70 fs23l fs23r hR hI66 hh67) rfl rfl h68 rfl rfl (by omega) (fun rv w198 hq199 => ?_)
          obtain ⟨rfl, hI201, hh202, ⟨sh203, h204, h205, h206, h207, sh203l, sh203f⟩⟩ := hq199
          skip
          refine v_aload_n rfl rfl ?_
          refine v_iload_n rfl rfl ?_
          refine v_callV rfl (W_X12_breakCord_59_x l64 v15 v16 v17 v18 v19 (-9 : Int32) (-9 : Int32) v22 os24 fs23 sh203 (by omega) (by omega) (by omega) (by omega) (by omega) (by omega) (by omega) (by omega) (by omega) (by omega) h204 h205 os24l os24r h206 fs23l fs23r h207 sh203l hR hI201 hh202) rfl rfl h204 rfl rfl (by omega) (fun rv w208 hq209 => ?_)
          obtain ⟨rfl, hI211, hh212, ⟨sh213, h214, h215, h216, h217, sh213l, sh213f⟩⟩ := hq209
          refine v_aload_n rfl rfl ?_
          refine v_callV rfl (W_X12_isShown_59_x sh213 h217 sh213l hR hI211) rfl rfl h214 rfl rfl (by omega) (fun rv w218 hq219 => ?_)
          obtain ⟨⟨z220, rfl, z220p0, z220p1, z220p2⟩, rfl⟩ := hq219
          have z220i := ex_m1 (ds := (ga 15)) (cl := (ga 27)) (i := l64.toInt.toNat) (by omega) (by omega) sh203f (show l64.toInt = _ by omega) sh213f
          refine r_if_eq rfl (fun t221 => ?_) (fun t221 => ?_)
          · refine r_iinc rfl rfl (by decide) (by omega) (by omega) (fun z222 z222e => ?_)
            refine v_goto rfl ?_
            exact ih31_71 z222 w208 hI211 hh212 h214 h215 h216 (by omega) (by omega) (by omega) (by
                intro j hj
                by_cases e : j < l64.toInt.toNat
                · exact t76 j e
                · have e2 : j = l64.toInt.toNat := by omega
                  subst e2
                  intro h
                  rcases z220p2 with ⟨g1, g2⟩ | ⟨g1, g2⟩
                  · omega
                  · exact g2 (z220i.mpr h)) (by omega)
          · refine v_aload_n rfl rfl ?_
            refine v_iload_n rfl rfl ?_
            refine v_put rfl h214 rfl (Nat.le_of_ble_eq_true rfl) ?_
            refine r_gen (w' := w208.set 59 (.inr (12, [.int (gi 0), .int (gi 1), .ref 60, .int (gi 2), .int v15, .int v16, .int v17, .ref 61, .ref 62, .ref 63, .int (gi 5), .int (gi 3), .int (gi 4), .int (gi 6), .int v18, .int (gi 7), .ref 64, .ref 65, .ref 66, .ref 67, .int (gi 8), .ref 68, .ref 69, .ref 70, .ref 71, .ref 72, .ref 73, .ref 74, .ref 75, .ref 76, .ref 77, .ref 78, .ref 79, .ref 80, .ref 81, .int v19, .ref 82, .ref 83, .ref 84, .int l64, .int (-9 : Int32), .ref 85, .int v22, .ref 86, .ref 87]))) (fun w223 e224 => ?_)
            have hI225 : pm_IM gi ga w223 := by rw [e224]; exact hI211.set 59 (by decide) (by decide) (by decide) (by decide) ⟨v15, v16, v17, v18, v19, l64, (-9 : Int32), v22, ⟨((show v15.toInt = 0 ∨ v15.toInt = 1 by omega).imp i_eq.mpr i_eq.mpr), v15e⟩, ⟨⟨by omega, by omega⟩, v16e⟩, ⟨⟨by omega, by omega⟩, v17e⟩, ⟨by omega, by omega⟩, ⟨by omega, by omega⟩, rfl⟩
            have hh226 : pm_lo w0 w223 := by rw [e224]; exact hh212.set (by decide) _
            have h227 := r_get_ne e224 (show 59 ≠ 80 by decide) h215
            have h228 := r_get_ne e224 (show 59 ≠ 81 by decide) h216
            have h229 := r_get_ne e224 (show 59 ≠ 84 by decide) h217
            have h230 := r_get_eq e224 h214
            refine v_iconst (v := 1) rfl (by decide) ?_
            exact v_iret rfl ⟨_, l64, (-9 : Int32), rfl, hI225, hh226, ⟨v15, v16, v17, v18, v19, v22, h230⟩, fs23, os24, _, v19k, Or.inr (Or.inl ⟨(fun g => by rcases z62p2 with ⟨g1, g2⟩ | ⟨g1, g2⟩; (omega); exact g2 (z62i.mpr g)), l64.toInt.toNat, by omega, (by rcases z220p2 with ⟨g1, g2⟩ | ⟨g1, g2⟩; (exact z220i.mp g2); omega), t76, by omega, by omega, by omega⟩)⟩
    exact L71 _ (0 : Int32) w50 hI53 hh54 h56 h57 h58 (by omega) (by omega) (by omega) (by intro j hj; rw [show (0 : Int32).toInt.toNat = 0 from rfl] at hj; omega) (Nat.lt_add_one _)
  · refine v_iconst (v := 0) rfl (by decide) ?_
    exact v_iret rfl ⟨_, (-9 : Int32), (-9 : Int32), rfl, hI53, hh54, ⟨v15, v16, v17, v18, v19, v22, h56⟩, fs23, os24, _, v19k, Or.inl ⟨(by rcases z62p2 with ⟨g1, g2⟩ | ⟨g1, g2⟩; (exact z62i.mp g2); omega), by omega, by omega, by omega⟩⟩
set_option maxRecDepth 100000 in
theorem W_X12_explained_59_x {sc : pm_S} {w w0 : pm_W} {gi : Nat → Int32} {ga : Nat → List Int32} (q : Int32)  (hR : pm_Rg gi ga) (hI : pm_IM gi ga w) (hh : pm_lo w0 w) : pm_Mt sc 4 159 3 [.ref 59, .int q] w (fun rv w' => ∃ v : Int32, rv = some (.int v) ∧ ex_P gi ga (gi 12) (gi 13) (ga 27) q v ∧ pm_IM gi ga w' ∧ pm_lo w0 w') := by
  intro d hd
  obtain ⟨g0a, g0b⟩ := hR.n0
  obtain ⟨g1a, g1b⟩ := hR.n1
  obtain ⟨g2a, g2b⟩ := hR.n2
  obtain ⟨g3a, g3b⟩ := hR.n3
  obtain ⟨g4a, g4b⟩ := hR.n4
  obtain ⟨g5a, g5b⟩ := hR.n5
  obtain ⟨g6a, g6b⟩ := hR.n6
  obtain ⟨g7a, g7b⟩ := hR.n7
  obtain ⟨g8a, g8b⟩ := hR.n8
  have km3 : (-3 : Int32).toInt = -3 := by decide
  have km2 : (-2 : Int32).toInt = -2 := by decide
  have k0 : (0 : Int32).toInt = 0 := by decide
  have k1 : (1 : Int32).toInt = 1 := by decide
  have k2 : (2 : Int32).toInt = 2 := by decide
  show pm_V sc d 159 0 [.ref 59, .int q, .null] [] w _
  refine v_iload_n rfl rfl ?_
  refine v_iconst (v := 0) rfl (by decide) ?_
  refine v_iconst (v := 2) rfl (by decide) ?_
  refine v_callS rfl (W_X12_in q (0 : Int32) (2 : Int32) hR hI) rfl rfl rfl rfl rfl (by omega) (fun rv w1 hq2 => ?_)
  obtain ⟨⟨z3, rfl, z3p0⟩, rfl⟩ := hq2
  refine r_if_ne rfl (fun t4 => ?_) (fun t4 => ?_)
  · refine v_aload_n rfl rfl ?_
    obtain ⟨v6, v7, v8, v9, v10, v11, v12, v13, ⟨v6z, v6e⟩, ⟨⟨v7a, v7b⟩, v7e⟩, ⟨⟨v8a, v8b⟩, v8e⟩, ⟨v10a, v10b⟩, ⟨v13a, v13b⟩, h5⟩ := hI.2.1 59 (by decide) (by decide)
    have v6z := v6z.imp i_eq.mp i_eq.mp
    rw [i_0, i_1] at v6z
    refine v_get rfl h5 rfl ?_
    have hv9 := congrArg Int32.toInt v6e
    refine r_if_eq rfl (fun t14 => ?_) (fun t14 => ?_)
    · refine v_aload_n rfl rfl ?_
      refine v_bipush (v := (-3)) rfl (by decide) ?_
      refine v_callV rfl (c_M_refuse (-3 : Int32) (by unfold pm_isR; first | decide | exact Or.inl rfl) hR hI) rfl rfl h5 rfl rfl (by omega) (fun rv w15 hq16 => ?_)
      obtain ⟨rfl, hI17, hh18x⟩ := hq16
      have hI17 : pm_IM gi ga w15 := hI17
      have hh18 := hh.tr hh18x
      exact v_iret rfl ⟨_, rfl, Or.inr (Or.inl ⟨by omega, by omega, by omega⟩), hI17, hh18⟩
    · refine v_aload_n rfl rfl ?_
      refine v_get rfl h5 rfl ?_
      have hv0 := congrArg Int32.toInt v7e
      refine v_aload_n rfl rfl ?_
      refine v_get rfl h5 rfl ?_
      refine r_icmp_ne rfl (fun t19 => ?_) (fun t19 => ?_)
      · refine v_aload_n rfl rfl ?_
        refine v_bipush (v := (-3)) rfl (by decide) ?_
        refine v_callV rfl (c_M_refuse (-3 : Int32) (by unfold pm_isR; first | decide | exact Or.inl rfl) hR hI) rfl rfl h5 rfl rfl (by omega) (fun rv w20 hq21 => ?_)
        obtain ⟨rfl, hI22, hh23x⟩ := hq21
        have hI22 : pm_IM gi ga w20 := hI22
        have hh23 := hh.tr hh23x
        exact v_iret rfl ⟨_, rfl, Or.inr (Or.inl ⟨by omega, by omega, by omega⟩), hI22, hh23⟩
      · refine v_aload_n rfl rfl ?_
        refine v_get rfl h5 rfl ?_
        have hv1 := congrArg Int32.toInt v8e
        refine v_aload_n rfl rfl ?_
        refine v_get rfl h5 rfl ?_
        refine r_icmp_eq rfl (fun t24 => ?_) (fun t24 => ?_)
        · refine v_aload_n rfl rfl ?_
          refine v_callV rfl (W_X12_findKind_59_x hR hI hh) rfl rfl h5 rfl rfl (by omega) (fun rv w25 hq26 => ?_)
          obtain ⟨k9, a9, b9, rfl, hI9, hh9, ⟨v4, v5, v6, v14, m9, v42, h9⟩, fs9, os9, n9, ck9, x9⟩ := hq26
          refine v_istore_n rfl (Nat.le_of_ble_eq_true rfl) ?_
          refine v_iload_n rfl rfl ?_
          refine r_if_ne rfl (fun t27 => ?_) (fun t27 => ?_)
          · refine v_iload_n rfl rfl ?_
            refine v_iconst (v := 1) rfl (by decide) ?_
            refine r_icmp_ne rfl (fun t28 => ?_) (fun t28 => ?_)
            · refine v_aload_n rfl rfl ?_
              refine v_get rfl h9 rfl ?_
              exact v_iret rfl ⟨_, rfl, Or.inr (Or.inr ⟨by omega, by omega, fs9, os9, n9, k9.toInt, a9.toInt, b9.toInt, ck9, x9, (by unfold ex_pick; rw [if_neg (by omega), if_neg (by omega)])⟩), hI9, hh9⟩
            · refine v_aload_n rfl rfl ?_
              refine v_get rfl h9 rfl ?_
              refine v_goto rfl ?_
              exact v_iret rfl ⟨_, rfl, Or.inr (Or.inr ⟨by omega, by omega, fs9, os9, n9, k9.toInt, a9.toInt, b9.toInt, ck9, x9, (by unfold ex_pick; rw [if_neg (by omega), if_pos (by omega)])⟩), hI9, hh9⟩
          · refine v_iload_n rfl rfl ?_
            refine v_goto rfl ?_
            exact v_iret rfl ⟨_, rfl, Or.inr (Or.inr ⟨by omega, by omega, fs9, os9, n9, k9.toInt, a9.toInt, b9.toInt, ck9, x9, (by unfold ex_pick; rw [if_pos (by omega)])⟩), hI9, hh9⟩
        · refine v_aload_n rfl rfl ?_
          refine v_bipush (v := (-3)) rfl (by decide) ?_
          refine v_callV rfl (c_M_refuse (-3 : Int32) (by unfold pm_isR; first | decide | exact Or.inl rfl) hR hI) rfl rfl h5 rfl rfl (by omega) (fun rv w29 hq30 => ?_)
          obtain ⟨rfl, hI31, hh32x⟩ := hq30
          have hI31 : pm_IM gi ga w29 := hI31
          have hh32 := hh.tr hh32x
          exact v_iret rfl ⟨_, rfl, Or.inr (Or.inl ⟨by omega, by omega, by omega⟩), hI31, hh32⟩
  · refine v_aload_n rfl rfl ?_
    refine v_bipush (v := (-2)) rfl (by decide) ?_
    obtain ⟨v34, v35, v36, v37, v38, v39, v40, v41, ⟨v34z, v34e⟩, ⟨⟨v35a, v35b⟩, v35e⟩, ⟨⟨v36a, v36b⟩, v36e⟩, ⟨v38a, v38b⟩, ⟨v41a, v41b⟩, h33⟩ := hI.2.1 59 (by decide) (by decide)
    have v34z := v34z.imp i_eq.mp i_eq.mp
    rw [i_0, i_1] at v34z
    refine v_callV rfl (c_M_refuse (-2 : Int32) (by unfold pm_isR; first | decide | exact Or.inl rfl) hR hI) rfl rfl h33 rfl rfl (by omega) (fun rv w42 hq43 => ?_)
    obtain ⟨rfl, hI44, hh45x⟩ := hq43
    have hI44 : pm_IM gi ga w42 := hI44
    have hh45 := hh.tr hh45x
    exact v_iret rfl ⟨_, rfl, Or.inl ⟨by omega, by omega⟩, hI44, hh45⟩

