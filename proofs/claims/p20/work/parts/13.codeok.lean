set_option maxHeartbeats 4000000 in
set_option maxRecDepth 100000 in
/-- every entry of the code's table was checked -/
theorem pm_code_ok {n pc : Nat} {e : pm_E} (h : pm_code n pc = some e) : ∃ M, pm_mt[n]? = some M ∧ pm_chk M.1 M.2.1 M.2.2.2.1 M.2.2.2.2.1 pc e = true := by
  unfold pm_code at h
  cases hb93 : Nat.blt n 93 with
  | true =>
    rw [hb93, cond_true] at h
    cases hb46 : Nat.blt n 46 with
    | true =>
      rw [hb46, cond_true] at h
      cases hb23 : Nat.blt n 23 with
      | true =>
        rw [hb23, cond_true] at h
        cases hb11 : Nat.blt n 11 with
        | true =>
          rw [hb11, cond_true] at h
          cases hb5 : Nat.blt n 5 with
          | true =>
            rw [hb5, cond_true] at h
            cases hb2 : Nat.blt n 2 with
            | true =>
              rw [hb2, cond_true] at h
              cases hb1 : Nat.blt n 1 with
              | true =>
                rw [hb1, cond_true] at h
                have h0 := pm_bif h
                have e1 := Nat.eq_of_beq_eq_true h0.1
                subst e1
                have q := pm_k0 h0.2
                exact ⟨(yX0_init, cX0_init, 1, none, 0, 29), rfl, q⟩
              | false =>
                rw [hb1, cond_false] at h
                have h0 := pm_bif h
                have e1 := Nat.eq_of_beq_eq_true h0.1
                subst e1
                have q := pm_k1 h0.2
                exact ⟨(yX0_bringHome, cX0_bringHome, 4, none, 0, 27), rfl, q⟩
            | false =>
              rw [hb2, cond_false] at h
              cases hb3 : Nat.blt n 3 with
              | true =>
                rw [hb3, cond_true] at h
                have h0 := pm_bif h
                have e1 := Nat.eq_of_beq_eq_true h0.1
                subst e1
                have q := pm_k2 h0.2
                exact ⟨(yX0_owed, cX0_owed, 2, (some .int), 0, 21), rfl, q⟩
              | false =>
                rw [hb3, cond_false] at h
                cases hb4 : Nat.blt n 4 with
                | true =>
                  rw [hb4, cond_true] at h
                  have h0 := pm_bif h
                  have e1 := Nat.eq_of_beq_eq_true h0.1
                  subst e1
                  have q := pm_k3 h0.2
                  exact ⟨(yX1_init, cX1_init, 1, none, 1, 26), rfl, q⟩
                | false =>
                  rw [hb4, cond_false] at h
                  have h0 := pm_bif h
                  have e1 := Nat.eq_of_beq_eq_true h0.1
                  subst e1
                  have q := pm_k4 h0.2
                  exact ⟨(yX1_holdWarp, cX1_holdWarp, 2, none, 1, 19), rfl, q⟩
          | false =>
            rw [hb5, cond_false] at h
            cases hb8 : Nat.blt n 8 with
            | true =>
              rw [hb8, cond_true] at h
              cases hb6 : Nat.blt n 6 with
              | true =>
                rw [hb6, cond_true] at h
                have h0 := pm_bif h
                have e1 := Nat.eq_of_beq_eq_true h0.1
                subst e1
                have q := pm_k5 h0.2
                exact ⟨(yX1_holdCards, cX1_holdCards, 2, none, 1, 14), rfl, q⟩
              | false =>
                rw [hb6, cond_false] at h
                cases hb7 : Nat.blt n 7 with
                | true =>
                  rw [hb7, cond_true] at h
                  have h0 := pm_bif h
                  have e1 := Nat.eq_of_beq_eq_true h0.1
                  subst e1
                  have q := pm_k6 h0.2
                  exact ⟨(yX1_wrongFor, cX1_wrongFor, 2, (some .int), 1, 25), rfl, q⟩
                | false =>
                  rw [hb7, cond_false] at h
                  have h0 := pm_bif h
                  have e1 := Nat.eq_of_beq_eq_true h0.1
                  subst e1
                  have q := pm_k7 h0.2
                  exact ⟨(yX1_cardsUnlike, cX1_cardsUnlike, 2, (some .int), 1, 31), rfl, q⟩
            | false =>
              rw [hb8, cond_false] at h
              cases hb9 : Nat.blt n 9 with
              | true =>
                rw [hb9, cond_true] at h
                have h0 := pm_bif h
                have e1 := Nat.eq_of_beq_eq_true h0.1
                subst e1
                have q := pm_k8 h0.2
                exact ⟨(yX2_init, cX2_init, 1, none, 2, 52), rfl, q⟩
              | false =>
                rw [hb9, cond_false] at h
                cases hb10 : Nat.blt n 10 with
                | true =>
                  rw [hb10, cond_true] at h
                  have h0 := pm_bif h
                  have e1 := Nat.eq_of_beq_eq_true h0.1
                  subst e1
                  have q := pm_k9 h0.2
                  exact ⟨(yX2_find, cX2_find, 3, none, 2, 93), rfl, q⟩
                | false =>
                  rw [hb10, cond_false] at h
                  have h0 := pm_bif h
                  have e1 := Nat.eq_of_beq_eq_true h0.1
                  subst e1
                  have q := pm_k10 h0.2
                  exact ⟨(yX2_goOn, cX2_goOn, 9, none, 2, 144), rfl, q⟩
        | false =>
          rw [hb11, cond_false] at h
          cases hb17 : Nat.blt n 17 with
          | true =>
            rw [hb17, cond_true] at h
            cases hb14 : Nat.blt n 14 with
            | true =>
              rw [hb14, cond_true] at h
              cases hb12 : Nat.blt n 12 with
              | true =>
                rw [hb12, cond_true] at h
                have h0 := pm_bif h
                have e1 := Nat.eq_of_beq_eq_true h0.1
                subst e1
                have q := pm_k11 h0.2
                exact ⟨(yX3_init, cX3_init, 1, none, 3, 37), rfl, q⟩
              | false =>
                rw [hb12, cond_false] at h
                cases hb13 : Nat.blt n 13 with
                | true =>
                  rw [hb13, cond_true] at h
                  have h0 := pm_bif h
                  have e1 := Nat.eq_of_beq_eq_true h0.1
                  subst e1
                  have q := pm_k12 h0.2
                  exact ⟨(yX3_readFrom, cX3_readFrom, 4, none, 3, 82), rfl, q⟩
                | false =>
                  rw [hb13, cond_false] at h
                  have h0 := pm_bif h
                  have e1 := Nat.eq_of_beq_eq_true h0.1
                  subst e1
                  have q := pm_k13 h0.2
                  exact ⟨(yX3_thatShow, cX3_thatShow, 6, (some .int), 3, 49), rfl, q⟩
            | false =>
              rw [hb14, cond_false] at h
              cases hb15 : Nat.blt n 15 with
              | true =>
                rw [hb15, cond_true] at h
                have h0 := pm_bif h
                have e1 := Nat.eq_of_beq_eq_true h0.1
                subst e1
                have q := pm_k14 h0.2
                exact ⟨(yX3_cordLike, cX3_cordLike, 4, (some .int), 3, 42), rfl, q⟩
              | false =>
                rw [hb15, cond_false] at h
                cases hb16 : Nat.blt n 16 with
                | true =>
                  rw [hb16, cond_true] at h
                  have h0 := pm_bif h
                  have e1 := Nat.eq_of_beq_eq_true h0.1
                  subst e1
                  have q := pm_k15 h0.2
                  exact ⟨(yX4_init, cX4_init, 1, none, 4, 45), rfl, q⟩
                | false =>
                  rw [hb16, cond_false] at h
                  have h0 := pm_bif h
                  have e1 := Nat.eq_of_beq_eq_true h0.1
                  subst e1
                  have q := pm_k16 h0.2
                  exact ⟨(yX4_find, cX4_find, 4, none, 4, 71), rfl, q⟩
          | false =>
            rw [hb17, cond_false] at h
            cases hb20 : Nat.blt n 20 with
            | true =>
              rw [hb20, cond_true] at h
              cases hb18 : Nat.blt n 18 with
              | true =>
                rw [hb18, cond_true] at h
                have h0 := pm_bif h
                have e1 := Nat.eq_of_beq_eq_true h0.1
                subst e1
                have q := pm_k17 h0.2
                exact ⟨(yX4_found, cX4_found, 4, none, 4, 16), rfl, q⟩
              | false =>
                rw [hb18, cond_false] at h
                cases hb19 : Nat.blt n 19 with
                | true =>
                  rw [hb19, cond_true] at h
                  have h0 := pm_bif h
                  have e1 := Nat.eq_of_beq_eq_true h0.1
                  subst e1
                  have q := pm_k18 h0.2
                  exact ⟨(yX4_findBroken, cX4_findBroken, 3, (some .boolean), 4, 54), rfl, q⟩
                | false =>
                  rw [hb19, cond_false] at h
                  have h0 := pm_bif h
                  have e1 := Nat.eq_of_beq_eq_true h0.1
                  subst e1
                  have q := pm_k19 h0.2
                  exact ⟨(yX4_findSkipped, cX4_findSkipped, 4, (some .boolean), 4, 55), rfl, q⟩
            | false =>
              rw [hb20, cond_false] at h
              cases hb21 : Nat.blt n 21 with
              | true =>
                rw [hb21, cond_true] at h
                have h0 := pm_bif h
                have e1 := Nat.eq_of_beq_eq_true h0.1
                subst e1
                have q := pm_k20 h0.2
                exact ⟨(yX4_findCrossed, cX4_findCrossed, 4, (some .boolean), 4, 70), rfl, q⟩
              | false =>
                rw [hb21, cond_false] at h
                cases hb22 : Nat.blt n 22 with
                | true =>
                  rw [hb22, cond_true] at h
                  have h0 := pm_bif h
                  have e1 := Nat.eq_of_beq_eq_true h0.1
                  subst e1
                  have q := pm_k21 h0.2
                  exact ⟨(yX4_fitsByColumns, cX4_fitsByColumns, 6, (some .boolean), 4, 67), rfl, q⟩
                | false =>
                  rw [hb22, cond_false] at h
                  have h0 := pm_bif h
                  have e1 := Nat.eq_of_beq_eq_true h0.1
                  subst e1
                  have q := pm_k22 h0.2
                  exact ⟨(yX4_fitsByRows, cX4_fitsByRows, 7, (some .boolean), 4, 64), rfl, q⟩
      | false =>
        rw [hb23, cond_false] at h
        cases hb34 : Nat.blt n 34 with
        | true =>
          rw [hb34, cond_true] at h
          cases hb28 : Nat.blt n 28 with
          | true =>
            rw [hb28, cond_true] at h
            cases hb25 : Nat.blt n 25 with
            | true =>
              rw [hb25, cond_true] at h
              cases hb24 : Nat.blt n 24 with
              | true =>
                rw [hb24, cond_true] at h
                have h0 := pm_bif h
                have e1 := Nat.eq_of_beq_eq_true h0.1
                subst e1
                have q := pm_k23 h0.2
                exact ⟨(yX5_init, cX5_init, 1, none, 5, 26), rfl, q⟩
              | false =>
                rw [hb24, cond_false] at h
                have h0 := pm_bif h
                have e1 := Nat.eq_of_beq_eq_true h0.1
                subst e1
                have q := pm_k24 h0.2
                exact ⟨(yX5_tell, cX5_tell, 4, none, 5, 22), rfl, q⟩
            | false =>
              rw [hb25, cond_false] at h
              cases hb26 : Nat.blt n 26 with
              | true =>
                rw [hb26, cond_true] at h
                have h0 := pm_bif h
                have e1 := Nat.eq_of_beq_eq_true h0.1
                subst e1
                have q := pm_k25 h0.2
                exact ⟨(yX5_forget, cX5_forget, 2, none, 5, 21), rfl, q⟩
              | false =>
                rw [hb26, cond_false] at h
                cases hb27 : Nat.blt n 27 with
                | true =>
                  rw [hb27, cond_true] at h
                  have h0 := pm_bif h
                  have e1 := Nat.eq_of_beq_eq_true h0.1
                  subst e1
                  have q := pm_k26 h0.2
                  exact ⟨(yX5_howMany, cX5_howMany, 3, (some .int), 5, 29), rfl, q⟩
                | false =>
                  rw [hb27, cond_false] at h
                  have h0 := pm_bif h
                  have e1 := Nat.eq_of_beq_eq_true h0.1
                  subst e1
                  have q := pm_k27 h0.2
                  exact ⟨(yX5_columnShown, cX5_columnShown, 6, (some .int), 5, 112), rfl, q⟩
          | false =>
            rw [hb28, cond_false] at h
            cases hb31 : Nat.blt n 31 with
            | true =>
              rw [hb31, cond_true] at h
              cases hb29 : Nat.blt n 29 with
              | true =>
                rw [hb29, cond_true] at h
                have h0 := pm_bif h
                have e1 := Nat.eq_of_beq_eq_true h0.1
                subst e1
                have q := pm_k28 h0.2
                exact ⟨(yX5_pickShown, cX5_pickShown, 4, (some .int), 5, 44), rfl, q⟩
              | false =>
                rw [hb29, cond_false] at h
                cases hb30 : Nat.blt n 30 with
                | true =>
                  rw [hb30, cond_true] at h
                  have h0 := pm_bif h
                  have e1 := Nat.eq_of_beq_eq_true h0.1
                  subst e1
                  have q := pm_k29 h0.2
                  exact ⟨(yX6_init, cX6_init, 1, none, 6, 44), rfl, q⟩
                | false =>
                  rw [hb30, cond_false] at h
                  have h0 := pm_bif h
                  have e1 := Nat.eq_of_beq_eq_true h0.1
                  subst e1
                  have q := pm_k30 h0.2
                  exact ⟨(yX6_readFrom, cX6_readFrom, 7, none, 6, 110), rfl, q⟩
            | false =>
              rw [hb31, cond_false] at h
              cases hb32 : Nat.blt n 32 with
              | true =>
                rw [hb32, cond_true] at h
                have h0 := pm_bif h
                have e1 := Nat.eq_of_beq_eq_true h0.1
                subst e1
                have q := pm_k31 h0.2
                exact ⟨(yX6_longerThan, cX6_longerThan, 4, (some .int), 6, 33), rfl, q⟩
              | false =>
                rw [hb32, cond_false] at h
                cases hb33 : Nat.blt n 33 with
                | true =>
                  rw [hb33, cond_true] at h
                  have h0 := pm_bif h
                  have e1 := Nat.eq_of_beq_eq_true h0.1
                  subst e1
                  have q := pm_k32 h0.2
                  exact ⟨(yX6_longest, cX6_longest, 3, (some .int), 6, 31), rfl, q⟩
                | false =>
                  rw [hb33, cond_false] at h
                  have h0 := pm_bif h
                  have e1 := Nat.eq_of_beq_eq_true h0.1
                  subst e1
                  have q := pm_k33 h0.2
                  exact ⟨(yX6_leastMending, cX6_leastMending, 4, (some .int), 6, 71), rfl, q⟩
        | false =>
          rw [hb34, cond_false] at h
          cases hb40 : Nat.blt n 40 with
          | true =>
            rw [hb40, cond_true] at h
            cases hb37 : Nat.blt n 37 with
            | true =>
              rw [hb37, cond_true] at h
              cases hb35 : Nat.blt n 35 with
              | true =>
                rw [hb35, cond_true] at h
                have h0 := pm_bif h
                have e1 := Nat.eq_of_beq_eq_true h0.1
                subst e1
                have q := pm_k34 h0.2
                exact ⟨(yX6_closedCost, cX6_closedCost, 2, (some .int), 6, 19), rfl, q⟩
              | false =>
                rw [hb35, cond_false] at h
                cases hb36 : Nat.blt n 36 with
                | true =>
                  rw [hb36, cond_true] at h
                  have h0 := pm_bif h
                  have e1 := Nat.eq_of_beq_eq_true h0.1
                  subst e1
                  have q := pm_k35 h0.2
                  exact ⟨(yX6_openCost, cX6_openCost, 5, (some .int), 6, 63), rfl, q⟩
                | false =>
                  rw [hb36, cond_false] at h
                  have h0 := pm_bif h
                  have e1 := Nat.eq_of_beq_eq_true h0.1
                  subst e1
                  have q := pm_k36 h0.2
                  exact ⟨(yX6_cheapestAhead, cX6_cheapestAhead, 5, (some .int), 6, 40), rfl, q⟩
            | false =>
              rw [hb37, cond_false] at h
              cases hb38 : Nat.blt n 38 with
              | true =>
                rw [hb38, cond_true] at h
                have h0 := pm_bif h
                have e1 := Nat.eq_of_beq_eq_true h0.1
                subst e1
                have q := pm_k37 h0.2
                exact ⟨(yX6_costOf, cX6_costOf, 2, (some .int), 6, 7), rfl, q⟩
              | false =>
                rw [hb38, cond_false] at h
                cases hb39 : Nat.blt n 39 with
                | true =>
                  rw [hb39, cond_true] at h
                  have h0 := pm_bif h
                  have e1 := Nat.eq_of_beq_eq_true h0.1
                  subst e1
                  have q := pm_k38 h0.2
                  exact ⟨(yX6_addRun, cX6_addRun, 2, none, 6, 31), rfl, q⟩
                | false =>
                  rw [hb39, cond_false] at h
                  have h0 := pm_bif h
                  have e1 := Nat.eq_of_beq_eq_true h0.1
                  subst e1
                  have q := pm_k39 h0.2
                  exact ⟨(yX6_firstStart, cX6_firstStart, 4, (some .int), 6, 31), rfl, q⟩
          | false =>
            rw [hb40, cond_false] at h
            cases hb43 : Nat.blt n 43 with
            | true =>
              rw [hb43, cond_true] at h
              cases hb41 : Nat.blt n 41 with
              | true =>
                rw [hb41, cond_true] at h
                have h0 := pm_bif h
                have e1 := Nat.eq_of_beq_eq_true h0.1
                subst e1
                have q := pm_k40 h0.2
                exact ⟨(yX6_isStart, cX6_isStart, 4, (some .boolean), 6, 30), rfl, q⟩
              | false =>
                rw [hb41, cond_false] at h
                cases hb42 : Nat.blt n 42 with
                | true =>
                  rw [hb42, cond_true] at h
                  have h0 := pm_bif h
                  have e1 := Nat.eq_of_beq_eq_true h0.1
                  subst e1
                  have q := pm_k41 h0.2
                  exact ⟨(yX7_init, cX7_init, 1, none, 7, 34), rfl, q⟩
                | false =>
                  rw [hb42, cond_false] at h
                  have h0 := pm_bif h
                  have e1 := Nat.eq_of_beq_eq_true h0.1
                  subst e1
                  have q := pm_k42 h0.2
                  exact ⟨(yX7_give, cX7_give, 5, (some .int), 7, 43), rfl, q⟩
            | false =>
              rw [hb43, cond_false] at h
              cases hb44 : Nat.blt n 44 with
              | true =>
                rw [hb44, cond_true] at h
                have h0 := pm_bif h
                have e1 := Nat.eq_of_beq_eq_true h0.1
                subst e1
                have q := pm_k43 h0.2
                exact ⟨(yX7_wasteOn, cX7_wasteOn, 3, (some .int), 7, 21), rfl, q⟩
              | false =>
                rw [hb44, cond_false] at h
                cases hb45 : Nat.blt n 45 with
                | true =>
                  rw [hb45, cond_true] at h
                  have h0 := pm_bif h
                  have e1 := Nat.eq_of_beq_eq_true h0.1
                  subst e1
                  have q := pm_k44 h0.2
                  exact ⟨(yX7_priceOn, cX7_priceOn, 3, (some .int), 7, 21), rfl, q⟩
                | false =>
                  rw [hb45, cond_false] at h
                  have h0 := pm_bif h
                  have e1 := Nat.eq_of_beq_eq_true h0.1
                  subst e1
                  have q := pm_k45 h0.2
                  exact ⟨(yX7_inForceOn, cX7_inForceOn, 4, (some .int), 7, 52), rfl, q⟩
    | false =>
      rw [hb46, cond_false] at h
      cases hb69 : Nat.blt n 69 with
      | true =>
        rw [hb69, cond_true] at h
        cases hb57 : Nat.blt n 57 with
        | true =>
          rw [hb57, cond_true] at h
          cases hb51 : Nat.blt n 51 with
          | true =>
            rw [hb51, cond_true] at h
            cases hb48 : Nat.blt n 48 with
            | true =>
              rw [hb48, cond_true] at h
              cases hb47 : Nat.blt n 47 with
              | true =>
                rw [hb47, cond_true] at h
                have h0 := pm_bif h
                have e1 := Nat.eq_of_beq_eq_true h0.1
                subst e1
                have q := pm_k46 h0.2
                exact ⟨(yX8_init, cX8_init, 1, none, 8, 18), rfl, q⟩
              | false =>
                rw [hb47, cond_false] at h
                have h0 := pm_bif h
                have e1 := Nat.eq_of_beq_eq_true h0.1
                subst e1
                have q := pm_k47 h0.2
                exact ⟨(yX8_readColumns, cX8_readColumns, 6, none, 8, 68), rfl, q⟩
            | false =>
              rw [hb48, cond_false] at h
              cases hb49 : Nat.blt n 49 with
              | true =>
                rw [hb49, cond_true] at h
                have h0 := pm_bif h
                have e1 := Nat.eq_of_beq_eq_true h0.1
                subst e1
                have q := pm_k48 h0.2
                exact ⟨(yX8_readRows, cX8_readRows, 2, none, 8, 26), rfl, q⟩
              | false =>
                rw [hb49, cond_false] at h
                cases hb50 : Nat.blt n 50 with
                | true =>
                  rw [hb50, cond_true] at h
                  have h0 := pm_bif h
                  have e1 := Nat.eq_of_beq_eq_true h0.1
                  subst e1
                  have q := pm_k49 h0.2
                  exact ⟨(yX8_leastSpan, cX8_leastSpan, 2, (some .int), 8, 40), rfl, q⟩
                | false =>
                  rw [hb50, cond_false] at h
                  have h0 := pm_bif h
                  have e1 := Nat.eq_of_beq_eq_true h0.1
                  subst e1
                  have q := pm_k50 h0.2
                  exact ⟨(yX8_leastMirror, cX8_leastMirror, 2, (some .int), 8, 29), rfl, q⟩
          | false =>
            rw [hb51, cond_false] at h
            cases hb54 : Nat.blt n 54 with
            | true =>
              rw [hb54, cond_true] at h
              cases hb52 : Nat.blt n 52 with
              | true =>
                rw [hb52, cond_true] at h
                have h0 := pm_bif h
                have e1 := Nat.eq_of_beq_eq_true h0.1
                subst e1
                have q := pm_k51 h0.2
                exact ⟨(yX8_repeatsBy, cX8_repeatsBy, 3, (some .boolean), 8, 45), rfl, q⟩
              | false =>
                rw [hb52, cond_false] at h
                cases hb53 : Nat.blt n 53 with
                | true =>
                  rw [hb53, cond_true] at h
                  have h0 := pm_bif h
                  have e1 := Nat.eq_of_beq_eq_true h0.1
                  subst e1
                  have q := pm_k52 h0.2
                  exact ⟨(yX8_mirrorsAt, cX8_mirrorsAt, 3, (some .boolean), 8, 54), rfl, q⟩
                | false =>
                  rw [hb53, cond_false] at h
                  have h0 := pm_bif h
                  have e1 := Nat.eq_of_beq_eq_true h0.1
                  subst e1
                  have q := pm_k53 h0.2
                  exact ⟨(yX9_init, cX9_init, 1, none, 9, 63), rfl, q⟩
            | false =>
              rw [hb54, cond_false] at h
              cases hb55 : Nat.blt n 55 with
              | true =>
                rw [hb55, cond_true] at h
                have h0 := pm_bif h
                have e1 := Nat.eq_of_beq_eq_true h0.1
                subst e1
                have q := pm_k54 h0.2
                exact ⟨(yX9_takeOrder, cX9_takeOrder, 5, (some .int), 9, 52), rfl, q⟩
              | false =>
                rw [hb55, cond_false] at h
                cases hb56 : Nat.blt n 56 with
                | true =>
                  rw [hb56, cond_true] at h
                  have h0 := pm_bif h
                  have e1 := Nat.eq_of_beq_eq_true h0.1
                  subst e1
                  have q := pm_k55 h0.2
                  exact ⟨(yX9_isOpen, cX9_isOpen, 2, (some .boolean), 9, 15), rfl, q⟩
                | false =>
                  rw [hb56, cond_false] at h
                  have h0 := pm_bif h
                  have e1 := Nat.eq_of_beq_eq_true h0.1
                  subst e1
                  have q := pm_k56 h0.2
                  exact ⟨(yX9_openOrders, cX9_openOrders, 3, (some .int), 9, 31), rfl, q⟩
        | false =>
          rw [hb57, cond_false] at h
          cases hb63 : Nat.blt n 63 with
          | true =>
            rw [hb63, cond_true] at h
            cases hb60 : Nat.blt n 60 with
            | true =>
              rw [hb60, cond_true] at h
              cases hb58 : Nat.blt n 58 with
              | true =>
                rw [hb58, cond_true] at h
                have h0 := pm_bif h
                have e1 := Nat.eq_of_beq_eq_true h0.1
                subst e1
                have q := pm_k57 h0.2
                exact ⟨(yX9_daysFor, cX9_daysFor, 4, (some .int), 9, 40), rfl, q⟩
              | false =>
                rw [hb58, cond_false] at h
                cases hb59 : Nat.blt n 59 with
                | true =>
                  rw [hb59, cond_true] at h
                  have h0 := pm_bif h
                  have e1 := Nat.eq_of_beq_eq_true h0.1
                  subst e1
                  have q := pm_k58 h0.2
                  exact ⟨(yX9_lateOf, cX9_lateOf, 3, (some .int), 9, 13), rfl, q⟩
                | false =>
                  rw [hb59, cond_false] at h
                  have h0 := pm_bif h
                  have e1 := Nat.eq_of_beq_eq_true h0.1
                  subst e1
                  have q := pm_k59 h0.2
                  exact ⟨(yX9_weaveOrder, cX9_weaveOrder, 2, (some .int), 9, 48), rfl, q⟩
            | false =>
              rw [hb60, cond_false] at h
              cases hb61 : Nat.blt n 61 with
              | true =>
                rw [hb61, cond_true] at h
                have h0 := pm_bif h
                have e1 := Nat.eq_of_beq_eq_true h0.1
                subst e1
                have q := pm_k60 h0.2
                exact ⟨(yX9_paidBy, cX9_paidBy, 4, (some .int), 9, 48), rfl, q⟩
              | false =>
                rw [hb61, cond_false] at h
                cases hb62 : Nat.blt n 62 with
                | true =>
                  rw [hb62, cond_true] at h
                  have h0 := pm_bif h
                  have e1 := Nat.eq_of_beq_eq_true h0.1
                  subst e1
                  have q := pm_k61 h0.2
                  exact ⟨(yX10_init, cX10_init, 1, none, 10, 25), rfl, q⟩
                | false =>
                  rw [hb62, cond_false] at h
                  have h0 := pm_bif h
                  have e1 := Nat.eq_of_beq_eq_true h0.1
                  subst e1
                  have q := pm_k62 h0.2
                  exact ⟨(yX10_has, cX10_has, 3, (some .boolean), 10, 28), rfl, q⟩
          | false =>
            rw [hb63, cond_false] at h
            cases hb66 : Nat.blt n 66 with
            | true =>
              rw [hb66, cond_true] at h
              cases hb64 : Nat.blt n 64 with
              | true =>
                rw [hb64, cond_true] at h
                have h0 := pm_bif h
                have e1 := Nat.eq_of_beq_eq_true h0.1
                subst e1
                have q := pm_k63 h0.2
                exact ⟨(yX10_colourAt, cX10_colourAt, 3, (some .int), 10, 16), rfl, q⟩
              | false =>
                rw [hb64, cond_false] at h
                cases hb65 : Nat.blt n 65 with
                | true =>
                  rw [hb65, cond_true] at h
                  have h0 := pm_bif h
                  have e1 := Nat.eq_of_beq_eq_true h0.1
                  subst e1
                  have q := pm_k64 h0.2
                  exact ⟨(yX10_paint, cX10_paint, 5, (some .int), 10, 29), rfl, q⟩
                | false =>
                  rw [hb65, cond_false] at h
                  have h0 := pm_bif h
                  have e1 := Nat.eq_of_beq_eq_true h0.1
                  subst e1
                  have q := pm_k65 h0.2
                  exact ⟨(yX10_lay, cX10_lay, 3, none, 10, 19), rfl, q⟩
            | false =>
              rw [hb66, cond_false] at h
              cases hb67 : Nat.blt n 67 with
              | true =>
                rw [hb67, cond_true] at h
                have h0 := pm_bif h
                have e1 := Nat.eq_of_beq_eq_true h0.1
                subst e1
                have q := pm_k66 h0.2
                exact ⟨(yX10_become, cX10_become, 2, none, 10, 32), rfl, q⟩
              | false =>
                rw [hb67, cond_false] at h
                cases hb68 : Nat.blt n 68 with
                | true =>
                  rw [hb68, cond_true] at h
                  have h0 := pm_bif h
                  have e1 := Nat.eq_of_beq_eq_true h0.1
                  subst e1
                  have q := pm_k67 h0.2
                  exact ⟨(yX10_isAsLargeAs, cX10_isAsLargeAs, 2, (some .boolean), 10, 28), rfl, q⟩
                | false =>
                  rw [hb68, cond_false] at h
                  have h0 := pm_bif h
                  have e1 := Nat.eq_of_beq_eq_true h0.1
                  subst e1
                  have q := pm_k68 h0.2
                  exact ⟨(yX10_differences, cX10_differences, 5, (some .int), 10, 58), rfl, q⟩
      | false =>
        rw [hb69, cond_false] at h
        cases hb81 : Nat.blt n 81 with
        | true =>
          rw [hb81, cond_true] at h
          cases hb75 : Nat.blt n 75 with
          | true =>
            rw [hb75, cond_true] at h
            cases hb72 : Nat.blt n 72 with
            | true =>
              rw [hb72, cond_true] at h
              cases hb70 : Nat.blt n 70 with
              | true =>
                rw [hb70, cond_true] at h
                have h0 := pm_bif h
                have e1 := Nat.eq_of_beq_eq_true h0.1
                subst e1
                have q := pm_k69 h0.2
                exact ⟨(yX10_coloursOfPick, cX10_coloursOfPick, 4, (some .int), 10, 31), rfl, q⟩
              | false =>
                rw [hb70, cond_false] at h
                cases hb71 : Nat.blt n 71 with
                | true =>
                  rw [hb71, cond_true] at h
                  have h0 := pm_bif h
                  have e1 := Nat.eq_of_beq_eq_true h0.1
                  subst e1
                  have q := pm_k70 h0.2
                  exact ⟨(yX11_init, cX11_init, 2, none, 11, 179), rfl, q⟩
                | false =>
                  rw [hb71, cond_false] at h
                  have h0 := pm_bif h
                  have e1 := Nat.eq_of_beq_eq_true h0.1
                  subst e1
                  have q := pm_k71 h0.2
                  exact ⟨(yX11_paper, cX11_paper, 3, (some .int), 11, 47), rfl, q⟩
            | false =>
              rw [hb72, cond_false] at h
              cases hb73 : Nat.blt n 73 with
              | true =>
                rw [hb73, cond_true] at h
                have h0 := pm_bif h
                have e1 := Nat.eq_of_beq_eq_true h0.1
                subst e1
                have q := pm_k72 h0.2
                exact ⟨(yX11_square, cX11_square, 4, (some .int), 11, 36), rfl, q⟩
              | false =>
                rw [hb73, cond_false] at h
                cases hb74 : Nat.blt n 74 with
                | true =>
                  rw [hb74, cond_true] at h
                  have h0 := pm_bif h
                  have e1 := Nat.eq_of_beq_eq_true h0.1
                  subst e1
                  have q := pm_k73 h0.2
                  exact ⟨(yX11_fill, cX11_fill, 6, (some .int), 11, 97), rfl, q⟩
                | false =>
                  rw [hb74, cond_false] at h
                  have h0 := pm_bif h
                  have e1 := Nat.eq_of_beq_eq_true h0.1
                  subst e1
                  have q := pm_k74 h0.2
                  exact ⟨(yX11_at, cX11_at, 3, (some .int), 11, 28), rfl, q⟩
          | false =>
            rw [hb75, cond_false] at h
            cases hb78 : Nat.blt n 78 with
            | true =>
              rw [hb78, cond_true] at h
              cases hb76 : Nat.blt n 76 with
              | true =>
                rw [hb76, cond_true] at h
                have h0 := pm_bif h
                have e1 := Nat.eq_of_beq_eq_true h0.1
                subst e1
                have q := pm_k75 h0.2
                exact ⟨(yX11_span, cX11_span, 2, (some .int), 11, 28), rfl, q⟩
              | false =>
                rw [hb76, cond_false] at h
                cases hb77 : Nat.blt n 77 with
                | true =>
                  rw [hb77, cond_true] at h
                  have h0 := pm_bif h
                  have e1 := Nat.eq_of_beq_eq_true h0.1
                  subst e1
                  have q := pm_k76 h0.2
                  exact ⟨(yX11_mirror, cX11_mirror, 2, (some .int), 11, 28), rfl, q⟩
                | false =>
                  rw [hb77, cond_false] at h
                  have h0 := pm_bif h
                  have e1 := Nat.eq_of_beq_eq_true h0.1
                  subst e1
                  have q := pm_k77 h0.2
                  exact ⟨(yX11_cords, cX11_cords, 1, (some .int), 11, 19), rfl, q⟩
            | false =>
              rw [hb78, cond_false] at h
              cases hb79 : Nat.blt n 79 with
              | true =>
                rw [hb79, cond_true] at h
                have h0 := pm_bif h
                have e1 := Nat.eq_of_beq_eq_true h0.1
                subst e1
                have q := pm_k78 h0.2
                exact ⟨(yX11_cord, cX11_cord, 2, (some .int), 11, 41), rfl, q⟩
              | false =>
                rw [hb79, cond_false] at h
                cases hb80 : Nat.blt n 80 with
                | true =>
                  rw [hb80, cond_true] at h
                  have h0 := pm_bif h
                  have e1 := Nat.eq_of_beq_eq_true h0.1
                  subst e1
                  have q := pm_k79 h0.2
                  exact ⟨(yX11_pull, cX11_pull, 3, (some .int), 11, 52), rfl, q⟩
                | false =>
                  rw [hb80, cond_false] at h
                  have h0 := pm_bif h
                  have e1 := Nat.eq_of_beq_eq_true h0.1
                  subst e1
                  have q := pm_k80 h0.2
                  exact ⟨(yX11_pulls, cX11_pulls, 3, (some .int), 11, 37), rfl, q⟩
        | false =>
          rw [hb81, cond_false] at h
          cases hb87 : Nat.blt n 87 with
          | true =>
            rw [hb87, cond_true] at h
            cases hb84 : Nat.blt n 84 with
            | true =>
              rw [hb84, cond_true] at h
              cases hb82 : Nat.blt n 82 with
              | true =>
                rw [hb82, cond_true] at h
                have h0 := pm_bif h
                have e1 := Nat.eq_of_beq_eq_true h0.1
                subst e1
                have q := pm_k81 h0.2
                exact ⟨(yX11_pullOf, cX11_pullOf, 4, (some .int), 11, 54), rfl, q⟩
              | false =>
                rw [hb82, cond_false] at h
                cases hb83 : Nat.blt n 83 with
                | true =>
                  rw [hb83, cond_true] at h
                  have h0 := pm_bif h
                  have e1 := Nat.eq_of_beq_eq_true h0.1
                  subst e1
                  have q := pm_k82 h0.2
                  exact ⟨(yX11_limit, cX11_limit, 3, (some .int), 11, 37), rfl, q⟩
                | false =>
                  rw [hb83, cond_false] at h
                  have h0 := pm_bif h
                  have e1 := Nat.eq_of_beq_eq_true h0.1
                  subst e1
                  have q := pm_k83 h0.2
                  exact ⟨(yX11_floats, cX11_floats, 3, (some .int), 11, 73), rfl, q⟩
            | false =>
              rw [hb84, cond_false] at h
              cases hb85 : Nat.blt n 85 with
              | true =>
                rw [hb85, cond_true] at h
                have h0 := pm_bif h
                have e1 := Nat.eq_of_beq_eq_true h0.1
                subst e1
                have q := pm_k84 h0.2
                exact ⟨(yX11_mend, cX11_mend, 2, (some .int), 11, 44), rfl, q⟩
              | false =>
                rw [hb85, cond_false] at h
                cases hb86 : Nat.blt n 86 with
                | true =>
                  rw [hb86, cond_true] at h
                  have h0 := pm_bif h
                  have e1 := Nat.eq_of_beq_eq_true h0.1
                  subst e1
                  have q := pm_k85 h0.2
                  exact ⟨(yX11_fault, cX11_fault, 4, (some .int), 11, 45), rfl, q⟩
                | false =>
                  rw [hb86, cond_false] at h
                  have h0 := pm_bif h
                  have e1 := Nat.eq_of_beq_eq_true h0.1
                  subst e1
                  have q := pm_k86 h0.2
                  exact ⟨(yX11_clear, cX11_clear, 2, (some .int), 11, 17), rfl, q⟩
          | false =>
            rw [hb87, cond_false] at h
            cases hb90 : Nat.blt n 90 with
            | true =>
              rw [hb90, cond_true] at h
              cases hb88 : Nat.blt n 88 with
              | true =>
                rw [hb88, cond_true] at h
                have h0 := pm_bif h
                have e1 := Nat.eq_of_beq_eq_true h0.1
                subst e1
                have q := pm_k87 h0.2
                exact ⟨(yX11_weave, cX11_weave, 5, (some .int), 11, 146), rfl, q⟩
              | false =>
                rw [hb88, cond_false] at h
                cases hb89 : Nat.blt n 89 with
                | true =>
                  rw [hb89, cond_true] at h
                  have h0 := pm_bif h
                  have e1 := Nat.eq_of_beq_eq_true h0.1
                  subst e1
                  have q := pm_k88 h0.2
                  exact ⟨(yX11_cloth, cX11_cloth, 3, (some .int), 11, 42), rfl, q⟩
                | false =>
                  rw [hb89, cond_false] at h
                  have h0 := pm_bif h
                  have e1 := Nat.eq_of_beq_eq_true h0.1
                  subst e1
                  have q := pm_k89 h0.2
                  exact ⟨(yX11_see, cX11_see, 4, (some .int), 11, 50), rfl, q⟩
            | false =>
              rw [hb90, cond_false] at h
              cases hb91 : Nat.blt n 91 with
              | true =>
                rw [hb91, cond_true] at h
                have h0 := pm_bif h
                have e1 := Nat.eq_of_beq_eq_true h0.1
                subst e1
                have q := pm_k90 h0.2
                exact ⟨(yX11_explained, cX11_explained, 2, (some .int), 11, 124), rfl, q⟩
              | false =>
                rw [hb91, cond_false] at h
                cases hb92 : Nat.blt n 92 with
                | true =>
                  rw [hb92, cond_true] at h
                  have h0 := pm_bif h
                  have e1 := Nat.eq_of_beq_eq_true h0.1
                  subst e1
                  have q := pm_k91 h0.2
                  exact ⟨(yX11_set, cX11_set, 4, (some .int), 11, 112), rfl, q⟩
                | false =>
                  rw [hb92, cond_false] at h
                  have h0 := pm_bif h
                  have e1 := Nat.eq_of_beq_eq_true h0.1
                  subst e1
                  have q := pm_k92 h0.2
                  exact ⟨(yX11_order, cX11_order, 4, (some .int), 11, 83), rfl, q⟩
  | false =>
    rw [hb93, cond_false] at h
    cases hb140 : Nat.blt n 140 with
    | true =>
      rw [hb140, cond_true] at h
      cases hb116 : Nat.blt n 116 with
      | true =>
        rw [hb116, cond_true] at h
        cases hb104 : Nat.blt n 104 with
        | true =>
          rw [hb104, cond_true] at h
          cases hb98 : Nat.blt n 98 with
          | true =>
            rw [hb98, cond_true] at h
            cases hb95 : Nat.blt n 95 with
            | true =>
              rw [hb95, cond_true] at h
              cases hb94 : Nat.blt n 94 with
              | true =>
                rw [hb94, cond_true] at h
                have h0 := pm_bif h
                have e1 := Nat.eq_of_beq_eq_true h0.1
                subst e1
                have q := pm_k93 h0.2
                exact ⟨(yX11_best, cX11_best, 1, (some .int), 11, 38), rfl, q⟩
              | false =>
                rw [hb94, cond_false] at h
                have h0 := pm_bif h
                have e1 := Nat.eq_of_beq_eq_true h0.1
                subst e1
                have q := pm_k94 h0.2
                exact ⟨(yX11_bestAt, cX11_bestAt, 2, (some .int), 11, 59), rfl, q⟩
            | false =>
              rw [hb95, cond_false] at h
              cases hb96 : Nat.blt n 96 with
              | true =>
                rw [hb96, cond_true] at h
                have h0 := pm_bif h
                have e1 := Nat.eq_of_beq_eq_true h0.1
                subst e1
                have q := pm_k95 h0.2
                exact ⟨(yX11_work, cX11_work, 2, (some .int), 11, 91), rfl, q⟩
              | false =>
                rw [hb96, cond_false] at h
                cases hb97 : Nat.blt n 97 with
                | true =>
                  rw [hb97, cond_true] at h
                  have h0 := pm_bif h
                  have e1 := Nat.eq_of_beq_eq_true h0.1
                  subst e1
                  have q := pm_k96 h0.2
                  exact ⟨(yX11_days, cX11_days, 2, (some .int), 11, 63), rfl, q⟩
                | false =>
                  rw [hb97, cond_false] at h
                  have h0 := pm_bif h
                  have e1 := Nat.eq_of_beq_eq_true h0.1
                  subst e1
                  have q := pm_k97 h0.2
                  exact ⟨(yX11_law, cX11_law, 4, (some .int), 11, 84), rfl, q⟩
          | false =>
            rw [hb98, cond_false] at h
            cases hb101 : Nat.blt n 101 with
            | true =>
              rw [hb101, cond_true] at h
              cases hb99 : Nat.blt n 99 with
              | true =>
                rw [hb99, cond_true] at h
                have h0 := pm_bif h
                have e1 := Nat.eq_of_beq_eq_true h0.1
                subst e1
                have q := pm_k98 h0.2
                exact ⟨(yX11_silk, cX11_silk, 6, (some .int), 11, 113), rfl, q⟩
              | false =>
                rw [hb99, cond_false] at h
                cases hb100 : Nat.blt n 100 with
                | true =>
                  rw [hb100, cond_true] at h
                  have h0 := pm_bif h
                  have e1 := Nat.eq_of_beq_eq_true h0.1
                  subst e1
                  have q := pm_k99 h0.2
                  exact ⟨(yX11_account, cX11_account, 3, (some .int), 11, 102), rfl, q⟩
                | false =>
                  rw [hb100, cond_false] at h
                  have h0 := pm_bif h
                  have e1 := Nat.eq_of_beq_eq_true h0.1
                  subst e1
                  have q := pm_k100 h0.2
                  exact ⟨(yX11_warp, cX11_warp, 3, (some .int), 11, 71), rfl, q⟩
            | false =>
              rw [hb101, cond_false] at h
              cases hb102 : Nat.blt n 102 with
              | true =>
                rw [hb102, cond_true] at h
                have h0 := pm_bif h
                have e1 := Nat.eq_of_beq_eq_true h0.1
                subst e1
                have q := pm_k101 h0.2
                exact ⟨(yX11_cards, cX11_cards, 2, (some .int), 11, 48), rfl, q⟩
              | false =>
                rw [hb102, cond_false] at h
                cases hb103 : Nat.blt n 103 with
                | true =>
                  rw [hb103, cond_true] at h
                  have h0 := pm_bif h
                  have e1 := Nat.eq_of_beq_eq_true h0.1
                  subst e1
                  have q := pm_k102 h0.2
                  exact ⟨(yX11_hang, cX11_hang, 3, (some .int), 11, 67), rfl, q⟩
                | false =>
                  rw [hb103, cond_false] at h
                  have h0 := pm_bif h
                  have e1 := Nat.eq_of_beq_eq_true h0.1
                  subst e1
                  have q := pm_k103 h0.2
                  exact ⟨(yX11_cut, cX11_cut, 4, (some .int), 11, 97), rfl, q⟩
        | false =>
          rw [hb104, cond_false] at h
          cases hb110 : Nat.blt n 110 with
          | true =>
            rw [hb110, cond_true] at h
            cases hb107 : Nat.blt n 107 with
            | true =>
              rw [hb107, cond_true] at h
              cases hb105 : Nat.blt n 105 with
              | true =>
                rw [hb105, cond_true] at h
                have h0 := pm_bif h
                have e1 := Nat.eq_of_beq_eq_true h0.1
                subst e1
                have q := pm_k104 h0.2
                exact ⟨(yX11_join, cX11_join, 6, (some .int), 11, 146), rfl, q⟩
              | false =>
                rw [hb105, cond_false] at h
                cases hb106 : Nat.blt n 106 with
                | true =>
                  rw [hb106, cond_true] at h
                  have h0 := pm_bif h
                  have e1 := Nat.eq_of_beq_eq_true h0.1
                  subst e1
                  have q := pm_k105 h0.2
                  exact ⟨(yX11_beamOf, cX11_beamOf, 3, (some .int), 11, 81), rfl, q⟩
                | false =>
                  rw [hb106, cond_false] at h
                  have h0 := pm_bif h
                  have e1 := Nat.eq_of_beq_eq_true h0.1
                  subst e1
                  have q := pm_k106 h0.2
                  exact ⟨(yX11_orderOf, cX11_orderOf, 3, (some .int), 11, 99), rfl, q⟩
            | false =>
              rw [hb107, cond_false] at h
              cases hb108 : Nat.blt n 108 with
              | true =>
                rw [hb108, cond_true] at h
                have h0 := pm_bif h
                have e1 := Nat.eq_of_beq_eq_true h0.1
                subst e1
                have q := pm_k107 h0.2
                exact ⟨(yX11_count, cX11_count, 2, (some .int), 11, 137), rfl, q⟩
              | false =>
                rw [hb108, cond_false] at h
                cases hb109 : Nat.blt n 109 with
                | true =>
                  rw [hb109, cond_true] at h
                  have h0 := pm_bif h
                  have e1 := Nat.eq_of_beq_eq_true h0.1
                  subst e1
                  have q := pm_k108 h0.2
                  exact ⟨(yX11_refuse, cX11_refuse, 2, (some .int), 11, 26), rfl, q⟩
                | false =>
                  rw [hb109, cond_false] at h
                  have h0 := pm_bif h
                  have e1 := Nat.eq_of_beq_eq_true h0.1
                  subst e1
                  have q := pm_k109 h0.2
                  exact ⟨(yX11_refusalsOf, cX11_refusalsOf, 2, (some .int), 11, 23), rfl, q⟩
          | false =>
            rw [hb110, cond_false] at h
            cases hb113 : Nat.blt n 113 with
            | true =>
              rw [hb113, cond_true] at h
              cases hb111 : Nat.blt n 111 with
              | true =>
                rw [hb111, cond_true] at h
                have h0 := pm_bif h
                have e1 := Nat.eq_of_beq_eq_true h0.1
                subst e1
                have q := pm_k110 h0.2
                exact ⟨(yX11_readLines, cX11_readLines, 2, none, 11, 30), rfl, q⟩
              | false =>
                rw [hb111, cond_false] at h
                cases hb112 : Nat.blt n 112 with
                | true =>
                  rw [hb112, cond_true] at h
                  have h0 := pm_bif h
                  have e1 := Nat.eq_of_beq_eq_true h0.1
                  subst e1
                  have q := pm_k111 h0.2
                  exact ⟨(yX11_pickAndColour, cX11_pickAndColour, 6, (some .int), 11, 77), rfl, q⟩
                | false =>
                  rw [hb112, cond_false] at h
                  have h0 := pm_bif h
                  have e1 := Nat.eq_of_beq_eq_true h0.1
                  subst e1
                  have q := pm_k112 h0.2
                  exact ⟨(yX11_canBeFault, cX11_canBeFault, 4, (some .boolean), 11, 84), rfl, q⟩
            | false =>
              rw [hb113, cond_false] at h
              cases hb114 : Nat.blt n 114 with
              | true =>
                rw [hb114, cond_true] at h
                have h0 := pm_bif h
                have e1 := Nat.eq_of_beq_eq_true h0.1
                subst e1
                have q := pm_k113 h0.2
                exact ⟨(yX11_isPlace, cX11_isPlace, 2, (some .boolean), 11, 15), rfl, q⟩
              | false =>
                rw [hb114, cond_false] at h
                cases hb115 : Nat.blt n 115 with
                | true =>
                  rw [hb115, cond_true] at h
                  have h0 := pm_bif h
                  have e1 := Nat.eq_of_beq_eq_true h0.1
                  subst e1
                  have q := pm_k114 h0.2
                  exact ⟨(yX11_isColour, cX11_isColour, 1, (some .boolean), 11, 6), rfl, q⟩
                | false =>
                  rw [hb115, cond_false] at h
                  have h0 := pm_bif h
                  have e1 := Nat.eq_of_beq_eq_true h0.1
                  subst e1
                  have q := pm_k115 h0.2
                  exact ⟨(yX11_around, cX11_around, 2, (some .int), 11, 21), rfl, q⟩
      | false =>
        rw [hb116, cond_false] at h
        cases hb128 : Nat.blt n 128 with
        | true =>
          rw [hb128, cond_true] at h
          cases hb122 : Nat.blt n 122 with
          | true =>
            rw [hb122, cond_true] at h
            cases hb119 : Nat.blt n 119 with
            | true =>
              rw [hb119, cond_true] at h
              cases hb117 : Nat.blt n 117 with
              | true =>
                rw [hb117, cond_true] at h
                have h0 := pm_bif h
                have e1 := Nat.eq_of_beq_eq_true h0.1
                subst e1
                have q := pm_k116 h0.2
                exact ⟨(yX12_init, cX12_init, 1, none, 12, 293), rfl, q⟩
              | false =>
                rw [hb117, cond_false] at h
                cases hb118 : Nat.blt n 118 with
                | true =>
                  rw [hb118, cond_true] at h
                  have h0 := pm_bif h
                  have e1 := Nat.eq_of_beq_eq_true h0.1
                  subst e1
                  have q := pm_k117 h0.2
                  exact ⟨(yX12_in, cX12_in, 3, (some .boolean), 12, 16), rfl, q⟩
                | false =>
                  rw [hb118, cond_false] at h
                  have h0 := pm_bif h
                  have e1 := Nat.eq_of_beq_eq_true h0.1
                  subst e1
                  have q := pm_k118 h0.2
                  exact ⟨(yX12_refuse, cX12_refuse, 2, (some .int), 12, 13), rfl, q⟩
            | false =>
              rw [hb119, cond_false] at h
              cases hb120 : Nat.blt n 120 with
              | true =>
                rw [hb120, cond_true] at h
                have h0 := pm_bif h
                have e1 := Nat.eq_of_beq_eq_true h0.1
                subst e1
                have q := pm_k119 h0.2
                exact ⟨(yX12_colour, cX12_colour, 3, (some .int), 12, 12), rfl, q⟩
              | false =>
                rw [hb120, cond_false] at h
                cases hb121 : Nat.blt n 121 with
                | true =>
                  rw [hb121, cond_true] at h
                  have h0 := pm_bif h
                  have e1 := Nat.eq_of_beq_eq_true h0.1
                  subst e1
                  have q := pm_k120 h0.2
                  exact ⟨(yX12_isSquare, cX12_isSquare, 3, (some .boolean), 12, 34), rfl, q⟩
                | false =>
                  rw [hb121, cond_false] at h
                  have h0 := pm_bif h
                  have e1 := Nat.eq_of_beq_eq_true h0.1
                  subst e1
                  have q := pm_k121 h0.2
                  exact ⟨(yX12_paper, cX12_paper, 4, (some .int), 12, 70), rfl, q⟩
          | false =>
            rw [hb122, cond_false] at h
            cases hb125 : Nat.blt n 125 with
            | true =>
              rw [hb125, cond_true] at h
              cases hb123 : Nat.blt n 123 with
              | true =>
                rw [hb123, cond_true] at h
                have h0 := pm_bif h
                have e1 := Nat.eq_of_beq_eq_true h0.1
                subst e1
                have q := pm_k122 h0.2
                exact ⟨(yX12_square, cX12_square, 5, (some .int), 12, 47), rfl, q⟩
              | false =>
                rw [hb123, cond_false] at h
                cases hb124 : Nat.blt n 124 with
                | true =>
                  rw [hb124, cond_true] at h
                  have h0 := pm_bif h
                  have e1 := Nat.eq_of_beq_eq_true h0.1
                  subst e1
                  have q := pm_k123 h0.2
                  exact ⟨(yX12_fill, cX12_fill, 6, (some .int), 12, 89), rfl, q⟩
                | false =>
                  rw [hb124, cond_false] at h
                  have h0 := pm_bif h
                  have e1 := Nat.eq_of_beq_eq_true h0.1
                  subst e1
                  have q := pm_k124 h0.2
                  exact ⟨(yX12_at, cX12_at, 3, (some .int), 12, 24), rfl, q⟩
            | false =>
              rw [hb125, cond_false] at h
              cases hb126 : Nat.blt n 126 with
              | true =>
                rw [hb126, cond_true] at h
                have h0 := pm_bif h
                have e1 := Nat.eq_of_beq_eq_true h0.1
                subst e1
                have q := pm_k125 h0.2
                exact ⟨(yX12_isSame, cX12_isSame, 6, (some .boolean), 12, 83), rfl, q⟩
              | false =>
                rw [hb126, cond_false] at h
                cases hb127 : Nat.blt n 127 with
                | true =>
                  rw [hb127, cond_true] at h
                  have h0 := pm_bif h
                  have e1 := Nat.eq_of_beq_eq_true h0.1
                  subst e1
                  have q := pm_k126 h0.2
                  exact ⟨(yX12_span, cX12_span, 4, (some .int), 12, 73), rfl, q⟩
                | false =>
                  rw [hb127, cond_false] at h
                  have h0 := pm_bif h
                  have e1 := Nat.eq_of_beq_eq_true h0.1
                  subst e1
                  have q := pm_k127 h0.2
                  exact ⟨(yX12_isMirror, cX12_isMirror, 10, (some .boolean), 12, 145), rfl, q⟩
        | false =>
          rw [hb128, cond_false] at h
          cases hb134 : Nat.blt n 134 with
          | true =>
            rw [hb134, cond_true] at h
            cases hb131 : Nat.blt n 131 with
            | true =>
              rw [hb131, cond_true] at h
              cases hb129 : Nat.blt n 129 with
              | true =>
                rw [hb129, cond_true] at h
                have h0 := pm_bif h
                have e1 := Nat.eq_of_beq_eq_true h0.1
                subst e1
                have q := pm_k128 h0.2
                exact ⟨(yX12_mirror, cX12_mirror, 3, (some .int), 12, 66), rfl, q⟩
              | false =>
                rw [hb129, cond_false] at h
                cases hb130 : Nat.blt n 130 with
                | true =>
                  rw [hb130, cond_true] at h
                  have h0 := pm_bif h
                  have e1 := Nat.eq_of_beq_eq_true h0.1
                  subst e1
                  have q := pm_k129 h0.2
                  exact ⟨(yX12_areAlike, cX12_areAlike, 5, (some .boolean), 12, 49), rfl, q⟩
                | false =>
                  rw [hb130, cond_false] at h
                  have h0 := pm_bif h
                  have e1 := Nat.eq_of_beq_eq_true h0.1
                  subst e1
                  have q := pm_k130 h0.2
                  exact ⟨(yX12_findCords, cX12_findCords, 3, none, 12, 118), rfl, q⟩
            | false =>
              rw [hb131, cond_false] at h
              cases hb132 : Nat.blt n 132 with
              | true =>
                rw [hb132, cond_true] at h
                have h0 := pm_bif h
                have e1 := Nat.eq_of_beq_eq_true h0.1
                subst e1
                have q := pm_k131 h0.2
                exact ⟨(yX12_cords, cX12_cords, 1, (some .int), 12, 9), rfl, q⟩
              | false =>
                rw [hb132, cond_false] at h
                cases hb133 : Nat.blt n 133 with
                | true =>
                  rw [hb133, cond_true] at h
                  have h0 := pm_bif h
                  have e1 := Nat.eq_of_beq_eq_true h0.1
                  subst e1
                  have q := pm_k132 h0.2
                  exact ⟨(yX12_cord, cX12_cord, 2, (some .int), 12, 31), rfl, q⟩
                | false =>
                  rw [hb133, cond_false] at h
                  have h0 := pm_bif h
                  have e1 := Nat.eq_of_beq_eq_true h0.1
                  subst e1
                  have q := pm_k133 h0.2
                  exact ⟨(yX12_pullOfPick, cX12_pullOfPick, 5, (some .int), 12, 49), rfl, q⟩
          | false =>
            rw [hb134, cond_false] at h
            cases hb137 : Nat.blt n 137 with
            | true =>
              rw [hb137, cond_true] at h
              cases hb135 : Nat.blt n 135 with
              | true =>
                rw [hb135, cond_true] at h
                have h0 := pm_bif h
                have e1 := Nat.eq_of_beq_eq_true h0.1
                subst e1
                have q := pm_k134 h0.2
                exact ⟨(yX12_pull, cX12_pull, 3, (some .int), 12, 40), rfl, q⟩
              | false =>
                rw [hb135, cond_false] at h
                cases hb136 : Nat.blt n 136 with
                | true =>
                  rw [hb136, cond_true] at h
                  have h0 := pm_bif h
                  have e1 := Nat.eq_of_beq_eq_true h0.1
                  subst e1
                  have q := pm_k135 h0.2
                  exact ⟨(yX12_pullAt, cX12_pullAt, 5, (some .int), 12, 66), rfl, q⟩
                | false =>
                  rw [hb136, cond_false] at h
                  have h0 := pm_bif h
                  have e1 := Nat.eq_of_beq_eq_true h0.1
                  subst e1
                  have q := pm_k136 h0.2
                  exact ⟨(yX12_pulls, cX12_pulls, 1, (some .int), 12, 8), rfl, q⟩
            | false =>
              rw [hb137, cond_false] at h
              cases hb138 : Nat.blt n 138 with
              | true =>
                rw [hb138, cond_true] at h
                have h0 := pm_bif h
                have e1 := Nat.eq_of_beq_eq_true h0.1
                subst e1
                have q := pm_k137 h0.2
                exact ⟨(yX12_pullOf, cX12_pullOf, 4, (some .int), 12, 54), rfl, q⟩
              | false =>
                rw [hb138, cond_false] at h
                cases hb139 : Nat.blt n 139 with
                | true =>
                  rw [hb139, cond_true] at h
                  have h0 := pm_bif h
                  have e1 := Nat.eq_of_beq_eq_true h0.1
                  subst e1
                  have q := pm_k138 h0.2
                  exact ⟨(yX12_limit, cX12_limit, 3, (some .int), 12, 37), rfl, q⟩
                | false =>
                  rw [hb139, cond_false] at h
                  have h0 := pm_bif h
                  have e1 := Nat.eq_of_beq_eq_true h0.1
                  subst e1
                  have q := pm_k139 h0.2
                  exact ⟨(yX12_begins, cX12_begins, 3, (some .boolean), 12, 33), rfl, q⟩
    | false =>
      rw [hb140, cond_false] at h
      cases hb163 : Nat.blt n 163 with
      | true =>
        rw [hb163, cond_true] at h
        cases hb151 : Nat.blt n 151 with
        | true =>
          rw [hb151, cond_true] at h
          cases hb145 : Nat.blt n 145 with
          | true =>
            rw [hb145, cond_true] at h
            cases hb142 : Nat.blt n 142 with
            | true =>
              rw [hb142, cond_true] at h
              cases hb141 : Nat.blt n 141 with
              | true =>
                rw [hb141, cond_true] at h
                have h0 := pm_bif h
                have e1 := Nat.eq_of_beq_eq_true h0.1
                subst e1
                have q := pm_k140 h0.2
                exact ⟨(yX12_runFrom, cX12_runFrom, 4, (some .int), 12, 40), rfl, q⟩
              | false =>
                rw [hb141, cond_false] at h
                have h0 := pm_bif h
                have e1 := Nat.eq_of_beq_eq_true h0.1
                subst e1
                have q := pm_k141 h0.2
                exact ⟨(yX12_isPlain, cX12_isPlain, 4, (some .boolean), 12, 45), rfl, q⟩
            | false =>
              rw [hb142, cond_false] at h
              cases hb143 : Nat.blt n 143 with
              | true =>
                rw [hb143, cond_true] at h
                have h0 := pm_bif h
                have e1 := Nat.eq_of_beq_eq_true h0.1
                subst e1
                have q := pm_k142 h0.2
                exact ⟨(yX12_floats, cX12_floats, 8, (some .int), 12, 142), rfl, q⟩
              | false =>
                rw [hb143, cond_false] at h
                cases hb144 : Nat.blt n 144 with
                | true =>
                  rw [hb144, cond_true] at h
                  have h0 := pm_bif h
                  have e1 := Nat.eq_of_beq_eq_true h0.1
                  subst e1
                  have q := pm_k143 h0.2
                  exact ⟨(yX12_fewestFrom, cX12_fewestFrom, 11, (some .int), 12, 328), rfl, q⟩
                | false =>
                  rw [hb144, cond_false] at h
                  have h0 := pm_bif h
                  have e1 := Nat.eq_of_beq_eq_true h0.1
                  subst e1
                  have q := pm_k144 h0.2
                  exact ⟨(yX12_fewest, cX12_fewest, 7, (some .int), 12, 138), rfl, q⟩
          | false =>
            rw [hb145, cond_false] at h
            cases hb148 : Nat.blt n 148 with
            | true =>
              rw [hb148, cond_true] at h
              cases hb146 : Nat.blt n 146 with
              | true =>
                rw [hb146, cond_true] at h
                have h0 := pm_bif h
                have e1 := Nat.eq_of_beq_eq_true h0.1
                subst e1
                have q := pm_k145 h0.2
                exact ⟨(yX12_mend, cX12_mend, 6, (some .int), 12, 90), rfl, q⟩
              | false =>
                rw [hb146, cond_false] at h
                cases hb147 : Nat.blt n 147 with
                | true =>
                  rw [hb147, cond_true] at h
                  have h0 := pm_bif h
                  have e1 := Nat.eq_of_beq_eq_true h0.1
                  subst e1
                  have q := pm_k146 h0.2
                  exact ⟨(yX12_fault, cX12_fault, 5, (some .int), 12, 113), rfl, q⟩
                | false =>
                  rw [hb147, cond_false] at h
                  have h0 := pm_bif h
                  have e1 := Nat.eq_of_beq_eq_true h0.1
                  subst e1
                  have q := pm_k147 h0.2
                  exact ⟨(yX12_faultMany, cX12_faultMany, 3, (some .int), 12, 34), rfl, q⟩
            | false =>
              rw [hb148, cond_false] at h
              cases hb149 : Nat.blt n 149 with
              | true =>
                rw [hb149, cond_true] at h
                have h0 := pm_bif h
                have e1 := Nat.eq_of_beq_eq_true h0.1
                subst e1
                have q := pm_k148 h0.2
                exact ⟨(yX12_clear, cX12_clear, 3, (some .int), 12, 27), rfl, q⟩
              | false =>
                rw [hb149, cond_false] at h
                cases hb150 : Nat.blt n 150 with
                | true =>
                  rw [hb150, cond_true] at h
                  have h0 := pm_bif h
                  have e1 := Nat.eq_of_beq_eq_true h0.1
                  subst e1
                  have q := pm_k149 h0.2
                  exact ⟨(yX12_showPlain, cX12_showPlain, 2, none, 12, 28), rfl, q⟩
                | false =>
                  rw [hb150, cond_false] at h
                  have h0 := pm_bif h
                  have e1 := Nat.eq_of_beq_eq_true h0.1
                  subst e1
                  have q := pm_k150 h0.2
                  exact ⟨(yX12_cross, cX12_cross, 5, none, 12, 109), rfl, q⟩
        | false =>
          rw [hb151, cond_false] at h
          cases hb157 : Nat.blt n 157 with
          | true =>
            rw [hb157, cond_true] at h
            cases hb154 : Nat.blt n 154 with
            | true =>
              rw [hb154, cond_true] at h
              cases hb152 : Nat.blt n 152 with
              | true =>
                rw [hb152, cond_true] at h
                have h0 := pm_bif h
                have e1 := Nat.eq_of_beq_eq_true h0.1
                subst e1
                have q := pm_k151 h0.2
                exact ⟨(yX12_breakCord, cX12_breakCord, 4, none, 12, 69), rfl, q⟩
              | false =>
                rw [hb152, cond_false] at h
                cases hb153 : Nat.blt n 153 with
                | true =>
                  rw [hb153, cond_true] at h
                  have h0 := pm_bif h
                  have e1 := Nat.eq_of_beq_eq_true h0.1
                  subst e1
                  have q := pm_k152 h0.2
                  exact ⟨(yX12_skip, cX12_skip, 4, none, 12, 71), rfl, q⟩
                | false =>
                  rw [hb153, cond_false] at h
                  have h0 := pm_bif h
                  have e1 := Nat.eq_of_beq_eq_true h0.1
                  subst e1
                  have q := pm_k153 h0.2
                  exact ⟨(yX12_weave, cX12_weave, 4, (some .int), 12, 230), rfl, q⟩
            | false =>
              rw [hb154, cond_false] at h
              cases hb155 : Nat.blt n 155 with
              | true =>
                rw [hb155, cond_true] at h
                have h0 := pm_bif h
                have e1 := Nat.eq_of_beq_eq_true h0.1
                subst e1
                have q := pm_k154 h0.2
                exact ⟨(yX12_isCloth, cX12_isCloth, 3, (some .boolean), 12, 34), rfl, q⟩
              | false =>
                rw [hb155, cond_false] at h
                cases hb156 : Nat.blt n 156 with
                | true =>
                  rw [hb156, cond_true] at h
                  have h0 := pm_bif h
                  have e1 := Nat.eq_of_beq_eq_true h0.1
                  subst e1
                  have q := pm_k155 h0.2
                  exact ⟨(yX12_cloth, cX12_cloth, 3, (some .int), 12, 43), rfl, q⟩
                | false =>
                  rw [hb156, cond_false] at h
                  have h0 := pm_bif h
                  have e1 := Nat.eq_of_beq_eq_true h0.1
                  subst e1
                  have q := pm_k156 h0.2
                  exact ⟨(yX12_see, cX12_see, 5, (some .int), 12, 66), rfl, q⟩
          | false =>
            rw [hb157, cond_false] at h
            cases hb160 : Nat.blt n 160 with
            | true =>
              rw [hb160, cond_true] at h
              cases hb158 : Nat.blt n 158 with
              | true =>
                rw [hb158, cond_true] at h
                have h0 := pm_bif h
                have e1 := Nat.eq_of_beq_eq_true h0.1
                subst e1
                have q := pm_k157 h0.2
                exact ⟨(yX12_isShown, cX12_isShown, 4, (some .boolean), 12, 71), rfl, q⟩
              | false =>
                rw [hb158, cond_false] at h
                cases hb159 : Nat.blt n 159 with
                | true =>
                  rw [hb159, cond_true] at h
                  have h0 := pm_bif h
                  have e1 := Nat.eq_of_beq_eq_true h0.1
                  subst e1
                  have q := pm_k158 h0.2
                  exact ⟨(yX12_findKind, cX12_findKind, 3, (some .int), 12, 173), rfl, q⟩
                | false =>
                  rw [hb159, cond_false] at h
                  have h0 := pm_bif h
                  have e1 := Nat.eq_of_beq_eq_true h0.1
                  subst e1
                  have q := pm_k159 h0.2
                  exact ⟨(yX12_explained, cX12_explained, 3, (some .int), 12, 82), rfl, q⟩
            | false =>
              rw [hb160, cond_false] at h
              cases hb161 : Nat.blt n 161 with
              | true =>
                rw [hb161, cond_true] at h
                have h0 := pm_bif h
                have e1 := Nat.eq_of_beq_eq_true h0.1
                subst e1
                have q := pm_k160 h0.2
                exact ⟨(yX12_set, cX12_set, 4, (some .int), 12, 100), rfl, q⟩
              | false =>
                rw [hb161, cond_false] at h
                cases hb162 : Nat.blt n 162 with
                | true =>
                  rw [hb162, cond_true] at h
                  have h0 := pm_bif h
                  have e1 := Nat.eq_of_beq_eq_true h0.1
                  subst e1
                  have q := pm_k161 h0.2
                  exact ⟨(yX12_order, cX12_order, 4, (some .int), 12, 112), rfl, q⟩
                | false =>
                  rw [hb162, cond_false] at h
                  have h0 := pm_bif h
                  have e1 := Nat.eq_of_beq_eq_true h0.1
                  subst e1
                  have q := pm_k162 h0.2
                  exact ⟨(yX12_daysOf, cX12_daysOf, 3, (some .int), 12, 38), rfl, q⟩
      | false =>
        rw [hb163, cond_false] at h
        cases hb175 : Nat.blt n 175 with
        | true =>
          rw [hb175, cond_true] at h
          cases hb169 : Nat.blt n 169 with
          | true =>
            rw [hb169, cond_true] at h
            cases hb166 : Nat.blt n 166 with
            | true =>
              rw [hb166, cond_true] at h
              cases hb164 : Nat.blt n 164 with
              | true =>
                rw [hb164, cond_true] at h
                have h0 := pm_bif h
                have e1 := Nat.eq_of_beq_eq_true h0.1
                subst e1
                have q := pm_k163 h0.2
                exact ⟨(yX12_ask, cX12_ask, 2, (some .boolean), 12, 74), rfl, q⟩
              | false =>
                rw [hb164, cond_false] at h
                cases hb165 : Nat.blt n 165 with
                | true =>
                  rw [hb165, cond_true] at h
                  have h0 := pm_bif h
                  have e1 := Nat.eq_of_beq_eq_true h0.1
                  subst e1
                  have q := pm_k164 h0.2
                  exact ⟨(yX12_findRow, cX12_findRow, 8, none, 12, 134), rfl, q⟩
                | false =>
                  rw [hb165, cond_false] at h
                  have h0 := pm_bif h
                  have e1 := Nat.eq_of_beq_eq_true h0.1
                  subst e1
                  have q := pm_k165 h0.2
                  exact ⟨(yX12_findBest, cX12_findBest, 8, (some .int), 12, 195), rfl, q⟩
            | false =>
              rw [hb166, cond_false] at h
              cases hb167 : Nat.blt n 167 with
              | true =>
                rw [hb167, cond_true] at h
                have h0 := pm_bif h
                have e1 := Nat.eq_of_beq_eq_true h0.1
                subst e1
                have q := pm_k166 h0.2
                exact ⟨(yX12_best, cX12_best, 1, (some .int), 12, 21), rfl, q⟩
              | false =>
                rw [hb167, cond_false] at h
                cases hb168 : Nat.blt n 168 with
                | true =>
                  rw [hb168, cond_true] at h
                  have h0 := pm_bif h
                  have e1 := Nat.eq_of_beq_eq_true h0.1
                  subst e1
                  have q := pm_k167 h0.2
                  exact ⟨(yX12_bestAt, cX12_bestAt, 3, (some .int), 12, 43), rfl, q⟩
                | false =>
                  rw [hb168, cond_false] at h
                  have h0 := pm_bif h
                  have e1 := Nat.eq_of_beq_eq_true h0.1
                  subst e1
                  have q := pm_k168 h0.2
                  exact ⟨(yX12_lawAt, cX12_lawAt, 4, (some .int), 12, 55), rfl, q⟩
          | false =>
            rw [hb169, cond_false] at h
            cases hb172 : Nat.blt n 172 with
            | true =>
              rw [hb172, cond_true] at h
              cases hb170 : Nat.blt n 170 with
              | true =>
                rw [hb170, cond_true] at h
                have h0 := pm_bif h
                have e1 := Nat.eq_of_beq_eq_true h0.1
                subst e1
                have q := pm_k169 h0.2
                exact ⟨(yX12_work, cX12_work, 4, (some .int), 12, 163), rfl, q⟩
              | false =>
                rw [hb170, cond_false] at h
                cases hb171 : Nat.blt n 171 with
                | true =>
                  rw [hb171, cond_true] at h
                  have h0 := pm_bif h
                  have e1 := Nat.eq_of_beq_eq_true h0.1
                  subst e1
                  have q := pm_k170 h0.2
                  exact ⟨(yX12_days, cX12_days, 2, (some .int), 12, 46), rfl, q⟩
                | false =>
                  rw [hb171, cond_false] at h
                  have h0 := pm_bif h
                  have e1 := Nat.eq_of_beq_eq_true h0.1
                  subst e1
                  have q := pm_k171 h0.2
                  exact ⟨(yX12_law, cX12_law, 4, (some .int), 12, 107), rfl, q⟩
            | false =>
              rw [hb172, cond_false] at h
              cases hb173 : Nat.blt n 173 with
              | true =>
                rw [hb173, cond_true] at h
                have h0 := pm_bif h
                have e1 := Nat.eq_of_beq_eq_true h0.1
                subst e1
                have q := pm_k172 h0.2
                exact ⟨(yX12_silk, cX12_silk, 7, (some .int), 12, 138), rfl, q⟩
              | false =>
                rw [hb173, cond_false] at h
                cases hb174 : Nat.blt n 174 with
                | true =>
                  rw [hb174, cond_true] at h
                  have h0 := pm_bif h
                  have e1 := Nat.eq_of_beq_eq_true h0.1
                  subst e1
                  have q := pm_k173 h0.2
                  exact ⟨(yX12_account, cX12_account, 3, (some .int), 12, 107), rfl, q⟩
                | false =>
                  rw [hb174, cond_false] at h
                  have h0 := pm_bif h
                  have e1 := Nat.eq_of_beq_eq_true h0.1
                  subst e1
                  have q := pm_k174 h0.2
                  exact ⟨(yX12_isBeam, cX12_isBeam, 1, (some .boolean), 12, 7), rfl, q⟩
        | false =>
          rw [hb175, cond_false] at h
          cases hb181 : Nat.blt n 181 with
          | true =>
            rw [hb181, cond_true] at h
            cases hb178 : Nat.blt n 178 with
            | true =>
              rw [hb178, cond_true] at h
              cases hb176 : Nat.blt n 176 with
              | true =>
                rw [hb176, cond_true] at h
                have h0 := pm_bif h
                have e1 := Nat.eq_of_beq_eq_true h0.1
                subst e1
                have q := pm_k175 h0.2
                exact ⟨(yX12_warp, cX12_warp, 3, (some .int), 12, 71), rfl, q⟩
              | false =>
                rw [hb176, cond_false] at h
                cases hb177 : Nat.blt n 177 with
                | true =>
                  rw [hb177, cond_true] at h
                  have h0 := pm_bif h
                  have e1 := Nat.eq_of_beq_eq_true h0.1
                  subst e1
                  have q := pm_k176 h0.2
                  exact ⟨(yX12_cards, cX12_cards, 3, (some .int), 12, 91), rfl, q⟩
                | false =>
                  rw [hb177, cond_false] at h
                  have h0 := pm_bif h
                  have e1 := Nat.eq_of_beq_eq_true h0.1
                  subst e1
                  have q := pm_k177 h0.2
                  exact ⟨(yX12_lacks, cX12_lacks, 3, (some .int), 12, 42), rfl, q⟩
            | false =>
              rw [hb178, cond_false] at h
              cases hb179 : Nat.blt n 179 with
              | true =>
                rw [hb179, cond_true] at h
                have h0 := pm_bif h
                have e1 := Nat.eq_of_beq_eq_true h0.1
                subst e1
                have q := pm_k178 h0.2
                exact ⟨(yX12_hang, cX12_hang, 4, (some .int), 12, 80), rfl, q⟩
              | false =>
                rw [hb179, cond_false] at h
                cases hb180 : Nat.blt n 180 with
                | true =>
                  rw [hb180, cond_true] at h
                  have h0 := pm_bif h
                  have e1 := Nat.eq_of_beq_eq_true h0.1
                  subst e1
                  have q := pm_k179 h0.2
                  exact ⟨(yX12_cut, cX12_cut, 4, (some .int), 12, 83), rfl, q⟩
                | false =>
                  rw [hb180, cond_false] at h
                  have h0 := pm_bif h
                  have e1 := Nat.eq_of_beq_eq_true h0.1
                  subst e1
                  have q := pm_k180 h0.2
                  exact ⟨(yX12_join, cX12_join, 3, (some .int), 12, 139), rfl, q⟩
          | false =>
            rw [hb181, cond_false] at h
            cases hb184 : Nat.blt n 184 with
            | true =>
              rw [hb184, cond_true] at h
              cases hb182 : Nat.blt n 182 with
              | true =>
                rw [hb182, cond_true] at h
                have h0 := pm_bif h
                have e1 := Nat.eq_of_beq_eq_true h0.1
                subst e1
                have q := pm_k181 h0.2
                exact ⟨(yX12_beamOf, cX12_beamOf, 5, (some .int), 12, 159), rfl, q⟩
              | false =>
                rw [hb182, cond_false] at h
                cases hb183 : Nat.blt n 183 with
                | true =>
                  rw [hb183, cond_true] at h
                  have h0 := pm_bif h
                  have e1 := Nat.eq_of_beq_eq_true h0.1
                  subst e1
                  have q := pm_k182 h0.2
                  exact ⟨(yX12_orderOf, cX12_orderOf, 3, (some .int), 12, 87), rfl, q⟩
                | false =>
                  rw [hb183, cond_false] at h
                  have h0 := pm_bif h
                  have e1 := Nat.eq_of_beq_eq_true h0.1
                  subst e1
                  have q := pm_k183 h0.2
                  exact ⟨(yX12_count, cX12_count, 4, (some .int), 12, 153), rfl, q⟩
            | false =>
              rw [hb184, cond_false] at h
              cases hb185 : Nat.blt n 185 with
              | true =>
                rw [hb185, cond_true] at h
                have h0 := pm_bif h
                have e1 := Nat.eq_of_beq_eq_true h0.1
                subst e1
                have q := pm_k184 h0.2
                exact ⟨(yJ6_bitCount_0f7a4, cJ6_bitCount_0f7a4, 1, (some .int), 14, 53), rfl, q⟩
              | false =>
                rw [hb185, cond_false] at h
                cases hb186 : Nat.blt n 186 with
                | true =>
                  rw [hb186, cond_true] at h
                  have h0 := pm_bif h
                  have e1 := Nat.eq_of_beq_eq_true h0.1
                  subst e1
                  have q := pm_k185 h0.2
                  exact ⟨(yJ7_fill_d0a16, cJ7_fill_d0a16, 5, none, 15, 23), rfl, q⟩
                | false =>
                  rw [hb186, cond_false] at h
                  have h0 := pm_bif h
                  have e1 := Nat.eq_of_beq_eq_true h0.1
                  subst e1
                  have q := pm_k186 h0.2
                  exact ⟨(yL_law, cL_law, 4, (some .boolean), 13, 1311), rfl, q⟩

