set_option maxRecDepth 100000 in
theorem W_X12_isSame_59_e {sc : pm_S} {w : pm_W} {gi : Nat → Int32} {ga : Nat → List Int32} (a : Int32) (b : Int32) (c60 : List Int32) (p0 : b.toInt ≤ 20) (p1 : 0 ≤ b.toInt) (p2 : a.toInt ≤ 20) (p3 : 0 ≤ a.toInt) (hc60 : w[60]? = some (.inl (0, .inl c60))) (hl60 : c60.length = 400) (hR : pm_Rg gi ga) (hI : pm_IM gi ga w) : pm_Mt sc 1 125 6 [.ref 59, .int a, .int b] w (fun rv w' => pm_wI (fun v => 0 ≤ v.toInt ∧ v.toInt ≤ 1 ∧ ((v.toInt = 1 ∧ (∀ x, x < (gi 0).toInt.toNat → ∀ y, y < (gi 1).toInt.toNat → sq_c c60 x y = sq_c c60 ((x + a.toInt.toNat) % (gi 0).toInt.toNat) ((y + b.toInt.toNat) % (gi 1).toInt.toNat))) ∨ (v.toInt = 0 ∧ ¬ (∀ x, x < (gi 0).toInt.toNat → ∀ y, y < (gi 1).toInt.toNat → sq_c c60 x y = sq_c c60 ((x + a.toInt.toNat) % (gi 0).toInt.toNat) ((y + b.toInt.toNat) % (gi 1).toInt.toNat))))) rv ∧ w = w') := by
  intro d hd
  obtain ⟨g0a, g0b⟩ := hR.n0
  obtain ⟨g1a, g1b⟩ := hR.n1
  obtain ⟨g2a, g2b⟩ := hR.n2
  obtain ⟨g3a, g3b⟩ := hR.n3
  obtain ⟨g4a, g4b⟩ := hR.n4
  obtain ⟨g5a, g5b⟩ := hR.n5
  obtain ⟨g6a, g6b⟩ := hR.n6
  obtain ⟨g7a, g7b⟩ := hR.n7
  obtain ⟨g8a, g8b⟩ := hR.n8
  have k0 : (0 : Int32).toInt = 0 := by decide
  have k1 : (1 : Int32).toInt = 1 := by decide
  show pm_V sc d 125 0 [.ref 59, .int a, .int b, .null, .null, .null] [] w _
  refine v_iconst (v := 1) rfl (by decide) ?_
  refine v_istore_n rfl (Nat.le_of_ble_eq_true rfl) ?_
  refine v_iconst (v := 0) rfl (by decide) ?_
  refine v_istore rfl (Nat.le_of_ble_eq_true rfl) ?_
  have L4 : ∀ (n4 : Nat) (l1 : Int32) (l2 : Int32) (u3 : Value), 0 ≤ l1.toInt → l1.toInt ≤ 1 → 0 ≤ l2.toInt → l2.toInt ≤ 20 → ((l1.toInt = 1 ∧ ∀ y, y < l2.toInt.toNat → ∀ x, x < (gi 0).toInt.toNat → sq_c c60 x y = sq_c c60 ((x + a.toInt.toNat) % (gi 0).toInt.toNat) ((y + b.toInt.toNat) % (gi 1).toInt.toNat)) ∨ (l1.toInt = 0 ∧ ¬ (∀ x, x < (gi 0).toInt.toNat → ∀ y, y < (gi 1).toInt.toNat → sq_c c60 x y = sq_c c60 ((x + a.toInt.toNat) % (gi 0).toInt.toNat) ((y + b.toInt.toNat) % (gi 1).toInt.toNat)))) → (20 - l2.toInt).toNat < n4 → pm_V sc d 125 5 [.ref 59, .int a, .int b, .int l1, .int l2, u3] [] w (fun rv w' => pm_wI (fun v => 0 ≤ v.toInt ∧ v.toInt ≤ 1 ∧ ((v.toInt = 1 ∧ (∀ x, x < (gi 0).toInt.toNat → ∀ y, y < (gi 1).toInt.toNat → sq_c c60 x y = sq_c c60 ((x + a.toInt.toNat) % (gi 0).toInt.toNat) ((y + b.toInt.toNat) % (gi 1).toInt.toNat))) ∨ (v.toInt = 0 ∧ ¬ (∀ x, x < (gi 0).toInt.toNat → ∀ y, y < (gi 1).toInt.toNat → sq_c c60 x y = sq_c c60 ((x + a.toInt.toNat) % (gi 0).toInt.toNat) ((y + b.toInt.toNat) % (gi 1).toInt.toNat))))) rv ∧ w = w') := by
    intro n4
    induction n4 with
    | zero => intro l1 l2 u3 t6 t7 t8 t9 t10 hm5; exact absurd hm5 (Nat.not_lt_zero _)
    | succ n4 ih5_4 =>
      intro l1 l2 u3 t6 t7 t8 t9 t10 hm5
      refine v_iload rfl rfl ?_
      refine v_aload_n rfl rfl ?_
      obtain ⟨v12, v13, v14, v15, v16, v17, v18, v19, ⟨v12z, v12e⟩, ⟨⟨v13a, v13b⟩, v13e⟩, ⟨⟨v14a, v14b⟩, v14e⟩, ⟨v16a, v16b⟩, ⟨v19a, v19b⟩, h11⟩ := hI.2.1 59 (by decide) (by decide)
      have v12z := v12z.imp i_eq.mp i_eq.mp
      rw [i_0, i_1] at v12z
      refine v_get rfl h11 rfl ?_
      refine r_icmp_ge rfl (fun t20 => ?_) (fun t20 => ?_)
      · refine v_iload_n rfl rfl ?_
        exact r_zret rfl (by omega) ⟨⟨_, rfl, (by omega), (by omega), (by
            rcases t10 with g | g
            · exact Or.inl ⟨g.1, fun x hx y hy => g.2 y (by omega) x hx⟩
            · exact Or.inr g)⟩, rfl⟩
      · refine v_iconst (v := 0) rfl (by decide) ?_
        refine v_istore rfl (Nat.le_of_ble_eq_true rfl) ?_
        have L23 : ∀ (n23 : Nat) (l21 : Int32) (l22 : Int32), 0 ≤ l21.toInt → l21.toInt ≤ 1 → 0 ≤ l22.toInt → l22.toInt ≤ 20 → ((l21.toInt = 1 ∧ (∀ y, y < l2.toInt.toNat → ∀ x, x < (gi 0).toInt.toNat → sq_c c60 x y = sq_c c60 ((x + a.toInt.toNat) % (gi 0).toInt.toNat) ((y + b.toInt.toNat) % (gi 1).toInt.toNat)) ∧ ∀ x, x < l22.toInt.toNat → sq_c c60 x l2.toInt.toNat = sq_c c60 ((x + a.toInt.toNat) % (gi 0).toInt.toNat) ((l2.toInt.toNat + b.toInt.toNat) % (gi 1).toInt.toNat)) ∨ (l21.toInt = 0 ∧ ¬ (∀ x, x < (gi 0).toInt.toNat → ∀ y, y < (gi 1).toInt.toNat → sq_c c60 x y = sq_c c60 ((x + a.toInt.toNat) % (gi 0).toInt.toNat) ((y + b.toInt.toNat) % (gi 1).toInt.toNat)))) → (20 - l22.toInt).toNat < n23 → pm_V sc d 125 17 [.ref 59, .int a, .int b, .int l21, .int l2, .int l22] [] w (fun rv w' => pm_wI (fun v => 0 ≤ v.toInt ∧ v.toInt ≤ 1 ∧ ((v.toInt = 1 ∧ (∀ x, x < (gi 0).toInt.toNat → ∀ y, y < (gi 1).toInt.toNat → sq_c c60 x y = sq_c c60 ((x + a.toInt.toNat) % (gi 0).toInt.toNat) ((y + b.toInt.toNat) % (gi 1).toInt.toNat))) ∨ (v.toInt = 0 ∧ ¬ (∀ x, x < (gi 0).toInt.toNat → ∀ y, y < (gi 1).toInt.toNat → sq_c c60 x y = sq_c c60 ((x + a.toInt.toNat) % (gi 0).toInt.toNat) ((y + b.toInt.toNat) % (gi 1).toInt.toNat))))) rv ∧ w = w') := by
          intro n23
          induction n23 with
          | zero => intro l21 l22 t25 t26 t27 t28 t29 hm24; exact absurd hm24 (Nat.not_lt_zero _)
          | succ n23 ih17_23 =>
            intro l21 l22 t25 t26 t27 t28 t29 hm24
            refine v_iload rfl rfl ?_
            refine v_aload_n rfl rfl ?_
            refine v_get rfl h11 rfl ?_
            refine r_icmp_ge rfl (fun t30 => ?_) (fun t30 => ?_)
            · refine r_iinc rfl rfl (by decide) (by omega) (by omega) (fun z31 z31e => ?_)
              refine v_goto rfl ?_
              exact ih5_4 l21 z31 (.int l22) (by omega) (by omega) (by omega) (by omega) (by
                  rcases t29 with g | g
                  · exact Or.inl ⟨g.1, fun y hy x hx => by
                      by_cases e : y < l2.toInt.toNat
                      · exact g.2.1 y e x hx
                      · have e2 : y = l2.toInt.toNat := by omega
                        subst e2
                        exact g.2.2 x (by omega)⟩
                  · exact Or.inr g) (by omega)
            · refine v_iload_n rfl rfl ?_
              refine r_if_eq rfl (fun t32 => ?_) (fun t32 => ?_)
              · refine v_iconst (v := 0) rfl (by decide) ?_
                refine v_istore_n rfl (Nat.le_of_ble_eq_true rfl) ?_
                refine r_iinc rfl rfl (by decide) (by omega) (by omega) (fun z33 z33e => ?_)
                refine v_goto rfl ?_
                exact ih17_23 (0 : Int32) z33 (by omega) (by omega) (by omega) (by omega) (by
                    rcases t29 with g | g
                    · first
                      | exact absurd g.1 (by omega)
                      | exact Or.inl ⟨by omega, g.2.1, fun x hx => by
                          by_cases e : x < l22.toInt.toNat
                          · exact g.2.2 x e
                          · have e2 : x = l22.toInt.toNat := by omega
                            subst e2
                            rw [← qA, ← qB]
                            exact i_eq.mpr (by omega)⟩
                      | exact Or.inr ⟨by omega, fun hS => by
                          have q := hS l22.toInt.toNat (by omega) l2.toInt.toNat (by omega)
                          rw [← qA, ← qB] at q
                          have q2 := congrArg Int32.toInt q
                          omega⟩
                    · exact Or.inr ⟨by omega, g.2⟩) (by omega)
              · refine v_aload_n rfl rfl ?_
                refine v_iload rfl rfl ?_
                refine v_iload rfl rfl ?_
                refine v_callV rfl (W_X12_colour_59_x l22 l2 c60 (by omega) (by omega) (by omega) (by omega) hc60 hl60 hR hI) rfl rfl h11 rfl rfl (by omega) (fun rv w34 hq35 => ?_)
                obtain ⟨⟨z36, rfl, z36p0⟩, rfl⟩ := hq35
                have z36A : z36 = sq_c c60 l22.toInt.toNat l2.toInt.toNat := i_eq.mpr (by rw [z36p0]; unfold sq_c; rw [show (20 * l2.toInt + l22.toInt).toNat = 20 * l2.toInt.toNat + l22.toInt.toNat by omega])
                refine v_aload_n rfl rfl ?_
                refine v_iload rfl rfl ?_
                refine v_iload_n rfl rfl ?_
                refine r_iadd rfl (by omega) (by omega) (fun z37 z37e => ?_)
                skip
                refine v_aload_n rfl rfl ?_
                refine v_get rfl h11 rfl ?_
                refine r_irem rfl (by omega) (by omega) (fun z38 z38m z38a z38b z38c => ?_)
                have z38k := j_em z38m (by omega) (by omega)
                rw [show z37.toInt.toNat = l22.toInt.toNat + a.toInt.toNat by omega] at z38k
                refine v_iload rfl rfl ?_
                refine v_iload_n rfl rfl ?_
                refine r_iadd rfl (by omega) (by omega) (fun z39 z39e => ?_)
                skip
                refine v_aload_n rfl rfl ?_
                refine v_get rfl h11 rfl ?_
                refine r_irem rfl (by omega) (by omega) (fun z40 z40m z40a z40b z40c => ?_)
                have z40k := j_em z40m (by omega) (by omega)
                rw [show z39.toInt.toNat = l2.toInt.toNat + b.toInt.toNat by omega] at z40k
                refine v_callV rfl (W_X12_colour_59_x z38 z40 c60 (by omega) (by omega) (by omega) (by omega) hc60 hl60 hR hI) rfl rfl h11 rfl rfl (by omega) (fun rv w41 hq42 => ?_)
                obtain ⟨⟨z43, rfl, z43p0⟩, rfl⟩ := hq42
                have z43B : z43 = sq_c c60 ((l22.toInt.toNat + a.toInt.toNat) % (gi 0).toInt.toNat) ((l2.toInt.toNat + b.toInt.toNat) % (gi 1).toInt.toNat) := i_eq.mpr (by rw [z43p0, ← z38k, ← z40k]; unfold sq_c; rw [show (20 * z40.toInt + z38.toInt).toNat = 20 * z40.toInt.toNat + z38.toInt.toNat by omega])
                refine r_icmp_ne rfl (fun t44 => ?_) (fun t44 => ?_)
                · refine v_iconst (v := 0) rfl (by decide) ?_
                  refine v_istore_n rfl (Nat.le_of_ble_eq_true rfl) ?_
                  refine r_iinc rfl rfl (by decide) (by omega) (by omega) (fun z45 z45e => ?_)
                  refine v_goto rfl ?_
                  exact ih17_23 (0 : Int32) z45 (by omega) (by omega) (by omega) (by omega) (by
                      rcases t29 with g | g
                      · first
                        | exact absurd g.1 (by omega)
                        | exact Or.inl ⟨by omega, g.2.1, fun x hx => by
                            by_cases e : x < l22.toInt.toNat
                            · exact g.2.2 x e
                            · have e2 : x = l22.toInt.toNat := by omega
                              subst e2
                              rw [← z36A, ← z43B]
                              exact i_eq.mpr (by omega)⟩
                        | exact Or.inr ⟨by omega, fun hS => by
                            have q := hS l22.toInt.toNat (by omega) l2.toInt.toNat (by omega)
                            rw [← z36A, ← z43B] at q
                            have q2 := congrArg Int32.toInt q
                            omega⟩
                      · exact Or.inr ⟨by omega, g.2⟩) (by omega)
                · refine v_iconst (v := 1) rfl (by decide) ?_
                  refine v_goto rfl ?_
                  refine v_istore_n rfl (Nat.le_of_ble_eq_true rfl) ?_
                  refine r_iinc rfl rfl (by decide) (by omega) (by omega) (fun z46 z46e => ?_)
                  refine v_goto rfl ?_
                  exact ih17_23 (1 : Int32) z46 (by omega) (by omega) (by omega) (by omega) (by
                      rcases t29 with g | g
                      · first
                        | exact absurd g.1 (by omega)
                        | exact Or.inl ⟨by omega, g.2.1, fun x hx => by
                            by_cases e : x < l22.toInt.toNat
                            · exact g.2.2 x e
                            · have e2 : x = l22.toInt.toNat := by omega
                              subst e2
                              rw [← z36A, ← z43B]
                              exact i_eq.mpr (by omega)⟩
                        | exact Or.inr ⟨by omega, fun hS => by
                            have q := hS l22.toInt.toNat (by omega) l2.toInt.toNat (by omega)
                            rw [← z36A, ← z43B] at q
                            have q2 := congrArg Int32.toInt q
                            omega⟩
                      · exact Or.inr ⟨by omega, g.2⟩) (by omega)
        exact L23 _ l1 (0 : Int32) (by omega) (by omega) (by omega) (by omega) (by
            rcases t10 with g | g
            · exact Or.inl ⟨g.1, g.2, fun x hx => by rw [show (0 : Int32).toInt.toNat = 0 from rfl] at hx; omega⟩
            · exact Or.inr g) (Nat.lt_add_one _)
  exact L4 _ (1 : Int32) (0 : Int32) (.null) (by omega) (by omega) (by omega) (by omega) (by exact Or.inl ⟨rfl, fun y hy => by rw [show (0 : Int32).toInt.toNat = 0 from rfl] at hy; omega⟩) (Nat.lt_add_one _)

