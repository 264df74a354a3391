set_option maxRecDepth 100000 in
theorem W_X6_isStart_10_1_x {sc : pm_S} {w : pm_W} {gi : Nat → Int32} {ga : Nat → List Int32} (x : Int32) (y : Int32) (c10_0 : Int32) (c10_1 : Int32) (c10_2 : Int32) (p0 : y.toInt ≤ 19) (p1 : 0 ≤ y.toInt) (p2 : x.toInt ≤ 19) (p3 : 0 ≤ x.toInt) (p4 : x.toInt < c10_0.toInt) (p5 : c10_0.toInt = (gi 0).toInt) (p6 : 1 ≤ c10_0.toInt) (p7 : c10_0.toInt ≤ 20) (p8 : 0 ≤ c10_1.toInt) (p9 : c10_1.toInt ≤ 20) (p10 : 0 ≤ c10_2.toInt) (p11 : c10_2.toInt ≤ 1) (hc10 : w[10]? = some (.inr (6, [.int c10_0, .int c10_1, .int c10_2, .ref 11, .ref 12, .ref 13]))) (hR : pm_Rg gi ga) (hI : pm_IX gi ga w) : pm_Mt sc 1 40 4 [.ref 10, .ref 1, .int x, .int y] w (fun rv w' => pm_wI (fun v => 0 ≤ v.toInt ∧ v.toInt ≤ 1 ∧ ((v.toInt = 1 ∧ fs_st (fs_c (ga 15) y.toInt.toNat) (gi 0).toInt.toNat x.toInt.toNat) ∨ (v.toInt = 0 ∧ ¬ fs_st (fs_c (ga 15) y.toInt.toNat) (gi 0).toInt.toNat x.toInt.toNat))) rv ∧ w = w') := by
  intro d hd
  obtain ⟨g0a, g0b⟩ := hR.n0
  obtain ⟨g1a, g1b⟩ := hR.n1
  obtain ⟨g2a, g2b⟩ := hR.n2
  obtain ⟨g3a, g3b⟩ := hR.n3
  obtain ⟨g4a, g4b⟩ := hR.n4
  obtain ⟨g5a, g5b⟩ := hR.n5
  obtain ⟨g6a, g6b⟩ := hR.n6
  obtain ⟨g7a, g7b⟩ := hR.n7
  obtain ⟨g8a, g8b⟩ := hR.n8
  have k0 : (0 : Int32).toInt = 0 := by decide
  have k1 : (1 : Int32).toInt = 1 := by decide
  show pm_V sc d 40 0 [.ref 10, .ref 1, .int x, .int y] [] w _
  refine v_aload_n rfl rfl ?_
  refine v_iload_n rfl rfl ?_
  refine v_iload_n rfl rfl ?_
  have h1 : _ = some _ := hI.2 1 (by decide)
  refine v_callV rfl (W_X10_colourAt_1_x x y (by omega) (by omega) (by omega) (by omega) hR hI) rfl rfl h1 rfl rfl (by omega) (fun rv w2 hq3 => ?_)
  obtain ⟨⟨z4, rfl, z4p0, z4p1, z4p2⟩, rfl⟩ := hq3
  skip
  refine v_aload_n rfl rfl ?_
  refine v_iload_n rfl rfl ?_
  refine v_iconst (v := 1) rfl (by decide) ?_
  refine r_isub rfl (by omega) (by omega) (fun z5 z5e => ?_)
  refine v_aload_n rfl rfl ?_
  refine v_get rfl hc10 rfl ?_
  refine v_callS rfl (W_X11_around_y z5 c10_0 (by omega) (by omega) (by omega) (by omega) (by omega) (by omega) hR hI) rfl rfl rfl rfl rfl (by omega) (fun rv w6 hq7 => ?_)
  obtain ⟨⟨z8, rfl, z8p0, z8p1, z8p2, z8p3, z8p4⟩, rfl⟩ := hq7
  have z8k : (x.toInt.toNat + (gi 0).toInt.toNat - 1) % (gi 0).toInt.toNat = z8.toInt.toNat := by
    by_cases e : 1 ≤ x.toInt.toNat
    · rw [fs_prev e (by omega)]; omega
    · rw [show x.toInt.toNat = 0 by omega, fs_prev0 (by omega)]; omega
  refine v_iload_n rfl rfl ?_
  refine v_callV rfl (W_X10_colourAt_1_x z8 y (by omega) (by omega) (by omega) (by omega) hR hI) rfl rfl h1 rfl rfl (by omega) (fun rv w9 hq10 => ?_)
  obtain ⟨⟨z11, rfl, z11p0, z11p1, z11p2⟩, rfl⟩ := hq10
  have hd : fs_st (fs_c (ga 15) y.toInt.toNat) (gi 0).toInt.toNat x.toInt.toNat ↔ ¬ z4 = z11 := by
    unfold fs_st fs_c sq_c
    rw [z8k, z4p0, z11p0]
  refine r_icmp_eq rfl (fun t12 => ?_) (fun t12 => ?_)
  · refine v_iconst (v := 0) rfl (by decide) ?_
    exact r_zret rfl (by omega) ⟨⟨_, rfl, (by omega), (by omega), (by
        first
        | exact Or.inl ⟨by omega, hd.mpr (fun q => by have := congrArg Int32.toInt q; omega)⟩
        | exact Or.inr ⟨by omega, fun q => hd.mp q (i_eq.mpr (by omega))⟩)⟩, rfl⟩
  · refine v_iconst (v := 1) rfl (by decide) ?_
    refine v_goto rfl ?_
    exact r_zret rfl (by omega) ⟨⟨_, rfl, (by omega), (by omega), (by
        first
        | exact Or.inl ⟨by omega, hd.mpr (fun q => by have := congrArg Int32.toInt q; omega)⟩
        | exact Or.inr ⟨by omega, fun q => hd.mp q (i_eq.mpr (by omega))⟩)⟩, rfl⟩
set_option maxRecDepth 100000 in
theorem W_X6_firstStart_10_1_x {sc : pm_S} {w : pm_W} {gi : Nat → Int32} {ga : Nat → List Int32} (y : Int32) (c10_0 : Int32) (c10_1 : Int32) (c10_2 : Int32) (p0 : y.toInt ≤ 19) (p1 : 0 ≤ y.toInt) (p2 : c10_0.toInt = (gi 0).toInt) (p3 : 1 ≤ c10_0.toInt) (p4 : c10_0.toInt ≤ 20) (p5 : 0 ≤ c10_1.toInt) (p6 : c10_1.toInt ≤ 20) (p7 : 0 ≤ c10_2.toInt) (p8 : c10_2.toInt ≤ 1) (hc10 : w[10]? = some (.inr (6, [.int c10_0, .int c10_1, .int c10_2, .ref 11, .ref 12, .ref 13]))) (hR : pm_Rg gi ga) (hI : pm_IX gi ga w) : pm_Mt sc 2 39 4 [.ref 10, .ref 1, .int y] w (fun rv w' => pm_wI (fun v => -9 ≤ v.toInt ∧ v.toInt < c10_0.toInt ∧ ((v.toInt = -9 ∧ ∀ x, x < (gi 0).toInt.toNat → ¬ fs_st (fs_c (ga 15) y.toInt.toNat) (gi 0).toInt.toNat x) ∨ (0 ≤ v.toInt ∧ fs_st (fs_c (ga 15) y.toInt.toNat) (gi 0).toInt.toNat v.toInt.toNat ∧ ∀ x, x < v.toInt.toNat → ¬ fs_st (fs_c (ga 15) y.toInt.toNat) (gi 0).toInt.toNat x))) rv ∧ w = w') := by
  intro d hd
  obtain ⟨g0a, g0b⟩ := hR.n0
  obtain ⟨g1a, g1b⟩ := hR.n1
  obtain ⟨g2a, g2b⟩ := hR.n2
  obtain ⟨g3a, g3b⟩ := hR.n3
  obtain ⟨g4a, g4b⟩ := hR.n4
  obtain ⟨g5a, g5b⟩ := hR.n5
  obtain ⟨g6a, g6b⟩ := hR.n6
  obtain ⟨g7a, g7b⟩ := hR.n7
  obtain ⟨g8a, g8b⟩ := hR.n8
  have km9 : (-9 : Int32).toInt = -9 := by decide
  have k0 : (0 : Int32).toInt = 0 := by decide
  show pm_V sc d 39 0 [.ref 10, .ref 1, .int y, .null] [] w _
  refine v_iconst (v := 0) rfl (by decide) ?_
  refine v_istore_n rfl (Nat.le_of_ble_eq_true rfl) ?_
  have L2 : ∀ (n2 : Nat) (l1 : Int32), 0 ≤ l1.toInt → l1.toInt ≤ 20 → (l1.toInt ≤ c10_0.toInt) → (∀ x, x < l1.toInt.toNat → ¬ fs_st (fs_c (ga 15) y.toInt.toNat) (gi 0).toInt.toNat x) → (20 - l1.toInt).toNat < n2 → pm_V sc d 39 2 [.ref 10, .ref 1, .int y, .int l1] [] w (fun rv w' => pm_wI (fun v => -9 ≤ v.toInt ∧ v.toInt < c10_0.toInt ∧ ((v.toInt = -9 ∧ ∀ x, x < (gi 0).toInt.toNat → ¬ fs_st (fs_c (ga 15) y.toInt.toNat) (gi 0).toInt.toNat x) ∨ (0 ≤ v.toInt ∧ fs_st (fs_c (ga 15) y.toInt.toNat) (gi 0).toInt.toNat v.toInt.toNat ∧ ∀ x, x < v.toInt.toNat → ¬ fs_st (fs_c (ga 15) y.toInt.toNat) (gi 0).toInt.toNat x))) rv ∧ w = w') := by
    intro n2
    induction n2 with
    | zero => intro l1 t4 t5 t6 t7 hm3; exact absurd hm3 (Nat.not_lt_zero _)
    | succ n2 ih2_2 =>
      intro l1 t4 t5 t6 t7 hm3
      refine v_iload_n rfl rfl ?_
      refine v_aload_n rfl rfl ?_
      refine v_get rfl hc10 rfl ?_
      refine r_icmp_ge rfl (fun t8 => ?_) (fun t8 => ?_)
      · refine v_bipush (v := (-9)) rfl (by decide) ?_
        exact v_iret rfl ⟨⟨_, rfl, (by omega), (by omega), (by exact Or.inl ⟨by omega, fun x hx => t7 x (by omega)⟩)⟩, rfl⟩
      · refine v_aload_n rfl rfl ?_
        refine v_aload_n rfl rfl ?_
        refine v_iload_n rfl rfl ?_
        refine v_iload_n rfl rfl ?_
        refine v_callV rfl (W_X6_isStart_10_1_x l1 y c10_0 c10_1 c10_2 (by omega) (by omega) (by omega) (by omega) (by omega) (by omega) (by omega) (by omega) (by omega) (by omega) (by omega) (by omega) hc10 hR hI) rfl rfl hc10 rfl rfl (by omega) (fun rv w9 hq10 => ?_)
        obtain ⟨⟨z11, rfl, z11p0, z11p1, z11p2⟩, rfl⟩ := hq10
        skip
        refine r_if_eq rfl (fun t12 => ?_) (fun t12 => ?_)
        · refine r_iinc rfl rfl (by decide) (by omega) (by omega) (fun z13 z13e => ?_)
          refine v_goto rfl ?_
          exact ih2_2 z13 (by omega) (by omega) (by omega) (by
              intro x hx
              by_cases e : x < l1.toInt.toNat
              · exact t7 x e
              · have e2 : x = l1.toInt.toNat := by omega
                subst e2
                rcases z11p2 with g | g
                · exact absurd g.1 (by omega)
                · exact g.2) (by omega)
        · refine v_iload_n rfl rfl ?_
          exact v_iret rfl ⟨⟨_, rfl, (by omega), (by omega), (by
              rcases z11p2 with g | g
              · exact Or.inr ⟨by omega, g.2, t7⟩
              · exact absurd g.1 (by omega))⟩, rfl⟩
  exact L2 _ (0 : Int32) (by omega) (by omega) (by omega) (by intro x hx; rw [show (0 : Int32).toInt.toNat = 0 from rfl] at hx; omega) (Nat.lt_add_one _)
set_option maxRecDepth 100000 in
theorem W_X12_isPlain_59_e {sc : pm_S} {w : pm_W} {gi : Nat → Int32} {ga : Nat → List Int32} (y : Int32) (c60 : List Int32) (p0 : y.toInt ≤ 19) (p1 : 0 ≤ y.toInt) (hc60 : w[60]? = some (.inl (0, .inl c60))) (hl60 : c60.length = 400) (hR : pm_Rg gi ga) (hI : pm_IM gi ga w) : pm_Mt sc 1 141 4 [.ref 59, .int y] w (fun rv w' => pm_wI (fun v => 0 ≤ v.toInt ∧ v.toInt ≤ 1 ∧ ((v.toInt = 1 ∧ (∀ x, x < (gi 0).toInt.toNat → (fs_c c60 y.toInt.toNat) x = (fs_c c60 y.toInt.toNat) 0)) ∨ (v.toInt = 0 ∧ ¬ (∀ x, x < (gi 0).toInt.toNat → (fs_c c60 y.toInt.toNat) x = (fs_c c60 y.toInt.toNat) 0)))) rv ∧ w = w') := by
  intro d hd
  obtain ⟨g0a, g0b⟩ := hR.n0
  obtain ⟨g1a, g1b⟩ := hR.n1
  obtain ⟨g2a, g2b⟩ := hR.n2
  obtain ⟨g3a, g3b⟩ := hR.n3
  obtain ⟨g4a, g4b⟩ := hR.n4
  obtain ⟨g5a, g5b⟩ := hR.n5
  obtain ⟨g6a, g6b⟩ := hR.n6
  obtain ⟨g7a, g7b⟩ := hR.n7
  obtain ⟨g8a, g8b⟩ := hR.n8
  have k0 : (0 : Int32).toInt = 0 := by decide
  have k1 : (1 : Int32).toInt = 1 := by decide
  show pm_V sc d 141 0 [.ref 59, .int y, .null, .null] [] w _
  refine v_iconst (v := 1) rfl (by decide) ?_
  refine v_istore_n rfl (Nat.le_of_ble_eq_true rfl) ?_
  refine v_iconst (v := 0) rfl (by decide) ?_
  refine v_istore_n rfl (Nat.le_of_ble_eq_true rfl) ?_
  have L3 : ∀ (n3 : Nat) (l1 : Int32) (l2 : Int32), 0 ≤ l1.toInt → l1.toInt ≤ 1 → 0 ≤ l2.toInt → l2.toInt ≤ 20 → ((l1.toInt = 1 ∧ ∀ x, x < l2.toInt.toNat → (fs_c c60 y.toInt.toNat) x = (fs_c c60 y.toInt.toNat) 0) ∨ (l1.toInt = 0 ∧ ¬ (∀ x, x < (gi 0).toInt.toNat → (fs_c c60 y.toInt.toNat) x = (fs_c c60 y.toInt.toNat) 0))) → (20 - l2.toInt).toNat < n3 → pm_V sc d 141 4 [.ref 59, .int y, .int l1, .int l2] [] w (fun rv w' => pm_wI (fun v => 0 ≤ v.toInt ∧ v.toInt ≤ 1 ∧ ((v.toInt = 1 ∧ (∀ x, x < (gi 0).toInt.toNat → (fs_c c60 y.toInt.toNat) x = (fs_c c60 y.toInt.toNat) 0)) ∨ (v.toInt = 0 ∧ ¬ (∀ x, x < (gi 0).toInt.toNat → (fs_c c60 y.toInt.toNat) x = (fs_c c60 y.toInt.toNat) 0)))) rv ∧ w = w') := by
    intro n3
    induction n3 with
    | zero => intro l1 l2 t5 t6 t7 t8 t9 hm4; exact absurd hm4 (Nat.not_lt_zero _)
    | succ n3 ih4_3 =>
      intro l1 l2 t5 t6 t7 t8 t9 hm4
      refine v_iload_n rfl rfl ?_
      refine v_aload_n rfl rfl ?_
      obtain ⟨v11, v12, v13, v14, v15, v16, v17, v18, ⟨v11z, v11e⟩, ⟨⟨v12a, v12b⟩, v12e⟩, ⟨⟨v13a, v13b⟩, v13e⟩, ⟨v15a, v15b⟩, ⟨v18a, v18b⟩, h10⟩ := hI.2.1 59 (by decide) (by decide)
      have v11z := v11z.imp i_eq.mp i_eq.mp
      rw [i_0, i_1] at v11z
      refine v_get rfl h10 rfl ?_
      refine r_icmp_ge rfl (fun t19 => ?_) (fun t19 => ?_)
      · refine v_iload_n rfl rfl ?_
        exact r_zret rfl (by omega) ⟨⟨_, rfl, (by omega), (by omega), (by
            rcases t9 with g | g
            · exact Or.inl ⟨g.1, fun x hx => g.2 x (by omega)⟩
            · exact Or.inr g)⟩, rfl⟩
      · refine v_iload_n rfl rfl ?_
        refine r_if_eq rfl (fun t20 => ?_) (fun t20 => ?_)
        · refine v_iconst (v := 0) rfl (by decide) ?_
          refine v_istore_n rfl (Nat.le_of_ble_eq_true rfl) ?_
          refine r_iinc rfl rfl (by decide) (by omega) (by omega) (fun z21 z21e => ?_)
          refine v_goto rfl ?_
          exact ih4_3 (0 : Int32) z21 (by omega) (by omega) (by omega) (by omega) (by
              rcases t9 with g | g
              · first
                | exact absurd g.1 (by omega)
                | exact Or.inl ⟨by omega, fun x hx => by
                    by_cases e : x < l2.toInt.toNat
                    · exact g.2 x e
                    · have e2 : x = l2.toInt.toNat := by omega
                      subst e2
                      rw [← qA, show (0 : Nat) = (0 : Int32).toInt.toNat from rfl, ← qA]
                      exact i_eq.mpr (by omega)⟩
                | exact Or.inr ⟨by omega, fun hS => by
                    have q := hS l2.toInt.toNat (by omega)
                    rw [← qA, show (0 : Nat) = (0 : Int32).toInt.toNat from rfl, ← qA] at q
                    have q2 := congrArg Int32.toInt q
                    omega⟩
              · exact Or.inr ⟨by omega, g.2⟩) (by omega)
        · refine v_aload_n rfl rfl ?_
          refine v_iload_n rfl rfl ?_
          refine v_iload_n rfl rfl ?_
          refine v_callV rfl (W_X12_colour_59_x l2 y c60 (by omega) (by omega) (by omega) (by omega) hc60 hl60 hR hI) rfl rfl h10 rfl rfl (by omega) (fun rv w22 hq23 => ?_)
          obtain ⟨⟨z24, rfl, z24p0⟩, rfl⟩ := hq23
          have z24A : z24 = (fs_c c60 y.toInt.toNat) l2.toInt.toNat := i_eq.mpr (by rw [z24p0]; unfold fs_c sq_c; rw [show (20 * y.toInt + l2.toInt).toNat = 20 * y.toInt.toNat + l2.toInt.toNat by omega])
          refine v_aload_n rfl rfl ?_
          refine v_iconst (v := 0) rfl (by decide) ?_
          refine v_iload_n rfl rfl ?_
          refine v_callV rfl (W_X12_colour_59_x (0 : Int32) y c60 (by omega) (by omega) (by omega) (by omega) hc60 hl60 hR hI) rfl rfl h10 rfl rfl (by omega) (fun rv w25 hq26 => ?_)
          obtain ⟨⟨z27, rfl, z27p0⟩, rfl⟩ := hq26
          have z27A : z27 = (fs_c c60 y.toInt.toNat) (0 : Int32).toInt.toNat := i_eq.mpr (by rw [z27p0]; unfold fs_c sq_c; rw [show (20 * y.toInt + (0 : Int32).toInt).toNat = 20 * y.toInt.toNat + (0 : Int32).toInt.toNat by omega])
          refine r_icmp_ne rfl (fun t28 => ?_) (fun t28 => ?_)
          · refine v_iconst (v := 0) rfl (by decide) ?_
            refine v_istore_n rfl (Nat.le_of_ble_eq_true rfl) ?_
            refine r_iinc rfl rfl (by decide) (by omega) (by omega) (fun z29 z29e => ?_)
            refine v_goto rfl ?_
            exact ih4_3 (0 : Int32) z29 (by omega) (by omega) (by omega) (by omega) (by
                rcases t9 with g | g
                · first
                  | exact absurd g.1 (by omega)
                  | exact Or.inl ⟨by omega, fun x hx => by
                      by_cases e : x < l2.toInt.toNat
                      · exact g.2 x e
                      · have e2 : x = l2.toInt.toNat := by omega
                        subst e2
                        rw [← z24A, show (0 : Nat) = (0 : Int32).toInt.toNat from rfl, ← z27A]
                        exact i_eq.mpr (by omega)⟩
                  | exact Or.inr ⟨by omega, fun hS => by
                      have q := hS l2.toInt.toNat (by omega)
                      rw [← z24A, show (0 : Nat) = (0 : Int32).toInt.toNat from rfl, ← z27A] at q
                      have q2 := congrArg Int32.toInt q
                      omega⟩
                · exact Or.inr ⟨by omega, g.2⟩) (by omega)
          · refine v_iconst (v := 1) rfl (by decide) ?_
            refine v_goto rfl ?_
            refine v_istore_n rfl (Nat.le_of_ble_eq_true rfl) ?_
            refine r_iinc rfl rfl (by decide) (by omega) (by omega) (fun z30 z30e => ?_)
            refine v_goto rfl ?_
            exact ih4_3 (1 : Int32) z30 (by omega) (by omega) (by omega) (by omega) (by
                rcases t9 with g | g
                · first
                  | exact absurd g.1 (by omega)
                  | exact Or.inl ⟨by omega, fun x hx => by
                      by_cases e : x < l2.toInt.toNat
                      · exact g.2 x e
                      · have e2 : x = l2.toInt.toNat := by omega
                        subst e2
                        rw [← z24A, show (0 : Nat) = (0 : Int32).toInt.toNat from rfl, ← z27A]
                        exact i_eq.mpr (by omega)⟩
                  | exact Or.inr ⟨by omega, fun hS => by
                      have q := hS l2.toInt.toNat (by omega)
                      rw [← z24A, show (0 : Nat) = (0 : Int32).toInt.toNat from rfl, ← z27A] at q
                      have q2 := congrArg Int32.toInt q
                      omega⟩
                · exact Or.inr ⟨by omega, g.2⟩) (by omega)
  exact L3 _ (1 : Int32) (0 : Int32) (by omega) (by omega) (by omega) (by omega) (by exact Or.inl ⟨rfl, fun x hx => by rw [show (0 : Int32).toInt.toNat = 0 from rfl] at hx; omega⟩) (Nat.lt_add_one _)
set_option maxRecDepth 100000 in
theorem W_X12_begins_59_e {sc : pm_S} {w : pm_W} {gi : Nat → Int32} {ga : Nat → List Int32} (x : Int32) (y : Int32) (c60 : List Int32) (p0 : y.toInt ≤ 19) (p1 : 0 ≤ y.toInt) (p2 : x.toInt ≤ 19) (p3 : 0 ≤ x.toInt) (p4 : x.toInt < (gi 0).toInt) (hc60 : w[60]? = some (.inl (0, .inl c60))) (hl60 : c60.length = 400) (hR : pm_Rg gi ga) (hI : pm_IM gi ga w) : pm_Mt sc 1 139 3 [.ref 59, .int x, .int y] w (fun rv w' => pm_wI (fun v => 0 ≤ v.toInt ∧ v.toInt ≤ 1 ∧ ((v.toInt = 1 ∧ fs_st (fs_c c60 y.toInt.toNat) (gi 0).toInt.toNat x.toInt.toNat) ∨ (v.toInt = 0 ∧ ¬ fs_st (fs_c c60 y.toInt.toNat) (gi 0).toInt.toNat x.toInt.toNat))) rv ∧ w = w') := by
  intro d hd
  obtain ⟨g0a, g0b⟩ := hR.n0
  obtain ⟨g1a, g1b⟩ := hR.n1
  obtain ⟨g2a, g2b⟩ := hR.n2
  obtain ⟨g3a, g3b⟩ := hR.n3
  obtain ⟨g4a, g4b⟩ := hR.n4
  obtain ⟨g5a, g5b⟩ := hR.n5
  obtain ⟨g6a, g6b⟩ := hR.n6
  obtain ⟨g7a, g7b⟩ := hR.n7
  obtain ⟨g8a, g8b⟩ := hR.n8
  have k0 : (0 : Int32).toInt = 0 := by decide
  have k1 : (1 : Int32).toInt = 1 := by decide
  show pm_V sc d 139 0 [.ref 59, .int x, .int y] [] w _
  refine v_aload_n rfl rfl ?_
  refine v_iload_n rfl rfl ?_
  refine v_aload_n rfl rfl ?_
  obtain ⟨v2, v3, v4, v5, v6, v7, v8, v9, ⟨v2z, v2e⟩, ⟨⟨v3a, v3b⟩, v3e⟩, ⟨⟨v4a, v4b⟩, v4e⟩, ⟨v6a, v6b⟩, ⟨v9a, v9b⟩, h1⟩ := hI.2.1 59 (by decide) (by decide)
  have v2z := v2z.imp i_eq.mp i_eq.mp
  rw [i_0, i_1] at v2z
  refine v_get rfl h1 rfl ?_
  refine r_iadd rfl (by omega) (by omega) (fun z10 z10e => ?_)
  refine v_iconst (v := 1) rfl (by decide) ?_
  refine r_isub rfl (by omega) (by omega) (fun z11 z11e => ?_)
  skip
  refine v_aload_n rfl rfl ?_
  refine v_get rfl h1 rfl ?_
  refine r_irem rfl (by omega) (by omega) (fun z12 z12m z12a z12b z12c => ?_)
  have z12k := j_em z12m (by omega) (by omega)
  rw [show z11.toInt.toNat = x.toInt.toNat + (gi 0).toInt.toNat - 1 by omega] at z12k
  refine v_iload_n rfl rfl ?_
  refine v_callV rfl (W_X12_colour_59_x z12 y c60 (by omega) (by omega) (by omega) (by omega) hc60 hl60 hR hI) rfl rfl h1 rfl rfl (by omega) (fun rv w13 hq14 => ?_)
  obtain ⟨⟨z15, rfl, z15p0⟩, rfl⟩ := hq14
  have z15A : z15 = (fs_c c60 y.toInt.toNat) z12.toInt.toNat := i_eq.mpr (by rw [z15p0]; unfold fs_c sq_c; rw [show (20 * y.toInt + z12.toInt).toNat = 20 * y.toInt.toNat + z12.toInt.toNat by omega])
  refine v_aload_n rfl rfl ?_
  refine v_iload_n rfl rfl ?_
  refine v_iload_n rfl rfl ?_
  refine v_callV rfl (W_X12_colour_59_x x y c60 (by omega) (by omega) (by omega) (by omega) hc60 hl60 hR hI) rfl rfl h1 rfl rfl (by omega) (fun rv w16 hq17 => ?_)
  obtain ⟨⟨z18, rfl, z18p0⟩, rfl⟩ := hq17
  have z18A : z18 = (fs_c c60 y.toInt.toNat) x.toInt.toNat := i_eq.mpr (by rw [z18p0]; unfold fs_c sq_c; rw [show (20 * y.toInt + x.toInt).toNat = 20 * y.toInt.toNat + x.toInt.toNat by omega])
  refine r_icmp_eq rfl (fun t19 => ?_) (fun t19 => ?_)
  · refine v_iconst (v := 0) rfl (by decide) ?_
    exact r_zret rfl (by omega) ⟨⟨_, rfl, (by omega), (by omega), (by
        have hd : fs_st (fs_c c60 y.toInt.toNat) (gi 0).toInt.toNat x.toInt.toNat ↔ ¬ z18 = z15 := by
          unfold fs_st
          rw [← z12k, ← z18A, ← z15A]
        first
        | exact Or.inl ⟨by omega, hd.mpr (fun q => by have := congrArg Int32.toInt q; omega)⟩
        | exact Or.inr ⟨by omega, fun q => hd.mp q (i_eq.mpr (by omega))⟩)⟩, rfl⟩
  · refine v_iconst (v := 1) rfl (by decide) ?_
    refine v_goto rfl ?_
    exact r_zret rfl (by omega) ⟨⟨_, rfl, (by omega), (by omega), (by
        have hd : fs_st (fs_c c60 y.toInt.toNat) (gi 0).toInt.toNat x.toInt.toNat ↔ ¬ z18 = z15 := by
          unfold fs_st
          rw [← z12k, ← z18A, ← z15A]
        first
        | exact Or.inl ⟨by omega, hd.mpr (fun q => by have := congrArg Int32.toInt q; omega)⟩
        | exact Or.inr ⟨by omega, fun q => hd.mp q (i_eq.mpr (by omega))⟩)⟩, rfl⟩
