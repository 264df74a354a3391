set_option maxRecDepth 100000 in
theorem W_X12_areAlike_59_x {sc : pm_S} {w : pm_W} {gi : Nat → Int32} {ga : Nat → List Int32} (a : Int32) (b : Int32) (c60 : List Int32) (p0 : b.toInt ≤ 19) (p1 : 0 ≤ b.toInt) (p2 : a.toInt ≤ 19) (p3 : 0 ≤ a.toInt) (hc60 : w[60]? = some (.inl (0, .inl c60))) (hl60 : c60.length = 400) (hR : pm_Rg gi ga) (hI : pm_IM gi ga w) : pm_Mt sc 1 129 5 [.ref 59, .int a, .int b] w (fun rv w' => pm_wI (fun v => 0 ≤ v.toInt ∧ v.toInt ≤ 1 ∧ ((v.toInt = 1 ∧ sq_al c60 (gi 1).toInt.toNat a.toInt.toNat b.toInt.toNat) ∨ (v.toInt = 0 ∧ ¬ sq_al c60 (gi 1).toInt.toNat a.toInt.toNat b.toInt.toNat))) rv ∧ w = w') := by
  intro d hd
  obtain ⟨g0a, g0b⟩ := hR.n0
  obtain ⟨g1a, g1b⟩ := hR.n1
  obtain ⟨g2a, g2b⟩ := hR.n2
  obtain ⟨g3a, g3b⟩ := hR.n3
  obtain ⟨g4a, g4b⟩ := hR.n4
  obtain ⟨g5a, g5b⟩ := hR.n5
  obtain ⟨g6a, g6b⟩ := hR.n6
  obtain ⟨g7a, g7b⟩ := hR.n7
  obtain ⟨g8a, g8b⟩ := hR.n8
  have k0 : (0 : Int32).toInt = 0 := by decide
  have k1 : (1 : Int32).toInt = 1 := by decide
  show pm_V sc d 129 0 [.ref 59, .int a, .int b, .null, .null] [] w _
  refine v_iconst (v := 1) rfl (by decide) ?_
  refine v_istore_n rfl (Nat.le_of_ble_eq_true rfl) ?_
  refine v_iconst (v := 0) rfl (by decide) ?_
  refine v_istore rfl (Nat.le_of_ble_eq_true rfl) ?_
  have L3 : ∀ (n3 : Nat) (l1 : Int32) (l2 : Int32), 0 ≤ l1.toInt → l1.toInt ≤ 1 → 0 ≤ l2.toInt → l2.toInt ≤ 20 → ((l1.toInt = 1 ∧ ∀ y, y < l2.toInt.toNat → sq_c c60 a.toInt.toNat y = sq_c c60 b.toInt.toNat y) ∨ (l1.toInt = 0 ∧ ¬ sq_al c60 (gi 1).toInt.toNat a.toInt.toNat b.toInt.toNat)) → (20 - l2.toInt).toNat < n3 → pm_V sc d 129 5 [.ref 59, .int a, .int b, .int l1, .int l2] [] w (fun rv w' => pm_wI (fun v => 0 ≤ v.toInt ∧ v.toInt ≤ 1 ∧ ((v.toInt = 1 ∧ sq_al c60 (gi 1).toInt.toNat a.toInt.toNat b.toInt.toNat) ∨ (v.toInt = 0 ∧ ¬ sq_al c60 (gi 1).toInt.toNat a.toInt.toNat b.toInt.toNat))) rv ∧ w = w') := by
    intro n3
    induction n3 with
    | zero => intro l1 l2 t5 t6 t7 t8 t9 hm4; exact absurd hm4 (Nat.not_lt_zero _)
    | succ n3 ih5_3 =>
      intro l1 l2 t5 t6 t7 t8 t9 hm4
      refine v_iload rfl rfl ?_
      refine v_aload_n rfl rfl ?_
      obtain ⟨v11, v12, v13, v14, v15, v16, v17, v18, ⟨v11z, v11e⟩, ⟨⟨v12a, v12b⟩, v12e⟩, ⟨⟨v13a, v13b⟩, v13e⟩, ⟨v15a, v15b⟩, ⟨v18a, v18b⟩, h10⟩ := hI.2.1 59 (by decide) (by decide)
      have v11z := v11z.imp i_eq.mp i_eq.mp
      rw [i_0, i_1] at v11z
      refine v_get rfl h10 rfl ?_
      refine r_icmp_ge rfl (fun t19 => ?_) (fun t19 => ?_)
      · refine v_iload_n rfl rfl ?_
        exact r_zret rfl (by omega) ⟨⟨_, rfl, (by omega), (by omega), (by
            rcases t9 with g | g
            · exact Or.inl ⟨g.1, fun y hy => g.2 y (by omega)⟩
            · exact Or.inr g)⟩, rfl⟩
      · refine v_iload_n rfl rfl ?_
        refine r_if_eq rfl (fun t20 => ?_) (fun t20 => ?_)
        · refine v_iconst (v := 0) rfl (by decide) ?_
          refine v_istore_n rfl (Nat.le_of_ble_eq_true rfl) ?_
          refine r_iinc rfl rfl (by decide) (by omega) (by omega) (fun z21 z21e => ?_)
          refine v_goto rfl ?_
          exact ih5_3 (0 : Int32) z21 (by omega) (by omega) (by omega) (by omega) (by
              rcases t9 with g | g
              · first
                | exact absurd g.1 (by omega)
                | exact Or.inl ⟨by omega, fun y hy => by
                    by_cases e : y < l2.toInt.toNat
                    · exact g.2 y e
                    · have e2 : y = l2.toInt.toNat := by omega
                      subst e2
                      rw [← qA, ← qA]
                      exact i_eq.mpr (by omega)⟩
                | exact Or.inr ⟨by omega, fun hS => by
                    have q := hS l2.toInt.toNat (by omega)
                    rw [← qA, ← qA] at q
                    have q2 := congrArg Int32.toInt q
                    omega⟩
              · exact Or.inr ⟨by omega, g.2⟩) (by omega)
        · refine v_aload_n rfl rfl ?_
          refine v_iload_n rfl rfl ?_
          refine v_iload rfl rfl ?_
          refine v_callV rfl (W_X12_colour_59_x a l2 c60 (by omega) (by omega) (by omega) (by omega) hc60 hl60 hR hI) rfl rfl h10 rfl rfl (by omega) (fun rv w22 hq23 => ?_)
          obtain ⟨⟨z24, rfl, z24p0⟩, rfl⟩ := hq23
          have z24A : z24 = sq_c c60 a.toInt.toNat l2.toInt.toNat := i_eq.mpr (by rw [z24p0]; unfold sq_c; rw [show (20 * l2.toInt + a.toInt).toNat = 20 * l2.toInt.toNat + a.toInt.toNat by omega])
          refine v_aload_n rfl rfl ?_
          refine v_iload_n rfl rfl ?_
          refine v_iload rfl rfl ?_
          refine v_callV rfl (W_X12_colour_59_x b l2 c60 (by omega) (by omega) (by omega) (by omega) hc60 hl60 hR hI) rfl rfl h10 rfl rfl (by omega) (fun rv w25 hq26 => ?_)
          obtain ⟨⟨z27, rfl, z27p0⟩, rfl⟩ := hq26
          have z27A : z27 = sq_c c60 b.toInt.toNat l2.toInt.toNat := i_eq.mpr (by rw [z27p0]; unfold sq_c; rw [show (20 * l2.toInt + b.toInt).toNat = 20 * l2.toInt.toNat + b.toInt.toNat by omega])
          refine r_icmp_ne rfl (fun t28 => ?_) (fun t28 => ?_)
          · refine v_iconst (v := 0) rfl (by decide) ?_
            refine v_istore_n rfl (Nat.le_of_ble_eq_true rfl) ?_
            refine r_iinc rfl rfl (by decide) (by omega) (by omega) (fun z29 z29e => ?_)
            refine v_goto rfl ?_
            exact ih5_3 (0 : Int32) z29 (by omega) (by omega) (by omega) (by omega) (by
                rcases t9 with g | g
                · first
                  | exact absurd g.1 (by omega)
                  | exact Or.inl ⟨by omega, fun y hy => by
                      by_cases e : y < l2.toInt.toNat
                      · exact g.2 y e
                      · have e2 : y = l2.toInt.toNat := by omega
                        subst e2
                        rw [← z24A, ← z27A]
                        exact i_eq.mpr (by omega)⟩
                  | exact Or.inr ⟨by omega, fun hS => by
                      have q := hS l2.toInt.toNat (by omega)
                      rw [← z24A, ← z27A] at q
                      have q2 := congrArg Int32.toInt q
                      omega⟩
                · exact Or.inr ⟨by omega, g.2⟩) (by omega)
          · refine v_iconst (v := 1) rfl (by decide) ?_
            refine v_goto rfl ?_
            refine v_istore_n rfl (Nat.le_of_ble_eq_true rfl) ?_
            refine r_iinc rfl rfl (by decide) (by omega) (by omega) (fun z30 z30e => ?_)
            refine v_goto rfl ?_
            exact ih5_3 (1 : Int32) z30 (by omega) (by omega) (by omega) (by omega) (by
                rcases t9 with g | g
                · first
                  | exact absurd g.1 (by omega)
                  | exact Or.inl ⟨by omega, fun y hy => by
                      by_cases e : y < l2.toInt.toNat
                      · exact g.2 y e
                      · have e2 : y = l2.toInt.toNat := by omega
                        subst e2
                        rw [← z24A, ← z27A]
                        exact i_eq.mpr (by omega)⟩
                  | exact Or.inr ⟨by omega, fun hS => by
                      have q := hS l2.toInt.toNat (by omega)
                      rw [← z24A, ← z27A] at q
                      have q2 := congrArg Int32.toInt q
                      omega⟩
                · exact Or.inr ⟨by omega, g.2⟩) (by omega)
  exact L3 _ (1 : Int32) (0 : Int32) (by omega) (by omega) (by omega) (by omega) (by exact Or.inl ⟨rfl, fun y hy => by rw [show (0 : Int32).toInt.toNat = 0 from rfl] at hy; omega⟩) (Nat.lt_add_one _)
set_option maxRecDepth 100000 in
theorem W_X12_findCords_59_x {sc : pm_S} {w w0 : pm_W} {gi : Nat → Int32} {ga : Nat → List Int32}   (hR : pm_Rg gi ga) (hI : pm_IM gi ga w) (hh : pm_lo w0 w) : pm_Mt sc 2 130 3 [.ref 59] w (fun rv w' => rv = none ∧ pm_IM gi ga w' ∧ pm_lo w0 w' ∧ ∃ (v4 v5 v6 v14 m v39 v40 v42 : Int32) (fs os : List Int32), w'[59]? = some (.inr (12, [.int (gi 0), .int (gi 1), .ref 60, .int (gi 2), .int v4, .int v5, .int v6, .ref 61, .ref 62, .ref 63, .int (gi 5), .int (gi 3), .int (gi 4), .int (gi 6), .int v14, .int (gi 7), .ref 64, .ref 65, .ref 66, .ref 67, .int (gi 8), .ref 68, .ref 69, .ref 70, .ref 71, .ref 72, .ref 73, .ref 74, .ref 75, .ref 76, .ref 77, .ref 78, .ref 79, .ref 80, .ref 81, .int m, .ref 82, .ref 83, .ref 84, .int v39, .int v40, .ref 85, .int v42, .ref 86, .ref 87])) ∧ w'[81]? = some (.inl (0, .inl fs)) ∧ w'[80]? = some (.inl (0, .inl os)) ∧ fs.length = 20 ∧ os.length = 20 ∧ (∀ x ∈ fs, pm_rng x (0) 19) ∧ (∀ x ∈ os, pm_rng x (-1) 19) ∧ 0 ≤ m.toInt ∧ m.toInt ≤ 20 ∧ 0 ≤ v4.toInt ∧ v4.toInt ≤ 1 ∧ v4 = gi 9 ∧ 0 ≤ v5.toInt ∧ v5.toInt ≤ 20 ∧ v5 = gi 12 ∧ 0 ≤ v6.toInt ∧ v6.toInt ≤ 20 ∧ v6 = gi 13 ∧ 0 ≤ v42.toInt ∧ v42.toInt ≤ 12 ∧ sq_ck gi ga fs os m.toInt.toNat) := by
  intro d hd
  obtain ⟨g0a, g0b⟩ := hR.n0
  obtain ⟨g1a, g1b⟩ := hR.n1
  obtain ⟨g2a, g2b⟩ := hR.n2
  obtain ⟨g3a, g3b⟩ := hR.n3
  obtain ⟨g4a, g4b⟩ := hR.n4
  obtain ⟨g5a, g5b⟩ := hR.n5
  obtain ⟨g6a, g6b⟩ := hR.n6
  obtain ⟨g7a, g7b⟩ := hR.n7
  obtain ⟨g8a, g8b⟩ := hR.n8
  have km1 : (-1 : Int32).toInt = -1 := by decide
  have k0 : (0 : Int32).toInt = 0 := by decide
  have k1 : (1 : Int32).toInt = 1 := by decide
  show pm_V sc d 130 0 [.ref 59, .null, .null] [] w _
  refine v_aload_n rfl rfl ?_
  refine v_iconst (v := 0) rfl (by decide) ?_
  obtain ⟨v2, v3, v4, v5, v6, v7, v8, v9, ⟨v2z, v2e⟩, ⟨⟨v3a, v3b⟩, v3e⟩, ⟨⟨v4a, v4b⟩, v4e⟩, ⟨v6a, v6b⟩, ⟨v9a, v9b⟩, h1⟩ := hI.2.1 59 (by decide) (by decide)
  have v2z := v2z.imp i_eq.mp i_eq.mp
  rw [i_0, i_1] at v2z
  refine v_put rfl h1 rfl (Nat.le_of_ble_eq_true rfl) ?_
  refine r_gen (w' := w.set 59 (.inr (12, [.int (gi 0), .int (gi 1), .ref 60, .int (gi 2), .int v2, .int v3, .int v4, .ref 61, .ref 62, .ref 63, .int (gi 5), .int (gi 3), .int (gi 4), .int (gi 6), .int v5, .int (gi 7), .ref 64, .ref 65, .ref 66, .ref 67, .int (gi 8), .ref 68, .ref 69, .ref 70, .ref 71, .ref 72, .ref 73, .ref 74, .ref 75, .ref 76, .ref 77, .ref 78, .ref 79, .ref 80, .ref 81, .int (0 : Int32), .ref 82, .ref 83, .ref 84, .int v7, .int v8, .ref 85, .int v9, .ref 86, .ref 87]))) (fun w10 e11 => ?_)
  have hI12 : pm_IM gi ga w10 := by rw [e11]; exact hI.set 59 (by decide) (by decide) (by decide) (by decide) ⟨v2, v3, v4, v5, (0 : Int32), v7, v8, v9, ⟨((show v2.toInt = 0 ∨ v2.toInt = 1 by omega).imp i_eq.mpr i_eq.mpr), v2e⟩, ⟨⟨by omega, by omega⟩, v3e⟩, ⟨⟨by omega, by omega⟩, v4e⟩, ⟨by omega, by omega⟩, ⟨by omega, by omega⟩, rfl⟩
  have hh13 : pm_lo w0 w10 := by rw [e11]; exact hh.set (by decide) _
  have h14 := r_get_eq e11 h1
  refine v_iconst (v := 0) rfl (by decide) ?_
  refine v_istore_n rfl (Nat.le_of_ble_eq_true rfl) ?_
  obtain ⟨xs16, xs16l, xs16r, h15⟩ := hI12.2.1 80 (by decide) (by decide)
  obtain ⟨xs18, xs18l, xs18r, h17⟩ := hI12.2.1 81 (by decide) (by decide)
  have L34 : ∀ (n34 : Nat) (l19 : Int32) (u20 : Value) (w21 : pm_W) (v25 : Int32) (v26 : Int32) (v27 : Int32) (v28 : Int32) (v29 : Int32) (xs31 : List Int32) (xs33 : List Int32), pm_IM gi ga w21 → pm_lo w0 w21 → w21[59]? = some (.inr (12, [.int (gi 0), .int (gi 1), .ref 60, .int (gi 2), .int v2, .int v3, .int v4, .ref 61, .ref 62, .ref 63, .int (gi 5), .int (gi 3), .int (gi 4), .int (gi 6), .int v25, .int (gi 7), .ref 64, .ref 65, .ref 66, .ref 67, .int (gi 8), .ref 68, .ref 69, .ref 70, .ref 71, .ref 72, .ref 73, .ref 74, .ref 75, .ref 76, .ref 77, .ref 78, .ref 79, .ref 80, .ref 81, .int v26, .ref 82, .ref 83, .ref 84, .int v27, .int v28, .ref 85, .int v29, .ref 86, .ref 87])) → w21[80]? = some (.inl (0, .inl xs31)) → xs31.length = 20 → (∀ x ∈ xs31, pm_rng x (-1) 19) → w21[81]? = some (.inl (0, .inl xs33)) → xs33.length = 20 → (∀ x ∈ xs33, pm_rng x (0) 19) → 0 ≤ l19.toInt → l19.toInt ≤ 20 → 0 ≤ v26.toInt → v26.toInt ≤ 20 → 0 ≤ v29.toInt → v29.toInt ≤ 12 → (v26.toInt ≤ l19.toInt) → (l19.toInt ≤ (gi 0).toInt) → (ck (sq_al (ga 15) (gi 1).toInt.toNat) (sq_lk xs33) (sq_lk xs31) l19.toInt.toNat v26.toInt.toNat) → (20 - l19.toInt).toNat < n34 → pm_V sc d 130 7 [.ref 59, .int l19, u20] [] w21 (fun rv w' => rv = none ∧ pm_IM gi ga w' ∧ pm_lo w0 w' ∧ ∃ (v4 v5 v6 v14 m v39 v40 v42 : Int32) (fs os : List Int32), w'[59]? = some (.inr (12, [.int (gi 0), .int (gi 1), .ref 60, .int (gi 2), .int v4, .int v5, .int v6, .ref 61, .ref 62, .ref 63, .int (gi 5), .int (gi 3), .int (gi 4), .int (gi 6), .int v14, .int (gi 7), .ref 64, .ref 65, .ref 66, .ref 67, .int (gi 8), .ref 68, .ref 69, .ref 70, .ref 71, .ref 72, .ref 73, .ref 74, .ref 75, .ref 76, .ref 77, .ref 78, .ref 79, .ref 80, .ref 81, .int m, .ref 82, .ref 83, .ref 84, .int v39, .int v40, .ref 85, .int v42, .ref 86, .ref 87])) ∧ w'[81]? = some (.inl (0, .inl fs)) ∧ w'[80]? = some (.inl (0, .inl os)) ∧ fs.length = 20 ∧ os.length = 20 ∧ (∀ x ∈ fs, pm_rng x (0) 19) ∧ (∀ x ∈ os, pm_rng x (-1) 19) ∧ 0 ≤ m.toInt ∧ m.toInt ≤ 20 ∧ 0 ≤ v4.toInt ∧ v4.toInt ≤ 1 ∧ v4 = gi 9 ∧ 0 ≤ v5.toInt ∧ v5.toInt ≤ 20 ∧ v5 = gi 12 ∧ 0 ≤ v6.toInt ∧ v6.toInt ≤ 20 ∧ v6 = gi 13 ∧ 0 ≤ v42.toInt ∧ v42.toInt ≤ 12 ∧ sq_ck gi ga fs os m.toInt.toNat) := by
    intro n34
    induction n34 with
    | zero => intro l19 u20 w21 v25 v26 v27 v28 v29 xs31 xs33 hI22 hh23 h24 h30 xs31l xs31r h32 xs33l xs33r t36 t37 t38 t39 t40 t41 t42 t43 t44 hm35; exact absurd hm35 (Nat.not_lt_zero _)
    | succ n34 ih7_34 =>
      intro l19 u20 w21 v25 v26 v27 v28 v29 xs31 xs33 hI22 hh23 h24 h30 xs31l xs31r h32 xs33l xs33r t36 t37 t38 t39 t40 t41 t42 t43 t44 hm35
      refine v_iload_n rfl rfl ?_
      refine v_aload_n rfl rfl ?_
      refine v_get rfl h24 rfl ?_
      refine r_icmp_ge rfl (fun t45 => ?_) (fun t45 => ?_)
      · exact v_ret rfl ⟨rfl, hI22, hh23, ⟨v2, v3, v4, v25, v26, v27, v28, v29, xs33, xs31, h24, h32, h30, xs33l, xs31l, xs33r, xs31r, by omega, by omega, by omega, by omega, v2e, by omega, by omega, v3e, by omega, by omega, v4e, by omega, by omega, by unfold sq_ck; rw [show (gi 0).toInt.toNat = l19.toInt.toNat by omega]; exact t44⟩⟩
      · refine v_aload_n rfl rfl ?_
        refine v_get rfl h24 rfl ?_
        refine v_iload_n rfl rfl ?_
        refine v_iconst (v := (-1)) rfl (by decide) ?_
        refine r_iastx rfl h30 xs31l (by omega) (by omega) (fun ys46 ys46l ys46m ys46g ys46n => ?_)
        have ys46r := r_rng ys46m xs31r (by omega) (by omega)
        refine r_gen (w' := w21.set 80 (.inl (0, .inl ys46))) (fun w47 e48 => ?_)
        have hI49 : pm_IM gi ga w47 := by rw [e48]; exact hI22.set 80 (by decide) (by decide) (by decide) (by decide) ⟨ys46, ys46l, ys46r, rfl⟩
        have hh50 : pm_lo w0 w47 := by rw [e48]; exact hh23.set (by decide) _
        have h51 := r_get_ne e48 (show 80 ≠ 59 by decide) h24
        have h52 := r_get_ne e48 (show 80 ≠ 81 by decide) h32
        have h53 := r_get_eq e48 h30
        refine v_iconst (v := 0) rfl (by decide) ?_
        refine v_istore_n rfl (Nat.le_of_ble_eq_true rfl) ?_
        have L62 : ∀ (n62 : Nat) (l54 : Int32) (w55 : pm_W) (xs61 : List Int32), pm_IM gi ga w55 → pm_lo w0 w55 → w55[59]? = some (.inr (12, [.int (gi 0), .int (gi 1), .ref 60, .int (gi 2), .int v2, .int v3, .int v4, .ref 61, .ref 62, .ref 63, .int (gi 5), .int (gi 3), .int (gi 4), .int (gi 6), .int v25, .int (gi 7), .ref 64, .ref 65, .ref 66, .ref 67, .int (gi 8), .ref 68, .ref 69, .ref 70, .ref 71, .ref 72, .ref 73, .ref 74, .ref 75, .ref 76, .ref 77, .ref 78, .ref 79, .ref 80, .ref 81, .int v26, .ref 82, .ref 83, .ref 84, .int v27, .int v28, .ref 85, .int v29, .ref 86, .ref 87])) → w55[81]? = some (.inl (0, .inl xs33)) → w55[80]? = some (.inl (0, .inl xs61)) → xs61.length = 20 → (∀ x ∈ xs61, pm_rng x (-1) 19) → 0 ≤ l54.toInt → l54.toInt ≤ 20 → (l54.toInt ≤ v26.toInt) → (ck (sq_al (ga 15) (gi 1).toInt.toNat) (sq_lk xs33) (sq_lk xs61) l19.toInt.toNat v26.toInt.toNat) → (ck_in (sq_al (ga 15) (gi 1).toInt.toNat) (sq_lk xs33) l19.toInt.toNat v26.toInt.toNat l54.toInt.toNat (sq_lk xs61 l19.toInt.toNat)) → (20 - l54.toInt).toNat < n62 → pm_V sc d 130 24 [.ref 59, .int l19, .int l54] [] w55 (fun rv w' => rv = none ∧ pm_IM gi ga w' ∧ pm_lo w0 w' ∧ ∃ (v4 v5 v6 v14 m v39 v40 v42 : Int32) (fs os : List Int32), w'[59]? = some (.inr (12, [.int (gi 0), .int (gi 1), .ref 60, .int (gi 2), .int v4, .int v5, .int v6, .ref 61, .ref 62, .ref 63, .int (gi 5), .int (gi 3), .int (gi 4), .int (gi 6), .int v14, .int (gi 7), .ref 64, .ref 65, .ref 66, .ref 67, .int (gi 8), .ref 68, .ref 69, .ref 70, .ref 71, .ref 72, .ref 73, .ref 74, .ref 75, .ref 76, .ref 77, .ref 78, .ref 79, .ref 80, .ref 81, .int m, .ref 82, .ref 83, .ref 84, .int v39, .int v40, .ref 85, .int v42, .ref 86, .ref 87])) ∧ w'[81]? = some (.inl (0, .inl fs)) ∧ w'[80]? = some (.inl (0, .inl os)) ∧ fs.length = 20 ∧ os.length = 20 ∧ (∀ x ∈ fs, pm_rng x (0) 19) ∧ (∀ x ∈ os, pm_rng x (-1) 19) ∧ 0 ≤ m.toInt ∧ m.toInt ≤ 20 ∧ 0 ≤ v4.toInt ∧ v4.toInt ≤ 1 ∧ v4 = gi 9 ∧ 0 ≤ v5.toInt ∧ v5.toInt ≤ 20 ∧ v5 = gi 12 ∧ 0 ≤ v6.toInt ∧ v6.toInt ≤ 20 ∧ v6 = gi 13 ∧ 0 ≤ v42.toInt ∧ v42.toInt ≤ 12 ∧ sq_ck gi ga fs os m.toInt.toNat) := by
          intro n62
          induction n62 with
          | zero => intro l54 w55 xs61 hI56 hh57 h58 h59 h60 xs61l xs61r t64 t65 t66 t67 t68 hm63; exact absurd hm63 (Nat.not_lt_zero _)
          | succ n62 ih24_62 =>
            intro l54 w55 xs61 hI56 hh57 h58 h59 h60 xs61l xs61r t64 t65 t66 t67 t68 hm63
            refine v_iload_n rfl rfl ?_
            refine v_aload_n rfl rfl ?_
            refine v_get rfl h58 rfl ?_
            refine r_icmp_ge rfl (fun t69 => ?_) (fun t69 => ?_)
            · refine v_aload_n rfl rfl ?_
              refine v_get rfl h58 rfl ?_
              refine v_iload_n rfl rfl ?_
              refine r_iaload rfl h60 xs61l (by omega) (by omega) (fun z70 z70m z70g => ?_)
              obtain ⟨z70a, z70b⟩ := xs61r z70 z70m
              skip
              refine r_if_ge rfl (fun t71 => ?_) (fun t71 => ?_)
              · refine r_iinc rfl rfl (by decide) (by omega) (by omega) (fun z72 z72e => ?_)
                refine v_goto rfl ?_
                exact ih7_34 z72 (.int l54) w55 v25 v26 v27 v28 v29 xs61 xs33 hI56 hh57 h58 h60 xs61l xs61r h59 xs33l xs33r (by omega) (by omega) (by omega) (by omega) (by omega) (by omega) (by omega) (by omega) (by
                    have q : z70.toInt = sq_lk xs61 l19.toInt.toNat := congrArg Int32.toInt z70g
                    have q2 := ck_in.some t68 (show 0 ≤ sq_lk xs61 l19.toInt.toNat by omega)
                    exact ck.next t67 q2.1 (show z72.toInt.toNat = l19.toInt.toNat + 1 by omega) (fun c hc => rfl) (fun j hj => rfl) (by have hz : (xs61.getD l19.toInt.toNat 0).toInt = sq_lk xs61 l19.toInt.toNat := rfl; omega) (Or.inr ⟨q2.2, rfl⟩)) (by omega)
              · refine v_aload_n rfl rfl ?_
                refine v_get rfl h58 rfl ?_
                refine v_aload_n rfl rfl ?_
                refine v_get rfl h58 rfl ?_
                refine v_iload_n rfl rfl ?_
                refine r_iastx rfl h59 xs33l (by omega) (by omega) (fun ys73 ys73l ys73m ys73g ys73n => ?_)
                have ys73r := r_rng ys73m xs33r (by omega) (by omega)
                refine r_gen (w' := w55.set 81 (.inl (0, .inl ys73))) (fun w74 e75 => ?_)
                have hI76 : pm_IM gi ga w74 := by rw [e75]; exact hI56.set 81 (by decide) (by decide) (by decide) (by decide) ⟨ys73, ys73l, ys73r, rfl⟩
                have hh77 : pm_lo w0 w74 := by rw [e75]; exact hh57.set (by decide) _
                have h78 := r_get_ne e75 (show 81 ≠ 59 by decide) h58
                have h79 := r_get_ne e75 (show 81 ≠ 80 by decide) h60
                have h80 := r_get_eq e75 h59
                refine v_aload_n rfl rfl ?_
                refine v_get rfl h78 rfl ?_
                refine v_iload_n rfl rfl ?_
                refine v_aload_n rfl rfl ?_
                refine v_get rfl h78 rfl ?_
                refine r_iastx rfl h79 xs61l (by omega) (by omega) (fun ys81 ys81l ys81m ys81g ys81n => ?_)
                have ys81r := r_rng ys81m xs61r (by omega) (by omega)
                refine r_gen (w' := w74.set 80 (.inl (0, .inl ys81))) (fun w82 e83 => ?_)
                have hI84 : pm_IM gi ga w82 := by rw [e83]; exact hI76.set 80 (by decide) (by decide) (by decide) (by decide) ⟨ys81, ys81l, ys81r, rfl⟩
                have hh85 : pm_lo w0 w82 := by rw [e83]; exact hh77.set (by decide) _
                have h86 := r_get_ne e83 (show 80 ≠ 59 by decide) h78
                have h87 := r_get_ne e83 (show 80 ≠ 81 by decide) h80
                have h88 := r_get_eq e83 h79
                refine v_aload_n rfl rfl ?_
                refine v_dup rfl rfl ?_
                refine v_get rfl h86 rfl ?_
                refine v_iconst (v := 1) rfl (by decide) ?_
                refine r_iadd rfl (by omega) (by omega) (fun z89 z89e => ?_)
                refine v_put rfl h86 rfl (Nat.le_of_ble_eq_true rfl) ?_
                refine r_gen (w' := w82.set 59 (.inr (12, [.int (gi 0), .int (gi 1), .ref 60, .int (gi 2), .int v2, .int v3, .int v4, .ref 61, .ref 62, .ref 63, .int (gi 5), .int (gi 3), .int (gi 4), .int (gi 6), .int v25, .int (gi 7), .ref 64, .ref 65, .ref 66, .ref 67, .int (gi 8), .ref 68, .ref 69, .ref 70, .ref 71, .ref 72, .ref 73, .ref 74, .ref 75, .ref 76, .ref 77, .ref 78, .ref 79, .ref 80, .ref 81, .int z89, .ref 82, .ref 83, .ref 84, .int v27, .int v28, .ref 85, .int v29, .ref 86, .ref 87]))) (fun w90 e91 => ?_)
                have hI92 : pm_IM gi ga w90 := by rw [e91]; exact hI84.set 59 (by decide) (by decide) (by decide) (by decide) ⟨v2, v3, v4, v25, z89, v27, v28, v29, ⟨((show v2.toInt = 0 ∨ v2.toInt = 1 by omega).imp i_eq.mpr i_eq.mpr), v2e⟩, ⟨⟨by omega, by omega⟩, v3e⟩, ⟨⟨by omega, by omega⟩, v4e⟩, ⟨by omega, by omega⟩, ⟨by omega, by omega⟩, rfl⟩
                have hh93 : pm_lo w0 w90 := by rw [e91]; exact hh85.set (by decide) _
                have h94 := r_get_ne e91 (show 59 ≠ 81 by decide) h87
                have h95 := r_get_ne e91 (show 59 ≠ 80 by decide) h88
                have h96 := r_get_eq e91 h86
                refine r_iinc rfl rfl (by decide) (by omega) (by omega) (fun z97 z97e => ?_)
                refine v_goto rfl ?_
                exact ih7_34 z97 (.int l54) w90 v25 z89 v27 v28 v29 ys81 ys73 hI92 hh93 h96 h95 ys81l ys81r h94 ys73l ys73r (by omega) (by omega) (by omega) (by omega) (by omega) (by omega) (by omega) (by omega) (by
                    have q : z70.toInt = sq_lk xs61 l19.toInt.toNat := congrArg Int32.toInt z70g
                    first
                    | (exfalso
                       have q3 : q.toInt = sq_lk xs61 l19.toInt.toNat := congrArg Int32.toInt qg
                       omega)
                    | exact ck.next t67 (ck_in.none t68 (by omega) (by omega)) (show z97.toInt.toNat = l19.toInt.toNat + 1 by omega) (fun c hc => ys73n c (by omega)) (fun j hj => ys81n j (by omega)) (by rw [ys81g]; omega) (Or.inl ⟨rfl, by rw [ys73g]; omega, by omega⟩)) (by omega)
            · refine v_aload_n rfl rfl ?_
              refine v_get rfl h58 rfl ?_
              refine v_iload_n rfl rfl ?_
              refine r_iaload rfl h60 xs61l (by omega) (by omega) (fun z98 z98m z98g => ?_)
              obtain ⟨z98a, z98b⟩ := xs61r z98 z98m
              skip
              refine r_if_ge rfl (fun t99 => ?_) (fun t99 => ?_)
              · refine v_aload_n rfl rfl ?_
                refine v_get rfl h58 rfl ?_
                refine v_iload_n rfl rfl ?_
                refine r_iaload rfl h60 xs61l (by omega) (by omega) (fun z100 z100m z100g => ?_)
                obtain ⟨z100a, z100b⟩ := xs61r z100 z100m
                skip
                refine r_if_ge rfl (fun t101 => ?_) (fun t101 => ?_)
                · refine r_iinc rfl rfl (by decide) (by omega) (by omega) (fun z102 z102e => ?_)
                  refine v_goto rfl ?_
                  exact ih7_34 z102 (.int l54) w55 v25 v26 v27 v28 v29 xs61 xs33 hI56 hh57 h58 h60 xs61l xs61r h59 xs33l xs33r (by omega) (by omega) (by omega) (by omega) (by omega) (by omega) (by omega) (by omega) (by
                      have q : z100.toInt = sq_lk xs61 l19.toInt.toNat := congrArg Int32.toInt z100g
                      have q2 := ck_in.some t68 (show 0 ≤ sq_lk xs61 l19.toInt.toNat by omega)
                      exact ck.next t67 q2.1 (show z102.toInt.toNat = l19.toInt.toNat + 1 by omega) (fun c hc => rfl) (fun j hj => rfl) (by have hz : (xs61.getD l19.toInt.toNat 0).toInt = sq_lk xs61 l19.toInt.toNat := rfl; omega) (Or.inr ⟨q2.2, rfl⟩)) (by omega)
                · refine v_aload_n rfl rfl ?_
                  refine v_get rfl h58 rfl ?_
                  refine v_aload_n rfl rfl ?_
                  refine v_get rfl h58 rfl ?_
                  refine v_iload_n rfl rfl ?_
                  refine r_iastx rfl h59 xs33l (by omega) (by omega) (fun ys103 ys103l ys103m ys103g ys103n => ?_)
                  have ys103r := r_rng ys103m xs33r (by omega) (by omega)
                  refine r_gen (w' := w55.set 81 (.inl (0, .inl ys103))) (fun w104 e105 => ?_)
                  have hI106 : pm_IM gi ga w104 := by rw [e105]; exact hI56.set 81 (by decide) (by decide) (by decide) (by decide) ⟨ys103, ys103l, ys103r, rfl⟩
                  have hh107 : pm_lo w0 w104 := by rw [e105]; exact hh57.set (by decide) _
                  have h108 := r_get_ne e105 (show 81 ≠ 59 by decide) h58
                  have h109 := r_get_ne e105 (show 81 ≠ 80 by decide) h60
                  have h110 := r_get_eq e105 h59
                  refine v_aload_n rfl rfl ?_
                  refine v_get rfl h108 rfl ?_
                  refine v_iload_n rfl rfl ?_
                  refine v_aload_n rfl rfl ?_
                  refine v_get rfl h108 rfl ?_
                  refine r_iastx rfl h109 xs61l (by omega) (by omega) (fun ys111 ys111l ys111m ys111g ys111n => ?_)
                  have ys111r := r_rng ys111m xs61r (by omega) (by omega)
                  refine r_gen (w' := w104.set 80 (.inl (0, .inl ys111))) (fun w112 e113 => ?_)
                  have hI114 : pm_IM gi ga w112 := by rw [e113]; exact hI106.set 80 (by decide) (by decide) (by decide) (by decide) ⟨ys111, ys111l, ys111r, rfl⟩
                  have hh115 : pm_lo w0 w112 := by rw [e113]; exact hh107.set (by decide) _
                  have h116 := r_get_ne e113 (show 80 ≠ 59 by decide) h108
                  have h117 := r_get_ne e113 (show 80 ≠ 81 by decide) h110
                  have h118 := r_get_eq e113 h109
                  refine v_aload_n rfl rfl ?_
                  refine v_dup rfl rfl ?_
                  refine v_get rfl h116 rfl ?_
                  refine v_iconst (v := 1) rfl (by decide) ?_
                  refine r_iadd rfl (by omega) (by omega) (fun z119 z119e => ?_)
                  refine v_put rfl h116 rfl (Nat.le_of_ble_eq_true rfl) ?_
                  refine r_gen (w' := w112.set 59 (.inr (12, [.int (gi 0), .int (gi 1), .ref 60, .int (gi 2), .int v2, .int v3, .int v4, .ref 61, .ref 62, .ref 63, .int (gi 5), .int (gi 3), .int (gi 4), .int (gi 6), .int v25, .int (gi 7), .ref 64, .ref 65, .ref 66, .ref 67, .int (gi 8), .ref 68, .ref 69, .ref 70, .ref 71, .ref 72, .ref 73, .ref 74, .ref 75, .ref 76, .ref 77, .ref 78, .ref 79, .ref 80, .ref 81, .int z119, .ref 82, .ref 83, .ref 84, .int v27, .int v28, .ref 85, .int v29, .ref 86, .ref 87]))) (fun w120 e121 => ?_)
                  have hI122 : pm_IM gi ga w120 := by rw [e121]; exact hI114.set 59 (by decide) (by decide) (by decide) (by decide) ⟨v2, v3, v4, v25, z119, v27, v28, v29, ⟨((show v2.toInt = 0 ∨ v2.toInt = 1 by omega).imp i_eq.mpr i_eq.mpr), v2e⟩, ⟨⟨by omega, by omega⟩, v3e⟩, ⟨⟨by omega, by omega⟩, v4e⟩, ⟨by omega, by omega⟩, ⟨by omega, by omega⟩, rfl⟩
                  have hh123 : pm_lo w0 w120 := by rw [e121]; exact hh115.set (by decide) _
                  have h124 := r_get_ne e121 (show 59 ≠ 81 by decide) h117
                  have h125 := r_get_ne e121 (show 59 ≠ 80 by decide) h118
                  have h126 := r_get_eq e121 h116
                  refine r_iinc rfl rfl (by decide) (by omega) (by omega) (fun z127 z127e => ?_)
                  refine v_goto rfl ?_
                  exact ih7_34 z127 (.int l54) w120 v25 z119 v27 v28 v29 ys111 ys103 hI122 hh123 h126 h125 ys111l ys111r h124 ys103l ys103r (by omega) (by omega) (by omega) (by omega) (by omega) (by omega) (by omega) (by omega) (by
                      have q : z100.toInt = sq_lk xs61 l19.toInt.toNat := congrArg Int32.toInt z100g
                      first
                      | (exfalso
                         have q3 : z98.toInt = sq_lk xs61 l19.toInt.toNat := congrArg Int32.toInt z98g
                         omega)
                      | exact ck.next t67 (ck_in.none t68 (by omega) (by omega)) (show z127.toInt.toNat = l19.toInt.toNat + 1 by omega) (fun c hc => ys103n c (by omega)) (fun j hj => ys111n j (by omega)) (by rw [ys111g]; omega) (Or.inl ⟨rfl, by rw [ys103g]; omega, by omega⟩)) (by omega)
              · refine v_aload_n rfl rfl ?_
                refine v_get rfl h58 rfl ?_
                refine v_iload_n rfl rfl ?_
                refine v_aload_n rfl rfl ?_
                refine v_aload_n rfl rfl ?_
                refine v_get rfl h58 rfl ?_
                refine v_iload_n rfl rfl ?_
                refine r_iaload rfl h59 xs33l (by omega) (by omega) (fun z128 z128m z128g => ?_)
                obtain ⟨z128a, z128b⟩ := xs33r z128 z128m
                skip
                refine v_iload_n rfl rfl ?_
                obtain ⟨sq130l, sq130r, h129⟩ := hI56.2.1 60 (by decide) (by decide)
                refine v_callV rfl (W_X12_areAlike_59_x z128 l19 (ga 15) (by omega) (by omega) (by omega) (by omega) h129 sq130l hR hI56) rfl rfl h58 rfl rfl (by omega) (fun rv w131 hq132 => ?_)
                obtain ⟨⟨z133, rfl, z133p0, z133p1, z133p2⟩, rfl⟩ := hq132
                skip
                refine r_if_eq rfl (fun t134 => ?_) (fun t134 => ?_)
                · refine v_iconst (v := (-1)) rfl (by decide) ?_
                  refine r_iastx rfl h60 xs61l (by omega) (by omega) (fun ys135 ys135l ys135m ys135g ys135n => ?_)
                  have ys135r := r_rng ys135m xs61r (by omega) (by omega)
                  refine r_gen (w' := w55.set 80 (.inl (0, .inl ys135))) (fun w136 e137 => ?_)
                  have hI138 : pm_IM gi ga w136 := by rw [e137]; exact hI56.set 80 (by decide) (by decide) (by decide) (by decide) ⟨ys135, ys135l, ys135r, rfl⟩
                  have hh139 : pm_lo w0 w136 := by rw [e137]; exact hh57.set (by decide) _
                  have h140 := r_get_ne e137 (show 80 ≠ 59 by decide) h58
                  have h141 := r_get_ne e137 (show 80 ≠ 81 by decide) h59
                  have h142 := r_get_ne e137 (show 80 ≠ 60 by decide) h129
                  have h143 := r_get_eq e137 h60
                  refine r_iinc rfl rfl (by decide) (by omega) (by omega) (fun z144 z144e => ?_)
                  refine v_goto rfl ?_
                  exact ih24_62 z144 w136 ys135 hI138 hh139 h140 h141 h143 ys135l ys135r (by omega) (by omega) (by omega) (by exact ck.congr t67 (fun c hc => rfl) (fun j hj => by unfold sq_lk; rw [ys135n j (by omega)])) (by
                      have hv : sq_lk xs61 l19.toInt.toNat = -1 ∧ (∀ c, c < l54.toInt.toNat → ¬ (sq_al (ga 15) (gi 1).toInt.toNat) (sq_lk xs33 c).toNat l19.toInt.toNat) := by
                        rcases t68 with ⟨g1, g2, g3⟩ | ⟨r, g1, -⟩
                        · exact ⟨g1, g3⟩
                        · exfalso
                          have q : z98.toInt = sq_lk xs61 l19.toInt.toNat := congrArg Int32.toInt z98g
                          omega
                      have ha : sq_al (ga 15) (gi 1).toInt.toNat (sq_lk xs33 l54.toInt.toNat).toNat l19.toInt.toNat ↔ z133.toInt = 1 := by
                        unfold sq_lk
                        rw [← z128g]
                        rcases z133p2 with ⟨g1, g2⟩ | ⟨g1, g2⟩
                        · exact ⟨fun _ => g1, fun _ => g2⟩
                        · exact ⟨fun h => absurd h g2, fun h => by omega⟩
                      first
                      | exact Or.inr ⟨l54.toInt.toNat, by have hz := congrArg Int32.toInt ys135g; unfold sq_lk; omega, by omega, hv.2, ha.mpr (by omega)⟩
                      | (refine Or.inl ⟨by have hz := congrArg Int32.toInt ys135g; unfold sq_lk; omega, by omega, fun c hc => ?_⟩
                         by_cases e : c < l54.toInt.toNat
                         · exact hv.2 c e
                         · have e2 : c = l54.toInt.toNat := by omega
                           subst e2
                           exact fun h => absurd (ha.mp h) (by omega))) (by omega)
                · refine v_iload_n rfl rfl ?_
                  refine v_goto rfl ?_
                  refine r_iastx rfl h60 xs61l (by omega) (by omega) (fun ys145 ys145l ys145m ys145g ys145n => ?_)
                  have ys145r := r_rng ys145m xs61r (by omega) (by omega)
                  refine r_gen (w' := w55.set 80 (.inl (0, .inl ys145))) (fun w146 e147 => ?_)
                  have hI148 : pm_IM gi ga w146 := by rw [e147]; exact hI56.set 80 (by decide) (by decide) (by decide) (by decide) ⟨ys145, ys145l, ys145r, rfl⟩
                  have hh149 : pm_lo w0 w146 := by rw [e147]; exact hh57.set (by decide) _
                  have h150 := r_get_ne e147 (show 80 ≠ 59 by decide) h58
                  have h151 := r_get_ne e147 (show 80 ≠ 81 by decide) h59
                  have h152 := r_get_ne e147 (show 80 ≠ 60 by decide) h129
                  have h153 := r_get_eq e147 h60
                  refine r_iinc rfl rfl (by decide) (by omega) (by omega) (fun z154 z154e => ?_)
                  refine v_goto rfl ?_
                  exact ih24_62 z154 w146 ys145 hI148 hh149 h150 h151 h153 ys145l ys145r (by omega) (by omega) (by omega) (by exact ck.congr t67 (fun c hc => rfl) (fun j hj => by unfold sq_lk; rw [ys145n j (by omega)])) (by
                      have hv : sq_lk xs61 l19.toInt.toNat = -1 ∧ (∀ c, c < l54.toInt.toNat → ¬ (sq_al (ga 15) (gi 1).toInt.toNat) (sq_lk xs33 c).toNat l19.toInt.toNat) := by
                        rcases t68 with ⟨g1, g2, g3⟩ | ⟨r, g1, -⟩
                        · exact ⟨g1, g3⟩
                        · exfalso
                          have q : z98.toInt = sq_lk xs61 l19.toInt.toNat := congrArg Int32.toInt z98g
                          omega
                      have ha : sq_al (ga 15) (gi 1).toInt.toNat (sq_lk xs33 l54.toInt.toNat).toNat l19.toInt.toNat ↔ z133.toInt = 1 := by
                        unfold sq_lk
                        rw [← z128g]
                        rcases z133p2 with ⟨g1, g2⟩ | ⟨g1, g2⟩
                        · exact ⟨fun _ => g1, fun _ => g2⟩
                        · exact ⟨fun h => absurd h g2, fun h => by omega⟩
                      first
                      | exact Or.inr ⟨l54.toInt.toNat, by have hz := congrArg Int32.toInt ys145g; unfold sq_lk; omega, by omega, hv.2, ha.mpr (by omega)⟩
                      | (refine Or.inl ⟨by have hz := congrArg Int32.toInt ys145g; unfold sq_lk; omega, by omega, fun c hc => ?_⟩
                         by_cases e : c < l54.toInt.toNat
                         · exact hv.2 c e
                         · have e2 : c = l54.toInt.toNat := by omega
                           subst e2
                           exact fun h => absurd (ha.mp h) (by omega))) (by omega)
        exact L62 _ (0 : Int32) w47 ys46 hI49 hh50 h51 h52 h53 ys46l ys46r (by omega) (by omega) (by omega) (by exact ck.congr t44 (fun c hc => rfl) (fun j hj => by unfold sq_lk; rw [ys46n j (by omega)])) (by
            refine Or.inl ⟨?_, by rw [show (0 : Int32).toInt.toNat = 0 from rfl]; omega, fun c hc => by rw [show (0 : Int32).toInt.toNat = 0 from rfl] at hc; omega⟩
            have hz := congrArg Int32.toInt ys46g
            unfold sq_lk
            omega) (Nat.lt_add_one _)
  exact L34 _ (0 : Int32) (.null) w10 v5 (0 : Int32) v7 v8 v9 xs16 xs18 hI12 hh13 h14 h15 xs16l xs16r h17 xs18l xs18r (by omega) (by omega) (by omega) (by omega) (by omega) (by omega) (by omega) (by omega) (by exact ck.zero rfl rfl) (Nat.lt_add_one _)
