set_option maxRecDepth 100000 in
theorem W_X12_areAlike_59_x {sc : pm_S} {w : pm_W} {gi : Nat → Int32} {ga : Nat → List Int32} (a : Int32) (b : Int32) (c60 : List Int32) (p0 : b.toInt ≤ 19) (p1 : 0 ≤ b.toInt) (p2 : a.toInt ≤ 19) (p3 : 0 ≤ a.toInt) (hc60 : w[60]? = some (.inl (0, .inl c60))) (hl60 : c60.length = 400) (hR : pm_Rg gi ga) (hI : pm_IM gi ga w) : pm_Mt sc 1 129 5 [.ref 59, .int a, .int b] w (fun rv w' => pm_wI (fun v => 0 ≤ v.toInt ∧ v.toInt ≤ 1 ∧ ((v.toInt = 1 ∧ sq_al c60 (gi 1).toInt.toNat a.toInt.toNat b.toInt.toNat) ∨ (v.toInt = 0 ∧ ¬ sq_al c60 (gi 1).toInt.toNat a.toInt.toNat b.toInt.toNat))) rv ∧ w = w') := by
  intro d hd
  obtain ⟨g0a, g0b⟩ := hR.n0
  obtain ⟨g1a, g1b⟩ := hR.n1
  obtain ⟨g2a, g2b⟩ := hR.n2
  obtain ⟨g3a, g3b⟩ := hR.n3
  obtain ⟨g4a, g4b⟩ := hR.n4
  obtain ⟨g5a, g5b⟩ := hR.n5
  obtain ⟨g6a, g6b⟩ := hR.n6
  obtain ⟨g7a, g7b⟩ := hR.n7
  obtain ⟨g8a, g8b⟩ := hR.n8
  have k0 : (0 : Int32).toInt = 0 := by decide
  have k1 : (1 : Int32).toInt = 1 := by decide
  show pm_V sc d 129 0 [.ref 59, .int a, .int b, .null, .null] [] w _
  refine v_iconst (v := 1) rfl (by decide) ?_
  refine v_istore_n rfl (Nat.le_of_ble_eq_true rfl) ?_
  refine v_iconst (v := 0) rfl (by decide) ?_
  refine v_istore rfl (Nat.le_of_ble_eq_true rfl) ?_
  have L3 : ∀ (n3 : Nat) (l1 : Int32) (l2 : Int32), 0 ≤ l1.toInt → l1.toInt ≤ 1 → 0 ≤ l2.toInt → l2.toInt ≤ 20 → ((l1.toInt = 1 ∧ ∀ y, y < l2.toInt.toNat → sq_c c60 a.toInt.toNat y = sq_c c60 b.toInt.toNat y) ∨ (l1.toInt = 0 ∧ ¬ sq_al c60 (gi 1).toInt.toNat a.toInt.toNat b.toInt.toNat)) → (20 - l2.toInt).toNat < n3 → pm_V sc d 129 5 [.ref 59, .int a, .int b, .int l1, .int l2] [] w (fun rv w' => pm_wI (fun v => 0 ≤ v.toInt ∧ v.toInt ≤ 1 ∧ ((v.toInt = 1 ∧ sq_al c60 (gi 1).toInt.toNat a.toInt.toNat b.toInt.toNat) ∨ (v.toInt = 0 ∧ ¬ sq_al c60 (gi 1).toInt.toNat a.toInt.toNat b.toInt.toNat))) rv ∧ w = w') := by
    intro n3
    induction n3 with
    | zero => intro l1 l2 t5 t6 t7 t8 t9 hm4; exact absurd hm4 (Nat.not_lt_zero _)
    | succ n3 ih5_3 =>
      intro l1 l2 t5 t6 t7 t8 t9 hm4
      refine v_iload rfl rfl ?_
      refine v_aload_n rfl rfl ?_
      obtain ⟨v11, v12, v13, v14, v15, v16, v17, v18, v11z, ⟨v12a, v12b⟩, ⟨v13a, v13b⟩, ⟨v15a, v15b⟩, ⟨v18a, v18b⟩, h10⟩ := hI.2.1 59 (by decide) (by decide)
      have v11z := v11z.imp i_eq.mp i_eq.mp
      rw [i_0, i_1] at v11z
      refine v_get rfl h10 rfl ?_
      refine r_icmp_ge rfl (fun t19 => ?_) (fun t19 => ?_)
      · refine v_iload_n rfl rfl ?_
        exact r_zret rfl (by omega) ⟨⟨_, rfl, (by omega), (by omega), (by
            rcases t9 with g | g
            · exact Or.inl ⟨g.1, fun y hy => g.2 y (by omega)⟩
            · exact Or.inr g)⟩, rfl⟩
      · refine v_iload_n rfl rfl ?_
        refine r_if_eq rfl (fun t20 => ?_) (fun t20 => ?_)
        · refine v_iconst (v := 0) rfl (by decide) ?_
          refine v_istore_n rfl (Nat.le_of_ble_eq_true rfl) ?_
          refine r_iinc rfl rfl (by decide) (by omega) (by omega) (fun z21 z21e => ?_)
          refine v_goto rfl ?_
          exact ih5_3 (0 : Int32) z21 (by omega) (by omega) (by omega) (by omega) (by
              rcases t9 with g | g
              · first
                | exact absurd g.1 (by omega)
                | exact Or.inl ⟨by omega, fun y hy => by
                    by_cases e : y < l2.toInt.toNat
                    · exact g.2 y e
                    · have e2 : y = l2.toInt.toNat := by omega
                      subst e2
                      rw [← qA, ← qA]
                      exact i_eq.mpr (by omega)⟩
                | exact Or.inr ⟨by omega, fun hS => by
                    have q := hS l2.toInt.toNat (by omega)
                    rw [← qA, ← qA] at q
                    have q2 := congrArg Int32.toInt q
                    omega⟩
              · exact Or.inr ⟨by omega, g.2⟩) (by omega)
        · refine v_aload_n rfl rfl ?_
          refine v_iload_n rfl rfl ?_
          refine v_iload rfl rfl ?_
          refine v_callV rfl (W_X12_colour_59_x a l2 c60 (by omega) (by omega) (by omega) (by omega) hc60 hl60 hR hI) rfl rfl h10 rfl rfl (by omega) (fun rv w22 hq23 => ?_)
          obtain ⟨⟨z24, rfl, z24p0⟩, rfl⟩ := hq23
          have z24A : z24 = sq_c c60 a.toInt.toNat l2.toInt.toNat := i_eq.mpr (by rw [z24p0]; unfold sq_c; rw [show (20 * l2.toInt + a.toInt).toNat = 20 * l2.toInt.toNat + a.toInt.toNat by omega])
          refine v_aload_n rfl rfl ?_
          refine v_iload_n rfl rfl ?_
          refine v_iload rfl rfl ?_
          refine v_callV rfl (W_X12_colour_59_x b l2 c60 (by omega) (by omega) (by omega) (by omega) hc60 hl60 hR hI) rfl rfl h10 rfl rfl (by omega) (fun rv w25 hq26 => ?_)
          obtain ⟨⟨z27, rfl, z27p0⟩, rfl⟩ := hq26
          have z27A : z27 = sq_c c60 b.toInt.toNat l2.toInt.toNat := i_eq.mpr (by rw [z27p0]; unfold sq_c; rw [show (20 * l2.toInt + b.toInt).toNat = 20 * l2.toInt.toNat + b.toInt.toNat by omega])
          refine r_icmp_ne rfl (fun t28 => ?_) (fun t28 => ?_)
          · refine v_iconst (v := 0) rfl (by decide) ?_
            refine v_istore_n rfl (Nat.le_of_ble_eq_true rfl) ?_
            refine r_iinc rfl rfl (by decide) (by omega) (by omega) (fun z29 z29e => ?_)
            refine v_goto rfl ?_
            exact ih5_3 (0 : Int32) z29 (by omega) (by omega) (by omega) (by omega) (by
                rcases t9 with g | g
                · first
                  | exact absurd g.1 (by omega)
                  | exact Or.inl ⟨by omega, fun y hy => by
                      by_cases e : y < l2.toInt.toNat
                      · exact g.2 y e
                      · have e2 : y = l2.toInt.toNat := by omega
                        subst e2
                        rw [← z24A, ← z27A]
                        exact i_eq.mpr (by omega)⟩
                  | exact Or.inr ⟨by omega, fun hS => by
                      have q := hS l2.toInt.toNat (by omega)
                      rw [← z24A, ← z27A] at q
                      have q2 := congrArg Int32.toInt q
                      omega⟩
                · exact Or.inr ⟨by omega, g.2⟩) (by omega)
          · refine v_iconst (v := 1) rfl (by decide) ?_
            refine v_goto rfl ?_
            refine v_istore_n rfl (Nat.le_of_ble_eq_true rfl) ?_
            refine r_iinc rfl rfl (by decide) (by omega) (by omega) (fun z30 z30e => ?_)
            refine v_goto rfl ?_
            exact ih5_3 (1 : Int32) z30 (by omega) (by omega) (by omega) (by omega) (by
                rcases t9 with g | g
                · first
                  | exact absurd g.1 (by omega)
                  | exact Or.inl ⟨by omega, fun y hy => by
                      by_cases e : y < l2.toInt.toNat
                      · exact g.2 y e
                      · have e2 : y = l2.toInt.toNat := by omega
                        subst e2
                        rw [← z24A, ← z27A]
                        exact i_eq.mpr (by omega)⟩
                  | exact Or.inr ⟨by omega, fun hS => by
                      have q := hS l2.toInt.toNat (by omega)
                      rw [← z24A, ← z27A] at q
                      have q2 := congrArg Int32.toInt q
                      omega⟩
                · exact Or.inr ⟨by omega, g.2⟩) (by omega)
  exact L3 _ (1 : Int32) (0 : Int32) (by omega) (by omega) (by omega) (by omega) (by exact Or.inl ⟨rfl, fun y hy => by rw [show (0 : Int32).toInt.toNat = 0 from rfl] at hy; omega⟩) (Nat.lt_add_one _)
set_option maxRecDepth 100000 in
theorem W_X12_findCords_59_x {sc : pm_S} {w w0 : pm_W} {gi : Nat → Int32} {ga : Nat → List Int32}   (hR : pm_Rg gi ga) (hI : pm_IM gi ga w) (hh : pm_lo w0 w) : pm_Mt sc 2 130 3 [.ref 59] w (fun rv w' => rv = none ∧ pm_IM gi ga w' ∧ pm_lo w0 w' ∧ ∃ (v4 v5 v6 v14 m v39 v40 v42 : Int32) (fs os : List Int32), w'[59]? = some (.inr (12, [.int (gi 0), .int (gi 1), .ref 60, .int (gi 2), .int v4, .int v5, .int v6, .ref 61, .ref 62, .ref 63, .int (gi 5), .int (gi 3), .int (gi 4), .int (gi 6), .int v14, .int (gi 7), .ref 64, .ref 65, .ref 66, .ref 67, .int (gi 8), .ref 68, .ref 69, .ref 70, .ref 71, .ref 72, .ref 73, .ref 74, .ref 75, .ref 76, .ref 77, .ref 78, .ref 79, .ref 80, .ref 81, .int m, .ref 82, .ref 83, .ref 84, .int v39, .int v40, .ref 85, .int v42, .ref 86, .ref 87])) ∧ w'[81]? = some (.inl (0, .inl fs)) ∧ w'[80]? = some (.inl (0, .inl os)) ∧ fs.length = 20 ∧ os.length = 20 ∧ (∀ x ∈ fs, pm_rng x (0) 19) ∧ (∀ x ∈ os, pm_rng x (-1) 19) ∧ 0 ≤ m.toInt ∧ m.toInt ≤ 20 ∧ 0 ≤ v4.toInt ∧ v4.toInt ≤ 1 ∧ 0 ≤ v5.toInt ∧ v5.toInt ≤ 20 ∧ 0 ≤ v6.toInt ∧ v6.toInt ≤ 20 ∧ 0 ≤ v42.toInt ∧ v42.toInt ≤ 12 ∧ sq_ck gi ga fs os m.toInt.toNat) := by
  intro d hd
  obtain ⟨g0a, g0b⟩ := hR.n0
  obtain ⟨g1a, g1b⟩ := hR.n1
  obtain ⟨g2a, g2b⟩ := hR.n2
  obtain ⟨g3a, g3b⟩ := hR.n3
  obtain ⟨g4a, g4b⟩ := hR.n4
  obtain ⟨g5a, g5b⟩ := hR.n5
  obtain ⟨g6a, g6b⟩ := hR.n6
  obtain ⟨g7a, g7b⟩ := hR.n7
  obtain ⟨g8a, g8b⟩ := hR.n8
  have km1 : (-1 : Int32).toInt = -1 := by decide
  have k0 : (0 : Int32).toInt = 0 := by decide
  have k1 : (1 : Int32).toInt = 1 := by decide
  show pm_V sc d 130 0 [.ref 59, .null, .null] [] w _
  refine v_aload_n rfl rfl ?_
  refine v_iconst (v := 0) rfl (by decide) ?_
  obtain ⟨v2, v3, v4, v5, v6, v7, v8, v9, v2z, ⟨v3a, v3b⟩, ⟨v4a, v4b⟩, ⟨v6a, v6b⟩, ⟨v9a, v9b⟩, h1⟩ := hI.2.1 59 (by decide) (by decide)
  have v2z := v2z.imp i_eq.mp i_eq.mp
  rw [i_0, i_1] at v2z
  refine v_put rfl h1 rfl (Nat.le_of_ble_eq_true rfl) ?_
  refine r_gen (w' := w.set 59 (.inr (12, [.int (gi 0), .int (gi 1), .ref 60, .int (gi 2), .int v2, .int v3, .int v4, .ref 61, .ref 62, .ref 63, .int (gi 5), .int (gi 3), .int (gi 4), .int (gi 6), .int v5, .int (gi 7), .ref 64, .ref 65, .ref 66, .ref 67, .int (gi 8), .ref 68, .ref 69, .ref 70, .ref 71, .ref 72, .ref 73, .ref 74, .ref 75, .ref 76, .ref 77, .ref 78, .ref 79, .ref 80, .ref 81, .int (0 : Int32), .ref 82, .ref 83, .ref 84, .int v7, .int v8, .ref 85, .int v9, .ref 86, .ref 87]))) (fun w10 e11 => ?_)
  have hI12 : pm_IM gi ga w10 := by rw [e11]; exact hI.set 59 (by decide) (by decide) (by decide) (by decide) ⟨v2, v3, v4, v5, (0 : Int32), v7, v8, v9, ((show v2.toInt = 0 ∨ v2.toInt = 1 by omega).imp i_eq.mpr i_eq.mpr), ⟨by omega, by omega⟩, ⟨by omega, by omega⟩, ⟨by omega, by omega⟩, ⟨by omega, by omega⟩, rfl⟩
  have hh13 : pm_lo w0 w10 := by rw [e11]; exact hh.set (by decide) _
  have h14 := r_get_eq e11 h1
  refine v_iconst (v := 0) rfl (by decide) ?_
  refine v_istore_n rfl (Nat.le_of_ble_eq_true rfl) ?_
  obtain ⟨xs16, xs16l, xs16r, h15⟩ := hI12.2.1 80 (by decide) (by decide)
  obtain ⟨xs18, xs18l, xs18r, h17⟩ := hI12.2.1 81 (by decide) (by decide)
  have L37 : ∀ (n37 : Nat) (l19 : Int32) (u20 : Value) (w21 : pm_W) (v25 : Int32) (v26 : Int32) (v27 : Int32) (v28 : Int32) (v29 : Int32) (v30 : Int32) (v31 : Int32) (v32 : Int32) (xs34 : List Int32) (xs36 : List Int32), pm_IM gi ga w21 → pm_lo w0 w21 → w21[59]? = some (.inr (12, [.int (gi 0), .int (gi 1), .ref 60, .int (gi 2), .int v25, .int v26, .int v27, .ref 61, .ref 62, .ref 63, .int (gi 5), .int (gi 3), .int (gi 4), .int (gi 6), .int v28, .int (gi 7), .ref 64, .ref 65, .ref 66, .ref 67, .int (gi 8), .ref 68, .ref 69, .ref 70, .ref 71, .ref 72, .ref 73, .ref 74, .ref 75, .ref 76, .ref 77, .ref 78, .ref 79, .ref 80, .ref 81, .int v29, .ref 82, .ref 83, .ref 84, .int v30, .int v31, .ref 85, .int v32, .ref 86, .ref 87])) → w21[80]? = some (.inl (0, .inl xs34)) → xs34.length = 20 → (∀ x ∈ xs34, pm_rng x (-1) 19) → w21[81]? = some (.inl (0, .inl xs36)) → xs36.length = 20 → (∀ x ∈ xs36, pm_rng x (0) 19) → 0 ≤ l19.toInt → l19.toInt ≤ 20 → 0 ≤ v25.toInt → v25.toInt ≤ 1 → 0 ≤ v26.toInt → v26.toInt ≤ 20 → 0 ≤ v27.toInt → v27.toInt ≤ 20 → 0 ≤ v29.toInt → v29.toInt ≤ 20 → 0 ≤ v32.toInt → v32.toInt ≤ 12 → (v29.toInt ≤ l19.toInt) → (l19.toInt ≤ (gi 0).toInt) → (ck (sq_al (ga 15) (gi 1).toInt.toNat) (sq_lk xs36) (sq_lk xs34) l19.toInt.toNat v29.toInt.toNat) → (20 - l19.toInt).toNat < n37 → pm_V sc d 130 7 [.ref 59, .int l19, u20] [] w21 (fun rv w' => rv = none ∧ pm_IM gi ga w' ∧ pm_lo w0 w' ∧ ∃ (v4 v5 v6 v14 m v39 v40 v42 : Int32) (fs os : List Int32), w'[59]? = some (.inr (12, [.int (gi 0), .int (gi 1), .ref 60, .int (gi 2), .int v4, .int v5, .int v6, .ref 61, .ref 62, .ref 63, .int (gi 5), .int (gi 3), .int (gi 4), .int (gi 6), .int v14, .int (gi 7), .ref 64, .ref 65, .ref 66, .ref 67, .int (gi 8), .ref 68, .ref 69, .ref 70, .ref 71, .ref 72, .ref 73, .ref 74, .ref 75, .ref 76, .ref 77, .ref 78, .ref 79, .ref 80, .ref 81, .int m, .ref 82, .ref 83, .ref 84, .int v39, .int v40, .ref 85, .int v42, .ref 86, .ref 87])) ∧ w'[81]? = some (.inl (0, .inl fs)) ∧ w'[80]? = some (.inl (0, .inl os)) ∧ fs.length = 20 ∧ os.length = 20 ∧ (∀ x ∈ fs, pm_rng x (0) 19) ∧ (∀ x ∈ os, pm_rng x (-1) 19) ∧ 0 ≤ m.toInt ∧ m.toInt ≤ 20 ∧ 0 ≤ v4.toInt ∧ v4.toInt ≤ 1 ∧ 0 ≤ v5.toInt ∧ v5.toInt ≤ 20 ∧ 0 ≤ v6.toInt ∧ v6.toInt ≤ 20 ∧ 0 ≤ v42.toInt ∧ v42.toInt ≤ 12 ∧ sq_ck gi ga fs os m.toInt.toNat) := by
    intro n37
    induction n37 with
    | zero => intro l19 u20 w21 v25 v26 v27 v28 v29 v30 v31 v32 xs34 xs36 hI22 hh23 h24 h33 xs34l xs34r h35 xs36l xs36r t39 t40 t41 t42 t43 t44 t45 t46 t47 t48 t49 t50 t51 t52 t53 hm38; exact absurd hm38 (Nat.not_lt_zero _)
    | succ n37 ih7_37 =>
      intro l19 u20 w21 v25 v26 v27 v28 v29 v30 v31 v32 xs34 xs36 hI22 hh23 h24 h33 xs34l xs34r h35 xs36l xs36r t39 t40 t41 t42 t43 t44 t45 t46 t47 t48 t49 t50 t51 t52 t53 hm38
      refine v_iload_n rfl rfl ?_
      refine v_aload_n rfl rfl ?_
      refine v_get rfl h24 rfl ?_
      refine r_icmp_ge rfl (fun t54 => ?_) (fun t54 => ?_)
      · exact v_ret rfl ⟨rfl, hI22, hh23, ⟨v25, v26, v27, v28, v29, v30, v31, v32, xs36, xs34, h24, h35, h33, xs36l, xs34l, xs36r, xs34r, by omega, by omega, by omega, by omega, by omega, by omega, by omega, by omega, by omega, by omega, by unfold sq_ck; rw [show (gi 0).toInt.toNat = l19.toInt.toNat by omega]; exact t53⟩⟩
      · refine v_aload_n rfl rfl ?_
        refine v_get rfl h24 rfl ?_
        refine v_iload_n rfl rfl ?_
        refine v_iconst (v := (-1)) rfl (by decide) ?_
        refine r_iastx rfl h33 xs34l (by omega) (by omega) (fun ys55 ys55l ys55m ys55g ys55n => ?_)
        have ys55r := r_rng ys55m xs34r (by omega) (by omega)
        refine r_gen (w' := w21.set 80 (.inl (0, .inl ys55))) (fun w56 e57 => ?_)
        have hI58 : pm_IM gi ga w56 := by rw [e57]; exact hI22.set 80 (by decide) (by decide) (by decide) (by decide) ⟨ys55, ys55l, ys55r, rfl⟩
        have hh59 : pm_lo w0 w56 := by rw [e57]; exact hh23.set (by decide) _
        have h60 := r_get_ne e57 (show 80 ≠ 59 by decide) h24
        have h61 := r_get_ne e57 (show 80 ≠ 81 by decide) h35
        have h62 := r_get_eq e57 h33
        refine v_iconst (v := 0) rfl (by decide) ?_
        refine v_istore_n rfl (Nat.le_of_ble_eq_true rfl) ?_
        have L71 : ∀ (n71 : Nat) (l63 : Int32) (w64 : pm_W) (xs70 : List Int32), pm_IM gi ga w64 → pm_lo w0 w64 → w64[59]? = some (.inr (12, [.int (gi 0), .int (gi 1), .ref 60, .int (gi 2), .int v25, .int v26, .int v27, .ref 61, .ref 62, .ref 63, .int (gi 5), .int (gi 3), .int (gi 4), .int (gi 6), .int v28, .int (gi 7), .ref 64, .ref 65, .ref 66, .ref 67, .int (gi 8), .ref 68, .ref 69, .ref 70, .ref 71, .ref 72, .ref 73, .ref 74, .ref 75, .ref 76, .ref 77, .ref 78, .ref 79, .ref 80, .ref 81, .int v29, .ref 82, .ref 83, .ref 84, .int v30, .int v31, .ref 85, .int v32, .ref 86, .ref 87])) → w64[81]? = some (.inl (0, .inl xs36)) → w64[80]? = some (.inl (0, .inl xs70)) → xs70.length = 20 → (∀ x ∈ xs70, pm_rng x (-1) 19) → 0 ≤ l63.toInt → l63.toInt ≤ 20 → (l63.toInt ≤ v29.toInt) → (ck (sq_al (ga 15) (gi 1).toInt.toNat) (sq_lk xs36) (sq_lk xs70) l19.toInt.toNat v29.toInt.toNat) → (ck_in (sq_al (ga 15) (gi 1).toInt.toNat) (sq_lk xs36) l19.toInt.toNat v29.toInt.toNat l63.toInt.toNat (sq_lk xs70 l19.toInt.toNat)) → (20 - l63.toInt).toNat < n71 → pm_V sc d 130 24 [.ref 59, .int l19, .int l63] [] w64 (fun rv w' => rv = none ∧ pm_IM gi ga w' ∧ pm_lo w0 w' ∧ ∃ (v4 v5 v6 v14 m v39 v40 v42 : Int32) (fs os : List Int32), w'[59]? = some (.inr (12, [.int (gi 0), .int (gi 1), .ref 60, .int (gi 2), .int v4, .int v5, .int v6, .ref 61, .ref 62, .ref 63, .int (gi 5), .int (gi 3), .int (gi 4), .int (gi 6), .int v14, .int (gi 7), .ref 64, .ref 65, .ref 66, .ref 67, .int (gi 8), .ref 68, .ref 69, .ref 70, .ref 71, .ref 72, .ref 73, .ref 74, .ref 75, .ref 76, .ref 77, .ref 78, .ref 79, .ref 80, .ref 81, .int m, .ref 82, .ref 83, .ref 84, .int v39, .int v40, .ref 85, .int v42, .ref 86, .ref 87])) ∧ w'[81]? = some (.inl (0, .inl fs)) ∧ w'[80]? = some (.inl (0, .inl os)) ∧ fs.length = 20 ∧ os.length = 20 ∧ (∀ x ∈ fs, pm_rng x (0) 19) ∧ (∀ x ∈ os, pm_rng x (-1) 19) ∧ 0 ≤ m.toInt ∧ m.toInt ≤ 20 ∧ 0 ≤ v4.toInt ∧ v4.toInt ≤ 1 ∧ 0 ≤ v5.toInt ∧ v5.toInt ≤ 20 ∧ 0 ≤ v6.toInt ∧ v6.toInt ≤ 20 ∧ 0 ≤ v42.toInt ∧ v42.toInt ≤ 12 ∧ sq_ck gi ga fs os m.toInt.toNat) := by
          intro n71
          induction n71 with
          | zero => intro l63 w64 xs70 hI65 hh66 h67 h68 h69 xs70l xs70r t73 t74 t75 t76 t77 hm72; exact absurd hm72 (Nat.not_lt_zero _)
          | succ n71 ih24_71 =>
            intro l63 w64 xs70 hI65 hh66 h67 h68 h69 xs70l xs70r t73 t74 t75 t76 t77 hm72
            refine v_iload_n rfl rfl ?_
            refine v_aload_n rfl rfl ?_
            refine v_get rfl h67 rfl ?_
            refine r_icmp_ge rfl (fun t78 => ?_) (fun t78 => ?_)
            · refine v_aload_n rfl rfl ?_
              refine v_get rfl h67 rfl ?_
              refine v_iload_n rfl rfl ?_
              refine r_iaload rfl h69 xs70l (by omega) (by omega) (fun z79 z79m z79g => ?_)
              obtain ⟨z79a, z79b⟩ := xs70r z79 z79m
              skip
              refine r_if_ge rfl (fun t80 => ?_) (fun t80 => ?_)
              · refine r_iinc rfl rfl (by decide) (by omega) (by omega) (fun z81 z81e => ?_)
                refine v_goto rfl ?_
                exact ih7_37 z81 (.int l63) w64 v25 v26 v27 v28 v29 v30 v31 v32 xs70 xs36 hI65 hh66 h67 h69 xs70l xs70r h68 xs36l xs36r (by omega) (by omega) (by omega) (by omega) (by omega) (by omega) (by omega) (by omega) (by omega) (by omega) (by omega) (by omega) (by omega) (by omega) (by
                    have q : z79.toInt = sq_lk xs70 l19.toInt.toNat := congrArg Int32.toInt z79g
                    have q2 := ck_in.some t77 (show 0 ≤ sq_lk xs70 l19.toInt.toNat by omega)
                    exact ck.next t76 q2.1 (show z81.toInt.toNat = l19.toInt.toNat + 1 by omega) (fun c hc => rfl) (fun j hj => rfl) (by have hz : (xs70.getD l19.toInt.toNat 0).toInt = sq_lk xs70 l19.toInt.toNat := rfl; omega) (Or.inr ⟨q2.2, rfl⟩)) (by omega)
              · refine v_aload_n rfl rfl ?_
                refine v_get rfl h67 rfl ?_
                refine v_aload_n rfl rfl ?_
                refine v_get rfl h67 rfl ?_
                refine v_iload_n rfl rfl ?_
                refine r_iastx rfl h68 xs36l (by omega) (by omega) (fun ys82 ys82l ys82m ys82g ys82n => ?_)
                have ys82r := r_rng ys82m xs36r (by omega) (by omega)
                refine r_gen (w' := w64.set 81 (.inl (0, .inl ys82))) (fun w83 e84 => ?_)
                have hI85 : pm_IM gi ga w83 := by rw [e84]; exact hI65.set 81 (by decide) (by decide) (by decide) (by decide) ⟨ys82, ys82l, ys82r, rfl⟩
                have hh86 : pm_lo w0 w83 := by rw [e84]; exact hh66.set (by decide) _
                have h87 := r_get_ne e84 (show 81 ≠ 59 by decide) h67
                have h88 := r_get_ne e84 (show 81 ≠ 80 by decide) h69
                have h89 := r_get_eq e84 h68
                refine v_aload_n rfl rfl ?_
                refine v_get rfl h87 rfl ?_
                refine v_iload_n rfl rfl ?_
                refine v_aload_n rfl rfl ?_
                refine v_get rfl h87 rfl ?_
                refine r_iastx rfl h88 xs70l (by omega) (by omega) (fun ys90 ys90l ys90m ys90g ys90n => ?_)
                have ys90r := r_rng ys90m xs70r (by omega) (by omega)
                refine r_gen (w' := w83.set 80 (.inl (0, .inl ys90))) (fun w91 e92 => ?_)
                have hI93 : pm_IM gi ga w91 := by rw [e92]; exact hI85.set 80 (by decide) (by decide) (by decide) (by decide) ⟨ys90, ys90l, ys90r, rfl⟩
                have hh94 : pm_lo w0 w91 := by rw [e92]; exact hh86.set (by decide) _
                have h95 := r_get_ne e92 (show 80 ≠ 59 by decide) h87
                have h96 := r_get_ne e92 (show 80 ≠ 81 by decide) h89
                have h97 := r_get_eq e92 h88
                refine v_aload_n rfl rfl ?_
                refine v_dup rfl rfl ?_
                refine v_get rfl h95 rfl ?_
                refine v_iconst (v := 1) rfl (by decide) ?_
                refine r_iadd rfl (by omega) (by omega) (fun z98 z98e => ?_)
                refine v_put rfl h95 rfl (Nat.le_of_ble_eq_true rfl) ?_
                refine r_gen (w' := w91.set 59 (.inr (12, [.int (gi 0), .int (gi 1), .ref 60, .int (gi 2), .int v25, .int v26, .int v27, .ref 61, .ref 62, .ref 63, .int (gi 5), .int (gi 3), .int (gi 4), .int (gi 6), .int v28, .int (gi 7), .ref 64, .ref 65, .ref 66, .ref 67, .int (gi 8), .ref 68, .ref 69, .ref 70, .ref 71, .ref 72, .ref 73, .ref 74, .ref 75, .ref 76, .ref 77, .ref 78, .ref 79, .ref 80, .ref 81, .int z98, .ref 82, .ref 83, .ref 84, .int v30, .int v31, .ref 85, .int v32, .ref 86, .ref 87]))) (fun w99 e100 => ?_)
                have hI101 : pm_IM gi ga w99 := by rw [e100]; exact hI93.set 59 (by decide) (by decide) (by decide) (by decide) ⟨v25, v26, v27, v28, z98, v30, v31, v32, ((show v25.toInt = 0 ∨ v25.toInt = 1 by omega).imp i_eq.mpr i_eq.mpr), ⟨by omega, by omega⟩, ⟨by omega, by omega⟩, ⟨by omega, by omega⟩, ⟨by omega, by omega⟩, rfl⟩
                have hh102 : pm_lo w0 w99 := by rw [e100]; exact hh94.set (by decide) _
                have h103 := r_get_ne e100 (show 59 ≠ 81 by decide) h96
                have h104 := r_get_ne e100 (show 59 ≠ 80 by decide) h97
                have h105 := r_get_eq e100 h95
                refine r_iinc rfl rfl (by decide) (by omega) (by omega) (fun z106 z106e => ?_)
                refine v_goto rfl ?_
                exact ih7_37 z106 (.int l63) w99 v25 v26 v27 v28 z98 v30 v31 v32 ys90 ys82 hI101 hh102 h105 h104 ys90l ys90r h103 ys82l ys82r (by omega) (by omega) (by omega) (by omega) (by omega) (by omega) (by omega) (by omega) (by omega) (by omega) (by omega) (by omega) (by omega) (by omega) (by
                    have q : z79.toInt = sq_lk xs70 l19.toInt.toNat := congrArg Int32.toInt z79g
                    first
                    | (exfalso
                       have q3 : q.toInt = sq_lk xs70 l19.toInt.toNat := congrArg Int32.toInt qg
                       omega)
                    | exact ck.next t76 (ck_in.none t77 (by omega) (by omega)) (show z106.toInt.toNat = l19.toInt.toNat + 1 by omega) (fun c hc => ys82n c (by omega)) (fun j hj => ys90n j (by omega)) (by rw [ys90g]; omega) (Or.inl ⟨rfl, by rw [ys82g]; omega, by omega⟩)) (by omega)
            · refine v_aload_n rfl rfl ?_
              refine v_get rfl h67 rfl ?_
              refine v_iload_n rfl rfl ?_
              refine r_iaload rfl h69 xs70l (by omega) (by omega) (fun z107 z107m z107g => ?_)
              obtain ⟨z107a, z107b⟩ := xs70r z107 z107m
              skip
              refine r_if_ge rfl (fun t108 => ?_) (fun t108 => ?_)
              · refine v_aload_n rfl rfl ?_
                refine v_get rfl h67 rfl ?_
                refine v_iload_n rfl rfl ?_
                refine r_iaload rfl h69 xs70l (by omega) (by omega) (fun z109 z109m z109g => ?_)
                obtain ⟨z109a, z109b⟩ := xs70r z109 z109m
                skip
                refine r_if_ge rfl (fun t110 => ?_) (fun t110 => ?_)
                · refine r_iinc rfl rfl (by decide) (by omega) (by omega) (fun z111 z111e => ?_)
                  refine v_goto rfl ?_
                  exact ih7_37 z111 (.int l63) w64 v25 v26 v27 v28 v29 v30 v31 v32 xs70 xs36 hI65 hh66 h67 h69 xs70l xs70r h68 xs36l xs36r (by omega) (by omega) (by omega) (by omega) (by omega) (by omega) (by omega) (by omega) (by omega) (by omega) (by omega) (by omega) (by omega) (by omega) (by
                      have q : z109.toInt = sq_lk xs70 l19.toInt.toNat := congrArg Int32.toInt z109g
                      have q2 := ck_in.some t77 (show 0 ≤ sq_lk xs70 l19.toInt.toNat by omega)
                      exact ck.next t76 q2.1 (show z111.toInt.toNat = l19.toInt.toNat + 1 by omega) (fun c hc => rfl) (fun j hj => rfl) (by have hz : (xs70.getD l19.toInt.toNat 0).toInt = sq_lk xs70 l19.toInt.toNat := rfl; omega) (Or.inr ⟨q2.2, rfl⟩)) (by omega)
                · refine v_aload_n rfl rfl ?_
                  refine v_get rfl h67 rfl ?_
                  refine v_aload_n rfl rfl ?_
                  refine v_get rfl h67 rfl ?_
                  refine v_iload_n rfl rfl ?_
                  refine r_iastx rfl h68 xs36l (by omega) (by omega) (fun ys112 ys112l ys112m ys112g ys112n => ?_)
                  have ys112r := r_rng ys112m xs36r (by omega) (by omega)
                  refine r_gen (w' := w64.set 81 (.inl (0, .inl ys112))) (fun w113 e114 => ?_)
                  have hI115 : pm_IM gi ga w113 := by rw [e114]; exact hI65.set 81 (by decide) (by decide) (by decide) (by decide) ⟨ys112, ys112l, ys112r, rfl⟩
                  have hh116 : pm_lo w0 w113 := by rw [e114]; exact hh66.set (by decide) _
                  have h117 := r_get_ne e114 (show 81 ≠ 59 by decide) h67
                  have h118 := r_get_ne e114 (show 81 ≠ 80 by decide) h69
                  have h119 := r_get_eq e114 h68
                  refine v_aload_n rfl rfl ?_
                  refine v_get rfl h117 rfl ?_
                  refine v_iload_n rfl rfl ?_
                  refine v_aload_n rfl rfl ?_
                  refine v_get rfl h117 rfl ?_
                  refine r_iastx rfl h118 xs70l (by omega) (by omega) (fun ys120 ys120l ys120m ys120g ys120n => ?_)
                  have ys120r := r_rng ys120m xs70r (by omega) (by omega)
                  refine r_gen (w' := w113.set 80 (.inl (0, .inl ys120))) (fun w121 e122 => ?_)
                  have hI123 : pm_IM gi ga w121 := by rw [e122]; exact hI115.set 80 (by decide) (by decide) (by decide) (by decide) ⟨ys120, ys120l, ys120r, rfl⟩
                  have hh124 : pm_lo w0 w121 := by rw [e122]; exact hh116.set (by decide) _
                  have h125 := r_get_ne e122 (show 80 ≠ 59 by decide) h117
                  have h126 := r_get_ne e122 (show 80 ≠ 81 by decide) h119
                  have h127 := r_get_eq e122 h118
                  refine v_aload_n rfl rfl ?_
                  refine v_dup rfl rfl ?_
                  refine v_get rfl h125 rfl ?_
                  refine v_iconst (v := 1) rfl (by decide) ?_
                  refine r_iadd rfl (by omega) (by omega) (fun z128 z128e => ?_)
                  refine v_put rfl h125 rfl (Nat.le_of_ble_eq_true rfl) ?_
                  refine r_gen (w' := w121.set 59 (.inr (12, [.int (gi 0), .int (gi 1), .ref 60, .int (gi 2), .int v25, .int v26, .int v27, .ref 61, .ref 62, .ref 63, .int (gi 5), .int (gi 3), .int (gi 4), .int (gi 6), .int v28, .int (gi 7), .ref 64, .ref 65, .ref 66, .ref 67, .int (gi 8), .ref 68, .ref 69, .ref 70, .ref 71, .ref 72, .ref 73, .ref 74, .ref 75, .ref 76, .ref 77, .ref 78, .ref 79, .ref 80, .ref 81, .int z128, .ref 82, .ref 83, .ref 84, .int v30, .int v31, .ref 85, .int v32, .ref 86, .ref 87]))) (fun w129 e130 => ?_)
                  have hI131 : pm_IM gi ga w129 := by rw [e130]; exact hI123.set 59 (by decide) (by decide) (by decide) (by decide) ⟨v25, v26, v27, v28, z128, v30, v31, v32, ((show v25.toInt = 0 ∨ v25.toInt = 1 by omega).imp i_eq.mpr i_eq.mpr), ⟨by omega, by omega⟩, ⟨by omega, by omega⟩, ⟨by omega, by omega⟩, ⟨by omega, by omega⟩, rfl⟩
                  have hh132 : pm_lo w0 w129 := by rw [e130]; exact hh124.set (by decide) _
                  have h133 := r_get_ne e130 (show 59 ≠ 81 by decide) h126
                  have h134 := r_get_ne e130 (show 59 ≠ 80 by decide) h127
                  have h135 := r_get_eq e130 h125
                  refine r_iinc rfl rfl (by decide) (by omega) (by omega) (fun z136 z136e => ?_)
                  refine v_goto rfl ?_
                  exact ih7_37 z136 (.int l63) w129 v25 v26 v27 v28 z128 v30 v31 v32 ys120 ys112 hI131 hh132 h135 h134 ys120l ys120r h133 ys112l ys112r (by omega) (by omega) (by omega) (by omega) (by omega) (by omega) (by omega) (by omega) (by omega) (by omega) (by omega) (by omega) (by omega) (by omega) (by
                      have q : z109.toInt = sq_lk xs70 l19.toInt.toNat := congrArg Int32.toInt z109g
                      first
                      | (exfalso
                         have q3 : z107.toInt = sq_lk xs70 l19.toInt.toNat := congrArg Int32.toInt z107g
                         omega)
                      | exact ck.next t76 (ck_in.none t77 (by omega) (by omega)) (show z136.toInt.toNat = l19.toInt.toNat + 1 by omega) (fun c hc => ys112n c (by omega)) (fun j hj => ys120n j (by omega)) (by rw [ys120g]; omega) (Or.inl ⟨rfl, by rw [ys112g]; omega, by omega⟩)) (by omega)
              · refine v_aload_n rfl rfl ?_
                refine v_get rfl h67 rfl ?_
                refine v_iload_n rfl rfl ?_
                refine v_aload_n rfl rfl ?_
                refine v_aload_n rfl rfl ?_
                refine v_get rfl h67 rfl ?_
                refine v_iload_n rfl rfl ?_
                refine r_iaload rfl h68 xs36l (by omega) (by omega) (fun z137 z137m z137g => ?_)
                obtain ⟨z137a, z137b⟩ := xs36r z137 z137m
                skip
                refine v_iload_n rfl rfl ?_
                obtain ⟨sq139l, sq139r, h138⟩ := hI65.2.1 60 (by decide) (by decide)
                refine v_callV rfl (W_X12_areAlike_59_x z137 l19 (ga 15) (by omega) (by omega) (by omega) (by omega) h138 sq139l hR hI65) rfl rfl h67 rfl rfl (by omega) (fun rv w140 hq141 => ?_)
                obtain ⟨⟨z142, rfl, z142p0, z142p1, z142p2⟩, rfl⟩ := hq141
                skip
                refine r_if_eq rfl (fun t143 => ?_) (fun t143 => ?_)
                · refine v_iconst (v := (-1)) rfl (by decide) ?_
                  refine r_iastx rfl h69 xs70l (by omega) (by omega) (fun ys144 ys144l ys144m ys144g ys144n => ?_)
                  have ys144r := r_rng ys144m xs70r (by omega) (by omega)
                  refine r_gen (w' := w64.set 80 (.inl (0, .inl ys144))) (fun w145 e146 => ?_)
                  have hI147 : pm_IM gi ga w145 := by rw [e146]; exact hI65.set 80 (by decide) (by decide) (by decide) (by decide) ⟨ys144, ys144l, ys144r, rfl⟩
                  have hh148 : pm_lo w0 w145 := by rw [e146]; exact hh66.set (by decide) _
                  have h149 := r_get_ne e146 (show 80 ≠ 59 by decide) h67
                  have h150 := r_get_ne e146 (show 80 ≠ 81 by decide) h68
                  have h151 := r_get_ne e146 (show 80 ≠ 60 by decide) h138
                  have h152 := r_get_eq e146 h69
                  refine r_iinc rfl rfl (by decide) (by omega) (by omega) (fun z153 z153e => ?_)
                  refine v_goto rfl ?_
                  exact ih24_71 z153 w145 ys144 hI147 hh148 h149 h150 h152 ys144l ys144r (by omega) (by omega) (by omega) (by exact ck.congr t76 (fun c hc => rfl) (fun j hj => by unfold sq_lk; rw [ys144n j (by omega)])) (by
                      have hv : sq_lk xs70 l19.toInt.toNat = -1 ∧ (∀ c, c < l63.toInt.toNat → ¬ (sq_al (ga 15) (gi 1).toInt.toNat) (sq_lk xs36 c).toNat l19.toInt.toNat) := by
                        rcases t77 with ⟨g1, g2, g3⟩ | ⟨r, g1, -⟩
                        · exact ⟨g1, g3⟩
                        · exfalso
                          have q : z107.toInt = sq_lk xs70 l19.toInt.toNat := congrArg Int32.toInt z107g
                          omega
                      have ha : sq_al (ga 15) (gi 1).toInt.toNat (sq_lk xs36 l63.toInt.toNat).toNat l19.toInt.toNat ↔ z142.toInt = 1 := by
                        unfold sq_lk
                        rw [← z137g]
                        rcases z142p2 with ⟨g1, g2⟩ | ⟨g1, g2⟩
                        · exact ⟨fun _ => g1, fun _ => g2⟩
                        · exact ⟨fun h => absurd h g2, fun h => by omega⟩
                      first
                      | exact Or.inr ⟨l63.toInt.toNat, by have hz := congrArg Int32.toInt ys144g; unfold sq_lk; omega, by omega, hv.2, ha.mpr (by omega)⟩
                      | (refine Or.inl ⟨by have hz := congrArg Int32.toInt ys144g; unfold sq_lk; omega, by omega, fun c hc => ?_⟩
                         by_cases e : c < l63.toInt.toNat
                         · exact hv.2 c e
                         · have e2 : c = l63.toInt.toNat := by omega
                           subst e2
                           exact fun h => absurd (ha.mp h) (by omega))) (by omega)
                · refine v_iload_n rfl rfl ?_
                  refine v_goto rfl ?_
                  refine r_iastx rfl h69 xs70l (by omega) (by omega) (fun ys154 ys154l ys154m ys154g ys154n => ?_)
                  have ys154r := r_rng ys154m xs70r (by omega) (by omega)
                  refine r_gen (w' := w64.set 80 (.inl (0, .inl ys154))) (fun w155 e156 => ?_)
                  have hI157 : pm_IM gi ga w155 := by rw [e156]; exact hI65.set 80 (by decide) (by decide) (by decide) (by decide) ⟨ys154, ys154l, ys154r, rfl⟩
                  have hh158 : pm_lo w0 w155 := by rw [e156]; exact hh66.set (by decide) _
                  have h159 := r_get_ne e156 (show 80 ≠ 59 by decide) h67
                  have h160 := r_get_ne e156 (show 80 ≠ 81 by decide) h68
                  have h161 := r_get_ne e156 (show 80 ≠ 60 by decide) h138
                  have h162 := r_get_eq e156 h69
                  refine r_iinc rfl rfl (by decide) (by omega) (by omega) (fun z163 z163e => ?_)
                  refine v_goto rfl ?_
                  exact ih24_71 z163 w155 ys154 hI157 hh158 h159 h160 h162 ys154l ys154r (by omega) (by omega) (by omega) (by exact ck.congr t76 (fun c hc => rfl) (fun j hj => by unfold sq_lk; rw [ys154n j (by omega)])) (by
                      have hv : sq_lk xs70 l19.toInt.toNat = -1 ∧ (∀ c, c < l63.toInt.toNat → ¬ (sq_al (ga 15) (gi 1).toInt.toNat) (sq_lk xs36 c).toNat l19.toInt.toNat) := by
                        rcases t77 with ⟨g1, g2, g3⟩ | ⟨r, g1, -⟩
                        · exact ⟨g1, g3⟩
                        · exfalso
                          have q : z107.toInt = sq_lk xs70 l19.toInt.toNat := congrArg Int32.toInt z107g
                          omega
                      have ha : sq_al (ga 15) (gi 1).toInt.toNat (sq_lk xs36 l63.toInt.toNat).toNat l19.toInt.toNat ↔ z142.toInt = 1 := by
                        unfold sq_lk
                        rw [← z137g]
                        rcases z142p2 with ⟨g1, g2⟩ | ⟨g1, g2⟩
                        · exact ⟨fun _ => g1, fun _ => g2⟩
                        · exact ⟨fun h => absurd h g2, fun h => by omega⟩
                      first
                      | exact Or.inr ⟨l63.toInt.toNat, by have hz := congrArg Int32.toInt ys154g; unfold sq_lk; omega, by omega, hv.2, ha.mpr (by omega)⟩
                      | (refine Or.inl ⟨by have hz := congrArg Int32.toInt ys154g; unfold sq_lk; omega, by omega, fun c hc => ?_⟩
                         by_cases e : c < l63.toInt.toNat
                         · exact hv.2 c e
                         · have e2 : c = l63.toInt.toNat := by omega
                           subst e2
                           exact fun h => absurd (ha.mp h) (by omega))) (by omega)
        exact L71 _ (0 : Int32) w56 ys55 hI58 hh59 h60 h61 h62 ys55l ys55r (by omega) (by omega) (by omega) (by exact ck.congr t53 (fun c hc => rfl) (fun j hj => by unfold sq_lk; rw [ys55n j (by omega)])) (by
            refine Or.inl ⟨?_, by rw [show (0 : Int32).toInt.toNat = 0 from rfl]; omega, fun c hc => by rw [show (0 : Int32).toInt.toNat = 0 from rfl] at hc; omega⟩
            have hz := congrArg Int32.toInt ys55g
            unfold sq_lk
            omega) (Nat.lt_add_one _)
  exact L37 _ (0 : Int32) (.null) w10 v2 v3 v4 v5 (0 : Int32) v7 v8 v9 xs16 xs18 hI12 hh13 h14 h15 xs16l xs16r h17 xs18l xs18r (by omega) (by omega) (by omega) (by omega) (by omega) (by omega) (by omega) (by omega) (by omega) (by omega) (by omega) (by omega) (by omega) (by omega) (by exact ck.zero rfl rfl) (Nat.lt_add_one _)
set_option maxRecDepth 100000 in
theorem W_X12_fault_59_x {sc : pm_S} {w w0 : pm_W} {gi : Nat → Int32} {ga : Nat → List Int32} (k : Int32) (a : Int32) (b : Int32)  (hR : pm_Rg gi ga) (hI : pm_IM gi ga w) (hh : pm_lo w0 w) : pm_Mt sc 3 146 5 [.ref 59, .int k, .int a, .int b] w (fun rv w' => pm_wI (fun v => sq_Pfault gi ga k a b v) rv ∧ pm_IM gi ga w' ∧ pm_lo w0 w') := by
  intro d hd
  obtain ⟨g0a, g0b⟩ := hR.n0
  obtain ⟨g1a, g1b⟩ := hR.n1
  obtain ⟨g2a, g2b⟩ := hR.n2
  obtain ⟨g3a, g3b⟩ := hR.n3
  obtain ⟨g4a, g4b⟩ := hR.n4
  obtain ⟨g5a, g5b⟩ := hR.n5
  obtain ⟨g6a, g6b⟩ := hR.n6
  obtain ⟨g7a, g7b⟩ := hR.n7
  obtain ⟨g8a, g8b⟩ := hR.n8
  have km2 : (-2 : Int32).toInt = -2 := by decide
  have km1 : (-1 : Int32).toInt = -1 := by decide
  have k0 : (0 : Int32).toInt = 0 := by decide
  have k1 : (1 : Int32).toInt = 1 := by decide
  have k2 : (2 : Int32).toInt = 2 := by decide
  have k3 : (3 : Int32).toInt = 3 := by decide
  show pm_V sc d 146 0 [.ref 59, .int k, .int a, .int b, .null] [] w _
  refine v_iload_n rfl rfl ?_
  refine v_iconst (v := 1) rfl (by decide) ?_
  refine v_iconst (v := 3) rfl (by decide) ?_
  refine v_callS rfl (W_X12_in k (1 : Int32) (3 : Int32) hR hI) rfl rfl rfl rfl rfl (by omega) (fun rv w1 hq2 => ?_)
  obtain ⟨⟨z3, rfl, z3p0⟩, rfl⟩ := hq2
  refine r_if_ne rfl (fun t4 => ?_) (fun t4 => ?_)
  · refine v_aload_n rfl rfl ?_
    obtain ⟨v6, v7, v8, v9, v10, v11, v12, v13, v6z, ⟨v7a, v7b⟩, ⟨v8a, v8b⟩, ⟨v10a, v10b⟩, ⟨v13a, v13b⟩, h5⟩ := hI.2.1 59 (by decide) (by decide)
    have v6z := v6z.imp i_eq.mp i_eq.mp
    rw [i_0, i_1] at v6z
    refine v_callV rfl (W_X12_findCords_59_x  hR hI hh) rfl rfl h5 rfl rfl (by omega) (fun rv w14 hq15 => ?_)
    obtain ⟨rfl, hI17, hh18, ⟨v19, v20, v21, v22, v23, v24, v25, v26, fs27, os28, h29, h30, h31, fs27l, os28l, fs27r, os28r, v23a, v23b, t32, t33, t34, t35, t36, t37, t38, t39, v23k⟩⟩ := hq15
    refine v_iload_n rfl rfl ?_
    refine v_iconst (v := 0) rfl (by decide) ?_
    refine v_iload_n rfl rfl ?_
    refine v_iconst (v := 2) rfl (by decide) ?_
    refine r_icmp_ne rfl (fun t40 => ?_) (fun t40 => ?_)
    · refine v_aload_n rfl rfl ?_
      refine v_get rfl h29 rfl ?_
      refine v_iconst (v := 1) rfl (by decide) ?_
      refine r_isub rfl (by omega) (by omega) (fun z41 z41e => ?_)
      refine v_callS rfl (W_X12_in a (0 : Int32) z41 hR hI17) rfl rfl rfl rfl rfl (by omega) (fun rv w42 hq43 => ?_)
      obtain ⟨⟨z44, rfl, z44p0⟩, rfl⟩ := hq43
      refine r_if_eq rfl (fun t45 => ?_) (fun t45 => ?_)
      · refine v_iconst (v := 0) rfl (by decide) ?_
        refine v_istore rfl (Nat.le_of_ble_eq_true rfl) ?_
        refine v_iload rfl rfl ?_
        refine r_if_ne rfl (fun hx => absurd hx (by omega)) (fun _ => ?_)
        refine v_aload_n rfl rfl ?_
        refine v_iconst (v := (-1)) rfl (by decide) ?_
        refine v_callV rfl (c_M_refuse (-1 : Int32) (by unfold pm_isR; first | decide | exact Or.inl rfl) hR hI17) rfl rfl h29 rfl rfl (by omega) (fun rv w46 hq47 => ?_)
        obtain ⟨rfl, hI48, hh49x⟩ := hq47
        have hI48 : pm_IM gi ga w46 := hI48
        have hh49 := hh18.tr hh49x
        exact v_iret rfl ⟨⟨_, rfl, (by
            refine Or.inr ⟨by omega, ?_⟩
            first
            | exact Or.inl ⟨by omega, by omega⟩
            | exact Or.inr ⟨by omega, fs27, os28, _, v23k, by unfold sq_good; omega⟩)⟩, hI48, hh49⟩
      · refine v_iload_n rfl rfl ?_
        refine v_iconst (v := 3) rfl (by decide) ?_
        refine r_icmp_ne rfl (fun t50 => ?_) (fun t50 => ?_)
        · refine v_iconst (v := 1) rfl (by decide) ?_
          refine v_goto rfl ?_
          refine v_istore rfl (Nat.le_of_ble_eq_true rfl) ?_
          refine v_iload rfl rfl ?_
          refine r_if_ne rfl (fun _ => ?_) (fun hx => absurd hx (by omega))
          refine v_aload_n rfl rfl ?_
          refine v_get rfl h29 rfl ?_
          refine v_iload_n rfl rfl ?_
          refine v_iload_n rfl rfl ?_
          obtain ⟨f51A, f51B, h52A, h52B, f51Al, f51Bl, f51F⟩ := hI17.2.2
          refine v_iastore rfl h52A (r_nn (by omega)) (r_ix f51Al (by omega) (by omega)) ?_
          refine r_gen (fun w53 e54 => ?_)
          have h55 := r_get_ne e54 (show 62 ≠ 59 by decide) h29
          have h56 := r_get_ne e54 (show 62 ≠ 63 by decide) h52B
          refine v_aload_n rfl rfl ?_
          refine v_get rfl h55 rfl ?_
          refine v_iload_n rfl rfl ?_
          refine v_iload_n rfl rfl ?_
          refine v_iconst (v := 3) rfl (by decide) ?_
          refine r_icmp_ne rfl (fun t57 => ?_) (fun t57 => ?_)
          · refine v_iconst (v := (-1)) rfl (by decide) ?_
            refine v_iastore rfl h56 (r_nn (by omega)) (r_ix f51Bl (by omega) (by omega)) ?_
            refine r_gen (fun w58 e59 => ?_)
            have hI60 : pm_IM gi ga w58 := by
              rw [e59, e54]
              refine hI17.flt2 (by rw [List.length_set]; exact f51Al) (by rw [List.length_set]; exact f51Bl) ?_
              rw [j_set3 f51Al, j_set3 f51Bl]
              by_cases hx : k.toNatClampNeg = 3
              · rw [if_pos hx, if_pos hx]; rw [i_cl] at hx; intro hy; omega
              · rw [if_neg hx, if_neg hx]; exact f51F
            have hh61 : pm_lo w0 w58 := by rw [e59, e54]; exact (hh18.set (by decide) _).set (by decide) _
            refine v_iconst (v := 1) rfl (by decide) ?_
            exact v_iret rfl ⟨⟨_, rfl, (by
                refine Or.inr ⟨by omega, ?_⟩
                first
                | exact Or.inl ⟨by omega, by omega⟩
                | exact Or.inr ⟨by omega, fs27, os28, _, v23k, by unfold sq_good; omega⟩)⟩, hI60, hh61⟩
          · refine v_iload_n rfl rfl ?_
            refine v_goto rfl ?_
            refine v_iastore rfl h56 (r_nn (by omega)) (r_ix f51Bl (by omega) (by omega)) ?_
            refine r_gen (fun w62 e63 => ?_)
            have hI64 : pm_IM gi ga w62 := by
              rw [e63, e54]
              refine hI17.flt2 (by rw [List.length_set]; exact f51Al) (by rw [List.length_set]; exact f51Bl) ?_
              rw [j_set3 f51Al, j_set3 f51Bl]
              by_cases hx : k.toNatClampNeg = 3
              · rw [if_pos hx, if_pos hx]; rw [i_cl] at hx; intro hy; omega
              · rw [if_neg hx, if_neg hx]; exact f51F
            have hh65 : pm_lo w0 w62 := by rw [e63, e54]; exact (hh18.set (by decide) _).set (by decide) _
            refine v_iconst (v := 1) rfl (by decide) ?_
            exact v_iret rfl ⟨⟨_, rfl, (by
                refine Or.inr ⟨by omega, ?_⟩
                first
                | exact Or.inl ⟨by omega, by omega⟩
                | exact Or.inr ⟨by omega, fs27, os28, _, v23k, by unfold sq_good; omega⟩)⟩, hI64, hh65⟩
        · refine v_iload_n rfl rfl ?_
          refine v_iconst (v := 0) rfl (by decide) ?_
          refine v_aload_n rfl rfl ?_
          refine v_get rfl h29 rfl ?_
          refine v_iconst (v := 1) rfl (by decide) ?_
          refine r_isub rfl (by omega) (by omega) (fun z66 z66e => ?_)
          refine v_callS rfl (W_X12_in b (0 : Int32) z66 hR hI17) rfl rfl rfl rfl rfl (by omega) (fun rv w67 hq68 => ?_)
          obtain ⟨⟨z69, rfl, z69p0⟩, rfl⟩ := hq68
          refine r_if_eq rfl (fun t70 => ?_) (fun t70 => ?_)
          · refine v_iconst (v := 0) rfl (by decide) ?_
            refine v_istore rfl (Nat.le_of_ble_eq_true rfl) ?_
            refine v_iload rfl rfl ?_
            refine r_if_ne rfl (fun hx => absurd hx (by omega)) (fun _ => ?_)
            refine v_aload_n rfl rfl ?_
            refine v_iconst (v := (-1)) rfl (by decide) ?_
            refine v_callV rfl (c_M_refuse (-1 : Int32) (by unfold pm_isR; first | decide | exact Or.inl rfl) hR hI17) rfl rfl h29 rfl rfl (by omega) (fun rv w71 hq72 => ?_)
            obtain ⟨rfl, hI73, hh74x⟩ := hq72
            have hI73 : pm_IM gi ga w71 := hI73
            have hh74 := hh18.tr hh74x
            exact v_iret rfl ⟨⟨_, rfl, (by
                refine Or.inr ⟨by omega, ?_⟩
                first
                | exact Or.inl ⟨by omega, by omega⟩
                | exact Or.inr ⟨by omega, fs27, os28, _, v23k, by unfold sq_good; omega⟩)⟩, hI73, hh74⟩
          · refine v_iload_n rfl rfl ?_
            refine v_iload_n rfl rfl ?_
            refine r_icmp_eq rfl (fun t75 => ?_) (fun t75 => ?_)
            · refine v_iconst (v := 0) rfl (by decide) ?_
              refine v_istore rfl (Nat.le_of_ble_eq_true rfl) ?_
              refine v_iload rfl rfl ?_
              refine r_if_ne rfl (fun hx => absurd hx (by omega)) (fun _ => ?_)
              refine v_aload_n rfl rfl ?_
              refine v_iconst (v := (-1)) rfl (by decide) ?_
              refine v_callV rfl (c_M_refuse (-1 : Int32) (by unfold pm_isR; first | decide | exact Or.inl rfl) hR hI17) rfl rfl h29 rfl rfl (by omega) (fun rv w76 hq77 => ?_)
              obtain ⟨rfl, hI78, hh79x⟩ := hq77
              have hI78 : pm_IM gi ga w76 := hI78
              have hh79 := hh18.tr hh79x
              exact v_iret rfl ⟨⟨_, rfl, (by
                  refine Or.inr ⟨by omega, ?_⟩
                  first
                  | exact Or.inl ⟨by omega, by omega⟩
                  | exact Or.inr ⟨by omega, fs27, os28, _, v23k, by unfold sq_good; omega⟩)⟩, hI78, hh79⟩
            · refine v_iconst (v := 1) rfl (by decide) ?_
              refine v_goto rfl ?_
              refine v_istore rfl (Nat.le_of_ble_eq_true rfl) ?_
              refine v_iload rfl rfl ?_
              refine r_if_ne rfl (fun _ => ?_) (fun hx => absurd hx (by omega))
              refine v_aload_n rfl rfl ?_
              refine v_get rfl h29 rfl ?_
              refine v_iload_n rfl rfl ?_
              refine v_iload_n rfl rfl ?_
              obtain ⟨f80A, f80B, h81A, h81B, f80Al, f80Bl, f80F⟩ := hI17.2.2
              refine v_iastore rfl h81A (r_nn (by omega)) (r_ix f80Al (by omega) (by omega)) ?_
              refine r_gen (fun w82 e83 => ?_)
              have h84 := r_get_ne e83 (show 62 ≠ 59 by decide) h29
              have h85 := r_get_ne e83 (show 62 ≠ 63 by decide) h81B
              refine v_aload_n rfl rfl ?_
              refine v_get rfl h84 rfl ?_
              refine v_iload_n rfl rfl ?_
              refine v_iload_n rfl rfl ?_
              refine v_iconst (v := 3) rfl (by decide) ?_
              refine r_icmp_ne rfl (fun t86 => ?_) (fun t86 => ?_)
              · refine v_iconst (v := (-1)) rfl (by decide) ?_
                refine v_iastore rfl h85 (r_nn (by omega)) (r_ix f80Bl (by omega) (by omega)) ?_
                refine r_gen (fun w87 e88 => ?_)
                have hI89 : pm_IM gi ga w87 := by
                  rw [e88, e83]
                  refine hI17.flt2 (by rw [List.length_set]; exact f80Al) (by rw [List.length_set]; exact f80Bl) ?_
                  rw [j_set3 f80Al, j_set3 f80Bl]
                  by_cases hx : k.toNatClampNeg = 3
                  · rw [if_pos hx, if_pos hx]; rw [i_cl] at hx; intro hy; omega
                  · rw [if_neg hx, if_neg hx]; exact f80F
                have hh90 : pm_lo w0 w87 := by rw [e88, e83]; exact (hh18.set (by decide) _).set (by decide) _
                refine v_iconst (v := 1) rfl (by decide) ?_
                exact v_iret rfl ⟨⟨_, rfl, (by
                    refine Or.inr ⟨by omega, ?_⟩
                    first
                    | exact Or.inl ⟨by omega, by omega⟩
                    | exact Or.inr ⟨by omega, fs27, os28, _, v23k, by unfold sq_good; omega⟩)⟩, hI89, hh90⟩
              · refine v_iload_n rfl rfl ?_
                refine v_goto rfl ?_
                refine v_iastore rfl h85 (r_nn (by omega)) (r_ix f80Bl (by omega) (by omega)) ?_
                refine r_gen (fun w91 e92 => ?_)
                have hI93 : pm_IM gi ga w91 := by
                  rw [e92, e83]
                  refine hI17.flt2 (by rw [List.length_set]; exact f80Al) (by rw [List.length_set]; exact f80Bl) ?_
                  rw [j_set3 f80Al, j_set3 f80Bl]
                  by_cases hx : k.toNatClampNeg = 3
                  · rw [if_pos hx, if_pos hx]; rw [i_cl] at hx; intro hy; omega
                  · rw [if_neg hx, if_neg hx]; exact f80F
                have hh94 : pm_lo w0 w91 := by rw [e92, e83]; exact (hh18.set (by decide) _).set (by decide) _
                refine v_iconst (v := 1) rfl (by decide) ?_
                exact v_iret rfl ⟨⟨_, rfl, (by
                    refine Or.inr ⟨by omega, ?_⟩
                    first
                    | exact Or.inl ⟨by omega, by omega⟩
                    | exact Or.inr ⟨by omega, fs27, os28, _, v23k, by unfold sq_good; omega⟩)⟩, hI93, hh94⟩
    · refine v_aload_n rfl rfl ?_
      refine v_get rfl h29 rfl ?_
      refine v_goto rfl ?_
      refine v_iconst (v := 1) rfl (by decide) ?_
      refine r_isub rfl (by omega) (by omega) (fun z95 z95e => ?_)
      refine v_callS rfl (W_X12_in a (0 : Int32) z95 hR hI17) rfl rfl rfl rfl rfl (by omega) (fun rv w96 hq97 => ?_)
      obtain ⟨⟨z98, rfl, z98p0⟩, rfl⟩ := hq97
      refine r_if_eq rfl (fun t99 => ?_) (fun t99 => ?_)
      · refine v_iconst (v := 0) rfl (by decide) ?_
        refine v_istore rfl (Nat.le_of_ble_eq_true rfl) ?_
        refine v_iload rfl rfl ?_
        refine r_if_ne rfl (fun hx => absurd hx (by omega)) (fun _ => ?_)
        refine v_aload_n rfl rfl ?_
        refine v_iconst (v := (-1)) rfl (by decide) ?_
        refine v_callV rfl (c_M_refuse (-1 : Int32) (by unfold pm_isR; first | decide | exact Or.inl rfl) hR hI17) rfl rfl h29 rfl rfl (by omega) (fun rv w100 hq101 => ?_)
        obtain ⟨rfl, hI102, hh103x⟩ := hq101
        have hI102 : pm_IM gi ga w100 := hI102
        have hh103 := hh18.tr hh103x
        exact v_iret rfl ⟨⟨_, rfl, (by
            refine Or.inr ⟨by omega, ?_⟩
            first
            | exact Or.inl ⟨by omega, by omega⟩
            | exact Or.inr ⟨by omega, fs27, os28, _, v23k, by unfold sq_good; omega⟩)⟩, hI102, hh103⟩
      · refine v_iload_n rfl rfl ?_
        refine v_iconst (v := 3) rfl (by decide) ?_
        refine r_icmp_ne rfl (fun t104 => ?_) (fun t104 => ?_)
        · refine v_iconst (v := 1) rfl (by decide) ?_
          refine v_goto rfl ?_
          refine v_istore rfl (Nat.le_of_ble_eq_true rfl) ?_
          refine v_iload rfl rfl ?_
          refine r_if_ne rfl (fun _ => ?_) (fun hx => absurd hx (by omega))
          refine v_aload_n rfl rfl ?_
          refine v_get rfl h29 rfl ?_
          refine v_iload_n rfl rfl ?_
          refine v_iload_n rfl rfl ?_
          obtain ⟨f105A, f105B, h106A, h106B, f105Al, f105Bl, f105F⟩ := hI17.2.2
          refine v_iastore rfl h106A (r_nn (by omega)) (r_ix f105Al (by omega) (by omega)) ?_
          refine r_gen (fun w107 e108 => ?_)
          have h109 := r_get_ne e108 (show 62 ≠ 59 by decide) h29
          have h110 := r_get_ne e108 (show 62 ≠ 63 by decide) h106B
          refine v_aload_n rfl rfl ?_
          refine v_get rfl h109 rfl ?_
          refine v_iload_n rfl rfl ?_
          refine v_iload_n rfl rfl ?_
          refine v_iconst (v := 3) rfl (by decide) ?_
          refine r_icmp_ne rfl (fun t111 => ?_) (fun t111 => ?_)
          · refine v_iconst (v := (-1)) rfl (by decide) ?_
            refine v_iastore rfl h110 (r_nn (by omega)) (r_ix f105Bl (by omega) (by omega)) ?_
            refine r_gen (fun w112 e113 => ?_)
            have hI114 : pm_IM gi ga w112 := by
              rw [e113, e108]
              refine hI17.flt2 (by rw [List.length_set]; exact f105Al) (by rw [List.length_set]; exact f105Bl) ?_
              rw [j_set3 f105Al, j_set3 f105Bl]
              by_cases hx : k.toNatClampNeg = 3
              · rw [if_pos hx, if_pos hx]; rw [i_cl] at hx; intro hy; omega
              · rw [if_neg hx, if_neg hx]; exact f105F
            have hh115 : pm_lo w0 w112 := by rw [e113, e108]; exact (hh18.set (by decide) _).set (by decide) _
            refine v_iconst (v := 1) rfl (by decide) ?_
            exact v_iret rfl ⟨⟨_, rfl, (by
                refine Or.inr ⟨by omega, ?_⟩
                first
                | exact Or.inl ⟨by omega, by omega⟩
                | exact Or.inr ⟨by omega, fs27, os28, _, v23k, by unfold sq_good; omega⟩)⟩, hI114, hh115⟩
          · refine v_iload_n rfl rfl ?_
            refine v_goto rfl ?_
            refine v_iastore rfl h110 (r_nn (by omega)) (r_ix f105Bl (by omega) (by omega)) ?_
            refine r_gen (fun w116 e117 => ?_)
            have hI118 : pm_IM gi ga w116 := by
              rw [e117, e108]
              refine hI17.flt2 (by rw [List.length_set]; exact f105Al) (by rw [List.length_set]; exact f105Bl) ?_
              rw [j_set3 f105Al, j_set3 f105Bl]
              by_cases hx : k.toNatClampNeg = 3
              · rw [if_pos hx, if_pos hx]; rw [i_cl] at hx; intro hy; omega
              · rw [if_neg hx, if_neg hx]; exact f105F
            have hh119 : pm_lo w0 w116 := by rw [e117, e108]; exact (hh18.set (by decide) _).set (by decide) _
            refine v_iconst (v := 1) rfl (by decide) ?_
            exact v_iret rfl ⟨⟨_, rfl, (by
                refine Or.inr ⟨by omega, ?_⟩
                first
                | exact Or.inl ⟨by omega, by omega⟩
                | exact Or.inr ⟨by omega, fs27, os28, _, v23k, by unfold sq_good; omega⟩)⟩, hI118, hh119⟩
        · refine v_iload_n rfl rfl ?_
          refine v_iconst (v := 0) rfl (by decide) ?_
          refine v_aload_n rfl rfl ?_
          refine v_get rfl h29 rfl ?_
          refine v_iconst (v := 1) rfl (by decide) ?_
          refine r_isub rfl (by omega) (by omega) (fun z120 z120e => ?_)
          refine v_callS rfl (W_X12_in b (0 : Int32) z120 hR hI17) rfl rfl rfl rfl rfl (by omega) (fun rv w121 hq122 => ?_)
          obtain ⟨⟨z123, rfl, z123p0⟩, rfl⟩ := hq122
          refine r_if_eq rfl (fun t124 => ?_) (fun t124 => ?_)
          · refine v_iconst (v := 0) rfl (by decide) ?_
            refine v_istore rfl (Nat.le_of_ble_eq_true rfl) ?_
            refine v_iload rfl rfl ?_
            refine r_if_ne rfl (fun hx => absurd hx (by omega)) (fun _ => ?_)
            refine v_aload_n rfl rfl ?_
            refine v_iconst (v := (-1)) rfl (by decide) ?_
            refine v_callV rfl (c_M_refuse (-1 : Int32) (by unfold pm_isR; first | decide | exact Or.inl rfl) hR hI17) rfl rfl h29 rfl rfl (by omega) (fun rv w125 hq126 => ?_)
            obtain ⟨rfl, hI127, hh128x⟩ := hq126
            have hI127 : pm_IM gi ga w125 := hI127
            have hh128 := hh18.tr hh128x
            exact v_iret rfl ⟨⟨_, rfl, (by
                refine Or.inr ⟨by omega, ?_⟩
                first
                | exact Or.inl ⟨by omega, by omega⟩
                | exact Or.inr ⟨by omega, fs27, os28, _, v23k, by unfold sq_good; omega⟩)⟩, hI127, hh128⟩
          · refine v_iload_n rfl rfl ?_
            refine v_iload_n rfl rfl ?_
            refine r_icmp_eq rfl (fun t129 => ?_) (fun t129 => ?_)
            · refine v_iconst (v := 0) rfl (by decide) ?_
              refine v_istore rfl (Nat.le_of_ble_eq_true rfl) ?_
              refine v_iload rfl rfl ?_
              refine r_if_ne rfl (fun hx => absurd hx (by omega)) (fun _ => ?_)
              refine v_aload_n rfl rfl ?_
              refine v_iconst (v := (-1)) rfl (by decide) ?_
              refine v_callV rfl (c_M_refuse (-1 : Int32) (by unfold pm_isR; first | decide | exact Or.inl rfl) hR hI17) rfl rfl h29 rfl rfl (by omega) (fun rv w130 hq131 => ?_)
              obtain ⟨rfl, hI132, hh133x⟩ := hq131
              have hI132 : pm_IM gi ga w130 := hI132
              have hh133 := hh18.tr hh133x
              exact v_iret rfl ⟨⟨_, rfl, (by
                  refine Or.inr ⟨by omega, ?_⟩
                  first
                  | exact Or.inl ⟨by omega, by omega⟩
                  | exact Or.inr ⟨by omega, fs27, os28, _, v23k, by unfold sq_good; omega⟩)⟩, hI132, hh133⟩
            · refine v_iconst (v := 1) rfl (by decide) ?_
              refine v_goto rfl ?_
              refine v_istore rfl (Nat.le_of_ble_eq_true rfl) ?_
              refine v_iload rfl rfl ?_
              refine r_if_ne rfl (fun _ => ?_) (fun hx => absurd hx (by omega))
              refine v_aload_n rfl rfl ?_
              refine v_get rfl h29 rfl ?_
              refine v_iload_n rfl rfl ?_
              refine v_iload_n rfl rfl ?_
              obtain ⟨f134A, f134B, h135A, h135B, f134Al, f134Bl, f134F⟩ := hI17.2.2
              refine v_iastore rfl h135A (r_nn (by omega)) (r_ix f134Al (by omega) (by omega)) ?_
              refine r_gen (fun w136 e137 => ?_)
              have h138 := r_get_ne e137 (show 62 ≠ 59 by decide) h29
              have h139 := r_get_ne e137 (show 62 ≠ 63 by decide) h135B
              refine v_aload_n rfl rfl ?_
              refine v_get rfl h138 rfl ?_
              refine v_iload_n rfl rfl ?_
              refine v_iload_n rfl rfl ?_
              refine v_iconst (v := 3) rfl (by decide) ?_
              refine r_icmp_ne rfl (fun t140 => ?_) (fun t140 => ?_)
              · refine v_iconst (v := (-1)) rfl (by decide) ?_
                refine v_iastore rfl h139 (r_nn (by omega)) (r_ix f134Bl (by omega) (by omega)) ?_
                refine r_gen (fun w141 e142 => ?_)
                have hI143 : pm_IM gi ga w141 := by
                  rw [e142, e137]
                  refine hI17.flt2 (by rw [List.length_set]; exact f134Al) (by rw [List.length_set]; exact f134Bl) ?_
                  rw [j_set3 f134Al, j_set3 f134Bl]
                  by_cases hx : k.toNatClampNeg = 3
                  · rw [if_pos hx, if_pos hx]; rw [i_cl] at hx; intro hy; omega
                  · rw [if_neg hx, if_neg hx]; exact f134F
                have hh144 : pm_lo w0 w141 := by rw [e142, e137]; exact (hh18.set (by decide) _).set (by decide) _
                refine v_iconst (v := 1) rfl (by decide) ?_
                exact v_iret rfl ⟨⟨_, rfl, (by
                    refine Or.inr ⟨by omega, ?_⟩
                    first
                    | exact Or.inl ⟨by omega, by omega⟩
                    | exact Or.inr ⟨by omega, fs27, os28, _, v23k, by unfold sq_good; omega⟩)⟩, hI143, hh144⟩
              · refine v_iload_n rfl rfl ?_
                refine v_goto rfl ?_
                refine v_iastore rfl h139 (r_nn (by omega)) (r_ix f134Bl (by omega) (by omega)) ?_
                refine r_gen (fun w145 e146 => ?_)
                have hI147 : pm_IM gi ga w145 := by
                  rw [e146, e137]
                  refine hI17.flt2 (by rw [List.length_set]; exact f134Al) (by rw [List.length_set]; exact f134Bl) ?_
                  rw [j_set3 f134Al, j_set3 f134Bl]
                  by_cases hx : k.toNatClampNeg = 3
                  · rw [if_pos hx, if_pos hx]; rw [i_cl] at hx; intro hy; omega
                  · rw [if_neg hx, if_neg hx]; exact f134F
                have hh148 : pm_lo w0 w145 := by rw [e146, e137]; exact (hh18.set (by decide) _).set (by decide) _
                refine v_iconst (v := 1) rfl (by decide) ?_
                exact v_iret rfl ⟨⟨_, rfl, (by
                    refine Or.inr ⟨by omega, ?_⟩
                    first
                    | exact Or.inl ⟨by omega, by omega⟩
                    | exact Or.inr ⟨by omega, fs27, os28, _, v23k, by unfold sq_good; omega⟩)⟩, hI147, hh148⟩
  · refine v_aload_n rfl rfl ?_
    refine v_bipush (v := (-2)) rfl (by decide) ?_
    obtain ⟨v150, v151, v152, v153, v154, v155, v156, v157, v150z, ⟨v151a, v151b⟩, ⟨v152a, v152b⟩, ⟨v154a, v154b⟩, ⟨v157a, v157b⟩, h149⟩ := hI.2.1 59 (by decide) (by decide)
    have v150z := v150z.imp i_eq.mp i_eq.mp
    rw [i_0, i_1] at v150z
    refine v_callV rfl (c_M_refuse (-2 : Int32) (by unfold pm_isR; first | decide | exact Or.inl rfl) hR hI) rfl rfl h149 rfl rfl (by omega) (fun rv w158 hq159 => ?_)
    obtain ⟨rfl, hI160, hh161x⟩ := hq159
    have hI160 : pm_IM gi ga w158 := hI160
    have hh161 := hh.tr hh161x
    exact v_iret rfl ⟨⟨_, rfl, (by exact Or.inl ⟨by omega, by omega⟩)⟩, hI160, hh161⟩

