set_option maxRecDepth 100000 in
theorem W_X12_breakCord_59_x {sc : pm_S} {w w0 : pm_W} {gi : Nat → Int32} {ga : Nat → List Int32} (a : Int32) (c59_4 : Int32) (c59_5 : Int32) (c59_6 : Int32) (c59_14 : Int32) (c59_35 : Int32) (c59_39 : Int32) (c59_40 : Int32) (c59_42 : Int32) (c80 : List Int32) (c81 : List Int32) (c84 : List Int32) (p0 : 0 ≤ c59_4.toInt) (p1 : c59_4.toInt ≤ 1) (p2 : 0 ≤ c59_5.toInt) (p3 : c59_5.toInt ≤ 20) (p4 : 0 ≤ c59_6.toInt) (p5 : c59_6.toInt ≤ 20) (p6 : 0 ≤ c59_35.toInt) (p7 : c59_35.toInt ≤ 20) (p8 : 0 ≤ c59_42.toInt) (p9 : c59_42.toInt ≤ 12) (hc59 : w[59]? = some (.inr (12, [.int (gi 0), .int (gi 1), .ref 60, .int (gi 2), .int c59_4, .int c59_5, .int c59_6, .ref 61, .ref 62, .ref 63, .int (gi 5), .int (gi 3), .int (gi 4), .int (gi 6), .int c59_14, .int (gi 7), .ref 64, .ref 65, .ref 66, .ref 67, .int (gi 8), .ref 68, .ref 69, .ref 70, .ref 71, .ref 72, .ref 73, .ref 74, .ref 75, .ref 76, .ref 77, .ref 78, .ref 79, .ref 80, .ref 81, .int c59_35, .ref 82, .ref 83, .ref 84, .int c59_39, .int c59_40, .ref 85, .int c59_42, .ref 86, .ref 87]))) (hc80 : w[80]? = some (.inl (0, .inl c80))) (hl80 : c80.length = 20) (hr80 : ∀ x ∈ c80, pm_rng x (-1) 19) (hc81 : w[81]? = some (.inl (0, .inl c81))) (hl81 : c81.length = 20) (hr81 : ∀ x ∈ c81, pm_rng x (0) 19) (hc84 : w[84]? = some (.inl (0, .inl c84))) (hl84 : c84.length = 400) (hR : pm_Rg gi ga) (hI : pm_IM gi ga w) (hh : pm_lo w0 w) : pm_Mt sc 0 151 4 [.ref 59, .int a] w (fun rv w' => rv = none ∧ pm_IM gi ga w' ∧ pm_lo w0 w' ∧ ∃ sh : List Int32, w'[59]? = some (.inr (12, [.int (gi 0), .int (gi 1), .ref 60, .int (gi 2), .int c59_4, .int c59_5, .int c59_6, .ref 61, .ref 62, .ref 63, .int (gi 5), .int (gi 3), .int (gi 4), .int (gi 6), .int c59_14, .int (gi 7), .ref 64, .ref 65, .ref 66, .ref 67, .int (gi 8), .ref 68, .ref 69, .ref 70, .ref 71, .ref 72, .ref 73, .ref 74, .ref 75, .ref 76, .ref 77, .ref 78, .ref 79, .ref 80, .ref 81, .int c59_35, .ref 82, .ref 83, .ref 84, .int c59_39, .int c59_40, .ref 85, .int c59_42, .ref 86, .ref 87])) ∧ w'[80]? = some (.inl (0, .inl c80)) ∧ w'[81]? = some (.inl (0, .inl c81)) ∧ w'[84]? = some (.inl (0, .inl sh)) ∧ sh.length = 400 ∧ ∀ x y, x < (gi 0).toInt.toNat → y < (gi 1).toInt.toNat → sh.getD (20 * y + x) 0 = (if sq_lk c80 x = a.toInt then 0 else c84.getD (20 * y + x) 0)) := by
  intro d hd
  obtain ⟨g0a, g0b⟩ := hR.n0
  obtain ⟨g1a, g1b⟩ := hR.n1
  obtain ⟨g2a, g2b⟩ := hR.n2
  obtain ⟨g3a, g3b⟩ := hR.n3
  obtain ⟨g4a, g4b⟩ := hR.n4
  obtain ⟨g5a, g5b⟩ := hR.n5
  obtain ⟨g6a, g6b⟩ := hR.n6
  obtain ⟨g7a, g7b⟩ := hR.n7
  obtain ⟨g8a, g8b⟩ := hR.n8
  have k0 : (0 : Int32).toInt = 0 := by decide
  have k20 : (20 : Int32).toInt = 20 := by decide
  show pm_V sc d 151 0 [.ref 59, .int a, .null, .null] [] w _
  refine v_iconst (v := 0) rfl (by decide) ?_
  refine v_istore_n rfl (Nat.le_of_ble_eq_true rfl) ?_
  have L11 : ∀ (n11 : Nat) (l1 : Int32) (u2 : Value) (w3 : pm_W) (xs10 : List Int32), pm_IM gi ga w3 → pm_lo w0 w3 → w3[59]? = some (.inr (12, [.int (gi 0), .int (gi 1), .ref 60, .int (gi 2), .int c59_4, .int c59_5, .int c59_6, .ref 61, .ref 62, .ref 63, .int (gi 5), .int (gi 3), .int (gi 4), .int (gi 6), .int c59_14, .int (gi 7), .ref 64, .ref 65, .ref 66, .ref 67, .int (gi 8), .ref 68, .ref 69, .ref 70, .ref 71, .ref 72, .ref 73, .ref 74, .ref 75, .ref 76, .ref 77, .ref 78, .ref 79, .ref 80, .ref 81, .int c59_35, .ref 82, .ref 83, .ref 84, .int c59_39, .int c59_40, .ref 85, .int c59_42, .ref 86, .ref 87])) → w3[80]? = some (.inl (0, .inl c80)) → w3[81]? = some (.inl (0, .inl c81)) → w3[84]? = some (.inl (0, .inl xs10)) → xs10.length = 400 → 0 ≤ l1.toInt → l1.toInt ≤ 20 → (l1.toInt ≤ (gi 1).toInt) → (∀ x y, x < 20 → y < 20 → xs10.getD (20 * y + x) 0 = (if (0 ≤ y ∧ y < l1.toInt.toNat) ∧ x < (gi 0).toInt.toNat then (if sq_lk c80 x = a.toInt then 0 else c84.getD (20 * y + x) 0) else c84.getD (20 * y + x) 0)) → (20 - l1.toInt).toNat < n11 → pm_V sc d 151 2 [.ref 59, .int a, .int l1, u2] [] w3 (fun rv w' => rv = none ∧ pm_IM gi ga w' ∧ pm_lo w0 w' ∧ ∃ sh : List Int32, w'[59]? = some (.inr (12, [.int (gi 0), .int (gi 1), .ref 60, .int (gi 2), .int c59_4, .int c59_5, .int c59_6, .ref 61, .ref 62, .ref 63, .int (gi 5), .int (gi 3), .int (gi 4), .int (gi 6), .int c59_14, .int (gi 7), .ref 64, .ref 65, .ref 66, .ref 67, .int (gi 8), .ref 68, .ref 69, .ref 70, .ref 71, .ref 72, .ref 73, .ref 74, .ref 75, .ref 76, .ref 77, .ref 78, .ref 79, .ref 80, .ref 81, .int c59_35, .ref 82, .ref 83, .ref 84, .int c59_39, .int c59_40, .ref 85, .int c59_42, .ref 86, .ref 87])) ∧ w'[80]? = some (.inl (0, .inl c80)) ∧ w'[81]? = some (.inl (0, .inl c81)) ∧ w'[84]? = some (.inl (0, .inl sh)) ∧ sh.length = 400 ∧ ∀ x y, x < (gi 0).toInt.toNat → y < (gi 1).toInt.toNat → sh.getD (20 * y + x) 0 = (if sq_lk c80 x = a.toInt then 0 else c84.getD (20 * y + x) 0)) := by
    intro n11
    induction n11 with
    | zero => intro l1 u2 w3 xs10 hI4 hh5 h6 h7 h8 h9 xs10l t13 t14 t15 t16 hm12; exact absurd hm12 (Nat.not_lt_zero _)
    | succ n11 ih2_11 =>
      intro l1 u2 w3 xs10 hI4 hh5 h6 h7 h8 h9 xs10l t13 t14 t15 t16 hm12
      refine v_iload_n rfl rfl ?_
      refine v_aload_n rfl rfl ?_
      refine v_get rfl h6 rfl ?_
      refine r_icmp_ge rfl (fun t17 => ?_) (fun t17 => ?_)
      · exact v_ret rfl ⟨rfl, hI4, hh5, ⟨xs10, h6, h7, h8, h9, xs10l, fun x y hx hy => (by rw [t16 x y (by omega) (by omega)]; rw [if_pos (by omega)])⟩⟩
      · refine v_iconst (v := 0) rfl (by decide) ?_
        refine v_istore_n rfl (Nat.le_of_ble_eq_true rfl) ?_
        have L27 : ∀ (n27 : Nat) (l18 : Int32) (w19 : pm_W) (xs26 : List Int32), pm_IM gi ga w19 → pm_lo w0 w19 → w19[59]? = some (.inr (12, [.int (gi 0), .int (gi 1), .ref 60, .int (gi 2), .int c59_4, .int c59_5, .int c59_6, .ref 61, .ref 62, .ref 63, .int (gi 5), .int (gi 3), .int (gi 4), .int (gi 6), .int c59_14, .int (gi 7), .ref 64, .ref 65, .ref 66, .ref 67, .int (gi 8), .ref 68, .ref 69, .ref 70, .ref 71, .ref 72, .ref 73, .ref 74, .ref 75, .ref 76, .ref 77, .ref 78, .ref 79, .ref 80, .ref 81, .int c59_35, .ref 82, .ref 83, .ref 84, .int c59_39, .int c59_40, .ref 85, .int c59_42, .ref 86, .ref 87])) → w19[80]? = some (.inl (0, .inl c80)) → w19[81]? = some (.inl (0, .inl c81)) → w19[84]? = some (.inl (0, .inl xs26)) → xs26.length = 400 → 0 ≤ l18.toInt → l18.toInt ≤ 20 → (l18.toInt ≤ (gi 0).toInt) → (∀ x y, x < 20 → y < 20 → xs26.getD (20 * y + x) 0 = (if ((0 ≤ y ∧ y < l1.toInt.toNat) ∧ x < (gi 0).toInt.toNat) ∨ (y = l1.toInt.toNat ∧ x < l18.toInt.toNat) then (if sq_lk c80 x = a.toInt then 0 else c84.getD (20 * y + x) 0) else c84.getD (20 * y + x) 0)) → (20 - l18.toInt).toNat < n27 → pm_V sc d 151 12 [.ref 59, .int a, .int l1, .int l18] [] w19 (fun rv w' => rv = none ∧ pm_IM gi ga w' ∧ pm_lo w0 w' ∧ ∃ sh : List Int32, w'[59]? = some (.inr (12, [.int (gi 0), .int (gi 1), .ref 60, .int (gi 2), .int c59_4, .int c59_5, .int c59_6, .ref 61, .ref 62, .ref 63, .int (gi 5), .int (gi 3), .int (gi 4), .int (gi 6), .int c59_14, .int (gi 7), .ref 64, .ref 65, .ref 66, .ref 67, .int (gi 8), .ref 68, .ref 69, .ref 70, .ref 71, .ref 72, .ref 73, .ref 74, .ref 75, .ref 76, .ref 77, .ref 78, .ref 79, .ref 80, .ref 81, .int c59_35, .ref 82, .ref 83, .ref 84, .int c59_39, .int c59_40, .ref 85, .int c59_42, .ref 86, .ref 87])) ∧ w'[80]? = some (.inl (0, .inl c80)) ∧ w'[81]? = some (.inl (0, .inl c81)) ∧ w'[84]? = some (.inl (0, .inl sh)) ∧ sh.length = 400 ∧ ∀ x y, x < (gi 0).toInt.toNat → y < (gi 1).toInt.toNat → sh.getD (20 * y + x) 0 = (if sq_lk c80 x = a.toInt then 0 else c84.getD (20 * y + x) 0)) := by
          intro n27
          induction n27 with
          | zero => intro l18 w19 xs26 hI20 hh21 h22 h23 h24 h25 xs26l t29 t30 t31 t32 hm28; exact absurd hm28 (Nat.not_lt_zero _)
          | succ n27 ih12_27 =>
            intro l18 w19 xs26 hI20 hh21 h22 h23 h24 h25 xs26l t29 t30 t31 t32 hm28
            refine v_iload_n rfl rfl ?_
            refine v_aload_n rfl rfl ?_
            refine v_get rfl h22 rfl ?_
            refine r_icmp_ge rfl (fun t33 => ?_) (fun t33 => ?_)
            · refine r_iinc rfl rfl (by decide) (by omega) (by omega) (fun z34 z34e => ?_)
              refine v_goto rfl ?_
              exact ih2_11 z34 (.int l18) w19 xs26 hI20 hh21 h22 h23 h24 h25 xs26l (by omega) (by omega) (by omega) (by
                  intro x y hx hy
                  rw [t32 x y hx hy]
                  by_cases e : ((0 ≤ y ∧ y < l1.toInt.toNat) ∧ x < (gi 0).toInt.toNat) ∨ (y = l1.toInt.toNat ∧ x < l18.toInt.toNat)
                  · rw [if_pos e]
                    exact (if_pos (by omega)).symm
                  · rw [if_neg e]
                    exact (if_neg (by omega)).symm) (by omega)
            · refine v_aload_n rfl rfl ?_
              refine v_get rfl h22 rfl ?_
              refine v_bipush (v := 20) rfl (by decide) ?_
              refine v_iload_n rfl rfl ?_
              refine r_imulL 20 rfl rfl (by omega) (by omega) (fun z35 z35e => ?_)
              refine v_iload_n rfl rfl ?_
              refine r_iadd rfl (by omega) (by omega) (fun z36 z36e => ?_)
              skip
              refine v_aload_n rfl rfl ?_
              refine v_get rfl h22 rfl ?_
              refine v_iload_n rfl rfl ?_
              refine r_iaload rfl h23 hl80 (by omega) (by omega) (fun z37 z37m z37g => ?_)
              obtain ⟨z37a, z37b⟩ := hr80 z37 z37m
              have z37h : z37.toInt = sq_lk c80 l18.toInt.toNat := congrArg Int32.toInt z37g
              refine v_iload_n rfl rfl ?_
              refine r_icmp_ne rfl (fun t38 => ?_) (fun t38 => ?_)
              · refine v_aload_n rfl rfl ?_
                refine v_get rfl h22 rfl ?_
                refine v_bipush (v := 20) rfl (by decide) ?_
                refine v_iload_n rfl rfl ?_
                refine r_imulL 20 rfl rfl (by omega) (by omega) (fun z39 z39e => ?_)
                refine v_iload_n rfl rfl ?_
                refine r_iadd rfl (by omega) (by omega) (fun z40 z40e => ?_)
                refine r_iaload rfl h25 xs26l (by omega) (by omega) (fun z41 z41m z41g => ?_)
                skip
                refine r_iastx rfl h25 xs26l (by omega) (by omega) (fun ys42 ys42l ys42m ys42g ys42n => ?_)
                refine r_gen (w' := w19.set 84 (.inl (0, .inl ys42))) (fun w43 e44 => ?_)
                have hI45 : pm_IM gi ga w43 := by rw [e44]; exact hI20.set 84 (by decide) (by decide) (by decide) (by decide) ⟨ys42, ys42l, rfl⟩
                have hh46 : pm_lo w0 w43 := by rw [e44]; exact hh21.set (by decide) _
                have h47 := r_get_ne e44 (show 84 ≠ 59 by decide) h22
                have h48 := r_get_ne e44 (show 84 ≠ 80 by decide) h23
                have h49 := r_get_ne e44 (show 84 ≠ 81 by decide) h24
                have h50 := r_get_eq e44 h25
                refine r_iinc rfl rfl (by decide) (by omega) (by omega) (fun z51 z51e => ?_)
                refine v_goto rfl ?_
                exact ih12_27 z51 w43 ys42 hI45 hh46 h47 h48 h49 h50 ys42l (by omega) (by omega) (by omega) (by
                    intro x y hx hy
                    have hw : ys42.getD (20 * l1.toInt.toNat + l18.toInt.toNat) 0 = (if sq_lk c80 l18.toInt.toNat = a.toInt then 0 else c84.getD (20 * l1.toInt.toNat + l18.toInt.toNat) 0) := by
                      have hg := ys42g
                      rw [show z36.toInt.toNat = 20 * l1.toInt.toNat + l18.toInt.toNat by omega] at hg
                      rw [hg]
                      rw [if_neg (by omega), z41g, show z40.toInt.toNat = 20 * l1.toInt.toNat + l18.toInt.toNat by omega, t32 _ _ (by omega) (by omega), if_neg (by omega)]
                    by_cases e : 20 * y + x = z36.toInt.toNat
                    · have e1 : y = l1.toInt.toNat := by omega
                      have e2 : x = l18.toInt.toNat := by omega
                      subst e1
                      subst e2
                      rw [if_pos (by omega), hw]
                    · rw [ys42n (20 * y + x) e, t32 x y hx hy]
                      by_cases e1 : ((0 ≤ y ∧ y < l1.toInt.toNat) ∧ x < (gi 0).toInt.toNat) ∨ (y = l1.toInt.toNat ∧ x < l18.toInt.toNat)
                      · rw [if_pos e1]
                        exact (if_pos (by omega)).symm
                      · rw [if_neg e1]
                        exact (if_neg (by omega)).symm) (by omega)
              · refine v_iconst (v := 0) rfl (by decide) ?_
                refine v_goto rfl ?_
                refine r_iastx rfl h25 xs26l (by omega) (by omega) (fun ys52 ys52l ys52m ys52g ys52n => ?_)
                refine r_gen (w' := w19.set 84 (.inl (0, .inl ys52))) (fun w53 e54 => ?_)
                have hI55 : pm_IM gi ga w53 := by rw [e54]; exact hI20.set 84 (by decide) (by decide) (by decide) (by decide) ⟨ys52, ys52l, rfl⟩
                have hh56 : pm_lo w0 w53 := by rw [e54]; exact hh21.set (by decide) _
                have h57 := r_get_ne e54 (show 84 ≠ 59 by decide) h22
                have h58 := r_get_ne e54 (show 84 ≠ 80 by decide) h23
                have h59 := r_get_ne e54 (show 84 ≠ 81 by decide) h24
                have h60 := r_get_eq e54 h25
                refine r_iinc rfl rfl (by decide) (by omega) (by omega) (fun z61 z61e => ?_)
                refine v_goto rfl ?_
                exact ih12_27 z61 w53 ys52 hI55 hh56 h57 h58 h59 h60 ys52l (by omega) (by omega) (by omega) (by
                    intro x y hx hy
                    have hw : ys52.getD (20 * l1.toInt.toNat + l18.toInt.toNat) 0 = (if sq_lk c80 l18.toInt.toNat = a.toInt then 0 else c84.getD (20 * l1.toInt.toNat + l18.toInt.toNat) 0) := by
                      have hg := ys52g
                      rw [show z36.toInt.toNat = 20 * l1.toInt.toNat + l18.toInt.toNat by omega] at hg
                      rw [hg]
                      rw [if_pos (by omega)]
                    by_cases e : 20 * y + x = z36.toInt.toNat
                    · have e1 : y = l1.toInt.toNat := by omega
                      have e2 : x = l18.toInt.toNat := by omega
                      subst e1
                      subst e2
                      rw [if_pos (by omega), hw]
                    · rw [ys52n (20 * y + x) e, t32 x y hx hy]
                      by_cases e1 : ((0 ≤ y ∧ y < l1.toInt.toNat) ∧ x < (gi 0).toInt.toNat) ∨ (y = l1.toInt.toNat ∧ x < l18.toInt.toNat)
                      · rw [if_pos e1]
                        exact (if_pos (by omega)).symm
                      · rw [if_neg e1]
                        exact (if_neg (by omega)).symm) (by omega)
        exact L27 _ (0 : Int32) w3 xs10 hI4 hh5 h6 h7 h8 h9 xs10l (by omega) (by omega) (by omega) (by
            intro x y hx hy
            rw [t16 x y hx hy]
            by_cases e : (0 ≤ y ∧ y < l1.toInt.toNat) ∧ x < (gi 0).toInt.toNat
            · rw [if_pos e, if_pos (Or.inl e)]
            · rw [if_neg e]
              exact (if_neg (by rw [show (0 : Int32).toInt.toNat = 0 from rfl]; omega)).symm) (Nat.lt_add_one _)
  exact L11 _ (0 : Int32) (.null) w c84 hI hh hc59 hc80 hc81 hc84 hl84 (by omega) (by omega) (by omega) (by
      intro x y hx hy
      exact (if_neg (by rw [show (0 : Int32).toInt.toNat = 0 from rfl]; omega)).symm) (Nat.lt_add_one _)

