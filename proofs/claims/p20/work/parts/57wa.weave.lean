set_option maxRecDepth 100000 in
theorem W_X12_cross_59_x {sc : pm_S} {w w0 : pm_W} {gi : Nat → Int32} {ga : Nat → List Int32} (a : Int32) (b : Int32) (c59_4 : Int32) (c59_5 : Int32) (c59_6 : Int32) (c59_14 : Int32) (c59_35 : Int32) (c59_39 : Int32) (c59_40 : Int32) (c59_42 : Int32) (c80 : List Int32) (c81 : List Int32) (c84 : List Int32) (p0 : b.toInt ≤ 19) (p1 : 0 ≤ b.toInt) (p2 : a.toInt ≤ 19) (p3 : 0 ≤ a.toInt) (p4 : 0 ≤ c59_4.toInt) (p5 : c59_4.toInt ≤ 1) (p6 : 0 ≤ c59_5.toInt) (p7 : c59_5.toInt ≤ 20) (p8 : 0 ≤ c59_6.toInt) (p9 : c59_6.toInt ≤ 20) (p10 : 0 ≤ c59_35.toInt) (p11 : c59_35.toInt ≤ 20) (p12 : 0 ≤ c59_42.toInt) (p13 : c59_42.toInt ≤ 12) (hc59 : w[59]? = some (.inr (12, [.int (gi 0), .int (gi 1), .ref 60, .int (gi 2), .int c59_4, .int c59_5, .int c59_6, .ref 61, .ref 62, .ref 63, .int (gi 5), .int (gi 3), .int (gi 4), .int (gi 6), .int c59_14, .int (gi 7), .ref 64, .ref 65, .ref 66, .ref 67, .int (gi 8), .ref 68, .ref 69, .ref 70, .ref 71, .ref 72, .ref 73, .ref 74, .ref 75, .ref 76, .ref 77, .ref 78, .ref 79, .ref 80, .ref 81, .int c59_35, .ref 82, .ref 83, .ref 84, .int c59_39, .int c59_40, .ref 85, .int c59_42, .ref 86, .ref 87]))) (hc80 : w[80]? = some (.inl (0, .inl c80))) (hl80 : c80.length = 20) (hr80 : ∀ x ∈ c80, pm_rng x (-1) 19) (hc81 : w[81]? = some (.inl (0, .inl c81))) (hl81 : c81.length = 20) (hr81 : ∀ x ∈ c81, pm_rng x (0) 19) (hc84 : w[84]? = some (.inl (0, .inl c84))) (hl84 : c84.length = 400) (hR : pm_Rg gi ga) (hI : pm_IM gi ga w) (hh : pm_lo w0 w) : pm_Mt sc 1 150 5 [.ref 59, .int a, .int b] w (fun rv w' => rv = none ∧ pm_IM gi ga w' ∧ pm_lo w0 w' ∧ ∃ sh : List Int32, w'[59]? = some (.inr (12, [.int (gi 0), .int (gi 1), .ref 60, .int (gi 2), .int c59_4, .int c59_5, .int c59_6, .ref 61, .ref 62, .ref 63, .int (gi 5), .int (gi 3), .int (gi 4), .int (gi 6), .int c59_14, .int (gi 7), .ref 64, .ref 65, .ref 66, .ref 67, .int (gi 8), .ref 68, .ref 69, .ref 70, .ref 71, .ref 72, .ref 73, .ref 74, .ref 75, .ref 76, .ref 77, .ref 78, .ref 79, .ref 80, .ref 81, .int c59_35, .ref 82, .ref 83, .ref 84, .int c59_39, .int c59_40, .ref 85, .int c59_42, .ref 86, .ref 87])) ∧ w'[80]? = some (.inl (0, .inl c80)) ∧ w'[81]? = some (.inl (0, .inl c81)) ∧ w'[84]? = some (.inl (0, .inl sh)) ∧ sh.length = 400 ∧ ∀ x y, x < (gi 0).toInt.toNat → y < (gi 1).toInt.toNat → sh.getD (20 * y + x) 0 = (if sq_lk c80 x = a.toInt then sq_c (ga 15) (sq_lk c81 b.toInt.toNat).toNat y else if sq_lk c80 x = b.toInt then sq_c (ga 15) (sq_lk c81 a.toInt.toNat).toNat y else c84.getD (20 * y + x) 0)) := by
  intro d hd
  obtain ⟨g0a, g0b⟩ := hR.n0
  obtain ⟨g1a, g1b⟩ := hR.n1
  obtain ⟨g2a, g2b⟩ := hR.n2
  obtain ⟨g3a, g3b⟩ := hR.n3
  obtain ⟨g4a, g4b⟩ := hR.n4
  obtain ⟨g5a, g5b⟩ := hR.n5
  obtain ⟨g6a, g6b⟩ := hR.n6
  obtain ⟨g7a, g7b⟩ := hR.n7
  obtain ⟨g8a, g8b⟩ := hR.n8
  have k0 : (0 : Int32).toInt = 0 := by decide
  have k20 : (20 : Int32).toInt = 20 := by decide
  show pm_V sc d 150 0 [.ref 59, .int a, .int b, .null, .null] [] w _
  refine v_iconst (v := 0) rfl (by decide) ?_
  refine v_istore_n rfl (Nat.le_of_ble_eq_true rfl) ?_
  have L11 : ∀ (n11 : Nat) (l1 : Int32) (u2 : Value) (w3 : pm_W) (xs10 : List Int32), pm_IM gi ga w3 → pm_lo w0 w3 → w3[59]? = some (.inr (12, [.int (gi 0), .int (gi 1), .ref 60, .int (gi 2), .int c59_4, .int c59_5, .int c59_6, .ref 61, .ref 62, .ref 63, .int (gi 5), .int (gi 3), .int (gi 4), .int (gi 6), .int c59_14, .int (gi 7), .ref 64, .ref 65, .ref 66, .ref 67, .int (gi 8), .ref 68, .ref 69, .ref 70, .ref 71, .ref 72, .ref 73, .ref 74, .ref 75, .ref 76, .ref 77, .ref 78, .ref 79, .ref 80, .ref 81, .int c59_35, .ref 82, .ref 83, .ref 84, .int c59_39, .int c59_40, .ref 85, .int c59_42, .ref 86, .ref 87])) → w3[80]? = some (.inl (0, .inl c80)) → w3[81]? = some (.inl (0, .inl c81)) → w3[84]? = some (.inl (0, .inl xs10)) → xs10.length = 400 → 0 ≤ l1.toInt → l1.toInt ≤ 20 → (l1.toInt ≤ (gi 1).toInt) → (∀ x y, x < 20 → y < 20 → xs10.getD (20 * y + x) 0 = (if (0 ≤ y ∧ y < l1.toInt.toNat) ∧ x < (gi 0).toInt.toNat then (if sq_lk c80 x = a.toInt then sq_c (ga 15) (sq_lk c81 b.toInt.toNat).toNat y else if sq_lk c80 x = b.toInt then sq_c (ga 15) (sq_lk c81 a.toInt.toNat).toNat y else c84.getD (20 * y + x) 0) else c84.getD (20 * y + x) 0)) → (20 - l1.toInt).toNat < n11 → pm_V sc d 150 2 [.ref 59, .int a, .int b, .int l1, u2] [] w3 (fun rv w' => rv = none ∧ pm_IM gi ga w' ∧ pm_lo w0 w' ∧ ∃ sh : List Int32, w'[59]? = some (.inr (12, [.int (gi 0), .int (gi 1), .ref 60, .int (gi 2), .int c59_4, .int c59_5, .int c59_6, .ref 61, .ref 62, .ref 63, .int (gi 5), .int (gi 3), .int (gi 4), .int (gi 6), .int c59_14, .int (gi 7), .ref 64, .ref 65, .ref 66, .ref 67, .int (gi 8), .ref 68, .ref 69, .ref 70, .ref 71, .ref 72, .ref 73, .ref 74, .ref 75, .ref 76, .ref 77, .ref 78, .ref 79, .ref 80, .ref 81, .int c59_35, .ref 82, .ref 83, .ref 84, .int c59_39, .int c59_40, .ref 85, .int c59_42, .ref 86, .ref 87])) ∧ w'[80]? = some (.inl (0, .inl c80)) ∧ w'[81]? = some (.inl (0, .inl c81)) ∧ w'[84]? = some (.inl (0, .inl sh)) ∧ sh.length = 400 ∧ ∀ x y, x < (gi 0).toInt.toNat → y < (gi 1).toInt.toNat → sh.getD (20 * y + x) 0 = (if sq_lk c80 x = a.toInt then sq_c (ga 15) (sq_lk c81 b.toInt.toNat).toNat y else if sq_lk c80 x = b.toInt then sq_c (ga 15) (sq_lk c81 a.toInt.toNat).toNat y else c84.getD (20 * y + x) 0)) := by
    intro n11
    induction n11 with
    | zero => intro l1 u2 w3 xs10 hI4 hh5 h6 h7 h8 h9 xs10l t13 t14 t15 t16 hm12; exact absurd hm12 (Nat.not_lt_zero _)
    | succ n11 ih2_11 =>
      intro l1 u2 w3 xs10 hI4 hh5 h6 h7 h8 h9 xs10l t13 t14 t15 t16 hm12
      refine v_iload_n rfl rfl ?_
      refine v_aload_n rfl rfl ?_
      refine v_get rfl h6 rfl ?_
      refine r_icmp_ge rfl (fun t17 => ?_) (fun t17 => ?_)
      · exact v_ret rfl ⟨rfl, hI4, hh5, ⟨xs10, h6, h7, h8, h9, xs10l, fun x y hx hy => (by rw [t16 x y (by omega) (by omega)]; rw [if_pos (by omega)])⟩⟩
      · refine v_iconst (v := 0) rfl (by decide) ?_
        refine v_istore rfl (Nat.le_of_ble_eq_true rfl) ?_
        have L27 : ∀ (n27 : Nat) (l18 : Int32) (w19 : pm_W) (xs26 : List Int32), pm_IM gi ga w19 → pm_lo w0 w19 → w19[59]? = some (.inr (12, [.int (gi 0), .int (gi 1), .ref 60, .int (gi 2), .int c59_4, .int c59_5, .int c59_6, .ref 61, .ref 62, .ref 63, .int (gi 5), .int (gi 3), .int (gi 4), .int (gi 6), .int c59_14, .int (gi 7), .ref 64, .ref 65, .ref 66, .ref 67, .int (gi 8), .ref 68, .ref 69, .ref 70, .ref 71, .ref 72, .ref 73, .ref 74, .ref 75, .ref 76, .ref 77, .ref 78, .ref 79, .ref 80, .ref 81, .int c59_35, .ref 82, .ref 83, .ref 84, .int c59_39, .int c59_40, .ref 85, .int c59_42, .ref 86, .ref 87])) → w19[80]? = some (.inl (0, .inl c80)) → w19[81]? = some (.inl (0, .inl c81)) → w19[84]? = some (.inl (0, .inl xs26)) → xs26.length = 400 → 0 ≤ l18.toInt → l18.toInt ≤ 20 → (l18.toInt ≤ (gi 0).toInt) → (∀ x y, x < 20 → y < 20 → xs26.getD (20 * y + x) 0 = (if ((0 ≤ y ∧ y < l1.toInt.toNat) ∧ x < (gi 0).toInt.toNat) ∨ (y = l1.toInt.toNat ∧ x < l18.toInt.toNat) then (if sq_lk c80 x = a.toInt then sq_c (ga 15) (sq_lk c81 b.toInt.toNat).toNat y else if sq_lk c80 x = b.toInt then sq_c (ga 15) (sq_lk c81 a.toInt.toNat).toNat y else c84.getD (20 * y + x) 0) else c84.getD (20 * y + x) 0)) → (20 - l18.toInt).toNat < n27 → pm_V sc d 150 13 [.ref 59, .int a, .int b, .int l1, .int l18] [] w19 (fun rv w' => rv = none ∧ pm_IM gi ga w' ∧ pm_lo w0 w' ∧ ∃ sh : List Int32, w'[59]? = some (.inr (12, [.int (gi 0), .int (gi 1), .ref 60, .int (gi 2), .int c59_4, .int c59_5, .int c59_6, .ref 61, .ref 62, .ref 63, .int (gi 5), .int (gi 3), .int (gi 4), .int (gi 6), .int c59_14, .int (gi 7), .ref 64, .ref 65, .ref 66, .ref 67, .int (gi 8), .ref 68, .ref 69, .ref 70, .ref 71, .ref 72, .ref 73, .ref 74, .ref 75, .ref 76, .ref 77, .ref 78, .ref 79, .ref 80, .ref 81, .int c59_35, .ref 82, .ref 83, .ref 84, .int c59_39, .int c59_40, .ref 85, .int c59_42, .ref 86, .ref 87])) ∧ w'[80]? = some (.inl (0, .inl c80)) ∧ w'[81]? = some (.inl (0, .inl c81)) ∧ w'[84]? = some (.inl (0, .inl sh)) ∧ sh.length = 400 ∧ ∀ x y, x < (gi 0).toInt.toNat → y < (gi 1).toInt.toNat → sh.getD (20 * y + x) 0 = (if sq_lk c80 x = a.toInt then sq_c (ga 15) (sq_lk c81 b.toInt.toNat).toNat y else if sq_lk c80 x = b.toInt then sq_c (ga 15) (sq_lk c81 a.toInt.toNat).toNat y else c84.getD (20 * y + x) 0)) := by
          intro n27
          induction n27 with
          | zero => intro l18 w19 xs26 hI20 hh21 h22 h23 h24 h25 xs26l t29 t30 t31 t32 hm28; exact absurd hm28 (Nat.not_lt_zero _)
          | succ n27 ih13_27 =>
            intro l18 w19 xs26 hI20 hh21 h22 h23 h24 h25 xs26l t29 t30 t31 t32 hm28
            refine v_iload rfl rfl ?_
            refine v_aload_n rfl rfl ?_
            refine v_get rfl h22 rfl ?_
            refine r_icmp_ge rfl (fun t33 => ?_) (fun t33 => ?_)
            · refine r_iinc rfl rfl (by decide) (by omega) (by omega) (fun z34 z34e => ?_)
              refine v_goto rfl ?_
              exact ih2_11 z34 (.int l18) w19 xs26 hI20 hh21 h22 h23 h24 h25 xs26l (by omega) (by omega) (by omega) (by
                  intro x y hx hy
                  rw [t32 x y hx hy]
                  by_cases e : ((0 ≤ y ∧ y < l1.toInt.toNat) ∧ x < (gi 0).toInt.toNat) ∨ (y = l1.toInt.toNat ∧ x < l18.toInt.toNat)
                  · rw [if_pos e]
                    exact (if_pos (by omega)).symm
                  · rw [if_neg e]
                    exact (if_neg (by omega)).symm) (by omega)
            · refine v_aload_n rfl rfl ?_
              refine v_get rfl h22 rfl ?_
              refine v_bipush (v := 20) rfl (by decide) ?_
              refine v_iload_n rfl rfl ?_
              refine r_imulL 20 rfl rfl (by omega) (by omega) (fun z35 z35e => ?_)
              refine v_iload rfl rfl ?_
              refine r_iadd rfl (by omega) (by omega) (fun z36 z36e => ?_)
              skip
              refine v_aload_n rfl rfl ?_
              refine v_get rfl h22 rfl ?_
              refine v_iload rfl rfl ?_
              refine r_iaload rfl h23 hl80 (by omega) (by omega) (fun z37 z37m z37g => ?_)
              obtain ⟨z37a, z37b⟩ := hr80 z37 z37m
              have z37h : z37.toInt = sq_lk c80 l18.toInt.toNat := congrArg Int32.toInt z37g
              refine v_iload_n rfl rfl ?_
              refine r_icmp_ne rfl (fun t38 => ?_) (fun t38 => ?_)
              · refine v_aload_n rfl rfl ?_
                refine v_get rfl h22 rfl ?_
                refine v_iload rfl rfl ?_
                refine r_iaload rfl h23 hl80 (by omega) (by omega) (fun z39 z39m z39g => ?_)
                obtain ⟨z39a, z39b⟩ := hr80 z39 z39m
                have z39h : z39.toInt = sq_lk c80 l18.toInt.toNat := congrArg Int32.toInt z39g
                refine v_iload_n rfl rfl ?_
                refine r_icmp_ne rfl (fun t40 => ?_) (fun t40 => ?_)
                · refine v_aload_n rfl rfl ?_
                  refine v_get rfl h22 rfl ?_
                  refine v_bipush (v := 20) rfl (by decide) ?_
                  refine v_iload_n rfl rfl ?_
                  refine r_imulL 20 rfl rfl (by omega) (by omega) (fun z41 z41e => ?_)
                  refine v_iload rfl rfl ?_
                  refine r_iadd rfl (by omega) (by omega) (fun z42 z42e => ?_)
                  refine r_iaload rfl h25 xs26l (by omega) (by omega) (fun z43 z43m z43g => ?_)
                  skip
                  refine r_iastx rfl h25 xs26l (by omega) (by omega) (fun ys44 ys44l ys44m ys44g ys44n => ?_)
                  refine r_gen (w' := w19.set 84 (.inl (0, .inl ys44))) (fun w45 e46 => ?_)
                  have hI47 : pm_IM gi ga w45 := by rw [e46]; exact hI20.set 84 (by decide) (by decide) (by decide) (by decide) ⟨ys44, ys44l, rfl⟩
                  have hh48 : pm_lo w0 w45 := by rw [e46]; exact hh21.set (by decide) _
                  have h49 := r_get_ne e46 (show 84 ≠ 59 by decide) h22
                  have h50 := r_get_ne e46 (show 84 ≠ 80 by decide) h23
                  have h51 := r_get_ne e46 (show 84 ≠ 81 by decide) h24
                  have h52 := r_get_eq e46 h25
                  refine r_iinc rfl rfl (by decide) (by omega) (by omega) (fun z53 z53e => ?_)
                  refine v_goto rfl ?_
                  exact ih13_27 z53 w45 ys44 hI47 hh48 h49 h50 h51 h52 ys44l (by omega) (by omega) (by omega) (by
                      intro x y hx hy
                      have hw : ys44.getD (20 * l1.toInt.toNat + l18.toInt.toNat) 0 = (if sq_lk c80 l18.toInt.toNat = a.toInt then sq_c (ga 15) (sq_lk c81 b.toInt.toNat).toNat l1.toInt.toNat else if sq_lk c80 l18.toInt.toNat = b.toInt then sq_c (ga 15) (sq_lk c81 a.toInt.toNat).toNat l1.toInt.toNat else c84.getD (20 * l1.toInt.toNat + l18.toInt.toNat) 0) := by
                        have hg := ys44g
                        rw [show z36.toInt.toNat = 20 * l1.toInt.toNat + l18.toInt.toNat by omega] at hg
                        rw [hg]
                        rw [if_neg (by omega), if_neg (by omega), z43g, show z42.toInt.toNat = 20 * l1.toInt.toNat + l18.toInt.toNat by omega, t32 _ _ (by omega) (by omega), if_neg (by omega)]
                      by_cases e : 20 * y + x = z36.toInt.toNat
                      · have e1 : y = l1.toInt.toNat := by omega
                        have e2 : x = l18.toInt.toNat := by omega
                        subst e1
                        subst e2
                        rw [if_pos (by omega), hw]
                      · rw [ys44n (20 * y + x) e, t32 x y hx hy]
                        by_cases e1 : ((0 ≤ y ∧ y < l1.toInt.toNat) ∧ x < (gi 0).toInt.toNat) ∨ (y = l1.toInt.toNat ∧ x < l18.toInt.toNat)
                        · rw [if_pos e1]
                          exact (if_pos (by omega)).symm
                        · rw [if_neg e1]
                          exact (if_neg (by omega)).symm) (by omega)
                · refine v_aload_n rfl rfl ?_
                  refine v_aload_n rfl rfl ?_
                  refine v_get rfl h22 rfl ?_
                  refine v_iload_n rfl rfl ?_
                  refine r_iaload rfl h24 hl81 (by omega) (by omega) (fun z54 z54m z54g => ?_)
                  obtain ⟨z54a, z54b⟩ := hr81 z54 z54m
                  have z54h : z54.toInt = sq_lk c81 a.toInt.toNat := congrArg Int32.toInt z54g
                  refine v_iload_n rfl rfl ?_
                  obtain ⟨sq56l, sq56r, h55⟩ := hI20.2.1 60 (by decide) (by decide)
                  refine v_callV rfl (W_X12_colour_59_x z54 l1 (ga 15) (by omega) (by omega) (by omega) (by omega) h55 sq56l hR hI20) rfl rfl h22 rfl rfl (by omega) (fun rv w57 hq58 => ?_)
                  obtain ⟨⟨z59, rfl, z59p0⟩, rfl⟩ := hq58
                  have z59A : z59 = sq_c (ga 15) (sq_lk c81 a.toInt.toNat).toNat l1.toInt.toNat := by
                    rw [← z54h]
                    exact i_eq.mpr (by rw [z59p0]; unfold sq_c; rw [show (20 * l1.toInt + z54.toInt).toNat = 20 * l1.toInt.toNat + z54.toInt.toNat by omega])
                  refine v_goto rfl ?_
                  refine r_iastx rfl h25 xs26l (by omega) (by omega) (fun ys60 ys60l ys60m ys60g ys60n => ?_)
                  refine r_gen (w' := w19.set 84 (.inl (0, .inl ys60))) (fun w61 e62 => ?_)
                  have hI63 : pm_IM gi ga w61 := by rw [e62]; exact hI20.set 84 (by decide) (by decide) (by decide) (by decide) ⟨ys60, ys60l, rfl⟩
                  have hh64 : pm_lo w0 w61 := by rw [e62]; exact hh21.set (by decide) _
                  have h65 := r_get_ne e62 (show 84 ≠ 59 by decide) h22
                  have h66 := r_get_ne e62 (show 84 ≠ 80 by decide) h23
                  have h67 := r_get_ne e62 (show 84 ≠ 81 by decide) h24
                  have h68 := r_get_ne e62 (show 84 ≠ 60 by decide) h55
                  have h69 := r_get_eq e62 h25
                  refine r_iinc rfl rfl (by decide) (by omega) (by omega) (fun z70 z70e => ?_)
                  refine v_goto rfl ?_
                  exact ih13_27 z70 w61 ys60 hI63 hh64 h65 h66 h67 h69 ys60l (by omega) (by omega) (by omega) (by
                      intro x y hx hy
                      have hw : ys60.getD (20 * l1.toInt.toNat + l18.toInt.toNat) 0 = (if sq_lk c80 l18.toInt.toNat = a.toInt then sq_c (ga 15) (sq_lk c81 b.toInt.toNat).toNat l1.toInt.toNat else if sq_lk c80 l18.toInt.toNat = b.toInt then sq_c (ga 15) (sq_lk c81 a.toInt.toNat).toNat l1.toInt.toNat else c84.getD (20 * l1.toInt.toNat + l18.toInt.toNat) 0) := by
                        have hg := ys60g
                        rw [show z36.toInt.toNat = 20 * l1.toInt.toNat + l18.toInt.toNat by omega] at hg
                        rw [hg]
                        rw [if_neg (by omega), if_pos (by omega)]; exact z59A
                      by_cases e : 20 * y + x = z36.toInt.toNat
                      · have e1 : y = l1.toInt.toNat := by omega
                        have e2 : x = l18.toInt.toNat := by omega
                        subst e1
                        subst e2
                        rw [if_pos (by omega), hw]
                      · rw [ys60n (20 * y + x) e, t32 x y hx hy]
                        by_cases e1 : ((0 ≤ y ∧ y < l1.toInt.toNat) ∧ x < (gi 0).toInt.toNat) ∨ (y = l1.toInt.toNat ∧ x < l18.toInt.toNat)
                        · rw [if_pos e1]
                          exact (if_pos (by omega)).symm
                        · rw [if_neg e1]
                          exact (if_neg (by omega)).symm) (by omega)
              · refine v_aload_n rfl rfl ?_
                refine v_aload_n rfl rfl ?_
                refine v_get rfl h22 rfl ?_
                refine v_iload_n rfl rfl ?_
                refine r_iaload rfl h24 hl81 (by omega) (by omega) (fun z71 z71m z71g => ?_)
                obtain ⟨z71a, z71b⟩ := hr81 z71 z71m
                have z71h : z71.toInt = sq_lk c81 b.toInt.toNat := congrArg Int32.toInt z71g
                refine v_iload_n rfl rfl ?_
                obtain ⟨sq73l, sq73r, h72⟩ := hI20.2.1 60 (by decide) (by decide)
                refine v_callV rfl (W_X12_colour_59_x z71 l1 (ga 15) (by omega) (by omega) (by omega) (by omega) h72 sq73l hR hI20) rfl rfl h22 rfl rfl (by omega) (fun rv w74 hq75 => ?_)
                obtain ⟨⟨z76, rfl, z76p0⟩, rfl⟩ := hq75
                have z76A : z76 = sq_c (ga 15) (sq_lk c81 b.toInt.toNat).toNat l1.toInt.toNat := by
                  rw [← z71h]
                  exact i_eq.mpr (by rw [z76p0]; unfold sq_c; rw [show (20 * l1.toInt + z71.toInt).toNat = 20 * l1.toInt.toNat + z71.toInt.toNat by omega])
                refine v_goto rfl ?_
                refine r_iastx rfl h25 xs26l (by omega) (by omega) (fun ys77 ys77l ys77m ys77g ys77n => ?_)
                refine r_gen (w' := w19.set 84 (.inl (0, .inl ys77))) (fun w78 e79 => ?_)
                have hI80 : pm_IM gi ga w78 := by rw [e79]; exact hI20.set 84 (by decide) (by decide) (by decide) (by decide) ⟨ys77, ys77l, rfl⟩
                have hh81 : pm_lo w0 w78 := by rw [e79]; exact hh21.set (by decide) _
                have h82 := r_get_ne e79 (show 84 ≠ 59 by decide) h22
                have h83 := r_get_ne e79 (show 84 ≠ 80 by decide) h23
                have h84 := r_get_ne e79 (show 84 ≠ 81 by decide) h24
                have h85 := r_get_ne e79 (show 84 ≠ 60 by decide) h72
                have h86 := r_get_eq e79 h25
                refine r_iinc rfl rfl (by decide) (by omega) (by omega) (fun z87 z87e => ?_)
                refine v_goto rfl ?_
                exact ih13_27 z87 w78 ys77 hI80 hh81 h82 h83 h84 h86 ys77l (by omega) (by omega) (by omega) (by
                    intro x y hx hy
                    have hw : ys77.getD (20 * l1.toInt.toNat + l18.toInt.toNat) 0 = (if sq_lk c80 l18.toInt.toNat = a.toInt then sq_c (ga 15) (sq_lk c81 b.toInt.toNat).toNat l1.toInt.toNat else if sq_lk c80 l18.toInt.toNat = b.toInt then sq_c (ga 15) (sq_lk c81 a.toInt.toNat).toNat l1.toInt.toNat else c84.getD (20 * l1.toInt.toNat + l18.toInt.toNat) 0) := by
                      have hg := ys77g
                      rw [show z36.toInt.toNat = 20 * l1.toInt.toNat + l18.toInt.toNat by omega] at hg
                      rw [hg]
                      rw [if_pos (by omega)]; exact z76A
                    by_cases e : 20 * y + x = z36.toInt.toNat
                    · have e1 : y = l1.toInt.toNat := by omega
                      have e2 : x = l18.toInt.toNat := by omega
                      subst e1
                      subst e2
                      rw [if_pos (by omega), hw]
                    · rw [ys77n (20 * y + x) e, t32 x y hx hy]
                      by_cases e1 : ((0 ≤ y ∧ y < l1.toInt.toNat) ∧ x < (gi 0).toInt.toNat) ∨ (y = l1.toInt.toNat ∧ x < l18.toInt.toNat)
                      · rw [if_pos e1]
                        exact (if_pos (by omega)).symm
                      · rw [if_neg e1]
                        exact (if_neg (by omega)).symm) (by omega)
        exact L27 _ (0 : Int32) w3 xs10 hI4 hh5 h6 h7 h8 h9 xs10l (by omega) (by omega) (by omega) (by
            intro x y hx hy
            rw [t16 x y hx hy]
            by_cases e : (0 ≤ y ∧ y < l1.toInt.toNat) ∧ x < (gi 0).toInt.toNat
            · rw [if_pos e, if_pos (Or.inl e)]
            · rw [if_neg e]
              exact (if_neg (by rw [show (0 : Int32).toInt.toNat = 0 from rfl]; omega)).symm) (Nat.lt_add_one _)
  exact L11 _ (0 : Int32) (.null) w c84 hI hh hc59 hc80 hc81 hc84 hl84 (by omega) (by omega) (by omega) (by
      intro x y hx hy
      exact (if_neg (by rw [show (0 : Int32).toInt.toNat = 0 from rfl]; omega)).symm) (Nat.lt_add_one _)

