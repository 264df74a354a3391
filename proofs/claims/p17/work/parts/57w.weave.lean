/-! WEAVE of the reference. -/
set_option maxRecDepth 100000 in
theorem W_X12_showPlain_59_x {sc : pm_S} {w w0 : pm_W} {gi : Nat → Int32} {ga : Nat → List Int32} (c59_4 : Int32) (c59_5 : Int32) (c59_6 : Int32) (c59_14 : Int32) (c59_35 : Int32) (c59_39 : Int32) (c59_40 : Int32) (c59_42 : Int32) (c80 : List Int32) (c81 : List Int32) (p0 : 0 ≤ c59_4.toInt) (p1 : c59_4.toInt ≤ 1) (p2 : 0 ≤ c59_5.toInt) (p3 : c59_5.toInt ≤ 20) (p4 : 0 ≤ c59_6.toInt) (p5 : c59_6.toInt ≤ 20) (p6 : 0 ≤ c59_35.toInt) (p7 : c59_35.toInt ≤ 20) (p8 : 0 ≤ c59_42.toInt) (p9 : c59_42.toInt ≤ 12) (hc59 : w[59]? = some (.inr (12, [.int (gi 0), .int (gi 1), .ref 60, .int (gi 2), .int c59_4, .int c59_5, .int c59_6, .ref 61, .ref 62, .ref 63, .int (gi 5), .int (gi 3), .int (gi 4), .int (gi 6), .int c59_14, .int (gi 7), .ref 64, .ref 65, .ref 66, .ref 67, .int (gi 8), .ref 68, .ref 69, .ref 70, .ref 71, .ref 72, .ref 73, .ref 74, .ref 75, .ref 76, .ref 77, .ref 78, .ref 79, .ref 80, .ref 81, .int c59_35, .ref 82, .ref 83, .ref 84, .int c59_39, .int c59_40, .ref 85, .int c59_42, .ref 86, .ref 87]))) (hc80 : w[80]? = some (.inl (0, .inl c80))) (hl80 : c80.length = 20) (hr80 : ∀ x ∈ c80, pm_rng x (-1) 19) (hc81 : w[81]? = some (.inl (0, .inl c81))) (hl81 : c81.length = 20) (hr81 : ∀ x ∈ c81, pm_rng x (0) 19) (hR : pm_Rg gi ga) (hI : pm_IM gi ga w) (hh : pm_lo w0 w) : pm_Mt sc 0 149 2 [.ref 59] w (fun rv w' => rv = none ∧ pm_IM gi ga w' ∧ pm_lo w0 w' ∧ ∃ sh : List Int32, w'[59]? = some (.inr (12, [.int (gi 0), .int (gi 1), .ref 60, .int (gi 2), .int c59_4, .int c59_5, .int c59_6, .ref 61, .ref 62, .ref 63, .int (gi 5), .int (gi 3), .int (gi 4), .int (gi 6), .int c59_14, .int (gi 7), .ref 64, .ref 65, .ref 66, .ref 67, .int (gi 8), .ref 68, .ref 69, .ref 70, .ref 71, .ref 72, .ref 73, .ref 74, .ref 75, .ref 76, .ref 77, .ref 78, .ref 79, .ref 80, .ref 81, .int c59_35, .ref 82, .ref 83, .ref 84, .int c59_39, .int c59_40, .ref 85, .int c59_42, .ref 86, .ref 87])) ∧ w'[80]? = some (.inl (0, .inl c80)) ∧ w'[81]? = some (.inl (0, .inl c81)) ∧ w'[84]? = some (.inl (0, .inl sh)) ∧ sh.length = 400 ∧ ∀ k, k < 400 → sh.getD k 0 = (ga 15).getD k 0) := by
  intro d hd
  obtain ⟨g0a, g0b⟩ := hR.n0
  obtain ⟨g1a, g1b⟩ := hR.n1
  obtain ⟨g2a, g2b⟩ := hR.n2
  obtain ⟨g3a, g3b⟩ := hR.n3
  obtain ⟨g4a, g4b⟩ := hR.n4
  obtain ⟨g5a, g5b⟩ := hR.n5
  obtain ⟨g6a, g6b⟩ := hR.n6
  obtain ⟨g7a, g7b⟩ := hR.n7
  obtain ⟨g8a, g8b⟩ := hR.n8
  have k0 : (0 : Int32).toInt = 0 := by decide
  have k400 : (400 : Int32).toInt = 400 := by decide
  show pm_V sc d 149 0 [.ref 59, .null] [] w _
  refine v_iconst (v := 0) rfl (by decide) ?_
  refine v_istore_n rfl (Nat.le_of_ble_eq_true rfl) ?_
  obtain ⟨xs2, xs2l, h1⟩ := hI.2.1 84 (by decide) (by decide)
  have L12 : ∀ (n12 : Nat) (l3 : Int32) (w4 : pm_W) (xs11 : List Int32), pm_IM gi ga w4 → pm_lo w0 w4 → w4[59]? = some (.inr (12, [.int (gi 0), .int (gi 1), .ref 60, .int (gi 2), .int c59_4, .int c59_5, .int c59_6, .ref 61, .ref 62, .ref 63, .int (gi 5), .int (gi 3), .int (gi 4), .int (gi 6), .int c59_14, .int (gi 7), .ref 64, .ref 65, .ref 66, .ref 67, .int (gi 8), .ref 68, .ref 69, .ref 70, .ref 71, .ref 72, .ref 73, .ref 74, .ref 75, .ref 76, .ref 77, .ref 78, .ref 79, .ref 80, .ref 81, .int c59_35, .ref 82, .ref 83, .ref 84, .int c59_39, .int c59_40, .ref 85, .int c59_42, .ref 86, .ref 87])) → w4[80]? = some (.inl (0, .inl c80)) → w4[81]? = some (.inl (0, .inl c81)) → w4[84]? = some (.inl (0, .inl xs11)) → xs11.length = 400 → 0 ≤ l3.toInt → l3.toInt ≤ 400 → (∀ k, k < l3.toInt.toNat → xs11.getD k 0 = (ga 15).getD k 0) → (400 - l3.toInt).toNat < n12 → pm_V sc d 149 2 [.ref 59, .int l3] [] w4 (fun rv w' => rv = none ∧ pm_IM gi ga w' ∧ pm_lo w0 w' ∧ ∃ sh : List Int32, w'[59]? = some (.inr (12, [.int (gi 0), .int (gi 1), .ref 60, .int (gi 2), .int c59_4, .int c59_5, .int c59_6, .ref 61, .ref 62, .ref 63, .int (gi 5), .int (gi 3), .int (gi 4), .int (gi 6), .int c59_14, .int (gi 7), .ref 64, .ref 65, .ref 66, .ref 67, .int (gi 8), .ref 68, .ref 69, .ref 70, .ref 71, .ref 72, .ref 73, .ref 74, .ref 75, .ref 76, .ref 77, .ref 78, .ref 79, .ref 80, .ref 81, .int c59_35, .ref 82, .ref 83, .ref 84, .int c59_39, .int c59_40, .ref 85, .int c59_42, .ref 86, .ref 87])) ∧ w'[80]? = some (.inl (0, .inl c80)) ∧ w'[81]? = some (.inl (0, .inl c81)) ∧ w'[84]? = some (.inl (0, .inl sh)) ∧ sh.length = 400 ∧ ∀ k, k < 400 → sh.getD k 0 = (ga 15).getD k 0) := by
    intro n12
    induction n12 with
    | zero => intro l3 w4 xs11 hI5 hh6 h7 h8 h9 h10 xs11l t14 t15 t16 hm13; exact absurd hm13 (Nat.not_lt_zero _)
    | succ n12 ih2_12 =>
      intro l3 w4 xs11 hI5 hh6 h7 h8 h9 h10 xs11l t14 t15 t16 hm13
      refine v_iload_n rfl rfl ?_
      refine v_sipush (v := 400) rfl (by decide) ?_
      refine r_icmp_ge rfl (fun t17 => ?_) (fun t17 => ?_)
      · exact v_ret rfl ⟨rfl, hI5, hh6, ⟨xs11, h7, h8, h9, h10, xs11l, fun k hk => t16 k (by omega)⟩⟩
      · refine v_aload_n rfl rfl ?_
        refine v_get rfl h7 rfl ?_
        refine v_iload_n rfl rfl ?_
        refine v_aload_n rfl rfl ?_
        refine v_get rfl h7 rfl ?_
        refine v_iload_n rfl rfl ?_
        obtain ⟨sq19l, sq19r, h18⟩ := hI5.2.1 60 (by decide) (by decide)
        refine r_iaload rfl h18 sq19l (by omega) (by omega) (fun z20 z20m z20g => ?_)
        obtain ⟨z20a, z20b⟩ := sq19r z20 z20m
        skip
        refine r_iastx rfl h10 xs11l (by omega) (by omega) (fun ys21 ys21l ys21m ys21g ys21n => ?_)
        refine r_gen (w' := w4.set 84 (.inl (0, .inl ys21))) (fun w22 e23 => ?_)
        have hI24 : pm_IM gi ga w22 := by rw [e23]; exact hI5.set 84 (by decide) (by decide) (by decide) (by decide) ⟨ys21, ys21l, rfl⟩
        have hh25 : pm_lo w0 w22 := by rw [e23]; exact hh6.set (by decide) _
        have h26 := r_get_ne e23 (show 84 ≠ 59 by decide) h7
        have h27 := r_get_ne e23 (show 84 ≠ 80 by decide) h8
        have h28 := r_get_ne e23 (show 84 ≠ 81 by decide) h9
        have h29 := r_get_ne e23 (show 84 ≠ 60 by decide) h18
        have h30 := r_get_eq e23 h10
        refine r_iinc rfl rfl (by decide) (by omega) (by omega) (fun z31 z31e => ?_)
        refine v_goto rfl ?_
        exact ih2_12 z31 w22 ys21 hI24 hh25 h26 h27 h28 h30 ys21l (by omega) (by omega) (by
            intro k hk
            by_cases e : k = l3.toInt.toNat
            · rw [e, ys21g, z20g]
            · rw [ys21n k e]
              exact t16 k (by omega)) (by omega)
  exact L12 _ (0 : Int32) w xs2 hI hh hc59 hc80 hc81 h1 xs2l (by omega) (by omega) (by intro k hk; rw [show (0 : Int32).toInt.toNat = 0 from rfl] at hk; omega) (Nat.lt_add_one _)
set_option maxRecDepth 100000 in
theorem W_X12_cross_59_x {sc : pm_S} {w w0 : pm_W} {gi : Nat → Int32} {ga : Nat → List Int32} (a : Int32) (b : Int32) (c59_4 : Int32) (c59_5 : Int32) (c59_6 : Int32) (c59_14 : Int32) (c59_35 : Int32) (c59_39 : Int32) (c59_40 : Int32) (c59_42 : Int32) (c80 : List Int32) (c81 : List Int32) (c84 : List Int32) (p0 : b.toInt ≤ 19) (p1 : 0 ≤ b.toInt) (p2 : a.toInt ≤ 19) (p3 : 0 ≤ a.toInt) (p4 : 0 ≤ c59_4.toInt) (p5 : c59_4.toInt ≤ 1) (p6 : 0 ≤ c59_5.toInt) (p7 : c59_5.toInt ≤ 20) (p8 : 0 ≤ c59_6.toInt) (p9 : c59_6.toInt ≤ 20) (p10 : 0 ≤ c59_35.toInt) (p11 : c59_35.toInt ≤ 20) (p12 : 0 ≤ c59_42.toInt) (p13 : c59_42.toInt ≤ 12) (hc59 : w[59]? = some (.inr (12, [.int (gi 0), .int (gi 1), .ref 60, .int (gi 2), .int c59_4, .int c59_5, .int c59_6, .ref 61, .ref 62, .ref 63, .int (gi 5), .int (gi 3), .int (gi 4), .int (gi 6), .int c59_14, .int (gi 7), .ref 64, .ref 65, .ref 66, .ref 67, .int (gi 8), .ref 68, .ref 69, .ref 70, .ref 71, .ref 72, .ref 73, .ref 74, .ref 75, .ref 76, .ref 77, .ref 78, .ref 79, .ref 80, .ref 81, .int c59_35, .ref 82, .ref 83, .ref 84, .int c59_39, .int c59_40, .ref 85, .int c59_42, .ref 86, .ref 87]))) (hc80 : w[80]? = some (.inl (0, .inl c80))) (hl80 : c80.length = 20) (hr80 : ∀ x ∈ c80, pm_rng x (-1) 19) (hc81 : w[81]? = some (.inl (0, .inl c81))) (hl81 : c81.length = 20) (hr81 : ∀ x ∈ c81, pm_rng x (0) 19) (hc84 : w[84]? = some (.inl (0, .inl c84))) (hl84 : c84.length = 400) (hR : pm_Rg gi ga) (hI : pm_IM gi ga w) (hh : pm_lo w0 w) : pm_Mt sc 1 150 5 [.ref 59, .int a, .int b] w (fun rv w' => rv = none ∧ pm_IM gi ga w' ∧ pm_lo w0 w' ∧ ∃ sh : List Int32, w'[59]? = some (.inr (12, [.int (gi 0), .int (gi 1), .ref 60, .int (gi 2), .int c59_4, .int c59_5, .int c59_6, .ref 61, .ref 62, .ref 63, .int (gi 5), .int (gi 3), .int (gi 4), .int (gi 6), .int c59_14, .int (gi 7), .ref 64, .ref 65, .ref 66, .ref 67, .int (gi 8), .ref 68, .ref 69, .ref 70, .ref 71, .ref 72, .ref 73, .ref 74, .ref 75, .ref 76, .ref 77, .ref 78, .ref 79, .ref 80, .ref 81, .int c59_35, .ref 82, .ref 83, .ref 84, .int c59_39, .int c59_40, .ref 85, .int c59_42, .ref 86, .ref 87])) ∧ w'[80]? = some (.inl (0, .inl c80)) ∧ w'[81]? = some (.inl (0, .inl c81)) ∧ w'[84]? = some (.inl (0, .inl sh)) ∧ sh.length = 400 ∧ ∀ x y, x < (gi 0).toInt.toNat → y < (gi 1).toInt.toNat → sh.getD (20 * y + x) 0 = (if sq_lk c80 x = a.toInt then sq_c (ga 15) (sq_lk c81 b.toInt.toNat).toNat y else if sq_lk c80 x = b.toInt then sq_c (ga 15) (sq_lk c81 a.toInt.toNat).toNat y else c84.getD (20 * y + x) 0)) := by
  intro d hd
  obtain ⟨g0a, g0b⟩ := hR.n0
  obtain ⟨g1a, g1b⟩ := hR.n1
  obtain ⟨g2a, g2b⟩ := hR.n2
  obtain ⟨g3a, g3b⟩ := hR.n3
  obtain ⟨g4a, g4b⟩ := hR.n4
  obtain ⟨g5a, g5b⟩ := hR.n5
  obtain ⟨g6a, g6b⟩ := hR.n6
  obtain ⟨g7a, g7b⟩ := hR.n7
  obtain ⟨g8a, g8b⟩ := hR.n8
  have k0 : (0 : Int32).toInt = 0 := by decide
  have k20 : (20 : Int32).toInt = 20 := by decide
  show pm_V sc d 150 0 [.ref 59, .int a, .int b, .null, .null] [] w _
  refine v_iconst (v := 0) rfl (by decide) ?_
  refine v_istore_n rfl (Nat.le_of_ble_eq_true rfl) ?_
  have L11 : ∀ (n11 : Nat) (l1 : Int32) (u2 : Value) (w3 : pm_W) (xs10 : List Int32), pm_IM gi ga w3 → pm_lo w0 w3 → w3[59]? = some (.inr (12, [.int (gi 0), .int (gi 1), .ref 60, .int (gi 2), .int c59_4, .int c59_5, .int c59_6, .ref 61, .ref 62, .ref 63, .int (gi 5), .int (gi 3), .int (gi 4), .int (gi 6), .int c59_14, .int (gi 7), .ref 64, .ref 65, .ref 66, .ref 67, .int (gi 8), .ref 68, .ref 69, .ref 70, .ref 71, .ref 72, .ref 73, .ref 74, .ref 75, .ref 76, .ref 77, .ref 78, .ref 79, .ref 80, .ref 81, .int c59_35, .ref 82, .ref 83, .ref 84, .int c59_39, .int c59_40, .ref 85, .int c59_42, .ref 86, .ref 87])) → w3[80]? = some (.inl (0, .inl c80)) → w3[81]? = some (.inl (0, .inl c81)) → w3[84]? = some (.inl (0, .inl xs10)) → xs10.length = 400 → 0 ≤ l1.toInt → l1.toInt ≤ 20 → (l1.toInt ≤ (gi 1).toInt) → (∀ x y, x < 20 → y < 20 → xs10.getD (20 * y + x) 0 = (if (0 ≤ y ∧ y < l1.toInt.toNat) ∧ x < (gi 0).toInt.toNat then (if sq_lk c80 x = a.toInt then sq_c (ga 15) (sq_lk c81 b.toInt.toNat).toNat y else if sq_lk c80 x = b.toInt then sq_c (ga 15) (sq_lk c81 a.toInt.toNat).toNat y else c84.getD (20 * y + x) 0) else c84.getD (20 * y + x) 0)) → (20 - l1.toInt).toNat < n11 → pm_V sc d 150 2 [.ref 59, .int a, .int b, .int l1, u2] [] w3 (fun rv w' => rv = none ∧ pm_IM gi ga w' ∧ pm_lo w0 w' ∧ ∃ sh : List Int32, w'[59]? = some (.inr (12, [.int (gi 0), .int (gi 1), .ref 60, .int (gi 2), .int c59_4, .int c59_5, .int c59_6, .ref 61, .ref 62, .ref 63, .int (gi 5), .int (gi 3), .int (gi 4), .int (gi 6), .int c59_14, .int (gi 7), .ref 64, .ref 65, .ref 66, .ref 67, .int (gi 8), .ref 68, .ref 69, .ref 70, .ref 71, .ref 72, .ref 73, .ref 74, .ref 75, .ref 76, .ref 77, .ref 78, .ref 79, .ref 80, .ref 81, .int c59_35, .ref 82, .ref 83, .ref 84, .int c59_39, .int c59_40, .ref 85, .int c59_42, .ref 86, .ref 87])) ∧ w'[80]? = some (.inl (0, .inl c80)) ∧ w'[81]? = some (.inl (0, .inl c81)) ∧ w'[84]? = some (.inl (0, .inl sh)) ∧ sh.length = 400 ∧ ∀ x y, x < (gi 0).toInt.toNat → y < (gi 1).toInt.toNat → sh.getD (20 * y + x) 0 = (if sq_lk c80 x = a.toInt then sq_c (ga 15) (sq_lk c81 b.toInt.toNat).toNat y else if sq_lk c80 x = b.toInt then sq_c (ga 15) (sq_lk c81 a.toInt.toNat).toNat y else c84.getD (20 * y + x) 0)) := by
    intro n11
    induction n11 with
    | zero => intro l1 u2 w3 xs10 hI4 hh5 h6 h7 h8 h9 xs10l t13 t14 t15 t16 hm12; exact absurd hm12 (Nat.not_lt_zero _)
    | succ n11 ih2_11 =>
      intro l1 u2 w3 xs10 hI4 hh5 h6 h7 h8 h9 xs10l t13 t14 t15 t16 hm12
      refine v_iload_n rfl rfl ?_
      refine v_aload_n rfl rfl ?_
      refine v_get rfl h6 rfl ?_
      refine r_icmp_ge rfl (fun t17 => ?_) (fun t17 => ?_)
      · exact v_ret rfl ⟨rfl, hI4, hh5, ⟨xs10, h6, h7, h8, h9, xs10l, fun x y hx hy => by rw [t16 x y (by omega) (by omega)]; rw [if_pos (by omega)]⟩⟩
      · refine v_iconst (v := 0) rfl (by decide) ?_
        refine v_istore rfl (Nat.le_of_ble_eq_true rfl) ?_
        have L27 : ∀ (n27 : Nat) (l18 : Int32) (w19 : pm_W) (xs26 : List Int32), pm_IM gi ga w19 → pm_lo w0 w19 → w19[59]? = some (.inr (12, [.int (gi 0), .int (gi 1), .ref 60, .int (gi 2), .int c59_4, .int c59_5, .int c59_6, .ref 61, .ref 62, .ref 63, .int (gi 5), .int (gi 3), .int (gi 4), .int (gi 6), .int c59_14, .int (gi 7), .ref 64, .ref 65, .ref 66, .ref 67, .int (gi 8), .ref 68, .ref 69, .ref 70, .ref 71, .ref 72, .ref 73, .ref 74, .ref 75, .ref 76, .ref 77, .ref 78, .ref 79, .ref 80, .ref 81, .int c59_35, .ref 82, .ref 83, .ref 84, .int c59_39, .int c59_40, .ref 85, .int c59_42, .ref 86, .ref 87])) → w19[80]? = some (.inl (0, .inl c80)) → w19[81]? = some (.inl (0, .inl c81)) → w19[84]? = some (.inl (0, .inl xs26)) → xs26.length = 400 → 0 ≤ l18.toInt → l18.toInt ≤ 20 → (l18.toInt ≤ (gi 0).toInt) → (∀ x y, x < 20 → y < 20 → xs26.getD (20 * y + x) 0 = (if ((0 ≤ y ∧ y < l1.toInt.toNat) ∧ x < (gi 0).toInt.toNat) ∨ (y = l1.toInt.toNat ∧ x < l18.toInt.toNat) then (if sq_lk c80 x = a.toInt then sq_c (ga 15) (sq_lk c81 b.toInt.toNat).toNat y else if sq_lk c80 x = b.toInt then sq_c (ga 15) (sq_lk c81 a.toInt.toNat).toNat y else c84.getD (20 * y + x) 0) else c84.getD (20 * y + x) 0)) → (20 - l18.toInt).toNat < n27 → pm_V sc d 150 13 [.ref 59, .int a, .int b, .int l1, .int l18] [] w19 (fun rv w' => rv = none ∧ pm_IM gi ga w' ∧ pm_lo w0 w' ∧ ∃ sh : List Int32, w'[59]? = some (.inr (12, [.int (gi 0), .int (gi 1), .ref 60, .int (gi 2), .int c59_4, .int c59_5, .int c59_6, .ref 61, .ref 62, .ref 63, .int (gi 5), .int (gi 3), .int (gi 4), .int (gi 6), .int c59_14, .int (gi 7), .ref 64, .ref 65, .ref 66, .ref 67, .int (gi 8), .ref 68, .ref 69, .ref 70, .ref 71, .ref 72, .ref 73, .ref 74, .ref 75, .ref 76, .ref 77, .ref 78, .ref 79, .ref 80, .ref 81, .int c59_35, .ref 82, .ref 83, .ref 84, .int c59_39, .int c59_40, .ref 85, .int c59_42, .ref 86, .ref 87])) ∧ w'[80]? = some (.inl (0, .inl c80)) ∧ w'[81]? = some (.inl (0, .inl c81)) ∧ w'[84]? = some (.inl (0, .inl sh)) ∧ sh.length = 400 ∧ ∀ x y, x < (gi 0).toInt.toNat → y < (gi 1).toInt.toNat → sh.getD (20 * y + x) 0 = (if sq_lk c80 x = a.toInt then sq_c (ga 15) (sq_lk c81 b.toInt.toNat).toNat y else if sq_lk c80 x = b.toInt then sq_c (ga 15) (sq_lk c81 a.toInt.toNat).toNat y else c84.getD (20 * y + x) 0)) := by
          intro n27
          induction n27 with
          | zero => intro l18 w19 xs26 hI20 hh21 h22 h23 h24 h25 xs26l t29 t30 t31 t32 hm28; exact absurd hm28 (Nat.not_lt_zero _)
          | succ n27 ih13_27 =>
            intro l18 w19 xs26 hI20 hh21 h22 h23 h24 h25 xs26l t29 t30 t31 t32 hm28
            refine v_iload rfl rfl ?_
            refine v_aload_n rfl rfl ?_
            refine v_get rfl h22 rfl ?_
            refine r_icmp_ge rfl (fun t33 => ?_) (fun t33 => ?_)
            · refine r_iinc rfl rfl (by decide) (by omega) (by omega) (fun z34 z34e => ?_)
              refine v_goto rfl ?_
              exact ih2_11 z34 (.int l18) w19 xs26 hI20 hh21 h22 h23 h24 h25 xs26l (by omega) (by omega) (by omega) (by
                  intro x y hx hy
                  rw [t32 x y hx hy]
                  by_cases e : ((0 ≤ y ∧ y < l1.toInt.toNat) ∧ x < (gi 0).toInt.toNat) ∨ (y = l1.toInt.toNat ∧ x < l18.toInt.toNat)
                  · rw [if_pos e, if_pos (by omega)]
                  · rw [if_neg e, if_neg (by omega)]) (by omega)
            · refine v_aload_n rfl rfl ?_
              refine v_get rfl h22 rfl ?_
              refine v_bipush (v := 20) rfl (by decide) ?_
              refine v_iload_n rfl rfl ?_
              refine r_imulL 20 rfl rfl (by omega) (by omega) (fun z35 z35e => ?_)
              refine v_iload rfl rfl ?_
              refine r_iadd rfl (by omega) (by omega) (fun z36 z36e => ?_)
              skip
              refine v_aload_n rfl rfl ?_
              refine v_get rfl h22 rfl ?_
              refine v_iload rfl rfl ?_
              refine r_iaload rfl h23 hl80 (by omega) (by omega) (fun z37 z37m z37g => ?_)
              obtain ⟨z37a, z37b⟩ := hr80 z37 z37m
              have z37h : z37.toInt = sq_lk c80 l18.toInt.toNat := congrArg Int32.toInt z37g
              refine v_iload_n rfl rfl ?_
              refine r_icmp_ne rfl (fun t38 => ?_) (fun t38 => ?_)
              · refine v_aload_n rfl rfl ?_
                refine v_get rfl h22 rfl ?_
                refine v_iload rfl rfl ?_
                refine r_iaload rfl h23 hl80 (by omega) (by omega) (fun z39 z39m z39g => ?_)
                obtain ⟨z39a, z39b⟩ := hr80 z39 z39m
                have z39h : z39.toInt = sq_lk c80 l18.toInt.toNat := congrArg Int32.toInt z39g
                refine v_iload_n rfl rfl ?_
                refine r_icmp_ne rfl (fun t40 => ?_) (fun t40 => ?_)
                · refine v_aload_n rfl rfl ?_
                  refine v_get rfl h22 rfl ?_
                  refine v_bipush (v := 20) rfl (by decide) ?_
                  refine v_iload_n rfl rfl ?_
                  refine r_imulL 20 rfl rfl (by omega) (by omega) (fun z41 z41e => ?_)
                  refine v_iload rfl rfl ?_
                  refine r_iadd rfl (by omega) (by omega) (fun z42 z42e => ?_)
                  refine r_iaload rfl h25 xs26l (by omega) (by omega) (fun z43 z43m z43g => ?_)
                  skip
                  refine r_iastx rfl h25 xs26l (by omega) (by omega) (fun ys44 ys44l ys44m ys44g ys44n => ?_)
                  refine r_gen (w' := w19.set 84 (.inl (0, .inl ys44))) (fun w45 e46 => ?_)
                  have hI47 : pm_IM gi ga w45 := by rw [e46]; exact hI20.set 84 (by decide) (by decide) (by decide) (by decide) ⟨ys44, ys44l, rfl⟩
                  have hh48 : pm_lo w0 w45 := by rw [e46]; exact hh21.set (by decide) _
                  have h49 := r_get_ne e46 (show 84 ≠ 59 by decide) h22
                  have h50 := r_get_ne e46 (show 84 ≠ 80 by decide) h23
                  have h51 := r_get_ne e46 (show 84 ≠ 81 by decide) h24
                  have h52 := r_get_eq e46 h25
                  refine r_iinc rfl rfl (by decide) (by omega) (by omega) (fun z53 z53e => ?_)
                  refine v_goto rfl ?_
                  exact ih13_27 z53 w45 ys44 hI47 hh48 h49 h50 h51 h52 ys44l (by omega) (by omega) (by omega) (by
                      intro x y hx hy
                      have hw : ys44.getD (20 * l1.toInt.toNat + l18.toInt.toNat) 0 = (if sq_lk c80 l18.toInt.toNat = a.toInt then sq_c (ga 15) (sq_lk c81 b.toInt.toNat).toNat l1.toInt.toNat else if sq_lk c80 l18.toInt.toNat = b.toInt then sq_c (ga 15) (sq_lk c81 a.toInt.toNat).toNat l1.toInt.toNat else c84.getD (20 * l1.toInt.toNat + l18.toInt.toNat) 0) := by
                        rw [show 20 * l1.toInt.toNat + l18.toInt.toNat = z36.toInt.toNat by omega, ys44g]
                        first
                        | (rw [if_pos (by omega)]; exact qA)
                        | (rw [if_neg (by omega), if_pos (by omega)]; exact qA)
                        | (rw [if_neg (by omega), if_neg (by omega), z43g, show z42.toInt.toNat = 20 * l1.toInt.toNat + l18.toInt.toNat by omega, t32 _ _ (by omega) (by omega), if_neg (by omega)])
                      by_cases e : 20 * y + x = z36.toInt.toNat
                      · have e1 : y = l1.toInt.toNat := by omega
                        have e2 : x = l18.toInt.toNat := by omega
                        subst e1
                        subst e2
                        rw [if_pos (by omega), hw]
                      · rw [ys44n (20 * y + x) e, t32 x y hx hy]
                        by_cases e1 : ((0 ≤ y ∧ y < l1.toInt.toNat) ∧ x < (gi 0).toInt.toNat) ∨ (y = l1.toInt.toNat ∧ x < l18.toInt.toNat)
                        · rw [if_pos e1, if_pos (by omega)]
                        · rw [if_neg e1, if_neg (by omega)]) (by omega)
                · refine v_aload_n rfl rfl ?_
                  refine v_aload_n rfl rfl ?_
                  refine v_get rfl h22 rfl ?_
                  refine v_iload_n rfl rfl ?_
                  refine r_iaload rfl h24 hl81 (by omega) (by omega) (fun z54 z54m z54g => ?_)
                  obtain ⟨z54a, z54b⟩ := hr81 z54 z54m
                  have z54h : z54.toInt = sq_lk c81 a.toInt.toNat := congrArg Int32.toInt z54g
                  refine v_iload_n rfl rfl ?_
                  obtain ⟨sq56l, sq56r, h55⟩ := hI20.2.1 60 (by decide) (by decide)
                  refine v_callV rfl (W_X12_colour_59_x z54 l1 (ga 15) (by omega) (by omega) (by omega) (by omega) h55 sq56l hR hI20) rfl rfl h22 rfl rfl (by omega) (fun rv w57 hq58 => ?_)
                  obtain ⟨⟨z59, rfl, z59p0⟩, rfl⟩ := hq58
                  have z59A : z59 = sq_c (ga 15) (sq_lk c81 a.toInt.toNat).toNat l1.toInt.toNat := by
                    rw [← z54h]
                    exact i_eq.mpr (by rw [z59p0]; unfold sq_c; rw [show (20 * l1.toInt + z54.toInt).toNat = 20 * l1.toInt.toNat + z54.toInt.toNat by omega])
                  refine v_goto rfl ?_
                  refine r_iastx rfl h25 xs26l (by omega) (by omega) (fun ys60 ys60l ys60m ys60g ys60n => ?_)
                  refine r_gen (w' := w19.set 84 (.inl (0, .inl ys60))) (fun w61 e62 => ?_)
                  have hI63 : pm_IM gi ga w61 := by rw [e62]; exact hI20.set 84 (by decide) (by decide) (by decide) (by decide) ⟨ys60, ys60l, rfl⟩
                  have hh64 : pm_lo w0 w61 := by rw [e62]; exact hh21.set (by decide) _
                  have h65 := r_get_ne e62 (show 84 ≠ 59 by decide) h22
                  have h66 := r_get_ne e62 (show 84 ≠ 80 by decide) h23
                  have h67 := r_get_ne e62 (show 84 ≠ 81 by decide) h24
                  have h68 := r_get_ne e62 (show 84 ≠ 60 by decide) h55
                  have h69 := r_get_eq e62 h25
                  refine r_iinc rfl rfl (by decide) (by omega) (by omega) (fun z70 z70e => ?_)
                  refine v_goto rfl ?_
                  exact ih13_27 z70 w61 ys60 hI63 hh64 h65 h66 h67 h69 ys60l (by omega) (by omega) (by omega) (by
                      intro x y hx hy
                      have hw : ys60.getD (20 * l1.toInt.toNat + l18.toInt.toNat) 0 = (if sq_lk c80 l18.toInt.toNat = a.toInt then sq_c (ga 15) (sq_lk c81 b.toInt.toNat).toNat l1.toInt.toNat else if sq_lk c80 l18.toInt.toNat = b.toInt then sq_c (ga 15) (sq_lk c81 a.toInt.toNat).toNat l1.toInt.toNat else c84.getD (20 * l1.toInt.toNat + l18.toInt.toNat) 0) := by
                        rw [show 20 * l1.toInt.toNat + l18.toInt.toNat = z36.toInt.toNat by omega, ys60g]
                        first
                        | (rw [if_pos (by omega)]; exact z59A)
                        | (rw [if_neg (by omega), if_pos (by omega)]; exact z59A)
                        | (rw [if_neg (by omega), if_neg (by omega), z43g, show z42.toInt.toNat = 20 * l1.toInt.toNat + l18.toInt.toNat by omega, t32 _ _ (by omega) (by omega), if_neg (by omega)])
                      by_cases e : 20 * y + x = z36.toInt.toNat
                      · have e1 : y = l1.toInt.toNat := by omega
                        have e2 : x = l18.toInt.toNat := by omega
                        subst e1
                        subst e2
                        rw [if_pos (by omega), hw]
                      · rw [ys60n (20 * y + x) e, t32 x y hx hy]
                        by_cases e1 : ((0 ≤ y ∧ y < l1.toInt.toNat) ∧ x < (gi 0).toInt.toNat) ∨ (y = l1.toInt.toNat ∧ x < l18.toInt.toNat)
                        · rw [if_pos e1, if_pos (by omega)]
                        · rw [if_neg e1, if_neg (by omega)]) (by omega)
              · refine v_aload_n rfl rfl ?_
                refine v_aload_n rfl rfl ?_
                refine v_get rfl h22 rfl ?_
                refine v_iload_n rfl rfl ?_
                refine r_iaload rfl h24 hl81 (by omega) (by omega) (fun z71 z71m z71g => ?_)
                obtain ⟨z71a, z71b⟩ := hr81 z71 z71m
                have z71h : z71.toInt = sq_lk c81 b.toInt.toNat := congrArg Int32.toInt z71g
                refine v_iload_n rfl rfl ?_
                obtain ⟨sq73l, sq73r, h72⟩ := hI20.2.1 60 (by decide) (by decide)
                refine v_callV rfl (W_X12_colour_59_x z71 l1 (ga 15) (by omega) (by omega) (by omega) (by omega) h72 sq73l hR hI20) rfl rfl h22 rfl rfl (by omega) (fun rv w74 hq75 => ?_)
                obtain ⟨⟨z76, rfl, z76p0⟩, rfl⟩ := hq75
                have z76A : z76 = sq_c (ga 15) (sq_lk c81 b.toInt.toNat).toNat l1.toInt.toNat := by
                  rw [← z71h]
                  exact i_eq.mpr (by rw [z76p0]; unfold sq_c; rw [show (20 * l1.toInt + z71.toInt).toNat = 20 * l1.toInt.toNat + z71.toInt.toNat by omega])
                refine v_goto rfl ?_
                refine r_iastx rfl h25 xs26l (by omega) (by omega) (fun ys77 ys77l ys77m ys77g ys77n => ?_)
                refine r_gen (w' := w19.set 84 (.inl (0, .inl ys77))) (fun w78 e79 => ?_)
                have hI80 : pm_IM gi ga w78 := by rw [e79]; exact hI20.set 84 (by decide) (by decide) (by decide) (by decide) ⟨ys77, ys77l, rfl⟩
                have hh81 : pm_lo w0 w78 := by rw [e79]; exact hh21.set (by decide) _
                have h82 := r_get_ne e79 (show 84 ≠ 59 by decide) h22
                have h83 := r_get_ne e79 (show 84 ≠ 80 by decide) h23
                have h84 := r_get_ne e79 (show 84 ≠ 81 by decide) h24
                have h85 := r_get_ne e79 (show 84 ≠ 60 by decide) h72
                have h86 := r_get_eq e79 h25
                refine r_iinc rfl rfl (by decide) (by omega) (by omega) (fun z87 z87e => ?_)
                refine v_goto rfl ?_
                exact ih13_27 z87 w78 ys77 hI80 hh81 h82 h83 h84 h86 ys77l (by omega) (by omega) (by omega) (by
                    intro x y hx hy
                    have hw : ys77.getD (20 * l1.toInt.toNat + l18.toInt.toNat) 0 = (if sq_lk c80 l18.toInt.toNat = a.toInt then sq_c (ga 15) (sq_lk c81 b.toInt.toNat).toNat l1.toInt.toNat else if sq_lk c80 l18.toInt.toNat = b.toInt then sq_c (ga 15) (sq_lk c81 a.toInt.toNat).toNat l1.toInt.toNat else c84.getD (20 * l1.toInt.toNat + l18.toInt.toNat) 0) := by
                      rw [show 20 * l1.toInt.toNat + l18.toInt.toNat = z36.toInt.toNat by omega, ys77g]
                      first
                      | (rw [if_pos (by omega)]; exact z76A)
                      | (rw [if_neg (by omega), if_pos (by omega)]; exact z76A)
                      | (rw [if_neg (by omega), if_neg (by omega), z43g, show z42.toInt.toNat = 20 * l1.toInt.toNat + l18.toInt.toNat by omega, t32 _ _ (by omega) (by omega), if_neg (by omega)])
                    by_cases e : 20 * y + x = z36.toInt.toNat
                    · have e1 : y = l1.toInt.toNat := by omega
                      have e2 : x = l18.toInt.toNat := by omega
                      subst e1
                      subst e2
                      rw [if_pos (by omega), hw]
                    · rw [ys77n (20 * y + x) e, t32 x y hx hy]
                      by_cases e1 : ((0 ≤ y ∧ y < l1.toInt.toNat) ∧ x < (gi 0).toInt.toNat) ∨ (y = l1.toInt.toNat ∧ x < l18.toInt.toNat)
                      · rw [if_pos e1, if_pos (by omega)]
                      · rw [if_neg e1, if_neg (by omega)]) (by omega)
        exact L27 _ (0 : Int32) w3 xs10 hI4 hh5 h6 h7 h8 h9 xs10l (by omega) (by omega) (by omega) (by
            intro x y hx hy
            rw [t16 x y hx hy]
            by_cases e : (0 ≤ y ∧ y < l1.toInt.toNat) ∧ x < (gi 0).toInt.toNat
            · rw [if_pos e, if_pos (Or.inl e)]
            · rw [if_neg e, if_neg (by rw [show (0 : Int32).toInt.toNat = 0 from rfl]; omega)]) (Nat.lt_add_one _)
  exact L11 _ (0 : Int32) (.null) w c84 hI hh hc59 hc80 hc81 hc84 hl84 (by omega) (by omega) (by omega) (by
      intro x y hx hy
      rw [if_neg (by rw [show (0 : Int32).toInt.toNat = 0 from rfl]; omega)]) (Nat.lt_add_one _)
set_option maxRecDepth 100000 in
theorem W_X12_breakCord_59_x {sc : pm_S} {w w0 : pm_W} {gi : Nat → Int32} {ga : Nat → List Int32} (a : Int32) (c59_4 : Int32) (c59_5 : Int32) (c59_6 : Int32) (c59_14 : Int32) (c59_35 : Int32) (c59_39 : Int32) (c59_40 : Int32) (c59_42 : Int32) (c80 : List Int32) (c81 : List Int32) (c84 : List Int32) (p0 : 0 ≤ c59_4.toInt) (p1 : c59_4.toInt ≤ 1) (p2 : 0 ≤ c59_5.toInt) (p3 : c59_5.toInt ≤ 20) (p4 : 0 ≤ c59_6.toInt) (p5 : c59_6.toInt ≤ 20) (p6 : 0 ≤ c59_35.toInt) (p7 : c59_35.toInt ≤ 20) (p8 : 0 ≤ c59_42.toInt) (p9 : c59_42.toInt ≤ 12) (hc59 : w[59]? = some (.inr (12, [.int (gi 0), .int (gi 1), .ref 60, .int (gi 2), .int c59_4, .int c59_5, .int c59_6, .ref 61, .ref 62, .ref 63, .int (gi 5), .int (gi 3), .int (gi 4), .int (gi 6), .int c59_14, .int (gi 7), .ref 64, .ref 65, .ref 66, .ref 67, .int (gi 8), .ref 68, .ref 69, .ref 70, .ref 71, .ref 72, .ref 73, .ref 74, .ref 75, .ref 76, .ref 77, .ref 78, .ref 79, .ref 80, .ref 81, .int c59_35, .ref 82, .ref 83, .ref 84, .int c59_39, .int c59_40, .ref 85, .int c59_42, .ref 86, .ref 87]))) (hc80 : w[80]? = some (.inl (0, .inl c80))) (hl80 : c80.length = 20) (hr80 : ∀ x ∈ c80, pm_rng x (-1) 19) (hc81 : w[81]? = some (.inl (0, .inl c81))) (hl81 : c81.length = 20) (hr81 : ∀ x ∈ c81, pm_rng x (0) 19) (hc84 : w[84]? = some (.inl (0, .inl c84))) (hl84 : c84.length = 400) (hR : pm_Rg gi ga) (hI : pm_IM gi ga w) (hh : pm_lo w0 w) : pm_Mt sc 0 151 4 [.ref 59, .int a] w (fun rv w' => rv = none ∧ pm_IM gi ga w' ∧ pm_lo w0 w' ∧ ∃ sh : List Int32, w'[59]? = some (.inr (12, [.int (gi 0), .int (gi 1), .ref 60, .int (gi 2), .int c59_4, .int c59_5, .int c59_6, .ref 61, .ref 62, .ref 63, .int (gi 5), .int (gi 3), .int (gi 4), .int (gi 6), .int c59_14, .int (gi 7), .ref 64, .ref 65, .ref 66, .ref 67, .int (gi 8), .ref 68, .ref 69, .ref 70, .ref 71, .ref 72, .ref 73, .ref 74, .ref 75, .ref 76, .ref 77, .ref 78, .ref 79, .ref 80, .ref 81, .int c59_35, .ref 82, .ref 83, .ref 84, .int c59_39, .int c59_40, .ref 85, .int c59_42, .ref 86, .ref 87])) ∧ w'[80]? = some (.inl (0, .inl c80)) ∧ w'[81]? = some (.inl (0, .inl c81)) ∧ w'[84]? = some (.inl (0, .inl sh)) ∧ sh.length = 400 ∧ ∀ x y, x < (gi 0).toInt.toNat → y < (gi 1).toInt.toNat → sh.getD (20 * y + x) 0 = (if sq_lk c80 x = a.toInt then 0 else c84.getD (20 * y + x) 0)) := by
  intro d hd
  obtain ⟨g0a, g0b⟩ := hR.n0
  obtain ⟨g1a, g1b⟩ := hR.n1
  obtain ⟨g2a, g2b⟩ := hR.n2
  obtain ⟨g3a, g3b⟩ := hR.n3
  obtain ⟨g4a, g4b⟩ := hR.n4
  obtain ⟨g5a, g5b⟩ := hR.n5
  obtain ⟨g6a, g6b⟩ := hR.n6
  obtain ⟨g7a, g7b⟩ := hR.n7
  obtain ⟨g8a, g8b⟩ := hR.n8
  have k0 : (0 : Int32).toInt = 0 := by decide
  have k20 : (20 : Int32).toInt = 20 := by decide
  show pm_V sc d 151 0 [.ref 59, .int a, .null, .null] [] w _
  refine v_iconst (v := 0) rfl (by decide) ?_
  refine v_istore_n rfl (Nat.le_of_ble_eq_true rfl) ?_
  have L11 : ∀ (n11 : Nat) (l1 : Int32) (u2 : Value) (w3 : pm_W) (xs10 : List Int32), pm_IM gi ga w3 → pm_lo w0 w3 → w3[59]? = some (.inr (12, [.int (gi 0), .int (gi 1), .ref 60, .int (gi 2), .int c59_4, .int c59_5, .int c59_6, .ref 61, .ref 62, .ref 63, .int (gi 5), .int (gi 3), .int (gi 4), .int (gi 6), .int c59_14, .int (gi 7), .ref 64, .ref 65, .ref 66, .ref 67, .int (gi 8), .ref 68, .ref 69, .ref 70, .ref 71, .ref 72, .ref 73, .ref 74, .ref 75, .ref 76, .ref 77, .ref 78, .ref 79, .ref 80, .ref 81, .int c59_35, .ref 82, .ref 83, .ref 84, .int c59_39, .int c59_40, .ref 85, .int c59_42, .ref 86, .ref 87])) → w3[80]? = some (.inl (0, .inl c80)) → w3[81]? = some (.inl (0, .inl c81)) → w3[84]? = some (.inl (0, .inl xs10)) → xs10.length = 400 → 0 ≤ l1.toInt → l1.toInt ≤ 20 → (l1.toInt ≤ (gi 1).toInt) → (∀ x y, x < 20 → y < 20 → xs10.getD (20 * y + x) 0 = (if (0 ≤ y ∧ y < l1.toInt.toNat) ∧ x < (gi 0).toInt.toNat then (if sq_lk c80 x = a.toInt then 0 else c84.getD (20 * y + x) 0) else c84.getD (20 * y + x) 0)) → (20 - l1.toInt).toNat < n11 → pm_V sc d 151 2 [.ref 59, .int a, .int l1, u2] [] w3 (fun rv w' => rv = none ∧ pm_IM gi ga w' ∧ pm_lo w0 w' ∧ ∃ sh : List Int32, w'[59]? = some (.inr (12, [.int (gi 0), .int (gi 1), .ref 60, .int (gi 2), .int c59_4, .int c59_5, .int c59_6, .ref 61, .ref 62, .ref 63, .int (gi 5), .int (gi 3), .int (gi 4), .int (gi 6), .int c59_14, .int (gi 7), .ref 64, .ref 65, .ref 66, .ref 67, .int (gi 8), .ref 68, .ref 69, .ref 70, .ref 71, .ref 72, .ref 73, .ref 74, .ref 75, .ref 76, .ref 77, .ref 78, .ref 79, .ref 80, .ref 81, .int c59_35, .ref 82, .ref 83, .ref 84, .int c59_39, .int c59_40, .ref 85, .int c59_42, .ref 86, .ref 87])) ∧ w'[80]? = some (.inl (0, .inl c80)) ∧ w'[81]? = some (.inl (0, .inl c81)) ∧ w'[84]? = some (.inl (0, .inl sh)) ∧ sh.length = 400 ∧ ∀ x y, x < (gi 0).toInt.toNat → y < (gi 1).toInt.toNat → sh.getD (20 * y + x) 0 = (if sq_lk c80 x = a.toInt then 0 else c84.getD (20 * y + x) 0)) := by
    intro n11
    induction n11 with
    | zero => intro l1 u2 w3 xs10 hI4 hh5 h6 h7 h8 h9 xs10l t13 t14 t15 t16 hm12; exact absurd hm12 (Nat.not_lt_zero _)
    | succ n11 ih2_11 =>
      intro l1 u2 w3 xs10 hI4 hh5 h6 h7 h8 h9 xs10l t13 t14 t15 t16 hm12
      refine v_iload_n rfl rfl ?_
      refine v_aload_n rfl rfl ?_
      refine v_get rfl h6 rfl ?_
      refine r_icmp_ge rfl (fun t17 => ?_) (fun t17 => ?_)
      · exact v_ret rfl ⟨rfl, hI4, hh5, ⟨xs10, h6, h7, h8, h9, xs10l, fun x y hx hy => by rw [t16 x y (by omega) (by omega)]; rw [if_pos (by omega)]⟩⟩
      · refine v_iconst (v := 0) rfl (by decide) ?_
        refine v_istore_n rfl (Nat.le_of_ble_eq_true rfl) ?_
        have L27 : ∀ (n27 : Nat) (l18 : Int32) (w19 : pm_W) (xs26 : List Int32), pm_IM gi ga w19 → pm_lo w0 w19 → w19[59]? = some (.inr (12, [.int (gi 0), .int (gi 1), .ref 60, .int (gi 2), .int c59_4, .int c59_5, .int c59_6, .ref 61, .ref 62, .ref 63, .int (gi 5), .int (gi 3), .int (gi 4), .int (gi 6), .int c59_14, .int (gi 7), .ref 64, .ref 65, .ref 66, .ref 67, .int (gi 8), .ref 68, .ref 69, .ref 70, .ref 71, .ref 72, .ref 73, .ref 74, .ref 75, .ref 76, .ref 77, .ref 78, .ref 79, .ref 80, .ref 81, .int c59_35, .ref 82, .ref 83, .ref 84, .int c59_39, .int c59_40, .ref 85, .int c59_42, .ref 86, .ref 87])) → w19[80]? = some (.inl (0, .inl c80)) → w19[81]? = some (.inl (0, .inl c81)) → w19[84]? = some (.inl (0, .inl xs26)) → xs26.length = 400 → 0 ≤ l18.toInt → l18.toInt ≤ 20 → (l18.toInt ≤ (gi 0).toInt) → (∀ x y, x < 20 → y < 20 → xs26.getD (20 * y + x) 0 = (if ((0 ≤ y ∧ y < l1.toInt.toNat) ∧ x < (gi 0).toInt.toNat) ∨ (y = l1.toInt.toNat ∧ x < l18.toInt.toNat) then (if sq_lk c80 x = a.toInt then 0 else c84.getD (20 * y + x) 0) else c84.getD (20 * y + x) 0)) → (20 - l18.toInt).toNat < n27 → pm_V sc d 151 12 [.ref 59, .int a, .int l1, .int l18] [] w19 (fun rv w' => rv = none ∧ pm_IM gi ga w' ∧ pm_lo w0 w' ∧ ∃ sh : List Int32, w'[59]? = some (.inr (12, [.int (gi 0), .int (gi 1), .ref 60, .int (gi 2), .int c59_4, .int c59_5, .int c59_6, .ref 61, .ref 62, .ref 63, .int (gi 5), .int (gi 3), .int (gi 4), .int (gi 6), .int c59_14, .int (gi 7), .ref 64, .ref 65, .ref 66, .ref 67, .int (gi 8), .ref 68, .ref 69, .ref 70, .ref 71, .ref 72, .ref 73, .ref 74, .ref 75, .ref 76, .ref 77, .ref 78, .ref 79, .ref 80, .ref 81, .int c59_35, .ref 82, .ref 83, .ref 84, .int c59_39, .int c59_40, .ref 85, .int c59_42, .ref 86, .ref 87])) ∧ w'[80]? = some (.inl (0, .inl c80)) ∧ w'[81]? = some (.inl (0, .inl c81)) ∧ w'[84]? = some (.inl (0, .inl sh)) ∧ sh.length = 400 ∧ ∀ x y, x < (gi 0).toInt.toNat → y < (gi 1).toInt.toNat → sh.getD (20 * y + x) 0 = (if sq_lk c80 x = a.toInt then 0 else c84.getD (20 * y + x) 0)) := by
          intro n27
          induction n27 with
          | zero => intro l18 w19 xs26 hI20 hh21 h22 h23 h24 h25 xs26l t29 t30 t31 t32 hm28; exact absurd hm28 (Nat.not_lt_zero _)
          | succ n27 ih12_27 =>
            intro l18 w19 xs26 hI20 hh21 h22 h23 h24 h25 xs26l t29 t30 t31 t32 hm28
            refine v_iload_n rfl rfl ?_
            refine v_aload_n rfl rfl ?_
            refine v_get rfl h22 rfl ?_
            refine r_icmp_ge rfl (fun t33 => ?_) (fun t33 => ?_)
            · refine r_iinc rfl rfl (by decide) (by omega) (by omega) (fun z34 z34e => ?_)
              refine v_goto rfl ?_
              exact ih2_11 z34 (.int l18) w19 xs26 hI20 hh21 h22 h23 h24 h25 xs26l (by omega) (by omega) (by omega) (by
                  intro x y hx hy
                  rw [t32 x y hx hy]
                  by_cases e : ((0 ≤ y ∧ y < l1.toInt.toNat) ∧ x < (gi 0).toInt.toNat) ∨ (y = l1.toInt.toNat ∧ x < l18.toInt.toNat)
                  · rw [if_pos e, if_pos (by omega)]
                  · rw [if_neg e, if_neg (by omega)]) (by omega)
            · refine v_aload_n rfl rfl ?_
              refine v_get rfl h22 rfl ?_
              refine v_bipush (v := 20) rfl (by decide) ?_
              refine v_iload_n rfl rfl ?_
              refine r_imulL 20 rfl rfl (by omega) (by omega) (fun z35 z35e => ?_)
              refine v_iload_n rfl rfl ?_
              refine r_iadd rfl (by omega) (by omega) (fun z36 z36e => ?_)
              skip
              refine v_aload_n rfl rfl ?_
              refine v_get rfl h22 rfl ?_
              refine v_iload_n rfl rfl ?_
              refine r_iaload rfl h23 hl80 (by omega) (by omega) (fun z37 z37m z37g => ?_)
              obtain ⟨z37a, z37b⟩ := hr80 z37 z37m
              have z37h : z37.toInt = sq_lk c80 l18.toInt.toNat := congrArg Int32.toInt z37g
              refine v_iload_n rfl rfl ?_
              refine r_icmp_ne rfl (fun t38 => ?_) (fun t38 => ?_)
              · refine v_aload_n rfl rfl ?_
                refine v_get rfl h22 rfl ?_
                refine v_bipush (v := 20) rfl (by decide) ?_
                refine v_iload_n rfl rfl ?_
                refine r_imulL 20 rfl rfl (by omega) (by omega) (fun z39 z39e => ?_)
                refine v_iload_n rfl rfl ?_
                refine r_iadd rfl (by omega) (by omega) (fun z40 z40e => ?_)
                refine r_iaload rfl h25 xs26l (by omega) (by omega) (fun z41 z41m z41g => ?_)
                skip
                refine r_iastx rfl h25 xs26l (by omega) (by omega) (fun ys42 ys42l ys42m ys42g ys42n => ?_)
                refine r_gen (w' := w19.set 84 (.inl (0, .inl ys42))) (fun w43 e44 => ?_)
                have hI45 : pm_IM gi ga w43 := by rw [e44]; exact hI20.set 84 (by decide) (by decide) (by decide) (by decide) ⟨ys42, ys42l, rfl⟩
                have hh46 : pm_lo w0 w43 := by rw [e44]; exact hh21.set (by decide) _
                have h47 := r_get_ne e44 (show 84 ≠ 59 by decide) h22
                have h48 := r_get_ne e44 (show 84 ≠ 80 by decide) h23
                have h49 := r_get_ne e44 (show 84 ≠ 81 by decide) h24
                have h50 := r_get_eq e44 h25
                refine r_iinc rfl rfl (by decide) (by omega) (by omega) (fun z51 z51e => ?_)
                refine v_goto rfl ?_
                exact ih12_27 z51 w43 ys42 hI45 hh46 h47 h48 h49 h50 ys42l (by omega) (by omega) (by omega) (by
                    intro x y hx hy
                    have hw : ys42.getD (20 * l1.toInt.toNat + l18.toInt.toNat) 0 = (if sq_lk c80 l18.toInt.toNat = a.toInt then 0 else c84.getD (20 * l1.toInt.toNat + l18.toInt.toNat) 0) := by
                      rw [show 20 * l1.toInt.toNat + l18.toInt.toNat = z36.toInt.toNat by omega, ys42g]
                      first
                      | (rw [if_pos (by omega)]; done)
                      | (rw [if_neg (by omega), z41g, show z40.toInt.toNat = 20 * l1.toInt.toNat + l18.toInt.toNat by omega, t32 _ _ (by omega) (by omega), if_neg (by omega)])
                    by_cases e : 20 * y + x = z36.toInt.toNat
                    · have e1 : y = l1.toInt.toNat := by omega
                      have e2 : x = l18.toInt.toNat := by omega
                      subst e1
                      subst e2
                      rw [if_pos (by omega), hw]
                    · rw [ys42n (20 * y + x) e, t32 x y hx hy]
                      by_cases e1 : ((0 ≤ y ∧ y < l1.toInt.toNat) ∧ x < (gi 0).toInt.toNat) ∨ (y = l1.toInt.toNat ∧ x < l18.toInt.toNat)
                      · rw [if_pos e1, if_pos (by omega)]
                      · rw [if_neg e1, if_neg (by omega)]) (by omega)
              · refine v_iconst (v := 0) rfl (by decide) ?_
                refine v_goto rfl ?_
                refine r_iastx rfl h25 xs26l (by omega) (by omega) (fun ys52 ys52l ys52m ys52g ys52n => ?_)
                refine r_gen (w' := w19.set 84 (.inl (0, .inl ys52))) (fun w53 e54 => ?_)
                have hI55 : pm_IM gi ga w53 := by rw [e54]; exact hI20.set 84 (by decide) (by decide) (by decide) (by decide) ⟨ys52, ys52l, rfl⟩
                have hh56 : pm_lo w0 w53 := by rw [e54]; exact hh21.set (by decide) _
                have h57 := r_get_ne e54 (show 84 ≠ 59 by decide) h22
                have h58 := r_get_ne e54 (show 84 ≠ 80 by decide) h23
                have h59 := r_get_ne e54 (show 84 ≠ 81 by decide) h24
                have h60 := r_get_eq e54 h25
                refine r_iinc rfl rfl (by decide) (by omega) (by omega) (fun z61 z61e => ?_)
                refine v_goto rfl ?_
                exact ih12_27 z61 w53 ys52 hI55 hh56 h57 h58 h59 h60 ys52l (by omega) (by omega) (by omega) (by
                    intro x y hx hy
                    have hw : ys52.getD (20 * l1.toInt.toNat + l18.toInt.toNat) 0 = (if sq_lk c80 l18.toInt.toNat = a.toInt then 0 else c84.getD (20 * l1.toInt.toNat + l18.toInt.toNat) 0) := by
                      rw [show 20 * l1.toInt.toNat + l18.toInt.toNat = z36.toInt.toNat by omega, ys52g]
                      first
                      | (rw [if_pos (by omega)]; done)
                      | (rw [if_neg (by omega), z41g, show z40.toInt.toNat = 20 * l1.toInt.toNat + l18.toInt.toNat by omega, t32 _ _ (by omega) (by omega), if_neg (by omega)])
                    by_cases e : 20 * y + x = z36.toInt.toNat
                    · have e1 : y = l1.toInt.toNat := by omega
                      have e2 : x = l18.toInt.toNat := by omega
                      subst e1
                      subst e2
                      rw [if_pos (by omega), hw]
                    · rw [ys52n (20 * y + x) e, t32 x y hx hy]
                      by_cases e1 : ((0 ≤ y ∧ y < l1.toInt.toNat) ∧ x < (gi 0).toInt.toNat) ∨ (y = l1.toInt.toNat ∧ x < l18.toInt.toNat)
                      · rw [if_pos e1, if_pos (by omega)]
                      · rw [if_neg e1, if_neg (by omega)]) (by omega)
        exact L27 _ (0 : Int32) w3 xs10 hI4 hh5 h6 h7 h8 h9 xs10l (by omega) (by omega) (by omega) (by
            intro x y hx hy
            rw [t16 x y hx hy]
            by_cases e : (0 ≤ y ∧ y < l1.toInt.toNat) ∧ x < (gi 0).toInt.toNat
            · rw [if_pos e, if_pos (Or.inl e)]
            · rw [if_neg e, if_neg (by rw [show (0 : Int32).toInt.toNat = 0 from rfl]; omega)]) (Nat.lt_add_one _)
  exact L11 _ (0 : Int32) (.null) w c84 hI hh hc59 hc80 hc81 hc84 hl84 (by omega) (by omega) (by omega) (by
      intro x y hx hy
      rw [if_neg (by rw [show (0 : Int32).toInt.toNat = 0 from rfl]; omega)]) (Nat.lt_add_one _)
set_option maxRecDepth 100000 in
theorem W_X12_skip_59_x {sc : pm_S} {w w0 : pm_W} {gi : Nat → Int32} {ga : Nat → List Int32} (a : Int32) (c59_4 : Int32) (c59_5 : Int32) (c59_6 : Int32) (c59_14 : Int32) (c59_35 : Int32) (c59_39 : Int32) (c59_40 : Int32) (c59_42 : Int32) (c80 : List Int32) (c81 : List Int32) (c84 : List Int32) (p0 : a.toInt ≤ 19) (p1 : 0 ≤ a.toInt) (p2 : 0 ≤ c59_4.toInt) (p3 : c59_4.toInt ≤ 1) (p4 : 0 ≤ c59_5.toInt) (p5 : c59_5.toInt ≤ 20) (p6 : 0 ≤ c59_6.toInt) (p7 : c59_6.toInt ≤ 20) (p8 : 0 ≤ c59_35.toInt) (p9 : c59_35.toInt ≤ 20) (p10 : 0 ≤ c59_42.toInt) (p11 : c59_42.toInt ≤ 12) (hc59 : w[59]? = some (.inr (12, [.int (gi 0), .int (gi 1), .ref 60, .int (gi 2), .int c59_4, .int c59_5, .int c59_6, .ref 61, .ref 62, .ref 63, .int (gi 5), .int (gi 3), .int (gi 4), .int (gi 6), .int c59_14, .int (gi 7), .ref 64, .ref 65, .ref 66, .ref 67, .int (gi 8), .ref 68, .ref 69, .ref 70, .ref 71, .ref 72, .ref 73, .ref 74, .ref 75, .ref 76, .ref 77, .ref 78, .ref 79, .ref 80, .ref 81, .int c59_35, .ref 82, .ref 83, .ref 84, .int c59_39, .int c59_40, .ref 85, .int c59_42, .ref 86, .ref 87]))) (hc80 : w[80]? = some (.inl (0, .inl c80))) (hl80 : c80.length = 20) (hr80 : ∀ x ∈ c80, pm_rng x (-1) 19) (hc81 : w[81]? = some (.inl (0, .inl c81))) (hl81 : c81.length = 20) (hr81 : ∀ x ∈ c81, pm_rng x (0) 19) (hc84 : w[84]? = some (.inl (0, .inl c84))) (hl84 : c84.length = 400) (hR : pm_Rg gi ga) (hI : pm_IM gi ga w) (hh : pm_lo w0 w) : pm_Mt sc 0 152 4 [.ref 59, .int a] w (fun rv w' => rv = none ∧ pm_IM gi ga w' ∧ pm_lo w0 w' ∧ ∃ sh : List Int32, w'[59]? = some (.inr (12, [.int (gi 0), .int (gi 1), .ref 60, .int (gi 2), .int c59_4, .int c59_5, .int c59_6, .ref 61, .ref 62, .ref 63, .int (gi 5), .int (gi 3), .int (gi 4), .int (gi 6), .int c59_14, .int (gi 7), .ref 64, .ref 65, .ref 66, .ref 67, .int (gi 8), .ref 68, .ref 69, .ref 70, .ref 71, .ref 72, .ref 73, .ref 74, .ref 75, .ref 76, .ref 77, .ref 78, .ref 79, .ref 80, .ref 81, .int c59_35, .ref 82, .ref 83, .ref 84, .int c59_39, .int c59_40, .ref 85, .int c59_42, .ref 86, .ref 87])) ∧ w'[80]? = some (.inl (0, .inl c80)) ∧ w'[81]? = some (.inl (0, .inl c81)) ∧ w'[84]? = some (.inl (0, .inl sh)) ∧ sh.length = 400 ∧ ∀ x y, x < (gi 0).toInt.toNat → y < (gi 1).toInt.toNat → sh.getD (20 * y + x) 0 = (if a.toInt.toNat ≤ y then (if y + 1 < (gi 1).toInt.toNat then c84.getD (20 * (y + 1) + x) 0 else 0) else c84.getD (20 * y + x) 0)) := by
  intro d hd
  obtain ⟨g0a, g0b⟩ := hR.n0
  obtain ⟨g1a, g1b⟩ := hR.n1
  obtain ⟨g2a, g2b⟩ := hR.n2
  obtain ⟨g3a, g3b⟩ := hR.n3
  obtain ⟨g4a, g4b⟩ := hR.n4
  obtain ⟨g5a, g5b⟩ := hR.n5
  obtain ⟨g6a, g6b⟩ := hR.n6
  obtain ⟨g7a, g7b⟩ := hR.n7
  obtain ⟨g8a, g8b⟩ := hR.n8
  have k0 : (0 : Int32).toInt = 0 := by decide
  have k1 : (1 : Int32).toInt = 1 := by decide
  have k20 : (20 : Int32).toInt = 20 := by decide
  show pm_V sc d 152 0 [.ref 59, .int a, .null, .null] [] w _
  refine v_iload_n rfl rfl ?_
  refine v_istore_n rfl (Nat.le_of_ble_eq_true rfl) ?_
  have L11 : ∀ (n11 : Nat) (l1 : Int32) (u2 : Value) (w3 : pm_W) (xs10 : List Int32), pm_IM gi ga w3 → pm_lo w0 w3 → w3[59]? = some (.inr (12, [.int (gi 0), .int (gi 1), .ref 60, .int (gi 2), .int c59_4, .int c59_5, .int c59_6, .ref 61, .ref 62, .ref 63, .int (gi 5), .int (gi 3), .int (gi 4), .int (gi 6), .int c59_14, .int (gi 7), .ref 64, .ref 65, .ref 66, .ref 67, .int (gi 8), .ref 68, .ref 69, .ref 70, .ref 71, .ref 72, .ref 73, .ref 74, .ref 75, .ref 76, .ref 77, .ref 78, .ref 79, .ref 80, .ref 81, .int c59_35, .ref 82, .ref 83, .ref 84, .int c59_39, .int c59_40, .ref 85, .int c59_42, .ref 86, .ref 87])) → w3[80]? = some (.inl (0, .inl c80)) → w3[81]? = some (.inl (0, .inl c81)) → w3[84]? = some (.inl (0, .inl xs10)) → xs10.length = 400 → 0 ≤ l1.toInt → l1.toInt ≤ 20 → (l1.toInt ≤ (gi 1).toInt) → (a.toInt ≤ l1.toInt) → (∀ x y, x < 20 → y < 20 → xs10.getD (20 * y + x) 0 = (if (a.toInt.toNat ≤ y ∧ y < l1.toInt.toNat) ∧ x < (gi 0).toInt.toNat then (if y + 1 < (gi 1).toInt.toNat then c84.getD (20 * (y + 1) + x) 0 else 0) else c84.getD (20 * y + x) 0)) → (20 - l1.toInt).toNat < n11 → pm_V sc d 152 2 [.ref 59, .int a, .int l1, u2] [] w3 (fun rv w' => rv = none ∧ pm_IM gi ga w' ∧ pm_lo w0 w' ∧ ∃ sh : List Int32, w'[59]? = some (.inr (12, [.int (gi 0), .int (gi 1), .ref 60, .int (gi 2), .int c59_4, .int c59_5, .int c59_6, .ref 61, .ref 62, .ref 63, .int (gi 5), .int (gi 3), .int (gi 4), .int (gi 6), .int c59_14, .int (gi 7), .ref 64, .ref 65, .ref 66, .ref 67, .int (gi 8), .ref 68, .ref 69, .ref 70, .ref 71, .ref 72, .ref 73, .ref 74, .ref 75, .ref 76, .ref 77, .ref 78, .ref 79, .ref 80, .ref 81, .int c59_35, .ref 82, .ref 83, .ref 84, .int c59_39, .int c59_40, .ref 85, .int c59_42, .ref 86, .ref 87])) ∧ w'[80]? = some (.inl (0, .inl c80)) ∧ w'[81]? = some (.inl (0, .inl c81)) ∧ w'[84]? = some (.inl (0, .inl sh)) ∧ sh.length = 400 ∧ ∀ x y, x < (gi 0).toInt.toNat → y < (gi 1).toInt.toNat → sh.getD (20 * y + x) 0 = (if a.toInt.toNat ≤ y then (if y + 1 < (gi 1).toInt.toNat then c84.getD (20 * (y + 1) + x) 0 else 0) else c84.getD (20 * y + x) 0)) := by
    intro n11
    induction n11 with
    | zero => intro l1 u2 w3 xs10 hI4 hh5 h6 h7 h8 h9 xs10l t13 t14 t15 t16 t17 hm12; exact absurd hm12 (Nat.not_lt_zero _)
    | succ n11 ih2_11 =>
      intro l1 u2 w3 xs10 hI4 hh5 h6 h7 h8 h9 xs10l t13 t14 t15 t16 t17 hm12
      refine v_iload_n rfl rfl ?_
      refine v_aload_n rfl rfl ?_
      refine v_get rfl h6 rfl ?_
      refine r_icmp_ge rfl (fun t18 => ?_) (fun t18 => ?_)
      · exact v_ret rfl ⟨rfl, hI4, hh5, ⟨xs10, h6, h7, h8, h9, xs10l, fun x y hx hy => by rw [t17 x y (by omega) (by omega)]; by_cases e : a.toInt.toNat ≤ y
        · rw [if_pos (by omega), if_pos e]
        · rw [if_neg (by omega), if_neg e]⟩⟩
      · refine v_iconst (v := 0) rfl (by decide) ?_
        refine v_istore_n rfl (Nat.le_of_ble_eq_true rfl) ?_
        have L28 : ∀ (n28 : Nat) (l19 : Int32) (w20 : pm_W) (xs27 : List Int32), pm_IM gi ga w20 → pm_lo w0 w20 → w20[59]? = some (.inr (12, [.int (gi 0), .int (gi 1), .ref 60, .int (gi 2), .int c59_4, .int c59_5, .int c59_6, .ref 61, .ref 62, .ref 63, .int (gi 5), .int (gi 3), .int (gi 4), .int (gi 6), .int c59_14, .int (gi 7), .ref 64, .ref 65, .ref 66, .ref 67, .int (gi 8), .ref 68, .ref 69, .ref 70, .ref 71, .ref 72, .ref 73, .ref 74, .ref 75, .ref 76, .ref 77, .ref 78, .ref 79, .ref 80, .ref 81, .int c59_35, .ref 82, .ref 83, .ref 84, .int c59_39, .int c59_40, .ref 85, .int c59_42, .ref 86, .ref 87])) → w20[80]? = some (.inl (0, .inl c80)) → w20[81]? = some (.inl (0, .inl c81)) → w20[84]? = some (.inl (0, .inl xs27)) → xs27.length = 400 → 0 ≤ l19.toInt → l19.toInt ≤ 20 → (l19.toInt ≤ (gi 0).toInt) → (∀ x y, x < 20 → y < 20 → xs27.getD (20 * y + x) 0 = (if ((a.toInt.toNat ≤ y ∧ y < l1.toInt.toNat) ∧ x < (gi 0).toInt.toNat) ∨ (y = l1.toInt.toNat ∧ x < l19.toInt.toNat) then (if y + 1 < (gi 1).toInt.toNat then c84.getD (20 * (y + 1) + x) 0 else 0) else c84.getD (20 * y + x) 0)) → (20 - l19.toInt).toNat < n28 → pm_V sc d 152 12 [.ref 59, .int a, .int l1, .int l19] [] w20 (fun rv w' => rv = none ∧ pm_IM gi ga w' ∧ pm_lo w0 w' ∧ ∃ sh : List Int32, w'[59]? = some (.inr (12, [.int (gi 0), .int (gi 1), .ref 60, .int (gi 2), .int c59_4, .int c59_5, .int c59_6, .ref 61, .ref 62, .ref 63, .int (gi 5), .int (gi 3), .int (gi 4), .int (gi 6), .int c59_14, .int (gi 7), .ref 64, .ref 65, .ref 66, .ref 67, .int (gi 8), .ref 68, .ref 69, .ref 70, .ref 71, .ref 72, .ref 73, .ref 74, .ref 75, .ref 76, .ref 77, .ref 78, .ref 79, .ref 80, .ref 81, .int c59_35, .ref 82, .ref 83, .ref 84, .int c59_39, .int c59_40, .ref 85, .int c59_42, .ref 86, .ref 87])) ∧ w'[80]? = some (.inl (0, .inl c80)) ∧ w'[81]? = some (.inl (0, .inl c81)) ∧ w'[84]? = some (.inl (0, .inl sh)) ∧ sh.length = 400 ∧ ∀ x y, x < (gi 0).toInt.toNat → y < (gi 1).toInt.toNat → sh.getD (20 * y + x) 0 = (if a.toInt.toNat ≤ y then (if y + 1 < (gi 1).toInt.toNat then c84.getD (20 * (y + 1) + x) 0 else 0) else c84.getD (20 * y + x) 0)) := by
          intro n28
          induction n28 with
          | zero => intro l19 w20 xs27 hI21 hh22 h23 h24 h25 h26 xs27l t30 t31 t32 t33 hm29; exact absurd hm29 (Nat.not_lt_zero _)
          | succ n28 ih12_28 =>
            intro l19 w20 xs27 hI21 hh22 h23 h24 h25 h26 xs27l t30 t31 t32 t33 hm29
            refine v_iload_n rfl rfl ?_
            refine v_aload_n rfl rfl ?_
            refine v_get rfl h23 rfl ?_
            refine r_icmp_ge rfl (fun t34 => ?_) (fun t34 => ?_)
            · refine r_iinc rfl rfl (by decide) (by omega) (by omega) (fun z35 z35e => ?_)
              refine v_goto rfl ?_
              exact ih2_11 z35 (.int l19) w20 xs27 hI21 hh22 h23 h24 h25 h26 xs27l (by omega) (by omega) (by omega) (by omega) (by
                  intro x y hx hy
                  rw [t33 x y hx hy]
                  by_cases e : ((a.toInt.toNat ≤ y ∧ y < l1.toInt.toNat) ∧ x < (gi 0).toInt.toNat) ∨ (y = l1.toInt.toNat ∧ x < l19.toInt.toNat)
                  · rw [if_pos e, if_pos (by omega)]
                  · rw [if_neg e, if_neg (by omega)]) (by omega)
            · refine v_aload_n rfl rfl ?_
              refine v_get rfl h23 rfl ?_
              refine v_bipush (v := 20) rfl (by decide) ?_
              refine v_iload_n rfl rfl ?_
              refine r_imulL 20 rfl rfl (by omega) (by omega) (fun z36 z36e => ?_)
              refine v_iload_n rfl rfl ?_
              refine r_iadd rfl (by omega) (by omega) (fun z37 z37e => ?_)
              skip
              refine v_iload_n rfl rfl ?_
              refine v_iconst (v := 1) rfl (by decide) ?_
              refine r_iadd rfl (by omega) (by omega) (fun z38 z38e => ?_)
              refine v_aload_n rfl rfl ?_
              refine v_get rfl h23 rfl ?_
              refine r_icmp_ge rfl (fun t39 => ?_) (fun t39 => ?_)
              · refine v_iconst (v := 0) rfl (by decide) ?_
                refine r_iastx rfl h26 xs27l (by omega) (by omega) (fun ys40 ys40l ys40m ys40g ys40n => ?_)
                refine r_gen (w' := w20.set 84 (.inl (0, .inl ys40))) (fun w41 e42 => ?_)
                have hI43 : pm_IM gi ga w41 := by rw [e42]; exact hI21.set 84 (by decide) (by decide) (by decide) (by decide) ⟨ys40, ys40l, rfl⟩
                have hh44 : pm_lo w0 w41 := by rw [e42]; exact hh22.set (by decide) _
                have h45 := r_get_ne e42 (show 84 ≠ 59 by decide) h23
                have h46 := r_get_ne e42 (show 84 ≠ 80 by decide) h24
                have h47 := r_get_ne e42 (show 84 ≠ 81 by decide) h25
                have h48 := r_get_eq e42 h26
                refine r_iinc rfl rfl (by decide) (by omega) (by omega) (fun z49 z49e => ?_)
                refine v_goto rfl ?_
                exact ih12_28 z49 w41 ys40 hI43 hh44 h45 h46 h47 h48 ys40l (by omega) (by omega) (by omega) (by
                    intro x y hx hy
                    have hw : ys40.getD (20 * l1.toInt.toNat + l19.toInt.toNat) 0 = (if l1.toInt.toNat + 1 < (gi 1).toInt.toNat then c84.getD (20 * (l1.toInt.toNat + 1) + l19.toInt.toNat) 0 else 0) := by
                      rw [show 20 * l1.toInt.toNat + l19.toInt.toNat = z37.toInt.toNat by omega, ys40g]
                      first
                      | (rw [if_pos (by omega), qg, show q.toInt.toNat = 20 * (l1.toInt.toNat + 1) + l19.toInt.toNat by omega, t33 _ _ (by omega) (by omega), if_neg (by omega)]; done)
                      | (rw [if_neg (by omega)])
                    by_cases e : 20 * y + x = z37.toInt.toNat
                    · have e1 : y = l1.toInt.toNat := by omega
                      have e2 : x = l19.toInt.toNat := by omega
                      subst e1
                      subst e2
                      rw [if_pos (by omega), hw]
                    · rw [ys40n (20 * y + x) e, t33 x y hx hy]
                      by_cases e1 : ((a.toInt.toNat ≤ y ∧ y < l1.toInt.toNat) ∧ x < (gi 0).toInt.toNat) ∨ (y = l1.toInt.toNat ∧ x < l19.toInt.toNat)
                      · rw [if_pos e1, if_pos (by omega)]
                      · rw [if_neg e1, if_neg (by omega)]) (by omega)
              · refine v_aload_n rfl rfl ?_
                refine v_get rfl h23 rfl ?_
                refine v_bipush (v := 20) rfl (by decide) ?_
                refine v_iload_n rfl rfl ?_
                refine v_iconst (v := 1) rfl (by decide) ?_
                refine r_iadd rfl (by omega) (by omega) (fun z50 z50e => ?_)
                refine r_imulL 20 rfl rfl (by omega) (by omega) (fun z51 z51e => ?_)
                refine v_iload_n rfl rfl ?_
                refine r_iadd rfl (by omega) (by omega) (fun z52 z52e => ?_)
                refine r_iaload rfl h26 xs27l (by omega) (by omega) (fun z53 z53m z53g => ?_)
                skip
                refine v_goto rfl ?_
                refine r_iastx rfl h26 xs27l (by omega) (by omega) (fun ys54 ys54l ys54m ys54g ys54n => ?_)
                refine r_gen (w' := w20.set 84 (.inl (0, .inl ys54))) (fun w55 e56 => ?_)
                have hI57 : pm_IM gi ga w55 := by rw [e56]; exact hI21.set 84 (by decide) (by decide) (by decide) (by decide) ⟨ys54, ys54l, rfl⟩
                have hh58 : pm_lo w0 w55 := by rw [e56]; exact hh22.set (by decide) _
                have h59 := r_get_ne e56 (show 84 ≠ 59 by decide) h23
                have h60 := r_get_ne e56 (show 84 ≠ 80 by decide) h24
                have h61 := r_get_ne e56 (show 84 ≠ 81 by decide) h25
                have h62 := r_get_eq e56 h26
                refine r_iinc rfl rfl (by decide) (by omega) (by omega) (fun z63 z63e => ?_)
                refine v_goto rfl ?_
                exact ih12_28 z63 w55 ys54 hI57 hh58 h59 h60 h61 h62 ys54l (by omega) (by omega) (by omega) (by
                    intro x y hx hy
                    have hw : ys54.getD (20 * l1.toInt.toNat + l19.toInt.toNat) 0 = (if l1.toInt.toNat + 1 < (gi 1).toInt.toNat then c84.getD (20 * (l1.toInt.toNat + 1) + l19.toInt.toNat) 0 else 0) := by
                      rw [show 20 * l1.toInt.toNat + l19.toInt.toNat = z37.toInt.toNat by omega, ys54g]
                      first
                      | (rw [if_pos (by omega), z53g, show z52.toInt.toNat = 20 * (l1.toInt.toNat + 1) + l19.toInt.toNat by omega, t33 _ _ (by omega) (by omega), if_neg (by omega)]; done)
                      | (rw [if_neg (by omega)])
                    by_cases e : 20 * y + x = z37.toInt.toNat
                    · have e1 : y = l1.toInt.toNat := by omega
                      have e2 : x = l19.toInt.toNat := by omega
                      subst e1
                      subst e2
                      rw [if_pos (by omega), hw]
                    · rw [ys54n (20 * y + x) e, t33 x y hx hy]
                      by_cases e1 : ((a.toInt.toNat ≤ y ∧ y < l1.toInt.toNat) ∧ x < (gi 0).toInt.toNat) ∨ (y = l1.toInt.toNat ∧ x < l19.toInt.toNat)
                      · rw [if_pos e1, if_pos (by omega)]
                      · rw [if_neg e1, if_neg (by omega)]) (by omega)
        exact L28 _ (0 : Int32) w3 xs10 hI4 hh5 h6 h7 h8 h9 xs10l (by omega) (by omega) (by omega) (by
            intro x y hx hy
            rw [t17 x y hx hy]
            by_cases e : (a.toInt.toNat ≤ y ∧ y < l1.toInt.toNat) ∧ x < (gi 0).toInt.toNat
            · rw [if_pos e, if_pos (Or.inl e)]
            · rw [if_neg e, if_neg (by rw [show (0 : Int32).toInt.toNat = 0 from rfl]; omega)]) (Nat.lt_add_one _)
  exact L11 _ a (.null) w c84 hI hh hc59 hc80 hc81 hc84 hl84 (by omega) (by omega) (by omega) (by omega) (by
      intro x y hx hy
      rw [if_neg (by omega)]) (Nat.lt_add_one _)
set_option maxRecDepth 100000 in
theorem L_X12_weave {sc : pm_S} {w w0 : pm_W} {gi : Nat → Int32} {ga : Nat → List Int32} {d : Nat}   (hR : pm_Rg gi ga) (hI : pm_IM gi ga w) (hh : pm_lo w0 w) (sh : List Int32) (hc84 : w[84]? = some (.inl (0, .inl sh))) (hl84 : sh.length = 400) (hd : 1 ≤ d) : pm_V sc d 153 146 [.ref 59, .int (0 : Int32), .null, .null] [] w (fun rv w' => ∃ v A, rv = some (.int v) ∧ (∀ x y, x < (gi 0).toInt.toNat → y < (gi 1).toInt.toNat → List.getD A (20 * y + x) 0 = sh.getD (20 * y + x) 0) ∧ v = nI (cd sh (ga 15) (gi 0).toInt.toNat 0 (gi 1).toInt.toNat) ∧ pm_IM gi (pm_uA ga 27 A) w' ∧ pm_lo w0 w') := by
  obtain ⟨g0a, g0b⟩ := hR.n0
  obtain ⟨g1a, g1b⟩ := hR.n1
  obtain ⟨g2a, g2b⟩ := hR.n2
  obtain ⟨g3a, g3b⟩ := hR.n3
  obtain ⟨g4a, g4b⟩ := hR.n4
  obtain ⟨g5a, g5b⟩ := hR.n5
  obtain ⟨g6a, g6b⟩ := hR.n6
  obtain ⟨g7a, g7b⟩ := hR.n7
  obtain ⟨g8a, g8b⟩ := hR.n8
  have k0 : (0 : Int32).toInt = 0 := by decide
  have k1 : (1 : Int32).toInt = 1 := by decide
  have k20 : (20 : Int32).toInt = 20 := by decide
  refine v_iconst (v := 0) rfl (by decide) ?_
  refine v_istore_n rfl (Nat.le_of_ble_eq_true rfl) ?_
  have hI1 : pm_IM gi (pm_uA ga 27 (ga 27)) w := by rw [pm_uA_id]; exact hI
  have L10 : ∀ (n10 : Nat) (l2 : Int32) (l3 : Int32) (u4 : Value) (w5 : pm_W) (cl8 : List Int32), pm_IM gi (pm_uA ga 27 cl8) w5 → pm_lo w0 w5 → w5[84]? = some (.inl (0, .inl sh)) → 0 ≤ l2.toInt → l2.toInt ≤ 400 → 0 ≤ l3.toInt → l3.toInt ≤ 20 → (l3.toInt ≤ (gi 1).toInt) → (l2.toInt ≤ 20 * l3.toInt) → (l2.toInt = (cd sh (ga 15) (gi 0).toInt.toNat 0 l3.toInt.toNat : Int)) → (∀ x y, x < (gi 0).toInt.toNat → y < l3.toInt.toNat → List.getD cl8 (20 * y + x) 0 = sh.getD (20 * y + x) 0) → (20 - l3.toInt).toNat < n10 → pm_V sc d 153 148 [.ref 59, .int l2, .int l3, u4] [] w5 (fun rv w' => ∃ v A, rv = some (.int v) ∧ (∀ x y, x < (gi 0).toInt.toNat → y < (gi 1).toInt.toNat → List.getD A (20 * y + x) 0 = sh.getD (20 * y + x) 0) ∧ v = nI (cd sh (ga 15) (gi 0).toInt.toNat 0 (gi 1).toInt.toNat) ∧ pm_IM gi (pm_uA ga 27 A) w' ∧ pm_lo w0 w') := by
    intro n10
    induction n10 with
    | zero => intro l2 l3 u4 w5 cl8 hI6 hh7 h9 t12 t13 t14 t15 t16 t17 t18 t19 hm11; exact absurd hm11 (Nat.not_lt_zero _)
    | succ n10 ih148_10 =>
      intro l2 l3 u4 w5 cl8 hI6 hh7 h9 t12 t13 t14 t15 t16 t17 t18 t19 hm11
      refine v_iload_n rfl rfl ?_
      refine v_aload_n rfl rfl ?_
      obtain ⟨v21, v22, v23, v24, v25, v26, v27, v28, ⟨v21z, v21e⟩, ⟨⟨v22a, v22b⟩, v22e⟩, ⟨⟨v23a, v23b⟩, v23e⟩, ⟨v25a, v25b⟩, ⟨v28a, v28b⟩, h20⟩ := hI6.2.1 59 (by decide) (by decide)
      have v21z := v21z.imp i_eq.mp i_eq.mp
      rw [i_0, i_1] at v21z
      refine v_get rfl h20 rfl ?_
      refine r_icmp_ge rfl (fun t29 => ?_) (fun t29 => ?_)
      · refine v_iload_n rfl rfl ?_
        exact v_iret rfl ⟨_, cl8, rfl, fun x y hx hy => t19 x y hx (by omega), (by have q := t18; rw [show l3.toInt.toNat = (gi 1).toInt.toNat by omega] at q; exact i_eq.mpr (by rw [nI_toInt (by omega)]; exact q)), hI6, hh7⟩
      · refine v_iconst (v := 0) rfl (by decide) ?_
        refine v_istore_n rfl (Nat.le_of_ble_eq_true rfl) ?_
        have L37 : ∀ (n37 : Nat) (l30 : Int32) (l31 : Int32) (w32 : pm_W) (cl35 : List Int32), pm_IM gi (pm_uA ga 27 cl35) w32 → pm_lo w0 w32 → w32[84]? = some (.inl (0, .inl sh)) → 0 ≤ l30.toInt → l30.toInt ≤ 400 → 0 ≤ l31.toInt → l31.toInt ≤ 20 → (l31.toInt ≤ (gi 0).toInt) → (l30.toInt ≤ 20 * l3.toInt + l31.toInt) → (l30.toInt = ((cd sh (ga 15) (gi 0).toInt.toNat 0 l3.toInt.toNat + cf sh (ga 15) (20 * l3.toInt.toNat) l31.toInt.toNat : Nat) : Int)) → (∀ x y, x < (gi 0).toInt.toNat → (y < l3.toInt.toNat ∨ (y = l3.toInt.toNat ∧ x < l31.toInt.toNat)) → List.getD cl35 (20 * y + x) 0 = sh.getD (20 * y + x) 0) → (20 - l31.toInt).toNat < n37 → pm_V sc d 153 158 [.ref 59, .int l30, .int l3, .int l31] [] w32 (fun rv w' => ∃ v A, rv = some (.int v) ∧ (∀ x y, x < (gi 0).toInt.toNat → y < (gi 1).toInt.toNat → List.getD A (20 * y + x) 0 = sh.getD (20 * y + x) 0) ∧ v = nI (cd sh (ga 15) (gi 0).toInt.toNat 0 (gi 1).toInt.toNat) ∧ pm_IM gi (pm_uA ga 27 A) w' ∧ pm_lo w0 w') := by
          intro n37
          induction n37 with
          | zero => intro l30 l31 w32 cl35 hI33 hh34 h36 t39 t40 t41 t42 t43 t44 t45 t46 hm38; exact absurd hm38 (Nat.not_lt_zero _)
          | succ n37 ih158_37 =>
            intro l30 l31 w32 cl35 hI33 hh34 h36 t39 t40 t41 t42 t43 t44 t45 t46 hm38
            refine v_iload_n rfl rfl ?_
            refine v_aload_n rfl rfl ?_
            obtain ⟨v48, v49, v50, v51, v52, v53, v54, v55, ⟨v48z, v48e⟩, ⟨⟨v49a, v49b⟩, v49e⟩, ⟨⟨v50a, v50b⟩, v50e⟩, ⟨v52a, v52b⟩, ⟨v55a, v55b⟩, h47⟩ := hI33.2.1 59 (by decide) (by decide)
            have v48z := v48z.imp i_eq.mp i_eq.mp
            rw [i_0, i_1] at v48z
            refine v_get rfl h47 rfl ?_
            refine r_icmp_ge rfl (fun t56 => ?_) (fun t56 => ?_)
            · refine r_iinc rfl rfl (by decide) (by omega) (by omega) (fun z57 z57e => ?_)
              refine v_goto rfl ?_
              exact ih148_10 l30 z57 (.int l31) w32 cl35 hI33 hh34 h36 (by omega) (by omega) (by omega) (by omega) (by omega) (by omega) (by
                  rw [show z57.toInt.toNat = l3.toInt.toNat + 1 by omega, cd_last, Nat.zero_add]
                  have q := t45
                  rw [show l31.toInt.toNat = (gi 0).toInt.toNat by omega] at q
                  omega) (by intro x y hx hy; exact t46 x y hx (by omega)) (by omega)
            · refine v_aload_n rfl rfl ?_
              refine v_get rfl h47 rfl ?_
              refine v_bipush (v := 20) rfl (by decide) ?_
              refine v_iload_n rfl rfl ?_
              refine r_imulL 20 rfl rfl (by omega) (by omega) (fun z58 z58e => ?_)
              refine v_iload_n rfl rfl ?_
              refine r_iadd rfl (by omega) (by omega) (fun z59 z59e => ?_)
              refine v_aload_n rfl rfl ?_
              refine v_get rfl h47 rfl ?_
              refine v_bipush (v := 20) rfl (by decide) ?_
              refine v_iload_n rfl rfl ?_
              refine r_imulL 20 rfl rfl (by omega) (by omega) (fun z60 z60e => ?_)
              refine v_iload_n rfl rfl ?_
              refine r_iadd rfl (by omega) (by omega) (fun z61 z61e => ?_)
              refine r_iaload rfl h36 hl84 (by omega) (by omega) (fun z62 z62m z62g => ?_)
              skip
              obtain ⟨xs64, xs64l, xs64e, h63⟩ := hI33.2.1 61 (by decide) (by decide)
              have xs64e : xs64 = cl35 := xs64e
              subst xs64e
              refine r_iastx rfl h63 xs64l (by omega) (by omega) (fun ys65 ys65l ys65m ys65g ys65n => ?_)
              refine r_gen (fun w66 e67 => ?_)
              have hI68 : pm_IM gi (pm_uA ga 27 ys65) w66 := by
                rw [e67]
                have q := hI33.uA 61 27 (by decide) (by decide) (by decide) (by decide) (by decide) (v := ys65) (c := .inl (0, .inl ys65)) ⟨_, ys65l, pm_uA_self.symm, rfl⟩
                rw [pm_uA_uA] at q
                exact q
              have hh69 : pm_lo w0 w66 := by rw [e67]; exact hh34.set (by decide) _
              have h70 := r_get_ne e67 (show 61 ≠ 84 by decide) h36
              have h71 := r_get_ne e67 (show 61 ≠ 59 by decide) h47
              refine v_iload_n rfl rfl ?_
              refine v_aload_n rfl rfl ?_
              refine v_get rfl h71 rfl ?_
              refine v_bipush (v := 20) rfl (by decide) ?_
              refine v_iload_n rfl rfl ?_
              refine r_imulL 20 rfl rfl (by omega) (by omega) (fun z72 z72e => ?_)
              refine v_iload_n rfl rfl ?_
              refine r_iadd rfl (by omega) (by omega) (fun z73 z73e => ?_)
              refine r_iaload rfl h70 hl84 (by omega) (by omega) (fun z74 z74m z74g => ?_)
              have z74h : z74 = sh.getD (20 * l3.toInt.toNat + l31.toInt.toNat) 0 := by rw [z74g, show z73.toInt.toNat = 20 * l3.toInt.toNat + l31.toInt.toNat by omega]
              refine v_aload_n rfl rfl ?_
              refine v_iload_n rfl rfl ?_
              refine v_iload_n rfl rfl ?_
              obtain ⟨sq76l, sq76r, h75⟩ := hI68.2.1 60 (by decide) (by decide)
              refine v_callV rfl (W_X12_colour_59_x l31 l3 (ga 15) (by omega) (by omega) (by omega) (by omega) h75 sq76l (show pm_Rg gi (pm_uA ga 27 ys65) from hR) hI68) rfl rfl h71 rfl rfl (by omega) (fun rv w77 hq78 => ?_)
              obtain ⟨⟨z79, rfl, z79p0⟩, rfl⟩ := hq78
              have z79h : z79 = (ga 15).getD (20 * l3.toInt.toNat + l31.toInt.toNat) 0 := i_eq.mpr (by rw [z79p0, show (20 * l3.toInt + l31.toInt).toNat = 20 * l3.toInt.toNat + l31.toInt.toNat by omega])
              refine r_icmp_ne rfl (fun t80 => ?_) (fun t80 => ?_)
              · refine v_iconst (v := 1) rfl (by decide) ?_
                refine r_iadd rfl (by omega) (by omega) (fun z81 z81e => ?_)
                refine v_istore_n rfl (Nat.le_of_ble_eq_true rfl) ?_
                refine r_iinc rfl rfl (by decide) (by omega) (by omega) (fun z82 z82e => ?_)
                refine v_goto rfl ?_
                exact ih158_37 z81 z82 w66 ys65 hI68 hh69 h70 (by omega) (by omega) (by omega) (by omega) (by omega) (by omega) (by
                    rw [show z82.toInt.toNat = l31.toInt.toNat + 1 by omega, cf_last]
                    first
                    | (rw [if_pos (show sh.getD (20 * l3.toInt.toNat + l31.toInt.toNat) 0 = (ga 15).getD (20 * l3.toInt.toNat + l31.toInt.toNat) 0 by rw [← z74h, ← z79h]; exact i_eq.mpr (by omega))]; omega)
                    | (rw [if_neg (show ¬ sh.getD (20 * l3.toInt.toNat + l31.toInt.toNat) 0 = (ga 15).getD (20 * l3.toInt.toNat + l31.toInt.toNat) 0 by rw [← z74h, ← z79h]; exact fun q => by have q2 := congrArg Int32.toInt q; omega)]; omega)) (by
                    intro x y hx hy
                    by_cases e : 20 * y + x = z59.toInt.toNat
                    · rw [e, ys65g, z62g, show z61.toInt.toNat = z59.toInt.toNat by omega]
                    · rw [ys65n (20 * y + x) e]
                      exact t46 x y hx (by omega)) (by omega)
              · refine v_iconst (v := 0) rfl (by decide) ?_
                refine v_goto rfl ?_
                refine r_iadd rfl (by omega) (by omega) (fun z83 z83e => ?_)
                refine v_istore_n rfl (Nat.le_of_ble_eq_true rfl) ?_
                refine r_iinc rfl rfl (by decide) (by omega) (by omega) (fun z84 z84e => ?_)
                refine v_goto rfl ?_
                exact ih158_37 z83 z84 w66 ys65 hI68 hh69 h70 (by omega) (by omega) (by omega) (by omega) (by omega) (by omega) (by
                    rw [show z84.toInt.toNat = l31.toInt.toNat + 1 by omega, cf_last]
                    first
                    | (rw [if_pos (show sh.getD (20 * l3.toInt.toNat + l31.toInt.toNat) 0 = (ga 15).getD (20 * l3.toInt.toNat + l31.toInt.toNat) 0 by rw [← z74h, ← z79h]; exact i_eq.mpr (by omega))]; omega)
                    | (rw [if_neg (show ¬ sh.getD (20 * l3.toInt.toNat + l31.toInt.toNat) 0 = (ga 15).getD (20 * l3.toInt.toNat + l31.toInt.toNat) 0 by rw [← z74h, ← z79h]; exact fun q => by have q2 := congrArg Int32.toInt q; omega)]; omega)) (by
                    intro x y hx hy
                    by_cases e : 20 * y + x = z59.toInt.toNat
                    · rw [e, ys65g, z62g, show z61.toInt.toNat = z59.toInt.toNat by omega]
                    · rw [ys65n (20 * y + x) e]
                      exact t46 x y hx (by omega)) (by omega)
        exact L37 _ l2 (0 : Int32) w5 cl8 hI6 hh7 h9 (by omega) (by omega) (by omega) (by omega) (by omega) (by omega) (by
            rw [show (0 : Int32).toInt.toNat = 0 from rfl]
            have q := t18
            show _ = ((cd sh (ga 15) (gi 0).toInt.toNat 0 l3.toInt.toNat + 0 : Nat) : Int)
            omega) (by intro x y hx hy; exact t19 x y hx (by rw [show (0 : Int32).toInt.toNat = 0 from rfl] at hy; omega)) (Nat.lt_add_one _)
  exact L10 _ (0 : Int32) (0 : Int32) (.null) w (ga 27) hI1 hh hc84 (by omega) (by omega) (by omega) (by omega) (by omega) (by omega) (by rfl) (by intro x y hx hy; rw [show (0 : Int32).toInt.toNat = 0 from rfl] at hy; omega) (Nat.lt_add_one _)
set_option maxRecDepth 100000 in
theorem W_X12_weave_59_x {sc : pm_S} {w w0 : pm_W} {gi : Nat → Int32} {ga : Nat → List Int32}   (hR : pm_Rg gi ga) (hI : pm_IM gi ga w) (hh : pm_lo w0 w) : pm_Mt sc 3 153 4 [.ref 59] w (fun rv w' => ∃ v sh A fs os m, rv = some (.int v) ∧ sq_ck gi ga fs os m.toInt.toNat ∧ 0 ≤ m.toInt ∧ (∀ x y, x < (gi 0).toInt.toNat → y < (gi 1).toInt.toNat → List.getD sh (20 * y + x) 0 = wm3 (ga 15) (ga 25) (ga 26) fs os m.toInt (gi 1).toInt.toNat x y) ∧ (∀ x y, x < (gi 0).toInt.toNat → y < (gi 1).toInt.toNat → List.getD A (20 * y + x) 0 = sh.getD (20 * y + x) 0) ∧ v = nI (cd sh (ga 15) (gi 0).toInt.toNat 0 (gi 1).toInt.toNat) ∧ pm_IM (pm_uI (pm_uI (pm_uI gi 9 1) 12 (gi 0)) 13 (gi 1)) (pm_uA ga 27 A) w' ∧ pm_lo w0 w') := by
  intro d hd
  obtain ⟨g0a, g0b⟩ := hR.n0
  obtain ⟨g1a, g1b⟩ := hR.n1
  obtain ⟨g2a, g2b⟩ := hR.n2
  obtain ⟨g3a, g3b⟩ := hR.n3
  obtain ⟨g4a, g4b⟩ := hR.n4
  obtain ⟨g5a, g5b⟩ := hR.n5
  obtain ⟨g6a, g6b⟩ := hR.n6
  obtain ⟨g7a, g7b⟩ := hR.n7
  obtain ⟨g8a, g8b⟩ := hR.n8
  have k0 : (0 : Int32).toInt = 0 := by decide
  have k1 : (1 : Int32).toInt = 1 := by decide
  have k2 : (2 : Int32).toInt = 2 := by decide
  have k3 : (3 : Int32).toInt = 3 := by decide
  show pm_V sc d 153 0 [.ref 59, .null, .null, .null] [] w _
  refine v_aload_n rfl rfl ?_
  obtain ⟨v2, v3, v4, v5, v6, v7, v8, v9, ⟨v2z, v2e⟩, ⟨⟨v3a, v3b⟩, v3e⟩, ⟨⟨v4a, v4b⟩, v4e⟩, ⟨v6a, v6b⟩, ⟨v9a, v9b⟩, h1⟩ := hI.2.1 59 (by decide) (by decide)
  have v2z := v2z.imp i_eq.mp i_eq.mp
  rw [i_0, i_1] at v2z
  refine v_callV rfl (W_X12_findCords_59_x  hR hI hh) rfl rfl h1 rfl rfl (by omega) (fun rv w10 hq11 => ?_)
  obtain ⟨rfl, hI13, hh14, ⟨v15, v16, v17, v18, v19, v20, v21, v22, fs23, os24, h25, h26, h27, fs23l, os24l, fs23r, os24r, v19a, v19b, t28, t29, v15e, t30, t31, v16e, t32, t33, v17e, t34, t35, v19k⟩⟩ := hq11
  refine v_aload_n rfl rfl ?_
  refine v_callV rfl (W_X12_showPlain_59_x v15 v16 v17 v18 v19 v20 v21 v22 os24 fs23 (by omega) (by omega) (by omega) (by omega) (by omega) (by omega) (by omega) (by omega) (by omega) (by omega) h25 h27 os24l os24r h26 fs23l fs23r hR hI13 hh14) rfl rfl h25 rfl rfl (by omega) (fun rv w36 hq37 => ?_)
  obtain ⟨rfl, hI39, hh40, ⟨sh41, h42, h43, h44, h45, sh41l, sh41f⟩⟩ := hq37
  skip
  have K54 : ∀ (w46 : pm_W) (xs53 : List Int32), pm_IM gi ga w46 → pm_lo w0 w46 → w46[59]? = some (.inr (12, [.int (gi 0), .int (gi 1), .ref 60, .int (gi 2), .int v15, .int v16, .int v17, .ref 61, .ref 62, .ref 63, .int (gi 5), .int (gi 3), .int (gi 4), .int (gi 6), .int v18, .int (gi 7), .ref 64, .ref 65, .ref 66, .ref 67, .int (gi 8), .ref 68, .ref 69, .ref 70, .ref 71, .ref 72, .ref 73, .ref 74, .ref 75, .ref 76, .ref 77, .ref 78, .ref 79, .ref 80, .ref 81, .int v19, .ref 82, .ref 83, .ref 84, .int v20, .int v21, .ref 85, .int v22, .ref 86, .ref 87])) → w46[80]? = some (.inl (0, .inl os24)) → w46[81]? = some (.inl (0, .inl fs23)) → w46[84]? = some (.inl (0, .inl xs53)) → xs53.length = 400 → (∀ x y, x < (gi 0).toInt.toNat → y < (gi 1).toInt.toNat → xs53.getD (20 * y + x) 0 = wm1 (ga 15) (ga 25) (ga 26) fs23 os24 v19.toInt x y) → pm_V sc d 153 59 [.ref 59, .null, .null, .null] [] w46 (fun rv w' => ∃ v sh A fs os m, rv = some (.int v) ∧ sq_ck gi ga fs os m.toInt.toNat ∧ 0 ≤ m.toInt ∧ (∀ x y, x < (gi 0).toInt.toNat → y < (gi 1).toInt.toNat → List.getD sh (20 * y + x) 0 = wm3 (ga 15) (ga 25) (ga 26) fs os m.toInt (gi 1).toInt.toNat x y) ∧ (∀ x y, x < (gi 0).toInt.toNat → y < (gi 1).toInt.toNat → List.getD A (20 * y + x) 0 = sh.getD (20 * y + x) 0) ∧ v = nI (cd sh (ga 15) (gi 0).toInt.toNat 0 (gi 1).toInt.toNat) ∧ pm_IM (pm_uI (pm_uI (pm_uI gi 9 1) 12 (gi 0)) 13 (gi 1)) (pm_uA ga 27 A) w' ∧ pm_lo w0 w') := by
    intro w46 xs53 hI47 hh48 h49 h50 h51 h52 xs53l t55
    have K64 : ∀ (w56 : pm_W) (xs63 : List Int32), pm_IM gi ga w56 → pm_lo w0 w56 → w56[59]? = some (.inr (12, [.int (gi 0), .int (gi 1), .ref 60, .int (gi 2), .int v15, .int v16, .int v17, .ref 61, .ref 62, .ref 63, .int (gi 5), .int (gi 3), .int (gi 4), .int (gi 6), .int v18, .int (gi 7), .ref 64, .ref 65, .ref 66, .ref 67, .int (gi 8), .ref 68, .ref 69, .ref 70, .ref 71, .ref 72, .ref 73, .ref 74, .ref 75, .ref 76, .ref 77, .ref 78, .ref 79, .ref 80, .ref 81, .int v19, .ref 82, .ref 83, .ref 84, .int v20, .int v21, .ref 85, .int v22, .ref 86, .ref 87])) → w56[80]? = some (.inl (0, .inl os24)) → w56[81]? = some (.inl (0, .inl fs23)) → w56[84]? = some (.inl (0, .inl xs63)) → xs63.length = 400 → (∀ x y, x < (gi 0).toInt.toNat → y < (gi 1).toInt.toNat → xs63.getD (20 * y + x) 0 = wm2 (ga 15) (ga 25) (ga 26) fs23 os24 v19.toInt x y) → pm_V sc d 153 91 [.ref 59, .null, .null, .null] [] w56 (fun rv w' => ∃ v sh A fs os m, rv = some (.int v) ∧ sq_ck gi ga fs os m.toInt.toNat ∧ 0 ≤ m.toInt ∧ (∀ x y, x < (gi 0).toInt.toNat → y < (gi 1).toInt.toNat → List.getD sh (20 * y + x) 0 = wm3 (ga 15) (ga 25) (ga 26) fs os m.toInt (gi 1).toInt.toNat x y) ∧ (∀ x y, x < (gi 0).toInt.toNat → y < (gi 1).toInt.toNat → List.getD A (20 * y + x) 0 = sh.getD (20 * y + x) 0) ∧ v = nI (cd sh (ga 15) (gi 0).toInt.toNat 0 (gi 1).toInt.toNat) ∧ pm_IM (pm_uI (pm_uI (pm_uI gi 9 1) 12 (gi 0)) 13 (gi 1)) (pm_uA ga 27 A) w' ∧ pm_lo w0 w') := by
      intro w56 xs63 hI57 hh58 h59 h60 h61 h62 xs63l t65
      have K74 : ∀ (w66 : pm_W) (xs73 : List Int32), pm_IM gi ga w66 → pm_lo w0 w66 → w66[59]? = some (.inr (12, [.int (gi 0), .int (gi 1), .ref 60, .int (gi 2), .int v15, .int v16, .int v17, .ref 61, .ref 62, .ref 63, .int (gi 5), .int (gi 3), .int (gi 4), .int (gi 6), .int v18, .int (gi 7), .ref 64, .ref 65, .ref 66, .ref 67, .int (gi 8), .ref 68, .ref 69, .ref 70, .ref 71, .ref 72, .ref 73, .ref 74, .ref 75, .ref 76, .ref 77, .ref 78, .ref 79, .ref 80, .ref 81, .int v19, .ref 82, .ref 83, .ref 84, .int v20, .int v21, .ref 85, .int v22, .ref 86, .ref 87])) → w66[80]? = some (.inl (0, .inl os24)) → w66[81]? = some (.inl (0, .inl fs23)) → w66[84]? = some (.inl (0, .inl xs73)) → xs73.length = 400 → (∀ x y, x < (gi 0).toInt.toNat → y < (gi 1).toInt.toNat → xs73.getD (20 * y + x) 0 = wm3 (ga 15) (ga 25) (ga 26) fs23 os24 v19.toInt (gi 1).toInt.toNat x y) → pm_V sc d 153 123 [.ref 59, .null, .null, .null] [] w66 (fun rv w' => ∃ v sh A fs os m, rv = some (.int v) ∧ sq_ck gi ga fs os m.toInt.toNat ∧ 0 ≤ m.toInt ∧ (∀ x y, x < (gi 0).toInt.toNat → y < (gi 1).toInt.toNat → List.getD sh (20 * y + x) 0 = wm3 (ga 15) (ga 25) (ga 26) fs os m.toInt (gi 1).toInt.toNat x y) ∧ (∀ x y, x < (gi 0).toInt.toNat → y < (gi 1).toInt.toNat → List.getD A (20 * y + x) 0 = sh.getD (20 * y + x) 0) ∧ v = nI (cd sh (ga 15) (gi 0).toInt.toNat 0 (gi 1).toInt.toNat) ∧ pm_IM (pm_uI (pm_uI (pm_uI gi 9 1) 12 (gi 0)) 13 (gi 1)) (pm_uA ga 27 A) w' ∧ pm_lo w0 w') := by
        intro w66 xs73 hI67 hh68 h69 h70 h71 h72 xs73l t75
        refine v_iconst (v := 0) rfl (by decide) ?_
        refine v_istore_n rfl (Nat.le_of_ble_eq_true rfl) ?_
        refine v_aload_n rfl rfl ?_
        refine v_iconst (v := 1) rfl (by decide) ?_
        refine v_put rfl h69 (r_okZ (by omega)) (Nat.le_of_ble_eq_true rfl) ?_
        refine r_gen (w' := w66.set 59 (.inr (12, [.int (gi 0), .int (gi 1), .ref 60, .int (gi 2), .int (1 : Int32), .int v16, .int v17, .ref 61, .ref 62, .ref 63, .int (gi 5), .int (gi 3), .int (gi 4), .int (gi 6), .int v18, .int (gi 7), .ref 64, .ref 65, .ref 66, .ref 67, .int (gi 8), .ref 68, .ref 69, .ref 70, .ref 71, .ref 72, .ref 73, .ref 74, .ref 75, .ref 76, .ref 77, .ref 78, .ref 79, .ref 80, .ref 81, .int v19, .ref 82, .ref 83, .ref 84, .int v20, .int v21, .ref 85, .int v22, .ref 86, .ref 87]))) (fun w76 e77 => ?_)
        have hI78 : pm_IM (pm_uI gi 9 (1 : Int32)) ga w76 := by rw [e77]; exact hI67.uI 59 9 (by decide) (by decide) (by decide) (by decide) (by decide) ⟨(1 : Int32), v16, v17, v18, v19, v20, v21, v22, ⟨((show (1 : Int32).toInt = 0 ∨ (1 : Int32).toInt = 1 by omega).imp i_eq.mpr i_eq.mpr), rfl⟩, ⟨⟨by omega, by omega⟩, v16e⟩, ⟨⟨by omega, by omega⟩, v17e⟩, ⟨by omega, by omega⟩, ⟨by omega, by omega⟩, rfl⟩
        have hh79 : pm_lo w0 w76 := by rw [e77]; exact hh68.set (by decide) _
        have h80 := r_get_ne e77 (show 59 ≠ 80 by decide) h70
        have h81 := r_get_ne e77 (show 59 ≠ 81 by decide) h71
        have h82 := r_get_ne e77 (show 59 ≠ 84 by decide) h72
        have h83 := r_get_eq e77 h69
        refine v_aload_n rfl rfl ?_
        refine v_aload_n rfl rfl ?_
        refine v_get rfl h83 rfl ?_
        refine v_put rfl h83 rfl (Nat.le_of_ble_eq_true rfl) ?_
        refine r_gen (w' := w76.set 59 (.inr (12, [.int (gi 0), .int (gi 1), .ref 60, .int (gi 2), .int (1 : Int32), .int (gi 0), .int v17, .ref 61, .ref 62, .ref 63, .int (gi 5), .int (gi 3), .int (gi 4), .int (gi 6), .int v18, .int (gi 7), .ref 64, .ref 65, .ref 66, .ref 67, .int (gi 8), .ref 68, .ref 69, .ref 70, .ref 71, .ref 72, .ref 73, .ref 74, .ref 75, .ref 76, .ref 77, .ref 78, .ref 79, .ref 80, .ref 81, .int v19, .ref 82, .ref 83, .ref 84, .int v20, .int v21, .ref 85, .int v22, .ref 86, .ref 87]))) (fun w84 e85 => ?_)
        have hI86 : pm_IM (pm_uI (pm_uI gi 9 (1 : Int32)) 12 (gi 0)) ga w84 := by rw [e85]; exact hI78.uI 59 12 (by decide) (by decide) (by decide) (by decide) (by decide) ⟨(1 : Int32), (gi 0), v17, v18, v19, v20, v21, v22, ⟨((show (1 : Int32).toInt = 0 ∨ (1 : Int32).toInt = 1 by omega).imp i_eq.mpr i_eq.mpr), rfl⟩, ⟨⟨by omega, by omega⟩, rfl⟩, ⟨⟨by omega, by omega⟩, v17e⟩, ⟨by omega, by omega⟩, ⟨by omega, by omega⟩, rfl⟩
        have hh87 : pm_lo w0 w84 := by rw [e85]; exact hh79.set (by decide) _
        have h88 := r_get_ne e85 (show 59 ≠ 80 by decide) h80
        have h89 := r_get_ne e85 (show 59 ≠ 81 by decide) h81
        have h90 := r_get_ne e85 (show 59 ≠ 84 by decide) h82
        have h91 := r_get_eq e85 h83
        have hfe5 := (rfl : (gi 0) = (gi 0))
        refine v_aload_n rfl rfl ?_
        refine v_aload_n rfl rfl ?_
        refine v_get rfl h91 rfl ?_
        refine v_put rfl h91 rfl (Nat.le_of_ble_eq_true rfl) ?_
        refine r_gen (w' := w84.set 59 (.inr (12, [.int (gi 0), .int (gi 1), .ref 60, .int (gi 2), .int (1 : Int32), .int (gi 0), .int (gi 1), .ref 61, .ref 62, .ref 63, .int (gi 5), .int (gi 3), .int (gi 4), .int (gi 6), .int v18, .int (gi 7), .ref 64, .ref 65, .ref 66, .ref 67, .int (gi 8), .ref 68, .ref 69, .ref 70, .ref 71, .ref 72, .ref 73, .ref 74, .ref 75, .ref 76, .ref 77, .ref 78, .ref 79, .ref 80, .ref 81, .int v19, .ref 82, .ref 83, .ref 84, .int v20, .int v21, .ref 85, .int v22, .ref 86, .ref 87]))) (fun w92 e93 => ?_)
        have hI94 : pm_IM (pm_uI (pm_uI (pm_uI gi 9 (1 : Int32)) 12 (gi 0)) 13 (gi 1)) ga w92 := by rw [e93]; exact hI86.uI 59 13 (by decide) (by decide) (by decide) (by decide) (by decide) ⟨(1 : Int32), (gi 0), (gi 1), v18, v19, v20, v21, v22, ⟨((show (1 : Int32).toInt = 0 ∨ (1 : Int32).toInt = 1 by omega).imp i_eq.mpr i_eq.mpr), rfl⟩, ⟨⟨by omega, by omega⟩, rfl⟩, ⟨⟨by omega, by omega⟩, rfl⟩, ⟨by omega, by omega⟩, ⟨by omega, by omega⟩, rfl⟩
        have hh95 : pm_lo w0 w92 := by rw [e93]; exact hh87.set (by decide) _
        have h96 := r_get_ne e93 (show 59 ≠ 80 by decide) h88
        have h97 := r_get_ne e93 (show 59 ≠ 81 by decide) h89
        have h98 := r_get_ne e93 (show 59 ≠ 84 by decide) h90
        have h99 := r_get_eq e93 h91
        have hfe6 := (rfl : (gi 1) = (gi 1))
        refine v_weak (L_X12_weave (w0 := w0) (gi := (pm_uI (pm_uI (pm_uI gi 9 (1 : Int32)) 12 (gi 0)) 13 (gi 1))) (ga := ga) (show pm_Rg _ _ from hR) hI94 hh95 xs73 h98 xs73l (by omega)) (fun rv w9 hq9 => ?_)
        obtain ⟨v, A, q0, q1, q2, q3, q4⟩ := hq9
        exact ⟨v, xs73, A, fs23, os24, v19, q0, v19k, by omega, t75, q1, q2, q3, q4⟩
      refine v_aload_n rfl rfl ?_
      refine v_get rfl h59 rfl ?_
      refine v_iconst (v := 2) rfl (by decide) ?_
      obtain ⟨h100A, h100B, h100C, h100D, h100F⟩ := hI57.flt
      have h100A : w56[62]? = some (.inl (0, .inl (ga 25))) := h100A
      have h100C : List.length (ga 25) = 4 := h100C
      have h100B : w56[63]? = some (.inl (0, .inl (ga 26))) := h100B
      have h100D : List.length (ga 26) = 4 := h100D
      refine r_iaload rfl h100A h100C (by omega) (by omega) (fun z101 z101m z101g => ?_)
      have z101t : z101.toInt = ((ga 25).getD 2 0).toInt := congrArg Int32.toInt z101g
      refine r_if_lt rfl (fun t102 => ?_) (fun t102 => ?_)
      · exact K74 w56 xs63 hI57 hh58 h59 h60 h61 h62 xs63l (by
            intro x y hx hy
            unfold wm3
            rw [if_neg (by omega)]
            exact t65 x y hx hy)
      · refine v_aload_n rfl rfl ?_
        refine v_get rfl h59 rfl ?_
        refine v_iconst (v := 2) rfl (by decide) ?_
        refine r_iaload rfl h100A h100C (by omega) (by omega) (fun z103 z103m z103g => ?_)
        have z103t : z103.toInt = ((ga 25).getD 2 0).toInt := congrArg Int32.toInt z103g
        refine v_aload_n rfl rfl ?_
        refine v_get rfl h59 rfl ?_
        refine r_icmp_ge rfl (fun t104 => ?_) (fun t104 => ?_)
        · exact K74 w56 xs63 hI57 hh58 h59 h60 h61 h62 xs63l (by
              intro x y hx hy
              unfold wm3
              rw [if_neg (by omega)]
              exact t65 x y hx hy)
        · refine v_aload_n rfl rfl ?_
          refine v_aload_n rfl rfl ?_
          refine v_get rfl h59 rfl ?_
          refine v_iconst (v := 2) rfl (by decide) ?_
          refine r_iaload rfl h100A h100C (by omega) (by omega) (fun z105 z105m z105g => ?_)
          have z105t : z105.toInt = ((ga 25).getD 2 0).toInt := congrArg Int32.toInt z105g
          skip
          refine v_callV rfl (W_X12_skip_59_x z105 v15 v16 v17 v18 v19 v20 v21 v22 os24 fs23 xs63 (by omega) (by omega) (by omega) (by omega) (by omega) (by omega) (by omega) (by omega) (by omega) (by omega) (by omega) (by omega) h59 h60 os24l os24r h61 fs23l fs23r h62 xs63l hR hI57 hh58) rfl rfl h59 rfl rfl (by omega) (fun rv w106 hq107 => ?_)
          obtain ⟨rfl, hI109, hh110, ⟨sh111, h112, h113, h114, h115, sh111l, sh111f⟩⟩ := hq107
          skip
          exact K74 w106 sh111 hI109 hh110 h112 h113 h114 h115 sh111l (by
              intro x y hx hy
              rw [sh111f x y hx hy]
              unfold wm3
              by_cases e : z105.toInt.toNat ≤ y
              · rw [if_pos e, if_pos (by omega)]
                by_cases e2 : y + 1 < (gi 1).toInt.toNat
                · rw [if_pos e2, if_pos e2]
                  exact t65 x (y + 1) hx e2
                · rw [if_neg e2, if_neg e2]
              · rw [if_neg e, if_neg (by omega)]
                exact t65 x y hx hy)
    refine v_aload_n rfl rfl ?_
    refine v_get rfl h49 rfl ?_
    refine v_iconst (v := 1) rfl (by decide) ?_
    obtain ⟨h116A, h116B, h116C, h116D, h116F⟩ := hI47.flt
    have h116A : w46[62]? = some (.inl (0, .inl (ga 25))) := h116A
    have h116C : List.length (ga 25) = 4 := h116C
    have h116B : w46[63]? = some (.inl (0, .inl (ga 26))) := h116B
    have h116D : List.length (ga 26) = 4 := h116D
    refine r_iaload rfl h116A h116C (by omega) (by omega) (fun z117 z117m z117g => ?_)
    have z117t : z117.toInt = ((ga 25).getD 1 0).toInt := congrArg Int32.toInt z117g
    refine r_if_lt rfl (fun t118 => ?_) (fun t118 => ?_)
    · exact K64 w46 xs53 hI47 hh48 h49 h50 h51 h52 xs53l (by
          intro x y hx hy
          unfold wm2
          rw [if_neg (by omega)]
          exact t55 x y hx hy)
    · refine v_aload_n rfl rfl ?_
      refine v_get rfl h49 rfl ?_
      refine v_iconst (v := 1) rfl (by decide) ?_
      refine r_iaload rfl h116A h116C (by omega) (by omega) (fun z119 z119m z119g => ?_)
      have z119t : z119.toInt = ((ga 25).getD 1 0).toInt := congrArg Int32.toInt z119g
      refine v_aload_n rfl rfl ?_
      refine v_get rfl h49 rfl ?_
      refine r_icmp_ge rfl (fun t120 => ?_) (fun t120 => ?_)
      · exact K64 w46 xs53 hI47 hh48 h49 h50 h51 h52 xs53l (by
            intro x y hx hy
            unfold wm2
            rw [if_neg (by omega)]
            exact t55 x y hx hy)
      · refine v_aload_n rfl rfl ?_
        refine v_aload_n rfl rfl ?_
        refine v_get rfl h49 rfl ?_
        refine v_iconst (v := 1) rfl (by decide) ?_
        refine r_iaload rfl h116A h116C (by omega) (by omega) (fun z121 z121m z121g => ?_)
        have z121t : z121.toInt = ((ga 25).getD 1 0).toInt := congrArg Int32.toInt z121g
        refine v_callV rfl (W_X12_breakCord_59_x z121 v15 v16 v17 v18 v19 v20 v21 v22 os24 fs23 xs53 (by omega) (by omega) (by omega) (by omega) (by omega) (by omega) (by omega) (by omega) (by omega) (by omega) h49 h50 os24l os24r h51 fs23l fs23r h52 xs53l hR hI47 hh48) rfl rfl h49 rfl rfl (by omega) (fun rv w122 hq123 => ?_)
        obtain ⟨rfl, hI125, hh126, ⟨sh127, h128, h129, h130, h131, sh127l, sh127f⟩⟩ := hq123
        skip
        exact K64 w122 sh127 hI125 hh126 h128 h129 h130 h131 sh127l (by
            intro x y hx hy
            rw [sh127f x y hx hy]
            unfold wm2
            by_cases e : sq_lk os24 x = ((ga 25).getD 1 0).toInt
            · rw [if_pos (by omega), if_pos ⟨by omega, by omega, e⟩]
            · rw [if_neg (by omega), if_neg (fun q => e q.2.2)]
              exact t55 x y hx hy)
  refine v_aload_n rfl rfl ?_
  refine v_get rfl h42 rfl ?_
  refine v_iconst (v := 3) rfl (by decide) ?_
  obtain ⟨h132A, h132B, h132C, h132D, h132F⟩ := hI39.flt
  have h132A : w36[62]? = some (.inl (0, .inl (ga 25))) := h132A
  have h132C : List.length (ga 25) = 4 := h132C
  have h132B : w36[63]? = some (.inl (0, .inl (ga 26))) := h132B
  have h132D : List.length (ga 26) = 4 := h132D
  refine r_iaload rfl h132A h132C (by omega) (by omega) (fun z133 z133m z133g => ?_)
  have z133t : z133.toInt = ((ga 25).getD 3 0).toInt := congrArg Int32.toInt z133g
  refine r_if_lt rfl (fun t134 => ?_) (fun t134 => ?_)
  · exact K54 w36 sh41 hI39 hh40 h42 h43 h44 h45 sh41l (by
        intro x y hx hy
        unfold wm1
        rw [if_neg (by omega)]
        exact sh41f _ (by omega))
  · refine v_aload_n rfl rfl ?_
    refine v_get rfl h42 rfl ?_
    refine v_iconst (v := 3) rfl (by decide) ?_
    refine r_iaload rfl h132A h132C (by omega) (by omega) (fun z135 z135m z135g => ?_)
    have z135t : z135.toInt = ((ga 25).getD 3 0).toInt := congrArg Int32.toInt z135g
    refine v_aload_n rfl rfl ?_
    refine v_get rfl h42 rfl ?_
    refine r_icmp_ge rfl (fun t136 => ?_) (fun t136 => ?_)
    · exact K54 w36 sh41 hI39 hh40 h42 h43 h44 h45 sh41l (by
          intro x y hx hy
          unfold wm1
          rw [if_neg (by omega)]
          exact sh41f _ (by omega))
    · refine v_aload_n rfl rfl ?_
      refine v_get rfl h42 rfl ?_
      refine v_iconst (v := 3) rfl (by decide) ?_
      refine r_iaload rfl h132B h132D (by omega) (by omega) (fun z137 z137m z137g => ?_)
      have z137t : z137.toInt = ((ga 26).getD 3 0).toInt := congrArg Int32.toInt z137g
      refine v_aload_n rfl rfl ?_
      refine v_get rfl h42 rfl ?_
      refine r_icmp_ge rfl (fun t138 => ?_) (fun t138 => ?_)
      · exact K54 w36 sh41 hI39 hh40 h42 h43 h44 h45 sh41l (by
            intro x y hx hy
            unfold wm1
            rw [if_neg (by omega)]
            exact sh41f _ (by omega))
      · refine v_aload_n rfl rfl ?_
        refine v_aload_n rfl rfl ?_
        refine v_get rfl h42 rfl ?_
        refine v_iconst (v := 3) rfl (by decide) ?_
        refine r_iaload rfl h132A h132C (by omega) (by omega) (fun z139 z139m z139g => ?_)
        have z139t : z139.toInt = ((ga 25).getD 3 0).toInt := congrArg Int32.toInt z139g
        skip
        refine v_aload_n rfl rfl ?_
        refine v_get rfl h42 rfl ?_
        refine v_iconst (v := 3) rfl (by decide) ?_
        refine r_iaload rfl h132B h132D (by omega) (by omega) (fun z140 z140m z140g => ?_)
        have z140t : z140.toInt = ((ga 26).getD 3 0).toInt := congrArg Int32.toInt z140g
        skip
        refine v_callV rfl (W_X12_cross_59_x z139 z140 v15 v16 v17 v18 v19 v20 v21 v22 os24 fs23 sh41 (by omega) (by omega) (by omega) (by omega) (by omega) (by omega) (by omega) (by omega) (by omega) (by omega) (by omega) (by omega) (by omega) (by omega) h42 h43 os24l os24r h44 fs23l fs23r h45 sh41l hR hI39 hh40) rfl rfl h42 rfl rfl (by omega) (fun rv w141 hq142 => ?_)
        obtain ⟨rfl, hI144, hh145, ⟨sh146, h147, h148, h149, h150, sh146l, sh146f⟩⟩ := hq142
        skip
        exact K54 w141 sh146 hI144 hh145 h147 h148 h149 h150 sh146l (by
            intro x y hx hy
            rw [sh146f x y hx hy]
            unfold wm1
            rw [if_pos (by omega), z139t, z140t, sh41f _ (by omega)]
            rfl)
