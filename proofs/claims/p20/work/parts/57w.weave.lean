set_option maxRecDepth 100000 in
theorem W_X12_showPlain_59_x {sc : pm_S} {w w0 : pm_W} {gi : Nat → Int32} {ga : Nat → List Int32} (c59_4 : Int32) (c59_5 : Int32) (c59_6 : Int32) (c59_14 : Int32) (c59_35 : Int32) (c59_39 : Int32) (c59_40 : Int32) (c59_42 : Int32) (c80 : List Int32) (c81 : List Int32) (p0 : 0 ≤ c59_4.toInt) (p1 : c59_4.toInt ≤ 1) (p2 : 0 ≤ c59_5.toInt) (p3 : c59_5.toInt ≤ 20) (p4 : 0 ≤ c59_6.toInt) (p5 : c59_6.toInt ≤ 20) (p6 : 0 ≤ c59_35.toInt) (p7 : c59_35.toInt ≤ 20) (p8 : 0 ≤ c59_42.toInt) (p9 : c59_42.toInt ≤ 12) (hc59 : w[59]? = some (.inr (12, [.int (gi 0), .int (gi 1), .ref 60, .int (gi 2), .int c59_4, .int c59_5, .int c59_6, .ref 61, .ref 62, .ref 63, .int (gi 5), .int (gi 3), .int (gi 4), .int (gi 6), .int c59_14, .int (gi 7), .ref 64, .ref 65, .ref 66, .ref 67, .int (gi 8), .ref 68, .ref 69, .ref 70, .ref 71, .ref 72, .ref 73, .ref 74, .ref 75, .ref 76, .ref 77, .ref 78, .ref 79, .ref 80, .ref 81, .int c59_35, .ref 82, .ref 83, .ref 84, .int c59_39, .int c59_40, .ref 85, .int c59_42, .ref 86, .ref 87]))) (hc80 : w[80]? = some (.inl (0, .inl c80))) (hl80 : c80.length = 20) (hr80 : ∀ x ∈ c80, pm_rng x (-1) 19) (hc81 : w[81]? = some (.inl (0, .inl c81))) (hl81 : c81.length = 20) (hr81 : ∀ x ∈ c81, pm_rng x (0) 19) (hR : pm_Rg gi ga) (hI : pm_IM gi ga w) (hh : pm_lo w0 w) : pm_Mt sc 0 149 2 [.ref 59] w (fun rv w' => rv = none ∧ pm_IM gi ga w' ∧ pm_lo w0 w' ∧ ∃ sh : List Int32, w'[59]? = some (.inr (12, [.int (gi 0), .int (gi 1), .ref 60, .int (gi 2), .int c59_4, .int c59_5, .int c59_6, .ref 61, .ref 62, .ref 63, .int (gi 5), .int (gi 3), .int (gi 4), .int (gi 6), .int c59_14, .int (gi 7), .ref 64, .ref 65, .ref 66, .ref 67, .int (gi 8), .ref 68, .ref 69, .ref 70, .ref 71, .ref 72, .ref 73, .ref 74, .ref 75, .ref 76, .ref 77, .ref 78, .ref 79, .ref 80, .ref 81, .int c59_35, .ref 82, .ref 83, .ref 84, .int c59_39, .int c59_40, .ref 85, .int c59_42, .ref 86, .ref 87])) ∧ w'[80]? = some (.inl (0, .inl c80)) ∧ w'[81]? = some (.inl (0, .inl c81)) ∧ w'[84]? = some (.inl (0, .inl sh)) ∧ sh.length = 400 ∧ ∀ k, k < 400 → sh.getD k 0 = (ga 15).getD k 0) := by
  intro d hd
  obtain ⟨g0a, g0b⟩ := hR.n0
  obtain ⟨g1a, g1b⟩ := hR.n1
  obtain ⟨g2a, g2b⟩ := hR.n2
  obtain ⟨g3a, g3b⟩ := hR.n3
  obtain ⟨g4a, g4b⟩ := hR.n4
  obtain ⟨g5a, g5b⟩ := hR.n5
  obtain ⟨g6a, g6b⟩ := hR.n6
  obtain ⟨g7a, g7b⟩ := hR.n7
  obtain ⟨g8a, g8b⟩ := hR.n8
  have k0 : (0 : Int32).toInt = 0 := by decide
  have k400 : (400 : Int32).toInt = 400 := by decide
  show pm_V sc d 149 0 [.ref 59, .null] [] w _
  refine v_iconst (v := 0) rfl (by decide) ?_
  refine v_istore_n rfl (Nat.le_of_ble_eq_true rfl) ?_
  obtain ⟨xs2, xs2l, h1⟩ := hI.2.1 84 (by decide) (by decide)
  have L12 : ∀ (n12 : Nat) (l3 : Int32) (w4 : pm_W) (xs11 : List Int32), pm_IM gi ga w4 → pm_lo w0 w4 → w4[59]? = some (.inr (12, [.int (gi 0), .int (gi 1), .ref 60, .int (gi 2), .int c59_4, .int c59_5, .int c59_6, .ref 61, .ref 62, .ref 63, .int (gi 5), .int (gi 3), .int (gi 4), .int (gi 6), .int c59_14, .int (gi 7), .ref 64, .ref 65, .ref 66, .ref 67, .int (gi 8), .ref 68, .ref 69, .ref 70, .ref 71, .ref 72, .ref 73, .ref 74, .ref 75, .ref 76, .ref 77, .ref 78, .ref 79, .ref 80, .ref 81, .int c59_35, .ref 82, .ref 83, .ref 84, .int c59_39, .int c59_40, .ref 85, .int c59_42, .ref 86, .ref 87])) → w4[80]? = some (.inl (0, .inl c80)) → w4[81]? = some (.inl (0, .inl c81)) → w4[84]? = some (.inl (0, .inl xs11)) → xs11.length = 400 → 0 ≤ l3.toInt → l3.toInt ≤ 400 → (∀ k, k < l3.toInt.toNat → xs11.getD k 0 = (ga 15).getD k 0) → (400 - l3.toInt).toNat < n12 → pm_V sc d 149 2 [.ref 59, .int l3] [] w4 (fun rv w' => rv = none ∧ pm_IM gi ga w' ∧ pm_lo w0 w' ∧ ∃ sh : List Int32, w'[59]? = some (.inr (12, [.int (gi 0), .int (gi 1), .ref 60, .int (gi 2), .int c59_4, .int c59_5, .int c59_6, .ref 61, .ref 62, .ref 63, .int (gi 5), .int (gi 3), .int (gi 4), .int (gi 6), .int c59_14, .int (gi 7), .ref 64, .ref 65, .ref 66, .ref 67, .int (gi 8), .ref 68, .ref 69, .ref 70, .ref 71, .ref 72, .ref 73, .ref 74, .ref 75, .ref 76, .ref 77, .ref 78, .ref 79, .ref 80, .ref 81, .int c59_35, .ref 82, .ref 83, .ref 84, .int c59_39, .int c59_40, .ref 85, .int c59_42, .ref 86, .ref 87])) ∧ w'[80]? = some (.inl (0, .inl c80)) ∧ w'[81]? = some (.inl (0, .inl c81)) ∧ w'[84]? = some (.inl (0, .inl sh)) ∧ sh.length = 400 ∧ ∀ k, k < 400 → sh.getD k 0 = (ga 15).getD k 0) := by
    intro n12
    induction n12 with
    | zero => intro l3 w4 xs11 hI5 hh6 h7 h8 h9 h10 xs11l t14 t15 t16 hm13; exact absurd hm13 (Nat.not_lt_zero _)
    | succ n12 ih2_12 =>
      intro l3 w4 xs11 hI5 hh6 h7 h8 h9 h10 xs11l t14 t15 t16 hm13
      refine v_iload_n rfl rfl ?_
      refine v_sipush (v := 400) rfl (by decide) ?_
      refine r_icmp_ge rfl (fun t17 => ?_) (fun t17 => ?_)
      · exact v_ret rfl ⟨rfl, hI5, hh6, ⟨xs11, h7, h8, h9, h10, xs11l, fun k hk => t16 k (by omega)⟩⟩
      · refine v_aload_n rfl rfl ?_
        refine v_get rfl h7 rfl ?_
        refine v_iload_n rfl rfl ?_
        refine v_aload_n rfl rfl ?_
        refine v_get rfl h7 rfl ?_
        refine v_iload_n rfl rfl ?_
        obtain ⟨sq19l, sq19r, h18⟩ := hI5.2.1 60 (by decide) (by decide)
        refine r_iaload rfl h18 sq19l (by omega) (by omega) (fun z20 z20m z20g => ?_)
        obtain ⟨z20a, z20b⟩ := sq19r z20 z20m
        skip
        refine r_iastx rfl h10 xs11l (by omega) (by omega) (fun ys21 ys21l ys21m ys21g ys21n => ?_)
        refine r_gen (w' := w4.set 84 (.inl (0, .inl ys21))) (fun w22 e23 => ?_)
        have hI24 : pm_IM gi ga w22 := by rw [e23]; exact hI5.set 84 (by decide) (by decide) (by decide) (by decide) ⟨ys21, ys21l, rfl⟩
        have hh25 : pm_lo w0 w22 := by rw [e23]; exact hh6.set (by decide) _
        have h26 := r_get_ne e23 (show 84 ≠ 59 by decide) h7
        have h27 := r_get_ne e23 (show 84 ≠ 80 by decide) h8
        have h28 := r_get_ne e23 (show 84 ≠ 81 by decide) h9
        have h29 := r_get_ne e23 (show 84 ≠ 60 by decide) h18
        have h30 := r_get_eq e23 h10
        refine r_iinc rfl rfl (by decide) (by omega) (by omega) (fun z31 z31e => ?_)
        refine v_goto rfl ?_
        exact ih2_12 z31 w22 ys21 hI24 hh25 h26 h27 h28 h30 ys21l (by omega) (by omega) (by
            intro k hk
            by_cases e : k = l3.toInt.toNat
            · rw [e, ys21g, z20g]
            · rw [ys21n k e]
              exact t16 k (by omega)) (by omega)
  exact L12 _ (0 : Int32) w xs2 hI hh hc59 hc80 hc81 h1 xs2l (by omega) (by omega) (by intro k hk; rw [show (0 : Int32).toInt.toNat = 0 from rfl] at hk; omega) (Nat.lt_add_one _)

