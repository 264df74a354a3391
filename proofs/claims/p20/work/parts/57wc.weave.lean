set_option maxRecDepth 100000 in
theorem W_X12_skip_59_x {sc : pm_S} {w w0 : pm_W} {gi : Nat → Int32} {ga : Nat → List Int32} (a : Int32) (c59_4 : Int32) (c59_5 : Int32) (c59_6 : Int32) (c59_14 : Int32) (c59_35 : Int32) (c59_39 : Int32) (c59_40 : Int32) (c59_42 : Int32) (c80 : List Int32) (c81 : List Int32) (c84 : List Int32) (p0 : a.toInt ≤ 19) (p1 : 0 ≤ a.toInt) (p2 : a.toInt ≤ (gi 1).toInt) (p3 : 0 ≤ c59_4.toInt) (p4 : c59_4.toInt ≤ 1) (p5 : 0 ≤ c59_5.toInt) (p6 : c59_5.toInt ≤ 20) (p7 : 0 ≤ c59_6.toInt) (p8 : c59_6.toInt ≤ 20) (p9 : 0 ≤ c59_35.toInt) (p10 : c59_35.toInt ≤ 20) (p11 : 0 ≤ c59_42.toInt) (p12 : c59_42.toInt ≤ 12) (hc59 : w[59]? = some (.inr (12, [.int (gi 0), .int (gi 1), .ref 60, .int (gi 2), .int c59_4, .int c59_5, .int c59_6, .ref 61, .ref 62, .ref 63, .int (gi 5), .int (gi 3), .int (gi 4), .int (gi 6), .int c59_14, .int (gi 7), .ref 64, .ref 65, .ref 66, .ref 67, .int (gi 8), .ref 68, .ref 69, .ref 70, .ref 71, .ref 72, .ref 73, .ref 74, .ref 75, .ref 76, .ref 77, .ref 78, .ref 79, .ref 80, .ref 81, .int c59_35, .ref 82, .ref 83, .ref 84, .int c59_39, .int c59_40, .ref 85, .int c59_42, .ref 86, .ref 87]))) (hc80 : w[80]? = some (.inl (0, .inl c80))) (hl80 : c80.length = 20) (hr80 : ∀ x ∈ c80, pm_rng x (-1) 19) (hc81 : w[81]? = some (.inl (0, .inl c81))) (hl81 : c81.length = 20) (hr81 : ∀ x ∈ c81, pm_rng x (0) 19) (hc84 : w[84]? = some (.inl (0, .inl c84))) (hl84 : c84.length = 400) (hR : pm_Rg gi ga) (hI : pm_IM gi ga w) (hh : pm_lo w0 w) : pm_Mt sc 0 152 4 [.ref 59, .int a] w (fun rv w' => rv = none ∧ pm_IM gi ga w' ∧ pm_lo w0 w' ∧ ∃ sh : List Int32, w'[59]? = some (.inr (12, [.int (gi 0), .int (gi 1), .ref 60, .int (gi 2), .int c59_4, .int c59_5, .int c59_6, .ref 61, .ref 62, .ref 63, .int (gi 5), .int (gi 3), .int (gi 4), .int (gi 6), .int c59_14, .int (gi 7), .ref 64, .ref 65, .ref 66, .ref 67, .int (gi 8), .ref 68, .ref 69, .ref 70, .ref 71, .ref 72, .ref 73, .ref 74, .ref 75, .ref 76, .ref 77, .ref 78, .ref 79, .ref 80, .ref 81, .int c59_35, .ref 82, .ref 83, .ref 84, .int c59_39, .int c59_40, .ref 85, .int c59_42, .ref 86, .ref 87])) ∧ w'[80]? = some (.inl (0, .inl c80)) ∧ w'[81]? = some (.inl (0, .inl c81)) ∧ w'[84]? = some (.inl (0, .inl sh)) ∧ sh.length = 400 ∧ ∀ x y, x < (gi 0).toInt.toNat → y < (gi 1).toInt.toNat → sh.getD (20 * y + x) 0 = (if a.toInt.toNat ≤ y then (if y + 1 < (gi 1).toInt.toNat then c84.getD (20 * (y + 1) + x) 0 else 0) else c84.getD (20 * y + x) 0)) := by
  intro d hd
  obtain ⟨g0a, g0b⟩ := hR.n0
  obtain ⟨g1a, g1b⟩ := hR.n1
  obtain ⟨g2a, g2b⟩ := hR.n2
  obtain ⟨g3a, g3b⟩ := hR.n3
  obtain ⟨g4a, g4b⟩ := hR.n4
  obtain ⟨g5a, g5b⟩ := hR.n5
  obtain ⟨g6a, g6b⟩ := hR.n6
  obtain ⟨g7a, g7b⟩ := hR.n7
  obtain ⟨g8a, g8b⟩ := hR.n8
  have k0 : (0 : Int32).toInt = 0 := by decide
  have k1 : (1 : Int32).toInt = 1 := by decide
  have k20 : (20 : Int32).toInt = 20 := by decide
  show pm_V sc d 152 0 [.ref 59, .int a, .null, .null] [] w _
  refine v_iload_n rfl rfl ?_
  refine v_istore_n rfl (Nat.le_of_ble_eq_true rfl) ?_
  have L11 : ∀ (n11 : Nat) (l1 : Int32) (u2 : Value) (w3 : pm_W) (xs10 : List Int32), pm_IM gi ga w3 → pm_lo w0 w3 → w3[59]? = some (.inr (12, [.int (gi 0), .int (gi 1), .ref 60, .int (gi 2), .int c59_4, .int c59_5, .int c59_6, .ref 61, .ref 62, .ref 63, .int (gi 5), .int (gi 3), .int (gi 4), .int (gi 6), .int c59_14, .int (gi 7), .ref 64, .ref 65, .ref 66, .ref 67, .int (gi 8), .ref 68, .ref 69, .ref 70, .ref 71, .ref 72, .ref 73, .ref 74, .ref 75, .ref 76, .ref 77, .ref 78, .ref 79, .ref 80, .ref 81, .int c59_35, .ref 82, .ref 83, .ref 84, .int c59_39, .int c59_40, .ref 85, .int c59_42, .ref 86, .ref 87])) → w3[80]? = some (.inl (0, .inl c80)) → w3[81]? = some (.inl (0, .inl c81)) → w3[84]? = some (.inl (0, .inl xs10)) → xs10.length = 400 → 0 ≤ l1.toInt → l1.toInt ≤ 20 → (l1.toInt ≤ (gi 1).toInt) → (a.toInt ≤ l1.toInt) → (∀ x y, x < 20 → y < 20 → xs10.getD (20 * y + x) 0 = (if (a.toInt.toNat ≤ y ∧ y < l1.toInt.toNat) ∧ x < (gi 0).toInt.toNat then (if y + 1 < (gi 1).toInt.toNat then c84.getD (20 * (y + 1) + x) 0 else 0) else c84.getD (20 * y + x) 0)) → (20 - l1.toInt).toNat < n11 → pm_V sc d 152 2 [.ref 59, .int a, .int l1, u2] [] w3 (fun rv w' => rv = none ∧ pm_IM gi ga w' ∧ pm_lo w0 w' ∧ ∃ sh : List Int32, w'[59]? = some (.inr (12, [.int (gi 0), .int (gi 1), .ref 60, .int (gi 2), .int c59_4, .int c59_5, .int c59_6, .ref 61, .ref 62, .ref 63, .int (gi 5), .int (gi 3), .int (gi 4), .int (gi 6), .int c59_14, .int (gi 7), .ref 64, .ref 65, .ref 66, .ref 67, .int (gi 8), .ref 68, .ref 69, .ref 70, .ref 71, .ref 72, .ref 73, .ref 74, .ref 75, .ref 76, .ref 77, .ref 78, .ref 79, .ref 80, .ref 81, .int c59_35, .ref 82, .ref 83, .ref 84, .int c59_39, .int c59_40, .ref 85, .int c59_42, .ref 86, .ref 87])) ∧ w'[80]? = some (.inl (0, .inl c80)) ∧ w'[81]? = some (.inl (0, .inl c81)) ∧ w'[84]? = some (.inl (0, .inl sh)) ∧ sh.length = 400 ∧ ∀ x y, x < (gi 0).toInt.toNat → y < (gi 1).toInt.toNat → sh.getD (20 * y + x) 0 = (if a.toInt.toNat ≤ y then (if y + 1 < (gi 1).toInt.toNat then c84.getD (20 * (y + 1) + x) 0 else 0) else c84.getD (20 * y + x) 0)) := by
    intro n11
    induction n11 with
    | zero => intro l1 u2 w3 xs10 hI4 hh5 h6 h7 h8 h9 xs10l t13 t14 t15 t16 t17 hm12; exact absurd hm12 (Nat.not_lt_zero _)
    | succ n11 ih2_11 =>
      intro l1 u2 w3 xs10 hI4 hh5 h6 h7 h8 h9 xs10l t13 t14 t15 t16 t17 hm12
      refine v_iload_n rfl rfl ?_
      refine v_aload_n rfl rfl ?_
      refine v_get rfl h6 rfl ?_
      refine r_icmp_ge rfl (fun t18 => ?_) (fun t18 => ?_)
      · exact v_ret rfl ⟨rfl, hI4, hh5, ⟨xs10, h6, h7, h8, h9, xs10l, fun x y hx hy => (by rw [t17 x y (by omega) (by omega)]; by_cases e : a.toInt.toNat ≤ y; (rw [if_pos (by omega), if_pos e]); (rw [if_neg (by omega), if_neg e]))⟩⟩
      · refine v_iconst (v := 0) rfl (by decide) ?_
        refine v_istore_n rfl (Nat.le_of_ble_eq_true rfl) ?_
        have L28 : ∀ (n28 : Nat) (l19 : Int32) (w20 : pm_W) (xs27 : List Int32), pm_IM gi ga w20 → pm_lo w0 w20 → w20[59]? = some (.inr (12, [.int (gi 0), .int (gi 1), .ref 60, .int (gi 2), .int c59_4, .int c59_5, .int c59_6, .ref 61, .ref 62, .ref 63, .int (gi 5), .int (gi 3), .int (gi 4), .int (gi 6), .int c59_14, .int (gi 7), .ref 64, .ref 65, .ref 66, .ref 67, .int (gi 8), .ref 68, .ref 69, .ref 70, .ref 71, .ref 72, .ref 73, .ref 74, .ref 75, .ref 76, .ref 77, .ref 78, .ref 79, .ref 80, .ref 81, .int c59_35, .ref 82, .ref 83, .ref 84, .int c59_39, .int c59_40, .ref 85, .int c59_42, .ref 86, .ref 87])) → w20[80]? = some (.inl (0, .inl c80)) → w20[81]? = some (.inl (0, .inl c81)) → w20[84]? = some (.inl (0, .inl xs27)) → xs27.length = 400 → 0 ≤ l19.toInt → l19.toInt ≤ 20 → (l19.toInt ≤ (gi 0).toInt) → (∀ x y, x < 20 → y < 20 → xs27.getD (20 * y + x) 0 = (if ((a.toInt.toNat ≤ y ∧ y < l1.toInt.toNat) ∧ x < (gi 0).toInt.toNat) ∨ (y = l1.toInt.toNat ∧ x < l19.toInt.toNat) then (if y + 1 < (gi 1).toInt.toNat then c84.getD (20 * (y + 1) + x) 0 else 0) else c84.getD (20 * y + x) 0)) → (20 - l19.toInt).toNat < n28 → pm_V sc d 152 12 [.ref 59, .int a, .int l1, .int l19] [] w20 (fun rv w' => rv = none ∧ pm_IM gi ga w' ∧ pm_lo w0 w' ∧ ∃ sh : List Int32, w'[59]? = some (.inr (12, [.int (gi 0), .int (gi 1), .ref 60, .int (gi 2), .int c59_4, .int c59_5, .int c59_6, .ref 61, .ref 62, .ref 63, .int (gi 5), .int (gi 3), .int (gi 4), .int (gi 6), .int c59_14, .int (gi 7), .ref 64, .ref 65, .ref 66, .ref 67, .int (gi 8), .ref 68, .ref 69, .ref 70, .ref 71, .ref 72, .ref 73, .ref 74, .ref 75, .ref 76, .ref 77, .ref 78, .ref 79, .ref 80, .ref 81, .int c59_35, .ref 82, .ref 83, .ref 84, .int c59_39, .int c59_40, .ref 85, .int c59_42, .ref 86, .ref 87])) ∧ w'[80]? = some (.inl (0, .inl c80)) ∧ w'[81]? = some (.inl (0, .inl c81)) ∧ w'[84]? = some (.inl (0, .inl sh)) ∧ sh.length = 400 ∧ ∀ x y, x < (gi 0).toInt.toNat → y < (gi 1).toInt.toNat → sh.getD (20 * y + x) 0 = (if a.toInt.toNat ≤ y then (if y + 1 < (gi 1).toInt.toNat then c84.getD (20 * (y + 1) + x) 0 else 0) else c84.getD (20 * y + x) 0)) := by
          intro n28
          induction n28 with
          | zero => intro l19 w20 xs27 hI21 hh22 h23 h24 h25 h26 xs27l t30 t31 t32 t33 hm29; exact absurd hm29 (Nat.not_lt_zero _)
          | succ n28 ih12_28 =>
            intro l19 w20 xs27 hI21 hh22 h23 h24 h25 h26 xs27l t30 t31 t32 t33 hm29
            refine v_iload_n rfl rfl ?_
            refine v_aload_n rfl rfl ?_
            refine v_get rfl h23 rfl ?_
            refine r_icmp_ge rfl (fun t34 => ?_) (fun t34 => ?_)
            · refine r_iinc rfl rfl (by decide) (by omega) (by omega) (fun z35 z35e => ?_)
              refine v_goto rfl ?_
              exact ih2_11 z35 (.int l19) w20 xs27 hI21 hh22 h23 h24 h25 h26 xs27l (by omega) (by omega) (by omega) (by omega) (by
                  intro x y hx hy
                  rw [t33 x y hx hy]
                  by_cases e : ((a.toInt.toNat ≤ y ∧ y < l1.toInt.toNat) ∧ x < (gi 0).toInt.toNat) ∨ (y = l1.toInt.toNat ∧ x < l19.toInt.toNat)
                  · rw [if_pos e]
                    exact (if_pos (by omega)).symm
                  · rw [if_neg e]
                    exact (if_neg (by omega)).symm) (by omega)
            · refine v_aload_n rfl rfl ?_
              refine v_get rfl h23 rfl ?_
              refine v_bipush (v := 20) rfl (by decide) ?_
              refine v_iload_n rfl rfl ?_
              refine r_imulL 20 rfl rfl (by omega) (by omega) (fun z36 z36e => ?_)
              refine v_iload_n rfl rfl ?_
              refine r_iadd rfl (by omega) (by omega) (fun z37 z37e => ?_)
              skip
              refine v_iload_n rfl rfl ?_
              refine v_iconst (v := 1) rfl (by decide) ?_
              refine r_iadd rfl (by omega) (by omega) (fun z38 z38e => ?_)
              refine v_aload_n rfl rfl ?_
              refine v_get rfl h23 rfl ?_
              refine r_icmp_ge rfl (fun t39 => ?_) (fun t39 => ?_)
              · refine v_iconst (v := 0) rfl (by decide) ?_
                refine r_iastx rfl h26 xs27l (by omega) (by omega) (fun ys40 ys40l ys40m ys40g ys40n => ?_)
                refine r_gen (w' := w20.set 84 (.inl (0, .inl ys40))) (fun w41 e42 => ?_)
                have hI43 : pm_IM gi ga w41 := by rw [e42]; exact hI21.set 84 (by decide) (by decide) (by decide) (by decide) ⟨ys40, ys40l, rfl⟩
                have hh44 : pm_lo w0 w41 := by rw [e42]; exact hh22.set (by decide) _
                have h45 := r_get_ne e42 (show 84 ≠ 59 by decide) h23
                have h46 := r_get_ne e42 (show 84 ≠ 80 by decide) h24
                have h47 := r_get_ne e42 (show 84 ≠ 81 by decide) h25
                have h48 := r_get_eq e42 h26
                refine r_iinc rfl rfl (by decide) (by omega) (by omega) (fun z49 z49e => ?_)
                refine v_goto rfl ?_
                exact ih12_28 z49 w41 ys40 hI43 hh44 h45 h46 h47 h48 ys40l (by omega) (by omega) (by omega) (by
                    intro x y hx hy
                    have hw : ys40.getD (20 * l1.toInt.toNat + l19.toInt.toNat) 0 = (if l1.toInt.toNat + 1 < (gi 1).toInt.toNat then c84.getD (20 * (l1.toInt.toNat + 1) + l19.toInt.toNat) 0 else 0) := by
                      have hg := ys40g
                      rw [show z37.toInt.toNat = 20 * l1.toInt.toNat + l19.toInt.toNat by omega] at hg
                      rw [hg]
                      rw [if_neg (by omega)]
                    by_cases e : 20 * y + x = z37.toInt.toNat
                    · have e1 : y = l1.toInt.toNat := by omega
                      have e2 : x = l19.toInt.toNat := by omega
                      subst e1
                      subst e2
                      rw [if_pos (by omega), hw]
                    · rw [ys40n (20 * y + x) e, t33 x y hx hy]
                      by_cases e1 : ((a.toInt.toNat ≤ y ∧ y < l1.toInt.toNat) ∧ x < (gi 0).toInt.toNat) ∨ (y = l1.toInt.toNat ∧ x < l19.toInt.toNat)
                      · rw [if_pos e1]
                        exact (if_pos (by omega)).symm
                      · rw [if_neg e1]
                        exact (if_neg (by omega)).symm) (by omega)
              · refine v_aload_n rfl rfl ?_
                refine v_get rfl h23 rfl ?_
                refine v_bipush (v := 20) rfl (by decide) ?_
                refine v_iload_n rfl rfl ?_
                refine v_iconst (v := 1) rfl (by decide) ?_
                refine r_iadd rfl (by omega) (by omega) (fun z50 z50e => ?_)
                refine r_imulL 20 rfl rfl (by omega) (by omega) (fun z51 z51e => ?_)
                refine v_iload_n rfl rfl ?_
                refine r_iadd rfl (by omega) (by omega) (fun z52 z52e => ?_)
                refine r_iaload rfl h26 xs27l (by omega) (by omega) (fun z53 z53m z53g => ?_)
                skip
                refine v_goto rfl ?_
                refine r_iastx rfl h26 xs27l (by omega) (by omega) (fun ys54 ys54l ys54m ys54g ys54n => ?_)
                refine r_gen (w' := w20.set 84 (.inl (0, .inl ys54))) (fun w55 e56 => ?_)
                have hI57 : pm_IM gi ga w55 := by rw [e56]; exact hI21.set 84 (by decide) (by decide) (by decide) (by decide) ⟨ys54, ys54l, rfl⟩
                have hh58 : pm_lo w0 w55 := by rw [e56]; exact hh22.set (by decide) _
                have h59 := r_get_ne e56 (show 84 ≠ 59 by decide) h23
                have h60 := r_get_ne e56 (show 84 ≠ 80 by decide) h24
                have h61 := r_get_ne e56 (show 84 ≠ 81 by decide) h25
                have h62 := r_get_eq e56 h26
                refine r_iinc rfl rfl (by decide) (by omega) (by omega) (fun z63 z63e => ?_)
                refine v_goto rfl ?_
                exact ih12_28 z63 w55 ys54 hI57 hh58 h59 h60 h61 h62 ys54l (by omega) (by omega) (by omega) (by
                    intro x y hx hy
                    have hw : ys54.getD (20 * l1.toInt.toNat + l19.toInt.toNat) 0 = (if l1.toInt.toNat + 1 < (gi 1).toInt.toNat then c84.getD (20 * (l1.toInt.toNat + 1) + l19.toInt.toNat) 0 else 0) := by
                      have hg := ys54g
                      rw [show z37.toInt.toNat = 20 * l1.toInt.toNat + l19.toInt.toNat by omega] at hg
                      rw [hg]
                      rw [if_pos (by omega), z53g, show z52.toInt.toNat = 20 * (l1.toInt.toNat + 1) + l19.toInt.toNat by omega, t33 _ _ (by omega) (by omega), if_neg (by omega)]
                    by_cases e : 20 * y + x = z37.toInt.toNat
                    · have e1 : y = l1.toInt.toNat := by omega
                      have e2 : x = l19.toInt.toNat := by omega
                      subst e1
                      subst e2
                      rw [if_pos (by omega), hw]
                    · rw [ys54n (20 * y + x) e, t33 x y hx hy]
                      by_cases e1 : ((a.toInt.toNat ≤ y ∧ y < l1.toInt.toNat) ∧ x < (gi 0).toInt.toNat) ∨ (y = l1.toInt.toNat ∧ x < l19.toInt.toNat)
                      · rw [if_pos e1]
                        exact (if_pos (by omega)).symm
                      · rw [if_neg e1]
                        exact (if_neg (by omega)).symm) (by omega)
        exact L28 _ (0 : Int32) w3 xs10 hI4 hh5 h6 h7 h8 h9 xs10l (by omega) (by omega) (by omega) (by
            intro x y hx hy
            rw [t17 x y hx hy]
            by_cases e : (a.toInt.toNat ≤ y ∧ y < l1.toInt.toNat) ∧ x < (gi 0).toInt.toNat
            · rw [if_pos e, if_pos (Or.inl e)]
            · rw [if_neg e]
              exact (if_neg (by rw [show (0 : Int32).toInt.toNat = 0 from rfl]; omega)).symm) (Nat.lt_add_one _)
  exact L11 _ a (.null) w c84 hI hh hc59 hc80 hc81 hc84 hl84 (by omega) (by omega) (by omega) (by omega) (by
      intro x y hx hy
      exact (if_neg (by omega)).symm) (Nat.lt_add_one _)

