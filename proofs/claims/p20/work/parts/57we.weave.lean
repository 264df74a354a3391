set_option maxRecDepth 100000 in
theorem W_X12_weave_59_x {sc : pm_S} {w w0 : pm_W} {gi : Nat → Int32} {ga : Nat → List Int32}   (hR : pm_Rg gi ga) (hI : pm_IM gi ga w) (hh : pm_lo w0 w) : pm_Mt sc 3 153 4 [.ref 59] w (fun rv w' => ∃ (v : Int32) (sh A fs os : List Int32) (m : Int32), rv = some (.int v) ∧ sq_ck gi ga fs os m.toInt.toNat ∧ 0 ≤ m.toInt ∧ (∀ x y, x < (gi 0).toInt.toNat → y < (gi 1).toInt.toNat → List.getD sh (20 * y + x) 0 = wm3 (ga 15) (ga 25) (ga 26) fs os m.toInt (gi 1).toInt.toNat x y) ∧ (∀ x y, x < (gi 0).toInt.toNat → y < (gi 1).toInt.toNat → List.getD A (20 * y + x) 0 = sh.getD (20 * y + x) 0) ∧ v = nI (cd sh (ga 15) (gi 0).toInt.toNat 0 (gi 1).toInt.toNat) ∧ pm_IM (pm_uI (pm_uI (pm_uI gi 9 1) 12 (gi 0)) 13 (gi 1)) (pm_uA ga 27 A) w' ∧ pm_lo w0 w') := by
  intro d hd
  obtain ⟨g0a, g0b⟩ := hR.n0
  obtain ⟨g1a, g1b⟩ := hR.n1
  obtain ⟨g2a, g2b⟩ := hR.n2
  obtain ⟨g3a, g3b⟩ := hR.n3
  obtain ⟨g4a, g4b⟩ := hR.n4
  obtain ⟨g5a, g5b⟩ := hR.n5
  obtain ⟨g6a, g6b⟩ := hR.n6
  obtain ⟨g7a, g7b⟩ := hR.n7
  obtain ⟨g8a, g8b⟩ := hR.n8
  have k0 : (0 : Int32).toInt = 0 := by decide
  have k1 : (1 : Int32).toInt = 1 := by decide
  have k2 : (2 : Int32).toInt = 2 := by decide
  have k3 : (3 : Int32).toInt = 3 := by decide
  show pm_V sc d 153 0 [.ref 59, .null, .null, .null] [] w _
  refine v_aload_n rfl rfl ?_
  obtain ⟨v2, v3, v4, v5, v6, v7, v8, v9, ⟨v2z, v2e⟩, ⟨⟨v3a, v3b⟩, v3e⟩, ⟨⟨v4a, v4b⟩, v4e⟩, ⟨v6a, v6b⟩, ⟨v9a, v9b⟩, h1⟩ := hI.2.1 59 (by decide) (by decide)
  have v2z := v2z.imp i_eq.mp i_eq.mp
  rw [i_0, i_1] at v2z
  refine v_callV rfl (W_X12_findCords_59_x  hR hI hh) rfl rfl h1 rfl rfl (by omega) (fun rv w10 hq11 => ?_)
  obtain ⟨rfl, hI13, hh14, ⟨v15, v16, v17, v18, v19, v20, v21, v22, fs23, os24, h25, h26, h27, fs23l, os24l, fs23r, os24r, v19a, v19b, t28, t29, v15e, t30, t31, v16e, t32, t33, v17e, t34, t35, v19k⟩⟩ := hq11
  refine v_aload_n rfl rfl ?_
  refine v_callV rfl (W_X12_showPlain_59_x v15 v16 v17 v18 v19 v20 v21 v22 os24 fs23 (by omega) (by omega) (by omega) (by omega) (by omega) (by omega) (by omega) (by omega) (by omega) (by omega) h25 h27 os24l os24r h26 fs23l fs23r hR hI13 hh14) rfl rfl h25 rfl rfl (by omega) (fun rv w36 hq37 => ?_)
  obtain ⟨rfl, hI39, hh40, ⟨sh41, h42, h43, h44, h45, sh41l, sh41f⟩⟩ := hq37
  skip
  have K54 : ∀ (w46 : pm_W) (xs53 : List Int32), pm_IM gi ga w46 → pm_lo w0 w46 → w46[59]? = some (.inr (12, [.int (gi 0), .int (gi 1), .ref 60, .int (gi 2), .int v15, .int v16, .int v17, .ref 61, .ref 62, .ref 63, .int (gi 5), .int (gi 3), .int (gi 4), .int (gi 6), .int v18, .int (gi 7), .ref 64, .ref 65, .ref 66, .ref 67, .int (gi 8), .ref 68, .ref 69, .ref 70, .ref 71, .ref 72, .ref 73, .ref 74, .ref 75, .ref 76, .ref 77, .ref 78, .ref 79, .ref 80, .ref 81, .int v19, .ref 82, .ref 83, .ref 84, .int v20, .int v21, .ref 85, .int v22, .ref 86, .ref 87])) → w46[80]? = some (.inl (0, .inl os24)) → w46[81]? = some (.inl (0, .inl fs23)) → w46[84]? = some (.inl (0, .inl xs53)) → xs53.length = 400 → (∀ x y, x < (gi 0).toInt.toNat → y < (gi 1).toInt.toNat → xs53.getD (20 * y + x) 0 = wm1 (ga 15) (ga 25) (ga 26) fs23 os24 v19.toInt x y) → pm_V sc d 153 59 [.ref 59, .null, .null, .null] [] w46 (fun rv w' => ∃ (v : Int32) (sh A fs os : List Int32) (m : Int32), rv = some (.int v) ∧ sq_ck gi ga fs os m.toInt.toNat ∧ 0 ≤ m.toInt ∧ (∀ x y, x < (gi 0).toInt.toNat → y < (gi 1).toInt.toNat → List.getD sh (20 * y + x) 0 = wm3 (ga 15) (ga 25) (ga 26) fs os m.toInt (gi 1).toInt.toNat x y) ∧ (∀ x y, x < (gi 0).toInt.toNat → y < (gi 1).toInt.toNat → List.getD A (20 * y + x) 0 = sh.getD (20 * y + x) 0) ∧ v = nI (cd sh (ga 15) (gi 0).toInt.toNat 0 (gi 1).toInt.toNat) ∧ pm_IM (pm_uI (pm_uI (pm_uI gi 9 1) 12 (gi 0)) 13 (gi 1)) (pm_uA ga 27 A) w' ∧ pm_lo w0 w') := by
    intro w46 xs53 hI47 hh48 h49 h50 h51 h52 xs53l t55
    have K64 : ∀ (w56 : pm_W) (xs63 : List Int32), pm_IM gi ga w56 → pm_lo w0 w56 → w56[59]? = some (.inr (12, [.int (gi 0), .int (gi 1), .ref 60, .int (gi 2), .int v15, .int v16, .int v17, .ref 61, .ref 62, .ref 63, .int (gi 5), .int (gi 3), .int (gi 4), .int (gi 6), .int v18, .int (gi 7), .ref 64, .ref 65, .ref 66, .ref 67, .int (gi 8), .ref 68, .ref 69, .ref 70, .ref 71, .ref 72, .ref 73, .ref 74, .ref 75, .ref 76, .ref 77, .ref 78, .ref 79, .ref 80, .ref 81, .int v19, .ref 82, .ref 83, .ref 84, .int v20, .int v21, .ref 85, .int v22, .ref 86, .ref 87])) → w56[80]? = some (.inl (0, .inl os24)) → w56[81]? = some (.inl (0, .inl fs23)) → w56[84]? = some (.inl (0, .inl xs63)) → xs63.length = 400 → (∀ x y, x < (gi 0).toInt.toNat → y < (gi 1).toInt.toNat → xs63.getD (20 * y + x) 0 = wm2 (ga 15) (ga 25) (ga 26) fs23 os24 v19.toInt x y) → pm_V sc d 153 91 [.ref 59, .null, .null, .null] [] w56 (fun rv w' => ∃ (v : Int32) (sh A fs os : List Int32) (m : Int32), rv = some (.int v) ∧ sq_ck gi ga fs os m.toInt.toNat ∧ 0 ≤ m.toInt ∧ (∀ x y, x < (gi 0).toInt.toNat → y < (gi 1).toInt.toNat → List.getD sh (20 * y + x) 0 = wm3 (ga 15) (ga 25) (ga 26) fs os m.toInt (gi 1).toInt.toNat x y) ∧ (∀ x y, x < (gi 0).toInt.toNat → y < (gi 1).toInt.toNat → List.getD A (20 * y + x) 0 = sh.getD (20 * y + x) 0) ∧ v = nI (cd sh (ga 15) (gi 0).toInt.toNat 0 (gi 1).toInt.toNat) ∧ pm_IM (pm_uI (pm_uI (pm_uI gi 9 1) 12 (gi 0)) 13 (gi 1)) (pm_uA ga 27 A) w' ∧ pm_lo w0 w') := by
      intro w56 xs63 hI57 hh58 h59 h60 h61 h62 xs63l t65
      have K74 : ∀ (w66 : pm_W) (xs73 : List Int32), pm_IM gi ga w66 → pm_lo w0 w66 → w66[59]? = some (.inr (12, [.int (gi 0), .int (gi 1), .ref 60, .int (gi 2), .int v15, .int v16, .int v17, .ref 61, .ref 62, .ref 63, .int (gi 5), .int (gi 3), .int (gi 4), .int (gi 6), .int v18, .int (gi 7), .ref 64, .ref 65, .ref 66, .ref 67, .int (gi 8), .ref 68, .ref 69, .ref 70, .ref 71, .ref 72, .ref 73, .ref 74, .ref 75, .ref 76, .ref 77, .ref 78, .ref 79, .ref 80, .ref 81, .int v19, .ref 82, .ref 83, .ref 84, .int v20, .int v21, .ref 85, .int v22, .ref 86, .ref 87])) → w66[80]? = some (.inl (0, .inl os24)) → w66[81]? = some (.inl (0, .inl fs23)) → w66[84]? = some (.inl (0, .inl xs73)) → xs73.length = 400 → (∀ x y, x < (gi 0).toInt.toNat → y < (gi 1).toInt.toNat → xs73.getD (20 * y + x) 0 = wm3 (ga 15) (ga 25) (ga 26) fs23 os24 v19.toInt (gi 1).toInt.toNat x y) → pm_V sc d 153 123 [.ref 59, .null, .null, .null] [] w66 (fun rv w' => ∃ (v : Int32) (sh A fs os : List Int32) (m : Int32), rv = some (.int v) ∧ sq_ck gi ga fs os m.toInt.toNat ∧ 0 ≤ m.toInt ∧ (∀ x y, x < (gi 0).toInt.toNat → y < (gi 1).toInt.toNat → List.getD sh (20 * y + x) 0 = wm3 (ga 15) (ga 25) (ga 26) fs os m.toInt (gi 1).toInt.toNat x y) ∧ (∀ x y, x < (gi 0).toInt.toNat → y < (gi 1).toInt.toNat → List.getD A (20 * y + x) 0 = sh.getD (20 * y + x) 0) ∧ v = nI (cd sh (ga 15) (gi 0).toInt.toNat 0 (gi 1).toInt.toNat) ∧ pm_IM (pm_uI (pm_uI (pm_uI gi 9 1) 12 (gi 0)) 13 (gi 1)) (pm_uA ga 27 A) w' ∧ pm_lo w0 w') := by
        intro w66 xs73 hI67 hh68 h69 h70 h71 h72 xs73l t75
        refine v_iconst (v := 0) rfl (by decide) ?_
        refine v_istore_n rfl (Nat.le_of_ble_eq_true rfl) ?_
        refine v_aload_n rfl rfl ?_
        refine v_iconst (v := 1) rfl (by decide) ?_
        refine v_put rfl h69 (r_okZ (by omega)) (Nat.le_of_ble_eq_true rfl) ?_
        refine r_gen (w' := w66.set 59 (.inr (12, [.int (gi 0), .int (gi 1), .ref 60, .int (gi 2), .int (1 : Int32), .int v16, .int v17, .ref 61, .ref 62, .ref 63, .int (gi 5), .int (gi 3), .int (gi 4), .int (gi 6), .int v18, .int (gi 7), .ref 64, .ref 65, .ref 66, .ref 67, .int (gi 8), .ref 68, .ref 69, .ref 70, .ref 71, .ref 72, .ref 73, .ref 74, .ref 75, .ref 76, .ref 77, .ref 78, .ref 79, .ref 80, .ref 81, .int v19, .ref 82, .ref 83, .ref 84, .int v20, .int v21, .ref 85, .int v22, .ref 86, .ref 87]))) (fun w76 e77 => ?_)
        have hI78 : pm_IM (pm_uI gi 9 (1 : Int32)) ga w76 := by rw [e77]; exact hI67.uI 59 9 (by decide +kernel) (by decide +kernel) (by decide +kernel) (by decide +kernel) (by decide +kernel) ⟨(1 : Int32), v16, v17, v18, v19, v20, v21, v22, ⟨((show (1 : Int32).toInt = 0 ∨ (1 : Int32).toInt = 1 by omega).imp i_eq.mpr i_eq.mpr), rfl⟩, ⟨⟨by omega, by omega⟩, v16e⟩, ⟨⟨by omega, by omega⟩, v17e⟩, ⟨by omega, by omega⟩, ⟨by omega, by omega⟩, rfl⟩
        have hh79 : pm_lo w0 w76 := by rw [e77]; exact hh68.set (by decide) _
        have h80 := r_get_ne e77 (show 59 ≠ 80 by decide) h70
        have h81 := r_get_ne e77 (show 59 ≠ 81 by decide) h71
        have h82 := r_get_ne e77 (show 59 ≠ 84 by decide) h72
        have h83 := r_get_eq e77 h69
        refine v_aload_n rfl rfl ?_
        refine v_aload_n rfl rfl ?_
        refine v_get rfl h83 rfl ?_
        refine v_put rfl h83 rfl (Nat.le_of_ble_eq_true rfl) ?_
        refine r_gen (w' := w76.set 59 (.inr (12, [.int (gi 0), .int (gi 1), .ref 60, .int (gi 2), .int (1 : Int32), .int (gi 0), .int v17, .ref 61, .ref 62, .ref 63, .int (gi 5), .int (gi 3), .int (gi 4), .int (gi 6), .int v18, .int (gi 7), .ref 64, .ref 65, .ref 66, .ref 67, .int (gi 8), .ref 68, .ref 69, .ref 70, .ref 71, .ref 72, .ref 73, .ref 74, .ref 75, .ref 76, .ref 77, .ref 78, .ref 79, .ref 80, .ref 81, .int v19, .ref 82, .ref 83, .ref 84, .int v20, .int v21, .ref 85, .int v22, .ref 86, .ref 87]))) (fun w84 e85 => ?_)
        have hI86 : pm_IM (pm_uI (pm_uI gi 9 (1 : Int32)) 12 (gi 0)) ga w84 := by rw [e85]; exact hI78.uI 59 12 (by decide +kernel) (by decide +kernel) (by decide +kernel) (by decide +kernel) (by decide +kernel) ⟨(1 : Int32), (gi 0), v17, v18, v19, v20, v21, v22, ⟨((show (1 : Int32).toInt = 0 ∨ (1 : Int32).toInt = 1 by omega).imp i_eq.mpr i_eq.mpr), rfl⟩, ⟨⟨by omega, by omega⟩, rfl⟩, ⟨⟨by omega, by omega⟩, v17e⟩, ⟨by omega, by omega⟩, ⟨by omega, by omega⟩, rfl⟩
        have hh87 : pm_lo w0 w84 := by rw [e85]; exact hh79.set (by decide) _
        have h88 := r_get_ne e85 (show 59 ≠ 80 by decide) h80
        have h89 := r_get_ne e85 (show 59 ≠ 81 by decide) h81
        have h90 := r_get_ne e85 (show 59 ≠ 84 by decide) h82
        have h91 := r_get_eq e85 h83
        have hfe5 := (rfl : (gi 0) = (gi 0))
        refine v_aload_n rfl rfl ?_
        refine v_aload_n rfl rfl ?_
        refine v_get rfl h91 rfl ?_
        refine v_put rfl h91 rfl (Nat.le_of_ble_eq_true rfl) ?_
        refine r_gen (w' := w84.set 59 (.inr (12, [.int (gi 0), .int (gi 1), .ref 60, .int (gi 2), .int (1 : Int32), .int (gi 0), .int (gi 1), .ref 61, .ref 62, .ref 63, .int (gi 5), .int (gi 3), .int (gi 4), .int (gi 6), .int v18, .int (gi 7), .ref 64, .ref 65, .ref 66, .ref 67, .int (gi 8), .ref 68, .ref 69, .ref 70, .ref 71, .ref 72, .ref 73, .ref 74, .ref 75, .ref 76, .ref 77, .ref 78, .ref 79, .ref 80, .ref 81, .int v19, .ref 82, .ref 83, .ref 84, .int v20, .int v21, .ref 85, .int v22, .ref 86, .ref 87]))) (fun w92 e93 => ?_)
        have hI94 : pm_IM (pm_uI (pm_uI (pm_uI gi 9 (1 : Int32)) 12 (gi 0)) 13 (gi 1)) ga w92 := by rw [e93]; exact hI86.uI 59 13 (by decide +kernel) (by decide +kernel) (by decide +kernel) (by decide +kernel) (by decide +kernel) ⟨(1 : Int32), (gi 0), (gi 1), v18, v19, v20, v21, v22, ⟨((show (1 : Int32).toInt = 0 ∨ (1 : Int32).toInt = 1 by omega).imp i_eq.mpr i_eq.mpr), rfl⟩, ⟨⟨by omega, by omega⟩, rfl⟩, ⟨⟨by omega, by omega⟩, rfl⟩, ⟨by omega, by omega⟩, ⟨by omega, by omega⟩, rfl⟩
        have hh95 : pm_lo w0 w92 := by rw [e93]; exact hh87.set (by decide) _
        have h96 := r_get_ne e93 (show 59 ≠ 80 by decide) h88
        have h97 := r_get_ne e93 (show 59 ≠ 81 by decide) h89
        have h98 := r_get_ne e93 (show 59 ≠ 84 by decide) h90
        have h99 := r_get_eq e93 h91
        have hfe6 := (rfl : (gi 1) = (gi 1))
        refine v_weak (L_X12_weave (w0 := w0) (gi := (pm_uI (pm_uI (pm_uI gi 9 (1 : Int32)) 12 (gi 0)) 13 (gi 1))) (ga := ga) (show pm_Rg _ _ from hR) hI94 hh95 xs73 h98 xs73l (by omega)) (fun rv w9 hq9 => ?_)
        obtain ⟨v, A, q0, q1, q2, q3, q4⟩ := hq9
        exact ⟨v, xs73, A, fs23, os24, v19, q0, v19k, by omega, t75, q1, q2, q3, q4⟩
      refine v_aload_n rfl rfl ?_
      refine v_get rfl h59 rfl ?_
      refine v_iconst (v := 2) rfl (by decide) ?_
      obtain ⟨h100A, h100B, h100C, h100D, h100F⟩ := hI57.flt
      have h100A : w56[62]? = some (.inl (0, .inl (ga 25))) := h100A
      have h100C : List.length (ga 25) = 4 := h100C
      have h100B : w56[63]? = some (.inl (0, .inl (ga 26))) := h100B
      have h100D : List.length (ga 26) = 4 := h100D
      refine r_iaload rfl h100A h100C (by omega) (by omega) (fun z101 z101m z101g => ?_)
      have z101t : z101.toInt = ((ga 25).getD 2 0).toInt := congrArg Int32.toInt z101g
      refine r_if_lt rfl (fun t102 => ?_) (fun t102 => ?_)
      · exact K74 w56 xs63 hI57 hh58 h59 h60 h61 h62 xs63l (by
            intro x y hx hy
            unfold wm3
            rw [if_neg (by omega)]
            exact t65 x y hx hy)
      · refine v_aload_n rfl rfl ?_
        refine v_get rfl h59 rfl ?_
        refine v_iconst (v := 2) rfl (by decide) ?_
        refine r_iaload rfl h100A h100C (by omega) (by omega) (fun z103 z103m z103g => ?_)
        have z103t : z103.toInt = ((ga 25).getD 2 0).toInt := congrArg Int32.toInt z103g
        refine v_aload_n rfl rfl ?_
        refine v_get rfl h59 rfl ?_
        refine r_icmp_ge rfl (fun t104 => ?_) (fun t104 => ?_)
        · exact K74 w56 xs63 hI57 hh58 h59 h60 h61 h62 xs63l (by
              intro x y hx hy
              unfold wm3
              rw [if_neg (by omega)]
              exact t65 x y hx hy)
        · refine v_aload_n rfl rfl ?_
          refine v_aload_n rfl rfl ?_
          refine v_get rfl h59 rfl ?_
          refine v_iconst (v := 2) rfl (by decide) ?_
          refine r_iaload rfl h100A h100C (by omega) (by omega) (fun z105 z105m z105g => ?_)
          have z105t : z105.toInt = ((ga 25).getD 2 0).toInt := congrArg Int32.toInt z105g
          skip
          refine v_callV rfl (W_X12_skip_59_x z105 v15 v16 v17 v18 v19 v20 v21 v22 os24 fs23 xs63 (by omega) (by omega) (by omega) (by omega) (by omega) (by omega) (by omega) (by omega) (by omega) (by omega) (by omega) (by omega) (by omega) h59 h60 os24l os24r h61 fs23l fs23r h62 xs63l hR hI57 hh58) rfl rfl h59 rfl rfl (by omega) (fun rv w106 hq107 => ?_)
          obtain ⟨rfl, hI109, hh110, ⟨sh111, h112, h113, h114, h115, sh111l, sh111f⟩⟩ := hq107
          skip
          exact K74 w106 sh111 hI109 hh110 h112 h113 h114 h115 sh111l (by
              intro x y hx hy
              rw [sh111f x y hx hy]
              unfold wm3
              by_cases e : z105.toInt.toNat ≤ y
              · rw [if_pos e, if_pos (show 0 ≤ ((ga 25).getD 2 0).toInt ∧ ((ga 25).getD 2 0).toInt < ((gi 1).toInt.toNat : Int) ∧ ((ga 25).getD 2 0).toInt ≤ (y : Int) by omega)]
                by_cases e2 : y + 1 < (gi 1).toInt.toNat
                · rw [if_pos e2, if_pos e2]
                  exact t65 x (y + 1) hx e2
                · rw [if_neg e2, if_neg e2]
              · rw [if_neg e, if_neg (by omega)]
                exact t65 x y hx hy)
    refine v_aload_n rfl rfl ?_
    refine v_get rfl h49 rfl ?_
    refine v_iconst (v := 1) rfl (by decide) ?_
    obtain ⟨h116A, h116B, h116C, h116D, h116F⟩ := hI47.flt
    have h116A : w46[62]? = some (.inl (0, .inl (ga 25))) := h116A
    have h116C : List.length (ga 25) = 4 := h116C
    have h116B : w46[63]? = some (.inl (0, .inl (ga 26))) := h116B
    have h116D : List.length (ga 26) = 4 := h116D
    refine r_iaload rfl h116A h116C (by omega) (by omega) (fun z117 z117m z117g => ?_)
    have z117t : z117.toInt = ((ga 25).getD 1 0).toInt := congrArg Int32.toInt z117g
    refine r_if_lt rfl (fun t118 => ?_) (fun t118 => ?_)
    · exact K64 w46 xs53 hI47 hh48 h49 h50 h51 h52 xs53l (by
          intro x y hx hy
          unfold wm2
          rw [if_neg (by omega)]
          exact t55 x y hx hy)
    · refine v_aload_n rfl rfl ?_
      refine v_get rfl h49 rfl ?_
      refine v_iconst (v := 1) rfl (by decide) ?_
      refine r_iaload rfl h116A h116C (by omega) (by omega) (fun z119 z119m z119g => ?_)
      have z119t : z119.toInt = ((ga 25).getD 1 0).toInt := congrArg Int32.toInt z119g
      refine v_aload_n rfl rfl ?_
      refine v_get rfl h49 rfl ?_
      refine r_icmp_ge rfl (fun t120 => ?_) (fun t120 => ?_)
      · exact K64 w46 xs53 hI47 hh48 h49 h50 h51 h52 xs53l (by
            intro x y hx hy
            unfold wm2
            rw [if_neg (by omega)]
            exact t55 x y hx hy)
      · refine v_aload_n rfl rfl ?_
        refine v_aload_n rfl rfl ?_
        refine v_get rfl h49 rfl ?_
        refine v_iconst (v := 1) rfl (by decide) ?_
        refine r_iaload rfl h116A h116C (by omega) (by omega) (fun z121 z121m z121g => ?_)
        have z121t : z121.toInt = ((ga 25).getD 1 0).toInt := congrArg Int32.toInt z121g
        refine v_callV rfl (W_X12_breakCord_59_x z121 v15 v16 v17 v18 v19 v20 v21 v22 os24 fs23 xs53 (by omega) (by omega) (by omega) (by omega) (by omega) (by omega) (by omega) (by omega) (by omega) (by omega) h49 h50 os24l os24r h51 fs23l fs23r h52 xs53l hR hI47 hh48) rfl rfl h49 rfl rfl (by omega) (fun rv w122 hq123 => ?_)
        obtain ⟨rfl, hI125, hh126, ⟨sh127, h128, h129, h130, h131, sh127l, sh127f⟩⟩ := hq123
        skip
        exact K64 w122 sh127 hI125 hh126 h128 h129 h130 h131 sh127l (by
            intro x y hx hy
            rw [sh127f x y hx hy]
            unfold wm2
            by_cases e : sq_lk os24 x = ((ga 25).getD 1 0).toInt
            · rw [if_pos (by omega), if_pos ⟨by omega, by omega, e⟩]
            · rw [if_neg (by omega), if_neg (fun q => e q.2.2)]
              exact t55 x y hx hy)
  refine v_aload_n rfl rfl ?_
  refine v_get rfl h42 rfl ?_
  refine v_iconst (v := 3) rfl (by decide) ?_
  obtain ⟨h132A, h132B, h132C, h132D, h132F⟩ := hI39.flt
  have h132A : w36[62]? = some (.inl (0, .inl (ga 25))) := h132A
  have h132C : List.length (ga 25) = 4 := h132C
  have h132B : w36[63]? = some (.inl (0, .inl (ga 26))) := h132B
  have h132D : List.length (ga 26) = 4 := h132D
  refine r_iaload rfl h132A h132C (by omega) (by omega) (fun z133 z133m z133g => ?_)
  have z133t : z133.toInt = ((ga 25).getD 3 0).toInt := congrArg Int32.toInt z133g
  refine r_if_lt rfl (fun t134 => ?_) (fun t134 => ?_)
  · exact K54 w36 sh41 hI39 hh40 h42 h43 h44 h45 sh41l (by
        intro x y hx hy
        unfold wm1
        rw [if_neg (by omega)]
        exact sh41f _ (by omega))
  · refine v_aload_n rfl rfl ?_
    refine v_get rfl h42 rfl ?_
    refine v_iconst (v := 3) rfl (by decide) ?_
    refine r_iaload rfl h132A h132C (by omega) (by omega) (fun z135 z135m z135g => ?_)
    have z135t : z135.toInt = ((ga 25).getD 3 0).toInt := congrArg Int32.toInt z135g
    refine v_aload_n rfl rfl ?_
    refine v_get rfl h42 rfl ?_
    refine r_icmp_ge rfl (fun t136 => ?_) (fun t136 => ?_)
    · exact K54 w36 sh41 hI39 hh40 h42 h43 h44 h45 sh41l (by
          intro x y hx hy
          unfold wm1
          rw [if_neg (by omega)]
          exact sh41f _ (by omega))
    · refine v_aload_n rfl rfl ?_
      refine v_get rfl h42 rfl ?_
      refine v_iconst (v := 3) rfl (by decide) ?_
      refine r_iaload rfl h132B h132D (by omega) (by omega) (fun z137 z137m z137g => ?_)
      have z137t : z137.toInt = ((ga 26).getD 3 0).toInt := congrArg Int32.toInt z137g
      refine v_aload_n rfl rfl ?_
      refine v_get rfl h42 rfl ?_
      refine r_icmp_ge rfl (fun t138 => ?_) (fun t138 => ?_)
      · exact K54 w36 sh41 hI39 hh40 h42 h43 h44 h45 sh41l (by
            intro x y hx hy
            unfold wm1
            rw [if_neg (by omega)]
            exact sh41f _ (by omega))
      · refine v_aload_n rfl rfl ?_
        refine v_aload_n rfl rfl ?_
        refine v_get rfl h42 rfl ?_
        refine v_iconst (v := 3) rfl (by decide) ?_
        refine r_iaload rfl h132A h132C (by omega) (by omega) (fun z139 z139m z139g => ?_)
        have z139t : z139.toInt = ((ga 25).getD 3 0).toInt := congrArg Int32.toInt z139g
        skip
        refine v_aload_n rfl rfl ?_
        refine v_get rfl h42 rfl ?_
        refine v_iconst (v := 3) rfl (by decide) ?_
        refine r_iaload rfl h132B h132D (by omega) (by omega) (fun z140 z140m z140g => ?_)
        have z140t : z140.toInt = ((ga 26).getD 3 0).toInt := congrArg Int32.toInt z140g
        skip
        refine v_callV rfl (W_X12_cross_59_x z139 z140 v15 v16 v17 v18 v19 v20 v21 v22 os24 fs23 sh41 (by omega) (by omega) (by omega) (by omega) (by omega) (by omega) (by omega) (by omega) (by omega) (by omega) (by omega) (by omega) (by omega) (by omega) h42 h43 os24l os24r h44 fs23l fs23r h45 sh41l hR hI39 hh40) rfl rfl h42 rfl rfl (by omega) (fun rv w141 hq142 => ?_)
        obtain ⟨rfl, hI144, hh145, ⟨sh146, h147, h148, h149, h150, sh146l, sh146f⟩⟩ := hq142
        skip
        exact K54 w141 sh146 hI144 hh145 h147 h148 h149 h150 sh146l (by
            intro x y hx hy
            rw [sh146f x y hx hy]
            unfold wm1
            rw [if_pos (show 0 ≤ ((ga 25).getD 3 0).toInt ∧ ((ga 25).getD 3 0).toInt < v19.toInt ∧ ((ga 26).getD 3 0).toInt < v19.toInt by omega), z139t, z140t, sh41f _ (by omega)]
            rfl)

