theorem bs_drop {q : List Nat} {i : Nat} (h : i < q.length) : q.drop i = q.getD i 0 :: q.drop (i + 1) := by
  rw [List.drop_eq_getElem_cons h, List.getD_eq_getElem?_getD, List.getElem?_eq_getElem h]
  rfl
theorem bs_v_nn {gi : Nat → Int32} {ga : Nat → List Int32} (k : Nat) : 0 ≤ bs_v gi ga k := bs_sum_nn _ _ _
theorem bs_pos_lt {d : List Int32} {p : Nat} : ∀ m, bs_pos d m p ≤ m := fun m => by
  induction m with
  | zero => exact Nat.le_refl _
  | succ m ih =>
    show (if (d.getD m 0).toInt < 0 ∧ bs_no d m = p then m else bs_pos d m p) ≤ m + 1
    split <;> omega
theorem bs_O_lt {gi : Nat → Int32} {ga : Nat → List Int32} (p : Nat) (h : (gi 7).toInt ≤ 12) : bs_O gi ga p ≤ 12 := by
  have q := bs_pos_lt (d := ga 3) (p := p) (gi 7).toInt.toNat
  show bs_pos (ga 3) (gi 7).toInt.toNat p ≤ 12
  omega
set_option maxRecDepth 100000 in
theorem W_X12_findBest_59_x {sc : pm_S} {w w0 : pm_W} {gi : Nat → Int32} {ga : Nat → List Int32} (c59_4 : Int32) (c59_5 : Int32) (c59_6 : Int32) (c59_14 : Int32) (c59_35 : Int32) (c59_39 : Int32) (c59_40 : Int32) (c59_42 : Int32) (c85 : List Int32) (p0 : c59_42.toInt ≤ 7) (p1 : c59_42.toInt = ((bs_n gi ga) : Int)) (p2 : bs_op (ga 3) (gi 7).toInt.toNat c85) (p3 : 0 ≤ c59_4.toInt) (p4 : c59_4.toInt ≤ 1) (p5 : 0 ≤ c59_5.toInt) (p6 : c59_5.toInt ≤ 20) (p7 : 0 ≤ c59_6.toInt) (p8 : c59_6.toInt ≤ 20) (p9 : 0 ≤ c59_35.toInt) (p10 : c59_35.toInt ≤ 20) (p11 : 0 ≤ c59_42.toInt) (p12 : c59_42.toInt ≤ 12) (hc59 : w[59]? = some (.inr (12, [.int (gi 0), .int (gi 1), .ref 60, .int (gi 2), .int c59_4, .int c59_5, .int c59_6, .ref 61, .ref 62, .ref 63, .int (gi 5), .int (gi 3), .int (gi 4), .int (gi 6), .int c59_14, .int (gi 7), .ref 64, .ref 65, .ref 66, .ref 67, .int (gi 8), .ref 68, .ref 69, .ref 70, .ref 71, .ref 72, .ref 73, .ref 74, .ref 75, .ref 76, .ref 77, .ref 78, .ref 79, .ref 80, .ref 81, .int c59_35, .ref 82, .ref 83, .ref 84, .int c59_39, .int c59_40, .ref 85, .int c59_42, .ref 86, .ref 87]))) (hc85 : w[85]? = some (.inl (0, .inl c85))) (hl85 : c85.length = 7) (hr85 : ∀ x ∈ c85, pm_rng x (0) 11) (hR : pm_Rg gi ga) (hI : pm_IM gi ga w) (hh : pm_lo w0 w) : pm_Mt sc 1 165 8 [.ref 59] w (fun rv w' => ∃ (v : Int32) (br : List Int32), rv = some (.int v) ∧ pm_IM gi ga w' ∧ pm_lo w0 w' ∧ w'[59]? = some (.inr (12, [.int (gi 0), .int (gi 1), .ref 60, .int (gi 2), .int c59_4, .int c59_5, .int c59_6, .ref 61, .ref 62, .ref 63, .int (gi 5), .int (gi 3), .int (gi 4), .int (gi 6), .int c59_14, .int (gi 7), .ref 64, .ref 65, .ref 66, .ref 67, .int (gi 8), .ref 68, .ref 69, .ref 70, .ref 71, .ref 72, .ref 73, .ref 74, .ref 75, .ref 76, .ref 77, .ref 78, .ref 79, .ref 80, .ref 81, .int c59_35, .ref 82, .ref 83, .ref 84, .int c59_39, .int c59_40, .ref 85, .int c59_42, .ref 86, .ref 87])) ∧ w'[87]? = some (.inl (0, .inl br)) ∧ br.length = 7 ∧ (∀ x ∈ br, pm_rng x (0) 11) ∧ bs_W gi ga v.toInt br) := by
  intro d hd
  obtain ⟨g0a, g0b⟩ := hR.n0
  obtain ⟨g1a, g1b⟩ := hR.n1
  obtain ⟨g2a, g2b⟩ := hR.n2
  obtain ⟨g3a, g3b⟩ := hR.n3
  obtain ⟨g4a, g4b⟩ := hR.n4
  obtain ⟨g5a, g5b⟩ := hR.n5
  obtain ⟨g6a, g6b⟩ := hR.n6
  obtain ⟨g7a, g7b⟩ := hR.n7
  obtain ⟨g8a, g8b⟩ := hR.n8
  have km1 : (-1 : Int32).toInt = -1 := by decide
  have k0 : (0 : Int32).toInt = 0 := by decide
  have k1 : (1 : Int32).toInt = 1 := by decide
  have k2 : (2 : Int32).toInt = 2 := by decide
  show pm_V sc d 165 0 [.ref 59, .null, .null, .null, .null, .null, .null, .null] [] w _
  have hop : bs_op (ga 3) (gi 7).toInt.toNat c85 := by assumption
  refine v_iconst (v := 1) rfl (by decide) ?_
  refine v_istore_n rfl (Nat.le_of_ble_eq_true rfl) ?_
  refine v_iconst (v := 2) rfl (by decide) ?_
  refine v_istore_n rfl (Nat.le_of_ble_eq_true rfl) ?_
  have L3 : ∀ (n3 : Nat) (l1 : Int32) (l2 : Int32), 1 ≤ l1.toInt → l1.toInt ≤ 5040 → 2 ≤ l2.toInt → l2.toInt ≤ 8 → (l2.toInt ≤ c59_42.toInt + 1 ∨ l2.toInt = 2) → (pm_fac l1.toInt (l2.toInt - 1)) → (8 - l2.toInt).toNat < n3 → pm_V sc d 165 4 [.ref 59, .int l1, .int l2, .null, .null, .null, .null, .null] [] w (fun rv w' => ∃ (v : Int32) (br : List Int32), rv = some (.int v) ∧ pm_IM gi ga w' ∧ pm_lo w0 w' ∧ w'[59]? = some (.inr (12, [.int (gi 0), .int (gi 1), .ref 60, .int (gi 2), .int c59_4, .int c59_5, .int c59_6, .ref 61, .ref 62, .ref 63, .int (gi 5), .int (gi 3), .int (gi 4), .int (gi 6), .int c59_14, .int (gi 7), .ref 64, .ref 65, .ref 66, .ref 67, .int (gi 8), .ref 68, .ref 69, .ref 70, .ref 71, .ref 72, .ref 73, .ref 74, .ref 75, .ref 76, .ref 77, .ref 78, .ref 79, .ref 80, .ref 81, .int c59_35, .ref 82, .ref 83, .ref 84, .int c59_39, .int c59_40, .ref 85, .int c59_42, .ref 86, .ref 87])) ∧ w'[87]? = some (.inl (0, .inl br)) ∧ br.length = 7 ∧ (∀ x ∈ br, pm_rng x (0) 11) ∧ bs_W gi ga v.toInt br) := by
    intro n3
    induction n3 with
    | zero => intro l1 l2 t5 t6 t7 t8 t9 t10 hm4; exact absurd hm4 (Nat.not_lt_zero _)
    | succ n3 ih4_3 =>
      intro l1 l2 t5 t6 t7 t8 t9 t10 hm4
      refine v_iload_n rfl rfl ?_
      refine v_aload_n rfl rfl ?_
      refine v_get rfl hc59 rfl ?_
      refine r_icmp_gt rfl (fun t11 => ?_) (fun t11 => ?_)
      · have hfac := t10.out (m := c59_42.toInt) (by omega) (by omega) (by omega)
        have hfr := hfac.rng
        refine v_iconst (v := (-1)) rfl (by decide) ?_
        refine v_istore_n rfl (Nat.le_of_ble_eq_true rfl) ?_
        refine v_iconst (v := 0) rfl (by decide) ?_
        refine v_istore_n rfl (Nat.le_of_ble_eq_true rfl) ?_
        obtain ⟨xs13, xs13l, xs13r, h12⟩ := hI.2.1 87 (by decide) (by decide)
        have L27 : ∀ (n27 : Nat) (l14 : Int32) (l15 : Int32) (u16 : Value) (u17 : Value) (u18 : Value) (u19 : Value) (w20 : pm_W) (xs26 : List Int32), pm_IM gi ga w20 → pm_lo w0 w20 → w20[59]? = some (.inr (12, [.int (gi 0), .int (gi 1), .ref 60, .int (gi 2), .int c59_4, .int c59_5, .int c59_6, .ref 61, .ref 62, .ref 63, .int (gi 5), .int (gi 3), .int (gi 4), .int (gi 6), .int c59_14, .int (gi 7), .ref 64, .ref 65, .ref 66, .ref 67, .int (gi 8), .ref 68, .ref 69, .ref 70, .ref 71, .ref 72, .ref 73, .ref 74, .ref 75, .ref 76, .ref 77, .ref 78, .ref 79, .ref 80, .ref 81, .int c59_35, .ref 82, .ref 83, .ref 84, .int c59_39, .int c59_40, .ref 85, .int c59_42, .ref 86, .ref 87])) → w20[85]? = some (.inl (0, .inl c85)) → w20[87]? = some (.inl (0, .inl xs26)) → xs26.length = 7 → (∀ x ∈ xs26, pm_rng x (0) 11) → (-1) ≤ l14.toInt → l14.toInt ≤ 28000 → 0 ≤ l15.toInt → l15.toInt ≤ 5040 → (l15.toInt ≤ l1.toInt) → ((l15.toInt = 0 ∧ l14.toInt = -1) ∨ (∃ q, bs_fm (bs_v gi ga) l15.toInt.toNat l14.toInt q ∧ bs_rw gi ga xs26 ((bs_seq (bs_n gi ga) (bs_n gi ga) 0) q))) → (5040 - l15.toInt).toNat < n27 → pm_V sc d 165 26 [.ref 59, .int l1, .int l14, .int l15, u16, u17, u18, u19] [] w20 (fun rv w' => ∃ (v : Int32) (br : List Int32), rv = some (.int v) ∧ pm_IM gi ga w' ∧ pm_lo w0 w' ∧ w'[59]? = some (.inr (12, [.int (gi 0), .int (gi 1), .ref 60, .int (gi 2), .int c59_4, .int c59_5, .int c59_6, .ref 61, .ref 62, .ref 63, .int (gi 5), .int (gi 3), .int (gi 4), .int (gi 6), .int c59_14, .int (gi 7), .ref 64, .ref 65, .ref 66, .ref 67, .int (gi 8), .ref 68, .ref 69, .ref 70, .ref 71, .ref 72, .ref 73, .ref 74, .ref 75, .ref 76, .ref 77, .ref 78, .ref 79, .ref 80, .ref 81, .int c59_35, .ref 82, .ref 83, .ref 84, .int c59_39, .int c59_40, .ref 85, .int c59_42, .ref 86, .ref 87])) ∧ w'[87]? = some (.inl (0, .inl br)) ∧ br.length = 7 ∧ (∀ x ∈ br, pm_rng x (0) 11) ∧ bs_W gi ga v.toInt br) := by
          intro n27
          induction n27 with
          | zero => intro l14 l15 u16 u17 u18 u19 w20 xs26 hI21 hh22 h23 h24 h25 xs26l xs26r t29 t30 t31 t32 t33 t34 hm28; exact absurd hm28 (Nat.not_lt_zero _)
          | succ n27 ih26_27 =>
            intro l14 l15 u16 u17 u18 u19 w20 xs26 hI21 hh22 h23 h24 h25 xs26l xs26r t29 t30 t31 t32 t33 t34 hm28
            refine v_iload_n rfl rfl ?_
            refine v_iload_n rfl rfl ?_
            refine r_icmp_ge rfl (fun t35 => ?_) (fun t35 => ?_)
            · refine v_iload_n rfl rfl ?_
              exact v_iret rfl ⟨_, xs26, rfl, hI21, hh22, h23, h25, xs26l, xs26r, (by
      have hf := hfac.f
      rcases t34 with ⟨q1, q2⟩ | q1
      · omega
      · rw [show l15.toInt.toNat = bs_f (bs_n gi ga) by rw [show (c59_42.toInt).toNat = (bs_n gi ga) by omega] at hf; omega] at q1
        exact q1)⟩
            · refine v_aload_n rfl rfl ?_
              refine v_iload_n rfl rfl ?_
              have hlt33 : pm_ltf l15.toInt c59_42.toInt := hfac.ltf (by omega)
              refine v_callV rfl (W_X12_findRow_59_x l15 c59_4 c59_5 c59_6 c59_14 c59_35 c59_39 c59_40 c59_42 c85 (by omega) (by omega) (by omega) hlt33 (by omega) hop (by omega) (by omega) (by omega) (by omega) (by omega) (by omega) (by omega) (by omega) (by omega) (by omega) h23 h24 hl85 hr85 hR hI21 hh22) rfl rfl h23 rfl rfl (by omega) (fun rv w36 hq37 => ?_)
              obtain ⟨rfl, hI38, hh39, rw42, h40, h41, h43, rw42l, rw42r, rw42w⟩ := hq37
              refine v_aload_n rfl rfl ?_
              refine v_get rfl h40 rfl ?_
              refine v_istore rfl (Nat.le_of_ble_eq_true rfl) ?_
              refine v_aload_n rfl rfl ?_
              refine v_get rfl h40 rfl ?_
              refine v_istore rfl (Nat.le_of_ble_eq_true rfl) ?_
              refine v_iconst (v := 0) rfl (by decide) ?_
              refine v_istore rfl (Nat.le_of_ble_eq_true rfl) ?_
              refine v_iconst (v := 0) rfl (by decide) ?_
              refine v_istore rfl (Nat.le_of_ble_eq_true rfl) ?_
              have L48 : ∀ (n48 : Nat) (l44 : Int32) (l45 : Int32) (l46 : Int32) (l47 : Int32), 0 ≤ l44.toInt → l44.toInt ≤ 4000 → (-9) ≤ l45.toInt → l45.toInt ≤ 5 → 0 ≤ l46.toInt → l46.toInt ≤ 28000 → 0 ≤ l47.toInt → l47.toInt ≤ 7 → (l47.toInt ≤ c59_42.toInt) → (l44.toInt ≤ 3000 + 138 * l47.toInt) → (l46.toInt ≤ 4000 * l47.toInt) → (l46.toInt + bs_sum (bs_C gi ga) (bs_L gi ga) (bs_D gi ga) (List.drop l47.toInt.toNat ((bs_seq (bs_n gi ga) (bs_n gi ga) 0) l15.toInt.toNat)) l44.toInt l45.toInt = bs_v gi ga l15.toInt.toNat) → (7 - l47.toInt).toNat < n48 → pm_V sc d 165 54 [.ref 59, .int l1, .int l14, .int l15, .int l44, .int l45, .int l46, .int l47] [] w36 (fun rv w' => ∃ (v : Int32) (br : List Int32), rv = some (.int v) ∧ pm_IM gi ga w' ∧ pm_lo w0 w' ∧ w'[59]? = some (.inr (12, [.int (gi 0), .int (gi 1), .ref 60, .int (gi 2), .int c59_4, .int c59_5, .int c59_6, .ref 61, .ref 62, .ref 63, .int (gi 5), .int (gi 3), .int (gi 4), .int (gi 6), .int c59_14, .int (gi 7), .ref 64, .ref 65, .ref 66, .ref 67, .int (gi 8), .ref 68, .ref 69, .ref 70, .ref 71, .ref 72, .ref 73, .ref 74, .ref 75, .ref 76, .ref 77, .ref 78, .ref 79, .ref 80, .ref 81, .int c59_35, .ref 82, .ref 83, .ref 84, .int c59_39, .int c59_40, .ref 85, .int c59_42, .ref 86, .ref 87])) ∧ w'[87]? = some (.inl (0, .inl br)) ∧ br.length = 7 ∧ (∀ x ∈ br, pm_rng x (0) 11) ∧ bs_W gi ga v.toInt br) := by
                intro n48
                induction n48 with
                | zero => intro l44 l45 l46 l47 t50 t51 t52 t53 t54 t55 t56 t57 t58 t59 t60 t61 hm49; exact absurd hm49 (Nat.not_lt_zero _)
                | succ n48 ih54_48 =>
                  intro l44 l45 l46 l47 t50 t51 t52 t53 t54 t55 t56 t57 t58 t59 t60 t61 hm49
                  refine v_iload rfl rfl ?_
                  refine v_aload_n rfl rfl ?_
                  refine v_get rfl h40 rfl ?_
                  refine r_icmp_ge rfl (fun t62 => ?_) (fun t62 => ?_)
                  · refine v_iload_n rfl rfl ?_
                    refine r_if_lt rfl (fun t63 => ?_) (fun t63 => ?_)
                    · refine v_iload rfl rfl ?_
                      refine v_istore_n rfl (Nat.le_of_ble_eq_true rfl) ?_
                      refine v_iconst (v := 0) rfl (by decide) ?_
                      refine v_istore rfl (Nat.le_of_ble_eq_true rfl) ?_
                      obtain ⟨xs65, xs65l, xs65r, h64⟩ := hI38.2.1 87 (by decide) (by decide)
                      have L74 : ∀ (n74 : Nat) (l66 : Int32) (w67 : pm_W) (xs73 : List Int32), pm_IM gi ga w67 → pm_lo w0 w67 → w67[59]? = some (.inr (12, [.int (gi 0), .int (gi 1), .ref 60, .int (gi 2), .int c59_4, .int c59_5, .int c59_6, .ref 61, .ref 62, .ref 63, .int (gi 5), .int (gi 3), .int (gi 4), .int (gi 6), .int c59_14, .int (gi 7), .ref 64, .ref 65, .ref 66, .ref 67, .int (gi 8), .ref 68, .ref 69, .ref 70, .ref 71, .ref 72, .ref 73, .ref 74, .ref 75, .ref 76, .ref 77, .ref 78, .ref 79, .ref 80, .ref 81, .int c59_35, .ref 82, .ref 83, .ref 84, .int c59_39, .int c59_40, .ref 85, .int c59_42, .ref 86, .ref 87])) → w67[85]? = some (.inl (0, .inl c85)) → w67[87]? = some (.inl (0, .inl xs73)) → xs73.length = 7 → (∀ x ∈ xs73, pm_rng x (0) 11) → 0 ≤ l66.toInt → l66.toInt ≤ 7 → (l66.toInt ≤ c59_42.toInt) → (∀ j, j < l66.toInt.toNat → xs73.getD j 0 = rw42.getD j 0) → (7 - l66.toInt).toNat < n74 → pm_V sc d 165 158 [.ref 59, .int l1, .int l46, .int l15, .int l44, .int l45, .int l46, .int l66] [] w67 (fun rv w' => ∃ (v : Int32) (br : List Int32), rv = some (.int v) ∧ pm_IM gi ga w' ∧ pm_lo w0 w' ∧ w'[59]? = some (.inr (12, [.int (gi 0), .int (gi 1), .ref 60, .int (gi 2), .int c59_4, .int c59_5, .int c59_6, .ref 61, .ref 62, .ref 63, .int (gi 5), .int (gi 3), .int (gi 4), .int (gi 6), .int c59_14, .int (gi 7), .ref 64, .ref 65, .ref 66, .ref 67, .int (gi 8), .ref 68, .ref 69, .ref 70, .ref 71, .ref 72, .ref 73, .ref 74, .ref 75, .ref 76, .ref 77, .ref 78, .ref 79, .ref 80, .ref 81, .int c59_35, .ref 82, .ref 83, .ref 84, .int c59_39, .int c59_40, .ref 85, .int c59_42, .ref 86, .ref 87])) ∧ w'[87]? = some (.inl (0, .inl br)) ∧ br.length = 7 ∧ (∀ x ∈ br, pm_rng x (0) 11) ∧ bs_W gi ga v.toInt br) := by
                        intro n74
                        induction n74 with
                        | zero => intro l66 w67 xs73 hI68 hh69 h70 h71 h72 xs73l xs73r t76 t77 t78 t79 hm75; exact absurd hm75 (Nat.not_lt_zero _)
                        | succ n74 ih158_74 =>
                          intro l66 w67 xs73 hI68 hh69 h70 h71 h72 xs73l xs73r t76 t77 t78 t79 hm75
                          refine v_iload rfl rfl ?_
                          refine v_aload_n rfl rfl ?_
                          refine v_get rfl h70 rfl ?_
                          refine r_icmp_ge rfl (fun t80 => ?_) (fun t80 => ?_)
                          · refine r_iinc rfl rfl (by decide) (by omega) (by omega) (fun z81 z81e => ?_)
                            refine v_goto rfl ?_
                            exact ih26_27 l46 z81 (.int l44) (.int l45) (.int l46) (.int l66) w67 xs73 hI68 hh69 h70 h71 h72 xs73l xs73r (by omega) (by omega) (by omega) (by omega) (by omega) (by
                                have hv : l46.toInt = bs_v gi ga l15.toInt.toNat := by
                                  have q := t61
                                  rw [List.drop_of_length_le (by rw [bs_seq_len]; omega)] at q
                                  have q : l46.toInt + 0 = _ := q
                                  omega
                                refine Or.inr ⟨l15.toInt.toNat, ?_, fun i hi => by rw [t79 i (by omega)]; exact rw42w i hi⟩
                                rw [show z81.toInt.toNat = l15.toInt.toNat + 1 by omega, hv]
                                rcases t34 with ⟨q1, q2⟩ | ⟨q, q1, q2⟩
                                · rw [show l15.toInt.toNat = 0 by omega]
                                  exact bs_fm.zero
                                · have q3 := q1.2.1
                                  have q4 := bs_v_nn (gi := gi) (ga := ga) q
                                  exact q1.less (by rw [← hv]; omega)) (by omega)
                          · refine v_aload_n rfl rfl ?_
                            refine v_get rfl h70 rfl ?_
                            refine v_iload rfl rfl ?_
                            refine v_aload_n rfl rfl ?_
                            refine v_get rfl h70 rfl ?_
                            refine v_iload rfl rfl ?_
                            obtain ⟨xs83, xs83l, xs83r, h82⟩ := hI68.2.1 86 (by decide) (by decide)
                            refine r_iaload rfl h82 xs83l (by omega) (by omega) (fun z84 z84m z84g => ?_)
                            obtain ⟨z84a, z84b⟩ := xs83r z84 z84m
                            skip
                            refine r_iastx rfl h72 xs73l (by omega) (by omega) (fun ys85 ys85l ys85m ys85g ys85n => ?_)
                            have ys85r := r_rng ys85m xs73r (by omega) (by omega)
                            refine r_gen (w' := w67.set 87 (.inl (0, .inl ys85))) (fun w86 e87 => ?_)
                            have hI88 : pm_IM gi ga w86 := by rw [e87]; exact hI68.set 87 (by decide) (by decide) (by decide) (by decide) ⟨ys85, ys85l, ys85r, rfl⟩
                            have hh89 : pm_lo w0 w86 := by rw [e87]; exact hh69.set (by decide) _
                            have h90 := r_get_ne e87 (show 87 ≠ 59 by decide) h70
                            have h91 := r_get_ne e87 (show 87 ≠ 85 by decide) h71
                            have h92 := r_get_ne e87 (show 87 ≠ 86 by decide) h82
                            have h93 := r_get_eq e87 h72
                            refine r_iinc rfl rfl (by decide) (by omega) (by omega) (fun z94 z94e => ?_)
                            refine v_goto rfl ?_
                            exact ih158_74 z94 w86 ys85 hI88 hh89 h90 h91 h93 ys85l ys85r (by omega) (by omega) (by omega) (by
                                intro j hj
                                by_cases ej : j = l66.toInt.toNat
                                · rw [ej, ys85g, z84g]
                                · rw [ys85n j ej]
                                  exact t79 j (by omega)) (by omega)
                      exact L74 _ (0 : Int32) w36 xs65 hI38 hh39 h40 h41 h64 xs65l xs65r (by omega) (by omega) (by omega) (by intro j hj; rw [show (0 : Int32).toInt.toNat = 0 from rfl] at hj; omega) (Nat.lt_add_one _)
                    · refine v_iload rfl rfl ?_
                      refine v_iload_n rfl rfl ?_
                      refine r_icmp_ge rfl (fun t95 => ?_) (fun t95 => ?_)
                      · refine r_iinc rfl rfl (by decide) (by omega) (by omega) (fun z96 z96e => ?_)
                        refine v_goto rfl ?_
                        obtain ⟨xs98, xs98l, xs98r, h97⟩ := hI38.2.1 87 (by decide) (by decide)
                        exact ih26_27 l14 z96 (.int l44) (.int l45) (.int l46) (.int l47) w36 xs98 hI38 hh39 h40 h41 h97 xs98l xs98r (by omega) (by omega) (by omega) (by omega) (by omega) (by
                            have hv : l46.toInt = bs_v gi ga l15.toInt.toNat := by
                              have q := t61
                              rw [List.drop_of_length_le (by rw [bs_seq_len]; omega)] at q
                              have q : l46.toInt + 0 = _ := q
                              omega
                            refine Or.inr ⟨l15.toInt.toNat, ?_, fun i hi => by rw [t79 i (by omega)]; exact rw42w i hi⟩
                            rw [show z96.toInt.toNat = l15.toInt.toNat + 1 by omega, hv]
                            rcases t34 with ⟨q1, q2⟩ | ⟨q, q1, q2⟩
                            · rw [show l15.toInt.toNat = 0 by omega]
                              exact bs_fm.zero
                            · have q3 := q1.2.1
                              have q4 := bs_v_nn (gi := gi) (ga := ga) q
                              exact q1.less (by rw [← hv]; omega)) (by omega)
                      · refine v_iload rfl rfl ?_
                        refine v_istore_n rfl (Nat.le_of_ble_eq_true rfl) ?_
                        refine v_iconst (v := 0) rfl (by decide) ?_
                        refine v_istore rfl (Nat.le_of_ble_eq_true rfl) ?_
                        obtain ⟨xs100, xs100l, xs100r, h99⟩ := hI38.2.1 87 (by decide) (by decide)
                        have L109 : ∀ (n109 : Nat) (l101 : Int32) (w102 : pm_W) (xs108 : List Int32), pm_IM gi ga w102 → pm_lo w0 w102 → w102[59]? = some (.inr (12, [.int (gi 0), .int (gi 1), .ref 60, .int (gi 2), .int c59_4, .int c59_5, .int c59_6, .ref 61, .ref 62, .ref 63, .int (gi 5), .int (gi 3), .int (gi 4), .int (gi 6), .int c59_14, .int (gi 7), .ref 64, .ref 65, .ref 66, .ref 67, .int (gi 8), .ref 68, .ref 69, .ref 70, .ref 71, .ref 72, .ref 73, .ref 74, .ref 75, .ref 76, .ref 77, .ref 78, .ref 79, .ref 80, .ref 81, .int c59_35, .ref 82, .ref 83, .ref 84, .int c59_39, .int c59_40, .ref 85, .int c59_42, .ref 86, .ref 87])) → w102[85]? = some (.inl (0, .inl c85)) → w102[87]? = some (.inl (0, .inl xs108)) → xs108.length = 7 → (∀ x ∈ xs108, pm_rng x (0) 11) → 0 ≤ l101.toInt → l101.toInt ≤ 7 → (l101.toInt ≤ c59_42.toInt) → (∀ j, j < l101.toInt.toNat → xs108.getD j 0 = rw42.getD j 0) → (7 - l101.toInt).toNat < n109 → pm_V sc d 165 158 [.ref 59, .int l1, .int l46, .int l15, .int l44, .int l45, .int l46, .int l101] [] w102 (fun rv w' => ∃ (v : Int32) (br : List Int32), rv = some (.int v) ∧ pm_IM gi ga w' ∧ pm_lo w0 w' ∧ w'[59]? = some (.inr (12, [.int (gi 0), .int (gi 1), .ref 60, .int (gi 2), .int c59_4, .int c59_5, .int c59_6, .ref 61, .ref 62, .ref 63, .int (gi 5), .int (gi 3), .int (gi 4), .int (gi 6), .int c59_14, .int (gi 7), .ref 64, .ref 65, .ref 66, .ref 67, .int (gi 8), .ref 68, .ref 69, .ref 70, .ref 71, .ref 72, .ref 73, .ref 74, .ref 75, .ref 76, .ref 77, .ref 78, .ref 79, .ref 80, .ref 81, .int c59_35, .ref 82, .ref 83, .ref 84, .int c59_39, .int c59_40, .ref 85, .int c59_42, .ref 86, .ref 87])) ∧ w'[87]? = some (.inl (0, .inl br)) ∧ br.length = 7 ∧ (∀ x ∈ br, pm_rng x (0) 11) ∧ bs_W gi ga v.toInt br) := by
                          intro n109
                          induction n109 with
                          | zero => intro l101 w102 xs108 hI103 hh104 h105 h106 h107 xs108l xs108r t111 t112 t113 t114 hm110; exact absurd hm110 (Nat.not_lt_zero _)
                          | succ n109 ih158_109 =>
                            intro l101 w102 xs108 hI103 hh104 h105 h106 h107 xs108l xs108r t111 t112 t113 t114 hm110
                            refine v_iload rfl rfl ?_
                            refine v_aload_n rfl rfl ?_
                            refine v_get rfl h105 rfl ?_
                            refine r_icmp_ge rfl (fun t115 => ?_) (fun t115 => ?_)
                            · refine r_iinc rfl rfl (by decide) (by omega) (by omega) (fun z116 z116e => ?_)
                              refine v_goto rfl ?_
                              exact ih26_27 l46 z116 (.int l44) (.int l45) (.int l46) (.int l101) w102 xs108 hI103 hh104 h105 h106 h107 xs108l xs108r (by omega) (by omega) (by omega) (by omega) (by omega) (by
                                  have hv : l46.toInt = bs_v gi ga l15.toInt.toNat := by
                                    have q := t61
                                    rw [List.drop_of_length_le (by rw [bs_seq_len]; omega)] at q
                                    have q : l46.toInt + 0 = _ := q
                                    omega
                                  refine Or.inr ⟨l15.toInt.toNat, ?_, fun i hi => by rw [t114 i (by omega)]; exact rw42w i hi⟩
                                  rw [show z116.toInt.toNat = l15.toInt.toNat + 1 by omega, hv]
                                  rcases t34 with ⟨q1, q2⟩ | ⟨q, q1, q2⟩
                                  · rw [show l15.toInt.toNat = 0 by omega]
                                    exact bs_fm.zero
                                  · have q3 := q1.2.1
                                    have q4 := bs_v_nn (gi := gi) (ga := ga) q
                                    exact q1.less (by rw [← hv]; omega)) (by omega)
                            · refine v_aload_n rfl rfl ?_
                              refine v_get rfl h105 rfl ?_
                              refine v_iload rfl rfl ?_
                              refine v_aload_n rfl rfl ?_
                              refine v_get rfl h105 rfl ?_
                              refine v_iload rfl rfl ?_
                              obtain ⟨xs118, xs118l, xs118r, h117⟩ := hI103.2.1 86 (by decide) (by decide)
                              refine r_iaload rfl h117 xs118l (by omega) (by omega) (fun z119 z119m z119g => ?_)
                              obtain ⟨z119a, z119b⟩ := xs118r z119 z119m
                              skip
                              refine r_iastx rfl h107 xs108l (by omega) (by omega) (fun ys120 ys120l ys120m ys120g ys120n => ?_)
                              have ys120r := r_rng ys120m xs108r (by omega) (by omega)
                              refine r_gen (w' := w102.set 87 (.inl (0, .inl ys120))) (fun w121 e122 => ?_)
                              have hI123 : pm_IM gi ga w121 := by rw [e122]; exact hI103.set 87 (by decide) (by decide) (by decide) (by decide) ⟨ys120, ys120l, ys120r, rfl⟩
                              have hh124 : pm_lo w0 w121 := by rw [e122]; exact hh104.set (by decide) _
                              have h125 := r_get_ne e122 (show 87 ≠ 59 by decide) h105
                              have h126 := r_get_ne e122 (show 87 ≠ 85 by decide) h106
                              have h127 := r_get_ne e122 (show 87 ≠ 86 by decide) h117
                              have h128 := r_get_eq e122 h107
                              refine r_iinc rfl rfl (by decide) (by omega) (by omega) (fun z129 z129e => ?_)
                              refine v_goto rfl ?_
                              exact ih158_109 z129 w121 ys120 hI123 hh124 h125 h126 h128 ys120l ys120r (by omega) (by omega) (by omega) (by
                                  intro j hj
                                  by_cases ej : j = l101.toInt.toNat
                                  · rw [ej, ys120g, z119g]
                                  · rw [ys120n j ej]
                                    exact t114 j (by omega)) (by omega)
                        exact L109 _ (0 : Int32) w36 xs100 hI38 hh39 h40 h41 h99 xs100l xs100r (by omega) (by omega) (by omega) (by intro j hj; rw [show (0 : Int32).toInt.toNat = 0 from rfl] at hj; omega) (Nat.lt_add_one _)
                  · refine v_iload rfl rfl ?_
                    refine v_aload_n rfl rfl ?_
                    refine v_aload_n rfl rfl ?_
                    refine v_get rfl h40 rfl ?_
                    refine v_iload rfl rfl ?_
                    refine r_iaload rfl h43 rw42l (by omega) (by omega) (fun z130 z130m z130g => ?_)
                    obtain ⟨z130a, z130b⟩ := rw42r z130 z130m
                    have z130O : z130.toInt.toNat = bs_O gi ga (((bs_seq (bs_n gi ga) (bs_n gi ga) 0) l15.toInt.toNat).getD l47.toInt.toNat 0) := by
                      rw [z130g, rw42w l47.toInt.toNat (by omega), nI_toInt (by have := bs_O_lt (gi := gi) (ga := ga) (((bs_seq (bs_n gi ga) (bs_n gi ga) 0) l15.toInt.toNat).getD l47.toInt.toNat 0) (by omega); omega), Int.toNat_natCast]
                    refine v_iload rfl rfl ?_
                    refine v_callV rfl (W_X12_daysOf_59_x z130 l45 (by omega) (by omega) hR hI38) rfl rfl h40 rfl rfl (by omega) (fun rv w131 hq132 => ?_)
                    obtain ⟨⟨z133, rfl, z133p0, z133p1, z133p2⟩, rfl⟩ := hq132
                    skip
                    refine r_iadd rfl (by omega) (by omega) (fun z134 z134e => ?_)
                    refine v_istore rfl (Nat.le_of_ble_eq_true rfl) ?_
                    refine v_aload_n rfl rfl ?_
                    refine v_get rfl h40 rfl ?_
                    refine v_aload_n rfl rfl ?_
                    refine v_get rfl h40 rfl ?_
                    refine v_iload rfl rfl ?_
                    refine r_iaload rfl h43 rw42l (by omega) (by omega) (fun z135 z135m z135g => ?_)
                    obtain ⟨z135a, z135b⟩ := rw42r z135 z135m
                    have z135E : z135 = z130 := by rw [z135g, z130g]
                    have h136 : _ = some _ := hI38.2.1 65 (by decide) (by decide)
                    refine r_iaload rfl h136 hR.l1 (by omega) (by omega) (fun z137 z137m z137g => ?_)
                    obtain ⟨z137a, z137b⟩ := hR.r1 z137 z137m
                    have z137h : z137.toInt = ((ga 1).getD z135.toInt.toNat 0).toInt := congrArg Int32.toInt z137g
                    refine v_istore rfl (Nat.le_of_ble_eq_true rfl) ?_
                    refine v_iload rfl rfl ?_
                    refine v_iload rfl rfl ?_
                    refine v_aload_n rfl rfl ?_
                    refine v_get rfl h40 rfl ?_
                    refine v_aload_n rfl rfl ?_
                    refine v_get rfl h40 rfl ?_
                    refine v_iload rfl rfl ?_
                    refine r_iaload rfl h43 rw42l (by omega) (by omega) (fun z138 z138m z138g => ?_)
                    obtain ⟨z138a, z138b⟩ := rw42r z138 z138m
                    have z138E : z138 = z130 := by rw [z138g, z130g]
                    have h139 : _ = some _ := hI38.2.1 66 (by decide) (by decide)
                    refine r_iaload rfl h139 hR.l2 (by omega) (by omega) (fun z140 z140m z140g => ?_)
                    obtain ⟨z140a, z140b⟩ := hR.r2 z140 z140m
                    have z140h : z140.toInt = ((ga 2).getD z138.toInt.toNat 0).toInt := congrArg Int32.toInt z140g
                    refine r_icmp_le rfl (fun t141 => ?_) (fun t141 => ?_)
                    · refine v_iconst (v := 0) rfl (by decide) ?_
                      refine r_iadd rfl (by omega) (by omega) (fun z142 z142e => ?_)
                      refine v_istore rfl (Nat.le_of_ble_eq_true rfl) ?_
                      refine r_iinc rfl rfl (by decide) (by omega) (by omega) (fun z143 z143e => ?_)
                      refine v_goto rfl ?_
                      exact ih54_48 z134 z137 z142 z143 (by omega) (by omega) (by omega) (by omega) (by omega) (by omega) (by omega) (by omega) (by omega) (by omega) (by omega) (by
                          have q := t61
                          rw [bs_drop (by rw [bs_seq_len]; omega)] at q
                          have q : l46.toInt + (max 0 (l44.toInt + bs_C gi ga (((bs_seq (bs_n gi ga) (bs_n gi ga) 0) l15.toInt.toNat).getD l47.toInt.toNat 0) l45.toInt - bs_D gi ga (((bs_seq (bs_n gi ga) (bs_n gi ga) 0) l15.toInt.toNat).getD l47.toInt.toNat 0)) + bs_sum (bs_C gi ga) (bs_L gi ga) (bs_D gi ga) (List.drop (l47.toInt.toNat + 1) ((bs_seq (bs_n gi ga) (bs_n gi ga) 0) l15.toInt.toNat)) (l44.toInt + bs_C gi ga (((bs_seq (bs_n gi ga) (bs_n gi ga) 0) l15.toInt.toNat).getD l47.toInt.toNat 0) l45.toInt) (bs_L gi ga (((bs_seq (bs_n gi ga) (bs_n gi ga) 0) l15.toInt.toNat).getD l47.toInt.toNat 0))) = bs_v gi ga l15.toInt.toNat := q
                          have hC : bs_C gi ga (((bs_seq (bs_n gi ga) (bs_n gi ga) 0) l15.toInt.toNat).getD l47.toInt.toNat 0) l45.toInt = z133.toInt := by
                            show bs_days gi ga (bs_O gi ga (((bs_seq (bs_n gi ga) (bs_n gi ga) 0) l15.toInt.toNat).getD l47.toInt.toNat 0)) l45.toInt = _
                            rw [← z130O]
                            exact z133p2.symm
                          have hL : bs_L gi ga (((bs_seq (bs_n gi ga) (bs_n gi ga) 0) l15.toInt.toNat).getD l47.toInt.toNat 0) = z137.toInt := by
                            show ((ga 1).getD (bs_O gi ga (((bs_seq (bs_n gi ga) (bs_n gi ga) 0) l15.toInt.toNat).getD l47.toInt.toNat 0)) 0).toInt = _
                            rw [← z130O, z137h, z135E]
                          have hD : bs_D gi ga (((bs_seq (bs_n gi ga) (bs_n gi ga) 0) l15.toInt.toNat).getD l47.toInt.toNat 0) = z140.toInt := by
                            show ((ga 2).getD (bs_O gi ga (((bs_seq (bs_n gi ga) (bs_n gi ga) 0) l15.toInt.toNat).getD l47.toInt.toNat 0)) 0).toInt = _
                            rw [← z130O, z140h, z138E]
                          rw [hC, hL, hD, show l44.toInt + z133.toInt = z134.toInt by omega] at q
                          rw [show z143.toInt.toNat = l47.toInt.toNat + 1 by omega]
                          omega) (by omega)
                    · refine v_iload rfl rfl ?_
                      refine v_aload_n rfl rfl ?_
                      refine v_get rfl h40 rfl ?_
                      refine v_aload_n rfl rfl ?_
                      refine v_get rfl h40 rfl ?_
                      refine v_iload rfl rfl ?_
                      refine r_iaload rfl h43 rw42l (by omega) (by omega) (fun z144 z144m z144g => ?_)
                      obtain ⟨z144a, z144b⟩ := rw42r z144 z144m
                      have z144E : z144 = z130 := by rw [z144g, z130g]
                      refine r_iaload rfl h139 hR.l2 (by omega) (by omega) (fun z145 z145m z145g => ?_)
                      obtain ⟨z145a, z145b⟩ := hR.r2 z145 z145m
                      have z145h : z145.toInt = ((ga 2).getD z144.toInt.toNat 0).toInt := congrArg Int32.toInt z145g
                      refine r_isub rfl (by omega) (by omega) (fun z146 z146e => ?_)
                      refine v_goto rfl ?_
                      refine r_iadd rfl (by omega) (by omega) (fun z147 z147e => ?_)
                      refine v_istore rfl (Nat.le_of_ble_eq_true rfl) ?_
                      refine r_iinc rfl rfl (by decide) (by omega) (by omega) (fun z148 z148e => ?_)
                      refine v_goto rfl ?_
                      exact ih54_48 z134 z137 z147 z148 (by omega) (by omega) (by omega) (by omega) (by omega) (by omega) (by omega) (by omega) (by omega) (by omega) (by omega) (by
                          have q := t61
                          rw [bs_drop (by rw [bs_seq_len]; omega)] at q
                          have q : l46.toInt + (max 0 (l44.toInt + bs_C gi ga (((bs_seq (bs_n gi ga) (bs_n gi ga) 0) l15.toInt.toNat).getD l47.toInt.toNat 0) l45.toInt - bs_D gi ga (((bs_seq (bs_n gi ga) (bs_n gi ga) 0) l15.toInt.toNat).getD l47.toInt.toNat 0)) + bs_sum (bs_C gi ga) (bs_L gi ga) (bs_D gi ga) (List.drop (l47.toInt.toNat + 1) ((bs_seq (bs_n gi ga) (bs_n gi ga) 0) l15.toInt.toNat)) (l44.toInt + bs_C gi ga (((bs_seq (bs_n gi ga) (bs_n gi ga) 0) l15.toInt.toNat).getD l47.toInt.toNat 0) l45.toInt) (bs_L gi ga (((bs_seq (bs_n gi ga) (bs_n gi ga) 0) l15.toInt.toNat).getD l47.toInt.toNat 0))) = bs_v gi ga l15.toInt.toNat := q
                          have hC : bs_C gi ga (((bs_seq (bs_n gi ga) (bs_n gi ga) 0) l15.toInt.toNat).getD l47.toInt.toNat 0) l45.toInt = z133.toInt := by
                            show bs_days gi ga (bs_O gi ga (((bs_seq (bs_n gi ga) (bs_n gi ga) 0) l15.toInt.toNat).getD l47.toInt.toNat 0)) l45.toInt = _
                            rw [← z130O]
                            exact z133p2.symm
                          have hL : bs_L gi ga (((bs_seq (bs_n gi ga) (bs_n gi ga) 0) l15.toInt.toNat).getD l47.toInt.toNat 0) = z137.toInt := by
                            show ((ga 1).getD (bs_O gi ga (((bs_seq (bs_n gi ga) (bs_n gi ga) 0) l15.toInt.toNat).getD l47.toInt.toNat 0)) 0).toInt = _
                            rw [← z130O, z137h, z135E]
                          have hD : bs_D gi ga (((bs_seq (bs_n gi ga) (bs_n gi ga) 0) l15.toInt.toNat).getD l47.toInt.toNat 0) = z140.toInt := by
                            show ((ga 2).getD (bs_O gi ga (((bs_seq (bs_n gi ga) (bs_n gi ga) 0) l15.toInt.toNat).getD l47.toInt.toNat 0)) 0).toInt = _
                            rw [← z130O, z140h, z138E]
                          rw [hC, hL, hD, show l44.toInt + z133.toInt = z134.toInt by omega] at q
                          rw [show z148.toInt.toNat = l47.toInt.toNat + 1 by omega]
                          omega) (by omega)
              exact L48 _ (gi 5) (gi 6) (0 : Int32) (0 : Int32) (by omega) (by omega) (by omega) (by omega) (by omega) (by omega) (by omega) (by omega) (by omega) (by omega) (by omega) (by rw [show (0 : Int32).toInt.toNat = 0 from rfl, List.drop_zero, Int.zero_add]; rfl) (Nat.lt_add_one _)
        exact L27 _ (-1 : Int32) (0 : Int32) (.null) (.null) (.null) (.null) w xs13 hI hh hc59 hc85 h12 xs13l xs13r (by omega) (by omega) (by omega) (by omega) (by omega) (by exact Or.inl ⟨rfl, by decide⟩) (Nat.lt_add_one _)
      · refine v_iload_n rfl rfl ?_
        refine v_iload_n rfl rfl ?_
        refine r_facmul rfl (t10) (by omega) (by omega) (fun z149 z149f => ?_)
        have z149r := z149f.rng
        refine v_istore_n rfl (Nat.le_of_ble_eq_true rfl) ?_
        refine r_iinc rfl rfl (by decide) (by omega) (by omega) (fun z150 z150e => ?_)
        refine v_goto rfl ?_
        exact ih4_3 z149 z150 (by omega) (by omega) (by omega) (by omega) (by omega) (by rw [show z150.toInt - 1 = l2.toInt by omega]; exact z149f) (by omega)
  exact L3 _ (1 : Int32) (2 : Int32) (by omega) (by omega) (by omega) (by omega) (by omega) (by unfold pm_fac; omega) (Nat.lt_add_one _)
set_option maxRecDepth 100000 in
theorem W_X12_best_59_x {sc : pm_S} {w w0 : pm_W} {gi : Nat → Int32} {ga : Nat → List Int32}   (hR : pm_Rg gi ga) (hI : pm_IM gi ga w) (hh : pm_lo w0 w) : pm_Mt sc 2 166 1 [.ref 59] w (fun rv w' => ∃ v : Int32, rv = some (.int v) ∧ bs_Pbest gi ga v ∧ pm_IM gi ga w' ∧ pm_lo w0 w') := by
  intro d hd
  obtain ⟨g0a, g0b⟩ := hR.n0
  obtain ⟨g1a, g1b⟩ := hR.n1
  obtain ⟨g2a, g2b⟩ := hR.n2
  obtain ⟨g3a, g3b⟩ := hR.n3
  obtain ⟨g4a, g4b⟩ := hR.n4
  obtain ⟨g5a, g5b⟩ := hR.n5
  obtain ⟨g6a, g6b⟩ := hR.n6
  obtain ⟨g7a, g7b⟩ := hR.n7
  obtain ⟨g8a, g8b⟩ := hR.n8
  have km3 : (-3 : Int32).toInt = -3 := by decide
  show pm_V sc d 166 0 [.ref 59] [] w _
  refine v_aload_n rfl rfl ?_
  obtain ⟨v2, v3, v4, v5, v6, v7, v8, v9, ⟨v2z, v2e⟩, ⟨⟨v3a, v3b⟩, v3e⟩, ⟨⟨v4a, v4b⟩, v4e⟩, ⟨v6a, v6b⟩, ⟨v9a, v9b⟩, h1⟩ := hI.2.1 59 (by decide) (by decide)
  have v2z := v2z.imp i_eq.mp i_eq.mp
  rw [i_0, i_1] at v2z
  refine v_callV rfl (W_X12_ask_59_x hR hI hh) rfl rfl h1 rfl rfl (by omega) (fun rv w10 hq11 => ?_)
  obtain ⟨z12, a13, a14, a15, a16, a17, a18, a19, a20, op21, rfl, hI22, hh23, h24, h25, op21l, op21r, t26, t27, t28, t29, t30, t31, t32, t33, t34, t35, op21n, op21q, z12v⟩ := hq11
  have z12z : z12.toInt = 0 ∨ z12.toInt = 1 := by rcases z12v with ⟨g, -⟩ | ⟨g, -⟩ <;> omega
  refine r_if_eq rfl (fun t36 => ?_) (fun t36 => ?_)
  · refine v_aload_n rfl rfl ?_
    refine v_bipush (v := (-3)) rfl (by decide) ?_
    refine v_callV rfl (c_M_refuse (-3 : Int32) (by unfold pm_isR; first | decide | exact Or.inl rfl) hR hI22) rfl rfl h24 rfl rfl (by omega) (fun rv w37 hq38 => ?_)
    obtain ⟨rfl, hI39, hh40x⟩ := hq38
    have hI39 : pm_IM gi ga w37 := hI39
    have hh40 := hh23.tr hh40x
    exact v_iret rfl ⟨_, rfl, Or.inl ⟨(by rcases z12v with ⟨g, -⟩ | ⟨-, g⟩; (omega); exact g), by omega⟩, hI39, hh40⟩
  · refine v_aload_n rfl rfl ?_
    have hn7 : bs_n gi ga ≤ 7 := by rcases z12v with ⟨-, g⟩ | ⟨g, -⟩; (exact g); omega
    refine v_callV rfl (W_X12_findBest_59_x a13 a14 a15 a16 a17 a18 a19 a20 op21 (by omega) (by omega) (op21q.op hn7) (by omega) (by omega) (by omega) (by omega) (by omega) (by omega) (by omega) (by omega) (by omega) (by omega) h24 h25 op21l op21r hR hI22 hh23) rfl rfl h24 rfl rfl (by omega) (fun rv w41 hq42 => ?_)
    obtain ⟨v9, br9, rfl, hI9, hh9, c59, c87, l87, r87, w9⟩ := hq42
    refine v_goto rfl ?_
    exact v_iret rfl ⟨_, rfl, Or.inr ⟨hn7, br9, w9⟩, hI9, hh9⟩
set_option maxRecDepth 100000 in
theorem W_X12_bestAt_59_x {sc : pm_S} {w w0 : pm_W} {gi : Nat → Int32} {ga : Nat → List Int32} (i : Int32)  (hR : pm_Rg gi ga) (hI : pm_IM gi ga w) (hh : pm_lo w0 w) : pm_Mt sc 2 167 3 [.ref 59, .int i] w (fun rv w' => ∃ v : Int32, rv = some (.int v) ∧ bs_PbestAt gi ga i v ∧ pm_IM gi ga w' ∧ pm_lo w0 w') := by
  intro d hd
  obtain ⟨g0a, g0b⟩ := hR.n0
  obtain ⟨g1a, g1b⟩ := hR.n1
  obtain ⟨g2a, g2b⟩ := hR.n2
  obtain ⟨g3a, g3b⟩ := hR.n3
  obtain ⟨g4a, g4b⟩ := hR.n4
  obtain ⟨g5a, g5b⟩ := hR.n5
  obtain ⟨g6a, g6b⟩ := hR.n6
  obtain ⟨g7a, g7b⟩ := hR.n7
  obtain ⟨g8a, g8b⟩ := hR.n8
  have km9 : (-9 : Int32).toInt = -9 := by decide
  have km3 : (-3 : Int32).toInt = -3 := by decide
  have k0 : (0 : Int32).toInt = 0 := by decide
  have k1 : (1 : Int32).toInt = 1 := by decide
  show pm_V sc d 167 0 [.ref 59, .int i, .null] [] w _
  refine v_aload_n rfl rfl ?_
  obtain ⟨v2, v3, v4, v5, v6, v7, v8, v9, ⟨v2z, v2e⟩, ⟨⟨v3a, v3b⟩, v3e⟩, ⟨⟨v4a, v4b⟩, v4e⟩, ⟨v6a, v6b⟩, ⟨v9a, v9b⟩, h1⟩ := hI.2.1 59 (by decide) (by decide)
  have v2z := v2z.imp i_eq.mp i_eq.mp
  rw [i_0, i_1] at v2z
  refine v_callV rfl (W_X12_ask_59_x hR hI hh) rfl rfl h1 rfl rfl (by omega) (fun rv w10 hq11 => ?_)
  obtain ⟨z12, a13, a14, a15, a16, a17, a18, a19, a20, op21, rfl, hI22, hh23, h24, h25, op21l, op21r, t26, t27, t28, t29, t30, t31, t32, t33, t34, t35, op21n, op21q, z12v⟩ := hq11
  have z12z : z12.toInt = 0 ∨ z12.toInt = 1 := by rcases z12v with ⟨g, -⟩ | ⟨g, -⟩ <;> omega
  refine r_if_ne rfl (fun t36 => ?_) (fun t36 => ?_)
  · refine v_iload_n rfl rfl ?_
    refine v_iconst (v := 0) rfl (by decide) ?_
    refine v_aload_n rfl rfl ?_
    refine v_get rfl h24 rfl ?_
    refine v_iconst (v := 1) rfl (by decide) ?_
    refine r_isub rfl (by omega) (by omega) (fun z37 z37e => ?_)
    refine v_callS rfl (W_X12_in i (0 : Int32) z37 hR hI22) rfl rfl rfl rfl rfl (by omega) (fun rv w38 hq39 => ?_)
    obtain ⟨⟨z40, rfl, z40p0⟩, rfl⟩ := hq39
    refine r_if_ne rfl (fun t41 => ?_) (fun t41 => ?_)
    · refine v_aload_n rfl rfl ?_
      have hn7 : bs_n gi ga ≤ 7 := by rcases z12v with ⟨-, g⟩ | ⟨g, -⟩; (exact g); omega
      refine v_callV rfl (W_X12_findBest_59_x a13 a14 a15 a16 a17 a18 a19 a20 op21 (by omega) (by omega) (op21q.op hn7) (by omega) (by omega) (by omega) (by omega) (by omega) (by omega) (by omega) (by omega) (by omega) (by omega) h24 h25 op21l op21r hR hI22 hh23) rfl rfl h24 rfl rfl (by omega) (fun rv w42 hq43 => ?_)
      obtain ⟨v9, br9, rfl, hI9, hh9, c59, c87, l87, r87, w9⟩ := hq43
      refine v_istore_n rfl (Nat.le_of_ble_eq_true rfl) ?_
      refine v_aload_n rfl rfl ?_
      refine v_get rfl c59 rfl ?_
      refine v_iload_n rfl rfl ?_
      refine r_iaload rfl c87 l87 (by omega) (by omega) (fun z44 z44m z44g => ?_)
      obtain ⟨z44a, z44b⟩ := r87 z44 z44m
      exact v_iret rfl ⟨_, rfl, Or.inr (Or.inr ⟨hn7, by omega, v9.toInt, br9, w9, z44g⟩), hI9, hh9⟩
    · refine v_bipush (v := (-9)) rfl (by decide) ?_
      exact v_iret rfl ⟨_, rfl, Or.inr (Or.inl ⟨by rcases z12v with ⟨-, g⟩ | ⟨g, -⟩; (exact g); omega, by omega, by omega⟩), hI22, hh23⟩
  · refine v_aload_n rfl rfl ?_
    refine v_bipush (v := (-3)) rfl (by decide) ?_
    refine v_callV rfl (c_M_refuse (-3 : Int32) (by unfold pm_isR; first | decide | exact Or.inl rfl) hR hI22) rfl rfl h24 rfl rfl (by omega) (fun rv w45 hq46 => ?_)
    obtain ⟨rfl, hI47, hh48x⟩ := hq46
    have hI47 : pm_IM gi ga w45 := hI47
    have hh48 := hh23.tr hh48x
    exact v_iret rfl ⟨_, rfl, Or.inl ⟨(by rcases z12v with ⟨g, -⟩ | ⟨-, g⟩; (omega); exact g), by omega⟩, hI47, hh48⟩

