theorem bs_drop {q : List Nat} {i : Nat} (h : i < q.length) : q.drop i = q.getD i 0 :: q.drop (i + 1) := by
  rw [List.drop_eq_getElem_cons h, List.getD_eq_getElem?_getD, List.getElem?_eq_getElem h]
  rfl
theorem bs_v_nn {gi : Nat → Int32} {ga : Nat → List Int32} (k : Nat) : 0 ≤ bs_v gi ga k := bs_sum_nn _ _ _
theorem bs_pos_lt {d : List Int32} {p : Nat} : ∀ m, bs_pos d m p ≤ m := fun m => by
  induction m with
  | zero => exact Nat.le_refl _
  | succ m ih =>
    show (if (d.getD m 0).toInt < 0 ∧ bs_no d m = p then m else bs_pos d m p) ≤ m + 1
    split <;> omega
theorem bs_O_lt {gi : Nat → Int32} {ga : Nat → List Int32} (p : Nat) (h : (gi 7).toInt ≤ 12) : bs_O gi ga p ≤ 12 := by
  have q := bs_pos_lt (d := ga 3) (p := p) (gi 7).toInt.toNat
  show bs_pos (ga 3) (gi 7).toInt.toNat p ≤ 12
  omega
set_option maxRecDepth 100000 in
theorem W_X12_findBest_59_x {sc : pm_S} {w w0 : pm_W} {gi : Nat → Int32} {ga : Nat → List Int32} (c59_4 : Int32) (c59_5 : Int32) (c59_6 : Int32) (c59_14 : Int32) (c59_35 : Int32) (c59_39 : Int32) (c59_40 : Int32) (c59_42 : Int32) (c85 : List Int32) (p0 : c59_42.toInt ≤ 7) (p1 : c59_42.toInt = ((bs_n gi ga) : Int)) (p2 : bs_op (ga 3) (gi 7).toInt.toNat c85) (p3 : 0 ≤ c59_4.toInt) (p4 : c59_4.toInt ≤ 1) (p5 : 0 ≤ c59_5.toInt) (p6 : c59_5.toInt ≤ 20) (p7 : 0 ≤ c59_6.toInt) (p8 : c59_6.toInt ≤ 20) (p9 : 0 ≤ c59_35.toInt) (p10 : c59_35.toInt ≤ 20) (p11 : 0 ≤ c59_42.toInt) (p12 : c59_42.toInt ≤ 12) (hc59 : w[59]? = some (.inr (12, [.int (gi 0), .int (gi 1), .ref 60, .int (gi 2), .int c59_4, .int c59_5, .int c59_6, .ref 61, .ref 62, .ref 63, .int (gi 5), .int (gi 3), .int (gi 4), .int (gi 6), .int c59_14, .int (gi 7), .ref 64, .ref 65, .ref 66, .ref 67, .int (gi 8), .ref 68, .ref 69, .ref 70, .ref 71, .ref 72, .ref 73, .ref 74, .ref 75, .ref 76, .ref 77, .ref 78, .ref 79, .ref 80, .ref 81, .int c59_35, .ref 82, .ref 83, .ref 84, .int c59_39, .int c59_40, .ref 85, .int c59_42, .ref 86, .ref 87]))) (hc85 : w[85]? = some (.inl (0, .inl c85))) (hl85 : c85.length = 7) (hr85 : ∀ x ∈ c85, pm_rng x (0) 11) (hR : pm_Rg gi ga) (hI : pm_IM gi ga w) (hh : pm_lo w0 w) : pm_Mt sc 1 165 8 [.ref 59] w (fun rv w' => ∃ (v : Int32) (br : List Int32), rv = some (.int v) ∧ pm_IM gi ga w' ∧ pm_lo w0 w' ∧ w'[59]? = some (.inr (12, [.int (gi 0), .int (gi 1), .ref 60, .int (gi 2), .int c59_4, .int c59_5, .int c59_6, .ref 61, .ref 62, .ref 63, .int (gi 5), .int (gi 3), .int (gi 4), .int (gi 6), .int c59_14, .int (gi 7), .ref 64, .ref 65, .ref 66, .ref 67, .int (gi 8), .ref 68, .ref 69, .ref 70, .ref 71, .ref 72, .ref 73, .ref 74, .ref 75, .ref 76, .ref 77, .ref 78, .ref 79, .ref 80, .ref 81, .int c59_35, .ref 82, .ref 83, .ref 84, .int c59_39, .int c59_40, .ref 85, .int c59_42, .ref 86, .ref 87])) ∧ w'[87]? = some (.inl (0, .inl br)) ∧ br.length = 7 ∧ (∀ x ∈ br, pm_rng x (0) 11) ∧ bs_W gi ga v.toInt br) := by
  intro d hd
  obtain ⟨g0a, g0b⟩ := hR.n0
  obtain ⟨g1a, g1b⟩ := hR.n1
  obtain ⟨g2a, g2b⟩ := hR.n2
  obtain ⟨g3a, g3b⟩ := hR.n3
  obtain ⟨g4a, g4b⟩ := hR.n4
  obtain ⟨g5a, g5b⟩ := hR.n5
  obtain ⟨g6a, g6b⟩ := hR.n6
  obtain ⟨g7a, g7b⟩ := hR.n7
  obtain ⟨g8a, g8b⟩ := hR.n8
  have km1 : (-1 : Int32).toInt = -1 := by decide
  have k0 : (0 : Int32).toInt = 0 := by decide
  have k1 : (1 : Int32).toInt = 1 := by decide
  have k2 : (2 : Int32).toInt = 2 := by decide
  show pm_V sc d 165 0 [.ref 59, .null, .null, .null, .null, .null, .null, .null] [] w _
  have hop : bs_op (ga 3) (gi 7).toInt.toNat c85 := by assumption
  refine v_iconst (v := 1) rfl (by decide) ?_
  refine v_istore_n rfl (Nat.le_of_ble_eq_true rfl) ?_
  refine v_iconst (v := 2) rfl (by decide) ?_
  refine v_istore_n rfl (Nat.le_of_ble_eq_true rfl) ?_
  have L3 : ∀ (n3 : Nat) (l1 : Int32) (l2 : Int32), 1 ≤ l1.toInt → l1.toInt ≤ 5040 → 2 ≤ l2.toInt → l2.toInt ≤ 8 → (l2.toInt ≤ c59_42.toInt + 1 ∨ l2.toInt = 2) → (pm_fac l1.toInt (l2.toInt - 1)) → (8 - l2.toInt).toNat < n3 → pm_V sc d 165 4 [.ref 59, .int l1, .int l2, .null, .null, .null, .null, .null] [] w (fun rv w' => ∃ (v : Int32) (br : List Int32), rv = some (.int v) ∧ pm_IM gi ga w' ∧ pm_lo w0 w' ∧ w'[59]? = some (.inr (12, [.int (gi 0), .int (gi 1), .ref 60, .int (gi 2), .int c59_4, .int c59_5, .int c59_6, .ref 61, .ref 62, .ref 63, .int (gi 5), .int (gi 3), .int (gi 4), .int (gi 6), .int c59_14, .int (gi 7), .ref 64, .ref 65, .ref 66, .ref 67, .int (gi 8), .ref 68, .ref 69, .ref 70, .ref 71, .ref 72, .ref 73, .ref 74, .ref 75, .ref 76, .ref 77, .ref 78, .ref 79, .ref 80, .ref 81, .int c59_35, .ref 82, .ref 83, .ref 84, .int c59_39, .int c59_40, .ref 85, .int c59_42, .ref 86, .ref 87])) ∧ w'[87]? = some (.inl (0, .inl br)) ∧ br.length = 7 ∧ (∀ x ∈ br, pm_rng x (0) 11) ∧ bs_W gi ga v.toInt br) := by
    intro n3
    induction n3 with
    | zero => intro l1 l2 t5 t6 t7 t8 t9 t10 hm4; exact absurd hm4 (Nat.not_lt_zero _)
    | succ n3 ih4_3 =>
      intro l1 l2 t5 t6 t7 t8 t9 t10 hm4
      refine v_iload_n rfl rfl ?_
      refine v_aload_n rfl rfl ?_
      refine v_get rfl hc59 rfl ?_
      refine r_icmp_gt rfl (fun t11 => ?_) (fun t11 => ?_)
      · have hfac := t10.out (m := c59_42.toInt) (by omega) (by omega) (by omega)
        have hfr := hfac.rng
        refine v_iconst (v := (-1)) rfl (by decide) ?_
        refine v_istore_n rfl (Nat.le_of_ble_eq_true rfl) ?_
        refine v_iconst (v := 0) rfl (by decide) ?_
        refine v_istore_n rfl (Nat.le_of_ble_eq_true rfl) ?_
        obtain ⟨xs13, xs13l, xs13r, h12⟩ := hI.2.1 86 (by decide) (by decide)
        obtain ⟨xs15, xs15l, xs15r, h14⟩ := hI.2.1 87 (by decide) (by decide)
        have L31 : ∀ (n31 : Nat) (l16 : Int32) (l17 : Int32) (u18 : Value) (u19 : Value) (u20 : Value) (u21 : Value) (w22 : pm_W) (xs28 : List Int32) (xs30 : List Int32), pm_IM gi ga w22 → pm_lo w0 w22 → w22[59]? = some (.inr (12, [.int (gi 0), .int (gi 1), .ref 60, .int (gi 2), .int c59_4, .int c59_5, .int c59_6, .ref 61, .ref 62, .ref 63, .int (gi 5), .int (gi 3), .int (gi 4), .int (gi 6), .int c59_14, .int (gi 7), .ref 64, .ref 65, .ref 66, .ref 67, .int (gi 8), .ref 68, .ref 69, .ref 70, .ref 71, .ref 72, .ref 73, .ref 74, .ref 75, .ref 76, .ref 77, .ref 78, .ref 79, .ref 80, .ref 81, .int c59_35, .ref 82, .ref 83, .ref 84, .int c59_39, .int c59_40, .ref 85, .int c59_42, .ref 86, .ref 87])) → w22[85]? = some (.inl (0, .inl c85)) → w22[86]? = some (.inl (0, .inl xs28)) → xs28.length = 7 → (∀ x ∈ xs28, pm_rng x (0) 11) → w22[87]? = some (.inl (0, .inl xs30)) → xs30.length = 7 → (∀ x ∈ xs30, pm_rng x (0) 11) → (-1) ≤ l16.toInt → l16.toInt ≤ 28000 → 0 ≤ l17.toInt → l17.toInt ≤ 5040 → (l17.toInt ≤ l1.toInt) → ((l17.toInt = 0 ∧ l16.toInt = -1) ∨ (∃ q, bs_fm (bs_v gi ga) l17.toInt.toNat l16.toInt q ∧ bs_rw gi ga xs30 ((bs_seq (bs_n gi ga) (bs_n gi ga) 0) q))) → (5040 - l17.toInt).toNat < n31 → pm_V sc d 165 26 [.ref 59, .int l1, .int l16, .int l17, u18, u19, u20, u21] [] w22 (fun rv w' => ∃ (v : Int32) (br : List Int32), rv = some (.int v) ∧ pm_IM gi ga w' ∧ pm_lo w0 w' ∧ w'[59]? = some (.inr (12, [.int (gi 0), .int (gi 1), .ref 60, .int (gi 2), .int c59_4, .int c59_5, .int c59_6, .ref 61, .ref 62, .ref 63, .int (gi 5), .int (gi 3), .int (gi 4), .int (gi 6), .int c59_14, .int (gi 7), .ref 64, .ref 65, .ref 66, .ref 67, .int (gi 8), .ref 68, .ref 69, .ref 70, .ref 71, .ref 72, .ref 73, .ref 74, .ref 75, .ref 76, .ref 77, .ref 78, .ref 79, .ref 80, .ref 81, .int c59_35, .ref 82, .ref 83, .ref 84, .int c59_39, .int c59_40, .ref 85, .int c59_42, .ref 86, .ref 87])) ∧ w'[87]? = some (.inl (0, .inl br)) ∧ br.length = 7 ∧ (∀ x ∈ br, pm_rng x (0) 11) ∧ bs_W gi ga v.toInt br) := by
          intro n31
          induction n31 with
          | zero => intro l16 l17 u18 u19 u20 u21 w22 xs28 xs30 hI23 hh24 h25 h26 h27 xs28l xs28r h29 xs30l xs30r t33 t34 t35 t36 t37 t38 hm32; exact absurd hm32 (Nat.not_lt_zero _)
          | succ n31 ih26_31 =>
            intro l16 l17 u18 u19 u20 u21 w22 xs28 xs30 hI23 hh24 h25 h26 h27 xs28l xs28r h29 xs30l xs30r t33 t34 t35 t36 t37 t38 hm32
            refine v_iload_n rfl rfl ?_
            refine v_iload_n rfl rfl ?_
            refine r_icmp_ge rfl (fun t39 => ?_) (fun t39 => ?_)
            · refine v_iload_n rfl rfl ?_
              exact v_iret rfl ⟨_, xs30, rfl, hI23, hh24, h25, h29, xs30l, xs30r, (by
      have hf := hfac.f
      rcases t38 with ⟨q1, q2⟩ | q1
      · omega
      · rw [show l17.toInt.toNat = bs_f (bs_n gi ga) by rw [show (c59_42.toInt).toNat = (bs_n gi ga) by omega] at hf; omega] at q1
        exact q1)⟩
            · refine v_aload_n rfl rfl ?_
              refine v_iload_n rfl rfl ?_
              have hlt33 : pm_ltf l17.toInt c59_42.toInt := hfac.ltf (by omega)
              refine v_callV rfl (W_X12_findRow_59_x l17 c59_4 c59_5 c59_6 c59_14 c59_35 c59_39 c59_40 c59_42 c85 xs30 (by omega) (by omega) (by omega) hlt33 (by omega) hop (by omega) (by omega) (by omega) (by omega) (by omega) (by omega) (by omega) (by omega) (by omega) (by omega) h25 h26 hl85 hr85 h29 xs30l xs30r hR hI23 hh24) rfl rfl h25 rfl rfl (by omega) (fun rv w40 hq41 => ?_)
              obtain ⟨rfl, hI42, hh43, rw46, h44, h45, h48, h47, rw46l, rw46r, rw46w⟩ := hq41
              refine v_aload_n rfl rfl ?_
              refine v_get rfl h44 rfl ?_
              refine v_istore rfl (Nat.le_of_ble_eq_true rfl) ?_
              refine v_aload_n rfl rfl ?_
              refine v_get rfl h44 rfl ?_
              refine v_istore rfl (Nat.le_of_ble_eq_true rfl) ?_
              refine v_iconst (v := 0) rfl (by decide) ?_
              refine v_istore rfl (Nat.le_of_ble_eq_true rfl) ?_
              refine v_iconst (v := 0) rfl (by decide) ?_
              refine v_istore rfl (Nat.le_of_ble_eq_true rfl) ?_
              have L53 : ∀ (n53 : Nat) (l49 : Int32) (l50 : Int32) (l51 : Int32) (l52 : Int32), 0 ≤ l49.toInt → l49.toInt ≤ 4000 → (-9) ≤ l50.toInt → l50.toInt ≤ 5 → 0 ≤ l51.toInt → l51.toInt ≤ 28000 → 0 ≤ l52.toInt → l52.toInt ≤ 7 → (l52.toInt ≤ c59_42.toInt) → (l49.toInt ≤ 3000 + 138 * l52.toInt) → (l51.toInt ≤ 4000 * l52.toInt) → (l51.toInt + bs_sum (bs_C gi ga) (bs_L gi ga) (bs_D gi ga) (List.drop l52.toInt.toNat ((bs_seq (bs_n gi ga) (bs_n gi ga) 0) l17.toInt.toNat)) l49.toInt l50.toInt = bs_v gi ga l17.toInt.toNat) → (7 - l52.toInt).toNat < n53 → pm_V sc d 165 54 [.ref 59, .int l1, .int l16, .int l17, .int l49, .int l50, .int l51, .int l52] [] w40 (fun rv w' => ∃ (v : Int32) (br : List Int32), rv = some (.int v) ∧ pm_IM gi ga w' ∧ pm_lo w0 w' ∧ w'[59]? = some (.inr (12, [.int (gi 0), .int (gi 1), .ref 60, .int (gi 2), .int c59_4, .int c59_5, .int c59_6, .ref 61, .ref 62, .ref 63, .int (gi 5), .int (gi 3), .int (gi 4), .int (gi 6), .int c59_14, .int (gi 7), .ref 64, .ref 65, .ref 66, .ref 67, .int (gi 8), .ref 68, .ref 69, .ref 70, .ref 71, .ref 72, .ref 73, .ref 74, .ref 75, .ref 76, .ref 77, .ref 78, .ref 79, .ref 80, .ref 81, .int c59_35, .ref 82, .ref 83, .ref 84, .int c59_39, .int c59_40, .ref 85, .int c59_42, .ref 86, .ref 87])) ∧ w'[87]? = some (.inl (0, .inl br)) ∧ br.length = 7 ∧ (∀ x ∈ br, pm_rng x (0) 11) ∧ bs_W gi ga v.toInt br) := by
                intro n53
                induction n53 with
                | zero => intro l49 l50 l51 l52 t55 t56 t57 t58 t59 t60 t61 t62 t63 t64 t65 t66 hm54; exact absurd hm54 (Nat.not_lt_zero _)
                | succ n53 ih54_53 =>
                  intro l49 l50 l51 l52 t55 t56 t57 t58 t59 t60 t61 t62 t63 t64 t65 t66 hm54
                  refine v_iload rfl rfl ?_
                  refine v_aload_n rfl rfl ?_
                  refine v_get rfl h44 rfl ?_
                  refine r_icmp_ge rfl (fun t67 => ?_) (fun t67 => ?_)
                  · refine v_iload_n rfl rfl ?_
                    refine r_if_lt rfl (fun t68 => ?_) (fun t68 => ?_)
                    · refine v_iload rfl rfl ?_
                      refine v_istore_n rfl (Nat.le_of_ble_eq_true rfl) ?_
                      refine v_iconst (v := 0) rfl (by decide) ?_
                      refine v_istore rfl (Nat.le_of_ble_eq_true rfl) ?_
                      have L78 : ∀ (n78 : Nat) (l69 : Int32) (w70 : pm_W) (xs77 : List Int32), pm_IM gi ga w70 → pm_lo w0 w70 → w70[59]? = some (.inr (12, [.int (gi 0), .int (gi 1), .ref 60, .int (gi 2), .int c59_4, .int c59_5, .int c59_6, .ref 61, .ref 62, .ref 63, .int (gi 5), .int (gi 3), .int (gi 4), .int (gi 6), .int c59_14, .int (gi 7), .ref 64, .ref 65, .ref 66, .ref 67, .int (gi 8), .ref 68, .ref 69, .ref 70, .ref 71, .ref 72, .ref 73, .ref 74, .ref 75, .ref 76, .ref 77, .ref 78, .ref 79, .ref 80, .ref 81, .int c59_35, .ref 82, .ref 83, .ref 84, .int c59_39, .int c59_40, .ref 85, .int c59_42, .ref 86, .ref 87])) → w70[85]? = some (.inl (0, .inl c85)) → w70[86]? = some (.inl (0, .inl rw46)) → w70[87]? = some (.inl (0, .inl xs77)) → xs77.length = 7 → (∀ x ∈ xs77, pm_rng x (0) 11) → 0 ≤ l69.toInt → l69.toInt ≤ 7 → (l69.toInt ≤ c59_42.toInt) → (∀ j, j < l69.toInt.toNat → xs77.getD j 0 = rw46.getD j 0) → (7 - l69.toInt).toNat < n78 → pm_V sc d 165 158 [.ref 59, .int l1, .int l51, .int l17, .int l49, .int l50, .int l51, .int l69] [] w70 (fun rv w' => ∃ (v : Int32) (br : List Int32), rv = some (.int v) ∧ pm_IM gi ga w' ∧ pm_lo w0 w' ∧ w'[59]? = some (.inr (12, [.int (gi 0), .int (gi 1), .ref 60, .int (gi 2), .int c59_4, .int c59_5, .int c59_6, .ref 61, .ref 62, .ref 63, .int (gi 5), .int (gi 3), .int (gi 4), .int (gi 6), .int c59_14, .int (gi 7), .ref 64, .ref 65, .ref 66, .ref 67, .int (gi 8), .ref 68, .ref 69, .ref 70, .ref 71, .ref 72, .ref 73, .ref 74, .ref 75, .ref 76, .ref 77, .ref 78, .ref 79, .ref 80, .ref 81, .int c59_35, .ref 82, .ref 83, .ref 84, .int c59_39, .int c59_40, .ref 85, .int c59_42, .ref 86, .ref 87])) ∧ w'[87]? = some (.inl (0, .inl br)) ∧ br.length = 7 ∧ (∀ x ∈ br, pm_rng x (0) 11) ∧ bs_W gi ga v.toInt br) := by
                        intro n78
                        induction n78 with
                        | zero => intro l69 w70 xs77 hI71 hh72 h73 h74 h75 h76 xs77l xs77r t80 t81 t82 t83 hm79; exact absurd hm79 (Nat.not_lt_zero _)
                        | succ n78 ih158_78 =>
                          intro l69 w70 xs77 hI71 hh72 h73 h74 h75 h76 xs77l xs77r t80 t81 t82 t83 hm79
                          refine v_iload rfl rfl ?_
                          refine v_aload_n rfl rfl ?_
                          refine v_get rfl h73 rfl ?_
                          refine r_icmp_ge rfl (fun t84 => ?_) (fun t84 => ?_)
                          · refine r_iinc rfl rfl (by decide) (by omega) (by omega) (fun z85 z85e => ?_)
                            refine v_goto rfl ?_
                            exact ih26_31 l51 z85 (.int l49) (.int l50) (.int l51) (.int l69) w70 rw46 xs77 hI71 hh72 h73 h74 h75 rw46l rw46r h76 xs77l xs77r (by omega) (by omega) (by omega) (by omega) (by omega) (by
                                have hv : l51.toInt = bs_v gi ga l17.toInt.toNat := by
                                  have q := t66
                                  rw [List.drop_of_length_le (by rw [bs_seq_len]; omega)] at q
                                  have q : l51.toInt + 0 = _ := q
                                  omega
                                refine Or.inr ⟨l17.toInt.toNat, ?_, fun i hi => by rw [t83 i (by omega)]; exact rw46w i hi⟩
                                rw [show z85.toInt.toNat = l17.toInt.toNat + 1 by omega, hv]
                                rcases t38 with ⟨q1, q2⟩ | ⟨q, q1, q2⟩
                                · rw [show l17.toInt.toNat = 0 by omega]
                                  exact bs_fm.zero
                                · have q3 := q1.2.1
                                  have q4 := bs_v_nn (gi := gi) (ga := ga) q
                                  exact q1.less (by rw [← hv]; omega)) (by omega)
                          · refine v_aload_n rfl rfl ?_
                            refine v_get rfl h73 rfl ?_
                            refine v_iload rfl rfl ?_
                            refine v_aload_n rfl rfl ?_
                            refine v_get rfl h73 rfl ?_
                            refine v_iload rfl rfl ?_
                            refine r_iaload rfl h75 rw46l (by omega) (by omega) (fun z86 z86m z86g => ?_)
                            obtain ⟨z86a, z86b⟩ := rw46r z86 z86m
                            skip
                            refine r_iastx rfl h76 xs77l (by omega) (by omega) (fun ys87 ys87l ys87m ys87g ys87n => ?_)
                            have ys87r := r_rng ys87m xs77r (by omega) (by omega)
                            refine r_gen (w' := w70.set 87 (.inl (0, .inl ys87))) (fun w88 e89 => ?_)
                            have hI90 : pm_IM gi ga w88 := by rw [e89]; exact hI71.set 87 (by decide) (by decide) (by decide) (by decide) ⟨ys87, ys87l, ys87r, rfl⟩
                            have hh91 : pm_lo w0 w88 := by rw [e89]; exact hh72.set (by decide) _
                            have h92 := r_get_ne e89 (show 87 ≠ 59 by decide) h73
                            have h93 := r_get_ne e89 (show 87 ≠ 85 by decide) h74
                            have h94 := r_get_ne e89 (show 87 ≠ 86 by decide) h75
                            have h95 := r_get_eq e89 h76
                            refine r_iinc rfl rfl (by decide) (by omega) (by omega) (fun z96 z96e => ?_)
                            refine v_goto rfl ?_
                            exact ih158_78 z96 w88 ys87 hI90 hh91 h92 h93 h94 h95 ys87l ys87r (by omega) (by omega) (by omega) (by
                                intro j hj
                                by_cases ej : j = l69.toInt.toNat
                                · rw [ej, ys87g, z86g]
                                · rw [ys87n j ej]
                                  exact t83 j (by omega)) (by omega)
                      exact L78 _ (0 : Int32) w40 xs30 hI42 hh43 h44 h45 h47 h48 xs30l xs30r (by omega) (by omega) (by omega) (by intro j hj; rw [show (0 : Int32).toInt.toNat = 0 from rfl] at hj; omega) (Nat.lt_add_one _)
                    · refine v_iload rfl rfl ?_
                      refine v_iload_n rfl rfl ?_
                      refine r_icmp_ge rfl (fun t97 => ?_) (fun t97 => ?_)
                      · refine r_iinc rfl rfl (by decide) (by omega) (by omega) (fun z98 z98e => ?_)
                        refine v_goto rfl ?_
                        exact ih26_31 l16 z98 (.int l49) (.int l50) (.int l51) (.int l52) w40 rw46 xs30 hI42 hh43 h44 h45 h47 rw46l rw46r h48 xs30l xs30r (by omega) (by omega) (by omega) (by omega) (by omega) (by
                            have hv : l51.toInt = bs_v gi ga l17.toInt.toNat := by
                              have q := t66
                              rw [List.drop_of_length_le (by rw [bs_seq_len]; omega)] at q
                              have q : l51.toInt + 0 = _ := q
                              omega
                            rcases t38 with ⟨q1, q2⟩ | ⟨q, q1, q2⟩
                            · omega
                            · refine Or.inr ⟨q, ?_, q2⟩
                              rw [show z98.toInt.toNat = l17.toInt.toNat + 1 by omega]
                              exact q1.block (fun j j1 j2 => by rw [show j = l17.toInt.toNat by omega, ← hv]; omega)) (by omega)
                      · refine v_iload rfl rfl ?_
                        refine v_istore_n rfl (Nat.le_of_ble_eq_true rfl) ?_
                        refine v_iconst (v := 0) rfl (by decide) ?_
                        refine v_istore rfl (Nat.le_of_ble_eq_true rfl) ?_
                        have L108 : ∀ (n108 : Nat) (l99 : Int32) (w100 : pm_W) (xs107 : List Int32), pm_IM gi ga w100 → pm_lo w0 w100 → w100[59]? = some (.inr (12, [.int (gi 0), .int (gi 1), .ref 60, .int (gi 2), .int c59_4, .int c59_5, .int c59_6, .ref 61, .ref 62, .ref 63, .int (gi 5), .int (gi 3), .int (gi 4), .int (gi 6), .int c59_14, .int (gi 7), .ref 64, .ref 65, .ref 66, .ref 67, .int (gi 8), .ref 68, .ref 69, .ref 70, .ref 71, .ref 72, .ref 73, .ref 74, .ref 75, .ref 76, .ref 77, .ref 78, .ref 79, .ref 80, .ref 81, .int c59_35, .ref 82, .ref 83, .ref 84, .int c59_39, .int c59_40, .ref 85, .int c59_42, .ref 86, .ref 87])) → w100[85]? = some (.inl (0, .inl c85)) → w100[86]? = some (.inl (0, .inl rw46)) → w100[87]? = some (.inl (0, .inl xs107)) → xs107.length = 7 → (∀ x ∈ xs107, pm_rng x (0) 11) → 0 ≤ l99.toInt → l99.toInt ≤ 7 → (l99.toInt ≤ c59_42.toInt) → (∀ j, j < l99.toInt.toNat → xs107.getD j 0 = rw46.getD j 0) → (7 - l99.toInt).toNat < n108 → pm_V sc d 165 158 [.ref 59, .int l1, .int l51, .int l17, .int l49, .int l50, .int l51, .int l99] [] w100 (fun rv w' => ∃ (v : Int32) (br : List Int32), rv = some (.int v) ∧ pm_IM gi ga w' ∧ pm_lo w0 w' ∧ w'[59]? = some (.inr (12, [.int (gi 0), .int (gi 1), .ref 60, .int (gi 2), .int c59_4, .int c59_5, .int c59_6, .ref 61, .ref 62, .ref 63, .int (gi 5), .int (gi 3), .int (gi 4), .int (gi 6), .int c59_14, .int (gi 7), .ref 64, .ref 65, .ref 66, .ref 67, .int (gi 8), .ref 68, .ref 69, .ref 70, .ref 71, .ref 72, .ref 73, .ref 74, .ref 75, .ref 76, .ref 77, .ref 78, .ref 79, .ref 80, .ref 81, .int c59_35, .ref 82, .ref 83, .ref 84, .int c59_39, .int c59_40, .ref 85, .int c59_42, .ref 86, .ref 87])) ∧ w'[87]? = some (.inl (0, .inl br)) ∧ br.length = 7 ∧ (∀ x ∈ br, pm_rng x (0) 11) ∧ bs_W gi ga v.toInt br) := by
                          intro n108
                          induction n108 with
                          | zero => intro l99 w100 xs107 hI101 hh102 h103 h104 h105 h106 xs107l xs107r t110 t111 t112 t113 hm109; exact absurd hm109 (Nat.not_lt_zero _)
                          | succ n108 ih158_108 =>
                            intro l99 w100 xs107 hI101 hh102 h103 h104 h105 h106 xs107l xs107r t110 t111 t112 t113 hm109
                            refine v_iload rfl rfl ?_
                            refine v_aload_n rfl rfl ?_
                            refine v_get rfl h103 rfl ?_
                            refine r_icmp_ge rfl (fun t114 => ?_) (fun t114 => ?_)
                            · refine r_iinc rfl rfl (by decide) (by omega) (by omega) (fun z115 z115e => ?_)
                              refine v_goto rfl ?_
                              exact ih26_31 l51 z115 (.int l49) (.int l50) (.int l51) (.int l99) w100 rw46 xs107 hI101 hh102 h103 h104 h105 rw46l rw46r h106 xs107l xs107r (by omega) (by omega) (by omega) (by omega) (by omega) (by
                                  have hv : l51.toInt = bs_v gi ga l17.toInt.toNat := by
                                    have q := t66
                                    rw [List.drop_of_length_le (by rw [bs_seq_len]; omega)] at q
                                    have q : l51.toInt + 0 = _ := q
                                    omega
                                  refine Or.inr ⟨l17.toInt.toNat, ?_, fun i hi => by rw [t113 i (by omega)]; exact rw46w i hi⟩
                                  rw [show z115.toInt.toNat = l17.toInt.toNat + 1 by omega, hv]
                                  rcases t38 with ⟨q1, q2⟩ | ⟨q, q1, q2⟩
                                  · rw [show l17.toInt.toNat = 0 by omega]
                                    exact bs_fm.zero
                                  · have q3 := q1.2.1
                                    have q4 := bs_v_nn (gi := gi) (ga := ga) q
                                    exact q1.less (by rw [← hv]; omega)) (by omega)
                            · refine v_aload_n rfl rfl ?_
                              refine v_get rfl h103 rfl ?_
                              refine v_iload rfl rfl ?_
                              refine v_aload_n rfl rfl ?_
                              refine v_get rfl h103 rfl ?_
                              refine v_iload rfl rfl ?_
                              refine r_iaload rfl h105 rw46l (by omega) (by omega) (fun z116 z116m z116g => ?_)
                              obtain ⟨z116a, z116b⟩ := rw46r z116 z116m
                              skip
                              refine r_iastx rfl h106 xs107l (by omega) (by omega) (fun ys117 ys117l ys117m ys117g ys117n => ?_)
                              have ys117r := r_rng ys117m xs107r (by omega) (by omega)
                              refine r_gen (w' := w100.set 87 (.inl (0, .inl ys117))) (fun w118 e119 => ?_)
                              have hI120 : pm_IM gi ga w118 := by rw [e119]; exact hI101.set 87 (by decide) (by decide) (by decide) (by decide) ⟨ys117, ys117l, ys117r, rfl⟩
                              have hh121 : pm_lo w0 w118 := by rw [e119]; exact hh102.set (by decide) _
                              have h122 := r_get_ne e119 (show 87 ≠ 59 by decide) h103
                              have h123 := r_get_ne e119 (show 87 ≠ 85 by decide) h104
                              have h124 := r_get_ne e119 (show 87 ≠ 86 by decide) h105
                              have h125 := r_get_eq e119 h106
                              refine r_iinc rfl rfl (by decide) (by omega) (by omega) (fun z126 z126e => ?_)
                              refine v_goto rfl ?_
                              exact ih158_108 z126 w118 ys117 hI120 hh121 h122 h123 h124 h125 ys117l ys117r (by omega) (by omega) (by omega) (by
                                  intro j hj
                                  by_cases ej : j = l99.toInt.toNat
                                  · rw [ej, ys117g, z116g]
                                  · rw [ys117n j ej]
                                    exact t113 j (by omega)) (by omega)
                        exact L108 _ (0 : Int32) w40 xs30 hI42 hh43 h44 h45 h47 h48 xs30l xs30r (by omega) (by omega) (by omega) (by intro j hj; rw [show (0 : Int32).toInt.toNat = 0 from rfl] at hj; omega) (Nat.lt_add_one _)
                  · refine v_iload rfl rfl ?_
                    refine v_aload_n rfl rfl ?_
                    refine v_aload_n rfl rfl ?_
                    refine v_get rfl h44 rfl ?_
                    refine v_iload rfl rfl ?_
                    refine r_iaload rfl h47 rw46l (by omega) (by omega) (fun z127 z127m z127g => ?_)
                    obtain ⟨z127a, z127b⟩ := rw46r z127 z127m
                    have z127O : z127.toInt.toNat = bs_O gi ga (((bs_seq (bs_n gi ga) (bs_n gi ga) 0) l17.toInt.toNat).getD l52.toInt.toNat 0) := by
                      rw [z127g, rw46w l52.toInt.toNat (by omega), nI_toInt (by have := bs_O_lt (gi := gi) (ga := ga) (((bs_seq (bs_n gi ga) (bs_n gi ga) 0) l17.toInt.toNat).getD l52.toInt.toNat 0) (by omega); omega), Int.toNat_natCast]
                    refine v_iload rfl rfl ?_
                    refine v_callV rfl (W_X12_daysOf_59_x z127 l50 (by omega) (by omega) hR hI42) rfl rfl h44 rfl rfl (by omega) (fun rv w128 hq129 => ?_)
                    obtain ⟨⟨z130, rfl, z130p0, z130p1, z130p2⟩, rfl⟩ := hq129
                    skip
                    refine r_iadd rfl (by omega) (by omega) (fun z131 z131e => ?_)
                    refine v_istore rfl (Nat.le_of_ble_eq_true rfl) ?_
                    refine v_aload_n rfl rfl ?_
                    refine v_get rfl h44 rfl ?_
                    refine v_aload_n rfl rfl ?_
                    refine v_get rfl h44 rfl ?_
                    refine v_iload rfl rfl ?_
                    refine r_iaload rfl h47 rw46l (by omega) (by omega) (fun z132 z132m z132g => ?_)
                    obtain ⟨z132a, z132b⟩ := rw46r z132 z132m
                    have z132E : z132 = z127 := by rw [z132g, z127g]
                    have h133 : _ = some _ := hI42.2.1 65 (by decide) (by decide)
                    refine r_iaload rfl h133 hR.l1 (by omega) (by omega) (fun z134 z134m z134g => ?_)
                    obtain ⟨z134a, z134b⟩ := hR.r1 z134 z134m
                    have z134h : z134.toInt = ((ga 1).getD z127.toInt.toNat 0).toInt := by rw [z134g, z132E]
                    refine v_istore rfl (Nat.le_of_ble_eq_true rfl) ?_
                    refine v_iload rfl rfl ?_
                    refine v_iload rfl rfl ?_
                    refine v_aload_n rfl rfl ?_
                    refine v_get rfl h44 rfl ?_
                    refine v_aload_n rfl rfl ?_
                    refine v_get rfl h44 rfl ?_
                    refine v_iload rfl rfl ?_
                    refine r_iaload rfl h47 rw46l (by omega) (by omega) (fun z135 z135m z135g => ?_)
                    obtain ⟨z135a, z135b⟩ := rw46r z135 z135m
                    have z135E : z135 = z127 := by rw [z135g, z127g]
                    have h136 : _ = some _ := hI42.2.1 66 (by decide) (by decide)
                    refine r_iaload rfl h136 hR.l2 (by omega) (by omega) (fun z137 z137m z137g => ?_)
                    obtain ⟨z137a, z137b⟩ := hR.r2 z137 z137m
                    have z137h : z137.toInt = ((ga 2).getD z127.toInt.toNat 0).toInt := by rw [z137g, z135E]
                    refine r_icmp_le rfl (fun t138 => ?_) (fun t138 => ?_)
                    · refine v_iconst (v := 0) rfl (by decide) ?_
                      refine r_iadd rfl (by omega) (by omega) (fun z139 z139e => ?_)
                      refine v_istore rfl (Nat.le_of_ble_eq_true rfl) ?_
                      refine r_iinc rfl rfl (by decide) (by omega) (by omega) (fun z140 z140e => ?_)
                      refine v_goto rfl ?_
                      exact ih54_53 z131 z134 z139 z140 (by omega) (by omega) (by omega) (by omega) (by omega) (by omega) (by omega) (by omega) (by omega) (by omega) (by omega) (by
                          have q := t66
                          rw [bs_drop (by rw [bs_seq_len]; omega)] at q
                          have q : l51.toInt + (max 0 (l49.toInt + bs_C gi ga (((bs_seq (bs_n gi ga) (bs_n gi ga) 0) l17.toInt.toNat).getD l52.toInt.toNat 0) l50.toInt - bs_D gi ga (((bs_seq (bs_n gi ga) (bs_n gi ga) 0) l17.toInt.toNat).getD l52.toInt.toNat 0)) + bs_sum (bs_C gi ga) (bs_L gi ga) (bs_D gi ga) (List.drop (l52.toInt.toNat + 1) ((bs_seq (bs_n gi ga) (bs_n gi ga) 0) l17.toInt.toNat)) (l49.toInt + bs_C gi ga (((bs_seq (bs_n gi ga) (bs_n gi ga) 0) l17.toInt.toNat).getD l52.toInt.toNat 0) l50.toInt) (bs_L gi ga (((bs_seq (bs_n gi ga) (bs_n gi ga) 0) l17.toInt.toNat).getD l52.toInt.toNat 0))) = bs_v gi ga l17.toInt.toNat := q
                          have hC : bs_C gi ga (((bs_seq (bs_n gi ga) (bs_n gi ga) 0) l17.toInt.toNat).getD l52.toInt.toNat 0) l50.toInt = z130.toInt := by
                            show bs_days gi ga (bs_O gi ga (((bs_seq (bs_n gi ga) (bs_n gi ga) 0) l17.toInt.toNat).getD l52.toInt.toNat 0)) l50.toInt = _
                            rw [← z127O]
                            exact z130p2.symm
                          have hL : bs_L gi ga (((bs_seq (bs_n gi ga) (bs_n gi ga) 0) l17.toInt.toNat).getD l52.toInt.toNat 0) = z134.toInt := by
                            show ((ga 1).getD (bs_O gi ga (((bs_seq (bs_n gi ga) (bs_n gi ga) 0) l17.toInt.toNat).getD l52.toInt.toNat 0)) 0).toInt = _
                            rw [← z127O, z134h]
                          have hD : bs_D gi ga (((bs_seq (bs_n gi ga) (bs_n gi ga) 0) l17.toInt.toNat).getD l52.toInt.toNat 0) = z137.toInt := by
                            show ((ga 2).getD (bs_O gi ga (((bs_seq (bs_n gi ga) (bs_n gi ga) 0) l17.toInt.toNat).getD l52.toInt.toNat 0)) 0).toInt = _
                            rw [← z127O, z137h]
                          rw [hC, hL, hD, show l49.toInt + z130.toInt = z131.toInt by omega] at q
                          rw [show z140.toInt.toNat = l52.toInt.toNat + 1 by omega]
                          omega) (by omega)
                    · refine v_iload rfl rfl ?_
                      refine v_aload_n rfl rfl ?_
                      refine v_get rfl h44 rfl ?_
                      refine v_aload_n rfl rfl ?_
                      refine v_get rfl h44 rfl ?_
                      refine v_iload rfl rfl ?_
                      refine r_iaload rfl h47 rw46l (by omega) (by omega) (fun z141 z141m z141g => ?_)
                      obtain ⟨z141a, z141b⟩ := rw46r z141 z141m
                      have z141E : z141 = z127 := by rw [z141g, z127g]
                      refine r_iaload rfl h136 hR.l2 (by omega) (by omega) (fun z142 z142m z142g => ?_)
                      obtain ⟨z142a, z142b⟩ := hR.r2 z142 z142m
                      have z142h : z142.toInt = ((ga 2).getD z127.toInt.toNat 0).toInt := by rw [z142g, z141E]
                      refine r_isub rfl (by omega) (by omega) (fun z143 z143e => ?_)
                      refine v_goto rfl ?_
                      refine r_iadd rfl (by omega) (by omega) (fun z144 z144e => ?_)
                      refine v_istore rfl (Nat.le_of_ble_eq_true rfl) ?_
                      refine r_iinc rfl rfl (by decide) (by omega) (by omega) (fun z145 z145e => ?_)
                      refine v_goto rfl ?_
                      exact ih54_53 z131 z134 z144 z145 (by omega) (by omega) (by omega) (by omega) (by omega) (by omega) (by omega) (by omega) (by omega) (by omega) (by omega) (by
                          have q := t66
                          rw [bs_drop (by rw [bs_seq_len]; omega)] at q
                          have q : l51.toInt + (max 0 (l49.toInt + bs_C gi ga (((bs_seq (bs_n gi ga) (bs_n gi ga) 0) l17.toInt.toNat).getD l52.toInt.toNat 0) l50.toInt - bs_D gi ga (((bs_seq (bs_n gi ga) (bs_n gi ga) 0) l17.toInt.toNat).getD l52.toInt.toNat 0)) + bs_sum (bs_C gi ga) (bs_L gi ga) (bs_D gi ga) (List.drop (l52.toInt.toNat + 1) ((bs_seq (bs_n gi ga) (bs_n gi ga) 0) l17.toInt.toNat)) (l49.toInt + bs_C gi ga (((bs_seq (bs_n gi ga) (bs_n gi ga) 0) l17.toInt.toNat).getD l52.toInt.toNat 0) l50.toInt) (bs_L gi ga (((bs_seq (bs_n gi ga) (bs_n gi ga) 0) l17.toInt.toNat).getD l52.toInt.toNat 0))) = bs_v gi ga l17.toInt.toNat := q
                          have hC : bs_C gi ga (((bs_seq (bs_n gi ga) (bs_n gi ga) 0) l17.toInt.toNat).getD l52.toInt.toNat 0) l50.toInt = z130.toInt := by
                            show bs_days gi ga (bs_O gi ga (((bs_seq (bs_n gi ga) (bs_n gi ga) 0) l17.toInt.toNat).getD l52.toInt.toNat 0)) l50.toInt = _
                            rw [← z127O]
                            exact z130p2.symm
                          have hL : bs_L gi ga (((bs_seq (bs_n gi ga) (bs_n gi ga) 0) l17.toInt.toNat).getD l52.toInt.toNat 0) = z134.toInt := by
                            show ((ga 1).getD (bs_O gi ga (((bs_seq (bs_n gi ga) (bs_n gi ga) 0) l17.toInt.toNat).getD l52.toInt.toNat 0)) 0).toInt = _
                            rw [← z127O, z134h]
                          have hD : bs_D gi ga (((bs_seq (bs_n gi ga) (bs_n gi ga) 0) l17.toInt.toNat).getD l52.toInt.toNat 0) = z137.toInt := by
                            show ((ga 2).getD (bs_O gi ga (((bs_seq (bs_n gi ga) (bs_n gi ga) 0) l17.toInt.toNat).getD l52.toInt.toNat 0)) 0).toInt = _
                            rw [← z127O, z137h]
                          rw [hC, hL, hD, show l49.toInt + z130.toInt = z131.toInt by omega] at q
                          rw [show z145.toInt.toNat = l52.toInt.toNat + 1 by omega]
                          omega) (by omega)
              exact L53 _ (gi 5) (gi 6) (0 : Int32) (0 : Int32) (by omega) (by omega) (by omega) (by omega) (by omega) (by omega) (by omega) (by omega) (by omega) (by omega) (by omega) (by rw [show (0 : Int32).toInt.toNat = 0 from rfl, List.drop_zero, k0, Int.zero_add]; rfl) (Nat.lt_add_one _)
        exact L31 _ (-1 : Int32) (0 : Int32) (.null) (.null) (.null) (.null) w xs13 xs15 hI hh hc59 hc85 h12 xs13l xs13r h14 xs15l xs15r (by omega) (by omega) (by omega) (by omega) (by omega) (by exact Or.inl ⟨rfl, by decide⟩) (Nat.lt_add_one _)
      · refine v_iload_n rfl rfl ?_
        refine v_iload_n rfl rfl ?_
        refine r_facmul rfl (t10) (by omega) (by omega) (fun z146 z146f => ?_)
        have z146r := z146f.rng
        refine v_istore_n rfl (Nat.le_of_ble_eq_true rfl) ?_
        refine r_iinc rfl rfl (by decide) (by omega) (by omega) (fun z147 z147e => ?_)
        refine v_goto rfl ?_
        exact ih4_3 z146 z147 (by omega) (by omega) (by omega) (by omega) (by omega) (by rw [show z147.toInt - 1 = l2.toInt by omega]; exact z146f) (by omega)
  exact L3 _ (1 : Int32) (2 : Int32) (by omega) (by omega) (by omega) (by omega) (by omega) (by unfold pm_fac; omega) (Nat.lt_add_one _)
set_option maxRecDepth 100000 in
theorem W_X12_best_59_x {sc : pm_S} {w w0 : pm_W} {gi : Nat → Int32} {ga : Nat → List Int32}   (hR : pm_Rg gi ga) (hI : pm_IM gi ga w) (hh : pm_lo w0 w) : pm_Mt sc 2 166 1 [.ref 59] w (fun rv w' => ∃ v : Int32, rv = some (.int v) ∧ bs_Pbest gi ga v ∧ pm_IM gi ga w' ∧ pm_lo w0 w') := by
  intro d hd
  obtain ⟨g0a, g0b⟩ := hR.n0
  obtain ⟨g1a, g1b⟩ := hR.n1
  obtain ⟨g2a, g2b⟩ := hR.n2
  obtain ⟨g3a, g3b⟩ := hR.n3
  obtain ⟨g4a, g4b⟩ := hR.n4
  obtain ⟨g5a, g5b⟩ := hR.n5
  obtain ⟨g6a, g6b⟩ := hR.n6
  obtain ⟨g7a, g7b⟩ := hR.n7
  obtain ⟨g8a, g8b⟩ := hR.n8
  have km3 : (-3 : Int32).toInt = -3 := by decide
  show pm_V sc d 166 0 [.ref 59] [] w _
  refine v_aload_n rfl rfl ?_
  obtain ⟨v2, v3, v4, v5, v6, v7, v8, v9, ⟨v2z, v2e⟩, ⟨⟨v3a, v3b⟩, v3e⟩, ⟨⟨v4a, v4b⟩, v4e⟩, ⟨v6a, v6b⟩, ⟨v9a, v9b⟩, h1⟩ := hI.2.1 59 (by decide) (by decide)
  have v2z := v2z.imp i_eq.mp i_eq.mp
  rw [i_0, i_1] at v2z
  refine v_callV rfl (W_X12_ask_59_x hR hI hh) rfl rfl h1 rfl rfl (by omega) (fun rv w10 hq11 => ?_)
  obtain ⟨z12, a13, a14, a15, a16, a17, a18, a19, a20, op21, rfl, hI22, hh23, h24, h25, op21l, op21r, t26, t27, t28, t29, t30, t31, t32, t33, t34, t35, op21n, op21q, z12v⟩ := hq11
  have z12z : z12.toInt = 0 ∨ z12.toInt = 1 := by rcases z12v with ⟨g, -⟩ | ⟨g, -⟩ <;> omega
  refine r_if_eq rfl (fun t36 => ?_) (fun t36 => ?_)
  · refine v_aload_n rfl rfl ?_
    refine v_bipush (v := (-3)) rfl (by decide) ?_
    refine v_callV rfl (c_M_refuse (-3 : Int32) (by unfold pm_isR; first | decide | exact Or.inl rfl) hR hI22) rfl rfl h24 rfl rfl (by omega) (fun rv w37 hq38 => ?_)
    obtain ⟨rfl, hI39, hh40x⟩ := hq38
    have hI39 : pm_IM gi ga w37 := hI39
    have hh40 := hh23.tr hh40x
    exact v_iret rfl ⟨_, rfl, Or.inl ⟨(by rcases z12v with ⟨g, -⟩ | ⟨-, g⟩; (omega); exact g), by omega⟩, hI39, hh40⟩
  · refine v_aload_n rfl rfl ?_
    have hn7 : bs_n gi ga ≤ 7 := by rcases z12v with ⟨-, g⟩ | ⟨g, -⟩; (exact g); omega
    refine v_callV rfl (W_X12_findBest_59_x a13 a14 a15 a16 a17 a18 a19 a20 op21 (by omega) (by omega) (op21q.op hn7) (by omega) (by omega) (by omega) (by omega) (by omega) (by omega) (by omega) (by omega) (by omega) (by omega) h24 h25 op21l op21r hR hI22 hh23) rfl rfl h24 rfl rfl (by omega) (fun rv w41 hq42 => ?_)
    obtain ⟨v9, br9, rfl, hI9, hh9, c59, c87, l87, r87, w9⟩ := hq42
    refine v_goto rfl ?_
    exact v_iret rfl ⟨_, rfl, Or.inr ⟨hn7, br9, w9⟩, hI9, hh9⟩
set_option maxRecDepth 100000 in
theorem W_X12_bestAt_59_x {sc : pm_S} {w w0 : pm_W} {gi : Nat → Int32} {ga : Nat → List Int32} (i : Int32)  (hR : pm_Rg gi ga) (hI : pm_IM gi ga w) (hh : pm_lo w0 w) : pm_Mt sc 2 167 3 [.ref 59, .int i] w (fun rv w' => ∃ v : Int32, rv = some (.int v) ∧ bs_PbestAt gi ga i v ∧ pm_IM gi ga w' ∧ pm_lo w0 w') := by
  intro d hd
  obtain ⟨g0a, g0b⟩ := hR.n0
  obtain ⟨g1a, g1b⟩ := hR.n1
  obtain ⟨g2a, g2b⟩ := hR.n2
  obtain ⟨g3a, g3b⟩ := hR.n3
  obtain ⟨g4a, g4b⟩ := hR.n4
  obtain ⟨g5a, g5b⟩ := hR.n5
  obtain ⟨g6a, g6b⟩ := hR.n6
  obtain ⟨g7a, g7b⟩ := hR.n7
  obtain ⟨g8a, g8b⟩ := hR.n8
  have km9 : (-9 : Int32).toInt = -9 := by decide
  have km3 : (-3 : Int32).toInt = -3 := by decide
  have k0 : (0 : Int32).toInt = 0 := by decide
  have k1 : (1 : Int32).toInt = 1 := by decide
  show pm_V sc d 167 0 [.ref 59, .int i, .null] [] w _
  refine v_aload_n rfl rfl ?_
  obtain ⟨v2, v3, v4, v5, v6, v7, v8, v9, ⟨v2z, v2e⟩, ⟨⟨v3a, v3b⟩, v3e⟩, ⟨⟨v4a, v4b⟩, v4e⟩, ⟨v6a, v6b⟩, ⟨v9a, v9b⟩, h1⟩ := hI.2.1 59 (by decide) (by decide)
  have v2z := v2z.imp i_eq.mp i_eq.mp
  rw [i_0, i_1] at v2z
  refine v_callV rfl (W_X12_ask_59_x hR hI hh) rfl rfl h1 rfl rfl (by omega) (fun rv w10 hq11 => ?_)
  obtain ⟨z12, a13, a14, a15, a16, a17, a18, a19, a20, op21, rfl, hI22, hh23, h24, h25, op21l, op21r, t26, t27, t28, t29, t30, t31, t32, t33, t34, t35, op21n, op21q, z12v⟩ := hq11
  have z12z : z12.toInt = 0 ∨ z12.toInt = 1 := by rcases z12v with ⟨g, -⟩ | ⟨g, -⟩ <;> omega
  refine r_if_ne rfl (fun t36 => ?_) (fun t36 => ?_)
  · refine v_iload_n rfl rfl ?_
    refine v_iconst (v := 0) rfl (by decide) ?_
    refine v_aload_n rfl rfl ?_
    refine v_get rfl h24 rfl ?_
    refine v_iconst (v := 1) rfl (by decide) ?_
    refine r_isub rfl (by omega) (by omega) (fun z37 z37e => ?_)
    refine v_callS rfl (W_X12_in i (0 : Int32) z37 hR hI22) rfl rfl rfl rfl rfl (by omega) (fun rv w38 hq39 => ?_)
    obtain ⟨⟨z40, rfl, z40p0⟩, rfl⟩ := hq39
    refine r_if_ne rfl (fun t41 => ?_) (fun t41 => ?_)
    · refine v_aload_n rfl rfl ?_
      have hn7 : bs_n gi ga ≤ 7 := by rcases z12v with ⟨-, g⟩ | ⟨g, -⟩; (exact g); omega
      refine v_callV rfl (W_X12_findBest_59_x a13 a14 a15 a16 a17 a18 a19 a20 op21 (by omega) (by omega) (op21q.op hn7) (by omega) (by omega) (by omega) (by omega) (by omega) (by omega) (by omega) (by omega) (by omega) (by omega) h24 h25 op21l op21r hR hI22 hh23) rfl rfl h24 rfl rfl (by omega) (fun rv w42 hq43 => ?_)
      obtain ⟨v9, br9, rfl, hI9, hh9, c59, c87, l87, r87, w9⟩ := hq43
      refine v_istore_n rfl (Nat.le_of_ble_eq_true rfl) ?_
      refine v_aload_n rfl rfl ?_
      refine v_get rfl c59 rfl ?_
      refine v_iload_n rfl rfl ?_
      refine r_iaload rfl c87 l87 (by omega) (by omega) (fun z44 z44m z44g => ?_)
      obtain ⟨z44a, z44b⟩ := r87 z44 z44m
      exact v_iret rfl ⟨_, rfl, Or.inr (Or.inr ⟨hn7, by omega, v9.toInt, br9, w9, z44g⟩), hI9, hh9⟩
    · refine v_bipush (v := (-9)) rfl (by decide) ?_
      exact v_iret rfl ⟨_, rfl, Or.inr (Or.inl ⟨by rcases z12v with ⟨-, g⟩ | ⟨g, -⟩; (exact g); omega, by omega, by omega⟩), hI22, hh23⟩
  · refine v_aload_n rfl rfl ?_
    refine v_bipush (v := (-3)) rfl (by decide) ?_
    refine v_callV rfl (c_M_refuse (-3 : Int32) (by unfold pm_isR; first | decide | exact Or.inl rfl) hR hI22) rfl rfl h24 rfl rfl (by omega) (fun rv w45 hq46 => ?_)
    obtain ⟨rfl, hI47, hh48x⟩ := hq46
    have hI47 : pm_IM gi ga w45 := hI47
    have hh48 := hh23.tr hh48x
    exact v_iret rfl ⟨_, rfl, Or.inl ⟨(by rcases z12v with ⟨g, -⟩ | ⟨-, g⟩; (omega); exact g), by omega⟩, hI47, hh48⟩

