noncomputable def pm_colf (ds : List Int32) (x : Nat) : Nat → Nat := fun y => (ds.getD (20 * y + x) 0).toInt.toNat
theorem sq_cl.col {ds : List Int32} (h : sq_cl ds) (x i : Nat) : pm_colf ds x i < 4 := by
  have := h.at (20 * i + x)
  unfold pm_colf
  omega
theorem pm_shlc {z y : Int32} (h0 : 0 ≤ z.toInt) (h3 : z.toInt < 4) (y0 : 0 ≤ y.toInt) (y1 : y.toInt < 20) : z.toInt64 <<< ((2 * y).toInt64 &&& 63) = Int64.ofNat (z.toInt.toNat * 4 ^ y.toInt.toNat) := by
  have q := pm_shl4 y.toInt.toNat (by omega) z.toInt.toNat (by omega)
  rw [← i_nI h0, ← i_nI y0] at q
  exact q
theorem W_X10_colourAt_1_x {sc : pm_S} {w : pm_W} {gi : Nat → Int32} {ga : Nat → List Int32} (x y : Int32) (p0 : 0 ≤ x.toInt) (p1 : x.toInt < 20) (p2 : 0 ≤ y.toInt) (p3 : y.toInt < 20) (hR : pm_Rg gi ga) (hI : pm_IX gi ga w) : pm_Mt sc 0 63 3 [.ref 1, .int x, .int y] w (fun rv w' => pm_wI (fun v => v = (ga 15).getD (20 * y.toInt.toNat + x.toInt.toNat) 0 ∧ 0 ≤ v.toInt ∧ v.toInt ≤ 3) rv ∧ w = w') := by
  have h1 : _ = some _ := hI.2 1 (by decide)
  obtain ⟨l2, r2, h2⟩ := hI.2 2 (by decide)
  have hcl : sq_cl (ga 15) := ⟨l2, r2⟩
  refine m_weak (c_colourAt h1 h2 pm_enc_len x y p2 p3) (fun rv w' hq => ?_)
  obtain ⟨e1, e2⟩ := hq
  rw [pm_col_enc hcl p0 p1 p2 p3] at e2
  exact ⟨⟨_, e2, rfl, hcl.at _⟩, e1⟩
set_option maxRecDepth 100000 in
theorem W_X8_readColumns_6_1_x {sc : pm_S} {w w0 : pm_W} {gi : Nat → Int32} {ga : Nat → List Int32}   (hR : pm_Rg gi ga) (hI : pm_IX gi ga w) (hh : pm_hi w0 w) : pm_Mt sc 1 47 6 [.ref 6, .ref 1] w (fun rv w' => rv = none ∧ pm_IX gi ga w' ∧ pm_hi w0 w' ∧ ∃ cs : List Int64, w'[6]? = some (.inr (8, [.int (gi 0), .ref 7])) ∧ w'[7]? = some (.inl (2, .inr (.inl cs))) ∧ cs.length = 20 ∧ ∀ j, j < (gi 0).toInt.toNat → cs[j]? = some (Int64.ofNat (sq_E (pm_colf (ga 15) j) (gi 1).toInt.toNat))) := by
  intro d hd
  obtain ⟨g0a, g0b⟩ := hR.n0
  obtain ⟨g1a, g1b⟩ := hR.n1
  obtain ⟨g2a, g2b⟩ := hR.n2
  obtain ⟨g3a, g3b⟩ := hR.n3
  obtain ⟨g4a, g4b⟩ := hR.n4
  obtain ⟨g5a, g5b⟩ := hR.n5
  obtain ⟨g6a, g6b⟩ := hR.n6
  obtain ⟨g7a, g7b⟩ := hR.n7
  obtain ⟨g8a, g8b⟩ := hR.n8
  have k0 : (0 : Int32).toInt = 0 := by decide
  have k2 : (2 : Int32).toInt = 2 := by decide
  show pm_V sc d 47 0 [.ref 6, .ref 1, .null, .null, .null, .null] [] w _
  have hcl : sq_cl (ga 15) := by obtain ⟨l2, r2, -⟩ := hI.2 2 (by decide); exact ⟨l2, r2⟩
  refine v_aload_n rfl rfl ?_
  refine v_aload_n rfl rfl ?_
  have h1 : _ = some _ := hI.2 1 (by decide)
  refine v_get rfl h1 rfl ?_
  obtain ⟨v3, ⟨v3a, v3b⟩, h2⟩ := hI.2 6 (by decide)
  refine v_put rfl h2 rfl (Nat.le_of_ble_eq_true rfl) ?_
  refine r_gen (w' := w.set 6 (.inr (8, [.int (gi 0), .ref 7]))) (fun w4 e5 => ?_)
  have hI6 : pm_IX gi ga w4 := by rw [e5]; exact hI.set 6 (by decide) ⟨(gi 0), ⟨by omega, by omega⟩, rfl⟩
  have hh7 : pm_hi w0 w4 := by rw [e5]; exact hh.set (by decide) _
  have h8 := r_get_ne e5 (show 6 ≠ 1 by decide) h1
  have h9 := r_get_eq e5 h2
  refine v_iconst (v := 0) rfl (by decide) ?_
  refine v_istore_n rfl (Nat.le_of_ble_eq_true rfl) ?_
  obtain ⟨xs11, xs11l, h10⟩ := hI6.2 7 (by decide)
  have L22 : ∀ (n22 : Nat) (l12 : Int32) (u13 : Value) (u14 : Value) (u15 : Value) (w16 : pm_W) (xs21 : List Int64), pm_IX gi ga w16 → pm_hi w0 w16 → w16[6]? = some (.inr (8, [.int (gi 0), .ref 7])) → w16[7]? = some (.inl (2, .inr (.inl xs21))) → xs21.length = 20 → 0 ≤ l12.toInt → l12.toInt ≤ 20 → (∀ j, j < l12.toInt.toNat → xs21[j]? = some (Int64.ofNat (sq_E (pm_colf (ga 15) j) (gi 1).toInt.toNat))) → (20 - l12.toInt).toNat < n22 → pm_V sc d 47 10 [.ref 6, .ref 1, .int l12, u13, u14, u15] [] w16 (fun rv w' => rv = none ∧ pm_IX gi ga w' ∧ pm_hi w0 w' ∧ ∃ cs : List Int64, w'[6]? = some (.inr (8, [.int (gi 0), .ref 7])) ∧ w'[7]? = some (.inl (2, .inr (.inl cs))) ∧ cs.length = 20 ∧ ∀ j, j < (gi 0).toInt.toNat → cs[j]? = some (Int64.ofNat (sq_E (pm_colf (ga 15) j) (gi 1).toInt.toNat))) := by
    intro n22
    induction n22 with
    | zero => intro l12 u13 u14 u15 w16 xs21 hI17 hh18 h19 h20 xs21l t24 t25 t26 hm23; exact absurd hm23 (Nat.not_lt_zero _)
    | succ n22 ih10_22 =>
      intro l12 u13 u14 u15 w16 xs21 hI17 hh18 h19 h20 xs21l t24 t25 t26 hm23
      refine v_iload_n rfl rfl ?_
      refine v_aload_n rfl rfl ?_
      refine v_get rfl h19 rfl ?_
      refine r_icmp_ge rfl (fun t27 => ?_) (fun t27 => ?_)
      · exact v_ret rfl ⟨rfl, hI17, hh18, ⟨xs21, h19, h20, xs21l, fun j hj => t26 j (by omega)⟩⟩
      · refine v_lconst (v := 0) rfl (by decide) ?_
        refine v_lstore_n rfl (Nat.le_of_ble_eq_true rfl) ?_
        refine v_iconst (v := 0) rfl (by decide) ?_
        refine v_istore rfl (Nat.le_of_ble_eq_true rfl) ?_
        have L31 : ∀ (n31 : Nat) (j28 : Int64) (u29 : Value) (l30 : Int32), 0 ≤ l30.toInt → l30.toInt ≤ 20 → (l30.toInt ≤ (gi 1).toInt) → (j28 = Int64.ofNat (sq_E (pm_colf (ga 15) l12.toInt.toNat) l30.toInt.toNat)) → (20 - l30.toInt).toNat < n31 → pm_V sc d 47 23 [.ref 6, .ref 1, .int l12, .long j28, u29, .int l30] [] w16 (fun rv w' => rv = none ∧ pm_IX gi ga w' ∧ pm_hi w0 w' ∧ ∃ cs : List Int64, w'[6]? = some (.inr (8, [.int (gi 0), .ref 7])) ∧ w'[7]? = some (.inl (2, .inr (.inl cs))) ∧ cs.length = 20 ∧ ∀ j, j < (gi 0).toInt.toNat → cs[j]? = some (Int64.ofNat (sq_E (pm_colf (ga 15) j) (gi 1).toInt.toNat))) := by
          intro n31
          induction n31 with
          | zero => intro j28 u29 l30 t33 t34 t35 t36 hm32; exact absurd hm32 (Nat.not_lt_zero _)
          | succ n31 ih23_31 =>
            intro j28 u29 l30 t33 t34 t35 t36 hm32
            refine v_iload rfl rfl ?_
            refine v_aload_n rfl rfl ?_
            have h37 : _ = some _ := hI17.2 1 (by decide)
            refine v_get rfl h37 rfl ?_
            refine r_icmp_ge rfl (fun t38 => ?_) (fun t38 => ?_)
            · refine v_aload_n rfl rfl ?_
              refine v_get rfl h19 rfl ?_
              refine v_iload_n rfl rfl ?_
              refine v_lload_n rfl rfl ?_
              refine v_lastore rfl h20 (r_nn (by omega)) (r_ix xs21l (by omega) (by omega)) ?_
              have ln39 : (xs21.set l12.toNatClampNeg j28).length = 20 := by rw [List.length_set]; exact xs21l
              refine r_gen (w' := w16.set 7 (.inl (2, .inr (.inl (xs21.set l12.toNatClampNeg j28))))) (fun w40 e41 => ?_)
              have hI42 : pm_IX gi ga w40 := by rw [e41]; exact hI17.set 7 (by decide) ⟨_, ln39, rfl⟩
              have hh43 : pm_hi w0 w40 := by rw [e41]; exact hh18.set (by decide) _
              have h44 := r_get_ne e41 (show 7 ≠ 6 by decide) h19
              have h45 := r_get_ne e41 (show 7 ≠ 1 by decide) h37
              have h46 := r_get_eq e41 h20
              refine r_iinc rfl rfl (by decide) (by omega) (by omega) (fun z47 z47e => ?_)
              refine v_goto rfl ?_
              exact ih10_22 z47 (.long j28) (u29) (.int l30) w40 (xs21.set l12.toNatClampNeg j28) hI42 hh43 h44 h46 ln39 (by omega) (by omega) (by
                  intro j hj
                  by_cases e : l12.toNatClampNeg = j
                  · subst e
                    rw [List.getElem?_set_self (r_ix xs21l (by omega) (by omega)), t36, i_cl, show l30.toInt.toNat = (gi 1).toInt.toNat by omega]
                  · rw [List.getElem?_set_ne e]
                    exact t26 j (by rw [i_cl] at e; omega)) (by omega)
            · refine v_lload_n rfl rfl ?_
              refine v_aload_n rfl rfl ?_
              refine v_iload_n rfl rfl ?_
              refine v_iload rfl rfl ?_
              refine v_callV rfl (W_X10_colourAt_1_x l12 l30 (by omega) (by omega) (by omega) (by omega) hR hI17) rfl rfl h37 rfl rfl (by omega) (fun rv w48 hq49 => ?_)
              obtain ⟨⟨z50, rfl, z50p0, z50p1, z50p2⟩, rfl⟩ := hq49
              refine v_i2l rfl ?_
              refine v_iconst (v := 2) rfl (by decide) ?_
              refine v_iload rfl rfl ?_
              refine v_imul rfl ?_
              refine v_lshl rfl ?_
              refine v_lor rfl ?_
              refine v_lstore_n rfl (Nat.le_of_ble_eq_true rfl) ?_
              refine r_iinc rfl rfl (by decide) (by omega) (by omega) (fun z51 z51e => ?_)
              refine v_goto rfl ?_
              exact ih23_31 (j28 ||| (z50.toInt64 <<< (((2 : Int32) * l30).toInt64 &&& 63))) (.null) z51 (by omega) (by omega) (by omega) (by rw [show z51.toInt.toNat = l30.toInt.toNat + 1 by omega, sq_E_succ, ← sq_E_or (fun i _ => hcl.col _ i), ← pm_ofNat_or, ← t36, pm_shlc (by omega) (by omega) (by omega) (by omega), z50p0]; rfl) (by omega)
        exact L31 _ (0 : Int64) (.null) (0 : Int32) (by omega) (by omega) (by omega) (by rfl) (Nat.lt_add_one _)
  exact L22 _ (0 : Int32) (.null) (.null) (.null) w4 xs11 hI6 hh7 h9 h10 xs11l (by omega) (by omega) (by intro j hj; rw [show (0 : Int32).toInt.toNat = 0 from rfl] at hj; omega) (Nat.lt_add_one _)

