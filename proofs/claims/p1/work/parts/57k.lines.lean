set_option maxRecDepth 100000 in
theorem W_X8_readRows_3_1_x {sc : pm_S} {w w0 : pm_W} {gi : Nat → Int32} {ga : Nat → List Int32}   (hR : pm_Rg gi ga) (hI : pm_IX gi ga w) (hh : pm_hi w0 w) : pm_Mt sc 1 48 2 [.ref 3, .ref 1] w (fun rv w' => rv = none ∧ pm_IX gi ga w' ∧ pm_hi w0 w' ∧ ∃ cs : List Int64, w'[3]? = some (.inr (8, [.int (gi 1), .ref 4])) ∧ w'[4]? = some (.inl (2, .inr (.inl cs))) ∧ cs.length = 20 ∧ ∀ j, j < (gi 1).toInt.toNat → cs[j]? = some (Int64.ofNat (sq_E (pm_rowf (ga 15) j) 20))) := by
  intro d hd
  obtain ⟨g0a, g0b⟩ := hR.n0
  obtain ⟨g1a, g1b⟩ := hR.n1
  obtain ⟨g2a, g2b⟩ := hR.n2
  obtain ⟨g3a, g3b⟩ := hR.n3
  obtain ⟨g4a, g4b⟩ := hR.n4
  obtain ⟨g5a, g5b⟩ := hR.n5
  obtain ⟨g6a, g6b⟩ := hR.n6
  obtain ⟨g7a, g7b⟩ := hR.n7
  obtain ⟨g8a, g8b⟩ := hR.n8
  have k0 : (0 : Int32).toInt = 0 := by decide
  show pm_V sc d 48 0 [.ref 3, .ref 1] [] w _
  refine v_aload_n rfl rfl ?_
  refine v_aload_n rfl rfl ?_
  have h1 : _ = some _ := hI.2 1 (by decide)
  refine v_get rfl h1 rfl ?_
  obtain ⟨v3, ⟨v3a, v3b⟩, h2⟩ := hI.2 3 (by decide)
  refine v_put rfl h2 rfl (Nat.le_of_ble_eq_true rfl) ?_
  refine r_gen (w' := w.set 3 (.inr (8, [.int (gi 1), .ref 4]))) (fun w4 e5 => ?_)
  have hI6 : pm_IX gi ga w4 := by rw [e5]; exact hI.set 3 (by decide) ⟨(gi 1), ⟨by omega, by omega⟩, rfl⟩
  have hh7 : pm_hi w0 w4 := by rw [e5]; exact hh.set (by decide) _
  have h8 := r_get_ne e5 (show 3 ≠ 1 by decide) h1
  have h9 := r_get_eq e5 h2
  refine v_aload_n rfl rfl ?_
  refine v_get rfl h8 rfl ?_
  refine v_iconst (v := 0) rfl (by decide) ?_
  refine v_aload_n rfl rfl ?_
  refine v_get rfl h9 rfl ?_
  refine v_iconst (v := 0) rfl (by decide) ?_
  refine v_aload_n rfl rfl ?_
  refine v_get rfl h9 rfl ?_
  obtain ⟨sq11l, sq11r, h10⟩ := hI6.2 2 (by decide)
  obtain ⟨xs13, xs13l, h12⟩ := hI6.2 4 (by decide)
  refine r_copylx rfl (by omega) (by omega) (by omega) (by omega) rfl rfl h10 h12 pm_enc_len xs13l (by omega) (by omega) (fun ys14 ys14l ys14n => ?_)
  refine r_gen (w' := w4.set 4 (.inl (2, .inr (.inl ys14)))) (fun w15 e16 => ?_)
  have hI17 : pm_IX gi ga w15 := by rw [e16]; exact hI6.set 4 (by decide) ⟨ys14, ys14l, rfl⟩
  have hh18 : pm_hi w0 w15 := by rw [e16]; exact hh7.set (by decide) _
  have h19 := r_get_ne e16 (show 4 ≠ 1 by decide) h8
  have h20 := r_get_ne e16 (show 4 ≠ 3 by decide) h9
  have h21 := r_get_ne e16 (show 4 ≠ 2 by decide) h10
  have h22 := r_get_eq e16 h12
  exact v_ret rfl ⟨rfl, hI17, hh18, ⟨ys14, h20, h22, ys14l, fun j hj => by rw [ys14n j (by omega)]; exact pm_enc_at (by omega)⟩⟩
set_option maxRecDepth 100000 in
theorem W_X11_readLines_0_x {sc : pm_S} {w w0 : pm_W} {gi : Nat → Int32} {ga : Nat → List Int32} (k : Int32)  (hR : pm_Rg gi ga) (hI : pm_IX gi ga w) (hh : pm_hi w0 w) : pm_Mt sc 2 110 2 [.ref 0, .int k] w (fun rv w' => rv = none ∧ pm_IX gi ga w' ∧ pm_hi w0 w' ∧ ∃ (m : Int32) (cs : List Int64), w'[3]? = some (.inr (8, [.int m, .ref 4])) ∧ w'[4]? = some (.inl (2, .inr (.inl cs))) ∧ cs.length = 20 ∧ 1 ≤ m.toInt ∧ m.toInt ≤ 20 ∧ ((k.toInt = 0 ∧ m = gi 0 ∧ ∀ j, j < (gi 0).toInt.toNat → cs[j]? = some (Int64.ofNat (sq_E (pm_colf (ga 15) j) (gi 1).toInt.toNat))) ∨ (¬ k.toInt = 0 ∧ m = gi 1 ∧ ∀ j, j < (gi 1).toInt.toNat → cs[j]? = some (Int64.ofNat (sq_E (pm_rowf (ga 15) j) 20))))) := by
  intro d hd
  obtain ⟨g0a, g0b⟩ := hR.n0
  obtain ⟨g1a, g1b⟩ := hR.n1
  obtain ⟨g2a, g2b⟩ := hR.n2
  obtain ⟨g3a, g3b⟩ := hR.n3
  obtain ⟨g4a, g4b⟩ := hR.n4
  obtain ⟨g5a, g5b⟩ := hR.n5
  obtain ⟨g6a, g6b⟩ := hR.n6
  obtain ⟨g7a, g7b⟩ := hR.n7
  obtain ⟨g8a, g8b⟩ := hR.n8
  show pm_V sc d 110 0 [.ref 0, .int k] [] w _
  refine v_iload_n rfl rfl ?_
  refine r_if_ne rfl (fun t1 => ?_) (fun t1 => ?_)
  · refine v_aload_n rfl rfl ?_
    obtain ⟨v3, ⟨v3z, v3e⟩, h2⟩ := hI.2 0 (by decide)
    have v3z := v3z.imp i_eq.mp i_eq.mp
    rw [i_0, i_1] at v3z
    refine v_get rfl h2 rfl ?_
    refine v_aload_n rfl rfl ?_
    refine v_get rfl h2 rfl ?_
    obtain ⟨v5, ⟨v5a, v5b⟩, h4⟩ := hI.2 3 (by decide)
    refine v_callV rfl (W_X8_readRows_3_1_x  hR hI hh) rfl rfl h4 rfl rfl (by omega) (fun rv w6 hq7 => ?_)
    obtain ⟨rfl, hI9, hh10, ⟨cs11, h12, h13, cs11l, cs11e⟩⟩ := hq7
    exact v_ret rfl ⟨rfl, hI9, hh10, ⟨(gi 1), cs11, h12, h13, cs11l, by omega, by omega, Or.inr ⟨by omega, rfl, cs11e⟩⟩⟩
  · refine v_aload_n rfl rfl ?_
    obtain ⟨v15, ⟨v15z, v15e⟩, h14⟩ := hI.2 0 (by decide)
    have v15z := v15z.imp i_eq.mp i_eq.mp
    rw [i_0, i_1] at v15z
    refine v_get rfl h14 rfl ?_
    refine v_aload_n rfl rfl ?_
    refine v_get rfl h14 rfl ?_
    obtain ⟨v17, ⟨v17a, v17b⟩, h16⟩ := hI.2 3 (by decide)
    refine v_callV rfl (W_X8_readColumns_3_1_x  hR hI hh) rfl rfl h16 rfl rfl (by omega) (fun rv w18 hq19 => ?_)
    obtain ⟨rfl, hI21, hh22, ⟨cs23, h24, h25, cs23l, cs23e⟩⟩ := hq19
    refine v_goto rfl ?_
    exact v_ret rfl ⟨rfl, hI21, hh22, ⟨(gi 0), cs23, h24, h25, cs23l, by omega, by omega, Or.inl ⟨by omega, rfl, cs23e⟩⟩⟩
set_option maxRecDepth 100000 in
theorem W_X11_span_0_x {sc : pm_S} {w w0 : pm_W} {gi : Nat → Int32} {ga : Nat → List Int32} (k : Int32)  (hR : pm_Rg gi ga) (hI : pm_IX gi ga w) (hh : pm_hi w0 w) (hO : pm_Oz gi ga) : pm_Mt sc 3 75 2 [.ref 0, .int k] w (fun rv w' => pm_wI (fun v => sq_Pspan gi ga k v) rv ∧ pm_IX gi ga w' ∧ pm_hi w0 w') := by
  intro d hd
  obtain ⟨g0a, g0b⟩ := hR.n0
  obtain ⟨g1a, g1b⟩ := hR.n1
  obtain ⟨g2a, g2b⟩ := hR.n2
  obtain ⟨g3a, g3b⟩ := hR.n3
  obtain ⟨g4a, g4b⟩ := hR.n4
  obtain ⟨g5a, g5b⟩ := hR.n5
  obtain ⟨g6a, g6b⟩ := hR.n6
  obtain ⟨g7a, g7b⟩ := hR.n7
  obtain ⟨g8a, g8b⟩ := hR.n8
  have km2 : (-2 : Int32).toInt = -2 := by decide
  have k2 : (2 : Int32).toInt = 2 := by decide
  show pm_V sc d 75 0 [.ref 0, .int k] [] w _
  have hcl : sq_cl (ga 15) := by obtain ⟨l2, r2, -⟩ := hI.2 2 (by decide); exact ⟨l2, r2⟩
  refine v_iload_n rfl rfl ?_
  refine v_iconst (v := 2) rfl (by decide) ?_
  refine v_callS rfl (W_X11_isPlace k (2 : Int32) hR hI) rfl rfl rfl rfl rfl (by omega) (fun rv w1 hq2 => ?_)
  obtain ⟨⟨z3, rfl, z3p0⟩, rfl⟩ := hq2
  refine r_if_ne rfl (fun t4 => ?_) (fun t4 => ?_)
  · refine v_aload_n rfl rfl ?_
    refine v_iload_n rfl rfl ?_
    obtain ⟨v6, ⟨v6z, v6e⟩, h5⟩ := hI.2 0 (by decide)
    have v6z := v6z.imp i_eq.mp i_eq.mp
    rw [i_0, i_1] at v6z
    refine v_callV rfl (W_X11_readLines_0_x k hR hI hh) rfl rfl h5 rfl rfl (by omega) (fun rv w7 hq8 => ?_)
    obtain ⟨rfl, hI10, hh11, ⟨m12, cs13, h14, h15, cs13l, m12a, m12b, cs13e⟩⟩ := hq8
    refine v_aload_n rfl rfl ?_
    obtain ⟨v17, ⟨v17z, v17e⟩, h16⟩ := hI10.2 0 (by decide)
    have v17z := v17z.imp i_eq.mp i_eq.mp
    rw [i_0, i_1] at v17z
    refine v_get rfl h16 rfl ?_
    refine v_callV rfl (W_X8_leastSpan_3_x m12 cs13 (by omega) (by omega) (by omega) h14 h15 cs13l hR hI10) rfl rfl h14 rfl rfl (by omega) (fun rv w18 hq19 => ?_)
    obtain ⟨⟨z20, rfl, z20p0, z20p1, z20p2⟩, rfl⟩ := hq19
    exact v_iret rfl ⟨⟨_, rfl, (by
        rcases cs13e with ⟨g0, rfl, g2⟩ | ⟨g0, rfl, g2⟩
        · exact Or.inr (Or.inl ⟨g0, by omega, sq_LS.imp z20p2 (fun n => sq_RC0 hcl (by omega) (by omega) g2)⟩)
        · exact Or.inr (Or.inr ⟨by omega, by omega, sq_LS.imp z20p2 (fun n => sq_RC1 hcl hO (by omega) (by omega) (by omega) g2)⟩))⟩, hI10, hh11⟩
  · refine v_aload_n rfl rfl ?_
    refine v_bipush (v := (-2)) rfl (by decide) ?_
    obtain ⟨v22, ⟨v22z, v22e⟩, h21⟩ := hI.2 0 (by decide)
    have v22z := v22z.imp i_eq.mp i_eq.mp
    rw [i_0, i_1] at v22z
    refine v_callV rfl (c_X_refuse (-2 : Int32) (by unfold pm_isR; first | decide | exact Or.inl rfl) hR hI) rfl rfl h21 rfl rfl (by omega) (fun rv w23 hq24 => ?_)
    obtain ⟨rfl, hI25, hh26x⟩ := hq24
    have hI25 : pm_IX gi ga w23 := hI25
    have hh26 := hh.tr hh26x
    exact v_iret rfl ⟨⟨_, rfl, (by exact Or.inl ⟨by omega, by omega⟩)⟩, hI25, hh26⟩
set_option maxRecDepth 100000 in
theorem W_X11_around_y {sc : pm_S} {w : pm_W} {gi : Nat → Int32} {ga : Nat → List Int32} (i : Int32) (n : Int32) (p0 : n.toInt ≤ 20) (p1 : 0 ≤ n.toInt) (p2 : i.toInt ≤ 40) (p3 : (-40) ≤ i.toInt) (p4 : -n.toInt ≤ i.toInt) (p5 : i.toInt < 2 * n.toInt) (hR : pm_Rg gi ga) (hI : pm_IX gi ga w) : pm_Mt sc 0 115 2 [.int i, .int n] w (fun rv w' => pm_wI (fun v => 0 ≤ v.toInt ∧ v.toInt < n.toInt ∧ (i.toInt < 0 → v.toInt = i.toInt + n.toInt) ∧ (0 ≤ i.toInt → i.toInt < n.toInt → v.toInt = i.toInt) ∧ (n.toInt ≤ i.toInt → v.toInt = i.toInt - n.toInt)) rv ∧ w = w') := by
  intro d hd
  obtain ⟨g0a, g0b⟩ := hR.n0
  obtain ⟨g1a, g1b⟩ := hR.n1
  obtain ⟨g2a, g2b⟩ := hR.n2
  obtain ⟨g3a, g3b⟩ := hR.n3
  obtain ⟨g4a, g4b⟩ := hR.n4
  obtain ⟨g5a, g5b⟩ := hR.n5
  obtain ⟨g6a, g6b⟩ := hR.n6
  obtain ⟨g7a, g7b⟩ := hR.n7
  obtain ⟨g8a, g8b⟩ := hR.n8
  show pm_V sc d 115 0 [.int i, .int n] [] w _
  refine v_iload_n rfl rfl ?_
  refine r_if_ge rfl (fun t1 => ?_) (fun t1 => ?_)
  · refine v_iload_n rfl rfl ?_
    refine v_iload_n rfl rfl ?_
    refine r_icmp_ge rfl (fun t2 => ?_) (fun t2 => ?_)
    · refine v_iload_n rfl rfl ?_
      refine v_iload_n rfl rfl ?_
      refine r_isub rfl (by omega) (by omega) (fun z3 z3e => ?_)
      exact v_iret rfl ⟨⟨_, rfl, (by omega), (by omega), (by omega), (by omega), (by omega)⟩, rfl⟩
    · refine v_iload_n rfl rfl ?_
      refine v_goto rfl ?_
      exact v_iret rfl ⟨⟨_, rfl, (by omega), (by omega), (by omega), (by omega), (by omega)⟩, rfl⟩
  · refine v_iload_n rfl rfl ?_
    refine v_iload_n rfl rfl ?_
    refine r_iadd rfl (by omega) (by omega) (fun z4 z4e => ?_)
    exact v_iret rfl ⟨⟨_, rfl, (by omega), (by omega), (by omega), (by omega), (by omega)⟩, rfl⟩
theorem j_am {m k A r : Nat} (hm : m < A) (hk : k < A) (h : (m < k ∧ r = m + A - k) ∨ (k ≤ m ∧ r = m - k)) : (m + A - k) % A = r := by
  rcases h with ⟨h1, h2⟩ | ⟨h1, h2⟩
  · rw [Nat.mod_eq_of_lt (by omega), h2]
  · rw [show m + A - k = (m - k) + A by omega, Nat.add_mod_right, Nat.mod_eq_of_lt (by omega), h2]
set_option maxRecDepth 100000 in
theorem W_X8_mirrorsAt_3_x {sc : pm_S} {w : pm_W} {gi : Nat → Int32} {ga : Nat → List Int32} (m : Int32) (c3_0 : Int32) (c4 : List Int64) (p0 : m.toInt ≤ 19) (p1 : 0 ≤ m.toInt) (p2 : m.toInt < c3_0.toInt) (p3 : 0 ≤ c3_0.toInt) (p4 : c3_0.toInt ≤ 20) (hc3 : w[3]? = some (.inr (8, [.int c3_0, .ref 4]))) (hc4 : w[4]? = some (.inl (2, .inr (.inl c4)))) (hl4 : c4.length = 20) (hR : pm_Rg gi ga) (hI : pm_IX gi ga w) : pm_Mt sc 1 52 3 [.ref 3, .int m] w (fun rv w' => pm_wI (fun v => 0 ≤ v.toInt ∧ v.toInt ≤ 1 ∧ ((v.toInt = 1 ∧ sq_MC c4 c3_0.toInt.toNat m.toInt.toNat) ∨ (v.toInt = 0 ∧ ¬ sq_MC c4 c3_0.toInt.toNat m.toInt.toNat))) rv ∧ w = w') := by
  intro d hd
  obtain ⟨g0a, g0b⟩ := hR.n0
  obtain ⟨g1a, g1b⟩ := hR.n1
  obtain ⟨g2a, g2b⟩ := hR.n2
  obtain ⟨g3a, g3b⟩ := hR.n3
  obtain ⟨g4a, g4b⟩ := hR.n4
  obtain ⟨g5a, g5b⟩ := hR.n5
  obtain ⟨g6a, g6b⟩ := hR.n6
  obtain ⟨g7a, g7b⟩ := hR.n7
  obtain ⟨g8a, g8b⟩ := hR.n8
  have k0 : (0 : Int32).toInt = 0 := by decide
  have k1 : (1 : Int32).toInt = 1 := by decide
  show pm_V sc d 52 0 [.ref 3, .int m, .null] [] w _
  refine v_iconst (v := 1) rfl (by decide) ?_
  refine v_istore_n rfl (Nat.le_of_ble_eq_true rfl) ?_
  have L2 : ∀ (n2 : Nat) (l1 : Int32), 1 ≤ l1.toInt → l1.toInt ≤ 20 → (∀ k, k < l1.toInt.toNat → c4[(m.toInt.toNat + c3_0.toInt.toNat - k) % c3_0.toInt.toNat]? = c4[(m.toInt.toNat + k) % c3_0.toInt.toNat]?) → (20 - l1.toInt).toNat < n2 → pm_V sc d 52 2 [.ref 3, .int m, .int l1] [] w (fun rv w' => pm_wI (fun v => 0 ≤ v.toInt ∧ v.toInt ≤ 1 ∧ ((v.toInt = 1 ∧ sq_MC c4 c3_0.toInt.toNat m.toInt.toNat) ∨ (v.toInt = 0 ∧ ¬ sq_MC c4 c3_0.toInt.toNat m.toInt.toNat))) rv ∧ w = w') := by
    intro n2
    induction n2 with
    | zero => intro l1 t4 t5 t6 hm3; exact absurd hm3 (Nat.not_lt_zero _)
    | succ n2 ih2_2 =>
      intro l1 t4 t5 t6 hm3
      refine v_iload_n rfl rfl ?_
      refine v_aload_n rfl rfl ?_
      refine v_get rfl hc3 rfl ?_
      refine r_icmp_ge rfl (fun t7 => ?_) (fun t7 => ?_)
      · refine v_iconst (v := 1) rfl (by decide) ?_
        exact r_zret rfl (by omega) ⟨⟨_, rfl, (by omega), (by omega), (by exact Or.inl ⟨by omega, fun k hk => t6 k (by omega)⟩)⟩, rfl⟩
      · refine v_aload_n rfl rfl ?_
        refine v_get rfl hc3 rfl ?_
        refine v_iload_n rfl rfl ?_
        refine v_iload_n rfl rfl ?_
        refine r_isub rfl (by omega) (by omega) (fun z8 z8e => ?_)
        refine v_aload_n rfl rfl ?_
        refine v_get rfl hc3 rfl ?_
        refine v_callS rfl (W_X11_around_y z8 c3_0 (by omega) (by omega) (by omega) (by omega) (by omega) (by omega) hR hI) rfl rfl rfl rfl rfl (by omega) (fun rv w9 hq10 => ?_)
        obtain ⟨⟨z11, rfl, z11p0, z11p1, z11p2, z11p3, z11p4⟩, rfl⟩ := hq10
        skip
        obtain ⟨z12, z12z⟩ : ∃ z, c4[z11.toNatClampNeg]? = some z := ⟨_, List.getElem?_eq_getElem (r_ix hl4 (by omega) (by omega))⟩
        refine v_laload rfl hc4 (r_nn (by omega)) z12z ?_
        skip
        refine v_aload_n rfl rfl ?_
        refine v_get rfl hc3 rfl ?_
        refine v_iload_n rfl rfl ?_
        refine v_iload_n rfl rfl ?_
        refine r_iadd rfl (by omega) (by omega) (fun z13 z13e => ?_)
        refine v_aload_n rfl rfl ?_
        refine v_get rfl hc3 rfl ?_
        refine v_callS rfl (W_X11_around_y z13 c3_0 (by omega) (by omega) (by omega) (by omega) (by omega) (by omega) hR hI) rfl rfl rfl rfl rfl (by omega) (fun rv w14 hq15 => ?_)
        obtain ⟨⟨z16, rfl, z16p0, z16p1, z16p2, z16p3, z16p4⟩, rfl⟩ := hq15
        skip
        obtain ⟨z17, z17z⟩ : ∃ z, c4[z16.toNatClampNeg]? = some z := ⟨_, List.getElem?_eq_getElem (r_ix hl4 (by omega) (by omega))⟩
        refine v_laload rfl hc4 (r_nn (by omega)) z17z ?_
        skip
        refine r_lcmp rfl (fun z18 z18c => ?_)
        skip
        refine r_if_eq rfl (fun t19 => ?_) (fun t19 => ?_)
        · refine r_iinc rfl rfl (by decide) (by omega) (by omega) (fun z20 z20e => ?_)
          refine v_goto rfl ?_
          exact ih2_2 z20 (by omega) (by omega) (by
              intro k hk
              by_cases e : k < l1.toInt.toNat
              · exact t6 k e
              · have e2 : k = l1.toInt.toNat := by omega
                subst e2
                rw [(j_am (by omega) (by omega) (by omega) : (m.toInt.toNat + c3_0.toInt.toNat - l1.toInt.toNat) % c3_0.toInt.toNat = z11.toInt.toNat), (j_ar (by omega) (by omega) (by omega) : z16.toInt.toNat = (m.toInt.toNat + l1.toInt.toNat) % c3_0.toInt.toNat).symm, ← i_cl, ← i_cl, z12z, z17z, (z18c.mp (by omega))]) (by omega)
        · refine v_iconst (v := 0) rfl (by decide) ?_
          exact r_zret rfl (by omega) ⟨⟨_, rfl, (by omega), (by omega), (by
              refine Or.inr ⟨by omega, fun hx => ?_⟩
              have q := hx l1.toInt.toNat (by omega)
              rw [(j_am (by omega) (by omega) (by omega) : (m.toInt.toNat + c3_0.toInt.toNat - l1.toInt.toNat) % c3_0.toInt.toNat = z11.toInt.toNat), (j_ar (by omega) (by omega) (by omega) : z16.toInt.toNat = (m.toInt.toNat + l1.toInt.toNat) % c3_0.toInt.toNat).symm, ← i_cl, ← i_cl, z12z, z17z] at q
              exact absurd (z18c.mpr (Option.some.inj q)) (by omega))⟩, rfl⟩
  exact L2 _ (1 : Int32) (by omega) (by omega) (by
      intro k hk
      have e : k = 0 := by rw [show (1 : Int32).toInt.toNat = 1 from rfl] at hk; omega
      subst e
      rw [Nat.sub_zero, Nat.add_mod_right, Nat.add_zero]) (Nat.lt_add_one _)
set_option maxRecDepth 100000 in
theorem W_X8_leastMirror_3_x {sc : pm_S} {w : pm_W} {gi : Nat → Int32} {ga : Nat → List Int32} (c3_0 : Int32) (c4 : List Int64) (p0 : 0 ≤ c3_0.toInt) (p1 : c3_0.toInt ≤ 20) (hc3 : w[3]? = some (.inr (8, [.int c3_0, .ref 4]))) (hc4 : w[4]? = some (.inl (2, .inr (.inl c4)))) (hl4 : c4.length = 20) (hR : pm_Rg gi ga) (hI : pm_IX gi ga w) : pm_Mt sc 2 50 2 [.ref 3] w (fun rv w' => pm_wI (fun v => sq_LM c3_0.toInt.toNat (sq_MC c4 c3_0.toInt.toNat) v.toInt) rv ∧ w = w') := by
  intro d hd
  obtain ⟨g0a, g0b⟩ := hR.n0
  obtain ⟨g1a, g1b⟩ := hR.n1
  obtain ⟨g2a, g2b⟩ := hR.n2
  obtain ⟨g3a, g3b⟩ := hR.n3
  obtain ⟨g4a, g4b⟩ := hR.n4
  obtain ⟨g5a, g5b⟩ := hR.n5
  obtain ⟨g6a, g6b⟩ := hR.n6
  obtain ⟨g7a, g7b⟩ := hR.n7
  obtain ⟨g8a, g8b⟩ := hR.n8
  have km9 : (-9 : Int32).toInt = -9 := by decide
  have k0 : (0 : Int32).toInt = 0 := by decide
  show pm_V sc d 50 0 [.ref 3, .null] [] w _
  refine v_iconst (v := 0) rfl (by decide) ?_
  refine v_istore_n rfl (Nat.le_of_ble_eq_true rfl) ?_
  have L2 : ∀ (n2 : Nat) (l1 : Int32), 0 ≤ l1.toInt → l1.toInt ≤ 20 → (l1.toInt ≤ c3_0.toInt) → (∀ n, n < l1.toInt.toNat → ¬ sq_MC c4 c3_0.toInt.toNat n) → (20 - l1.toInt).toNat < n2 → pm_V sc d 50 2 [.ref 3, .int l1] [] w (fun rv w' => pm_wI (fun v => sq_LM c3_0.toInt.toNat (sq_MC c4 c3_0.toInt.toNat) v.toInt) rv ∧ w = w') := by
    intro n2
    induction n2 with
    | zero => intro l1 t4 t5 t6 t7 hm3; exact absurd hm3 (Nat.not_lt_zero _)
    | succ n2 ih2_2 =>
      intro l1 t4 t5 t6 t7 hm3
      refine v_iload_n rfl rfl ?_
      refine v_aload_n rfl rfl ?_
      refine v_get rfl hc3 rfl ?_
      refine r_icmp_ge rfl (fun t8 => ?_) (fun t8 => ?_)
      · refine v_bipush (v := (-9)) rfl (by decide) ?_
        exact v_iret rfl ⟨⟨_, rfl, (by exact Or.inl ⟨by omega, fun n hn => t7 n (by omega)⟩)⟩, rfl⟩
      · refine v_aload_n rfl rfl ?_
        refine v_iload_n rfl rfl ?_
        refine v_callV rfl (W_X8_mirrorsAt_3_x l1 c3_0 c4 (by omega) (by omega) (by omega) (by omega) (by omega) hc3 hc4 hl4 hR hI) rfl rfl hc3 rfl rfl (by omega) (fun rv w9 hq10 => ?_)
        obtain ⟨⟨z11, rfl, z11p0, z11p1, z11p2⟩, rfl⟩ := hq10
        skip
        refine r_if_eq rfl (fun t12 => ?_) (fun t12 => ?_)
        · refine r_iinc rfl rfl (by decide) (by omega) (by omega) (fun z13 z13e => ?_)
          refine v_goto rfl ?_
          exact ih2_2 z13 (by omega) (by omega) (by omega) (by
              intro n hn
              by_cases e : n < l1.toInt.toNat
              · exact t7 n e
              · have e2 : n = l1.toInt.toNat := by omega
                subst e2
                rcases z11p2 with g | g
                · exact absurd g.1 (by omega)
                · exact g.2) (by omega)
        · refine v_iload_n rfl rfl ?_
          exact v_iret rfl ⟨⟨_, rfl, (by exact Or.inr ⟨l1.toInt.toNat, by omega, by omega, (by rcases z11p2 with g | g; (exact g.2); exact absurd g.1 (by omega)), t7⟩)⟩, rfl⟩
  exact L2 _ (0 : Int32) (by omega) (by omega) (by omega) (by intro n hn; rw [show (0 : Int32).toInt.toNat = 0 from rfl] at hn; omega) (Nat.lt_add_one _)
set_option maxRecDepth 100000 in
theorem W_X11_mirror_0_x {sc : pm_S} {w w0 : pm_W} {gi : Nat → Int32} {ga : Nat → List Int32} (k : Int32)  (hR : pm_Rg gi ga) (hI : pm_IX gi ga w) (hh : pm_hi w0 w) (hO : pm_Oz gi ga) : pm_Mt sc 3 76 2 [.ref 0, .int k] w (fun rv w' => pm_wI (fun v => sq_Pmirror gi ga k v) rv ∧ pm_IX gi ga w' ∧ pm_hi w0 w') := by
  intro d hd
  obtain ⟨g0a, g0b⟩ := hR.n0
  obtain ⟨g1a, g1b⟩ := hR.n1
  obtain ⟨g2a, g2b⟩ := hR.n2
  obtain ⟨g3a, g3b⟩ := hR.n3
  obtain ⟨g4a, g4b⟩ := hR.n4
  obtain ⟨g5a, g5b⟩ := hR.n5
  obtain ⟨g6a, g6b⟩ := hR.n6
  obtain ⟨g7a, g7b⟩ := hR.n7
  obtain ⟨g8a, g8b⟩ := hR.n8
  have km2 : (-2 : Int32).toInt = -2 := by decide
  have k2 : (2 : Int32).toInt = 2 := by decide
  show pm_V sc d 76 0 [.ref 0, .int k] [] w _
  have hcl : sq_cl (ga 15) := by obtain ⟨l2, r2, -⟩ := hI.2 2 (by decide); exact ⟨l2, r2⟩
  refine v_iload_n rfl rfl ?_
  refine v_iconst (v := 2) rfl (by decide) ?_
  refine v_callS rfl (W_X11_isPlace k (2 : Int32) hR hI) rfl rfl rfl rfl rfl (by omega) (fun rv w1 hq2 => ?_)
  obtain ⟨⟨z3, rfl, z3p0⟩, rfl⟩ := hq2
  refine r_if_ne rfl (fun t4 => ?_) (fun t4 => ?_)
  · refine v_aload_n rfl rfl ?_
    refine v_iload_n rfl rfl ?_
    obtain ⟨v6, ⟨v6z, v6e⟩, h5⟩ := hI.2 0 (by decide)
    have v6z := v6z.imp i_eq.mp i_eq.mp
    rw [i_0, i_1] at v6z
    refine v_callV rfl (W_X11_readLines_0_x k hR hI hh) rfl rfl h5 rfl rfl (by omega) (fun rv w7 hq8 => ?_)
    obtain ⟨rfl, hI10, hh11, ⟨m12, cs13, h14, h15, cs13l, m12a, m12b, cs13e⟩⟩ := hq8
    refine v_aload_n rfl rfl ?_
    obtain ⟨v17, ⟨v17z, v17e⟩, h16⟩ := hI10.2 0 (by decide)
    have v17z := v17z.imp i_eq.mp i_eq.mp
    rw [i_0, i_1] at v17z
    refine v_get rfl h16 rfl ?_
    refine v_callV rfl (W_X8_leastMirror_3_x m12 cs13 (by omega) (by omega) h14 h15 cs13l hR hI10) rfl rfl h14 rfl rfl (by omega) (fun rv w18 hq19 => ?_)
    obtain ⟨⟨z20, rfl, z20p0⟩, rfl⟩ := hq19
    exact v_iret rfl ⟨⟨_, rfl, (by
        rcases cs13e with ⟨g0, rfl, g2⟩ | ⟨g0, rfl, g2⟩
        · exact Or.inr (Or.inl ⟨g0, sq_LM.imp z20p0 (fun n => sq_MC0 hcl (by omega) (by omega) g2)⟩)
        · exact Or.inr (Or.inr ⟨by omega, sq_LM.imp z20p0 (fun n => sq_MC1 hcl hO (by omega) (by omega) (by omega) g2)⟩))⟩, hI10, hh11⟩
  · refine v_aload_n rfl rfl ?_
    refine v_bipush (v := (-2)) rfl (by decide) ?_
    obtain ⟨v22, ⟨v22z, v22e⟩, h21⟩ := hI.2 0 (by decide)
    have v22z := v22z.imp i_eq.mp i_eq.mp
    rw [i_0, i_1] at v22z
    refine v_callV rfl (c_X_refuse (-2 : Int32) (by unfold pm_isR; first | decide | exact Or.inl rfl) hR hI) rfl rfl h21 rfl rfl (by omega) (fun rv w23 hq24 => ?_)
    obtain ⟨rfl, hI25, hh26x⟩ := hq24
    have hI25 : pm_IX gi ga w23 := hI25
    have hh26 := hh.tr hh26x
    exact v_iret rfl ⟨⟨_, rfl, (by exact Or.inl ⟨by omega, by omega⟩)⟩, hI25, hh26⟩

