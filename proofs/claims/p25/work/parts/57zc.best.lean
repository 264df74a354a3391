set_option maxRecDepth 100000 in
theorem W_X9_isOpen_27_x {sc : pm_S} {w : pm_W} {gi : Nat → Int32} {ga : Nat → List Int32} (o : Int32) (p0 : o.toInt ≤ 11) (p1 : 0 ≤ o.toInt) (hR : pm_Rg gi ga) (hI : pm_IX gi ga w) : pm_Mt sc 0 55 2 [.ref 27, .int o] w (fun rv w' => pm_wI (fun v => 0 ≤ v.toInt ∧ v.toInt ≤ 1 ∧ ((v.toInt = 1 ∧ ((ga 3).getD o.toInt.toNat 0).toInt < 0) ∨ (v.toInt = 0 ∧ ¬ ((ga 3).getD o.toInt.toNat 0).toInt < 0))) rv ∧ w = w') := by
  intro d hd
  obtain ⟨g0a, g0b⟩ := hR.n0
  obtain ⟨g1a, g1b⟩ := hR.n1
  obtain ⟨g2a, g2b⟩ := hR.n2
  obtain ⟨g3a, g3b⟩ := hR.n3
  obtain ⟨g4a, g4b⟩ := hR.n4
  obtain ⟨g5a, g5b⟩ := hR.n5
  obtain ⟨g6a, g6b⟩ := hR.n6
  obtain ⟨g7a, g7b⟩ := hR.n7
  obtain ⟨g8a, g8b⟩ := hR.n8
  have k0 : (0 : Int32).toInt = 0 := by decide
  have k1 : (1 : Int32).toInt = 1 := by decide
  show pm_V sc d 55 0 [.ref 27, .int o] [] w _
  refine v_aload_n rfl rfl ?_
  have h1 : _ = some _ := hI.2 27 (by decide)
  refine v_get rfl h1 rfl ?_
  refine v_iload_n rfl rfl ?_
  have h2 : _ = some _ := hI.2 31 (by decide)
  refine r_iaload rfl h2 hR.l3 (by omega) (by omega) (fun z3 z3m z3g => ?_)
  obtain ⟨z3a, z3b⟩ := hR.r3 z3 z3m
  have z3h : z3.toInt = ((ga 3).getD o.toInt.toNat 0).toInt := congrArg Int32.toInt z3g
  refine r_if_ge rfl (fun t4 => ?_) (fun t4 => ?_)
  · refine v_iconst (v := 0) rfl (by decide) ?_
    exact r_zret rfl (by omega) ⟨⟨_, rfl, (by omega), (by omega), (by omega)⟩, rfl⟩
  · refine v_iconst (v := 1) rfl (by decide) ?_
    refine v_goto rfl ?_
    exact r_zret rfl (by omega) ⟨⟨_, rfl, (by omega), (by omega), (by omega)⟩, rfl⟩
set_option maxRecDepth 100000 in
theorem W_X9_openOrders_27_x {sc : pm_S} {w : pm_W} {gi : Nat → Int32} {ga : Nat → List Int32}   (hR : pm_Rg gi ga) (hI : pm_IX gi ga w) : pm_Mt sc 1 56 3 [.ref 27] w (fun rv w' => pm_wI (fun v => 0 ≤ v.toInt ∧ v.toInt ≤ 12 ∧ v.toInt = (bs_n gi ga : Int)) rv ∧ w = w') := by
  intro d hd
  obtain ⟨g0a, g0b⟩ := hR.n0
  obtain ⟨g1a, g1b⟩ := hR.n1
  obtain ⟨g2a, g2b⟩ := hR.n2
  obtain ⟨g3a, g3b⟩ := hR.n3
  obtain ⟨g4a, g4b⟩ := hR.n4
  obtain ⟨g5a, g5b⟩ := hR.n5
  obtain ⟨g6a, g6b⟩ := hR.n6
  obtain ⟨g7a, g7b⟩ := hR.n7
  obtain ⟨g8a, g8b⟩ := hR.n8
  have k0 : (0 : Int32).toInt = 0 := by decide
  show pm_V sc d 56 0 [.ref 27, .null, .null] [] w _
  refine v_iconst (v := 0) rfl (by decide) ?_
  refine v_istore_n rfl (Nat.le_of_ble_eq_true rfl) ?_
  refine v_iconst (v := 0) rfl (by decide) ?_
  refine v_istore_n rfl (Nat.le_of_ble_eq_true rfl) ?_
  have L3 : ∀ (n3 : Nat) (l1 : Int32) (l2 : Int32), 0 ≤ l1.toInt → l1.toInt ≤ 12 → 0 ≤ l2.toInt → l2.toInt ≤ 12 → (l2.toInt ≤ (gi 7).toInt) → (l1.toInt ≤ l2.toInt) → (l1.toInt = (bs_no (ga 3) l2.toInt.toNat : Int)) → (12 - l2.toInt).toNat < n3 → pm_V sc d 56 4 [.ref 27, .int l1, .int l2] [] w (fun rv w' => pm_wI (fun v => 0 ≤ v.toInt ∧ v.toInt ≤ 12 ∧ v.toInt = (bs_n gi ga : Int)) rv ∧ w = w') := by
    intro n3
    induction n3 with
    | zero => intro l1 l2 t5 t6 t7 t8 t9 t10 t11 hm4; exact absurd hm4 (Nat.not_lt_zero _)
    | succ n3 ih4_3 =>
      intro l1 l2 t5 t6 t7 t8 t9 t10 t11 hm4
      refine v_iload_n rfl rfl ?_
      refine v_aload_n rfl rfl ?_
      have h12 : _ = some _ := hI.2 27 (by decide)
      refine v_get rfl h12 rfl ?_
      refine r_icmp_ge rfl (fun t13 => ?_) (fun t13 => ?_)
      · refine v_iload_n rfl rfl ?_
        exact v_iret rfl ⟨⟨_, rfl, (by omega), (by omega), (by
            unfold bs_n
            rw [show (gi 7).toInt.toNat = l2.toInt.toNat by omega]
            exact t11)⟩, rfl⟩
      · refine v_aload_n rfl rfl ?_
        refine v_iload_n rfl rfl ?_
        refine v_callV rfl (W_X9_isOpen_27_x l2 (by omega) (by omega) hR hI) rfl rfl h12 rfl rfl (by omega) (fun rv w14 hq15 => ?_)
        obtain ⟨⟨z16, rfl, z16p0, z16p1, z16p2⟩, rfl⟩ := hq15
        skip
        refine r_if_eq rfl (fun t17 => ?_) (fun t17 => ?_)
        · refine r_iinc rfl rfl (by decide) (by omega) (by omega) (fun z18 z18e => ?_)
          refine v_goto rfl ?_
          exact ih4_3 l1 z18 (by omega) (by omega) (by omega) (by omega) (by omega) (by omega) (by
              rw [show z18.toInt.toNat = l2.toInt.toNat + 1 by omega]
              rcases z16p2 with ⟨g1, g2⟩ | ⟨g1, g2⟩
              · rw [bs_no_s g2]; omega
              · rw [bs_no_n g2]; omega) (by omega)
        · refine r_iinc rfl rfl (by decide) (by omega) (by omega) (fun z19 z19e => ?_)
          refine r_iinc rfl rfl (by decide) (by omega) (by omega) (fun z20 z20e => ?_)
          refine v_goto rfl ?_
          exact ih4_3 z19 z20 (by omega) (by omega) (by omega) (by omega) (by omega) (by omega) (by
              rw [show z20.toInt.toNat = l2.toInt.toNat + 1 by omega]
              rcases z16p2 with ⟨g1, g2⟩ | ⟨g1, g2⟩
              · rw [bs_no_s g2]; omega
              · rw [bs_no_n g2]; omega) (by omega)
  exact L3 _ (0 : Int32) (0 : Int32) (by omega) (by omega) (by omega) (by omega) (by omega) (by omega) (by rfl) (Nat.lt_add_one _)
set_option maxRecDepth 100000 in
theorem W_X9_daysFor_27_x {sc : pm_S} {w : pm_W} {gi : Nat → Int32} {ga : Nat → List Int32} (o : Int32) (l : Int32) (p0 : o.toInt ≤ 11) (p1 : 0 ≤ o.toInt) (hR : pm_Rg gi ga) (hI : pm_IX gi ga w) : pm_Mt sc 0 57 4 [.ref 27, .int o, .int l] w (fun rv w' => pm_wI (fun v => 0 ≤ v.toInt ∧ v.toInt ≤ 138 ∧ v.toInt = bs_days gi ga o.toInt.toNat l.toInt) rv ∧ w = w') := by
  intro d hd
  obtain ⟨g0a, g0b⟩ := hR.n0
  obtain ⟨g1a, g1b⟩ := hR.n1
  obtain ⟨g2a, g2b⟩ := hR.n2
  obtain ⟨g3a, g3b⟩ := hR.n3
  obtain ⟨g4a, g4b⟩ := hR.n4
  obtain ⟨g5a, g5b⟩ := hR.n5
  obtain ⟨g6a, g6b⟩ := hR.n6
  obtain ⟨g7a, g7b⟩ := hR.n7
  obtain ⟨g8a, g8b⟩ := hR.n8
  have k1 : (1 : Int32).toInt = 1 := by decide
  show pm_V sc d 57 0 [.ref 27, .int o, .int l, .null] [] w _
  refine v_aload_n rfl rfl ?_
  have h1 : _ = some _ := hI.2 27 (by decide)
  refine v_get rfl h1 rfl ?_
  refine v_iload_n rfl rfl ?_
  have h2 : _ = some _ := hI.2 28 (by decide)
  refine r_iaload rfl h2 hR.l0 (by omega) (by omega) (fun z3 z3m z3g => ?_)
  obtain ⟨z3a, z3b⟩ := hR.r0 z3 z3m
  have z3h : z3.toInt = ((ga 0).getD o.toInt.toNat 0).toInt := congrArg Int32.toInt z3g
  refine v_aload_n rfl rfl ?_
  refine v_get rfl h1 rfl ?_
  refine r_iadd rfl (by omega) (by omega) (fun z4 z4e => ?_)
  refine v_iconst (v := 1) rfl (by decide) ?_
  refine r_isub rfl (by omega) (by omega) (fun z5 z5e => ?_)
  refine v_aload_n rfl rfl ?_
  refine v_get rfl h1 rfl ?_
  refine r_idiv rfl (by omega) (by omega) (fun z6 z6m z6a z6b => ?_)
  have z6h : z6.toInt = (((ga 0).getD o.toInt.toNat 0).toInt + (gi 3).toInt - 1) / (gi 3).toInt := by
    rw [z6m]
    congr 1
    omega
  clear z6m
  refine v_istore_n rfl (Nat.le_of_ble_eq_true rfl) ?_
  refine v_aload_n rfl rfl ?_
  refine v_get rfl h1 rfl ?_
  refine v_iload_n rfl rfl ?_
  have h7 : _ = some _ := hI.2 29 (by decide)
  refine r_iaload rfl h7 hR.l1 (by omega) (by omega) (fun z8 z8m z8g => ?_)
  obtain ⟨z8a, z8b⟩ := hR.r1 z8 z8m
  have z8h : z8.toInt = ((ga 1).getD o.toInt.toNat 0).toInt := congrArg Int32.toInt z8g
  refine v_iload_n rfl rfl ?_
  refine r_icmp_ne rfl (fun t9 => ?_) (fun t9 => ?_)
  · refine v_aload_n rfl rfl ?_
    refine v_get rfl h1 rfl ?_
    refine v_iload_n rfl rfl ?_
    refine r_iadd rfl (by omega) (by omega) (fun z10 z10e => ?_)
    exact v_iret rfl ⟨⟨_, rfl, (by omega), (by omega), (by
        unfold bs_days
        rw [if_neg (by omega), ← z6h]
        omega)⟩, rfl⟩
  · refine v_iload_n rfl rfl ?_
    refine v_goto rfl ?_
    exact v_iret rfl ⟨⟨_, rfl, (by omega), (by omega), (by
        unfold bs_days
        rw [if_pos (by omega), ← z6h]
        omega)⟩, rfl⟩
set_option maxRecDepth 100000 in
theorem W_X9_lateOf_27_x {sc : pm_S} {w : pm_W} {gi : Nat → Int32} {ga : Nat → List Int32} (o : Int32) (e : Int32) (p0 : e.toInt ≤ 20000) (p1 : 0 ≤ e.toInt) (p2 : o.toInt ≤ 11) (p3 : 0 ≤ o.toInt) (hR : pm_Rg gi ga) (hI : pm_IX gi ga w) : pm_Mt sc 1 58 3 [.ref 27, .int o, .int e] w (fun rv w' => pm_wI (fun v => 0 ≤ v.toInt ∧ v.toInt ≤ 20000 ∧ v.toInt ≤ e.toInt ∧ v.toInt = max 0 (e.toInt - ((ga 2).getD o.toInt.toNat 0).toInt)) rv ∧ w = w') := by
  intro d hd
  obtain ⟨g0a, g0b⟩ := hR.n0
  obtain ⟨g1a, g1b⟩ := hR.n1
  obtain ⟨g2a, g2b⟩ := hR.n2
  obtain ⟨g3a, g3b⟩ := hR.n3
  obtain ⟨g4a, g4b⟩ := hR.n4
  obtain ⟨g5a, g5b⟩ := hR.n5
  obtain ⟨g6a, g6b⟩ := hR.n6
  obtain ⟨g7a, g7b⟩ := hR.n7
  obtain ⟨g8a, g8b⟩ := hR.n8
  have k0 : (0 : Int32).toInt = 0 := by decide
  show pm_V sc d 58 0 [.ref 27, .int o, .int e] [] w _
  refine v_iconst (v := 0) rfl (by decide) ?_
  refine v_iload_n rfl rfl ?_
  refine v_aload_n rfl rfl ?_
  have h1 : _ = some _ := hI.2 27 (by decide)
  refine v_get rfl h1 rfl ?_
  refine v_iload_n rfl rfl ?_
  have h2 : _ = some _ := hI.2 30 (by decide)
  refine r_iaload rfl h2 hR.l2 (by omega) (by omega) (fun z3 z3m z3g => ?_)
  obtain ⟨z3a, z3b⟩ := hR.r2 z3 z3m
  have z3h : z3.toInt = ((ga 2).getD o.toInt.toNat 0).toInt := congrArg Int32.toInt z3g
  refine r_isub rfl (by omega) (by omega) (fun z4 z4e => ?_)
  refine r_max rfl (by omega) rfl (fun z5 z5a z5b z5c => ?_)
  exact v_iret rfl ⟨⟨_, rfl, (by omega), (by omega), (by omega), (by omega)⟩, rfl⟩
theorem r_copyix {sc : pm_S} {d mi pc nx b i ci mL : Nat} {ls st : List Value} {w : pm_W} {Q : Option Value → pm_W → Prop} {n dp sp : Int32} {q0 p0 np nq : Nat} {xs ys : List Int32} (hc : pm_code mi pc = some (.invokestatic i, nx, 999, b, ci, mL)) (hd : 1 ≤ d) (hn : 0 ≤ n.toInt) (hdp : dp.toInt = 0) (hsp : sp.toInt = 0) (hne : Nat.beq p0 q0 = false) (hcat : Nat.blt 8 (pm_cat st) = false) (hp : w[p0]? = some (.inl (0, .inl xs))) (hq : w[q0]? = some (.inl (0, .inl ys))) (lp : xs.length = np) (lq : ys.length = nq) (h1 : n.toInt ≤ np) (h2 : n.toInt ≤ nq)
    (k : ∀ zs : List Int32, zs.length = nq → (∀ z ∈ zs, z ∈ xs ∨ z ∈ ys) → (∀ j, j < n.toInt.toNat → zs.getD j 0 = xs.getD j 0) → pm_V sc d mi nx ls st (w.set q0 (.inl (0, .inl zs))) Q) : pm_V sc d mi pc ls (.int n :: .int dp :: .ref q0 :: .int sp :: .ref p0 :: st) w Q := by
  have e0 : sp.toNatClampNeg = 0 := by rw [i_cl, hsp]; rfl
  have e9 : dp.toNatClampNeg = 0 := by rw [i_cl, hdp]; rfl
  have e1 : sp.toNatClampNeg + n.toNatClampNeg ≤ xs.length := by rw [e0, i_cl, lp]; omega
  have e2 : dp.toNatClampNeg + n.toNatClampNeg ≤ ys.length := by rw [e9, i_cl, lq]; omega
  refine v_copyi hc hd (r_nn hn) (r_nn (by omega)) (r_nn (by omega)) hne hcat hp hq e1 e2 (k _ (by rw [r_cpy_len e1 e2, lq]) r_cpy_mem (fun j hj => ?_))
  rw [e0, e9, List.getD_eq_getElem?_getD, List.getD_eq_getElem?_getD, r_cpy0 (by rw [i_cl]; exact hj) (by rw [i_cl, lp]; omega)]

