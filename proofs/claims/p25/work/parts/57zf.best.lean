theorem pm_fac.f {w r : Int} (h : pm_fac w r) : w = (bs_f r.toNat : Int) := by
  rcases h with ⟨e, g⟩ | ⟨e, g⟩ | ⟨e, g⟩ | ⟨e, g⟩ | ⟨e, g⟩ | ⟨e, g⟩ | ⟨e, g⟩ | ⟨e, g⟩
  all_goals (rw [e, g]; decide)
/-- the open orders, as far as there is room -/
def bs_oq (d : List Int32) (m : Nat) (op : List Int32) : Prop := ∀ j, j < m → (d.getD j 0).toInt < 0 → bs_no d j < 7 → op.getD (bs_no d j) 0 = nI j
theorem bs_oq.op {d : List Int32} {m : Nat} {op : List Int32} (h : bs_oq d m op) (hn : bs_no d m ≤ 7) : bs_op d m op := fun j hj hd => h j hj hd (by
  have q := bs_no_le (d := d) (a := j + 1) m (by omega)
  rw [bs_no_s hd] at q
  omega)
theorem bs_oq.next {d : List Int32} {i : Nat} {op ys : List Int32} {v : Int32} (h : bs_oq d i op) (hv : v = nI i) (g : ys.getD (bs_no d i) 0 = v) (n : ∀ j, j ≠ bs_no d i → ys.getD j 0 = op.getD j 0) : bs_oq d (i + 1) ys := fun j hj hd h7 => by
  by_cases e : j = i
  · subst e
    rw [g, hv]
  · have q := bs_no_le (d := d) (a := j + 1) i (by omega)
    rw [bs_no_s hd] at q
    rw [n _ (by omega)]
    exact h j (by omega) hd h7
theorem bs_oq.over {d : List Int32} {i : Nat} {op : List Int32} (h : bs_oq d i op) (ho : 7 ≤ bs_no d i) : bs_oq d (i + 1) op := fun j hj hd h7 => by
  by_cases e : j = i
  · subst e; omega
  · exact h j (by omega) hd h7
theorem bs_oq.same {d : List Int32} {i : Nat} {op : List Int32} (h : bs_oq d i op) (ho : ¬ (d.getD i 0).toInt < 0) : bs_oq d (i + 1) op := fun j hj hd h7 => by
  by_cases e : j = i
  · subst e; exact absurd hd ho
  · exact h j (by omega) hd h7
set_option maxRecDepth 100000 in
theorem W_X12_daysOf_59_x {sc : pm_S} {w : pm_W} {gi : Nat → Int32} {ga : Nat → List Int32} (o : Int32) (l : Int32) (p0 : o.toInt ≤ 11) (p1 : 0 ≤ o.toInt) (hR : pm_Rg gi ga) (hI : pm_IM gi ga w) : pm_Mt sc 0 162 3 [.ref 59, .int o, .int l] w (fun rv w' => pm_wI (fun v => 0 ≤ v.toInt ∧ v.toInt ≤ 138 ∧ v.toInt = bs_days gi ga o.toInt.toNat l.toInt) rv ∧ w = w') := by
  intro d hd
  obtain ⟨g0a, g0b⟩ := hR.n0
  obtain ⟨g1a, g1b⟩ := hR.n1
  obtain ⟨g2a, g2b⟩ := hR.n2
  obtain ⟨g3a, g3b⟩ := hR.n3
  obtain ⟨g4a, g4b⟩ := hR.n4
  obtain ⟨g5a, g5b⟩ := hR.n5
  obtain ⟨g6a, g6b⟩ := hR.n6
  obtain ⟨g7a, g7b⟩ := hR.n7
  obtain ⟨g8a, g8b⟩ := hR.n8
  have k0 : (0 : Int32).toInt = 0 := by decide
  have k1 : (1 : Int32).toInt = 1 := by decide
  show pm_V sc d 162 0 [.ref 59, .int o, .int l] [] w _
  refine v_aload_n rfl rfl ?_
  obtain ⟨v2, v3, v4, v5, v6, v7, v8, v9, ⟨v2z, v2e⟩, ⟨⟨v3a, v3b⟩, v3e⟩, ⟨⟨v4a, v4b⟩, v4e⟩, ⟨v6a, v6b⟩, ⟨v9a, v9b⟩, h1⟩ := hI.2.1 59 (by decide) (by decide)
  have v2z := v2z.imp i_eq.mp i_eq.mp
  rw [i_0, i_1] at v2z
  refine v_get rfl h1 rfl ?_
  refine v_iload_n rfl rfl ?_
  have h10 : _ = some _ := hI.2.1 64 (by decide) (by decide)
  refine r_iaload rfl h10 hR.l0 (by omega) (by omega) (fun z11 z11m z11g => ?_)
  obtain ⟨z11a, z11b⟩ := hR.r0 z11 z11m
  have z11h : z11.toInt = ((ga 0).getD o.toInt.toNat 0).toInt := congrArg Int32.toInt z11g
  refine v_aload_n rfl rfl ?_
  refine v_get rfl h1 rfl ?_
  refine r_iadd rfl (by omega) (by omega) (fun z12 z12e => ?_)
  refine v_iconst (v := 1) rfl (by decide) ?_
  refine r_isub rfl (by omega) (by omega) (fun z13 z13e => ?_)
  refine v_aload_n rfl rfl ?_
  refine v_get rfl h1 rfl ?_
  refine r_idiv rfl (by omega) (by omega) (fun z14 z14m z14a z14b => ?_)
  have z14h : z14.toInt = (((ga 0).getD o.toInt.toNat 0).toInt + (gi 3).toInt - 1) / (gi 3).toInt := by
    rw [z14m]
    congr 1
    omega
  clear z14m
  refine v_aload_n rfl rfl ?_
  refine v_get rfl h1 rfl ?_
  refine v_iload_n rfl rfl ?_
  have h15 : _ = some _ := hI.2.1 65 (by decide) (by decide)
  refine r_iaload rfl h15 hR.l1 (by omega) (by omega) (fun z16 z16m z16g => ?_)
  obtain ⟨z16a, z16b⟩ := hR.r1 z16 z16m
  have z16h : z16.toInt = ((ga 1).getD o.toInt.toNat 0).toInt := congrArg Int32.toInt z16g
  refine v_iload_n rfl rfl ?_
  refine r_icmp_ne rfl (fun t17 => ?_) (fun t17 => ?_)
  · refine v_aload_n rfl rfl ?_
    refine v_get rfl h1 rfl ?_
    refine r_iadd rfl (by omega) (by omega) (fun z18 z18e => ?_)
    exact v_iret rfl ⟨⟨_, rfl, (by omega), (by omega), (by
        unfold bs_days
        rw [if_neg (by omega), ← z14h]
        omega)⟩, rfl⟩
  · refine v_iconst (v := 0) rfl (by decide) ?_
    skip
    refine v_goto rfl ?_
    refine r_iadd rfl (by omega) (by omega) (fun z19 z19e => ?_)
    exact v_iret rfl ⟨⟨_, rfl, (by omega), (by omega), (by
        unfold bs_days
        rw [if_pos (by omega), ← z14h]
        omega)⟩, rfl⟩
set_option maxRecDepth 100000 in
theorem W_X12_ask_59_x {sc : pm_S} {w w0 : pm_W} {gi : Nat → Int32} {ga : Nat → List Int32}   (hR : pm_Rg gi ga) (hI : pm_IM gi ga w) (hh : pm_lo w0 w) : pm_Mt sc 0 163 2 [.ref 59] w (fun rv w' => ∃ (v : Int32) (a4 a5 a6 a14 a35 a39 a40 a42 : Int32) (op : List Int32), rv = some (.int v) ∧ pm_IM gi ga w' ∧ pm_lo w0 w' ∧ w'[59]? = some (.inr (12, [.int (gi 0), .int (gi 1), .ref 60, .int (gi 2), .int a4, .int a5, .int a6, .ref 61, .ref 62, .ref 63, .int (gi 5), .int (gi 3), .int (gi 4), .int (gi 6), .int a14, .int (gi 7), .ref 64, .ref 65, .ref 66, .ref 67, .int (gi 8), .ref 68, .ref 69, .ref 70, .ref 71, .ref 72, .ref 73, .ref 74, .ref 75, .ref 76, .ref 77, .ref 78, .ref 79, .ref 80, .ref 81, .int a35, .ref 82, .ref 83, .ref 84, .int a39, .int a40, .ref 85, .int a42, .ref 86, .ref 87])) ∧ w'[85]? = some (.inl (0, .inl op)) ∧ op.length = 7 ∧ (∀ x ∈ op, pm_rng x (0) 11) ∧ 0 ≤ a4.toInt ∧ a4.toInt ≤ 1 ∧ 0 ≤ a5.toInt ∧ a5.toInt ≤ 20 ∧ 0 ≤ a6.toInt ∧ a6.toInt ≤ 20 ∧ 0 ≤ a35.toInt ∧ a35.toInt ≤ 20 ∧ 0 ≤ a42.toInt ∧ a42.toInt ≤ 12 ∧ a42.toInt = (bs_n gi ga : Int) ∧ bs_oq (ga 3) (gi 7).toInt.toNat op ∧ ((v.toInt = 1 ∧ bs_n gi ga ≤ 7) ∨ (v.toInt = 0 ∧ 7 < bs_n gi ga))) := by
  intro d hd
  obtain ⟨g0a, g0b⟩ := hR.n0
  obtain ⟨g1a, g1b⟩ := hR.n1
  obtain ⟨g2a, g2b⟩ := hR.n2
  obtain ⟨g3a, g3b⟩ := hR.n3
  obtain ⟨g4a, g4b⟩ := hR.n4
  obtain ⟨g5a, g5b⟩ := hR.n5
  obtain ⟨g6a, g6b⟩ := hR.n6
  obtain ⟨g7a, g7b⟩ := hR.n7
  obtain ⟨g8a, g8b⟩ := hR.n8
  have k0 : (0 : Int32).toInt = 0 := by decide
  have k1 : (1 : Int32).toInt = 1 := by decide
  have k7 : (7 : Int32).toInt = 7 := by decide
  show pm_V sc d 163 0 [.ref 59, .null] [] w _
  refine v_aload_n rfl rfl ?_
  refine v_iconst (v := 0) rfl (by decide) ?_
  obtain ⟨v2, v3, v4, v5, v6, v7, v8, v9, ⟨v2z, v2e⟩, ⟨⟨v3a, v3b⟩, v3e⟩, ⟨⟨v4a, v4b⟩, v4e⟩, ⟨v6a, v6b⟩, ⟨v9a, v9b⟩, h1⟩ := hI.2.1 59 (by decide) (by decide)
  have v2z := v2z.imp i_eq.mp i_eq.mp
  rw [i_0, i_1] at v2z
  refine v_put rfl h1 rfl (Nat.le_of_ble_eq_true rfl) ?_
  refine r_gen (w' := w.set 59 (.inr (12, [.int (gi 0), .int (gi 1), .ref 60, .int (gi 2), .int v2, .int v3, .int v4, .ref 61, .ref 62, .ref 63, .int (gi 5), .int (gi 3), .int (gi 4), .int (gi 6), .int v5, .int (gi 7), .ref 64, .ref 65, .ref 66, .ref 67, .int (gi 8), .ref 68, .ref 69, .ref 70, .ref 71, .ref 72, .ref 73, .ref 74, .ref 75, .ref 76, .ref 77, .ref 78, .ref 79, .ref 80, .ref 81, .int v6, .ref 82, .ref 83, .ref 84, .int v7, .int v8, .ref 85, .int (0 : Int32), .ref 86, .ref 87]))) (fun w10 e11 => ?_)
  have hI12 : pm_IM gi ga w10 := by rw [e11]; exact hI.set 59 (by decide) (by decide) (by decide) (by decide) ⟨v2, v3, v4, v5, v6, v7, v8, (0 : Int32), ⟨((show v2.toInt = 0 ∨ v2.toInt = 1 by omega).imp i_eq.mpr i_eq.mpr), v2e⟩, ⟨⟨by omega, by omega⟩, v3e⟩, ⟨⟨by omega, by omega⟩, v4e⟩, ⟨by omega, by omega⟩, ⟨by omega, by omega⟩, rfl⟩
  have hh13 : pm_lo w0 w10 := by rw [e11]; exact hh.set (by decide) _
  have h14 := r_get_eq e11 h1
  refine v_iconst (v := 0) rfl (by decide) ?_
  refine v_istore_n rfl (Nat.le_of_ble_eq_true rfl) ?_
  obtain ⟨xs16, xs16l, xs16r, h15⟩ := hI12.2.1 85 (by decide) (by decide)
  have L29 : ∀ (n29 : Nat) (l17 : Int32) (w18 : pm_W) (v22 : Int32) (v23 : Int32) (v24 : Int32) (v25 : Int32) (v26 : Int32) (xs28 : List Int32), pm_IM gi ga w18 → pm_lo w0 w18 → w18[59]? = some (.inr (12, [.int (gi 0), .int (gi 1), .ref 60, .int (gi 2), .int v2, .int v3, .int v4, .ref 61, .ref 62, .ref 63, .int (gi 5), .int (gi 3), .int (gi 4), .int (gi 6), .int v22, .int (gi 7), .ref 64, .ref 65, .ref 66, .ref 67, .int (gi 8), .ref 68, .ref 69, .ref 70, .ref 71, .ref 72, .ref 73, .ref 74, .ref 75, .ref 76, .ref 77, .ref 78, .ref 79, .ref 80, .ref 81, .int v23, .ref 82, .ref 83, .ref 84, .int v24, .int v25, .ref 85, .int v26, .ref 86, .ref 87])) → w18[85]? = some (.inl (0, .inl xs28)) → xs28.length = 7 → (∀ x ∈ xs28, pm_rng x (0) 11) → 0 ≤ l17.toInt → l17.toInt ≤ 12 → 0 ≤ v23.toInt → v23.toInt ≤ 20 → 0 ≤ v26.toInt → v26.toInt ≤ 12 → (l17.toInt ≤ (gi 7).toInt) → (v26.toInt ≤ l17.toInt) → (v26.toInt = (bs_no (ga 3) l17.toInt.toNat : Int)) → (bs_oq (ga 3) l17.toInt.toNat xs28) → (12 - l17.toInt).toNat < n29 → pm_V sc d 163 7 [.ref 59, .int l17] [] w18 (fun rv w' => ∃ (v : Int32) (a4 a5 a6 a14 a35 a39 a40 a42 : Int32) (op : List Int32), rv = some (.int v) ∧ pm_IM gi ga w' ∧ pm_lo w0 w' ∧ w'[59]? = some (.inr (12, [.int (gi 0), .int (gi 1), .ref 60, .int (gi 2), .int a4, .int a5, .int a6, .ref 61, .ref 62, .ref 63, .int (gi 5), .int (gi 3), .int (gi 4), .int (gi 6), .int a14, .int (gi 7), .ref 64, .ref 65, .ref 66, .ref 67, .int (gi 8), .ref 68, .ref 69, .ref 70, .ref 71, .ref 72, .ref 73, .ref 74, .ref 75, .ref 76, .ref 77, .ref 78, .ref 79, .ref 80, .ref 81, .int a35, .ref 82, .ref 83, .ref 84, .int a39, .int a40, .ref 85, .int a42, .ref 86, .ref 87])) ∧ w'[85]? = some (.inl (0, .inl op)) ∧ op.length = 7 ∧ (∀ x ∈ op, pm_rng x (0) 11) ∧ 0 ≤ a4.toInt ∧ a4.toInt ≤ 1 ∧ 0 ≤ a5.toInt ∧ a5.toInt ≤ 20 ∧ 0 ≤ a6.toInt ∧ a6.toInt ≤ 20 ∧ 0 ≤ a35.toInt ∧ a35.toInt ≤ 20 ∧ 0 ≤ a42.toInt ∧ a42.toInt ≤ 12 ∧ a42.toInt = (bs_n gi ga : Int) ∧ bs_oq (ga 3) (gi 7).toInt.toNat op ∧ ((v.toInt = 1 ∧ bs_n gi ga ≤ 7) ∨ (v.toInt = 0 ∧ 7 < bs_n gi ga))) := by
    intro n29
    induction n29 with
    | zero => intro l17 w18 v22 v23 v24 v25 v26 xs28 hI19 hh20 h21 h27 xs28l xs28r t31 t32 t33 t34 t35 t36 t37 t38 t39 t40 hm30; exact absurd hm30 (Nat.not_lt_zero _)
    | succ n29 ih7_29 =>
      intro l17 w18 v22 v23 v24 v25 v26 xs28 hI19 hh20 h21 h27 xs28l xs28r t31 t32 t33 t34 t35 t36 t37 t38 t39 t40 hm30
      refine v_iload_n rfl rfl ?_
      refine v_aload_n rfl rfl ?_
      refine v_get rfl h21 rfl ?_
      refine r_icmp_ge rfl (fun t41 => ?_) (fun t41 => ?_)
      · refine v_aload_n rfl rfl ?_
        refine v_get rfl h21 rfl ?_
        refine v_bipush (v := 7) rfl (by decide) ?_
        refine r_icmp_gt rfl (fun t42 => ?_) (fun t42 => ?_)
        · refine v_iconst (v := 0) rfl (by decide) ?_
          exact r_zret rfl (by omega) ⟨_, v2, v3, v4, v22, v23, v24, v25, v26, xs28, rfl, hI19, hh20, h21, h27, xs28l, xs28r, (by omega), (by omega), (by omega), (by omega), (by omega), (by omega), (by omega), (by omega), (by omega), (by omega), (by have q := t39; rw [show l17.toInt.toNat = (gi 7).toInt.toNat by omega] at q; exact q), (by have q := t40; rw [show l17.toInt.toNat = (gi 7).toInt.toNat by omega] at q; exact q), (by have q : v26.toInt = (bs_n gi ga : Int) := (by have q := t39; rw [show l17.toInt.toNat = (gi 7).toInt.toNat by omega] at q; exact q); exact Or.inr ⟨by omega, by omega⟩)⟩
        · refine v_iconst (v := 1) rfl (by decide) ?_
          refine v_goto rfl ?_
          exact r_zret rfl (by omega) ⟨_, v2, v3, v4, v22, v23, v24, v25, v26, xs28, rfl, hI19, hh20, h21, h27, xs28l, xs28r, (by omega), (by omega), (by omega), (by omega), (by omega), (by omega), (by omega), (by omega), (by omega), (by omega), (by have q := t39; rw [show l17.toInt.toNat = (gi 7).toInt.toNat by omega] at q; exact q), (by have q := t40; rw [show l17.toInt.toNat = (gi 7).toInt.toNat by omega] at q; exact q), (by have q : v26.toInt = (bs_n gi ga : Int) := (by have q := t39; rw [show l17.toInt.toNat = (gi 7).toInt.toNat by omega] at q; exact q); exact Or.inl ⟨by omega, by omega⟩)⟩
      · refine v_aload_n rfl rfl ?_
        refine v_get rfl h21 rfl ?_
        refine v_iload_n rfl rfl ?_
        have h43 : _ = some _ := hI19.2.1 67 (by decide) (by decide)
        refine r_iaload rfl h43 hR.l3 (by omega) (by omega) (fun z44 z44m z44g => ?_)
        obtain ⟨z44a, z44b⟩ := hR.r3 z44 z44m
        have z44h : z44.toInt = ((ga 3).getD l17.toInt.toNat 0).toInt := congrArg Int32.toInt z44g
        refine r_if_ge rfl (fun t45 => ?_) (fun t45 => ?_)
        · refine r_iinc rfl rfl (by decide) (by omega) (by omega) (fun z46 z46e => ?_)
          refine v_goto rfl ?_
          exact ih7_29 z46 w18 v22 v23 v24 v25 v26 xs28 hI19 hh20 h21 h27 xs28l xs28r (by omega) (by omega) (by omega) (by omega) (by omega) (by omega) (by omega) (by omega) (by rw [show z46.toInt.toNat = l17.toInt.toNat + 1 by omega, bs_no_n (show ¬ ((ga 3).getD l17.toInt.toNat 0).toInt < 0 by omega)]; omega) (by
              rw [show z46.toInt.toNat = l17.toInt.toNat + 1 by omega]
              exact t40.same (show ¬ ((ga 3).getD l17.toInt.toNat 0).toInt < 0 by omega)) (by omega)
        · refine v_aload_n rfl rfl ?_
          skip
          refine v_get rfl h21 rfl ?_
          refine v_bipush (v := 7) rfl (by decide) ?_
          refine r_icmp_ge rfl (fun t47 => ?_) (fun t47 => ?_)
          · refine v_aload_n rfl rfl ?_
            refine v_dup rfl rfl ?_
            refine v_get rfl h21 rfl ?_
            refine v_iconst (v := 1) rfl (by decide) ?_
            refine r_iadd rfl (by omega) (by omega) (fun z48 z48e => ?_)
            refine v_put rfl h21 rfl (Nat.le_of_ble_eq_true rfl) ?_
            refine r_gen (w' := w18.set 59 (.inr (12, [.int (gi 0), .int (gi 1), .ref 60, .int (gi 2), .int v2, .int v3, .int v4, .ref 61, .ref 62, .ref 63, .int (gi 5), .int (gi 3), .int (gi 4), .int (gi 6), .int v22, .int (gi 7), .ref 64, .ref 65, .ref 66, .ref 67, .int (gi 8), .ref 68, .ref 69, .ref 70, .ref 71, .ref 72, .ref 73, .ref 74, .ref 75, .ref 76, .ref 77, .ref 78, .ref 79, .ref 80, .ref 81, .int v23, .ref 82, .ref 83, .ref 84, .int v24, .int v25, .ref 85, .int z48, .ref 86, .ref 87]))) (fun w49 e50 => ?_)
            have hI51 : pm_IM gi ga w49 := by rw [e50]; exact hI19.set 59 (by decide) (by decide) (by decide) (by decide) ⟨v2, v3, v4, v22, v23, v24, v25, z48, ⟨((show v2.toInt = 0 ∨ v2.toInt = 1 by omega).imp i_eq.mpr i_eq.mpr), v2e⟩, ⟨⟨by omega, by omega⟩, v3e⟩, ⟨⟨by omega, by omega⟩, v4e⟩, ⟨by omega, by omega⟩, ⟨by omega, by omega⟩, rfl⟩
            have hh52 : pm_lo w0 w49 := by rw [e50]; exact hh20.set (by decide) _
            have h53 := r_get_ne e50 (show 59 ≠ 85 by decide) h27
            have h54 := r_get_ne e50 (show 59 ≠ 67 by decide) h43
            have h55 := r_get_eq e50 h21
            refine r_iinc rfl rfl (by decide) (by omega) (by omega) (fun z56 z56e => ?_)
            refine v_goto rfl ?_
            exact ih7_29 z56 w49 v22 v23 v24 v25 z48 xs28 hI51 hh52 h55 h53 xs28l xs28r (by omega) (by omega) (by omega) (by omega) (by omega) (by omega) (by omega) (by omega) (by rw [show z56.toInt.toNat = l17.toInt.toNat + 1 by omega, bs_no_s (show ((ga 3).getD l17.toInt.toNat 0).toInt < 0 by omega)]; omega) (by
                rw [show z56.toInt.toNat = l17.toInt.toNat + 1 by omega]
                exact t40.over (by omega)) (by omega)
          · refine v_aload_n rfl rfl ?_
            refine v_get rfl h21 rfl ?_
            refine v_aload_n rfl rfl ?_
            refine v_get rfl h21 rfl ?_
            refine v_iload_n rfl rfl ?_
            refine r_iastx rfl h27 xs28l (by omega) (by omega) (fun ys57 ys57l ys57m ys57g ys57n => ?_)
            have ys57r := r_rng ys57m xs28r (by omega) (by omega)
            refine r_gen (w' := w18.set 85 (.inl (0, .inl ys57))) (fun w58 e59 => ?_)
            have hI60 : pm_IM gi ga w58 := by rw [e59]; exact hI19.set 85 (by decide) (by decide) (by decide) (by decide) ⟨ys57, ys57l, ys57r, rfl⟩
            have hh61 : pm_lo w0 w58 := by rw [e59]; exact hh20.set (by decide) _
            have h62 := r_get_ne e59 (show 85 ≠ 59 by decide) h21
            have h63 := r_get_ne e59 (show 85 ≠ 67 by decide) h43
            have h64 := r_get_eq e59 h27
            skip
            refine v_aload_n rfl rfl ?_
            refine v_dup rfl rfl ?_
            refine v_get rfl h62 rfl ?_
            refine v_iconst (v := 1) rfl (by decide) ?_
            refine r_iadd rfl (by omega) (by omega) (fun z65 z65e => ?_)
            refine v_put rfl h62 rfl (Nat.le_of_ble_eq_true rfl) ?_
            refine r_gen (w' := w58.set 59 (.inr (12, [.int (gi 0), .int (gi 1), .ref 60, .int (gi 2), .int v2, .int v3, .int v4, .ref 61, .ref 62, .ref 63, .int (gi 5), .int (gi 3), .int (gi 4), .int (gi 6), .int v22, .int (gi 7), .ref 64, .ref 65, .ref 66, .ref 67, .int (gi 8), .ref 68, .ref 69, .ref 70, .ref 71, .ref 72, .ref 73, .ref 74, .ref 75, .ref 76, .ref 77, .ref 78, .ref 79, .ref 80, .ref 81, .int v23, .ref 82, .ref 83, .ref 84, .int v24, .int v25, .ref 85, .int z65, .ref 86, .ref 87]))) (fun w66 e67 => ?_)
            have hI68 : pm_IM gi ga w66 := by rw [e67]; exact hI60.set 59 (by decide) (by decide) (by decide) (by decide) ⟨v2, v3, v4, v22, v23, v24, v25, z65, ⟨((show v2.toInt = 0 ∨ v2.toInt = 1 by omega).imp i_eq.mpr i_eq.mpr), v2e⟩, ⟨⟨by omega, by omega⟩, v3e⟩, ⟨⟨by omega, by omega⟩, v4e⟩, ⟨by omega, by omega⟩, ⟨by omega, by omega⟩, rfl⟩
            have hh69 : pm_lo w0 w66 := by rw [e67]; exact hh61.set (by decide) _
            have h70 := r_get_ne e67 (show 59 ≠ 67 by decide) h63
            have h71 := r_get_ne e67 (show 59 ≠ 85 by decide) h64
            have h72 := r_get_eq e67 h62
            refine r_iinc rfl rfl (by decide) (by omega) (by omega) (fun z73 z73e => ?_)
            refine v_goto rfl ?_
            exact ih7_29 z73 w66 v22 v23 v24 v25 z65 ys57 hI68 hh69 h72 h71 ys57l ys57r (by omega) (by omega) (by omega) (by omega) (by omega) (by omega) (by omega) (by omega) (by rw [show z73.toInt.toNat = l17.toInt.toNat + 1 by omega, bs_no_s (show ((ga 3).getD l17.toInt.toNat 0).toInt < 0 by omega)]; omega) (by
                rw [show z73.toInt.toNat = l17.toInt.toNat + 1 by omega]
                have hno := t39
                rw [show v26.toInt.toNat = bs_no (ga 3) l17.toInt.toNat by omega] at ys57g ys57n
                exact t40.next (i_nI (by omega)) ys57g ys57n) (by omega)
  exact L29 _ (0 : Int32) w10 v5 v6 v7 v8 (0 : Int32) xs16 hI12 hh13 h14 h15 xs16l xs16r (by omega) (by omega) (by omega) (by omega) (by omega) (by omega) (by omega) (by omega) (by rfl) (by intro j hj; rw [show (0 : Int32).toInt.toNat = 0 from rfl] at hj; omega) (Nat.lt_add_one _)

