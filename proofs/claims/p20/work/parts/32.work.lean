/-- how many days an order takes -/
noncomputable def pm_wv (gi : Nat → Int32) (ga : Nat → List Int32) (o : Int32) : Int32 := ((ga 0).getD o.toNatClampNeg 0 + gi 3 - 1) / gi 3
noncomputable def pm_dn (gi : Nat → Int32) (ga : Nat → List Int32) (o l : Int32) : Int32 := pm_wv gi ga o + (if (ga 1).getD o.toNatClampNeg 0 = l then 0 else gi 4)
theorem pm_mem_getD {xs : List Int32} {k : Nat} (h : k < xs.length) : xs.getD k 0 ∈ xs := by
  rw [show xs.getD k 0 = xs[k] by simp [List.getD, h]]
  exact List.getElem_mem h
theorem pm_Rg.r0 {gi : Nat → Int32} {ga : Nat → List Int32} (h : pm_Rg gi ga) : ∀ x ∈ ga 0, pm_rng x 0 99 := h.2.2.2.2.2.2.2.2.2.2.1
theorem pm_Rg.r1 {gi : Nat → Int32} {ga : Nat → List Int32} (h : pm_Rg gi ga) : ∀ x ∈ ga 1, pm_rng x 0 5 := h.2.2.2.2.2.2.2.2.2.2.2.1
theorem pm_Rg.r2 {gi : Nat → Int32} {ga : Nat → List Int32} (h : pm_Rg gi ga) : ∀ x ∈ ga 2, pm_rng x 0 2000 := h.2.2.2.2.2.2.2.2.2.2.2.2.1
theorem pm_Rg.r3 {gi : Nat → Int32} {ga : Nat → List Int32} (h : pm_Rg gi ga) : ∀ x ∈ ga 3, pm_rng x (-9) 3000 := h.2.2.2.2.2.2.2.2.2.2.2.2.2.1
theorem i_ofn {x : Int32} {a b : Nat} (h : pm_rng x a b) : ∃ j : Nat, a ≤ j ∧ j ≤ b ∧ x = nI j := ⟨x.toInt.toNat, by have := h.1; omega, by have := h.1; have := h.2; omega, i_nI (by have := h.1; omega)⟩
theorem pm_wv_rng {gi : Nat → Int32} {ga : Nat → List Int32} {o : Int32} (hR : pm_Rg gi ga) (h0 : 0 ≤ o.toInt) (h1 : o.toInt < 12) : ∃ j : Nat, j ≤ 118 ∧ pm_wv gi ga o = nI j := by
  obtain ⟨a, -, ha, ea⟩ := i_ofn (a := 0) (b := 99) (hR.r0 _ (pm_mem_getD (k := o.toNatClampNeg) (by rw [i_cl, hR.l0]; omega)))
  obtain ⟨b, hb1, hb, eb⟩ := i_ofn (a := 1) (b := 20) hR.n3
  unfold pm_wv
  rw [ea, eb, nI_add, show (1 : Int32) = nI 1 from rfl, pk_sub (by omega), pk_div (by omega) (by omega) (by omega)]
  refine ⟨(a + b - 1) / b, ?_, rfl⟩
  have : (a + b - 1) / b ≤ a + b - 1 := Nat.div_le_self _ _
  omega
theorem pm_dn_rng {gi : Nat → Int32} {ga : Nat → List Int32} {o l : Int32} (hR : pm_Rg gi ga) (h0 : 0 ≤ o.toInt) (h1 : o.toInt < 12) : ∃ j : Nat, j ≤ 138 ∧ pm_dn gi ga o l = nI j := by
  obtain ⟨j, hj, ej⟩ := pm_wv_rng hR h0 h1
  obtain ⟨t, -, ht, et⟩ := i_ofn (a := 0) (b := 20) hR.n4
  unfold pm_dn
  rw [ej]
  split
  · exact ⟨j, by omega, by rw [Int32.add_zero]⟩
  · rw [et, nI_add]
    exact ⟨j + t, by omega, rfl⟩
theorem pm_sp_ne {gi : Nat → Int32} {ga : Nat → List Int32} (hR : pm_Rg gi ga) : ¬ gi 3 = 0 := fun h => by
  have := hR.n3.1
  rw [h] at this
  exact absurd this (by decide)
set_option maxRecDepth 100000 in
theorem c_isOpen {sc : pm_S} {w : pm_W} {gi : Nat → Int32} {ga : Nat → List Int32} (o : Int32) (h0 : 0 ≤ o.toInt) (h1 : o.toInt < 12) (hR : pm_Rg gi ga) (hI : pm_IX gi ga w) : pm_Mt sc 0 55 2 [.ref 27, .int o] w (fun rv w' => w = w' ∧ rv = pm_b ((((ga 3).getD o.toNatClampNeg 0)).toInt < 0)) := by
  intro d hd
  show pm_V sc d 55 0 _ [] w _
  have q3 := hR.l3
  have h27 : _ = some _ := hI.2 27 (by decide)
  have h31 : _ = some _ := hI.2 31 (by decide)
  refine v_aload_n rfl rfl ?_
  refine v_get rfl h27 rfl ?_
  refine v_iload_n rfl rfl ?_
  refine v_iaload rfl h31 (by rw [i_lt, i_0]; omega) (pm_gD (d := 0) (by rw [i_cl, q3]; omega)) ?_
  refine v_if_ge rfl (fun t6 => ?_) (fun t6 => ?_)
  · refine v_iconst (v := 0) rfl (by decide) ?_
    exact v_zret rfl (by decide) ⟨rfl, by first | exact pm_b1 (by simp only [i_le, i_0] at *; omega) | exact pm_b0 (by simp only [i_le, i_0] at *; omega)⟩
  · refine v_iconst (v := 1) rfl (by decide) ?_
    refine v_goto rfl ?_
    exact v_zret rfl (by decide) ⟨rfl, by first | exact pm_b1 (by simp only [i_le, i_0] at *; omega) | exact pm_b0 (by simp only [i_le, i_0] at *; omega)⟩
set_option maxRecDepth 100000 in
theorem c_daysFor {sc : pm_S} {w : pm_W} {gi : Nat → Int32} {ga : Nat → List Int32} (o : Int32) (h0 : 0 ≤ o.toInt) (h1 : o.toInt < 12) (hR : pm_Rg gi ga) (hI : pm_IX gi ga w) (l : Int32) : pm_Mt sc 0 57 4 [.ref 27, .int o, .int l] w (fun rv w' => w = w' ∧ rv = some (.int (pm_dn gi ga o l))) := by
  intro d hd
  show pm_V sc d 57 0 _ [] w _
  have q0 := hR.l0
  have q1 := hR.l1
  have h27 : _ = some _ := hI.2 27 (by decide)
  have h28 : _ = some _ := hI.2 28 (by decide)
  have h29 : _ = some _ := hI.2 29 (by decide)
  refine v_aload_n rfl rfl ?_
  refine v_get rfl h27 rfl ?_
  refine v_iload_n rfl rfl ?_
  refine v_iaload rfl h28 (by rw [i_lt, i_0]; omega) (pm_gD (d := 0) (by rw [i_cl, q0]; omega)) ?_
  refine v_aload_n rfl rfl ?_
  refine v_get rfl h27 rfl ?_
  refine v_iadd rfl ?_
  refine v_iconst (v := 1) rfl (by decide) ?_
  refine v_isub rfl ?_
  refine v_aload_n rfl rfl ?_
  refine v_get rfl h27 rfl ?_
  refine v_idiv rfl (pm_sp_ne hR) ?_
  refine v_istore_n rfl (Nat.le_of_ble_eq_true rfl) ?_
  refine v_aload_n rfl rfl ?_
  refine v_get rfl h27 rfl ?_
  refine v_iload_n rfl rfl ?_
  refine v_iaload rfl h29 (by rw [i_lt, i_0]; omega) (pm_gD (d := 0) (by rw [i_cl, q1]; omega)) ?_
  refine v_iload_n rfl rfl ?_
  refine v_icmp_ne rfl (fun t26 => ?_) (fun t26 => ?_)
  · refine v_aload_n rfl rfl ?_
    refine v_get rfl h27 rfl ?_
    refine v_iload_n rfl rfl ?_
    refine v_iadd rfl ?_
    exact v_iret rfl ⟨rfl, by unfold pm_dn pm_wv; first | (rw [if_pos t26, Int32.add_zero]; done) | (rw [if_neg t26, Int32.add_comm]; done)⟩
  · refine v_iload_n rfl rfl ?_
    refine v_goto rfl ?_
    exact v_iret rfl ⟨rfl, by unfold pm_dn pm_wv; first | (rw [if_pos t26, Int32.add_zero]; done) | (rw [if_neg t26, Int32.add_comm]; done)⟩
set_option maxRecDepth 100000 in
theorem c_lateOf {sc : pm_S} {w : pm_W} {gi : Nat → Int32} {ga : Nat → List Int32} (o : Int32) (h0 : 0 ≤ o.toInt) (h1 : o.toInt < 12) (hR : pm_Rg gi ga) (hI : pm_IX gi ga w) (dy : Int32) : pm_Mt sc 1 58 3 [.ref 27, .int o, .int dy] w (fun rv w' => w = w' ∧ rv = some (.int (if 0 < dy - (ga 2).getD o.toNatClampNeg 0 then dy - (ga 2).getD o.toNatClampNeg 0 else 0))) := by
  intro d hd
  show pm_V sc d 58 0 _ [] w _
  have q2 := hR.l2
  have h27 : _ = some _ := hI.2 27 (by decide)
  have h30 : _ = some _ := hI.2 30 (by decide)
  refine v_iconst (v := 0) rfl (by decide) ?_
  refine v_iload_n rfl rfl ?_
  refine v_aload_n rfl rfl ?_
  refine v_get rfl h27 rfl ?_
  refine v_iload_n rfl rfl ?_
  refine v_iaload rfl h30 (by rw [i_lt, i_0]; omega) (pm_gD (d := 0) (by rw [i_cl, q2]; omega)) ?_
  refine v_isub rfl ?_
  refine v_max rfl (by omega) rfl ?_
  exact v_iret rfl ⟨rfl, rfl⟩
set_option maxRecDepth 100000 in
theorem c_daysOf {sc : pm_S} {w : pm_W} {gi : Nat → Int32} {ga : Nat → List Int32} (o : Int32) (h0 : 0 ≤ o.toInt) (h1 : o.toInt < 12) (hR : pm_Rg gi ga) (hI : pm_IM gi ga w) (l : Int32) : pm_Mt sc 0 162 3 [.ref 59, .int o, .int l] w (fun rv w' => w = w' ∧ rv = some (.int (pm_dn gi ga o l))) := by
  intro d hd
  show pm_V sc d 162 0 _ [] w _
  have q0 := hR.l0
  have q1 := hR.l1
  obtain ⟨v4, v5, v6, v14, v35, v39, v40, v42, c4, c5, c6, c35, c42, h59⟩ := hI.2.1 59 (by decide) (by decide)
  have h64 : _ = some _ := hI.2.1 64 (by decide) (by decide)
  have h65 : _ = some _ := hI.2.1 65 (by decide) (by decide)
  refine v_aload_n rfl rfl ?_
  refine v_get rfl h59 rfl ?_
  refine v_iload_n rfl rfl ?_
  refine v_iaload rfl h64 (by rw [i_lt, i_0]; omega) (pm_gD (d := 0) (by rw [i_cl, q0]; omega)) ?_
  refine v_aload_n rfl rfl ?_
  refine v_get rfl h59 rfl ?_
  refine v_iadd rfl ?_
  refine v_iconst (v := 1) rfl (by decide) ?_
  refine v_isub rfl ?_
  refine v_aload_n rfl rfl ?_
  refine v_get rfl h59 rfl ?_
  refine v_idiv rfl (pm_sp_ne hR) ?_
  refine v_aload_n rfl rfl ?_
  refine v_get rfl h59 rfl ?_
  refine v_iload_n rfl rfl ?_
  refine v_iaload rfl h65 (by rw [i_lt, i_0]; omega) (pm_gD (d := 0) (by rw [i_cl, q1]; omega)) ?_
  refine v_iload_n rfl rfl ?_
  refine v_icmp_ne rfl (fun t25 => ?_) (fun t25 => ?_)
  · refine v_aload_n rfl rfl ?_
    refine v_get rfl h59 rfl ?_
    refine v_iadd rfl ?_
    exact v_iret rfl ⟨rfl, by unfold pm_dn pm_wv; first | (rw [if_pos t25]; done) | (rw [if_neg t25]; done)⟩
  · refine v_iconst (v := 0) rfl (by decide) ?_
    refine v_goto rfl ?_
    refine v_iadd rfl ?_
    exact v_iret rfl ⟨rfl, by unfold pm_dn pm_wv; first | (rw [if_pos t25]; done) | (rw [if_neg t25]; done)⟩

