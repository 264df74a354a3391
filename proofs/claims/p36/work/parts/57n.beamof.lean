/-- in how many places two rows differ, m places from x on -/
noncomputable def cf (a b : List Int32) : Nat → Nat → Nat
  | _, 0 => 0
  | x, m + 1 => (if a.getD x 0 = b.getD x 0 then 0 else 1) + cf a b (x + 1) m
theorem cf_s (a b : List Int32) (x m : Nat) : cf a b x (m + 1) = (if a.getD x 0 = b.getD x 0 then 0 else 1) + cf a b (x + 1) m := rfl
theorem cf_add {a b : List Int32} {m n : Nat} : ∀ {x : Nat}, cf a b x (m + n) = cf a b x m + cf a b (x + m) n := by
  induction m with
  | zero =>
    intro x
    rw [Nat.zero_add, Nat.add_zero]
    show _ = 0 + _
    rw [Nat.zero_add]
  | succ m ih =>
    intro x
    rw [show m + 1 + n = (m + n) + 1 by omega, cf_s, cf_s, ih, show x + 1 + m = x + (m + 1) by omega]
    omega
theorem cf_zero {a b : List Int32} {m : Nat} : ∀ {x : Nat}, (∀ i, x ≤ i → i < x + m → a.getD i 0 = b.getD i 0) → cf a b x m = 0 := by
  induction m with
  | zero => intro x _; rfl
  | succ m ih =>
    intro x h
    rw [cf_s, if_pos (h x (by omega) (by omega)), ih (fun i h1 h2 => h i (by omega) (by omega))]
/-- by rows -/
noncomputable def cd (a b : List Int32) (A : Nat) : Nat → Nat → Nat
  | _, 0 => 0
  | y, m + 1 => cf a b (20 * y) A + cd a b A (y + 1) m
theorem cd_s (a b : List Int32) (A y m : Nat) : cd a b A y (m + 1) = cf a b (20 * y) A + cd a b A (y + 1) m := rfl
theorem cd_all {a b : List Int32} {A m : Nat} (hA : A ≤ 20) : ∀ {y : Nat}, y + m ≤ 20 → (∀ x y, A ≤ x → x < 20 → y < 20 → a.getD (20 * y + x) 0 = b.getD (20 * y + x) 0) → cd a b A y m = cf a b (20 * y) (20 * m) := by
  induction m with
  | zero => intro y _ _; rfl
  | succ m ih =>
    intro y hy h
    rw [cd_s, ih (by omega) h, show 20 * (m + 1) = A + ((20 - A) + 20 * m) by omega, cf_add, cf_add, cf_zero (x := 20 * y + A) (fun i h1 h2 => by
      have q := h (i - 20 * y) y (by omega) (by omega) (by omega)
      rw [show 20 * y + (i - 20 * y) = i by omega] at q
      exact q), show 20 * y + A + (20 - A) = 20 * (y + 1) by omega, Nat.zero_add]
theorem cf_dx {a b : List Int32} (ha : sq_cl a) (hb : sq_cl b) {y m : Nat} (hy : y < 20) : ∀ {x c : Nat}, x + m ≤ 20 → pm_dx (pm_enc a) (pm_enc b) (nI y) m x (nI c) = nI (c + cf a b (20 * y + x) m) := by
  induction m with
  | zero => intro x c _; rfl
  | succ m ih =>
    intro x c hx
    have ex := nI_toInt (n := x) (by omega)
    have ey := nI_toInt (n := y) (by omega)
    have e1 := pm_col_enc ha (x := nI x) (y := nI y) (by omega) (by omega) (by omega) (by omega)
    have e2 := pm_col_enc hb (x := nI x) (y := nI y) (by omega) (by omega) (by omega) (by omega)
    rw [show (nI y).toInt.toNat = y by omega, show (nI x).toInt.toNat = x by omega] at e1 e2
    show pm_dx (pm_enc a) (pm_enc b) (nI y) m (x + 1) (if pm_col (pm_enc a) (nI x) (nI y) = pm_col (pm_enc b) (nI x) (nI y) then nI c else nI c + 1) = _
    rw [e1, e2, cf_s]
    by_cases q : a.getD (20 * y + x) 0 = b.getD (20 * y + x) 0
    · rw [if_pos q, if_pos q, ih (by omega), Nat.zero_add, show 20 * y + (x + 1) = 20 * y + x + 1 by omega]
    · rw [if_neg q, if_neg q, show nI c + 1 = nI (c + 1) from nI_add c 1, ih (by omega), show 20 * y + (x + 1) = 20 * y + x + 1 by omega, show c + 1 + cf a b (20 * y + x + 1) m = c + (1 + cf a b (20 * y + x + 1) m) by omega]
theorem cf_dy {a b : List Int32} (ha : sq_cl a) (hb : sq_cl b) {A m : Nat} (hA : A ≤ 20) : ∀ {y c : Nat}, y + m ≤ 20 → pm_dy (pm_enc a) (pm_enc b) A m y (nI c) = nI (c + cd a b A y m) := by
  induction m with
  | zero => intro y c _; rfl
  | succ m ih =>
    intro y c hy
    show pm_dy (pm_enc a) (pm_enc b) A m (y + 1) (pm_dx (pm_enc a) (pm_enc b) (nI y) A 0 (nI c)) = _
    rw [cf_dx ha hb (by omega) (by omega), ih (by omega), cd_s, Nat.add_zero, Nat.add_assoc]
/-- all that differ lie inside -/
theorem cf_dy400 {a b : List Int32} (ha : sq_cl a) (hb : sq_cl b) {A H : Nat} (hA : A ≤ 20) (hH : H ≤ 20) (za : sq_Oz a A H) (zb : sq_Oz b A H) : pm_dy (pm_enc a) (pm_enc b) A H 0 0 = nI (cf a b 0 400) := by
  have q := cf_dy ha hb (m := H) hA (y := 0) (c := 0) (by omega)
  rw [show (nI 0 : Int32) = 0 from rfl] at q
  rw [q, Nat.zero_add, cd_all hA (by omega) (fun x y h1 h2 h3 => by rw [za x y h2 h3 (Or.inl h1), zb x y h2 h3 (Or.inl h1)]), show 400 = 20 * H + (400 - 20 * H) by omega, cf_add, cf_zero (x := 20 * 0 + 20 * H) (fun i h1 h2 => by
    have q1 := za (i % 20) (i / 20) (by omega) (by omega) (Or.inr (by omega))
    have q2 := zb (i % 20) (i / 20) (by omega) (by omega) (Or.inr (by omega))
    rw [show 20 * (i / 20) + i % 20 = i by omega] at q1 q2
    rw [q1, q2])]
  rfl
noncomputable def bo_v (gi : Nat → Int32) (ga : Nat → List Int32) (b k : Int32) : Int32 := if ¬ (0 ≤ b.toInt ∧ b.toInt < 4) then -1 else if k = 0 then (ga 7).getD b.toInt.toNat 0 else if k = 1 then (ga 8).getD b.toInt.toNat 0 else if k = 2 then (if ¬ (ga 7).getD b.toInt.toNat 0 = 2 ∨ ¬ ((ga 13).getD b.toInt.toNat 0 = gi 0 ∧ (ga 14).getD b.toInt.toNat 0 = gi 1) then -9 else nI (cf (ga (16 + b.toInt.toNat)) (ga 15) 0 400)) else -2
noncomputable def sp_beamOf (gi : Nat → Int32) (ga : Nat → List Int32) (b k : Int32) : pm_G := (bo_v gi ga b k, gi, ga)
section PmBo
variable {gi : Nat → Int32} {ga : Nat → List Int32} {b k : Int32}
theorem bo_no (h : ¬ (0 ≤ b.toInt ∧ b.toInt < 4)) : bo_v gi ga b k = -1 := if_pos h
theorem bo_in (h : 0 ≤ b.toInt ∧ b.toInt < 4) : bo_v gi ga b k = if k = 0 then (ga 7).getD b.toInt.toNat 0 else if k = 1 then (ga 8).getD b.toInt.toNat 0 else if k = 2 then (if ¬ (ga 7).getD b.toInt.toNat 0 = 2 ∨ ¬ ((ga 13).getD b.toInt.toNat 0 = gi 0 ∧ (ga 14).getD b.toInt.toNat 0 = gi 1) then -9 else nI (cf (ga (16 + b.toInt.toNat)) (ga 15) 0 400)) else -2 := if_neg (fun q => q h)
theorem bo_0 (h : 0 ≤ b.toInt ∧ b.toInt < 4) (hk : k = 0) : bo_v gi ga b k = (ga 7).getD b.toInt.toNat 0 := by rw [bo_in h, if_pos hk]
theorem bo_1 (h : 0 ≤ b.toInt ∧ b.toInt < 4) (hk : k = 1) : bo_v gi ga b k = (ga 8).getD b.toInt.toNat 0 := by
  rw [bo_in h, if_neg (by rw [hk]; decide), if_pos hk]
theorem bo_2 (h : 0 ≤ b.toInt ∧ b.toInt < 4) (hk : k = 2) : bo_v gi ga b k = if ¬ (ga 7).getD b.toInt.toNat 0 = 2 ∨ ¬ ((ga 13).getD b.toInt.toNat 0 = gi 0 ∧ (ga 14).getD b.toInt.toNat 0 = gi 1) then -9 else nI (cf (ga (16 + b.toInt.toNat)) (ga 15) 0 400) := by
  rw [bo_in h, if_neg (by rw [hk]; decide), if_neg (by rw [hk]; decide), if_pos hk]
theorem bo_x (h : 0 ≤ b.toInt ∧ b.toInt < 4) (h0 : ¬ k = 0) (h1 : ¬ k = 1) (h2 : ¬ k = 2) : bo_v gi ga b k = -2 := by rw [bo_in h, if_neg h0, if_neg h1, if_neg h2]
end PmBo
theorem bo_ret {x y : Int32} (h : y = x) : (some (Value.int x) : Option Value) = some (.int y) := by rw [h]
set_option maxRecDepth 100000 in
theorem x_X_beamOf {sc : pm_S} {w : pm_W} {gi : Nat → Int32} {ga : Nat → List Int32} (b k : Int32) (hR : pm_Rg gi ga) (hI : pm_IX gi ga w) (hK : pm_K gi ga) : pm_Mt sc 3 105 3 [.ref 0, .int b, .int k] w (pm_PX w (sp_beamOf gi ga b k)) := by
  intro d hd
  show pm_V sc d 105 0 _ [] w _
  have hh : pm_hi w w := pm_hi.rf
  obtain ⟨v6, c6, h0⟩ := hI.2 0 (by decide)
  have h1 : _ = some _ := hI.2 1 (by decide)
  obtain ⟨l2, r2, h2⟩ := hI.2 2 (by decide)
  have h45 : _ = some _ := hI.2 45 (by decide)
  refine v_iload_n rfl rfl ?_
  refine v_iconst (v := 4) rfl (by decide) ?_
  refine v_callS rfl (c_isPlace b 4 w) rfl rfl rfl rfl rfl (by omega) (fun rv w1 hq => ?_)
  obtain ⟨rfl, rfl⟩ := hq
  by_cases ha : 0 ≤ b.toInt ∧ b.toInt < 4
  · rw [pm_b_1 (show 0 ≤ b.toInt ∧ b.toInt < (4 : Int32).toInt from ha)]
    refine v_if_ne rfl (fun _ => ?_) (fun h => absurd h (by decide))
    have hj : b.toInt.toNat < 4 := by omega
    have hbr : ([some 46, some 49, some 52, some 55] : List (Option Nat))[b.toNatClampNeg]? = some (some (46 + 3 * b.toInt.toNat)) := by rw [i_nI ha.1, nI_toInt (by omega)]; exact pm_bref hj
    have hbm := hI.beam hj
    have hsh := hI.sheet hj
    obtain ⟨lrw, rrw, hrw⟩ := hI.rows hj
    obtain ⟨A, -, hA, eA⟩ := i_ofn (a := 0) (b := 20) (x := (ga 13).getD b.toInt.toNat 0) (by have z := hR.r13 _ (pm_mem_getD (k := b.toInt.toNat) (by rw [hR.l13]; omega)); exact ⟨by have := z.1; omega, z.2⟩)
    obtain ⟨H, -, hH, eH⟩ := i_ofn (a := 0) (b := 20) (x := (ga 14).getD b.toInt.toNat 0) (by have z := hR.r14 _ (pm_mem_getD (k := b.toInt.toNat) (by rw [hR.l14]; omega)); exact ⟨by have := z.1; omega, z.2⟩)
    rw [eA, eH] at hsh
    refine v_iload_n rfl rfl ?_
    by_cases s0 : k = 0
    · subst s0
      refine v_tabIn (t := 40) rfl (by decide) (by decide) rfl rfl ?_
      refine v_aload_n rfl rfl ?_
      refine v_get rfl h0 rfl ?_
      refine v_iload_n rfl rfl ?_
      refine v_aaload rfl h45 (by rw [i_lt, i_0]; omega) hbr ?_
      refine v_get rfl hbm rfl ?_
      exact v_iret rfl ⟨bo_ret (bo_0 ha rfl), hI, hh⟩
    by_cases s1 : k = 1
    · subst s1
      refine v_tabIn (t := 50) rfl (by decide) (by decide) rfl rfl ?_
      refine v_aload_n rfl rfl ?_
      refine v_get rfl h0 rfl ?_
      refine v_iload_n rfl rfl ?_
      refine v_aaload rfl h45 (by rw [i_lt, i_0]; omega) hbr ?_
      refine v_get rfl hbm rfl ?_
      exact v_iret rfl ⟨bo_ret (bo_1 ha rfl), hI, hh⟩
    by_cases s2 : k = 2
    · subst s2
      refine v_tabIn (t := 60) rfl (by decide) (by decide) rfl rfl ?_
      refine v_aload_n rfl rfl ?_
      refine v_get rfl h0 rfl ?_
      refine v_iload_n rfl rfl ?_
      refine v_aaload rfl h45 (by rw [i_lt, i_0]; omega) hbr ?_
      refine v_aload_n rfl rfl ?_
      refine v_get rfl h0 rfl ?_
      refine v_callV rfl (c_cardsUnlike hbm hsh hrw pm_enc_len h1 h2 pm_enc_len (by omega) (by omega)) rfl rfl hbm rfl rfl (by omega) (fun rv w1 hq => ?_)
      obtain ⟨rfl, rfl⟩ := hq
      have hz : bo_v gi ga b 2 = if ¬ (ga 7).getD b.toInt.toNat 0 = 2 ∨ ¬ (nI A = gi 0 ∧ nI H = gi 1) then -9 else pm_dy (pm_enc (ga (16 + b.toInt.toNat))) (pm_enc (ga 15)) A H 0 0 := by
        rw [bo_2 ha rfl, eA, eH]
        by_cases hc : ¬ (ga 7).getD b.toInt.toNat 0 = 2 ∨ ¬ (nI A = gi 0 ∧ nI H = gi 1)
        · rw [if_pos hc, if_pos hc]
        · rw [if_neg hc, if_neg hc]
          have hc1 : (ga 7).getD b.toInt.toNat 0 = 2 := Decidable.not_not.mp fun q => hc (Or.inl q)
          have hc2 : nI A = gi 0 ∧ nI H = gi 1 := Decidable.not_not.mp fun q => hc (Or.inr q)
          have z1 := hK.2.1 b.toInt.toNat hj hc1
          rw [eA, eH, hc2.1, hc2.2] at z1
          have eA2 := congrArg Int32.toInt hc2.1
          have eH2 := congrArg Int32.toInt hc2.2
          rw [nI_toInt (by omega)] at eA2 eH2
          rw [show (gi 0).toInt.toNat = A by omega, show (gi 1).toInt.toNat = H by omega] at z1
          have z2 : sq_Oz (ga 15) (gi 0).toInt.toNat (gi 1).toInt.toNat := hK.1
          rw [show (gi 0).toInt.toNat = A by omega, show (gi 1).toInt.toNat = H by omega] at z2
          exact (cf_dy400 ⟨lrw, rrw⟩ ⟨l2, r2⟩ (by omega) (by omega) z1 z2).symm
      exact v_iret rfl ⟨bo_ret hz, hI, hh⟩
    refine v_tabOut (t := 74) rfl (by simp only [i_eq, i_0, i_1, i_2, i_3] at *; omega) rfl ?_
    refine v_aload_n rfl rfl ?_
    refine v_bipush (v := (-2)) rfl (by decide) ?_
    refine v_callV rfl (c_X_refuse (-2) (by unfold pm_isR; decide) hR hI) rfl rfl h0 rfl rfl (by omega) (fun rv w1 hq => ?_)
    obtain ⟨rfl, g1, g2⟩ := hq
    exact v_iret rfl ⟨bo_ret (bo_x ha s0 s1 s2), g1, hh.tr g2⟩
  · rw [pm_b_0 (show ¬ (0 ≤ b.toInt ∧ b.toInt < (4 : Int32).toInt) from ha)]
    refine v_if_ne rfl (fun h => absurd h (by decide)) (fun _ => ?_)
    refine v_aload_n rfl rfl ?_
    refine v_iconst (v := (-1)) rfl (by decide) ?_
    refine v_callV rfl (c_X_refuse (-1) (by unfold pm_isR; decide) hR hI) rfl rfl h0 rfl rfl (by omega) (fun rv w1 hq => ?_)
    obtain ⟨rfl, g1, g2⟩ := hq
    exact v_iret rfl ⟨bo_ret (bo_no ha), g1, hh.tr g2⟩
set_option maxRecDepth 100000 in
theorem x_l_beamOf {sc : pm_S} {w : pm_W} {gi : Nat → Int32} {ga : Nat → List Int32} {j : Nat} {k : Int32} (hj : j < 4) (hI : pm_IM gi ga w) (hc : ∀ i, i < 400 → (ga 20).getD (400 * j + i) 0 = (ga (16 + j)).getD i 0) (d m : Nat) : ∀ (i c : Nat), i + m = 400 → pm_V sc d 181 112 [.ref 59, .int (nI j), .int k, .int (nI c), .int (nI i)] [] w (pm_PM w (nI (c + cf (ga (16 + j)) (ga 15) i m), gi, ga)) := by
  have hh : pm_lo w w := pm_lo.rf
  obtain ⟨v4, v5, v6, v14, v35, v39, v40, v42, c4, c5, c6, c35, c42, h59⟩ := hI.2.1 59 (by decide) (by decide)
  obtain ⟨l60, r60, h60⟩ := hI.2.1 60 (by decide) (by decide)
  obtain ⟨l78, r78, h78⟩ := hI.2.1 78 (by decide) (by decide)
  induction m with
  | zero =>
    intro i c hi
    refine v_iload rfl rfl ?_
    refine v_sipush (v := 400) rfl (by decide) ?_
    refine v_icmp_ge rfl (fun _ => ?_) (fun h => absurd (show (400 : Int32) ≤ nI i from nI_le (a := 400) (by omega) (by omega)) h)
    refine v_iload_n rfl rfl ?_
    exact v_iret rfl ⟨rfl, hI, hh⟩
  | succ m ih =>
    intro i c hi
    refine v_iload rfl rfl ?_
    refine v_sipush (v := 400) rfl (by decide) ?_
    refine v_icmp_ge rfl (fun h => absurd h (show ¬ (400 : Int32) ≤ nI i from nI_ge (b := 400) (by omega) (by omega))) (fun _ => ?_)
    refine v_iload_n rfl rfl ?_
    refine v_aload_n rfl rfl ?_
    refine v_get rfl h59 rfl ?_
    refine v_sipush (v := 400) rfl (by decide) ?_
    refine v_iload_n rfl rfl ?_
    refine v_imul rfl ?_
    refine v_iload rfl rfl ?_
    refine v_iadd rfl ?_
    rw [pm_400 hj, nI_add]
    refine v_iaload rfl h78 (nI_pos (by omega)) (pm_gD (d := 0) (by rw [nI_clamp (by omega), l78]; omega)) ?_
    refine v_aload_n rfl rfl ?_
    refine v_get rfl h59 rfl ?_
    refine v_iload rfl rfl ?_
    refine v_iaload rfl h60 (nI_pos (by omega)) (pm_gD (d := 0) (by rw [nI_clamp (by omega), l60]; omega)) ?_
    refine v_icmp_ne rfl (fun t141 => ?_) (fun t141 => ?_)
    · rw [nI_clamp (by omega), nI_clamp (by omega), hc i (by omega)] at t141
      refine v_iconst (v := 1) rfl (by decide) ?_
      refine v_iadd rfl ?_
      refine v_istore_n rfl (Nat.le_of_ble_eq_true rfl) ?_
      refine v_iinc (v := nI (i + 1)) rfl rfl (i_inc i) ?_
      refine v_goto rfl ?_
      have z := ih (i + 1) (c + 1) (by omega)
      rw [show nI (c + 1) = nI c + 1 from (nI_add c 1).symm, show c + 1 + cf (ga (16 + j)) (ga 15) (i + 1) m = c + cf (ga (16 + j)) (ga 15) i (m + 1) by rw [cf_s, if_neg t141]; omega] at z
      exact z
    · rw [nI_clamp (by omega), nI_clamp (by omega), hc i (by omega)] at t141
      refine v_iconst (v := 0) rfl (by decide) ?_
      refine v_goto rfl ?_
      refine v_iadd rfl ?_
      refine v_istore_n rfl (Nat.le_of_ble_eq_true rfl) ?_
      refine v_iinc (v := nI (i + 1)) rfl rfl (i_inc i) ?_
      refine v_goto rfl ?_
      have z := ih (i + 1) c (by omega)
      rw [show c + cf (ga (16 + j)) (ga 15) (i + 1) m = c + cf (ga (16 + j)) (ga 15) i (m + 1) by rw [cf_s, if_pos t141]; omega] at z
      rw [show nI c + 0 = nI c from nI_add c 0]
      exact z
set_option maxRecDepth 100000 in
theorem x_M_beamOf {sc : pm_S} {w : pm_W} {gi : Nat → Int32} {ga : Nat → List Int32} (b k : Int32) (hR : pm_Rg gi ga) (hI : pm_IM gi ga w) (hK : pm_K gi ga) (hC : pm_Cr ga) : pm_Mt sc 2 181 5 [.ref 59, .int b, .int k] w (pm_PM w (sp_beamOf gi ga b k)) := by
  intro d hd
  show pm_V sc d 181 0 _ [] w _
  have hh : pm_lo w w := pm_lo.rf
  have q7 := hR.l7
  have q8 := hR.l8
  obtain ⟨v4, v5, v6, v14, v35, v39, v40, v42, c4, c5, c6, c35, c42, h59⟩ := hI.2.1 59 (by decide) (by decide)
  have h74 : _ = some _ := hI.2.1 74 (by decide) (by decide)
  have h75 : _ = some _ := hI.2.1 75 (by decide) (by decide)
  obtain ⟨xs76, l76, b76, h76⟩ := hI.2.1 76 (by decide) (by decide)
  obtain ⟨xs77, l77, b77, h77⟩ := hI.2.1 77 (by decide) (by decide)
  refine v_iload_n rfl rfl ?_
  refine v_callS rfl (c_isBeam b) rfl rfl rfl rfl rfl (by omega) (fun rv w1 hq => ?_)
  obtain ⟨rfl, rfl⟩ := hq
  by_cases ha : 0 ≤ b.toInt ∧ b.toInt < 4
  · rw [pm_b_1 ha]
    refine v_if_ne rfl (fun _ => ?_) (fun h => absurd h (by decide))
    refine v_iload_n rfl rfl ?_
    refine v_iconst (v := 0) rfl (by decide) ?_
    refine v_iconst (v := 2) rfl (by decide) ?_
    refine v_callS rfl (c_in k 0 2 w) rfl rfl rfl rfl rfl (by omega) (fun rv w1 hq => ?_)
    obtain ⟨rfl, rfl⟩ := hq
    by_cases hk : (0 : Int32).toInt ≤ k.toInt ∧ k.toInt ≤ (2 : Int32).toInt
    · rw [pm_b_1 hk]
      refine v_if_ne rfl (fun _ => ?_) (fun h => absurd h (by decide))
      refine v_iload_n rfl rfl ?_
      refine v_iconst (v := 2) rfl (by decide) ?_
      refine v_icmp_ge rfl (fun t31 => ?_) (fun t31 => ?_)
      · have hk2 : k = 2 := i_eq.mpr (by rw [i_le] at t31; omega)
        refine v_aload_n rfl rfl ?_
        refine v_get rfl h59 rfl ?_
        refine v_iload_n rfl rfl ?_
        refine v_iaload rfl h74 (by rw [i_lt, i_0]; omega) (pm_gD (d := 0) (by rw [i_cl, q7]; omega)) ?_
        refine v_iconst (v := 2) rfl (by decide) ?_
        refine v_icmp_ne rfl (fun t75 => ?_) (fun t75 => ?_)
        · refine v_bipush (v := (-9)) rfl (by decide) ?_
          exact v_iret rfl ⟨bo_ret (by show bo_v gi ga b k = _; rw [bo_2 ha hk2, if_pos (Or.inl (show ¬ (ga 7).getD b.toInt.toNat 0 = 2 from t75))]), hI, hh⟩
        · have hh2 : (ga 7).getD b.toInt.toNat 0 = 2 := by rw [i_cl] at t75; first | exact t75 | exact Decidable.not_not.mp t75
          refine v_aload_n rfl rfl ?_
          refine v_get rfl h59 rfl ?_
          refine v_iload_n rfl rfl ?_
          refine v_iaload rfl h76 (by rw [i_lt, i_0]; omega) (pm_gD (d := 0) (by rw [i_cl, l76]; omega)) ?_
          refine v_aload_n rfl rfl ?_
          refine v_get rfl h59 rfl ?_
          refine v_icmp_ne rfl (fun t88 => ?_) (fun t88 => ?_)
          · refine v_bipush (v := (-9)) rfl (by decide) ?_
            exact v_iret rfl ⟨bo_ret (by show bo_v gi ga b k = _; rw [bo_2 ha hk2, if_pos (Or.inr (fun q => t88 (by rw [i_cl, b76 b.toInt.toNat (by omega) hh2]; exact q.1)))]), hI, hh⟩
          · refine v_aload_n rfl rfl ?_
            refine v_get rfl h59 rfl ?_
            refine v_iload_n rfl rfl ?_
            refine v_iaload rfl h77 (by rw [i_lt, i_0]; omega) (pm_gD (d := 0) (by rw [i_cl, l77]; omega)) ?_
            refine v_aload_n rfl rfl ?_
            refine v_get rfl h59 rfl ?_
            refine v_icmp_eq rfl (fun t101 => ?_) (fun t101 => ?_)
            · refine v_iconst (v := 0) rfl (by decide) ?_
              refine v_istore_n rfl (Nat.le_of_ble_eq_true rfl) ?_
              refine v_iconst (v := 0) rfl (by decide) ?_
              refine v_istore rfl (Nat.le_of_ble_eq_true rfl) ?_
              have z := x_l_beamOf (sc := sc) (k := k) (j := b.toInt.toNat) (by omega) hI (fun i hi => by
                have q := hC b.toInt.toNat (by omega) hh2 i hi
                rw [List.getD_eq_getElem?_getD, List.getD_eq_getElem?_getD, q]) d 400 0 0 (by omega)
              rw [← show b = nI b.toInt.toNat from i_nI ha.1] at z
              rw [show sp_beamOf gi ga b k = (nI (0 + cf (ga (16 + b.toInt.toNat)) (ga 15) 0 400), gi, ga) by
                unfold sp_beamOf
                rw [bo_2 ha hk2, if_neg (fun q => q.elim (fun q => q hh2) (fun q => q ⟨by rw [← b76 b.toInt.toNat (by omega) hh2]; rw [i_cl] at t88; first | exact t88 | exact Decidable.not_not.mp t88, by rw [← b77 b.toInt.toNat (by omega) hh2]; rw [i_cl] at t101; first | exact t101 | exact Decidable.not_not.mp t101⟩)), Nat.zero_add]]
              exact z
            · refine v_bipush (v := (-9)) rfl (by decide) ?_
              exact v_iret rfl ⟨bo_ret (by show bo_v gi ga b k = _; rw [bo_2 ha hk2, if_pos (Or.inr (fun q => t101 (by rw [i_cl, b77 b.toInt.toNat (by omega) hh2]; exact q.2)))]), hI, hh⟩
      · refine v_iload_n rfl rfl ?_
        refine v_if_ne rfl (fun t35 => ?_) (fun t35 => ?_)
        · have hk1 : k = 1 := by
            have q0 : ¬ k.toInt = 0 := fun q => t35 (i_eq.mpr (by rw [q]; rfl))
            have q2 := mt i_le.mpr t31
            have q3 := hk.1
            rw [i_0] at q3
            have e2 : (2 : Int32).toInt = 2 := by decide
            exact i_eq.mpr (by rw [i_1]; omega)
          refine v_aload_n rfl rfl ?_
          refine v_get rfl h59 rfl ?_
          refine v_iload_n rfl rfl ?_
          refine v_iaload rfl h74 (by rw [i_lt, i_0]; omega) (pm_gD (d := 0) (by rw [i_cl, q7]; omega)) ?_
          refine v_iconst (v := 1) rfl (by decide) ?_
          refine v_icmp_ne rfl (fun t54 => ?_) (fun t54 => ?_)
          · refine v_iconst (v := 0) rfl (by decide) ?_
            exact v_iret rfl ⟨bo_ret (by show bo_v gi ga b k = _; rw [bo_1 ha hk1]; exact hK.2.2 b.toInt.toNat (by omega) (by rw [i_cl] at t54; exact t54)), hI, hh⟩
          · refine v_aload_n rfl rfl ?_
            refine v_get rfl h59 rfl ?_
            refine v_iload_n rfl rfl ?_
            refine v_iaload rfl h75 (by rw [i_lt, i_0]; omega) (pm_gD (d := 0) (by rw [i_cl, q8]; omega)) ?_
            refine v_goto rfl ?_
            exact v_iret rfl ⟨bo_ret (bo_1 ha hk1), hI, hh⟩
        · have hk0 : k = 0 := by first | exact t35 | exact Decidable.not_not.mp t35
          refine v_aload_n rfl rfl ?_
          refine v_get rfl h59 rfl ?_
          refine v_iload_n rfl rfl ?_
          refine v_iaload rfl h74 (by rw [i_lt, i_0]; omega) (pm_gD (d := 0) (by rw [i_cl, q7]; omega)) ?_
          refine v_goto rfl ?_
          exact v_iret rfl ⟨bo_ret (bo_0 ha hk0), hI, hh⟩
    · rw [pm_b_0 hk]
      refine v_if_ne rfl (fun h => absurd h (by decide)) (fun _ => ?_)
      refine v_aload_n rfl rfl ?_
      refine v_bipush (v := (-2)) rfl (by decide) ?_
      refine v_callV rfl (c_M_refuse (-2) (by unfold pm_isR; decide) hR hI) rfl rfl h59 rfl rfl (by omega) (fun rv w1 hq => ?_)
      obtain ⟨rfl, g1, g2⟩ := hq
      exact v_iret rfl ⟨bo_ret (bo_x ha (fun q => hk (by rw [q]; decide)) (fun q => hk (by rw [q]; decide)) (fun q => hk (by rw [q]; decide))), g1, hh.tr g2⟩
  · rw [pm_b_0 ha]
    refine v_if_ne rfl (fun h => absurd h (by decide)) (fun _ => ?_)
    refine v_aload_n rfl rfl ?_
    refine v_iconst (v := (-1)) rfl (by decide) ?_
    refine v_callV rfl (c_M_refuse (-1) (by unfold pm_isR; decide) hR hI) rfl rfl h59 rfl rfl (by omega) (fun rv w1 hq => ?_)
    obtain ⟨rfl, g1, g2⟩ := hq
    exact v_iret rfl ⟨bo_ret (bo_no ha), g1, hh.tr g2⟩

