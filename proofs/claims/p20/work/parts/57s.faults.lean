set_option maxRecDepth 100000 in
theorem pm_dIX : ∀ k, k < 59 → ∀ i ∈ pm_dI k, i < 12 := by decide +kernel
set_option maxRecDepth 100000 in
theorem pm_dAX : ∀ k, k < 59 → ∀ i ∈ pm_dA k, i < 25 := by decide +kernel
set_option maxRecDepth 100000 in
theorem pm_dIM : ∀ k, k < 88 → 59 ≤ k → ∀ i ∈ pm_dI k, i < 10 ∨ 12 ≤ i := by decide +kernel
set_option maxRecDepth 100000 in
theorem pm_dAM : ∀ k, k < 88 → 59 ≤ k → ∀ i ∈ pm_dA k, i < 21 ∨ 25 ≤ i := by decide +kernel
theorem pm_IX.agree {gi gi' : Nat → Int32} {ga ga' : Nat → List Int32} {w : pm_W} (h : pm_IX gi ga w) (hi : ∀ i, i < 12 → gi' i = gi i) (ha : ∀ i, i < 25 → ga' i = ga i) : pm_IX gi' ga' w := ⟨h.1, fun k hk => pm_cell_eq (fun i q => hi i (pm_dIX k hk i q)) (fun i q => ha i (pm_dAX k hk i q)) (h.2 k hk)⟩
theorem pm_IM.agree {gi gi' : Nat → Int32} {ga ga' : Nat → List Int32} {w : pm_W} (h : pm_IM gi ga w) (hi : ∀ i, i < 10 ∨ 12 ≤ i → gi' i = gi i) (ha : ∀ i, i < 21 ∨ 25 ≤ i → ga' i = ga i) : pm_IM gi' ga' w := ⟨h.1, fun k h1 h2 => pm_cell_eq (fun i q => hi i (pm_dIM k h2 h1 i q)) (fun i q => ha i (pm_dAM k h2 h1 i q)) (h.2.1 k h1 h2), h.2.2⟩
def fl_up (xs ys : List Int32) (j : Nat) (v : Int32) : Prop := ys.length = xs.length ∧ ys.getD j 0 = v ∧ ∀ i, i ≠ j → ys.getD i 0 = xs.getD i 0
/-- how many are told -/
noncomputable def fl_n (t : List Int32) : Int := (if (t.getD 1 0).toInt = 0 then 0 else 1) + (if (t.getD 2 0).toInt = 0 then 0 else 1) + (if (t.getD 3 0).toInt = 0 then 0 else 1)
set_option maxRecDepth 100000 in
theorem c_tell {sc : pm_S} {w : pm_W} {gi : Nat → Int32} {ga : Nat → List Int32} (k a b : Int32) (k0 : 1 ≤ k.toInt) (k3 : k.toInt ≤ 3) (hI : pm_IX gi ga w) : pm_Mt sc 0 24 4 [.ref 16, .int k, .int a, .int b] w (fun rv w' => ∃ t f s, rv = none ∧ pm_IX gi (pm_uA (pm_uA (pm_uA ga 21 t) 22 f) 23 s) w' ∧ pm_hi w w' ∧ fl_up (ga 21) t k.toInt.toNat 1 ∧ fl_up (ga 22) f k.toInt.toNat a ∧ fl_up (ga 23) s k.toInt.toNat b) := by
  intro d hd
  show pm_V sc d 24 0 _ [] w _
  have h16 : _ = some _ := hI.2 16 (by decide)
  obtain ⟨x17, l17, r17, e17, h17⟩ := hI.2 17 (by decide)
  obtain ⟨x18, l18, e18, h18⟩ := hI.2 18 (by decide)
  obtain ⟨x19, l19, e19, h19⟩ := hI.2 19 (by decide)
  subst e17
  subst e18
  subst e19
  refine v_aload_n rfl rfl ?_
  refine v_get rfl h16 rfl ?_
  refine v_iload_n rfl rfl ?_
  refine v_iconst (v := 1) rfl (by decide) ?_
  refine r_bastx rfl h17 l17 (by omega) (by omega) (Or.inr (by decide)) (fun t tl tm tg tn => ?_)
  refine r_gen (fun w1 e1 => ?_)
  have hI1 : pm_IX gi (pm_uA ga 21 t) w1 := by rw [e1]; exact hI.uA 17 21 (by decide +kernel) (by decide +kernel) ⟨t, tl, r_rng tm r17 (by decide) (by decide), pm_uA_self.symm, rfl⟩
  have a16 := r_get_ne e1 (show 17 ≠ 16 by decide) h16
  have a18 := r_get_ne e1 (show 17 ≠ 18 by decide) h18
  have a19 := r_get_ne e1 (show 17 ≠ 19 by decide) h19
  refine v_aload_n rfl rfl ?_
  refine v_get rfl a16 rfl ?_
  refine v_iload_n rfl rfl ?_
  refine v_iload_n rfl rfl ?_
  refine r_iastx rfl a18 l18 (by omega) (by omega) (fun f fl fm fg fn => ?_)
  refine r_gen (fun w2 e2 => ?_)
  have hI2 : pm_IX gi (pm_uA (pm_uA ga 21 t) 22 f) w2 := by rw [e2]; exact hI1.uA 18 22 (by decide +kernel) (by decide +kernel) ⟨f, fl, pm_uA_self.symm, rfl⟩
  have b16 := r_get_ne e2 (show 18 ≠ 16 by decide) a16
  have b19 := r_get_ne e2 (show 18 ≠ 19 by decide) a19
  refine v_aload_n rfl rfl ?_
  refine v_get rfl b16 rfl ?_
  refine v_iload_n rfl rfl ?_
  refine v_iload_n rfl rfl ?_
  refine r_iastx rfl b19 l19 (by omega) (by omega) (fun s sl sm sg sn => ?_)
  refine r_gen (fun w3 e3 => ?_)
  have hI3 : pm_IX gi (pm_uA (pm_uA (pm_uA ga 21 t) 22 f) 23 s) w3 := by rw [e3]; exact hI2.uA 19 23 (by decide +kernel) (by decide +kernel) ⟨s, sl, pm_uA_self.symm, rfl⟩
  refine v_ret rfl ⟨t, f, s, rfl, hI3, ?_, ⟨by rw [tl, l17], tg, tn⟩, ⟨by rw [fl, l18], fg, fn⟩, ⟨by rw [sl, l19], sg, sn⟩⟩
  rw [e3, e2, e1]
  exact ((pm_hi.rf.set (by decide) _).set (by decide) _).set (by decide) _
set_option maxRecDepth 100000 in
theorem W_X5_forget_16 {sc : pm_S} {w w0 : pm_W} {gi : Nat → Int32} {ga : Nat → List Int32}   (hR : pm_Rg gi ga) (hI : pm_IX gi ga w) (hh : pm_hi w0 w) : pm_Mt sc 0 25 2 [.ref 16] w (fun rv w' => ∃ t, rv = none ∧ pm_IX gi (pm_uA ga 21 t) w' ∧ pm_hi w0 w' ∧ (t.getD 1 0).toInt = 0 ∧ (t.getD 2 0).toInt = 0 ∧ (t.getD 3 0).toInt = 0) := by
  intro d hd
  obtain ⟨g0a, g0b⟩ := hR.n0
  obtain ⟨g1a, g1b⟩ := hR.n1
  obtain ⟨g2a, g2b⟩ := hR.n2
  obtain ⟨g3a, g3b⟩ := hR.n3
  obtain ⟨g4a, g4b⟩ := hR.n4
  obtain ⟨g5a, g5b⟩ := hR.n5
  obtain ⟨g6a, g6b⟩ := hR.n6
  obtain ⟨g7a, g7b⟩ := hR.n7
  obtain ⟨g8a, g8b⟩ := hR.n8
  have k0 : (0 : Int32).toInt = 0 := by decide
  have k1 : (1 : Int32).toInt = 1 := by decide
  have k3 : (3 : Int32).toInt = 3 := by decide
  show pm_V sc d 25 0 [.ref 16, .null] [] w _
  refine v_iconst (v := 1) rfl (by decide) ?_
  refine v_istore_n rfl (Nat.le_of_ble_eq_true rfl) ?_
  refine v_iload_n rfl rfl ?_
  refine v_iconst (v := 3) rfl (by decide) ?_
  refine r_icmp_gt rfl (fun hx => absurd hx (by omega)) (fun _ => ?_)
  refine v_aload_n rfl rfl ?_
  have h1 : _ = some _ := hI.2 16 (by decide)
  refine v_get rfl h1 rfl ?_
  refine v_iload_n rfl rfl ?_
  refine v_iconst (v := 0) rfl (by decide) ?_
  obtain ⟨xs3, xs3l, xs3r, xs3e, h2⟩ := hI.2 17 (by decide)
  have xs3e : xs3 = (ga 21) := xs3e
  subst xs3e
  refine r_bastx rfl h2 xs3l (by omega) (by omega) (Or.inl (by omega)) (fun ys4 ys4l ys4m ys4g ys4n => ?_)
  have ys4r := r_rng ys4m xs3r (by omega) (by omega)
  rw [show (1 : Int32).toInt.toNat = 1 by omega] at ys4g ys4n
  refine r_gen (fun w5 e6 => ?_)
  have hI7 : pm_IX gi (pm_uA ga 21 ys4) w5 := by
    rw [e6]
    have q := hI.uA 17 21 (by decide +kernel) (by decide +kernel) (v := ys4) (c := .inl (1, .inl ys4)) ⟨ys4, ys4l, ys4r, pm_uA_self.symm, rfl⟩
    exact q
  have hh8 : pm_hi w0 w5 := by rw [e6]; exact hh.set (by decide) _
  have h9 := r_get_ne e6 (show 17 ≠ 16 by decide) h1
  refine r_iinc rfl rfl (by decide) (by omega) (by omega) (fun z10 z10e => ?_)
  refine v_goto rfl ?_
  refine v_iload_n rfl rfl ?_
  refine v_iconst (v := 3) rfl (by decide) ?_
  refine r_icmp_gt rfl (fun hx => absurd hx (by omega)) (fun _ => ?_)
  refine v_aload_n rfl rfl ?_
  refine v_get rfl h9 rfl ?_
  refine v_iload_n rfl rfl ?_
  refine v_iconst (v := 0) rfl (by decide) ?_
  obtain ⟨xs12, xs12l, xs12r, xs12e, h11⟩ := hI7.2 17 (by decide)
  have xs12e : xs12 = ys4 := xs12e
  subst xs12e
  refine r_bastx rfl h11 xs12l (by omega) (by omega) (Or.inl (by omega)) (fun ys13 ys13l ys13m ys13g ys13n => ?_)
  have ys13r := r_rng ys13m xs12r (by omega) (by omega)
  rw [show z10.toInt.toNat = 2 by omega] at ys13g ys13n
  refine r_gen (fun w14 e15 => ?_)
  have hI16 : pm_IX gi (pm_uA ga 21 ys13) w14 := by
    rw [e15]
    have q := hI7.uA 17 21 (by decide +kernel) (by decide +kernel) (v := ys13) (c := .inl (1, .inl ys13)) ⟨ys13, ys13l, ys13r, pm_uA_self.symm, rfl⟩
    rw [pm_uA_uA] at q
    exact q
  have hh17 : pm_hi w0 w14 := by rw [e15]; exact hh8.set (by decide) _
  have h18 := r_get_ne e15 (show 17 ≠ 16 by decide) h9
  refine r_iinc rfl rfl (by decide) (by omega) (by omega) (fun z19 z19e => ?_)
  refine v_goto rfl ?_
  refine v_iload_n rfl rfl ?_
  refine v_iconst (v := 3) rfl (by decide) ?_
  refine r_icmp_gt rfl (fun hx => absurd hx (by omega)) (fun _ => ?_)
  refine v_aload_n rfl rfl ?_
  refine v_get rfl h18 rfl ?_
  refine v_iload_n rfl rfl ?_
  refine v_iconst (v := 0) rfl (by decide) ?_
  obtain ⟨xs21, xs21l, xs21r, xs21e, h20⟩ := hI16.2 17 (by decide)
  have xs21e : xs21 = ys13 := xs21e
  subst xs21e
  refine r_bastx rfl h20 xs21l (by omega) (by omega) (Or.inl (by omega)) (fun ys22 ys22l ys22m ys22g ys22n => ?_)
  have ys22r := r_rng ys22m xs21r (by omega) (by omega)
  rw [show z19.toInt.toNat = 3 by omega] at ys22g ys22n
  refine r_gen (fun w23 e24 => ?_)
  have hI25 : pm_IX gi (pm_uA ga 21 ys22) w23 := by
    rw [e24]
    have q := hI16.uA 17 21 (by decide +kernel) (by decide +kernel) (v := ys22) (c := .inl (1, .inl ys22)) ⟨ys22, ys22l, ys22r, pm_uA_self.symm, rfl⟩
    rw [pm_uA_uA] at q
    exact q
  have hh26 : pm_hi w0 w23 := by rw [e24]; exact hh17.set (by decide) _
  have h27 := r_get_ne e24 (show 17 ≠ 16 by decide) h18
  refine r_iinc rfl rfl (by decide) (by omega) (by omega) (fun z28 z28e => ?_)
  refine v_goto rfl ?_
  refine v_iload_n rfl rfl ?_
  refine v_iconst (v := 3) rfl (by decide) ?_
  refine r_icmp_gt rfl (fun _ => ?_) (fun hx => absurd hx (by omega))
  exact v_ret rfl ⟨ys22, rfl, hI25, hh26, by rw [ys22n 1 (by decide), ys13n 1 (by decide), ys4g]; rfl, by rw [ys22n 2 (by decide), ys13g]; rfl, by rw [ys22g]; rfl⟩
set_option maxRecDepth 100000 in
theorem W_X5_howMany_16_x {sc : pm_S} {w : pm_W} {gi : Nat → Int32} {ga : Nat → List Int32}   (hR : pm_Rg gi ga) (hI : pm_IX gi ga w) : pm_Mt sc 0 26 3 [.ref 16] w (fun rv w' => pm_wI (fun v => 0 ≤ v.toInt ∧ v.toInt = fl_n (ga 21)) rv ∧ w = w') := by
  intro d hd
  obtain ⟨g0a, g0b⟩ := hR.n0
  obtain ⟨g1a, g1b⟩ := hR.n1
  obtain ⟨g2a, g2b⟩ := hR.n2
  obtain ⟨g3a, g3b⟩ := hR.n3
  obtain ⟨g4a, g4b⟩ := hR.n4
  obtain ⟨g5a, g5b⟩ := hR.n5
  obtain ⟨g6a, g6b⟩ := hR.n6
  obtain ⟨g7a, g7b⟩ := hR.n7
  obtain ⟨g8a, g8b⟩ := hR.n8
  have k0 : (0 : Int32).toInt = 0 := by decide
  have k1 : (1 : Int32).toInt = 1 := by decide
  have k3 : (3 : Int32).toInt = 3 := by decide
  show pm_V sc d 26 0 [.ref 16, .null, .null] [] w _
  refine v_iconst (v := 0) rfl (by decide) ?_
  refine v_istore_n rfl (Nat.le_of_ble_eq_true rfl) ?_
  refine v_iconst (v := 1) rfl (by decide) ?_
  refine v_istore_n rfl (Nat.le_of_ble_eq_true rfl) ?_
  refine v_iload_n rfl rfl ?_
  refine v_iconst (v := 3) rfl (by decide) ?_
  refine r_icmp_gt rfl (fun hx => absurd hx (by omega)) (fun _ => ?_)
  refine v_aload_n rfl rfl ?_
  have h1 : _ = some _ := hI.2 16 (by decide)
  refine v_get rfl h1 rfl ?_
  refine v_iload_n rfl rfl ?_
  obtain ⟨xs3, xs3l, xs3r, xs3e, h2⟩ := hI.2 17 (by decide)
  have xs3e : xs3 = (ga 21) := xs3e
  subst xs3e
  refine r_baload rfl h2 xs3l (by omega) (by omega) (fun z4 z4m z4g => ?_)
  have z4t : z4.toInt = ((ga 21).getD 1 0).toInt := congrArg Int32.toInt z4g
  obtain ⟨z4a, z4b⟩ := xs3r z4 z4m
  refine r_if_eq rfl (fun t5 => ?_) (fun t5 => ?_)
  · refine r_iinc rfl rfl (by decide) (by omega) (by omega) (fun z6 z6e => ?_)
    refine v_goto rfl ?_
    refine v_iload_n rfl rfl ?_
    refine v_iconst (v := 3) rfl (by decide) ?_
    refine r_icmp_gt rfl (fun hx => absurd hx (by omega)) (fun _ => ?_)
    refine v_aload_n rfl rfl ?_
    refine v_get rfl h1 rfl ?_
    refine v_iload_n rfl rfl ?_
    refine r_baload rfl h2 xs3l (by omega) (by omega) (fun z7 z7m z7g => ?_)
    have z7t : z7.toInt = ((ga 21).getD 2 0).toInt := by rw [z7g, show z6.toInt.toNat = 2 by omega]
    obtain ⟨z7a, z7b⟩ := xs3r z7 z7m
    refine r_if_eq rfl (fun t8 => ?_) (fun t8 => ?_)
    · refine r_iinc rfl rfl (by decide) (by omega) (by omega) (fun z9 z9e => ?_)
      refine v_goto rfl ?_
      refine v_iload_n rfl rfl ?_
      refine v_iconst (v := 3) rfl (by decide) ?_
      refine r_icmp_gt rfl (fun hx => absurd hx (by omega)) (fun _ => ?_)
      refine v_aload_n rfl rfl ?_
      refine v_get rfl h1 rfl ?_
      refine v_iload_n rfl rfl ?_
      refine r_baload rfl h2 xs3l (by omega) (by omega) (fun z10 z10m z10g => ?_)
      have z10t : z10.toInt = ((ga 21).getD 3 0).toInt := by rw [z10g, show z9.toInt.toNat = 3 by omega]
      obtain ⟨z10a, z10b⟩ := xs3r z10 z10m
      refine r_if_eq rfl (fun t11 => ?_) (fun t11 => ?_)
      · refine r_iinc rfl rfl (by decide) (by omega) (by omega) (fun z12 z12e => ?_)
        refine v_goto rfl ?_
        refine v_iload_n rfl rfl ?_
        refine v_iconst (v := 3) rfl (by decide) ?_
        refine r_icmp_gt rfl (fun _ => ?_) (fun hx => absurd hx (by omega))
        refine v_iload_n rfl rfl ?_
        exact v_iret rfl ⟨⟨_, rfl, (by omega), (by
            unfold fl_n
            repeat' split
            all_goals omega)⟩, rfl⟩
      · refine r_iinc rfl rfl (by decide) (by omega) (by omega) (fun z13 z13e => ?_)
        refine r_iinc rfl rfl (by decide) (by omega) (by omega) (fun z14 z14e => ?_)
        refine v_goto rfl ?_
        refine v_iload_n rfl rfl ?_
        refine v_iconst (v := 3) rfl (by decide) ?_
        refine r_icmp_gt rfl (fun _ => ?_) (fun hx => absurd hx (by omega))
        refine v_iload_n rfl rfl ?_
        exact v_iret rfl ⟨⟨_, rfl, (by omega), (by
            unfold fl_n
            repeat' split
            all_goals omega)⟩, rfl⟩
    · refine r_iinc rfl rfl (by decide) (by omega) (by omega) (fun z15 z15e => ?_)
      refine r_iinc rfl rfl (by decide) (by omega) (by omega) (fun z16 z16e => ?_)
      refine v_goto rfl ?_
      refine v_iload_n rfl rfl ?_
      refine v_iconst (v := 3) rfl (by decide) ?_
      refine r_icmp_gt rfl (fun hx => absurd hx (by omega)) (fun _ => ?_)
      refine v_aload_n rfl rfl ?_
      refine v_get rfl h1 rfl ?_
      refine v_iload_n rfl rfl ?_
      refine r_baload rfl h2 xs3l (by omega) (by omega) (fun z17 z17m z17g => ?_)
      have z17t : z17.toInt = ((ga 21).getD 3 0).toInt := by rw [z17g, show z16.toInt.toNat = 3 by omega]
      obtain ⟨z17a, z17b⟩ := xs3r z17 z17m
      refine r_if_eq rfl (fun t18 => ?_) (fun t18 => ?_)
      · refine r_iinc rfl rfl (by decide) (by omega) (by omega) (fun z19 z19e => ?_)
        refine v_goto rfl ?_
        refine v_iload_n rfl rfl ?_
        refine v_iconst (v := 3) rfl (by decide) ?_
        refine r_icmp_gt rfl (fun _ => ?_) (fun hx => absurd hx (by omega))
        refine v_iload_n rfl rfl ?_
        exact v_iret rfl ⟨⟨_, rfl, (by omega), (by
            unfold fl_n
            repeat' split
            all_goals omega)⟩, rfl⟩
      · refine r_iinc rfl rfl (by decide) (by omega) (by omega) (fun z20 z20e => ?_)
        refine r_iinc rfl rfl (by decide) (by omega) (by omega) (fun z21 z21e => ?_)
        refine v_goto rfl ?_
        refine v_iload_n rfl rfl ?_
        refine v_iconst (v := 3) rfl (by decide) ?_
        refine r_icmp_gt rfl (fun _ => ?_) (fun hx => absurd hx (by omega))
        refine v_iload_n rfl rfl ?_
        exact v_iret rfl ⟨⟨_, rfl, (by omega), (by
            unfold fl_n
            repeat' split
            all_goals omega)⟩, rfl⟩
  · refine r_iinc rfl rfl (by decide) (by omega) (by omega) (fun z22 z22e => ?_)
    refine r_iinc rfl rfl (by decide) (by omega) (by omega) (fun z23 z23e => ?_)
    refine v_goto rfl ?_
    refine v_iload_n rfl rfl ?_
    refine v_iconst (v := 3) rfl (by decide) ?_
    refine r_icmp_gt rfl (fun hx => absurd hx (by omega)) (fun _ => ?_)
    refine v_aload_n rfl rfl ?_
    refine v_get rfl h1 rfl ?_
    refine v_iload_n rfl rfl ?_
    refine r_baload rfl h2 xs3l (by omega) (by omega) (fun z24 z24m z24g => ?_)
    have z24t : z24.toInt = ((ga 21).getD 2 0).toInt := by rw [z24g, show z23.toInt.toNat = 2 by omega]
    obtain ⟨z24a, z24b⟩ := xs3r z24 z24m
    refine r_if_eq rfl (fun t25 => ?_) (fun t25 => ?_)
    · refine r_iinc rfl rfl (by decide) (by omega) (by omega) (fun z26 z26e => ?_)
      refine v_goto rfl ?_
      refine v_iload_n rfl rfl ?_
      refine v_iconst (v := 3) rfl (by decide) ?_
      refine r_icmp_gt rfl (fun hx => absurd hx (by omega)) (fun _ => ?_)
      refine v_aload_n rfl rfl ?_
      refine v_get rfl h1 rfl ?_
      refine v_iload_n rfl rfl ?_
      refine r_baload rfl h2 xs3l (by omega) (by omega) (fun z27 z27m z27g => ?_)
      have z27t : z27.toInt = ((ga 21).getD 3 0).toInt := by rw [z27g, show z26.toInt.toNat = 3 by omega]
      obtain ⟨z27a, z27b⟩ := xs3r z27 z27m
      refine r_if_eq rfl (fun t28 => ?_) (fun t28 => ?_)
      · refine r_iinc rfl rfl (by decide) (by omega) (by omega) (fun z29 z29e => ?_)
        refine v_goto rfl ?_
        refine v_iload_n rfl rfl ?_
        refine v_iconst (v := 3) rfl (by decide) ?_
        refine r_icmp_gt rfl (fun _ => ?_) (fun hx => absurd hx (by omega))
        refine v_iload_n rfl rfl ?_
        exact v_iret rfl ⟨⟨_, rfl, (by omega), (by
            unfold fl_n
            repeat' split
            all_goals omega)⟩, rfl⟩
      · refine r_iinc rfl rfl (by decide) (by omega) (by omega) (fun z30 z30e => ?_)
        refine r_iinc rfl rfl (by decide) (by omega) (by omega) (fun z31 z31e => ?_)
        refine v_goto rfl ?_
        refine v_iload_n rfl rfl ?_
        refine v_iconst (v := 3) rfl (by decide) ?_
        refine r_icmp_gt rfl (fun _ => ?_) (fun hx => absurd hx (by omega))
        refine v_iload_n rfl rfl ?_
        exact v_iret rfl ⟨⟨_, rfl, (by omega), (by
            unfold fl_n
            repeat' split
            all_goals omega)⟩, rfl⟩
    · refine r_iinc rfl rfl (by decide) (by omega) (by omega) (fun z32 z32e => ?_)
      refine r_iinc rfl rfl (by decide) (by omega) (by omega) (fun z33 z33e => ?_)
      refine v_goto rfl ?_
      refine v_iload_n rfl rfl ?_
      refine v_iconst (v := 3) rfl (by decide) ?_
      refine r_icmp_gt rfl (fun hx => absurd hx (by omega)) (fun _ => ?_)
      refine v_aload_n rfl rfl ?_
      refine v_get rfl h1 rfl ?_
      refine v_iload_n rfl rfl ?_
      refine r_baload rfl h2 xs3l (by omega) (by omega) (fun z34 z34m z34g => ?_)
      have z34t : z34.toInt = ((ga 21).getD 3 0).toInt := by rw [z34g, show z33.toInt.toNat = 3 by omega]
      obtain ⟨z34a, z34b⟩ := xs3r z34 z34m
      refine r_if_eq rfl (fun t35 => ?_) (fun t35 => ?_)
      · refine r_iinc rfl rfl (by decide) (by omega) (by omega) (fun z36 z36e => ?_)
        refine v_goto rfl ?_
        refine v_iload_n rfl rfl ?_
        refine v_iconst (v := 3) rfl (by decide) ?_
        refine r_icmp_gt rfl (fun _ => ?_) (fun hx => absurd hx (by omega))
        refine v_iload_n rfl rfl ?_
        exact v_iret rfl ⟨⟨_, rfl, (by omega), (by
            unfold fl_n
            repeat' split
            all_goals omega)⟩, rfl⟩
      · refine r_iinc rfl rfl (by decide) (by omega) (by omega) (fun z37 z37e => ?_)
        refine r_iinc rfl rfl (by decide) (by omega) (by omega) (fun z38 z38e => ?_)
        refine v_goto rfl ?_
        refine v_iload_n rfl rfl ?_
        refine v_iconst (v := 3) rfl (by decide) ?_
        refine r_icmp_gt rfl (fun _ => ?_) (fun hx => absurd hx (by omega))
        refine v_iload_n rfl rfl ?_
        exact v_iret rfl ⟨⟨_, rfl, (by omega), (by
            unfold fl_n
            repeat' split
            all_goals omega)⟩, rfl⟩
set_option maxRecDepth 100000 in
theorem W_X11_clear_0_x {sc : pm_S} {w w0 : pm_W} {gi : Nat → Int32} {ga : Nat → List Int32}   (hR : pm_Rg gi ga) (hI : pm_IX gi ga w) (hh : pm_hi w0 w) : pm_Mt sc 1 86 2 [.ref 0] w (fun rv w' => ∃ v t, rv = some (.int v) ∧ v.toInt = fl_n (ga 21) ∧ pm_IX gi (pm_uA ga 21 t) w' ∧ pm_hi w0 w' ∧ (t.getD 1 0).toInt = 0 ∧ (t.getD 2 0).toInt = 0 ∧ (t.getD 3 0).toInt = 0) := by
  intro d hd
  obtain ⟨g0a, g0b⟩ := hR.n0
  obtain ⟨g1a, g1b⟩ := hR.n1
  obtain ⟨g2a, g2b⟩ := hR.n2
  obtain ⟨g3a, g3b⟩ := hR.n3
  obtain ⟨g4a, g4b⟩ := hR.n4
  obtain ⟨g5a, g5b⟩ := hR.n5
  obtain ⟨g6a, g6b⟩ := hR.n6
  obtain ⟨g7a, g7b⟩ := hR.n7
  obtain ⟨g8a, g8b⟩ := hR.n8
  show pm_V sc d 86 0 [.ref 0, .null] [] w _
  refine v_aload_n rfl rfl ?_
  obtain ⟨v2, ⟨v2z, v2e⟩, h1⟩ := hI.2 0 (by decide)
  have v2z := v2z.imp i_eq.mp i_eq.mp
  rw [i_0, i_1] at v2z
  refine v_get rfl h1 rfl ?_
  have h3 : _ = some _ := hI.2 16 (by decide)
  refine v_callV rfl (W_X5_howMany_16_x  hR hI) rfl rfl h3 rfl rfl (by omega) (fun rv w4 hq5 => ?_)
  obtain ⟨⟨z6, rfl, z6p0, z6p1⟩, rfl⟩ := hq5
  refine v_istore_n rfl (Nat.le_of_ble_eq_true rfl) ?_
  refine v_aload_n rfl rfl ?_
  refine v_get rfl h1 rfl ?_
  refine v_callV rfl (W_X5_forget_16 hR hI hh) rfl rfl h3 rfl rfl (by omega) (fun rv w7 hq8 => ?_)
  obtain ⟨t, rfl, hI9, hh9, t1, t2, t3⟩ := hq8
  refine v_iload_n rfl rfl ?_
  exact v_iret rfl ⟨z6, t, rfl, z6p1, hI9, hh9, t1, t2, t3⟩
/-- what the class keeps of a fault -/
def fl_X (ga ga' : Nat → List Int32) (k a b v : Int32) : Prop := (¬ v = 1 ∧ ga' = ga) ∨ (v = 1 ∧ (1 ≤ k.toInt ∧ k.toInt ≤ 3) ∧ ∃ t f s, ga' = pm_uA (pm_uA (pm_uA ga 21 t) 22 f) 23 s ∧ fl_up (ga 21) t k.toInt.toNat 1 ∧ fl_up (ga 22) f k.toInt.toNat a ∧ fl_up (ga 23) s k.toInt.toNat b)
def fl_M (ga ga' : Nat → List Int32) (k a b v : Int32) : Prop := (¬ v = 1 ∧ ga' = ga) ∨ (v = 1 ∧ (1 ≤ k.toInt ∧ k.toInt ≤ 3) ∧ 0 ≤ a.toInt ∧ (k.toInt = 3 → 0 ≤ b.toInt) ∧ ∃ A B, ga' = pm_uA (pm_uA ga 25 A) 26 B ∧ fl_up (ga 25) A k.toInt.toNat a ∧ B.length = 4 ∧ (k.toInt = 3 → B.getD 3 0 = b) ∧ (¬ k.toInt = 3 → B.getD 3 0 = (ga 26).getD 3 0))
set_option maxRecDepth 100000 in
theorem W_X11_fault_0_x {sc : pm_S} {w w0 : pm_W} {gi : Nat → Int32} {ga : Nat → List Int32} (k : Int32) (a : Int32) (b : Int32)  (hR : pm_Rg gi ga) (hI : pm_IX gi ga w) (hh : pm_hi w0 w) : pm_Mt sc 4 85 4 [.ref 0, .int k, .int a, .int b] w (fun rv w' => ∃ v ga', rv = some (.int v) ∧ sq_Pfault gi ga k a b v ∧ fl_X ga ga' k a b v ∧ pm_IX gi ga' w' ∧ pm_hi w0 w') := by
  intro d hd
  obtain ⟨g0a, g0b⟩ := hR.n0
  obtain ⟨g1a, g1b⟩ := hR.n1
  obtain ⟨g2a, g2b⟩ := hR.n2
  obtain ⟨g3a, g3b⟩ := hR.n3
  obtain ⟨g4a, g4b⟩ := hR.n4
  obtain ⟨g5a, g5b⟩ := hR.n5
  obtain ⟨g6a, g6b⟩ := hR.n6
  obtain ⟨g7a, g7b⟩ := hR.n7
  obtain ⟨g8a, g8b⟩ := hR.n8
  have km2 : (-2 : Int32).toInt = -2 := by decide
  have km1 : (-1 : Int32).toInt = -1 := by decide
  have k1 : (1 : Int32).toInt = 1 := by decide
  have k3 : (3 : Int32).toInt = 3 := by decide
  show pm_V sc d 85 0 [.ref 0, .int k, .int a, .int b] [] w _
  refine v_iload_n rfl rfl ?_
  refine v_iconst (v := 1) rfl (by decide) ?_
  refine r_icmp_lt rfl (fun t1 => ?_) (fun t1 => ?_)
  · refine v_aload_n rfl rfl ?_
    refine v_bipush (v := (-2)) rfl (by decide) ?_
    obtain ⟨v3, ⟨v3z, v3e⟩, h2⟩ := hI.2 0 (by decide)
    have v3z := v3z.imp i_eq.mp i_eq.mp
    rw [i_0, i_1] at v3z
    refine v_callV rfl (c_X_refuse (-2 : Int32) (by unfold pm_isR; first | decide | exact Or.inl rfl) hR hI) rfl rfl h2 rfl rfl (by omega) (fun rv w4 hq5 => ?_)
    obtain ⟨rfl, hI6, hh7x⟩ := hq5
    have hI6 : pm_IX gi ga w4 := hI6
    have hh7 := hh.tr hh7x
    exact v_iret rfl ⟨_, ga, rfl, Or.inl ⟨by omega, by omega⟩, Or.inl ⟨by decide, rfl⟩, hI6, hh7⟩
  · refine v_iload_n rfl rfl ?_
    refine v_iconst (v := 3) rfl (by decide) ?_
    refine r_icmp_le rfl (fun t8 => ?_) (fun t8 => ?_)
    · refine v_aload_n rfl rfl ?_
      refine v_iload_n rfl rfl ?_
      refine v_iload_n rfl rfl ?_
      refine v_iload_n rfl rfl ?_
      obtain ⟨v10, ⟨v10z, v10e⟩, h9⟩ := hI.2 0 (by decide)
      have v10z := v10z.imp i_eq.mp i_eq.mp
      rw [i_0, i_1] at v10z
      refine v_callV rfl (W_X11_canBeFault_0_x k a b hR hI hh) rfl rfl h9 rfl rfl (by omega) (fun rv w11 hq12 => ?_)
      obtain ⟨⟨z13, rfl, z13p0, z13p1, z13p2⟩, hI14, hh15⟩ := hq12
      skip
      refine r_if_ne rfl (fun t16 => ?_) (fun t16 => ?_)
      · refine v_aload_n rfl rfl ?_
        obtain ⟨v18, ⟨v18z, v18e⟩, h17⟩ := hI14.2 0 (by decide)
        have v18z := v18z.imp i_eq.mp i_eq.mp
        rw [i_0, i_1] at v18z
        refine v_get rfl h17 rfl ?_
        refine v_iload_n rfl rfl ?_
        refine v_iload_n rfl rfl ?_
        refine v_iload_n rfl rfl ?_
        have h19 : _ = some _ := hI14.2 16 (by decide)
        refine v_callV rfl (c_tell k a b (by omega) (by omega) hI14) rfl rfl h19 rfl rfl (by omega) (fun rv w20 hq21 => ?_)
        obtain ⟨t, f, s, rfl, hI9, hx9, u1, u2, u3⟩ := hq21
        have hh9 := hh15.tr hx9
        refine v_iconst (v := 1) rfl (by decide) ?_
        exact v_iret rfl ⟨_, _, rfl, (by
    refine Or.inr ⟨by omega, ?_⟩
    rcases z13p2 with ⟨g0, g1⟩ | ⟨g0, fs, os, m, g1, g2⟩
    · exact Or.inl ⟨g0, by omega⟩
    · refine Or.inr ⟨g0, fs, os, m, g1, ?_⟩
      rcases g2 with ⟨g2, g3⟩ | ⟨g2, g3⟩
      · exact Or.inl ⟨by omega, g3⟩
      · exact Or.inr ⟨by omega, g3⟩), Or.inr ⟨rfl, ⟨by omega, by omega⟩, t, f, s, rfl, u1, u2, u3⟩, hI9, hh9⟩
      · refine v_aload_n rfl rfl ?_
        refine v_iconst (v := (-1)) rfl (by decide) ?_
        obtain ⟨v23, ⟨v23z, v23e⟩, h22⟩ := hI14.2 0 (by decide)
        have v23z := v23z.imp i_eq.mp i_eq.mp
        rw [i_0, i_1] at v23z
        refine v_callV rfl (c_X_refuse (-1 : Int32) (by unfold pm_isR; first | decide | exact Or.inl rfl) hR hI14) rfl rfl h22 rfl rfl (by omega) (fun rv w24 hq25 => ?_)
        obtain ⟨rfl, hI26, hh27x⟩ := hq25
        have hI26 : pm_IX gi ga w24 := hI26
        have hh27 := hh15.tr hh27x
        exact v_iret rfl ⟨_, ga, rfl, (by
    refine Or.inr ⟨by omega, ?_⟩
    rcases z13p2 with ⟨g0, g1⟩ | ⟨g0, fs, os, m, g1, g2⟩
    · exact Or.inl ⟨g0, by omega⟩
    · refine Or.inr ⟨g0, fs, os, m, g1, ?_⟩
      rcases g2 with ⟨g2, g3⟩ | ⟨g2, g3⟩
      · exact Or.inl ⟨by omega, g3⟩
      · exact Or.inr ⟨by omega, g3⟩), Or.inl ⟨by decide, rfl⟩, hI26, hh27⟩
    · refine v_aload_n rfl rfl ?_
      refine v_bipush (v := (-2)) rfl (by decide) ?_
      obtain ⟨v29, ⟨v29z, v29e⟩, h28⟩ := hI.2 0 (by decide)
      have v29z := v29z.imp i_eq.mp i_eq.mp
      rw [i_0, i_1] at v29z
      refine v_callV rfl (c_X_refuse (-2 : Int32) (by unfold pm_isR; first | decide | exact Or.inl rfl) hR hI) rfl rfl h28 rfl rfl (by omega) (fun rv w30 hq31 => ?_)
      obtain ⟨rfl, hI32, hh33x⟩ := hq31
      have hI32 : pm_IX gi ga w30 := hI32
      have hh33 := hh.tr hh33x
      exact v_iret rfl ⟨_, ga, rfl, Or.inl ⟨by omega, by omega⟩, Or.inl ⟨by decide, rfl⟩, hI32, hh33⟩
set_option maxRecDepth 100000 in
theorem pm_d25 : ∀ k, k < 88 → 59 ≤ k → k ≠ 62 → ¬ 25 ∈ pm_dA k := by decide +kernel
set_option maxRecDepth 100000 in
theorem pm_d26 : ∀ k, k < 88 → 59 ≤ k → k ≠ 63 → ¬ 26 ∈ pm_dA k := by decide +kernel
theorem pm_IM.u62 {gi : Nat → Int32} {ga : Nat → List Int32} {w : pm_W} {A : List Int32} (h : pm_IM gi ga w) (lA : A.length = 4) (hF : 0 ≤ (A.getD 3 0).toInt → 0 ≤ ((ga 26).getD 3 0).toInt) : pm_IM gi (pm_uA ga 25 A) (w.set 62 (.inl (0, .inl A))) := ⟨by rw [List.length_set]; exact h.1, fun k h1 h2 => by
  by_cases e : 62 = k
  · subst e
    rw [List.getElem?_set_self (by rw [h.1]; omega)]
    exact ⟨A, lA, pm_uA_self.symm, rfl⟩
  · rw [List.getElem?_set_ne e]
    exact pm_cell_eq (fun _ _ => rfl) (fun i hi => pm_uA_ne (fun e2 => by
      subst e2
      exact pm_d25 k h2 h1 (Ne.symm e) hi)) (h.2.1 k h1 h2), by
  obtain ⟨g1, g2, g3, g4, -⟩ := h.flt
  exact ⟨A, ga 26, by rw [List.getElem?_set_self (by rw [h.1]; omega)], by rw [List.getElem?_set_ne (by decide)]; exact g2, lA, g4, hF⟩⟩
theorem pm_IM.u623 {gi : Nat → Int32} {ga : Nat → List Int32} {w : pm_W} {A B : List Int32} (h : pm_IM gi ga w) (lA : A.length = 4) (lB : B.length = 4) (hF : 0 ≤ (A.getD 3 0).toInt → 0 ≤ (B.getD 3 0).toInt) : pm_IM gi (pm_uA (pm_uA ga 25 A) 26 B) ((w.set 62 (.inl (0, .inl A))).set 63 (.inl (0, .inl B))) := ⟨by rw [List.length_set, List.length_set]; exact h.1, fun k h1 h2 => by
  by_cases e : 63 = k
  · subst e
    rw [List.getElem?_set_self (by rw [List.length_set, h.1]; omega)]
    exact ⟨B, lB, pm_uA_self.symm, rfl⟩
  · rw [List.getElem?_set_ne e]
    by_cases e1 : 62 = k
    · subst e1
      rw [List.getElem?_set_self (by rw [h.1]; omega)]
      exact ⟨A, lA, rfl, rfl⟩
    · rw [List.getElem?_set_ne e1]
      refine pm_cell_eq (fun _ _ => rfl) (fun i hi => ?_) (h.2.1 k h1 h2)
      rw [pm_uA_ne (fun e2 => by subst e2; exact pm_d26 k h2 h1 (Ne.symm e) hi), pm_uA_ne (fun e2 => by subst e2; exact pm_d25 k h2 h1 (Ne.symm e1) hi)], A, B, by rw [List.getElem?_set_ne (by decide), List.getElem?_set_self (by rw [h.1]; omega)], by rw [List.getElem?_set_self (by rw [List.length_set, h.1]; omega)], lA, lB, hF⟩
noncomputable def fm_n (A : List Int32) : Int := (if (A.getD 1 0).toInt < 0 then 0 else 1) + (if (A.getD 2 0).toInt < 0 then 0 else 1) + (if (A.getD 3 0).toInt < 0 then 0 else 1)
set_option maxRecDepth 100000 in
theorem W_X12_faultMany_59_x {sc : pm_S} {w : pm_W} {gi : Nat → Int32} {ga : Nat → List Int32}   (hR : pm_Rg gi ga) (hI : pm_IM gi ga w) : pm_Mt sc 0 147 3 [.ref 59] w (fun rv w' => pm_wI (fun v => 0 ≤ v.toInt ∧ v.toInt = fm_n (ga 25)) rv ∧ w = w') := by
  intro d hd
  obtain ⟨g0a, g0b⟩ := hR.n0
  obtain ⟨g1a, g1b⟩ := hR.n1
  obtain ⟨g2a, g2b⟩ := hR.n2
  obtain ⟨g3a, g3b⟩ := hR.n3
  obtain ⟨g4a, g4b⟩ := hR.n4
  obtain ⟨g5a, g5b⟩ := hR.n5
  obtain ⟨g6a, g6b⟩ := hR.n6
  obtain ⟨g7a, g7b⟩ := hR.n7
  obtain ⟨g8a, g8b⟩ := hR.n8
  have k0 : (0 : Int32).toInt = 0 := by decide
  have k1 : (1 : Int32).toInt = 1 := by decide
  have k4 : (4 : Int32).toInt = 4 := by decide
  show pm_V sc d 147 0 [.ref 59, .null, .null] [] w _
  refine v_iconst (v := 0) rfl (by decide) ?_
  refine v_istore_n rfl (Nat.le_of_ble_eq_true rfl) ?_
  refine v_iconst (v := 1) rfl (by decide) ?_
  refine v_istore_n rfl (Nat.le_of_ble_eq_true rfl) ?_
  refine v_iload_n rfl rfl ?_
  refine v_iconst (v := 4) rfl (by decide) ?_
  refine r_icmp_ge rfl (fun hx => absurd hx (by omega)) (fun _ => ?_)
  refine v_iload_n rfl rfl ?_
  refine v_aload_n rfl rfl ?_
  obtain ⟨v2, v3, v4, v5, v6, v7, v8, v9, ⟨v2z, v2e⟩, ⟨⟨v3a, v3b⟩, v3e⟩, ⟨⟨v4a, v4b⟩, v4e⟩, ⟨v6a, v6b⟩, ⟨v9a, v9b⟩, h1⟩ := hI.2.1 59 (by decide) (by decide)
  have v2z := v2z.imp i_eq.mp i_eq.mp
  rw [i_0, i_1] at v2z
  refine v_get rfl h1 rfl ?_
  refine v_iload_n rfl rfl ?_
  obtain ⟨h10A, h10B, h10C, h10D, h10F⟩ := hI.flt
  have h10A : w[62]? = some (.inl (0, .inl (ga 25))) := h10A
  have h10C : List.length (ga 25) = 4 := h10C
  have h10B : w[63]? = some (.inl (0, .inl (ga 26))) := h10B
  have h10D : List.length (ga 26) = 4 := h10D
  refine r_iaload rfl h10A h10C (by omega) (by omega) (fun z11 z11m z11g => ?_)
  have z11t : z11.toInt = ((ga 25).getD 1 0).toInt := congrArg Int32.toInt z11g
  refine r_if_lt rfl (fun t12 => ?_) (fun t12 => ?_)
  · refine v_iconst (v := 0) rfl (by decide) ?_
    refine r_iadd rfl (by omega) (by omega) (fun z13 z13e => ?_)
    refine v_istore_n rfl (Nat.le_of_ble_eq_true rfl) ?_
    refine r_iinc rfl rfl (by decide) (by omega) (by omega) (fun z14 z14e => ?_)
    refine v_goto rfl ?_
    refine v_iload_n rfl rfl ?_
    refine v_iconst (v := 4) rfl (by decide) ?_
    refine r_icmp_ge rfl (fun hx => absurd hx (by omega)) (fun _ => ?_)
    refine v_iload_n rfl rfl ?_
    refine v_aload_n rfl rfl ?_
    refine v_get rfl h1 rfl ?_
    refine v_iload_n rfl rfl ?_
    refine r_iaload rfl h10A h10C (by omega) (by omega) (fun z15 z15m z15g => ?_)
    have z15t : z15.toInt = ((ga 25).getD 2 0).toInt := by rw [z15g, show z14.toInt.toNat = 2 by omega]
    refine r_if_lt rfl (fun t16 => ?_) (fun t16 => ?_)
    · refine v_iconst (v := 0) rfl (by decide) ?_
      refine r_iadd rfl (by omega) (by omega) (fun z17 z17e => ?_)
      refine v_istore_n rfl (Nat.le_of_ble_eq_true rfl) ?_
      refine r_iinc rfl rfl (by decide) (by omega) (by omega) (fun z18 z18e => ?_)
      refine v_goto rfl ?_
      refine v_iload_n rfl rfl ?_
      refine v_iconst (v := 4) rfl (by decide) ?_
      refine r_icmp_ge rfl (fun hx => absurd hx (by omega)) (fun _ => ?_)
      refine v_iload_n rfl rfl ?_
      refine v_aload_n rfl rfl ?_
      refine v_get rfl h1 rfl ?_
      refine v_iload_n rfl rfl ?_
      refine r_iaload rfl h10A h10C (by omega) (by omega) (fun z19 z19m z19g => ?_)
      have z19t : z19.toInt = ((ga 25).getD 3 0).toInt := by rw [z19g, show z18.toInt.toNat = 3 by omega]
      refine r_if_lt rfl (fun t20 => ?_) (fun t20 => ?_)
      · refine v_iconst (v := 0) rfl (by decide) ?_
        refine r_iadd rfl (by omega) (by omega) (fun z21 z21e => ?_)
        refine v_istore_n rfl (Nat.le_of_ble_eq_true rfl) ?_
        refine r_iinc rfl rfl (by decide) (by omega) (by omega) (fun z22 z22e => ?_)
        refine v_goto rfl ?_
        refine v_iload_n rfl rfl ?_
        refine v_iconst (v := 4) rfl (by decide) ?_
        refine r_icmp_ge rfl (fun _ => ?_) (fun hx => absurd hx (by omega))
        refine v_iload_n rfl rfl ?_
        exact v_iret rfl ⟨⟨_, rfl, (by omega), (by
            unfold fm_n
            repeat' split
            all_goals omega)⟩, rfl⟩
      · refine v_iconst (v := 1) rfl (by decide) ?_
        refine v_goto rfl ?_
        refine r_iadd rfl (by omega) (by omega) (fun z23 z23e => ?_)
        refine v_istore_n rfl (Nat.le_of_ble_eq_true rfl) ?_
        refine r_iinc rfl rfl (by decide) (by omega) (by omega) (fun z24 z24e => ?_)
        refine v_goto rfl ?_
        refine v_iload_n rfl rfl ?_
        refine v_iconst (v := 4) rfl (by decide) ?_
        refine r_icmp_ge rfl (fun _ => ?_) (fun hx => absurd hx (by omega))
        refine v_iload_n rfl rfl ?_
        exact v_iret rfl ⟨⟨_, rfl, (by omega), (by
            unfold fm_n
            repeat' split
            all_goals omega)⟩, rfl⟩
    · refine v_iconst (v := 1) rfl (by decide) ?_
      refine v_goto rfl ?_
      refine r_iadd rfl (by omega) (by omega) (fun z25 z25e => ?_)
      refine v_istore_n rfl (Nat.le_of_ble_eq_true rfl) ?_
      refine r_iinc rfl rfl (by decide) (by omega) (by omega) (fun z26 z26e => ?_)
      refine v_goto rfl ?_
      refine v_iload_n rfl rfl ?_
      refine v_iconst (v := 4) rfl (by decide) ?_
      refine r_icmp_ge rfl (fun hx => absurd hx (by omega)) (fun _ => ?_)
      refine v_iload_n rfl rfl ?_
      refine v_aload_n rfl rfl ?_
      refine v_get rfl h1 rfl ?_
      refine v_iload_n rfl rfl ?_
      refine r_iaload rfl h10A h10C (by omega) (by omega) (fun z27 z27m z27g => ?_)
      have z27t : z27.toInt = ((ga 25).getD 3 0).toInt := by rw [z27g, show z26.toInt.toNat = 3 by omega]
      refine r_if_lt rfl (fun t28 => ?_) (fun t28 => ?_)
      · refine v_iconst (v := 0) rfl (by decide) ?_
        refine r_iadd rfl (by omega) (by omega) (fun z29 z29e => ?_)
        refine v_istore_n rfl (Nat.le_of_ble_eq_true rfl) ?_
        refine r_iinc rfl rfl (by decide) (by omega) (by omega) (fun z30 z30e => ?_)
        refine v_goto rfl ?_
        refine v_iload_n rfl rfl ?_
        refine v_iconst (v := 4) rfl (by decide) ?_
        refine r_icmp_ge rfl (fun _ => ?_) (fun hx => absurd hx (by omega))
        refine v_iload_n rfl rfl ?_
        exact v_iret rfl ⟨⟨_, rfl, (by omega), (by
            unfold fm_n
            repeat' split
            all_goals omega)⟩, rfl⟩
      · refine v_iconst (v := 1) rfl (by decide) ?_
        refine v_goto rfl ?_
        refine r_iadd rfl (by omega) (by omega) (fun z31 z31e => ?_)
        refine v_istore_n rfl (Nat.le_of_ble_eq_true rfl) ?_
        refine r_iinc rfl rfl (by decide) (by omega) (by omega) (fun z32 z32e => ?_)
        refine v_goto rfl ?_
        refine v_iload_n rfl rfl ?_
        refine v_iconst (v := 4) rfl (by decide) ?_
        refine r_icmp_ge rfl (fun _ => ?_) (fun hx => absurd hx (by omega))
        refine v_iload_n rfl rfl ?_
        exact v_iret rfl ⟨⟨_, rfl, (by omega), (by
            unfold fm_n
            repeat' split
            all_goals omega)⟩, rfl⟩
  · refine v_iconst (v := 1) rfl (by decide) ?_
    refine v_goto rfl ?_
    refine r_iadd rfl (by omega) (by omega) (fun z33 z33e => ?_)
    refine v_istore_n rfl (Nat.le_of_ble_eq_true rfl) ?_
    refine r_iinc rfl rfl (by decide) (by omega) (by omega) (fun z34 z34e => ?_)
    refine v_goto rfl ?_
    refine v_iload_n rfl rfl ?_
    refine v_iconst (v := 4) rfl (by decide) ?_
    refine r_icmp_ge rfl (fun hx => absurd hx (by omega)) (fun _ => ?_)
    refine v_iload_n rfl rfl ?_
    refine v_aload_n rfl rfl ?_
    refine v_get rfl h1 rfl ?_
    refine v_iload_n rfl rfl ?_
    refine r_iaload rfl h10A h10C (by omega) (by omega) (fun z35 z35m z35g => ?_)
    have z35t : z35.toInt = ((ga 25).getD 2 0).toInt := by rw [z35g, show z34.toInt.toNat = 2 by omega]
    refine r_if_lt rfl (fun t36 => ?_) (fun t36 => ?_)
    · refine v_iconst (v := 0) rfl (by decide) ?_
      refine r_iadd rfl (by omega) (by omega) (fun z37 z37e => ?_)
      refine v_istore_n rfl (Nat.le_of_ble_eq_true rfl) ?_
      refine r_iinc rfl rfl (by decide) (by omega) (by omega) (fun z38 z38e => ?_)
      refine v_goto rfl ?_
      refine v_iload_n rfl rfl ?_
      refine v_iconst (v := 4) rfl (by decide) ?_
      refine r_icmp_ge rfl (fun hx => absurd hx (by omega)) (fun _ => ?_)
      refine v_iload_n rfl rfl ?_
      refine v_aload_n rfl rfl ?_
      refine v_get rfl h1 rfl ?_
      refine v_iload_n rfl rfl ?_
      refine r_iaload rfl h10A h10C (by omega) (by omega) (fun z39 z39m z39g => ?_)
      have z39t : z39.toInt = ((ga 25).getD 3 0).toInt := by rw [z39g, show z38.toInt.toNat = 3 by omega]
      refine r_if_lt rfl (fun t40 => ?_) (fun t40 => ?_)
      · refine v_iconst (v := 0) rfl (by decide) ?_
        refine r_iadd rfl (by omega) (by omega) (fun z41 z41e => ?_)
        refine v_istore_n rfl (Nat.le_of_ble_eq_true rfl) ?_
        refine r_iinc rfl rfl (by decide) (by omega) (by omega) (fun z42 z42e => ?_)
        refine v_goto rfl ?_
        refine v_iload_n rfl rfl ?_
        refine v_iconst (v := 4) rfl (by decide) ?_
        refine r_icmp_ge rfl (fun _ => ?_) (fun hx => absurd hx (by omega))
        refine v_iload_n rfl rfl ?_
        exact v_iret rfl ⟨⟨_, rfl, (by omega), (by
            unfold fm_n
            repeat' split
            all_goals omega)⟩, rfl⟩
      · refine v_iconst (v := 1) rfl (by decide) ?_
        refine v_goto rfl ?_
        refine r_iadd rfl (by omega) (by omega) (fun z43 z43e => ?_)
        refine v_istore_n rfl (Nat.le_of_ble_eq_true rfl) ?_
        refine r_iinc rfl rfl (by decide) (by omega) (by omega) (fun z44 z44e => ?_)
        refine v_goto rfl ?_
        refine v_iload_n rfl rfl ?_
        refine v_iconst (v := 4) rfl (by decide) ?_
        refine r_icmp_ge rfl (fun _ => ?_) (fun hx => absurd hx (by omega))
        refine v_iload_n rfl rfl ?_
        exact v_iret rfl ⟨⟨_, rfl, (by omega), (by
            unfold fm_n
            repeat' split
            all_goals omega)⟩, rfl⟩
    · refine v_iconst (v := 1) rfl (by decide) ?_
      refine v_goto rfl ?_
      refine r_iadd rfl (by omega) (by omega) (fun z45 z45e => ?_)
      refine v_istore_n rfl (Nat.le_of_ble_eq_true rfl) ?_
      refine r_iinc rfl rfl (by decide) (by omega) (by omega) (fun z46 z46e => ?_)
      refine v_goto rfl ?_
      refine v_iload_n rfl rfl ?_
      refine v_iconst (v := 4) rfl (by decide) ?_
      refine r_icmp_ge rfl (fun hx => absurd hx (by omega)) (fun _ => ?_)
      refine v_iload_n rfl rfl ?_
      refine v_aload_n rfl rfl ?_
      refine v_get rfl h1 rfl ?_
      refine v_iload_n rfl rfl ?_
      refine r_iaload rfl h10A h10C (by omega) (by omega) (fun z47 z47m z47g => ?_)
      have z47t : z47.toInt = ((ga 25).getD 3 0).toInt := by rw [z47g, show z46.toInt.toNat = 3 by omega]
      refine r_if_lt rfl (fun t48 => ?_) (fun t48 => ?_)
      · refine v_iconst (v := 0) rfl (by decide) ?_
        refine r_iadd rfl (by omega) (by omega) (fun z49 z49e => ?_)
        refine v_istore_n rfl (Nat.le_of_ble_eq_true rfl) ?_
        refine r_iinc rfl rfl (by decide) (by omega) (by omega) (fun z50 z50e => ?_)
        refine v_goto rfl ?_
        refine v_iload_n rfl rfl ?_
        refine v_iconst (v := 4) rfl (by decide) ?_
        refine r_icmp_ge rfl (fun _ => ?_) (fun hx => absurd hx (by omega))
        refine v_iload_n rfl rfl ?_
        exact v_iret rfl ⟨⟨_, rfl, (by omega), (by
            unfold fm_n
            repeat' split
            all_goals omega)⟩, rfl⟩
      · refine v_iconst (v := 1) rfl (by decide) ?_
        refine v_goto rfl ?_
        refine r_iadd rfl (by omega) (by omega) (fun z51 z51e => ?_)
        refine v_istore_n rfl (Nat.le_of_ble_eq_true rfl) ?_
        refine r_iinc rfl rfl (by decide) (by omega) (by omega) (fun z52 z52e => ?_)
        refine v_goto rfl ?_
        refine v_iload_n rfl rfl ?_
        refine v_iconst (v := 4) rfl (by decide) ?_
        refine r_icmp_ge rfl (fun _ => ?_) (fun hx => absurd hx (by omega))
        refine v_iload_n rfl rfl ?_
        exact v_iret rfl ⟨⟨_, rfl, (by omega), (by
            unfold fm_n
            repeat' split
            all_goals omega)⟩, rfl⟩
set_option maxRecDepth 100000 in
theorem W_X12_clear_59_x {sc : pm_S} {w w0 : pm_W} {gi : Nat → Int32} {ga : Nat → List Int32}   (hR : pm_Rg gi ga) (hI : pm_IM gi ga w) (hh : pm_lo w0 w) : pm_Mt sc 1 148 3 [.ref 59] w (fun rv w' => ∃ v A, rv = some (.int v) ∧ v.toInt = fm_n (ga 25) ∧ pm_IM gi (pm_uA ga 25 A) w' ∧ pm_lo w0 w' ∧ (A.getD 1 0).toInt = -1 ∧ (A.getD 2 0).toInt = -1 ∧ (A.getD 3 0).toInt = -1) := by
  intro d hd
  obtain ⟨g0a, g0b⟩ := hR.n0
  obtain ⟨g1a, g1b⟩ := hR.n1
  obtain ⟨g2a, g2b⟩ := hR.n2
  obtain ⟨g3a, g3b⟩ := hR.n3
  obtain ⟨g4a, g4b⟩ := hR.n4
  obtain ⟨g5a, g5b⟩ := hR.n5
  obtain ⟨g6a, g6b⟩ := hR.n6
  obtain ⟨g7a, g7b⟩ := hR.n7
  obtain ⟨g8a, g8b⟩ := hR.n8
  have km1 : (-1 : Int32).toInt = -1 := by decide
  have k1 : (1 : Int32).toInt = 1 := by decide
  have k4 : (4 : Int32).toInt = 4 := by decide
  show pm_V sc d 148 0 [.ref 59, .null, .null] [] w _
  refine v_aload_n rfl rfl ?_
  obtain ⟨v2, v3, v4, v5, v6, v7, v8, v9, ⟨v2z, v2e⟩, ⟨⟨v3a, v3b⟩, v3e⟩, ⟨⟨v4a, v4b⟩, v4e⟩, ⟨v6a, v6b⟩, ⟨v9a, v9b⟩, h1⟩ := hI.2.1 59 (by decide) (by decide)
  have v2z := v2z.imp i_eq.mp i_eq.mp
  rw [i_0, i_1] at v2z
  refine v_callV rfl (W_X12_faultMany_59_x  hR hI) rfl rfl h1 rfl rfl (by omega) (fun rv w10 hq11 => ?_)
  obtain ⟨⟨z12, rfl, z12p0, z12p1⟩, rfl⟩ := hq11
  skip
  refine v_istore_n rfl (Nat.le_of_ble_eq_true rfl) ?_
  refine v_iconst (v := 1) rfl (by decide) ?_
  refine v_istore_n rfl (Nat.le_of_ble_eq_true rfl) ?_
  refine v_iload_n rfl rfl ?_
  refine v_iconst (v := 4) rfl (by decide) ?_
  refine r_icmp_ge rfl (fun hx => absurd hx (by omega)) (fun _ => ?_)
  refine v_aload_n rfl rfl ?_
  refine v_get rfl h1 rfl ?_
  refine v_iload_n rfl rfl ?_
  refine v_iconst (v := (-1)) rfl (by decide) ?_
  obtain ⟨h13A, h13B, h13C, h13D, h13F⟩ := hI.flt
  have h13A : w[62]? = some (.inl (0, .inl (ga 25))) := h13A
  have h13C : List.length (ga 25) = 4 := h13C
  have h13B : w[63]? = some (.inl (0, .inl (ga 26))) := h13B
  have h13D : List.length (ga 26) = 4 := h13D
  refine r_iastx rfl h13A h13C (by omega) (by omega) (fun ys14 ys14l ys14m ys14g ys14n => ?_)
  rw [show (1 : Int32).toInt.toNat = 1 by omega] at ys14g ys14n
  refine r_gen (fun w15 e16 => ?_)
  have hI17 : pm_IM gi (pm_uA ga 25 ys14) w15 := by
    rw [e16]
    have q := hI.u62 (A := ys14) ys14l (fun hx => h13F (by rw [ys14n 3 (by decide)] at hx; exact hx))
    exact q
  have hh18 : pm_lo w0 w15 := by rw [e16]; exact hh.set (by decide) _
  refine r_iinc rfl rfl (by decide) (by omega) (by omega) (fun z19 z19e => ?_)
  refine v_goto rfl ?_
  refine v_iload_n rfl rfl ?_
  refine v_iconst (v := 4) rfl (by decide) ?_
  refine r_icmp_ge rfl (fun hx => absurd hx (by omega)) (fun _ => ?_)
  refine v_aload_n rfl rfl ?_
  obtain ⟨v21, v22, v23, v24, v25, v26, v27, v28, ⟨v21z, v21e⟩, ⟨⟨v22a, v22b⟩, v22e⟩, ⟨⟨v23a, v23b⟩, v23e⟩, ⟨v25a, v25b⟩, ⟨v28a, v28b⟩, h20⟩ := hI17.2.1 59 (by decide) (by decide)
  have v21z := v21z.imp i_eq.mp i_eq.mp
  rw [i_0, i_1] at v21z
  refine v_get rfl h20 rfl ?_
  refine v_iload_n rfl rfl ?_
  refine v_iconst (v := (-1)) rfl (by decide) ?_
  obtain ⟨h29A, h29B, h29C, h29D, h29F⟩ := hI17.flt
  have h29A : w15[62]? = some (.inl (0, .inl ys14)) := h29A
  have h29C : List.length ys14 = 4 := h29C
  have h29B : w15[63]? = some (.inl (0, .inl (ga 26))) := h29B
  have h29D : List.length (ga 26) = 4 := h29D
  refine r_iastx rfl h29A h29C (by omega) (by omega) (fun ys30 ys30l ys30m ys30g ys30n => ?_)
  rw [show z19.toInt.toNat = 2 by omega] at ys30g ys30n
  refine r_gen (fun w31 e32 => ?_)
  have hI33 : pm_IM gi (pm_uA ga 25 ys30) w31 := by
    rw [e32]
    have q := hI17.u62 (A := ys30) ys30l (fun hx => h29F (by rw [ys30n 3 (by decide)] at hx; exact hx))
    rw [pm_uA_uA] at q
    exact q
  have hh34 : pm_lo w0 w31 := by rw [e32]; exact hh18.set (by decide) _
  refine r_iinc rfl rfl (by decide) (by omega) (by omega) (fun z35 z35e => ?_)
  refine v_goto rfl ?_
  refine v_iload_n rfl rfl ?_
  refine v_iconst (v := 4) rfl (by decide) ?_
  refine r_icmp_ge rfl (fun hx => absurd hx (by omega)) (fun _ => ?_)
  refine v_aload_n rfl rfl ?_
  obtain ⟨v37, v38, v39, v40, v41, v42, v43, v44, ⟨v37z, v37e⟩, ⟨⟨v38a, v38b⟩, v38e⟩, ⟨⟨v39a, v39b⟩, v39e⟩, ⟨v41a, v41b⟩, ⟨v44a, v44b⟩, h36⟩ := hI33.2.1 59 (by decide) (by decide)
  have v37z := v37z.imp i_eq.mp i_eq.mp
  rw [i_0, i_1] at v37z
  refine v_get rfl h36 rfl ?_
  refine v_iload_n rfl rfl ?_
  refine v_iconst (v := (-1)) rfl (by decide) ?_
  obtain ⟨h45A, h45B, h45C, h45D, h45F⟩ := hI33.flt
  have h45A : w31[62]? = some (.inl (0, .inl ys30)) := h45A
  have h45C : List.length ys30 = 4 := h45C
  have h45B : w31[63]? = some (.inl (0, .inl (ga 26))) := h45B
  have h45D : List.length (ga 26) = 4 := h45D
  refine r_iastx rfl h45A h45C (by omega) (by omega) (fun ys46 ys46l ys46m ys46g ys46n => ?_)
  rw [show z35.toInt.toNat = 3 by omega] at ys46g ys46n
  refine r_gen (fun w47 e48 => ?_)
  have hI49 : pm_IM gi (pm_uA ga 25 ys46) w47 := by
    rw [e48]
    have q := hI33.u62 (A := ys46) ys46l (fun hx => by rw [ys46g] at hx; exact absurd hx (by omega))
    rw [pm_uA_uA] at q
    exact q
  have hh50 : pm_lo w0 w47 := by rw [e48]; exact hh34.set (by decide) _
  refine r_iinc rfl rfl (by decide) (by omega) (by omega) (fun z51 z51e => ?_)
  refine v_goto rfl ?_
  refine v_iload_n rfl rfl ?_
  refine v_iconst (v := 4) rfl (by decide) ?_
  refine r_icmp_ge rfl (fun _ => ?_) (fun hx => absurd hx (by omega))
  refine v_iload_n rfl rfl ?_
  exact v_iret rfl ⟨z12, ys46, rfl, z12p1, hI49, hh50, by rw [ys46n 1 (by decide), ys30n 1 (by decide), ys14g]; rfl, by rw [ys46n 2 (by decide), ys30g]; rfl, by rw [ys46g]; rfl⟩
set_option maxRecDepth 100000 in
theorem W_X12_fault_59_x {sc : pm_S} {w w0 : pm_W} {gi : Nat → Int32} {ga : Nat → List Int32} (k : Int32) (a : Int32) (b : Int32)  (hR : pm_Rg gi ga) (hI : pm_IM gi ga w) (hh : pm_lo w0 w) : pm_Mt sc 3 146 5 [.ref 59, .int k, .int a, .int b] w (fun rv w' => ∃ v ga', rv = some (.int v) ∧ sq_Pfault gi ga k a b v ∧ fl_M ga ga' k a b v ∧ pm_IM gi ga' w' ∧ pm_lo w0 w') := by
  intro d hd
  obtain ⟨g0a, g0b⟩ := hR.n0
  obtain ⟨g1a, g1b⟩ := hR.n1
  obtain ⟨g2a, g2b⟩ := hR.n2
  obtain ⟨g3a, g3b⟩ := hR.n3
  obtain ⟨g4a, g4b⟩ := hR.n4
  obtain ⟨g5a, g5b⟩ := hR.n5
  obtain ⟨g6a, g6b⟩ := hR.n6
  obtain ⟨g7a, g7b⟩ := hR.n7
  obtain ⟨g8a, g8b⟩ := hR.n8
  have km2 : (-2 : Int32).toInt = -2 := by decide
  have km1 : (-1 : Int32).toInt = -1 := by decide
  have k0 : (0 : Int32).toInt = 0 := by decide
  have k1 : (1 : Int32).toInt = 1 := by decide
  have k2 : (2 : Int32).toInt = 2 := by decide
  have k3 : (3 : Int32).toInt = 3 := by decide
  show pm_V sc d 146 0 [.ref 59, .int k, .int a, .int b, .null] [] w _
  refine v_iload_n rfl rfl ?_
  refine v_iconst (v := 1) rfl (by decide) ?_
  refine v_iconst (v := 3) rfl (by decide) ?_
  refine v_callS rfl (W_X12_in k (1 : Int32) (3 : Int32) hR hI) rfl rfl rfl rfl rfl (by omega) (fun rv w1 hq2 => ?_)
  obtain ⟨⟨z3, rfl, z3p0⟩, rfl⟩ := hq2
  refine r_if_ne rfl (fun t4 => ?_) (fun t4 => ?_)
  · refine v_aload_n rfl rfl ?_
    obtain ⟨v6, v7, v8, v9, v10, v11, v12, v13, ⟨v6z, v6e⟩, ⟨⟨v7a, v7b⟩, v7e⟩, ⟨⟨v8a, v8b⟩, v8e⟩, ⟨v10a, v10b⟩, ⟨v13a, v13b⟩, h5⟩ := hI.2.1 59 (by decide) (by decide)
    have v6z := v6z.imp i_eq.mp i_eq.mp
    rw [i_0, i_1] at v6z
    refine v_callV rfl (W_X12_findCords_59_x  hR hI hh) rfl rfl h5 rfl rfl (by omega) (fun rv w14 hq15 => ?_)
    obtain ⟨rfl, hI17, hh18, ⟨v19, v20, v21, v22, v23, v24, v25, v26, fs27, os28, h29, h30, h31, fs27l, os28l, fs27r, os28r, v23a, v23b, t32, t33, v19e, t34, t35, v20e, t36, t37, v21e, t38, t39, v23k⟩⟩ := hq15
    refine v_iload_n rfl rfl ?_
    refine v_iconst (v := 0) rfl (by decide) ?_
    refine v_iload_n rfl rfl ?_
    refine v_iconst (v := 2) rfl (by decide) ?_
    refine r_icmp_ne rfl (fun t40 => ?_) (fun t40 => ?_)
    · refine v_aload_n rfl rfl ?_
      refine v_get rfl h29 rfl ?_
      refine v_iconst (v := 1) rfl (by decide) ?_
      refine r_isub rfl (by omega) (by omega) (fun z41 z41e => ?_)
      refine v_callS rfl (W_X12_in a (0 : Int32) z41 hR hI17) rfl rfl rfl rfl rfl (by omega) (fun rv w42 hq43 => ?_)
      obtain ⟨⟨z44, rfl, z44p0⟩, rfl⟩ := hq43
      refine r_if_eq rfl (fun t45 => ?_) (fun t45 => ?_)
      · refine v_iconst (v := 0) rfl (by decide) ?_
        refine v_istore rfl (Nat.le_of_ble_eq_true rfl) ?_
        refine v_iload rfl rfl ?_
        refine r_if_ne rfl (fun hx => absurd hx (by omega)) (fun _ => ?_)
        refine v_aload_n rfl rfl ?_
        refine v_iconst (v := (-1)) rfl (by decide) ?_
        refine v_callV rfl (c_M_refuse (-1 : Int32) (by unfold pm_isR; first | decide | exact Or.inl rfl) hR hI17) rfl rfl h29 rfl rfl (by omega) (fun rv w46 hq47 => ?_)
        obtain ⟨rfl, hI48, hh49x⟩ := hq47
        have hI48 : pm_IM gi ga w46 := hI48
        have hh49 := hh18.tr hh49x
        exact v_iret rfl ⟨_, ga, rfl, (by
    refine Or.inr ⟨by omega, ?_⟩
    first
    | exact Or.inl ⟨by omega, by omega⟩
    | exact Or.inr ⟨by omega, fs27, os28, _, v23k, by unfold sq_good; omega⟩), Or.inl ⟨by decide, rfl⟩, hI48, hh49⟩
      · refine v_iload_n rfl rfl ?_
        refine v_iconst (v := 3) rfl (by decide) ?_
        refine r_icmp_ne rfl (fun t50 => ?_) (fun t50 => ?_)
        · refine v_iconst (v := 1) rfl (by decide) ?_
          refine v_goto rfl ?_
          refine v_istore rfl (Nat.le_of_ble_eq_true rfl) ?_
          refine v_iload rfl rfl ?_
          refine r_if_ne rfl (fun _ => ?_) (fun hx => absurd hx (by omega))
          refine v_aload_n rfl rfl ?_
          refine v_get rfl h29 rfl ?_
          refine v_iload_n rfl rfl ?_
          refine v_iload_n rfl rfl ?_
          obtain ⟨h51A, h51B, h51C, h51D, h51F⟩ := hI17.flt
          have h51A : w14[62]? = some (.inl (0, .inl (ga 25))) := h51A
          have h51C : List.length (ga 25) = 4 := h51C
          have h51B : w14[63]? = some (.inl (0, .inl (ga 26))) := h51B
          have h51D : List.length (ga 26) = 4 := h51D
          refine r_iastx rfl h51A h51C (by omega) (by omega) (fun A Al Am Ag An => ?_)
          refine r_gen (fun w52 e53 => ?_)
          have h54 := r_get_ne e53 (show 62 ≠ 59 by decide) h29
          have h55 := r_get_ne e53 (show 62 ≠ 63 by decide) h51B
          refine v_aload_n rfl rfl ?_
          refine v_get rfl h54 rfl ?_
          refine v_iload_n rfl rfl ?_
          refine v_iload_n rfl rfl ?_
          refine v_iconst (v := 3) rfl (by decide) ?_
          refine r_icmp_ne rfl (fun t56 => ?_) (fun t56 => ?_)
          · refine v_iconst (v := (-1)) rfl (by decide) ?_
            refine r_iastx rfl h55 h51D (by omega) (by omega) (fun B Bl Bm Bg Bn => ?_)
            refine r_gen (fun w57 e58 => ?_)
            have hI59 : pm_IM gi (pm_uA (pm_uA ga 25 A) 26 B) w57 := by
              rw [e58, e53]
              refine hI17.u623 Al Bl (fun hx => ?_)
              by_cases q : k.toInt.toNat = 3
              · rw [q] at Bg; rw [Bg]; omega
              · rw [An 3 (by omega)] at hx; rw [Bn 3 (by omega)]; exact h51F hx
            have hh60 : pm_lo w0 w57 := by rw [e58, e53]; exact (hh18.set (by decide) _).set (by decide) _
            refine v_iconst (v := 1) rfl (by decide) ?_
            exact v_iret rfl ⟨_, _, rfl, (by
    refine Or.inr ⟨by omega, ?_⟩
    first
    | exact Or.inl ⟨by omega, by omega⟩
    | exact Or.inr ⟨by omega, fs27, os28, _, v23k, by unfold sq_good; omega⟩), Or.inr ⟨rfl, ⟨by omega, by omega⟩, by omega, by omega, A, B, rfl, ⟨by rw [Al, h51C], Ag, An⟩, Bl, fun q => by rw [show k.toInt.toNat = 3 by omega] at Bg; first | exact Bg | (exfalso; omega), fun q => Bn 3 (by omega)⟩, hI59, hh60⟩
          · refine v_iload_n rfl rfl ?_
            refine v_goto rfl ?_
            refine r_iastx rfl h55 h51D (by omega) (by omega) (fun B Bl Bm Bg Bn => ?_)
            refine r_gen (fun w61 e62 => ?_)
            have hI63 : pm_IM gi (pm_uA (pm_uA ga 25 A) 26 B) w61 := by
              rw [e62, e53]
              refine hI17.u623 Al Bl (fun hx => ?_)
              by_cases q : k.toInt.toNat = 3
              · rw [q] at Bg; rw [Bg]; omega
              · rw [An 3 (by omega)] at hx; rw [Bn 3 (by omega)]; exact h51F hx
            have hh64 : pm_lo w0 w61 := by rw [e62, e53]; exact (hh18.set (by decide) _).set (by decide) _
            refine v_iconst (v := 1) rfl (by decide) ?_
            exact v_iret rfl ⟨_, _, rfl, (by
    refine Or.inr ⟨by omega, ?_⟩
    first
    | exact Or.inl ⟨by omega, by omega⟩
    | exact Or.inr ⟨by omega, fs27, os28, _, v23k, by unfold sq_good; omega⟩), Or.inr ⟨rfl, ⟨by omega, by omega⟩, by omega, by omega, A, B, rfl, ⟨by rw [Al, h51C], Ag, An⟩, Bl, fun q => by rw [show k.toInt.toNat = 3 by omega] at Bg; first | exact Bg | (exfalso; omega), fun q => Bn 3 (by omega)⟩, hI63, hh64⟩
        · refine v_iload_n rfl rfl ?_
          refine v_iconst (v := 0) rfl (by decide) ?_
          refine v_aload_n rfl rfl ?_
          refine v_get rfl h29 rfl ?_
          refine v_iconst (v := 1) rfl (by decide) ?_
          refine r_isub rfl (by omega) (by omega) (fun z65 z65e => ?_)
          refine v_callS rfl (W_X12_in b (0 : Int32) z65 hR hI17) rfl rfl rfl rfl rfl (by omega) (fun rv w66 hq67 => ?_)
          obtain ⟨⟨z68, rfl, z68p0⟩, rfl⟩ := hq67
          refine r_if_eq rfl (fun t69 => ?_) (fun t69 => ?_)
          · refine v_iconst (v := 0) rfl (by decide) ?_
            refine v_istore rfl (Nat.le_of_ble_eq_true rfl) ?_
            refine v_iload rfl rfl ?_
            refine r_if_ne rfl (fun hx => absurd hx (by omega)) (fun _ => ?_)
            refine v_aload_n rfl rfl ?_
            refine v_iconst (v := (-1)) rfl (by decide) ?_
            refine v_callV rfl (c_M_refuse (-1 : Int32) (by unfold pm_isR; first | decide | exact Or.inl rfl) hR hI17) rfl rfl h29 rfl rfl (by omega) (fun rv w70 hq71 => ?_)
            obtain ⟨rfl, hI72, hh73x⟩ := hq71
            have hI72 : pm_IM gi ga w70 := hI72
            have hh73 := hh18.tr hh73x
            exact v_iret rfl ⟨_, ga, rfl, (by
    refine Or.inr ⟨by omega, ?_⟩
    first
    | exact Or.inl ⟨by omega, by omega⟩
    | exact Or.inr ⟨by omega, fs27, os28, _, v23k, by unfold sq_good; omega⟩), Or.inl ⟨by decide, rfl⟩, hI72, hh73⟩
          · refine v_iload_n rfl rfl ?_
            refine v_iload_n rfl rfl ?_
            refine r_icmp_eq rfl (fun t74 => ?_) (fun t74 => ?_)
            · refine v_iconst (v := 0) rfl (by decide) ?_
              refine v_istore rfl (Nat.le_of_ble_eq_true rfl) ?_
              refine v_iload rfl rfl ?_
              refine r_if_ne rfl (fun hx => absurd hx (by omega)) (fun _ => ?_)
              refine v_aload_n rfl rfl ?_
              refine v_iconst (v := (-1)) rfl (by decide) ?_
              refine v_callV rfl (c_M_refuse (-1 : Int32) (by unfold pm_isR; first | decide | exact Or.inl rfl) hR hI17) rfl rfl h29 rfl rfl (by omega) (fun rv w75 hq76 => ?_)
              obtain ⟨rfl, hI77, hh78x⟩ := hq76
              have hI77 : pm_IM gi ga w75 := hI77
              have hh78 := hh18.tr hh78x
              exact v_iret rfl ⟨_, ga, rfl, (by
    refine Or.inr ⟨by omega, ?_⟩
    first
    | exact Or.inl ⟨by omega, by omega⟩
    | exact Or.inr ⟨by omega, fs27, os28, _, v23k, by unfold sq_good; omega⟩), Or.inl ⟨by decide, rfl⟩, hI77, hh78⟩
            · refine v_iconst (v := 1) rfl (by decide) ?_
              refine v_goto rfl ?_
              refine v_istore rfl (Nat.le_of_ble_eq_true rfl) ?_
              refine v_iload rfl rfl ?_
              refine r_if_ne rfl (fun _ => ?_) (fun hx => absurd hx (by omega))
              refine v_aload_n rfl rfl ?_
              refine v_get rfl h29 rfl ?_
              refine v_iload_n rfl rfl ?_
              refine v_iload_n rfl rfl ?_
              obtain ⟨h79A, h79B, h79C, h79D, h79F⟩ := hI17.flt
              have h79A : w14[62]? = some (.inl (0, .inl (ga 25))) := h79A
              have h79C : List.length (ga 25) = 4 := h79C
              have h79B : w14[63]? = some (.inl (0, .inl (ga 26))) := h79B
              have h79D : List.length (ga 26) = 4 := h79D
              refine r_iastx rfl h79A h79C (by omega) (by omega) (fun A Al Am Ag An => ?_)
              refine r_gen (fun w80 e81 => ?_)
              have h82 := r_get_ne e81 (show 62 ≠ 59 by decide) h29
              have h83 := r_get_ne e81 (show 62 ≠ 63 by decide) h79B
              refine v_aload_n rfl rfl ?_
              refine v_get rfl h82 rfl ?_
              refine v_iload_n rfl rfl ?_
              refine v_iload_n rfl rfl ?_
              refine v_iconst (v := 3) rfl (by decide) ?_
              refine r_icmp_ne rfl (fun t84 => ?_) (fun t84 => ?_)
              · refine v_iconst (v := (-1)) rfl (by decide) ?_
                refine r_iastx rfl h83 h79D (by omega) (by omega) (fun B Bl Bm Bg Bn => ?_)
                refine r_gen (fun w85 e86 => ?_)
                have hI87 : pm_IM gi (pm_uA (pm_uA ga 25 A) 26 B) w85 := by
                  rw [e86, e81]
                  refine hI17.u623 Al Bl (fun hx => ?_)
                  by_cases q : k.toInt.toNat = 3
                  · rw [q] at Bg; rw [Bg]; omega
                  · rw [An 3 (by omega)] at hx; rw [Bn 3 (by omega)]; exact h79F hx
                have hh88 : pm_lo w0 w85 := by rw [e86, e81]; exact (hh18.set (by decide) _).set (by decide) _
                refine v_iconst (v := 1) rfl (by decide) ?_
                exact v_iret rfl ⟨_, _, rfl, (by
    refine Or.inr ⟨by omega, ?_⟩
    first
    | exact Or.inl ⟨by omega, by omega⟩
    | exact Or.inr ⟨by omega, fs27, os28, _, v23k, by unfold sq_good; omega⟩), Or.inr ⟨rfl, ⟨by omega, by omega⟩, by omega, by omega, A, B, rfl, ⟨by rw [Al, h79C], Ag, An⟩, Bl, fun q => by rw [show k.toInt.toNat = 3 by omega] at Bg; first | exact Bg | (exfalso; omega), fun q => Bn 3 (by omega)⟩, hI87, hh88⟩
              · refine v_iload_n rfl rfl ?_
                refine v_goto rfl ?_
                refine r_iastx rfl h83 h79D (by omega) (by omega) (fun B Bl Bm Bg Bn => ?_)
                refine r_gen (fun w89 e90 => ?_)
                have hI91 : pm_IM gi (pm_uA (pm_uA ga 25 A) 26 B) w89 := by
                  rw [e90, e81]
                  refine hI17.u623 Al Bl (fun hx => ?_)
                  by_cases q : k.toInt.toNat = 3
                  · rw [q] at Bg; rw [Bg]; omega
                  · rw [An 3 (by omega)] at hx; rw [Bn 3 (by omega)]; exact h79F hx
                have hh92 : pm_lo w0 w89 := by rw [e90, e81]; exact (hh18.set (by decide) _).set (by decide) _
                refine v_iconst (v := 1) rfl (by decide) ?_
                exact v_iret rfl ⟨_, _, rfl, (by
    refine Or.inr ⟨by omega, ?_⟩
    first
    | exact Or.inl ⟨by omega, by omega⟩
    | exact Or.inr ⟨by omega, fs27, os28, _, v23k, by unfold sq_good; omega⟩), Or.inr ⟨rfl, ⟨by omega, by omega⟩, by omega, by omega, A, B, rfl, ⟨by rw [Al, h79C], Ag, An⟩, Bl, fun q => by rw [show k.toInt.toNat = 3 by omega] at Bg; first | exact Bg | (exfalso; omega), fun q => Bn 3 (by omega)⟩, hI91, hh92⟩
    · refine v_aload_n rfl rfl ?_
      refine v_get rfl h29 rfl ?_
      refine v_goto rfl ?_
      refine v_iconst (v := 1) rfl (by decide) ?_
      refine r_isub rfl (by omega) (by omega) (fun z93 z93e => ?_)
      refine v_callS rfl (W_X12_in a (0 : Int32) z93 hR hI17) rfl rfl rfl rfl rfl (by omega) (fun rv w94 hq95 => ?_)
      obtain ⟨⟨z96, rfl, z96p0⟩, rfl⟩ := hq95
      refine r_if_eq rfl (fun t97 => ?_) (fun t97 => ?_)
      · refine v_iconst (v := 0) rfl (by decide) ?_
        refine v_istore rfl (Nat.le_of_ble_eq_true rfl) ?_
        refine v_iload rfl rfl ?_
        refine r_if_ne rfl (fun hx => absurd hx (by omega)) (fun _ => ?_)
        refine v_aload_n rfl rfl ?_
        refine v_iconst (v := (-1)) rfl (by decide) ?_
        refine v_callV rfl (c_M_refuse (-1 : Int32) (by unfold pm_isR; first | decide | exact Or.inl rfl) hR hI17) rfl rfl h29 rfl rfl (by omega) (fun rv w98 hq99 => ?_)
        obtain ⟨rfl, hI100, hh101x⟩ := hq99
        have hI100 : pm_IM gi ga w98 := hI100
        have hh101 := hh18.tr hh101x
        exact v_iret rfl ⟨_, ga, rfl, (by
    refine Or.inr ⟨by omega, ?_⟩
    first
    | exact Or.inl ⟨by omega, by omega⟩
    | exact Or.inr ⟨by omega, fs27, os28, _, v23k, by unfold sq_good; omega⟩), Or.inl ⟨by decide, rfl⟩, hI100, hh101⟩
      · refine v_iload_n rfl rfl ?_
        refine v_iconst (v := 3) rfl (by decide) ?_
        refine r_icmp_ne rfl (fun t102 => ?_) (fun t102 => ?_)
        · refine v_iconst (v := 1) rfl (by decide) ?_
          refine v_goto rfl ?_
          refine v_istore rfl (Nat.le_of_ble_eq_true rfl) ?_
          refine v_iload rfl rfl ?_
          refine r_if_ne rfl (fun _ => ?_) (fun hx => absurd hx (by omega))
          refine v_aload_n rfl rfl ?_
          refine v_get rfl h29 rfl ?_
          refine v_iload_n rfl rfl ?_
          refine v_iload_n rfl rfl ?_
          obtain ⟨h103A, h103B, h103C, h103D, h103F⟩ := hI17.flt
          have h103A : w14[62]? = some (.inl (0, .inl (ga 25))) := h103A
          have h103C : List.length (ga 25) = 4 := h103C
          have h103B : w14[63]? = some (.inl (0, .inl (ga 26))) := h103B
          have h103D : List.length (ga 26) = 4 := h103D
          refine r_iastx rfl h103A h103C (by omega) (by omega) (fun A Al Am Ag An => ?_)
          refine r_gen (fun w104 e105 => ?_)
          have h106 := r_get_ne e105 (show 62 ≠ 59 by decide) h29
          have h107 := r_get_ne e105 (show 62 ≠ 63 by decide) h103B
          refine v_aload_n rfl rfl ?_
          refine v_get rfl h106 rfl ?_
          refine v_iload_n rfl rfl ?_
          refine v_iload_n rfl rfl ?_
          refine v_iconst (v := 3) rfl (by decide) ?_
          refine r_icmp_ne rfl (fun t108 => ?_) (fun t108 => ?_)
          · refine v_iconst (v := (-1)) rfl (by decide) ?_
            refine r_iastx rfl h107 h103D (by omega) (by omega) (fun B Bl Bm Bg Bn => ?_)
            refine r_gen (fun w109 e110 => ?_)
            have hI111 : pm_IM gi (pm_uA (pm_uA ga 25 A) 26 B) w109 := by
              rw [e110, e105]
              refine hI17.u623 Al Bl (fun hx => ?_)
              by_cases q : k.toInt.toNat = 3
              · rw [q] at Bg; rw [Bg]; omega
              · rw [An 3 (by omega)] at hx; rw [Bn 3 (by omega)]; exact h103F hx
            have hh112 : pm_lo w0 w109 := by rw [e110, e105]; exact (hh18.set (by decide) _).set (by decide) _
            refine v_iconst (v := 1) rfl (by decide) ?_
            exact v_iret rfl ⟨_, _, rfl, (by
    refine Or.inr ⟨by omega, ?_⟩
    first
    | exact Or.inl ⟨by omega, by omega⟩
    | exact Or.inr ⟨by omega, fs27, os28, _, v23k, by unfold sq_good; omega⟩), Or.inr ⟨rfl, ⟨by omega, by omega⟩, by omega, by omega, A, B, rfl, ⟨by rw [Al, h103C], Ag, An⟩, Bl, fun q => by rw [show k.toInt.toNat = 3 by omega] at Bg; first | exact Bg | (exfalso; omega), fun q => Bn 3 (by omega)⟩, hI111, hh112⟩
          · refine v_iload_n rfl rfl ?_
            refine v_goto rfl ?_
            refine r_iastx rfl h107 h103D (by omega) (by omega) (fun B Bl Bm Bg Bn => ?_)
            refine r_gen (fun w113 e114 => ?_)
            have hI115 : pm_IM gi (pm_uA (pm_uA ga 25 A) 26 B) w113 := by
              rw [e114, e105]
              refine hI17.u623 Al Bl (fun hx => ?_)
              by_cases q : k.toInt.toNat = 3
              · rw [q] at Bg; rw [Bg]; omega
              · rw [An 3 (by omega)] at hx; rw [Bn 3 (by omega)]; exact h103F hx
            have hh116 : pm_lo w0 w113 := by rw [e114, e105]; exact (hh18.set (by decide) _).set (by decide) _
            refine v_iconst (v := 1) rfl (by decide) ?_
            exact v_iret rfl ⟨_, _, rfl, (by
    refine Or.inr ⟨by omega, ?_⟩
    first
    | exact Or.inl ⟨by omega, by omega⟩
    | exact Or.inr ⟨by omega, fs27, os28, _, v23k, by unfold sq_good; omega⟩), Or.inr ⟨rfl, ⟨by omega, by omega⟩, by omega, by omega, A, B, rfl, ⟨by rw [Al, h103C], Ag, An⟩, Bl, fun q => by rw [show k.toInt.toNat = 3 by omega] at Bg; first | exact Bg | (exfalso; omega), fun q => Bn 3 (by omega)⟩, hI115, hh116⟩
        · refine v_iload_n rfl rfl ?_
          refine v_iconst (v := 0) rfl (by decide) ?_
          refine v_aload_n rfl rfl ?_
          refine v_get rfl h29 rfl ?_
          refine v_iconst (v := 1) rfl (by decide) ?_
          refine r_isub rfl (by omega) (by omega) (fun z117 z117e => ?_)
          refine v_callS rfl (W_X12_in b (0 : Int32) z117 hR hI17) rfl rfl rfl rfl rfl (by omega) (fun rv w118 hq119 => ?_)
          obtain ⟨⟨z120, rfl, z120p0⟩, rfl⟩ := hq119
          refine r_if_eq rfl (fun t121 => ?_) (fun t121 => ?_)
          · refine v_iconst (v := 0) rfl (by decide) ?_
            refine v_istore rfl (Nat.le_of_ble_eq_true rfl) ?_
            refine v_iload rfl rfl ?_
            refine r_if_ne rfl (fun hx => absurd hx (by omega)) (fun _ => ?_)
            refine v_aload_n rfl rfl ?_
            refine v_iconst (v := (-1)) rfl (by decide) ?_
            refine v_callV rfl (c_M_refuse (-1 : Int32) (by unfold pm_isR; first | decide | exact Or.inl rfl) hR hI17) rfl rfl h29 rfl rfl (by omega) (fun rv w122 hq123 => ?_)
            obtain ⟨rfl, hI124, hh125x⟩ := hq123
            have hI124 : pm_IM gi ga w122 := hI124
            have hh125 := hh18.tr hh125x
            exact v_iret rfl ⟨_, ga, rfl, (by
    refine Or.inr ⟨by omega, ?_⟩
    first
    | exact Or.inl ⟨by omega, by omega⟩
    | exact Or.inr ⟨by omega, fs27, os28, _, v23k, by unfold sq_good; omega⟩), Or.inl ⟨by decide, rfl⟩, hI124, hh125⟩
          · refine v_iload_n rfl rfl ?_
            refine v_iload_n rfl rfl ?_
            refine r_icmp_eq rfl (fun t126 => ?_) (fun t126 => ?_)
            · refine v_iconst (v := 0) rfl (by decide) ?_
              refine v_istore rfl (Nat.le_of_ble_eq_true rfl) ?_
              refine v_iload rfl rfl ?_
              refine r_if_ne rfl (fun hx => absurd hx (by omega)) (fun _ => ?_)
              refine v_aload_n rfl rfl ?_
              refine v_iconst (v := (-1)) rfl (by decide) ?_
              refine v_callV rfl (c_M_refuse (-1 : Int32) (by unfold pm_isR; first | decide | exact Or.inl rfl) hR hI17) rfl rfl h29 rfl rfl (by omega) (fun rv w127 hq128 => ?_)
              obtain ⟨rfl, hI129, hh130x⟩ := hq128
              have hI129 : pm_IM gi ga w127 := hI129
              have hh130 := hh18.tr hh130x
              exact v_iret rfl ⟨_, ga, rfl, (by
    refine Or.inr ⟨by omega, ?_⟩
    first
    | exact Or.inl ⟨by omega, by omega⟩
    | exact Or.inr ⟨by omega, fs27, os28, _, v23k, by unfold sq_good; omega⟩), Or.inl ⟨by decide, rfl⟩, hI129, hh130⟩
            · refine v_iconst (v := 1) rfl (by decide) ?_
              refine v_goto rfl ?_
              refine v_istore rfl (Nat.le_of_ble_eq_true rfl) ?_
              refine v_iload rfl rfl ?_
              refine r_if_ne rfl (fun _ => ?_) (fun hx => absurd hx (by omega))
              refine v_aload_n rfl rfl ?_
              refine v_get rfl h29 rfl ?_
              refine v_iload_n rfl rfl ?_
              refine v_iload_n rfl rfl ?_
              obtain ⟨h131A, h131B, h131C, h131D, h131F⟩ := hI17.flt
              have h131A : w14[62]? = some (.inl (0, .inl (ga 25))) := h131A
              have h131C : List.length (ga 25) = 4 := h131C
              have h131B : w14[63]? = some (.inl (0, .inl (ga 26))) := h131B
              have h131D : List.length (ga 26) = 4 := h131D
              refine r_iastx rfl h131A h131C (by omega) (by omega) (fun A Al Am Ag An => ?_)
              refine r_gen (fun w132 e133 => ?_)
              have h134 := r_get_ne e133 (show 62 ≠ 59 by decide) h29
              have h135 := r_get_ne e133 (show 62 ≠ 63 by decide) h131B
              refine v_aload_n rfl rfl ?_
              refine v_get rfl h134 rfl ?_
              refine v_iload_n rfl rfl ?_
              refine v_iload_n rfl rfl ?_
              refine v_iconst (v := 3) rfl (by decide) ?_
              refine r_icmp_ne rfl (fun t136 => ?_) (fun t136 => ?_)
              · refine v_iconst (v := (-1)) rfl (by decide) ?_
                refine r_iastx rfl h135 h131D (by omega) (by omega) (fun B Bl Bm Bg Bn => ?_)
                refine r_gen (fun w137 e138 => ?_)
                have hI139 : pm_IM gi (pm_uA (pm_uA ga 25 A) 26 B) w137 := by
                  rw [e138, e133]
                  refine hI17.u623 Al Bl (fun hx => ?_)
                  by_cases q : k.toInt.toNat = 3
                  · rw [q] at Bg; rw [Bg]; omega
                  · rw [An 3 (by omega)] at hx; rw [Bn 3 (by omega)]; exact h131F hx
                have hh140 : pm_lo w0 w137 := by rw [e138, e133]; exact (hh18.set (by decide) _).set (by decide) _
                refine v_iconst (v := 1) rfl (by decide) ?_
                exact v_iret rfl ⟨_, _, rfl, (by
    refine Or.inr ⟨by omega, ?_⟩
    first
    | exact Or.inl ⟨by omega, by omega⟩
    | exact Or.inr ⟨by omega, fs27, os28, _, v23k, by unfold sq_good; omega⟩), Or.inr ⟨rfl, ⟨by omega, by omega⟩, by omega, by omega, A, B, rfl, ⟨by rw [Al, h131C], Ag, An⟩, Bl, fun q => by rw [show k.toInt.toNat = 3 by omega] at Bg; first | exact Bg | (exfalso; omega), fun q => Bn 3 (by omega)⟩, hI139, hh140⟩
              · refine v_iload_n rfl rfl ?_
                refine v_goto rfl ?_
                refine r_iastx rfl h135 h131D (by omega) (by omega) (fun B Bl Bm Bg Bn => ?_)
                refine r_gen (fun w141 e142 => ?_)
                have hI143 : pm_IM gi (pm_uA (pm_uA ga 25 A) 26 B) w141 := by
                  rw [e142, e133]
                  refine hI17.u623 Al Bl (fun hx => ?_)
                  by_cases q : k.toInt.toNat = 3
                  · rw [q] at Bg; rw [Bg]; omega
                  · rw [An 3 (by omega)] at hx; rw [Bn 3 (by omega)]; exact h131F hx
                have hh144 : pm_lo w0 w141 := by rw [e142, e133]; exact (hh18.set (by decide) _).set (by decide) _
                refine v_iconst (v := 1) rfl (by decide) ?_
                exact v_iret rfl ⟨_, _, rfl, (by
    refine Or.inr ⟨by omega, ?_⟩
    first
    | exact Or.inl ⟨by omega, by omega⟩
    | exact Or.inr ⟨by omega, fs27, os28, _, v23k, by unfold sq_good; omega⟩), Or.inr ⟨rfl, ⟨by omega, by omega⟩, by omega, by omega, A, B, rfl, ⟨by rw [Al, h131C], Ag, An⟩, Bl, fun q => by rw [show k.toInt.toNat = 3 by omega] at Bg; first | exact Bg | (exfalso; omega), fun q => Bn 3 (by omega)⟩, hI143, hh144⟩
  · refine v_aload_n rfl rfl ?_
    refine v_bipush (v := (-2)) rfl (by decide) ?_
    obtain ⟨v146, v147, v148, v149, v150, v151, v152, v153, ⟨v146z, v146e⟩, ⟨⟨v147a, v147b⟩, v147e⟩, ⟨⟨v148a, v148b⟩, v148e⟩, ⟨v150a, v150b⟩, ⟨v153a, v153b⟩, h145⟩ := hI.2.1 59 (by decide) (by decide)
    have v146z := v146z.imp i_eq.mp i_eq.mp
    rw [i_0, i_1] at v146z
    refine v_callV rfl (c_M_refuse (-2 : Int32) (by unfold pm_isR; first | decide | exact Or.inl rfl) hR hI) rfl rfl h145 rfl rfl (by omega) (fun rv w154 hq155 => ?_)
    obtain ⟨rfl, hI156, hh157x⟩ := hq155
    have hI156 : pm_IM gi ga w154 := hI156
    have hh157 := hh.tr hh157x
    exact v_iret rfl ⟨_, ga, rfl, Or.inl ⟨by omega, by omega⟩, Or.inl ⟨by decide, rfl⟩, hI156, hh157⟩

