set_option maxRecDepth 100000 in
theorem W_X6_isStart_10_1_x {sc : pm_S} {w : pm_W} {gi : Nat → Int32} {ga : Nat → List Int32} (x : Int32) (y : Int32) (c10_0 : Int32) (c10_1 : Int32) (c10_2 : Int32) (p0 : y.toInt ≤ 19) (p1 : 0 ≤ y.toInt) (p2 : x.toInt ≤ 19) (p3 : 0 ≤ x.toInt) (p4 : x.toInt < c10_0.toInt) (p5 : c10_0.toInt = (gi 0).toInt) (p6 : 1 ≤ c10_0.toInt) (p7 : c10_0.toInt ≤ 20) (p8 : 0 ≤ c10_1.toInt) (p9 : c10_1.toInt ≤ 20) (p10 : 0 ≤ c10_2.toInt) (p11 : c10_2.toInt ≤ 1) (hc10 : w[10]? = some (.inr (6, [.int c10_0, .int c10_1, .int c10_2, .ref 11, .ref 12, .ref 13]))) (hR : pm_Rg gi ga) (hI : pm_IX gi ga w) : pm_Mt sc 1 40 4 [.ref 10, .ref 1, .int x, .int y] w (fun rv w' => pm_wI (fun v => 0 ≤ v.toInt ∧ v.toInt ≤ 1 ∧ ((v.toInt = 1 ∧ fs_st (fs_c (ga 15) y.toInt.toNat) (gi 0).toInt.toNat x.toInt.toNat) ∨ (v.toInt = 0 ∧ ¬ fs_st (fs_c (ga 15) y.toInt.toNat) (gi 0).toInt.toNat x.toInt.toNat))) rv ∧ w = w') := by
  intro d hd
  obtain ⟨g0a, g0b⟩ := hR.n0
  obtain ⟨g1a, g1b⟩ := hR.n1
  obtain ⟨g2a, g2b⟩ := hR.n2
  obtain ⟨g3a, g3b⟩ := hR.n3
  obtain ⟨g4a, g4b⟩ := hR.n4
  obtain ⟨g5a, g5b⟩ := hR.n5
  obtain ⟨g6a, g6b⟩ := hR.n6
  obtain ⟨g7a, g7b⟩ := hR.n7
  obtain ⟨g8a, g8b⟩ := hR.n8
  have k0 : (0 : Int32).toInt = 0 := by decide
  have k1 : (1 : Int32).toInt = 1 := by decide
  show pm_V sc d 40 0 [.ref 10, .ref 1, .int x, .int y] [] w _
  refine v_aload_n rfl rfl ?_
  refine v_iload_n rfl rfl ?_
  refine v_iload_n rfl rfl ?_
  have h1 : _ = some _ := hI.2 1 (by decide)
  refine v_callV rfl (W_X10_colourAt_1_x x y (by omega) (by omega) (by omega) (by omega) hR hI) rfl rfl h1 rfl rfl (by omega) (fun rv w2 hq3 => ?_)
  obtain ⟨⟨z4, rfl, z4p0, z4p1, z4p2⟩, rfl⟩ := hq3
  skip
  refine v_aload_n rfl rfl ?_
  refine v_iload_n rfl rfl ?_
  refine v_iconst (v := 1) rfl (by decide) ?_
  refine r_isub rfl (by omega) (by omega) (fun z5 z5e => ?_)
  refine v_aload_n rfl rfl ?_
  refine v_get rfl hc10 rfl ?_
  refine v_callS rfl (W_X11_around_y z5 c10_0 (by omega) (by omega) (by omega) (by omega) (by omega) (by omega) hR hI) rfl rfl rfl rfl rfl (by omega) (fun rv w6 hq7 => ?_)
  obtain ⟨⟨z8, rfl, z8p0, z8p1, z8p2, z8p3, z8p4⟩, rfl⟩ := hq7
  have z8k : (x.toInt.toNat + (gi 0).toInt.toNat - 1) % (gi 0).toInt.toNat = z8.toInt.toNat := by
    by_cases e : 1 ≤ x.toInt.toNat
    · rw [fs_prev e (by omega)]; omega
    · rw [show x.toInt.toNat = 0 by omega, fs_prev0 (by omega)]; omega
  refine v_iload_n rfl rfl ?_
  refine v_callV rfl (W_X10_colourAt_1_x z8 y (by omega) (by omega) (by omega) (by omega) hR hI) rfl rfl h1 rfl rfl (by omega) (fun rv w9 hq10 => ?_)
  obtain ⟨⟨z11, rfl, z11p0, z11p1, z11p2⟩, rfl⟩ := hq10
  have hd : fs_st (fs_c (ga 15) y.toInt.toNat) (gi 0).toInt.toNat x.toInt.toNat ↔ ¬ z4 = z11 := by
    unfold fs_st fs_c sq_c
    rw [z8k, z4p0, z11p0]
  refine r_icmp_eq rfl (fun t12 => ?_) (fun t12 => ?_)
  · refine v_iconst (v := 0) rfl (by decide) ?_
    exact r_zret rfl (by omega) ⟨⟨_, rfl, (by omega), (by omega), (by
        first
        | exact Or.inl ⟨by omega, hd.mpr (fun q => by have := congrArg Int32.toInt q; omega)⟩
        | exact Or.inr ⟨by omega, fun q => hd.mp q (i_eq.mpr (by omega))⟩)⟩, rfl⟩
  · refine v_iconst (v := 1) rfl (by decide) ?_
    refine v_goto rfl ?_
    exact r_zret rfl (by omega) ⟨⟨_, rfl, (by omega), (by omega), (by
        first
        | exact Or.inl ⟨by omega, hd.mpr (fun q => by have := congrArg Int32.toInt q; omega)⟩
        | exact Or.inr ⟨by omega, fun q => hd.mp q (i_eq.mpr (by omega))⟩)⟩, rfl⟩
set_option maxRecDepth 100000 in
theorem W_X6_firstStart_10_1_x {sc : pm_S} {w : pm_W} {gi : Nat → Int32} {ga : Nat → List Int32} (y : Int32) (c10_0 : Int32) (c10_1 : Int32) (c10_2 : Int32) (p0 : y.toInt ≤ 19) (p1 : 0 ≤ y.toInt) (p2 : c10_0.toInt = (gi 0).toInt) (p3 : 1 ≤ c10_0.toInt) (p4 : c10_0.toInt ≤ 20) (p5 : 0 ≤ c10_1.toInt) (p6 : c10_1.toInt ≤ 20) (p7 : 0 ≤ c10_2.toInt) (p8 : c10_2.toInt ≤ 1) (hc10 : w[10]? = some (.inr (6, [.int c10_0, .int c10_1, .int c10_2, .ref 11, .ref 12, .ref 13]))) (hR : pm_Rg gi ga) (hI : pm_IX gi ga w) : pm_Mt sc 2 39 4 [.ref 10, .ref 1, .int y] w (fun rv w' => pm_wI (fun v => -9 ≤ v.toInt ∧ v.toInt < c10_0.toInt ∧ ((v.toInt = -9 ∧ ∀ x, x < (gi 0).toInt.toNat → ¬ fs_st (fs_c (ga 15) y.toInt.toNat) (gi 0).toInt.toNat x) ∨ (0 ≤ v.toInt ∧ fs_st (fs_c (ga 15) y.toInt.toNat) (gi 0).toInt.toNat v.toInt.toNat ∧ ∀ x, x < v.toInt.toNat → ¬ fs_st (fs_c (ga 15) y.toInt.toNat) (gi 0).toInt.toNat x))) rv ∧ w = w') := by
  intro d hd
  obtain ⟨g0a, g0b⟩ := hR.n0
  obtain ⟨g1a, g1b⟩ := hR.n1
  obtain ⟨g2a, g2b⟩ := hR.n2
  obtain ⟨g3a, g3b⟩ := hR.n3
  obtain ⟨g4a, g4b⟩ := hR.n4
  obtain ⟨g5a, g5b⟩ := hR.n5
  obtain ⟨g6a, g6b⟩ := hR.n6
  obtain ⟨g7a, g7b⟩ := hR.n7
  obtain ⟨g8a, g8b⟩ := hR.n8
  have km9 : (-9 : Int32).toInt = -9 := by decide
  have k0 : (0 : Int32).toInt = 0 := by decide
  show pm_V sc d 39 0 [.ref 10, .ref 1, .int y, .null] [] w _
  refine v_iconst (v := 0) rfl (by decide) ?_
  refine v_istore_n rfl (Nat.le_of_ble_eq_true rfl) ?_
  have L2 : ∀ (n2 : Nat) (l1 : Int32), 0 ≤ l1.toInt → l1.toInt ≤ 20 → (l1.toInt ≤ c10_0.toInt) → (∀ x, x < l1.toInt.toNat → ¬ fs_st (fs_c (ga 15) y.toInt.toNat) (gi 0).toInt.toNat x) → (20 - l1.toInt).toNat < n2 → pm_V sc d 39 2 [.ref 10, .ref 1, .int y, .int l1] [] w (fun rv w' => pm_wI (fun v => -9 ≤ v.toInt ∧ v.toInt < c10_0.toInt ∧ ((v.toInt = -9 ∧ ∀ x, x < (gi 0).toInt.toNat → ¬ fs_st (fs_c (ga 15) y.toInt.toNat) (gi 0).toInt.toNat x) ∨ (0 ≤ v.toInt ∧ fs_st (fs_c (ga 15) y.toInt.toNat) (gi 0).toInt.toNat v.toInt.toNat ∧ ∀ x, x < v.toInt.toNat → ¬ fs_st (fs_c (ga 15) y.toInt.toNat) (gi 0).toInt.toNat x))) rv ∧ w = w') := by
    intro n2
    induction n2 with
    | zero => intro l1 t4 t5 t6 t7 hm3; exact absurd hm3 (Nat.not_lt_zero _)
    | succ n2 ih2_2 =>
      intro l1 t4 t5 t6 t7 hm3
      refine v_iload_n rfl rfl ?_
      refine v_aload_n rfl rfl ?_
      refine v_get rfl hc10 rfl ?_
      refine r_icmp_ge rfl (fun t8 => ?_) (fun t8 => ?_)
      · refine v_bipush (v := (-9)) rfl (by decide) ?_
        exact v_iret rfl ⟨⟨_, rfl, (by omega), (by omega), (by exact Or.inl ⟨by omega, fun x hx => t7 x (by omega)⟩)⟩, rfl⟩
      · refine v_aload_n rfl rfl ?_
        refine v_aload_n rfl rfl ?_
        refine v_iload_n rfl rfl ?_
        refine v_iload_n rfl rfl ?_
        refine v_callV rfl (W_X6_isStart_10_1_x l1 y c10_0 c10_1 c10_2 (by omega) (by omega) (by omega) (by omega) (by omega) (by omega) (by omega) (by omega) (by omega) (by omega) (by omega) (by omega) hc10 hR hI) rfl rfl hc10 rfl rfl (by omega) (fun rv w9 hq10 => ?_)
        obtain ⟨⟨z11, rfl, z11p0, z11p1, z11p2⟩, rfl⟩ := hq10
        skip
        refine r_if_eq rfl (fun t12 => ?_) (fun t12 => ?_)
        · refine r_iinc rfl rfl (by decide) (by omega) (by omega) (fun z13 z13e => ?_)
          refine v_goto rfl ?_
          exact ih2_2 z13 (by omega) (by omega) (by omega) (by
              intro x hx
              by_cases e : x < l1.toInt.toNat
              · exact t7 x e
              · have e2 : x = l1.toInt.toNat := by omega
                subst e2
                rcases z11p2 with g | g
                · exact absurd g.1 (by omega)
                · exact g.2) (by omega)
        · refine v_iload_n rfl rfl ?_
          exact v_iret rfl ⟨⟨_, rfl, (by omega), (by omega), (by
              rcases z11p2 with g | g
              · exact Or.inr ⟨by omega, g.2, t7⟩
              · exact absurd g.1 (by omega))⟩, rfl⟩
  exact L2 _ (0 : Int32) (by omega) (by omega) (by omega) (by intro x hx; rw [show (0 : Int32).toInt.toNat = 0 from rfl] at hx; omega) (Nat.lt_add_one _)
set_option maxRecDepth 100000 in
theorem W_X6_addRun_10_x {sc : pm_S} {w w0 : pm_W} {gi : Nat → Int32} {ga : Nat → List Int32} (s : Int32) (c10_0 : Int32) (c10_1 : Int32) (c10_2 : Int32) (c12 : List Int32) (p0 : c10_1.toInt ≤ 19) (p1 : 1 ≤ c10_0.toInt) (p2 : c10_0.toInt ≤ 20) (p3 : 0 ≤ c10_1.toInt) (p4 : c10_1.toInt ≤ 20) (p5 : 0 ≤ c10_2.toInt) (p6 : c10_2.toInt ≤ 1) (hc10 : w[10]? = some (.inr (6, [.int c10_0, .int c10_1, .int c10_2, .ref 11, .ref 12, .ref 13]))) (hc12 : w[12]? = some (.inl (0, .inl c12))) (hl12 : c12.length = 20) (hr12 : ∀ x ∈ c12, pm_rng x (0) 20) (hR : pm_Rg gi ga) (hI : pm_IX gi ga w) (hh : pm_hi w0 w) : pm_Mt sc 0 38 2 [.ref 10, .int s] w (fun rv w' => rv = none ∧ pm_IX gi ga w' ∧ pm_hi w0 w' ∧ ∃ (m : Int32) (ys : List Int32), m.toInt = c10_1.toInt + 1 ∧ w'[10]? = some (.inr (6, [.int c10_0, .int m, .int c10_2, .ref 11, .ref 12, .ref 13])) ∧ w'[12]? = some (.inl (0, .inl ys)) ∧ ys.length = 20 ∧ (∀ x ∈ ys, pm_rng x (0) 20) ∧ (ys.getD c10_1.toInt.toNat 0).toInt = 0 ∧ ∀ j, j ≠ c10_1.toInt.toNat → ys.getD j 0 = c12.getD j 0) := by
  intro d hd
  obtain ⟨g0a, g0b⟩ := hR.n0
  obtain ⟨g1a, g1b⟩ := hR.n1
  obtain ⟨g2a, g2b⟩ := hR.n2
  obtain ⟨g3a, g3b⟩ := hR.n3
  obtain ⟨g4a, g4b⟩ := hR.n4
  obtain ⟨g5a, g5b⟩ := hR.n5
  obtain ⟨g6a, g6b⟩ := hR.n6
  obtain ⟨g7a, g7b⟩ := hR.n7
  obtain ⟨g8a, g8b⟩ := hR.n8
  have k0 : (0 : Int32).toInt = 0 := by decide
  have k1 : (1 : Int32).toInt = 1 := by decide
  show pm_V sc d 38 0 [.ref 10, .int s] [] w _
  refine v_aload_n rfl rfl ?_
  refine v_get rfl hc10 rfl ?_
  refine v_aload_n rfl rfl ?_
  refine v_get rfl hc10 rfl ?_
  refine v_iload_n rfl rfl ?_
  obtain ⟨xs2, xs2l, h1⟩ := hI.2 11 (by decide)
  refine r_iastore rfl h1 xs2l (by omega) (by omega) (fun ys3 ys3l ys3m ys3g => ?_)
  refine r_gen (w' := w.set 11 (.inl (0, .inl ys3))) (fun w4 e5 => ?_)
  have hI6 : pm_IX gi ga w4 := by rw [e5]; exact hI.set 11 (by decide) ⟨ys3, ys3l, rfl⟩
  have hh7 : pm_hi w0 w4 := by rw [e5]; exact hh.set (by decide) _
  have h8 := r_get_ne e5 (show 11 ≠ 10 by decide) hc10
  have h9 := r_get_ne e5 (show 11 ≠ 12 by decide) hc12
  have h10 := r_get_eq e5 h1
  refine v_aload_n rfl rfl ?_
  refine v_get rfl h8 rfl ?_
  refine v_aload_n rfl rfl ?_
  refine v_get rfl h8 rfl ?_
  refine v_iconst (v := 0) rfl (by decide) ?_
  refine r_iastx rfl h9 hl12 (by omega) (by omega) (fun ys11 ys11l ys11m ys11g ys11n => ?_)
  have ys11r := r_rng ys11m hr12 (by omega) (by omega)
  refine r_gen (w' := w4.set 12 (.inl (0, .inl ys11))) (fun w12 e13 => ?_)
  have hI14 : pm_IX gi ga w12 := by rw [e13]; exact hI6.set 12 (by decide) ⟨ys11, ys11l, ys11r, rfl⟩
  have hh15 : pm_hi w0 w12 := by rw [e13]; exact hh7.set (by decide) _
  have h16 := r_get_ne e13 (show 12 ≠ 10 by decide) h8
  have h17 := r_get_ne e13 (show 12 ≠ 11 by decide) h10
  have h18 := r_get_eq e13 h9
  refine v_aload_n rfl rfl ?_
  refine v_dup rfl rfl ?_
  refine v_get rfl h16 rfl ?_
  refine v_iconst (v := 1) rfl (by decide) ?_
  refine r_iadd rfl (by omega) (by omega) (fun z19 z19e => ?_)
  refine v_put rfl h16 rfl (Nat.le_of_ble_eq_true rfl) ?_
  refine r_gen (w' := w12.set 10 (.inr (6, [.int c10_0, .int z19, .int c10_2, .ref 11, .ref 12, .ref 13]))) (fun w20 e21 => ?_)
  have hI22 : pm_IX gi ga w20 := by rw [e21]; exact hI14.set 10 (by decide) ⟨c10_0, z19, c10_2, ⟨by omega, by omega⟩, ⟨by omega, by omega⟩, ((show c10_2.toInt = 0 ∨ c10_2.toInt = 1 by omega).imp i_eq.mpr i_eq.mpr), rfl⟩
  have hh23 : pm_hi w0 w20 := by rw [e21]; exact hh15.set (by decide) _
  have h24 := r_get_ne e21 (show 10 ≠ 11 by decide) h17
  have h25 := r_get_ne e21 (show 10 ≠ 12 by decide) h18
  have h26 := r_get_eq e21 h16
  exact v_ret rfl ⟨rfl, hI22, hh23, ⟨z19, ys11, by omega, h26, h25, ys11l, ys11r, by rw [ys11g]; rfl, ys11n⟩⟩
set_option maxRecDepth 100000 in
theorem W_X6_readFrom_10_1_x {sc : pm_S} {w w0 : pm_W} {gi : Nat → Int32} {ga : Nat → List Int32} (y : Int32) (p0 : y.toInt ≤ 19) (p1 : 0 ≤ y.toInt) (hR : pm_Rg gi ga) (hI : pm_IX gi ga w) (hh : pm_hi w0 w) : pm_Mt sc 3 30 7 [.ref 10, .ref 1, .int y] w (fun rv w' => rv = none ∧ pm_IX gi ga w' ∧ pm_hi w0 w' ∧ ∃ (v0 m v2 : Int32) (ls : List Int32) (F : Nat) (o : Nat → Nat), w'[10]? = some (.inr (6, [.int v0, .int m, .int v2, .ref 11, .ref 12, .ref 13])) ∧ w'[12]? = some (.inl (0, .inl ls)) ∧ ls.length = 20 ∧ (∀ x ∈ ls, pm_rng x (0) 20) ∧ 0 ≤ m.toInt ∧ m.toInt ≤ 20 ∧ 1 ≤ v0.toInt ∧ v0.toInt ≤ 20 ∧ 0 ≤ v2.toInt ∧ v2.toInt ≤ 1 ∧ fs_F (fs_c (ga 15) y.toInt.toNat) (gi 0).toInt.toNat F ∧ fs_lay (fs_S (fs_c (ga 15) y.toInt.toNat) (gi 0).toInt.toNat F) o (sq_lk ls) (gi 0).toInt.toNat m.toInt.toNat) := by
  intro d hd
  obtain ⟨g0a, g0b⟩ := hR.n0
  obtain ⟨g1a, g1b⟩ := hR.n1
  obtain ⟨g2a, g2b⟩ := hR.n2
  obtain ⟨g3a, g3b⟩ := hR.n3
  obtain ⟨g4a, g4b⟩ := hR.n4
  obtain ⟨g5a, g5b⟩ := hR.n5
  obtain ⟨g6a, g6b⟩ := hR.n6
  obtain ⟨g7a, g7b⟩ := hR.n7
  obtain ⟨g8a, g8b⟩ := hR.n8
  have k0 : (0 : Int32).toInt = 0 := by decide
  have k1 : (1 : Int32).toInt = 1 := by decide
  show pm_V sc d 30 0 [.ref 10, .ref 1, .int y, .null, .null, .null, .null] [] w _
  refine v_aload_n rfl rfl ?_
  refine v_aload_n rfl rfl ?_
  have h1 : _ = some _ := hI.2 1 (by decide)
  refine v_get rfl h1 rfl ?_
  obtain ⟨v3, v4, v5, ⟨v3a, v3b⟩, ⟨v4a, v4b⟩, v5z, h2⟩ := hI.2 10 (by decide)
  have v5z := v5z.imp i_eq.mp i_eq.mp
  rw [i_0, i_1] at v5z
  refine v_put rfl h2 rfl (Nat.le_of_ble_eq_true rfl) ?_
  refine r_gen (w' := w.set 10 (.inr (6, [.int (gi 0), .int v4, .int v5, .ref 11, .ref 12, .ref 13]))) (fun w6 e7 => ?_)
  have hI8 : pm_IX gi ga w6 := by rw [e7]; exact hI.set 10 (by decide) ⟨(gi 0), v4, v5, ⟨by omega, by omega⟩, ⟨by omega, by omega⟩, ((show v5.toInt = 0 ∨ v5.toInt = 1 by omega).imp i_eq.mpr i_eq.mpr), rfl⟩
  have hh9 : pm_hi w0 w6 := by rw [e7]; exact hh.set (by decide) _
  have h10 := r_get_ne e7 (show 10 ≠ 1 by decide) h1
  have h11 := r_get_eq e7 h2
  refine v_aload_n rfl rfl ?_
  refine v_iconst (v := 0) rfl (by decide) ?_
  refine v_put rfl h11 rfl (Nat.le_of_ble_eq_true rfl) ?_
  refine r_gen (w' := w6.set 10 (.inr (6, [.int (gi 0), .int (0 : Int32), .int v5, .ref 11, .ref 12, .ref 13]))) (fun w12 e13 => ?_)
  have hI14 : pm_IX gi ga w12 := by rw [e13]; exact hI8.set 10 (by decide) ⟨(gi 0), (0 : Int32), v5, ⟨by omega, by omega⟩, ⟨by omega, by omega⟩, ((show v5.toInt = 0 ∨ v5.toInt = 1 by omega).imp i_eq.mpr i_eq.mpr), rfl⟩
  have hh15 : pm_hi w0 w12 := by rw [e13]; exact hh9.set (by decide) _
  have h16 := r_get_ne e13 (show 10 ≠ 1 by decide) h10
  have h17 := r_get_eq e13 h11
  refine v_aload_n rfl rfl ?_
  refine v_aload_n rfl rfl ?_
  refine v_iload_n rfl rfl ?_
  refine v_callV rfl (W_X6_firstStart_10_1_x y (gi 0) (0 : Int32) v5 (by omega) (by omega) (by omega) (by omega) (by omega) (by omega) (by omega) (by omega) (by omega) h17 hR hI14) rfl rfl h17 rfl rfl (by omega) (fun rv w18 hq19 => ?_)
  obtain ⟨⟨z20, rfl, z20p0, z20p1, z20p2⟩, rfl⟩ := hq19
  skip
  refine v_istore_n rfl (Nat.le_of_ble_eq_true rfl) ?_
  refine v_aload_n rfl rfl ?_
  refine v_iload_n rfl rfl ?_
  refine r_if_ge rfl (fun t21 => ?_) (fun t21 => ?_)
  · refine v_iconst (v := 0) rfl (by decide) ?_
    refine v_put rfl h17 (r_okZ (by omega)) (Nat.le_of_ble_eq_true rfl) ?_
    refine r_gen (w' := w12.set 10 (.inr (6, [.int (gi 0), .int (0 : Int32), .int (0 : Int32), .ref 11, .ref 12, .ref 13]))) (fun w22 e23 => ?_)
    have hI24 : pm_IX gi ga w22 := by rw [e23]; exact hI14.set 10 (by decide) ⟨(gi 0), (0 : Int32), (0 : Int32), ⟨by omega, by omega⟩, ⟨by omega, by omega⟩, ((show (0 : Int32).toInt = 0 ∨ (0 : Int32).toInt = 1 by omega).imp i_eq.mpr i_eq.mpr), rfl⟩
    have hh25 : pm_hi w0 w22 := by rw [e23]; exact hh15.set (by decide) _
    have h26 := r_get_ne e23 (show 10 ≠ 1 by decide) h16
    have h27 := r_get_eq e23 h17
    refine v_iconst (v := 0) rfl (by decide) ?_
    refine v_iload_n rfl rfl ?_
    refine r_max rfl (by omega) rfl (fun z28 z28a z28b z28c => ?_)
    have hF : fs_F (fs_c (ga 15) y.toInt.toNat) (gi 0).toInt.toNat z28.toInt.toNat := by
      rcases z20p2 with ⟨g1, g2⟩ | ⟨g1, g2, g3⟩
      · exact Or.inl ⟨by omega, g2⟩
      · refine Or.inr ⟨by omega, ?_⟩
        rw [show z28.toInt.toNat = z20.toInt.toNat by omega]
        exact ⟨g2, g3⟩
    refine v_istore rfl (Nat.le_of_ble_eq_true rfl) ?_
    refine v_iconst (v := 0) rfl (by decide) ?_
    refine v_istore rfl (Nat.le_of_ble_eq_true rfl) ?_
    obtain ⟨xs30, xs30l, xs30r, h29⟩ := hI24.2 12 (by decide)
    have L42 : ∀ (n42 : Nat) (l31 : Int32) (u32 : Value) (w33 : pm_W) (v37 : Int32) (v38 : Int32) (v39 : Int32) (xs41 : List Int32), pm_IX gi ga w33 → pm_hi w0 w33 → w33[10]? = some (.inr (6, [.int v37, .int v38, .int v39, .ref 11, .ref 12, .ref 13])) → w33[12]? = some (.inl (0, .inl xs41)) → xs41.length = 20 → (∀ x ∈ xs41, pm_rng x (0) 20) → 0 ≤ l31.toInt → l31.toInt ≤ 20 → 1 ≤ v37.toInt → v37.toInt ≤ 20 → 0 ≤ v38.toInt → v38.toInt ≤ 20 → 0 ≤ v39.toInt → v39.toInt ≤ 1 → (v37.toInt = (gi 0).toInt) → (v38.toInt ≤ l31.toInt) → (l31.toInt ≤ (gi 0).toInt) → (1 ≤ l31.toInt → 1 ≤ v38.toInt) → (∃ o, fs_lay (fs_S (fs_c (ga 15) y.toInt.toNat) (gi 0).toInt.toNat z28.toInt.toNat) o (sq_lk xs41) l31.toInt.toNat v38.toInt.toNat) → (20 - l31.toInt).toNat < n42 → pm_V sc d 30 43 [.ref 10, .ref 1, .int y, .int z20, .int z28, .int l31, u32] [] w33 (fun rv w' => rv = none ∧ pm_IX gi ga w' ∧ pm_hi w0 w' ∧ ∃ (v0 m v2 : Int32) (ls : List Int32) (F : Nat) (o : Nat → Nat), w'[10]? = some (.inr (6, [.int v0, .int m, .int v2, .ref 11, .ref 12, .ref 13])) ∧ w'[12]? = some (.inl (0, .inl ls)) ∧ ls.length = 20 ∧ (∀ x ∈ ls, pm_rng x (0) 20) ∧ 0 ≤ m.toInt ∧ m.toInt ≤ 20 ∧ 1 ≤ v0.toInt ∧ v0.toInt ≤ 20 ∧ 0 ≤ v2.toInt ∧ v2.toInt ≤ 1 ∧ fs_F (fs_c (ga 15) y.toInt.toNat) (gi 0).toInt.toNat F ∧ fs_lay (fs_S (fs_c (ga 15) y.toInt.toNat) (gi 0).toInt.toNat F) o (sq_lk ls) (gi 0).toInt.toNat m.toInt.toNat) := by
      intro n42
      induction n42 with
      | zero => intro l31 u32 w33 v37 v38 v39 xs41 hI34 hh35 h36 h40 xs41l xs41r t44 t45 t46 t47 t48 t49 t50 t51 t52 t53 t54 t55 t56 hm43; exact absurd hm43 (Nat.not_lt_zero _)
      | succ n42 ih43_42 =>
        intro l31 u32 w33 v37 v38 v39 xs41 hI34 hh35 h36 h40 xs41l xs41r t44 t45 t46 t47 t48 t49 t50 t51 t52 t53 t54 t55 t56 hm43
        refine v_iload rfl rfl ?_
        refine v_aload_n rfl rfl ?_
        refine v_get rfl h36 rfl ?_
        refine r_icmp_ge rfl (fun t57 => ?_) (fun t57 => ?_)
        · obtain ⟨o8, ho8⟩ := t56
          exact v_ret rfl ⟨rfl, hI34, hh35, ⟨v37, v38, v39, xs41, z28.toInt.toNat, o8, h36, h40, xs41l, xs41r, by omega, by omega, by omega, by omega, by omega, by omega, hF, by rw [show l31.toInt.toNat = (gi 0).toInt.toNat by omega] at ho8; exact ho8⟩⟩
        · refine v_iload rfl rfl ?_
          refine v_iload rfl rfl ?_
          refine r_iadd rfl (by omega) (by omega) (fun z58 z58e => ?_)
          refine v_aload_n rfl rfl ?_
          refine v_get rfl h36 rfl ?_
          refine v_callS rfl (W_X11_around_x z58 v37 (by omega) (by omega) (by omega) (by omega) (by omega) hR hI34) rfl rfl rfl rfl rfl (by omega) (fun rv w59 hq60 => ?_)
          obtain ⟨⟨z61, rfl, z61p0, z61p1, z61p2, z61p3⟩, rfl⟩ := hq60
          have z61k : z61.toInt.toNat = (z28.toInt.toNat + l31.toInt.toNat) % (gi 0).toInt.toNat := j_ar (by omega) (by omega) (by omega)
          refine v_istore rfl (Nat.le_of_ble_eq_true rfl) ?_
          refine v_iload rfl rfl ?_
          refine r_if_eq rfl (fun t62 => ?_) (fun t62 => ?_)
          · refine v_aload_n rfl rfl ?_
            refine v_iload rfl rfl ?_
            refine v_callV rfl (W_X6_addRun_10_x z61 v37 v38 v39 xs41 (by omega) (by omega) (by omega) (by omega) (by omega) (by omega) (by omega) h36 h40 xs41l xs41r hR hI34 hh35) rfl rfl h36 rfl rfl (by omega) (fun rv w63 hq64 => ?_)
            obtain ⟨rfl, hI66, hh67, ⟨m68, ys69, m68e, h70, h71, ys69l, ys69r, ys69g, ys69n⟩⟩ := hq64
            refine v_aload_n rfl rfl ?_
            refine v_get rfl h70 rfl ?_
            refine v_aload_n rfl rfl ?_
            refine v_get rfl h70 rfl ?_
            refine v_iconst (v := 1) rfl (by decide) ?_
            refine r_isub rfl (by omega) (by omega) (fun z72 z72e => ?_)
            skip
            refine v_dup2 rfl rfl ?_
            refine r_iaload rfl h71 ys69l (by omega) (by omega) (fun z73 z73m z73g => ?_)
            obtain ⟨z73a, z73b⟩ := ys69r z73 z73m
            have z99h : z73.toInt = 0 := by
              have q := congrArg Int32.toInt z73g
              rw [show z72.toInt.toNat = v38.toInt.toNat by omega] at q
              omega
            refine v_iconst (v := 1) rfl (by decide) ?_
            refine r_iadd rfl (by omega) (by omega) (fun z74 z74e => ?_)
            refine r_iastx rfl h71 ys69l (by omega) (by omega) (fun ys75 ys75l ys75m ys75g ys75n => ?_)
            have ys75r := r_rng ys75m ys69r (by omega) (by omega)
            refine r_gen (w' := w63.set 12 (.inl (0, .inl ys75))) (fun w76 e77 => ?_)
            have hI78 : pm_IX gi ga w76 := by rw [e77]; exact hI66.set 12 (by decide) ⟨ys75, ys75l, ys75r, rfl⟩
            have hh79 : pm_hi w0 w76 := by rw [e77]; exact hh67.set (by decide) _
            have h80 := r_get_ne e77 (show 12 ≠ 10 by decide) h70
            have h81 := r_get_eq e77 h71
            refine r_iinc rfl rfl (by decide) (by omega) (by omega) (fun z82 z82e => ?_)
            refine v_goto rfl ?_
            exact ih43_42 z82 (.int z61) w76 v37 m68 v39 ys75 hI78 hh79 h80 h81 ys75l ys75r (by omega) (by omega) (by omega) (by omega) (by omega) (by omega) (by omega) (by omega) (by omega) (by omega) (by omega) (by omega) (by
                rw [show z82.toInt.toNat = l31.toInt.toNat + 1 by omega, show m68.toInt.toNat = v38.toInt.toNat + 1 by omega]
                obtain ⟨o9, ho9⟩ := t56
                refine ⟨_, fs_lay.add ho9 ?_ (by omega) (fun i hi => ?_) ?_⟩
                · first
                  | exact Or.inl (by omega)
                  | (refine Or.inr ?_
                     rw [← z61k]
                     rcases qp2 with g | g
                     · exact g.2
                     · exact absurd g.1 (by omega))
                · unfold sq_lk; rw [ys75n i (by omega), ys69n i (by omega)]
                · have q := congrArg Int32.toInt ys75g
                  rw [show z72.toInt.toNat = v38.toInt.toNat by omega] at q
                  have q2 : sq_lk ys75 v38.toInt.toNat = (ys75.getD v38.toInt.toNat 0).toInt := rfl
                  omega) (by omega)
          · refine v_aload_n rfl rfl ?_
            refine v_aload_n rfl rfl ?_
            refine v_iload rfl rfl ?_
            refine v_iload_n rfl rfl ?_
            refine v_callV rfl (W_X6_isStart_10_1_x z61 y v37 v38 v39 (by omega) (by omega) (by omega) (by omega) (by omega) (by omega) (by omega) (by omega) (by omega) (by omega) (by omega) (by omega) h36 hR hI34) rfl rfl h36 rfl rfl (by omega) (fun rv w83 hq84 => ?_)
            obtain ⟨⟨z85, rfl, z85p0, z85p1, z85p2⟩, rfl⟩ := hq84
            skip
            refine r_if_eq rfl (fun t86 => ?_) (fun t86 => ?_)
            · refine v_aload_n rfl rfl ?_
              refine v_get rfl h36 rfl ?_
              refine v_aload_n rfl rfl ?_
              refine v_get rfl h36 rfl ?_
              refine v_iconst (v := 1) rfl (by decide) ?_
              refine r_isub rfl (by omega) (by omega) (fun z87 z87e => ?_)
              skip
              refine v_dup2 rfl rfl ?_
              refine r_iaload rfl h40 xs41l (by omega) (by omega) (fun z88 z88m z88g => ?_)
              obtain ⟨z88a, z88b⟩ := xs41r z88 z88m
              obtain ⟨o9, ho9⟩ := t56
              have q9 := ho9.2.2.2.1 (by omega)
              have z99h : z88.toInt = sq_lk xs41 (v38.toInt.toNat - 1) := by
                rw [show v38.toInt.toNat - 1 = z87.toInt.toNat by omega]
                exact congrArg Int32.toInt z88g
              refine v_iconst (v := 1) rfl (by decide) ?_
              refine r_iadd rfl (by omega) (by omega) (fun z89 z89e => ?_)
              refine r_iastx rfl h40 xs41l (by omega) (by omega) (fun ys90 ys90l ys90m ys90g ys90n => ?_)
              have ys90r := r_rng ys90m xs41r (by omega) (by omega)
              refine r_gen (w' := w33.set 12 (.inl (0, .inl ys90))) (fun w91 e92 => ?_)
              have hI93 : pm_IX gi ga w91 := by rw [e92]; exact hI34.set 12 (by decide) ⟨ys90, ys90l, ys90r, rfl⟩
              have hh94 : pm_hi w0 w91 := by rw [e92]; exact hh35.set (by decide) _
              have h95 := r_get_ne e92 (show 12 ≠ 10 by decide) h36
              have h96 := r_get_eq e92 h40
              refine r_iinc rfl rfl (by decide) (by omega) (by omega) (fun z97 z97e => ?_)
              refine v_goto rfl ?_
              exact ih43_42 z97 (.int z61) w91 v37 v38 v39 ys90 hI93 hh94 h95 h96 ys90l ys90r (by omega) (by omega) (by omega) (by omega) (by omega) (by omega) (by omega) (by omega) (by omega) (by omega) (by omega) (by omega) (by
                  rw [show z97.toInt.toNat = l31.toInt.toNat + 1 by omega]
                  refine ⟨o9, fs_lay.more ho9 (by omega) (fun q => ?_) (fun i hi => ?_) ?_⟩
                  · rcases q with q | q
                    · omega
                    · rw [← z61k] at q
                      rcases z85p2 with g | g
                      · exact absurd g.1 (by omega)
                      · exact g.2 q
                  · unfold sq_lk; rw [ys90n i (by omega)]
                  · have q := congrArg Int32.toInt ys90g
                    rw [show z87.toInt.toNat = v38.toInt.toNat - 1 by omega] at q
                    have q2 : sq_lk ys90 (v38.toInt.toNat - 1) = (ys90.getD (v38.toInt.toNat - 1) 0).toInt := rfl
                    omega) (by omega)
            · refine v_aload_n rfl rfl ?_
              refine v_iload rfl rfl ?_
              refine v_callV rfl (W_X6_addRun_10_x z61 v37 v38 v39 xs41 (by omega) (by omega) (by omega) (by omega) (by omega) (by omega) (by omega) h36 h40 xs41l xs41r hR hI34 hh35) rfl rfl h36 rfl rfl (by omega) (fun rv w98 hq99 => ?_)
              obtain ⟨rfl, hI101, hh102, ⟨m103, ys104, m103e, h105, h106, ys104l, ys104r, ys104g, ys104n⟩⟩ := hq99
              refine v_aload_n rfl rfl ?_
              refine v_get rfl h105 rfl ?_
              refine v_aload_n rfl rfl ?_
              refine v_get rfl h105 rfl ?_
              refine v_iconst (v := 1) rfl (by decide) ?_
              refine r_isub rfl (by omega) (by omega) (fun z107 z107e => ?_)
              skip
              refine v_dup2 rfl rfl ?_
              refine r_iaload rfl h106 ys104l (by omega) (by omega) (fun z108 z108m z108g => ?_)
              obtain ⟨z108a, z108b⟩ := ys104r z108 z108m
              have z99h : z108.toInt = 0 := by
                have q := congrArg Int32.toInt z108g
                rw [show z107.toInt.toNat = v38.toInt.toNat by omega] at q
                omega
              refine v_iconst (v := 1) rfl (by decide) ?_
              refine r_iadd rfl (by omega) (by omega) (fun z109 z109e => ?_)
              refine r_iastx rfl h106 ys104l (by omega) (by omega) (fun ys110 ys110l ys110m ys110g ys110n => ?_)
              have ys110r := r_rng ys110m ys104r (by omega) (by omega)
              refine r_gen (w' := w98.set 12 (.inl (0, .inl ys110))) (fun w111 e112 => ?_)
              have hI113 : pm_IX gi ga w111 := by rw [e112]; exact hI101.set 12 (by decide) ⟨ys110, ys110l, ys110r, rfl⟩
              have hh114 : pm_hi w0 w111 := by rw [e112]; exact hh102.set (by decide) _
              have h115 := r_get_ne e112 (show 12 ≠ 10 by decide) h105
              have h116 := r_get_eq e112 h106
              refine r_iinc rfl rfl (by decide) (by omega) (by omega) (fun z117 z117e => ?_)
              refine v_goto rfl ?_
              exact ih43_42 z117 (.int z61) w111 v37 m103 v39 ys110 hI113 hh114 h115 h116 ys110l ys110r (by omega) (by omega) (by omega) (by omega) (by omega) (by omega) (by omega) (by omega) (by omega) (by omega) (by omega) (by omega) (by
                  rw [show z117.toInt.toNat = l31.toInt.toNat + 1 by omega, show m103.toInt.toNat = v38.toInt.toNat + 1 by omega]
                  obtain ⟨o9, ho9⟩ := t56
                  refine ⟨_, fs_lay.add ho9 ?_ (by omega) (fun i hi => ?_) ?_⟩
                  · first
                    | exact Or.inl (by omega)
                    | (refine Or.inr ?_
                       rw [← z61k]
                       rcases z85p2 with g | g
                       · exact g.2
                       · exact absurd g.1 (by omega))
                  · unfold sq_lk; rw [ys110n i (by omega), ys104n i (by omega)]
                  · have q := congrArg Int32.toInt ys110g
                    rw [show z107.toInt.toNat = v38.toInt.toNat by omega] at q
                    have q2 : sq_lk ys110 v38.toInt.toNat = (ys110.getD v38.toInt.toNat 0).toInt := rfl
                    omega) (by omega)
    exact L42 _ (0 : Int32) (.null) w22 (gi 0) (0 : Int32) (0 : Int32) xs30 hI24 hh25 h27 h29 xs30l xs30r (by omega) (by omega) (by omega) (by omega) (by omega) (by omega) (by omega) (by omega) (by omega) (by omega) (by omega) (by omega) (by exact ⟨fun _ => 0, fun i hi => by rw [show (0 : Int32).toInt.toNat = 0 from rfl] at hi; omega, fun j hj => by rw [show (0 : Int32).toInt.toNat = 0 from rfl] at hj; omega, fun i hi => by rw [show (0 : Int32).toInt.toNat = 0 from rfl] at hi; omega, fun hi => by rw [show (0 : Int32).toInt.toNat = 0 from rfl] at hi; omega, fun hi => by rw [show (0 : Int32).toInt.toNat = 0 from rfl] at hi; omega⟩) (Nat.lt_add_one _)
  · refine v_iconst (v := 1) rfl (by decide) ?_
    refine v_goto rfl ?_
    refine v_put rfl h17 (r_okZ (by omega)) (Nat.le_of_ble_eq_true rfl) ?_
    refine r_gen (w' := w12.set 10 (.inr (6, [.int (gi 0), .int (0 : Int32), .int (1 : Int32), .ref 11, .ref 12, .ref 13]))) (fun w118 e119 => ?_)
    have hI120 : pm_IX gi ga w118 := by rw [e119]; exact hI14.set 10 (by decide) ⟨(gi 0), (0 : Int32), (1 : Int32), ⟨by omega, by omega⟩, ⟨by omega, by omega⟩, ((show (1 : Int32).toInt = 0 ∨ (1 : Int32).toInt = 1 by omega).imp i_eq.mpr i_eq.mpr), rfl⟩
    have hh121 : pm_hi w0 w118 := by rw [e119]; exact hh15.set (by decide) _
    have h122 := r_get_ne e119 (show 10 ≠ 1 by decide) h16
    have h123 := r_get_eq e119 h17
    refine v_iconst (v := 0) rfl (by decide) ?_
    refine v_iload_n rfl rfl ?_
    refine r_max rfl (by omega) rfl (fun z124 z124a z124b z124c => ?_)
    have hF : fs_F (fs_c (ga 15) y.toInt.toNat) (gi 0).toInt.toNat z124.toInt.toNat := by
      rcases z20p2 with ⟨g1, g2⟩ | ⟨g1, g2, g3⟩
      · exact Or.inl ⟨by omega, g2⟩
      · refine Or.inr ⟨by omega, ?_⟩
        rw [show z124.toInt.toNat = z20.toInt.toNat by omega]
        exact ⟨g2, g3⟩
    refine v_istore rfl (Nat.le_of_ble_eq_true rfl) ?_
    refine v_iconst (v := 0) rfl (by decide) ?_
    refine v_istore rfl (Nat.le_of_ble_eq_true rfl) ?_
    obtain ⟨xs126, xs126l, xs126r, h125⟩ := hI120.2 12 (by decide)
    have L138 : ∀ (n138 : Nat) (l127 : Int32) (u128 : Value) (w129 : pm_W) (v133 : Int32) (v134 : Int32) (v135 : Int32) (xs137 : List Int32), pm_IX gi ga w129 → pm_hi w0 w129 → w129[10]? = some (.inr (6, [.int v133, .int v134, .int v135, .ref 11, .ref 12, .ref 13])) → w129[12]? = some (.inl (0, .inl xs137)) → xs137.length = 20 → (∀ x ∈ xs137, pm_rng x (0) 20) → 0 ≤ l127.toInt → l127.toInt ≤ 20 → 1 ≤ v133.toInt → v133.toInt ≤ 20 → 0 ≤ v134.toInt → v134.toInt ≤ 20 → 0 ≤ v135.toInt → v135.toInt ≤ 1 → (v133.toInt = (gi 0).toInt) → (v134.toInt ≤ l127.toInt) → (l127.toInt ≤ (gi 0).toInt) → (1 ≤ l127.toInt → 1 ≤ v134.toInt) → (∃ o, fs_lay (fs_S (fs_c (ga 15) y.toInt.toNat) (gi 0).toInt.toNat z124.toInt.toNat) o (sq_lk xs137) l127.toInt.toNat v134.toInt.toNat) → (20 - l127.toInt).toNat < n138 → pm_V sc d 30 43 [.ref 10, .ref 1, .int y, .int z20, .int z124, .int l127, u128] [] w129 (fun rv w' => rv = none ∧ pm_IX gi ga w' ∧ pm_hi w0 w' ∧ ∃ (v0 m v2 : Int32) (ls : List Int32) (F : Nat) (o : Nat → Nat), w'[10]? = some (.inr (6, [.int v0, .int m, .int v2, .ref 11, .ref 12, .ref 13])) ∧ w'[12]? = some (.inl (0, .inl ls)) ∧ ls.length = 20 ∧ (∀ x ∈ ls, pm_rng x (0) 20) ∧ 0 ≤ m.toInt ∧ m.toInt ≤ 20 ∧ 1 ≤ v0.toInt ∧ v0.toInt ≤ 20 ∧ 0 ≤ v2.toInt ∧ v2.toInt ≤ 1 ∧ fs_F (fs_c (ga 15) y.toInt.toNat) (gi 0).toInt.toNat F ∧ fs_lay (fs_S (fs_c (ga 15) y.toInt.toNat) (gi 0).toInt.toNat F) o (sq_lk ls) (gi 0).toInt.toNat m.toInt.toNat) := by
      intro n138
      induction n138 with
      | zero => intro l127 u128 w129 v133 v134 v135 xs137 hI130 hh131 h132 h136 xs137l xs137r t140 t141 t142 t143 t144 t145 t146 t147 t148 t149 t150 t151 t152 hm139; exact absurd hm139 (Nat.not_lt_zero _)
      | succ n138 ih43_138 =>
        intro l127 u128 w129 v133 v134 v135 xs137 hI130 hh131 h132 h136 xs137l xs137r t140 t141 t142 t143 t144 t145 t146 t147 t148 t149 t150 t151 t152 hm139
        refine v_iload rfl rfl ?_
        refine v_aload_n rfl rfl ?_
        refine v_get rfl h132 rfl ?_
        refine r_icmp_ge rfl (fun t153 => ?_) (fun t153 => ?_)
        · obtain ⟨o8, ho8⟩ := t152
          exact v_ret rfl ⟨rfl, hI130, hh131, ⟨v133, v134, v135, xs137, z124.toInt.toNat, o8, h132, h136, xs137l, xs137r, by omega, by omega, by omega, by omega, by omega, by omega, hF, by rw [show l127.toInt.toNat = (gi 0).toInt.toNat by omega] at ho8; exact ho8⟩⟩
        · refine v_iload rfl rfl ?_
          refine v_iload rfl rfl ?_
          refine r_iadd rfl (by omega) (by omega) (fun z154 z154e => ?_)
          refine v_aload_n rfl rfl ?_
          refine v_get rfl h132 rfl ?_
          refine v_callS rfl (W_X11_around_x z154 v133 (by omega) (by omega) (by omega) (by omega) (by omega) hR hI130) rfl rfl rfl rfl rfl (by omega) (fun rv w155 hq156 => ?_)
          obtain ⟨⟨z157, rfl, z157p0, z157p1, z157p2, z157p3⟩, rfl⟩ := hq156
          have z157k : z157.toInt.toNat = (z124.toInt.toNat + l127.toInt.toNat) % (gi 0).toInt.toNat := j_ar (by omega) (by omega) (by omega)
          refine v_istore rfl (Nat.le_of_ble_eq_true rfl) ?_
          refine v_iload rfl rfl ?_
          refine r_if_eq rfl (fun t158 => ?_) (fun t158 => ?_)
          · refine v_aload_n rfl rfl ?_
            refine v_iload rfl rfl ?_
            refine v_callV rfl (W_X6_addRun_10_x z157 v133 v134 v135 xs137 (by omega) (by omega) (by omega) (by omega) (by omega) (by omega) (by omega) h132 h136 xs137l xs137r hR hI130 hh131) rfl rfl h132 rfl rfl (by omega) (fun rv w159 hq160 => ?_)
            obtain ⟨rfl, hI162, hh163, ⟨m164, ys165, m164e, h166, h167, ys165l, ys165r, ys165g, ys165n⟩⟩ := hq160
            refine v_aload_n rfl rfl ?_
            refine v_get rfl h166 rfl ?_
            refine v_aload_n rfl rfl ?_
            refine v_get rfl h166 rfl ?_
            refine v_iconst (v := 1) rfl (by decide) ?_
            refine r_isub rfl (by omega) (by omega) (fun z168 z168e => ?_)
            skip
            refine v_dup2 rfl rfl ?_
            refine r_iaload rfl h167 ys165l (by omega) (by omega) (fun z169 z169m z169g => ?_)
            obtain ⟨z169a, z169b⟩ := ys165r z169 z169m
            have z99h : z169.toInt = 0 := by
              have q := congrArg Int32.toInt z169g
              rw [show z168.toInt.toNat = v134.toInt.toNat by omega] at q
              omega
            refine v_iconst (v := 1) rfl (by decide) ?_
            refine r_iadd rfl (by omega) (by omega) (fun z170 z170e => ?_)
            refine r_iastx rfl h167 ys165l (by omega) (by omega) (fun ys171 ys171l ys171m ys171g ys171n => ?_)
            have ys171r := r_rng ys171m ys165r (by omega) (by omega)
            refine r_gen (w' := w159.set 12 (.inl (0, .inl ys171))) (fun w172 e173 => ?_)
            have hI174 : pm_IX gi ga w172 := by rw [e173]; exact hI162.set 12 (by decide) ⟨ys171, ys171l, ys171r, rfl⟩
            have hh175 : pm_hi w0 w172 := by rw [e173]; exact hh163.set (by decide) _
            have h176 := r_get_ne e173 (show 12 ≠ 10 by decide) h166
            have h177 := r_get_eq e173 h167
            refine r_iinc rfl rfl (by decide) (by omega) (by omega) (fun z178 z178e => ?_)
            refine v_goto rfl ?_
            exact ih43_138 z178 (.int z157) w172 v133 m164 v135 ys171 hI174 hh175 h176 h177 ys171l ys171r (by omega) (by omega) (by omega) (by omega) (by omega) (by omega) (by omega) (by omega) (by omega) (by omega) (by omega) (by omega) (by
                rw [show z178.toInt.toNat = l127.toInt.toNat + 1 by omega, show m164.toInt.toNat = v134.toInt.toNat + 1 by omega]
                obtain ⟨o9, ho9⟩ := t152
                refine ⟨_, fs_lay.add ho9 ?_ (by omega) (fun i hi => ?_) ?_⟩
                · first
                  | exact Or.inl (by omega)
                  | (refine Or.inr ?_
                     rw [← z157k]
                     rcases z85p2 with g | g
                     · exact g.2
                     · exact absurd g.1 (by omega))
                · unfold sq_lk; rw [ys171n i (by omega), ys165n i (by omega)]
                · have q := congrArg Int32.toInt ys171g
                  rw [show z168.toInt.toNat = v134.toInt.toNat by omega] at q
                  have q2 : sq_lk ys171 v134.toInt.toNat = (ys171.getD v134.toInt.toNat 0).toInt := rfl
                  omega) (by omega)
          · refine v_aload_n rfl rfl ?_
            refine v_aload_n rfl rfl ?_
            refine v_iload rfl rfl ?_
            refine v_iload_n rfl rfl ?_
            refine v_callV rfl (W_X6_isStart_10_1_x z157 y v133 v134 v135 (by omega) (by omega) (by omega) (by omega) (by omega) (by omega) (by omega) (by omega) (by omega) (by omega) (by omega) (by omega) h132 hR hI130) rfl rfl h132 rfl rfl (by omega) (fun rv w179 hq180 => ?_)
            obtain ⟨⟨z181, rfl, z181p0, z181p1, z181p2⟩, rfl⟩ := hq180
            skip
            refine r_if_eq rfl (fun t182 => ?_) (fun t182 => ?_)
            · refine v_aload_n rfl rfl ?_
              refine v_get rfl h132 rfl ?_
              refine v_aload_n rfl rfl ?_
              refine v_get rfl h132 rfl ?_
              refine v_iconst (v := 1) rfl (by decide) ?_
              refine r_isub rfl (by omega) (by omega) (fun z183 z183e => ?_)
              skip
              refine v_dup2 rfl rfl ?_
              refine r_iaload rfl h136 xs137l (by omega) (by omega) (fun z184 z184m z184g => ?_)
              obtain ⟨z184a, z184b⟩ := xs137r z184 z184m
              obtain ⟨o9, ho9⟩ := t152
              have q9 := ho9.2.2.2.1 (by omega)
              have z99h : z184.toInt = sq_lk xs137 (v134.toInt.toNat - 1) := by
                rw [show v134.toInt.toNat - 1 = z183.toInt.toNat by omega]
                exact congrArg Int32.toInt z184g
              refine v_iconst (v := 1) rfl (by decide) ?_
              refine r_iadd rfl (by omega) (by omega) (fun z185 z185e => ?_)
              refine r_iastx rfl h136 xs137l (by omega) (by omega) (fun ys186 ys186l ys186m ys186g ys186n => ?_)
              have ys186r := r_rng ys186m xs137r (by omega) (by omega)
              refine r_gen (w' := w129.set 12 (.inl (0, .inl ys186))) (fun w187 e188 => ?_)
              have hI189 : pm_IX gi ga w187 := by rw [e188]; exact hI130.set 12 (by decide) ⟨ys186, ys186l, ys186r, rfl⟩
              have hh190 : pm_hi w0 w187 := by rw [e188]; exact hh131.set (by decide) _
              have h191 := r_get_ne e188 (show 12 ≠ 10 by decide) h132
              have h192 := r_get_eq e188 h136
              refine r_iinc rfl rfl (by decide) (by omega) (by omega) (fun z193 z193e => ?_)
              refine v_goto rfl ?_
              exact ih43_138 z193 (.int z157) w187 v133 v134 v135 ys186 hI189 hh190 h191 h192 ys186l ys186r (by omega) (by omega) (by omega) (by omega) (by omega) (by omega) (by omega) (by omega) (by omega) (by omega) (by omega) (by omega) (by
                  rw [show z193.toInt.toNat = l127.toInt.toNat + 1 by omega]
                  refine ⟨o9, fs_lay.more ho9 (by omega) (fun q => ?_) (fun i hi => ?_) ?_⟩
                  · rcases q with q | q
                    · omega
                    · rw [← z157k] at q
                      rcases z181p2 with g | g
                      · exact absurd g.1 (by omega)
                      · exact g.2 q
                  · unfold sq_lk; rw [ys186n i (by omega)]
                  · have q := congrArg Int32.toInt ys186g
                    rw [show z183.toInt.toNat = v134.toInt.toNat - 1 by omega] at q
                    have q2 : sq_lk ys186 (v134.toInt.toNat - 1) = (ys186.getD (v134.toInt.toNat - 1) 0).toInt := rfl
                    omega) (by omega)
            · refine v_aload_n rfl rfl ?_
              refine v_iload rfl rfl ?_
              refine v_callV rfl (W_X6_addRun_10_x z157 v133 v134 v135 xs137 (by omega) (by omega) (by omega) (by omega) (by omega) (by omega) (by omega) h132 h136 xs137l xs137r hR hI130 hh131) rfl rfl h132 rfl rfl (by omega) (fun rv w194 hq195 => ?_)
              obtain ⟨rfl, hI197, hh198, ⟨m199, ys200, m199e, h201, h202, ys200l, ys200r, ys200g, ys200n⟩⟩ := hq195
              refine v_aload_n rfl rfl ?_
              refine v_get rfl h201 rfl ?_
              refine v_aload_n rfl rfl ?_
              refine v_get rfl h201 rfl ?_
              refine v_iconst (v := 1) rfl (by decide) ?_
              refine r_isub rfl (by omega) (by omega) (fun z203 z203e => ?_)
              skip
              refine v_dup2 rfl rfl ?_
              refine r_iaload rfl h202 ys200l (by omega) (by omega) (fun z204 z204m z204g => ?_)
              obtain ⟨z204a, z204b⟩ := ys200r z204 z204m
              have z99h : z204.toInt = 0 := by
                have q := congrArg Int32.toInt z204g
                rw [show z203.toInt.toNat = v134.toInt.toNat by omega] at q
                omega
              refine v_iconst (v := 1) rfl (by decide) ?_
              refine r_iadd rfl (by omega) (by omega) (fun z205 z205e => ?_)
              refine r_iastx rfl h202 ys200l (by omega) (by omega) (fun ys206 ys206l ys206m ys206g ys206n => ?_)
              have ys206r := r_rng ys206m ys200r (by omega) (by omega)
              refine r_gen (w' := w194.set 12 (.inl (0, .inl ys206))) (fun w207 e208 => ?_)
              have hI209 : pm_IX gi ga w207 := by rw [e208]; exact hI197.set 12 (by decide) ⟨ys206, ys206l, ys206r, rfl⟩
              have hh210 : pm_hi w0 w207 := by rw [e208]; exact hh198.set (by decide) _
              have h211 := r_get_ne e208 (show 12 ≠ 10 by decide) h201
              have h212 := r_get_eq e208 h202
              refine r_iinc rfl rfl (by decide) (by omega) (by omega) (fun z213 z213e => ?_)
              refine v_goto rfl ?_
              exact ih43_138 z213 (.int z157) w207 v133 m199 v135 ys206 hI209 hh210 h211 h212 ys206l ys206r (by omega) (by omega) (by omega) (by omega) (by omega) (by omega) (by omega) (by omega) (by omega) (by omega) (by omega) (by omega) (by
                  rw [show z213.toInt.toNat = l127.toInt.toNat + 1 by omega, show m199.toInt.toNat = v134.toInt.toNat + 1 by omega]
                  obtain ⟨o9, ho9⟩ := t152
                  refine ⟨_, fs_lay.add ho9 ?_ (by omega) (fun i hi => ?_) ?_⟩
                  · first
                    | exact Or.inl (by omega)
                    | (refine Or.inr ?_
                       rw [← z157k]
                       rcases z181p2 with g | g
                       · exact g.2
                       · exact absurd g.1 (by omega))
                  · unfold sq_lk; rw [ys206n i (by omega), ys200n i (by omega)]
                  · have q := congrArg Int32.toInt ys206g
                    rw [show z203.toInt.toNat = v134.toInt.toNat by omega] at q
                    have q2 : sq_lk ys206 v134.toInt.toNat = (ys206.getD v134.toInt.toNat 0).toInt := rfl
                    omega) (by omega)
    exact L138 _ (0 : Int32) (.null) w118 (gi 0) (0 : Int32) (1 : Int32) xs126 hI120 hh121 h123 h125 xs126l xs126r (by omega) (by omega) (by omega) (by omega) (by omega) (by omega) (by omega) (by omega) (by omega) (by omega) (by omega) (by omega) (by exact ⟨fun _ => 0, fun i hi => by rw [show (0 : Int32).toInt.toNat = 0 from rfl] at hi; omega, fun j hj => by rw [show (0 : Int32).toInt.toNat = 0 from rfl] at hj; omega, fun i hi => by rw [show (0 : Int32).toInt.toNat = 0 from rfl] at hi; omega, fun hi => by rw [show (0 : Int32).toInt.toNat = 0 from rfl] at hi; omega, fun hi => by rw [show (0 : Int32).toInt.toNat = 0 from rfl] at hi; omega⟩) (Nat.lt_add_one _)
set_option maxRecDepth 100000 in
theorem W_X6_longerThan_10_x {sc : pm_S} {w : pm_W} {gi : Nat → Int32} {ga : Nat → List Int32} (n : Int32) (c10_0 : Int32) (c10_1 : Int32) (c10_2 : Int32) (c12 : List Int32) (p0 : 1 ≤ c10_0.toInt) (p1 : c10_0.toInt ≤ 20) (p2 : 0 ≤ c10_1.toInt) (p3 : c10_1.toInt ≤ 20) (p4 : 0 ≤ c10_2.toInt) (p5 : c10_2.toInt ≤ 1) (hc10 : w[10]? = some (.inr (6, [.int c10_0, .int c10_1, .int c10_2, .ref 11, .ref 12, .ref 13]))) (hc12 : w[12]? = some (.inl (0, .inl c12))) (hl12 : c12.length = 20) (hr12 : ∀ x ∈ c12, pm_rng x (0) 20) (hR : pm_Rg gi ga) (hI : pm_IX gi ga w) : pm_Mt sc 0 31 4 [.ref 10, .int n] w (fun rv w' => pm_wI (fun v => 0 ≤ v.toInt ∧ (∀ (S : Nat → Prop) (W : Nat) (o : Nat → Nat), fs_lay S o (sq_lk c12) W c10_1.toInt.toNat → fs_fold S W (fs_hc n.toInt) W v.toInt.toNat)) rv ∧ w = w') := by
  intro d hd
  obtain ⟨g0a, g0b⟩ := hR.n0
  obtain ⟨g1a, g1b⟩ := hR.n1
  obtain ⟨g2a, g2b⟩ := hR.n2
  obtain ⟨g3a, g3b⟩ := hR.n3
  obtain ⟨g4a, g4b⟩ := hR.n4
  obtain ⟨g5a, g5b⟩ := hR.n5
  obtain ⟨g6a, g6b⟩ := hR.n6
  obtain ⟨g7a, g7b⟩ := hR.n7
  obtain ⟨g8a, g8b⟩ := hR.n8
  have k0 : (0 : Int32).toInt = 0 := by decide
  show pm_V sc d 31 0 [.ref 10, .int n, .null, .null] [] w _
  refine v_iconst (v := 0) rfl (by decide) ?_
  refine v_istore_n rfl (Nat.le_of_ble_eq_true rfl) ?_
  refine v_iconst (v := 0) rfl (by decide) ?_
  refine v_istore_n rfl (Nat.le_of_ble_eq_true rfl) ?_
  have L3 : ∀ (n3 : Nat) (l1 : Int32) (l2 : Int32), 0 ≤ l1.toInt → l1.toInt ≤ 20 → 0 ≤ l2.toInt → l2.toInt ≤ 20 → (l2.toInt ≤ c10_1.toInt) → (l1.toInt ≤ l2.toInt) → ((∀ (S : Nat → Prop) (W : Nat) (o : Nat → Nat), fs_lay S o (sq_lk c12) W c10_1.toInt.toNat → fs_fold S W (fs_hc n.toInt) (if l2.toInt.toNat < c10_1.toInt.toNat then o l2.toInt.toNat else W) l1.toInt.toNat)) → (20 - l2.toInt).toNat < n3 → pm_V sc d 31 4 [.ref 10, .int n, .int l1, .int l2] [] w (fun rv w' => pm_wI (fun v => 0 ≤ v.toInt ∧ (∀ (S : Nat → Prop) (W : Nat) (o : Nat → Nat), fs_lay S o (sq_lk c12) W c10_1.toInt.toNat → fs_fold S W (fs_hc n.toInt) W v.toInt.toNat)) rv ∧ w = w') := by
    intro n3
    induction n3 with
    | zero => intro l1 l2 t5 t6 t7 t8 t9 t10 t11 hm4; exact absurd hm4 (Nat.not_lt_zero _)
    | succ n3 ih4_3 =>
      intro l1 l2 t5 t6 t7 t8 t9 t10 t11 hm4
      refine v_iload_n rfl rfl ?_
      refine v_aload_n rfl rfl ?_
      refine v_get rfl hc10 rfl ?_
      refine r_icmp_ge rfl (fun t12 => ?_) (fun t12 => ?_)
      · refine v_iload_n rfl rfl ?_
        exact v_iret rfl ⟨⟨_, rfl, (by omega), (by
            intro S W o a
            have q := t11 S W o a
            rw [if_neg (by omega)] at q
            exact q)⟩, rfl⟩
      · refine v_aload_n rfl rfl ?_
        refine v_get rfl hc10 rfl ?_
        refine v_iload_n rfl rfl ?_
        refine r_iaload rfl hc12 hl12 (by omega) (by omega) (fun z13 z13m z13g => ?_)
        obtain ⟨z13a, z13b⟩ := hr12 z13 z13m
        skip
        refine v_iload_n rfl rfl ?_
        refine r_icmp_le rfl (fun t14 => ?_) (fun t14 => ?_)
        · refine r_iinc rfl rfl (by decide) (by omega) (by omega) (fun z15 z15e => ?_)
          refine v_goto rfl ?_
          exact ih4_3 l1 z15 (by omega) (by omega) (by omega) (by omega) (by omega) (by omega) (by exact fun S W o a => a.next (i := l2.toInt.toNat) (by omega) (show z15.toInt.toNat = l2.toInt.toNat + 1 by omega) (t11 S W o a) (by unfold fs_hc sq_lk; rw [← z13g]; split <;> omega)) (by omega)
        · refine r_iinc rfl rfl (by decide) (by omega) (by omega) (fun z16 z16e => ?_)
          refine r_iinc rfl rfl (by decide) (by omega) (by omega) (fun z17 z17e => ?_)
          refine v_goto rfl ?_
          exact ih4_3 z16 z17 (by omega) (by omega) (by omega) (by omega) (by omega) (by omega) (by exact fun S W o a => a.next (i := l2.toInt.toNat) (by omega) (show z17.toInt.toNat = l2.toInt.toNat + 1 by omega) (t11 S W o a) (by unfold fs_hc sq_lk; rw [← z13g]; split <;> omega)) (by omega)
  exact L3 _ (0 : Int32) (0 : Int32) (by omega) (by omega) (by omega) (by omega) (by omega) (by omega) (by exact fun S W o a => a.first _ _ rfl rfl) (Nat.lt_add_one _)
set_option maxRecDepth 100000 in
theorem W_X6_longest_10_x {sc : pm_S} {w : pm_W} {gi : Nat → Int32} {ga : Nat → List Int32} (c10_0 : Int32) (c10_1 : Int32) (c10_2 : Int32) (c12 : List Int32) (p0 : 1 ≤ c10_0.toInt) (p1 : c10_0.toInt ≤ 20) (p2 : 0 ≤ c10_1.toInt) (p3 : c10_1.toInt ≤ 20) (p4 : 0 ≤ c10_2.toInt) (p5 : c10_2.toInt ≤ 1) (hc10 : w[10]? = some (.inr (6, [.int c10_0, .int c10_1, .int c10_2, .ref 11, .ref 12, .ref 13]))) (hc12 : w[12]? = some (.inl (0, .inl c12))) (hl12 : c12.length = 20) (hr12 : ∀ x ∈ c12, pm_rng x (0) 20) (hR : pm_Rg gi ga) (hI : pm_IX gi ga w) : pm_Mt sc 1 32 3 [.ref 10] w (fun rv w' => pm_wI (fun v => 0 ≤ v.toInt ∧ (∀ (S : Nat → Prop) (W : Nat) (o : Nat → Nat), fs_lay S o (sq_lk c12) W c10_1.toInt.toNat → fs_fold S W fs_hm W v.toInt.toNat)) rv ∧ w = w') := by
  intro d hd
  obtain ⟨g0a, g0b⟩ := hR.n0
  obtain ⟨g1a, g1b⟩ := hR.n1
  obtain ⟨g2a, g2b⟩ := hR.n2
  obtain ⟨g3a, g3b⟩ := hR.n3
  obtain ⟨g4a, g4b⟩ := hR.n4
  obtain ⟨g5a, g5b⟩ := hR.n5
  obtain ⟨g6a, g6b⟩ := hR.n6
  obtain ⟨g7a, g7b⟩ := hR.n7
  obtain ⟨g8a, g8b⟩ := hR.n8
  have k0 : (0 : Int32).toInt = 0 := by decide
  show pm_V sc d 32 0 [.ref 10, .null, .null] [] w _
  refine v_iconst (v := 0) rfl (by decide) ?_
  refine v_istore_n rfl (Nat.le_of_ble_eq_true rfl) ?_
  refine v_iconst (v := 0) rfl (by decide) ?_
  refine v_istore_n rfl (Nat.le_of_ble_eq_true rfl) ?_
  have L3 : ∀ (n3 : Nat) (l1 : Int32) (l2 : Int32), 0 ≤ l1.toInt → l1.toInt ≤ 20 → 0 ≤ l2.toInt → l2.toInt ≤ 20 → (l2.toInt ≤ c10_1.toInt) → ((∀ (S : Nat → Prop) (W : Nat) (o : Nat → Nat), fs_lay S o (sq_lk c12) W c10_1.toInt.toNat → fs_fold S W fs_hm (if l2.toInt.toNat < c10_1.toInt.toNat then o l2.toInt.toNat else W) l1.toInt.toNat)) → (20 - l2.toInt).toNat < n3 → pm_V sc d 32 4 [.ref 10, .int l1, .int l2] [] w (fun rv w' => pm_wI (fun v => 0 ≤ v.toInt ∧ (∀ (S : Nat → Prop) (W : Nat) (o : Nat → Nat), fs_lay S o (sq_lk c12) W c10_1.toInt.toNat → fs_fold S W fs_hm W v.toInt.toNat)) rv ∧ w = w') := by
    intro n3
    induction n3 with
    | zero => intro l1 l2 t5 t6 t7 t8 t9 t10 hm4; exact absurd hm4 (Nat.not_lt_zero _)
    | succ n3 ih4_3 =>
      intro l1 l2 t5 t6 t7 t8 t9 t10 hm4
      refine v_iload_n rfl rfl ?_
      refine v_aload_n rfl rfl ?_
      refine v_get rfl hc10 rfl ?_
      refine r_icmp_ge rfl (fun t11 => ?_) (fun t11 => ?_)
      · refine v_iload_n rfl rfl ?_
        exact v_iret rfl ⟨⟨_, rfl, (by omega), (by
            intro S W o a
            have q := t10 S W o a
            rw [if_neg (by omega)] at q
            exact q)⟩, rfl⟩
      · refine v_iload_n rfl rfl ?_
        refine v_aload_n rfl rfl ?_
        refine v_get rfl hc10 rfl ?_
        refine v_iload_n rfl rfl ?_
        refine r_iaload rfl hc12 hl12 (by omega) (by omega) (fun z12 z12m z12g => ?_)
        obtain ⟨z12a, z12b⟩ := hr12 z12 z12m
        skip
        refine r_max rfl (by omega) rfl (fun z13 z13a z13b z13c => ?_)
        refine v_istore_n rfl (Nat.le_of_ble_eq_true rfl) ?_
        refine r_iinc rfl rfl (by decide) (by omega) (by omega) (fun z14 z14e => ?_)
        refine v_goto rfl ?_
        exact ih4_3 z13 z14 (by omega) (by omega) (by omega) (by omega) (by omega) (by exact fun S W o a => a.next (i := l2.toInt.toNat) (by omega) (show z14.toInt.toNat = l2.toInt.toNat + 1 by omega) (t10 S W o a) (by unfold fs_hm sq_lk; rw [← z12g]; omega)) (by omega)
  exact L3 _ (0 : Int32) (0 : Int32) (by omega) (by omega) (by omega) (by omega) (by omega) (by exact fun S W o a => a.first _ _ rfl rfl) (Nat.lt_add_one _)
set_option maxRecDepth 100000 in
theorem W_X11_floats_0_x {sc : pm_S} {w w0 : pm_W} {gi : Nat → Int32} {ga : Nat → List Int32} (y : Int32) (k : Int32)  (hR : pm_Rg gi ga) (hI : pm_IX gi ga w) (hh : pm_hi w0 w) : pm_Mt sc 4 83 3 [.ref 0, .int y, .int k] w (fun rv w' => pm_wI (fun v => sq_Pfloats gi ga y k v) rv ∧ pm_IX gi ga w' ∧ pm_hi w0 w') := by
  intro d hd
  obtain ⟨g0a, g0b⟩ := hR.n0
  obtain ⟨g1a, g1b⟩ := hR.n1
  obtain ⟨g2a, g2b⟩ := hR.n2
  obtain ⟨g3a, g3b⟩ := hR.n3
  obtain ⟨g4a, g4b⟩ := hR.n4
  obtain ⟨g5a, g5b⟩ := hR.n5
  obtain ⟨g6a, g6b⟩ := hR.n6
  obtain ⟨g7a, g7b⟩ := hR.n7
  obtain ⟨g8a, g8b⟩ := hR.n8
  have km2 : (-2 : Int32).toInt = -2 := by decide
  have km1 : (-1 : Int32).toInt = -1 := by decide
  have k2 : (2 : Int32).toInt = 2 := by decide
  show pm_V sc d 83 0 [.ref 0, .int y, .int k] [] w _
  refine v_iload_n rfl rfl ?_
  refine v_aload_n rfl rfl ?_
  obtain ⟨v2, ⟨v2z, v2e⟩, h1⟩ := hI.2 0 (by decide)
  have v2z := v2z.imp i_eq.mp i_eq.mp
  rw [i_0, i_1] at v2z
  refine v_get rfl h1 rfl ?_
  have h3 : _ = some _ := hI.2 1 (by decide)
  refine v_get rfl h3 rfl ?_
  refine v_callS rfl (W_X11_isPlace y (gi 1) hR hI) rfl rfl rfl rfl rfl (by omega) (fun rv w4 hq5 => ?_)
  obtain ⟨⟨z6, rfl, z6p0⟩, rfl⟩ := hq5
  refine r_if_ne rfl (fun t7 => ?_) (fun t7 => ?_)
  · refine v_iload_n rfl rfl ?_
    refine v_iconst (v := 2) rfl (by decide) ?_
    refine v_callS rfl (W_X11_isPlace k (2 : Int32) hR hI) rfl rfl rfl rfl rfl (by omega) (fun rv w8 hq9 => ?_)
    obtain ⟨⟨z10, rfl, z10p0⟩, rfl⟩ := hq9
    refine r_if_ne rfl (fun t11 => ?_) (fun t11 => ?_)
    · refine v_aload_n rfl rfl ?_
      refine v_get rfl h1 rfl ?_
      refine v_aload_n rfl rfl ?_
      refine v_get rfl h1 rfl ?_
      refine v_iload_n rfl rfl ?_
      obtain ⟨v13, v14, v15, ⟨v13a, v13b⟩, ⟨v14a, v14b⟩, v15z, h12⟩ := hI.2 10 (by decide)
      have v15z := v15z.imp i_eq.mp i_eq.mp
      rw [i_0, i_1] at v15z
      refine v_callV rfl (W_X6_readFrom_10_1_x y (by omega) (by omega) hR hI hh) rfl rfl h12 rfl rfl (by omega) (fun rv w16 hq17 => ?_)
      obtain ⟨rfl, hI19, hh20, ⟨v21, m22, v23, ls24, F_ls24, o_ls24, h25, h26, ls24l, ls24r, m22a, m22b, v21a, v21b, v23a, v23b, hF_ls24, hl_ls24⟩⟩ := hq17
      refine v_iload_n rfl rfl ?_
      refine r_if_ne rfl (fun t27 => ?_) (fun t27 => ?_)
      · refine v_aload_n rfl rfl ?_
        obtain ⟨v29, ⟨v29z, v29e⟩, h28⟩ := hI19.2 0 (by decide)
        have v29z := v29z.imp i_eq.mp i_eq.mp
        rw [i_0, i_1] at v29z
        refine v_get rfl h28 rfl ?_
        refine v_callV rfl (W_X6_longest_10_x v21 m22 v23 ls24 (by omega) (by omega) (by omega) (by omega) (by omega) (by omega) h25 h26 ls24l ls24r hR hI19) rfl rfl h25 rfl rfl (by omega) (fun rv w30 hq31 => ?_)
        obtain ⟨⟨z32, rfl, z32p0, z32p1⟩, rfl⟩ := hq31
        exact v_iret rfl ⟨⟨_, rfl, (by
            first
            | exact Or.inr ⟨by omega, Or.inr (Or.inl ⟨by omega, by omega, F_ls24, hF_ls24, z32p1 _ _ _ hl_ls24⟩)⟩
            | exact Or.inr ⟨by omega, Or.inr (Or.inr ⟨by omega, by omega, F_ls24, hF_ls24, z32p1 _ _ _ hl_ls24⟩)⟩)⟩, hI19, hh20⟩
      · refine v_aload_n rfl rfl ?_
        obtain ⟨v34, ⟨v34z, v34e⟩, h33⟩ := hI19.2 0 (by decide)
        have v34z := v34z.imp i_eq.mp i_eq.mp
        rw [i_0, i_1] at v34z
        refine v_get rfl h33 rfl ?_
        refine v_aload_n rfl rfl ?_
        refine v_get rfl h33 rfl ?_
        refine v_callV rfl (W_X6_longerThan_10_x (gi 2) v21 m22 v23 ls24 (by omega) (by omega) (by omega) (by omega) (by omega) (by omega) h25 h26 ls24l ls24r hR hI19) rfl rfl h25 rfl rfl (by omega) (fun rv w35 hq36 => ?_)
        obtain ⟨⟨z37, rfl, z37p0, z37p1⟩, rfl⟩ := hq36
        refine v_goto rfl ?_
        exact v_iret rfl ⟨⟨_, rfl, (by
            first
            | exact Or.inr ⟨by omega, Or.inr (Or.inl ⟨by omega, by omega, F_ls24, hF_ls24, z37p1 _ _ _ hl_ls24⟩)⟩
            | exact Or.inr ⟨by omega, Or.inr (Or.inr ⟨by omega, by omega, F_ls24, hF_ls24, z37p1 _ _ _ hl_ls24⟩)⟩)⟩, hI19, hh20⟩
    · refine v_aload_n rfl rfl ?_
      refine v_bipush (v := (-2)) rfl (by decide) ?_
      refine v_callV rfl (c_X_refuse (-2 : Int32) (by unfold pm_isR; first | decide | exact Or.inl rfl) hR hI) rfl rfl h1 rfl rfl (by omega) (fun rv w38 hq39 => ?_)
      obtain ⟨rfl, hI40, hh41x⟩ := hq39
      have hI40 : pm_IX gi ga w38 := hI40
      have hh41 := hh.tr hh41x
      exact v_iret rfl ⟨⟨_, rfl, (by exact Or.inr ⟨by omega, Or.inl ⟨by omega, by omega⟩⟩)⟩, hI40, hh41⟩
  · refine v_aload_n rfl rfl ?_
    refine v_iconst (v := (-1)) rfl (by decide) ?_
    refine v_callV rfl (c_X_refuse (-1 : Int32) (by unfold pm_isR; first | decide | exact Or.inl rfl) hR hI) rfl rfl h1 rfl rfl (by omega) (fun rv w42 hq43 => ?_)
    obtain ⟨rfl, hI44, hh45x⟩ := hq43
    have hI44 : pm_IX gi ga w42 := hI44
    have hh45 := hh.tr hh45x
    exact v_iret rfl ⟨⟨_, rfl, (by exact Or.inl ⟨by omega, by omega⟩)⟩, hI44, hh45⟩
set_option maxRecDepth 100000 in
theorem W_X12_isPlain_59_e {sc : pm_S} {w : pm_W} {gi : Nat → Int32} {ga : Nat → List Int32} (y : Int32) (c60 : List Int32) (p0 : y.toInt ≤ 19) (p1 : 0 ≤ y.toInt) (hc60 : w[60]? = some (.inl (0, .inl c60))) (hl60 : c60.length = 400) (hR : pm_Rg gi ga) (hI : pm_IM gi ga w) : pm_Mt sc 1 141 4 [.ref 59, .int y] w (fun rv w' => pm_wI (fun v => 0 ≤ v.toInt ∧ v.toInt ≤ 1 ∧ ((v.toInt = 1 ∧ (∀ x, x < (gi 0).toInt.toNat → (fs_c c60 y.toInt.toNat) x = (fs_c c60 y.toInt.toNat) 0)) ∨ (v.toInt = 0 ∧ ¬ (∀ x, x < (gi 0).toInt.toNat → (fs_c c60 y.toInt.toNat) x = (fs_c c60 y.toInt.toNat) 0)))) rv ∧ w = w') := by
  intro d hd
  obtain ⟨g0a, g0b⟩ := hR.n0
  obtain ⟨g1a, g1b⟩ := hR.n1
  obtain ⟨g2a, g2b⟩ := hR.n2
  obtain ⟨g3a, g3b⟩ := hR.n3
  obtain ⟨g4a, g4b⟩ := hR.n4
  obtain ⟨g5a, g5b⟩ := hR.n5
  obtain ⟨g6a, g6b⟩ := hR.n6
  obtain ⟨g7a, g7b⟩ := hR.n7
  obtain ⟨g8a, g8b⟩ := hR.n8
  have k0 : (0 : Int32).toInt = 0 := by decide
  have k1 : (1 : Int32).toInt = 1 := by decide
  show pm_V sc d 141 0 [.ref 59, .int y, .null, .null] [] w _
  refine v_iconst (v := 1) rfl (by decide) ?_
  refine v_istore_n rfl (Nat.le_of_ble_eq_true rfl) ?_
  refine v_iconst (v := 0) rfl (by decide) ?_
  refine v_istore_n rfl (Nat.le_of_ble_eq_true rfl) ?_
  have L3 : ∀ (n3 : Nat) (l1 : Int32) (l2 : Int32), 0 ≤ l1.toInt → l1.toInt ≤ 1 → 0 ≤ l2.toInt → l2.toInt ≤ 20 → ((l1.toInt = 1 ∧ ∀ x, x < l2.toInt.toNat → (fs_c c60 y.toInt.toNat) x = (fs_c c60 y.toInt.toNat) 0) ∨ (l1.toInt = 0 ∧ ¬ (∀ x, x < (gi 0).toInt.toNat → (fs_c c60 y.toInt.toNat) x = (fs_c c60 y.toInt.toNat) 0))) → (20 - l2.toInt).toNat < n3 → pm_V sc d 141 4 [.ref 59, .int y, .int l1, .int l2] [] w (fun rv w' => pm_wI (fun v => 0 ≤ v.toInt ∧ v.toInt ≤ 1 ∧ ((v.toInt = 1 ∧ (∀ x, x < (gi 0).toInt.toNat → (fs_c c60 y.toInt.toNat) x = (fs_c c60 y.toInt.toNat) 0)) ∨ (v.toInt = 0 ∧ ¬ (∀ x, x < (gi 0).toInt.toNat → (fs_c c60 y.toInt.toNat) x = (fs_c c60 y.toInt.toNat) 0)))) rv ∧ w = w') := by
    intro n3
    induction n3 with
    | zero => intro l1 l2 t5 t6 t7 t8 t9 hm4; exact absurd hm4 (Nat.not_lt_zero _)
    | succ n3 ih4_3 =>
      intro l1 l2 t5 t6 t7 t8 t9 hm4
      refine v_iload_n rfl rfl ?_
      refine v_aload_n rfl rfl ?_
      obtain ⟨v11, v12, v13, v14, v15, v16, v17, v18, ⟨v11z, v11e⟩, ⟨⟨v12a, v12b⟩, v12e⟩, ⟨⟨v13a, v13b⟩, v13e⟩, ⟨v15a, v15b⟩, ⟨v18a, v18b⟩, h10⟩ := hI.2.1 59 (by decide) (by decide)
      have v11z := v11z.imp i_eq.mp i_eq.mp
      rw [i_0, i_1] at v11z
      refine v_get rfl h10 rfl ?_
      refine r_icmp_ge rfl (fun t19 => ?_) (fun t19 => ?_)
      · refine v_iload_n rfl rfl ?_
        exact r_zret rfl (by omega) ⟨⟨_, rfl, (by omega), (by omega), (by
            rcases t9 with g | g
            · exact Or.inl ⟨g.1, fun x hx => g.2 x (by omega)⟩
            · exact Or.inr g)⟩, rfl⟩
      · refine v_iload_n rfl rfl ?_
        refine r_if_eq rfl (fun t20 => ?_) (fun t20 => ?_)
        · refine v_iconst (v := 0) rfl (by decide) ?_
          refine v_istore_n rfl (Nat.le_of_ble_eq_true rfl) ?_
          refine r_iinc rfl rfl (by decide) (by omega) (by omega) (fun z21 z21e => ?_)
          refine v_goto rfl ?_
          exact ih4_3 (0 : Int32) z21 (by omega) (by omega) (by omega) (by omega) (by
              rcases t9 with g | g
              · first
                | exact absurd g.1 (by omega)
                | exact Or.inl ⟨by omega, fun x hx => by
                    by_cases e : x < l2.toInt.toNat
                    · exact g.2 x e
                    · have e2 : x = l2.toInt.toNat := by omega
                      subst e2
                      rw [← qA, show (0 : Nat) = (0 : Int32).toInt.toNat from rfl, ← qA]
                      exact i_eq.mpr (by omega)⟩
                | exact Or.inr ⟨by omega, fun hS => by
                    have q := hS l2.toInt.toNat (by omega)
                    rw [← qA, show (0 : Nat) = (0 : Int32).toInt.toNat from rfl, ← qA] at q
                    have q2 := congrArg Int32.toInt q
                    omega⟩
              · exact Or.inr ⟨by omega, g.2⟩) (by omega)
        · refine v_aload_n rfl rfl ?_
          refine v_iload_n rfl rfl ?_
          refine v_iload_n rfl rfl ?_
          refine v_callV rfl (W_X12_colour_59_x l2 y c60 (by omega) (by omega) (by omega) (by omega) hc60 hl60 hR hI) rfl rfl h10 rfl rfl (by omega) (fun rv w22 hq23 => ?_)
          obtain ⟨⟨z24, rfl, z24p0⟩, rfl⟩ := hq23
          have z24A : z24 = (fs_c c60 y.toInt.toNat) l2.toInt.toNat := i_eq.mpr (by rw [z24p0]; unfold fs_c sq_c; rw [show (20 * y.toInt + l2.toInt).toNat = 20 * y.toInt.toNat + l2.toInt.toNat by omega])
          refine v_aload_n rfl rfl ?_
          refine v_iconst (v := 0) rfl (by decide) ?_
          refine v_iload_n rfl rfl ?_
          refine v_callV rfl (W_X12_colour_59_x (0 : Int32) y c60 (by omega) (by omega) (by omega) (by omega) hc60 hl60 hR hI) rfl rfl h10 rfl rfl (by omega) (fun rv w25 hq26 => ?_)
          obtain ⟨⟨z27, rfl, z27p0⟩, rfl⟩ := hq26
          have z27A : z27 = (fs_c c60 y.toInt.toNat) (0 : Int32).toInt.toNat := i_eq.mpr (by rw [z27p0]; unfold fs_c sq_c; rw [show (20 * y.toInt + (0 : Int32).toInt).toNat = 20 * y.toInt.toNat + (0 : Int32).toInt.toNat by omega])
          refine r_icmp_ne rfl (fun t28 => ?_) (fun t28 => ?_)
          · refine v_iconst (v := 0) rfl (by decide) ?_
            refine v_istore_n rfl (Nat.le_of_ble_eq_true rfl) ?_
            refine r_iinc rfl rfl (by decide) (by omega) (by omega) (fun z29 z29e => ?_)
            refine v_goto rfl ?_
            exact ih4_3 (0 : Int32) z29 (by omega) (by omega) (by omega) (by omega) (by
                rcases t9 with g | g
                · first
                  | exact absurd g.1 (by omega)
                  | exact Or.inl ⟨by omega, fun x hx => by
                      by_cases e : x < l2.toInt.toNat
                      · exact g.2 x e
                      · have e2 : x = l2.toInt.toNat := by omega
                        subst e2
                        rw [← z24A, show (0 : Nat) = (0 : Int32).toInt.toNat from rfl, ← z27A]
                        exact i_eq.mpr (by omega)⟩
                  | exact Or.inr ⟨by omega, fun hS => by
                      have q := hS l2.toInt.toNat (by omega)
                      rw [← z24A, show (0 : Nat) = (0 : Int32).toInt.toNat from rfl, ← z27A] at q
                      have q2 := congrArg Int32.toInt q
                      omega⟩
                · exact Or.inr ⟨by omega, g.2⟩) (by omega)
          · refine v_iconst (v := 1) rfl (by decide) ?_
            refine v_goto rfl ?_
            refine v_istore_n rfl (Nat.le_of_ble_eq_true rfl) ?_
            refine r_iinc rfl rfl (by decide) (by omega) (by omega) (fun z30 z30e => ?_)
            refine v_goto rfl ?_
            exact ih4_3 (1 : Int32) z30 (by omega) (by omega) (by omega) (by omega) (by
                rcases t9 with g | g
                · first
                  | exact absurd g.1 (by omega)
                  | exact Or.inl ⟨by omega, fun x hx => by
                      by_cases e : x < l2.toInt.toNat
                      · exact g.2 x e
                      · have e2 : x = l2.toInt.toNat := by omega
                        subst e2
                        rw [← z24A, show (0 : Nat) = (0 : Int32).toInt.toNat from rfl, ← z27A]
                        exact i_eq.mpr (by omega)⟩
                  | exact Or.inr ⟨by omega, fun hS => by
                      have q := hS l2.toInt.toNat (by omega)
                      rw [← z24A, show (0 : Nat) = (0 : Int32).toInt.toNat from rfl, ← z27A] at q
                      have q2 := congrArg Int32.toInt q
                      omega⟩
                · exact Or.inr ⟨by omega, g.2⟩) (by omega)
  exact L3 _ (1 : Int32) (0 : Int32) (by omega) (by omega) (by omega) (by omega) (by exact Or.inl ⟨rfl, fun x hx => by rw [show (0 : Int32).toInt.toNat = 0 from rfl] at hx; omega⟩) (Nat.lt_add_one _)
set_option maxRecDepth 100000 in
theorem W_X12_begins_59_e {sc : pm_S} {w : pm_W} {gi : Nat → Int32} {ga : Nat → List Int32} (x : Int32) (y : Int32) (c60 : List Int32) (p0 : y.toInt ≤ 19) (p1 : 0 ≤ y.toInt) (p2 : x.toInt ≤ 19) (p3 : 0 ≤ x.toInt) (p4 : x.toInt < (gi 0).toInt) (hc60 : w[60]? = some (.inl (0, .inl c60))) (hl60 : c60.length = 400) (hR : pm_Rg gi ga) (hI : pm_IM gi ga w) : pm_Mt sc 1 139 3 [.ref 59, .int x, .int y] w (fun rv w' => pm_wI (fun v => 0 ≤ v.toInt ∧ v.toInt ≤ 1 ∧ ((v.toInt = 1 ∧ fs_st (fs_c c60 y.toInt.toNat) (gi 0).toInt.toNat x.toInt.toNat) ∨ (v.toInt = 0 ∧ ¬ fs_st (fs_c c60 y.toInt.toNat) (gi 0).toInt.toNat x.toInt.toNat))) rv ∧ w = w') := by
  intro d hd
  obtain ⟨g0a, g0b⟩ := hR.n0
  obtain ⟨g1a, g1b⟩ := hR.n1
  obtain ⟨g2a, g2b⟩ := hR.n2
  obtain ⟨g3a, g3b⟩ := hR.n3
  obtain ⟨g4a, g4b⟩ := hR.n4
  obtain ⟨g5a, g5b⟩ := hR.n5
  obtain ⟨g6a, g6b⟩ := hR.n6
  obtain ⟨g7a, g7b⟩ := hR.n7
  obtain ⟨g8a, g8b⟩ := hR.n8
  have k0 : (0 : Int32).toInt = 0 := by decide
  have k1 : (1 : Int32).toInt = 1 := by decide
  show pm_V sc d 139 0 [.ref 59, .int x, .int y] [] w _
  refine v_aload_n rfl rfl ?_
  refine v_iload_n rfl rfl ?_
  refine v_aload_n rfl rfl ?_
  obtain ⟨v2, v3, v4, v5, v6, v7, v8, v9, ⟨v2z, v2e⟩, ⟨⟨v3a, v3b⟩, v3e⟩, ⟨⟨v4a, v4b⟩, v4e⟩, ⟨v6a, v6b⟩, ⟨v9a, v9b⟩, h1⟩ := hI.2.1 59 (by decide) (by decide)
  have v2z := v2z.imp i_eq.mp i_eq.mp
  rw [i_0, i_1] at v2z
  refine v_get rfl h1 rfl ?_
  refine r_iadd rfl (by omega) (by omega) (fun z10 z10e => ?_)
  refine v_iconst (v := 1) rfl (by decide) ?_
  refine r_isub rfl (by omega) (by omega) (fun z11 z11e => ?_)
  skip
  refine v_aload_n rfl rfl ?_
  refine v_get rfl h1 rfl ?_
  refine r_irem rfl (by omega) (by omega) (fun z12 z12m z12a z12b z12c => ?_)
  have z12k := j_em z12m (by omega) (by omega)
  rw [show z11.toInt.toNat = x.toInt.toNat + (gi 0).toInt.toNat - 1 by omega] at z12k
  refine v_iload_n rfl rfl ?_
  refine v_callV rfl (W_X12_colour_59_x z12 y c60 (by omega) (by omega) (by omega) (by omega) hc60 hl60 hR hI) rfl rfl h1 rfl rfl (by omega) (fun rv w13 hq14 => ?_)
  obtain ⟨⟨z15, rfl, z15p0⟩, rfl⟩ := hq14
  have z15A : z15 = (fs_c c60 y.toInt.toNat) z12.toInt.toNat := i_eq.mpr (by rw [z15p0]; unfold fs_c sq_c; rw [show (20 * y.toInt + z12.toInt).toNat = 20 * y.toInt.toNat + z12.toInt.toNat by omega])
  refine v_aload_n rfl rfl ?_
  refine v_iload_n rfl rfl ?_
  refine v_iload_n rfl rfl ?_
  refine v_callV rfl (W_X12_colour_59_x x y c60 (by omega) (by omega) (by omega) (by omega) hc60 hl60 hR hI) rfl rfl h1 rfl rfl (by omega) (fun rv w16 hq17 => ?_)
  obtain ⟨⟨z18, rfl, z18p0⟩, rfl⟩ := hq17
  have z18A : z18 = (fs_c c60 y.toInt.toNat) x.toInt.toNat := i_eq.mpr (by rw [z18p0]; unfold fs_c sq_c; rw [show (20 * y.toInt + x.toInt).toNat = 20 * y.toInt.toNat + x.toInt.toNat by omega])
  refine r_icmp_eq rfl (fun t19 => ?_) (fun t19 => ?_)
  · refine v_iconst (v := 0) rfl (by decide) ?_
    exact r_zret rfl (by omega) ⟨⟨_, rfl, (by omega), (by omega), (by
        have hd : fs_st (fs_c c60 y.toInt.toNat) (gi 0).toInt.toNat x.toInt.toNat ↔ ¬ z18 = z15 := by
          unfold fs_st
          rw [← z12k, ← z18A, ← z15A]
        first
        | exact Or.inl ⟨by omega, hd.mpr (fun q => by have := congrArg Int32.toInt q; omega)⟩
        | exact Or.inr ⟨by omega, fun q => hd.mp q (i_eq.mpr (by omega))⟩)⟩, rfl⟩
  · refine v_iconst (v := 1) rfl (by decide) ?_
    refine v_goto rfl ?_
    exact r_zret rfl (by omega) ⟨⟨_, rfl, (by omega), (by omega), (by
        have hd : fs_st (fs_c c60 y.toInt.toNat) (gi 0).toInt.toNat x.toInt.toNat ↔ ¬ z18 = z15 := by
          unfold fs_st
          rw [← z12k, ← z18A, ← z15A]
        first
        | exact Or.inl ⟨by omega, hd.mpr (fun q => by have := congrArg Int32.toInt q; omega)⟩
        | exact Or.inr ⟨by omega, fun q => hd.mp q (i_eq.mpr (by omega))⟩)⟩, rfl⟩
set_option maxRecDepth 100000 in
theorem W_X12_runFrom_59_e {sc : pm_S} {w : pm_W} {gi : Nat → Int32} {ga : Nat → List Int32} (x : Int32) (y : Int32) (c60 : List Int32) (p0 : y.toInt ≤ 19) (p1 : 0 ≤ y.toInt) (p2 : x.toInt ≤ 19) (p3 : 0 ≤ x.toInt) (hc60 : w[60]? = some (.inl (0, .inl c60))) (hl60 : c60.length = 400) (hR : pm_Rg gi ga) (hI : pm_IM gi ga w) : pm_Mt sc 1 140 4 [.ref 59, .int x, .int y] w (fun rv w' => pm_wI (fun v => 1 ≤ v.toInt ∧ v.toInt ≤ 20 ∧ fs_RF (fs_c c60 y.toInt.toNat) (gi 0).toInt.toNat x.toInt.toNat v.toInt.toNat) rv ∧ w = w') := by
  intro d hd
  obtain ⟨g0a, g0b⟩ := hR.n0
  obtain ⟨g1a, g1b⟩ := hR.n1
  obtain ⟨g2a, g2b⟩ := hR.n2
  obtain ⟨g3a, g3b⟩ := hR.n3
  obtain ⟨g4a, g4b⟩ := hR.n4
  obtain ⟨g5a, g5b⟩ := hR.n5
  obtain ⟨g6a, g6b⟩ := hR.n6
  obtain ⟨g7a, g7b⟩ := hR.n7
  obtain ⟨g8a, g8b⟩ := hR.n8
  have k1 : (1 : Int32).toInt = 1 := by decide
  show pm_V sc d 140 0 [.ref 59, .int x, .int y, .null] [] w _
  refine v_iconst (v := 1) rfl (by decide) ?_
  refine v_istore_n rfl (Nat.le_of_ble_eq_true rfl) ?_
  have L2 : ∀ (n2 : Nat) (l1 : Int32), 1 ≤ l1.toInt → l1.toInt ≤ 20 → (l1.toInt ≤ (gi 0).toInt) → (∀ n, 1 ≤ n → n < l1.toInt.toNat → (fs_c c60 y.toInt.toNat) ((x.toInt.toNat + n) % (gi 0).toInt.toNat) = (fs_c c60 y.toInt.toNat) x.toInt.toNat) → (20 - l1.toInt).toNat < n2 → pm_V sc d 140 2 [.ref 59, .int x, .int y, .int l1] [] w (fun rv w' => pm_wI (fun v => 1 ≤ v.toInt ∧ v.toInt ≤ 20 ∧ fs_RF (fs_c c60 y.toInt.toNat) (gi 0).toInt.toNat x.toInt.toNat v.toInt.toNat) rv ∧ w = w') := by
    intro n2
    induction n2 with
    | zero => intro l1 t4 t5 t6 t7 hm3; exact absurd hm3 (Nat.not_lt_zero _)
    | succ n2 ih2_2 =>
      intro l1 t4 t5 t6 t7 hm3
      refine v_iload_n rfl rfl ?_
      refine v_aload_n rfl rfl ?_
      obtain ⟨v9, v10, v11, v12, v13, v14, v15, v16, ⟨v9z, v9e⟩, ⟨⟨v10a, v10b⟩, v10e⟩, ⟨⟨v11a, v11b⟩, v11e⟩, ⟨v13a, v13b⟩, ⟨v16a, v16b⟩, h8⟩ := hI.2.1 59 (by decide) (by decide)
      have v9z := v9z.imp i_eq.mp i_eq.mp
      rw [i_0, i_1] at v9z
      refine v_get rfl h8 rfl ?_
      refine r_icmp_ge rfl (fun t17 => ?_) (fun t17 => ?_)
      · refine v_iload_n rfl rfl ?_
        exact v_iret rfl ⟨⟨_, rfl, (by omega), (by omega), (by
            first
            | exact ⟨by omega, by omega, t7, fun h => absurd h (by omega)⟩
            | exact ⟨by omega, by omega, t7, fun _ q => by
                rw [← qk, ← qA, ← qA] at q
                have q2 := congrArg Int32.toInt q
                omega⟩)⟩, rfl⟩
      · refine v_aload_n rfl rfl ?_
        refine v_iload_n rfl rfl ?_
        refine v_iload_n rfl rfl ?_
        refine r_iadd rfl (by omega) (by omega) (fun z18 z18e => ?_)
        skip
        refine v_aload_n rfl rfl ?_
        refine v_get rfl h8 rfl ?_
        refine r_irem rfl (by omega) (by omega) (fun z19 z19m z19a z19b z19c => ?_)
        have z19k := j_em z19m (by omega) (by omega)
        rw [show z18.toInt.toNat = x.toInt.toNat + l1.toInt.toNat by omega] at z19k
        refine v_iload_n rfl rfl ?_
        refine v_callV rfl (W_X12_colour_59_x z19 y c60 (by omega) (by omega) (by omega) (by omega) hc60 hl60 hR hI) rfl rfl h8 rfl rfl (by omega) (fun rv w20 hq21 => ?_)
        obtain ⟨⟨z22, rfl, z22p0⟩, rfl⟩ := hq21
        have z22A : z22 = (fs_c c60 y.toInt.toNat) z19.toInt.toNat := i_eq.mpr (by rw [z22p0]; unfold fs_c sq_c; rw [show (20 * y.toInt + z19.toInt).toNat = 20 * y.toInt.toNat + z19.toInt.toNat by omega])
        refine v_aload_n rfl rfl ?_
        refine v_iload_n rfl rfl ?_
        refine v_iload_n rfl rfl ?_
        refine v_callV rfl (W_X12_colour_59_x x y c60 (by omega) (by omega) (by omega) (by omega) hc60 hl60 hR hI) rfl rfl h8 rfl rfl (by omega) (fun rv w23 hq24 => ?_)
        obtain ⟨⟨z25, rfl, z25p0⟩, rfl⟩ := hq24
        have z25A : z25 = (fs_c c60 y.toInt.toNat) x.toInt.toNat := i_eq.mpr (by rw [z25p0]; unfold fs_c sq_c; rw [show (20 * y.toInt + x.toInt).toNat = 20 * y.toInt.toNat + x.toInt.toNat by omega])
        refine r_icmp_ne rfl (fun t26 => ?_) (fun t26 => ?_)
        · refine v_iload_n rfl rfl ?_
          exact v_iret rfl ⟨⟨_, rfl, (by omega), (by omega), (by
              first
              | exact ⟨by omega, by omega, t7, fun h => absurd h (by omega)⟩
              | exact ⟨by omega, by omega, t7, fun _ q => by
                  rw [← z19k, ← z22A, ← z25A] at q
                  have q2 := congrArg Int32.toInt q
                  omega⟩)⟩, rfl⟩
        · refine r_iinc rfl rfl (by decide) (by omega) (by omega) (fun z27 z27e => ?_)
          refine v_goto rfl ?_
          exact ih2_2 z27 (by omega) (by omega) (by omega) (by
              intro n h1 h2
              by_cases e : n < l1.toInt.toNat
              · exact t7 n h1 e
              · have e2 : n = l1.toInt.toNat := by omega
                subst e2
                rw [← z19k, ← z22A, ← z25A]
                exact i_eq.mpr (by omega)) (by omega)
  exact L2 _ (1 : Int32) (by omega) (by omega) (by omega) (by intro n h1 h2; rw [show (1 : Int32).toInt.toNat = 1 from rfl] at h2; omega) (Nat.lt_add_one _)
set_option maxRecDepth 100000 in
theorem W_X12_floats_59_x {sc : pm_S} {w w0 : pm_W} {gi : Nat → Int32} {ga : Nat → List Int32} (y : Int32) (k : Int32)  (hR : pm_Rg gi ga) (hI : pm_IM gi ga w) (hh : pm_lo w0 w) : pm_Mt sc 2 142 8 [.ref 59, .int y, .int k] w (fun rv w' => pm_wI (fun v => sq_Pfloats gi ga y k v) rv ∧ pm_IM gi ga w' ∧ pm_lo w0 w') := by
  intro d hd
  obtain ⟨g0a, g0b⟩ := hR.n0
  obtain ⟨g1a, g1b⟩ := hR.n1
  obtain ⟨g2a, g2b⟩ := hR.n2
  obtain ⟨g3a, g3b⟩ := hR.n3
  obtain ⟨g4a, g4b⟩ := hR.n4
  obtain ⟨g5a, g5b⟩ := hR.n5
  obtain ⟨g6a, g6b⟩ := hR.n6
  obtain ⟨g7a, g7b⟩ := hR.n7
  obtain ⟨g8a, g8b⟩ := hR.n8
  have km2 : (-2 : Int32).toInt = -2 := by decide
  have km1 : (-1 : Int32).toInt = -1 := by decide
  have k0 : (0 : Int32).toInt = 0 := by decide
  have k1 : (1 : Int32).toInt = 1 := by decide
  show pm_V sc d 142 0 [.ref 59, .int y, .int k, .null, .null, .null, .null, .null] [] w _
  refine v_iload_n rfl rfl ?_
  refine v_iconst (v := 0) rfl (by decide) ?_
  refine v_aload_n rfl rfl ?_
  obtain ⟨v2, v3, v4, v5, v6, v7, v8, v9, ⟨v2z, v2e⟩, ⟨⟨v3a, v3b⟩, v3e⟩, ⟨⟨v4a, v4b⟩, v4e⟩, ⟨v6a, v6b⟩, ⟨v9a, v9b⟩, h1⟩ := hI.2.1 59 (by decide) (by decide)
  have v2z := v2z.imp i_eq.mp i_eq.mp
  rw [i_0, i_1] at v2z
  refine v_get rfl h1 rfl ?_
  refine v_iconst (v := 1) rfl (by decide) ?_
  refine r_isub rfl (by omega) (by omega) (fun z10 z10e => ?_)
  refine v_callS rfl (W_X12_in y (0 : Int32) z10 hR hI) rfl rfl rfl rfl rfl (by omega) (fun rv w11 hq12 => ?_)
  obtain ⟨⟨z13, rfl, z13p0⟩, rfl⟩ := hq12
  refine r_if_ne rfl (fun t14 => ?_) (fun t14 => ?_)
  · refine v_iload_n rfl rfl ?_
    refine v_iconst (v := 0) rfl (by decide) ?_
    refine v_iconst (v := 1) rfl (by decide) ?_
    refine v_callS rfl (W_X12_in k (0 : Int32) (1 : Int32) hR hI) rfl rfl rfl rfl rfl (by omega) (fun rv w15 hq16 => ?_)
    obtain ⟨⟨z17, rfl, z17p0⟩, rfl⟩ := hq16
    refine r_if_ne rfl (fun t18 => ?_) (fun t18 => ?_)
    · refine v_iconst (v := 0) rfl (by decide) ?_
      refine v_istore_n rfl (Nat.le_of_ble_eq_true rfl) ?_
      refine v_iconst (v := 0) rfl (by decide) ?_
      refine v_istore rfl (Nat.le_of_ble_eq_true rfl) ?_
      refine v_aload_n rfl rfl ?_
      refine v_iload_n rfl rfl ?_
      obtain ⟨sq20l, sq20r, h19⟩ := hI.2.1 60 (by decide) (by decide)
      refine v_callV rfl (W_X12_isPlain_59_e y (ga 15) (by omega) (by omega) h19 sq20l hR hI) rfl rfl h1 rfl rfl (by omega) (fun rv w21 hq22 => ?_)
      obtain ⟨⟨z23, rfl, z23p0, z23p1, z23p2⟩, rfl⟩ := hq22
      obtain ⟨F0, hF0, hP0⟩ : ∃ F, fs_F (fs_c (ga 15) y.toInt.toNat) (gi 0).toInt.toNat F ∧ (z23.toInt = 1 → F = 0 ∧ ∀ x, x < (gi 0).toInt.toNat → ¬ fs_st (fs_c (ga 15) y.toInt.toNat) (gi 0).toInt.toNat x) ∧ (z23.toInt = 0 → F < (gi 0).toInt.toNat ∧ fs_st (fs_c (ga 15) y.toInt.toNat) (gi 0).toInt.toNat F) := by
        rcases z23p2 with ⟨g1, g2⟩ | ⟨g1, g2⟩
        · have q := (fs_plain (show 0 < (gi 0).toInt.toNat by omega)).mp g2
          exact ⟨0, Or.inl ⟨rfl, q⟩, fun _ => ⟨rfl, q⟩, fun h => by omega⟩
        · obtain ⟨F, hF⟩ := fs_F.ex (fs_c (ga 15) y.toInt.toNat) (gi 0).toInt.toNat
          refine ⟨F, hF, fun h => by omega, fun _ => ?_⟩
          rcases hF with ⟨-, q⟩ | ⟨q1, q2, -⟩
          · exact absurd ((fs_plain (show 0 < (gi 0).toInt.toNat by omega)).mpr q) g2
          · exact ⟨q1, q2⟩
      refine v_istore rfl (Nat.le_of_ble_eq_true rfl) ?_
      refine v_iconst (v := 0) rfl (by decide) ?_
      refine v_istore rfl (Nat.le_of_ble_eq_true rfl) ?_
      have L28 : ∀ (n28 : Nat) (l24 : Int32) (l25 : Int32) (l26 : Int32) (u27 : Value), 0 ≤ l24.toInt → l24.toInt ≤ 20 → 0 ≤ l25.toInt → l25.toInt ≤ 20 → 0 ≤ l26.toInt → l26.toInt ≤ 20 → (l26.toInt ≤ (gi 0).toInt) → (l24.toInt ≤ l26.toInt) → (fs_fold (fs_S (fs_c (ga 15) y.toInt.toNat) (gi 0).toInt.toNat F0) (gi 0).toInt.toNat (fs_hc (gi 2).toInt) (l26.toInt.toNat - F0) l24.toInt.toNat) → (fs_fold (fs_S (fs_c (ga 15) y.toInt.toNat) (gi 0).toInt.toNat F0) (gi 0).toInt.toNat fs_hm (l26.toInt.toNat - F0) l25.toInt.toNat) → (20 - l26.toInt).toNat < n28 → pm_V sc d 142 51 [.ref 59, .int y, .int k, .int l24, .int l25, .int z23, .int l26, u27] [] w (fun rv w' => pm_wI (fun v => sq_Pfloats gi ga y k v) rv ∧ pm_IM gi ga w' ∧ pm_lo w0 w') := by
        intro n28
        induction n28 with
        | zero => intro l24 l25 l26 u27 t30 t31 t32 t33 t34 t35 t36 t37 t38 t39 hm29; exact absurd hm29 (Nat.not_lt_zero _)
        | succ n28 ih51_28 =>
          intro l24 l25 l26 u27 t30 t31 t32 t33 t34 t35 t36 t37 t38 t39 hm29
          refine v_iload rfl rfl ?_
          refine v_aload_n rfl rfl ?_
          refine v_get rfl h1 rfl ?_
          refine r_icmp_ge rfl (fun t40 => ?_) (fun t40 => ?_)
          · refine v_iload_n rfl rfl ?_
            refine r_if_ne rfl (fun t41 => ?_) (fun t41 => ?_)
            · refine v_iload rfl rfl ?_
              exact v_iret rfl ⟨⟨_, rfl, (by
                  first
                  | exact Or.inr ⟨by omega, Or.inr (Or.inl ⟨by omega, by omega, F0, hF0, by have q := t38; rw [show l26.toInt.toNat = (gi 0).toInt.toNat by omega] at q; exact fs_fold.fin (by omega) hF0 q⟩)⟩
                  | exact Or.inr ⟨by omega, Or.inr (Or.inr ⟨by omega, by omega, F0, hF0, by have q := t39; rw [show l26.toInt.toNat = (gi 0).toInt.toNat by omega] at q; exact fs_fold.fin (by omega) hF0 q⟩)⟩)⟩, hI, hh⟩
            · refine v_iload_n rfl rfl ?_
              refine v_goto rfl ?_
              exact v_iret rfl ⟨⟨_, rfl, (by
                  first
                  | exact Or.inr ⟨by omega, Or.inr (Or.inl ⟨by omega, by omega, F0, hF0, by have q := t38; rw [show l26.toInt.toNat = (gi 0).toInt.toNat by omega] at q; exact fs_fold.fin (by omega) hF0 q⟩)⟩
                  | exact Or.inr ⟨by omega, Or.inr (Or.inr ⟨by omega, by omega, F0, hF0, by have q := t39; rw [show l26.toInt.toNat = (gi 0).toInt.toNat by omega] at q; exact fs_fold.fin (by omega) hF0 q⟩)⟩)⟩, hI, hh⟩
          · refine v_iload rfl rfl ?_
            refine r_if_eq rfl (fun t42 => ?_) (fun t42 => ?_)
            · refine v_aload_n rfl rfl ?_
              refine v_iload rfl rfl ?_
              refine v_iload_n rfl rfl ?_
              refine v_callV rfl (W_X12_begins_59_e l26 y (ga 15) (by omega) (by omega) (by omega) (by omega) (by omega) h19 sq20l hR hI) rfl rfl h1 rfl rfl (by omega) (fun rv w43 hq44 => ?_)
              obtain ⟨⟨z45, rfl, z45p0, z45p1, z45p2⟩, rfl⟩ := hq44
              skip
              refine r_if_eq rfl (fun t46 => ?_) (fun t46 => ?_)
              · refine r_iinc rfl rfl (by decide) (by omega) (by omega) (fun z47 z47e => ?_)
                refine v_goto rfl ?_
                exact ih51_28 l24 l25 z47 (u27) (by omega) (by omega) (by omega) (by omega) (by omega) (by omega) (by omega) (by omega) (by
                    rw [show z47.toInt.toNat = l26.toInt.toNat + 1 by omega]
                    first
                    | exact fs_fold.nocol t38 (fun hx q => by
                        obtain ⟨e0, e1⟩ := hP0.1 (by omega)
                        rcases q with q | q
                        · omega
                        · rw [show F0 + (l26.toInt.toNat - F0) = l26.toInt.toNat by omega, Nat.mod_eq_of_lt (by omega)] at q
                          exact e1 _ (by omega) q)
                    | exact fs_fold.nocol t38 (fun hx q => by
                        rcases z45p2 with g | g
                        · exact absurd g.1 (by omega)
                        · rcases q with q | q
                          · have e := (hP0.2 (by omega)).2
                            rw [show F0 = l26.toInt.toNat by omega] at e
                            exact g.2 e
                          · rw [show F0 + (l26.toInt.toNat - F0) = l26.toInt.toNat by omega, Nat.mod_eq_of_lt (by omega)] at q
                            exact g.2 q)) (by
                    rw [show z47.toInt.toNat = l26.toInt.toNat + 1 by omega]
                    first
                    | exact fs_fold.nocol t39 (fun hx q => by
                        obtain ⟨e0, e1⟩ := hP0.1 (by omega)
                        rcases q with q | q
                        · omega
                        · rw [show F0 + (l26.toInt.toNat - F0) = l26.toInt.toNat by omega, Nat.mod_eq_of_lt (by omega)] at q
                          exact e1 _ (by omega) q)
                    | exact fs_fold.nocol t39 (fun hx q => by
                        rcases z45p2 with g | g
                        · exact absurd g.1 (by omega)
                        · rcases q with q | q
                          · have e := (hP0.2 (by omega)).2
                            rw [show F0 = l26.toInt.toNat by omega] at e
                            exact g.2 e
                          · rw [show F0 + (l26.toInt.toNat - F0) = l26.toInt.toNat by omega, Nat.mod_eq_of_lt (by omega)] at q
                            exact g.2 q)) (by omega)
              · refine v_aload_n rfl rfl ?_
                refine v_iload rfl rfl ?_
                refine v_iload_n rfl rfl ?_
                refine v_callV rfl (W_X12_runFrom_59_e l26 y (ga 15) (by omega) (by omega) (by omega) (by omega) h19 sq20l hR hI) rfl rfl h1 rfl rfl (by omega) (fun rv w48 hq49 => ?_)
                obtain ⟨⟨z50, rfl, z50p0, z50p1, z50p2⟩, rfl⟩ := hq49
                skip
                refine v_istore rfl (Nat.le_of_ble_eq_true rfl) ?_
                refine v_iload_n rfl rfl ?_
                refine v_iload rfl rfl ?_
                refine v_aload_n rfl rfl ?_
                refine v_get rfl h1 rfl ?_
                refine r_icmp_le rfl (fun t51 => ?_) (fun t51 => ?_)
                · refine v_iconst (v := 0) rfl (by decide) ?_
                  refine r_iadd rfl (by omega) (by omega) (fun z52 z52e => ?_)
                  refine v_istore_n rfl (Nat.le_of_ble_eq_true rfl) ?_
                  refine v_iload rfl rfl ?_
                  refine v_iload rfl rfl ?_
                  refine r_icmp_le rfl (fun t53 => ?_) (fun t53 => ?_)
                  · refine v_iload rfl rfl ?_
                    refine v_istore rfl (Nat.le_of_ble_eq_true rfl) ?_
                    refine r_iinc rfl rfl (by decide) (by omega) (by omega) (fun z54 z54e => ?_)
                    refine v_goto rfl ?_
                    exact ih51_28 z52 l25 z54 (.int z50) (by omega) (by omega) (by omega) (by omega) (by omega) (by omega) (by omega) (by omega) (by
                        rw [show z54.toInt.toNat = l26.toInt.toNat + 1 by omega]
                        first
                        | (rw [show z52.toInt.toNat = fs_hc (gi 2).toInt l24.toInt.toNat z50.toInt.toNat by unfold fs_hc; split <;> omega]
                           exact fs_fold.col (by omega) hF0 (by omega) t38 ⟨by have e := (hP0.1 (by omega)).1; omega, Or.inl (by omega)⟩ z50p2)
                        | (rw [show z52.toInt.toNat = fs_hc (gi 2).toInt l24.toInt.toNat z50.toInt.toNat by unfold fs_hc; split <;> omega]
                           exact fs_fold.col (by omega) hF0 (by omega) t38 (by
                             rcases z45p2 with g | g
                             · have e : F0 ≤ l26.toInt.toNat := by
                                 false_or_by_contra
                                 rename_i hx
                                 exact hF0.no (by omega) g.2
                               exact ⟨e, Or.inr (by rw [show F0 + (l26.toInt.toNat - F0) = l26.toInt.toNat by omega, Nat.mod_eq_of_lt (by omega)]; exact g.2)⟩
                             · exact absurd g.1 (by omega)) z50p2)) (by
                        rw [show z54.toInt.toNat = l26.toInt.toNat + 1 by omega]
                        first
                        | (rw [show l25.toInt.toNat = fs_hm l25.toInt.toNat z50.toInt.toNat by unfold fs_hm; omega]
                           exact fs_fold.col (by omega) hF0 (by omega) t39 ⟨by have e := (hP0.1 (by omega)).1; omega, Or.inl (by omega)⟩ z50p2)
                        | (rw [show l25.toInt.toNat = fs_hm l25.toInt.toNat z50.toInt.toNat by unfold fs_hm; omega]
                           exact fs_fold.col (by omega) hF0 (by omega) t39 (by
                             rcases z45p2 with g | g
                             · have e : F0 ≤ l26.toInt.toNat := by
                                 false_or_by_contra
                                 rename_i hx
                                 exact hF0.no (by omega) g.2
                               exact ⟨e, Or.inr (by rw [show F0 + (l26.toInt.toNat - F0) = l26.toInt.toNat by omega, Nat.mod_eq_of_lt (by omega)]; exact g.2)⟩
                             · exact absurd g.1 (by omega)) z50p2)) (by omega)
                  · refine v_iload rfl rfl ?_
                    refine v_goto rfl ?_
                    refine v_istore rfl (Nat.le_of_ble_eq_true rfl) ?_
                    refine r_iinc rfl rfl (by decide) (by omega) (by omega) (fun z55 z55e => ?_)
                    refine v_goto rfl ?_
                    exact ih51_28 z52 z50 z55 (.int z50) (by omega) (by omega) (by omega) (by omega) (by omega) (by omega) (by omega) (by omega) (by
                        rw [show z55.toInt.toNat = l26.toInt.toNat + 1 by omega]
                        first
                        | (rw [show z52.toInt.toNat = fs_hc (gi 2).toInt l24.toInt.toNat z50.toInt.toNat by unfold fs_hc; split <;> omega]
                           exact fs_fold.col (by omega) hF0 (by omega) t38 ⟨by have e := (hP0.1 (by omega)).1; omega, Or.inl (by omega)⟩ z50p2)
                        | (rw [show z52.toInt.toNat = fs_hc (gi 2).toInt l24.toInt.toNat z50.toInt.toNat by unfold fs_hc; split <;> omega]
                           exact fs_fold.col (by omega) hF0 (by omega) t38 (by
                             rcases z45p2 with g | g
                             · have e : F0 ≤ l26.toInt.toNat := by
                                 false_or_by_contra
                                 rename_i hx
                                 exact hF0.no (by omega) g.2
                               exact ⟨e, Or.inr (by rw [show F0 + (l26.toInt.toNat - F0) = l26.toInt.toNat by omega, Nat.mod_eq_of_lt (by omega)]; exact g.2)⟩
                             · exact absurd g.1 (by omega)) z50p2)) (by
                        rw [show z55.toInt.toNat = l26.toInt.toNat + 1 by omega]
                        first
                        | (rw [show z50.toInt.toNat = fs_hm l25.toInt.toNat z50.toInt.toNat by unfold fs_hm; omega]
                           exact fs_fold.col (by omega) hF0 (by omega) t39 ⟨by have e := (hP0.1 (by omega)).1; omega, Or.inl (by omega)⟩ z50p2)
                        | (rw [show z50.toInt.toNat = fs_hm l25.toInt.toNat z50.toInt.toNat by unfold fs_hm; omega]
                           exact fs_fold.col (by omega) hF0 (by omega) t39 (by
                             rcases z45p2 with g | g
                             · have e : F0 ≤ l26.toInt.toNat := by
                                 false_or_by_contra
                                 rename_i hx
                                 exact hF0.no (by omega) g.2
                               exact ⟨e, Or.inr (by rw [show F0 + (l26.toInt.toNat - F0) = l26.toInt.toNat by omega, Nat.mod_eq_of_lt (by omega)]; exact g.2)⟩
                             · exact absurd g.1 (by omega)) z50p2)) (by omega)
                · refine v_iconst (v := 1) rfl (by decide) ?_
                  refine v_goto rfl ?_
                  refine r_iadd rfl (by omega) (by omega) (fun z56 z56e => ?_)
                  refine v_istore_n rfl (Nat.le_of_ble_eq_true rfl) ?_
                  refine v_iload rfl rfl ?_
                  refine v_iload rfl rfl ?_
                  refine r_icmp_le rfl (fun t57 => ?_) (fun t57 => ?_)
                  · refine v_iload rfl rfl ?_
                    refine v_istore rfl (Nat.le_of_ble_eq_true rfl) ?_
                    refine r_iinc rfl rfl (by decide) (by omega) (by omega) (fun z58 z58e => ?_)
                    refine v_goto rfl ?_
                    exact ih51_28 z56 l25 z58 (.int z50) (by omega) (by omega) (by omega) (by omega) (by omega) (by omega) (by omega) (by omega) (by
                        rw [show z58.toInt.toNat = l26.toInt.toNat + 1 by omega]
                        first
                        | (rw [show z56.toInt.toNat = fs_hc (gi 2).toInt l24.toInt.toNat z50.toInt.toNat by unfold fs_hc; split <;> omega]
                           exact fs_fold.col (by omega) hF0 (by omega) t38 ⟨by have e := (hP0.1 (by omega)).1; omega, Or.inl (by omega)⟩ z50p2)
                        | (rw [show z56.toInt.toNat = fs_hc (gi 2).toInt l24.toInt.toNat z50.toInt.toNat by unfold fs_hc; split <;> omega]
                           exact fs_fold.col (by omega) hF0 (by omega) t38 (by
                             rcases z45p2 with g | g
                             · have e : F0 ≤ l26.toInt.toNat := by
                                 false_or_by_contra
                                 rename_i hx
                                 exact hF0.no (by omega) g.2
                               exact ⟨e, Or.inr (by rw [show F0 + (l26.toInt.toNat - F0) = l26.toInt.toNat by omega, Nat.mod_eq_of_lt (by omega)]; exact g.2)⟩
                             · exact absurd g.1 (by omega)) z50p2)) (by
                        rw [show z58.toInt.toNat = l26.toInt.toNat + 1 by omega]
                        first
                        | (rw [show l25.toInt.toNat = fs_hm l25.toInt.toNat z50.toInt.toNat by unfold fs_hm; omega]
                           exact fs_fold.col (by omega) hF0 (by omega) t39 ⟨by have e := (hP0.1 (by omega)).1; omega, Or.inl (by omega)⟩ z50p2)
                        | (rw [show l25.toInt.toNat = fs_hm l25.toInt.toNat z50.toInt.toNat by unfold fs_hm; omega]
                           exact fs_fold.col (by omega) hF0 (by omega) t39 (by
                             rcases z45p2 with g | g
                             · have e : F0 ≤ l26.toInt.toNat := by
                                 false_or_by_contra
                                 rename_i hx
                                 exact hF0.no (by omega) g.2
                               exact ⟨e, Or.inr (by rw [show F0 + (l26.toInt.toNat - F0) = l26.toInt.toNat by omega, Nat.mod_eq_of_lt (by omega)]; exact g.2)⟩
                             · exact absurd g.1 (by omega)) z50p2)) (by omega)
                  · refine v_iload rfl rfl ?_
                    refine v_goto rfl ?_
                    refine v_istore rfl (Nat.le_of_ble_eq_true rfl) ?_
                    refine r_iinc rfl rfl (by decide) (by omega) (by omega) (fun z59 z59e => ?_)
                    refine v_goto rfl ?_
                    exact ih51_28 z56 z50 z59 (.int z50) (by omega) (by omega) (by omega) (by omega) (by omega) (by omega) (by omega) (by omega) (by
                        rw [show z59.toInt.toNat = l26.toInt.toNat + 1 by omega]
                        first
                        | (rw [show z56.toInt.toNat = fs_hc (gi 2).toInt l24.toInt.toNat z50.toInt.toNat by unfold fs_hc; split <;> omega]
                           exact fs_fold.col (by omega) hF0 (by omega) t38 ⟨by have e := (hP0.1 (by omega)).1; omega, Or.inl (by omega)⟩ z50p2)
                        | (rw [show z56.toInt.toNat = fs_hc (gi 2).toInt l24.toInt.toNat z50.toInt.toNat by unfold fs_hc; split <;> omega]
                           exact fs_fold.col (by omega) hF0 (by omega) t38 (by
                             rcases z45p2 with g | g
                             · have e : F0 ≤ l26.toInt.toNat := by
                                 false_or_by_contra
                                 rename_i hx
                                 exact hF0.no (by omega) g.2
                               exact ⟨e, Or.inr (by rw [show F0 + (l26.toInt.toNat - F0) = l26.toInt.toNat by omega, Nat.mod_eq_of_lt (by omega)]; exact g.2)⟩
                             · exact absurd g.1 (by omega)) z50p2)) (by
                        rw [show z59.toInt.toNat = l26.toInt.toNat + 1 by omega]
                        first
                        | (rw [show z50.toInt.toNat = fs_hm l25.toInt.toNat z50.toInt.toNat by unfold fs_hm; omega]
                           exact fs_fold.col (by omega) hF0 (by omega) t39 ⟨by have e := (hP0.1 (by omega)).1; omega, Or.inl (by omega)⟩ z50p2)
                        | (rw [show z50.toInt.toNat = fs_hm l25.toInt.toNat z50.toInt.toNat by unfold fs_hm; omega]
                           exact fs_fold.col (by omega) hF0 (by omega) t39 (by
                             rcases z45p2 with g | g
                             · have e : F0 ≤ l26.toInt.toNat := by
                                 false_or_by_contra
                                 rename_i hx
                                 exact hF0.no (by omega) g.2
                               exact ⟨e, Or.inr (by rw [show F0 + (l26.toInt.toNat - F0) = l26.toInt.toNat by omega, Nat.mod_eq_of_lt (by omega)]; exact g.2)⟩
                             · exact absurd g.1 (by omega)) z50p2)) (by omega)
            · refine v_iload rfl rfl ?_
              refine r_if_ne rfl (fun t60 => ?_) (fun t60 => ?_)
              · refine r_iinc rfl rfl (by decide) (by omega) (by omega) (fun z61 z61e => ?_)
                refine v_goto rfl ?_
                exact ih51_28 l24 l25 z61 (u27) (by omega) (by omega) (by omega) (by omega) (by omega) (by omega) (by omega) (by omega) (by
                    rw [show z61.toInt.toNat = l26.toInt.toNat + 1 by omega]
                    first
                    | exact fs_fold.nocol t38 (fun hx q => by
                        obtain ⟨e0, e1⟩ := hP0.1 (by omega)
                        rcases q with q | q
                        · omega
                        · rw [show F0 + (l26.toInt.toNat - F0) = l26.toInt.toNat by omega, Nat.mod_eq_of_lt (by omega)] at q
                          exact e1 _ (by omega) q)
                    | exact fs_fold.nocol t38 (fun hx q => by
                        rcases z45p2 with g | g
                        · exact absurd g.1 (by omega)
                        · rcases q with q | q
                          · have e := (hP0.2 (by omega)).2
                            rw [show F0 = l26.toInt.toNat by omega] at e
                            exact g.2 e
                          · rw [show F0 + (l26.toInt.toNat - F0) = l26.toInt.toNat by omega, Nat.mod_eq_of_lt (by omega)] at q
                            exact g.2 q)) (by
                    rw [show z61.toInt.toNat = l26.toInt.toNat + 1 by omega]
                    first
                    | exact fs_fold.nocol t39 (fun hx q => by
                        obtain ⟨e0, e1⟩ := hP0.1 (by omega)
                        rcases q with q | q
                        · omega
                        · rw [show F0 + (l26.toInt.toNat - F0) = l26.toInt.toNat by omega, Nat.mod_eq_of_lt (by omega)] at q
                          exact e1 _ (by omega) q)
                    | exact fs_fold.nocol t39 (fun hx q => by
                        rcases z45p2 with g | g
                        · exact absurd g.1 (by omega)
                        · rcases q with q | q
                          · have e := (hP0.2 (by omega)).2
                            rw [show F0 = l26.toInt.toNat by omega] at e
                            exact g.2 e
                          · rw [show F0 + (l26.toInt.toNat - F0) = l26.toInt.toNat by omega, Nat.mod_eq_of_lt (by omega)] at q
                            exact g.2 q)) (by omega)
              · refine v_goto rfl ?_
                refine v_aload_n rfl rfl ?_
                refine v_iload rfl rfl ?_
                refine v_iload_n rfl rfl ?_
                refine v_callV rfl (W_X12_runFrom_59_e l26 y (ga 15) (by omega) (by omega) (by omega) (by omega) h19 sq20l hR hI) rfl rfl h1 rfl rfl (by omega) (fun rv w62 hq63 => ?_)
                obtain ⟨⟨z64, rfl, z64p0, z64p1, z64p2⟩, rfl⟩ := hq63
                skip
                refine v_istore rfl (Nat.le_of_ble_eq_true rfl) ?_
                refine v_iload_n rfl rfl ?_
                refine v_iload rfl rfl ?_
                refine v_aload_n rfl rfl ?_
                refine v_get rfl h1 rfl ?_
                refine r_icmp_le rfl (fun t65 => ?_) (fun t65 => ?_)
                · refine v_iconst (v := 0) rfl (by decide) ?_
                  refine r_iadd rfl (by omega) (by omega) (fun z66 z66e => ?_)
                  refine v_istore_n rfl (Nat.le_of_ble_eq_true rfl) ?_
                  refine v_iload rfl rfl ?_
                  refine v_iload rfl rfl ?_
                  refine r_icmp_le rfl (fun t67 => ?_) (fun t67 => ?_)
                  · refine v_iload rfl rfl ?_
                    refine v_istore rfl (Nat.le_of_ble_eq_true rfl) ?_
                    refine r_iinc rfl rfl (by decide) (by omega) (by omega) (fun z68 z68e => ?_)
                    refine v_goto rfl ?_
                    exact ih51_28 z66 l25 z68 (.int z64) (by omega) (by omega) (by omega) (by omega) (by omega) (by omega) (by omega) (by omega) (by
                        rw [show z68.toInt.toNat = l26.toInt.toNat + 1 by omega]
                        first
                        | (rw [show z66.toInt.toNat = fs_hc (gi 2).toInt l24.toInt.toNat z64.toInt.toNat by unfold fs_hc; split <;> omega]
                           exact fs_fold.col (by omega) hF0 (by omega) t38 ⟨by have e := (hP0.1 (by omega)).1; omega, Or.inl (by omega)⟩ z64p2)
                        | (rw [show z66.toInt.toNat = fs_hc (gi 2).toInt l24.toInt.toNat z64.toInt.toNat by unfold fs_hc; split <;> omega]
                           exact fs_fold.col (by omega) hF0 (by omega) t38 (by
                             rcases z45p2 with g | g
                             · have e : F0 ≤ l26.toInt.toNat := by
                                 false_or_by_contra
                                 rename_i hx
                                 exact hF0.no (by omega) g.2
                               exact ⟨e, Or.inr (by rw [show F0 + (l26.toInt.toNat - F0) = l26.toInt.toNat by omega, Nat.mod_eq_of_lt (by omega)]; exact g.2)⟩
                             · exact absurd g.1 (by omega)) z64p2)) (by
                        rw [show z68.toInt.toNat = l26.toInt.toNat + 1 by omega]
                        first
                        | (rw [show l25.toInt.toNat = fs_hm l25.toInt.toNat z64.toInt.toNat by unfold fs_hm; omega]
                           exact fs_fold.col (by omega) hF0 (by omega) t39 ⟨by have e := (hP0.1 (by omega)).1; omega, Or.inl (by omega)⟩ z64p2)
                        | (rw [show l25.toInt.toNat = fs_hm l25.toInt.toNat z64.toInt.toNat by unfold fs_hm; omega]
                           exact fs_fold.col (by omega) hF0 (by omega) t39 (by
                             rcases z45p2 with g | g
                             · have e : F0 ≤ l26.toInt.toNat := by
                                 false_or_by_contra
                                 rename_i hx
                                 exact hF0.no (by omega) g.2
                               exact ⟨e, Or.inr (by rw [show F0 + (l26.toInt.toNat - F0) = l26.toInt.toNat by omega, Nat.mod_eq_of_lt (by omega)]; exact g.2)⟩
                             · exact absurd g.1 (by omega)) z64p2)) (by omega)
                  · refine v_iload rfl rfl ?_
                    refine v_goto rfl ?_
                    refine v_istore rfl (Nat.le_of_ble_eq_true rfl) ?_
                    refine r_iinc rfl rfl (by decide) (by omega) (by omega) (fun z69 z69e => ?_)
                    refine v_goto rfl ?_
                    exact ih51_28 z66 z64 z69 (.int z64) (by omega) (by omega) (by omega) (by omega) (by omega) (by omega) (by omega) (by omega) (by
                        rw [show z69.toInt.toNat = l26.toInt.toNat + 1 by omega]
                        first
                        | (rw [show z66.toInt.toNat = fs_hc (gi 2).toInt l24.toInt.toNat z64.toInt.toNat by unfold fs_hc; split <;> omega]
                           exact fs_fold.col (by omega) hF0 (by omega) t38 ⟨by have e := (hP0.1 (by omega)).1; omega, Or.inl (by omega)⟩ z64p2)
                        | (rw [show z66.toInt.toNat = fs_hc (gi 2).toInt l24.toInt.toNat z64.toInt.toNat by unfold fs_hc; split <;> omega]
                           exact fs_fold.col (by omega) hF0 (by omega) t38 (by
                             rcases z45p2 with g | g
                             · have e : F0 ≤ l26.toInt.toNat := by
                                 false_or_by_contra
                                 rename_i hx
                                 exact hF0.no (by omega) g.2
                               exact ⟨e, Or.inr (by rw [show F0 + (l26.toInt.toNat - F0) = l26.toInt.toNat by omega, Nat.mod_eq_of_lt (by omega)]; exact g.2)⟩
                             · exact absurd g.1 (by omega)) z64p2)) (by
                        rw [show z69.toInt.toNat = l26.toInt.toNat + 1 by omega]
                        first
                        | (rw [show z64.toInt.toNat = fs_hm l25.toInt.toNat z64.toInt.toNat by unfold fs_hm; omega]
                           exact fs_fold.col (by omega) hF0 (by omega) t39 ⟨by have e := (hP0.1 (by omega)).1; omega, Or.inl (by omega)⟩ z64p2)
                        | (rw [show z64.toInt.toNat = fs_hm l25.toInt.toNat z64.toInt.toNat by unfold fs_hm; omega]
                           exact fs_fold.col (by omega) hF0 (by omega) t39 (by
                             rcases z45p2 with g | g
                             · have e : F0 ≤ l26.toInt.toNat := by
                                 false_or_by_contra
                                 rename_i hx
                                 exact hF0.no (by omega) g.2
                               exact ⟨e, Or.inr (by rw [show F0 + (l26.toInt.toNat - F0) = l26.toInt.toNat by omega, Nat.mod_eq_of_lt (by omega)]; exact g.2)⟩
                             · exact absurd g.1 (by omega)) z64p2)) (by omega)
                · refine v_iconst (v := 1) rfl (by decide) ?_
                  refine v_goto rfl ?_
                  refine r_iadd rfl (by omega) (by omega) (fun z70 z70e => ?_)
                  refine v_istore_n rfl (Nat.le_of_ble_eq_true rfl) ?_
                  refine v_iload rfl rfl ?_
                  refine v_iload rfl rfl ?_
                  refine r_icmp_le rfl (fun t71 => ?_) (fun t71 => ?_)
                  · refine v_iload rfl rfl ?_
                    refine v_istore rfl (Nat.le_of_ble_eq_true rfl) ?_
                    refine r_iinc rfl rfl (by decide) (by omega) (by omega) (fun z72 z72e => ?_)
                    refine v_goto rfl ?_
                    exact ih51_28 z70 l25 z72 (.int z64) (by omega) (by omega) (by omega) (by omega) (by omega) (by omega) (by omega) (by omega) (by
                        rw [show z72.toInt.toNat = l26.toInt.toNat + 1 by omega]
                        first
                        | (rw [show z70.toInt.toNat = fs_hc (gi 2).toInt l24.toInt.toNat z64.toInt.toNat by unfold fs_hc; split <;> omega]
                           exact fs_fold.col (by omega) hF0 (by omega) t38 ⟨by have e := (hP0.1 (by omega)).1; omega, Or.inl (by omega)⟩ z64p2)
                        | (rw [show z70.toInt.toNat = fs_hc (gi 2).toInt l24.toInt.toNat z64.toInt.toNat by unfold fs_hc; split <;> omega]
                           exact fs_fold.col (by omega) hF0 (by omega) t38 (by
                             rcases z45p2 with g | g
                             · have e : F0 ≤ l26.toInt.toNat := by
                                 false_or_by_contra
                                 rename_i hx
                                 exact hF0.no (by omega) g.2
                               exact ⟨e, Or.inr (by rw [show F0 + (l26.toInt.toNat - F0) = l26.toInt.toNat by omega, Nat.mod_eq_of_lt (by omega)]; exact g.2)⟩
                             · exact absurd g.1 (by omega)) z64p2)) (by
                        rw [show z72.toInt.toNat = l26.toInt.toNat + 1 by omega]
                        first
                        | (rw [show l25.toInt.toNat = fs_hm l25.toInt.toNat z64.toInt.toNat by unfold fs_hm; omega]
                           exact fs_fold.col (by omega) hF0 (by omega) t39 ⟨by have e := (hP0.1 (by omega)).1; omega, Or.inl (by omega)⟩ z64p2)
                        | (rw [show l25.toInt.toNat = fs_hm l25.toInt.toNat z64.toInt.toNat by unfold fs_hm; omega]
                           exact fs_fold.col (by omega) hF0 (by omega) t39 (by
                             rcases z45p2 with g | g
                             · have e : F0 ≤ l26.toInt.toNat := by
                                 false_or_by_contra
                                 rename_i hx
                                 exact hF0.no (by omega) g.2
                               exact ⟨e, Or.inr (by rw [show F0 + (l26.toInt.toNat - F0) = l26.toInt.toNat by omega, Nat.mod_eq_of_lt (by omega)]; exact g.2)⟩
                             · exact absurd g.1 (by omega)) z64p2)) (by omega)
                  · refine v_iload rfl rfl ?_
                    refine v_goto rfl ?_
                    refine v_istore rfl (Nat.le_of_ble_eq_true rfl) ?_
                    refine r_iinc rfl rfl (by decide) (by omega) (by omega) (fun z73 z73e => ?_)
                    refine v_goto rfl ?_
                    exact ih51_28 z70 z64 z73 (.int z64) (by omega) (by omega) (by omega) (by omega) (by omega) (by omega) (by omega) (by omega) (by
                        rw [show z73.toInt.toNat = l26.toInt.toNat + 1 by omega]
                        first
                        | (rw [show z70.toInt.toNat = fs_hc (gi 2).toInt l24.toInt.toNat z64.toInt.toNat by unfold fs_hc; split <;> omega]
                           exact fs_fold.col (by omega) hF0 (by omega) t38 ⟨by have e := (hP0.1 (by omega)).1; omega, Or.inl (by omega)⟩ z64p2)
                        | (rw [show z70.toInt.toNat = fs_hc (gi 2).toInt l24.toInt.toNat z64.toInt.toNat by unfold fs_hc; split <;> omega]
                           exact fs_fold.col (by omega) hF0 (by omega) t38 (by
                             rcases z45p2 with g | g
                             · have e : F0 ≤ l26.toInt.toNat := by
                                 false_or_by_contra
                                 rename_i hx
                                 exact hF0.no (by omega) g.2
                               exact ⟨e, Or.inr (by rw [show F0 + (l26.toInt.toNat - F0) = l26.toInt.toNat by omega, Nat.mod_eq_of_lt (by omega)]; exact g.2)⟩
                             · exact absurd g.1 (by omega)) z64p2)) (by
                        rw [show z73.toInt.toNat = l26.toInt.toNat + 1 by omega]
                        first
                        | (rw [show z64.toInt.toNat = fs_hm l25.toInt.toNat z64.toInt.toNat by unfold fs_hm; omega]
                           exact fs_fold.col (by omega) hF0 (by omega) t39 ⟨by have e := (hP0.1 (by omega)).1; omega, Or.inl (by omega)⟩ z64p2)
                        | (rw [show z64.toInt.toNat = fs_hm l25.toInt.toNat z64.toInt.toNat by unfold fs_hm; omega]
                           exact fs_fold.col (by omega) hF0 (by omega) t39 (by
                             rcases z45p2 with g | g
                             · have e : F0 ≤ l26.toInt.toNat := by
                                 false_or_by_contra
                                 rename_i hx
                                 exact hF0.no (by omega) g.2
                               exact ⟨e, Or.inr (by rw [show F0 + (l26.toInt.toNat - F0) = l26.toInt.toNat by omega, Nat.mod_eq_of_lt (by omega)]; exact g.2)⟩
                             · exact absurd g.1 (by omega)) z64p2)) (by omega)
      exact L28 _ (0 : Int32) (0 : Int32) (0 : Int32) (.null) (by omega) (by omega) (by omega) (by omega) (by omega) (by omega) (by omega) (by omega) (by rw [show (0 : Int32).toInt.toNat - F0 = 0 by rw [show (0 : Int32).toInt.toNat = 0 from rfl]; omega]; exact fs_fold.start) (by rw [show (0 : Int32).toInt.toNat - F0 = 0 by rw [show (0 : Int32).toInt.toNat = 0 from rfl]; omega]; exact fs_fold.start) (Nat.lt_add_one _)
    · refine v_aload_n rfl rfl ?_
      refine v_bipush (v := (-2)) rfl (by decide) ?_
      refine v_callV rfl (c_M_refuse (-2 : Int32) (by unfold pm_isR; first | decide | exact Or.inl rfl) hR hI) rfl rfl h1 rfl rfl (by omega) (fun rv w74 hq75 => ?_)
      obtain ⟨rfl, hI76, hh77x⟩ := hq75
      have hI76 : pm_IM gi ga w74 := hI76
      have hh77 := hh.tr hh77x
      exact v_iret rfl ⟨⟨_, rfl, (by exact Or.inr ⟨by omega, Or.inl ⟨by omega, by omega⟩⟩)⟩, hI76, hh77⟩
  · refine v_aload_n rfl rfl ?_
    refine v_iconst (v := (-1)) rfl (by decide) ?_
    refine v_callV rfl (c_M_refuse (-1 : Int32) (by unfold pm_isR; first | decide | exact Or.inl rfl) hR hI) rfl rfl h1 rfl rfl (by omega) (fun rv w78 hq79 => ?_)
    obtain ⟨rfl, hI80, hh81x⟩ := hq79
    have hI80 : pm_IM gi ga w78 := hI80
    have hh81 := hh.tr hh81x
    exact v_iret rfl ⟨⟨_, rfl, (by exact Or.inl ⟨by omega, by omega⟩)⟩, hI80, hh81⟩

