set_option maxRecDepth 100000 in
theorem W_X6_addRun_10_m {sc : pm_S} {w w0 : pm_W} {gi : Nat → Int32} {ga : Nat → List Int32} (s : Int32) (c10_0 : Int32) (c10_1 : Int32) (c10_2 : Int32) (c11 : List Int32) (c12 : List Int32) (p0 : c10_1.toInt ≤ 19) (p1 : 1 ≤ c10_0.toInt) (p2 : c10_0.toInt ≤ 20) (p3 : 0 ≤ c10_1.toInt) (p4 : c10_1.toInt ≤ 20) (p5 : 0 ≤ c10_2.toInt) (p6 : c10_2.toInt ≤ 1) (hc10 : w[10]? = some (.inr (6, [.int c10_0, .int c10_1, .int c10_2, .ref 11, .ref 12, .ref 13]))) (hc11 : w[11]? = some (.inl (0, .inl c11))) (hl11 : c11.length = 20) (hc12 : w[12]? = some (.inl (0, .inl c12))) (hl12 : c12.length = 20) (hr12 : ∀ x ∈ c12, pm_rng x (0) 20) (hR : pm_Rg gi ga) (hI : pm_IX gi ga w) (hh : pm_hi w0 w) : pm_Mt sc 0 38 2 [.ref 10, .int s] w (fun rv w' => rv = none ∧ pm_IX gi ga w' ∧ pm_hi w0 w' ∧ ∃ (m : Int32) (ss ys : List Int32), m.toInt = c10_1.toInt + 1 ∧ w'[10]? = some (.inr (6, [.int c10_0, .int m, .int c10_2, .ref 11, .ref 12, .ref 13])) ∧ w'[11]? = some (.inl (0, .inl ss)) ∧ ss.length = 20 ∧ w'[12]? = some (.inl (0, .inl ys)) ∧ ys.length = 20 ∧ (∀ x ∈ ys, pm_rng x (0) 20) ∧ (ys.getD c10_1.toInt.toNat 0).toInt = 0 ∧ (∀ j, j ≠ c10_1.toInt.toNat → ys.getD j 0 = c12.getD j 0) ∧ ss.getD c10_1.toInt.toNat 0 = s ∧ ∀ j, j ≠ c10_1.toInt.toNat → ss.getD j 0 = c11.getD j 0) := by
  intro d hd
  obtain ⟨g0a, g0b⟩ := hR.n0
  obtain ⟨g1a, g1b⟩ := hR.n1
  obtain ⟨g2a, g2b⟩ := hR.n2
  obtain ⟨g3a, g3b⟩ := hR.n3
  obtain ⟨g4a, g4b⟩ := hR.n4
  obtain ⟨g5a, g5b⟩ := hR.n5
  obtain ⟨g6a, g6b⟩ := hR.n6
  obtain ⟨g7a, g7b⟩ := hR.n7
  obtain ⟨g8a, g8b⟩ := hR.n8
  have k0 : (0 : Int32).toInt = 0 := by decide
  have k1 : (1 : Int32).toInt = 1 := by decide
  show pm_V sc d 38 0 [.ref 10, .int s] [] w _
  refine v_aload_n rfl rfl ?_
  refine v_get rfl hc10 rfl ?_
  refine v_aload_n rfl rfl ?_
  refine v_get rfl hc10 rfl ?_
  refine v_iload_n rfl rfl ?_
  refine r_iastx rfl hc11 hl11 (by omega) (by omega) (fun ys1 ys1l ys1m ys1g ys1n => ?_)
  refine r_gen (w' := w.set 11 (.inl (0, .inl ys1))) (fun w2 e3 => ?_)
  have hI4 : pm_IX gi ga w2 := by rw [e3]; exact hI.set 11 (by decide) ⟨ys1, ys1l, rfl⟩
  have hh5 : pm_hi w0 w2 := by rw [e3]; exact hh.set (by decide) _
  have h6 := r_get_ne e3 (show 11 ≠ 10 by decide) hc10
  have h7 := r_get_ne e3 (show 11 ≠ 12 by decide) hc12
  have h8 := r_get_eq e3 hc11
  refine v_aload_n rfl rfl ?_
  refine v_get rfl h6 rfl ?_
  refine v_aload_n rfl rfl ?_
  refine v_get rfl h6 rfl ?_
  refine v_iconst (v := 0) rfl (by decide) ?_
  refine r_iastx rfl h7 hl12 (by omega) (by omega) (fun ys9 ys9l ys9m ys9g ys9n => ?_)
  have ys9r := r_rng ys9m hr12 (by omega) (by omega)
  refine r_gen (w' := w2.set 12 (.inl (0, .inl ys9))) (fun w10 e11 => ?_)
  have hI12 : pm_IX gi ga w10 := by rw [e11]; exact hI4.set 12 (by decide) ⟨ys9, ys9l, ys9r, rfl⟩
  have hh13 : pm_hi w0 w10 := by rw [e11]; exact hh5.set (by decide) _
  have h14 := r_get_ne e11 (show 12 ≠ 10 by decide) h6
  have h15 := r_get_ne e11 (show 12 ≠ 11 by decide) h8
  have h16 := r_get_eq e11 h7
  refine v_aload_n rfl rfl ?_
  refine v_dup rfl rfl ?_
  refine v_get rfl h14 rfl ?_
  refine v_iconst (v := 1) rfl (by decide) ?_
  refine r_iadd rfl (by omega) (by omega) (fun z17 z17e => ?_)
  refine v_put rfl h14 rfl (Nat.le_of_ble_eq_true rfl) ?_
  refine r_gen (w' := w10.set 10 (.inr (6, [.int c10_0, .int z17, .int c10_2, .ref 11, .ref 12, .ref 13]))) (fun w18 e19 => ?_)
  have hI20 : pm_IX gi ga w18 := by rw [e19]; exact hI12.set 10 (by decide) ⟨c10_0, z17, c10_2, ⟨by omega, by omega⟩, ⟨by omega, by omega⟩, ((show c10_2.toInt = 0 ∨ c10_2.toInt = 1 by omega).imp i_eq.mpr i_eq.mpr), rfl⟩
  have hh21 : pm_hi w0 w18 := by rw [e19]; exact hh13.set (by decide) _
  have h22 := r_get_ne e19 (show 10 ≠ 11 by decide) h15
  have h23 := r_get_ne e19 (show 10 ≠ 12 by decide) h16
  have h24 := r_get_eq e19 h14
  exact v_ret rfl ⟨rfl, hI20, hh21, ⟨z17, ys1, ys9, by omega, h24, h22, ys1l, h23, ys9l, ys9r, by rw [ys9g]; rfl, ys9n, ys1g, ys1n⟩⟩
set_option maxRecDepth 100000 in
theorem W_X6_readFrom_10_1_m {sc : pm_S} {w w0 : pm_W} {gi : Nat → Int32} {ga : Nat → List Int32} (y : Int32) (p0 : y.toInt ≤ 19) (p1 : 0 ≤ y.toInt) (hR : pm_Rg gi ga) (hI : pm_IX gi ga w) (hh : pm_hi w0 w) : pm_Mt sc 3 30 7 [.ref 10, .ref 1, .int y] w (fun rv w' => rv = none ∧ pm_IX gi ga w' ∧ pm_hi w0 w' ∧ ∃ (v0 m v2 : Int32) (ss ls : List Int32) (F : Nat) (o : Nat → Nat), w'[10]? = some (.inr (6, [.int v0, .int m, .int v2, .ref 11, .ref 12, .ref 13])) ∧ w'[11]? = some (.inl (0, .inl ss)) ∧ ss.length = 20 ∧ w'[12]? = some (.inl (0, .inl ls)) ∧ ls.length = 20 ∧ (∀ x ∈ ls, pm_rng x (0) 20) ∧ 0 ≤ m.toInt ∧ m.toInt ≤ 20 ∧ v0.toInt = (gi 0).toInt ∧ 0 ≤ v2.toInt ∧ v2.toInt ≤ 1 ∧ fs_F (fs_c (ga 15) y.toInt.toNat) (gi 0).toInt.toNat F ∧ fs_lay (fs_S (fs_c (ga 15) y.toInt.toNat) (gi 0).toInt.toNat F) o (sq_lk ls) (gi 0).toInt.toNat m.toInt.toNat ∧ (∀ i, i < m.toInt.toNat → sq_lk ss i = ((md_wk (gi 0).toInt.toNat F (o i) : Nat) : Int)) ∧ ((v2.toInt = 1 ∧ ∀ x, x < (gi 0).toInt.toNat → ¬ fs_st (fs_c (ga 15) y.toInt.toNat) (gi 0).toInt.toNat x) ∨ (v2.toInt = 0 ∧ fs_st (fs_c (ga 15) y.toInt.toNat) (gi 0).toInt.toNat F))) := by
  intro d hd
  obtain ⟨g0a, g0b⟩ := hR.n0
  obtain ⟨g1a, g1b⟩ := hR.n1
  obtain ⟨g2a, g2b⟩ := hR.n2
  obtain ⟨g3a, g3b⟩ := hR.n3
  obtain ⟨g4a, g4b⟩ := hR.n4
  obtain ⟨g5a, g5b⟩ := hR.n5
  obtain ⟨g6a, g6b⟩ := hR.n6
  obtain ⟨g7a, g7b⟩ := hR.n7
  obtain ⟨g8a, g8b⟩ := hR.n8
  have k0 : (0 : Int32).toInt = 0 := by decide
  have k1 : (1 : Int32).toInt = 1 := by decide
  show pm_V sc d 30 0 [.ref 10, .ref 1, .int y, .null, .null, .null, .null] [] w _
  refine v_aload_n rfl rfl ?_
  refine v_aload_n rfl rfl ?_
  have h1 : _ = some _ := hI.2 1 (by decide)
  refine v_get rfl h1 rfl ?_
  obtain ⟨v3, v4, v5, ⟨v3a, v3b⟩, ⟨v4a, v4b⟩, v5z, h2⟩ := hI.2 10 (by decide)
  have v5z := v5z.imp i_eq.mp i_eq.mp
  rw [i_0, i_1] at v5z
  refine v_put rfl h2 rfl (Nat.le_of_ble_eq_true rfl) ?_
  refine r_gen (w' := w.set 10 (.inr (6, [.int (gi 0), .int v4, .int v5, .ref 11, .ref 12, .ref 13]))) (fun w6 e7 => ?_)
  have hI8 : pm_IX gi ga w6 := by rw [e7]; exact hI.set 10 (by decide) ⟨(gi 0), v4, v5, ⟨by omega, by omega⟩, ⟨by omega, by omega⟩, ((show v5.toInt = 0 ∨ v5.toInt = 1 by omega).imp i_eq.mpr i_eq.mpr), rfl⟩
  have hh9 : pm_hi w0 w6 := by rw [e7]; exact hh.set (by decide) _
  have h10 := r_get_ne e7 (show 10 ≠ 1 by decide) h1
  have h11 := r_get_eq e7 h2
  refine v_aload_n rfl rfl ?_
  refine v_iconst (v := 0) rfl (by decide) ?_
  refine v_put rfl h11 rfl (Nat.le_of_ble_eq_true rfl) ?_
  refine r_gen (w' := w6.set 10 (.inr (6, [.int (gi 0), .int (0 : Int32), .int v5, .ref 11, .ref 12, .ref 13]))) (fun w12 e13 => ?_)
  have hI14 : pm_IX gi ga w12 := by rw [e13]; exact hI8.set 10 (by decide) ⟨(gi 0), (0 : Int32), v5, ⟨by omega, by omega⟩, ⟨by omega, by omega⟩, ((show v5.toInt = 0 ∨ v5.toInt = 1 by omega).imp i_eq.mpr i_eq.mpr), rfl⟩
  have hh15 : pm_hi w0 w12 := by rw [e13]; exact hh9.set (by decide) _
  have h16 := r_get_ne e13 (show 10 ≠ 1 by decide) h10
  have h17 := r_get_eq e13 h11
  refine v_aload_n rfl rfl ?_
  refine v_aload_n rfl rfl ?_
  refine v_iload_n rfl rfl ?_
  refine v_callV rfl (W_X6_firstStart_10_1_x y (gi 0) (0 : Int32) v5 (by omega) (by omega) (by omega) (by omega) (by omega) (by omega) (by omega) (by omega) (by omega) h17 hR hI14) rfl rfl h17 rfl rfl (by omega) (fun rv w18 hq19 => ?_)
  obtain ⟨⟨z20, rfl, z20p0, z20p1, z20p2⟩, rfl⟩ := hq19
  skip
  refine v_istore_n rfl (Nat.le_of_ble_eq_true rfl) ?_
  refine v_aload_n rfl rfl ?_
  refine v_iload_n rfl rfl ?_
  refine r_if_ge rfl (fun t21 => ?_) (fun t21 => ?_)
  · refine v_iconst (v := 0) rfl (by decide) ?_
    refine v_put rfl h17 (r_okZ (by omega)) (Nat.le_of_ble_eq_true rfl) ?_
    refine r_gen (w' := w12.set 10 (.inr (6, [.int (gi 0), .int (0 : Int32), .int (0 : Int32), .ref 11, .ref 12, .ref 13]))) (fun w22 e23 => ?_)
    have hI24 : pm_IX gi ga w22 := by rw [e23]; exact hI14.set 10 (by decide) ⟨(gi 0), (0 : Int32), (0 : Int32), ⟨by omega, by omega⟩, ⟨by omega, by omega⟩, ((show (0 : Int32).toInt = 0 ∨ (0 : Int32).toInt = 1 by omega).imp i_eq.mpr i_eq.mpr), rfl⟩
    have hh25 : pm_hi w0 w22 := by rw [e23]; exact hh15.set (by decide) _
    have h26 := r_get_ne e23 (show 10 ≠ 1 by decide) h16
    have h27 := r_get_eq e23 h17
    refine v_iconst (v := 0) rfl (by decide) ?_
    refine v_iload_n rfl rfl ?_
    refine r_max rfl (by omega) rfl (fun z28 z28a z28b z28c => ?_)
    have hF : fs_F (fs_c (ga 15) y.toInt.toNat) (gi 0).toInt.toNat z28.toInt.toNat := by
      rcases z20p2 with ⟨g1, g2⟩ | ⟨g1, g2, g3⟩
      · exact Or.inl ⟨by omega, g2⟩
      · refine Or.inr ⟨by omega, ?_⟩
        rw [show z28.toInt.toNat = z20.toInt.toNat by omega]
        exact ⟨g2, g3⟩
    refine v_istore rfl (Nat.le_of_ble_eq_true rfl) ?_
    refine v_iconst (v := 0) rfl (by decide) ?_
    refine v_istore rfl (Nat.le_of_ble_eq_true rfl) ?_
    obtain ⟨xs30, xs30l, h29⟩ := hI24.2 11 (by decide)
    obtain ⟨xs32, xs32l, xs32r, h31⟩ := hI24.2 12 (by decide)
    have L46 : ∀ (n46 : Nat) (l33 : Int32) (u34 : Value) (w35 : pm_W) (v39 : Int32) (v40 : Int32) (v41 : Int32) (xs43 : List Int32) (xs45 : List Int32), pm_IX gi ga w35 → pm_hi w0 w35 → w35[10]? = some (.inr (6, [.int v39, .int v40, .int v41, .ref 11, .ref 12, .ref 13])) → w35[11]? = some (.inl (0, .inl xs43)) → xs43.length = 20 → w35[12]? = some (.inl (0, .inl xs45)) → xs45.length = 20 → (∀ x ∈ xs45, pm_rng x (0) 20) → 0 ≤ l33.toInt → l33.toInt ≤ 20 → 1 ≤ v39.toInt → v39.toInt ≤ 20 → 0 ≤ v40.toInt → v40.toInt ≤ 20 → 0 ≤ v41.toInt → v41.toInt ≤ 1 → (v39.toInt = (gi 0).toInt) → (v40.toInt ≤ l33.toInt) → (l33.toInt ≤ (gi 0).toInt) → (1 ≤ l33.toInt → 1 ≤ v40.toInt) → ((v41.toInt = 1 ∧ ∀ x, x < (gi 0).toInt.toNat → ¬ fs_st (fs_c (ga 15) y.toInt.toNat) (gi 0).toInt.toNat x) ∨ (v41.toInt = 0 ∧ fs_st (fs_c (ga 15) y.toInt.toNat) (gi 0).toInt.toNat z28.toInt.toNat)) → (∃ o, fs_lay (fs_S (fs_c (ga 15) y.toInt.toNat) (gi 0).toInt.toNat z28.toInt.toNat) o (sq_lk xs45) l33.toInt.toNat v40.toInt.toNat ∧ ∀ i, i < v40.toInt.toNat → sq_lk xs43 i = ((md_wk (gi 0).toInt.toNat z28.toInt.toNat (o i) : Nat) : Int)) → (20 - l33.toInt).toNat < n46 → pm_V sc d 30 43 [.ref 10, .ref 1, .int y, .int z20, .int z28, .int l33, u34] [] w35 (fun rv w' => rv = none ∧ pm_IX gi ga w' ∧ pm_hi w0 w' ∧ ∃ (v0 m v2 : Int32) (ss ls : List Int32) (F : Nat) (o : Nat → Nat), w'[10]? = some (.inr (6, [.int v0, .int m, .int v2, .ref 11, .ref 12, .ref 13])) ∧ w'[11]? = some (.inl (0, .inl ss)) ∧ ss.length = 20 ∧ w'[12]? = some (.inl (0, .inl ls)) ∧ ls.length = 20 ∧ (∀ x ∈ ls, pm_rng x (0) 20) ∧ 0 ≤ m.toInt ∧ m.toInt ≤ 20 ∧ v0.toInt = (gi 0).toInt ∧ 0 ≤ v2.toInt ∧ v2.toInt ≤ 1 ∧ fs_F (fs_c (ga 15) y.toInt.toNat) (gi 0).toInt.toNat F ∧ fs_lay (fs_S (fs_c (ga 15) y.toInt.toNat) (gi 0).toInt.toNat F) o (sq_lk ls) (gi 0).toInt.toNat m.toInt.toNat ∧ (∀ i, i < m.toInt.toNat → sq_lk ss i = ((md_wk (gi 0).toInt.toNat F (o i) : Nat) : Int)) ∧ ((v2.toInt = 1 ∧ ∀ x, x < (gi 0).toInt.toNat → ¬ fs_st (fs_c (ga 15) y.toInt.toNat) (gi 0).toInt.toNat x) ∨ (v2.toInt = 0 ∧ fs_st (fs_c (ga 15) y.toInt.toNat) (gi 0).toInt.toNat F))) := by
      intro n46
      induction n46 with
      | zero => intro l33 u34 w35 v39 v40 v41 xs43 xs45 hI36 hh37 h38 h42 xs43l h44 xs45l xs45r t48 t49 t50 t51 t52 t53 t54 t55 t56 t57 t58 t59 t60 t61 hm47; exact absurd hm47 (Nat.not_lt_zero _)
      | succ n46 ih43_46 =>
        intro l33 u34 w35 v39 v40 v41 xs43 xs45 hI36 hh37 h38 h42 xs43l h44 xs45l xs45r t48 t49 t50 t51 t52 t53 t54 t55 t56 t57 t58 t59 t60 t61 hm47
        refine v_iload rfl rfl ?_
        refine v_aload_n rfl rfl ?_
        refine v_get rfl h38 rfl ?_
        refine r_icmp_ge rfl (fun t62 => ?_) (fun t62 => ?_)
        · obtain ⟨o8, ho8, hs8⟩ := t61
          exact v_ret rfl ⟨rfl, hI36, hh37, ⟨v39, v40, v41, xs43, xs45, z28.toInt.toNat, o8, h38, h42, xs43l, h44, xs45l, xs45r, by omega, by omega, by omega, by omega, by omega, hF, by rw [show l33.toInt.toNat = (gi 0).toInt.toNat by omega] at ho8; exact ho8, hs8, t60⟩⟩
        · refine v_iload rfl rfl ?_
          refine v_iload rfl rfl ?_
          refine r_iadd rfl (by omega) (by omega) (fun z63 z63e => ?_)
          refine v_aload_n rfl rfl ?_
          refine v_get rfl h38 rfl ?_
          refine v_callS rfl (W_X11_around_x z63 v39 (by omega) (by omega) (by omega) (by omega) (by omega) hR hI36) rfl rfl rfl rfl rfl (by omega) (fun rv w64 hq65 => ?_)
          obtain ⟨⟨z66, rfl, z66p0, z66p1, z66p2, z66p3⟩, rfl⟩ := hq65
          have z66k : z66.toInt.toNat = (z28.toInt.toNat + l33.toInt.toNat) % (gi 0).toInt.toNat := j_ar (by omega) (by omega) (by omega)
          refine v_istore rfl (Nat.le_of_ble_eq_true rfl) ?_
          refine v_iload rfl rfl ?_
          refine r_if_eq rfl (fun t67 => ?_) (fun t67 => ?_)
          · refine v_aload_n rfl rfl ?_
            refine v_iload rfl rfl ?_
            refine v_callV rfl (W_X6_addRun_10_m z66 v39 v40 v41 xs43 xs45 (by omega) (by omega) (by omega) (by omega) (by omega) (by omega) (by omega) h38 h42 xs43l h44 xs45l xs45r hR hI36 hh37) rfl rfl h38 rfl rfl (by omega) (fun rv w68 hq69 => ?_)
            obtain ⟨rfl, hI71, hh72, ⟨m73, ss75, ys74, m73e, h76, h77, ss75l, h78, ys74l, ys74r, ys74g, ys74n, ss75g, ss75n⟩⟩ := hq69
            refine v_aload_n rfl rfl ?_
            refine v_get rfl h76 rfl ?_
            refine v_aload_n rfl rfl ?_
            refine v_get rfl h76 rfl ?_
            refine v_iconst (v := 1) rfl (by decide) ?_
            refine r_isub rfl (by omega) (by omega) (fun z79 z79e => ?_)
            skip
            refine v_dup2 rfl rfl ?_
            refine r_iaload rfl h78 ys74l (by omega) (by omega) (fun z80 z80m z80g => ?_)
            obtain ⟨z80a, z80b⟩ := ys74r z80 z80m
            have z99h : z80.toInt = 0 := by
              have q := congrArg Int32.toInt z80g
              rw [show z79.toInt.toNat = v40.toInt.toNat by omega] at q
              omega
            refine v_iconst (v := 1) rfl (by decide) ?_
            refine r_iadd rfl (by omega) (by omega) (fun z81 z81e => ?_)
            refine r_iastx rfl h78 ys74l (by omega) (by omega) (fun ys82 ys82l ys82m ys82g ys82n => ?_)
            have ys82r := r_rng ys82m ys74r (by omega) (by omega)
            refine r_gen (w' := w68.set 12 (.inl (0, .inl ys82))) (fun w83 e84 => ?_)
            have hI85 : pm_IX gi ga w83 := by rw [e84]; exact hI71.set 12 (by decide) ⟨ys82, ys82l, ys82r, rfl⟩
            have hh86 : pm_hi w0 w83 := by rw [e84]; exact hh72.set (by decide) _
            have h87 := r_get_ne e84 (show 12 ≠ 10 by decide) h76
            have h88 := r_get_ne e84 (show 12 ≠ 11 by decide) h77
            have h89 := r_get_eq e84 h78
            refine r_iinc rfl rfl (by decide) (by omega) (by omega) (fun z90 z90e => ?_)
            refine v_goto rfl ?_
            exact ih43_46 z90 (.int z66) w83 v39 m73 v41 ss75 ys82 hI85 hh86 h87 h88 ss75l h89 ys82l ys82r (by omega) (by omega) (by omega) (by omega) (by omega) (by omega) (by omega) (by omega) (by omega) (by omega) (by omega) (by omega) (by exact t60) (by
                rw [show z90.toInt.toNat = l33.toInt.toNat + 1 by omega, show m73.toInt.toNat = v40.toInt.toNat + 1 by omega]
                obtain ⟨o9, ho9, hs9⟩ := t61
                refine ⟨fs_o o9 v40.toInt.toNat l33.toInt.toNat, fs_lay.add ho9 ?_ (by omega) (fun i hi => ?_) ?_, fun i hi => ?_⟩
                · first
                  | exact Or.inl (by omega)
                  | (refine Or.inr ?_
                     rw [← z66k]
                     rcases qp2 with g | g
                     · exact g.2
                     · exact absurd g.1 (by omega))
                · unfold sq_lk; rw [ys82n i (by omega), ys74n i (by omega)]
                · have q := congrArg Int32.toInt ys82g
                  rw [show z79.toInt.toNat = v40.toInt.toNat by omega] at q
                  have q2 : sq_lk ys82 v40.toInt.toNat = (ys82.getD v40.toInt.toNat 0).toInt := rfl
                  omega
                · by_cases e : i = v40.toInt.toNat
                  · rw [fs_o_e e, e, show sq_lk ss75 v40.toInt.toNat = z66.toInt from congrArg Int32.toInt ss75g]
                    unfold md_wk
                    rw [← z66k]
                    omega
                  · rw [fs_o_n e, show sq_lk ss75 i = sq_lk xs43 i from congrArg Int32.toInt (ss75n i e)]
                    exact hs9 i (by omega)) (by omega)
          · refine v_aload_n rfl rfl ?_
            refine v_aload_n rfl rfl ?_
            refine v_iload rfl rfl ?_
            refine v_iload_n rfl rfl ?_
            refine v_callV rfl (W_X6_isStart_10_1_x z66 y v39 v40 v41 (by omega) (by omega) (by omega) (by omega) (by omega) (by omega) (by omega) (by omega) (by omega) (by omega) (by omega) (by omega) h38 hR hI36) rfl rfl h38 rfl rfl (by omega) (fun rv w91 hq92 => ?_)
            obtain ⟨⟨z93, rfl, z93p0, z93p1, z93p2⟩, rfl⟩ := hq92
            skip
            refine r_if_eq rfl (fun t94 => ?_) (fun t94 => ?_)
            · refine v_aload_n rfl rfl ?_
              refine v_get rfl h38 rfl ?_
              refine v_aload_n rfl rfl ?_
              refine v_get rfl h38 rfl ?_
              refine v_iconst (v := 1) rfl (by decide) ?_
              refine r_isub rfl (by omega) (by omega) (fun z95 z95e => ?_)
              skip
              refine v_dup2 rfl rfl ?_
              refine r_iaload rfl h44 xs45l (by omega) (by omega) (fun z96 z96m z96g => ?_)
              obtain ⟨z96a, z96b⟩ := xs45r z96 z96m
              obtain ⟨o9, ho9, hs9⟩ := t61
              have q9 := ho9.2.2.2.1 (by omega)
              have z99h : z96.toInt = sq_lk xs45 (v40.toInt.toNat - 1) := by
                rw [show v40.toInt.toNat - 1 = z95.toInt.toNat by omega]
                exact congrArg Int32.toInt z96g
              refine v_iconst (v := 1) rfl (by decide) ?_
              refine r_iadd rfl (by omega) (by omega) (fun z97 z97e => ?_)
              refine r_iastx rfl h44 xs45l (by omega) (by omega) (fun ys98 ys98l ys98m ys98g ys98n => ?_)
              have ys98r := r_rng ys98m xs45r (by omega) (by omega)
              refine r_gen (w' := w35.set 12 (.inl (0, .inl ys98))) (fun w99 e100 => ?_)
              have hI101 : pm_IX gi ga w99 := by rw [e100]; exact hI36.set 12 (by decide) ⟨ys98, ys98l, ys98r, rfl⟩
              have hh102 : pm_hi w0 w99 := by rw [e100]; exact hh37.set (by decide) _
              have h103 := r_get_ne e100 (show 12 ≠ 10 by decide) h38
              have h104 := r_get_ne e100 (show 12 ≠ 11 by decide) h42
              have h105 := r_get_eq e100 h44
              refine r_iinc rfl rfl (by decide) (by omega) (by omega) (fun z106 z106e => ?_)
              refine v_goto rfl ?_
              exact ih43_46 z106 (.int z66) w99 v39 v40 v41 xs43 ys98 hI101 hh102 h103 h104 xs43l h105 ys98l ys98r (by omega) (by omega) (by omega) (by omega) (by omega) (by omega) (by omega) (by omega) (by omega) (by omega) (by omega) (by omega) (by exact t60) (by
                  rw [show z106.toInt.toNat = l33.toInt.toNat + 1 by omega]
                  refine ⟨o9, fs_lay.more ho9 (by omega) (fun q => ?_) (fun i hi => ?_) ?_, hs9⟩
                  · rcases q with q | q
                    · omega
                    · rw [← z66k] at q
                      rcases z93p2 with g | g
                      · exact absurd g.1 (by omega)
                      · exact g.2 q
                  · unfold sq_lk; rw [ys98n i (by omega)]
                  · have q := congrArg Int32.toInt ys98g
                    rw [show z95.toInt.toNat = v40.toInt.toNat - 1 by omega] at q
                    have q2 : sq_lk ys98 (v40.toInt.toNat - 1) = (ys98.getD (v40.toInt.toNat - 1) 0).toInt := rfl
                    omega) (by omega)
            · refine v_aload_n rfl rfl ?_
              refine v_iload rfl rfl ?_
              refine v_callV rfl (W_X6_addRun_10_m z66 v39 v40 v41 xs43 xs45 (by omega) (by omega) (by omega) (by omega) (by omega) (by omega) (by omega) h38 h42 xs43l h44 xs45l xs45r hR hI36 hh37) rfl rfl h38 rfl rfl (by omega) (fun rv w107 hq108 => ?_)
              obtain ⟨rfl, hI110, hh111, ⟨m112, ss114, ys113, m112e, h115, h116, ss114l, h117, ys113l, ys113r, ys113g, ys113n, ss114g, ss114n⟩⟩ := hq108
              refine v_aload_n rfl rfl ?_
              refine v_get rfl h115 rfl ?_
              refine v_aload_n rfl rfl ?_
              refine v_get rfl h115 rfl ?_
              refine v_iconst (v := 1) rfl (by decide) ?_
              refine r_isub rfl (by omega) (by omega) (fun z118 z118e => ?_)
              skip
              refine v_dup2 rfl rfl ?_
              refine r_iaload rfl h117 ys113l (by omega) (by omega) (fun z119 z119m z119g => ?_)
              obtain ⟨z119a, z119b⟩ := ys113r z119 z119m
              have z99h : z119.toInt = 0 := by
                have q := congrArg Int32.toInt z119g
                rw [show z118.toInt.toNat = v40.toInt.toNat by omega] at q
                omega
              refine v_iconst (v := 1) rfl (by decide) ?_
              refine r_iadd rfl (by omega) (by omega) (fun z120 z120e => ?_)
              refine r_iastx rfl h117 ys113l (by omega) (by omega) (fun ys121 ys121l ys121m ys121g ys121n => ?_)
              have ys121r := r_rng ys121m ys113r (by omega) (by omega)
              refine r_gen (w' := w107.set 12 (.inl (0, .inl ys121))) (fun w122 e123 => ?_)
              have hI124 : pm_IX gi ga w122 := by rw [e123]; exact hI110.set 12 (by decide) ⟨ys121, ys121l, ys121r, rfl⟩
              have hh125 : pm_hi w0 w122 := by rw [e123]; exact hh111.set (by decide) _
              have h126 := r_get_ne e123 (show 12 ≠ 10 by decide) h115
              have h127 := r_get_ne e123 (show 12 ≠ 11 by decide) h116
              have h128 := r_get_eq e123 h117
              refine r_iinc rfl rfl (by decide) (by omega) (by omega) (fun z129 z129e => ?_)
              refine v_goto rfl ?_
              exact ih43_46 z129 (.int z66) w122 v39 m112 v41 ss114 ys121 hI124 hh125 h126 h127 ss114l h128 ys121l ys121r (by omega) (by omega) (by omega) (by omega) (by omega) (by omega) (by omega) (by omega) (by omega) (by omega) (by omega) (by omega) (by exact t60) (by
                  rw [show z129.toInt.toNat = l33.toInt.toNat + 1 by omega, show m112.toInt.toNat = v40.toInt.toNat + 1 by omega]
                  obtain ⟨o9, ho9, hs9⟩ := t61
                  refine ⟨fs_o o9 v40.toInt.toNat l33.toInt.toNat, fs_lay.add ho9 ?_ (by omega) (fun i hi => ?_) ?_, fun i hi => ?_⟩
                  · first
                    | exact Or.inl (by omega)
                    | (refine Or.inr ?_
                       rw [← z66k]
                       rcases z93p2 with g | g
                       · exact g.2
                       · exact absurd g.1 (by omega))
                  · unfold sq_lk; rw [ys121n i (by omega), ys113n i (by omega)]
                  · have q := congrArg Int32.toInt ys121g
                    rw [show z118.toInt.toNat = v40.toInt.toNat by omega] at q
                    have q2 : sq_lk ys121 v40.toInt.toNat = (ys121.getD v40.toInt.toNat 0).toInt := rfl
                    omega
                  · by_cases e : i = v40.toInt.toNat
                    · rw [fs_o_e e, e, show sq_lk ss114 v40.toInt.toNat = z66.toInt from congrArg Int32.toInt ss114g]
                      unfold md_wk
                      rw [← z66k]
                      omega
                    · rw [fs_o_n e, show sq_lk ss114 i = sq_lk xs43 i from congrArg Int32.toInt (ss114n i e)]
                      exact hs9 i (by omega)) (by omega)
    exact L46 _ (0 : Int32) (.null) w22 (gi 0) (0 : Int32) (0 : Int32) xs30 xs32 hI24 hh25 h27 h29 xs30l h31 xs32l xs32r (by omega) (by omega) (by omega) (by omega) (by omega) (by omega) (by omega) (by omega) (by omega) (by omega) (by omega) (by omega) (by
        rcases z20p2 with ⟨g1, g2⟩ | ⟨g1, g2, g3⟩
        · first
          | exact Or.inl ⟨by omega, g2⟩
          | (exfalso; omega)
        · first
          | (exfalso; omega)
          | (refine Or.inr ⟨by omega, ?_⟩
             rw [show z28.toInt.toNat = z20.toInt.toNat by omega]
             exact g2)) (by exact ⟨fun _ => 0, ⟨fun i hi => by rw [show (0 : Int32).toInt.toNat = 0 from rfl] at hi; omega, fun j hj => by rw [show (0 : Int32).toInt.toNat = 0 from rfl] at hj; omega, fun i hi => by rw [show (0 : Int32).toInt.toNat = 0 from rfl] at hi; omega, fun hi => by rw [show (0 : Int32).toInt.toNat = 0 from rfl] at hi; omega, fun hi => by rw [show (0 : Int32).toInt.toNat = 0 from rfl] at hi; omega⟩, fun i hi => by rw [show (0 : Int32).toInt.toNat = 0 from rfl] at hi; omega⟩) (Nat.lt_add_one _)
  · refine v_iconst (v := 1) rfl (by decide) ?_
    refine v_goto rfl ?_
    refine v_put rfl h17 (r_okZ (by omega)) (Nat.le_of_ble_eq_true rfl) ?_
    refine r_gen (w' := w12.set 10 (.inr (6, [.int (gi 0), .int (0 : Int32), .int (1 : Int32), .ref 11, .ref 12, .ref 13]))) (fun w130 e131 => ?_)
    have hI132 : pm_IX gi ga w130 := by rw [e131]; exact hI14.set 10 (by decide) ⟨(gi 0), (0 : Int32), (1 : Int32), ⟨by omega, by omega⟩, ⟨by omega, by omega⟩, ((show (1 : Int32).toInt = 0 ∨ (1 : Int32).toInt = 1 by omega).imp i_eq.mpr i_eq.mpr), rfl⟩
    have hh133 : pm_hi w0 w130 := by rw [e131]; exact hh15.set (by decide) _
    have h134 := r_get_ne e131 (show 10 ≠ 1 by decide) h16
    have h135 := r_get_eq e131 h17
    refine v_iconst (v := 0) rfl (by decide) ?_
    refine v_iload_n rfl rfl ?_
    refine r_max rfl (by omega) rfl (fun z136 z136a z136b z136c => ?_)
    have hF : fs_F (fs_c (ga 15) y.toInt.toNat) (gi 0).toInt.toNat z136.toInt.toNat := by
      rcases z20p2 with ⟨g1, g2⟩ | ⟨g1, g2, g3⟩
      · exact Or.inl ⟨by omega, g2⟩
      · refine Or.inr ⟨by omega, ?_⟩
        rw [show z136.toInt.toNat = z20.toInt.toNat by omega]
        exact ⟨g2, g3⟩
    refine v_istore rfl (Nat.le_of_ble_eq_true rfl) ?_
    refine v_iconst (v := 0) rfl (by decide) ?_
    refine v_istore rfl (Nat.le_of_ble_eq_true rfl) ?_
    obtain ⟨xs138, xs138l, h137⟩ := hI132.2 11 (by decide)
    obtain ⟨xs140, xs140l, xs140r, h139⟩ := hI132.2 12 (by decide)
    have L154 : ∀ (n154 : Nat) (l141 : Int32) (u142 : Value) (w143 : pm_W) (v147 : Int32) (v148 : Int32) (v149 : Int32) (xs151 : List Int32) (xs153 : List Int32), pm_IX gi ga w143 → pm_hi w0 w143 → w143[10]? = some (.inr (6, [.int v147, .int v148, .int v149, .ref 11, .ref 12, .ref 13])) → w143[11]? = some (.inl (0, .inl xs151)) → xs151.length = 20 → w143[12]? = some (.inl (0, .inl xs153)) → xs153.length = 20 → (∀ x ∈ xs153, pm_rng x (0) 20) → 0 ≤ l141.toInt → l141.toInt ≤ 20 → 1 ≤ v147.toInt → v147.toInt ≤ 20 → 0 ≤ v148.toInt → v148.toInt ≤ 20 → 0 ≤ v149.toInt → v149.toInt ≤ 1 → (v147.toInt = (gi 0).toInt) → (v148.toInt ≤ l141.toInt) → (l141.toInt ≤ (gi 0).toInt) → (1 ≤ l141.toInt → 1 ≤ v148.toInt) → ((v149.toInt = 1 ∧ ∀ x, x < (gi 0).toInt.toNat → ¬ fs_st (fs_c (ga 15) y.toInt.toNat) (gi 0).toInt.toNat x) ∨ (v149.toInt = 0 ∧ fs_st (fs_c (ga 15) y.toInt.toNat) (gi 0).toInt.toNat z136.toInt.toNat)) → (∃ o, fs_lay (fs_S (fs_c (ga 15) y.toInt.toNat) (gi 0).toInt.toNat z136.toInt.toNat) o (sq_lk xs153) l141.toInt.toNat v148.toInt.toNat ∧ ∀ i, i < v148.toInt.toNat → sq_lk xs151 i = ((md_wk (gi 0).toInt.toNat z136.toInt.toNat (o i) : Nat) : Int)) → (20 - l141.toInt).toNat < n154 → pm_V sc d 30 43 [.ref 10, .ref 1, .int y, .int z20, .int z136, .int l141, u142] [] w143 (fun rv w' => rv = none ∧ pm_IX gi ga w' ∧ pm_hi w0 w' ∧ ∃ (v0 m v2 : Int32) (ss ls : List Int32) (F : Nat) (o : Nat → Nat), w'[10]? = some (.inr (6, [.int v0, .int m, .int v2, .ref 11, .ref 12, .ref 13])) ∧ w'[11]? = some (.inl (0, .inl ss)) ∧ ss.length = 20 ∧ w'[12]? = some (.inl (0, .inl ls)) ∧ ls.length = 20 ∧ (∀ x ∈ ls, pm_rng x (0) 20) ∧ 0 ≤ m.toInt ∧ m.toInt ≤ 20 ∧ v0.toInt = (gi 0).toInt ∧ 0 ≤ v2.toInt ∧ v2.toInt ≤ 1 ∧ fs_F (fs_c (ga 15) y.toInt.toNat) (gi 0).toInt.toNat F ∧ fs_lay (fs_S (fs_c (ga 15) y.toInt.toNat) (gi 0).toInt.toNat F) o (sq_lk ls) (gi 0).toInt.toNat m.toInt.toNat ∧ (∀ i, i < m.toInt.toNat → sq_lk ss i = ((md_wk (gi 0).toInt.toNat F (o i) : Nat) : Int)) ∧ ((v2.toInt = 1 ∧ ∀ x, x < (gi 0).toInt.toNat → ¬ fs_st (fs_c (ga 15) y.toInt.toNat) (gi 0).toInt.toNat x) ∨ (v2.toInt = 0 ∧ fs_st (fs_c (ga 15) y.toInt.toNat) (gi 0).toInt.toNat F))) := by
      intro n154
      induction n154 with
      | zero => intro l141 u142 w143 v147 v148 v149 xs151 xs153 hI144 hh145 h146 h150 xs151l h152 xs153l xs153r t156 t157 t158 t159 t160 t161 t162 t163 t164 t165 t166 t167 t168 t169 hm155; exact absurd hm155 (Nat.not_lt_zero _)
      | succ n154 ih43_154 =>
        intro l141 u142 w143 v147 v148 v149 xs151 xs153 hI144 hh145 h146 h150 xs151l h152 xs153l xs153r t156 t157 t158 t159 t160 t161 t162 t163 t164 t165 t166 t167 t168 t169 hm155
        refine v_iload rfl rfl ?_
        refine v_aload_n rfl rfl ?_
        refine v_get rfl h146 rfl ?_
        refine r_icmp_ge rfl (fun t170 => ?_) (fun t170 => ?_)
        · obtain ⟨o8, ho8, hs8⟩ := t169
          exact v_ret rfl ⟨rfl, hI144, hh145, ⟨v147, v148, v149, xs151, xs153, z136.toInt.toNat, o8, h146, h150, xs151l, h152, xs153l, xs153r, by omega, by omega, by omega, by omega, by omega, hF, by rw [show l141.toInt.toNat = (gi 0).toInt.toNat by omega] at ho8; exact ho8, hs8, t168⟩⟩
        · refine v_iload rfl rfl ?_
          refine v_iload rfl rfl ?_
          refine r_iadd rfl (by omega) (by omega) (fun z171 z171e => ?_)
          refine v_aload_n rfl rfl ?_
          refine v_get rfl h146 rfl ?_
          refine v_callS rfl (W_X11_around_x z171 v147 (by omega) (by omega) (by omega) (by omega) (by omega) hR hI144) rfl rfl rfl rfl rfl (by omega) (fun rv w172 hq173 => ?_)
          obtain ⟨⟨z174, rfl, z174p0, z174p1, z174p2, z174p3⟩, rfl⟩ := hq173
          have z174k : z174.toInt.toNat = (z136.toInt.toNat + l141.toInt.toNat) % (gi 0).toInt.toNat := j_ar (by omega) (by omega) (by omega)
          refine v_istore rfl (Nat.le_of_ble_eq_true rfl) ?_
          refine v_iload rfl rfl ?_
          refine r_if_eq rfl (fun t175 => ?_) (fun t175 => ?_)
          · refine v_aload_n rfl rfl ?_
            refine v_iload rfl rfl ?_
            refine v_callV rfl (W_X6_addRun_10_m z174 v147 v148 v149 xs151 xs153 (by omega) (by omega) (by omega) (by omega) (by omega) (by omega) (by omega) h146 h150 xs151l h152 xs153l xs153r hR hI144 hh145) rfl rfl h146 rfl rfl (by omega) (fun rv w176 hq177 => ?_)
            obtain ⟨rfl, hI179, hh180, ⟨m181, ss183, ys182, m181e, h184, h185, ss183l, h186, ys182l, ys182r, ys182g, ys182n, ss183g, ss183n⟩⟩ := hq177
            refine v_aload_n rfl rfl ?_
            refine v_get rfl h184 rfl ?_
            refine v_aload_n rfl rfl ?_
            refine v_get rfl h184 rfl ?_
            refine v_iconst (v := 1) rfl (by decide) ?_
            refine r_isub rfl (by omega) (by omega) (fun z187 z187e => ?_)
            skip
            refine v_dup2 rfl rfl ?_
            refine r_iaload rfl h186 ys182l (by omega) (by omega) (fun z188 z188m z188g => ?_)
            obtain ⟨z188a, z188b⟩ := ys182r z188 z188m
            have z99h : z188.toInt = 0 := by
              have q := congrArg Int32.toInt z188g
              rw [show z187.toInt.toNat = v148.toInt.toNat by omega] at q
              omega
            refine v_iconst (v := 1) rfl (by decide) ?_
            refine r_iadd rfl (by omega) (by omega) (fun z189 z189e => ?_)
            refine r_iastx rfl h186 ys182l (by omega) (by omega) (fun ys190 ys190l ys190m ys190g ys190n => ?_)
            have ys190r := r_rng ys190m ys182r (by omega) (by omega)
            refine r_gen (w' := w176.set 12 (.inl (0, .inl ys190))) (fun w191 e192 => ?_)
            have hI193 : pm_IX gi ga w191 := by rw [e192]; exact hI179.set 12 (by decide) ⟨ys190, ys190l, ys190r, rfl⟩
            have hh194 : pm_hi w0 w191 := by rw [e192]; exact hh180.set (by decide) _
            have h195 := r_get_ne e192 (show 12 ≠ 10 by decide) h184
            have h196 := r_get_ne e192 (show 12 ≠ 11 by decide) h185
            have h197 := r_get_eq e192 h186
            refine r_iinc rfl rfl (by decide) (by omega) (by omega) (fun z198 z198e => ?_)
            refine v_goto rfl ?_
            exact ih43_154 z198 (.int z174) w191 v147 m181 v149 ss183 ys190 hI193 hh194 h195 h196 ss183l h197 ys190l ys190r (by omega) (by omega) (by omega) (by omega) (by omega) (by omega) (by omega) (by omega) (by omega) (by omega) (by omega) (by omega) (by exact t168) (by
                rw [show z198.toInt.toNat = l141.toInt.toNat + 1 by omega, show m181.toInt.toNat = v148.toInt.toNat + 1 by omega]
                obtain ⟨o9, ho9, hs9⟩ := t169
                refine ⟨fs_o o9 v148.toInt.toNat l141.toInt.toNat, fs_lay.add ho9 ?_ (by omega) (fun i hi => ?_) ?_, fun i hi => ?_⟩
                · first
                  | exact Or.inl (by omega)
                  | (refine Or.inr ?_
                     rw [← z174k]
                     rcases z93p2 with g | g
                     · exact g.2
                     · exact absurd g.1 (by omega))
                · unfold sq_lk; rw [ys190n i (by omega), ys182n i (by omega)]
                · have q := congrArg Int32.toInt ys190g
                  rw [show z187.toInt.toNat = v148.toInt.toNat by omega] at q
                  have q2 : sq_lk ys190 v148.toInt.toNat = (ys190.getD v148.toInt.toNat 0).toInt := rfl
                  omega
                · by_cases e : i = v148.toInt.toNat
                  · rw [fs_o_e e, e, show sq_lk ss183 v148.toInt.toNat = z174.toInt from congrArg Int32.toInt ss183g]
                    unfold md_wk
                    rw [← z174k]
                    omega
                  · rw [fs_o_n e, show sq_lk ss183 i = sq_lk xs151 i from congrArg Int32.toInt (ss183n i e)]
                    exact hs9 i (by omega)) (by omega)
          · refine v_aload_n rfl rfl ?_
            refine v_aload_n rfl rfl ?_
            refine v_iload rfl rfl ?_
            refine v_iload_n rfl rfl ?_
            refine v_callV rfl (W_X6_isStart_10_1_x z174 y v147 v148 v149 (by omega) (by omega) (by omega) (by omega) (by omega) (by omega) (by omega) (by omega) (by omega) (by omega) (by omega) (by omega) h146 hR hI144) rfl rfl h146 rfl rfl (by omega) (fun rv w199 hq200 => ?_)
            obtain ⟨⟨z201, rfl, z201p0, z201p1, z201p2⟩, rfl⟩ := hq200
            skip
            refine r_if_eq rfl (fun t202 => ?_) (fun t202 => ?_)
            · refine v_aload_n rfl rfl ?_
              refine v_get rfl h146 rfl ?_
              refine v_aload_n rfl rfl ?_
              refine v_get rfl h146 rfl ?_
              refine v_iconst (v := 1) rfl (by decide) ?_
              refine r_isub rfl (by omega) (by omega) (fun z203 z203e => ?_)
              skip
              refine v_dup2 rfl rfl ?_
              refine r_iaload rfl h152 xs153l (by omega) (by omega) (fun z204 z204m z204g => ?_)
              obtain ⟨z204a, z204b⟩ := xs153r z204 z204m
              obtain ⟨o9, ho9, hs9⟩ := t169
              have q9 := ho9.2.2.2.1 (by omega)
              have z99h : z204.toInt = sq_lk xs153 (v148.toInt.toNat - 1) := by
                rw [show v148.toInt.toNat - 1 = z203.toInt.toNat by omega]
                exact congrArg Int32.toInt z204g
              refine v_iconst (v := 1) rfl (by decide) ?_
              refine r_iadd rfl (by omega) (by omega) (fun z205 z205e => ?_)
              refine r_iastx rfl h152 xs153l (by omega) (by omega) (fun ys206 ys206l ys206m ys206g ys206n => ?_)
              have ys206r := r_rng ys206m xs153r (by omega) (by omega)
              refine r_gen (w' := w143.set 12 (.inl (0, .inl ys206))) (fun w207 e208 => ?_)
              have hI209 : pm_IX gi ga w207 := by rw [e208]; exact hI144.set 12 (by decide) ⟨ys206, ys206l, ys206r, rfl⟩
              have hh210 : pm_hi w0 w207 := by rw [e208]; exact hh145.set (by decide) _
              have h211 := r_get_ne e208 (show 12 ≠ 10 by decide) h146
              have h212 := r_get_ne e208 (show 12 ≠ 11 by decide) h150
              have h213 := r_get_eq e208 h152
              refine r_iinc rfl rfl (by decide) (by omega) (by omega) (fun z214 z214e => ?_)
              refine v_goto rfl ?_
              exact ih43_154 z214 (.int z174) w207 v147 v148 v149 xs151 ys206 hI209 hh210 h211 h212 xs151l h213 ys206l ys206r (by omega) (by omega) (by omega) (by omega) (by omega) (by omega) (by omega) (by omega) (by omega) (by omega) (by omega) (by omega) (by exact t168) (by
                  rw [show z214.toInt.toNat = l141.toInt.toNat + 1 by omega]
                  refine ⟨o9, fs_lay.more ho9 (by omega) (fun q => ?_) (fun i hi => ?_) ?_, hs9⟩
                  · rcases q with q | q
                    · omega
                    · rw [← z174k] at q
                      rcases z201p2 with g | g
                      · exact absurd g.1 (by omega)
                      · exact g.2 q
                  · unfold sq_lk; rw [ys206n i (by omega)]
                  · have q := congrArg Int32.toInt ys206g
                    rw [show z203.toInt.toNat = v148.toInt.toNat - 1 by omega] at q
                    have q2 : sq_lk ys206 (v148.toInt.toNat - 1) = (ys206.getD (v148.toInt.toNat - 1) 0).toInt := rfl
                    omega) (by omega)
            · refine v_aload_n rfl rfl ?_
              refine v_iload rfl rfl ?_
              refine v_callV rfl (W_X6_addRun_10_m z174 v147 v148 v149 xs151 xs153 (by omega) (by omega) (by omega) (by omega) (by omega) (by omega) (by omega) h146 h150 xs151l h152 xs153l xs153r hR hI144 hh145) rfl rfl h146 rfl rfl (by omega) (fun rv w215 hq216 => ?_)
              obtain ⟨rfl, hI218, hh219, ⟨m220, ss222, ys221, m220e, h223, h224, ss222l, h225, ys221l, ys221r, ys221g, ys221n, ss222g, ss222n⟩⟩ := hq216
              refine v_aload_n rfl rfl ?_
              refine v_get rfl h223 rfl ?_
              refine v_aload_n rfl rfl ?_
              refine v_get rfl h223 rfl ?_
              refine v_iconst (v := 1) rfl (by decide) ?_
              refine r_isub rfl (by omega) (by omega) (fun z226 z226e => ?_)
              skip
              refine v_dup2 rfl rfl ?_
              refine r_iaload rfl h225 ys221l (by omega) (by omega) (fun z227 z227m z227g => ?_)
              obtain ⟨z227a, z227b⟩ := ys221r z227 z227m
              have z99h : z227.toInt = 0 := by
                have q := congrArg Int32.toInt z227g
                rw [show z226.toInt.toNat = v148.toInt.toNat by omega] at q
                omega
              refine v_iconst (v := 1) rfl (by decide) ?_
              refine r_iadd rfl (by omega) (by omega) (fun z228 z228e => ?_)
              refine r_iastx rfl h225 ys221l (by omega) (by omega) (fun ys229 ys229l ys229m ys229g ys229n => ?_)
              have ys229r := r_rng ys229m ys221r (by omega) (by omega)
              refine r_gen (w' := w215.set 12 (.inl (0, .inl ys229))) (fun w230 e231 => ?_)
              have hI232 : pm_IX gi ga w230 := by rw [e231]; exact hI218.set 12 (by decide) ⟨ys229, ys229l, ys229r, rfl⟩
              have hh233 : pm_hi w0 w230 := by rw [e231]; exact hh219.set (by decide) _
              have h234 := r_get_ne e231 (show 12 ≠ 10 by decide) h223
              have h235 := r_get_ne e231 (show 12 ≠ 11 by decide) h224
              have h236 := r_get_eq e231 h225
              refine r_iinc rfl rfl (by decide) (by omega) (by omega) (fun z237 z237e => ?_)
              refine v_goto rfl ?_
              exact ih43_154 z237 (.int z174) w230 v147 m220 v149 ss222 ys229 hI232 hh233 h234 h235 ss222l h236 ys229l ys229r (by omega) (by omega) (by omega) (by omega) (by omega) (by omega) (by omega) (by omega) (by omega) (by omega) (by omega) (by omega) (by exact t168) (by
                  rw [show z237.toInt.toNat = l141.toInt.toNat + 1 by omega, show m220.toInt.toNat = v148.toInt.toNat + 1 by omega]
                  obtain ⟨o9, ho9, hs9⟩ := t169
                  refine ⟨fs_o o9 v148.toInt.toNat l141.toInt.toNat, fs_lay.add ho9 ?_ (by omega) (fun i hi => ?_) ?_, fun i hi => ?_⟩
                  · first
                    | exact Or.inl (by omega)
                    | (refine Or.inr ?_
                       rw [← z174k]
                       rcases z201p2 with g | g
                       · exact g.2
                       · exact absurd g.1 (by omega))
                  · unfold sq_lk; rw [ys229n i (by omega), ys221n i (by omega)]
                  · have q := congrArg Int32.toInt ys229g
                    rw [show z226.toInt.toNat = v148.toInt.toNat by omega] at q
                    have q2 : sq_lk ys229 v148.toInt.toNat = (ys229.getD v148.toInt.toNat 0).toInt := rfl
                    omega
                  · by_cases e : i = v148.toInt.toNat
                    · rw [fs_o_e e, e, show sq_lk ss222 v148.toInt.toNat = z174.toInt from congrArg Int32.toInt ss222g]
                      unfold md_wk
                      rw [← z174k]
                      omega
                    · rw [fs_o_n e, show sq_lk ss222 i = sq_lk xs151 i from congrArg Int32.toInt (ss222n i e)]
                      exact hs9 i (by omega)) (by omega)
    exact L154 _ (0 : Int32) (.null) w130 (gi 0) (0 : Int32) (1 : Int32) xs138 xs140 hI132 hh133 h135 h137 xs138l h139 xs140l xs140r (by omega) (by omega) (by omega) (by omega) (by omega) (by omega) (by omega) (by omega) (by omega) (by omega) (by omega) (by omega) (by
        rcases z20p2 with ⟨g1, g2⟩ | ⟨g1, g2, g3⟩
        · first
          | exact Or.inl ⟨by omega, g2⟩
          | (exfalso; omega)
        · first
          | (exfalso; omega)
          | (refine Or.inr ⟨by omega, ?_⟩
             rw [show z136.toInt.toNat = z20.toInt.toNat by omega]
             exact g2)) (by exact ⟨fun _ => 0, ⟨fun i hi => by rw [show (0 : Int32).toInt.toNat = 0 from rfl] at hi; omega, fun j hj => by rw [show (0 : Int32).toInt.toNat = 0 from rfl] at hj; omega, fun i hi => by rw [show (0 : Int32).toInt.toNat = 0 from rfl] at hi; omega, fun hi => by rw [show (0 : Int32).toInt.toNat = 0 from rfl] at hi; omega, fun hi => by rw [show (0 : Int32).toInt.toNat = 0 from rfl] at hi; omega⟩, fun i hi => by rw [show (0 : Int32).toInt.toNat = 0 from rfl] at hi; omega⟩) (Nat.lt_add_one _)
set_option maxRecDepth 100000 in
theorem W_X11_mend_0_x {sc : pm_S} {w w0 : pm_W} {gi : Nat → Int32} {ga : Nat → List Int32} (y : Int32)  (hR : pm_Rg gi ga) (hI : pm_IX gi ga w) (hh : pm_hi w0 w) : pm_Mt sc 5 84 2 [.ref 0, .int y] w (fun rv w' => pm_wI (fun v => sq_Pmend gi ga y v) rv ∧ pm_IX gi ga w' ∧ pm_hi w0 w') := by
  intro d hd
  obtain ⟨g0a, g0b⟩ := hR.n0
  obtain ⟨g1a, g1b⟩ := hR.n1
  obtain ⟨g2a, g2b⟩ := hR.n2
  obtain ⟨g3a, g3b⟩ := hR.n3
  obtain ⟨g4a, g4b⟩ := hR.n4
  obtain ⟨g5a, g5b⟩ := hR.n5
  obtain ⟨g6a, g6b⟩ := hR.n6
  obtain ⟨g7a, g7b⟩ := hR.n7
  obtain ⟨g8a, g8b⟩ := hR.n8
  have km1 : (-1 : Int32).toInt = -1 := by decide
  show pm_V sc d 84 0 [.ref 0, .int y] [] w _
  refine v_iload_n rfl rfl ?_
  refine v_aload_n rfl rfl ?_
  obtain ⟨v2, ⟨v2z, v2e⟩, h1⟩ := hI.2 0 (by decide)
  have v2z := v2z.imp i_eq.mp i_eq.mp
  rw [i_0, i_1] at v2z
  refine v_get rfl h1 rfl ?_
  have h3 : _ = some _ := hI.2 1 (by decide)
  refine v_get rfl h3 rfl ?_
  refine v_callS rfl (W_X11_isPlace y (gi 1) hR hI) rfl rfl rfl rfl rfl (by omega) (fun rv w4 hq5 => ?_)
  obtain ⟨⟨z6, rfl, z6p0⟩, rfl⟩ := hq5
  refine r_if_ne rfl (fun t7 => ?_) (fun t7 => ?_)
  · refine v_aload_n rfl rfl ?_
    refine v_get rfl h1 rfl ?_
    refine v_aload_n rfl rfl ?_
    refine v_get rfl h1 rfl ?_
    refine v_iload_n rfl rfl ?_
    obtain ⟨v9, v10, v11, ⟨v9a, v9b⟩, ⟨v10a, v10b⟩, v11z, h8⟩ := hI.2 10 (by decide)
    have v11z := v11z.imp i_eq.mp i_eq.mp
    rw [i_0, i_1] at v11z
    refine v_callV rfl (W_X6_readFrom_10_1_m y (by omega) (by omega) hR hI hh) rfl rfl h8 rfl rfl (by omega) (fun rv w12 hq13 => ?_)
    obtain ⟨rfl, hI15, hh16, ⟨v17, m18, v19, ss21, ls20, F_ls20, o_ls20, h22, h23, ss21l, h24, ls20l, ls20r, m18a, m18b, v17e, v19a, v19b, hF_ls20, hl_ls20, hs_ls20, hc_ls20⟩⟩ := hq13
    refine v_aload_n rfl rfl ?_
    obtain ⟨v26, ⟨v26z, v26e⟩, h25⟩ := hI15.2 0 (by decide)
    have v26z := v26z.imp i_eq.mp i_eq.mp
    rw [i_0, i_1] at v26z
    refine v_get rfl h25 rfl ?_
    refine v_aload_n rfl rfl ?_
    refine v_get rfl h25 rfl ?_
    refine v_callV rfl (W_X6_leastMending_10_m (gi 2) v17 m18 v19 ss21 ls20 (by omega) (by omega) (by omega) (by omega) (by omega) (by omega) (by omega) (by omega) (by omega) h22 h23 ss21l h24 ls20l ls20r hR hI15 hh16 hF_ls20 hl_ls20 hs_ls20 hc_ls20) rfl rfl h22 rfl rfl (by omega) (fun rv w27 hq28 => ?_)
    obtain ⟨⟨z29, rfl, z29p0, z29p1⟩, hI30, hh31⟩ := hq28
    exact v_iret rfl ⟨⟨_, rfl, (by exact Or.inr ⟨by omega, z29p0, z29p1⟩)⟩, hI30, hh31⟩
  · refine v_aload_n rfl rfl ?_
    refine v_iconst (v := (-1)) rfl (by decide) ?_
    refine v_callV rfl (c_X_refuse (-1 : Int32) (by unfold pm_isR; first | decide | exact Or.inl rfl) hR hI) rfl rfl h1 rfl rfl (by omega) (fun rv w32 hq33 => ?_)
    obtain ⟨rfl, hI34, hh35x⟩ := hq33
    have hI34 : pm_IX gi ga w32 := hI34
    have hh35 := hh.tr hh35x
    exact v_iret rfl ⟨⟨_, rfl, (by exact Or.inl ⟨by omega, by omega⟩)⟩, hI34, hh35⟩

