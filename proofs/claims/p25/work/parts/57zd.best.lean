theorem bs_fr_set {t i n r : Nat} (hi : t.testBit i = false) (hn : i < n) (hr : pm_fr t 0 n = r + 1) : pm_fr (t ||| 2 ^ i) 0 n = r := by
  have h1 : ∀ m, i < m → pm_fr (t ||| 2 ^ i) 0 m + 1 = pm_fr t 0 m := fun m => by
    have h0 : ∀ m, m ≤ i → pm_fr (t ||| 2 ^ i) 0 m = pm_fr t 0 m := fun m => by
      induction m with
      | zero => intro _; rfl
      | succ m ih =>
        intro h
        show pm_fr (t ||| 2 ^ i) 0 m + (if 0 ≤ m ∧ (t ||| 2 ^ i).testBit m = false then 1 else 0) = pm_fr t 0 m + (if 0 ≤ m ∧ t.testBit m = false then 1 else 0)
        rw [ih (by omega), Nat.testBit_or, Nat.testBit_two_pow_of_ne (show i ≠ m by omega), Bool.or_false]
    induction m with
    | zero => intro h; omega
    | succ m ih =>
      intro h
      show pm_fr (t ||| 2 ^ i) 0 m + (if 0 ≤ m ∧ (t ||| 2 ^ i).testBit m = false then 1 else 0) + 1 = pm_fr t 0 m + (if 0 ≤ m ∧ t.testBit m = false then 1 else 0)
      by_cases e : i = m
      · subst e
        rw [h0 i (Nat.le_refl _), if_neg (show ¬ (0 ≤ i ∧ (t ||| 2 ^ i).testBit i = false) from fun q => by rw [Nat.testBit_or, Nat.testBit_two_pow_self, Bool.or_true] at q; exact absurd q.2 (by decide)), if_pos (show 0 ≤ i ∧ t.testBit i = false from ⟨Nat.zero_le _, hi⟩)]
      · rw [Nat.testBit_or, Nat.testBit_two_pow_of_ne e, Bool.or_false, ← ih (by omega)]
        omega
  have := h1 n hn
  omega
set_option maxRecDepth 100000 in
theorem g_goOn {sc : pm_S} {w0 : pm_W} {gi : Nat → Int32} {ga : Nat → List Int32} (hR : pm_Rg gi ga) {op : List Int32} (lo : op.length = 7) (ro : ∀ x ∈ op, pm_rng x (0) 11) (ho : bs_op (ga 3) (gi 7).toInt.toNat op) (hn : (bs_n gi ga) ≤ 7) : ∀ r : Nat, ∀ (w : pm_W) (p e l s kn lt pl : Int32) (rows tr tk : List Int32) (c t : Nat) (pre : List Nat), pm_IX gi ga w → pm_h0 w0 w → w[32]? = some (.inr (2, [.int kn, .int lt, .int pl, .ref 33, .ref 34, .ref 35, .ref 36])) → w[33]? = some (.inl (0, .inl rows)) → w[34]? = some (.inl (0, .inl op)) → w[35]? = some (.inl (0, .inl tr)) → w[36]? = some (.inl (1, .inl tk)) → rows.length = 7 → (∀ x ∈ rows, pm_rng x (0) 11) → tr.length = 7 → (∀ x ∈ tr, pm_rng x (0) 11) → tk.length = 7 → (∀ x ∈ tk, pm_rng x (0) 1) → 0 ≤ kn.toInt → kn.toInt ≤ 1 → pl.toInt = ((bs_n gi ga) : Int) → p.toInt + (r : Int) = ((bs_n gi ga) : Int) → pre.length + r = (bs_n gi ga) → (∀ i, i < pre.length → tr.getD i 0 = nI (bs_O gi ga (pre.getD i 0))) → (∀ i, i < 7 → (tk.getD i 0).toInt = if Nat.testBit t i = true then 1 else 0) → pm_fr t 0 (bs_n gi ga) = r → 0 ≤ e.toInt → e.toInt ≤ 3000 + 138 * (pre.length : Int) → -9 ≤ l.toInt → l.toInt ≤ 5 → 0 ≤ s.toInt → s.toInt ≤ 4000 * (pre.length : Int) → bs_nd (bs_C gi ga) (bs_L gi ga) (bs_D gi ga) (bs_v gi ga) (bs_n gi ga) c pre r t e.toInt l.toInt s.toInt → bs_st (bs_v gi ga) (bs_seq (bs_n gi ga) (bs_n gi ga) 0) c lt.toInt (bs_rw gi ga rows) → pm_Mt sc (r + 2) 10 9 [.ref 32, .ref 27, .int p, .int e, .int l, .int s] w (fun rv w' => rv = none ∧ pm_IX gi ga w' ∧ pm_h0 w0 w' ∧ ∃ (kn' lt' pl' : Int32) (rows' tr' tk' : List Int32), w'[32]? = some (.inr (2, [.int kn', .int lt', .int pl', .ref 33, .ref 34, .ref 35, .ref 36])) ∧ w'[33]? = some (.inl (0, .inl rows')) ∧ w'[34]? = some (.inl (0, .inl op)) ∧ w'[35]? = some (.inl (0, .inl tr')) ∧ w'[36]? = some (.inl (1, .inl tk')) ∧ rows'.length = 7 ∧ (∀ x ∈ rows', pm_rng x (0) 11) ∧ tr'.length = 7 ∧ (∀ x ∈ tr', pm_rng x (0) 11) ∧ tk'.length = 7 ∧ (∀ x ∈ tk', pm_rng x (0) 1) ∧ 0 ≤ kn'.toInt ∧ kn'.toInt ≤ 1 ∧ pl'.toInt = ((bs_n gi ga) : Int) ∧ (∀ i, i < 7 → (tk'.getD i 0).toInt = if Nat.testBit t i = true then 1 else 0) ∧ (∀ i, i < pre.length → tr'.getD i 0 = tr.getD i 0) ∧ bs_st (bs_v gi ga) (bs_seq (bs_n gi ga) (bs_n gi ga) 0) (c + bs_f r) lt'.toInt (bs_rw gi ga rows')) := by
  intro r
  induction r with
  | zero =>
    intro w p e l s kn lt pl rows tr tk c t pre hI hh h32 h33 h34 h35 h36 l33 r33 l35 r35 l36 r36 kn0 kn1 hpl hp hpre htr hmk hfr e0 e1 l0 l1 s0 s1 hnd hst d hd
    obtain ⟨g0a, g0b⟩ := hR.n0
    obtain ⟨g1a, g1b⟩ := hR.n1
    obtain ⟨g2a, g2b⟩ := hR.n2
    obtain ⟨g3a, g3b⟩ := hR.n3
    obtain ⟨g4a, g4b⟩ := hR.n4
    obtain ⟨g5a, g5b⟩ := hR.n5
    obtain ⟨g6a, g6b⟩ := hR.n6
    obtain ⟨g7a, g7b⟩ := hR.n7
    obtain ⟨g8a, g8b⟩ := hR.n8
    have k0 : (0 : Int32).toInt = 0 := by decide
    show pm_V sc d 10 0 [.ref 32, .ref 27, .int p, .int e, .int l, .int s, .null, .null, .null] [] w _
    refine v_iload rfl rfl ?_
    refine v_aload_n rfl rfl ?_
    refine v_get rfl h32 rfl ?_
    refine r_icmp_lt rfl (fun t1 => ?_) (fun t1 => ?_)
    · refine v_iload_n rfl rfl ?_
      refine v_aload_n rfl rfl ?_
      refine v_get rfl h32 rfl ?_
      refine r_icmp_lt rfl (fun hx => absurd hx (by omega)) (fun _ => ?_)
      refine v_aload_n rfl rfl ?_
      refine v_iload rfl rfl ?_
      refine v_put rfl h32 rfl (Nat.le_of_ble_eq_true rfl) ?_
      refine r_gen (w' := w.set 32 (.inr (2, [.int kn, .int s, .int pl, .ref 33, .ref 34, .ref 35, .ref 36]))) (fun w2 e3 => ?_)
      have hI4 : pm_IX gi ga w2 := by rw [e3]; exact hI.set 32 (by decide) ⟨kn, s, pl, ((show kn.toInt = 0 ∨ kn.toInt = 1 by omega).imp i_eq.mpr i_eq.mpr), ⟨by omega, by omega⟩, rfl⟩
      have hh5 : pm_h0 w0 w2 := by rw [e3]; exact hh.set (by decide) _
      have h6 := r_get_ne e3 (show 32 ≠ 33 by decide) h33
      have h7 := r_get_ne e3 (show 32 ≠ 34 by decide) h34
      have h8 := r_get_ne e3 (show 32 ≠ 35 by decide) h35
      have h9 := r_get_ne e3 (show 32 ≠ 36 by decide) h36
      have h10 := r_get_eq e3 h32
      refine v_aload_n rfl rfl ?_
      refine v_get rfl h10 rfl ?_
      refine v_iconst (v := 0) rfl (by decide) ?_
      refine v_aload_n rfl rfl ?_
      refine v_get rfl h10 rfl ?_
      refine v_iconst (v := 0) rfl (by decide) ?_
      refine v_aload_n rfl rfl ?_
      refine v_get rfl h10 rfl ?_
      refine r_copyix rfl (by omega) (by omega) rfl rfl rfl rfl h8 h6 l35 l33 (by omega) (by omega) (fun ys11 ys11l ys11m ys11j => ?_)
      have ys11r := r_rng2 ys11m r35 r33
      refine r_gen (w' := w2.set 33 (.inl (0, .inl ys11))) (fun w12 e13 => ?_)
      have hI14 : pm_IX gi ga w12 := by rw [e13]; exact hI4.set 33 (by decide) ⟨ys11, ys11l, ys11r, rfl⟩
      have hh15 : pm_h0 w0 w12 := by rw [e13]; exact hh5.set (by decide) _
      have h16 := r_get_ne e13 (show 33 ≠ 34 by decide) h7
      have h17 := r_get_ne e13 (show 33 ≠ 35 by decide) h8
      have h18 := r_get_ne e13 (show 33 ≠ 36 by decide) h9
      have h19 := r_get_ne e13 (show 33 ≠ 32 by decide) h10
      have h20 := r_get_eq e13 h6
      exact v_ret rfl ⟨rfl, hI14, hh15, kn, s, pl, ys11, tr, tk, h19, h20, h16, h17, h18, ys11l, ys11r, l35, r35, l36, r36, by omega, by omega, by omega, hmk, (fun i hi => rfl), (by
      have g := hst.leaf (R' := bs_rw gi ga ys11) hnd (by omega) (fun i hi => by rw [ys11j i (by omega)]; exact htr i (by omega))
      exact g)⟩
    · exact v_ret rfl ⟨rfl, hI, hh, kn, lt, pl, rows, tr, tk, h32, h33, h34, h35, h36, l33, r33, l35, r35, l36, r36, by omega, by omega, by omega, hmk, (fun i hi => rfl), hst.skip hnd (by omega) (by omega)⟩
  | succ r ih =>
    intro w p e l s kn lt pl rows tr tk c t pre hI hh h32 h33 h34 h35 h36 l33 r33 l35 r35 l36 r36 kn0 kn1 hpl hp hpre htr hmk hfr e0 e1 l0 l1 s0 s1 hnd hst d hd
    obtain ⟨g0a, g0b⟩ := hR.n0
    obtain ⟨g1a, g1b⟩ := hR.n1
    obtain ⟨g2a, g2b⟩ := hR.n2
    obtain ⟨g3a, g3b⟩ := hR.n3
    obtain ⟨g4a, g4b⟩ := hR.n4
    obtain ⟨g5a, g5b⟩ := hR.n5
    obtain ⟨g6a, g6b⟩ := hR.n6
    obtain ⟨g7a, g7b⟩ := hR.n7
    obtain ⟨g8a, g8b⟩ := hR.n8
    have k0 : (0 : Int32).toInt = 0 := by decide
    have k1 : (1 : Int32).toInt = 1 := by decide
    show pm_V sc d 10 0 [.ref 32, .ref 27, .int p, .int e, .int l, .int s, .null, .null, .null] [] w _
    refine v_iload rfl rfl ?_
    refine v_aload_n rfl rfl ?_
    refine v_get rfl h32 rfl ?_
    refine r_icmp_lt rfl (fun t1 => ?_) (fun t1 => ?_)
    · refine v_iload_n rfl rfl ?_
      refine v_aload_n rfl rfl ?_
      refine v_get rfl h32 rfl ?_
      refine r_icmp_lt rfl (fun _ => ?_) (fun hx => absurd hx (by omega))
      refine v_iconst (v := 0) rfl (by decide) ?_
      refine v_istore rfl (Nat.le_of_ble_eq_true rfl) ?_
      have L19 : ∀ (n19 : Nat) (l2 : Int32) (u3 : Value) (u4 : Value) (w5 : pm_W) (v10 : Int32) (v11 : Int32) (v12 : Int32) (xs14 : List Int32) (xs16 : List Int32) (xs18 : List Int32), pm_IX gi ga w5 → pm_h0 w0 w5 → w5[34]? = some (.inl (0, .inl op)) → w5[32]? = some (.inr (2, [.int v10, .int v11, .int v12, .ref 33, .ref 34, .ref 35, .ref 36])) → w5[33]? = some (.inl (0, .inl xs14)) → xs14.length = 7 → (∀ x ∈ xs14, pm_rng x (0) 11) → w5[35]? = some (.inl (0, .inl xs16)) → xs16.length = 7 → (∀ x ∈ xs16, pm_rng x (0) 11) → w5[36]? = some (.inl (1, .inl xs18)) → xs18.length = 7 → (∀ x ∈ xs18, pm_rng x (0) 1) → 0 ≤ l2.toInt → l2.toInt ≤ 7 → 0 ≤ v10.toInt → v10.toInt ≤ 1 → 0 ≤ v12.toInt → v12.toInt ≤ 7 → (l2.toInt ≤ ((bs_n gi ga) : Int)) → (v12.toInt = ((bs_n gi ga) : Int)) → ((∀ i, i < 7 → (xs18.getD i 0).toInt = if Nat.testBit t i = true then 1 else 0)) → ((∀ i, i < pre.length → xs16.getD i 0 = tr.getD i 0)) → (bs_st (bs_v gi ga) (bs_seq (bs_n gi ga) (bs_n gi ga) 0) (c + pm_fr t 0 l2.toInt.toNat * bs_f r) v11.toInt (bs_rw gi ga xs14)) → (7 - l2.toInt).toNat < n19 → pm_V sc d 10 45 [.ref 32, .ref 27, .int p, .int e, .int l, .int s, .int l2, u3, u4] [] w5 (fun rv w' => rv = none ∧ pm_IX gi ga w' ∧ pm_h0 w0 w' ∧ ∃ (kn' lt' pl' : Int32) (rows' tr' tk' : List Int32), w'[32]? = some (.inr (2, [.int kn', .int lt', .int pl', .ref 33, .ref 34, .ref 35, .ref 36])) ∧ w'[33]? = some (.inl (0, .inl rows')) ∧ w'[34]? = some (.inl (0, .inl op)) ∧ w'[35]? = some (.inl (0, .inl tr')) ∧ w'[36]? = some (.inl (1, .inl tk')) ∧ rows'.length = 7 ∧ (∀ x ∈ rows', pm_rng x (0) 11) ∧ tr'.length = 7 ∧ (∀ x ∈ tr', pm_rng x (0) 11) ∧ tk'.length = 7 ∧ (∀ x ∈ tk', pm_rng x (0) 1) ∧ 0 ≤ kn'.toInt ∧ kn'.toInt ≤ 1 ∧ pl'.toInt = ((bs_n gi ga) : Int) ∧ (∀ i, i < 7 → (tk'.getD i 0).toInt = if Nat.testBit t i = true then 1 else 0) ∧ (∀ i, i < pre.length → tr'.getD i 0 = tr.getD i 0) ∧ bs_st (bs_v gi ga) (bs_seq (bs_n gi ga) (bs_n gi ga) 0) (c + bs_f (r + 1)) lt'.toInt (bs_rw gi ga rows')) := by
        intro n19
        induction n19 with
        | zero => intro l2 u3 u4 w5 v10 v11 v12 xs14 xs16 xs18 hI6 hh7 h8 h9 h13 xs14l xs14r h15 xs16l xs16r h17 xs18l xs18r t21 t22 t23 t24 t25 t26 t27 t28 t29 t30 t31 hm20; exact absurd hm20 (Nat.not_lt_zero _)
        | succ n19 ih45_19 =>
          intro l2 u3 u4 w5 v10 v11 v12 xs14 xs16 xs18 hI6 hh7 h8 h9 h13 xs14l xs14r h15 xs16l xs16r h17 xs18l xs18r t21 t22 t23 t24 t25 t26 t27 t28 t29 t30 t31 hm20
          refine v_iload rfl rfl ?_
          refine v_aload_n rfl rfl ?_
          refine v_get rfl h9 rfl ?_
          refine r_icmp_ge rfl (fun t32 => ?_) (fun t32 => ?_)
          · exact v_ret rfl ⟨rfl, hI6, hh7, v10, v11, v12, xs14, xs16, xs18, h9, h13, h8, h15, h17, xs14l, xs14r, xs16l, xs16r, xs18l, xs18r, by omega, by omega, by omega, t29, t30, (by
      have g := t31
      rw [show l2.toInt.toNat = (bs_n gi ga) by omega, hfr] at g
      exact g)⟩
          · refine v_aload_n rfl rfl ?_
            refine v_get rfl h9 rfl ?_
            refine v_iload rfl rfl ?_
            refine r_baload rfl h17 xs18l (by omega) (by omega) (fun z33 z33m z33g => ?_)
            obtain ⟨z33a, z33b⟩ := xs18r z33 z33m
            have z33h : z33.toInt = if Nat.testBit t l2.toInt.toNat = true then 1 else 0 := by
              rw [z33g]
              exact t29 l2.toInt.toNat (by omega)
            refine r_if_ne rfl (fun t34 => ?_) (fun t34 => ?_)
            · refine r_iinc rfl rfl (by decide) (by omega) (by omega) (fun z35 z35e => ?_)
              refine v_goto rfl ?_
              exact ih45_19 z35 (u3) (u4) w5 v10 v11 v12 xs14 xs16 xs18 hI6 hh7 h8 h9 h13 xs14l xs14r h15 xs16l xs16r h17 xs18l xs18r (by omega) (by omega) (by omega) (by omega) (by omega) (by omega) (by omega) (by omega) (by exact t29) (by exact t30) (by
                  have hone := pm_fr_add (t := t) (a := 0) (l2.toInt.toNat + 1) l2.toInt.toNat (by omega) (by omega)
                  have hb : Nat.testBit t l2.toInt.toNat = true := by
                    cases hb : Nat.testBit t l2.toInt.toNat with
                    | true => rfl
                    | false => rw [hb, if_neg (by decide)] at z33h; omega
                  rw [pm_fr_one, hb, if_neg (by decide), Nat.add_zero] at hone
                  rw [show z35.toInt.toNat = l2.toInt.toNat + 1 by omega, hone]
                  exact t31) (by omega)
            · refine v_aload_n rfl rfl ?_
              refine v_get rfl h9 rfl ?_
              refine v_iload rfl rfl ?_
              refine r_iaload rfl h8 lo (by omega) (by omega) (fun z36 z36m z36g => ?_)
              obtain ⟨z36a, z36b⟩ := ro z36 z36m
              obtain ⟨z36q, z36o⟩ := ho.at (p := l2.toInt.toNat) (show l2.toInt.toNat < bs_no (ga 3) (gi 7).toInt.toNat from (show l2.toInt.toNat < bs_n gi ga by omega))
              have z36O : z36.toInt.toNat = bs_O gi ga l2.toInt.toNat := by
                rw [z36g, z36q, nI_toInt (by omega), Int.toNat_natCast]
                rfl
              refine v_istore rfl (Nat.le_of_ble_eq_true rfl) ?_
              refine v_iload_n rfl rfl ?_
              refine v_aload_n rfl rfl ?_
              refine v_iload rfl rfl ?_
              refine v_iload rfl rfl ?_
              have h37 : _ = some _ := hI6.2 27 (by decide)
              refine v_callV rfl (W_X9_daysFor_27_x z36 l (by omega) (by omega) hR hI6) rfl rfl h37 rfl rfl (by omega) (fun rv w38 hq39 => ?_)
              obtain ⟨⟨z40, rfl, z40p0, z40p1, z40p2⟩, rfl⟩ := hq39
              skip
              refine r_iadd rfl (by omega) (by omega) (fun z41 z41e => ?_)
              refine v_istore rfl (Nat.le_of_ble_eq_true rfl) ?_
              refine v_aload_n rfl rfl ?_
              refine v_get rfl h9 rfl ?_
              refine v_iload rfl rfl ?_
              refine v_iconst (v := 1) rfl (by decide) ?_
              refine r_bastx rfl h17 xs18l (by omega) (by omega) (by omega) (fun ys42 ys42l ys42m ys42g ys42n => ?_)
              have ys42r := r_rng ys42m xs18r (by omega) (by omega)
              refine r_gen (w' := w5.set 36 (.inl (1, .inl ys42))) (fun w43 e44 => ?_)
              have hI45 : pm_IX gi ga w43 := by rw [e44]; exact hI6.set 36 (by decide) ⟨ys42, ys42l, ys42r, rfl⟩
              have hh46 : pm_h0 w0 w43 := by rw [e44]; exact hh7.set (by decide) _
              have h47 := r_get_ne e44 (show 36 ≠ 34 by decide) h8
              have h48 := r_get_ne e44 (show 36 ≠ 32 by decide) h9
              have h49 := r_get_ne e44 (show 36 ≠ 33 by decide) h13
              have h50 := r_get_ne e44 (show 36 ≠ 35 by decide) h15
              have h51 := r_get_ne e44 (show 36 ≠ 27 by decide) h37
              have h52 := r_get_eq e44 h17
              refine v_aload_n rfl rfl ?_
              refine v_get rfl h48 rfl ?_
              refine v_iload_n rfl rfl ?_
              refine v_iload rfl rfl ?_
              refine r_iastx rfl h50 xs16l (by omega) (by omega) (fun ys53 ys53l ys53m ys53g ys53n => ?_)
              have ys53r := r_rng ys53m xs16r (by omega) (by omega)
              refine r_gen (w' := w43.set 35 (.inl (0, .inl ys53))) (fun w54 e55 => ?_)
              have hI56 : pm_IX gi ga w54 := by rw [e55]; exact hI45.set 35 (by decide) ⟨ys53, ys53l, ys53r, rfl⟩
              have hh57 : pm_h0 w0 w54 := by rw [e55]; exact hh46.set (by decide) _
              have h58 := r_get_ne e55 (show 35 ≠ 34 by decide) h47
              have h59 := r_get_ne e55 (show 35 ≠ 32 by decide) h48
              have h60 := r_get_ne e55 (show 35 ≠ 33 by decide) h49
              have h61 := r_get_ne e55 (show 35 ≠ 27 by decide) h51
              have h62 := r_get_ne e55 (show 35 ≠ 36 by decide) h52
              have h63 := r_get_eq e55 h50
              refine v_aload_n rfl rfl ?_
              refine v_aload_n rfl rfl ?_
              refine v_iload_n rfl rfl ?_
              refine v_iconst (v := 1) rfl (by decide) ?_
              refine r_iadd rfl (by omega) (by omega) (fun z64 z64e => ?_)
              refine v_iload rfl rfl ?_
              refine v_aload_n rfl rfl ?_
              refine v_get rfl h61 rfl ?_
              refine v_iload rfl rfl ?_
              have h65 : _ = some _ := hI56.2 29 (by decide)
              refine r_iaload rfl h65 hR.l1 (by omega) (by omega) (fun z66 z66m z66g => ?_)
              obtain ⟨z66a, z66b⟩ := hR.r1 z66 z66m
              have z66h : z66.toInt = ((ga 1).getD z36.toInt.toNat 0).toInt := congrArg Int32.toInt z66g
              refine v_iload rfl rfl ?_
              refine v_aload_n rfl rfl ?_
              refine v_iload rfl rfl ?_
              refine v_iload rfl rfl ?_
              refine v_callV rfl (W_X9_lateOf_27_x z36 z41 (by omega) (by omega) (by omega) (by omega) hR hI56) rfl rfl h61 rfl rfl (by omega) (fun rv w67 hq68 => ?_)
              obtain ⟨⟨z69, rfl, z69p0, z69p1, z69p2, z69p3⟩, rfl⟩ := hq68
              skip
              refine r_iadd rfl (by omega) (by omega) (fun z70 z70e => ?_)
              have hfree : Nat.testBit t l2.toInt.toNat = false := by
                cases hb : Nat.testBit t l2.toInt.toNat with
                | false => rfl
                | true => rw [hb, if_pos rfl] at z33h; omega
              have hadd := pm_fr_add (t := t) (a := 0) (bs_n gi ga) (l2.toInt.toNat + 1) (by omega) (by omega)
              have hone := pm_fr_add (t := t) (a := 0) (l2.toInt.toNat + 1) l2.toInt.toNat (by omega) (by omega)
              rw [pm_fr_one, hfree, if_pos rfl] at hone
              have hlt : pm_fr t 0 l2.toInt.toNat < r + 1 := by omega
              have hch := hnd.child hfree (show l2.toInt.toNat < (bs_n gi ga) by omega) hlt
              have hC : bs_C gi ga l2.toInt.toNat l.toInt = z40.toInt := by
                show bs_days gi ga (bs_O gi ga l2.toInt.toNat) l.toInt = _
                rw [← z36O]
                exact z40p2.symm
              have hD : bs_D gi ga l2.toInt.toNat = ((ga 2).getD z36.toInt.toNat 0).toInt := by
                show ((ga 2).getD (bs_O gi ga l2.toInt.toNat) 0).toInt = _
                rw [← z36O]
              have hL : bs_L gi ga l2.toInt.toNat = z66.toInt := by
                show ((ga 1).getD (bs_O gi ga l2.toInt.toNat) 0).toInt = _
                rw [← z36O]
                exact z66h.symm
              rw [hC, hD, hL] at hch
              have hs9 : s.toInt + max 0 (e.toInt + z40.toInt - ((ga 2).getD z36.toInt.toNat 0).toInt) = z70.toInt := by have := z69p3; omega
              have he9 : e.toInt + z40.toInt = z41.toInt := by omega
              rw [hs9, he9] at hch
              have htr9 : (∀ i, i < (pre ++ [l2.toInt.toNat]).length → ys53.getD i 0 = nI (bs_O gi ga ((pre ++ [l2.toInt.toNat]).getD i 0))) := fun i hi => by
                rw [List.length_append, List.length_singleton] at hi
                by_cases ei : i = pre.length
                · subst ei
                  have q9 := ys53g
                  rw [show p.toInt.toNat = pre.length by omega] at q9
                  rw [q9, bs_gb]
                  rw [← z36O]
                  exact i_nI (by omega)
                · rw [ys53n i (by omega), bs_ga (by omega), t30 i (by omega)]
                  exact htr i (by omega)
              have hmk9 : (∀ i, i < 7 → (ys42.getD i 0).toInt = if Nat.testBit (t ||| 2 ^ l2.toInt.toNat) i = true then 1 else 0) := fun i hi => by
                rw [Nat.testBit_or]
                by_cases ei : i = l2.toInt.toNat
                · subst ei
                  rw [ys42g, Nat.testBit_two_pow_self, Bool.or_true, if_pos rfl]
                  rfl
                · rw [ys42n i ei, Nat.testBit_two_pow_of_ne (Ne.symm ei), Bool.or_false]
                  exact t29 i hi
              have hfr9 : pm_fr (t ||| 2 ^ l2.toInt.toNat) 0 (bs_n gi ga) = r := bs_fr_set hfree (show l2.toInt.toNat < (bs_n gi ga) by omega) hfr
              refine v_callV rfl (ih w54 z64 z41 z66 z70 v10 v11 v12 xs14 ys53 ys42 (c + pm_fr t 0 l2.toInt.toNat * bs_f r) (t ||| 2 ^ l2.toInt.toNat) (pre ++ [l2.toInt.toNat]) hI56 hh57 h59 h60 h58 h63 h62 xs14l xs14r ys53l ys53r ys42l ys42r (by omega) (by omega) (by omega) (by omega) (by rw [List.length_append, List.length_singleton]; omega) htr9 hmk9 hfr9 (by omega) (by rw [List.length_append, List.length_singleton]; omega) (by omega) (by omega) (by omega) (by rw [List.length_append, List.length_singleton]; omega) hch t31) rfl rfl h59 rfl rfl (by omega) (fun rv w71 hq72 => ?_)
              obtain ⟨rfl, q73hI, q73hh, q73k, q73lt, q73pl, q73rows, q73tr, q73tk, q732, q733, q734, q735, q736, q73a, q73b, q73c, q73d, q73e, q73f, q73g, q73h, q73i, q73m, q73t, q73s⟩ := hq72
              refine v_aload_n rfl rfl ?_
              refine v_get rfl q732 rfl ?_
              refine v_iload rfl rfl ?_
              refine v_iconst (v := 0) rfl (by decide) ?_
              refine r_bastx rfl q736 q73e (by omega) (by omega) (by omega) (fun ys74 ys74l ys74m ys74g ys74n => ?_)
              have ys74r := r_rng ys74m q73f (by omega) (by omega)
              refine r_gen (w' := w71.set 36 (.inl (1, .inl ys74))) (fun w75 e76 => ?_)
              have hI77 : pm_IX gi ga w75 := by rw [e76]; exact q73hI.set 36 (by decide) ⟨ys74, ys74l, ys74r, rfl⟩
              have hh78 : pm_h0 w0 w75 := by rw [e76]; exact q73hh.set (by decide) _
              have h79 := r_get_ne e76 (show 36 ≠ 32 by decide) q732
              have h80 := r_get_ne e76 (show 36 ≠ 33 by decide) q733
              have h81 := r_get_ne e76 (show 36 ≠ 34 by decide) q734
              have h82 := r_get_ne e76 (show 36 ≠ 35 by decide) q735
              have h83 := r_get_eq e76 q736
              refine r_iinc rfl rfl (by decide) (by omega) (by omega) (fun z84 z84e => ?_)
              refine v_goto rfl ?_
              exact ih45_19 z84 (.int z36) (.int z41) w75 q73k q73lt q73pl q73rows q73tr ys74 hI77 hh78 h81 h79 h80 q73a q73b h82 q73c q73d h83 ys74l ys74r (by omega) (by omega) (by omega) (by omega) (by omega) (by omega) (by omega) (by omega) (by
                  intro i hi
                  by_cases ei : i = l2.toInt.toNat
                  · subst ei
                    rw [ys74g, hfree, if_neg (by decide)]
                    rfl
                  · rw [ys74n i ei, q73m i hi, Nat.testBit_or, Nat.testBit_two_pow_of_ne (Ne.symm ei), Bool.or_false]) (by
                  intro i hi
                  rw [q73t i (by rw [List.length_append, List.length_singleton]; omega), ys53n i (by omega)]
                  exact t30 i hi) (by
                  rw [show z84.toInt.toNat = l2.toInt.toNat + 1 by omega, hone, Nat.add_mul, Nat.one_mul, ← Nat.add_assoc]
                  exact q73s) (by omega)
      exact L19 _ (0 : Int32) (.null) (.null) w kn lt pl rows tr tk hI hh h34 h32 h33 l33 r33 h35 l35 r35 h36 l36 r36 (by omega) (by omega) (by omega) (by omega) (by omega) (by omega) (by omega) (by omega) (by exact hmk) (by exact fun i hi => rfl) (by
          rw [show pm_fr t 0 (0 : Int32).toInt.toNat = 0 from rfl, Nat.zero_mul]
          exact hst) (Nat.lt_add_one _)
    · exact v_ret rfl ⟨rfl, hI, hh, kn, lt, pl, rows, tr, tk, h32, h33, h34, h35, h36, l33, r33, l35, r35, l36, r36, by omega, by omega, by omega, hmk, (fun i hi => rfl), hst.skip hnd (by omega) (by omega)⟩

