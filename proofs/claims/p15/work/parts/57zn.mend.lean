theorem md_shl {x : Int32} (h0 : 0 ≤ x.toInt) (h1 : x.toInt < 20) : ((1 : Int32) <<< (x &&& 31)).toInt = ((2 ^ x.toInt.toNat : Nat) : Int) ∧ 1 ≤ 2 ^ x.toInt.toNat ∧ 2 ^ x.toInt.toNat ≤ 524288 := by
  obtain ⟨a, ha, rfl⟩ : ∃ a : Nat, a < 20 ∧ x = nI a := ⟨x.toInt.toNat, by omega, i_nI h0⟩
  rw [nI_toInt (n := a) (by omega), Int.toNat_natCast, pm_sh1 a (by omega)]
  have q1 : 1 ≤ 2 ^ a := Nat.two_pow_pos a
  have q2 : 2 ^ a ≤ 524288 := show 2 ^ a ≤ 2 ^ 19 from Nat.pow_le_pow_right (by decide) (by omega)
  exact ⟨nI_toInt (by omega), q1, q2⟩
/-- a walk on -/
theorem md_wk.wk {W F p : Nat} : md_wk W (md_wk W F p) = fun j => md_wk W F (p + j) := funext fun j => by
  unfold md_wk
  rw [Nat.mod_add_mod, Nat.add_assoc]
/-- a run more is mended -/
theorem md_E.next {cc : Nat → Int32} {W F L p q : Nat} {v u : Int} {S : Nat → Prop} (hS : S = fs_S cc W F) (hp : S p) (hg : fs_gap S W p q) (h : md_km (md_E L 0 (fun j => fs_st cc W (md_wk W F j)) (md_wk W F) p) v) (g : md_km (md_E L 0 (fun _ => False) (md_wk W (md_wk W F p)) q) u) : md_km (md_E L 0 (fun j => fs_st cc W (md_wk W F j)) (md_wk W F) (p + q)) (v + u) := by
  subst hS
  rw [md_wk.wk] at g
  exact md_km.add h g (fun K => md_E.more (pt := fun j => fs_st cc W (md_wk W F j)) hg.1 (hp.imp (fun a => a) (fun a => a)) (fun j j1 j2 a => hg.2.2.2 j j1 j2 (Or.inr a)))
theorem md_E.bw {cc : Nat → Prop} {W F L s k : Nat} {v : Int} (hF : F ≤ W) (hW : 0 < W) (hW2 : W ≤ 20) (hk : k ≤ W) (h : md_km (md_E L s cc (md_wk W F) k) v) : v ≤ 22020095 := by
  have q := md_E.bd (fun i j hi hj => md_wk.inj hF (by omega) (by omega)) (fun j _ => Nat.lt_of_lt_of_le (md_wk.lt hW) hW2) (by omega) h
  omega
set_option maxRecDepth 100000 in
theorem W_X6_costOf_10_m {sc : pm_S} {w : pm_W} {gi : Nat → Int32} {ga : Nat → List Int32} (x : Int32) (p0 : x.toInt ≤ 19) (p1 : 0 ≤ x.toInt) (hR : pm_Rg gi ga) (hI : pm_IX gi ga w) : pm_Mt sc 0 37 2 [.ref 10, .int x] w (fun rv w' => pm_wI (fun v => 1048577 ≤ v.toInt ∧ v.toInt ≤ 1572864 ∧ v.toInt = ((1048576 + 2 ^ x.toInt.toNat : Nat) : Int)) rv ∧ w = w') := by
  intro d hd
  obtain ⟨g0a, g0b⟩ := hR.n0
  obtain ⟨g1a, g1b⟩ := hR.n1
  obtain ⟨g2a, g2b⟩ := hR.n2
  obtain ⟨g3a, g3b⟩ := hR.n3
  obtain ⟨g4a, g4b⟩ := hR.n4
  obtain ⟨g5a, g5b⟩ := hR.n5
  obtain ⟨g6a, g6b⟩ := hR.n6
  obtain ⟨g7a, g7b⟩ := hR.n7
  obtain ⟨g8a, g8b⟩ := hR.n8
  have k1 : (1 : Int32).toInt = 1 := by decide
  have k1048576 : (1048576 : Int32).toInt = 1048576 := by decide
  show pm_V sc d 37 0 [.ref 10, .int x] [] w _
  refine v_ldc (v := 1048576) rfl (by decide) ?_
  refine v_iconst (v := 1) rfl (by decide) ?_
  refine v_iload_n rfl rfl ?_
  refine v_ishl rfl ?_
  obtain ⟨z1v, z1p, z1q⟩ := md_shl (x := x) (by omega) (by omega)
  obtain ⟨z1, z1e⟩ : ∃ z : Int32, z = ((1 : Int32) <<< (x &&& 31)) := ⟨_, rfl⟩
  rw [← z1e] at z1v
  rw [← z1e]
  refine r_iadd rfl (by omega) (by omega) (fun z2 z2e => ?_)
  exact v_iret rfl ⟨⟨_, rfl, (by omega), (by omega), (by omega)⟩, rfl⟩
set_option maxRecDepth 100000 in
theorem W_X6_cheapestAhead_10_m {sc : pm_S} {w : pm_W} {gi : Nat → Int32} {ga : Nat → List Int32} (i : Int32) (n : Int32) (c13 : List Int32) (p0 : n.toInt ≤ 20) (p1 : 1 ≤ n.toInt) (p2 : i.toInt ≤ 21) (p3 : 1 ≤ i.toInt) (hc13 : w[13]? = some (.inl (0, .inl c13))) (hl13 : c13.length = 21) (hR : pm_Rg gi ga) (hI : pm_IX gi ga w) : pm_Mt sc 1 36 5 [.ref 10, .int i, .int n] w (fun rv w' => pm_wI (fun v => (∀ j : Nat, (j : Int) < i.toInt → i.toInt ≤ (j : Int) + n.toInt + 1 → v.toInt ≤ sq_lk c13 j) ∧ (∃ j : Nat, (j : Int) < i.toInt ∧ i.toInt ≤ (j : Int) + n.toInt + 1 ∧ v.toInt = sq_lk c13 j)) rv ∧ w = w') := by
  intro d hd
  obtain ⟨g0a, g0b⟩ := hR.n0
  obtain ⟨g1a, g1b⟩ := hR.n1
  obtain ⟨g2a, g2b⟩ := hR.n2
  obtain ⟨g3a, g3b⟩ := hR.n3
  obtain ⟨g4a, g4b⟩ := hR.n4
  obtain ⟨g5a, g5b⟩ := hR.n5
  obtain ⟨g6a, g6b⟩ := hR.n6
  obtain ⟨g7a, g7b⟩ := hR.n7
  obtain ⟨g8a, g8b⟩ := hR.n8
  have k0 : (0 : Int32).toInt = 0 := by decide
  have k1 : (1 : Int32).toInt = 1 := by decide
  have k2147483647 : (2147483647 : Int32).toInt = 2147483647 := by decide
  show pm_V sc d 36 0 [.ref 10, .int i, .int n, .null, .null] [] w _
  refine v_ldc (v := 2147483647) rfl (by decide) ?_
  refine v_istore_n rfl (Nat.le_of_ble_eq_true rfl) ?_
  refine v_iconst (v := 0) rfl (by decide) ?_
  refine v_iload_n rfl rfl ?_
  refine v_iload_n rfl rfl ?_
  refine r_isub rfl (by omega) (by omega) (fun z1 z1e => ?_)
  refine v_iconst (v := 1) rfl (by decide) ?_
  refine r_isub rfl (by omega) (by omega) (fun z2 z2e => ?_)
  refine r_max rfl (by omega) rfl (fun z3 z3a z3b z3c => ?_)
  skip
  refine v_istore rfl (Nat.le_of_ble_eq_true rfl) ?_
  have L6 : ∀ (n6 : Nat) (l4 : Int32) (l5 : Int32), 0 ≤ l5.toInt → l5.toInt ≤ 21 → (l5.toInt ≤ i.toInt) → (z3.toInt ≤ l5.toInt) → (∀ j, z3.toInt.toNat ≤ j → j < l5.toInt.toNat → l4.toInt ≤ sq_lk c13 j) → ((l5.toInt = z3.toInt ∧ l4.toInt = 2147483647) ∨ ∃ j, z3.toInt.toNat ≤ j ∧ j < l5.toInt.toNat ∧ l4.toInt = sq_lk c13 j) → (i.toInt - l5.toInt).toNat < n6 → pm_V sc d 36 14 [.ref 10, .int i, .int n, .int l4, .int l5] [] w (fun rv w' => pm_wI (fun v => (∀ j : Nat, (j : Int) < i.toInt → i.toInt ≤ (j : Int) + n.toInt + 1 → v.toInt ≤ sq_lk c13 j) ∧ (∃ j : Nat, (j : Int) < i.toInt ∧ i.toInt ≤ (j : Int) + n.toInt + 1 ∧ v.toInt = sq_lk c13 j)) rv ∧ w = w') := by
    intro n6
    induction n6 with
    | zero => intro l4 l5 t8 t9 t10 t11 t12 t13 hm7; exact absurd hm7 (Nat.not_lt_zero _)
    | succ n6 ih14_6 =>
      intro l4 l5 t8 t9 t10 t11 t12 t13 hm7
      refine v_iload rfl rfl ?_
      refine v_iload_n rfl rfl ?_
      refine r_icmp_ge rfl (fun t14 => ?_) (fun t14 => ?_)
      · refine v_iload_n rfl rfl ?_
        exact v_iret rfl ⟨⟨_, rfl, (by exact fun j j1 j2 => t12 j (by omega) (by omega)), (by
            rcases t13 with ⟨g1, g2⟩ | ⟨j, g1, g2, g3⟩
            · omega
            · exact ⟨j, by omega, by omega, g3⟩)⟩, rfl⟩
      · refine v_iload_n rfl rfl ?_
        refine v_aload_n rfl rfl ?_
        obtain ⟨v16, v17, v18, ⟨v16a, v16b⟩, ⟨v17a, v17b⟩, v18z, h15⟩ := hI.2 10 (by decide)
        have v18z := v18z.imp i_eq.mp i_eq.mp
        rw [i_0, i_1] at v18z
        refine v_get rfl h15 rfl ?_
        refine v_iload rfl rfl ?_
        refine r_iaload rfl hc13 hl13 (by omega) (by omega) (fun z19 z19m z19g => ?_)
        have z19u := z19.toInt_lt
        have z19h : z19.toInt = sq_lk c13 l5.toInt.toNat := congrArg Int32.toInt z19g
        refine r_min rfl (by omega) rfl (fun z20 z20a z20b z20c => ?_)
        skip
        refine v_istore_n rfl (Nat.le_of_ble_eq_true rfl) ?_
        refine r_iinc rfl rfl (by decide) (by omega) (by omega) (fun z21 z21e => ?_)
        refine v_goto rfl ?_
        exact ih14_6 z20 z21 (by omega) (by omega) (by omega) (by omega) (by
            intro j j1 j2
            by_cases e : j = l5.toInt.toNat
            · rw [e, ← z19h]; omega
            · have q := t12 j j1 (by omega)
              omega) (by
            refine Or.inr ?_
            by_cases c9 : z20.toInt = z19.toInt
            · exact ⟨l5.toInt.toNat, by omega, by omega, by rw [← z19h]; omega⟩
            · rcases t13 with ⟨g1, g2⟩ | ⟨j, g1, g2, g3⟩
              · omega
              · exact ⟨j, g1, by omega, by omega⟩) (by omega)
  exact L6 _ (2147483647 : Int32) z3 (by omega) (by omega) (by omega) (by omega) (by intro j j1 j2; omega) (by exact Or.inl ⟨rfl, by decide⟩) (Nat.lt_add_one _)
set_option maxRecDepth 100000 in
theorem W_X6_openCost_10_m {sc : pm_S} {w w0 : pm_W} {gi : Nat → Int32} {ga : Nat → List Int32} (s : Int32) (l : Int32) (n : Int32) (c10_0 : Int32) (c10_1 : Int32) (c10_2 : Int32) (c11 : List Int32) (c12 : List Int32) (p0 : n.toInt ≤ 20) (p1 : 1 ≤ n.toInt) (p2 : l.toInt ≤ 20) (p3 : 0 ≤ l.toInt) (p4 : s.toInt ≤ 20) (p5 : 0 ≤ s.toInt) (p6 : c10_0.toInt = (gi 0).toInt) (p7 : s.toInt ≤ (gi 0).toInt) (p8 : l.toInt ≤ (gi 0).toInt) (p9 : s.toInt < (gi 0).toInt ∨ l.toInt = 0) (p10 : 1 ≤ c10_0.toInt) (p11 : c10_0.toInt ≤ 20) (p12 : 0 ≤ c10_1.toInt) (p13 : c10_1.toInt ≤ 20) (p14 : 0 ≤ c10_2.toInt) (p15 : c10_2.toInt ≤ 1) (hc10 : w[10]? = some (.inr (6, [.int c10_0, .int c10_1, .int c10_2, .ref 11, .ref 12, .ref 13]))) (hc11 : w[11]? = some (.inl (0, .inl c11))) (hl11 : c11.length = 20) (hc12 : w[12]? = some (.inl (0, .inl c12))) (hl12 : c12.length = 20) (hr12 : ∀ x ∈ c12, pm_rng x (0) 20) (hR : pm_Rg gi ga) (hI : pm_IX gi ga w) (hh : pm_hi w0 w) : pm_Mt sc 2 35 5 [.ref 10, .int s, .int l, .int n] w (fun rv w' => pm_wI (fun v => 0 ≤ v.toInt ∧ v.toInt ≤ 22020095 ∧ md_km (md_E n.toInt.toNat 0 (fun _ => False) (md_wk (gi 0).toInt.toNat s.toInt.toNat) l.toInt.toNat) v.toInt) rv ∧ pm_IX gi ga w' ∧ pm_hi w0 w' ∧ w'[10]? = some (.inr (6, [.int c10_0, .int c10_1, .int c10_2, .ref 11, .ref 12, .ref 13])) ∧ w'[11]? = some (.inl (0, .inl c11)) ∧ w'[12]? = some (.inl (0, .inl c12))) := by
  intro d hd
  obtain ⟨g0a, g0b⟩ := hR.n0
  obtain ⟨g1a, g1b⟩ := hR.n1
  obtain ⟨g2a, g2b⟩ := hR.n2
  obtain ⟨g3a, g3b⟩ := hR.n3
  obtain ⟨g4a, g4b⟩ := hR.n4
  obtain ⟨g5a, g5b⟩ := hR.n5
  obtain ⟨g6a, g6b⟩ := hR.n6
  obtain ⟨g7a, g7b⟩ := hR.n7
  obtain ⟨g8a, g8b⟩ := hR.n8
  have k0 : (0 : Int32).toInt = 0 := by decide
  have k1 : (1 : Int32).toInt = 1 := by decide
  show pm_V sc d 35 0 [.ref 10, .int s, .int l, .int n, .null] [] w _
  refine v_aload_n rfl rfl ?_
  refine v_get rfl hc10 rfl ?_
  refine v_iconst (v := 0) rfl (by decide) ?_
  refine v_iconst (v := 0) rfl (by decide) ?_
  obtain ⟨xs2, xs2l, h1⟩ := hI.2 13 (by decide)
  refine r_iastx rfl h1 xs2l (by omega) (by omega) (fun ys3 ys3l ys3m ys3g ys3n => ?_)
  refine r_gen (w' := w.set 13 (.inl (0, .inl ys3))) (fun w4 e5 => ?_)
  have hI6 : pm_IX gi ga w4 := by rw [e5]; exact hI.set 13 (by decide) ⟨ys3, ys3l, rfl⟩
  have hh7 : pm_hi w0 w4 := by rw [e5]; exact hh.set (by decide) _
  have h8 := r_get_ne e5 (show 13 ≠ 10 by decide) hc10
  have h9 := r_get_ne e5 (show 13 ≠ 11 by decide) hc11
  have h10 := r_get_ne e5 (show 13 ≠ 12 by decide) hc12
  have h11 := r_get_eq e5 h1
  refine v_iconst (v := 1) rfl (by decide) ?_
  refine v_istore rfl (Nat.le_of_ble_eq_true rfl) ?_
  have L21 : ∀ (n21 : Nat) (l12 : Int32) (w13 : pm_W) (xs20 : List Int32), pm_IX gi ga w13 → pm_hi w0 w13 → w13[10]? = some (.inr (6, [.int c10_0, .int c10_1, .int c10_2, .ref 11, .ref 12, .ref 13])) → w13[11]? = some (.inl (0, .inl c11)) → w13[12]? = some (.inl (0, .inl c12)) → w13[13]? = some (.inl (0, .inl xs20)) → xs20.length = 21 → 1 ≤ l12.toInt → l12.toInt ≤ 21 → (l12.toInt ≤ l.toInt + 1) → (∀ j, j < l12.toInt.toNat → md_km (md_D n.toInt.toNat (md_wk (gi 0).toInt.toNat s.toInt.toNat) j) (sq_lk xs20 j)) → (21 - l12.toInt).toNat < n21 → pm_V sc d 35 10 [.ref 10, .int s, .int l, .int n, .int l12] [] w13 (fun rv w' => pm_wI (fun v => 0 ≤ v.toInt ∧ v.toInt ≤ 22020095 ∧ md_km (md_E n.toInt.toNat 0 (fun _ => False) (md_wk (gi 0).toInt.toNat s.toInt.toNat) l.toInt.toNat) v.toInt) rv ∧ pm_IX gi ga w' ∧ pm_hi w0 w' ∧ w'[10]? = some (.inr (6, [.int c10_0, .int c10_1, .int c10_2, .ref 11, .ref 12, .ref 13])) ∧ w'[11]? = some (.inl (0, .inl c11)) ∧ w'[12]? = some (.inl (0, .inl c12))) := by
    intro n21
    induction n21 with
    | zero => intro l12 w13 xs20 hI14 hh15 h16 h17 h18 h19 xs20l t23 t24 t25 t26 hm22; exact absurd hm22 (Nat.not_lt_zero _)
    | succ n21 ih10_21 =>
      intro l12 w13 xs20 hI14 hh15 h16 h17 h18 h19 xs20l t23 t24 t25 t26 hm22
      refine v_iload rfl rfl ?_
      refine v_iload_n rfl rfl ?_
      refine r_icmp_gt rfl (fun t27 => ?_) (fun t27 => ?_)
      · refine v_aload_n rfl rfl ?_
        refine v_iload_n rfl rfl ?_
        refine v_iconst (v := 1) rfl (by decide) ?_
        refine r_iadd rfl (by omega) (by omega) (fun z28 z28e => ?_)
        refine v_iload_n rfl rfl ?_
        refine v_callV rfl (W_X6_cheapestAhead_10_m z28 n xs20 (by omega) (by omega) (by omega) (by omega) h19 xs20l hR hI14) rfl rfl h16 rfl rfl (by omega) (fun rv w29 hq30 => ?_)
        obtain ⟨⟨z31, rfl, z31p0, z31p1⟩, rfl⟩ := hq30
        have hFz31 := md_cheap (k := l.toInt.toNat) (L := n.toInt.toNat) (x := (md_wk (gi 0).toInt.toNat s.toInt.toNat)) (h := sq_lk xs20) (r := z31.toInt) (fun j hj => t26 j (by omega)) (fun j j1 j2 => z31p0 j (by omega) (by omega)) (by
          obtain ⟨j, g1, g2, g3⟩ := z31p1
          exact ⟨j, by omega, by omega, g3⟩)
        have hFaz31 := hFz31.1
        have hFbz31 := md_E.bw (by omega) (by omega) (by omega) (by omega) hFz31
        exact v_iret rfl ⟨⟨_, rfl, (by omega), (by omega), (by exact hFz31)⟩, hI14, hh15, ⟨h16, h17, h18⟩⟩
      · refine v_aload_n rfl rfl ?_
        refine v_get rfl h16 rfl ?_
        refine v_iload rfl rfl ?_
        refine v_aload_n rfl rfl ?_
        refine v_iload rfl rfl ?_
        refine v_iload_n rfl rfl ?_
        refine v_callV rfl (W_X6_cheapestAhead_10_m l12 n xs20 (by omega) (by omega) (by omega) (by omega) h19 xs20l hR hI14) rfl rfl h16 rfl rfl (by omega) (fun rv w32 hq33 => ?_)
        obtain ⟨⟨z34, rfl, z34p0, z34p1⟩, rfl⟩ := hq33
        have hEz34 := md_cheap (k := l12.toInt.toNat - 1) (L := n.toInt.toNat) (x := (md_wk (gi 0).toInt.toNat s.toInt.toNat)) (h := sq_lk xs20) (r := z34.toInt) (fun j hj => t26 j (by omega)) (fun j j1 j2 => z34p0 j (by omega) (by omega)) (by
          obtain ⟨j, g1, g2, g3⟩ := z34p1
          exact ⟨j, by omega, by omega, g3⟩)
        have hEaz34 := hEz34.1
        have hEbz34 := md_E.bw (by omega) (by omega) (by omega) (by omega) hEz34
        refine v_aload_n rfl rfl ?_
        refine v_iload_n rfl rfl ?_
        refine v_iload rfl rfl ?_
        refine r_iadd rfl (by omega) (by omega) (fun z35 z35e => ?_)
        refine v_iconst (v := 1) rfl (by decide) ?_
        refine r_isub rfl (by omega) (by omega) (fun z36 z36e => ?_)
        skip
        refine v_aload_n rfl rfl ?_
        refine v_get rfl h16 rfl ?_
        refine v_callS rfl (W_X11_around_x z36 c10_0 (by omega) (by omega) (by omega) (by omega) (by omega) hR hI14) rfl rfl rfl rfl rfl (by omega) (fun rv w37 hq38 => ?_)
        obtain ⟨⟨z39, rfl, z39p0, z39p1, z39p2, z39p3⟩, rfl⟩ := hq38
        have z39k : z39.toInt.toNat = md_wk (gi 0).toInt.toNat s.toInt.toNat (l12.toInt.toNat - 1) := j_ar (by omega) (by omega) (by omega)
        refine v_callV rfl (W_X6_costOf_10_m z39 (by omega) (by omega) hR hI14) rfl rfl h16 rfl rfl (by omega) (fun rv w40 hq41 => ?_)
        obtain ⟨⟨z42, rfl, z42p0, z42p1, z42p2⟩, rfl⟩ := hq41
        skip
        refine r_iadd rfl (by omega) (by omega) (fun z43 z43e => ?_)
        skip
        refine r_iastx rfl h19 xs20l (by omega) (by omega) (fun ys44 ys44l ys44m ys44g ys44n => ?_)
        refine r_gen (w' := w13.set 13 (.inl (0, .inl ys44))) (fun w45 e46 => ?_)
        have hI47 : pm_IX gi ga w45 := by rw [e46]; exact hI14.set 13 (by decide) ⟨ys44, ys44l, rfl⟩
        have hh48 : pm_hi w0 w45 := by rw [e46]; exact hh15.set (by decide) _
        have h49 := r_get_ne e46 (show 13 ≠ 10 by decide) h16
        have h50 := r_get_ne e46 (show 13 ≠ 11 by decide) h17
        have h51 := r_get_ne e46 (show 13 ≠ 12 by decide) h18
        have h52 := r_get_eq e46 h19
        refine r_iinc rfl rfl (by decide) (by omega) (by omega) (fun z53 z53e => ?_)
        refine v_goto rfl ?_
        exact ih10_21 z53 w45 ys44 hI47 hh48 h49 h50 h51 h52 ys44l (by omega) (by omega) (by omega) (by
            intro j hj
            by_cases e : j = l12.toInt.toNat
            · rw [e]
              have q := md_D.on hEz34
              rw [show l12.toInt.toNat - 1 + 1 = l12.toInt.toNat by omega, ← z39k] at q
              have q2 : sq_lk ys44 l12.toInt.toNat = z43.toInt := congrArg Int32.toInt ys44g
              rw [q2, show z43.toInt = z34.toInt + ((1048576 + 2 ^ z39.toInt.toNat : Nat) : Int) by rw [← z42p2]; omega]
              exact q
            · rw [show sq_lk ys44 j = sq_lk xs20 j from congrArg Int32.toInt (ys44n j e)]
              exact t26 j (by omega)) (by omega)
  exact L21 _ (1 : Int32) w4 ys3 hI6 hh7 h8 h9 h10 h11 ys3l (by omega) (by omega) (by omega) (by
      intro j hj
      rw [show (1 : Int32).toInt.toNat = 1 from rfl] at hj
      rw [show j = 0 by omega, show sq_lk ys3 0 = 0 from (congrArg Int32.toInt ys3g).trans k0]
      exact md_D.z) (Nat.lt_add_one _)
set_option maxRecDepth 100000 in
theorem W_X6_closedCost_10_m {sc : pm_S} {w w0 : pm_W} {gi : Nat → Int32} {ga : Nat → List Int32} (n : Int32) (c10_0 : Int32) (c10_1 : Int32) (c10_2 : Int32) (c11 : List Int32) (c12 : List Int32) (p0 : n.toInt ≤ 20) (p1 : 1 ≤ n.toInt) (p2 : c10_0.toInt = (gi 0).toInt) (p3 : 1 ≤ c10_0.toInt) (p4 : c10_0.toInt ≤ 20) (p5 : 0 ≤ c10_1.toInt) (p6 : c10_1.toInt ≤ 20) (p7 : 0 ≤ c10_2.toInt) (p8 : c10_2.toInt ≤ 1) (hc10 : w[10]? = some (.inr (6, [.int c10_0, .int c10_1, .int c10_2, .ref 11, .ref 12, .ref 13]))) (hc11 : w[11]? = some (.inl (0, .inl c11))) (hl11 : c11.length = 20) (hc12 : w[12]? = some (.inl (0, .inl c12))) (hl12 : c12.length = 20) (hr12 : ∀ x ∈ c12, pm_rng x (0) 20) (hR : pm_Rg gi ga) (hI : pm_IX gi ga w) (hh : pm_hi w0 w) : pm_Mt sc 3 34 2 [.ref 10, .int n] w (fun rv w' => pm_wI (fun v => 0 ≤ v.toInt ∧ v.toInt ≤ 23592959 ∧ (∃ q9 : Int, v.toInt = q9 + 1048577 ∧ md_km (md_E n.toInt.toNat 0 (fun _ => False) (md_wk (gi 0).toInt.toNat 1) ((gi 0).toInt.toNat - 1)) q9)) rv ∧ pm_IX gi ga w' ∧ pm_hi w0 w' ∧ w'[10]? = some (.inr (6, [.int c10_0, .int c10_1, .int c10_2, .ref 11, .ref 12, .ref 13])) ∧ w'[11]? = some (.inl (0, .inl c11)) ∧ w'[12]? = some (.inl (0, .inl c12))) := by
  intro d hd
  obtain ⟨g0a, g0b⟩ := hR.n0
  obtain ⟨g1a, g1b⟩ := hR.n1
  obtain ⟨g2a, g2b⟩ := hR.n2
  obtain ⟨g3a, g3b⟩ := hR.n3
  obtain ⟨g4a, g4b⟩ := hR.n4
  obtain ⟨g5a, g5b⟩ := hR.n5
  obtain ⟨g6a, g6b⟩ := hR.n6
  obtain ⟨g7a, g7b⟩ := hR.n7
  obtain ⟨g8a, g8b⟩ := hR.n8
  have k0 : (0 : Int32).toInt = 0 := by decide
  have k1 : (1 : Int32).toInt = 1 := by decide
  show pm_V sc d 34 0 [.ref 10, .int n] [] w _
  refine v_aload_n rfl rfl ?_
  refine v_iconst (v := 0) rfl (by decide) ?_
  refine v_callV rfl (W_X6_costOf_10_m (0 : Int32) (by omega) (by omega) hR hI) rfl rfl hc10 rfl rfl (by omega) (fun rv w1 hq2 => ?_)
  obtain ⟨⟨z3, rfl, z3p0, z3p1, z3p2⟩, rfl⟩ := hq2
  skip
  refine v_aload_n rfl rfl ?_
  refine v_iconst (v := 1) rfl (by decide) ?_
  refine v_aload_n rfl rfl ?_
  refine v_get rfl hc10 rfl ?_
  refine v_iconst (v := 1) rfl (by decide) ?_
  refine r_isub rfl (by omega) (by omega) (fun z4 z4e => ?_)
  skip
  refine v_iload_n rfl rfl ?_
  refine v_callV rfl (W_X6_openCost_10_m (1 : Int32) z4 n c10_0 c10_1 c10_2 c11 c12 (by omega) (by omega) (by omega) (by omega) (by omega) (by omega) (by omega) (by omega) (by omega) (by omega) (by omega) (by omega) (by omega) (by omega) (by omega) (by omega) hc10 hc11 hl11 hc12 hl12 hr12 hR hI hh) rfl rfl hc10 rfl rfl (by omega) (fun rv w5 hq6 => ?_)
  obtain ⟨⟨z7, rfl, z7p0, z7p1, z7p2⟩, hI8, hh9, ⟨h10, h11, h12⟩⟩ := hq6
  skip
  refine r_iadd rfl (by omega) (by omega) (fun z13 z13e => ?_)
  exact v_iret rfl ⟨⟨_, rfl, (by omega), (by omega), (by
      refine ⟨z7.toInt, ?_, ?_⟩
      · have q := z3p2
        rw [show ((0 : Int32).toInt.toNat) = 0 from rfl, show ((1048576 + 2 ^ 0 : Nat) : Int) = 1048577 from rfl] at q
        omega
      · have q := z7p2
        rw [show ((1 : Int32).toInt.toNat) = 1 from rfl, show z4.toInt.toNat = (gi 0).toInt.toNat - 1 by omega] at q
        exact q)⟩, hI8, hh9, ⟨h10, h11, h12⟩⟩
set_option maxRecDepth 100000 in
theorem W_X6_leastMending_10_m {sc : pm_S} {w w0 : pm_W} {gi : Nat → Int32} {ga : Nat → List Int32} (n : Int32) (c10_0 : Int32) (c10_1 : Int32) (c10_2 : Int32) (c11 : List Int32) (c12 : List Int32) (p0 : n.toInt ≤ 20) (p1 : 1 ≤ n.toInt) (p2 : c10_0.toInt = (gi 0).toInt) (p3 : 1 ≤ c10_0.toInt) (p4 : c10_0.toInt ≤ 20) (p5 : 0 ≤ c10_1.toInt) (p6 : c10_1.toInt ≤ 20) (p7 : 0 ≤ c10_2.toInt) (p8 : c10_2.toInt ≤ 1) (hc10 : w[10]? = some (.inr (6, [.int c10_0, .int c10_1, .int c10_2, .ref 11, .ref 12, .ref 13]))) (hc11 : w[11]? = some (.inl (0, .inl c11))) (hl11 : c11.length = 20) (hc12 : w[12]? = some (.inl (0, .inl c12))) (hl12 : c12.length = 20) (hr12 : ∀ x ∈ c12, pm_rng x (0) 20) (hR : pm_Rg gi ga) (hI : pm_IX gi ga w) (hh : pm_hi w0 w) {cc : Nat → Int32} {F : Nat} {o : Nat → Nat} (hF : fs_F cc (gi 0).toInt.toNat F) (hlay : fs_lay (fs_S cc (gi 0).toInt.toNat F) o (sq_lk c12) (gi 0).toInt.toNat c10_1.toInt.toNat) (hst : ∀ i, i < c10_1.toInt.toNat → sq_lk c11 i = ((md_wk (gi 0).toInt.toNat F (o i) : Nat) : Int)) (hcl : (c10_2.toInt = 1 ∧ ∀ x, x < (gi 0).toInt.toNat → ¬ fs_st cc (gi 0).toInt.toNat x) ∨ (c10_2.toInt = 0 ∧ fs_st cc (gi 0).toInt.toNat F)) : pm_Mt sc 4 33 4 [.ref 10, .int n] w (fun rv w' => pm_wI (fun v => 0 ≤ v.toInt ∧ md_best cc (gi 0).toInt.toNat n.toInt.toNat v.toInt.toNat) rv ∧ pm_IX gi ga w' ∧ pm_hi w0 w') := by
  intro d hd
  obtain ⟨g0a, g0b⟩ := hR.n0
  obtain ⟨g1a, g1b⟩ := hR.n1
  obtain ⟨g2a, g2b⟩ := hR.n2
  obtain ⟨g3a, g3b⟩ := hR.n3
  obtain ⟨g4a, g4b⟩ := hR.n4
  obtain ⟨g5a, g5b⟩ := hR.n5
  obtain ⟨g6a, g6b⟩ := hR.n6
  obtain ⟨g7a, g7b⟩ := hR.n7
  obtain ⟨g8a, g8b⟩ := hR.n8
  have k0 : (0 : Int32).toInt = 0 := by decide
  have k1048576 : (1048576 : Int32).toInt = 1048576 := by decide
  show pm_V sc d 33 0 [.ref 10, .int n, .null, .null] [] w _
  have hFW := hF.lt (by omega)
  refine v_aload_n rfl rfl ?_
  refine v_get rfl hc10 rfl ?_
  refine r_if_eq rfl (fun t1 => ?_) (fun t1 => ?_)
  · refine v_iconst (v := 0) rfl (by decide) ?_
    refine v_istore_n rfl (Nat.le_of_ble_eq_true rfl) ?_
    refine v_iconst (v := 0) rfl (by decide) ?_
    refine v_istore_n rfl (Nat.le_of_ble_eq_true rfl) ?_
    have L10 : ∀ (n10 : Nat) (l2 : Int32) (l3 : Int32) (w4 : pm_W), pm_IX gi ga w4 → pm_hi w0 w4 → w4[10]? = some (.inr (6, [.int c10_0, .int c10_1, .int c10_2, .ref 11, .ref 12, .ref 13])) → w4[11]? = some (.inl (0, .inl c11)) → w4[12]? = some (.inl (0, .inl c12)) → 0 ≤ l2.toInt → l2.toInt ≤ 22020095 → 0 ≤ l3.toInt → l3.toInt ≤ 20 → (l3.toInt ≤ c10_1.toInt) → (md_km (md_E n.toInt.toNat 0 (fun j => fs_st cc (gi 0).toInt.toNat (md_wk (gi 0).toInt.toNat F j)) (md_wk (gi 0).toInt.toNat F) (if l3.toInt.toNat < c10_1.toInt.toNat then o l3.toInt.toNat else (gi 0).toInt.toNat)) l2.toInt) → (20 - l3.toInt).toNat < n10 → pm_V sc d 33 32 [.ref 10, .int n, .int l2, .int l3] [] w4 (fun rv w' => pm_wI (fun v => 0 ≤ v.toInt ∧ md_best cc (gi 0).toInt.toNat n.toInt.toNat v.toInt.toNat) rv ∧ pm_IX gi ga w' ∧ pm_hi w0 w') := by
      intro n10
      induction n10 with
      | zero => intro l2 l3 w4 hI5 hh6 h7 h8 h9 t12 t13 t14 t15 t16 t17 hm11; exact absurd hm11 (Nat.not_lt_zero _)
      | succ n10 ih32_10 =>
        intro l2 l3 w4 hI5 hh6 h7 h8 h9 t12 t13 t14 t15 t16 t17 hm11
        refine v_iload_n rfl rfl ?_
        refine v_aload_n rfl rfl ?_
        refine v_get rfl h7 rfl ?_
        refine r_icmp_ge rfl (fun t18 => ?_) (fun t18 => ?_)
        · refine v_iload_n rfl rfl ?_
          refine v_ldc (v := 1048576) rfl (by decide) ?_
          refine r_irem rfl (by omega) (by omega) (fun z19 z19m z19a z19b z19c => ?_)
          have z19k := j_em z19m (by omega) (by omega)
          rw [show ((1048576 : Int32).toInt.toNat) = 1048576 from rfl] at z19k
          clear z19m
          exact v_iret rfl ⟨⟨_, rfl, (by omega), (by
              rcases hcl with ⟨g1, -⟩ | ⟨g1, g2⟩
              · omega
              · rcases hF with ⟨e1, e2⟩ | ⟨e1, e2, e3⟩
                · exact absurd g2 (e2 F (by omega))
                · have q := t17
                  rw [if_neg (by omega)] at q
                  have q2 := md_best.of (by omega) (by omega) (q.congr (fun K => md_A.runs ⟨e1, e2, e3⟩ K))
                  rw [z19k]
                  exact q2)⟩, hI5, hh6⟩
        · obtain ⟨hgap, hl0, hlen⟩ := hlay.gap (i := l3.toInt.toNat) (by omega)
          have hpos := hlay.1 l3.toInt.toNat (by omega)
          have hstart := hst l3.toInt.toNat (by omega)
          have hwl : md_wk (gi 0).toInt.toNat F (o l3.toInt.toNat) < (gi 0).toInt.toNat := md_wk.lt (by omega)
          have hg1 := hgap.1
          have hg2 := hgap.2.1
          refine v_iload_n rfl rfl ?_
          refine v_aload_n rfl rfl ?_
          refine v_aload_n rfl rfl ?_
          refine v_get rfl h7 rfl ?_
          refine v_iload_n rfl rfl ?_
          refine r_iaload rfl h8 hl11 (by omega) (by omega) (fun z20 z20m z20g => ?_)
          have z20h : z20.toInt = ((md_wk (gi 0).toInt.toNat F (o l3.toInt.toNat) : Nat) : Int) := (congrArg Int32.toInt z20g).trans hstart
          refine v_aload_n rfl rfl ?_
          refine v_get rfl h7 rfl ?_
          refine v_iload_n rfl rfl ?_
          refine r_iaload rfl h9 hl12 (by omega) (by omega) (fun z21 z21m z21g => ?_)
          obtain ⟨z21a, z21b⟩ := hr12 z21 z21m
          have z21h : z21.toInt = sq_lk c12 l3.toInt.toNat := congrArg Int32.toInt z21g
          refine v_iload_n rfl rfl ?_
          refine v_callV rfl (W_X6_openCost_10_m z20 z21 n c10_0 c10_1 c10_2 c11 c12 (by omega) (by omega) (by omega) (by omega) (by omega) (by omega) (by omega) (by omega) (by omega) (by omega) (by omega) (by omega) (by omega) (by omega) (by omega) (by omega) h7 h8 hl11 h9 hl12 hr12 hR hI5 hh6) rfl rfl h7 rfl rfl (by omega) (fun rv w22 hq23 => ?_)
          obtain ⟨⟨z24, rfl, z24p0, z24p1, z24p2⟩, hI25, hh26, ⟨h27, h28, h29⟩⟩ := hq23
          skip
          refine r_iadd rfl (by omega) (by omega) (fun z30 z30e => ?_)
          have hru := z24p2
          rw [show z20.toInt.toNat = md_wk (gi 0).toInt.toNat F (o l3.toInt.toNat) by omega, show z21.toInt.toNat = (sq_lk c12 l3.toInt.toNat).toNat by omega] at hru
          have hcu := t17
          rw [if_pos (show l3.toInt.toNat < c10_1.toInt.toNat by omega)] at hcu
          have hnx := md_E.next rfl hpos.2 hgap hcu hru
          have hnb := md_E.bw (by omega) (by omega) (by omega) (by omega) hnx
          have hna := hnx.1
          rw [hlen, ← show z30.toInt = l2.toInt + z24.toInt by omega] at hnx
          refine v_istore_n rfl (Nat.le_of_ble_eq_true rfl) ?_
          refine r_iinc rfl rfl (by decide) (by omega) (by omega) (fun z31 z31e => ?_)
          refine v_goto rfl ?_
          exact ih32_10 z30 z31 w22 hI25 hh26 h27 h28 h29 (by omega) (by omega) (by omega) (by omega) (by omega) (by
              rw [show z31.toInt.toNat = l3.toInt.toNat + 1 by omega]
              exact hnx) (by omega)
    exact L10 _ (0 : Int32) (0 : Int32) w hI hh hc10 hc11 hc12 (by omega) (by omega) (by omega) (by omega) (by omega) (by
        rw [show (if (0 : Int32).toInt.toNat < c10_1.toInt.toNat then o (0 : Int32).toInt.toNat else (gi 0).toInt.toNat) = 0 by
          rw [show (0 : Int32).toInt.toNat = 0 from rfl]
          by_cases e : 0 < c10_1.toInt.toNat
          · rw [if_pos e]; exact (hlay.2.2.2.2 (by omega)).2
          · exact absurd (hlay.2.2.2.2 (by omega)).1 e, k0]
        exact md_E.zz) (Nat.lt_add_one _)
  · refine v_aload_n rfl rfl ?_
    refine v_get rfl hc10 rfl ?_
    refine v_iload_n rfl rfl ?_
    refine r_icmp_le rfl (fun t32 => ?_) (fun t32 => ?_)
    · refine v_iconst (v := 0) rfl (by decide) ?_
      exact v_iret rfl ⟨⟨_, rfl, (by omega), (by
          rcases hcl with ⟨g1, g2⟩ | ⟨g1, -⟩
          · exact md_A.short g2 (by omega)
          · omega)⟩, hI, hh⟩
    · refine v_aload_n rfl rfl ?_
      refine v_iload_n rfl rfl ?_
      refine v_callV rfl (W_X6_closedCost_10_m n c10_0 c10_1 c10_2 c11 c12 (by omega) (by omega) (by omega) (by omega) (by omega) (by omega) (by omega) (by omega) (by omega) hc10 hc11 hl11 hc12 hl12 hr12 hR hI hh) rfl rfl hc10 rfl rfl (by omega) (fun rv w33 hq34 => ?_)
      obtain ⟨⟨z35, rfl, z35p0, z35p1, z35p2⟩, hI36, hh37, ⟨h38, h39, h40⟩⟩ := hq34
      skip
      refine v_ldc (v := 1048576) rfl (by decide) ?_
      refine r_irem rfl (by omega) (by omega) (fun z41 z41m z41a z41b z41c => ?_)
      have z41k := j_em z41m (by omega) (by omega)
      rw [show ((1048576 : Int32).toInt.toNat) = 1048576 from rfl] at z41k
      clear z41m
      refine v_goto rfl ?_
      exact v_iret rfl ⟨⟨_, rfl, (by omega), (by
          rcases hcl with ⟨g1, g2⟩ | ⟨g1, -⟩
          · obtain ⟨v9, e1, e2⟩ := z35p2
            have q := md_A.plain (by omega) g2 (by omega) e2
            rw [← e1] at q
            have q2 := md_best.of (by omega) (by omega) q
            rw [z41k]
            exact q2
          · omega)⟩, hI36, hh37⟩

