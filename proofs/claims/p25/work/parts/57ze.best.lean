theorem bs_op.full {d : List Int32} {i m : Nat} {op : List Int32} (h : bs_op d i op) (hb : bs_no d m ≤ bs_no d i) : bs_op d m op := fun j hj ho => by
  by_cases e : j < i
  · exact h j e ho
  · have q1 := bs_no_le (d := d) (a := i) j (by omega)
    have q2 := bs_no_le (d := d) (a := j + 1) m (by omega)
    rw [bs_no_s ho] at q2
    omega
theorem bs_op.next {d : List Int32} {i : Nat} {op ys : List Int32} {v : Int32} (h : bs_op d i op) (ho : (d.getD i 0).toInt < 0) (hv : v = nI i) (g : ys.getD (bs_no d i) 0 = v) (n : ∀ j, j ≠ bs_no d i → ys.getD j 0 = op.getD j 0) : bs_op d (i + 1) ys := fun j hj hd => by
  by_cases e : j = i
  · subst e
    rw [g, hv]
  · have q := bs_no_le (d := d) (a := j + 1) i (by omega)
    rw [bs_no_s hd] at q
    rw [n _ (by omega)]
    exact h j (by omega) hd
theorem bs_op.same {d : List Int32} {i : Nat} {op : List Int32} (h : bs_op d i op) (ho : ¬ (d.getD i 0).toInt < 0) : bs_op d (i + 1) op := fun j hj hd => by
  by_cases e : j = i
  · subst e; exact absurd hd ho
  · exact h j (by omega) hd
theorem pm_fr_0n : ∀ n, pm_fr 0 0 n = n := fun n => by
  induction n with
  | zero => rfl
  | succ n ih =>
    show pm_fr 0 0 n + (if 0 ≤ n ∧ (0 : Nat).testBit n = false then 1 else 0) = n + 1
    rw [ih, if_pos ⟨Nat.zero_le _, Nat.zero_testBit n⟩]
/-- the best row's cells between two calls -/
def pm_BX (gi : Nat → Int32) (ga : Nat → List Int32) (w : pm_W) : Prop := ∃ (kn lt pl : Int32) (rows tk : List Int32), w[32]? = some (.inr (2, [.int kn, .int lt, .int pl, .ref 33, .ref 34, .ref 35, .ref 36])) ∧ w[33]? = some (.inl (0, .inl rows)) ∧ w[36]? = some (.inl (1, .inl tk)) ∧ (∀ i, i < 7 → (tk.getD i 0).toInt = 0) ∧ (kn.toInt = 1 → bs_n gi ga ≤ 7 ∧ pl.toInt = (bs_n gi ga : Int) ∧ bs_W gi ga lt.toInt rows)
set_option maxRecDepth 100000 in
theorem W_X2_find_32_27_x {sc : pm_S} {w w0 : pm_W} {gi : Nat → Int32} {ga : Nat → List Int32}   (hR : pm_Rg gi ga) (hI : pm_IX gi ga w) (hh : pm_h0 w0 w) (hn : bs_n gi ga ≤ 7) {kn lt pl : Int32} {rows tk : List Int32} (h32 : w[32]? = some (.inr (2, [.int kn, .int lt, .int pl, .ref 33, .ref 34, .ref 35, .ref 36]))) (h33 : w[33]? = some (.inl (0, .inl rows))) (h36 : w[36]? = some (.inl (1, .inl tk))) (l33 : rows.length = 7) (r33 : ∀ x ∈ rows, pm_rng x (0) 11) (l36 : tk.length = 7) (r36 : ∀ x ∈ tk, pm_rng x (0) 1) (kn0 : 0 ≤ kn.toInt) (kn1 : kn.toInt ≤ 1) (pl0 : 0 ≤ pl.toInt) (pl7 : pl.toInt ≤ 7) (hz : ∀ i, i < 7 → (tk.getD i 0).toInt = 0) (hk : kn.toInt = 1 → bs_n gi ga ≤ 7 ∧ pl.toInt = (bs_n gi ga : Int) ∧ bs_W gi ga lt.toInt rows) : pm_Mt sc 10 9 3 [.ref 32, .ref 27] w (fun rv w' => rv = none ∧ pm_IX gi ga w' ∧ pm_h0 w0 w' ∧ ∃ (lt' pl' : Int32) (rows' tk' : List Int32), w'[32]? = some (.inr (2, [.int 1, .int lt', .int pl', .ref 33, .ref 34, .ref 35, .ref 36])) ∧ w'[33]? = some (.inl (0, .inl rows')) ∧ w'[36]? = some (.inl (1, .inl tk')) ∧ rows'.length = 7 ∧ (∀ x ∈ rows', pm_rng x (0) 11) ∧ (∀ i, i < 7 → (tk'.getD i 0).toInt = 0) ∧ pl'.toInt = (bs_n gi ga : Int) ∧ bs_W gi ga lt'.toInt rows') := by
  intro d hd
  obtain ⟨g0a, g0b⟩ := hR.n0
  obtain ⟨g1a, g1b⟩ := hR.n1
  obtain ⟨g2a, g2b⟩ := hR.n2
  obtain ⟨g3a, g3b⟩ := hR.n3
  obtain ⟨g4a, g4b⟩ := hR.n4
  obtain ⟨g5a, g5b⟩ := hR.n5
  obtain ⟨g6a, g6b⟩ := hR.n6
  obtain ⟨g7a, g7b⟩ := hR.n7
  obtain ⟨g8a, g8b⟩ := hR.n8
  have k0 : (0 : Int32).toInt = 0 := by decide
  have k1 : (1 : Int32).toInt = 1 := by decide
  have k7 : (7 : Int32).toInt = 7 := by decide
  have k2147483647 : (2147483647 : Int32).toInt = 2147483647 := by decide
  show pm_V sc d 9 0 [.ref 32, .ref 27, .null] [] w _
  refine v_aload_n rfl rfl ?_
  refine v_get rfl h32 rfl ?_
  refine r_if_eq rfl (fun t1 => ?_) (fun t1 => ?_)
  · refine v_aload_n rfl rfl ?_
    refine v_iconst (v := 0) rfl (by decide) ?_
    refine v_put rfl h32 rfl (Nat.le_of_ble_eq_true rfl) ?_
    refine r_gen (w' := w.set 32 (.inr (2, [.int kn, .int lt, .int (0 : Int32), .ref 33, .ref 34, .ref 35, .ref 36]))) (fun w2 e3 => ?_)
    have hI4 : pm_IX gi ga w2 := by rw [e3]; exact hI.set 32 (by decide) ⟨kn, lt, (0 : Int32), ((show kn.toInt = 0 ∨ kn.toInt = 1 by omega).imp i_eq.mpr i_eq.mpr), ⟨by omega, by omega⟩, rfl⟩
    have hh5 : pm_h0 w0 w2 := by rw [e3]; exact hh.set (by decide) _
    have h6 := r_get_ne e3 (show 32 ≠ 33 by decide) h33
    have h7 := r_get_ne e3 (show 32 ≠ 36 by decide) h36
    have h8 := r_get_eq e3 h32
    refine v_iconst (v := 0) rfl (by decide) ?_
    refine v_istore_n rfl (Nat.le_of_ble_eq_true rfl) ?_
    obtain ⟨xs10, xs10l, xs10r, h9⟩ := hI4.2 34 (by decide)
    have L23 : ∀ (n23 : Nat) (l11 : Int32) (w12 : pm_W) (v18 : Int32) (v19 : Int32) (v20 : Int32) (xs22 : List Int32), pm_IX gi ga w12 → pm_h0 w0 w12 → w12[33]? = some (.inl (0, .inl rows)) → w12[36]? = some (.inl (1, .inl tk)) → w12[32]? = some (.inr (2, [.int v18, .int v19, .int v20, .ref 33, .ref 34, .ref 35, .ref 36])) → w12[34]? = some (.inl (0, .inl xs22)) → xs22.length = 7 → (∀ x ∈ xs22, pm_rng x (0) 11) → 0 ≤ l11.toInt → l11.toInt ≤ 12 → 0 ≤ v18.toInt → v18.toInt ≤ 1 → 0 ≤ v20.toInt → v20.toInt ≤ 7 → (l11.toInt ≤ (gi 7).toInt) → (v20.toInt = (bs_no (ga 3) l11.toInt.toNat : Int)) → (bs_op (ga 3) l11.toInt.toNat xs22) → (12 - l11.toInt).toNat < n23 → pm_V sc d 9 15 [.ref 32, .ref 27, .int l11] [] w12 (fun rv w' => rv = none ∧ pm_IX gi ga w' ∧ pm_h0 w0 w' ∧ ∃ (lt' pl' : Int32) (rows' tk' : List Int32), w'[32]? = some (.inr (2, [.int 1, .int lt', .int pl', .ref 33, .ref 34, .ref 35, .ref 36])) ∧ w'[33]? = some (.inl (0, .inl rows')) ∧ w'[36]? = some (.inl (1, .inl tk')) ∧ rows'.length = 7 ∧ (∀ x ∈ rows', pm_rng x (0) 11) ∧ (∀ i, i < 7 → (tk'.getD i 0).toInt = 0) ∧ pl'.toInt = (bs_n gi ga : Int) ∧ bs_W gi ga lt'.toInt rows') := by
      intro n23
      induction n23 with
      | zero => intro l11 w12 v18 v19 v20 xs22 hI13 hh14 h15 h16 h17 h21 xs22l xs22r t25 t26 t27 t28 t29 t30 t31 t32 t33 hm24; exact absurd hm24 (Nat.not_lt_zero _)
      | succ n23 ih15_23 =>
        intro l11 w12 v18 v19 v20 xs22 hI13 hh14 h15 h16 h17 h21 xs22l xs22r t25 t26 t27 t28 t29 t30 t31 t32 t33 hm24
        refine v_iload_n rfl rfl ?_
        refine v_aload_n rfl rfl ?_
        have h34 : _ = some _ := hI13.2 27 (by decide)
        refine v_get rfl h34 rfl ?_
        refine r_icmp_ge rfl (fun t35 => ?_) (fun t35 => ?_)
        · refine v_aload_n rfl rfl ?_
          refine v_ldc (v := 2147483647) rfl (by decide) ?_
          refine v_put rfl h17 rfl (Nat.le_of_ble_eq_true rfl) ?_
          refine r_gen (w' := w12.set 32 (.inr (2, [.int v18, .int (2147483647 : Int32), .int v20, .ref 33, .ref 34, .ref 35, .ref 36]))) (fun w36 e37 => ?_)
          have hI38 : pm_IX gi ga w36 := by rw [e37]; exact hI13.set 32 (by decide) ⟨v18, (2147483647 : Int32), v20, ((show v18.toInt = 0 ∨ v18.toInt = 1 by omega).imp i_eq.mpr i_eq.mpr), ⟨by omega, by omega⟩, rfl⟩
          have hh39 : pm_h0 w0 w36 := by rw [e37]; exact hh14.set (by decide) _
          have h40 := r_get_ne e37 (show 32 ≠ 33 by decide) h15
          have h41 := r_get_ne e37 (show 32 ≠ 36 by decide) h16
          have h42 := r_get_ne e37 (show 32 ≠ 34 by decide) h21
          have h43 := r_get_ne e37 (show 32 ≠ 27 by decide) h34
          have h44 := r_get_eq e37 h17
          refine v_aload_n rfl rfl ?_
          refine v_aload_n rfl rfl ?_
          refine v_iconst (v := 0) rfl (by decide) ?_
          refine v_aload_n rfl rfl ?_
          refine v_get rfl h43 rfl ?_
          refine v_aload_n rfl rfl ?_
          refine v_get rfl h43 rfl ?_
          refine v_iconst (v := 0) rfl (by decide) ?_
          obtain ⟨xs46, xs46l, xs46r, h45⟩ := hI38.2 35 (by decide)
          have hno := t32
          have hle := bs_no_le (d := ga 3) (a := l11.toInt.toNat) (gi 7).toInt.toNat (by omega)
          have hN : bs_n gi ga = bs_no (ga 3) (gi 7).toInt.toNat := rfl
          have hnn : bs_no (ga 3) (gi 7).toInt.toNat ≤ bs_no (ga 3) l11.toInt.toNat := by
            by_cases hx : (gi 7).toInt ≤ l11.toInt
            · rw [show (gi 7).toInt.toNat = l11.toInt.toNat by omega]; exact Nat.le_refl _
            · omega
          have hop := t33.full hnn
          refine v_callV rfl (g_goOn hR xs22l xs22r hop hn (bs_n gi ga) w36 (0 : Int32) (gi 5) (gi 6) (0 : Int32) v18 (2147483647 : Int32) v20 rows xs46 tk 0 0 [] hI38 hh39 h44 h40 h42 h45 h41 l33 r33 xs46l xs46r l36 r36 (by omega) (by omega) (by omega) (by omega) (Nat.zero_add _) (fun i hi => absurd hi (Nat.not_lt_zero _)) (fun i hi => by rw [Nat.zero_testBit, if_neg (by decide)]; exact hz i hi) (pm_fr_0n _) (by omega) (by show _ ≤ 3000 + 138 * ((0 : Nat) : Int); omega) (by omega) (by omega) (by omega) (by show _ ≤ 4000 * ((0 : Nat) : Int); omega) bs_nd.root (Or.inl ⟨rfl, by decide⟩)) rfl rfl h44 rfl rfl (by omega) (fun rv w47 hq48 => ?_)
          obtain ⟨rfl, q49hI, q49hh, q49k, q49lt, q49pl, q49rows, q49tr, q49tk, q492, q493, q494, q495, q496, q49a, q49b, q49c, q49d, q49e, q49f, q49g, q49h, q49i, q49m, -, q49s⟩ := hq48
          refine v_aload_n rfl rfl ?_
          refine v_iconst (v := 1) rfl (by decide) ?_
          refine v_put rfl q492 (r_okZ (by omega)) (Nat.le_of_ble_eq_true rfl) ?_
          refine r_gen (w' := w47.set 32 (.inr (2, [.int (1 : Int32), .int q49lt, .int q49pl, .ref 33, .ref 34, .ref 35, .ref 36]))) (fun w50 e51 => ?_)
          have hI52 : pm_IX gi ga w50 := by rw [e51]; exact q49hI.set 32 (by decide) ⟨(1 : Int32), q49lt, q49pl, ((show (1 : Int32).toInt = 0 ∨ (1 : Int32).toInt = 1 by omega).imp i_eq.mpr i_eq.mpr), ⟨by omega, by omega⟩, rfl⟩
          have hh53 : pm_h0 w0 w50 := by rw [e51]; exact q49hh.set (by decide) _
          have h54 := r_get_ne e51 (show 32 ≠ 33 by decide) q493
          have h55 := r_get_ne e51 (show 32 ≠ 36 by decide) q496
          have h56 := r_get_eq e51 q492
          exact v_ret rfl ⟨rfl, hI52, hh53, q49lt, q49pl, q49rows, q49tk, h56, h54, h55, q49a, q49b, (fun i hi => by have q := q49m i hi; rw [Nat.zero_testBit, if_neg (by decide)] at q; exact q), q49i, (by
      rcases q49s with ⟨q1, -⟩ | q1
      · have := bs_f_pos (bs_n gi ga); omega
      · rw [Nat.zero_add] at q1; exact q1)⟩
        · refine v_aload_n rfl rfl ?_
          refine v_get rfl h17 rfl ?_
          refine v_bipush (v := 7) rfl (by decide) ?_
          refine r_icmp_ge rfl (fun t57 => ?_) (fun t57 => ?_)
          · refine v_aload_n rfl rfl ?_
            refine v_ldc (v := 2147483647) rfl (by decide) ?_
            refine v_put rfl h17 rfl (Nat.le_of_ble_eq_true rfl) ?_
            refine r_gen (w' := w12.set 32 (.inr (2, [.int v18, .int (2147483647 : Int32), .int v20, .ref 33, .ref 34, .ref 35, .ref 36]))) (fun w58 e59 => ?_)
            have hI60 : pm_IX gi ga w58 := by rw [e59]; exact hI13.set 32 (by decide) ⟨v18, (2147483647 : Int32), v20, ((show v18.toInt = 0 ∨ v18.toInt = 1 by omega).imp i_eq.mpr i_eq.mpr), ⟨by omega, by omega⟩, rfl⟩
            have hh61 : pm_h0 w0 w58 := by rw [e59]; exact hh14.set (by decide) _
            have h62 := r_get_ne e59 (show 32 ≠ 33 by decide) h15
            have h63 := r_get_ne e59 (show 32 ≠ 36 by decide) h16
            have h64 := r_get_ne e59 (show 32 ≠ 34 by decide) h21
            have h65 := r_get_ne e59 (show 32 ≠ 27 by decide) h34
            have h66 := r_get_eq e59 h17
            refine v_aload_n rfl rfl ?_
            refine v_aload_n rfl rfl ?_
            refine v_iconst (v := 0) rfl (by decide) ?_
            refine v_aload_n rfl rfl ?_
            refine v_get rfl h65 rfl ?_
            refine v_aload_n rfl rfl ?_
            refine v_get rfl h65 rfl ?_
            refine v_iconst (v := 0) rfl (by decide) ?_
            obtain ⟨xs68, xs68l, xs68r, h67⟩ := hI60.2 35 (by decide)
            have hno := t32
            have hle := bs_no_le (d := ga 3) (a := l11.toInt.toNat) (gi 7).toInt.toNat (by omega)
            have hN : bs_n gi ga = bs_no (ga 3) (gi 7).toInt.toNat := rfl
            have hnn : bs_no (ga 3) (gi 7).toInt.toNat ≤ bs_no (ga 3) l11.toInt.toNat := by
              by_cases hx : (gi 7).toInt ≤ l11.toInt
              · rw [show (gi 7).toInt.toNat = l11.toInt.toNat by omega]; exact Nat.le_refl _
              · omega
            have hop := t33.full hnn
            refine v_callV rfl (g_goOn hR xs22l xs22r hop hn (bs_n gi ga) w58 (0 : Int32) (gi 5) (gi 6) (0 : Int32) v18 (2147483647 : Int32) v20 rows xs68 tk 0 0 [] hI60 hh61 h66 h62 h64 h67 h63 l33 r33 xs68l xs68r l36 r36 (by omega) (by omega) (by omega) (by omega) (Nat.zero_add _) (fun i hi => absurd hi (Nat.not_lt_zero _)) (fun i hi => by rw [Nat.zero_testBit, if_neg (by decide)]; exact hz i hi) (pm_fr_0n _) (by omega) (by show _ ≤ 3000 + 138 * ((0 : Nat) : Int); omega) (by omega) (by omega) (by omega) (by show _ ≤ 4000 * ((0 : Nat) : Int); omega) bs_nd.root (Or.inl ⟨rfl, by decide⟩)) rfl rfl h66 rfl rfl (by omega) (fun rv w69 hq70 => ?_)
            obtain ⟨rfl, q71hI, q71hh, q71k, q71lt, q71pl, q71rows, q71tr, q71tk, q712, q713, q714, q715, q716, q71a, q71b, q71c, q71d, q71e, q71f, q71g, q71h, q71i, q71m, -, q71s⟩ := hq70
            refine v_aload_n rfl rfl ?_
            refine v_iconst (v := 1) rfl (by decide) ?_
            refine v_put rfl q712 (r_okZ (by omega)) (Nat.le_of_ble_eq_true rfl) ?_
            refine r_gen (w' := w69.set 32 (.inr (2, [.int (1 : Int32), .int q71lt, .int q71pl, .ref 33, .ref 34, .ref 35, .ref 36]))) (fun w72 e73 => ?_)
            have hI74 : pm_IX gi ga w72 := by rw [e73]; exact q71hI.set 32 (by decide) ⟨(1 : Int32), q71lt, q71pl, ((show (1 : Int32).toInt = 0 ∨ (1 : Int32).toInt = 1 by omega).imp i_eq.mpr i_eq.mpr), ⟨by omega, by omega⟩, rfl⟩
            have hh75 : pm_h0 w0 w72 := by rw [e73]; exact q71hh.set (by decide) _
            have h76 := r_get_ne e73 (show 32 ≠ 33 by decide) q713
            have h77 := r_get_ne e73 (show 32 ≠ 36 by decide) q716
            have h78 := r_get_eq e73 q712
            exact v_ret rfl ⟨rfl, hI74, hh75, q71lt, q71pl, q71rows, q71tk, h78, h76, h77, q71a, q71b, (fun i hi => by have q := q71m i hi; rw [Nat.zero_testBit, if_neg (by decide)] at q; exact q), q71i, (by
      rcases q71s with ⟨q1, -⟩ | q1
      · have := bs_f_pos (bs_n gi ga); omega
      · rw [Nat.zero_add] at q1; exact q1)⟩
          · refine v_aload_n rfl rfl ?_
            refine v_iload_n rfl rfl ?_
            refine v_callV rfl (W_X9_isOpen_27_x l11 (by omega) (by omega) hR hI13) rfl rfl h34 rfl rfl (by omega) (fun rv w79 hq80 => ?_)
            obtain ⟨⟨z81, rfl, z81p0, z81p1, z81p2⟩, rfl⟩ := hq80
            skip
            refine r_if_eq rfl (fun t82 => ?_) (fun t82 => ?_)
            · refine r_iinc rfl rfl (by decide) (by omega) (by omega) (fun z83 z83e => ?_)
              refine v_goto rfl ?_
              exact ih15_23 z83 w12 v18 v19 v20 xs22 hI13 hh14 h15 h16 h17 h21 xs22l xs22r (by omega) (by omega) (by omega) (by omega) (by omega) (by omega) (by omega) (by
                  rw [show z83.toInt.toNat = l11.toInt.toNat + 1 by omega]
                  rcases z81p2 with ⟨g1, g2⟩ | ⟨g1, g2⟩
                  · rw [bs_no_s g2]; omega
                  · rw [bs_no_n g2]; omega) (by
                  rw [show z83.toInt.toNat = l11.toInt.toNat + 1 by omega]
                  exact t33.same (by rcases z81p2 with ⟨g1, g2⟩ | ⟨g1, g2⟩; (omega); exact g2)) (by omega)
            · refine v_aload_n rfl rfl ?_
              refine v_get rfl h17 rfl ?_
              refine v_aload_n rfl rfl ?_
              refine v_get rfl h17 rfl ?_
              refine v_iload_n rfl rfl ?_
              refine r_iastx rfl h21 xs22l (by omega) (by omega) (fun ys84 ys84l ys84m ys84g ys84n => ?_)
              have ys84r := r_rng ys84m xs22r (by omega) (by omega)
              refine r_gen (w' := w12.set 34 (.inl (0, .inl ys84))) (fun w85 e86 => ?_)
              have hI87 : pm_IX gi ga w85 := by rw [e86]; exact hI13.set 34 (by decide) ⟨ys84, ys84l, ys84r, rfl⟩
              have hh88 : pm_h0 w0 w85 := by rw [e86]; exact hh14.set (by decide) _
              have h89 := r_get_ne e86 (show 34 ≠ 33 by decide) h15
              have h90 := r_get_ne e86 (show 34 ≠ 36 by decide) h16
              have h91 := r_get_ne e86 (show 34 ≠ 32 by decide) h17
              have h92 := r_get_ne e86 (show 34 ≠ 27 by decide) h34
              have h93 := r_get_eq e86 h21
              skip
              refine v_aload_n rfl rfl ?_
              refine v_dup rfl rfl ?_
              refine v_get rfl h91 rfl ?_
              refine v_iconst (v := 1) rfl (by decide) ?_
              refine r_iadd rfl (by omega) (by omega) (fun z94 z94e => ?_)
              refine v_put rfl h91 rfl (Nat.le_of_ble_eq_true rfl) ?_
              refine r_gen (w' := w85.set 32 (.inr (2, [.int v18, .int v19, .int z94, .ref 33, .ref 34, .ref 35, .ref 36]))) (fun w95 e96 => ?_)
              have hI97 : pm_IX gi ga w95 := by rw [e96]; exact hI87.set 32 (by decide) ⟨v18, v19, z94, ((show v18.toInt = 0 ∨ v18.toInt = 1 by omega).imp i_eq.mpr i_eq.mpr), ⟨by omega, by omega⟩, rfl⟩
              have hh98 : pm_h0 w0 w95 := by rw [e96]; exact hh88.set (by decide) _
              have h99 := r_get_ne e96 (show 32 ≠ 33 by decide) h89
              have h100 := r_get_ne e96 (show 32 ≠ 36 by decide) h90
              have h101 := r_get_ne e96 (show 32 ≠ 27 by decide) h92
              have h102 := r_get_ne e96 (show 32 ≠ 34 by decide) h93
              have h103 := r_get_eq e96 h91
              refine r_iinc rfl rfl (by decide) (by omega) (by omega) (fun z104 z104e => ?_)
              refine v_goto rfl ?_
              exact ih15_23 z104 w95 v18 v19 z94 ys84 hI97 hh98 h99 h100 h103 h102 ys84l ys84r (by omega) (by omega) (by omega) (by omega) (by omega) (by omega) (by omega) (by
                  rw [show z104.toInt.toNat = l11.toInt.toNat + 1 by omega]
                  rcases z81p2 with ⟨g1, g2⟩ | ⟨g1, g2⟩
                  · rw [bs_no_s g2]; omega
                  · rw [bs_no_n g2]; omega) (by
                  rw [show z104.toInt.toNat = l11.toInt.toNat + 1 by omega]
                  have hno := t32
                  rw [show v20.toInt.toNat = bs_no (ga 3) l11.toInt.toNat by omega] at ys84g ys84n
                  exact t33.next (by rcases z81p2 with ⟨g1, g2⟩ | ⟨g1, g2⟩; (exact g2); omega) (i_nI (by omega)) ys84g ys84n) (by omega)
    exact L23 _ (0 : Int32) w2 kn lt (0 : Int32) xs10 hI4 hh5 h6 h7 h8 h9 xs10l xs10r (by omega) (by omega) (by omega) (by omega) (by omega) (by omega) (by omega) (by rfl) (by intro j hj; rw [show (0 : Int32).toInt.toNat = 0 from rfl] at hj; omega) (Nat.lt_add_one _)
  · exact v_ret rfl (by
      have e1 : kn = 1 := i_eq.mpr (by rw [i_1]; omega)
      subst e1
      obtain ⟨-, q2, q3⟩ := hk (by decide)
      exact ⟨rfl, hI, hh, lt, pl, rows, tk, h32, h33, h36, l33, r33, hz, q2, q3⟩)
theorem pm_BX.kn {gi : Nat → Int32} {ga : Nat → List Int32} {w w' : pm_W} (h : pm_BX gi ga w) (g : pm_kn w w') : pm_BX gi ga w' := by
  obtain ⟨kn, lt, pl, rows, tk, h1, h2, h3, h4, h5⟩ := h
  obtain ⟨g1, g2, g3⟩ := g
  rcases g3 with g3 | ⟨a, b, g3⟩
  · exact ⟨kn, lt, pl, rows, tk, g3.trans h1, g1.trans h2, g2.trans h3, h4, h5⟩
  · exact ⟨0, a, b, rows, tk, g3, g1.trans h2, g2.trans h3, h4, fun q => absurd q (by decide)⟩
set_option maxRecDepth 100000 in
theorem W_X11_best_0_x {sc : pm_S} {w w0 : pm_W} {gi : Nat → Int32} {ga : Nat → List Int32}   (hR : pm_Rg gi ga) (hI : pm_IX gi ga w) (hh : pm_h0 w0 w) (hB : pm_BX gi ga w) : pm_Mt sc 11 93 1 [.ref 0] w (fun rv w' => ∃ v : Int32, rv = some (.int v) ∧ bs_Pbest gi ga v ∧ pm_IX gi ga w' ∧ pm_h0 w0 w' ∧ pm_BX gi ga w') := by
  intro d hd
  obtain ⟨g0a, g0b⟩ := hR.n0
  obtain ⟨g1a, g1b⟩ := hR.n1
  obtain ⟨g2a, g2b⟩ := hR.n2
  obtain ⟨g3a, g3b⟩ := hR.n3
  obtain ⟨g4a, g4b⟩ := hR.n4
  obtain ⟨g5a, g5b⟩ := hR.n5
  obtain ⟨g6a, g6b⟩ := hR.n6
  obtain ⟨g7a, g7b⟩ := hR.n7
  obtain ⟨g8a, g8b⟩ := hR.n8
  have km3 : (-3 : Int32).toInt = -3 := by decide
  have k7 : (7 : Int32).toInt = 7 := by decide
  show pm_V sc d 93 0 [.ref 0] [] w _
  refine v_aload_n rfl rfl ?_
  obtain ⟨v2, ⟨v2z, v2e⟩, h1⟩ := hI.2 0 (by decide)
  have v2z := v2z.imp i_eq.mp i_eq.mp
  rw [i_0, i_1] at v2z
  refine v_get rfl h1 rfl ?_
  have h3 : _ = some _ := hI.2 27 (by decide)
  refine v_callV rfl (W_X9_openOrders_27_x  hR hI) rfl rfl h3 rfl rfl (by omega) (fun rv w4 hq5 => ?_)
  obtain ⟨⟨z6, rfl, z6p0, z6p1, z6p2⟩, rfl⟩ := hq5
  skip
  refine v_bipush (v := 7) rfl (by decide) ?_
  refine r_icmp_le rfl (fun t7 => ?_) (fun t7 => ?_)
  · refine v_aload_n rfl rfl ?_
    refine v_get rfl h1 rfl ?_
    refine v_aload_n rfl rfl ?_
    refine v_get rfl h1 rfl ?_
    obtain ⟨b10k, b10lt, b10pl, b10rows, b10tk, b102, b103, b106, b10z, b10w⟩ := hB
    obtain ⟨y0, y1, y2, yz, ⟨y2a, y2b⟩, yh⟩ := hI.2 32 (by decide)
    obtain ⟨x3, x3l, x3r, x3h⟩ := hI.2 33 (by decide)
    obtain ⟨x6, x6l, x6r, x6h⟩ := hI.2 36 (by decide)
    rw [b102] at yh; cases yh
    rw [b103] at x3h; cases x3h
    rw [b106] at x6h; cases x6h
    have yz := yz.imp i_eq.mp i_eq.mp
    rw [i_0, i_1] at yz
    refine v_callV rfl (W_X2_find_32_27_x hR hI hh (by omega) b102 b103 b106 x3l x3r x6l x6r (by omega) (by omega) y2a y2b b10z b10w) rfl rfl b102 rfl rfl (by omega) (fun rv w8 hq9 => ?_)
    obtain ⟨rfl, hI9, hh9, lt9, pl9, rows9, tk9, c2, c3, c6, m3, r3, z9, p9, w9⟩ := hq9
    refine v_aload_n rfl rfl ?_
    obtain ⟨v12, ⟨v12z, v12e⟩, h11⟩ := hI9.2 0 (by decide)
    have v12z := v12z.imp i_eq.mp i_eq.mp
    rw [i_0, i_1] at v12z
    refine v_get rfl h11 rfl ?_
    refine v_get rfl c2 rfl ?_
    exact v_iret rfl ⟨_, rfl, Or.inr ⟨by omega, rows9, w9⟩, hI9, hh9, ⟨1, lt9, pl9, rows9, tk9, c2, c3, c6, z9, fun _ => ⟨by omega, p9, w9⟩⟩⟩
  · refine v_aload_n rfl rfl ?_
    refine v_bipush (v := (-3)) rfl (by decide) ?_
    refine v_callV rfl (c_X_refuse (-3 : Int32) (by unfold pm_isR; first | decide | exact Or.inl rfl) hR hI) rfl rfl h1 rfl rfl (by omega) (fun rv w13 hq14 => ?_)
    obtain ⟨rfl, hI3, hh3⟩ := hq14
    have hB3 := hB.kn hh3.2
    have hh4 := hh.tr hh3.1
    exact v_iret rfl ⟨_, rfl, Or.inl ⟨by omega, by omega⟩, hI3, hh4, hB3⟩
set_option maxRecDepth 100000 in
theorem W_X11_bestAt_0_x {sc : pm_S} {w w0 : pm_W} {gi : Nat → Int32} {ga : Nat → List Int32} (i : Int32)  (hR : pm_Rg gi ga) (hI : pm_IX gi ga w) (hh : pm_h0 w0 w) (hB : pm_BX gi ga w) : pm_Mt sc 11 94 2 [.ref 0, .int i] w (fun rv w' => ∃ v : Int32, rv = some (.int v) ∧ bs_PbestAt gi ga i v ∧ pm_IX gi ga w' ∧ pm_h0 w0 w' ∧ pm_BX gi ga w') := by
  intro d hd
  obtain ⟨g0a, g0b⟩ := hR.n0
  obtain ⟨g1a, g1b⟩ := hR.n1
  obtain ⟨g2a, g2b⟩ := hR.n2
  obtain ⟨g3a, g3b⟩ := hR.n3
  obtain ⟨g4a, g4b⟩ := hR.n4
  obtain ⟨g5a, g5b⟩ := hR.n5
  obtain ⟨g6a, g6b⟩ := hR.n6
  obtain ⟨g7a, g7b⟩ := hR.n7
  obtain ⟨g8a, g8b⟩ := hR.n8
  have km9 : (-9 : Int32).toInt = -9 := by decide
  have km3 : (-3 : Int32).toInt = -3 := by decide
  have k7 : (7 : Int32).toInt = 7 := by decide
  show pm_V sc d 94 0 [.ref 0, .int i] [] w _
  refine v_aload_n rfl rfl ?_
  obtain ⟨v2, ⟨v2z, v2e⟩, h1⟩ := hI.2 0 (by decide)
  have v2z := v2z.imp i_eq.mp i_eq.mp
  rw [i_0, i_1] at v2z
  refine v_get rfl h1 rfl ?_
  have h3 : _ = some _ := hI.2 27 (by decide)
  refine v_callV rfl (W_X9_openOrders_27_x  hR hI) rfl rfl h3 rfl rfl (by omega) (fun rv w4 hq5 => ?_)
  obtain ⟨⟨z6, rfl, z6p0, z6p1, z6p2⟩, rfl⟩ := hq5
  skip
  refine v_bipush (v := 7) rfl (by decide) ?_
  refine r_icmp_le rfl (fun t7 => ?_) (fun t7 => ?_)
  · refine v_aload_n rfl rfl ?_
    refine v_get rfl h1 rfl ?_
    refine v_aload_n rfl rfl ?_
    refine v_get rfl h1 rfl ?_
    obtain ⟨b10k, b10lt, b10pl, b10rows, b10tk, b102, b103, b106, b10z, b10w⟩ := hB
    obtain ⟨y0, y1, y2, yz, ⟨y2a, y2b⟩, yh⟩ := hI.2 32 (by decide)
    obtain ⟨x3, x3l, x3r, x3h⟩ := hI.2 33 (by decide)
    obtain ⟨x6, x6l, x6r, x6h⟩ := hI.2 36 (by decide)
    rw [b102] at yh; cases yh
    rw [b103] at x3h; cases x3h
    rw [b106] at x6h; cases x6h
    have yz := yz.imp i_eq.mp i_eq.mp
    rw [i_0, i_1] at yz
    refine v_callV rfl (W_X2_find_32_27_x hR hI hh (by omega) b102 b103 b106 x3l x3r x6l x6r (by omega) (by omega) y2a y2b b10z b10w) rfl rfl b102 rfl rfl (by omega) (fun rv w8 hq9 => ?_)
    obtain ⟨rfl, hI9, hh9, lt9, pl9, rows9, tk9, c2, c3, c6, m3, r3, z9, p9, w9⟩ := hq9
    refine v_iload_n rfl rfl ?_
    refine v_aload_n rfl rfl ?_
    obtain ⟨v12, ⟨v12z, v12e⟩, h11⟩ := hI9.2 0 (by decide)
    have v12z := v12z.imp i_eq.mp i_eq.mp
    rw [i_0, i_1] at v12z
    refine v_get rfl h11 rfl ?_
    refine v_get rfl c2 rfl ?_
    refine v_callS rfl (W_X11_isPlace i pl9 hR hI9) rfl rfl rfl rfl rfl (by omega) (fun rv w13 hq14 => ?_)
    obtain ⟨⟨z15, rfl, z15p0⟩, rfl⟩ := hq14
    refine r_if_eq rfl (fun t16 => ?_) (fun t16 => ?_)
    · refine v_bipush (v := (-9)) rfl (by decide) ?_
      exact v_iret rfl ⟨_, rfl, Or.inr (Or.inl ⟨by omega, by omega, by omega⟩), hI9, hh9, ⟨1, lt9, pl9, rows9, tk9, c2, c3, c6, z9, fun _ => ⟨by omega, p9, w9⟩⟩⟩
    · refine v_aload_n rfl rfl ?_
      refine v_get rfl h11 rfl ?_
      refine v_get rfl c2 rfl ?_
      refine v_iload_n rfl rfl ?_
      refine r_iaload rfl c3 m3 (by omega) (by omega) (fun z17 z17m z17g => ?_)
      obtain ⟨z17a, z17b⟩ := r3 z17 z17m
      skip
      refine v_goto rfl ?_
      exact v_iret rfl ⟨_, rfl, Or.inr (Or.inr ⟨by omega, by omega, lt9.toInt, rows9, w9, z17g⟩), hI9, hh9, ⟨1, lt9, pl9, rows9, tk9, c2, c3, c6, z9, fun _ => ⟨by omega, p9, w9⟩⟩⟩
  · refine v_aload_n rfl rfl ?_
    refine v_bipush (v := (-3)) rfl (by decide) ?_
    refine v_callV rfl (c_X_refuse (-3 : Int32) (by unfold pm_isR; first | decide | exact Or.inl rfl) hR hI) rfl rfl h1 rfl rfl (by omega) (fun rv w18 hq19 => ?_)
    obtain ⟨rfl, hI3, hh3⟩ := hq19
    have hB3 := hB.kn hh3.2
    have hh4 := hh.tr hh3.1
    exact v_iret rfl ⟨_, rfl, Or.inl ⟨by omega, by omega⟩, hI3, hh4, hB3⟩

