section PmFx
variable {sc : pm_S} {d mi pc nx a b c f : Nat} {ls st : List Value} {w : pm_W} {Q : Option Value → pm_W → Prop}
theorem r_facskipx {x y : Int32} {r : Int} (hc : pm_code mi pc = some (.idiv, nx, a, b, c, f)) (hx : 0 ≤ x.toInt) (h : pm_fac y.toInt (r - 1)) (hl : pm_ltf x.toInt r) (hr7 : r ≤ 7) (k : ∀ z : Int32, z.toInt = x.toInt / y.toInt → 0 ≤ z.toInt → z.toInt ≤ r - 1 → pm_V sc d mi nx ls (.int z :: st) w Q) : pm_V sc d mi pc ls (.int y :: .int x :: st) w Q := by
  have hr := h.rng
  refine r_idiv hc hx (by omega) (fun z zm za _ => k z zm za ?_)
  rcases h with ⟨e, g⟩ | ⟨e, g⟩ | ⟨e, g⟩ | ⟨e, g⟩ | ⟨e, g⟩ | ⟨e, g⟩ | ⟨e, g⟩ | ⟨e, g⟩
  · have := hl 1 (Or.inr (Or.inl ⟨by omega, rfl⟩)); rw [g] at zm; omega
  · have := hl 2 (Or.inr (Or.inr (Or.inl ⟨by omega, rfl⟩))); rw [g] at zm; omega
  · have := hl 6 (Or.inr (Or.inr (Or.inr (Or.inl ⟨by omega, rfl⟩)))); rw [g] at zm; omega
  · have := hl 24 (Or.inr (Or.inr (Or.inr (Or.inr (Or.inl ⟨by omega, rfl⟩))))); rw [g] at zm; omega
  · have := hl 120 (Or.inr (Or.inr (Or.inr (Or.inr (Or.inr (Or.inl ⟨by omega, rfl⟩)))))); rw [g] at zm; omega
  · have := hl 720 (Or.inr (Or.inr (Or.inr (Or.inr (Or.inr (Or.inr (Or.inl ⟨by omega, rfl⟩))))))); rw [g] at zm; omega
  · have := hl 5040 (Or.inr (Or.inr (Or.inr (Or.inr (Or.inr (Or.inr (Or.inr (⟨by omega, rfl⟩)))))))); rw [g] at zm; omega
  · omega
end PmFx
theorem pm_tk.to {x : Int32} {a m r : Int} {t : Nat} (h : pm_tk x a m r) (hx : x = nI t) (ht : t < 128) : r ≤ pm_fr t a.toNat m.toNat := by
  obtain ⟨u, hu, e, g⟩ := h
  have q := congrArg Int32.toInt (e.symm.trans hx)
  rw [nI_toInt (by omega), nI_toInt (by omega)] at q
  have q : u = t := by omega
  subst q
  exact g
theorem bs_nf_s {t m a s : Nat} : bs_nf t (m + 1) a s = if t.testBit a = true then bs_nf t m (a + 1) s else if s = 0 then a else bs_nf t m (a + 1) (s - 1) := rfl
theorem bs_seq_s {n r t k : Nat} : bs_seq n (r + 1) t k = bs_nf t n 0 (k / bs_f r) :: bs_seq n r (t ||| 2 ^ bs_nf t n 0 (k / bs_f r)) (k % bs_f r) := rfl
set_option maxRecDepth 100000 in
theorem W_X12_findRow_59_x {sc : pm_S} {w w0 : pm_W} {gi : Nat → Int32} {ga : Nat → List Int32} (k : Int32) (c59_4 : Int32) (c59_5 : Int32) (c59_6 : Int32) (c59_14 : Int32) (c59_35 : Int32) (c59_39 : Int32) (c59_40 : Int32) (c59_42 : Int32) (c85 : List Int32) (c87 : List Int32) (p0 : k.toInt ≤ 5040) (p1 : 0 ≤ k.toInt) (p2 : c59_42.toInt ≤ 7) (p3 : pm_ltf k.toInt c59_42.toInt) (p4 : c59_42.toInt = ((bs_n gi ga) : Int)) (p5 : bs_op (ga 3) (gi 7).toInt.toNat c85) (p6 : 0 ≤ c59_4.toInt) (p7 : c59_4.toInt ≤ 1) (p8 : 0 ≤ c59_5.toInt) (p9 : c59_5.toInt ≤ 20) (p10 : 0 ≤ c59_6.toInt) (p11 : c59_6.toInt ≤ 20) (p12 : 0 ≤ c59_35.toInt) (p13 : c59_35.toInt ≤ 20) (p14 : 0 ≤ c59_42.toInt) (p15 : c59_42.toInt ≤ 12) (hc59 : w[59]? = some (.inr (12, [.int (gi 0), .int (gi 1), .ref 60, .int (gi 2), .int c59_4, .int c59_5, .int c59_6, .ref 61, .ref 62, .ref 63, .int (gi 5), .int (gi 3), .int (gi 4), .int (gi 6), .int c59_14, .int (gi 7), .ref 64, .ref 65, .ref 66, .ref 67, .int (gi 8), .ref 68, .ref 69, .ref 70, .ref 71, .ref 72, .ref 73, .ref 74, .ref 75, .ref 76, .ref 77, .ref 78, .ref 79, .ref 80, .ref 81, .int c59_35, .ref 82, .ref 83, .ref 84, .int c59_39, .int c59_40, .ref 85, .int c59_42, .ref 86, .ref 87]))) (hc85 : w[85]? = some (.inl (0, .inl c85))) (hl85 : c85.length = 7) (hr85 : ∀ x ∈ c85, pm_rng x (0) 11) (hc87 : w[87]? = some (.inl (0, .inl c87))) (hl87 : c87.length = 7) (hr87 : ∀ x ∈ c87, pm_rng x (0) 11) (hR : pm_Rg gi ga) (hI : pm_IM gi ga w) (hh : pm_lo w0 w) : pm_Mt sc 0 164 8 [.ref 59, .int k] w (fun rv w' => rv = none ∧ pm_IM gi ga w' ∧ pm_lo w0 w' ∧ ∃ row : List Int32, w'[59]? = some (.inr (12, [.int (gi 0), .int (gi 1), .ref 60, .int (gi 2), .int c59_4, .int c59_5, .int c59_6, .ref 61, .ref 62, .ref 63, .int (gi 5), .int (gi 3), .int (gi 4), .int (gi 6), .int c59_14, .int (gi 7), .ref 64, .ref 65, .ref 66, .ref 67, .int (gi 8), .ref 68, .ref 69, .ref 70, .ref 71, .ref 72, .ref 73, .ref 74, .ref 75, .ref 76, .ref 77, .ref 78, .ref 79, .ref 80, .ref 81, .int c59_35, .ref 82, .ref 83, .ref 84, .int c59_39, .int c59_40, .ref 85, .int c59_42, .ref 86, .ref 87])) ∧ w'[85]? = some (.inl (0, .inl c85)) ∧ w'[87]? = some (.inl (0, .inl c87)) ∧ w'[86]? = some (.inl (0, .inl row)) ∧ row.length = 7 ∧ (∀ x ∈ row, pm_rng x (0) 11) ∧ bs_rw gi ga row ((bs_seq (bs_n gi ga) (bs_n gi ga) 0) k.toInt.toNat)) := by
  intro d hd
  obtain ⟨g0a, g0b⟩ := hR.n0
  obtain ⟨g1a, g1b⟩ := hR.n1
  obtain ⟨g2a, g2b⟩ := hR.n2
  obtain ⟨g3a, g3b⟩ := hR.n3
  obtain ⟨g4a, g4b⟩ := hR.n4
  obtain ⟨g5a, g5b⟩ := hR.n5
  obtain ⟨g6a, g6b⟩ := hR.n6
  obtain ⟨g7a, g7b⟩ := hR.n7
  obtain ⟨g8a, g8b⟩ := hR.n8
  have k0 : (0 : Int32).toInt = 0 := by decide
  have k1 : (1 : Int32).toInt = 1 := by decide
  have k2 : (2 : Int32).toInt = 2 := by decide
  show pm_V sc d 164 0 [.ref 59, .int k, .null, .null, .null, .null, .null, .null] [] w _
  have p0k : pm_ltf k.toInt c59_42.toInt := by assumption
  have hop : bs_op (ga 3) (gi 7).toInt.toNat c85 := by assumption
  refine v_iconst (v := 1) rfl (by decide) ?_
  refine v_istore_n rfl (Nat.le_of_ble_eq_true rfl) ?_
  refine v_iconst (v := 2) rfl (by decide) ?_
  refine v_istore_n rfl (Nat.le_of_ble_eq_true rfl) ?_
  have L3 : ∀ (n3 : Nat) (l1 : Int32) (l2 : Int32), 1 ≤ l1.toInt → l1.toInt ≤ 5040 → 2 ≤ l2.toInt → l2.toInt ≤ 8 → (l2.toInt ≤ c59_42.toInt + 1 ∨ l2.toInt = 2) → (pm_fac l1.toInt (l2.toInt - 1)) → (8 - l2.toInt).toNat < n3 → pm_V sc d 164 4 [.ref 59, .int k, .int l1, .int l2, .null, .null, .null, .null] [] w (fun rv w' => rv = none ∧ pm_IM gi ga w' ∧ pm_lo w0 w' ∧ ∃ row : List Int32, w'[59]? = some (.inr (12, [.int (gi 0), .int (gi 1), .ref 60, .int (gi 2), .int c59_4, .int c59_5, .int c59_6, .ref 61, .ref 62, .ref 63, .int (gi 5), .int (gi 3), .int (gi 4), .int (gi 6), .int c59_14, .int (gi 7), .ref 64, .ref 65, .ref 66, .ref 67, .int (gi 8), .ref 68, .ref 69, .ref 70, .ref 71, .ref 72, .ref 73, .ref 74, .ref 75, .ref 76, .ref 77, .ref 78, .ref 79, .ref 80, .ref 81, .int c59_35, .ref 82, .ref 83, .ref 84, .int c59_39, .int c59_40, .ref 85, .int c59_42, .ref 86, .ref 87])) ∧ w'[85]? = some (.inl (0, .inl c85)) ∧ w'[87]? = some (.inl (0, .inl c87)) ∧ w'[86]? = some (.inl (0, .inl row)) ∧ row.length = 7 ∧ (∀ x ∈ row, pm_rng x (0) 11) ∧ bs_rw gi ga row ((bs_seq (bs_n gi ga) (bs_n gi ga) 0) k.toInt.toNat)) := by
    intro n3
    induction n3 with
    | zero => intro l1 l2 t5 t6 t7 t8 t9 t10 hm4; exact absurd hm4 (Nat.not_lt_zero _)
    | succ n3 ih4_3 =>
      intro l1 l2 t5 t6 t7 t8 t9 t10 hm4
      refine v_iload_n rfl rfl ?_
      refine v_aload_n rfl rfl ?_
      refine v_get rfl hc59 rfl ?_
      refine r_icmp_gt rfl (fun t11 => ?_) (fun t11 => ?_)
      · have hfac := t10.out (m := c59_42.toInt) (by omega) (by omega) (by omega)
        have hfr := hfac.rng
        refine v_iload_n rfl rfl ?_
        refine v_istore_n rfl (Nat.le_of_ble_eq_true rfl) ?_
        refine v_iconst (v := 0) rfl (by decide) ?_
        refine v_istore rfl (Nat.le_of_ble_eq_true rfl) ?_
        refine v_iconst (v := 0) rfl (by decide) ?_
        refine v_istore rfl (Nat.le_of_ble_eq_true rfl) ?_
        obtain ⟨xs13, xs13l, xs13r, h12⟩ := hI.2.1 86 (by decide) (by decide)
        have L28 : ∀ (n28 : Nat) (l14 : Int32) (l15 : Int32) (l16 : Int32) (l17 : Int32) (u18 : Value) (u19 : Value) (w20 : pm_W) (xs27 : List Int32), pm_IM gi ga w20 → pm_lo w0 w20 → w20[59]? = some (.inr (12, [.int (gi 0), .int (gi 1), .ref 60, .int (gi 2), .int c59_4, .int c59_5, .int c59_6, .ref 61, .ref 62, .ref 63, .int (gi 5), .int (gi 3), .int (gi 4), .int (gi 6), .int c59_14, .int (gi 7), .ref 64, .ref 65, .ref 66, .ref 67, .int (gi 8), .ref 68, .ref 69, .ref 70, .ref 71, .ref 72, .ref 73, .ref 74, .ref 75, .ref 76, .ref 77, .ref 78, .ref 79, .ref 80, .ref 81, .int c59_35, .ref 82, .ref 83, .ref 84, .int c59_39, .int c59_40, .ref 85, .int c59_42, .ref 86, .ref 87])) → w20[85]? = some (.inl (0, .inl c85)) → w20[87]? = some (.inl (0, .inl c87)) → w20[86]? = some (.inl (0, .inl xs27)) → xs27.length = 7 → (∀ x ∈ xs27, pm_rng x (0) 11) → 1 ≤ l14.toInt → l14.toInt ≤ 5040 → 0 ≤ l15.toInt → l15.toInt ≤ 5040 → 0 ≤ l17.toInt → l17.toInt ≤ 7 → (l17.toInt ≤ c59_42.toInt) → (pm_fac l14.toInt (c59_42.toInt - l17.toInt)) → (pm_ltf l15.toInt (c59_42.toInt - l17.toInt)) → (pm_tk l16 0 c59_42.toInt (c59_42.toInt - l17.toInt)) → (∃ (t : Nat) (pre : List Nat), t < 128 ∧ l16 = nI t ∧ pre.length = l17.toInt.toNat ∧ pm_fr t 0 (bs_n gi ga) = (bs_n gi ga) - l17.toInt.toNat ∧ (bs_seq (bs_n gi ga) (bs_n gi ga) 0) k.toInt.toNat = pre ++ bs_seq (bs_n gi ga) ((bs_n gi ga) - l17.toInt.toNat) t l15.toInt.toNat ∧ ∀ j, j < pre.length → xs27.getD j 0 = nI (bs_O gi ga (pre.getD j 0))) → (c59_42.toInt - l17.toInt).toNat < n28 → pm_V sc d 164 30 [.ref 59, .int k, .int l14, .int l15, .int l16, .int l17, u18, u19] [] w20 (fun rv w' => rv = none ∧ pm_IM gi ga w' ∧ pm_lo w0 w' ∧ ∃ row : List Int32, w'[59]? = some (.inr (12, [.int (gi 0), .int (gi 1), .ref 60, .int (gi 2), .int c59_4, .int c59_5, .int c59_6, .ref 61, .ref 62, .ref 63, .int (gi 5), .int (gi 3), .int (gi 4), .int (gi 6), .int c59_14, .int (gi 7), .ref 64, .ref 65, .ref 66, .ref 67, .int (gi 8), .ref 68, .ref 69, .ref 70, .ref 71, .ref 72, .ref 73, .ref 74, .ref 75, .ref 76, .ref 77, .ref 78, .ref 79, .ref 80, .ref 81, .int c59_35, .ref 82, .ref 83, .ref 84, .int c59_39, .int c59_40, .ref 85, .int c59_42, .ref 86, .ref 87])) ∧ w'[85]? = some (.inl (0, .inl c85)) ∧ w'[87]? = some (.inl (0, .inl c87)) ∧ w'[86]? = some (.inl (0, .inl row)) ∧ row.length = 7 ∧ (∀ x ∈ row, pm_rng x (0) 11) ∧ bs_rw gi ga row ((bs_seq (bs_n gi ga) (bs_n gi ga) 0) k.toInt.toNat)) := by
          intro n28
          induction n28 with
          | zero => intro l14 l15 l16 l17 u18 u19 w20 xs27 hI21 hh22 h23 h24 h25 h26 xs27l xs27r t30 t31 t32 t33 t34 t35 t36 t37 t38 t39 t40 hm29; exact absurd hm29 (Nat.not_lt_zero _)
          | succ n28 ih30_28 =>
            intro l14 l15 l16 l17 u18 u19 w20 xs27 hI21 hh22 h23 h24 h25 h26 xs27l xs27r t30 t31 t32 t33 t34 t35 t36 t37 t38 t39 t40 hm29
            refine v_iload rfl rfl ?_
            refine v_aload_n rfl rfl ?_
            refine v_get rfl h23 rfl ?_
            refine r_icmp_ge rfl (fun t41 => ?_) (fun t41 => ?_)
            · exact v_ret rfl ⟨rfl, hI21, hh22, ⟨xs27, h23, h24, h25, h26, xs27l, xs27r, (by obtain ⟨t, pre, ht, hL4, hpre, hfr, hsq, hrow⟩ := t40; intro i hi; rw [hsq, show (bs_n gi ga) - l17.toInt.toNat = 0 by omega]; rw [show bs_seq (bs_n gi ga) 0 t _ = [] from rfl, List.append_nil]; exact hrow i (by omega))⟩⟩
            · obtain ⟨t, pre, ht, hL4, hpre, hfr, hsq, hrow⟩ := t40
              refine v_iload_n rfl rfl ?_
              refine v_aload_n rfl rfl ?_
              refine v_get rfl h23 rfl ?_
              refine v_iload rfl rfl ?_
              refine r_isub rfl (by omega) (by omega) (fun z42 z42e => ?_)
              refine r_facdiv rfl (by rw [show z42.toInt = c59_42.toInt - l17.toInt by omega]; exact t37) (by omega) (fun z43 z43f => ?_)
              rw [show z42.toInt - 1 = c59_42.toInt - l17.toInt - 1 by omega] at z43f
              have z43r := z43f.rng
              refine v_istore_n rfl (Nat.le_of_ble_eq_true rfl) ?_
              refine v_iload_n rfl rfl ?_
              refine v_iload_n rfl rfl ?_
              have hw47 := z43f.f
              rw [show (c59_42.toInt - l17.toInt - 1).toNat = ((bs_n gi ga) - l17.toInt.toNat - 1) by omega] at hw47
              refine r_facskipx (r := c59_42.toInt - l17.toInt) rfl (by omega) z43f t38 (by omega) (fun z44 z44m z44a z44b => ?_)
              have z44n : z44.toInt.toNat = l15.toInt.toNat / bs_f ((bs_n gi ga) - l17.toInt.toNat - 1) := by rw [j_ed z44m (by omega) (by omega), show z43.toInt.toNat = bs_f ((bs_n gi ga) - l17.toInt.toNat - 1) by omega]
              clear z44m
              refine v_istore rfl (Nat.le_of_ble_eq_true rfl) ?_
              refine v_iload_n rfl rfl ?_
              refine v_iload_n rfl rfl ?_
              refine r_irem rfl (by omega) (by omega) (fun z45 z45m z45a z45b z45c => ?_)
              have z45n : z45.toInt.toNat = l15.toInt.toNat % bs_f ((bs_n gi ga) - l17.toInt.toNat - 1) := by rw [j_em z45m (by omega) (by omega), show z43.toInt.toNat = bs_f ((bs_n gi ga) - l17.toInt.toNat - 1) by omega]
              clear z45m
              refine v_istore_n rfl (Nat.le_of_ble_eq_true rfl) ?_
              refine v_iconst (v := 0) rfl (by decide) ?_
              refine v_istore rfl (Nat.le_of_ble_eq_true rfl) ?_
              have L48 : ∀ (n48 : Nat) (l46 : Int32) (l47 : Int32), 0 ≤ l46.toInt → l46.toInt ≤ 7 → 0 ≤ l47.toInt → l47.toInt ≤ 7 → (pm_tk l16 l47.toInt c59_42.toInt (l46.toInt + 1)) → (bs_nf t ((bs_n gi ga) - l47.toInt.toNat) l47.toInt.toNat l46.toInt.toNat = bs_nf t (bs_n gi ga) 0 (l15.toInt.toNat / bs_f ((bs_n gi ga) - l17.toInt.toNat - 1))) → (c59_42.toInt - l47.toInt).toNat < n48 → pm_V sc d 164 61 [.ref 59, .int k, .int z43, .int z45, .int l16, .int l17, .int l46, .int l47] [] w20 (fun rv w' => rv = none ∧ pm_IM gi ga w' ∧ pm_lo w0 w' ∧ ∃ row : List Int32, w'[59]? = some (.inr (12, [.int (gi 0), .int (gi 1), .ref 60, .int (gi 2), .int c59_4, .int c59_5, .int c59_6, .ref 61, .ref 62, .ref 63, .int (gi 5), .int (gi 3), .int (gi 4), .int (gi 6), .int c59_14, .int (gi 7), .ref 64, .ref 65, .ref 66, .ref 67, .int (gi 8), .ref 68, .ref 69, .ref 70, .ref 71, .ref 72, .ref 73, .ref 74, .ref 75, .ref 76, .ref 77, .ref 78, .ref 79, .ref 80, .ref 81, .int c59_35, .ref 82, .ref 83, .ref 84, .int c59_39, .int c59_40, .ref 85, .int c59_42, .ref 86, .ref 87])) ∧ w'[85]? = some (.inl (0, .inl c85)) ∧ w'[87]? = some (.inl (0, .inl c87)) ∧ w'[86]? = some (.inl (0, .inl row)) ∧ row.length = 7 ∧ (∀ x ∈ row, pm_rng x (0) 11) ∧ bs_rw gi ga row ((bs_seq (bs_n gi ga) (bs_n gi ga) 0) k.toInt.toNat)) := by
                intro n48
                induction n48 with
                | zero => intro l46 l47 t50 t51 t52 t53 t54 t55 hm49; exact absurd hm49 (Nat.not_lt_zero _)
                | succ n48 ih61_48 =>
                  intro l46 l47 t50 t51 t52 t53 t54 t55 hm49
                  refine v_iload rfl rfl ?_
                  refine v_iload rfl rfl ?_
                  refine v_ishr rfl ?_
                  refine v_iconst (v := 1) rfl (by decide) ?_
                  refine v_iand rfl ?_
                  obtain ⟨z56, z56e⟩ : ∃ z : Int32, z = (l16 >>> (l47 &&& 31)) &&& 1 := ⟨_, rfl⟩
                  rw [← z56e]
                  obtain ⟨z56x, z56y, z56z⟩ := pm_tk.bit (m := c59_42.toInt) t54 z56e (by omega) (by omega) (by omega) (by omega)
                  have hat67 := t54.at (by omega) (by omega) (by omega) (by omega) (by omega)
                  have z56hb := pm_fr_bit t ht l47.toInt.toNat (by omega)
                  rw [← i_nI (show 0 ≤ l47.toInt by omega), ← hL4, ← z56e] at z56hb
                  refine v_iconst (v := 1) rfl (by decide) ?_
                  refine r_icmp_eq rfl (fun t57 => ?_) (fun t57 => ?_)
                  · refine v_iload rfl rfl ?_
                    refine v_iload rfl rfl ?_
                    refine v_iload rfl rfl ?_
                    refine v_ishr rfl ?_
                    refine v_iconst (v := 1) rfl (by decide) ?_
                    refine v_iand rfl ?_
                    obtain ⟨z58, z58e⟩ : ∃ z : Int32, z = (l16 >>> (l47 &&& 31)) &&& 1 := ⟨_, rfl⟩
                    rw [← z58e]
                    obtain ⟨z58x, z58y, z58z⟩ := pm_tk.bit (m := c59_42.toInt) t54 z58e (by omega) (by omega) (by omega) (by omega)
                    have z58q := congrArg Int32.toInt (z58e.trans z56e.symm)
                    have z58hb := pm_fr_bit t ht l47.toInt.toNat (by omega)
                    rw [← i_nI (show 0 ≤ l47.toInt by omega), ← hL4, ← z58e] at z58hb
                    refine v_iconst (v := 1) rfl (by decide) ?_
                    refine r_icmp_ne rfl (fun t59 => ?_) (fun t59 => ?_)
                    · refine v_iconst (v := 1) rfl (by decide) ?_
                      refine r_isub rfl (by omega) (by omega) (fun z60 z60e => ?_)
                      refine v_istore rfl (Nat.le_of_ble_eq_true rfl) ?_
                      refine r_iinc rfl rfl (by decide) (by omega) (by omega) (fun z61 z61e => ?_)
                      refine v_goto rfl ?_
                      exact ih61_48 z60 z61 (by omega) (by omega) (by omega) (by omega) (by rw [show z61.toInt = l47.toInt + 1 by omega]; first | exact (z58y).le (by omega) | exact (z58x (by omega)).le (by omega)) (by
                          have q := t55
                          have hbit := congrArg Int32.toInt z56hb
                          rw [show (bs_n gi ga) - l47.toInt.toNat = ((bs_n gi ga) - (l47.toInt.toNat + 1)) + 1 by omega, bs_nf_s] at q
                          rw [show z61.toInt.toNat = l47.toInt.toNat + 1 by omega]
                          cases hb : Nat.testBit t l47.toInt.toNat with
                          | true =>
                            rw [hb, if_pos rfl] at hbit q
                            have hbit : z56.toInt = 1 := hbit
                            rw [show z60.toInt.toNat = l46.toInt.toNat by omega]
                            exact q
                          | false =>
                            rw [hb, if_neg (by decide)] at hbit q
                            have hbit : z56.toInt = 0 := hbit
                            rw [if_neg (show ¬ l46.toInt.toNat = 0 by omega)] at q
                            rw [show z60.toInt.toNat = l46.toInt.toNat - 1 by omega]
                            exact q) (by omega)
                    · refine v_iconst (v := 0) rfl (by decide) ?_
                      refine v_goto rfl ?_
                      refine r_isub rfl (by omega) (by omega) (fun z62 z62e => ?_)
                      refine v_istore rfl (Nat.le_of_ble_eq_true rfl) ?_
                      refine r_iinc rfl rfl (by decide) (by omega) (by omega) (fun z63 z63e => ?_)
                      refine v_goto rfl ?_
                      exact ih61_48 z62 z63 (by omega) (by omega) (by omega) (by omega) (by rw [show z63.toInt = l47.toInt + 1 by omega]; first | exact (z58y).le (by omega) | exact (z58x (by omega)).le (by omega)) (by
                          have q := t55
                          have hbit := congrArg Int32.toInt z56hb
                          rw [show (bs_n gi ga) - l47.toInt.toNat = ((bs_n gi ga) - (l47.toInt.toNat + 1)) + 1 by omega, bs_nf_s] at q
                          rw [show z63.toInt.toNat = l47.toInt.toNat + 1 by omega]
                          cases hb : Nat.testBit t l47.toInt.toNat with
                          | true =>
                            rw [hb, if_pos rfl] at hbit q
                            have hbit : z56.toInt = 1 := hbit
                            rw [show z62.toInt.toNat = l46.toInt.toNat by omega]
                            exact q
                          | false =>
                            rw [hb, if_neg (by decide)] at hbit q
                            have hbit : z56.toInt = 0 := hbit
                            rw [if_neg (show ¬ l46.toInt.toNat = 0 by omega)] at q
                            rw [show z62.toInt.toNat = l46.toInt.toNat - 1 by omega]
                            exact q) (by omega)
                  · refine v_iload rfl rfl ?_
                    refine r_if_le rfl (fun t64 => ?_) (fun t64 => ?_)
                    · have hat := t54.at (by omega) (by omega) (by omega) (by omega) (by omega)
                      have hfree : Nat.testBit t l47.toInt.toNat = false := by
                        cases hb : Nat.testBit t l47.toInt.toNat with
                        | false => rfl
                        | true =>
                          have hbit := congrArg Int32.toInt z56hb
                          rw [hb, if_pos rfl] at hbit
                          have hbit : z56.toInt = 1 := hbit
                          omega
                      have hP : bs_nf t (bs_n gi ga) 0 (l15.toInt.toNat / bs_f ((bs_n gi ga) - l17.toInt.toNat - 1)) = l47.toInt.toNat := by
                        have q := t55
                        rw [show (bs_n gi ga) - l47.toInt.toNat = ((bs_n gi ga) - (l47.toInt.toNat + 1)) + 1 by omega, bs_nf_s, hfree, if_neg (by decide), if_pos (show l46.toInt.toNat = 0 by omega)] at q
                        exact q.symm
                      refine v_iload rfl rfl ?_
                      refine v_iconst (v := 1) rfl (by decide) ?_
                      refine v_iload rfl rfl ?_
                      refine v_ishl rfl ?_
                      refine v_ior rfl ?_
                      have hat := t54.at (by omega) (by omega) (by omega) (by omega) (by omega)
                      have hset := t39.set (y := l47) (by omega) (by omega) (by omega) (by omega)
                      obtain ⟨z65, z65e⟩ : ∃ z : Int32, z = l16 ||| ((1 : Int32) <<< (l47 &&& 31)) := ⟨_, rfl⟩
                      rw [← z65e]
                      rw [← z65e] at hset
                      refine v_istore rfl (Nat.le_of_ble_eq_true rfl) ?_
                      skip
                      refine v_aload_n rfl rfl ?_
                      refine v_get rfl h23 rfl ?_
                      refine v_iload rfl rfl ?_
                      refine v_aload_n rfl rfl ?_
                      refine v_get rfl h23 rfl ?_
                      refine v_iload rfl rfl ?_
                      refine r_iaload rfl h24 hl85 (by omega) (by omega) (fun z66 z66m z66g => ?_)
                      obtain ⟨z66a, z66b⟩ := hr85 z66 z66m
                      obtain ⟨z66q, z66o⟩ := hop.at (p := l47.toInt.toNat) (show l47.toInt.toNat < bs_no (ga 3) (gi 7).toInt.toNat from (show l47.toInt.toNat < bs_n gi ga by omega))
                      refine r_iastx rfl h26 xs27l (by omega) (by omega) (fun ys67 ys67l ys67m ys67g ys67n => ?_)
                      have ys67r := r_rng ys67m xs27r (by omega) (by omega)
                      refine r_gen (w' := w20.set 86 (.inl (0, .inl ys67))) (fun w68 e69 => ?_)
                      have hI70 : pm_IM gi ga w68 := by rw [e69]; exact hI21.set 86 (by decide) (by decide) (by decide) (by decide) ⟨ys67, ys67l, ys67r, rfl⟩
                      have hh71 : pm_lo w0 w68 := by rw [e69]; exact hh22.set (by decide) _
                      have h72 := r_get_ne e69 (show 86 ≠ 59 by decide) h23
                      have h73 := r_get_ne e69 (show 86 ≠ 85 by decide) h24
                      have h74 := r_get_ne e69 (show 86 ≠ 87 by decide) h25
                      have h75 := r_get_eq e69 h26
                      refine r_iinc rfl rfl (by decide) (by omega) (by omega) (fun z76 z76e => ?_)
                      refine v_goto rfl ?_
                      exact ih30_28 z43 z45 z65 z76 (.int l46) (.int l47) w68 ys67 hI70 hh71 h72 h73 h74 h75 ys67l ys67r (by omega) (by omega) (by omega) (by omega) (by omega) (by omega) (by omega) (by rw [show c59_42.toInt - z76.toInt = c59_42.toInt - l17.toInt - 1 by omega]; exact z43f) (by rw [show c59_42.toInt - z76.toInt = c59_42.toInt - l17.toInt - 1 by omega]; exact z43f.ltf (by omega)) (by exact hset.le (by omega)) (by
                          refine ⟨t ||| 2 ^ l47.toInt.toNat, pre ++ [l47.toInt.toNat], (pm_fr_or t ht l47.toInt.toNat (by omega)).2, ?_, ?_, ?_, ?_, ?_⟩
                          · have q := (pm_fr_or t ht l47.toInt.toNat (by omega)).1
                            rw [← i_nI (show 0 ≤ l47.toInt by omega), ← hL4, ← z65e] at q
                            exact q
                          · rw [List.length_append, List.length_singleton]; omega
                          · exact bs_fr_set hfree (show l47.toInt.toNat < (bs_n gi ga) by omega) (by rw [hfr]; omega)
                          · rw [hsq, show (bs_n gi ga) - l17.toInt.toNat = ((bs_n gi ga) - l17.toInt.toNat - 1) + 1 by omega, bs_seq_s, hP, ← z45n, List.append_assoc, show (bs_n gi ga) - z76.toInt.toNat = ((bs_n gi ga) - l17.toInt.toNat - 1) by omega]
                            rfl
                          · intro j hj
                            rw [List.length_append, List.length_singleton] at hj
                            by_cases ej : j = pre.length
                            · subst ej
                              have q := ys67g
                              rw [show l17.toInt.toNat = pre.length by omega] at q
                              rw [q, bs_gb, z66g, z66q]
                              rfl
                            · rw [ys67n j (by omega), bs_ga (by omega)]
                              exact hrow j (by omega)) (by omega)
                    · refine v_iload rfl rfl ?_
                      refine v_iload rfl rfl ?_
                      refine v_iload rfl rfl ?_
                      refine v_ishr rfl ?_
                      refine v_iconst (v := 1) rfl (by decide) ?_
                      refine v_iand rfl ?_
                      obtain ⟨z77, z77e⟩ : ∃ z : Int32, z = (l16 >>> (l47 &&& 31)) &&& 1 := ⟨_, rfl⟩
                      rw [← z77e]
                      obtain ⟨z77x, z77y, z77z⟩ := pm_tk.bit (m := c59_42.toInt) t54 z77e (by omega) (by omega) (by omega) (by omega)
                      have z77q := congrArg Int32.toInt (z77e.trans z56e.symm)
                      have z77hb := pm_fr_bit t ht l47.toInt.toNat (by omega)
                      rw [← i_nI (show 0 ≤ l47.toInt by omega), ← hL4, ← z77e] at z77hb
                      refine v_iconst (v := 1) rfl (by decide) ?_
                      refine r_icmp_ne rfl (fun t78 => ?_) (fun t78 => ?_)
                      · refine v_iconst (v := 1) rfl (by decide) ?_
                        refine r_isub rfl (by omega) (by omega) (fun z79 z79e => ?_)
                        refine v_istore rfl (Nat.le_of_ble_eq_true rfl) ?_
                        refine r_iinc rfl rfl (by decide) (by omega) (by omega) (fun z80 z80e => ?_)
                        refine v_goto rfl ?_
                        exact ih61_48 z79 z80 (by omega) (by omega) (by omega) (by omega) (by rw [show z80.toInt = l47.toInt + 1 by omega]; first | exact (z77y).le (by omega) | exact (z77x (by omega)).le (by omega)) (by
                            have q := t55
                            have hbit := congrArg Int32.toInt z56hb
                            rw [show (bs_n gi ga) - l47.toInt.toNat = ((bs_n gi ga) - (l47.toInt.toNat + 1)) + 1 by omega, bs_nf_s] at q
                            rw [show z80.toInt.toNat = l47.toInt.toNat + 1 by omega]
                            cases hb : Nat.testBit t l47.toInt.toNat with
                            | true =>
                              rw [hb, if_pos rfl] at hbit q
                              have hbit : z56.toInt = 1 := hbit
                              rw [show z79.toInt.toNat = l46.toInt.toNat by omega]
                              exact q
                            | false =>
                              rw [hb, if_neg (by decide)] at hbit q
                              have hbit : z56.toInt = 0 := hbit
                              rw [if_neg (show ¬ l46.toInt.toNat = 0 by omega)] at q
                              rw [show z79.toInt.toNat = l46.toInt.toNat - 1 by omega]
                              exact q) (by omega)
                      · refine v_iconst (v := 0) rfl (by decide) ?_
                        refine v_goto rfl ?_
                        refine r_isub rfl (by omega) (by omega) (fun z81 z81e => ?_)
                        refine v_istore rfl (Nat.le_of_ble_eq_true rfl) ?_
                        refine r_iinc rfl rfl (by decide) (by omega) (by omega) (fun z82 z82e => ?_)
                        refine v_goto rfl ?_
                        exact ih61_48 z81 z82 (by omega) (by omega) (by omega) (by omega) (by rw [show z82.toInt = l47.toInt + 1 by omega]; first | exact (z77y).le (by omega) | exact (z77x (by omega)).le (by omega)) (by
                            have q := t55
                            have hbit := congrArg Int32.toInt z56hb
                            rw [show (bs_n gi ga) - l47.toInt.toNat = ((bs_n gi ga) - (l47.toInt.toNat + 1)) + 1 by omega, bs_nf_s] at q
                            rw [show z82.toInt.toNat = l47.toInt.toNat + 1 by omega]
                            cases hb : Nat.testBit t l47.toInt.toNat with
                            | true =>
                              rw [hb, if_pos rfl] at hbit q
                              have hbit : z56.toInt = 1 := hbit
                              rw [show z81.toInt.toNat = l46.toInt.toNat by omega]
                              exact q
                            | false =>
                              rw [hb, if_neg (by decide)] at hbit q
                              have hbit : z56.toInt = 0 := hbit
                              rw [if_neg (show ¬ l46.toInt.toNat = 0 by omega)] at q
                              rw [show z81.toInt.toNat = l46.toInt.toNat - 1 by omega]
                              exact q) (by omega)
              exact L48 _ z44 (0 : Int32) (by omega) (by omega) (by omega) (by omega) (by exact t39.le (by omega)) (by rw [show (0 : Int32).toInt.toNat = 0 from rfl, Nat.sub_zero, z44n]) (Nat.lt_add_one _)
        exact L28 _ l1 k (0 : Int32) (0 : Int32) (.null) (.null) w xs13 hI hh hc59 hc85 hc87 h12 xs13l xs13r (by omega) (by omega) (by omega) (by omega) (by omega) (by omega) (by omega) (by rw [show c59_42.toInt - (0 : Int32).toInt = c59_42.toInt by omega]; exact hfac) (by rw [show c59_42.toInt - (0 : Int32).toInt = c59_42.toInt by omega]; exact p0k) (by exact (pm_tk.zero (by omega) (by omega)).le (by omega)) (by exact ⟨0, [], by decide, rfl, rfl, by rw [show (0 : Int32).toInt.toNat = 0 from rfl, Nat.sub_zero]; exact pm_fr_0n _, by rw [show (0 : Int32).toInt.toNat = 0 from rfl, Nat.sub_zero]; rfl, fun j hj => absurd hj (Nat.not_lt_zero _)⟩) (Nat.lt_add_one _)
      · refine v_iload_n rfl rfl ?_
        refine v_iload_n rfl rfl ?_
        refine r_facmul rfl (t10) (by omega) (by omega) (fun z83 z83f => ?_)
        have z83r := z83f.rng
        refine v_istore_n rfl (Nat.le_of_ble_eq_true rfl) ?_
        refine r_iinc rfl rfl (by decide) (by omega) (by omega) (fun z84 z84e => ?_)
        refine v_goto rfl ?_
        exact ih4_3 z83 z84 (by omega) (by omega) (by omega) (by omega) (by omega) (by rw [show z84.toInt - 1 = l2.toInt by omega]; exact z83f) (by omega)
  exact L3 _ (1 : Int32) (2 : Int32) (by omega) (by omega) (by omega) (by omega) (by omega) (by unfold pm_fac; omega) (Nat.lt_add_one _)

