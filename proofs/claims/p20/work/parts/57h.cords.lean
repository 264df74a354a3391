set_option maxRecDepth 100000 in
theorem W_X3_cordLike_5_x {sc : pm_S} {w : pm_W} {gi : Nat → Int32} {ga : Nat → List Int32} (q : Int64) (c5_0 : Int32) (c7 : List Int64) (c9 : List Int32) (p0 : 0 ≤ c5_0.toInt) (p1 : c5_0.toInt ≤ 20) (hc5 : w[5]? = some (.inr (3, [.int c5_0, .ref 6, .ref 8, .ref 9]))) (hc7 : w[7]? = some (.inl (2, .inr (.inl c7)))) (hl7 : c7.length = 20) (hc9 : w[9]? = some (.inl (0, .inl c9))) (hl9 : c9.length = 20) (hr9 : ∀ x ∈ c9, pm_rng x (0) 19) (hR : pm_Rg gi ga) (hI : pm_IX gi ga w) : pm_Mt sc 0 14 4 [.ref 5, .long q] w (fun rv w' => pm_wI (fun v => 0 ≤ v.toInt ∧ v.toInt ≤ c5_0.toInt ∧ ((∀ c, c < v.toInt.toNat → c7[(sq_lk c9 c).toNat]? ≠ some q) ∧ (v.toInt < c5_0.toInt → c7[(sq_lk c9 v.toInt.toNat).toNat]? = some q))) rv ∧ w = w') := by
  intro d hd
  obtain ⟨g0a, g0b⟩ := hR.n0
  obtain ⟨g1a, g1b⟩ := hR.n1
  obtain ⟨g2a, g2b⟩ := hR.n2
  obtain ⟨g3a, g3b⟩ := hR.n3
  obtain ⟨g4a, g4b⟩ := hR.n4
  obtain ⟨g5a, g5b⟩ := hR.n5
  obtain ⟨g6a, g6b⟩ := hR.n6
  obtain ⟨g7a, g7b⟩ := hR.n7
  obtain ⟨g8a, g8b⟩ := hR.n8
  have k0 : (0 : Int32).toInt = 0 := by decide
  show pm_V sc d 14 0 [.ref 5, .long q, .null, .null] [] w _
  refine v_iconst (v := 0) rfl (by decide) ?_
  refine v_istore_n rfl (Nat.le_of_ble_eq_true rfl) ?_
  have L2 : ∀ (n2 : Nat) (l1 : Int32), 0 ≤ l1.toInt → l1.toInt ≤ 20 → (l1.toInt ≤ c5_0.toInt) → ((∀ c, c < l1.toInt.toNat → c7[(sq_lk c9 c).toNat]? ≠ some q)) → (20 - l1.toInt).toNat < n2 → pm_V sc d 14 2 [.ref 5, .long q, .null, .int l1] [] w (fun rv w' => pm_wI (fun v => 0 ≤ v.toInt ∧ v.toInt ≤ c5_0.toInt ∧ ((∀ c, c < v.toInt.toNat → c7[(sq_lk c9 c).toNat]? ≠ some q) ∧ (v.toInt < c5_0.toInt → c7[(sq_lk c9 v.toInt.toNat).toNat]? = some q))) rv ∧ w = w') := by
    intro n2
    induction n2 with
    | zero => intro l1 t4 t5 t6 t7 hm3; exact absurd hm3 (Nat.not_lt_zero _)
    | succ n2 ih2_2 =>
      intro l1 t4 t5 t6 t7 hm3
      refine v_iload_n rfl rfl ?_
      refine v_aload_n rfl rfl ?_
      refine v_get rfl hc5 rfl ?_
      refine r_icmp_ge rfl (fun t8 => ?_) (fun t8 => ?_)
      · refine v_aload_n rfl rfl ?_
        refine v_get rfl hc5 rfl ?_
        exact v_iret rfl ⟨⟨_, rfl, (by omega), (by omega), (by
            first
            | exact ⟨fun c hc => t7 c (by omega), fun h => absurd h (by omega)⟩
            | (refine ⟨t7, fun _ => ?_⟩
               show c7[(c9.getD l1.toInt.toNat 0).toInt.toNat]? = some q
               rw [← qg, ← i_cl, qz, qc.mp (by omega)]))⟩, rfl⟩
      · refine v_aload_n rfl rfl ?_
        refine v_get rfl hc5 rfl ?_
        obtain ⟨v10, ⟨v10a, v10b⟩, h9⟩ := hI.2 6 (by decide)
        refine v_get rfl h9 rfl ?_
        refine v_aload_n rfl rfl ?_
        refine v_get rfl hc5 rfl ?_
        refine v_iload_n rfl rfl ?_
        refine r_iaload rfl hc9 hl9 (by omega) (by omega) (fun z11 z11m z11g => ?_)
        obtain ⟨z11a, z11b⟩ := hr9 z11 z11m
        skip
        obtain ⟨z12, z12z⟩ : ∃ z, c7[z11.toNatClampNeg]? = some z := ⟨_, List.getElem?_eq_getElem (r_ix hl7 (by omega) (by omega))⟩
        refine v_laload rfl hc7 (r_nn (by omega)) z12z ?_
        skip
        refine v_lload_n rfl rfl ?_
        refine r_lcmp rfl (fun z13 z13c => ?_)
        skip
        refine r_if_ne rfl (fun t14 => ?_) (fun t14 => ?_)
        · refine r_iinc rfl rfl (by decide) (by omega) (by omega) (fun z15 z15e => ?_)
          refine v_goto rfl ?_
          exact ih2_2 z15 (by omega) (by omega) (by omega) (by
              intro c hc
              by_cases e : c < l1.toInt.toNat
              · exact t7 c e
              · have e2 : c = l1.toInt.toNat := by omega
                subst e2
                show c7[(c9.getD l1.toInt.toNat 0).toInt.toNat]? ≠ some q
                rw [← z11g, ← i_cl, z12z]
                intro hx
                exact absurd (z13c.mpr (Option.some.inj hx)) (by omega)) (by omega)
        · refine v_iload_n rfl rfl ?_
          exact v_iret rfl ⟨⟨_, rfl, (by omega), (by omega), (by
              first
              | exact ⟨fun c hc => t7 c (by omega), fun h => absurd h (by omega)⟩
              | (refine ⟨t7, fun _ => ?_⟩
                 show c7[(c9.getD l1.toInt.toNat 0).toInt.toNat]? = some q
                 rw [← z11g, ← i_cl, z12z, z13c.mp (by omega)]))⟩, rfl⟩
  exact L2 _ (0 : Int32) (by omega) (by omega) (by omega) (by intro c hc; rw [show (0 : Int32).toInt.toNat = 0 from rfl] at hc; omega) (Nat.lt_add_one _)
set_option maxRecDepth 100000 in
theorem W_X3_readFrom_5_1_x {sc : pm_S} {w w0 : pm_W} {gi : Nat → Int32} {ga : Nat → List Int32}   (hR : pm_Rg gi ga) (hI : pm_IX gi ga w) (hh : pm_hi w0 w) : pm_Mt sc 2 12 4 [.ref 5, .ref 1] w (fun rv w' => rv = none ∧ pm_IX gi ga w' ∧ pm_hi w0 w' ∧ ∃ (m : Int32) (fs os : List Int32), w'[5]? = some (.inr (3, [.int m, .ref 6, .ref 8, .ref 9])) ∧ w'[9]? = some (.inl (0, .inl fs)) ∧ w'[8]? = some (.inl (0, .inl os)) ∧ fs.length = 20 ∧ os.length = 20 ∧ (∀ x ∈ fs, pm_rng x (0) 19) ∧ (∀ x ∈ os, pm_rng x (0) 19) ∧ 0 ≤ m.toInt ∧ m.toInt ≤ 20 ∧ sq_ck gi ga fs os m.toInt.toNat ∧ ∃ cs : List Int64, w'[6]? = some (.inr (8, [.int (gi 0), .ref 7])) ∧ w'[7]? = some (.inl (2, .inr (.inl cs))) ∧ cs.length = 20 ∧ ∀ j, j < (gi 0).toInt.toNat → cs[j]? = some (Int64.ofNat (sq_E (pm_colf (ga 15) j) (gi 1).toInt.toNat))) := by
  intro d hd
  obtain ⟨g0a, g0b⟩ := hR.n0
  obtain ⟨g1a, g1b⟩ := hR.n1
  obtain ⟨g2a, g2b⟩ := hR.n2
  obtain ⟨g3a, g3b⟩ := hR.n3
  obtain ⟨g4a, g4b⟩ := hR.n4
  obtain ⟨g5a, g5b⟩ := hR.n5
  obtain ⟨g6a, g6b⟩ := hR.n6
  obtain ⟨g7a, g7b⟩ := hR.n7
  obtain ⟨g8a, g8b⟩ := hR.n8
  have k0 : (0 : Int32).toInt = 0 := by decide
  have k1 : (1 : Int32).toInt = 1 := by decide
  show pm_V sc d 12 0 [.ref 5, .ref 1, .null, .null] [] w _
  have hcl : sq_cl (ga 15) := by obtain ⟨l2, r2, -⟩ := hI.2 2 (by decide); exact ⟨l2, r2⟩
  refine v_aload_n rfl rfl ?_
  obtain ⟨v2, ⟨v2a, v2b⟩, h1⟩ := hI.2 5 (by decide)
  refine v_get rfl h1 rfl ?_
  refine v_aload_n rfl rfl ?_
  obtain ⟨v4, ⟨v4a, v4b⟩, h3⟩ := hI.2 6 (by decide)
  refine v_callV rfl (W_X8_readColumns_6_1_x  hR hI hh) rfl rfl h3 rfl rfl (by omega) (fun rv w5 hq6 => ?_)
  obtain ⟨rfl, hI8, hh9, ⟨cs10, h11, h12, cs10l, cs10e⟩⟩ := hq6
  refine v_aload_n rfl rfl ?_
  refine v_iconst (v := 0) rfl (by decide) ?_
  obtain ⟨v14, ⟨v14a, v14b⟩, h13⟩ := hI8.2 5 (by decide)
  refine v_put rfl h13 rfl (Nat.le_of_ble_eq_true rfl) ?_
  refine r_gen (w' := w5.set 5 (.inr (3, [.int (0 : Int32), .ref 6, .ref 8, .ref 9]))) (fun w15 e16 => ?_)
  have hI17 : pm_IX gi ga w15 := by rw [e16]; exact hI8.set 5 (by decide) ⟨(0 : Int32), ⟨by omega, by omega⟩, rfl⟩
  have hh18 : pm_hi w0 w15 := by rw [e16]; exact hh9.set (by decide) _
  have h19 := r_get_ne e16 (show 5 ≠ 6 by decide) h11
  have h20 := r_get_ne e16 (show 5 ≠ 7 by decide) h12
  have h21 := r_get_eq e16 h13
  refine v_iconst (v := 0) rfl (by decide) ?_
  refine v_istore_n rfl (Nat.le_of_ble_eq_true rfl) ?_
  obtain ⟨xs23, xs23l, xs23r, h22⟩ := hI17.2 8 (by decide)
  obtain ⟨xs25, xs25l, xs25r, h24⟩ := hI17.2 9 (by decide)
  have L39 : ∀ (n39 : Nat) (l26 : Int32) (u27 : Value) (w28 : pm_W) (v34 : Int32) (xs36 : List Int32) (xs38 : List Int32), pm_IX gi ga w28 → pm_hi w0 w28 → w28[6]? = some (.inr (8, [.int (gi 0), .ref 7])) → w28[7]? = some (.inl (2, .inr (.inl cs10))) → w28[5]? = some (.inr (3, [.int v34, .ref 6, .ref 8, .ref 9])) → w28[8]? = some (.inl (0, .inl xs36)) → xs36.length = 20 → (∀ x ∈ xs36, pm_rng x (0) 19) → w28[9]? = some (.inl (0, .inl xs38)) → xs38.length = 20 → (∀ x ∈ xs38, pm_rng x (0) 19) → 0 ≤ l26.toInt → l26.toInt ≤ 20 → 0 ≤ v34.toInt → v34.toInt ≤ 20 → (v34.toInt ≤ l26.toInt) → (l26.toInt ≤ (gi 0).toInt) → (ck (sq_al (ga 15) (gi 1).toInt.toNat) (sq_lk xs38) (sq_lk xs36) l26.toInt.toNat v34.toInt.toNat) → (20 - l26.toInt).toNat < n39 → pm_V sc d 12 15 [.ref 5, .ref 1, .int l26, u27] [] w28 (fun rv w' => rv = none ∧ pm_IX gi ga w' ∧ pm_hi w0 w' ∧ ∃ (m : Int32) (fs os : List Int32), w'[5]? = some (.inr (3, [.int m, .ref 6, .ref 8, .ref 9])) ∧ w'[9]? = some (.inl (0, .inl fs)) ∧ w'[8]? = some (.inl (0, .inl os)) ∧ fs.length = 20 ∧ os.length = 20 ∧ (∀ x ∈ fs, pm_rng x (0) 19) ∧ (∀ x ∈ os, pm_rng x (0) 19) ∧ 0 ≤ m.toInt ∧ m.toInt ≤ 20 ∧ sq_ck gi ga fs os m.toInt.toNat ∧ ∃ cs : List Int64, w'[6]? = some (.inr (8, [.int (gi 0), .ref 7])) ∧ w'[7]? = some (.inl (2, .inr (.inl cs))) ∧ cs.length = 20 ∧ ∀ j, j < (gi 0).toInt.toNat → cs[j]? = some (Int64.ofNat (sq_E (pm_colf (ga 15) j) (gi 1).toInt.toNat))) := by
    intro n39
    induction n39 with
    | zero => intro l26 u27 w28 v34 xs36 xs38 hI29 hh30 h31 h32 h33 h35 xs36l xs36r h37 xs38l xs38r t41 t42 t43 t44 t45 t46 t47 hm40; exact absurd hm40 (Nat.not_lt_zero _)
    | succ n39 ih15_39 =>
      intro l26 u27 w28 v34 xs36 xs38 hI29 hh30 h31 h32 h33 h35 xs36l xs36r h37 xs38l xs38r t41 t42 t43 t44 t45 t46 t47 hm40
      refine v_iload_n rfl rfl ?_
      refine v_aload_n rfl rfl ?_
      refine v_get rfl h33 rfl ?_
      refine v_get rfl h31 rfl ?_
      refine r_icmp_ge rfl (fun t48 => ?_) (fun t48 => ?_)
      · exact v_ret rfl ⟨rfl, hI29, hh30, ⟨v34, xs38, xs36, h33, h37, h35, xs38l, xs36l, xs38r, xs36r, by omega, by omega, (by unfold sq_ck; rw [show (gi 0).toInt.toNat = l26.toInt.toNat by omega]; exact t47), cs10, h31, h32, cs10l, cs10e⟩⟩
      · refine v_aload_n rfl rfl ?_
        refine v_aload_n rfl rfl ?_
        refine v_get rfl h33 rfl ?_
        refine v_get rfl h31 rfl ?_
        refine v_iload_n rfl rfl ?_
        obtain ⟨z49, z49z⟩ : ∃ z, cs10[l26.toNatClampNeg]? = some z := ⟨_, List.getElem?_eq_getElem (r_ix cs10l (by omega) (by omega))⟩
        refine v_laload rfl h32 (r_nn (by omega)) z49z ?_
        skip
        refine v_callV rfl (W_X3_cordLike_5_x z49 v34 cs10 xs38 (by omega) (by omega) h33 h32 cs10l h37 xs38l xs38r hR hI29) rfl rfl h33 rfl rfl (by omega) (fun rv w50 hq51 => ?_)
        obtain ⟨⟨z52, rfl, z52p0, z52p1, z52p2⟩, rfl⟩ := hq51
        have z52k := ck_lk.of (ds := ga 15) (H := (gi 1).toInt.toNat) (W := (gi 0).toInt.toNat) (xs := xs38) (x := l26.toInt.toNat) (m := v34.toInt.toNat) (r := z52.toInt.toNat) hcl (by omega) cs10e (by omega) (by rw [← i_cl]; exact z49z) (fun c hc => by have := (ck.bd t47).2.1 c hc; omega) (by omega) z52p2.1 (fun h => z52p2.2 (by omega))
        refine v_istore_n rfl (Nat.le_of_ble_eq_true rfl) ?_
        refine v_iload_n rfl rfl ?_
        refine v_aload_n rfl rfl ?_
        refine v_get rfl h33 rfl ?_
        refine r_icmp_ne rfl (fun t53 => ?_) (fun t53 => ?_)
        · refine v_aload_n rfl rfl ?_
          refine v_get rfl h33 rfl ?_
          refine v_iload_n rfl rfl ?_
          refine v_iload_n rfl rfl ?_
          refine r_iastx rfl h35 xs36l (by omega) (by omega) (fun ys54 ys54l ys54m ys54g ys54n => ?_)
          have ys54r := r_rng ys54m xs36r (by omega) (by omega)
          refine r_gen (w' := w28.set 8 (.inl (0, .inl ys54))) (fun w55 e56 => ?_)
          have hI57 : pm_IX gi ga w55 := by rw [e56]; exact hI29.set 8 (by decide) ⟨ys54, ys54l, ys54r, rfl⟩
          have hh58 : pm_hi w0 w55 := by rw [e56]; exact hh30.set (by decide) _
          have h59 := r_get_ne e56 (show 8 ≠ 6 by decide) h31
          have h60 := r_get_ne e56 (show 8 ≠ 7 by decide) h32
          have h61 := r_get_ne e56 (show 8 ≠ 5 by decide) h33
          have h62 := r_get_ne e56 (show 8 ≠ 9 by decide) h37
          have h63 := r_get_eq e56 h35
          refine r_iinc rfl rfl (by decide) (by omega) (by omega) (fun z64 z64e => ?_)
          refine v_goto rfl ?_
          exact ih15_39 z64 (.int z52) w55 v34 ys54 xs38 hI57 hh58 h59 h60 h61 h63 ys54l ys54r h62 xs38l xs38r (by omega) (by omega) (by omega) (by omega) (by omega) (by omega) (by exact ck.next t47 z52k (show z64.toInt.toNat = l26.toInt.toNat + 1 by omega) (fun c hc => rfl) (fun j hj => ys54n j (by omega)) (by rw [ys54g]; omega) (Or.inr ⟨by omega, rfl⟩)) (by omega)
        · refine v_aload_n rfl rfl ?_
          refine v_get rfl h33 rfl ?_
          refine v_aload_n rfl rfl ?_
          refine v_get rfl h33 rfl ?_
          refine v_iload_n rfl rfl ?_
          refine r_iastx rfl h37 xs38l (by omega) (by omega) (fun ys65 ys65l ys65m ys65g ys65n => ?_)
          have ys65r := r_rng ys65m xs38r (by omega) (by omega)
          refine r_gen (w' := w28.set 9 (.inl (0, .inl ys65))) (fun w66 e67 => ?_)
          have hI68 : pm_IX gi ga w66 := by rw [e67]; exact hI29.set 9 (by decide) ⟨ys65, ys65l, ys65r, rfl⟩
          have hh69 : pm_hi w0 w66 := by rw [e67]; exact hh30.set (by decide) _
          have h70 := r_get_ne e67 (show 9 ≠ 6 by decide) h31
          have h71 := r_get_ne e67 (show 9 ≠ 7 by decide) h32
          have h72 := r_get_ne e67 (show 9 ≠ 5 by decide) h33
          have h73 := r_get_ne e67 (show 9 ≠ 8 by decide) h35
          have h74 := r_get_eq e67 h37
          refine v_aload_n rfl rfl ?_
          refine v_dup rfl rfl ?_
          refine v_get rfl h72 rfl ?_
          refine v_iconst (v := 1) rfl (by decide) ?_
          refine r_iadd rfl (by omega) (by omega) (fun z75 z75e => ?_)
          refine v_put rfl h72 rfl (Nat.le_of_ble_eq_true rfl) ?_
          refine r_gen (w' := w66.set 5 (.inr (3, [.int z75, .ref 6, .ref 8, .ref 9]))) (fun w76 e77 => ?_)
          have hI78 : pm_IX gi ga w76 := by rw [e77]; exact hI68.set 5 (by decide) ⟨z75, ⟨by omega, by omega⟩, rfl⟩
          have hh79 : pm_hi w0 w76 := by rw [e77]; exact hh69.set (by decide) _
          have h80 := r_get_ne e77 (show 5 ≠ 6 by decide) h70
          have h81 := r_get_ne e77 (show 5 ≠ 7 by decide) h71
          have h82 := r_get_ne e77 (show 5 ≠ 8 by decide) h73
          have h83 := r_get_ne e77 (show 5 ≠ 9 by decide) h74
          have h84 := r_get_eq e77 h72
          refine v_aload_n rfl rfl ?_
          refine v_get rfl h84 rfl ?_
          refine v_iload_n rfl rfl ?_
          refine v_iload_n rfl rfl ?_
          refine r_iastx rfl h82 xs36l (by omega) (by omega) (fun ys85 ys85l ys85m ys85g ys85n => ?_)
          have ys85r := r_rng ys85m xs36r (by omega) (by omega)
          refine r_gen (w' := w76.set 8 (.inl (0, .inl ys85))) (fun w86 e87 => ?_)
          have hI88 : pm_IX gi ga w86 := by rw [e87]; exact hI78.set 8 (by decide) ⟨ys85, ys85l, ys85r, rfl⟩
          have hh89 : pm_hi w0 w86 := by rw [e87]; exact hh79.set (by decide) _
          have h90 := r_get_ne e87 (show 8 ≠ 6 by decide) h80
          have h91 := r_get_ne e87 (show 8 ≠ 7 by decide) h81
          have h92 := r_get_ne e87 (show 8 ≠ 9 by decide) h83
          have h93 := r_get_ne e87 (show 8 ≠ 5 by decide) h84
          have h94 := r_get_eq e87 h82
          refine r_iinc rfl rfl (by decide) (by omega) (by omega) (fun z95 z95e => ?_)
          refine v_goto rfl ?_
          exact ih15_39 z95 (.int z52) w86 z75 ys85 ys65 hI88 hh89 h90 h91 h93 h94 ys85l ys85r h92 ys65l ys65r (by omega) (by omega) (by omega) (by omega) (by omega) (by omega) (by exact ck.next t47 z52k (show z95.toInt.toNat = l26.toInt.toNat + 1 by omega) (fun c hc => ys65n c (by omega)) (fun j hj => ys85n j (by omega)) (by rw [ys85g]; omega) (Or.inl ⟨by omega, by rw [ys65g]; omega, by omega⟩)) (by omega)
  exact L39 _ (0 : Int32) (.null) w15 (0 : Int32) xs23 xs25 hI17 hh18 h19 h20 h21 h22 xs23l xs23r h24 xs25l xs25r (by omega) (by omega) (by omega) (by omega) (by omega) (by omega) (by exact ck.zero rfl rfl) (Nat.lt_add_one _)
set_option maxRecDepth 100000 in
theorem W_X11_canBeFault_0_x {sc : pm_S} {w w0 : pm_W} {gi : Nat → Int32} {ga : Nat → List Int32} (k : Int32) (a : Int32) (b : Int32)  (hR : pm_Rg gi ga) (hI : pm_IX gi ga w) (hh : pm_hi w0 w) : pm_Mt sc 3 112 4 [.ref 0, .int k, .int a, .int b] w (fun rv w' => pm_wI (fun v => 0 ≤ v.toInt ∧ v.toInt ≤ 1 ∧ sq_Pcan gi ga k a b v) rv ∧ pm_IX gi ga w' ∧ pm_hi w0 w') := by
  intro d hd
  obtain ⟨g0a, g0b⟩ := hR.n0
  obtain ⟨g1a, g1b⟩ := hR.n1
  obtain ⟨g2a, g2b⟩ := hR.n2
  obtain ⟨g3a, g3b⟩ := hR.n3
  obtain ⟨g4a, g4b⟩ := hR.n4
  obtain ⟨g5a, g5b⟩ := hR.n5
  obtain ⟨g6a, g6b⟩ := hR.n6
  obtain ⟨g7a, g7b⟩ := hR.n7
  obtain ⟨g8a, g8b⟩ := hR.n8
  have k0 : (0 : Int32).toInt = 0 := by decide
  have k1 : (1 : Int32).toInt = 1 := by decide
  have k2 : (2 : Int32).toInt = 2 := by decide
  show pm_V sc d 112 0 [.ref 0, .int k, .int a, .int b] [] w _
  refine v_iload_n rfl rfl ?_
  refine v_iconst (v := 2) rfl (by decide) ?_
  refine r_icmp_ne rfl (fun t1 => ?_) (fun t1 => ?_)
  · refine v_aload_n rfl rfl ?_
    obtain ⟨v3, ⟨v3z, v3e⟩, h2⟩ := hI.2 0 (by decide)
    have v3z := v3z.imp i_eq.mp i_eq.mp
    rw [i_0, i_1] at v3z
    refine v_get rfl h2 rfl ?_
    refine v_aload_n rfl rfl ?_
    refine v_get rfl h2 rfl ?_
    obtain ⟨v5, ⟨v5a, v5b⟩, h4⟩ := hI.2 5 (by decide)
    refine v_callV rfl (W_X3_readFrom_5_1_x  hR hI hh) rfl rfl h4 rfl rfl (by omega) (fun rv w6 hq7 => ?_)
    obtain ⟨rfl, hI9, hh10, ⟨m11, fs12, os13, h14, h15, h16, fs12l, os13l, fs12r, os13r, m11a, m11b, m11k, cs17, h18, h19, cs17l, cs17e⟩⟩ := hq7
    refine v_iload_n rfl rfl ?_
    refine v_iconst (v := 1) rfl (by decide) ?_
    refine r_icmp_ne rfl (fun t20 => ?_) (fun t20 => ?_)
    · refine v_iload_n rfl rfl ?_
      refine v_aload_n rfl rfl ?_
      obtain ⟨v22, ⟨v22z, v22e⟩, h21⟩ := hI9.2 0 (by decide)
      have v22z := v22z.imp i_eq.mp i_eq.mp
      rw [i_0, i_1] at v22z
      refine v_get rfl h21 rfl ?_
      refine v_get rfl h14 rfl ?_
      refine v_callS rfl (W_X11_isPlace a m11 hR hI9) rfl rfl rfl rfl rfl (by omega) (fun rv w23 hq24 => ?_)
      obtain ⟨⟨z25, rfl, z25p0⟩, rfl⟩ := hq24
      refine r_if_eq rfl (fun t26 => ?_) (fun t26 => ?_)
      · refine v_iconst (v := 0) rfl (by decide) ?_
        exact r_zret rfl (by omega) ⟨⟨_, rfl, (by omega), (by omega), (by
            first
            | exact Or.inl ⟨by omega, by omega⟩
            | exact Or.inr ⟨by omega, fs12, os13, _, m11k, by unfold sq_good; omega⟩)⟩, hI9, hh10⟩
      · refine v_iload_n rfl rfl ?_
        refine v_aload_n rfl rfl ?_
        refine v_get rfl h21 rfl ?_
        refine v_get rfl h14 rfl ?_
        refine v_callS rfl (W_X11_isPlace b m11 hR hI9) rfl rfl rfl rfl rfl (by omega) (fun rv w27 hq28 => ?_)
        obtain ⟨⟨z29, rfl, z29p0⟩, rfl⟩ := hq28
        refine r_if_eq rfl (fun t30 => ?_) (fun t30 => ?_)
        · refine v_iconst (v := 0) rfl (by decide) ?_
          exact r_zret rfl (by omega) ⟨⟨_, rfl, (by omega), (by omega), (by
              first
              | exact Or.inl ⟨by omega, by omega⟩
              | exact Or.inr ⟨by omega, fs12, os13, _, m11k, by unfold sq_good; omega⟩)⟩, hI9, hh10⟩
        · refine v_iload_n rfl rfl ?_
          refine v_iload_n rfl rfl ?_
          refine r_icmp_eq rfl (fun t31 => ?_) (fun t31 => ?_)
          · refine v_iconst (v := 0) rfl (by decide) ?_
            exact r_zret rfl (by omega) ⟨⟨_, rfl, (by omega), (by omega), (by
                first
                | exact Or.inl ⟨by omega, by omega⟩
                | exact Or.inr ⟨by omega, fs12, os13, _, m11k, by unfold sq_good; omega⟩)⟩, hI9, hh10⟩
          · refine v_iconst (v := 1) rfl (by decide) ?_
            refine v_goto rfl ?_
            exact r_zret rfl (by omega) ⟨⟨_, rfl, (by omega), (by omega), (by
                first
                | exact Or.inl ⟨by omega, by omega⟩
                | exact Or.inr ⟨by omega, fs12, os13, _, m11k, by unfold sq_good; omega⟩)⟩, hI9, hh10⟩
    · refine v_iload_n rfl rfl ?_
      refine v_aload_n rfl rfl ?_
      obtain ⟨v33, ⟨v33z, v33e⟩, h32⟩ := hI9.2 0 (by decide)
      have v33z := v33z.imp i_eq.mp i_eq.mp
      rw [i_0, i_1] at v33z
      refine v_get rfl h32 rfl ?_
      refine v_get rfl h14 rfl ?_
      refine v_callS rfl (W_X11_isPlace a m11 hR hI9) rfl rfl rfl rfl rfl (by omega) (fun rv w34 hq35 => ?_)
      obtain ⟨⟨z36, rfl, z36p0⟩, rfl⟩ := hq35
      exact r_zret rfl (by omega) ⟨⟨_, rfl, (by omega), (by omega), (by
          first
          | exact Or.inl ⟨by omega, by omega⟩
          | exact Or.inr ⟨by omega, fs12, os13, _, m11k, by unfold sq_good; omega⟩)⟩, hI9, hh10⟩
  · refine v_iload_n rfl rfl ?_
    refine v_aload_n rfl rfl ?_
    obtain ⟨v38, ⟨v38z, v38e⟩, h37⟩ := hI.2 0 (by decide)
    have v38z := v38z.imp i_eq.mp i_eq.mp
    rw [i_0, i_1] at v38z
    refine v_get rfl h37 rfl ?_
    have h39 : _ = some _ := hI.2 1 (by decide)
    refine v_get rfl h39 rfl ?_
    refine v_callS rfl (W_X11_isPlace a (gi 1) hR hI) rfl rfl rfl rfl rfl (by omega) (fun rv w40 hq41 => ?_)
    obtain ⟨⟨z42, rfl, z42p0⟩, rfl⟩ := hq41
    exact r_zret rfl (by omega) ⟨⟨_, rfl, (by omega), (by omega), (by
        first
        | exact Or.inl ⟨by omega, by omega⟩
        | exact Or.inr ⟨by omega, fs12, os13, _, m11k, by unfold sq_good; omega⟩)⟩, hI, hh⟩

