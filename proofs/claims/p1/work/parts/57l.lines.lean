set_option maxRecDepth 100000 in
theorem W_X12_span_59_x {sc : pm_S} {w w0 : pm_W} {gi : Nat → Int32} {ga : Nat → List Int32} (k : Int32)  (hR : pm_Rg gi ga) (hI : pm_IM gi ga w) (hh : pm_lo w0 w) : pm_Mt sc 2 126 4 [.ref 59, .int k] w (fun rv w' => pm_wI (fun v => sq_Pspan gi ga k v) rv ∧ pm_IM gi ga w' ∧ pm_lo w0 w') := by
  intro d hd
  obtain ⟨g0a, g0b⟩ := hR.n0
  obtain ⟨g1a, g1b⟩ := hR.n1
  obtain ⟨g2a, g2b⟩ := hR.n2
  obtain ⟨g3a, g3b⟩ := hR.n3
  obtain ⟨g4a, g4b⟩ := hR.n4
  obtain ⟨g5a, g5b⟩ := hR.n5
  obtain ⟨g6a, g6b⟩ := hR.n6
  obtain ⟨g7a, g7b⟩ := hR.n7
  obtain ⟨g8a, g8b⟩ := hR.n8
  have km2 : (-2 : Int32).toInt = -2 := by decide
  have k0 : (0 : Int32).toInt = 0 := by decide
  have k1 : (1 : Int32).toInt = 1 := by decide
  show pm_V sc d 126 0 [.ref 59, .int k, .null, .null] [] w _
  refine v_iload_n rfl rfl ?_
  refine v_iconst (v := 0) rfl (by decide) ?_
  refine v_iconst (v := 1) rfl (by decide) ?_
  refine v_callS rfl (W_X12_in k (0 : Int32) (1 : Int32) hR hI) rfl rfl rfl rfl rfl (by omega) (fun rv w1 hq2 => ?_)
  obtain ⟨⟨z3, rfl, z3p0⟩, rfl⟩ := hq2
  refine r_if_ne rfl (fun t4 => ?_) (fun t4 => ?_)
  · refine v_iload_n rfl rfl ?_
    refine r_if_ne rfl (fun t5 => ?_) (fun t5 => ?_)
    · refine v_aload_n rfl rfl ?_
      obtain ⟨v7, v8, v9, v10, v11, v12, v13, v14, ⟨v7z, v7e⟩, ⟨⟨v8a, v8b⟩, v8e⟩, ⟨⟨v9a, v9b⟩, v9e⟩, ⟨v11a, v11b⟩, ⟨v14a, v14b⟩, h6⟩ := hI.2.1 59 (by decide) (by decide)
      have v7z := v7z.imp i_eq.mp i_eq.mp
      rw [i_0, i_1] at v7z
      refine v_get rfl h6 rfl ?_
      refine v_istore_n rfl (Nat.le_of_ble_eq_true rfl) ?_
      refine v_iconst (v := 1) rfl (by decide) ?_
      refine v_istore_n rfl (Nat.le_of_ble_eq_true rfl) ?_
      have L16 : ∀ (n16 : Nat) (l15 : Int32), 1 ≤ l15.toInt → l15.toInt ≤ 21 → (l15.toInt ≤ (gi 1).toInt) → (∀ n, 1 ≤ n → n < l15.toInt.toNat → ¬ ((gi 1).toInt.toNat % n = 0 ∧ (sq_R1 (ga 15) (gi 0).toInt.toNat (gi 1).toInt.toNat) n)) → (21 - l15.toInt).toNat < n16 → pm_V sc d 126 34 [.ref 59, .int k, .int (gi 1), .int l15] [] w (fun rv w' => pm_wI (fun v => sq_Pspan gi ga k v) rv ∧ pm_IM gi ga w' ∧ pm_lo w0 w') := by
        intro n16
        induction n16 with
        | zero => intro l15 t18 t19 t20 t21 hm17; exact absurd hm17 (Nat.not_lt_zero _)
        | succ n16 ih34_16 =>
          intro l15 t18 t19 t20 t21 hm17
          refine v_iload_n rfl rfl ?_
          refine v_iload_n rfl rfl ?_
          refine r_irem rfl (by omega) (by omega) (fun z22 z22m z22a z22b z22c => ?_)
          have z22k : z22.toInt.toNat = (gi 1).toInt.toNat % l15.toInt.toNat := j_em z22m (by omega) (by omega)
          have z22q : l15.toInt = (gi 1).toInt → z22.toInt = 0 := fun h => by rw [z22m, h]; exact Int.emod_self
          refine r_if_ne rfl (fun t23 => ?_) (fun t23 => ?_)
          · refine r_iinc rfl rfl (by decide) (by omega) (by omega) (fun z24 z24e => ?_)
            refine v_goto rfl ?_
            exact ih34_16 z24 (by omega) (by omega) (by
                first
                | omega
                | (have hne : ¬ l15.toInt = (gi 1).toInt := fun e => by
                     have q : q.toInt = 1 := qi.mp (by rw [show l15.toInt.toNat = (gi 1).toInt.toNat by rw [e]]; exact sq_R1_all)
                     omega
                   omega)) (by
                intro n h1 h2 h3
                by_cases e : n < l15.toInt.toNat
                · exact t21 n h1 e h3
                · have e2 : n = l15.toInt.toNat := by omega
                  subst e2
                  first
                  | exact absurd h3.1 (by rw [← z22k]; omega)
                  | exact absurd (qi.mp h3.2) (by omega)) (by omega)
          · refine v_aload_n rfl rfl ?_
            refine v_iload_n rfl rfl ?_
            refine r_if_ne rfl (fun _ => ?_) (fun hx => absurd hx (by omega))
            refine v_iconst (v := 0) rfl (by decide) ?_
            refine v_iload_n rfl rfl ?_
            refine r_if_ne rfl (fun _ => ?_) (fun hx => absurd hx (by omega))
            refine v_iload_n rfl rfl ?_
            obtain ⟨sq26l, sq26r, h25⟩ := hI.2.1 60 (by decide) (by decide)
            refine v_callV rfl (W_X12_isSame_59_e (0 : Int32) l15 (ga 15) (by omega) (by omega) (by omega) (by omega) h25 sq26l hR hI) rfl rfl h6 rfl rfl (by omega) (fun rv w27 hq28 => ?_)
            obtain ⟨⟨z29, rfl, z29p0, z29p1, z29p2⟩, rfl⟩ := hq28
            have z29i : (sq_R1 (ga 15) (gi 0).toInt.toNat (gi 1).toInt.toNat) l15.toInt.toNat ↔ z29.toInt = 1 := by
              rw [← sq_same1 (show (0 : Int32).toInt.toNat = 0 from rfl)]
              rcases z29p2 with ⟨g1, g2⟩ | ⟨g1, g2⟩
              · exact ⟨fun _ => g1, fun _ => g2⟩
              · exact ⟨fun h => absurd h g2, fun h => by omega⟩
            refine r_if_ne rfl (fun t30 => ?_) (fun t30 => ?_)
            · refine v_iload_n rfl rfl ?_
              exact v_iret rfl ⟨⟨_, rfl, (by exact Or.inr (Or.inr ⟨by omega, by omega, by omega, by omega, by rw [← z22k]; omega, z29i.mpr (by omega), t21⟩))⟩, hI, hh⟩
            · refine r_iinc rfl rfl (by decide) (by omega) (by omega) (fun z31 z31e => ?_)
              refine v_goto rfl ?_
              exact ih34_16 z31 (by omega) (by omega) (by
                  first
                  | omega
                  | (have hne : ¬ l15.toInt = (gi 1).toInt := fun e => by
                       have q : z29.toInt = 1 := z29i.mp (by rw [show l15.toInt.toNat = (gi 1).toInt.toNat by rw [e]]; exact sq_R1_all)
                       omega
                     omega)) (by
                  intro n h1 h2 h3
                  by_cases e : n < l15.toInt.toNat
                  · exact t21 n h1 e h3
                  · have e2 : n = l15.toInt.toNat := by omega
                    subst e2
                    first
                    | exact absurd h3.1 (by rw [← z22k]; omega)
                    | exact absurd (z29i.mp h3.2) (by omega)) (by omega)
      exact L16 _ (1 : Int32) (by omega) (by omega) (by omega) (by intro n h1 h2; rw [show (1 : Int32).toInt.toNat = 1 from rfl] at h2; omega) (Nat.lt_add_one _)
    · refine v_aload_n rfl rfl ?_
      obtain ⟨v33, v34, v35, v36, v37, v38, v39, v40, ⟨v33z, v33e⟩, ⟨⟨v34a, v34b⟩, v34e⟩, ⟨⟨v35a, v35b⟩, v35e⟩, ⟨v37a, v37b⟩, ⟨v40a, v40b⟩, h32⟩ := hI.2.1 59 (by decide) (by decide)
      have v33z := v33z.imp i_eq.mp i_eq.mp
      rw [i_0, i_1] at v33z
      refine v_get rfl h32 rfl ?_
      refine v_goto rfl ?_
      refine v_istore_n rfl (Nat.le_of_ble_eq_true rfl) ?_
      refine v_iconst (v := 1) rfl (by decide) ?_
      refine v_istore_n rfl (Nat.le_of_ble_eq_true rfl) ?_
      have L42 : ∀ (n42 : Nat) (l41 : Int32), 1 ≤ l41.toInt → l41.toInt ≤ 21 → (l41.toInt ≤ (gi 0).toInt) → (∀ n, 1 ≤ n → n < l41.toInt.toNat → ¬ ((gi 0).toInt.toNat % n = 0 ∧ (sq_R0 (ga 15) (gi 0).toInt.toNat (gi 1).toInt.toNat) n)) → (21 - l41.toInt).toNat < n42 → pm_V sc d 126 34 [.ref 59, .int k, .int (gi 0), .int l41] [] w (fun rv w' => pm_wI (fun v => sq_Pspan gi ga k v) rv ∧ pm_IM gi ga w' ∧ pm_lo w0 w') := by
        intro n42
        induction n42 with
        | zero => intro l41 t44 t45 t46 t47 hm43; exact absurd hm43 (Nat.not_lt_zero _)
        | succ n42 ih34_42 =>
          intro l41 t44 t45 t46 t47 hm43
          refine v_iload_n rfl rfl ?_
          refine v_iload_n rfl rfl ?_
          refine r_irem rfl (by omega) (by omega) (fun z48 z48m z48a z48b z48c => ?_)
          have z48k : z48.toInt.toNat = (gi 0).toInt.toNat % l41.toInt.toNat := j_em z48m (by omega) (by omega)
          have z48q : l41.toInt = (gi 0).toInt → z48.toInt = 0 := fun h => by rw [z48m, h]; exact Int.emod_self
          refine r_if_ne rfl (fun t49 => ?_) (fun t49 => ?_)
          · refine r_iinc rfl rfl (by decide) (by omega) (by omega) (fun z50 z50e => ?_)
            refine v_goto rfl ?_
            exact ih34_42 z50 (by omega) (by omega) (by
                first
                | omega
                | (have hne : ¬ l41.toInt = (gi 0).toInt := fun e => by
                     have q : z29.toInt = 1 := z29i.mp (by rw [show l41.toInt.toNat = (gi 0).toInt.toNat by rw [e]]; exact sq_R0_all)
                     omega
                   omega)) (by
                intro n h1 h2 h3
                by_cases e : n < l41.toInt.toNat
                · exact t47 n h1 e h3
                · have e2 : n = l41.toInt.toNat := by omega
                  subst e2
                  first
                  | exact absurd h3.1 (by rw [← z48k]; omega)
                  | exact absurd (z29i.mp h3.2) (by omega)) (by omega)
          · refine v_aload_n rfl rfl ?_
            refine v_iload_n rfl rfl ?_
            refine r_if_ne rfl (fun hx => absurd hx (by omega)) (fun _ => ?_)
            refine v_iload_n rfl rfl ?_
            refine v_goto rfl ?_
            refine v_iload_n rfl rfl ?_
            refine r_if_ne rfl (fun hx => absurd hx (by omega)) (fun _ => ?_)
            refine v_iconst (v := 0) rfl (by decide) ?_
            refine v_goto rfl ?_
            obtain ⟨sq52l, sq52r, h51⟩ := hI.2.1 60 (by decide) (by decide)
            refine v_callV rfl (W_X12_isSame_59_e l41 (0 : Int32) (ga 15) (by omega) (by omega) (by omega) (by omega) h51 sq52l hR hI) rfl rfl h32 rfl rfl (by omega) (fun rv w53 hq54 => ?_)
            obtain ⟨⟨z55, rfl, z55p0, z55p1, z55p2⟩, rfl⟩ := hq54
            have z55i : (sq_R0 (ga 15) (gi 0).toInt.toNat (gi 1).toInt.toNat) l41.toInt.toNat ↔ z55.toInt = 1 := by
              rw [← sq_same0 (show (0 : Int32).toInt.toNat = 0 from rfl)]
              rcases z55p2 with ⟨g1, g2⟩ | ⟨g1, g2⟩
              · exact ⟨fun _ => g1, fun _ => g2⟩
              · exact ⟨fun h => absurd h g2, fun h => by omega⟩
            refine r_if_ne rfl (fun t56 => ?_) (fun t56 => ?_)
            · refine v_iload_n rfl rfl ?_
              exact v_iret rfl ⟨⟨_, rfl, (by exact Or.inr (Or.inl ⟨by omega, by omega, by omega, by omega, by rw [← z48k]; omega, z55i.mpr (by omega), t47⟩))⟩, hI, hh⟩
            · refine r_iinc rfl rfl (by decide) (by omega) (by omega) (fun z57 z57e => ?_)
              refine v_goto rfl ?_
              exact ih34_42 z57 (by omega) (by omega) (by
                  first
                  | omega
                  | (have hne : ¬ l41.toInt = (gi 0).toInt := fun e => by
                       have q : z55.toInt = 1 := z55i.mp (by rw [show l41.toInt.toNat = (gi 0).toInt.toNat by rw [e]]; exact sq_R0_all)
                       omega
                     omega)) (by
                  intro n h1 h2 h3
                  by_cases e : n < l41.toInt.toNat
                  · exact t47 n h1 e h3
                  · have e2 : n = l41.toInt.toNat := by omega
                    subst e2
                    first
                    | exact absurd h3.1 (by rw [← z48k]; omega)
                    | exact absurd (z55i.mp h3.2) (by omega)) (by omega)
      exact L42 _ (1 : Int32) (by omega) (by omega) (by omega) (by intro n h1 h2; rw [show (1 : Int32).toInt.toNat = 1 from rfl] at h2; omega) (Nat.lt_add_one _)
  · refine v_aload_n rfl rfl ?_
    refine v_bipush (v := (-2)) rfl (by decide) ?_
    obtain ⟨v59, v60, v61, v62, v63, v64, v65, v66, ⟨v59z, v59e⟩, ⟨⟨v60a, v60b⟩, v60e⟩, ⟨⟨v61a, v61b⟩, v61e⟩, ⟨v63a, v63b⟩, ⟨v66a, v66b⟩, h58⟩ := hI.2.1 59 (by decide) (by decide)
    have v59z := v59z.imp i_eq.mp i_eq.mp
    rw [i_0, i_1] at v59z
    refine v_callV rfl (c_M_refuse (-2 : Int32) (by unfold pm_isR; first | decide | exact Or.inl rfl) hR hI) rfl rfl h58 rfl rfl (by omega) (fun rv w67 hq68 => ?_)
    obtain ⟨rfl, hI69, hh70x⟩ := hq68
    have hI69 : pm_IM gi ga w67 := hI69
    have hh70 := hh.tr hh70x
    exact v_iret rfl ⟨⟨_, rfl, (by exact Or.inl ⟨by omega, by omega⟩)⟩, hI69, hh70⟩
set_option maxRecDepth 100000 in
theorem W_X12_isMirror_59_x {sc : pm_S} {w : pm_W} {gi : Nat → Int32} {ga : Nat → List Int32} (m : Int32) (q : Int32) (c60 : List Int32) (p0 : q.toInt ≤ 1) (p1 : 0 ≤ q.toInt) (p2 : m.toInt ≤ 19) (p3 : 0 ≤ m.toInt) (hc60 : w[60]? = some (.inl (0, .inl c60))) (hl60 : c60.length = 400) (hR : pm_Rg gi ga) (hI : pm_IM gi ga w) : pm_Mt sc 1 127 10 [.ref 59, .int m, .int q] w (fun rv w' => pm_wI (fun v => 0 ≤ v.toInt ∧ v.toInt ≤ 1 ∧ ((q.toInt = 0 ∧ ((v.toInt = 1 ∧ sq_M0 c60 (gi 0).toInt.toNat (gi 1).toInt.toNat m.toInt.toNat) ∨ (v.toInt = 0 ∧ ¬ sq_M0 c60 (gi 0).toInt.toNat (gi 1).toInt.toNat m.toInt.toNat))) ∨ (q.toInt = 1 ∧ ((v.toInt = 1 ∧ sq_M1 c60 (gi 0).toInt.toNat (gi 1).toInt.toNat m.toInt.toNat) ∨ (v.toInt = 0 ∧ ¬ sq_M1 c60 (gi 0).toInt.toNat (gi 1).toInt.toNat m.toInt.toNat))))) rv ∧ w = w') := by
  intro d hd
  obtain ⟨g0a, g0b⟩ := hR.n0
  obtain ⟨g1a, g1b⟩ := hR.n1
  obtain ⟨g2a, g2b⟩ := hR.n2
  obtain ⟨g3a, g3b⟩ := hR.n3
  obtain ⟨g4a, g4b⟩ := hR.n4
  obtain ⟨g5a, g5b⟩ := hR.n5
  obtain ⟨g6a, g6b⟩ := hR.n6
  obtain ⟨g7a, g7b⟩ := hR.n7
  obtain ⟨g8a, g8b⟩ := hR.n8
  have k0 : (0 : Int32).toInt = 0 := by decide
  have k1 : (1 : Int32).toInt = 1 := by decide
  show pm_V sc d 127 0 [.ref 59, .int m, .int q, .null, .null, .null, .null, .null, .null, .null] [] w _
  refine v_iload_n rfl rfl ?_
  refine r_if_eq rfl (fun t1 => ?_) (fun t1 => ?_)
  · refine v_aload_n rfl rfl ?_
    obtain ⟨v3, v4, v5, v6, v7, v8, v9, v10, ⟨v3z, v3e⟩, ⟨⟨v4a, v4b⟩, v4e⟩, ⟨⟨v5a, v5b⟩, v5e⟩, ⟨v7a, v7b⟩, ⟨v10a, v10b⟩, h2⟩ := hI.2.1 59 (by decide) (by decide)
    have v3z := v3z.imp i_eq.mp i_eq.mp
    rw [i_0, i_1] at v3z
    refine v_get rfl h2 rfl ?_
    refine v_istore_n rfl (Nat.le_of_ble_eq_true rfl) ?_
    refine v_iload_n rfl rfl ?_
    refine r_if_eq rfl (fun _ => ?_) (fun hx => absurd hx (by omega))
    refine v_aload_n rfl rfl ?_
    refine v_get rfl h2 rfl ?_
    refine v_istore rfl (Nat.le_of_ble_eq_true rfl) ?_
    refine v_iconst (v := 1) rfl (by decide) ?_
    refine v_istore rfl (Nat.le_of_ble_eq_true rfl) ?_
    refine v_iconst (v := 0) rfl (by decide) ?_
    refine v_istore rfl (Nat.le_of_ble_eq_true rfl) ?_
    have L16 : ∀ (n16 : Nat) (l11 : Int32) (l12 : Int32) (u13 : Value) (u14 : Value) (u15 : Value), 0 ≤ l11.toInt → l11.toInt ≤ 1 → 0 ≤ l12.toInt → l12.toInt ≤ 20 → ((l11.toInt = 1 ∧ ∀ k, k < l12.toInt.toNat → ∀ i, i < (gi 1).toInt.toNat → sq_c c60 ((m.toInt.toNat + (gi 0).toInt.toNat - k) % (gi 0).toInt.toNat) i = sq_c c60 ((m.toInt.toNat + k) % (gi 0).toInt.toNat) i) ∨ (l11.toInt = 0 ∧ ¬ (sq_M0 c60 (gi 0).toInt.toNat (gi 1).toInt.toNat m.toInt.toNat))) → (20 - l12.toInt).toNat < n16 → pm_V sc d 127 39 [.ref 59, .int m, .int q, .int (gi 0), .int (gi 1), .int l11, .int l12, u13, u14, u15] [] w (fun rv w' => pm_wI (fun v => 0 ≤ v.toInt ∧ v.toInt ≤ 1 ∧ ((q.toInt = 0 ∧ ((v.toInt = 1 ∧ sq_M0 c60 (gi 0).toInt.toNat (gi 1).toInt.toNat m.toInt.toNat) ∨ (v.toInt = 0 ∧ ¬ sq_M0 c60 (gi 0).toInt.toNat (gi 1).toInt.toNat m.toInt.toNat))) ∨ (q.toInt = 1 ∧ ((v.toInt = 1 ∧ sq_M1 c60 (gi 0).toInt.toNat (gi 1).toInt.toNat m.toInt.toNat) ∨ (v.toInt = 0 ∧ ¬ sq_M1 c60 (gi 0).toInt.toNat (gi 1).toInt.toNat m.toInt.toNat))))) rv ∧ w = w') := by
      intro n16
      induction n16 with
      | zero => intro l11 l12 u13 u14 u15 t18 t19 t20 t21 t22 hm17; exact absurd hm17 (Nat.not_lt_zero _)
      | succ n16 ih39_16 =>
        intro l11 l12 u13 u14 u15 t18 t19 t20 t21 t22 hm17
        refine v_iload rfl rfl ?_
        refine v_iload_n rfl rfl ?_
        refine r_icmp_ge rfl (fun t23 => ?_) (fun t23 => ?_)
        · refine v_iload rfl rfl ?_
          exact r_zret rfl (by omega) ⟨⟨_, rfl, (by omega), (by omega), (by
              first
              | (left; refine ⟨by omega, ?_⟩; rcases t22 with g | g; (exact Or.inl ⟨g.1, fun k hk i hi => g.2 k (by omega) i hi⟩); exact Or.inr g)
              | (right; refine ⟨by omega, ?_⟩; rcases t22 with g | g; (exact Or.inl ⟨g.1, fun k hk i hi => g.2 k (by omega) i hi⟩); exact Or.inr g))⟩, rfl⟩
        · refine v_iload_n rfl rfl ?_
          refine v_iload rfl rfl ?_
          refine r_isub rfl (by omega) (by omega) (fun z24 z24e => ?_)
          refine v_iload_n rfl rfl ?_
          refine r_iadd rfl (by omega) (by omega) (fun z25 z25e => ?_)
          skip
          refine v_iload_n rfl rfl ?_
          refine r_irem rfl (by omega) (by omega) (fun z26 z26m z26a z26b z26c => ?_)
          have z26k := j_em z26m (by omega) (by omega)
          rw [show z25.toInt.toNat = m.toInt.toNat + (gi 0).toInt.toNat - l12.toInt.toNat by omega] at z26k
          refine v_istore rfl (Nat.le_of_ble_eq_true rfl) ?_
          refine v_iload_n rfl rfl ?_
          refine v_iload rfl rfl ?_
          refine r_iadd rfl (by omega) (by omega) (fun z27 z27e => ?_)
          skip
          refine v_iload_n rfl rfl ?_
          refine r_irem rfl (by omega) (by omega) (fun z28 z28m z28a z28b z28c => ?_)
          have z28k := j_em z28m (by omega) (by omega)
          rw [show z27.toInt.toNat = m.toInt.toNat + l12.toInt.toNat by omega] at z28k
          refine v_istore rfl (Nat.le_of_ble_eq_true rfl) ?_
          refine v_iconst (v := 0) rfl (by decide) ?_
          refine v_istore rfl (Nat.le_of_ble_eq_true rfl) ?_
          have L31 : ∀ (n31 : Nat) (l29 : Int32) (l30 : Int32), 0 ≤ l29.toInt → l29.toInt ≤ 1 → 0 ≤ l30.toInt → l30.toInt ≤ 20 → ((l29.toInt = 1 ∧ (∀ k, k < l12.toInt.toNat → ∀ i, i < (gi 1).toInt.toNat → sq_c c60 ((m.toInt.toNat + (gi 0).toInt.toNat - k) % (gi 0).toInt.toNat) i = sq_c c60 ((m.toInt.toNat + k) % (gi 0).toInt.toNat) i) ∧ ∀ i, i < l30.toInt.toNat → sq_c c60 ((m.toInt.toNat + (gi 0).toInt.toNat - l12.toInt.toNat) % (gi 0).toInt.toNat) i = sq_c c60 ((m.toInt.toNat + l12.toInt.toNat) % (gi 0).toInt.toNat) i) ∨ (l29.toInt = 0 ∧ ¬ (sq_M0 c60 (gi 0).toInt.toNat (gi 1).toInt.toNat m.toInt.toNat))) → (20 - l30.toInt).toNat < n31 → pm_V sc d 127 66 [.ref 59, .int m, .int q, .int (gi 0), .int (gi 1), .int l29, .int l12, .int z26, .int z28, .int l30] [] w (fun rv w' => pm_wI (fun v => 0 ≤ v.toInt ∧ v.toInt ≤ 1 ∧ ((q.toInt = 0 ∧ ((v.toInt = 1 ∧ sq_M0 c60 (gi 0).toInt.toNat (gi 1).toInt.toNat m.toInt.toNat) ∨ (v.toInt = 0 ∧ ¬ sq_M0 c60 (gi 0).toInt.toNat (gi 1).toInt.toNat m.toInt.toNat))) ∨ (q.toInt = 1 ∧ ((v.toInt = 1 ∧ sq_M1 c60 (gi 0).toInt.toNat (gi 1).toInt.toNat m.toInt.toNat) ∨ (v.toInt = 0 ∧ ¬ sq_M1 c60 (gi 0).toInt.toNat (gi 1).toInt.toNat m.toInt.toNat))))) rv ∧ w = w') := by
            intro n31
            induction n31 with
            | zero => intro l29 l30 t33 t34 t35 t36 t37 hm32; exact absurd hm32 (Nat.not_lt_zero _)
            | succ n31 ih66_31 =>
              intro l29 l30 t33 t34 t35 t36 t37 hm32
              refine v_iload rfl rfl ?_
              refine v_iload rfl rfl ?_
              refine r_icmp_ge rfl (fun t38 => ?_) (fun t38 => ?_)
              · refine r_iinc rfl rfl (by decide) (by omega) (by omega) (fun z39 z39e => ?_)
                refine v_goto rfl ?_
                exact ih39_16 l29 z39 (.int z26) (.int z28) (.int l30) (by omega) (by omega) (by omega) (by omega) (by
                    rcases t37 with g | g
                    · exact Or.inl ⟨g.1, fun k hk i hi => by
                        by_cases e : k < l12.toInt.toNat
                        · exact g.2.1 k e i hi
                        · have e2 : k = l12.toInt.toNat := by omega
                          subst e2
                          exact g.2.2 i (by omega)⟩
                    · exact Or.inr g) (by omega)
              · refine v_iload rfl rfl ?_
                refine r_if_eq rfl (fun t40 => ?_) (fun t40 => ?_)
                · refine v_iconst (v := 0) rfl (by decide) ?_
                  refine v_istore rfl (Nat.le_of_ble_eq_true rfl) ?_
                  refine r_iinc rfl rfl (by decide) (by omega) (by omega) (fun z41 z41e => ?_)
                  refine v_goto rfl ?_
                  exact ih66_31 (0 : Int32) z41 (by omega) (by omega) (by omega) (by omega) (by
                      rcases t37 with g | g
                      · first
                        | exact absurd g.1 (by omega)
                        | exact Or.inl ⟨by omega, g.2.1, fun i hi => by
                            by_cases e : i < l30.toInt.toNat
                            · exact g.2.2 i e
                            · have e2 : i = l30.toInt.toNat := by omega
                              subst e2
                              rw [← qA, ← qA]
                              exact i_eq.mpr (by omega)⟩
                        | exact Or.inr ⟨by omega, fun hS => by
                            have q := hS l12.toInt.toNat (by omega) l30.toInt.toNat (by omega)
                            rw [← qA, ← qA] at q
                            have q2 := congrArg Int32.toInt q
                            omega⟩
                      · exact Or.inr ⟨by omega, g.2⟩) (by omega)
                · refine v_iload_n rfl rfl ?_
                  refine r_if_eq rfl (fun _ => ?_) (fun hx => absurd hx (by omega))
                  refine v_aload_n rfl rfl ?_
                  refine v_iload rfl rfl ?_
                  refine v_iload rfl rfl ?_
                  refine v_callV rfl (W_X12_colour_59_x z26 l30 c60 (by omega) (by omega) (by omega) (by omega) hc60 hl60 hR hI) rfl rfl h2 rfl rfl (by omega) (fun rv w42 hq43 => ?_)
                  obtain ⟨⟨z44, rfl, z44p0⟩, rfl⟩ := hq43
                  have z44A : z44 = sq_c c60 z26.toInt.toNat l30.toInt.toNat := i_eq.mpr (by rw [z44p0]; unfold sq_c; rw [show (20 * l30.toInt + z26.toInt).toNat = 20 * l30.toInt.toNat + z26.toInt.toNat by omega])
                  rw [z26k] at z44A
                  refine v_aload_n rfl rfl ?_
                  refine v_iload rfl rfl ?_
                  refine v_iload rfl rfl ?_
                  refine v_callV rfl (W_X12_colour_59_x z28 l30 c60 (by omega) (by omega) (by omega) (by omega) hc60 hl60 hR hI) rfl rfl h2 rfl rfl (by omega) (fun rv w45 hq46 => ?_)
                  obtain ⟨⟨z47, rfl, z47p0⟩, rfl⟩ := hq46
                  have z47A : z47 = sq_c c60 z28.toInt.toNat l30.toInt.toNat := i_eq.mpr (by rw [z47p0]; unfold sq_c; rw [show (20 * l30.toInt + z28.toInt).toNat = 20 * l30.toInt.toNat + z28.toInt.toNat by omega])
                  rw [z28k] at z47A
                  refine r_icmp_ne rfl (fun t48 => ?_) (fun t48 => ?_)
                  · refine v_iconst (v := 0) rfl (by decide) ?_
                    refine v_istore rfl (Nat.le_of_ble_eq_true rfl) ?_
                    refine r_iinc rfl rfl (by decide) (by omega) (by omega) (fun z49 z49e => ?_)
                    refine v_goto rfl ?_
                    exact ih66_31 (0 : Int32) z49 (by omega) (by omega) (by omega) (by omega) (by
                        rcases t37 with g | g
                        · first
                          | exact absurd g.1 (by omega)
                          | exact Or.inl ⟨by omega, g.2.1, fun i hi => by
                              by_cases e : i < l30.toInt.toNat
                              · exact g.2.2 i e
                              · have e2 : i = l30.toInt.toNat := by omega
                                subst e2
                                rw [← z44A, ← z47A]
                                exact i_eq.mpr (by omega)⟩
                          | exact Or.inr ⟨by omega, fun hS => by
                              have q := hS l12.toInt.toNat (by omega) l30.toInt.toNat (by omega)
                              rw [← z44A, ← z47A] at q
                              have q2 := congrArg Int32.toInt q
                              omega⟩
                        · exact Or.inr ⟨by omega, g.2⟩) (by omega)
                  · refine v_iconst (v := 1) rfl (by decide) ?_
                    refine v_goto rfl ?_
                    refine v_istore rfl (Nat.le_of_ble_eq_true rfl) ?_
                    refine r_iinc rfl rfl (by decide) (by omega) (by omega) (fun z50 z50e => ?_)
                    refine v_goto rfl ?_
                    exact ih66_31 (1 : Int32) z50 (by omega) (by omega) (by omega) (by omega) (by
                        rcases t37 with g | g
                        · first
                          | exact absurd g.1 (by omega)
                          | exact Or.inl ⟨by omega, g.2.1, fun i hi => by
                              by_cases e : i < l30.toInt.toNat
                              · exact g.2.2 i e
                              · have e2 : i = l30.toInt.toNat := by omega
                                subst e2
                                rw [← z44A, ← z47A]
                                exact i_eq.mpr (by omega)⟩
                          | exact Or.inr ⟨by omega, fun hS => by
                              have q := hS l12.toInt.toNat (by omega) l30.toInt.toNat (by omega)
                              rw [← z44A, ← z47A] at q
                              have q2 := congrArg Int32.toInt q
                              omega⟩
                        · exact Or.inr ⟨by omega, g.2⟩) (by omega)
          exact L31 _ l11 (0 : Int32) (by omega) (by omega) (by omega) (by omega) (by
              rcases t22 with g | g
              · exact Or.inl ⟨g.1, g.2, fun i hi => by rw [show (0 : Int32).toInt.toNat = 0 from rfl] at hi; omega⟩
              · exact Or.inr g) (Nat.lt_add_one _)
    exact L16 _ (1 : Int32) (0 : Int32) (.null) (.null) (.null) (by omega) (by omega) (by omega) (by omega) (by exact Or.inl ⟨rfl, fun k hk => by rw [show (0 : Int32).toInt.toNat = 0 from rfl] at hk; omega⟩) (Nat.lt_add_one _)
  · refine v_aload_n rfl rfl ?_
    obtain ⟨v52, v53, v54, v55, v56, v57, v58, v59, ⟨v52z, v52e⟩, ⟨⟨v53a, v53b⟩, v53e⟩, ⟨⟨v54a, v54b⟩, v54e⟩, ⟨v56a, v56b⟩, ⟨v59a, v59b⟩, h51⟩ := hI.2.1 59 (by decide) (by decide)
    have v52z := v52z.imp i_eq.mp i_eq.mp
    rw [i_0, i_1] at v52z
    refine v_get rfl h51 rfl ?_
    refine v_goto rfl ?_
    refine v_istore_n rfl (Nat.le_of_ble_eq_true rfl) ?_
    refine v_iload_n rfl rfl ?_
    refine r_if_eq rfl (fun hx => absurd hx (by omega)) (fun _ => ?_)
    refine v_aload_n rfl rfl ?_
    refine v_get rfl h51 rfl ?_
    refine v_goto rfl ?_
    refine v_istore rfl (Nat.le_of_ble_eq_true rfl) ?_
    refine v_iconst (v := 1) rfl (by decide) ?_
    refine v_istore rfl (Nat.le_of_ble_eq_true rfl) ?_
    refine v_iconst (v := 0) rfl (by decide) ?_
    refine v_istore rfl (Nat.le_of_ble_eq_true rfl) ?_
    have L65 : ∀ (n65 : Nat) (l60 : Int32) (l61 : Int32) (u62 : Value) (u63 : Value) (u64 : Value), 0 ≤ l60.toInt → l60.toInt ≤ 1 → 0 ≤ l61.toInt → l61.toInt ≤ 20 → ((l60.toInt = 1 ∧ ∀ k, k < l61.toInt.toNat → ∀ i, i < (gi 0).toInt.toNat → sq_c c60 i ((m.toInt.toNat + (gi 1).toInt.toNat - k) % (gi 1).toInt.toNat) = sq_c c60 i ((m.toInt.toNat + k) % (gi 1).toInt.toNat)) ∨ (l60.toInt = 0 ∧ ¬ (sq_M1 c60 (gi 0).toInt.toNat (gi 1).toInt.toNat m.toInt.toNat))) → (20 - l61.toInt).toNat < n65 → pm_V sc d 127 39 [.ref 59, .int m, .int q, .int (gi 1), .int (gi 0), .int l60, .int l61, u62, u63, u64] [] w (fun rv w' => pm_wI (fun v => 0 ≤ v.toInt ∧ v.toInt ≤ 1 ∧ ((q.toInt = 0 ∧ ((v.toInt = 1 ∧ sq_M0 c60 (gi 0).toInt.toNat (gi 1).toInt.toNat m.toInt.toNat) ∨ (v.toInt = 0 ∧ ¬ sq_M0 c60 (gi 0).toInt.toNat (gi 1).toInt.toNat m.toInt.toNat))) ∨ (q.toInt = 1 ∧ ((v.toInt = 1 ∧ sq_M1 c60 (gi 0).toInt.toNat (gi 1).toInt.toNat m.toInt.toNat) ∨ (v.toInt = 0 ∧ ¬ sq_M1 c60 (gi 0).toInt.toNat (gi 1).toInt.toNat m.toInt.toNat))))) rv ∧ w = w') := by
      intro n65
      induction n65 with
      | zero => intro l60 l61 u62 u63 u64 t67 t68 t69 t70 t71 hm66; exact absurd hm66 (Nat.not_lt_zero _)
      | succ n65 ih39_65 =>
        intro l60 l61 u62 u63 u64 t67 t68 t69 t70 t71 hm66
        refine v_iload rfl rfl ?_
        refine v_iload_n rfl rfl ?_
        refine r_icmp_ge rfl (fun t72 => ?_) (fun t72 => ?_)
        · refine v_iload rfl rfl ?_
          exact r_zret rfl (by omega) ⟨⟨_, rfl, (by omega), (by omega), (by
              first
              | (left; refine ⟨by omega, ?_⟩; rcases t71 with g | g; (exact Or.inl ⟨g.1, fun k hk i hi => g.2 k (by omega) i hi⟩); exact Or.inr g)
              | (right; refine ⟨by omega, ?_⟩; rcases t71 with g | g; (exact Or.inl ⟨g.1, fun k hk i hi => g.2 k (by omega) i hi⟩); exact Or.inr g))⟩, rfl⟩
        · refine v_iload_n rfl rfl ?_
          refine v_iload rfl rfl ?_
          refine r_isub rfl (by omega) (by omega) (fun z73 z73e => ?_)
          refine v_iload_n rfl rfl ?_
          refine r_iadd rfl (by omega) (by omega) (fun z74 z74e => ?_)
          skip
          refine v_iload_n rfl rfl ?_
          refine r_irem rfl (by omega) (by omega) (fun z75 z75m z75a z75b z75c => ?_)
          have z75k := j_em z75m (by omega) (by omega)
          rw [show z74.toInt.toNat = m.toInt.toNat + (gi 1).toInt.toNat - l61.toInt.toNat by omega] at z75k
          refine v_istore rfl (Nat.le_of_ble_eq_true rfl) ?_
          refine v_iload_n rfl rfl ?_
          refine v_iload rfl rfl ?_
          refine r_iadd rfl (by omega) (by omega) (fun z76 z76e => ?_)
          skip
          refine v_iload_n rfl rfl ?_
          refine r_irem rfl (by omega) (by omega) (fun z77 z77m z77a z77b z77c => ?_)
          have z77k := j_em z77m (by omega) (by omega)
          rw [show z76.toInt.toNat = m.toInt.toNat + l61.toInt.toNat by omega] at z77k
          refine v_istore rfl (Nat.le_of_ble_eq_true rfl) ?_
          refine v_iconst (v := 0) rfl (by decide) ?_
          refine v_istore rfl (Nat.le_of_ble_eq_true rfl) ?_
          have L80 : ∀ (n80 : Nat) (l78 : Int32) (l79 : Int32), 0 ≤ l78.toInt → l78.toInt ≤ 1 → 0 ≤ l79.toInt → l79.toInt ≤ 20 → ((l78.toInt = 1 ∧ (∀ k, k < l61.toInt.toNat → ∀ i, i < (gi 0).toInt.toNat → sq_c c60 i ((m.toInt.toNat + (gi 1).toInt.toNat - k) % (gi 1).toInt.toNat) = sq_c c60 i ((m.toInt.toNat + k) % (gi 1).toInt.toNat)) ∧ ∀ i, i < l79.toInt.toNat → sq_c c60 i ((m.toInt.toNat + (gi 1).toInt.toNat - l61.toInt.toNat) % (gi 1).toInt.toNat) = sq_c c60 i ((m.toInt.toNat + l61.toInt.toNat) % (gi 1).toInt.toNat)) ∨ (l78.toInt = 0 ∧ ¬ (sq_M1 c60 (gi 0).toInt.toNat (gi 1).toInt.toNat m.toInt.toNat))) → (20 - l79.toInt).toNat < n80 → pm_V sc d 127 66 [.ref 59, .int m, .int q, .int (gi 1), .int (gi 0), .int l78, .int l61, .int z75, .int z77, .int l79] [] w (fun rv w' => pm_wI (fun v => 0 ≤ v.toInt ∧ v.toInt ≤ 1 ∧ ((q.toInt = 0 ∧ ((v.toInt = 1 ∧ sq_M0 c60 (gi 0).toInt.toNat (gi 1).toInt.toNat m.toInt.toNat) ∨ (v.toInt = 0 ∧ ¬ sq_M0 c60 (gi 0).toInt.toNat (gi 1).toInt.toNat m.toInt.toNat))) ∨ (q.toInt = 1 ∧ ((v.toInt = 1 ∧ sq_M1 c60 (gi 0).toInt.toNat (gi 1).toInt.toNat m.toInt.toNat) ∨ (v.toInt = 0 ∧ ¬ sq_M1 c60 (gi 0).toInt.toNat (gi 1).toInt.toNat m.toInt.toNat))))) rv ∧ w = w') := by
            intro n80
            induction n80 with
            | zero => intro l78 l79 t82 t83 t84 t85 t86 hm81; exact absurd hm81 (Nat.not_lt_zero _)
            | succ n80 ih66_80 =>
              intro l78 l79 t82 t83 t84 t85 t86 hm81
              refine v_iload rfl rfl ?_
              refine v_iload rfl rfl ?_
              refine r_icmp_ge rfl (fun t87 => ?_) (fun t87 => ?_)
              · refine r_iinc rfl rfl (by decide) (by omega) (by omega) (fun z88 z88e => ?_)
                refine v_goto rfl ?_
                exact ih39_65 l78 z88 (.int z75) (.int z77) (.int l79) (by omega) (by omega) (by omega) (by omega) (by
                    rcases t86 with g | g
                    · exact Or.inl ⟨g.1, fun k hk i hi => by
                        by_cases e : k < l61.toInt.toNat
                        · exact g.2.1 k e i hi
                        · have e2 : k = l61.toInt.toNat := by omega
                          subst e2
                          exact g.2.2 i (by omega)⟩
                    · exact Or.inr g) (by omega)
              · refine v_iload rfl rfl ?_
                refine r_if_eq rfl (fun t89 => ?_) (fun t89 => ?_)
                · refine v_iconst (v := 0) rfl (by decide) ?_
                  refine v_istore rfl (Nat.le_of_ble_eq_true rfl) ?_
                  refine r_iinc rfl rfl (by decide) (by omega) (by omega) (fun z90 z90e => ?_)
                  refine v_goto rfl ?_
                  exact ih66_80 (0 : Int32) z90 (by omega) (by omega) (by omega) (by omega) (by
                      rcases t86 with g | g
                      · first
                        | exact absurd g.1 (by omega)
                        | exact Or.inl ⟨by omega, g.2.1, fun i hi => by
                            by_cases e : i < l79.toInt.toNat
                            · exact g.2.2 i e
                            · have e2 : i = l79.toInt.toNat := by omega
                              subst e2
                              rw [← z44A, ← z47A]
                              exact i_eq.mpr (by omega)⟩
                        | exact Or.inr ⟨by omega, fun hS => by
                            have q := hS l61.toInt.toNat (by omega) l79.toInt.toNat (by omega)
                            rw [← z44A, ← z47A] at q
                            have q2 := congrArg Int32.toInt q
                            omega⟩
                      · exact Or.inr ⟨by omega, g.2⟩) (by omega)
                · refine v_iload_n rfl rfl ?_
                  refine r_if_eq rfl (fun hx => absurd hx (by omega)) (fun _ => ?_)
                  refine v_aload_n rfl rfl ?_
                  refine v_iload rfl rfl ?_
                  refine v_iload rfl rfl ?_
                  refine v_callV rfl (W_X12_colour_59_x l79 z75 c60 (by omega) (by omega) (by omega) (by omega) hc60 hl60 hR hI) rfl rfl h51 rfl rfl (by omega) (fun rv w91 hq92 => ?_)
                  obtain ⟨⟨z93, rfl, z93p0⟩, rfl⟩ := hq92
                  have z93A : z93 = sq_c c60 l79.toInt.toNat z75.toInt.toNat := i_eq.mpr (by rw [z93p0]; unfold sq_c; rw [show (20 * z75.toInt + l79.toInt).toNat = 20 * z75.toInt.toNat + l79.toInt.toNat by omega])
                  rw [z75k] at z93A
                  refine v_aload_n rfl rfl ?_
                  refine v_iload rfl rfl ?_
                  refine v_iload rfl rfl ?_
                  refine v_callV rfl (W_X12_colour_59_x l79 z77 c60 (by omega) (by omega) (by omega) (by omega) hc60 hl60 hR hI) rfl rfl h51 rfl rfl (by omega) (fun rv w94 hq95 => ?_)
                  obtain ⟨⟨z96, rfl, z96p0⟩, rfl⟩ := hq95
                  have z96A : z96 = sq_c c60 l79.toInt.toNat z77.toInt.toNat := i_eq.mpr (by rw [z96p0]; unfold sq_c; rw [show (20 * z77.toInt + l79.toInt).toNat = 20 * z77.toInt.toNat + l79.toInt.toNat by omega])
                  rw [z77k] at z96A
                  refine r_icmp_ne rfl (fun t97 => ?_) (fun t97 => ?_)
                  · refine v_iconst (v := 0) rfl (by decide) ?_
                    refine v_istore rfl (Nat.le_of_ble_eq_true rfl) ?_
                    refine r_iinc rfl rfl (by decide) (by omega) (by omega) (fun z98 z98e => ?_)
                    refine v_goto rfl ?_
                    exact ih66_80 (0 : Int32) z98 (by omega) (by omega) (by omega) (by omega) (by
                        rcases t86 with g | g
                        · first
                          | exact absurd g.1 (by omega)
                          | exact Or.inl ⟨by omega, g.2.1, fun i hi => by
                              by_cases e : i < l79.toInt.toNat
                              · exact g.2.2 i e
                              · have e2 : i = l79.toInt.toNat := by omega
                                subst e2
                                rw [← z93A, ← z96A]
                                exact i_eq.mpr (by omega)⟩
                          | exact Or.inr ⟨by omega, fun hS => by
                              have q := hS l61.toInt.toNat (by omega) l79.toInt.toNat (by omega)
                              rw [← z93A, ← z96A] at q
                              have q2 := congrArg Int32.toInt q
                              omega⟩
                        · exact Or.inr ⟨by omega, g.2⟩) (by omega)
                  · refine v_goto rfl ?_
                    refine v_iconst (v := 1) rfl (by decide) ?_
                    refine v_goto rfl ?_
                    refine v_istore rfl (Nat.le_of_ble_eq_true rfl) ?_
                    refine r_iinc rfl rfl (by decide) (by omega) (by omega) (fun z99 z99e => ?_)
                    refine v_goto rfl ?_
                    exact ih66_80 (1 : Int32) z99 (by omega) (by omega) (by omega) (by omega) (by
                        rcases t86 with g | g
                        · first
                          | exact absurd g.1 (by omega)
                          | exact Or.inl ⟨by omega, g.2.1, fun i hi => by
                              by_cases e : i < l79.toInt.toNat
                              · exact g.2.2 i e
                              · have e2 : i = l79.toInt.toNat := by omega
                                subst e2
                                rw [← z93A, ← z96A]
                                exact i_eq.mpr (by omega)⟩
                          | exact Or.inr ⟨by omega, fun hS => by
                              have q := hS l61.toInt.toNat (by omega) l79.toInt.toNat (by omega)
                              rw [← z93A, ← z96A] at q
                              have q2 := congrArg Int32.toInt q
                              omega⟩
                        · exact Or.inr ⟨by omega, g.2⟩) (by omega)
          exact L80 _ l60 (0 : Int32) (by omega) (by omega) (by omega) (by omega) (by
              rcases t71 with g | g
              · exact Or.inl ⟨g.1, g.2, fun i hi => by rw [show (0 : Int32).toInt.toNat = 0 from rfl] at hi; omega⟩
              · exact Or.inr g) (Nat.lt_add_one _)
    exact L65 _ (1 : Int32) (0 : Int32) (.null) (.null) (.null) (by omega) (by omega) (by omega) (by omega) (by exact Or.inl ⟨rfl, fun k hk => by rw [show (0 : Int32).toInt.toNat = 0 from rfl] at hk; omega⟩) (Nat.lt_add_one _)
set_option maxRecDepth 100000 in
theorem W_X12_mirror_59_x {sc : pm_S} {w w0 : pm_W} {gi : Nat → Int32} {ga : Nat → List Int32} (k : Int32)  (hR : pm_Rg gi ga) (hI : pm_IM gi ga w) (hh : pm_lo w0 w) : pm_Mt sc 2 128 3 [.ref 59, .int k] w (fun rv w' => pm_wI (fun v => sq_Pmirror gi ga k v) rv ∧ pm_IM gi ga w' ∧ pm_lo w0 w') := by
  intro d hd
  obtain ⟨g0a, g0b⟩ := hR.n0
  obtain ⟨g1a, g1b⟩ := hR.n1
  obtain ⟨g2a, g2b⟩ := hR.n2
  obtain ⟨g3a, g3b⟩ := hR.n3
  obtain ⟨g4a, g4b⟩ := hR.n4
  obtain ⟨g5a, g5b⟩ := hR.n5
  obtain ⟨g6a, g6b⟩ := hR.n6
  obtain ⟨g7a, g7b⟩ := hR.n7
  obtain ⟨g8a, g8b⟩ := hR.n8
  have km9 : (-9 : Int32).toInt = -9 := by decide
  have km2 : (-2 : Int32).toInt = -2 := by decide
  have k0 : (0 : Int32).toInt = 0 := by decide
  have k1 : (1 : Int32).toInt = 1 := by decide
  show pm_V sc d 128 0 [.ref 59, .int k, .null] [] w _
  refine v_iload_n rfl rfl ?_
  refine v_iconst (v := 0) rfl (by decide) ?_
  refine v_iconst (v := 1) rfl (by decide) ?_
  refine v_callS rfl (W_X12_in k (0 : Int32) (1 : Int32) hR hI) rfl rfl rfl rfl rfl (by omega) (fun rv w1 hq2 => ?_)
  obtain ⟨⟨z3, rfl, z3p0⟩, rfl⟩ := hq2
  refine r_if_ne rfl (fun t4 => ?_) (fun t4 => ?_)
  · by_cases hk0 : k.toInt = 0
    · refine v_iconst (v := 0) rfl (by decide) ?_
      refine v_istore_n rfl (Nat.le_of_ble_eq_true rfl) ?_
      have L6 : ∀ (n6 : Nat) (l5 : Int32), 0 ≤ l5.toInt → l5.toInt ≤ 20 → (l5.toInt ≤ (gi 0).toInt) → (∀ n, n < l5.toInt.toNat → ¬ (sq_M0 (ga 15) (gi 0).toInt.toNat (gi 1).toInt.toNat) n) → (20 - l5.toInt).toNat < n6 → pm_V sc d 128 18 [.ref 59, .int k, .int l5] [] w (fun rv w' => pm_wI (fun v => sq_Pmirror gi ga k v) rv ∧ pm_IM gi ga w' ∧ pm_lo w0 w') := by
        intro n6
        induction n6 with
        | zero => intro l5 t8 t9 t10 t11 hm7; exact absurd hm7 (Nat.not_lt_zero _)
        | succ n6 ih18_6 =>
          intro l5 t8 t9 t10 t11 hm7
          refine v_iload_n rfl rfl ?_
          refine v_iload_n rfl rfl ?_
          refine r_if_ne rfl (fun hx => absurd hx (by omega)) (fun _ => ?_)
          refine v_aload_n rfl rfl ?_
          obtain ⟨v13, v14, v15, v16, v17, v18, v19, v20, ⟨v13z, v13e⟩, ⟨⟨v14a, v14b⟩, v14e⟩, ⟨⟨v15a, v15b⟩, v15e⟩, ⟨v17a, v17b⟩, ⟨v20a, v20b⟩, h12⟩ := hI.2.1 59 (by decide) (by decide)
          have v13z := v13z.imp i_eq.mp i_eq.mp
          rw [i_0, i_1] at v13z
          refine v_get rfl h12 rfl ?_
          refine v_goto rfl ?_
          refine r_icmp_ge rfl (fun t21 => ?_) (fun t21 => ?_)
          · refine v_bipush (v := (-9)) rfl (by decide) ?_
            exact v_iret rfl ⟨⟨_, rfl, (by exact Or.inr (Or.inl ⟨by omega, Or.inl ⟨by omega, fun n hn => t11 n (by omega)⟩⟩))⟩, hI, hh⟩
          · refine v_aload_n rfl rfl ?_
            refine v_iload_n rfl rfl ?_
            refine v_iload_n rfl rfl ?_
            refine v_iconst (v := 1) rfl (by decide) ?_
            refine r_icmp_ne rfl (fun _ => ?_) (fun hx => absurd hx (by omega))
            refine v_iconst (v := 0) rfl (by decide) ?_
            obtain ⟨sq23l, sq23r, h22⟩ := hI.2.1 60 (by decide) (by decide)
            refine v_callV rfl (W_X12_isMirror_59_x l5 (0 : Int32) (ga 15) (by omega) (by omega) (by omega) (by omega) h22 sq23l hR hI) rfl rfl h12 rfl rfl (by omega) (fun rv w24 hq25 => ?_)
            obtain ⟨⟨z26, rfl, z26p0, z26p1, z26p2⟩, rfl⟩ := hq25
            skip
            refine r_if_eq rfl (fun t27 => ?_) (fun t27 => ?_)
            · refine r_iinc rfl rfl (by decide) (by omega) (by omega) (fun z28 z28e => ?_)
              refine v_goto rfl ?_
              exact ih18_6 z28 (by omega) (by omega) (by omega) (by
                  intro n hn
                  by_cases e : n < l5.toInt.toNat
                  · exact t11 n e
                  · have e2 : n = l5.toInt.toNat := by omega
                    subst e2
                    rcases z26p2 with ⟨g0, g | g⟩ | ⟨g0, g | g⟩
                    · exact absurd g.1 (by omega)
                    · first | exact g.2 | (exfalso; omega)
                    · exact absurd g.1 (by omega)
                    · first | exact g.2 | (exfalso; omega)) (by omega)
            · refine v_iload_n rfl rfl ?_
              exact v_iret rfl ⟨⟨_, rfl, (by
                  refine Or.inr (Or.inl ⟨by omega, Or.inr ⟨l5.toInt.toNat, by omega, by omega, ?_, t11⟩⟩)
                  rcases z26p2 with ⟨g0, g | g⟩ | ⟨g0, g | g⟩
                  · first | exact g.2 | (exfalso; omega)
                  · exact absurd g.1 (by omega)
                  · first | exact g.2 | (exfalso; omega)
                  · exact absurd g.1 (by omega))⟩, hI, hh⟩
      exact L6 _ (0 : Int32) (by omega) (by omega) (by omega) (by intro n hn; rw [show (0 : Int32).toInt.toNat = 0 from rfl] at hn; omega) (Nat.lt_add_one _)
    · refine v_iconst (v := 0) rfl (by decide) ?_
      refine v_istore_n rfl (Nat.le_of_ble_eq_true rfl) ?_
      have L30 : ∀ (n30 : Nat) (l29 : Int32), 0 ≤ l29.toInt → l29.toInt ≤ 20 → (l29.toInt ≤ (gi 1).toInt) → (∀ n, n < l29.toInt.toNat → ¬ (sq_M1 (ga 15) (gi 0).toInt.toNat (gi 1).toInt.toNat) n) → (20 - l29.toInt).toNat < n30 → pm_V sc d 128 18 [.ref 59, .int k, .int l29] [] w (fun rv w' => pm_wI (fun v => sq_Pmirror gi ga k v) rv ∧ pm_IM gi ga w' ∧ pm_lo w0 w') := by
        intro n30
        induction n30 with
        | zero => intro l29 t32 t33 t34 t35 hm31; exact absurd hm31 (Nat.not_lt_zero _)
        | succ n30 ih18_30 =>
          intro l29 t32 t33 t34 t35 hm31
          refine v_iload_n rfl rfl ?_
          refine v_iload_n rfl rfl ?_
          refine r_if_ne rfl (fun _ => ?_) (fun hx => absurd hx (by omega))
          refine v_aload_n rfl rfl ?_
          obtain ⟨v37, v38, v39, v40, v41, v42, v43, v44, ⟨v37z, v37e⟩, ⟨⟨v38a, v38b⟩, v38e⟩, ⟨⟨v39a, v39b⟩, v39e⟩, ⟨v41a, v41b⟩, ⟨v44a, v44b⟩, h36⟩ := hI.2.1 59 (by decide) (by decide)
          have v37z := v37z.imp i_eq.mp i_eq.mp
          rw [i_0, i_1] at v37z
          refine v_get rfl h36 rfl ?_
          refine r_icmp_ge rfl (fun t45 => ?_) (fun t45 => ?_)
          · refine v_bipush (v := (-9)) rfl (by decide) ?_
            exact v_iret rfl ⟨⟨_, rfl, (by exact Or.inr (Or.inr ⟨by omega, Or.inl ⟨by omega, fun n hn => t35 n (by omega)⟩⟩))⟩, hI, hh⟩
          · refine v_aload_n rfl rfl ?_
            refine v_iload_n rfl rfl ?_
            refine v_iload_n rfl rfl ?_
            refine v_iconst (v := 1) rfl (by decide) ?_
            refine r_icmp_ne rfl (fun hx => absurd hx (by omega)) (fun _ => ?_)
            refine v_iconst (v := 1) rfl (by decide) ?_
            refine v_goto rfl ?_
            obtain ⟨sq47l, sq47r, h46⟩ := hI.2.1 60 (by decide) (by decide)
            refine v_callV rfl (W_X12_isMirror_59_x l29 (1 : Int32) (ga 15) (by omega) (by omega) (by omega) (by omega) h46 sq47l hR hI) rfl rfl h36 rfl rfl (by omega) (fun rv w48 hq49 => ?_)
            obtain ⟨⟨z50, rfl, z50p0, z50p1, z50p2⟩, rfl⟩ := hq49
            skip
            refine r_if_eq rfl (fun t51 => ?_) (fun t51 => ?_)
            · refine r_iinc rfl rfl (by decide) (by omega) (by omega) (fun z52 z52e => ?_)
              refine v_goto rfl ?_
              exact ih18_30 z52 (by omega) (by omega) (by omega) (by
                  intro n hn
                  by_cases e : n < l29.toInt.toNat
                  · exact t35 n e
                  · have e2 : n = l29.toInt.toNat := by omega
                    subst e2
                    rcases z50p2 with ⟨g0, g | g⟩ | ⟨g0, g | g⟩
                    · exact absurd g.1 (by omega)
                    · first | exact g.2 | (exfalso; omega)
                    · exact absurd g.1 (by omega)
                    · first | exact g.2 | (exfalso; omega)) (by omega)
            · refine v_iload_n rfl rfl ?_
              exact v_iret rfl ⟨⟨_, rfl, (by
                  refine Or.inr (Or.inr ⟨by omega, Or.inr ⟨l29.toInt.toNat, by omega, by omega, ?_, t35⟩⟩)
                  rcases z50p2 with ⟨g0, g | g⟩ | ⟨g0, g | g⟩
                  · first | exact g.2 | (exfalso; omega)
                  · exact absurd g.1 (by omega)
                  · first | exact g.2 | (exfalso; omega)
                  · exact absurd g.1 (by omega))⟩, hI, hh⟩
      exact L30 _ (0 : Int32) (by omega) (by omega) (by omega) (by intro n hn; rw [show (0 : Int32).toInt.toNat = 0 from rfl] at hn; omega) (Nat.lt_add_one _)
  · refine v_aload_n rfl rfl ?_
    refine v_bipush (v := (-2)) rfl (by decide) ?_
    obtain ⟨v54, v55, v56, v57, v58, v59, v60, v61, ⟨v54z, v54e⟩, ⟨⟨v55a, v55b⟩, v55e⟩, ⟨⟨v56a, v56b⟩, v56e⟩, ⟨v58a, v58b⟩, ⟨v61a, v61b⟩, h53⟩ := hI.2.1 59 (by decide) (by decide)
    have v54z := v54z.imp i_eq.mp i_eq.mp
    rw [i_0, i_1] at v54z
    refine v_callV rfl (c_M_refuse (-2 : Int32) (by unfold pm_isR; first | decide | exact Or.inl rfl) hR hI) rfl rfl h53 rfl rfl (by omega) (fun rv w62 hq63 => ?_)
    obtain ⟨rfl, hI64, hh65x⟩ := hq63
    have hI64 : pm_IM gi ga w62 := hI64
    have hh65 := hh.tr hh65x
    exact v_iret rfl ⟨⟨_, rfl, (by exact Or.inl ⟨by omega, by omega⟩)⟩, hI64, hh65⟩

