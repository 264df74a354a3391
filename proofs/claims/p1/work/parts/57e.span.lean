set_option maxRecDepth 100000 in
theorem W_X8_repeatsBy_3_x {sc : pm_S} {w : pm_W} {gi : Nat → Int32} {ga : Nat → List Int32} (b : Int32) (c3_0 : Int32) (c4 : List Int64) (p0 : b.toInt ≤ 20) (p1 : 1 ≤ b.toInt) (p2 : b.toInt < c3_0.toInt) (p3 : 0 ≤ c3_0.toInt) (p4 : c3_0.toInt ≤ 20) (hc3 : w[3]? = some (.inr (8, [.int c3_0, .ref 4]))) (hc4 : w[4]? = some (.inl (2, .inr (.inl c4)))) (hl4 : c4.length = 20) (hR : pm_Rg gi ga) (hI : pm_IX gi ga w) : pm_Mt sc 1 51 3 [.ref 3, .int b] w (fun rv w' => pm_wI (fun v => 0 ≤ v.toInt ∧ v.toInt ≤ 1 ∧ ((v.toInt = 1 ∧ sq_RC c4 c3_0.toInt.toNat b.toInt.toNat) ∨ (v.toInt = 0 ∧ ¬ sq_RC c4 c3_0.toInt.toNat b.toInt.toNat))) rv ∧ w = w') := by
  intro d hd
  obtain ⟨g0a, g0b⟩ := hR.n0
  obtain ⟨g1a, g1b⟩ := hR.n1
  obtain ⟨g2a, g2b⟩ := hR.n2
  obtain ⟨g3a, g3b⟩ := hR.n3
  obtain ⟨g4a, g4b⟩ := hR.n4
  obtain ⟨g5a, g5b⟩ := hR.n5
  obtain ⟨g6a, g6b⟩ := hR.n6
  obtain ⟨g7a, g7b⟩ := hR.n7
  obtain ⟨g8a, g8b⟩ := hR.n8
  have k0 : (0 : Int32).toInt = 0 := by decide
  have k1 : (1 : Int32).toInt = 1 := by decide
  show pm_V sc d 51 0 [.ref 3, .int b, .null] [] w _
  refine v_iconst (v := 0) rfl (by decide) ?_
  refine v_istore_n rfl (Nat.le_of_ble_eq_true rfl) ?_
  have L2 : ∀ (n2 : Nat) (l1 : Int32), 0 ≤ l1.toInt → l1.toInt ≤ 20 → (∀ i, i < l1.toInt.toNat → c4[i]? = c4[(i + b.toInt.toNat) % c3_0.toInt.toNat]?) → (20 - l1.toInt).toNat < n2 → pm_V sc d 51 2 [.ref 3, .int b, .int l1] [] w (fun rv w' => pm_wI (fun v => 0 ≤ v.toInt ∧ v.toInt ≤ 1 ∧ ((v.toInt = 1 ∧ sq_RC c4 c3_0.toInt.toNat b.toInt.toNat) ∨ (v.toInt = 0 ∧ ¬ sq_RC c4 c3_0.toInt.toNat b.toInt.toNat))) rv ∧ w = w') := by
    intro n2
    induction n2 with
    | zero => intro l1 t4 t5 t6 hm3; exact absurd hm3 (Nat.not_lt_zero _)
    | succ n2 ih2_2 =>
      intro l1 t4 t5 t6 hm3
      refine v_iload_n rfl rfl ?_
      refine v_aload_n rfl rfl ?_
      refine v_get rfl hc3 rfl ?_
      refine r_icmp_ge rfl (fun t7 => ?_) (fun t7 => ?_)
      · refine v_iconst (v := 1) rfl (by decide) ?_
        exact r_zret rfl (by omega) ⟨⟨_, rfl, (by omega), (by omega), (by
            first
            | exact Or.inl ⟨by omega, fun i hi => t6 i (by omega)⟩
            | (refine Or.inr ⟨by omega, fun hx => ?_⟩
               have q := hx l1.toInt.toNat (by omega)
               rw [rfl, ← i_cl, ← i_cl, qz, qz] at q
               injection q with q
               exact absurd (qc.mpr q) (by omega)))⟩, rfl⟩
      · refine v_aload_n rfl rfl ?_
        refine v_get rfl hc3 rfl ?_
        refine v_iload_n rfl rfl ?_
        obtain ⟨z8, z8z⟩ : ∃ z, c4[l1.toNatClampNeg]? = some z := ⟨_, List.getElem?_eq_getElem (r_ix hl4 (by omega) (by omega))⟩
        refine v_laload rfl hc4 (r_nn (by omega)) z8z ?_
        skip
        refine v_aload_n rfl rfl ?_
        refine v_get rfl hc3 rfl ?_
        refine v_iload_n rfl rfl ?_
        refine v_iload_n rfl rfl ?_
        refine r_iadd rfl (by omega) (by omega) (fun z9 z9e => ?_)
        refine v_aload_n rfl rfl ?_
        refine v_get rfl hc3 rfl ?_
        refine v_callS rfl (W_X11_around_x z9 c3_0 (by omega) (by omega) (by omega) (by omega) (by omega) hR hI) rfl rfl rfl rfl rfl (by omega) (fun rv w10 hq11 => ?_)
        obtain ⟨⟨z12, rfl, z12p0, z12p1, z12p2, z12p3⟩, rfl⟩ := hq11
        skip
        obtain ⟨z13, z13z⟩ : ∃ z, c4[z12.toNatClampNeg]? = some z := ⟨_, List.getElem?_eq_getElem (r_ix hl4 (by omega) (by omega))⟩
        refine v_laload rfl hc4 (r_nn (by omega)) z13z ?_
        skip
        refine r_lcmp rfl (fun z14 z14c => ?_)
        skip
        refine r_if_eq rfl (fun t15 => ?_) (fun t15 => ?_)
        · refine r_iinc rfl rfl (by decide) (by omega) (by omega) (fun z16 z16e => ?_)
          refine v_goto rfl ?_
          exact ih2_2 z16 (by omega) (by omega) (by
              intro i hi
              by_cases e : i < l1.toInt.toNat
              · exact t6 i e
              · have e2 : i = l1.toInt.toNat := by omega
                subst e2
                rw [show (l1.toInt.toNat + b.toInt.toNat) % c3_0.toInt.toNat = z12.toInt.toNat from (j_ar (by omega) (by omega) (by omega)).symm, ← i_cl, ← i_cl, z8z, z13z, (z14c.mp (by omega))]) (by omega)
        · refine v_iconst (v := 0) rfl (by decide) ?_
          exact r_zret rfl (by omega) ⟨⟨_, rfl, (by omega), (by omega), (by
              first
              | exact Or.inl ⟨by omega, fun i hi => t6 i (by omega)⟩
              | (refine Or.inr ⟨by omega, fun hx => ?_⟩
                 have q := hx l1.toInt.toNat (by omega)
                 rw [show (l1.toInt.toNat + b.toInt.toNat) % c3_0.toInt.toNat = z12.toInt.toNat from (j_ar (by omega) (by omega) (by omega)).symm, ← i_cl, ← i_cl, z8z, z13z] at q
                 injection q with q
                 exact absurd (z14c.mpr q) (by omega)))⟩, rfl⟩
  exact L2 _ (0 : Int32) (by omega) (by omega) (by intro i hi; rw [show (0 : Int32).toInt.toNat = 0 from rfl] at hi; omega) (Nat.lt_add_one _)
set_option maxRecDepth 100000 in
theorem W_X8_leastSpan_3_x {sc : pm_S} {w : pm_W} {gi : Nat → Int32} {ga : Nat → List Int32} (c3_0 : Int32) (c4 : List Int64) (p0 : 1 ≤ c3_0.toInt) (p1 : 0 ≤ c3_0.toInt) (p2 : c3_0.toInt ≤ 20) (hc3 : w[3]? = some (.inr (8, [.int c3_0, .ref 4]))) (hc4 : w[4]? = some (.inl (2, .inr (.inl c4)))) (hl4 : c4.length = 20) (hR : pm_Rg gi ga) (hI : pm_IX gi ga w) : pm_Mt sc 2 49 2 [.ref 3] w (fun rv w' => pm_wI (fun v => 1 ≤ v.toInt ∧ v.toInt ≤ 20 ∧ sq_LS c3_0.toInt.toNat (fun n => sq_RC c4 c3_0.toInt.toNat n) v.toInt.toNat) rv ∧ w = w') := by
  intro d hd
  obtain ⟨g0a, g0b⟩ := hR.n0
  obtain ⟨g1a, g1b⟩ := hR.n1
  obtain ⟨g2a, g2b⟩ := hR.n2
  obtain ⟨g3a, g3b⟩ := hR.n3
  obtain ⟨g4a, g4b⟩ := hR.n4
  obtain ⟨g5a, g5b⟩ := hR.n5
  obtain ⟨g6a, g6b⟩ := hR.n6
  obtain ⟨g7a, g7b⟩ := hR.n7
  obtain ⟨g8a, g8b⟩ := hR.n8
  have k1 : (1 : Int32).toInt = 1 := by decide
  show pm_V sc d 49 0 [.ref 3, .null] [] w _
  refine v_iconst (v := 1) rfl (by decide) ?_
  refine v_istore_n rfl (Nat.le_of_ble_eq_true rfl) ?_
  have L2 : ∀ (n2 : Nat) (l1 : Int32), 1 ≤ l1.toInt → l1.toInt ≤ 20 → (l1.toInt ≤ c3_0.toInt) → (∀ n, 1 ≤ n → n < l1.toInt.toNat → ¬ (c3_0.toInt.toNat % n = 0 ∧ sq_RC c4 c3_0.toInt.toNat n)) → (20 - l1.toInt).toNat < n2 → pm_V sc d 49 2 [.ref 3, .int l1] [] w (fun rv w' => pm_wI (fun v => 1 ≤ v.toInt ∧ v.toInt ≤ 20 ∧ sq_LS c3_0.toInt.toNat (fun n => sq_RC c4 c3_0.toInt.toNat n) v.toInt.toNat) rv ∧ w = w') := by
    intro n2
    induction n2 with
    | zero => intro l1 t4 t5 t6 t7 hm3; exact absurd hm3 (Nat.not_lt_zero _)
    | succ n2 ih2_2 =>
      intro l1 t4 t5 t6 t7 hm3
      refine v_iload_n rfl rfl ?_
      refine v_aload_n rfl rfl ?_
      refine v_get rfl hc3 rfl ?_
      refine r_icmp_ge rfl (fun t8 => ?_) (fun t8 => ?_)
      · refine v_aload_n rfl rfl ?_
        refine v_get rfl hc3 rfl ?_
        exact v_iret rfl ⟨⟨_, rfl, (by omega), (by omega), (by
            first
            | exact ⟨by omega, by omega, Nat.mod_self _, fun i hi => by rw [Nat.add_mod_right, Nat.mod_eq_of_lt hi], fun n h1 h2 => t7 n h1 (by omega)⟩
            | exact ⟨by omega, by omega, by rw [← qk]; omega, (by rcases qp2 with g | g; (exact g.2); exact absurd g.1 (by omega)), t7⟩)⟩, rfl⟩
      · refine v_aload_n rfl rfl ?_
        refine v_get rfl hc3 rfl ?_
        refine v_iload_n rfl rfl ?_
        refine r_irem rfl (by omega) (by omega) (fun z9 z9m z9a z9b z9c => ?_)
        have z9k : z9.toInt.toNat = c3_0.toInt.toNat % l1.toInt.toNat := j_em z9m (by omega) (by omega)
        refine r_if_ne rfl (fun t10 => ?_) (fun t10 => ?_)
        · refine r_iinc rfl rfl (by decide) (by omega) (by omega) (fun z11 z11e => ?_)
          refine v_goto rfl ?_
          exact ih2_2 z11 (by omega) (by omega) (by omega) (by
              intro n h1 h2
              by_cases e : n < l1.toInt.toNat
              · exact t7 n h1 e
              · have e2 : n = l1.toInt.toNat := by omega
                subst e2
                intro hx
                first
                | exact absurd hx.1 (by rw [← z9k]; omega)
                | exact absurd hx.2 (by rcases qp2 with g | g; (exact absurd g.1 (by omega)); exact g.2)) (by omega)
        · refine v_aload_n rfl rfl ?_
          refine v_iload_n rfl rfl ?_
          refine v_callV rfl (W_X8_repeatsBy_3_x l1 c3_0 c4 (by omega) (by omega) (by omega) (by omega) (by omega) hc3 hc4 hl4 hR hI) rfl rfl hc3 rfl rfl (by omega) (fun rv w12 hq13 => ?_)
          obtain ⟨⟨z14, rfl, z14p0, z14p1, z14p2⟩, rfl⟩ := hq13
          refine r_if_eq rfl (fun t15 => ?_) (fun t15 => ?_)
          · refine r_iinc rfl rfl (by decide) (by omega) (by omega) (fun z16 z16e => ?_)
            refine v_goto rfl ?_
            exact ih2_2 z16 (by omega) (by omega) (by omega) (by
                intro n h1 h2
                by_cases e : n < l1.toInt.toNat
                · exact t7 n h1 e
                · have e2 : n = l1.toInt.toNat := by omega
                  subst e2
                  intro hx
                  first
                  | exact absurd hx.1 (by rw [← z9k]; omega)
                  | exact absurd hx.2 (by rcases z14p2 with g | g; (exact absurd g.1 (by omega)); exact g.2)) (by omega)
          · refine v_iload_n rfl rfl ?_
            exact v_iret rfl ⟨⟨_, rfl, (by omega), (by omega), (by
                first
                | exact ⟨by omega, by omega, Nat.mod_self _, fun i hi => by rw [Nat.add_mod_right, Nat.mod_eq_of_lt hi], fun n h1 h2 => t7 n h1 (by omega)⟩
                | exact ⟨by omega, by omega, by rw [← z9k]; omega, (by rcases z14p2 with g | g; (exact g.2); exact absurd g.1 (by omega)), t7⟩)⟩, rfl⟩
  exact L2 _ (1 : Int32) (by omega) (by omega) (by omega) (by intro n h1 h2; rw [show (1 : Int32).toInt.toNat = 1 from rfl] at h2; omega) (Nat.lt_add_one _)

