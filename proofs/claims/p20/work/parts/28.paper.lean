set_option maxRecDepth 100000 in
theorem l_fill {sc : pm_S} {w : pm_W} {pr n : Nat} {x : Int64} (hp : pr < w.length) (hn : n < 1000) (d m : Nat) : ∀ (i : Nat) (ys : List Int64), i + m = n → ys.length = n → (∀ j, j < i → ys[j]? = some x) → pm_V sc d 185 6 [.ref pr, .long x, .null, .int (nI i), .int (nI n)] [] (w.set pr (.inl (2, .inr (.inl ys)))) (fun rv w' => rv = none ∧ w' = w.set pr (.inl (2, .inr (.inl (List.replicate n x))))) := by
  induction m with
  | zero =>
    intro i ys hi hy hv
    have hw : (w.set pr (.inl (2, .inr (.inl ys))) : pm_W)[pr]? = some (.inl (2, .inr (.inl ys))) := List.getElem?_set_self hp
    refine v_iload_n rfl rfl ?_
    refine v_iload rfl rfl ?_
    refine v_icmp_ge rfl (fun _ => ?_) (fun h => absurd (nI_le (by omega) (by omega)) h)
    exact v_ret rfl ⟨rfl, by
      rw [show ys = List.replicate n x from List.ext_getElem? (fun j => by
        by_cases hj : j < n
        · rw [hv j (by omega), List.getElem?_replicate, if_pos hj]
        · rw [List.getElem?_eq_none (by omega), List.getElem?_eq_none (by rw [List.length_replicate]; omega)])]⟩
  | succ m ih =>
    intro i ys hi hy hv
    have hw : (w.set pr (.inl (2, .inr (.inl ys))) : pm_W)[pr]? = some (.inl (2, .inr (.inl ys))) := List.getElem?_set_self hp
    refine v_iload_n rfl rfl ?_
    refine v_iload rfl rfl ?_
    refine v_icmp_ge rfl (fun h => absurd h (nI_ge (by omega) (by omega))) (fun _ => ?_)
    refine v_aload_n rfl rfl ?_
    refine v_iload_n rfl rfl ?_
    refine v_lload_n rfl rfl ?_
    refine v_lastore rfl hw (nI_pos (by omega)) (by rw [nI_clamp (by omega)]; omega) ?_
    refine v_iinc (v := nI (i + 1)) rfl rfl (i_inc i) ?_
    refine v_goto rfl ?_
    rw [List.set_set, nI_clamp (by omega)]
    exact ih (i + 1) (ys.set i x) (by omega) (by rw [List.length_set]; exact hy) (fun j hj => by
      by_cases e : i = j
      · subst e
        rw [List.getElem?_set_self (by omega)]
      · rw [List.getElem?_set_ne e]
        exact hv j (by omega))
theorem pm_set_self {w : pm_W} {p : Nat} {c : pm_C} (h : w[p]? = some c) : w.set p c = w := by
  apply List.ext_getElem?
  intro i
  by_cases e : p = i
  · subst e
    rw [List.getElem?_set_self (List.getElem?_eq_some_iff.mp h).1, h]
  · rw [List.getElem?_set_ne e]
set_option maxRecDepth 100000 in
theorem c_fill {sc : pm_S} {w : pm_W} {pr : Nat} {xs : List Int64} (hn : xs.length < 1000) (hw : w[pr]? = some (.inl (2, .inr (.inl xs)))) (x : Int64) : pm_Mt sc 0 185 5 [.ref pr, .long x] w (fun rv w' => rv = none ∧ w' = w.set pr (.inl (2, .inr (.inl (List.replicate xs.length x))))) := by
  intro d hd
  show pm_V sc d 185 0 _ [] w _
  refine v_iconst (v := 0) rfl (by decide) ?_
  refine v_istore_n rfl (Nat.le_of_ble_eq_true rfl) ?_
  refine v_aload_n rfl rfl ?_
  refine v_lenl rfl hw ?_
  refine v_istore rfl (Nat.le_of_ble_eq_true rfl) ?_
  have z := l_fill (sc := sc) (x := x) (List.getElem?_eq_some_iff.mp hw).1 hn d xs.length 0 xs (by omega) rfl (fun j hj => absurd hj (by omega))
  rw [pm_set_self hw] at z
  exact z
set_option maxRecDepth 100000 in
theorem c_lay {sc : pm_S} {w : pm_W} {p pr : Nat} {v0 v1 : Int32} {xs : List Int64} (hl : xs.length = 20) (hne : p ≠ pr) (hp : w[p]? = some (.inr (10, [.int v0, .int v1, .ref pr]))) (hr : w[pr]? = some (.inl (2, .inr (.inl xs)))) (a b : Int32) : pm_Mt sc 1 65 3 [.ref p, .int a, .int b] w (fun rv w' => rv = none ∧ w' = (w.set p (.inr (10, [.int a, .int b, .ref pr]))).set pr (.inl (2, .inr (.inl (List.replicate 20 0))))) := by
  intro d hd
  show pm_V sc d 65 0 _ [] w _
  refine v_aload_n rfl rfl ?_
  refine v_iload_n rfl rfl ?_
  refine v_put rfl hp rfl (Nat.le_of_ble_eq_true rfl) ?_
  have hp1 : (w.set p (.inr (10, [.int a, .int v1, .ref pr])) : pm_W)[p]? = some (.inr (10, [.int a, .int v1, .ref pr])) := List.getElem?_set_self (List.getElem?_eq_some_iff.mp hp).1
  show pm_V _ _ _ _ _ _ (w.set p (.inr (10, [.int a, .int v1, .ref pr]))) _
  refine v_aload_n rfl rfl ?_
  refine v_iload_n rfl rfl ?_
  refine v_put rfl hp1 rfl (Nat.le_of_ble_eq_true rfl) ?_
  rw [List.set_set]
  have hp2 : (w.set p (.inr (10, [.int a, .int b, .ref pr])) : pm_W)[p]? = some (.inr (10, [.int a, .int b, .ref pr])) := List.getElem?_set_self (List.getElem?_eq_some_iff.mp hp).1
  have hr2 : (w.set p (.inr (10, [.int a, .int b, .ref pr])) : pm_W)[pr]? = some (.inl (2, .inr (.inl xs))) := by rw [List.getElem?_set_ne hne]; exact hr
  show pm_V _ _ _ _ _ _ (w.set p (.inr (10, [.int a, .int b, .ref pr]))) _
  refine v_aload_n rfl rfl ?_
  refine v_get rfl hp2 rfl ?_
  refine v_lconst (v := 0) rfl (by decide) ?_
  refine v_callS rfl (c_fill (by omega) hr2 0) rfl rfl rfl rfl rfl (by omega) (fun rv w1 hq => ?_)
  obtain ⟨rfl, rfl⟩ := hq
  rw [hl]
  exact v_ret rfl ⟨rfl, rfl⟩
noncomputable def sp_paper (gi : Nat → Int32) (ga : Nat → List Int32) (a b : Int32) : pm_G := if a.toInt < 1 ∨ b.toInt < 1 then pm_no gi ga (-4) else if 20 < a.toInt ∨ 20 < b.toInt then pm_no gi ga (-6) else (1, pm_uI (pm_uI gi 0 a) 1 b, pm_uA ga 15 (List.replicate 400 0))
theorem pm_uA_uA {ga : Nat → List Int32} {j : Nat} {a b : List Int32} : pm_uA (pm_uA ga j a) j b = pm_uA ga j b := by
  funext i
  unfold pm_uA
  split <;> rfl
theorem pm_uA_id {ga : Nat → List Int32} {j : Nat} : pm_uA ga j (ga j) = ga := by
  funext i
  unfold pm_uA
  split
  · rename_i h; rw [h]
  · rfl
theorem pm_rng_set {xs : List Int32} {i : Nat} {v : Int32} {a b : Int} (h : ∀ x ∈ xs, pm_rng x a b) (hv : pm_rng v a b) : ∀ x ∈ xs.set i v, pm_rng x a b := fun x hx => by
  rcases List.mem_or_eq_of_mem_set hx with g | rfl
  · exact h x g
  · exact hv
theorem pm_sq {gi : Nat → Int32} {ga : Nat → List Int32} {ds : List Int32} (l : ds.length = 400) (r : ∀ x ∈ ds, pm_rng x 0 3) : pm_cell gi (pm_uA ga 15 ds) 2 (some (.inl (2, .inr (.inl (pm_enc ds))))) := ⟨by rw [pm_uA_self]; exact l, by rw [pm_uA_self]; exact r, by rw [pm_uA_self]⟩
theorem pm_sqM {gi : Nat → Int32} {ga : Nat → List Int32} {ds : List Int32} (l : ds.length = 400) (r : ∀ x ∈ ds, pm_rng x 0 3) : pm_cell gi (pm_uA ga 15 ds) 60 (some (.inl (0, .inl ds))) := ⟨by rw [pm_uA_self]; exact l, by rw [pm_uA_self]; exact r, by rw [pm_uA_self]⟩
theorem pm_IX.usq {gi : Nat → Int32} {ga : Nat → List Int32} {w : pm_W} (h : pm_IX gi ga w) {ds : List Int32} (l : ds.length = 400) (r : ∀ x ∈ ds, pm_rng x 0 3) : pm_IX gi (pm_uA ga 15 ds) (w.set 2 (.inl (2, .inr (.inl (pm_enc ds))))) := h.uA 2 15 (by decide +kernel) (by decide +kernel) (pm_sq l r)
theorem pm_IM.usq {gi : Nat → Int32} {ga : Nat → List Int32} {w : pm_W} (h : pm_IM gi ga w) {ds : List Int32} (l : ds.length = 400) (r : ∀ x ∈ ds, pm_rng x 0 3) : pm_IM gi (pm_uA ga 15 ds) (w.set 60 (.inl (0, .inl ds))) := h.uA 60 15 (by decide +kernel) (by decide +kernel) (by decide +kernel) (by decide +kernel) (by decide +kernel) (pm_sqM l r)
theorem pm_IX.uII {gi : Nat → Int32} {ga : Nat → List Int32} {w : pm_W} (h : pm_IX gi ga w) (a b : Int32) : pm_IX (pm_uI (pm_uI gi 0 a) 1 b) ga (w.set 1 (.inr (10, [.int a, .int b, .ref 2]))) := ⟨by rw [List.length_set]; exact h.1, fun k hk => by
  by_cases e : 1 = k
  · subst e
    rw [List.getElem?_set_self (by rw [h.1]; omega)]
    exact rfl
  · rw [List.getElem?_set_ne e]
    refine pm_cell_eq (fun i hi => ?_) (fun _ _ => rfl) (h.2 k hk)
    have hd : ∀ k, k < 59 → k ≠ 1 → ¬ 0 ∈ pm_dI k ∧ ¬ 1 ∈ pm_dI k := by decide
    have h1 := hd k hk (Ne.symm e)
    have n1 : i ≠ 1 := fun e2 => h1.2 (e2 ▸ hi)
    have n0 : i ≠ 0 := fun e2 => h1.1 (e2 ▸ hi)
    rw [pm_uI_ne n1, pm_uI_ne n0]⟩
set_option maxRecDepth 100000 in
theorem c_X_paper {sc : pm_S} {w : pm_W} {gi : Nat → Int32} {ga : Nat → List Int32} (a b : Int32) (hR : pm_Rg gi ga) (hI : pm_IX gi ga w) : pm_Mt sc 2 71 3 [.ref 0, .int a, .int b] w (pm_PX w (sp_paper gi ga a b)) := by
  intro d hd
  show pm_V sc d 71 0 _ [] w _
  have hh : pm_hi w w := pm_hi.rf
  obtain ⟨v6, c6, h0⟩ := hI.2 0 (by decide)
  have h1 : _ = some _ := hI.2 1 (by decide)
  obtain ⟨l2, r2, h2⟩ := hI.2 2 (by decide)
  refine v_iload_n rfl rfl ?_
  refine v_iconst (v := 1) rfl (by decide) ?_
  refine v_icmp_lt rfl (fun t2 => ?_) (fun t2 => ?_)
  · refine v_aload_n rfl rfl ?_
    refine v_bipush (v := (-4)) rfl (by decide) ?_
    refine v_callV rfl (c_X_refuse (-4) (by unfold pm_isR; decide) hR hI) rfl rfl h0 rfl rfl (by omega) (fun rv w1 hq => ?_)
    obtain ⟨rfl, g1, g2⟩ := hq
    exact v_iret rfl (by show pm_PX _ _ _ _; unfold sp_paper; rw [if_pos (by simp only [i_lt, i_le, i_eq, i_0, i_1, i_2, i_3, i_4, i_5, i_12, i_20, i_40, i_99, i_100, i_200, i_500, i_999, i_2000, i_3000, i_100000] at *; omega)]; exact ⟨rfl, g1, hh.tr g2⟩)
  · refine v_iload_n rfl rfl ?_
    refine v_iconst (v := 1) rfl (by decide) ?_
    refine v_icmp_ge rfl (fun t7 => ?_) (fun t7 => ?_)
    · refine v_iload_n rfl rfl ?_
      refine v_bipush (v := 20) rfl (by decide) ?_
      refine v_icmp_gt rfl (fun t20 => ?_) (fun t20 => ?_)
      · refine v_aload_n rfl rfl ?_
        refine v_bipush (v := (-6)) rfl (by decide) ?_
        refine v_callV rfl (c_X_refuse (-6) (by unfold pm_isR; decide) hR hI) rfl rfl h0 rfl rfl (by omega) (fun rv w1 hq => ?_)
        obtain ⟨rfl, g1, g2⟩ := hq
        exact v_iret rfl (by show pm_PX _ _ _ _; unfold sp_paper; rw [if_neg (by simp only [i_lt, i_le, i_eq, i_0, i_1, i_2, i_3, i_4, i_5, i_12, i_20, i_40, i_99, i_100, i_200, i_500, i_999, i_2000, i_3000, i_100000] at *; omega), if_pos (by simp only [i_lt, i_le, i_eq, i_0, i_1, i_2, i_3, i_4, i_5, i_12, i_20, i_40, i_99, i_100, i_200, i_500, i_999, i_2000, i_3000, i_100000] at *; omega)]; exact ⟨rfl, g1, hh.tr g2⟩)
      · refine v_iload_n rfl rfl ?_
        refine v_bipush (v := 20) rfl (by decide) ?_
        refine v_icmp_le rfl (fun t26 => ?_) (fun t26 => ?_)
        · refine v_aload_n rfl rfl ?_
          refine v_get rfl h0 rfl ?_
          refine v_iload_n rfl rfl ?_
          refine v_iload_n rfl rfl ?_
          refine v_callV rfl (c_lay pm_enc_len (by decide) h1 h2 a b) rfl rfl h1 rfl rfl (by omega) (fun rv w1 hq => ?_)
          obtain ⟨rfl, rfl⟩ := hq
          refine v_iconst (v := 1) rfl (by decide) ?_
          exact v_iret rfl (by show pm_PX _ _ _ _; unfold sp_paper; rw [if_neg (by simp only [i_lt, i_le, i_eq, i_0, i_1, i_2, i_3, i_4, i_5, i_12, i_20, i_40, i_99, i_100, i_200, i_500, i_999, i_2000, i_3000, i_100000] at *; omega), if_neg (by simp only [i_lt, i_le, i_eq, i_0, i_1, i_2, i_3, i_4, i_5, i_12, i_20, i_40, i_99, i_100, i_200, i_500, i_999, i_2000, i_3000, i_100000] at *; omega)]; exact ⟨rfl, (by rw [← pm_enc0]; exact (hI.uII a b).usq List.length_replicate (pm_rep_rng (by decide) (by decide))), (hh.set (by decide) _).set (by decide) _⟩)
        · refine v_aload_n rfl rfl ?_
          refine v_bipush (v := (-6)) rfl (by decide) ?_
          refine v_callV rfl (c_X_refuse (-6) (by unfold pm_isR; decide) hR hI) rfl rfl h0 rfl rfl (by omega) (fun rv w1 hq => ?_)
          obtain ⟨rfl, g1, g2⟩ := hq
          exact v_iret rfl (by show pm_PX _ _ _ _; unfold sp_paper; rw [if_neg (by simp only [i_lt, i_le, i_eq, i_0, i_1, i_2, i_3, i_4, i_5, i_12, i_20, i_40, i_99, i_100, i_200, i_500, i_999, i_2000, i_3000, i_100000] at *; omega), if_pos (by simp only [i_lt, i_le, i_eq, i_0, i_1, i_2, i_3, i_4, i_5, i_12, i_20, i_40, i_99, i_100, i_200, i_500, i_999, i_2000, i_3000, i_100000] at *; omega)]; exact ⟨rfl, g1, hh.tr g2⟩)
    · refine v_aload_n rfl rfl ?_
      refine v_bipush (v := (-4)) rfl (by decide) ?_
      refine v_callV rfl (c_X_refuse (-4) (by unfold pm_isR; decide) hR hI) rfl rfl h0 rfl rfl (by omega) (fun rv w1 hq => ?_)
      obtain ⟨rfl, g1, g2⟩ := hq
      exact v_iret rfl (by show pm_PX _ _ _ _; unfold sp_paper; rw [if_pos (by simp only [i_lt, i_le, i_eq, i_0, i_1, i_2, i_3, i_4, i_5, i_12, i_20, i_40, i_99, i_100, i_200, i_500, i_999, i_2000, i_3000, i_100000] at *; omega)]; exact ⟨rfl, g1, hh.tr g2⟩)
set_option maxRecDepth 100000 in
theorem l_M_paper {sc : pm_S} {w : pm_W} {gi : Nat → Int32} {ga : Nat → List Int32} {a b : Int32} (d m : Nat) : ∀ (i : Nat) (u : pm_W) (ys : List Int32), i + m = 400 → (∀ j, j < i → ys[j]? = some 0) → pm_IM gi (pm_uA ga 15 ys) u → pm_lo w u → pm_V sc d 121 48 [.ref 59, .int a, .int b, .int (nI i)] [] u (fun rv w' => rv = some (.int 1) ∧ pm_IM gi (pm_uA ga 15 (List.replicate 400 0)) w' ∧ pm_lo w w') := by
  induction m with
  | zero =>
    intro i u ys hi hv hI hh
    obtain ⟨v4, v5, v6, v14, v35, v39, v40, v42, c4, c5, c6, c35, c42, h59⟩ := hI.2.1 59 (by decide) (by decide)
    obtain ⟨l60, r60, h60⟩ := hI.2.1 60 (by decide) (by decide)
    rw [pm_uA_self] at l60 r60 h60
    refine v_iload_n rfl rfl ?_
    refine v_sipush (v := 400) rfl (by decide) ?_
    refine v_icmp_ge rfl (fun _ => ?_) (fun h => absurd (show (400 : Int32) ≤ nI i from nI_le (a := 400) (by omega) (by omega)) h)
    refine v_iconst (v := 1) rfl (by decide) ?_
    exact v_iret rfl ⟨rfl, (by
      rw [show List.replicate 400 (0 : Int32) = ys from List.ext_getElem? (fun j => by
        by_cases hj : j < 400
        · rw [hv j (by omega), List.getElem?_replicate, if_pos hj]
        · rw [List.getElem?_eq_none (by rw [List.length_replicate]; omega), List.getElem?_eq_none (by omega)])]
      exact hI), hh⟩
  | succ m ih =>
    intro i u ys hi hv hI hh
    obtain ⟨v4, v5, v6, v14, v35, v39, v40, v42, c4, c5, c6, c35, c42, h59⟩ := hI.2.1 59 (by decide) (by decide)
    obtain ⟨l60, r60, h60⟩ := hI.2.1 60 (by decide) (by decide)
    rw [pm_uA_self] at l60 r60 h60
    refine v_iload_n rfl rfl ?_
    refine v_sipush (v := 400) rfl (by decide) ?_
    refine v_icmp_ge rfl (fun h => absurd h (show ¬ (400 : Int32) ≤ nI i from nI_ge (b := 400) (by omega) (by omega))) (fun _ => ?_)
    refine v_aload_n rfl rfl ?_
    refine v_get rfl h59 rfl ?_
    refine v_iload_n rfl rfl ?_
    refine v_iconst (v := 0) rfl (by decide) ?_
    refine v_iastore rfl h60 (nI_pos (by omega)) (by rw [nI_clamp (by omega), l60]; omega) ?_
    rw [nI_clamp (by omega)]
    refine v_forget (P := fun u => pm_IM gi (pm_uA ga 15 (ys.set i 0)) u ∧ pm_lo w u) ⟨(by
      have q := hI.usq (ds := ys.set i 0) (by rw [List.length_set]; exact l60) (pm_rng_set r60 ⟨by decide, by decide⟩)
      rw [pm_uA_uA] at q
      exact q), hh.set (by decide) _⟩ (fun w1 hw1 => ?_)
    obtain ⟨hI, hh⟩ := hw1
    refine v_iinc (v := nI (i + 1)) rfl rfl (i_inc i) ?_
    refine v_goto rfl ?_
    exact ih (i + 1) _ (ys.set i 0) (by omega) (fun j hj => by
      by_cases e : i = j
      · subst e
        rw [List.getElem?_set_self (by omega)]
      · rw [List.getElem?_set_ne e]
        exact hv j (by omega)) hI hh
set_option maxRecDepth 100000 in
theorem c_M_paper {sc : pm_S} {w : pm_W} {gi : Nat → Int32} {ga : Nat → List Int32} (a b : Int32) (hR : pm_Rg gi ga) (hI : pm_IM gi ga w) : pm_Mt sc 1 121 4 [.ref 59, .int a, .int b] w (pm_PM w (sp_paper gi ga a b)) := by
  intro d hd
  show pm_V sc d 121 0 _ [] w _
  have hh : pm_lo w w := pm_lo.rf
  obtain ⟨v4, v5, v6, v14, v35, v39, v40, v42, c4, c5, c6, c35, c42, h59⟩ := hI.2.1 59 (by decide) (by decide)
  refine v_iload_n rfl rfl ?_
  refine v_iconst (v := 1) rfl (by decide) ?_
  refine v_icmp_lt rfl (fun t2 => ?_) (fun t2 => ?_)
  · refine v_aload_n rfl rfl ?_
    refine v_bipush (v := (-4)) rfl (by decide) ?_
    refine v_callV rfl (c_M_refuse (-4) (by unfold pm_isR; decide) hR hI) rfl rfl h59 rfl rfl (by omega) (fun rv w1 hq => ?_)
    obtain ⟨rfl, g1, g2⟩ := hq
    exact v_iret rfl (by show pm_PM _ _ _ _; unfold sp_paper; rw [if_pos (by simp only [i_lt, i_le, i_eq, i_0, i_1, i_2, i_3, i_4, i_5, i_12, i_20, i_40, i_99, i_100, i_200, i_500, i_999, i_2000, i_3000, i_100000] at *; omega)]; exact ⟨rfl, g1, hh.tr g2⟩)
  · refine v_iload_n rfl rfl ?_
    refine v_iconst (v := 1) rfl (by decide) ?_
    refine v_icmp_ge rfl (fun t7 => ?_) (fun t7 => ?_)
    · refine v_iload_n rfl rfl ?_
      refine v_bipush (v := 20) rfl (by decide) ?_
      refine v_icmp_gt rfl (fun t20 => ?_) (fun t20 => ?_)
      · refine v_aload_n rfl rfl ?_
        refine v_bipush (v := (-6)) rfl (by decide) ?_
        refine v_callV rfl (c_M_refuse (-6) (by unfold pm_isR; decide) hR hI) rfl rfl h59 rfl rfl (by omega) (fun rv w1 hq => ?_)
        obtain ⟨rfl, g1, g2⟩ := hq
        exact v_iret rfl (by show pm_PM _ _ _ _; unfold sp_paper; rw [if_neg (by simp only [i_lt, i_le, i_eq, i_0, i_1, i_2, i_3, i_4, i_5, i_12, i_20, i_40, i_99, i_100, i_200, i_500, i_999, i_2000, i_3000, i_100000] at *; omega), if_pos (by simp only [i_lt, i_le, i_eq, i_0, i_1, i_2, i_3, i_4, i_5, i_12, i_20, i_40, i_99, i_100, i_200, i_500, i_999, i_2000, i_3000, i_100000] at *; omega)]; exact ⟨rfl, g1, hh.tr g2⟩)
      · refine v_iload_n rfl rfl ?_
        refine v_bipush (v := 20) rfl (by decide) ?_
        refine v_icmp_le rfl (fun t26 => ?_) (fun t26 => ?_)
        · refine v_aload_n rfl rfl ?_
          refine v_iload_n rfl rfl ?_
          refine v_put rfl h59 rfl (Nat.le_of_ble_eq_true rfl) ?_
          refine v_forget (P := fun u => pm_IM (pm_uI gi 0 a) (ga) u ∧ pm_lo w u) ⟨hI.uI 59 0 (by decide +kernel) (by decide +kernel) (by decide +kernel) (by decide +kernel) (by decide +kernel) ⟨_, _, _, _, _, _, _, _, c4, c5, c6, c35, c42, rfl⟩, hh.set (by decide) _⟩ (fun w1 hw1 => ?_)
          obtain ⟨hI, hh⟩ := hw1
          obtain ⟨v4, v5, v6, v14, v35, v39, v40, v42, c4, c5, c6, c35, c42, h59⟩ := hI.2.1 59 (by decide) (by decide)
          refine v_aload_n rfl rfl ?_
          refine v_iload_n rfl rfl ?_
          refine v_put rfl h59 rfl (Nat.le_of_ble_eq_true rfl) ?_
          refine v_forget (P := fun u => pm_IM (pm_uI (pm_uI gi 0 a) 1 b) (ga) u ∧ pm_lo w u) ⟨hI.uI 59 1 (by decide +kernel) (by decide +kernel) (by decide +kernel) (by decide +kernel) (by decide +kernel) ⟨_, _, _, _, _, _, _, _, c4, c5, c6, c35, c42, rfl⟩, hh.set (by decide) _⟩ (fun w1 hw1 => ?_)
          obtain ⟨hI, hh⟩ := hw1
          refine v_iconst (v := 0) rfl (by decide) ?_
          refine v_istore_n rfl (Nat.le_of_ble_eq_true rfl) ?_
          refine v_weak (l_M_paper (w := w) (ga := ga) d 400 0 _ (ga 15) (by omega) (fun j hj => absurd hj (by omega)) (by rw [pm_uA_id]; exact hI) hh) (fun rv w2 hq => ?_)
          show pm_PM _ _ _ _
          unfold sp_paper
          rw [if_neg (by simp only [i_lt, i_le, i_eq, i_0, i_1, i_2, i_3, i_4, i_5, i_12, i_20, i_40, i_99, i_100, i_200, i_500, i_999, i_2000, i_3000, i_100000] at *; omega), if_neg (by simp only [i_lt, i_le, i_eq, i_0, i_1, i_2, i_3, i_4, i_5, i_12, i_20, i_40, i_99, i_100, i_200, i_500, i_999, i_2000, i_3000, i_100000] at *; omega)]
          exact hq
        · refine v_aload_n rfl rfl ?_
          refine v_bipush (v := (-6)) rfl (by decide) ?_
          refine v_callV rfl (c_M_refuse (-6) (by unfold pm_isR; decide) hR hI) rfl rfl h59 rfl rfl (by omega) (fun rv w1 hq => ?_)
          obtain ⟨rfl, g1, g2⟩ := hq
          exact v_iret rfl (by show pm_PM _ _ _ _; unfold sp_paper; rw [if_neg (by simp only [i_lt, i_le, i_eq, i_0, i_1, i_2, i_3, i_4, i_5, i_12, i_20, i_40, i_99, i_100, i_200, i_500, i_999, i_2000, i_3000, i_100000] at *; omega), if_pos (by simp only [i_lt, i_le, i_eq, i_0, i_1, i_2, i_3, i_4, i_5, i_12, i_20, i_40, i_99, i_100, i_200, i_500, i_999, i_2000, i_3000, i_100000] at *; omega)]; exact ⟨rfl, g1, hh.tr g2⟩)
    · refine v_aload_n rfl rfl ?_
      refine v_bipush (v := (-4)) rfl (by decide) ?_
      refine v_callV rfl (c_M_refuse (-4) (by unfold pm_isR; decide) hR hI) rfl rfl h59 rfl rfl (by omega) (fun rv w1 hq => ?_)
      obtain ⟨rfl, g1, g2⟩ := hq
      exact v_iret rfl (by show pm_PM _ _ _ _; unfold sp_paper; rw [if_pos (by simp only [i_lt, i_le, i_eq, i_0, i_1, i_2, i_3, i_4, i_5, i_12, i_20, i_40, i_99, i_100, i_200, i_500, i_999, i_2000, i_3000, i_100000] at *; omega)]; exact ⟨rfl, g1, hh.tr g2⟩)

