theorem pm_IX.sheet {gi : Nat → Int32} {ga : Nat → List Int32} {w : pm_W} (h : pm_IX gi ga w) {j : Nat} (hj : j < 4) : w[47 + 3 * j]? = some (.inr (10, [.int ((ga 13).getD j 0), .int ((ga 14).getD j 0), .ref (48 + 3 * j)])) := by
  match j, hj with
  | 0, _ => exact h.2 47 (by decide)
  | 1, _ => exact h.2 50 (by decide)
  | 2, _ => exact h.2 53 (by decide)
  | 3, _ => exact h.2 56 (by decide)
theorem pm_IX.usheet {gi : Nat → Int32} {ga : Nat → List Int32} {w : pm_W} (hI : pm_IX gi ga w) (hR : pm_Rg gi ga) {j : Nat} (hj : j < 4) (h e : Int32) : pm_IX gi (pm_uA (pm_uA ga 13 ((ga 13).set j h)) 14 ((ga 14).set j e)) (w.set (47 + 3 * j) (.inr (10, [.int h, .int e, .ref (48 + 3 * j)]))) := by
  have l7 := hR.l13
  have l8 := hR.l14
  refine ⟨by rw [List.length_set]; exact hI.1, fun k hk => ?_⟩
  have key : ∀ i, i < 4 → pm_cell gi (pm_uA (pm_uA ga 13 ((ga 13).set j h)) 14 ((ga 14).set j e)) (47 + 3 * i) (w.set (47 + 3 * j) (.inr (10, [.int h, .int e, .ref (48 + 3 * j)])))[47 + 3 * i]? := fun i hi => by
    have c : (w.set (47 + 3 * j) (.inr (10, [.int h, .int e, .ref (48 + 3 * j)])) : pm_W)[47 + 3 * i]? = some (.inr (10, [.int (((ga 13).set j h).getD i 0), .int (((ga 14).set j e).getD i 0), .ref (48 + 3 * i)])) := by
      rw [pm_getD_set (by omega), pm_getD_set (by omega)]
      by_cases e1 : j = i
      · subst e1
        rw [List.getElem?_set_self (by rw [hI.1]; omega), if_pos rfl, if_pos rfl]
      · rw [List.getElem?_set_ne (by omega), if_neg e1, if_neg e1]
        exact hI.sheet hi
    match i, hi, c with
    | 0, _, c => exact c
    | 1, _, c => exact c
    | 2, _, c => exact c
    | 3, _, c => exact c
  by_cases h47 : k = 47
  · subst h47; exact key 0 (by omega)
  by_cases h50 : k = 50
  · subst h50; exact key 1 (by omega)
  by_cases h53 : k = 53
  · subst h53; exact key 2 (by omega)
  by_cases h56 : k = 56
  · subst h56; exact key 3 (by omega)
  rw [List.getElem?_set_ne (by omega)]
  have hd : ∀ k, k < 59 → (k = 47 ∨ k = 50 ∨ k = 53 ∨ k = 56 ∨ (¬ 13 ∈ pm_dA k ∧ ¬ 14 ∈ pm_dA k)) := by decide
  have h1 : ¬ 13 ∈ pm_dA k ∧ ¬ 14 ∈ pm_dA k := by
    rcases hd k hk with h | h | h | h | h
    · exact absurd h h47
    · exact absurd h h50
    · exact absurd h h53
    · exact absurd h h56
    · exact h
  refine pm_cell_eq (fun _ _ => rfl) (fun i hi => ?_) (hI.2 k hk)
  have n8 : i ≠ 14 := fun e2 => h1.2 (e2 ▸ hi)
  have n7 : i ≠ 13 := fun e2 => h1.1 (e2 ▸ hi)
  rw [pm_uA_ne n8, pm_uA_ne n7]
set_option maxRecDepth 100000 in
theorem c_become {sc : pm_S} {w : pm_W} {p r q s : Nat} {a b c d0 : Int32} {xs ys : List Int64} (hp : w[p]? = some (.inr (10, [.int a, .int b, .ref r]))) (hr : w[r]? = some (.inl (2, .inr (.inl xs)))) (hq : w[q]? = some (.inr (10, [.int c, .int d0, .ref s]))) (hs : w[s]? = some (.inl (2, .inr (.inl ys)))) (lx : xs.length = 20) (ly : ys.length = 20) (npq : p ≠ q) (npr : p ≠ r) (nps : p ≠ s) (nsr : s ≠ r) : pm_Mt sc 1 66 2 [.ref p, .ref q] w (fun rv w' => rv = none ∧ w' = (w.set p (.inr (10, [.int c, .int d0, .ref r]))).set r (.inl (2, .inr (.inl (pm_cpy ys xs 0 0 20))))) := by
  intro d hd
  show pm_V sc d 66 0 _ [] w _
  refine v_aload_n rfl rfl ?_
  refine v_aload_n rfl rfl ?_
  refine v_get rfl hq rfl ?_
  refine v_put rfl hp rfl (Nat.le_of_ble_eq_true rfl) ?_
  have hp1 : (w.set p (.inr (10, [.int c, .int b, .ref r])) : pm_W)[p]? = some (.inr (10, [.int c, .int b, .ref r])) := List.getElem?_set_self (List.getElem?_eq_some_iff.mp hp).1
  have hq1 : (w.set p (.inr (10, [.int c, .int b, .ref r])) : pm_W)[q]? = _ := (List.getElem?_set_ne npq).trans hq
  show pm_V _ _ _ _ _ _ (w.set p (.inr (10, [.int c, .int b, .ref r])) : pm_W) _
  refine v_aload_n rfl rfl ?_
  refine v_aload_n rfl rfl ?_
  refine v_get rfl hq1 rfl ?_
  refine v_put rfl hp1 rfl (Nat.le_of_ble_eq_true rfl) ?_
  rw [List.set_set]
  have hp2 : (w.set p (.inr (10, [.int c, .int d0, .ref r])) : pm_W)[p]? = some (.inr (10, [.int c, .int d0, .ref r])) := List.getElem?_set_self (List.getElem?_eq_some_iff.mp hp).1
  have hq2 : (w.set p (.inr (10, [.int c, .int d0, .ref r])) : pm_W)[q]? = _ := (List.getElem?_set_ne npq).trans hq
  have hr2 : (w.set p (.inr (10, [.int c, .int d0, .ref r])) : pm_W)[r]? = _ := (List.getElem?_set_ne npr).trans hr
  have hs2 : (w.set p (.inr (10, [.int c, .int d0, .ref r])) : pm_W)[s]? = _ := (List.getElem?_set_ne nps).trans hs
  show pm_V _ _ _ _ _ _ (w.set p (.inr (10, [.int c, .int d0, .ref r])) : pm_W) _
  refine v_aload_n rfl rfl ?_
  refine v_get rfl hq2 rfl ?_
  refine v_iconst (v := 0) rfl (by decide) ?_
  refine v_aload_n rfl rfl ?_
  refine v_get rfl hp2 rfl ?_
  refine v_iconst (v := 0) rfl (by decide) ?_
  refine v_bipush (v := 20) rfl (by decide) ?_
  refine v_copyl rfl hd (by decide) (by decide) (by decide) (by cases hx : Nat.beq s r with | false => rfl | true => exact absurd (Nat.eq_of_beq_eq_true hx) nsr) rfl hs2 hr2 (by rw [ly]; decide) (by rw [lx]; decide) ?_
  exact v_ret rfl ⟨rfl, rfl⟩
theorem pm_sqc {gi : Nat → Int32} {ga : Nat → List Int32} {ds : List Int32} {j k : Nat} (hc : ∀ ga : Nat → List Int32, (ga j).length = 400 → (∀ x ∈ ga j, pm_rng x 0 3) → pm_cell gi ga k (some (.inl (2, .inr (.inl (pm_enc (ga j))))))) (l : ds.length = 400) (r : ∀ x ∈ ds, pm_rng x 0 3) : pm_cell gi (pm_uA ga j ds) k (some (.inl (2, .inr (.inl (pm_enc ds))))) := by
  have q := hc (pm_uA ga j ds) (by rw [pm_uA_self]; exact l) (by rw [pm_uA_self]; exact r)
  rw [pm_uA_self] at q
  exact q
theorem pm_IX.rows {gi : Nat → Int32} {ga : Nat → List Int32} {w : pm_W} (h : pm_IX gi ga w) {j : Nat} (hj : j < 4) : (ga (16 + j)).length = 400 ∧ (∀ x ∈ ga (16 + j), pm_rng x 0 3) ∧ w[48 + 3 * j]? = some (.inl (2, .inr (.inl (pm_enc (ga (16 + j)))))) := by
  match j, hj with
  | 0, _ => exact h.2 48 (by decide)
  | 1, _ => exact h.2 51 (by decide)
  | 2, _ => exact h.2 54 (by decide)
  | 3, _ => exact h.2 57 (by decide)
theorem pm_IX.srows {gi : Nat → Int32} {ga : Nat → List Int32} {w : pm_W} (h : pm_IX gi ga w) {j : Nat} (hj : j < 4) {ds : List Int32} (l : ds.length = 400) (r : ∀ x ∈ ds, pm_rng x 0 3) : pm_IX gi (pm_uA ga (16 + j) ds) (w.set (48 + 3 * j) (.inl (2, .inr (.inl (pm_enc ds))))) := by
  match j, hj with
  | 0, _ => exact h.uA 48 16 (by decide +kernel) (by decide +kernel) (pm_sqc (fun _ a b => ⟨a, b, rfl⟩) l r)
  | 1, _ => exact h.uA 51 17 (by decide +kernel) (by decide +kernel) (pm_sqc (fun _ a b => ⟨a, b, rfl⟩) l r)
  | 2, _ => exact h.uA 54 18 (by decide +kernel) (by decide +kernel) (pm_sqc (fun _ a b => ⟨a, b, rfl⟩) l r)
  | 3, _ => exact h.uA 57 19 (by decide +kernel) (by decide +kernel) (pm_sqc (fun _ a b => ⟨a, b, rfl⟩) l r)
theorem pm_Rg.sqc {gi : Nat → Int32} {ga : Nat → List Int32} (h : pm_Rg gi ga) {j : Nat} (hj : j < 4) {v : List Int32} : pm_Rg gi (pm_uA ga (16 + j) v) := by
  match j, hj with
  | 0, _ => exact h
  | 1, _ => exact h
  | 2, _ => exact h
  | 3, _ => exact h
theorem pm_IX.f20 {gi : Nat → Int32} {ga : Nat → List Int32} {w : pm_W} (h : pm_IX gi ga w) (v : List Int32) : pm_IX gi (pm_uA ga 20 v) w := ⟨h.1, fun k hk => by
  have hd : ∀ k, k < 59 → ¬ 20 ∈ pm_dA k := by decide
  exact pm_cell_eq (fun _ _ => rfl) (fun i hi => pm_uA_ne (fun e => hd k hk (e ▸ hi))) (h.2 k hk)⟩
theorem pm_IX.uhold {gi : Nat → Int32} {ga : Nat → List Int32} {w : pm_W} (hI : pm_IX gi ga w) (hR : pm_Rg gi ga) {j : Nat} (hj : j < 4) (h : Int32) : pm_IX gi (pm_uA ga 7 ((ga 7).set j h)) (w.set (46 + 3 * j) (.inr (1, [.int h, .int ((ga 8).getD j 0), .ref (47 + 3 * j)]))) := by
  have l8 := hR.l8
  have hz := hI.ubeam hR hj h ((ga 8).getD j 0)
  rw [pm_set_same (xs := ga 8) (by omega) rfl] at hz
  have e : pm_uA (pm_uA ga 7 ((ga 7).set j h)) 8 (ga 8) = pm_uA ga 7 ((ga 7).set j h) := by
    funext i
    by_cases e8 : i = 8
    · subst e8; rfl
    · rw [pm_uA_ne e8]
  rw [e] at hz
  exact hz
noncomputable def pm_cd0 (gi : Nat → Int32) (ga : Nat → List Int32) (j : Nat) : Nat → List Int32 := pm_uA (pm_uA (pm_uA ga 13 ((ga 13).set j (gi 0))) 14 ((ga 14).set j (gi 1))) 7 ((ga 7).set j 2)
noncomputable def pm_slice (xs : List Int32) (j : Nat) (ds : List Int32) : List Int32 := xs.take (400 * j) ++ ds ++ xs.drop (400 * j + 400)
noncomputable def pm_cd (gi : Nat → Int32) (ga : Nat → List Int32) (j : Nat) : Nat → List Int32 := pm_uA (pm_uA (pm_cd0 gi ga j) (16 + j) (ga 15)) 20 (pm_slice (ga 20) j (ga 15))
noncomputable def sp_cards (gi : Nat → Int32) (ga : Nat → List Int32) (b : Int32) : pm_G := if ¬ (0 ≤ b.toInt ∧ b.toInt < 4) then pm_no gi ga (-1) else if ¬ (ga 7).getD b.toInt.toNat 0 = 0 then pm_no gi ga (-3) else (1, gi, pm_cd gi ga b.toInt.toNat)
theorem rg_cards {gi : Nat → Int32} {ga : Nat → List Int32} (hR : pm_Rg gi ga) (b : Int32) : pm_RG (sp_cards gi ga b) := by
  unfold sp_cards
  split
  · exact hR
  · split
    · exact hR
    · rename_i hb _
      exact (((hR.s13 hR.n0).s14 hR.n1).s7 (by unfold pm_rng; decide)).sqc (j := b.toInt.toNat) (by omega)
theorem pm_cpy_20 {α : Type} {xs ys : List α} (lx : xs.length = 20) (ly : ys.length = 20) : pm_cpy xs ys 0 0 20 = xs := by
  unfold pm_cpy
  rw [List.take_zero, List.nil_append, List.drop_zero, List.take_of_length_le (by omega), List.drop_eq_nil_of_le (by omega), List.append_nil]
theorem pm_IX.cdx {gi : Nat → Int32} {ga : Nat → List Int32} {w : pm_W} {j : Nat} (hj : j < 4) (h : pm_IX gi (pm_uA (pm_uA (pm_uA (pm_uA ga 13 ((ga 13).set j (gi 0))) 14 ((ga 14).set j (gi 1))) (16 + j) (ga 15)) 7 (((pm_uA (pm_uA (pm_uA ga 13 ((ga 13).set j (gi 0))) 14 ((ga 14).set j (gi 1))) (16 + j) (ga 15)) 7).set j 2)) w) : pm_IX gi (pm_cd gi ga j) w := by
  rw [pm_uA_ne (i := 7) (j := 16 + j) (by omega), show pm_uA (pm_uA ga 13 ((ga 13).set j (gi 0))) 14 ((ga 14).set j (gi 1)) 7 = ga 7 from rfl, pm_uA_comm (show 16 + j ≠ 7 by omega)] at h
  exact h.f20 _
set_option maxRecDepth 100000 in
theorem c_holdCards {sc : pm_S} {w : pm_W} {gi : Nat → Int32} {ga : Nat → List Int32} {j : Nat} (hj : j < 4) (hR : pm_Rg gi ga) (hI : pm_IX gi ga w) : pm_Mt sc 2 5 2 [.ref (46 + 3 * j), .ref 1] w (fun rv w' => rv = none ∧ pm_IX gi (pm_cd gi ga j) w' ∧ pm_hi w w') := by
  intro d hd
  show pm_V sc d 5 0 _ [] w _
  have hh : pm_hi w w := pm_hi.rf
  have hbm := hI.beam hj
  have hsh := hI.sheet hj
  obtain ⟨lrw, rrw, hrw⟩ := hI.rows hj
  have h1 : _ = some _ := hI.2 1 (by decide)
  obtain ⟨l2, r2, h2⟩ := hI.2 2 (by decide)
  refine v_aload_n rfl rfl ?_
  refine v_get rfl hbm rfl ?_
  refine v_aload_n rfl rfl ?_
  refine v_callV rfl (c_become hsh hrw h1 h2 pm_enc_len pm_enc_len (by omega) (by omega) (by omega) (by omega)) rfl rfl hsh rfl rfl (by omega) (fun rv w1 hq => ?_)
  obtain ⟨rfl, rfl⟩ := hq
  refine v_forget (P := fun u => pm_IX gi (pm_uA (pm_uA (pm_uA ga 13 ((ga 13).set j (gi 0))) 14 ((ga 14).set j (gi 1))) (16 + j) (ga 15)) u ∧ pm_hi w u) ⟨(by rw [pm_cpy_20 pm_enc_len pm_enc_len]; exact (hI.usheet hR hj (gi 0) (gi 1)).srows hj l2 r2), (hh.set (by omega) _).set (by omega) _⟩ (fun w1 hw1 => ?_)
  obtain ⟨hI, hh⟩ := hw1
  have hbm := hI.beam hj
  have hR2 : pm_Rg gi (pm_uA (pm_uA (pm_uA ga 13 ((ga 13).set j (gi 0))) 14 ((ga 14).set j (gi 1))) (16 + j) (ga 15)) := ((hR.s13 hR.n0).s14 hR.n1).sqc hj
  refine v_aload_n rfl rfl ?_
  refine v_iconst (v := 2) rfl (by decide) ?_
  refine v_put rfl hbm rfl (Nat.le_of_ble_eq_true rfl) ?_
  exact v_ret rfl ⟨rfl, pm_IX.cdx hj (hI.uhold hR2 hj 2), hh.set (by omega) _⟩
set_option maxRecDepth 100000 in
theorem c_X_cards {sc : pm_S} {w : pm_W} {gi : Nat → Int32} {ga : Nat → List Int32} (b : Int32) (hR : pm_Rg gi ga) (hI : pm_IX gi ga w) : pm_Mt sc 3 101 2 [.ref 0, .int b] w (pm_PX w (sp_cards gi ga b)) := by
  intro d hd
  show pm_V sc d 101 0 _ [] w _
  have hh : pm_hi w w := pm_hi.rf
  obtain ⟨v6, c6, h0⟩ := hI.2 0 (by decide)
  have h45 : _ = some _ := hI.2 45 (by decide)
  refine v_iload_n rfl rfl ?_
  refine v_iconst (v := 4) rfl (by decide) ?_
  refine v_callS rfl (c_isPlace b 4 w) rfl rfl rfl rfl rfl (by omega) (fun rv w1 hq => ?_)
  obtain ⟨rfl, rfl⟩ := hq
  by_cases ha : 0 ≤ b.toInt ∧ b.toInt < 4
  · rw [pm_b_1 (show 0 ≤ b.toInt ∧ b.toInt < (4 : Int32).toInt from ha)]
    refine v_if_ne rfl (fun _ => ?_) (fun h => absurd h (by decide))
    have hj : b.toInt.toNat < 4 := by omega
    have hbr : ([some 46, some 49, some 52, some 55] : List (Option Nat))[b.toNatClampNeg]? = some (some (46 + 3 * b.toInt.toNat)) := by rw [i_nI ha.1, nI_toInt (by omega)]; exact pm_bref hj
    have hbm := hI.beam hj
    refine v_aload_n rfl rfl ?_
    refine v_get rfl h0 rfl ?_
    refine v_iload_n rfl rfl ?_
    refine v_aaload rfl h45 (by rw [i_lt, i_0]; omega) hbr ?_
    refine v_get rfl hbm rfl ?_
    refine v_if_eq rfl (fun t23 => ?_) (fun t23 => ?_)
    · refine v_aload_n rfl rfl ?_
      refine v_get rfl h0 rfl ?_
      refine v_iload_n rfl rfl ?_
      refine v_aaload rfl h45 (by rw [i_lt, i_0]; omega) hbr ?_
      refine v_aload_n rfl rfl ?_
      refine v_get rfl h0 rfl ?_
      refine v_callV rfl (c_holdCards hj hR hI) rfl rfl hbm rfl rfl (by omega) (fun rv w1 hq => ?_)
      obtain ⟨rfl, g1, g2⟩ := hq
      refine v_iconst (v := 1) rfl (by decide) ?_
      exact v_iret rfl (by show pm_PX _ _ _ _; unfold sp_cards; rw [if_neg (fun h => h ha), if_neg (fun h => h t23)]; exact ⟨rfl, g1, hh.tr g2⟩)
    · refine v_aload_n rfl rfl ?_
      refine v_bipush (v := (-3)) rfl (by decide) ?_
      refine v_callV rfl (c_X_refuse (-3) (by unfold pm_isR; decide) hR hI) rfl rfl h0 rfl rfl (by omega) (fun rv w1 hq => ?_)
      obtain ⟨rfl, g1, g2⟩ := hq
      exact v_iret rfl (by show pm_PX _ _ _ _; unfold sp_cards; rw [if_neg (fun h => h ha), if_pos t23]; exact ⟨rfl, g1, hh.tr g2⟩)
  · rw [pm_b_0 (show ¬ (0 ≤ b.toInt ∧ b.toInt < (4 : Int32).toInt) from ha)]
    refine v_if_ne rfl (fun h => absurd h (by decide)) (fun _ => ?_)
    refine v_aload_n rfl rfl ?_
    refine v_iconst (v := (-1)) rfl (by decide) ?_
    refine v_callV rfl (c_X_refuse (-1) (by unfold pm_isR; decide) hR hI) rfl rfl h0 rfl rfl (by omega) (fun rv w1 hq => ?_)
    obtain ⟨rfl, g1, g2⟩ := hq
    exact v_iret rfl (by show pm_PX _ _ _ _; unfold sp_cards; rw [if_pos ha]; exact ⟨rfl, g1, hh.tr g2⟩)

