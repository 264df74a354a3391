noncomputable def pm_fo (ds : List Int32) (day init : Int32) : Nat → Int32
  | 0 => init
  | k + 1 => if ds.getD k 0 ≤ day ∧ (pm_fo ds day init k < 0 ∨ ds.getD (pm_fo ds day init k).toNatClampNeg 0 ≤ ds.getD k 0) then nI k else pm_fo ds day init k
theorem pm_fo_rng {ds : List Int32} {day init : Int32} (hi : init.toInt < 0) : ∀ k, k < 1000 → (pm_fo ds day init k).toInt < k
  | 0, _ => by simpa [pm_fo] using hi
  | k + 1, h => by
    have ih := pm_fo_rng (ds := ds) (day := day) hi k (by omega)
    unfold pm_fo
    split
    · rw [nI_toInt (by omega)]; omega
    · omega
theorem i_inc (i : Nat) : nI i + Int32.ofInt 1 = nI (i + 1) := by
  rw [show Int32.ofInt 1 = 1 from by decide]
  exact nI_1 i
theorem i_nI {x : Int32} (h : 0 ≤ x.toInt) : x = nI x.toInt.toNat := by
  obtain ⟨j, hj, rfl⟩ := nI_of (x := x) (by rw [i_lt, i_0]; omega)
  rw [nI_toInt hj]
  rfl
/-- both sides: none, or the same -/
theorem pm_fo_two {ds : List Int32} {day : Int32} : ∀ k, k < 1000 → ((pm_fo ds day (-9) k).toInt < 0 ∧ (pm_fo ds day (-1) k).toInt < 0) ∨ pm_fo ds day (-9) k = pm_fo ds day (-1) k
  | 0, _ => Or.inl ⟨show (-9 : Int32).toInt < 0 by decide, show (-1 : Int32).toInt < 0 by decide⟩
  | k + 1, h => by
    have ih := pm_fo_two (ds := ds) (day := day) k (by omega)
    unfold pm_fo
    rcases ih with ⟨h1, h2⟩ | ih
    · have g1 : pm_fo ds day (-9) k < 0 := by rw [i_lt, i_0]; exact h1
      have g2 : pm_fo ds day (-1) k < 0 := by rw [i_lt, i_0]; exact h2
      simp only [g1, g2, true_or, and_true]
      split
      · exact Or.inr rfl
      · exact Or.inl ⟨h1, h2⟩
    · rw [ih]
      exact Or.inr rfl
set_option maxRecDepth 100000 in
theorem l_X7_inForceOn {sc : pm_S} {w : pm_W} {gi : Nat → Int32} {ga : Nat → List Int32} {day : Int32} {N : Nat} (hN : gi 8 = nI N) (hN2 : N ≤ 20) (hR : pm_Rg gi ga) (hI : pm_IX gi ga w) (d m : Nat) : ∀ i, i + m = N → pm_V sc d 45 5 [.ref 37, .int day, .int (pm_fo (ga 6) day (-9) i), .int (nI i)] [] w (fun rv w' => w = w' ∧ rv = some (.int (pm_fo (ga 6) day (-9) N))) := by
  have q6 := hR.l6
  have h37 : _ = some _ := hI.2 37 (by decide)
  have h40 : _ = some _ := hI.2 40 (by decide)
  rw [hN] at h37
  induction m with
  | zero =>
    intro i hi
    have rr := pm_fo_rng (ds := ga 6) (day := day) (init := -9) (by decide) i (by omega)
    refine v_iload_n rfl rfl ?_
    refine v_aload_n rfl rfl ?_
    refine v_get rfl h37 rfl ?_
    refine v_icmp_ge rfl (fun _ => ?_) (fun h => absurd (nI_le (by omega) (by omega)) h)
    refine v_iload_n rfl rfl ?_
    exact v_iret rfl ⟨rfl, by rw [show i = N by omega]⟩
  | succ m ih =>
    intro i hi
    have rr := pm_fo_rng (ds := ga 6) (day := day) (init := -9) (by decide) i (by omega)
    refine v_iload_n rfl rfl ?_
    refine v_aload_n rfl rfl ?_
    refine v_get rfl h37 rfl ?_
    refine v_icmp_ge rfl (fun h => absurd h (nI_ge (by omega) (by omega))) (fun _ => ?_)
    refine v_aload_n rfl rfl ?_
    refine v_get rfl h37 rfl ?_
    refine v_iload_n rfl rfl ?_
    refine v_iaload rfl h40 (nI_pos (by omega)) (by rw [nI_clamp (by omega)]; exact pm_gD (d := 0) (by rw [q6]; omega)) ?_
    refine v_iload_n rfl rfl ?_
    refine v_icmp_gt rfl (fun t20 => ?_) (fun t20 => ?_)
    · refine v_iinc (v := nI (i + 1)) rfl rfl (i_inc i) ?_
      refine v_goto rfl ?_
      first
        | (have e : pm_fo (ga 6) day (-9) (i + 1) = nI i := by
            unfold pm_fo
            exact if_pos (by simp only [i_lt, i_le, i_0] at *; omega)
           have z := ih (i + 1) (by omega)
           rw [e] at z
           exact z)
        | (have e : pm_fo (ga 6) day (-9) (i + 1) = pm_fo (ga 6) day (-9) i := by
            rw [pm_fo]
            exact if_neg (by simp only [i_lt, i_le, i_0] at *; omega)
           have z := ih (i + 1) (by omega)
           rw [e] at z
           exact z)
    · refine v_iload_n rfl rfl ?_
      refine v_if_lt rfl (fun t24 => ?_) (fun t24 => ?_)
      · refine v_iload_n rfl rfl ?_
        refine v_istore_n rfl (Nat.le_of_ble_eq_true rfl) ?_
        refine v_iinc (v := nI (i + 1)) rfl rfl (i_inc i) ?_
        refine v_goto rfl ?_
        first
          | (have e : pm_fo (ga 6) day (-9) (i + 1) = nI i := by
              unfold pm_fo
              exact if_pos (by simp only [i_lt, i_le, i_0] at *; omega)
             have z := ih (i + 1) (by omega)
             rw [e] at z
             exact z)
          | (have e : pm_fo (ga 6) day (-9) (i + 1) = pm_fo (ga 6) day (-9) i := by
              rw [pm_fo]
              exact if_neg (by simp only [i_lt, i_le, i_0] at *; omega)
             have z := ih (i + 1) (by omega)
             rw [e] at z
             exact z)
      · refine v_aload_n rfl rfl ?_
        refine v_get rfl h37 rfl ?_
        refine v_iload_n rfl rfl ?_
        refine v_iaload rfl h40 (nI_pos (by omega)) (by rw [nI_clamp (by omega)]; exact pm_gD (d := 0) (by rw [q6]; omega)) ?_
        refine v_aload_n rfl rfl ?_
        refine v_get rfl h37 rfl ?_
        refine v_iload_n rfl rfl ?_
        refine v_iaload rfl h40 (by assumption) (pm_gD (d := 0) (by rw [q6, i_cl]; simp only [i_lt, i_0] at *; omega)) ?_
        refine v_icmp_lt rfl (fun t39 => ?_) (fun t39 => ?_)
        · refine v_iinc (v := nI (i + 1)) rfl rfl (i_inc i) ?_
          refine v_goto rfl ?_
          first
            | (have e : pm_fo (ga 6) day (-9) (i + 1) = nI i := by
                unfold pm_fo
                exact if_pos (by simp only [i_lt, i_le, i_0] at *; omega)
               have z := ih (i + 1) (by omega)
               rw [e] at z
               exact z)
            | (have e : pm_fo (ga 6) day (-9) (i + 1) = pm_fo (ga 6) day (-9) i := by
                rw [pm_fo]
                exact if_neg (by simp only [i_lt, i_le, i_0] at *; omega)
               have z := ih (i + 1) (by omega)
               rw [e] at z
               exact z)
        · refine v_iload_n rfl rfl ?_
          refine v_istore_n rfl (Nat.le_of_ble_eq_true rfl) ?_
          refine v_iinc (v := nI (i + 1)) rfl rfl (i_inc i) ?_
          refine v_goto rfl ?_
          first
            | (have e : pm_fo (ga 6) day (-9) (i + 1) = nI i := by
                unfold pm_fo
                exact if_pos (by simp only [i_lt, i_le, i_0] at *; omega)
               have z := ih (i + 1) (by omega)
               rw [e] at z
               exact z)
            | (have e : pm_fo (ga 6) day (-9) (i + 1) = pm_fo (ga 6) day (-9) i := by
                rw [pm_fo]
                exact if_neg (by simp only [i_lt, i_le, i_0] at *; omega)
               have z := ih (i + 1) (by omega)
               rw [e] at z
               exact z)
set_option maxRecDepth 100000 in
theorem c_X7_inForceOn {sc : pm_S} {w : pm_W} {gi : Nat → Int32} {ga : Nat → List Int32} {N : Nat} (hN : gi 8 = nI N) (hN2 : N ≤ 20) (hR : pm_Rg gi ga) (hI : pm_IX gi ga w) (day : Int32) : pm_Mt sc 0 45 4 [.ref 37, .int day] w (fun rv w' => w = w' ∧ rv = some (.int (pm_fo (ga 6) day (-9) N))) := by
  intro d hd
  show pm_V sc d 45 0 _ [] w _
  refine v_bipush (v := (-9)) rfl (by decide) ?_
  refine v_istore_n rfl (Nat.le_of_ble_eq_true rfl) ?_
  refine v_iconst (v := 0) rfl (by decide) ?_
  refine v_istore_n rfl (Nat.le_of_ble_eq_true rfl) ?_
  exact l_X7_inForceOn hN hN2 hR hI d N 0 (by omega)
set_option maxRecDepth 100000 in
theorem l_X12_lawAt {sc : pm_S} {w : pm_W} {gi : Nat → Int32} {ga : Nat → List Int32} {day : Int32} {N : Nat} (hN : gi 8 = nI N) (hN2 : N ≤ 20) (hR : pm_Rg gi ga) (hI : pm_IM gi ga w) (d m : Nat) : ∀ i, i + m = N → pm_V sc d 168 4 [.ref 59, .int day, .int (pm_fo (ga 6) day (-1) i), .int (nI i)] [] w (fun rv w' => w = w' ∧ rv = some (.int (pm_fo (ga 6) day (-1) N))) := by
  have q6 := hR.l6
  obtain ⟨v4, v5, v6, v14, v35, v39, v40, v42, c4, c5, c6, c35, c42, h59⟩ := hI.2.1 59 (by decide) (by decide)
  have h70 : _ = some _ := hI.2.1 70 (by decide) (by decide)
  rw [hN] at h59
  induction m with
  | zero =>
    intro i hi
    have rr := pm_fo_rng (ds := ga 6) (day := day) (init := -1) (by decide) i (by omega)
    refine v_iload_n rfl rfl ?_
    refine v_aload_n rfl rfl ?_
    refine v_get rfl h59 rfl ?_
    refine v_icmp_ge rfl (fun _ => ?_) (fun h => absurd (nI_le (by omega) (by omega)) h)
    refine v_iload_n rfl rfl ?_
    exact v_iret rfl ⟨rfl, by rw [show i = N by omega]⟩
  | succ m ih =>
    intro i hi
    have rr := pm_fo_rng (ds := ga 6) (day := day) (init := -1) (by decide) i (by omega)
    refine v_iload_n rfl rfl ?_
    refine v_aload_n rfl rfl ?_
    refine v_get rfl h59 rfl ?_
    refine v_icmp_ge rfl (fun h => absurd h (nI_ge (by omega) (by omega))) (fun _ => ?_)
    refine v_aload_n rfl rfl ?_
    refine v_get rfl h59 rfl ?_
    refine v_iload_n rfl rfl ?_
    refine v_iaload rfl h70 (nI_pos (by omega)) (by rw [nI_clamp (by omega)]; exact pm_gD (d := 0) (by rw [q6]; omega)) ?_
    refine v_iload_n rfl rfl ?_
    refine v_icmp_gt rfl (fun t19 => ?_) (fun t19 => ?_)
    · refine v_iload_n rfl rfl ?_
      refine v_istore_n rfl (Nat.le_of_ble_eq_true rfl) ?_
      refine v_iinc (v := nI (i + 1)) rfl rfl (i_inc i) ?_
      refine v_goto rfl ?_
      first
        | (have e : pm_fo (ga 6) day (-1) (i + 1) = nI i := by
            unfold pm_fo
            exact if_pos (by simp only [i_lt, i_le, i_0] at *; omega)
           have z := ih (i + 1) (by omega)
           rw [e] at z
           exact z)
        | (have e : pm_fo (ga 6) day (-1) (i + 1) = pm_fo (ga 6) day (-1) i := by
            rw [pm_fo]
            exact if_neg (by simp only [i_lt, i_le, i_0] at *; omega)
           have z := ih (i + 1) (by omega)
           rw [e] at z
           exact z)
    · refine v_iload_n rfl rfl ?_
      refine v_if_lt rfl (fun t23 => ?_) (fun t23 => ?_)
      · refine v_iload_n rfl rfl ?_
        refine v_goto rfl ?_
        refine v_istore_n rfl (Nat.le_of_ble_eq_true rfl) ?_
        refine v_iinc (v := nI (i + 1)) rfl rfl (i_inc i) ?_
        refine v_goto rfl ?_
        first
          | (have e : pm_fo (ga 6) day (-1) (i + 1) = nI i := by
              unfold pm_fo
              exact if_pos (by simp only [i_lt, i_le, i_0] at *; omega)
             have z := ih (i + 1) (by omega)
             rw [e] at z
             exact z)
          | (have e : pm_fo (ga 6) day (-1) (i + 1) = pm_fo (ga 6) day (-1) i := by
              rw [pm_fo]
              exact if_neg (by simp only [i_lt, i_le, i_0] at *; omega)
             have z := ih (i + 1) (by omega)
             rw [e] at z
             exact z)
      · refine v_aload_n rfl rfl ?_
        refine v_get rfl h59 rfl ?_
        refine v_iload_n rfl rfl ?_
        refine v_iaload rfl h70 (nI_pos (by omega)) (by rw [nI_clamp (by omega)]; exact pm_gD (d := 0) (by rw [q6]; omega)) ?_
        refine v_aload_n rfl rfl ?_
        refine v_get rfl h59 rfl ?_
        refine v_iload_n rfl rfl ?_
        refine v_iaload rfl h70 (by assumption) (pm_gD (d := 0) (by rw [q6, i_cl]; simp only [i_lt, i_0] at *; omega)) ?_
        refine v_icmp_lt rfl (fun t38 => ?_) (fun t38 => ?_)
        · refine v_iload_n rfl rfl ?_
          refine v_istore_n rfl (Nat.le_of_ble_eq_true rfl) ?_
          refine v_iinc (v := nI (i + 1)) rfl rfl (i_inc i) ?_
          refine v_goto rfl ?_
          first
            | (have e : pm_fo (ga 6) day (-1) (i + 1) = nI i := by
                unfold pm_fo
                exact if_pos (by simp only [i_lt, i_le, i_0] at *; omega)
               have z := ih (i + 1) (by omega)
               rw [e] at z
               exact z)
            | (have e : pm_fo (ga 6) day (-1) (i + 1) = pm_fo (ga 6) day (-1) i := by
                rw [pm_fo]
                exact if_neg (by simp only [i_lt, i_le, i_0] at *; omega)
               have z := ih (i + 1) (by omega)
               rw [e] at z
               exact z)
        · refine v_iload_n rfl rfl ?_
          refine v_goto rfl ?_
          refine v_istore_n rfl (Nat.le_of_ble_eq_true rfl) ?_
          refine v_iinc (v := nI (i + 1)) rfl rfl (i_inc i) ?_
          refine v_goto rfl ?_
          first
            | (have e : pm_fo (ga 6) day (-1) (i + 1) = nI i := by
                unfold pm_fo
                exact if_pos (by simp only [i_lt, i_le, i_0] at *; omega)
               have z := ih (i + 1) (by omega)
               rw [e] at z
               exact z)
            | (have e : pm_fo (ga 6) day (-1) (i + 1) = pm_fo (ga 6) day (-1) i := by
                rw [pm_fo]
                exact if_neg (by simp only [i_lt, i_le, i_0] at *; omega)
               have z := ih (i + 1) (by omega)
               rw [e] at z
               exact z)
set_option maxRecDepth 100000 in
theorem c_X12_lawAt {sc : pm_S} {w : pm_W} {gi : Nat → Int32} {ga : Nat → List Int32} {N : Nat} (hN : gi 8 = nI N) (hN2 : N ≤ 20) (hR : pm_Rg gi ga) (hI : pm_IM gi ga w) (day : Int32) : pm_Mt sc 0 168 4 [.ref 59, .int day] w (fun rv w' => w = w' ∧ rv = some (.int (pm_fo (ga 6) day (-1) N))) := by
  intro d hd
  show pm_V sc d 168 0 _ [] w _
  refine v_iconst (v := (-1)) rfl (by decide) ?_
  refine v_istore_n rfl (Nat.le_of_ble_eq_true rfl) ?_
  refine v_iconst (v := 0) rfl (by decide) ?_
  refine v_istore_n rfl (Nat.le_of_ble_eq_true rfl) ?_
  exact l_X12_lawAt hN hN2 hR hI d N 0 (by omega)

