noncomputable def pm_dx (rs ss : List Int64) (y : Int32) : Nat → Nat → Int32 → Int32
  | 0, _, c => c
  | m + 1, x, c => pm_dx rs ss y m (x + 1) (if pm_col rs (nI x) y = pm_col ss (nI x) y then c else c + 1)
set_option maxRecDepth 100000 in
theorem l_diff {sc : pm_S} {w : pm_W} {Q : Option Value → pm_W → Prop} {p r q s A : Nat} {b e f : Int32} {rs ss : List Int64} (hp : w[p]? = some (.inr (10, [.int (nI A), .int b, .ref r]))) (hr : w[r]? = some (.inl (2, .inr (.inl rs)))) (lr : rs.length = 20) (hq : w[q]? = some (.inr (10, [.int e, .int f, .ref s]))) (hs : w[s]? = some (.inl (2, .inr (.inl ss)))) (ls : ss.length = 20) (hA : A ≤ 20) (y : Int32) (y0 : 0 ≤ y.toInt) (y1 : y.toInt < 20) (d m : Nat) (hd : 1 ≤ d) : ∀ (x : Nat) (c : Int32), x + m = A → pm_V sc d 68 50 [.ref p, .ref q, .int (pm_dx rs ss y m x c), .int y, .int (nI A)] [] w Q → pm_V sc d 68 15 [.ref p, .ref q, .int c, .int y, .int (nI x)] [] w Q := by
  induction m with
  | zero =>
    intro x c hx k
    refine v_iload rfl rfl ?_
    refine v_aload_n rfl rfl ?_
    refine v_get rfl hp rfl ?_
    refine v_icmp_ge rfl (fun _ => ?_) (fun h => absurd (nI_le (by omega) (by omega)) h)
    obtain rfl : x = A := by omega
    exact k
  | succ m ih =>
    intro x c hx k
    refine v_iload rfl rfl ?_
    refine v_aload_n rfl rfl ?_
    refine v_get rfl hp rfl ?_
    refine v_icmp_ge rfl (fun h => absurd h (nI_ge (by omega) (by omega))) (fun _ => ?_)
    refine v_aload_n rfl rfl ?_
    refine v_iload rfl rfl ?_
    refine v_iload_n rfl rfl ?_
    refine v_callV rfl (c_colourAt hp hr lr (nI x) y y0 y1) rfl rfl hp rfl rfl (by omega) (fun rv w1 hq => ?_)
    obtain ⟨rfl, rfl⟩ := hq
    refine v_aload_n rfl rfl ?_
    refine v_iload rfl rfl ?_
    refine v_iload_n rfl rfl ?_
    refine v_callV rfl (c_colourAt hq hs ls (nI x) y y0 y1) rfl rfl hq rfl rfl (by omega) (fun rv w1 hq => ?_)
    obtain ⟨rfl, rfl⟩ := hq
    refine v_icmp_eq rfl (fun t38 => ?_) (fun t38 => ?_)
    · refine v_iinc (v := nI (x + 1)) rfl rfl (i_inc x) ?_
      refine v_goto rfl ?_
      first
      | exact ih (x + 1) _ (by omega) (by rw [show pm_dx rs ss y (m + 1) x c = pm_dx rs ss y m (x + 1) c from congrArg (pm_dx rs ss y m (x + 1)) (if_pos t38)] at k; exact k)
      | exact ih (x + 1) _ (by omega) (by rw [show pm_dx rs ss y (m + 1) x c = pm_dx rs ss y m (x + 1) (c + 1) from congrArg (pm_dx rs ss y m (x + 1)) (if_neg t38)] at k; exact k)
    · refine v_iinc (v := c + 1) rfl rfl rfl ?_
      refine v_iinc (v := nI (x + 1)) rfl rfl (i_inc x) ?_
      refine v_goto rfl ?_
      first
      | exact ih (x + 1) _ (by omega) (by rw [show pm_dx rs ss y (m + 1) x c = pm_dx rs ss y m (x + 1) c from congrArg (pm_dx rs ss y m (x + 1)) (if_pos t38)] at k; exact k)
      | exact ih (x + 1) _ (by omega) (by rw [show pm_dx rs ss y (m + 1) x c = pm_dx rs ss y m (x + 1) (c + 1) from congrArg (pm_dx rs ss y m (x + 1)) (if_neg t38)] at k; exact k)
noncomputable def pm_dy (rs ss : List Int64) (A : Nat) : Nat → Nat → Int32 → Int32
  | 0, _, c => c
  | m + 1, y, c => pm_dy rs ss A m (y + 1) (pm_dx rs ss (nI y) A 0 c)
set_option maxRecDepth 100000 in
theorem l_diff2 {sc : pm_S} {w : pm_W} {p r q s A H : Nat} {e f : Int32} {rs ss : List Int64} (hp : w[p]? = some (.inr (10, [.int (nI A), .int (nI H), .ref r]))) (hr : w[r]? = some (.inl (2, .inr (.inl rs)))) (lr : rs.length = 20) (hq : w[q]? = some (.inr (10, [.int e, .int f, .ref s]))) (hs : w[s]? = some (.inl (2, .inr (.inl ss)))) (ls : ss.length = 20) (hA : A ≤ 20) (hH : H ≤ 20) (d m : Nat) (hd : 1 ≤ d) : ∀ (y : Nat) (c : Int32) (z : Value), y + m = H → pm_V sc d 68 4 [.ref p, .ref q, .int c, .int (nI y), z] [] w (fun rv w' => w = w' ∧ rv = some (.int (pm_dy rs ss A m y c))) := by
  induction m with
  | zero =>
    intro y c z hy
    refine v_iload_n rfl rfl ?_
    refine v_aload_n rfl rfl ?_
    refine v_get rfl hp rfl ?_
    refine v_icmp_ge rfl (fun _ => ?_) (fun h => absurd (nI_le (by omega) (by omega)) h)
    refine v_iload_n rfl rfl ?_
    exact v_iret rfl ⟨rfl, rfl⟩
  | succ m ih =>
    intro y c z hy
    refine v_iload_n rfl rfl ?_
    refine v_aload_n rfl rfl ?_
    refine v_get rfl hp rfl ?_
    refine v_icmp_ge rfl (fun h => absurd h (nI_ge (by omega) (by omega))) (fun _ => ?_)
    refine v_iconst (v := 0) rfl (by decide) ?_
    refine v_istore rfl (Nat.le_of_ble_eq_true rfl) ?_
    refine l_diff hp hr lr hq hs ls hA (nI y) (by rw [nI_toInt (by omega)]; omega) (by rw [nI_toInt (by omega)]; omega) d A hd 0 c (by omega) ?_
    refine v_iinc (v := nI (y + 1)) rfl rfl (i_inc y) ?_
    refine v_goto rfl ?_
    exact ih (y + 1) _ _ (by omega)
set_option maxRecDepth 100000 in
theorem c_differences {sc : pm_S} {w : pm_W} {p r q s A H : Nat} {e f : Int32} {rs ss : List Int64} (hp : w[p]? = some (.inr (10, [.int (nI A), .int (nI H), .ref r]))) (hr : w[r]? = some (.inl (2, .inr (.inl rs)))) (lr : rs.length = 20) (hq : w[q]? = some (.inr (10, [.int e, .int f, .ref s]))) (hs : w[s]? = some (.inl (2, .inr (.inl ss)))) (ls : ss.length = 20) (hA : A ≤ 20) (hH : H ≤ 20) : pm_Mt sc 1 68 5 [.ref p, .ref q] w (fun rv w' => w = w' ∧ rv = some (.int (pm_dy rs ss A H 0 0))) := by
  intro d hd
  show pm_V sc d 68 0 _ [] w _
  refine v_iconst (v := 0) rfl (by decide) ?_
  refine v_istore_n rfl (Nat.le_of_ble_eq_true rfl) ?_
  refine v_iconst (v := 0) rfl (by decide) ?_
  refine v_istore_n rfl (Nat.le_of_ble_eq_true rfl) ?_
  exact l_diff2 hp hr lr hq hs ls hA hH d H hd 0 0 _ (by omega)

