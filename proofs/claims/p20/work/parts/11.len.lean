theorem pm_len_iconst {n : Int} {sc : pm_S} {dd pc pc' c2 s2 nx a b c1 d : Nat} {ls ls' st st' : List Value} {w w' : pm_W} (hx : pm_x sc dd ((.iconst n), nx, a, b, c1, d) pc ls st w = some (.inl (pc', ls', st', w', c2, s2))) : ls'.length = ls.length ∧ w.length ≤ w'.length := by
  cases pm_go_inv hx
  exact ⟨rfl, Nat.le_refl _⟩
theorem pm_len_bipush {n : Int} {sc : pm_S} {dd pc pc' c2 s2 nx a b c1 d : Nat} {ls ls' st st' : List Value} {w w' : pm_W} (hx : pm_x sc dd ((.bipush n), nx, a, b, c1, d) pc ls st w = some (.inl (pc', ls', st', w', c2, s2))) : ls'.length = ls.length ∧ w.length ≤ w'.length := by
  cases pm_go_inv hx
  exact ⟨rfl, Nat.le_refl _⟩
theorem pm_len_sipush {n : Int} {sc : pm_S} {dd pc pc' c2 s2 nx a b c1 d : Nat} {ls ls' st st' : List Value} {w w' : pm_W} (hx : pm_x sc dd ((.sipush n), nx, a, b, c1, d) pc ls st w = some (.inl (pc', ls', st', w', c2, s2))) : ls'.length = ls.length ∧ w.length ≤ w'.length := by
  cases pm_go_inv hx
  exact ⟨rfl, Nat.le_refl _⟩
theorem pm_len_lconst {n : Fin 2} {sc : pm_S} {dd pc pc' c2 s2 nx a b c1 d : Nat} {ls ls' st st' : List Value} {w w' : pm_W} (hx : pm_x sc dd ((.lconst n), nx, a, b, c1, d) pc ls st w = some (.inl (pc', ls', st', w', c2, s2))) : ls'.length = ls.length ∧ w.length ≤ w'.length := by
  cases pm_go_inv hx
  exact ⟨rfl, Nat.le_refl _⟩
theorem pm_len_ldc {i : Nat} {sc : pm_S} {dd pc pc' c2 s2 nx a b c1 d : Nat} {ls ls' st st' : List Value} {w w' : pm_W} (hx : pm_x sc dd ((.ldc i), nx, a, b, c1, d) pc ls st w = some (.inl (pc', ls', st', w', c2, s2))) : ls'.length = ls.length ∧ w.length ≤ w'.length := by
  cases pm_go_inv hx
  exact ⟨rfl, Nat.le_refl _⟩
theorem pm_len_ldc_w {i : Nat} {sc : pm_S} {dd pc pc' c2 s2 nx a b c1 d : Nat} {ls ls' st st' : List Value} {w w' : pm_W} (hx : pm_x sc dd ((.ldc_w i), nx, a, b, c1, d) pc ls st w = some (.inl (pc', ls', st', w', c2, s2))) : ls'.length = ls.length ∧ w.length ≤ w'.length := by
  cases pm_go_inv hx
  exact ⟨rfl, Nat.le_refl _⟩
theorem pm_len_ldc2_w {i : Nat} {sc : pm_S} {dd pc pc' c2 s2 nx a b c1 d : Nat} {ls ls' st st' : List Value} {w w' : pm_W} (hx : pm_x sc dd ((.ldc2_w i), nx, a, b, c1, d) pc ls st w = some (.inl (pc', ls', st', w', c2, s2))) : ls'.length = ls.length ∧ w.length ≤ w'.length := by
  cases pm_go_inv hx
  exact ⟨rfl, Nat.le_refl _⟩
theorem pm_len_goto {off : Int} {sc : pm_S} {dd pc pc' c2 s2 nx a b c1 d : Nat} {ls ls' st st' : List Value} {w w' : pm_W} (hx : pm_x sc dd ((.goto off), nx, a, b, c1, d) pc ls st w = some (.inl (pc', ls', st', w', c2, s2))) : ls'.length = ls.length ∧ w.length ≤ w'.length := by
  cases pm_go_inv hx
  exact ⟨rfl, Nat.le_refl _⟩
theorem pm_len_iload {k : Nat} {sc : pm_S} {dd pc pc' c2 s2 nx a b c1 d : Nat} {ls ls' st st' : List Value} {w w' : pm_W} (hx : pm_x sc dd ((.iload k), nx, a, b, c1, d) pc ls st w = some (.inl (pc', ls', st', w', c2, s2))) : ls'.length = ls.length ∧ w.length ≤ w'.length := by
  obtain ⟨x, hv, hz⟩ := pm_iload_inv hx
  cases hz
  exact ⟨rfl, Nat.le_refl _⟩
theorem pm_len_iload_n {k : Fin 4} {sc : pm_S} {dd pc pc' c2 s2 nx a b c1 d : Nat} {ls ls' st st' : List Value} {w w' : pm_W} (hx : pm_x sc dd ((.iload_n k), nx, a, b, c1, d) pc ls st w = some (.inl (pc', ls', st', w', c2, s2))) : ls'.length = ls.length ∧ w.length ≤ w'.length := by
  obtain ⟨x, hv, hz⟩ := pm_iload_inv hx
  cases hz
  exact ⟨rfl, Nat.le_refl _⟩
theorem pm_len_lload {k : Nat} {sc : pm_S} {dd pc pc' c2 s2 nx a b c1 d : Nat} {ls ls' st st' : List Value} {w w' : pm_W} (hx : pm_x sc dd ((.lload k), nx, a, b, c1, d) pc ls st w = some (.inl (pc', ls', st', w', c2, s2))) : ls'.length = ls.length ∧ w.length ≤ w'.length := by
  obtain ⟨x, hv, hz⟩ := pm_lload_inv hx
  cases hz
  exact ⟨rfl, Nat.le_refl _⟩
theorem pm_len_lload_n {k : Fin 4} {sc : pm_S} {dd pc pc' c2 s2 nx a b c1 d : Nat} {ls ls' st st' : List Value} {w w' : pm_W} (hx : pm_x sc dd ((.lload_n k), nx, a, b, c1, d) pc ls st w = some (.inl (pc', ls', st', w', c2, s2))) : ls'.length = ls.length ∧ w.length ≤ w'.length := by
  obtain ⟨x, hv, hz⟩ := pm_lload_inv hx
  cases hz
  exact ⟨rfl, Nat.le_refl _⟩
theorem pm_len_aload {k : Nat} {sc : pm_S} {dd pc pc' c2 s2 nx a b c1 d : Nat} {ls ls' st st' : List Value} {w w' : pm_W} (hx : pm_x sc dd ((.aload k), nx, a, b, c1, d) pc ls st w = some (.inl (pc', ls', st', w', c2, s2))) : ls'.length = ls.length ∧ w.length ≤ w'.length := by
  obtain ⟨v, hv, hn, hq, hz⟩ := pm_aload_inv hx
  cases hz
  exact ⟨rfl, Nat.le_refl _⟩
theorem pm_len_aload_n {k : Fin 4} {sc : pm_S} {dd pc pc' c2 s2 nx a b c1 d : Nat} {ls ls' st st' : List Value} {w w' : pm_W} (hx : pm_x sc dd ((.aload_n k), nx, a, b, c1, d) pc ls st w = some (.inl (pc', ls', st', w', c2, s2))) : ls'.length = ls.length ∧ w.length ≤ w'.length := by
  obtain ⟨v, hv, hn, hq, hz⟩ := pm_aload_inv hx
  cases hz
  exact ⟨rfl, Nat.le_refl _⟩
theorem pm_len_istore {k : Nat} {sc : pm_S} {dd pc pc' c2 s2 nx a b c1 d : Nat} {ls ls' st st' : List Value} {w w' : pm_W} (hx : pm_x sc dd ((.istore k), nx, a, b, c1, d) pc ls st w = some (.inl (pc', ls', st', w', c2, s2))) : ls'.length = ls.length ∧ w.length ≤ w'.length := by
  obtain ⟨x, r, rfl, hi, hz⟩ := pm_istore_inv hx
  cases hz
  exact ⟨pm_s1_len _ _ _, Nat.le_refl _⟩
theorem pm_len_istore_n {k : Fin 4} {sc : pm_S} {dd pc pc' c2 s2 nx a b c1 d : Nat} {ls ls' st st' : List Value} {w w' : pm_W} (hx : pm_x sc dd ((.istore_n k), nx, a, b, c1, d) pc ls st w = some (.inl (pc', ls', st', w', c2, s2))) : ls'.length = ls.length ∧ w.length ≤ w'.length := by
  obtain ⟨x, r, rfl, hi, hz⟩ := pm_istore_inv hx
  cases hz
  exact ⟨pm_s1_len _ _ _, Nat.le_refl _⟩
theorem pm_len_lstore {k : Nat} {sc : pm_S} {dd pc pc' c2 s2 nx a b c1 d : Nat} {ls ls' st st' : List Value} {w w' : pm_W} (hx : pm_x sc dd ((.lstore k), nx, a, b, c1, d) pc ls st w = some (.inl (pc', ls', st', w', c2, s2))) : ls'.length = ls.length ∧ w.length ≤ w'.length := by
  obtain ⟨x, r, rfl, hi, hz⟩ := pm_lstore_inv hx
  cases hz
  exact ⟨pm_s2_len _ _ _, Nat.le_refl _⟩
theorem pm_len_lstore_n {k : Fin 4} {sc : pm_S} {dd pc pc' c2 s2 nx a b c1 d : Nat} {ls ls' st st' : List Value} {w w' : pm_W} (hx : pm_x sc dd ((.lstore_n k), nx, a, b, c1, d) pc ls st w = some (.inl (pc', ls', st', w', c2, s2))) : ls'.length = ls.length ∧ w.length ≤ w'.length := by
  obtain ⟨x, r, rfl, hi, hz⟩ := pm_lstore_inv hx
  cases hz
  exact ⟨pm_s2_len _ _ _, Nat.le_refl _⟩
theorem pm_len_astore_n {k : Fin 4} {sc : pm_S} {dd pc pc' c2 s2 nx a b c1 d : Nat} {ls ls' st st' : List Value} {w w' : pm_W} (hx : pm_x sc dd ((.astore_n k), nx, a, b, c1, d) pc ls st w = some (.inl (pc', ls', st', w', c2, s2))) : ls'.length = ls.length ∧ w.length ≤ w'.length := by
  obtain ⟨x, r, rfl, hi, hz⟩ := pm_astore_inv hx
  cases hz
  exact ⟨pm_s1_len _ _ _, Nat.le_refl _⟩
theorem pm_len_iinc {k : Nat} {n : Int} {sc : pm_S} {dd pc pc' c2 s2 nx a b c1 d : Nat} {ls ls' st st' : List Value} {w w' : pm_W} (hx : pm_x sc dd ((.iinc k n), nx, a, b, c1, d) pc ls st w = some (.inl (pc', ls', st', w', c2, s2))) : ls'.length = ls.length ∧ w.length ≤ w'.length := by
  obtain ⟨x, hv, hz⟩ := pm_iinc_inv hx
  cases hz
  exact ⟨pm_s1_len _ _ _, Nat.le_refl _⟩
theorem pm_len_dup  {sc : pm_S} {dd pc pc' c2 s2 nx a b c1 d : Nat} {ls ls' st st' : List Value} {w w' : pm_W} (hx : pm_x sc dd (.dup, nx, a, b, c1, d) pc ls st w = some (.inl (pc', ls', st', w', c2, s2))) : ls'.length = ls.length ∧ w.length ≤ w'.length := by
  replace hx : (match st with
    | v :: r => bif pm_c1 v then pm_go nx ls (v :: v :: r) w else none
    | _ => none) = some _ := hx
  split at hx
  · have hx_0 := pm_bif hx
    clear hx
    obtain ⟨hv, hx⟩ := hx_0
    cases pm_go_inv hx
    exact ⟨rfl, Nat.le_refl _⟩
  · cases hx
theorem pm_len_pop  {sc : pm_S} {dd pc pc' c2 s2 nx a b c1 d : Nat} {ls ls' st st' : List Value} {w w' : pm_W} (hx : pm_x sc dd (.pop, nx, a, b, c1, d) pc ls st w = some (.inl (pc', ls', st', w', c2, s2))) : ls'.length = ls.length ∧ w.length ≤ w'.length := by
  replace hx : (match st with
    | v :: r => bif pm_c1 v then pm_go nx ls r w else none
    | _ => none) = some _ := hx
  split at hx
  · have hx_0 := pm_bif hx
    clear hx
    obtain ⟨hv, hx⟩ := hx_0
    cases pm_go_inv hx
    exact ⟨rfl, Nat.le_refl _⟩
  · cases hx
theorem pm_len_dup2  {sc : pm_S} {dd pc pc' c2 s2 nx a b c1 d : Nat} {ls ls' st st' : List Value} {w w' : pm_W} (hx : pm_x sc dd (.dup2, nx, a, b, c1, d) pc ls st w = some (.inl (pc', ls', st', w', c2, s2))) : ls'.length = ls.length ∧ w.length ≤ w'.length := by
  replace hx : (match st with
    | v :: u :: r => bif pm_c1 v && pm_c1 u then pm_go nx ls (v :: u :: v :: u :: r) w else none
    | _ => none) = some _ := hx
  split at hx
  · have hx_0 := pm_bif hx
    clear hx
    obtain ⟨hv, hx⟩ := hx_0
    cases pm_go_inv hx
    exact ⟨rfl, Nat.le_refl _⟩
  · cases hx
theorem pm_len_iadd  {sc : pm_S} {dd pc pc' c2 s2 nx a b c1 d : Nat} {ls ls' st st' : List Value} {w w' : pm_W} (hx : pm_x sc dd (.iadd, nx, a, b, c1, d) pc ls st w = some (.inl (pc', ls', st', w', c2, s2))) : ls'.length = ls.length ∧ w.length ≤ w'.length := by
  have hx_0 := pm_ii_inv hx
  clear hx
  obtain ⟨x, y, r, rfl, hx⟩ := hx_0
  cases pm_gi_inv hx
  exact ⟨rfl, Nat.le_refl _⟩
theorem pm_len_isub  {sc : pm_S} {dd pc pc' c2 s2 nx a b c1 d : Nat} {ls ls' st st' : List Value} {w w' : pm_W} (hx : pm_x sc dd (.isub, nx, a, b, c1, d) pc ls st w = some (.inl (pc', ls', st', w', c2, s2))) : ls'.length = ls.length ∧ w.length ≤ w'.length := by
  have hx_0 := pm_ii_inv hx
  clear hx
  obtain ⟨x, y, r, rfl, hx⟩ := hx_0
  cases pm_gi_inv hx
  exact ⟨rfl, Nat.le_refl _⟩
theorem pm_len_imul  {sc : pm_S} {dd pc pc' c2 s2 nx a b c1 d : Nat} {ls ls' st st' : List Value} {w w' : pm_W} (hx : pm_x sc dd (.imul, nx, a, b, c1, d) pc ls st w = some (.inl (pc', ls', st', w', c2, s2))) : ls'.length = ls.length ∧ w.length ≤ w'.length := by
  have hx_0 := pm_ii_inv hx
  clear hx
  obtain ⟨x, y, r, rfl, hx⟩ := hx_0
  cases pm_gi_inv hx
  exact ⟨rfl, Nat.le_refl _⟩
theorem pm_len_iand  {sc : pm_S} {dd pc pc' c2 s2 nx a b c1 d : Nat} {ls ls' st st' : List Value} {w w' : pm_W} (hx : pm_x sc dd (.iand, nx, a, b, c1, d) pc ls st w = some (.inl (pc', ls', st', w', c2, s2))) : ls'.length = ls.length ∧ w.length ≤ w'.length := by
  have hx_0 := pm_ii_inv hx
  clear hx
  obtain ⟨x, y, r, rfl, hx⟩ := hx_0
  cases pm_gi_inv hx
  exact ⟨rfl, Nat.le_refl _⟩
theorem pm_len_ior  {sc : pm_S} {dd pc pc' c2 s2 nx a b c1 d : Nat} {ls ls' st st' : List Value} {w w' : pm_W} (hx : pm_x sc dd (.ior, nx, a, b, c1, d) pc ls st w = some (.inl (pc', ls', st', w', c2, s2))) : ls'.length = ls.length ∧ w.length ≤ w'.length := by
  have hx_0 := pm_ii_inv hx
  clear hx
  obtain ⟨x, y, r, rfl, hx⟩ := hx_0
  cases pm_gi_inv hx
  exact ⟨rfl, Nat.le_refl _⟩
theorem pm_len_ixor  {sc : pm_S} {dd pc pc' c2 s2 nx a b c1 d : Nat} {ls ls' st st' : List Value} {w w' : pm_W} (hx : pm_x sc dd (.ixor, nx, a, b, c1, d) pc ls st w = some (.inl (pc', ls', st', w', c2, s2))) : ls'.length = ls.length ∧ w.length ≤ w'.length := by
  have hx_0 := pm_ii_inv hx
  clear hx
  obtain ⟨x, y, r, rfl, hx⟩ := hx_0
  cases pm_gi_inv hx
  exact ⟨rfl, Nat.le_refl _⟩
theorem pm_len_ishl  {sc : pm_S} {dd pc pc' c2 s2 nx a b c1 d : Nat} {ls ls' st st' : List Value} {w w' : pm_W} (hx : pm_x sc dd (.ishl, nx, a, b, c1, d) pc ls st w = some (.inl (pc', ls', st', w', c2, s2))) : ls'.length = ls.length ∧ w.length ≤ w'.length := by
  have hx_0 := pm_ii_inv hx
  clear hx
  obtain ⟨x, y, r, rfl, hx⟩ := hx_0
  cases pm_gi_inv hx
  exact ⟨rfl, Nat.le_refl _⟩
theorem pm_len_ishr  {sc : pm_S} {dd pc pc' c2 s2 nx a b c1 d : Nat} {ls ls' st st' : List Value} {w w' : pm_W} (hx : pm_x sc dd (.ishr, nx, a, b, c1, d) pc ls st w = some (.inl (pc', ls', st', w', c2, s2))) : ls'.length = ls.length ∧ w.length ≤ w'.length := by
  have hx_0 := pm_ii_inv hx
  clear hx
  obtain ⟨x, y, r, rfl, hx⟩ := hx_0
  cases pm_gi_inv hx
  exact ⟨rfl, Nat.le_refl _⟩
theorem pm_len_iushr  {sc : pm_S} {dd pc pc' c2 s2 nx a b c1 d : Nat} {ls ls' st st' : List Value} {w w' : pm_W} (hx : pm_x sc dd (.iushr, nx, a, b, c1, d) pc ls st w = some (.inl (pc', ls', st', w', c2, s2))) : ls'.length = ls.length ∧ w.length ≤ w'.length := by
  have hx_0 := pm_ii_inv hx
  clear hx
  obtain ⟨x, y, r, rfl, hx⟩ := hx_0
  cases pm_gi_inv hx
  exact ⟨rfl, Nat.le_refl _⟩
theorem pm_len_idiv  {sc : pm_S} {dd pc pc' c2 s2 nx a b c1 d : Nat} {ls ls' st st' : List Value} {w w' : pm_W} (hx : pm_x sc dd (.idiv, nx, a, b, c1, d) pc ls st w = some (.inl (pc', ls', st', w', c2, s2))) : ls'.length = ls.length ∧ w.length ≤ w'.length := by
  have hx_0 := pm_ii_inv hx
  clear hx
  obtain ⟨x, y, r, rfl, hx⟩ := hx_0
  have hx_0 := pm_bifn hx
  clear hx
  obtain ⟨hy, hx⟩ := hx_0
  cases pm_gi_inv hx
  exact ⟨rfl, Nat.le_refl _⟩
theorem pm_len_irem  {sc : pm_S} {dd pc pc' c2 s2 nx a b c1 d : Nat} {ls ls' st st' : List Value} {w w' : pm_W} (hx : pm_x sc dd (.irem, nx, a, b, c1, d) pc ls st w = some (.inl (pc', ls', st', w', c2, s2))) : ls'.length = ls.length ∧ w.length ≤ w'.length := by
  have hx_0 := pm_ii_inv hx
  clear hx
  obtain ⟨x, y, r, rfl, hx⟩ := hx_0
  have hx_0 := pm_bifn hx
  clear hx
  obtain ⟨hy, hx⟩ := hx_0
  cases pm_gi_inv hx
  exact ⟨rfl, Nat.le_refl _⟩
theorem pm_len_ineg  {sc : pm_S} {dd pc pc' c2 s2 nx a b c1 d : Nat} {ls ls' st st' : List Value} {w w' : pm_W} (hx : pm_x sc dd (.ineg, nx, a, b, c1, d) pc ls st w = some (.inl (pc', ls', st', w', c2, s2))) : ls'.length = ls.length ∧ w.length ≤ w'.length := by
  have hx_0 := pm_i_inv hx
  clear hx
  obtain ⟨x, r, rfl, hx⟩ := hx_0
  cases pm_gi_inv hx
  exact ⟨rfl, Nat.le_refl _⟩
theorem pm_len_i2l  {sc : pm_S} {dd pc pc' c2 s2 nx a b c1 d : Nat} {ls ls' st st' : List Value} {w w' : pm_W} (hx : pm_x sc dd (.i2l, nx, a, b, c1, d) pc ls st w = some (.inl (pc', ls', st', w', c2, s2))) : ls'.length = ls.length ∧ w.length ≤ w'.length := by
  have hx_0 := pm_i_inv hx
  clear hx
  obtain ⟨x, r, rfl, hx⟩ := hx_0
  cases pm_gl_inv hx
  exact ⟨rfl, Nat.le_refl _⟩
theorem pm_len_l2i  {sc : pm_S} {dd pc pc' c2 s2 nx a b c1 d : Nat} {ls ls' st st' : List Value} {w w' : pm_W} (hx : pm_x sc dd (.l2i, nx, a, b, c1, d) pc ls st w = some (.inl (pc', ls', st', w', c2, s2))) : ls'.length = ls.length ∧ w.length ≤ w'.length := by
  have hx_0 := pm_l_inv hx
  clear hx
  obtain ⟨x, r, rfl, hx⟩ := hx_0
  cases pm_gi_inv hx
  exact ⟨rfl, Nat.le_refl _⟩
theorem pm_len_land  {sc : pm_S} {dd pc pc' c2 s2 nx a b c1 d : Nat} {ls ls' st st' : List Value} {w w' : pm_W} (hx : pm_x sc dd (.land, nx, a, b, c1, d) pc ls st w = some (.inl (pc', ls', st', w', c2, s2))) : ls'.length = ls.length ∧ w.length ≤ w'.length := by
  have hx_0 := pm_ll_inv hx
  clear hx
  obtain ⟨x, y, r, rfl, hx⟩ := hx_0
  cases pm_gl_inv hx
  exact ⟨rfl, Nat.le_refl _⟩
theorem pm_len_lor  {sc : pm_S} {dd pc pc' c2 s2 nx a b c1 d : Nat} {ls ls' st st' : List Value} {w w' : pm_W} (hx : pm_x sc dd (.lor, nx, a, b, c1, d) pc ls st w = some (.inl (pc', ls', st', w', c2, s2))) : ls'.length = ls.length ∧ w.length ≤ w'.length := by
  have hx_0 := pm_ll_inv hx
  clear hx
  obtain ⟨x, y, r, rfl, hx⟩ := hx_0
  cases pm_gl_inv hx
  exact ⟨rfl, Nat.le_refl _⟩
theorem pm_len_lxor  {sc : pm_S} {dd pc pc' c2 s2 nx a b c1 d : Nat} {ls ls' st st' : List Value} {w w' : pm_W} (hx : pm_x sc dd (.lxor, nx, a, b, c1, d) pc ls st w = some (.inl (pc', ls', st', w', c2, s2))) : ls'.length = ls.length ∧ w.length ≤ w'.length := by
  have hx_0 := pm_ll_inv hx
  clear hx
  obtain ⟨x, y, r, rfl, hx⟩ := hx_0
  cases pm_gl_inv hx
  exact ⟨rfl, Nat.le_refl _⟩
theorem pm_len_lshl  {sc : pm_S} {dd pc pc' c2 s2 nx a b c1 d : Nat} {ls ls' st st' : List Value} {w w' : pm_W} (hx : pm_x sc dd (.lshl, nx, a, b, c1, d) pc ls st w = some (.inl (pc', ls', st', w', c2, s2))) : ls'.length = ls.length ∧ w.length ≤ w'.length := by
  have hx_0 := pm_li_inv hx
  clear hx
  obtain ⟨x, y, r, rfl, hx⟩ := hx_0
  cases pm_gl_inv hx
  exact ⟨rfl, Nat.le_refl _⟩
theorem pm_len_lushr  {sc : pm_S} {dd pc pc' c2 s2 nx a b c1 d : Nat} {ls ls' st st' : List Value} {w w' : pm_W} (hx : pm_x sc dd (.lushr, nx, a, b, c1, d) pc ls st w = some (.inl (pc', ls', st', w', c2, s2))) : ls'.length = ls.length ∧ w.length ≤ w'.length := by
  have hx_0 := pm_li_inv hx
  clear hx
  obtain ⟨x, y, r, rfl, hx⟩ := hx_0
  cases pm_gl_inv hx
  exact ⟨rfl, Nat.le_refl _⟩
theorem pm_len_lcmp  {sc : pm_S} {dd pc pc' c2 s2 nx a b c1 d : Nat} {ls ls' st st' : List Value} {w w' : pm_W} (hx : pm_x sc dd (.lcmp, nx, a, b, c1, d) pc ls st w = some (.inl (pc', ls', st', w', c2, s2))) : ls'.length = ls.length ∧ w.length ≤ w'.length := by
  have hx_0 := pm_ll_inv hx
  clear hx
  obtain ⟨x, y, r, rfl, hx⟩ := hx_0
  cases pm_gi_inv hx
  exact ⟨rfl, Nat.le_refl _⟩
theorem pm_len_if_icmp {cd : Jvm.ClassFile.Cond} {off : Int} {sc : pm_S} {dd pc pc' c2 s2 nx a b c1 d : Nat} {ls ls' st st' : List Value} {w w' : pm_W} (hx : pm_x sc dd ((.if_icmp cd off), nx, a, b, c1, d) pc ls st w = some (.inl (pc', ls', st', w', c2, s2))) : ls'.length = ls.length ∧ w.length ≤ w'.length := by
  have hx_0 := pm_ii_inv hx
  clear hx
  obtain ⟨x, y, r, rfl, hx⟩ := hx_0
  cases hb : pm_icmp cd x y with
  | true =>
    rw [hb] at hx
    cases pm_go_inv hx
    exact ⟨rfl, Nat.le_refl _⟩
  | false =>
    rw [hb] at hx
    cases pm_go_inv hx
    exact ⟨rfl, Nat.le_refl _⟩
theorem pm_len_ifCond {cd : Jvm.ClassFile.Cond} {off : Int} {sc : pm_S} {dd pc pc' c2 s2 nx a b c1 d : Nat} {ls ls' st st' : List Value} {w w' : pm_W} (hx : pm_x sc dd ((.ifCond cd off), nx, a, b, c1, d) pc ls st w = some (.inl (pc', ls', st', w', c2, s2))) : ls'.length = ls.length ∧ w.length ≤ w'.length := by
  have hx_0 := pm_i_inv hx
  clear hx
  obtain ⟨x, r, rfl, hx⟩ := hx_0
  cases hb : pm_icmp cd x 0 with
  | true =>
    rw [hb] at hx
    cases pm_go_inv hx
    exact ⟨rfl, Nat.le_refl _⟩
  | false =>
    rw [hb] at hx
    cases pm_go_inv hx
    exact ⟨rfl, Nat.le_refl _⟩
theorem pm_len_tableswitch {df lo hi : Int} {offs : Array Int} {sc : pm_S} {dd pc pc' c2 s2 nx a b c1 d : Nat} {ls ls' st st' : List Value} {w w' : pm_W} (hx : pm_x sc dd ((.tableswitch df lo hi offs), nx, a, b, c1, d) pc ls st w = some (.inl (pc', ls', st', w', c2, s2))) : ls'.length = ls.length ∧ w.length ≤ w'.length := by
  have hx_0 := pm_i_inv hx
  clear hx
  obtain ⟨x, r, rfl, hx⟩ := hx_0
  cases hb0 : decide (x.toInt < lo) || decide (hi < x.toInt) with
  | true =>
    rw [hb0] at hx
    obtain ⟨t, ht, hz⟩ := pm_jmp_inv hx
    cases hz
    exact ⟨rfl, Nat.le_refl _⟩
  | false =>
    rw [hb0, cond_false] at hx
    split at hx
    · obtain ⟨t, ht, hz⟩ := pm_jmp_inv hx
      cases hz
      exact ⟨rfl, Nat.le_refl _⟩
    · cases hx
theorem pm_len_lookupswitch {df : Int} {ps : Array (Int × Int)} {sc : pm_S} {dd pc pc' c2 s2 nx a b c1 d : Nat} {ls ls' st st' : List Value} {w w' : pm_W} (hx : pm_x sc dd ((.lookupswitch df ps), nx, a, b, c1, d) pc ls st w = some (.inl (pc', ls', st', w', c2, s2))) : ls'.length = ls.length ∧ w.length ≤ w'.length := by
  have hx_0 := pm_i_inv hx
  clear hx
  obtain ⟨x, r, rfl, hx⟩ := hx_0
  obtain ⟨t, ht, hz⟩ := pm_jmp_inv hx
  cases hz
  exact ⟨rfl, Nat.le_refl _⟩
theorem pm_len_baload  {sc : pm_S} {dd pc pc' c2 s2 nx a b c1 d : Nat} {ls ls' st st' : List Value} {w w' : pm_W} (hx : pm_x sc dd (.baload, nx, a, b, c1, d) pc ls st w = some (.inl (pc', ls', st', w', c2, s2))) : ls'.length = ls.length ∧ w.length ≤ w'.length := by
  obtain ⟨i, q, r, xs, v, rfl, hw, h3, h4, hz⟩ := pm_ld_inv hx
  cases hz
  exact ⟨rfl, Nat.le_refl _⟩
theorem pm_len_laload  {sc : pm_S} {dd pc pc' c2 s2 nx a b c1 d : Nat} {ls ls' st st' : List Value} {w w' : pm_W} (hx : pm_x sc dd (.laload, nx, a, b, c1, d) pc ls st w = some (.inl (pc', ls', st', w', c2, s2))) : ls'.length = ls.length ∧ w.length ≤ w'.length := by
  obtain ⟨i, q, r, xs, v, rfl, hw, h3, h4, hz⟩ := pm_lld_inv hx
  cases hz
  exact ⟨rfl, Nat.le_refl _⟩
theorem pm_len_aaload  {sc : pm_S} {dd pc pc' c2 s2 nx a b c1 d : Nat} {ls ls' st st' : List Value} {w w' : pm_W} (hx : pm_x sc dd (.aaload, nx, a, b, c1, d) pc ls st w = some (.inl (pc', ls', st', w', c2, s2))) : ls'.length = ls.length ∧ w.length ≤ w'.length := by
  obtain ⟨i, q, r, xs, v, rfl, hw, h3, h4, hz⟩ := pm_ald_inv hx
  cases hz
  exact ⟨rfl, Nat.le_refl _⟩
theorem pm_len_iaload  {sc : pm_S} {dd pc pc' c2 s2 nx a b c1 d : Nat} {ls ls' st st' : List Value} {w w' : pm_W} (hx : pm_x sc dd (.iaload, nx, a, b, c1, d) pc ls st w = some (.inl (pc', ls', st', w', c2, s2))) : ls'.length = ls.length ∧ w.length ≤ w'.length := by
  rcases pm_sld_inv hx with ⟨i, q, r, L0, xs0, rfl, hsc, h3, h4, hz⟩ | hx
  · cases hz
    exact ⟨rfl, Nat.le_refl _⟩
  · obtain ⟨i, q, r, xs, v, rfl, hw, h3, h4, hz⟩ := pm_ld_inv hx
    cases hz
    exact ⟨rfl, Nat.le_refl _⟩
theorem pm_len_iastore  {sc : pm_S} {dd pc pc' c2 s2 nx a b c1 d : Nat} {ls ls' st st' : List Value} {w w' : pm_W} (hx : pm_x sc dd (.iastore, nx, a, b, c1, d) pc ls st w = some (.inl (pc', ls', st', w', c2, s2))) : ls'.length = ls.length ∧ w.length ≤ w'.length := by
  obtain ⟨x, i, q, r, xs, rfl, hw, h3, h4, hz⟩ := pm_st_inv hx
  cases hz
  exact ⟨rfl, by rw [List.length_set]; exact Nat.le_refl _⟩
theorem pm_len_bastore  {sc : pm_S} {dd pc pc' c2 s2 nx a b c1 d : Nat} {ls ls' st st' : List Value} {w w' : pm_W} (hx : pm_x sc dd (.bastore, nx, a, b, c1, d) pc ls st w = some (.inl (pc', ls', st', w', c2, s2))) : ls'.length = ls.length ∧ w.length ≤ w'.length := by
  obtain ⟨x, i, q, r, xs, rfl, hw, h3, h4, hz⟩ := pm_st_inv hx
  cases hz
  exact ⟨rfl, by rw [List.length_set]; exact Nat.le_refl _⟩
theorem pm_len_lastore  {sc : pm_S} {dd pc pc' c2 s2 nx a b c1 d : Nat} {ls ls' st st' : List Value} {w w' : pm_W} (hx : pm_x sc dd (.lastore, nx, a, b, c1, d) pc ls st w = some (.inl (pc', ls', st', w', c2, s2))) : ls'.length = ls.length ∧ w.length ≤ w'.length := by
  obtain ⟨x, i, q, r, xs, rfl, hw, h3, h4, hz⟩ := pm_lst_inv hx
  cases hz
  exact ⟨rfl, by rw [List.length_set]; exact Nat.le_refl _⟩
theorem pm_len_aastore  {sc : pm_S} {dd pc pc' c2 s2 nx a b c1 d : Nat} {ls ls' st st' : List Value} {w w' : pm_W} (hx : pm_x sc dd (.aastore, nx, a, b, c1, d) pc ls st w = some (.inl (pc', ls', st', w', c2, s2))) : ls'.length = ls.length ∧ w.length ≤ w'.length := by
  obtain ⟨v, i, q, r, xs, fs, rfl, hw, hv, h3, h4, hz⟩ := pm_ast_inv hx
  cases hz
  exact ⟨rfl, by rw [List.length_set]; exact Nat.le_refl _⟩
theorem pm_len_arraylength  {sc : pm_S} {dd pc pc' c2 s2 nx a b c1 d : Nat} {ls ls' st st' : List Value} {w w' : pm_W} (hx : pm_x sc dd (.arraylength, nx, a, b, c1, d) pc ls st w = some (.inl (pc', ls', st', w', c2, s2))) : ls'.length = ls.length ∧ w.length ≤ w'.length := by
  rcases pm_len_inv hx with ⟨q, r, L0, xs0, rfl, hsc, hz⟩ | ⟨q, r, t, A0, ht, rfl, hw, ⟨xs, rfl, h3, hz⟩ | ⟨xs, rfl, rfl, hz⟩⟩ <;> cases hz <;> exact ⟨rfl, Nat.le_refl _⟩
theorem pm_len_getfield {i : Nat} {sc : pm_S} {dd pc pc' c2 s2 nx a b c1 d : Nat} {ls ls' st st' : List Value} {w w' : pm_W} (hx : pm_x sc dd ((.getfield i), nx, a, b, c1, d) pc ls st w = some (.inl (pc', ls', st', w', c2, s2))) : ls'.length = ls.length ∧ w.length ≤ w'.length := by
  obtain ⟨q, r, fs, v, rfl, hw, hf, hz⟩ := pm_get_inv hx
  cases hz
  exact ⟨rfl, Nat.le_refl _⟩
theorem pm_len_putfield {i : Nat} {sc : pm_S} {dd pc pc' c2 s2 nx a b c1 d : Nat} {ls ls' st st' : List Value} {w w' : pm_W} (hx : pm_x sc dd ((.putfield i), nx, a, b, c1, d) pc ls st w = some (.inl (pc', ls', st', w', c2, s2))) : ls'.length = ls.length ∧ w.length ≤ w'.length := by
  obtain ⟨v, q, r, fs, rfl, hw, hf, hlt, hz⟩ := pm_put_inv hx
  cases hz
  exact ⟨rfl, by rw [List.length_set]; exact Nat.le_refl _⟩
theorem pm_len_new {i : Nat} {sc : pm_S} {dd pc pc' c2 s2 nx a b c1 d : Nat} {ls ls' st st' : List Value} {w w' : pm_W} (hx : pm_x sc dd ((.new i), nx, a, b, c1, d) pc ls st w = some (.inl (pc', ls', st', w', c2, s2))) : ls'.length = ls.length ∧ w.length ≤ w'.length := by
  obtain ⟨w1, w2, w3, hz⟩ := pm_new_inv hx
  cases hz
  exact ⟨rfl, by rw [List.length_append]; exact Nat.le_add_right _ _⟩
theorem pm_len_newI  {sc : pm_S} {dd pc pc' c2 s2 nx a b c1 d : Nat} {ls ls' st st' : List Value} {w w' : pm_W} (hx : pm_x sc dd ((.newarray .int), nx, a, b, c1, d) pc ls st w = some (.inl (pc', ls', st', w', c2, s2))) : ls'.length = ls.length ∧ w.length ≤ w'.length := by
  obtain ⟨n, r, rfl, w1, w2, w3, hn, hn2, hz⟩ := pm_newa_inv hx
  cases hz
  exact ⟨rfl, by rw [List.length_append]; exact Nat.le_add_right _ _⟩
theorem pm_len_newZ  {sc : pm_S} {dd pc pc' c2 s2 nx a b c1 d : Nat} {ls ls' st st' : List Value} {w w' : pm_W} (hx : pm_x sc dd ((.newarray .boolean), nx, a, b, c1, d) pc ls st w = some (.inl (pc', ls', st', w', c2, s2))) : ls'.length = ls.length ∧ w.length ≤ w'.length := by
  obtain ⟨n, r, rfl, w1, w2, w3, hn, hn2, hz⟩ := pm_newa_inv hx
  cases hz
  exact ⟨rfl, by rw [List.length_append]; exact Nat.le_add_right _ _⟩
theorem pm_len_newJ  {sc : pm_S} {dd pc pc' c2 s2 nx a b c1 d : Nat} {ls ls' st st' : List Value} {w w' : pm_W} (hx : pm_x sc dd ((.newarray .long), nx, a, b, c1, d) pc ls st w = some (.inl (pc', ls', st', w', c2, s2))) : ls'.length = ls.length ∧ w.length ≤ w'.length := by
  obtain ⟨n, r, rfl, w1, w2, w3, hn, hn2, hz⟩ := pm_newa_inv hx
  cases hz
  exact ⟨rfl, by rw [List.length_append]; exact Nat.le_add_right _ _⟩
theorem pm_len_anewarray {i : Nat} {sc : pm_S} {dd pc pc' c2 s2 nx a b c1 d : Nat} {ls ls' st st' : List Value} {w w' : pm_W} (hx : pm_x sc dd ((.anewarray i), nx, a, b, c1, d) pc ls st w = some (.inl (pc', ls', st', w', c2, s2))) : ls'.length = ls.length ∧ w.length ≤ w'.length := by
  obtain ⟨n, r, rfl, w1, w2, w3, hn, hn2, hz⟩ := pm_newa_inv hx
  cases hz
  exact ⟨rfl, by rw [List.length_append]; exact Nat.le_add_right _ _⟩
theorem pm_len_objinit {i : Nat} {sc : pm_S} {dd pc pc' c2 s2 nx a b c1 d : Nat} {ls ls' st st' : List Value} {w w' : pm_W} (hx : pm_x sc dd ((.invokespecial i), nx, a, b, c1, d) pc ls st w = some (.inl (pc', ls', st', w', c2, s2))) : ls'.length = ls.length ∧ w.length ≤ w'.length := by
  replace hx : (bif Nat.beq a 998 then (bif Nat.beq dd 0 then none else pm_obj nx ls st w) else pm_callI a b d st) = some _ := hx
  cases ha : Nat.beq a 998 with
  | false =>
    rw [ha, cond_false] at hx
    unfold pm_callI at hx
    have hx_0 := pm_bifn hx
    clear hx
    obtain ⟨-, hx⟩ := hx_0
    split at hx
    · have hx_0 := pm_bif hx
      clear hx
      obtain ⟨-, hx⟩ := hx_0
      cases hx
    · cases hx
  | true =>
    rw [ha, cond_true] at hx
    have hx_0 := pm_bifn hx
    clear hx
    obtain ⟨hd0, hx⟩ := hx_0
    obtain ⟨q, r, rfl, hr8, hz⟩ := pm_obj_inv hx
    cases hz
    exact ⟨rfl, Nat.le_refl _⟩
theorem pm_len_static {i : Nat} {sc : pm_S} {dd pc pc' c2 s2 nx a b c1 d : Nat} {ls ls' st st' : List Value} {w w' : pm_W} (hx : pm_x sc dd ((.invokestatic i), nx, a, b, c1, d) pc ls st w = some (.inl (pc', ls', st', w', c2, s2))) : ls'.length = ls.length ∧ w.length ≤ w'.length := by
  replace hx : (bif Nat.beq a 999 then (bif Nat.beq dd 0 then none else pm_copy nx ls st w)
      else bif Nat.beq a 997 then pm_ii st (fun x y r => bif Nat.beq dd 0 || Nat.blt 8 (pm_cat r) then none else pm_gi nx ls (if x < y then y else x) r w)
      else bif Nat.beq a 996 then pm_ii st (fun x y r => bif Nat.beq dd 0 || Nat.blt 8 (pm_cat r) then none else pm_gi nx ls (if y < x then y else x) r w)
      else pm_callS a b d st) = some _ := hx
  cases ha : Nat.beq a 999 with
  | true =>
    rw [ha, cond_true] at hx
    have hx_0 := pm_bifn hx
    clear hx
    obtain ⟨hd0, hx⟩ := hx_0
    obtain ⟨n, dp, q, sp, p2, r, rfl, hn, hdp, hsp, hr8, hz⟩ := pm_copy_inv hx
    rcases hz with ⟨xs, ys, hp, hq, g1, g2, hz⟩ | ⟨xs, ys, hp, hq, g1, g2, hz⟩
    · cases hz
      exact ⟨rfl, by rw [List.length_set]; exact Nat.le_refl _⟩
    · cases hz
      exact ⟨rfl, by rw [List.length_set]; exact Nat.le_refl _⟩
  | false =>
    rw [ha, cond_false] at hx
    cases ha7 : Nat.beq a 997 with
    | true =>
      rw [ha7, cond_true] at hx
      have hx_0 := pm_ii_inv hx
      clear hx
      obtain ⟨x, y, r, rfl, hx⟩ := hx_0
      have hx_0 := pm_bifn hx
      clear hx
      obtain ⟨hd1, hx⟩ := hx_0
      cases pm_gi_inv hx
      exact ⟨rfl, Nat.le_refl _⟩
    | false =>
      rw [ha7, cond_false] at hx
      cases ha6 : Nat.beq a 996 with
      | true =>
        rw [ha6, cond_true] at hx
        have hx_0 := pm_ii_inv hx
        clear hx
        obtain ⟨x, y, r, rfl, hx⟩ := hx_0
        have hx_0 := pm_bifn hx
        clear hx
        obtain ⟨hd1, hx⟩ := hx_0
        cases pm_gi_inv hx
        exact ⟨rfl, Nat.le_refl _⟩
      | false =>
        rw [ha6, cond_false] at hx
        unfold pm_callS at hx
        have hx_0 := pm_bifn hx
        clear hx
        obtain ⟨-, hx⟩ := hx_0
        have hx_0 := pm_bif hx
        clear hx
        obtain ⟨-, hx⟩ := hx_0
        cases hx
theorem pm_x_len {sc : pm_S} {dd pc pc' c2 s2 : Nat} {en : pm_E} {ls ls' st st' : List Value} {w w' : pm_W} (hx : pm_x sc dd en pc ls st w = some (.inl (pc', ls', st', w', c2, s2))) : ls'.length = ls.length ∧ w.length ≤ w'.length := by
  obtain ⟨ins, nx, a, b, c1, d⟩ := en
  cases ins with
  | iconst n => exact pm_len_iconst hx
  | bipush n => exact pm_len_bipush hx
  | sipush n => exact pm_len_sipush hx
  | lconst n => exact pm_len_lconst hx
  | ldc i => exact pm_len_ldc hx
  | ldc_w i => exact pm_len_ldc_w hx
  | ldc2_w i => exact pm_len_ldc2_w hx
  | iload k => exact pm_len_iload hx
  | iload_n k => exact pm_len_iload_n hx
  | lload k => exact pm_len_lload hx
  | lload_n k => exact pm_len_lload_n hx
  | aload k => exact pm_len_aload hx
  | aload_n k => exact pm_len_aload_n hx
  | istore k => exact pm_len_istore hx
  | istore_n k => exact pm_len_istore_n hx
  | lstore k => exact pm_len_lstore hx
  | lstore_n k => exact pm_len_lstore_n hx
  | astore_n k => exact pm_len_astore_n hx
  | iinc k n => exact pm_len_iinc hx
  | dup => exact pm_len_dup hx
  | pop => exact pm_len_pop hx
  | dup2 => exact pm_len_dup2 hx
  | iadd => exact pm_len_iadd hx
  | isub => exact pm_len_isub hx
  | imul => exact pm_len_imul hx
  | iand => exact pm_len_iand hx
  | ior => exact pm_len_ior hx
  | ixor => exact pm_len_ixor hx
  | ishl => exact pm_len_ishl hx
  | ishr => exact pm_len_ishr hx
  | iushr => exact pm_len_iushr hx
  | idiv => exact pm_len_idiv hx
  | irem => exact pm_len_irem hx
  | ineg => exact pm_len_ineg hx
  | i2l => exact pm_len_i2l hx
  | l2i => exact pm_len_l2i hx
  | land => exact pm_len_land hx
  | lor => exact pm_len_lor hx
  | lxor => exact pm_len_lxor hx
  | lshl => exact pm_len_lshl hx
  | lushr => exact pm_len_lushr hx
  | lcmp => exact pm_len_lcmp hx
  | if_icmp cd off => exact pm_len_if_icmp hx
  | ifCond cd off => exact pm_len_ifCond hx
  | goto off => exact pm_len_goto hx
  | tableswitch df lo hi offs => exact pm_len_tableswitch hx
  | lookupswitch df ps => exact pm_len_lookupswitch hx
  | baload => exact pm_len_baload hx
  | laload => exact pm_len_laload hx
  | iaload => exact pm_len_iaload hx
  | aaload => exact pm_len_aaload hx
  | iastore => exact pm_len_iastore hx
  | bastore => exact pm_len_bastore hx
  | lastore => exact pm_len_lastore hx
  | aastore => exact pm_len_aastore hx
  | arraylength => exact pm_len_arraylength hx
  | getfield i => exact pm_len_getfield hx
  | putfield i => exact pm_len_putfield hx
  | new i => exact pm_len_new hx
  | anewarray i => exact pm_len_anewarray hx
  | invokespecial i => exact pm_len_objinit hx
  | invokestatic i => exact pm_len_static hx
  | newarray at1 =>
    cases at1 with
    | int => exact pm_len_newI hx
    | boolean => exact pm_len_newZ hx
    | long => exact pm_len_newJ hx
    | _ => cases hx
  | invokevirtual i =>
    replace hx : pm_callV a b c1 d st w = some _ := hx
    unfold pm_callV at hx
    have hx_0 := pm_bifn hx
    clear hx
    obtain ⟨-, hx⟩ := hx_0
    split at hx
    · split at hx
      · have hx_0 := pm_bif hx
        clear hx
        obtain ⟨-, hx⟩ := hx_0
        cases hx
      · cases hx
    · cases hx
  | ireturn =>
    replace hx : (match st with
    | [.int x] => bif Nat.beq a 0 || decide (x = 0) || decide (x = 1) then (some (.inr (.inr (some (.int x)))) : Option pm_N) else none
    | _ => none) = some _ := hx
    split at hx
    · have hx_0 := pm_bif hx
      clear hx
      obtain ⟨-, hx⟩ := hx_0
      cases hx
    · cases hx
  | return_ =>
    replace hx : (match st with
    | [] => (some (.inr (.inr none)) : Option pm_N)
    | _ => none) = some _ := hx
    split at hx <;> cases hx
  | _ => cases hx

