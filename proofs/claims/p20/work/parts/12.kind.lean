theorem pm_kd_iconst {n : Int} {sc : pm_S} {dd pc nx a b c1 d : Nat} {ls st : List Value} {w : pm_W} {z : pm_N} (hx : pm_x sc dd ((.iconst n), nx, a, b, c1, d) pc ls st w = some z) : ∃ t, z = .inl t := by
  exact ⟨_, pm_go_inv hx⟩
theorem pm_kd_bipush {n : Int} {sc : pm_S} {dd pc nx a b c1 d : Nat} {ls st : List Value} {w : pm_W} {z : pm_N} (hx : pm_x sc dd ((.bipush n), nx, a, b, c1, d) pc ls st w = some z) : ∃ t, z = .inl t := by
  exact ⟨_, pm_go_inv hx⟩
theorem pm_kd_sipush {n : Int} {sc : pm_S} {dd pc nx a b c1 d : Nat} {ls st : List Value} {w : pm_W} {z : pm_N} (hx : pm_x sc dd ((.sipush n), nx, a, b, c1, d) pc ls st w = some z) : ∃ t, z = .inl t := by
  exact ⟨_, pm_go_inv hx⟩
theorem pm_kd_lconst {n : Fin 2} {sc : pm_S} {dd pc nx a b c1 d : Nat} {ls st : List Value} {w : pm_W} {z : pm_N} (hx : pm_x sc dd ((.lconst n), nx, a, b, c1, d) pc ls st w = some z) : ∃ t, z = .inl t := by
  exact ⟨_, pm_go_inv hx⟩
theorem pm_kd_ldc {i : Nat} {sc : pm_S} {dd pc nx a b c1 d : Nat} {ls st : List Value} {w : pm_W} {z : pm_N} (hx : pm_x sc dd ((.ldc i), nx, a, b, c1, d) pc ls st w = some z) : ∃ t, z = .inl t := by
  exact ⟨_, pm_go_inv hx⟩
theorem pm_kd_ldc_w {i : Nat} {sc : pm_S} {dd pc nx a b c1 d : Nat} {ls st : List Value} {w : pm_W} {z : pm_N} (hx : pm_x sc dd ((.ldc_w i), nx, a, b, c1, d) pc ls st w = some z) : ∃ t, z = .inl t := by
  exact ⟨_, pm_go_inv hx⟩
theorem pm_kd_ldc2_w {i : Nat} {sc : pm_S} {dd pc nx a b c1 d : Nat} {ls st : List Value} {w : pm_W} {z : pm_N} (hx : pm_x sc dd ((.ldc2_w i), nx, a, b, c1, d) pc ls st w = some z) : ∃ t, z = .inl t := by
  exact ⟨_, pm_go_inv hx⟩
theorem pm_kd_goto {off : Int} {sc : pm_S} {dd pc nx a b c1 d : Nat} {ls st : List Value} {w : pm_W} {z : pm_N} (hx : pm_x sc dd ((.goto off), nx, a, b, c1, d) pc ls st w = some z) : ∃ t, z = .inl t := by
  exact ⟨_, pm_go_inv hx⟩
theorem pm_kd_iload {k : Nat} {sc : pm_S} {dd pc nx a b c1 d : Nat} {ls st : List Value} {w : pm_W} {z : pm_N} (hx : pm_x sc dd ((.iload k), nx, a, b, c1, d) pc ls st w = some z) : ∃ t, z = .inl t := by
  obtain ⟨x, hv, hz⟩ := pm_iload_inv hx
  exact ⟨_, hz⟩
theorem pm_kd_iload_n {k : Fin 4} {sc : pm_S} {dd pc nx a b c1 d : Nat} {ls st : List Value} {w : pm_W} {z : pm_N} (hx : pm_x sc dd ((.iload_n k), nx, a, b, c1, d) pc ls st w = some z) : ∃ t, z = .inl t := by
  obtain ⟨x, hv, hz⟩ := pm_iload_inv hx
  exact ⟨_, hz⟩
theorem pm_kd_lload {k : Nat} {sc : pm_S} {dd pc nx a b c1 d : Nat} {ls st : List Value} {w : pm_W} {z : pm_N} (hx : pm_x sc dd ((.lload k), nx, a, b, c1, d) pc ls st w = some z) : ∃ t, z = .inl t := by
  obtain ⟨x, hv, hz⟩ := pm_lload_inv hx
  exact ⟨_, hz⟩
theorem pm_kd_lload_n {k : Fin 4} {sc : pm_S} {dd pc nx a b c1 d : Nat} {ls st : List Value} {w : pm_W} {z : pm_N} (hx : pm_x sc dd ((.lload_n k), nx, a, b, c1, d) pc ls st w = some z) : ∃ t, z = .inl t := by
  obtain ⟨x, hv, hz⟩ := pm_lload_inv hx
  exact ⟨_, hz⟩
theorem pm_kd_aload {k : Nat} {sc : pm_S} {dd pc nx a b c1 d : Nat} {ls st : List Value} {w : pm_W} {z : pm_N} (hx : pm_x sc dd ((.aload k), nx, a, b, c1, d) pc ls st w = some z) : ∃ t, z = .inl t := by
  obtain ⟨v, hv, hn, hq, hz⟩ := pm_aload_inv hx
  exact ⟨_, hz⟩
theorem pm_kd_aload_n {k : Fin 4} {sc : pm_S} {dd pc nx a b c1 d : Nat} {ls st : List Value} {w : pm_W} {z : pm_N} (hx : pm_x sc dd ((.aload_n k), nx, a, b, c1, d) pc ls st w = some z) : ∃ t, z = .inl t := by
  obtain ⟨v, hv, hn, hq, hz⟩ := pm_aload_inv hx
  exact ⟨_, hz⟩
theorem pm_kd_istore {k : Nat} {sc : pm_S} {dd pc nx a b c1 d : Nat} {ls st : List Value} {w : pm_W} {z : pm_N} (hx : pm_x sc dd ((.istore k), nx, a, b, c1, d) pc ls st w = some z) : ∃ t, z = .inl t := by
  obtain ⟨x, r, rfl, hi, hz⟩ := pm_istore_inv hx
  exact ⟨_, hz⟩
theorem pm_kd_istore_n {k : Fin 4} {sc : pm_S} {dd pc nx a b c1 d : Nat} {ls st : List Value} {w : pm_W} {z : pm_N} (hx : pm_x sc dd ((.istore_n k), nx, a, b, c1, d) pc ls st w = some z) : ∃ t, z = .inl t := by
  obtain ⟨x, r, rfl, hi, hz⟩ := pm_istore_inv hx
  exact ⟨_, hz⟩
theorem pm_kd_lstore {k : Nat} {sc : pm_S} {dd pc nx a b c1 d : Nat} {ls st : List Value} {w : pm_W} {z : pm_N} (hx : pm_x sc dd ((.lstore k), nx, a, b, c1, d) pc ls st w = some z) : ∃ t, z = .inl t := by
  obtain ⟨x, r, rfl, hi, hz⟩ := pm_lstore_inv hx
  exact ⟨_, hz⟩
theorem pm_kd_lstore_n {k : Fin 4} {sc : pm_S} {dd pc nx a b c1 d : Nat} {ls st : List Value} {w : pm_W} {z : pm_N} (hx : pm_x sc dd ((.lstore_n k), nx, a, b, c1, d) pc ls st w = some z) : ∃ t, z = .inl t := by
  obtain ⟨x, r, rfl, hi, hz⟩ := pm_lstore_inv hx
  exact ⟨_, hz⟩
theorem pm_kd_astore_n {k : Fin 4} {sc : pm_S} {dd pc nx a b c1 d : Nat} {ls st : List Value} {w : pm_W} {z : pm_N} (hx : pm_x sc dd ((.astore_n k), nx, a, b, c1, d) pc ls st w = some z) : ∃ t, z = .inl t := by
  obtain ⟨x, r, rfl, hi, hz⟩ := pm_astore_inv hx
  exact ⟨_, hz⟩
theorem pm_kd_iinc {k : Nat} {n : Int} {sc : pm_S} {dd pc nx a b c1 d : Nat} {ls st : List Value} {w : pm_W} {z : pm_N} (hx : pm_x sc dd ((.iinc k n), nx, a, b, c1, d) pc ls st w = some z) : ∃ t, z = .inl t := by
  obtain ⟨x, hv, hz⟩ := pm_iinc_inv hx
  exact ⟨_, hz⟩
theorem pm_kd_dup  {sc : pm_S} {dd pc nx a b c1 d : Nat} {ls st : List Value} {w : pm_W} {z : pm_N} (hx : pm_x sc dd (.dup, nx, a, b, c1, d) pc ls st w = some z) : ∃ t, z = .inl t := by
  replace hx : (match st with
    | v :: r => bif pm_c1 v then pm_go nx ls (v :: v :: r) w else none
    | _ => none) = some _ := hx
  split at hx
  · have hx_0 := pm_bif hx
    clear hx
    obtain ⟨hv, hx⟩ := hx_0
    exact ⟨_, pm_go_inv hx⟩
  · cases hx
theorem pm_kd_pop  {sc : pm_S} {dd pc nx a b c1 d : Nat} {ls st : List Value} {w : pm_W} {z : pm_N} (hx : pm_x sc dd (.pop, nx, a, b, c1, d) pc ls st w = some z) : ∃ t, z = .inl t := by
  replace hx : (match st with
    | v :: r => bif pm_c1 v then pm_go nx ls r w else none
    | _ => none) = some _ := hx
  split at hx
  · have hx_0 := pm_bif hx
    clear hx
    obtain ⟨hv, hx⟩ := hx_0
    exact ⟨_, pm_go_inv hx⟩
  · cases hx
theorem pm_kd_dup2  {sc : pm_S} {dd pc nx a b c1 d : Nat} {ls st : List Value} {w : pm_W} {z : pm_N} (hx : pm_x sc dd (.dup2, nx, a, b, c1, d) pc ls st w = some z) : ∃ t, z = .inl t := by
  replace hx : (match st with
    | v :: u :: r => bif pm_c1 v && pm_c1 u then pm_go nx ls (v :: u :: v :: u :: r) w else none
    | _ => none) = some _ := hx
  split at hx
  · have hx_0 := pm_bif hx
    clear hx
    obtain ⟨hv, hx⟩ := hx_0
    exact ⟨_, pm_go_inv hx⟩
  · cases hx
theorem pm_kd_iadd  {sc : pm_S} {dd pc nx a b c1 d : Nat} {ls st : List Value} {w : pm_W} {z : pm_N} (hx : pm_x sc dd (.iadd, nx, a, b, c1, d) pc ls st w = some z) : ∃ t, z = .inl t := by
  have hx_0 := pm_ii_inv hx
  clear hx
  obtain ⟨x, y, r, rfl, hx⟩ := hx_0
  exact ⟨_, pm_gi_inv hx⟩
theorem pm_kd_isub  {sc : pm_S} {dd pc nx a b c1 d : Nat} {ls st : List Value} {w : pm_W} {z : pm_N} (hx : pm_x sc dd (.isub, nx, a, b, c1, d) pc ls st w = some z) : ∃ t, z = .inl t := by
  have hx_0 := pm_ii_inv hx
  clear hx
  obtain ⟨x, y, r, rfl, hx⟩ := hx_0
  exact ⟨_, pm_gi_inv hx⟩
theorem pm_kd_imul  {sc : pm_S} {dd pc nx a b c1 d : Nat} {ls st : List Value} {w : pm_W} {z : pm_N} (hx : pm_x sc dd (.imul, nx, a, b, c1, d) pc ls st w = some z) : ∃ t, z = .inl t := by
  have hx_0 := pm_ii_inv hx
  clear hx
  obtain ⟨x, y, r, rfl, hx⟩ := hx_0
  exact ⟨_, pm_gi_inv hx⟩
theorem pm_kd_iand  {sc : pm_S} {dd pc nx a b c1 d : Nat} {ls st : List Value} {w : pm_W} {z : pm_N} (hx : pm_x sc dd (.iand, nx, a, b, c1, d) pc ls st w = some z) : ∃ t, z = .inl t := by
  have hx_0 := pm_ii_inv hx
  clear hx
  obtain ⟨x, y, r, rfl, hx⟩ := hx_0
  exact ⟨_, pm_gi_inv hx⟩
theorem pm_kd_ior  {sc : pm_S} {dd pc nx a b c1 d : Nat} {ls st : List Value} {w : pm_W} {z : pm_N} (hx : pm_x sc dd (.ior, nx, a, b, c1, d) pc ls st w = some z) : ∃ t, z = .inl t := by
  have hx_0 := pm_ii_inv hx
  clear hx
  obtain ⟨x, y, r, rfl, hx⟩ := hx_0
  exact ⟨_, pm_gi_inv hx⟩
theorem pm_kd_ixor  {sc : pm_S} {dd pc nx a b c1 d : Nat} {ls st : List Value} {w : pm_W} {z : pm_N} (hx : pm_x sc dd (.ixor, nx, a, b, c1, d) pc ls st w = some z) : ∃ t, z = .inl t := by
  have hx_0 := pm_ii_inv hx
  clear hx
  obtain ⟨x, y, r, rfl, hx⟩ := hx_0
  exact ⟨_, pm_gi_inv hx⟩
theorem pm_kd_ishl  {sc : pm_S} {dd pc nx a b c1 d : Nat} {ls st : List Value} {w : pm_W} {z : pm_N} (hx : pm_x sc dd (.ishl, nx, a, b, c1, d) pc ls st w = some z) : ∃ t, z = .inl t := by
  have hx_0 := pm_ii_inv hx
  clear hx
  obtain ⟨x, y, r, rfl, hx⟩ := hx_0
  exact ⟨_, pm_gi_inv hx⟩
theorem pm_kd_ishr  {sc : pm_S} {dd pc nx a b c1 d : Nat} {ls st : List Value} {w : pm_W} {z : pm_N} (hx : pm_x sc dd (.ishr, nx, a, b, c1, d) pc ls st w = some z) : ∃ t, z = .inl t := by
  have hx_0 := pm_ii_inv hx
  clear hx
  obtain ⟨x, y, r, rfl, hx⟩ := hx_0
  exact ⟨_, pm_gi_inv hx⟩
theorem pm_kd_iushr  {sc : pm_S} {dd pc nx a b c1 d : Nat} {ls st : List Value} {w : pm_W} {z : pm_N} (hx : pm_x sc dd (.iushr, nx, a, b, c1, d) pc ls st w = some z) : ∃ t, z = .inl t := by
  have hx_0 := pm_ii_inv hx
  clear hx
  obtain ⟨x, y, r, rfl, hx⟩ := hx_0
  exact ⟨_, pm_gi_inv hx⟩
theorem pm_kd_idiv  {sc : pm_S} {dd pc nx a b c1 d : Nat} {ls st : List Value} {w : pm_W} {z : pm_N} (hx : pm_x sc dd (.idiv, nx, a, b, c1, d) pc ls st w = some z) : ∃ t, z = .inl t := by
  have hx_0 := pm_ii_inv hx
  clear hx
  obtain ⟨x, y, r, rfl, hx⟩ := hx_0
  have hx_0 := pm_bifn hx
  clear hx
  obtain ⟨hy, hx⟩ := hx_0
  exact ⟨_, pm_gi_inv hx⟩
theorem pm_kd_irem  {sc : pm_S} {dd pc nx a b c1 d : Nat} {ls st : List Value} {w : pm_W} {z : pm_N} (hx : pm_x sc dd (.irem, nx, a, b, c1, d) pc ls st w = some z) : ∃ t, z = .inl t := by
  have hx_0 := pm_ii_inv hx
  clear hx
  obtain ⟨x, y, r, rfl, hx⟩ := hx_0
  have hx_0 := pm_bifn hx
  clear hx
  obtain ⟨hy, hx⟩ := hx_0
  exact ⟨_, pm_gi_inv hx⟩
theorem pm_kd_ineg  {sc : pm_S} {dd pc nx a b c1 d : Nat} {ls st : List Value} {w : pm_W} {z : pm_N} (hx : pm_x sc dd (.ineg, nx, a, b, c1, d) pc ls st w = some z) : ∃ t, z = .inl t := by
  have hx_0 := pm_i_inv hx
  clear hx
  obtain ⟨x, r, rfl, hx⟩ := hx_0
  exact ⟨_, pm_gi_inv hx⟩
theorem pm_kd_i2l  {sc : pm_S} {dd pc nx a b c1 d : Nat} {ls st : List Value} {w : pm_W} {z : pm_N} (hx : pm_x sc dd (.i2l, nx, a, b, c1, d) pc ls st w = some z) : ∃ t, z = .inl t := by
  have hx_0 := pm_i_inv hx
  clear hx
  obtain ⟨x, r, rfl, hx⟩ := hx_0
  exact ⟨_, pm_gl_inv hx⟩
theorem pm_kd_l2i  {sc : pm_S} {dd pc nx a b c1 d : Nat} {ls st : List Value} {w : pm_W} {z : pm_N} (hx : pm_x sc dd (.l2i, nx, a, b, c1, d) pc ls st w = some z) : ∃ t, z = .inl t := by
  have hx_0 := pm_l_inv hx
  clear hx
  obtain ⟨x, r, rfl, hx⟩ := hx_0
  exact ⟨_, pm_gi_inv hx⟩
theorem pm_kd_land  {sc : pm_S} {dd pc nx a b c1 d : Nat} {ls st : List Value} {w : pm_W} {z : pm_N} (hx : pm_x sc dd (.land, nx, a, b, c1, d) pc ls st w = some z) : ∃ t, z = .inl t := by
  have hx_0 := pm_ll_inv hx
  clear hx
  obtain ⟨x, y, r, rfl, hx⟩ := hx_0
  exact ⟨_, pm_gl_inv hx⟩
theorem pm_kd_lor  {sc : pm_S} {dd pc nx a b c1 d : Nat} {ls st : List Value} {w : pm_W} {z : pm_N} (hx : pm_x sc dd (.lor, nx, a, b, c1, d) pc ls st w = some z) : ∃ t, z = .inl t := by
  have hx_0 := pm_ll_inv hx
  clear hx
  obtain ⟨x, y, r, rfl, hx⟩ := hx_0
  exact ⟨_, pm_gl_inv hx⟩
theorem pm_kd_lxor  {sc : pm_S} {dd pc nx a b c1 d : Nat} {ls st : List Value} {w : pm_W} {z : pm_N} (hx : pm_x sc dd (.lxor, nx, a, b, c1, d) pc ls st w = some z) : ∃ t, z = .inl t := by
  have hx_0 := pm_ll_inv hx
  clear hx
  obtain ⟨x, y, r, rfl, hx⟩ := hx_0
  exact ⟨_, pm_gl_inv hx⟩
theorem pm_kd_lshl  {sc : pm_S} {dd pc nx a b c1 d : Nat} {ls st : List Value} {w : pm_W} {z : pm_N} (hx : pm_x sc dd (.lshl, nx, a, b, c1, d) pc ls st w = some z) : ∃ t, z = .inl t := by
  have hx_0 := pm_li_inv hx
  clear hx
  obtain ⟨x, y, r, rfl, hx⟩ := hx_0
  exact ⟨_, pm_gl_inv hx⟩
theorem pm_kd_lushr  {sc : pm_S} {dd pc nx a b c1 d : Nat} {ls st : List Value} {w : pm_W} {z : pm_N} (hx : pm_x sc dd (.lushr, nx, a, b, c1, d) pc ls st w = some z) : ∃ t, z = .inl t := by
  have hx_0 := pm_li_inv hx
  clear hx
  obtain ⟨x, y, r, rfl, hx⟩ := hx_0
  exact ⟨_, pm_gl_inv hx⟩
theorem pm_kd_lcmp  {sc : pm_S} {dd pc nx a b c1 d : Nat} {ls st : List Value} {w : pm_W} {z : pm_N} (hx : pm_x sc dd (.lcmp, nx, a, b, c1, d) pc ls st w = some z) : ∃ t, z = .inl t := by
  have hx_0 := pm_ll_inv hx
  clear hx
  obtain ⟨x, y, r, rfl, hx⟩ := hx_0
  exact ⟨_, pm_gi_inv hx⟩
theorem pm_kd_if_icmp {cd : Jvm.ClassFile.Cond} {off : Int} {sc : pm_S} {dd pc nx a b c1 d : Nat} {ls st : List Value} {w : pm_W} {z : pm_N} (hx : pm_x sc dd ((.if_icmp cd off), nx, a, b, c1, d) pc ls st w = some z) : ∃ t, z = .inl t := by
  have hx_0 := pm_ii_inv hx
  clear hx
  obtain ⟨x, y, r, rfl, hx⟩ := hx_0
  cases hb : pm_icmp cd x y with
  | true =>
    rw [hb] at hx
    exact ⟨_, pm_go_inv hx⟩
  | false =>
    rw [hb] at hx
    exact ⟨_, pm_go_inv hx⟩
theorem pm_kd_ifCond {cd : Jvm.ClassFile.Cond} {off : Int} {sc : pm_S} {dd pc nx a b c1 d : Nat} {ls st : List Value} {w : pm_W} {z : pm_N} (hx : pm_x sc dd ((.ifCond cd off), nx, a, b, c1, d) pc ls st w = some z) : ∃ t, z = .inl t := by
  have hx_0 := pm_i_inv hx
  clear hx
  obtain ⟨x, r, rfl, hx⟩ := hx_0
  cases hb : pm_icmp cd x 0 with
  | true =>
    rw [hb] at hx
    exact ⟨_, pm_go_inv hx⟩
  | false =>
    rw [hb] at hx
    exact ⟨_, pm_go_inv hx⟩
theorem pm_kd_tableswitch {df lo hi : Int} {offs : Array Int} {sc : pm_S} {dd pc nx a b c1 d : Nat} {ls st : List Value} {w : pm_W} {z : pm_N} (hx : pm_x sc dd ((.tableswitch df lo hi offs), nx, a, b, c1, d) pc ls st w = some z) : ∃ t, z = .inl t := by
  have hx_0 := pm_i_inv hx
  clear hx
  obtain ⟨x, r, rfl, hx⟩ := hx_0
  cases hb0 : decide (x.toInt < lo) || decide (hi < x.toInt) with
  | true =>
    rw [hb0] at hx
    obtain ⟨t, ht, hz⟩ := pm_jmp_inv hx
    exact ⟨_, hz⟩
  | false =>
    rw [hb0, cond_false] at hx
    split at hx
    · obtain ⟨t, ht, hz⟩ := pm_jmp_inv hx
      exact ⟨_, hz⟩
    · cases hx
theorem pm_kd_lookupswitch {df : Int} {ps : Array (Int × Int)} {sc : pm_S} {dd pc nx a b c1 d : Nat} {ls st : List Value} {w : pm_W} {z : pm_N} (hx : pm_x sc dd ((.lookupswitch df ps), nx, a, b, c1, d) pc ls st w = some z) : ∃ t, z = .inl t := by
  have hx_0 := pm_i_inv hx
  clear hx
  obtain ⟨x, r, rfl, hx⟩ := hx_0
  obtain ⟨t, ht, hz⟩ := pm_jmp_inv hx
  exact ⟨_, hz⟩
theorem pm_kd_baload  {sc : pm_S} {dd pc nx a b c1 d : Nat} {ls st : List Value} {w : pm_W} {z : pm_N} (hx : pm_x sc dd (.baload, nx, a, b, c1, d) pc ls st w = some z) : ∃ t, z = .inl t := by
  obtain ⟨i, q, r, xs, v, rfl, hw, h3, h4, hz⟩ := pm_ld_inv hx
  exact ⟨_, hz⟩
theorem pm_kd_laload  {sc : pm_S} {dd pc nx a b c1 d : Nat} {ls st : List Value} {w : pm_W} {z : pm_N} (hx : pm_x sc dd (.laload, nx, a, b, c1, d) pc ls st w = some z) : ∃ t, z = .inl t := by
  obtain ⟨i, q, r, xs, v, rfl, hw, h3, h4, hz⟩ := pm_lld_inv hx
  exact ⟨_, hz⟩
theorem pm_kd_aaload  {sc : pm_S} {dd pc nx a b c1 d : Nat} {ls st : List Value} {w : pm_W} {z : pm_N} (hx : pm_x sc dd (.aaload, nx, a, b, c1, d) pc ls st w = some z) : ∃ t, z = .inl t := by
  obtain ⟨i, q, r, xs, v, rfl, hw, h3, h4, hz⟩ := pm_ald_inv hx
  exact ⟨_, hz⟩
theorem pm_kd_iaload  {sc : pm_S} {dd pc nx a b c1 d : Nat} {ls st : List Value} {w : pm_W} {z : pm_N} (hx : pm_x sc dd (.iaload, nx, a, b, c1, d) pc ls st w = some z) : ∃ t, z = .inl t := by
  rcases pm_sld_inv hx with ⟨i, q, r, L0, xs0, rfl, hsc, h3, h4, hz⟩ | hx
  · exact ⟨_, hz⟩
  · obtain ⟨i, q, r, xs, v, rfl, hw, h3, h4, hz⟩ := pm_ld_inv hx
    exact ⟨_, hz⟩
theorem pm_kd_iastore  {sc : pm_S} {dd pc nx a b c1 d : Nat} {ls st : List Value} {w : pm_W} {z : pm_N} (hx : pm_x sc dd (.iastore, nx, a, b, c1, d) pc ls st w = some z) : ∃ t, z = .inl t := by
  obtain ⟨x, i, q, r, xs, rfl, hw, h3, h4, hz⟩ := pm_st_inv hx
  exact ⟨_, hz⟩
theorem pm_kd_bastore  {sc : pm_S} {dd pc nx a b c1 d : Nat} {ls st : List Value} {w : pm_W} {z : pm_N} (hx : pm_x sc dd (.bastore, nx, a, b, c1, d) pc ls st w = some z) : ∃ t, z = .inl t := by
  obtain ⟨x, i, q, r, xs, rfl, hw, h3, h4, hz⟩ := pm_st_inv hx
  exact ⟨_, hz⟩
theorem pm_kd_lastore  {sc : pm_S} {dd pc nx a b c1 d : Nat} {ls st : List Value} {w : pm_W} {z : pm_N} (hx : pm_x sc dd (.lastore, nx, a, b, c1, d) pc ls st w = some z) : ∃ t, z = .inl t := by
  obtain ⟨x, i, q, r, xs, rfl, hw, h3, h4, hz⟩ := pm_lst_inv hx
  exact ⟨_, hz⟩
theorem pm_kd_aastore  {sc : pm_S} {dd pc nx a b c1 d : Nat} {ls st : List Value} {w : pm_W} {z : pm_N} (hx : pm_x sc dd (.aastore, nx, a, b, c1, d) pc ls st w = some z) : ∃ t, z = .inl t := by
  obtain ⟨v, i, q, r, xs, fs, rfl, hw, hv, h3, h4, hz⟩ := pm_ast_inv hx
  exact ⟨_, hz⟩
theorem pm_kd_arraylength  {sc : pm_S} {dd pc nx a b c1 d : Nat} {ls st : List Value} {w : pm_W} {z : pm_N} (hx : pm_x sc dd (.arraylength, nx, a, b, c1, d) pc ls st w = some z) : ∃ t, z = .inl t := by
  rcases pm_len_inv hx with ⟨q, r, L0, xs0, rfl, hsc, hz⟩ | ⟨q, r, t, A0, ht, rfl, hw, ⟨xs, rfl, h3, hz⟩ | ⟨xs, rfl, rfl, hz⟩⟩ <;> exact ⟨_, hz⟩
theorem pm_kd_getfield {i : Nat} {sc : pm_S} {dd pc nx a b c1 d : Nat} {ls st : List Value} {w : pm_W} {z : pm_N} (hx : pm_x sc dd ((.getfield i), nx, a, b, c1, d) pc ls st w = some z) : ∃ t, z = .inl t := by
  obtain ⟨q, r, fs, v, rfl, hw, hf, hz⟩ := pm_get_inv hx
  exact ⟨_, hz⟩
theorem pm_kd_putfield {i : Nat} {sc : pm_S} {dd pc nx a b c1 d : Nat} {ls st : List Value} {w : pm_W} {z : pm_N} (hx : pm_x sc dd ((.putfield i), nx, a, b, c1, d) pc ls st w = some z) : ∃ t, z = .inl t := by
  obtain ⟨v, q, r, fs, rfl, hw, hf, hlt, hz⟩ := pm_put_inv hx
  exact ⟨_, hz⟩
theorem pm_kd_new {i : Nat} {sc : pm_S} {dd pc nx a b c1 d : Nat} {ls st : List Value} {w : pm_W} {z : pm_N} (hx : pm_x sc dd ((.new i), nx, a, b, c1, d) pc ls st w = some z) : ∃ t, z = .inl t := by
  obtain ⟨w1, w2, w3, hz⟩ := pm_new_inv hx
  exact ⟨_, hz⟩
theorem pm_kd_newI  {sc : pm_S} {dd pc nx a b c1 d : Nat} {ls st : List Value} {w : pm_W} {z : pm_N} (hx : pm_x sc dd ((.newarray .int), nx, a, b, c1, d) pc ls st w = some z) : ∃ t, z = .inl t := by
  obtain ⟨n, r, rfl, w1, w2, w3, hn, hn2, hz⟩ := pm_newa_inv hx
  exact ⟨_, hz⟩
theorem pm_kd_newZ  {sc : pm_S} {dd pc nx a b c1 d : Nat} {ls st : List Value} {w : pm_W} {z : pm_N} (hx : pm_x sc dd ((.newarray .boolean), nx, a, b, c1, d) pc ls st w = some z) : ∃ t, z = .inl t := by
  obtain ⟨n, r, rfl, w1, w2, w3, hn, hn2, hz⟩ := pm_newa_inv hx
  exact ⟨_, hz⟩
theorem pm_kd_newJ  {sc : pm_S} {dd pc nx a b c1 d : Nat} {ls st : List Value} {w : pm_W} {z : pm_N} (hx : pm_x sc dd ((.newarray .long), nx, a, b, c1, d) pc ls st w = some z) : ∃ t, z = .inl t := by
  obtain ⟨n, r, rfl, w1, w2, w3, hn, hn2, hz⟩ := pm_newa_inv hx
  exact ⟨_, hz⟩
theorem pm_kd_anewarray {i : Nat} {sc : pm_S} {dd pc nx a b c1 d : Nat} {ls st : List Value} {w : pm_W} {z : pm_N} (hx : pm_x sc dd ((.anewarray i), nx, a, b, c1, d) pc ls st w = some z) : ∃ t, z = .inl t := by
  obtain ⟨n, r, rfl, w1, w2, w3, hn, hn2, hz⟩ := pm_newa_inv hx
  exact ⟨_, hz⟩
theorem pm_kd_static {i : Nat} {sc : pm_S} {dd pc nx a b c1 d : Nat} {ls st : List Value} {w : pm_W} {z : pm_N} (hx : pm_x sc dd (.invokestatic i, nx, a, b, c1, d) pc ls st w = some z) : (∃ t, z = .inl t) ∨ (a ≠ 999 ∧ a ≠ 997 ∧ a ≠ 996 ∧ pm_callS a b d st = some z) := by
  have nn : ∀ {x y : Nat}, Nat.beq x y = false → x ≠ y := fun h e => by rw [e, Nat.beq_refl] at h; cases h
  replace hx : (bif Nat.beq a 999 then (bif Nat.beq dd 0 then none else pm_copy nx ls st w)
      else bif Nat.beq a 997 then pm_ii st (fun x y r => bif Nat.beq dd 0 || Nat.blt 8 (pm_cat r) then none else pm_gi nx ls (if x < y then y else x) r w)
      else bif Nat.beq a 996 then pm_ii st (fun x y r => bif Nat.beq dd 0 || Nat.blt 8 (pm_cat r) then none else pm_gi nx ls (if y < x then y else x) r w)
      else pm_callS a b d st) = some _ := hx
  cases ha : Nat.beq a 999 with
  | true =>
    rw [ha, cond_true] at hx
    have hx_0 := pm_bifn hx
    clear hx
    obtain ⟨hd0, hx⟩ := hx_0
    obtain ⟨n, dp, q, sp, p2, r, rfl, hn, hdp, hsp, hr8, hz⟩ := pm_copy_inv hx
    rcases hz with ⟨xs, ys, hp, hq, g1, g2, hz⟩ | ⟨xs, ys, hp, hq, g1, g2, hz⟩
    · exact Or.inl ⟨_, hz⟩
    · exact Or.inl ⟨_, hz⟩
  | false =>
    rw [ha, cond_false] at hx
    cases ha7 : Nat.beq a 997 with
    | true =>
      rw [ha7, cond_true] at hx
      have hx_0 := pm_ii_inv hx
      clear hx
      obtain ⟨x, y, r, rfl, hx⟩ := hx_0
      have hx_0 := pm_bifn hx
      clear hx
      obtain ⟨hd1, hx⟩ := hx_0
      exact Or.inl ⟨_, pm_gi_inv hx⟩
    | false =>
      rw [ha7, cond_false] at hx
      cases ha6 : Nat.beq a 996 with
      | true =>
        rw [ha6, cond_true] at hx
        have hx_0 := pm_ii_inv hx
        clear hx
        obtain ⟨x, y, r, rfl, hx⟩ := hx_0
        have hx_0 := pm_bifn hx
        clear hx
        obtain ⟨hd1, hx⟩ := hx_0
        exact Or.inl ⟨_, pm_gi_inv hx⟩
      | false =>
        rw [ha6, cond_false] at hx
        exact Or.inr ⟨nn ha, nn ha7, nn ha6, hx⟩
theorem pm_kd_special {i : Nat} {sc : pm_S} {dd pc nx a b c1 d : Nat} {ls st : List Value} {w : pm_W} {z : pm_N} (hx : pm_x sc dd (.invokespecial i, nx, a, b, c1, d) pc ls st w = some z) : (∃ t, z = .inl t) ∨ (a ≠ 998 ∧ pm_callI a b d st = some z) := by
  have nn : ∀ {x y : Nat}, Nat.beq x y = false → x ≠ y := fun h e => by rw [e, Nat.beq_refl] at h; cases h
  replace hx : (bif Nat.beq a 998 then (bif Nat.beq dd 0 then none else pm_obj nx ls st w) else pm_callI a b d st) = some _ := hx
  cases ha : Nat.beq a 998 with
  | false =>
    rw [ha, cond_false] at hx
    exact Or.inr ⟨nn ha, hx⟩
  | true =>
    rw [ha, cond_true] at hx
    have hx_0 := pm_bifn hx
    clear hx
    obtain ⟨hd0, hx⟩ := hx_0
    obtain ⟨q, r, rfl, hr8, hz⟩ := pm_obj_inv hx
    exact Or.inl ⟨_, hz⟩
theorem pm_callV_inv {a b c d : Nat} {st : List Value} {w : pm_W} {z : pm_N} (h : pm_callV a b c d st w = some z) : ∃ (q : Nat) (r vs fs : List Value), st = vs.reverse ++ .ref q :: r ∧ vs.length = b ∧ w[q]? = some (.inr (c, fs)) ∧ pm_cat r ≤ 8 ∧ z = .inr (.inl (a, .ref q :: vs, r, d)) := by
  unfold pm_callV at h
  have h_0 := pm_bifn h
  clear h
  obtain ⟨hb, h⟩ := h_0
  have hl : (st.take b).length = b := by
    have h1 : ¬ (st.take b).length < b := fun g => by
      have g1 : Nat.blt (st.take b).length b = true := Nat.ble_eq_true_of_le g
      rw [g1] at hb; cases hb
    have h2 := List.length_take_le b st
    omega
  split at h
  · rename_i q r hd
    split at h
    · rename_i ci fs hw
      have h_0 := pm_bif h
      clear h
      obtain ⟨hc, h⟩ := h_0
      rw [Bool.and_eq_true] at hc
      have e := Nat.eq_of_beq_eq_true hc.1
      subst e
      cases h
      refine ⟨q, r, (st.take b).reverse, fs, ?_, by rw [List.length_reverse, hl], hw, Nat.le_of_ble_eq_true hc.2, rfl⟩
      rw [List.reverse_reverse, ← hd, List.take_append_drop]
    · cases h
  · cases h
theorem pm_callI_inv {a b d : Nat} {st : List Value} {z : pm_N} (h : pm_callI a b d st = some z) : ∃ (q : Nat) (r vs : List Value), st = vs.reverse ++ .ref q :: r ∧ vs.length = b ∧ pm_cat r ≤ 8 ∧ z = .inr (.inl (a, .ref q :: vs, r, d)) := by
  unfold pm_callI at h
  have h_0 := pm_bifn h
  clear h
  obtain ⟨hb, h⟩ := h_0
  have hl : (st.take b).length = b := by
    have h1 : ¬ (st.take b).length < b := fun g => by
      have g1 : Nat.blt (st.take b).length b = true := Nat.ble_eq_true_of_le g
      rw [g1] at hb; cases hb
    have h2 := List.length_take_le b st
    omega
  split at h
  · rename_i q r hd
    have h_0 := pm_bif h
    clear h
    obtain ⟨hc, h⟩ := h_0
    cases h
    refine ⟨q, r, (st.take b).reverse, ?_, by rw [List.length_reverse, hl], Nat.le_of_ble_eq_true hc, rfl⟩
    rw [List.reverse_reverse, ← hd, List.take_append_drop]
  · cases h
theorem pm_callS_inv {a b d : Nat} {st : List Value} {z : pm_N} (h : pm_callS a b d st = some z) : ∃ (r vs : List Value), st = vs.reverse ++ r ∧ vs.length = b ∧ pm_cat r ≤ 8 ∧ z = .inr (.inl (a, vs, r, d)) := by
  unfold pm_callS at h
  have h_0 := pm_bifn h
  clear h
  obtain ⟨hb, h⟩ := h_0
  have hl : (st.take b).length = b := by
    have h1 : ¬ (st.take b).length < b := fun g => by
      have g1 : Nat.blt (st.take b).length b = true := Nat.ble_eq_true_of_le g
      rw [g1] at hb; cases hb
    have h2 := List.length_take_le b st
    omega
  have h_0 := pm_bif h
  clear h
  obtain ⟨hc, h⟩ := h_0
  cases h
  refine ⟨st.drop b, (st.take b).reverse, ?_, by rw [List.length_reverse, hl], Nat.le_of_ble_eq_true hc, rfl⟩
  rw [List.reverse_reverse, List.take_append_drop]
/-- ALL OUTCOMES -/
theorem pm_x_kind {sc : pm_S} {dd pc : Nat} {en : pm_E} {ls st : List Value} {w : pm_W} {z : pm_N} (hx : pm_x sc dd en pc ls st w = some z) : (∃ t, z = .inl t) ∨
    (∃ x, en.1 = .ireturn ∧ st = [.int x] ∧ (en.2.2.1 = 0 ∨ x = 0 ∨ x = 1) ∧ z = .inr (.inr (some (.int x)))) ∨ (en.1 = .return_ ∧ st = [] ∧ z = .inr (.inr none)) ∨
    (∃ i, en.1 = .invokevirtual i ∧ pm_callV en.2.2.1 en.2.2.2.1 en.2.2.2.2.1 en.2.2.2.2.2 st w = some z) ∨
    (∃ i, en.1 = .invokestatic i ∧ en.2.2.1 ≠ 999 ∧ en.2.2.1 ≠ 997 ∧ en.2.2.1 ≠ 996 ∧ pm_callS en.2.2.1 en.2.2.2.1 en.2.2.2.2.2 st = some z) ∨
    (∃ i, en.1 = .invokespecial i ∧ en.2.2.1 ≠ 998 ∧ pm_callI en.2.2.1 en.2.2.2.1 en.2.2.2.2.2 st = some z) := by
  obtain ⟨ins, nx, a, b, c1, d⟩ := en
  cases ins with
  | iconst n => exact Or.inl (pm_kd_iconst hx)
  | bipush n => exact Or.inl (pm_kd_bipush hx)
  | sipush n => exact Or.inl (pm_kd_sipush hx)
  | lconst n => exact Or.inl (pm_kd_lconst hx)
  | ldc i => exact Or.inl (pm_kd_ldc hx)
  | ldc_w i => exact Or.inl (pm_kd_ldc_w hx)
  | ldc2_w i => exact Or.inl (pm_kd_ldc2_w hx)
  | iload k => exact Or.inl (pm_kd_iload hx)
  | iload_n k => exact Or.inl (pm_kd_iload_n hx)
  | lload k => exact Or.inl (pm_kd_lload hx)
  | lload_n k => exact Or.inl (pm_kd_lload_n hx)
  | aload k => exact Or.inl (pm_kd_aload hx)
  | aload_n k => exact Or.inl (pm_kd_aload_n hx)
  | istore k => exact Or.inl (pm_kd_istore hx)
  | istore_n k => exact Or.inl (pm_kd_istore_n hx)
  | lstore k => exact Or.inl (pm_kd_lstore hx)
  | lstore_n k => exact Or.inl (pm_kd_lstore_n hx)
  | astore_n k => exact Or.inl (pm_kd_astore_n hx)
  | iinc k n => exact Or.inl (pm_kd_iinc hx)
  | dup => exact Or.inl (pm_kd_dup hx)
  | pop => exact Or.inl (pm_kd_pop hx)
  | dup2 => exact Or.inl (pm_kd_dup2 hx)
  | iadd => exact Or.inl (pm_kd_iadd hx)
  | isub => exact Or.inl (pm_kd_isub hx)
  | imul => exact Or.inl (pm_kd_imul hx)
  | iand => exact Or.inl (pm_kd_iand hx)
  | ior => exact Or.inl (pm_kd_ior hx)
  | ixor => exact Or.inl (pm_kd_ixor hx)
  | ishl => exact Or.inl (pm_kd_ishl hx)
  | ishr => exact Or.inl (pm_kd_ishr hx)
  | iushr => exact Or.inl (pm_kd_iushr hx)
  | idiv => exact Or.inl (pm_kd_idiv hx)
  | irem => exact Or.inl (pm_kd_irem hx)
  | ineg => exact Or.inl (pm_kd_ineg hx)
  | i2l => exact Or.inl (pm_kd_i2l hx)
  | l2i => exact Or.inl (pm_kd_l2i hx)
  | land => exact Or.inl (pm_kd_land hx)
  | lor => exact Or.inl (pm_kd_lor hx)
  | lxor => exact Or.inl (pm_kd_lxor hx)
  | lshl => exact Or.inl (pm_kd_lshl hx)
  | lushr => exact Or.inl (pm_kd_lushr hx)
  | lcmp => exact Or.inl (pm_kd_lcmp hx)
  | if_icmp cd off => exact Or.inl (pm_kd_if_icmp hx)
  | ifCond cd off => exact Or.inl (pm_kd_ifCond hx)
  | goto off => exact Or.inl (pm_kd_goto hx)
  | tableswitch df lo hi offs => exact Or.inl (pm_kd_tableswitch hx)
  | lookupswitch df ps => exact Or.inl (pm_kd_lookupswitch hx)
  | baload => exact Or.inl (pm_kd_baload hx)
  | laload => exact Or.inl (pm_kd_laload hx)
  | iaload => exact Or.inl (pm_kd_iaload hx)
  | aaload => exact Or.inl (pm_kd_aaload hx)
  | iastore => exact Or.inl (pm_kd_iastore hx)
  | bastore => exact Or.inl (pm_kd_bastore hx)
  | lastore => exact Or.inl (pm_kd_lastore hx)
  | aastore => exact Or.inl (pm_kd_aastore hx)
  | arraylength => exact Or.inl (pm_kd_arraylength hx)
  | getfield i => exact Or.inl (pm_kd_getfield hx)
  | putfield i => exact Or.inl (pm_kd_putfield hx)
  | new i => exact Or.inl (pm_kd_new hx)
  | anewarray i => exact Or.inl (pm_kd_anewarray hx)
  | newarray at1 =>
    cases at1 with
    | int => exact Or.inl (pm_kd_newI hx)
    | boolean => exact Or.inl (pm_kd_newZ hx)
    | long => exact Or.inl (pm_kd_newJ hx)
    | _ => cases hx
  | invokevirtual i => exact Or.inr (Or.inr (Or.inr (Or.inl ⟨i, rfl, hx⟩)))
  | invokestatic i =>
    rcases pm_kd_static hx with h | h
    · exact Or.inl h
    · exact Or.inr (Or.inr (Or.inr (Or.inr (Or.inl ⟨i, rfl, h⟩))))
  | invokespecial i =>
    rcases pm_kd_special hx with h | h
    · exact Or.inl h
    · exact Or.inr (Or.inr (Or.inr (Or.inr (Or.inr ⟨i, rfl, h⟩))))
  | ireturn =>
    replace hx : (match st with
    | [.int x] => bif Nat.beq a 0 || decide (x = 0) || decide (x = 1) then (some (.inr (.inr (some (.int x)))) : Option pm_N) else none
    | _ => none) = some _ := hx
    split at hx
    · rename_i x
      have hx_0 := pm_bif hx
      clear hx
      obtain ⟨hb, hx⟩ := hx_0
      simp only [Bool.or_eq_true, decide_eq_true_eq] at hb
      cases hx
      refine Or.inr (Or.inl ⟨x, rfl, rfl, ?_, rfl⟩)
      rcases hb with (hb | hb) | hb
      · exact Or.inl (Nat.eq_of_beq_eq_true hb)
      · exact Or.inr (Or.inl hb)
      · exact Or.inr (Or.inr hb)
    · cases hx
  | return_ =>
    replace hx : (match st with
    | [] => (some (.inr (.inr none)) : Option pm_N)
    | _ => none) = some _ := hx
    split at hx
    · cases hx
      exact Or.inr (Or.inr (Or.inl ⟨rfl, rfl, rfl⟩))
    · cases hx
  | _ => cases hx

